theorem selH_ok (nc : Nat) (hn : nc ≤ 12) (co po : Nat → Int) (m : Nat) : ∀ k h e, hOk h m → hOk (selH nc co po k h e) m := by
  intro k
  induction k with
  | zero => intro h e q; exact q
  | succ k ih =>
    intro h e q
    simp only [selH]
    split
    · exact q
    · rename_i hb
      have b1 := bst_b co po h e nc
      have b2 := bst_h co po h e nc (by omega)
      refine ih _ _ ⟨fun i => ?_, ?_⟩
      · have := q.1 i
        simp only [hdec]
        split
        · rename_i e1; subst e1; omega
        · exact this
      · rw [htot_dec]; have := q.2; split <;> omega
theorem pst_ok {nc n : Nat} (hn : nc ≤ 12) (co po : Nat → Int) {cd : Nat → Nat} (hc : ∀ k, k < n → cd k < 12) (h10 : n ≤ 10) : ∀ t, hOk (pst nc co po n cd t).1 (pst nc co po n cd t).2 ∧ (pst nc co po n cd t).2 ≤ 10 := by
  intro t
  induction t with
  | zero => exact ⟨⟨fun _ => Int.le_refl 0, by show htot (fun _ => 0) 12 ≤ ((0 : Nat) : Int); decide⟩, by show (0 : Nat) ≤ 10; decide⟩
  | succ t ih =>
    simp only [pst]
    have q := drw_ok hc (ndr t) (pst nc co po n cd t).1 (pst nc co po n cd t).2 ih.1
    exact ⟨selH_ok nc hn co po _ _ _ _ q.1, by have := ih.2; show (drw n cd (ndr t) ((pst nc co po n cd t).1, (pst nc co po n cd t).2)).2 ≤ 10; omega⟩
theorem put1_b {so po : Nat → Int} {c : Nat} (x : Int × Int × Int × Int) (h0 : 0 ≤ po c) (h9 : po c ≤ 9) : (put1 so po c x).1 ≤ x.1 ∧ x.1 - 9 ≤ (put1 so po c x).1 ∧ x.2.1 ≤ (put1 so po c x).2.1 ∧ (put1 so po c x).2.1 ≤ x.2.1 + 9 ∧ x.2.2.1 ≤ (put1 so po c x).2.2.1 ∧ (put1 so po c x).2.2.1 ≤ x.2.2.1 + 9 ∧ (put1 so po c x).2.2.2 = x.2.2.2 + 1 := by
  simp only [put1]
  split
  · simp; omega
  · split
    · simp; omega
    · simp; omega
theorem putL_b {so po : Nat → Int} : ∀ (l : List Nat) (x : Int × Int × Int × Int), (∀ c ∈ l, 0 ≤ po c ∧ po c ≤ 9) → (putL so po l x).1 ≤ x.1 ∧ (x.1 ≤ (putL so po l x).1 ∨ -9 ≤ (putL so po l x).1) ∧ x.2.1 ≤ (putL so po l x).2.1 ∧ (putL so po l x).2.1 ≤ x.2.1 + 9 * l.length ∧ x.2.2.1 ≤ (putL so po l x).2.2.1 ∧ (putL so po l x).2.2.1 ≤ x.2.2.1 + 9 * l.length ∧ x.2.2.2 ≤ (putL so po l x).2.2.2 ∧ (putL so po l x).2.2.2 ≤ x.2.2.2 + l.length := by
  intro l
  induction l with
  | nil => intro x _; simp [putL]
  | cons c l ih =>
    intro x hl
    simp only [putL, List.length_cons]
    split
    · omega
    · have h1 := hl c (List.mem_cons_self)
      have b := put1_b (so := so) x h1.1 h1.2
      have := ih (put1 so po c x) (fun d hd => hl d (List.mem_cons_of_mem _ hd))
      omega
/-- the bounds of a GAME's state behind t TURNS -/
def gBd (t : Nat) (g : GS) : Prop := (-20000 ≤ g.1 ∧ g.1 ≤ 40) ∧ (-20000 ≤ g.2.1 ∧ g.2.1 ≤ 40) ∧ gIn t g.2.2.1.1 g.2.2.1.2.1 g.2.2.1.2.2 ∧ gIn t g.2.2.2.1 g.2.2.2.2.1 g.2.2.2.2.2
theorem mv_b {so po : Nat → Int} {l : List Nat} {lo f w p wo : Int} {t : Nat} (ht : t ≤ 12) (hl : ∀ c ∈ l, 0 ≤ po c ∧ po c ≤ 9) (hn : l.length ≤ 10) (h1 : 0 < lo) (h2 : lo ≤ 40) (hg : gIn t f w p) (hw : 0 ≤ wo) : (-20000 ≤ (mv so po l lo f w p wo).1 ∧ (mv so po l lo f w p wo).1 ≤ 40) ∧ gIn (t + 1) (mv so po l lo f w p wo).2.1 (mv so po l lo f w p wo).2.2.1 (mv so po l lo f w p wo).2.2.2 := by
  unfold mv
  have b := putL_b (so := so) l (hit lo f wo, f, w, p) hl
  have hh : -2000 ≤ hit lo f wo ∧ hit lo f wo ≤ 40 := by
    unfold hit; unfold gIn at hg; split <;> omega
  unfold gIn at hg ⊢
  simp only at b
  omega
theorem gIn.up {t : Nat} {f w p : Int} (h : gIn t f w p) : gIn (t + 1) f w p := by unfold gIn at *; omega
abbrev mPs (MI : ZM) (a t : Nat) : (Nat → Int) × Nat := pst (MI 90 0).toNat (MI 92) (MI 93) (MI 94 a).toNat (fun k => (MI 95 (10 * a + k)).toNat) t
abbrev mPl (MI : ZM) (a t : Nat) : List Nat := plL (MI 90 0).toNat (MI 92) (MI 93) (MI 94 a).toNat (fun k => (MI 95 (10 * a + k)).toNat) t
abbrev mGame (MI : ZM) (a b : Nat) : Nat × GS := gGame (MI 91) (MI 93) (mPl MI a) (mPl MI b) (MI 90 7)
theorem mPl_b {MI : ZM} (hM : mOk MI) (a t : Nat) : (∀ c ∈ mPl MI a t, 0 ≤ MI 93 c ∧ MI 93 c ≤ 9) ∧ (mPl MI a t).length ≤ 10 := by
  refine ⟨fun c hc => ?_, selL_len _ _ _ _ _ _⟩
  have h1 := selL_mem _ _ _ _ _ _ c hc
  have u0 := hM.1
  exact (hM.2.2.2.1 c (by omega)).2.2
theorem mPs_ok {MI : ZM} (hM : mOk MI) {a : Nat} (ha : a < 5) (t : Nat) : hOk (mPs MI a t).1 (mPs MI a t).2 ∧ (mPs MI a t).2 ≤ 10 := by
  have u0 := hM.1
  have us := hM.2.2.2.2.1 a ha
  exact pst_ok (by omega) _ _ (fun k hk => by have := hM.2.2.2.2.2 a k ha (by omega); omega) (by omega) t
/-- what a GAME of the reference may change -/
def scM (MI M : ZM) : Prop := ∀ a b, (a < 96 ∨ 102 < a) → ¬ (a = 90 ∧ b = 15) → M a b = MI a b
theorem scM.ok {MI M : ZM} (h : scM MI M) (hM : mOk MI) : mOk M := mOk_of (fun a b h1 h2 h3 => h a b (by omega) h3) hM
theorem scM.row {MI M : ZM} (h : scM MI M) {a : Nat} (ha : a < 96 ∨ 102 < a) (h9 : a ≠ 90) : M a = MI a := funext fun b => h a b ha (by omega)
theorem scM.up {MI M : ZM} (h : scM MI M) {k j : Nat} {v : Int} (hk : (96 ≤ k ∧ k ≤ 102) ∨ (k = 90 ∧ j = 15)) : scM MI (z_up M k j v) := fun a b h1 h2 => by
  simp only [z_up]
  rw [if_neg (by omega)]
  exact h a b h1 h2
theorem scM.mv {MI M M' : ZM} {s : Nat} (hs : s < 2) (h : scM MI M) (h2 : mvF M M' s) : scM MI M' := fun a b q1 q2 => (h2 a b (by omega)).trans (h a b q1 q2)
def gmI (MI M : ZM) (a b k j : Nat) : Prop := scM MI M ∧ M 96 0 = a ∧ M 96 1 = b ∧ (∀ c, c < k → M 102 c = 0) ∧ ∀ s, s < j → M 97 s = MI 90 7 ∧ M 98 s = 0 ∧ M 99 s = 0 ∧ M 100 s = 0 ∧ M 101 s = 0
def gmS (MI M : ZM) (a b t : Nat) (g : GS) : Prop := scM MI M ∧ M 96 0 = a ∧ M 96 1 = b ∧ M 90 15 = t ∧ M 97 0 = g.1 ∧ M 97 1 = g.2.1 ∧ M 99 0 = g.2.2.1.1 ∧ M 100 0 = g.2.2.1.2.1 ∧ M 101 0 = g.2.2.1.2.2 ∧ M 99 1 = g.2.2.2.1 ∧ M 100 1 = g.2.2.2.2.1 ∧ M 101 1 = g.2.2.2.2.2
def gmH (MI M : ZM) (s a t : Nat) : Prop := (∀ c, c < 12 → M 102 (12 * s + c) = (mPs MI a t).1 c) ∧ M 98 s = (mPs MI a t).2
theorem gmH.keep {MI M M' : ZM} {s s2 a t : Nat} (h : gmH MI M s a t) (hs : s < 2) (hs2 : s2 < 2) (hne : s ≠ s2) (h2 : mvF M M' s2) : gmH MI M' s a t := ⟨fun c hc => by rw [h2 _ _ (by omega)]; exact h.1 c hc, by rw [h2 _ _ (by omega)]; exact h.2⟩
theorem gm_mv0 {MI M M' : ZM} {a b t : Nat} {g : GS} {h1 : Nat → Int} (G : gmS MI M a b (t + 1) g)
    (S : mvS M M' 0 h1 (drw (M 94 a).toNat (fun k => (M 95 (10 * a + k)).toNat) (ndr t) ((mPs MI a t).1, (mPs MI a t).2)).2 (mv (M 91) (M 93) (selL (M 90 0).toNat (M 92) (M 93) 10 (drw (M 94 a).toNat (fun k => (M 95 (10 * a + k)).toNat) (ndr t) ((mPs MI a t).1, (mPs MI a t).2)).1 (eng (t + 1))) (M 97 1) (M 99 0) (M 100 0) (M 101 0) (M 100 1)).1 (mv (M 91) (M 93) (selL (M 90 0).toNat (M 92) (M 93) 10 (drw (M 94 a).toNat (fun k => (M 95 (10 * a + k)).toNat) (ndr t) ((mPs MI a t).1, (mPs MI a t).2)).1 (eng (t + 1))) (M 97 1) (M 99 0) (M 100 0) (M 101 0) (M 100 1)).2.1 (mv (M 91) (M 93) (selL (M 90 0).toNat (M 92) (M 93) 10 (drw (M 94 a).toNat (fun k => (M 95 (10 * a + k)).toNat) (ndr t) ((mPs MI a t).1, (mPs MI a t).2)).1 (eng (t + 1))) (M 97 1) (M 99 0) (M 100 0) (M 101 0) (M 100 1)).2.2.1 (mv (M 91) (M 93) (selL (M 90 0).toNat (M 92) (M 93) 10 (drw (M 94 a).toNat (fun k => (M 95 (10 * a + k)).toNat) (ndr t) ((mPs MI a t).1, (mPs MI a t).2)).1 (eng (t + 1))) (M 97 1) (M 99 0) (M 100 0) (M 101 0) (M 100 1)).2.2.2)
    (Hh : 0 < (mv (M 91) (M 93) (selL (M 90 0).toNat (M 92) (M 93) 10 (drw (M 94 a).toNat (fun k => (M 95 (10 * a + k)).toNat) (ndr t) ((mPs MI a t).1, (mPs MI a t).2)).1 (eng (t + 1))) (M 97 1) (M 99 0) (M 100 0) (M 101 0) (M 100 1)).1 → ∀ i, i < 12 → h1 i = selH (M 90 0).toNat (M 92) (M 93) 10 (drw (M 94 a).toNat (fun k => (M 95 (10 * a + k)).toNat) (ndr t) ((mPs MI a t).1, (mPs MI a t).2)).1 (eng (t + 1)) i) :
    gmS MI M' a b (t + 1) (gA (MI 91) (MI 93) (mPl MI a t) g) ∧ (0 < (gA (MI 91) (MI 93) (mPl MI a t) g).2.1 → gmH MI M' 0 a (t + 1)) := by
  obtain ⟨c0, c1, c2, c3, c4, c5, c6, c7, c8, c9, c10, c11⟩ := G
  have r91 := c0.row (a := 91) (by omega) (by decide)
  have r92 := c0.row (a := 92) (by omega) (by decide)
  have r93 := c0.row (a := 93) (by omega) (by decide)
  have r94 := c0.row (a := 94) (by omega) (by decide)
  have r95 := c0.row (a := 95) (by omega) (by decide)
  have r90 := c0 90 0 (by omega) (by decide)
  rw [r91, r92, r93, r94, r95, r90, c5, c6, c7, c8, c10] at S Hh
  obtain ⟨s1, s2, s3, s4, s5, s6, s7⟩ := S
  refine ⟨⟨c0.mv (by decide) s1, ?_, ?_, ?_, ?_, s4, s5, s6, s7, ?_, ?_, ?_⟩, fun hl => ⟨fun c hc => ?_, s3⟩⟩
  · rw [s1 _ _ (by omega)]; exact c1
  · rw [s1 _ _ (by omega)]; exact c2
  · rw [s1 _ _ (by omega)]; exact c3
  · rw [s1 _ _ (by omega)]; exact c4
  · rw [s1 _ _ (by omega)]; exact c9
  · rw [s1 _ _ (by omega)]; exact c10
  · rw [s1 _ _ (by omega)]; exact c11
  · rw [s2 c hc]; exact Hh hl c hc
theorem gm_mv1 {MI M M' : ZM} {a b t : Nat} {g : GS} {h1 : Nat → Int} (G : gmS MI M a b (t + 1) g)
    (S : mvS M M' 1 h1 (drw (M 94 b).toNat (fun k => (M 95 (10 * b + k)).toNat) (ndr t) ((mPs MI b t).1, (mPs MI b t).2)).2 (mv (M 91) (M 93) (selL (M 90 0).toNat (M 92) (M 93) 10 (drw (M 94 b).toNat (fun k => (M 95 (10 * b + k)).toNat) (ndr t) ((mPs MI b t).1, (mPs MI b t).2)).1 (eng (t + 1))) (M 97 0) (M 99 1) (M 100 1) (M 101 1) (M 100 0)).1 (mv (M 91) (M 93) (selL (M 90 0).toNat (M 92) (M 93) 10 (drw (M 94 b).toNat (fun k => (M 95 (10 * b + k)).toNat) (ndr t) ((mPs MI b t).1, (mPs MI b t).2)).1 (eng (t + 1))) (M 97 0) (M 99 1) (M 100 1) (M 101 1) (M 100 0)).2.1 (mv (M 91) (M 93) (selL (M 90 0).toNat (M 92) (M 93) 10 (drw (M 94 b).toNat (fun k => (M 95 (10 * b + k)).toNat) (ndr t) ((mPs MI b t).1, (mPs MI b t).2)).1 (eng (t + 1))) (M 97 0) (M 99 1) (M 100 1) (M 101 1) (M 100 0)).2.2.1 (mv (M 91) (M 93) (selL (M 90 0).toNat (M 92) (M 93) 10 (drw (M 94 b).toNat (fun k => (M 95 (10 * b + k)).toNat) (ndr t) ((mPs MI b t).1, (mPs MI b t).2)).1 (eng (t + 1))) (M 97 0) (M 99 1) (M 100 1) (M 101 1) (M 100 0)).2.2.2)
    (Hh : 0 < (mv (M 91) (M 93) (selL (M 90 0).toNat (M 92) (M 93) 10 (drw (M 94 b).toNat (fun k => (M 95 (10 * b + k)).toNat) (ndr t) ((mPs MI b t).1, (mPs MI b t).2)).1 (eng (t + 1))) (M 97 0) (M 99 1) (M 100 1) (M 101 1) (M 100 0)).1 → ∀ i, i < 12 → h1 i = selH (M 90 0).toNat (M 92) (M 93) 10 (drw (M 94 b).toNat (fun k => (M 95 (10 * b + k)).toNat) (ndr t) ((mPs MI b t).1, (mPs MI b t).2)).1 (eng (t + 1)) i) :
    gmS MI M' a b (t + 1) (gB (MI 91) (MI 93) (mPl MI b t) g) ∧ (0 < (gB (MI 91) (MI 93) (mPl MI b t) g).1 → gmH MI M' 1 b (t + 1)) := by
  obtain ⟨c0, c1, c2, c3, c4, c5, c6, c7, c8, c9, c10, c11⟩ := G
  have r91 := c0.row (a := 91) (by omega) (by decide)
  have r92 := c0.row (a := 92) (by omega) (by decide)
  have r93 := c0.row (a := 93) (by omega) (by decide)
  have r94 := c0.row (a := 94) (by omega) (by decide)
  have r95 := c0.row (a := 95) (by omega) (by decide)
  have r90 := c0 90 0 (by omega) (by decide)
  rw [r91, r92, r93, r94, r95, r90, c4, c9, c10, c11, c7] at S Hh
  obtain ⟨s1, s2, s3, s4, s5, s6, s7⟩ := S
  refine ⟨⟨c0.mv (by decide) s1, ?_, ?_, ?_, s4, ?_, ?_, ?_, ?_, s5, s6, s7⟩, fun hl => ⟨fun c hc => ?_, s3⟩⟩
  · rw [s1 _ _ (by omega)]; exact c1
  · rw [s1 _ _ (by omega)]; exact c2
  · rw [s1 _ _ (by omega)]; exact c3
  · rw [s1 _ _ (by omega)]; exact c5
  · rw [s1 _ _ (by omega)]; exact c6
  · rw [s1 _ _ (by omega)]; exact c7
  · rw [s1 _ _ (by omega)]; exact c8
  · rw [s2 c hc]; exact Hh hl c hc
theorem gm_turn {MI M : ZM} {a b t : Nat} {g : GS} (G : gmS MI M a b t g) : gmS MI (z_up M 90 15 ((t : Int) + 1)) a b (t + 1) g := by
  obtain ⟨c0, c1, c2, c3, c4, c5, c6, c7, c8, c9, c10, c11⟩ := G
  refine ⟨c0.up (Or.inr ⟨rfl, rfl⟩), ?_, ?_, ?_, ?_, ?_, ?_, ?_, ?_, ?_, ?_, ?_⟩
  · rw [z_up_k (by decide)]; exact c1
  · rw [z_up_k (by decide)]; exact c2
  · rw [z_up_s]; simp
  · rw [z_up_k (by decide)]; exact c4
  · rw [z_up_k (by decide)]; exact c5
  · rw [z_up_k (by decide)]; exact c6
  · rw [z_up_k (by decide)]; exact c7
  · rw [z_up_k (by decide)]; exact c8
  · rw [z_up_k (by decide)]; exact c9
  · rw [z_up_k (by decide)]; exact c10
  · rw [z_up_k (by decide)]; exact c11
set_option maxRecDepth 100000 in
set_option maxHeartbeats 4000000 in
theorem l_X9_game {X : VX} {Q : Nat → Nat} {MI ML : ZM} (K : VK X cX9_game RX9 4 none 2 50 0 0) (hM : mOk MI) (a b : Nat) (ha : a < 5) (hb : b < 5) (R : Nat × GS) (E : VE X 0 0 110 Q (zq Q (zV fun M L => L = ML ∧ gmS MI M a b R.1 R.2))) (y : Int) : ∀ (n t : Nat) (M : ZM) (g : GS), t + n = 12 → gmS MI M a b t g → gBd t g → (0 < g.1 → 0 < g.2.1 → gmH MI M 0 a t ∧ gmH MI M 1 b t) → gRun (MI 91) (MI 93) (mPl MI a) (mPl MI b) n t g = R → V X (0, 0) 110 Q z_rf M ML 91 [(3, .int (iI y)), (0, .ref (Q 90)), (1, .int (iI (a : Int))), (2, .int (iI (b : Int)))] [] := by
  intro n
  induction n with
  | zero =>
    intro t M g htn G hB hH hR
    simp only [gRun] at hR
    subst hR
    obtain ⟨g0, g1, g2, g3, g4, g5, g6, g7, g8, g9, g10, g11⟩ := id G
    obtain ⟨hB1, hB2, hB3, hB4⟩ := id hB
    refine v_aload_n K 1 dX9_game_91 rfl rfl ?_
    refine v_cVi K (c_X9_isOver (by rw [g4]; exact ⟨by omega, by omega⟩) (by rw [g5]; exact ⟨by omega, by omega⟩)) rfl fc_X9_104 wm_X9_isOver ws_X9_isOver (by decide) 9 rfl (by decide) rfl rfl (by decide) (Nat.le_of_ble_eq_true rfl) dX9_game_92 (fun r92 M92 L92 h92 => ?_)
    obtain ⟨hm92, hl92, hr92⟩ := h92
    subst M92 L92
    refine v_if_ne K 137 ⟨by omega, by omega⟩ dX9_game_95 (by decide) (fun h95 => ?_) (fun h95 => ?_)
    · exact v_rv K E dX9_game_137 ⟨rfl, G⟩
    · refine v_aload_n K 1 dX9_game_98 rfl rfl ?_
      refine v_geti K ff_X9_97 (by decide) rfl rfl dX9_game_99 ?_
      refine v_eqi ((t : Int)) (g3) ?_
      refine v_bipush K dX9_game_102 (by decide) ?_
      refine v_icmp_ge K 137 ⟨by omega, by omega⟩ ⟨by omega, by omega⟩ dX9_game_104 (by decide) (fun h104 => ?_) (fun h104 => ?_)
      · exact v_rv K E dX9_game_137 ⟨rfl, G⟩
      · exact absurd h104 (by omega)
  | succ n ih =>
    intro t M g htn G hB hH hR
    obtain ⟨g0, g1, g2, g3, g4, g5, g6, g7, g8, g9, g10, g11⟩ := id G
    obtain ⟨hB1, hB2, hB3, hB4⟩ := id hB
    refine v_aload_n K 1 dX9_game_91 rfl rfl ?_
    refine v_cVi K (c_X9_isOver (by rw [g4]; exact ⟨by omega, by omega⟩) (by rw [g5]; exact ⟨by omega, by omega⟩)) rfl fc_X9_104 wm_X9_isOver ws_X9_isOver (by decide) 9 rfl (by decide) rfl rfl (by decide) (Nat.le_of_ble_eq_true rfl) dX9_game_92 (fun r92 M92 L92 h92 => ?_)
    obtain ⟨hm92, hl92, hr92⟩ := h92
    subst M92 L92
    refine v_if_ne K 137 ⟨by omega, by omega⟩ dX9_game_95 (by decide) (fun h95 => ?_) (fun h95 => ?_)
    · simp only [gRun] at hR
      rw [if_pos (by omega)] at hR
      subst hR
      exact v_rv K E dX9_game_137 ⟨rfl, G⟩
    · have q1 : 0 < g.1 := by omega
      have q2 : 0 < g.2.1 := by omega
      obtain ⟨H0, H1⟩ := hH q1 q2
      refine v_aload_n K 1 dX9_game_98 rfl rfl ?_
      refine v_geti K ff_X9_97 (by decide) rfl rfl dX9_game_99 ?_
      refine v_eqi ((t : Int)) (g3) ?_
      refine v_bipush K dX9_game_102 (by decide) ?_
      refine v_icmp_ge K 137 ⟨by omega, by omega⟩ ⟨by omega, by omega⟩ dX9_game_104 (by decide) (fun h104 => ?_) (fun h104 => ?_)
      · exact absurd h104 (by omega)
      · simp only [gRun] at hR
        rw [if_neg (by omega)] at hR
        refine v_aload_n K 1 dX9_game_107 rfl rfl ?_
        refine v_dup K dX9_game_108 rfl ?_
        refine v_geti K ff_X9_97 (by decide) rfl rfl dX9_game_109 ?_
        refine v_eqi ((t : Int)) (g3) ?_
        refine v_iconst K dX9_game_112 ?_
        refine v_iadd K dX9_game_113 ?_
        refine v_puti K fp_X9_97 (by decide) rfl rfl dX9_game_114 ?_
        have G1 := gm_turn G
        have k0 := mPs_ok hM ha t
        have k1 := mPs_ok hM hb t
        unfold gIn at hB3 hB4
        have H01 : gmH MI (z_up M 90 15 (↑t + 1)) 0 a t := ⟨fun c hc => by rw [z_up_k (by decide)]; exact H0.1 c hc, by rw [z_up_k (by decide)]; exact H0.2⟩
        have H11 : gmH MI (z_up M 90 15 (↑t + 1)) 1 b t := ⟨fun c hc => by rw [z_up_k (by decide)]; exact H1.1 c hc, by rw [z_up_k (by decide)]; exact H1.2⟩
        obtain ⟨M1, hM1⟩ : ∃ M1, M1 = z_up M 90 15 (↑t + 1) := ⟨_, rfl⟩
        rw [← hM1] at G1 H01 H11 ⊢
        obtain ⟨e0, e1, e2, e3, e4, e5, e6, e7, e8, e9, e10, e11⟩ := id G1
        refine v_aload_n K 1 dX9_game_117 rfl rfl ?_
        refine v_iconst K dX9_game_118 ?_
        refine v_cVv K (c_X9_move (e0.ok hM) 0 (by decide) _ rfl a ha e1 t (by rw [e3]; simp) (by omega) (mPs MI a t).1 (mPs MI a t).2 H01.1 H01.2 k0.2 k0.1 (by rw [e4]; exact q1) (by rw [e4]; omega) (by show 0 < M1 97 1; rw [e5]; exact q2) (by show M1 97 1 ≤ 40; rw [e5]; omega) (by rw [e6]; omega) (by rw [e6]; omega) (by show 0 ≤ M1 100 1; rw [e10]; omega) (by show M1 100 1 ≤ 10000; rw [e10]; omega)) rfl fc_X9_111 wm_X9_move ws_X9_move (by decide) 9 rfl (by decide) rfl rfl (by decide) (Nat.le_of_ble_eq_true rfl) dX9_game_119 (fun M119 L119 h119 => ?_)
        obtain ⟨hl119, h1, S, Hh⟩ := h119
        subst L119
        have G2 := gm_mv0 G1 S Hh
        have H12 := H11.keep (by decide) (by decide) (by decide) S.1
        have w := mPl_b hM a t
        have B1 := mv_b (so := MI 91) (po := MI 93) (l := mPl MI a t) (t := t) (by omega) w.1 w.2 q2 (by omega) hB.2.2.1 hB4.2.2.1
        obtain ⟨a0, a1, a2, a3, a4, a5, a6, a7, a8, a9, a10, a11⟩ := id G2.1
        refine v_aload_n K 1 dX9_game_122 rfl rfl ?_
        refine v_cVi K (c_X9_isOver (by rw [a4]; show rg g.1; exact ⟨by omega, by omega⟩) (by rw [a5]; exact ⟨by have := B1.1.1; show _ ≤ (mv _ _ _ _ _ _ _ _).1; omega, by have := B1.1.2; show (mv _ _ _ _ _ _ _ _).1 < _; omega⟩)) rfl fc_X9_104 wm_X9_isOver ws_X9_isOver (by decide) 9 rfl (by decide) rfl rfl (by decide) (Nat.le_of_ble_eq_true rfl) dX9_game_123 (fun r123 M123 L123 h123 => ?_)
        obtain ⟨hm123, hl123, hr123⟩ := h123
        subst M123 L123
        refine v_if_ne K 91 ⟨by omega, by omega⟩ dX9_game_126 (by decide) (fun h126 => ?_) (fun h126 => ?_)
        · rw [a4, a5] at hr123
          have q3 : (gA (MI 91) (MI 93) (mPl MI a t) g).2.1 ≤ 0 := by rcases hr123 with ⟨_, q | q⟩ | ⟨q, _⟩; exact absurd (show g.1 ≤ 0 from q) (by omega); exact q; exact absurd q h126
          have eT : gTurn (MI 91) (MI 93) (mPl MI a t) (mPl MI b t) g = gA (MI 91) (MI 93) (mPl MI a t) g := by unfold gTurn; rw [if_pos q3]
          rw [eT] at hR
          exact ih (t + 1) _ _ (by omega) G2.1 ⟨⟨by show _ ≤ g.1; omega, by show g.1 ≤ _; omega⟩, B1.1, B1.2, hB.2.2.2.up⟩ (fun _ q => absurd q (by omega)) hR
        · rw [a4, a5] at hr123
          have q3 : 0 < (gA (MI 91) (MI 93) (mPl MI a t) g).2.1 := by omega
          have k2 := mPs_ok hM hb t
          have w2 := mPl_b hM b t
          have B0 : gIn t g.2.2.2.1 g.2.2.2.2.1 g.2.2.2.2.2 := hB.2.2.2
          have B2 := mv_b (so := MI 91) (po := MI 93) (l := mPl MI b t) (t := t) (wo := (gA (MI 91) (MI 93) (mPl MI a t) g).2.2.1.2.1) (by omega) w2.1 w2.2 q1 (by omega) hB.2.2.2 (B1.2.2.2.1)
          refine v_aload_n K 1 dX9_game_129 rfl rfl ?_
          refine v_iconst K dX9_game_130 ?_
          refine v_cVv K (c_X9_move (a0.ok hM) 1 (by decide) _ rfl b hb a2 t (by rw [a3]; simp) (by omega) (mPs MI b t).1 (mPs MI b t).2 H12.1 H12.2 k2.2 k2.1 (by rw [a5]; exact q3) (by rw [a5]; exact B1.1.2) (by show 0 < M119 97 0; rw [a4]; exact q1) (by show M119 97 0 ≤ 40; rw [a4]; show g.1 ≤ 40; omega) (by rw [a9]; exact B0.1) (by rw [a9]; have := B0.2.1; show g.2.2.2.1 ≤ 10000; omega) (by show 0 ≤ M119 100 0; rw [a7]; exact B1.2.2.2.1) (by show M119 100 0 ≤ 10000; rw [a7]; have := B1.2.2.2.2.1; show (mv _ _ _ _ _ _ _ _).2.2.1 ≤ 10000; omega)) rfl fc_X9_111 wm_X9_move ws_X9_move (by decide) 9 rfl (by decide) rfl rfl (by decide) (Nat.le_of_ble_eq_true rfl) dX9_game_131 (fun M131 L131 h131 => ?_)
          obtain ⟨hl131, h2, S2, Hh2⟩ := h131
          subst L131
          have G3 := gm_mv1 G2.1 S2 Hh2
          refine v_goto K 91 dX9_game_134 (by decide) ?_
          have eT : gTurn (MI 91) (MI 93) (mPl MI a t) (mPl MI b t) g = gB (MI 91) (MI 93) (mPl MI b t) (gA (MI 91) (MI 93) (mPl MI a t) g) := by unfold gTurn; rw [if_neg (by omega)]
          rw [eT] at hR
          exact ih (t + 1) _ _ (by omega) G3.1 ⟨B2.1, B1.1, B1.2, B2.2⟩ (fun q _ => ⟨(G2.2 q3).keep (by decide) (by decide) (by decide) S2.1, G3.2 q⟩) hR

theorem gmI_hand {MI M : ZM} {a b k : Nat} (h : gmI MI M a b k 0) : gmI MI (z_up M 102 k 0) a b (k + 1) 0 := by
  obtain ⟨h0, h1, h2, h3, -⟩ := h
  refine ⟨h0.up (Or.inl (by omega)), ?_, ?_, fun c hc => ?_, fun s hs => absurd hs (by omega)⟩
  · rw [z_up_k (by decide)]; exact h1
  · rw [z_up_k (by decide)]; exact h2
  · by_cases e : c = k
    · subst e; rw [z_up_s]
    · rw [z_up_j e]; exact h3 c (by omega)
theorem gmI_side {MI M : ZM} {a b k : Nat} {v : Int} (hv : v = MI 90 7) (h : gmI MI M a b 24 k) : gmI MI (z_up (z_up (z_up (z_up (z_up M 97 k v) 98 k 0) 99 k 0) 100 k 0) 101 k 0) a b 24 (k + 1) := by
  obtain ⟨h0, h1, h2, h3, h4⟩ := h
  refine ⟨((((h0.up (Or.inl (by omega))).up (Or.inl (by omega))).up (Or.inl (by omega))).up (Or.inl (by omega))).up (Or.inl (by omega)), ?_, ?_, fun c hc => ?_, fun s hs => ?_⟩
  · simp [z_up, h1]
  · simp [z_up, h2]
  · simp [z_up, h3 c hc]
  · by_cases e : s = k
    · subst e; simp [z_up, hv]
    · have := h4 s (by omega)
      simp [z_up, e, this]
theorem gmI_go {MI M : ZM} {a b : Nat} (h : gmI MI M a b 24 2) : gmS MI (z_up M 90 15 0) a b 0 (g0 (MI 90 7)) ∧ gmH MI (z_up M 90 15 0) 0 a 0 ∧ gmH MI (z_up M 90 15 0) 1 b 0 := by
  obtain ⟨h0, h1, h2, h3, h4⟩ := h
  have a0 := h4 0 (by decide)
  have a1 := h4 1 (by decide)
  refine ⟨⟨h0.up (Or.inr ⟨rfl, rfl⟩), ?_, ?_, ?_, ?_, ?_, ?_, ?_, ?_, ?_, ?_, ?_⟩, ⟨fun c hc => ?_, ?_⟩, ⟨fun c hc => ?_, ?_⟩⟩
  · rw [z_up_k (by decide)]; exact h1
  · rw [z_up_k (by decide)]; exact h2
  · rw [z_up_s]; rfl
  · rw [z_up_k (by decide)]; exact a0.1
  · rw [z_up_k (by decide)]; exact a1.1
  · rw [z_up_k (by decide)]; exact a0.2.2.1
  · rw [z_up_k (by decide)]; exact a0.2.2.2.1
  · rw [z_up_k (by decide)]; exact a0.2.2.2.2
  · rw [z_up_k (by decide)]; exact a1.2.2.1
  · rw [z_up_k (by decide)]; exact a1.2.2.2.1
  · rw [z_up_k (by decide)]; exact a1.2.2.2.2
  · rw [z_up_k (by decide)]; exact h3 _ (by omega)
  · rw [z_up_k (by decide)]; exact a0.2.1
  · rw [z_up_k (by decide)]; exact h3 _ (by omega)
  · rw [z_up_k (by decide)]; exact a1.2.1
set_option maxRecDepth 100000 in
set_option maxHeartbeats 4000000 in
theorem l_X9_game_hand {X : VX} {Q : Nat → Nat} {MI ML : ZM} (K : VK X cX9_game RX9 4 none 2 50 0 0) (a b : Nat) (kk : ∀ (M : ZM) (y : Int), gmI MI M a b 24 0 → V X (0, 0) 110 Q z_rf M ML 35 [(3, .int (iI y)), (0, .ref (Q 90)), (1, .int (iI (a : Int))), (2, .int (iI (b : Int)))] []) : ∀ (n k : Nat) (M : ZM) (y : Int), y = k → gmI MI M a b k 0 → k ≤ 24 → 24 < k + n → V X (0, 0) 110 Q z_rf M ML 16 [(3, .int (iI y)), (0, .ref (Q 90)), (1, .int (iI (a : Int))), (2, .int (iI (b : Int)))] [] := by
  intro n
  induction n with
  | zero => intro k M y hy G hk hn; exact absurd hn (by omega)
  | succ n ih =>
    intro k M y hy G hk hn
    refine v_iload_n K 0 dX9_game_16 rfl rfl ?_
    refine v_bipush K dX9_game_17 (by decide) ?_
    refine v_icmp_ge K 35 ⟨by omega, by omega⟩ ⟨by omega, by omega⟩ dX9_game_19 (by decide) (fun h19 => ?_) (fun h19 => ?_)
    · obtain rfl : k = 24 := by omega
      exact kk M y G
    · refine v_aload_n K 1 dX9_game_22 rfl rfl ?_
      refine v_getr K ff_X9_47 (by decide) rfl rfl rfl dX9_game_23 ?_
      refine v_iload_n K 0 dX9_game_26 rfl rfl ?_
      refine v_iconst K dX9_game_27 ?_
      refine v_iast K (k) (by decide) rfl (by omega) (by show _ < 24; omega) dX9_game_28 ?_
      refine v_iinc K 0 (fun q9 => [(3, .int (iI q9)), (0, .ref (Q 90)), (1, .int (iI (a : Int))), (2, .int (iI (b : Int)))]) dX9_game_29 rfl (by decide) (fun _ => rfl) (fun w hw => ?_)
      refine v_goto K 16 dX9_game_32 (by decide) ?_
      exact ih (k + 1) _ w (by omega) (gmI_hand G) (by omega) (by omega)
set_option maxRecDepth 100000 in
set_option maxHeartbeats 4000000 in
theorem l_X9_game_side {X : VX} {Q : Nat → Nat} {MI ML : ZM} (K : VK X cX9_game RX9 4 none 2 50 0 0) (a b : Nat) (kk : ∀ (M : ZM) (y : Int), gmI MI M a b 24 2 → V X (0, 0) 110 Q z_rf M ML 86 [(3, .int (iI y)), (0, .ref (Q 90)), (1, .int (iI (a : Int))), (2, .int (iI (b : Int)))] []) : ∀ (n k : Nat) (M : ZM) (y : Int), y = k → gmI MI M a b 24 k → k ≤ 2 → 2 < k + n → V X (0, 0) 110 Q z_rf M ML 37 [(3, .int (iI y)), (0, .ref (Q 90)), (1, .int (iI (a : Int))), (2, .int (iI (b : Int)))] [] := by
  intro n
  induction n with
  | zero => intro k M y hy G hk hn; exact absurd hn (by omega)
  | succ n ih =>
    intro k M y hy G hk hn
    refine v_iload_n K 0 dX9_game_37 rfl rfl ?_
    refine v_iconst K dX9_game_38 ?_
    refine v_icmp_ge K 86 ⟨by omega, by omega⟩ ⟨by omega, by omega⟩ dX9_game_39 (by decide) (fun h39 => ?_) (fun h39 => ?_)
    · obtain rfl : k = 2 := by omega
      exact kk M y G
    · refine v_aload_n K 1 dX9_game_42 rfl rfl ?_
      refine v_getr K ff_X9_32 (by decide) rfl rfl rfl dX9_game_43 ?_
      refine v_iload_n K 0 dX9_game_46 rfl rfl ?_
      refine v_aload_n K 1 dX9_game_47 rfl rfl ?_
      refine v_geti K ff_X9_25 (by decide) rfl rfl dX9_game_48 ?_
      refine v_iast K (k) (by decide) rfl (by omega) (by show _ < 2; omega) dX9_game_51 ?_
      refine v_aload_n K 1 dX9_game_52 rfl rfl ?_
      refine v_getr K ff_X9_35 (by decide) rfl rfl rfl dX9_game_53 ?_
      refine v_iload_n K 0 dX9_game_56 rfl rfl ?_
      refine v_iconst K dX9_game_57 ?_
      refine v_iast K (k) (by decide) rfl (by omega) (by show _ < 2; omega) dX9_game_58 ?_
      refine v_aload_n K 1 dX9_game_59 rfl rfl ?_
      refine v_getr K ff_X9_38 (by decide) rfl rfl rfl dX9_game_60 ?_
      refine v_iload_n K 0 dX9_game_63 rfl rfl ?_
      refine v_iconst K dX9_game_64 ?_
      refine v_iast K (k) (by decide) rfl (by omega) (by show _ < 2; omega) dX9_game_65 ?_
      refine v_aload_n K 1 dX9_game_66 rfl rfl ?_
      refine v_getr K ff_X9_41 (by decide) rfl rfl rfl dX9_game_67 ?_
      refine v_iload_n K 0 dX9_game_70 rfl rfl ?_
      refine v_iconst K dX9_game_71 ?_
      refine v_iast K (k) (by decide) rfl (by omega) (by show _ < 2; omega) dX9_game_72 ?_
      refine v_aload_n K 1 dX9_game_73 rfl rfl ?_
      refine v_getr K ff_X9_44 (by decide) rfl rfl rfl dX9_game_74 ?_
      refine v_iload_n K 0 dX9_game_77 rfl rfl ?_
      refine v_iconst K dX9_game_78 ?_
      refine v_iast K (k) (by decide) rfl (by omega) (by show _ < 2; omega) dX9_game_79 ?_
      refine v_iinc K 0 (fun q9 => [(3, .int (iI q9)), (0, .ref (Q 90)), (1, .int (iI (a : Int))), (2, .int (iI (b : Int)))]) dX9_game_80 rfl (by decide) (fun _ => rfl) (fun w hw => ?_)
      refine v_goto K 37 dX9_game_83 (by decide) ?_
      exact ih (k + 1) _ w (by omega) (gmI_side (G.1 90 7 (by omega) (by decide)) G) (by omega) (by omega)
set_option maxRecDepth 100000 in
set_option maxHeartbeats 4000000 in
theorem l_X9_game_go {X : VX} {Q : Nat → Nat} {MI ML : ZM} (K : VK X cX9_game RX9 4 none 2 50 0 0) (hM : mOk MI) (a b : Nat) (ha : a < 5) (hb : b < 5) (E : VE X 0 0 110 Q (zq Q (zV fun M L => L = ML ∧ gmS MI M a b (mGame MI a b).1 (mGame MI a b).2))) (M : ZM) (y : Int) (G : gmI MI M a b 24 2) : V X (0, 0) 110 Q z_rf M ML 86 [(3, .int (iI y)), (0, .ref (Q 90)), (1, .int (iI (a : Int))), (2, .int (iI (b : Int)))] [] := by
  refine v_aload_n K 1 dX9_game_86 rfl rfl ?_
  refine v_iconst K dX9_game_87 ?_
  refine v_puti K fp_X9_97 (by decide) rfl rfl dX9_game_88 ?_
  have q := gmI_go G
  have u7 := hM.2.2.1
  exact l_X9_game K hM a b ha hb (mGame MI a b) E y 12 0 _ (g0 (MI 90 7)) rfl q.1 ⟨⟨by show _ ≤ MI 90 7; omega, u7.2⟩, ⟨by show _ ≤ MI 90 7; omega, u7.2⟩, by unfold gIn g0; simp, by unfold gIn g0; simp⟩ (fun _ _ => q.2) rfl
set_option maxRecDepth 100000 in
set_option maxHeartbeats 4000000 in
theorem l_X9_game_mid {X : VX} {Q : Nat → Nat} {MI ML : ZM} (K : VK X cX9_game RX9 4 none 2 50 0 0) (hM : mOk MI) (a b : Nat) (ha : a < 5) (hb : b < 5) (E : VE X 0 0 110 Q (zq Q (zV fun M L => L = ML ∧ gmS MI M a b (mGame MI a b).1 (mGame MI a b).2))) (M : ZM) (y : Int) (G : gmI MI M a b 24 0) : V X (0, 0) 110 Q z_rf M ML 35 [(3, .int (iI y)), (0, .ref (Q 90)), (1, .int (iI (a : Int))), (2, .int (iI (b : Int)))] [] := by
  refine v_iconst K dX9_game_35 ?_
  refine v_istore_n K (fun q9 => [(3, .int (iI q9)), (0, .ref (Q 90)), (1, .int (iI (a : Int))), (2, .int (iI (b : Int)))]) dX9_game_36 rfl (by decide) (fun _ => rfl) (fun z hz => ?_)
  exact l_X9_game_side K a b (fun M y G => l_X9_game_go K hM a b ha hb E M y G) 3 0 M z hz G (by omega) (by omega)
set_option maxRecDepth 100000 in
set_option maxHeartbeats 4000000 in
theorem c_X9_game {l : Launch} {D : va_G} {Z : ZC} {Q : Nat → Nat} {MI ML : ZM} (hM : mOk MI) (a b : Nat) (ha : a < 5) (hb : b < 5) (a9 b9 : Int) (ha9 : a9 = a) (hb9 : b9 = b) : C_X9_game l D Z Q [.ref (Q 90), .int (iI a9), .int (iI b9)] MI ML (zV fun M L => L = ML ∧ gmS MI M a b (mGame MI a b).1 (mGame MI a b).2) := by
  subst ha9
  subst hb9
  refine CM.of (by decide +kernel) (Nat.le_of_ble_eq_true rfl) ?_
  intro X K E _ _ _ _
  show V X (0, 0) 110 Q z_rf MI ML 0 [(0, .ref (Q 90)), (1, .int (iI (a : Int))), (2, .int (iI (b : Int)))] []
  refine v_aload_n K 0 dX9_game_0 rfl rfl ?_
  refine v_getr K ff_X9_29 (by decide) rfl rfl rfl dX9_game_1 ?_
  refine v_iconst K dX9_game_4 ?_
  refine v_iload_n K 1 dX9_game_5 rfl rfl ?_
  refine v_iast K (0) (by decide) rfl (by omega) (by show _ < 2; omega) dX9_game_6 ?_
  refine v_aload_n K 0 dX9_game_7 rfl rfl ?_
  refine v_getr K ff_X9_29 (by decide) rfl rfl rfl dX9_game_8 ?_
  refine v_iconst K dX9_game_11 ?_
  refine v_iload_n K 2 dX9_game_12 rfl rfl ?_
  refine v_iast K (1) (by decide) rfl (by omega) (by show _ < 2; omega) dX9_game_13 ?_
  refine v_iconst K dX9_game_14 ?_
  refine v_istore_n K (fun q9 => [(3, .int (iI q9)), (0, .ref (Q 90)), (1, .int (iI (a : Int))), (2, .int (iI (b : Int)))]) dX9_game_15 rfl (by decide) (fun _ => rfl) (fun z hz => ?_)
  have G : gmI MI (z_up (z_up MI 96 0 a) 96 1 b) a b 0 0 := ⟨fun k j h1 h2 => by rw [z_up_k (by omega), z_up_k (by omega)], by simp [z_up], by simp [z_up], fun c hc => absurd hc (by omega), fun s hs => absurd hs (by omega)⟩
  exact l_X9_game_hand K a b (fun M y G => l_X9_game_mid K hM a b ha hb E M y G) 25 0 _ z hz G (by omega) (by omega)
theorem gRun_b {so po : Nat → Int} {pa pb : Nat → List Nat} (ha : ∀ t, (∀ c ∈ pa t, 0 ≤ po c ∧ po c ≤ 9) ∧ (pa t).length ≤ 10) (hb : ∀ t, (∀ c ∈ pb t, 0 ≤ po c ∧ po c ≤ 9) ∧ (pb t).length ≤ 10) : ∀ n t g, t + n = 12 → gBd t g → ∃ t2, t2 ≤ 12 ∧ t ≤ (gRun so po pa pb n t g).1 ∧ (gRun so po pa pb n t g).1 ≤ 12 ∧ gBd t2 (gRun so po pa pb n t g).2 := by
  intro n
  induction n with
  | zero => intro t g h1 h2; exact ⟨t, by omega, Nat.le_refl _, by show t ≤ 12; omega, h2⟩
  | succ n ih =>
    intro t g h1 h2
    simp only [gRun]
    split
    · exact ⟨t, by omega, Nat.le_refl _, by show t ≤ 12; omega, h2⟩
    · rename_i hq
      have B1 := mv_b (so := so) (po := po) (l := pa t) (t := t) (wo := g.2.2.2.2.1) (by omega) (ha t).1 (ha t).2 (show 0 < g.2.1 by omega) h2.2.1.2 h2.2.2.1 h2.2.2.2.2.2.1
      have := ih (t + 1) (gTurn so po (pa t) (pb t) g) (by omega) (by
        unfold gTurn
        split
        · exact ⟨h2.1, B1.1, B1.2, h2.2.2.2.up⟩
        · have B2 := mv_b (so := so) (po := po) (l := pb t) (t := t) (wo := (gA so po (pa t) g).2.2.1.2.1) (by omega) (hb t).1 (hb t).2 (show 0 < g.1 by omega) h2.1.2 h2.2.2.2 B1.2.2.2.1
          exact ⟨B2.1, B1.1, B1.2, B2.2⟩)
      obtain ⟨t2, q1, q2, q3, q4⟩ := this
      exact ⟨t2, q1, by omega, q3, q4⟩
theorem mGame_b {MI : ZM} (hM : mOk MI) (a b : Nat) : ∃ t2, t2 ≤ 12 ∧ (mGame MI a b).1 ≤ 12 ∧ gBd t2 (mGame MI a b).2 := by
  have u7 := hM.2.2.1
  obtain ⟨t2, q1, -, q3, q4⟩ := gRun_b (so := MI 91) (po := MI 93) (pa := mPl MI a) (pb := mPl MI b) (fun t => mPl_b hM a t) (fun t => mPl_b hM b t) 12 0 (g0 (MI 90 7)) rfl ⟨⟨by show _ ≤ MI 90 7; omega, u7.2⟩, ⟨by show _ ≤ MI 90 7; omega, u7.2⟩, by unfold gIn g0; simp, by unfold gIn g0; simp⟩
  exact ⟨t2, q1, q3, q4⟩
/-- RESULT and TABLE by the reference's memory -/
abbrev mRes (MI : ZM) (a b : Nat) : Int := gRes (mGame MI a b).2
abbrev mTab (MI : ZM) (a b : Nat) : Int := mRes MI a b - mRes MI b a
theorem gRes_b (g : GS) : -1 ≤ gRes g ∧ gRes g ≤ 1 := by unfold gRes; split <;> (try split) <;> omega
set_option maxRecDepth 100000 in
set_option maxHeartbeats 4000000 in
theorem c_X9_result {l : Launch} {D : va_G} {Z : ZC} {Q : Nat → Nat} {MI ML : ZM} (hM : mOk MI) (a b : Nat) (ha : a < 5) (hb : b < 5) (a9 b9 : Int) (ha9 : a9 = a) (hb9 : b9 = b) : C_X9_result l D Z Q [.ref (Q 90), .int (iI a9), .int (iI b9)] MI ML (zI fun r M L => L = ML ∧ scM MI M ∧ r = mRes MI a b) := by
  refine CM.of (by decide +kernel) (Nat.le_of_ble_eq_true rfl) ?_
  intro X K E _ _ _ _
  show V X (0, 0) 110 Q z_rf MI ML 0 [(0, .ref (Q 90)), (1, .int (iI a9)), (2, .int (iI b9))] []
  refine v_aload_n K 0 dX9_result_0 rfl rfl ?_
  refine v_iload_n K 1 dX9_result_1 rfl rfl ?_
  refine v_iload_n K 2 dX9_result_2 rfl rfl ?_
  refine v_cVv K (c_X9_game hM a b ha hb _ _ ha9 hb9) rfl fc_X9_115 wm_X9_game ws_X9_game (by decide) 9 rfl (by decide) rfl rfl (by decide) (Nat.le_of_ble_eq_true rfl) dX9_result_3 (fun M3 L3 h3 => ?_)
  obtain ⟨hl3, h3⟩ := h3
  subst L3
  obtain ⟨t2, -, -, bb, -⟩ := mGame_b hM a b
  obtain ⟨⟨b1, b2⟩, ⟨b3, b4⟩, -⟩ := (mGame_b hM a b).choose_spec.2.2
  refine v_aload_n K 0 dX9_result_6 rfl rfl ?_
  refine v_getr K ff_X9_32 (by decide) rfl rfl rfl dX9_result_7 ?_
  refine v_iconst K dX9_result_10 ?_
  refine v_iald K (0) (by decide) rfl rfl (by show _ < 2; omega) dX9_result_11 ?_
  refine v_eqi ((mGame MI a b).2.1) (h3.2.2.2.2.1) ?_
  refine v_aload_n K 0 dX9_result_12 rfl rfl ?_
  refine v_getr K ff_X9_32 (by decide) rfl rfl rfl dX9_result_13 ?_
  refine v_iconst K dX9_result_16 ?_
  refine v_iald K (1) (by decide) rfl rfl (by show _ < 2; omega) dX9_result_17 ?_
  refine v_eqi ((mGame MI a b).2.2.1) (h3.2.2.2.2.2.1) ?_
  refine v_icmp_le K 25 ⟨by omega, by omega⟩ ⟨by omega, by omega⟩ dX9_result_18 (by decide) (fun h18 => ?_) (fun h18 => ?_)
  · refine v_aload_n K 0 dX9_result_25 rfl rfl ?_
    refine v_getr K ff_X9_32 (by decide) rfl rfl rfl dX9_result_26 ?_
    refine v_iconst K dX9_result_29 ?_
    refine v_iald K (0) (by decide) rfl rfl (by show _ < 2; omega) dX9_result_30 ?_
    refine v_eqi ((mGame MI a b).2.1) (h3.2.2.2.2.1) ?_
    refine v_aload_n K 0 dX9_result_31 rfl rfl ?_
    refine v_getr K ff_X9_32 (by decide) rfl rfl rfl dX9_result_32 ?_
    refine v_iconst K dX9_result_35 ?_
    refine v_iald K (1) (by decide) rfl rfl (by show _ < 2; omega) dX9_result_36 ?_
    refine v_eqi ((mGame MI a b).2.2.1) (h3.2.2.2.2.2.1) ?_
    refine v_icmp_ge K 44 ⟨by omega, by omega⟩ ⟨by omega, by omega⟩ dX9_result_37 (by decide) (fun h37 => ?_) (fun h37 => ?_)
    · refine v_iconst K dX9_result_44 ?_
      exact v_ri K E dX9_result_45 ⟨rfl, h3.1, by unfold mRes gRes; first | rw [if_pos (by omega)] | rw [if_neg (by omega), if_pos (by omega)] | rw [if_neg (by omega), if_neg (by omega)]⟩
    · refine v_iconst K dX9_result_40 ?_
      refine v_goto K 45 dX9_result_41 (by decide) ?_
      exact v_ri K E dX9_result_45 ⟨rfl, h3.1, by unfold mRes gRes; first | rw [if_pos (by omega)] | rw [if_neg (by omega), if_pos (by omega)] | rw [if_neg (by omega), if_neg (by omega)]⟩
  · refine v_iconst K dX9_result_21 ?_
    refine v_goto K 45 dX9_result_22 (by decide) ?_
    exact v_ri K E dX9_result_45 ⟨rfl, h3.1, by unfold mRes gRes; first | rw [if_pos (by omega)] | rw [if_neg (by omega), if_pos (by omega)] | rw [if_neg (by omega), if_neg (by omega)]⟩
set_option maxRecDepth 100000 in
set_option maxHeartbeats 4000000 in
theorem c_X9_play {l : Launch} {D : va_G} {Z : ZC} {Q : Nat → Nat} {MI ML : ZM} (hM : mOk MI) (a b : Int) (ha : rg a) (hb : rg b) : C_X9_play l D Z Q [.ref (Q 90), .int (iI a), .int (iI b)] MI ML (zI fun r M L => L = ML ∧ scM MI M ∧ ((¬ (0 ≤ a ∧ a < MI 90 4 ∧ 0 ≤ b ∧ b < MI 90 4) ∧ r = -2) ∨ ((0 ≤ a ∧ a < MI 90 4 ∧ 0 ≤ b ∧ b < MI 90 4) ∧ r = mRes MI a.toNat b.toNat))) := by
  refine CM.of (by decide +kernel) (Nat.le_of_ble_eq_true rfl) ?_
  intro X K E _ _ _ _
  show V X (0, 0) 110 Q z_rf MI ML 0 [(0, .ref (Q 90)), (1, .int (iI a)), (2, .int (iI b))] []
  have u4 := hM.2.1
  refine v_aload_n K 0 dX9_play_0 rfl rfl ?_
  refine v_iload_n K 1 dX9_play_1 rfl rfl ?_
  refine v_cVi K (c_X9_isDeck hM _ ha) rfl fc_X9_86 wm_X9_isDeck ws_X9_isDeck (by decide) 9 rfl (by decide) rfl rfl (by decide) (Nat.le_of_ble_eq_true rfl) dX9_play_2 (fun r2 M2 L2 h2 => ?_)
  obtain ⟨hm2, hl2, hr2⟩ := h2
  subst M2 L2
  refine v_if_eq K 25 ⟨by omega, by omega⟩ dX9_play_5 (by decide) (fun h5 => ?_) (fun h5 => ?_)
  · refine v_bipush K dX9_play_25 (by decide) ?_
    exact v_ri K E dX9_play_27 (by first | exact ⟨rfl, h19s, Or.inr ⟨by omega, h19r⟩⟩ | exact ⟨rfl, fun _ _ _ _ => rfl, Or.inl ⟨by omega, rfl⟩⟩)
  · refine v_aload_n K 0 dX9_play_8 rfl rfl ?_
    refine v_iload_n K 2 dX9_play_9 rfl rfl ?_
    refine v_cVi K (c_X9_isDeck hM _ hb) rfl fc_X9_86 wm_X9_isDeck ws_X9_isDeck (by decide) 9 rfl (by decide) rfl rfl (by decide) (Nat.le_of_ble_eq_true rfl) dX9_play_10 (fun r10 M10 L10 h10 => ?_)
    obtain ⟨hm10, hl10, hr10⟩ := h10
    subst M10 L10
    refine v_if_eq K 25 ⟨by omega, by omega⟩ dX9_play_13 (by decide) (fun h13 => ?_) (fun h13 => ?_)
    · refine v_bipush K dX9_play_25 (by decide) ?_
      exact v_ri K E dX9_play_27 (by first | exact ⟨rfl, h19s, Or.inr ⟨by omega, h19r⟩⟩ | exact ⟨rfl, fun _ _ _ _ => rfl, Or.inl ⟨by omega, rfl⟩⟩)
    · refine v_aload_n K 0 dX9_play_16 rfl rfl ?_
      refine v_iload_n K 1 dX9_play_17 rfl rfl ?_
      refine v_iload_n K 2 dX9_play_18 rfl rfl ?_
      refine v_cVi K (c_X9_result hM a.toNat b.toNat (by omega) (by omega) _ _ (by omega) (by omega)) rfl fc_X9_118 wm_X9_result ws_X9_result (by decide) 9 rfl (by decide) rfl rfl (by decide) (Nat.le_of_ble_eq_true rfl) dX9_play_19 (fun r19 M19 L19 h19 => ?_)
      obtain ⟨hl19, h19s, h19r⟩ := h19
      subst L19
      refine v_goto K 27 dX9_play_22 (by decide) ?_
      exact v_ri K E dX9_play_27 (by first | exact ⟨rfl, h19s, Or.inr ⟨by omega, h19r⟩⟩ | exact ⟨rfl, fun _ _ _ _ => rfl, Or.inl ⟨by omega, rfl⟩⟩)
theorem scM.trans {A B C : ZM} (h : scM A B) (h2 : scM B C) : scM A C := fun a b q1 q2 => (h2 a b q1 q2).trans (h a b q1 q2)
theorem scM.game {MI M : ZM} (h : scM MI M) (a b : Nat) : mGame M a b = mGame MI a b := by
  have r91 := h.row (a := 91) (by omega) (by decide)
  have r92 := h.row (a := 92) (by omega) (by decide)
  have r93 := h.row (a := 93) (by omega) (by decide)
  have r94 := h.row (a := 94) (by omega) (by decide)
  have r95 := h.row (a := 95) (by omega) (by decide)
  have r90 := h 90 0 (by omega) (by decide)
  have r97 := h 90 7 (by omega) (by decide)
  unfold mGame mPl
  rw [r91, r92, r93, r94, r95, r90, r97]
theorem scM.res {MI M : ZM} (h : scM MI M) (a b : Nat) : mRes M a b = mRes MI a b := by unfold mRes; rw [h.game]
theorem scM.tab {MI M : ZM} (h : scM MI M) (a b : Nat) : mTab M a b = mTab MI a b := by unfold mTab; rw [h.res, h.res]
set_option maxRecDepth 100000 in
set_option maxHeartbeats 4000000 in
theorem c_X9_tableOf {l : Launch} {D : va_G} {Z : ZC} {Q : Nat → Nat} {MI ML : ZM} (hM : mOk MI) (a b : Nat) (ha : a < 5) (hb : b < 5) (a9 b9 : Int) (ha9 : a9 = a) (hb9 : b9 = b) : C_X9_tableOf l D Z Q [.ref (Q 90), .int (iI a9), .int (iI b9)] MI ML (zI fun r M L => L = ML ∧ scM MI M ∧ r = mTab MI a b) := by
  refine CM.of (by decide +kernel) (Nat.le_of_ble_eq_true rfl) ?_
  intro X K E _ _ _ _
  show V X (0, 0) 110 Q z_rf MI ML 0 [(0, .ref (Q 90)), (1, .int (iI a9)), (2, .int (iI b9))] []
  refine v_aload_n K 0 dX9_tableOf_0 rfl rfl ?_
  refine v_iload_n K 1 dX9_tableOf_1 rfl rfl ?_
  refine v_iload_n K 2 dX9_tableOf_2 rfl rfl ?_
  refine v_cVi K (c_X9_result hM a b ha hb _ _ ha9 hb9) rfl fc_X9_118 wm_X9_result ws_X9_result (by decide) 9 rfl (by decide) rfl rfl (by decide) (Nat.le_of_ble_eq_true rfl) dX9_tableOf_3 (fun r3 M3 L3 h3 => ?_)
  obtain ⟨hl3, h3s, h3r⟩ := h3
  subst L3
  refine v_aload_n K 0 dX9_tableOf_6 rfl rfl ?_
  refine v_iload_n K 2 dX9_tableOf_7 rfl rfl ?_
  refine v_iload_n K 1 dX9_tableOf_8 rfl rfl ?_
  refine v_cVi K (c_X9_result (h3s.ok hM) b a hb ha _ _ hb9 ha9) rfl fc_X9_118 wm_X9_result ws_X9_result (by decide) 9 rfl (by decide) rfl rfl (by decide) (Nat.le_of_ble_eq_true rfl) dX9_tableOf_9 (fun r9 M9 L9 h9 => ?_)
  obtain ⟨hl9, h9s, h9r⟩ := h9
  subst L9
  refine v_isub K dX9_tableOf_12 ?_
  exact v_ri K E dX9_tableOf_13 ⟨rfl, h3s.trans h9s, by rw [h3r, h9r, h3s.res]⟩
set_option maxRecDepth 100000 in
set_option maxHeartbeats 4000000 in
theorem c_X9_table {l : Launch} {D : va_G} {Z : ZC} {Q : Nat → Nat} {MI ML : ZM} (hM : mOk MI) (a b : Int) (ha : rg a) (hb : rg b) : C_X9_table l D Z Q [.ref (Q 90), .int (iI a), .int (iI b)] MI ML (zI fun r M L => L = ML ∧ scM MI M ∧ ((¬ (0 ≤ a ∧ a < MI 90 4 ∧ 0 ≤ b ∧ b < MI 90 4) ∧ r = -2147483648) ∨ ((0 ≤ a ∧ a < MI 90 4 ∧ 0 ≤ b ∧ b < MI 90 4) ∧ r = mTab MI a.toNat b.toNat))) := by
  refine CM.of (by decide +kernel) (Nat.le_of_ble_eq_true rfl) ?_
  intro X K E _ _ _ _
  show V X (0, 0) 110 Q z_rf MI ML 0 [(0, .ref (Q 90)), (1, .int (iI a)), (2, .int (iI b))] []
  have u4 := hM.2.1
  refine v_aload_n K 0 dX9_table_0 rfl rfl ?_
  refine v_iload_n K 1 dX9_table_1 rfl rfl ?_
  refine v_cVi K (c_X9_isDeck hM _ ha) rfl fc_X9_86 wm_X9_isDeck ws_X9_isDeck (by decide) 9 rfl (by decide) rfl rfl (by decide) (Nat.le_of_ble_eq_true rfl) dX9_table_2 (fun r2 M2 L2 h2 => ?_)
  obtain ⟨hm2, hl2, hr2⟩ := h2
  subst M2 L2
  refine v_if_eq K 25 ⟨by omega, by omega⟩ dX9_table_5 (by decide) (fun h5 => ?_) (fun h5 => ?_)
  · refine v_ldc K (-2147483648) ck_X9_121 rfl dX9_table_25 ?_
    exact v_ri K E dX9_table_27 (by first | exact ⟨rfl, h19s, Or.inr ⟨by omega, h19r⟩⟩ | exact ⟨rfl, fun _ _ _ _ => rfl, Or.inl ⟨by omega, rfl⟩⟩)
  · refine v_aload_n K 0 dX9_table_8 rfl rfl ?_
    refine v_iload_n K 2 dX9_table_9 rfl rfl ?_
    refine v_cVi K (c_X9_isDeck hM _ hb) rfl fc_X9_86 wm_X9_isDeck ws_X9_isDeck (by decide) 9 rfl (by decide) rfl rfl (by decide) (Nat.le_of_ble_eq_true rfl) dX9_table_10 (fun r10 M10 L10 h10 => ?_)
    obtain ⟨hm10, hl10, hr10⟩ := h10
    subst M10 L10
    refine v_if_eq K 25 ⟨by omega, by omega⟩ dX9_table_13 (by decide) (fun h13 => ?_) (fun h13 => ?_)
    · refine v_ldc K (-2147483648) ck_X9_121 rfl dX9_table_25 ?_
      exact v_ri K E dX9_table_27 (by first | exact ⟨rfl, h19s, Or.inr ⟨by omega, h19r⟩⟩ | exact ⟨rfl, fun _ _ _ _ => rfl, Or.inl ⟨by omega, rfl⟩⟩)
    · refine v_aload_n K 0 dX9_table_16 rfl rfl ?_
      refine v_iload_n K 1 dX9_table_17 rfl rfl ?_
      refine v_iload_n K 2 dX9_table_18 rfl rfl ?_
      refine v_cVi K (c_X9_tableOf hM a.toNat b.toNat (by omega) (by omega) _ _ (by omega) (by omega)) rfl fc_X9_122 wm_X9_tableOf ws_X9_tableOf (by decide) 9 rfl (by decide) rfl rfl (by decide) (Nat.le_of_ble_eq_true rfl) dX9_table_19 (fun r19 M19 L19 h19 => ?_)
      obtain ⟨hl19, h19s, h19r⟩ := h19
      subst L19
      refine v_goto K 27 dX9_table_22 (by decide) ?_
      exact v_ri K E dX9_table_27 (by first | exact ⟨rfl, h19s, Or.inr ⟨by omega, h19r⟩⟩ | exact ⟨rfl, fun _ _ _ _ => rfl, Or.inl ⟨by omega, rfl⟩⟩)
