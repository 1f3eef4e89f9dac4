/-- what a MOVE of side s may change -/
def mvF (MI M : ZM) (s : Nat) : Prop := ∀ a b, ¬ ((a = 97 ∧ b = 1 - s) ∨ ((98 ≤ a ∧ a ≤ 101) ∧ b = s) ∨ (a = 102 ∧ 12 * s ≤ b ∧ b < 12 * s + 12)) → M a b = MI a b
/-- the memory within a MOVE -/
def mvS (MI M : ZM) (s : Nat) (h : Nat → Int) (dr : Nat) (lo f w p : Int) : Prop := mvF MI M s ∧ (∀ c, c < 12 → M 102 (12 * s + c) = h c) ∧ M 98 s = dr ∧ M 97 (1 - s) = lo ∧ M 99 s = f ∧ M 100 s = w ∧ M 101 s = p
theorem mvF.ok {MI M : ZM} {s : Nat} (h : mvF MI M s) (hM : mOk MI) : mOk M := mOk_of (fun a b h1 h2 _ => h a b (by omega)) hM
theorem mvF.row {MI M : ZM} {s : Nat} (h : mvF MI M s) {a : Nat} (ha : a < 97) : M a = MI a := funext fun b => h a b (by omega)
theorem mvS_inc {MI M : ZM} {s dr c : Nat} {h : Nat → Int} {lo f w p : Int} (S : mvS MI M s h dr lo f w p) (hs : s < 2) (hc : c < 12) (v1 v2 : Int) (e1 : v1 = M 102 (12 * s + c) + 1) (e2 : v2 = dr + 1) : mvS MI (z_up (z_up M 102 (12 * s + c) v1) 98 s v2) s (hinc h c) (dr + 1) lo f w p := by
  obtain ⟨s1, s2, s3, s4, s5, s6, s7⟩ := S
  refine ⟨fun a b hab => ?_, fun i hi => ?_, ?_, ?_, ?_, ?_, ?_⟩
  · rw [← s1 a b hab]
    simp only [z_up]
    rw [if_neg (by omega), if_neg (by omega)]
  · simp only [z_up, hinc]
    rw [if_neg (by omega)]
    by_cases e : i = c
    · subst e; rw [if_pos (by simp), if_pos rfl, e1, s2 i hi]
    · rw [if_neg (by omega), if_neg e, s2 i hi]
  · simp [z_up, e2]
  · simp [z_up, s4]
  · simp [z_up, s5]
  · simp [z_up, s6]
  · simp [z_up, s7]
theorem mvS_put {MI M : ZM} {s dr c : Nat} {h : Nat → Int} {lo f w p : Int} (S : mvS MI M s h dr lo f w p) (hs : s < 2) (hc : c < 12) : mvS MI (pcM M s c) s (hdec h c) dr (put1 (MI 91) (MI 93) c (lo, f, w, p)).1 (put1 (MI 91) (MI 93) c (lo, f, w, p)).2.1 (put1 (MI 91) (MI 93) c (lo, f, w, p)).2.2.1 (put1 (MI 91) (MI 93) c (lo, f, w, p)).2.2.2 := by
  obtain ⟨s1, s2, s3, s4, s5, s6, s7⟩ := S
  have e1 : M 91 = MI 91 := mvF.row s1 (by decide)
  have e3 : M 93 = MI 93 := mvF.row s1 (by decide)
  unfold pcM put1
  rw [e1, e3]
  split
  · refine ⟨fun a b hab => ?_, fun i hi => ?_, ?_, ?_, ?_, ?_, ?_⟩
    · rw [← s1 a b hab]; simp only [z_up]; rw [if_neg (by omega), if_neg (by omega), if_neg (by omega)]
    · simp only [z_up, hdec]; rw [if_neg (by omega), if_neg (by omega)]
      by_cases e : i = c
      · subst e; rw [if_pos (by simp), if_pos rfl, s2 i hi]
      · rw [if_neg (by omega), if_neg e, s2 i hi]
    · simp [z_up, s3]
    · simp [z_up, s4]
    · simp [z_up, s5]
    · simp [z_up, s6]
    · simp [z_up, s7]
  · split
    · refine ⟨fun a b hab => ?_, fun i hi => ?_, ?_, ?_, ?_, ?_, ?_⟩
      · rw [← s1 a b hab]; simp only [z_up]; rw [if_neg (by omega), if_neg (by omega), if_neg (by omega)]
      · simp only [z_up, hdec]; rw [if_neg (by omega), if_neg (by omega)]
        by_cases e : i = c
        · subst e; rw [if_pos (by simp), if_pos rfl, s2 i hi]
        · rw [if_neg (by omega), if_neg e, s2 i hi]
      · simp [z_up, s3]
      · simp [z_up, s4]
      · simp [z_up, s5]
      · simp [z_up, s6]
      · simp [z_up, s7]
    · refine ⟨fun a b hab => ?_, fun i hi => ?_, ?_, ?_, ?_, ?_, ?_⟩
      · rw [← s1 a b hab]; simp only [z_up]; rw [if_neg (by omega), if_neg (by omega), if_neg (by omega)]
      · simp only [z_up, hdec]; rw [if_neg (by omega), if_neg (by omega)]
        by_cases e : i = c
        · subst e; rw [if_pos (by simp), if_pos rfl, s2 i hi]
        · rw [if_neg (by omega), if_neg e, s2 i hi]
      · simp [z_up, s3]
      · simp [z_up, s4]
      · simp [z_up, s5]
      · simp [z_up, s6]
      · simp [z_up, s7]
theorem mvS_hit {MI M : ZM} {s dr : Nat} {h : Nat → Int} {lo f w p : Int} (S : mvS MI M s h dr lo f w p) (hs : s < 2) (v : Int) : mvS MI (z_up M 97 (1 - s) v) s h dr v f w p := by
  obtain ⟨s1, s2, s3, s4, s5, s6, s7⟩ := S
  refine ⟨fun a b hab => ?_, fun i hi => ?_, ?_, ?_, ?_, ?_, ?_⟩
  · rw [← s1 a b hab]; simp only [z_up]; rw [if_neg (by omega)]
  · simp only [z_up]; rw [if_neg (by omega), s2 i hi]
  · simp [z_up, s3]
  · simp [z_up]
  · simp [z_up, s5]
  · simp [z_up, s6]
  · simp [z_up, s7]
theorem bst_congr {co po h h' : Nat → Int} {e : Int} : ∀ k, (∀ i, i < k → h i = h' i) → bst co po h e k = bst co po h' e k := by
  intro k
  induction k with
  | zero => intro _; rfl
  | succ k ih =>
    intro q
    simp only [bst]
    rw [ih (fun i hi => q i (by omega)), q k (by omega)]
/-- a hand of n cards or fewer -/
def hOk (h : Nat → Int) (n : Nat) : Prop := (∀ i, 0 ≤ h i) ∧ htot h 12 ≤ n
theorem hOk.b {h : Nat → Int} {n : Nat} (q : hOk h n) {i : Nat} (hi : i < 12) : 0 ≤ h i ∧ h i ≤ n := ⟨q.1 i, Int.le_trans (htot_le q.1 12 i hi) q.2⟩
theorem hOk.dec {h : Nat → Int} {n c : Nat} (q : hOk h (n + 1)) (hc : c < 12) (h0 : 0 < h c) : hOk (hdec h c) n := by
  refine ⟨fun i => ?_, ?_⟩
  · have := q.1 i
    simp only [hdec]
    split
    · rename_i e; subst e; omega
    · exact this
  · rw [htot_dec, if_pos hc]; have := q.2; omega
theorem hOk.zero {h : Nat → Int} (q : hOk h 0) {i : Nat} (hi : i < 12) : h i = 0 := by have := q.b hi; omega
theorem hOk.inc {h : Nat → Int} {n c : Nat} (q : hOk h n) (hc : c < 12) : hOk (hinc h c) (n + 1) := by
  refine ⟨fun i => ?_, ?_⟩
  · have := q.1 i
    simp only [hinc]
    split <;> omega
  · rw [htot_inc, if_pos hc]; have := q.2; omega
theorem bst_zero {co po h : Nat → Int} {e : Int} (q : hOk h 0) : ∀ k, k ≤ 12 → bst co po h e k = -1 := by
  intro k
  induction k with
  | zero => intro _; rfl
  | succ k ih =>
    intro hk
    simp only [bst]
    rw [if_neg (by have := q.zero (i := k) (by omega); omega), ih (by omega)]
set_option maxRecDepth 100000 in
set_option maxHeartbeats 4000000 in
theorem l_X9_move_draw {X : VX} {Q : Nat → Nat} {MI ML : ZM} (K : VK X cX9_move RX9 6 none 1 25 0 0) (hM : mOk MI) (s : Nat) (hs : s < 2) (d : Nat) (hd : d < 5) (lo f w p : Int) (s0 : (Nat → Int) × Nat) (kk : ∀ (M : ZM) (y : Int), mvS MI M s s0.1 s0.2 lo f w p → V X (0, 0) 110 Q z_rf M ML 86 [(3, .int (iI y)), (2, .int (iI (d : Int))), (0, .ref (Q 90)), (1, .int (iI (s : Int)))] []) : ∀ (k : Nat) (M : ZM) (h : Nat → Int) (dr : Nat) (y : Int), y = k → mvS MI M s h dr lo f w p → dr ≤ 10 → k ≤ 2 → drw (MI 94 d).toNat (fun k => (MI 95 (10 * d + k)).toNat) k (h, dr) = s0 → V X (0, 0) 110 Q z_rf M ML 21 [(3, .int (iI y)), (2, .int (iI (d : Int))), (0, .ref (Q 90)), (1, .int (iI (s : Int)))] [] := by
  have u0 := hM.1
  have us := hM.2.2.2.2.1 d hd
  have uk := hM.2.2.2.2.2
  intro k
  induction k with
  | zero =>
    intro M h dr y hy S hdr hk he
    refine v_iload_n K 0 dX9_move_21 rfl rfl ?_
    refine v_if_le K 86 ⟨by omega, by omega⟩ dX9_move_22 (by decide) (fun h22 => ?_) (fun h22 => ?_)
    · simp only [drw] at he
      subst he
      exact kk M y S
    · exact absurd h22 (by omega)
  | succ k ih =>
    intro M h dr y hy S hdr hk he
    refine v_iload_n K 0 dX9_move_21 rfl rfl ?_
    refine v_if_le K 86 ⟨by omega, by omega⟩ dX9_move_22 (by decide) (fun h22 => ?_) (fun h22 => ?_)
    · exact absurd h22 (by omega)
    · refine v_aload_n K 2 dX9_move_25 rfl rfl ?_
      refine v_getr K ff_X9_35 (by decide) rfl rfl rfl dX9_move_26 ?_
      refine v_iload_n K 3 dX9_move_29 rfl rfl ?_
      refine v_iald K (s) (by decide) rfl rfl (by show _ < 2; omega) dX9_move_30 ?_
      refine v_eqi ((dr : Int)) (S.2.2.1) ?_
      refine v_aload_n K 2 dX9_move_31 rfl rfl ?_
      refine v_getr K ff_X9_19 (by decide) rfl rfl rfl dX9_move_32 ?_
      refine v_iload_n K 1 dX9_move_35 rfl rfl ?_
      refine v_iald K (d) (by decide) rfl rfl (by show _ < 5; omega) dX9_move_36 ?_
      refine v_eqi (MI 94 d) (by rw [S.1.row (by decide)]) ?_
      refine v_icmp_ge K 86 ⟨by omega, by omega⟩ ⟨by omega, by omega⟩ dX9_move_37 (by decide) (fun h37 => ?_) (fun h37 => ?_)
      · simp only [drw] at he
        rw [if_neg (by show ¬ dr < (MI 94 d).toNat; omega)] at he
        subst he
        exact kk M y S
      · have w1 := uk d dr hd (by omega)
        simp only [drw] at he
        rw [if_pos (by show dr < (MI 94 d).toNat; omega)] at he
        refine v_aload_n K 2 dX9_move_40 rfl rfl ?_
        refine v_getr K ff_X9_47 (by decide) rfl rfl rfl dX9_move_41 ?_
        refine v_bipush K dX9_move_44 (by decide) ?_
        refine v_iload_n K 3 dX9_move_46 rfl rfl ?_
        refine v_imul K dX9_move_47 ?_
        refine v_aload_n K 2 dX9_move_48 rfl rfl ?_
        refine v_getr K ff_X9_22 (by decide) rfl rfl rfl dX9_move_49 ?_
        refine v_bipush K dX9_move_52 (by decide) ?_
        refine v_iload_n K 1 dX9_move_54 rfl rfl ?_
        refine v_imul K dX9_move_55 ?_
        refine v_aload_n K 2 dX9_move_56 rfl rfl ?_
        refine v_getr K ff_X9_35 (by decide) rfl rfl rfl dX9_move_57 ?_
        refine v_iload_n K 3 dX9_move_60 rfl rfl ?_
        refine v_iald K (s) (by decide) rfl rfl (by show _ < 2; omega) dX9_move_61 ?_
        refine v_eqi ((dr : Int)) (S.2.2.1) ?_
        refine v_iadd K dX9_move_62 ?_
        refine v_iald K (10 * d + dr) (by decide) rfl (by omega) (by show _ < 50; omega) dX9_move_63 ?_
        refine v_eqi (MI 95 (10 * d + dr)) (by rw [S.1.row (by decide)]) ?_
        refine v_iadd K dX9_move_64 ?_
        refine v_dup2_11 K dX9_move_65 rfl rfl ?_
        refine v_iald K (12 * s + (MI 95 (10 * d + dr)).toNat) (by decide) rfl (by omega) (by show _ < 24; omega) dX9_move_66 ?_
        refine v_iconst K dX9_move_67 ?_
        refine v_iadd K dX9_move_68 ?_
        refine v_iast K (12 * s + (MI 95 (10 * d + dr)).toNat) (by decide) rfl (by omega) (by show _ < 24; omega) dX9_move_69 ?_
        refine v_aload_n K 2 dX9_move_70 rfl rfl ?_
        refine v_getr K ff_X9_35 (by decide) rfl rfl rfl dX9_move_71 ?_
        refine v_iload_n K 3 dX9_move_74 rfl rfl ?_
        refine v_dup2_11 K dX9_move_75 rfl rfl ?_
        refine v_iald K (s) (by decide) rfl rfl (by show _ < 2; omega) dX9_move_76 ?_
        refine v_eqi ((dr : Int)) (by rw [z_up_k (by decide)]; exact S.2.2.1) ?_
        refine v_iconst K dX9_move_77 ?_
        refine v_iadd K dX9_move_78 ?_
        refine v_iast K (s) (by decide) rfl rfl (by show _ < 2; omega) dX9_move_79 ?_
        refine v_iinc K 0 (fun q9 => [(3, .int (iI q9)), (2, .int (iI (d : Int))), (0, .ref (Q 90)), (1, .int (iI (s : Int)))]) dX9_move_80 rfl (by decide) (fun _ => rfl) (fun v hv => ?_)
        refine v_goto K 21 dX9_move_83 (by decide) ?_
        exact ih _ _ (dr + 1) v (by omega) (mvS_inc S hs (c := (MI 95 (10 * d + dr)).toNat) (by omega) _ _ rfl rfl) (by omega) (by omega) he
set_option maxRecDepth 100000 in
set_option maxHeartbeats 4000000 in
theorem l_X9_move_play {X : VX} {Q : Nat → Nat} {MI ML : ZM} (K : VK X cX9_move RX9 6 none 1 25 0 0) (hM : mOk MI) (s : Nat) (hs : s < 2) (d dr : Nat) (hown : 0 < MI 97 s) (hown2 : MI 97 s ≤ 100000) (x : Int × Int × Int × Int) (hx : Nat → Int) (E : VE X 0 0 110 Q (zq Q (zV fun M L => L = ML ∧ (∃ h1, mvS MI M s h1 dr x.1 x.2.1 x.2.2.1 x.2.2.2 ∧ (0 < x.1 → ∀ i, i < 12 → h1 i = hx i))))) : ∀ (n : Nat) (M : ZM) (h : Nat → Int) (e c y lo f w p : Int), c = bst (MI 92) (MI 93) h e (MI 90 0).toNat → n ≤ 100 → hOk h n → 0 ≤ e → e ≤ 6 → -100000 ≤ lo → lo ≤ 100000 → mvS MI M s h dr lo f w p → putL (MI 91) (MI 93) (selL (MI 90 0).toNat (MI 92) (MI 93) n h e) (lo, f, w, p) = x → (∀ i, i < 12 → selH (MI 90 0).toNat (MI 92) (MI 93) n h e i = hx i) → V X (0, 0) 110 Q z_rf M ML 151 [(5, .int (iI c)), (4, .int (iI e)), (3, .int (iI y)), (2, .int (iI (d : Int))), (0, .ref (Q 90)), (1, .int (iI (s : Int)))] [] := by
  have u0 := hM.1
  have ua := hM.2.2.2.1
  intro n
  induction n with
  | zero =>
    intro M h e c y lo f w p hc hn hok he0 he6 hl0 hl1 S hp hq
    have S4 := S.2.2.2.1
    have S5 : M 97 s = MI 97 s := S.1 97 s (by omega)
    have q0 : rg (M 97 0) := by rcases (show s = 0 ∨ s = 1 by omega) with rfl | rfl <;> simp at S4 S5 <;> exact ⟨by omega, by omega⟩
    have q1 : rg (M 97 1) := by rcases (show s = 0 ∨ s = 1 by omega) with rfl | rfl <;> simp at S4 S5 <;> exact ⟨by omega, by omega⟩
    have b1 := bst_b (MI 92) (MI 93) h e (MI 90 0).toNat
    rw [← hc] at b1
    refine v_aload_n K 4 dX9_move_151 rfl rfl ?_
    refine v_cVi K (c_X9_isOver q0 q1) rfl fc_X9_104 wm_X9_isOver ws_X9_isOver (by decide) 9 rfl (by decide) rfl rfl (by decide) (Nat.le_of_ble_eq_true rfl) dX9_move_152 (fun r152 M152 L152 h152 => ?_)
    obtain ⟨hm152, hl152, hr152⟩ := h152
    subst M152 L152
    refine v_if_ne K 195 ⟨by omega, by omega⟩ dX9_move_155 (by decide) (fun h155 => ?_) (fun h155 => ?_)
    · exact v_rv K E dX9_move_195 ⟨rfl, h, by subst hp; exact S, fun _ i hi => hq i hi⟩
    · refine v_iload K 0 dX9_move_158 rfl ?_
      refine v_iconst K dX9_move_160 ?_
      refine v_icmp_eq K 195 ⟨by omega, by omega⟩ ⟨by omega, by omega⟩ dX9_move_161 (by decide) (fun h161 => ?_) (fun h161 => ?_)
      · exact v_rv K E dX9_move_195 ⟨rfl, h, by subst hp; exact S, fun _ i hi => hq i hi⟩
      · exact absurd (hc.trans (bst_zero hok _ (by omega))) h161
  | succ n ih =>
    intro M h e c y lo f w p hc hn hok he0 he6 hl0 hl1 S hp hq
    have S4 := S.2.2.2.1
    have S5 : M 97 s = MI 97 s := S.1 97 s (by omega)
    have q0 : rg (M 97 0) := by rcases (show s = 0 ∨ s = 1 by omega) with rfl | rfl <;> simp at S4 S5 <;> exact ⟨by omega, by omega⟩
    have q1 : rg (M 97 1) := by rcases (show s = 0 ∨ s = 1 by omega) with rfl | rfl <;> simp at S4 S5 <;> exact ⟨by omega, by omega⟩
    have b1 := bst_b (MI 92) (MI 93) h e (MI 90 0).toNat
    rw [← hc] at b1
    refine v_aload_n K 4 dX9_move_151 rfl rfl ?_
    refine v_cVi K (c_X9_isOver q0 q1) rfl fc_X9_104 wm_X9_isOver ws_X9_isOver (by decide) 9 rfl (by decide) rfl rfl (by decide) (Nat.le_of_ble_eq_true rfl) dX9_move_152 (fun r152 M152 L152 h152 => ?_)
    obtain ⟨hm152, hl152, hr152⟩ := h152
    subst M152 L152
    refine v_if_ne K 195 ⟨by omega, by omega⟩ dX9_move_155 (by decide) (fun h155 => ?_) (fun h155 => ?_)
    · have hlo : lo ≤ 0 := by rcases (show s = 0 ∨ s = 1 by omega) with rfl | rfl <;> simp at S4 S5 <;> omega
      have e9 : (lo, f, w, p) = x := by
        rw [← hp]
        simp only [selL]
        split
        · rfl
        · simp only [putL]
          rw [if_pos hlo]
      subst e9
      exact v_rv K E dX9_move_195 ⟨rfl, h, S, fun q => absurd q (by show ¬ 0 < lo; omega)⟩
    · have hlo : 0 < lo := by rcases (show s = 0 ∨ s = 1 by omega) with rfl | rfl <;> simp at S4 S5 <;> omega
      refine v_iload K 0 dX9_move_158 rfl ?_
      refine v_iconst K dX9_move_160 ?_
      refine v_icmp_eq K 195 ⟨by omega, by omega⟩ ⟨by omega, by omega⟩ dX9_move_161 (by decide) (fun h161 => ?_) (fun h161 => ?_)
      · have e8 : bst (MI 92) (MI 93) h e (MI 90 0).toNat = -1 := by omega
        have e9 : (lo, f, w, p) = x := by
          rw [← hp]
          simp only [selL]
          rw [if_pos e8]
          rfl
        subst e9
        exact v_rv K E dX9_move_195 ⟨rfl, h, S, fun _ i hi => by have := hq i hi; simp only [selH] at this; rw [if_pos e8] at this; exact this⟩
      · have w1 := bst_h (MI 92) (MI 93) h e (MI 90 0).toNat (by omega)
        rw [← hc] at w1
        have w2 := ua c.toNat (by omega)
        have hp2 : ∀ e2, e2 = e - MI 92 c.toNat → putL (MI 91) (MI 93) (selL (MI 90 0).toNat (MI 92) (MI 93) n (hdec h c.toNat) e2) ((put1 (MI 91) (MI 93) c.toNat (lo, f, w, p)).1, (put1 (MI 91) (MI 93) c.toNat (lo, f, w, p)).2.1, (put1 (MI 91) (MI 93) c.toNat (lo, f, w, p)).2.2.1, (put1 (MI 91) (MI 93) c.toNat (lo, f, w, p)).2.2.2) = x := by
          intro e2 he2
          subst he2
          rw [← hp]
          simp only [selL]
          rw [← hc, if_neg (by omega)]
          simp only [putL]
          rw [if_neg (show ¬ lo ≤ 0 by omega)]
        have hq2 : ∀ e2, e2 = e - MI 92 c.toNat → ∀ i, i < 12 → selH (MI 90 0).toNat (MI 92) (MI 93) n (hdec h c.toNat) e2 i = hx i := by
          intro e2 he2 i hi
          subst he2
          rw [← hq i hi]
          simp only [selH]
          rw [← hc, if_neg (by omega)]
        have hpb : -100000 ≤ (put1 (MI 91) (MI 93) c.toNat (lo, f, w, p)).1 ∧ (put1 (MI 91) (MI 93) c.toNat (lo, f, w, p)).1 ≤ 100000 := by
          simp only [put1]
          split
          · show -100000 ≤ lo ∧ lo ≤ 100000
            omega
          · split
            · show -100000 ≤ lo - MI 93 c.toNat ∧ lo - MI 93 c.toNat ≤ 100000
              omega
            · show -100000 ≤ lo ∧ lo ≤ 100000
              omega
        refine v_aload_n K 4 dX9_move_164 rfl rfl ?_
        refine v_iload_n K 5 dX9_move_165 rfl rfl ?_
        refine v_iload K 0 dX9_move_166 rfl ?_
        refine v_cVv K (c_X9_playCard (S.1.ok hM) s hs _ rfl c.toNat (by omega) _ (by omega)) rfl fc_X9_108 wm_X9_playCard ws_X9_playCard (by decide) 9 rfl (by decide) rfl rfl (by decide) (Nat.le_of_ble_eq_true rfl) dX9_move_168 (fun M168 L168 h168 => ?_)
        obtain ⟨hl168, hm168⟩ := h168
        subst M168 L168
        have S2 := mvS_put S hs (c := c.toNat) (by omega)
        refine v_iload K 1 dX9_move_171 rfl ?_
        refine v_aload_n K 4 dX9_move_173 rfl rfl ?_
        refine v_getr K ff_X9_13 (by decide) rfl rfl rfl dX9_move_174 ?_
        refine v_iload K 0 dX9_move_177 rfl ?_
        refine v_iald K (c.toNat) (by decide) rfl (by omega) (by show _ < 12; omega) dX9_move_179 ?_
        refine v_eqi (MI 92 c.toNat) (by rw [S2.1.row (by decide)]) ?_
        refine v_isub K dX9_move_180 ?_
        refine v_istore K (fun q9 => [(4, .int (iI q9)), (5, .int (iI c)), (3, .int (iI y)), (2, .int (iI (d : Int))), (0, .ref (Q 90)), (1, .int (iI (s : Int)))]) dX9_move_181 (by decide) (fun _ => rfl) (fun e2 he2 => ?_)
        refine v_aload_n K 4 dX9_move_183 rfl rfl ?_
        refine v_iload_n K 5 dX9_move_184 rfl rfl ?_
        refine v_iload K 0 dX9_move_185 rfl ?_
        have hok2 : hOk (hdec h c.toNat) n := hok.dec (by omega) w1.1
        refine v_cVi K (c_X9_nextCard (S2.1.ok hM) s hs _ rfl e2 ⟨by omega, by omega⟩ (fun i hi => by rw [S2.2.1 i hi]; have := (hok2.b hi); exact ⟨by omega, by omega⟩)) rfl fc_X9_100 wm_X9_nextCard ws_X9_nextCard (by decide) 9 rfl (by decide) rfl rfl (by decide) (Nat.le_of_ble_eq_true rfl) dX9_move_187 (fun r187 M187 L187 h187 => ?_)
        obtain ⟨hm187, hl187, hr187⟩ := h187
        subst M187 L187
        refine v_istore K (fun q9 => [(5, .int (iI q9)), (4, .int (iI e2)), (3, .int (iI y)), (2, .int (iI (d : Int))), (0, .ref (Q 90)), (1, .int (iI (s : Int)))]) dX9_move_190 (by decide) (fun _ => rfl) (fun c2 hc2 => ?_)
        refine v_goto K 151 dX9_move_192 (by decide) ?_
        have eb : c2 = bst (MI 92) (MI 93) (hdec h c.toNat) e2 (MI 90 0).toNat := by
          rw [hc2, hr187, S2.1.row (show 92 < 97 by decide), S2.1.row (show 93 < 97 by decide), S2.1.row (show 90 < 97 by decide)]
          exact bst_congr _ (fun i hi => S2.2.1 i (by omega))
        exact ih _ _ e2 c2 y _ _ _ _ eb (by omega) hok2 (by omega) (by omega) hpb.1 hpb.2 S2 (hp2 e2 he2) (hq2 e2 he2)
