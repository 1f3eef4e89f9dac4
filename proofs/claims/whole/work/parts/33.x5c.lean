/-- what playHand may change -/
def phF (MI M : ZM) (p : Nat) : Prop := ∀ a b, ¬ ((a = p ∧ (b = 3 ∨ b = 5)) ∨ a = p + 1 ∨ a = p + 3) → M a b = MI a b
theorem np_bst {co po f : Nat → Int} {e r : Int} {hs nc : Nat} (hf : ∀ i, i < hs → 0 ≤ f i ∧ f i < nc) (h : ((r = -1 ∧ ∀ j, j < hs → e < co (f j).toNat) ∨ (0 ≤ r ∧ r < hs ∧ co (f r.toNat).toNat ≤ e ∧ ∀ j, j < hs → co (f j).toNat ≤ e → (f j).toNat = (f r.toNat).toNat ∨ ahd co po (f r.toNat).toNat (f j).toNat))) : (r = -1 ∧ bst co po (hOf f hs) e nc = -1) ∨ (0 ≤ r ∧ r < hs ∧ bst co po (hOf f hs) e nc = (f r.toNat).toNat) := by
  rcases h with ⟨h1, h2⟩ | ⟨h1, h2, h3, h4⟩
  · refine Or.inl ⟨h1, bst_no (fun d hd hp => ?_)⟩
    obtain ⟨i, hi, e1⟩ := cnt_pos hs hp
    have := h2 i hi
    rw [e1] at this
    simpa using this
  · have hr := hf r.toNat (by omega)
    refine Or.inr ⟨h1, h2, bst_is (by omega) (cnt_has hs (i := r.toNat) (by omega) (by omega)) h3 (fun d hd hp hc => ?_)⟩
    obtain ⟨i, hi, e1⟩ := cnt_pos hs hp
    have := h4 i hi (by rw [e1]; simpa using hc)
    rw [e1] at this
    simpa using this
/-- within playHand: the memory M, hs cards in the hand h, pd played, from MI on; l those played here -/
def phS (MI M : ZM) (p : Nat) (h : Nat → Int) (hs pd0 : Nat) (l : List Nat) : Prop := phF MI M p ∧ hdS M p hs ∧ hOf (M (p + 3)) hs = h ∧ M p 5 = (pd0 : Int) + l.length ∧ (∀ i, i < pd0 → M (p + 1) i = MI (p + 1) i) ∧ ∀ i, i < l.length → M (p + 1) (pd0 + i) = (l.getD i 0 : Nat)
theorem phS_put {MI M : ZM} {p hs pd0 k : Nat} {h : Nat → Int} {l : List Nat} (hp : isPl p) (S : phS MI M p h hs pd0 l) (hk : k < hs) : phS MI (z_up (z_up (z_up (z_up M (p + 1) (pd0 + l.length) (M (p + 3) k)) p 5 (((pd0 + l.length : Nat) : Int) + 1)) p 3 ((hs : Int) - 1)) (p + 3) k (M (p + 3) (hs - 1))) p (hdec h (M (p + 3) k).toNat) (hs - 1) pd0 (l ++ [(M (p + 3) k).toNat]) := by
  obtain ⟨s1, s2, s3, s4, s5, s6⟩ := S
  have p31 := hp.1
  have hk0 := s2.2.2 k hk
  refine ⟨fun a b hab => ?_, ⟨?_, by have := s2.2.1; omega, fun i hi => ?_⟩, ?_, ?_, fun i hi => ?_, fun i hi => ?_⟩
  · rw [← s1 a b hab]
    simp only [z_up]
    rw [if_neg (by omega), if_neg (by omega), if_neg (by omega), if_neg (by omega)]
  · rw [z_up_k (by omega), z_up_s]; omega
  · rw [show ∀ (A B C E : Int), z_up (z_up (z_up (z_up M (p + 1) (pd0 + l.length) A) p 5 B) p 3 C) (p + 3) k E 1 3 = M 1 3 from fun A B C E => by rw [z_up_k (by omega), z_up_k (by omega), z_up_k (by omega), z_up_k (by omega)]]
    by_cases e : i = k
    · subst e; rw [z_up_s]; exact s2.2.2 _ (by omega)
    · rw [z_up_j e, z_up_k (by omega), z_up_k (by omega), z_up_k (by omega)]; exact s2.2.2 i (by omega)
  · rw [← s3]
    obtain ⟨m, rfl⟩ : ∃ m, hs = m + 1 := ⟨hs - 1, by omega⟩
    refine hOf_rem hk hk0.1 ?_ (fun i hi hne => ?_)
    · first | (rw [z_up_s]; done) | (rw [z_up_s]; rfl)
    · rw [z_up_j hne, z_up_k (by omega), z_up_k (by omega), z_up_k (by omega)]
  · rw [z_up_k (by omega), z_up_j (by decide), z_up_s]; simp; omega
  · rw [z_up_k (by omega), z_up_k (by omega), z_up_k (by omega), z_up_j (by omega)]; exact s5 i hi
  · rw [z_up_k (by omega), z_up_k (by omega), z_up_k (by omega)]
    by_cases e : i = l.length
    · subst e
      rw [z_up_s]
      simp
      omega
    · have hi2 : i < l.length := by simp at hi; omega
      rw [z_up_j (by omega), s6 i hi2]
      simp [List.getD, List.getElem?_append_left hi2]
set_option maxRecDepth 100000 in
set_option maxHeartbeats 4000000 in
theorem l_X5_playHand {X : VX} {Q : Nat → Nat} {MI ML : ZM} (K : VK X cX5_playHand RX5 6 none 2 46 0 0) (hM : cOk MI) (p : Nat) (hp : isPl p) (pd0 m0 : Nat) (hm0 : pd0 + m0 ≤ 10) (hx : Nat → Int) (lx : List Nat) (e0 : Int) (E : VE X 0 0 110 Q (zq Q (zV fun M L => L = ML ∧ ∃ hs2, phS MI M p hx hs2 pd0 lx ∧ hs2 + lx.length = m0))) : ∀ (n k : Nat) (M : ZM) (h : Nat → Int) (hs : Nat) (l : List Nat) (e y : Int), y = k → k + n = 10 → hs ≤ n → hs + l.length = m0 → 0 ≤ e → e ≤ 6 → phS MI M p h hs pd0 l → l ++ selL (MI 1 3).toNat (MI 3) (MI 4) n h e = lx → selH (MI 1 3).toNat (MI 3) (MI 4) n h e = hx → V X (0, 0) 110 Q z_rf M ML 5 [(4, .int (iI y)), (3, .int (iI e)), (0, .ref (Q p)), (1, .ref (Q 1)), (2, .int (iI e0))] [] := by
  have u0 := hM.1
  have ua := hM.2.2.2.1
  have p31 := hp.1
  intro n
  induction n with
  | zero =>
    intro k M h hs l e y hy hk hsn hlm he0 he6 S hL hH
    refine v_iload K 0 dX5_playHand_5 rfl ?_
    refine v_bipush K dX5_playHand_7 (by decide) ?_
    refine v_icmp_ge K 54 ⟨by omega, by omega⟩ ⟨by omega, by omega⟩ dX5_playHand_9 (by decide) (fun h9 => ?_) (fun h9 => ?_)
    · simp only [selL, List.append_nil] at hL
      simp only [selH] at hH
      subst hL
      subst hH
      exact v_rv K E dX5_playHand_54 ⟨rfl, hs, S, hlm⟩
    · exact absurd h9 (by omega)
  | succ n ih =>
    intro k M h hs l e y hy hk hsn hlm he0 he6 S hL hH
    refine v_iload K 0 dX5_playHand_5 rfl ?_
    refine v_bipush K dX5_playHand_7 (by decide) ?_
    refine v_icmp_ge K 54 ⟨by omega, by omega⟩ ⟨by omega, by omega⟩ dX5_playHand_9 (by decide) (fun h9 => ?_) (fun h9 => ?_)
    · exact absurd h9 (by omega)
    · refine v_aload_n K 2 dX5_playHand_12 rfl rfl ?_
      refine v_aload_n K 3 dX5_playHand_13 rfl rfl ?_
      refine v_iload_n K 1 dX5_playHand_14 rfl rfl ?_
      have hMM : cOk M := cOk_of (fun a b h => S.1 a b (by omega)) hM
      have r3 : M 3 = MI 3 := funext fun b => S.1 3 b (by omega)
      have r4 : M 4 = MI 4 := funext fun b => S.1 4 b (by omega)
      have r13 : M 1 3 = MI 1 3 := S.1 1 3 (by omega)
      refine v_cVi K (c_X5_nextPlace hMM p hp hs S.2.1 e ⟨by omega, by omega⟩) rfl fc_X5_53 wm_X5_nextPlace ws_X5_nextPlace (by have := hp.1; have := hp.2.1; omega) 5 hp.2.2.1 (by decide) rfl rfl (by decide) (Nat.le_of_ble_eq_true rfl) dX5_playHand_15 (fun r15 M15 L15 h15 => ?_)
      obtain ⟨hm15, hl15, hr15⟩ := h15
      subst M15 L15
      have b := np_bst (nc := (MI 1 3).toNat) (fun i hi => by have := S.2.1.2.2 i hi; rw [r13] at this; omega) hr15
      rw [r3, r4, S.2.2.1] at b
      refine v_istore K (fun q9 => [(5, .int (iI q9)), (4, .int (iI y)), (3, .int (iI e)), (0, .ref (Q p)), (1, .ref (Q 1)), (2, .int (iI e0))]) dX5_playHand_18 (by decide) (fun _ => rfl) (fun z hz => ?_)
      refine v_iload K 0 dX5_playHand_20 rfl ?_
      refine v_iconst K dX5_playHand_22 ?_
      refine v_icmp_ne K 27 ⟨by omega, by omega⟩ ⟨by omega, by omega⟩ dX5_playHand_23 (by decide) (fun h23 => ?_) (fun h23 => ?_)
      · have b2 : 0 ≤ z ∧ z < hs ∧ bst (MI 3) (MI 4) h e (MI 1 3).toNat = (M (p + 3) z.toNat).toNat := by rcases b with ⟨q, -⟩ | ⟨q1, q2, q3⟩; exact absurd (hz.trans q) h23; exact ⟨by omega, by omega, by rw [hz]; exact q3⟩
        have q1 := S.2.1.2.2 z.toNat (by omega)
        rw [r13] at q1
        have q2 := ua (M (p + 3) z.toNat).toNat (by omega)
        have q3 := bst_h (MI 3) (MI 4) h e (MI 1 3).toNat (by omega)
        rw [b2.2.2] at q3
        simp only [Int.toNat_natCast] at q3
        refine v_iload_n K 2 dX5_playHand_27 rfl rfl ?_
        refine v_aload_n K 4 dX5_playHand_28 rfl rfl ?_
        refine v_getr K ff_X5_57 (by decide) rfl rfl rfl dX5_playHand_29 ?_
        refine v_aload_n K 3 dX5_playHand_32 rfl rfl ?_
        refine v_getr K ff_X5_18 (by have := hp.1; have := hp.2.1; omega) hp.2.2.1 rfl hp.2.2.2.1.2.2 dX5_playHand_33 ?_
        refine v_iload K 0 dX5_playHand_36 rfl ?_
        refine v_iald K (z.toNat) (by have := hp.2.1; omega) hp.2.2.2.2.2.2.1 (by omega) (by rw [hp.2.2.2.2.2.2.2]; omega) dX5_playHand_38 ?_
        refine v_iald K ((M (p + 3) z.toNat).toNat) (by decide) rfl (by omega) (by show _ < 12; omega) dX5_playHand_39 ?_
        refine v_eqi (MI 3 (M (p + 3) z.toNat).toNat) (by rw [r3]) ?_
        refine v_isub K dX5_playHand_40 ?_
        refine v_istore_n K (fun q9 => [(3, .int (iI q9)), (5, .int (iI z)), (4, .int (iI y)), (0, .ref (Q p)), (1, .ref (Q 1)), (2, .int (iI e0))]) dX5_playHand_41 rfl (by decide) (fun _ => rfl) (fun e2 he2 => ?_)
        refine v_aload_n K 3 dX5_playHand_42 rfl rfl ?_
        refine v_iload K 1 dX5_playHand_43 rfl ?_
        refine v_cVv K (c_X5_putDown p hp hs S.2.1.1 S.2.1.2.1 z.toNat (by omega) (pd0 + l.length) (by rw [S.2.2.2.1]; simp) (by omega) _ (by omega)) rfl fc_X5_62 wm_X5_putDown ws_X5_putDown (by have := hp.1; have := hp.2.1; omega) 5 hp.2.2.1 (by decide) rfl rfl (by decide) (Nat.le_of_ble_eq_true rfl) dX5_playHand_45 (fun M45 L45 h45 => ?_)
        obtain ⟨hl45, hm45⟩ := h45
        subst L45
        refine v_iinc K 2 (fun q9 => [(4, .int (iI q9)), (3, .int (iI e2)), (5, .int (iI z)), (0, .ref (Q p)), (1, .ref (Q 1)), (2, .int (iI e0))]) dX5_playHand_48 rfl (by decide) (fun _ => rfl) (fun w hw => ?_)
        refine v_goto K 5 dX5_playHand_51 (by decide) ?_
        refine v_sub K [0, 1, 3, 4, 5] rfl ?_
        have S2 := phS_put hp S (k := z.toNat) (by omega)
        rw [← hm45] at S2
        refine ih (k + 1) _ _ (hs - 1) _ e2 w (by omega) (by omega) (by omega) (by simp; omega) (by omega) (by omega) S2 ?_ ?_
        · rw [← hL]
          simp only [selL]
          rw [if_neg (by omega), b2.2.2, Int.toNat_natCast, List.append_assoc, he2]
          rfl
        · rw [← hH]
          simp only [selH]
          rw [if_neg (by omega), b2.2.2, Int.toNat_natCast, he2]
      · have e8 : bst (MI 3) (MI 4) h e (MI 1 3).toNat = -1 := by rcases b with ⟨-, q⟩ | ⟨q1, -, -⟩; exact q; exact absurd q1 (by omega)
        simp only [selL] at hL
        rw [if_pos e8, List.append_nil] at hL
        simp only [selH] at hH
        rw [if_pos e8] at hH
        subst hL
        subst hH
        exact v_rv K E dX5_playHand_26 ⟨rfl, hs, S, hlm⟩
set_option maxRecDepth 100000 in
set_option maxHeartbeats 4000000 in
theorem c_X5_playHand {l : Launch} {D : va_G} {Z : ZC} {Q : Nat → Nat} {MI ML : ZM} (hM : cOk MI) (p : Nat) (hp : isPl p) (pd0 hs : Nat) (hm0 : pd0 + hs ≤ 10) (h5 : MI p 5 = pd0) (S : hdS MI p hs) (e0 : Int) (he0 : 0 ≤ e0) (he6 : e0 ≤ 6) : C_X5_playHand l D Z Q [.ref (Q p), .ref (Q 1), .int (iI e0)] MI ML (zV fun M L => L = ML ∧ ∃ hs2, phS MI M p (selH (MI 1 3).toNat (MI 3) (MI 4) 10 (hOf (MI (p + 3)) hs) e0) hs2 pd0 (selL (MI 1 3).toNat (MI 3) (MI 4) 10 (hOf (MI (p + 3)) hs) e0) ∧ hs2 + (selL (MI 1 3).toNat (MI 3) (MI 4) 10 (hOf (MI (p + 3)) hs) e0).length = hs) := by
  refine CM.of (by decide +kernel) (Nat.le_of_ble_eq_true rfl) ?_
  intro X K E _ _ _ _
  show V X (0, 0) 110 Q z_rf MI ML 0 [(0, .ref (Q p)), (1, .ref (Q 1)), (2, .int (iI e0))] []
  refine v_iload_n K 2 dX5_playHand_0 rfl rfl ?_
  refine v_istore_n K (fun q9 => [(3, .int (iI q9)), (0, .ref (Q p)), (1, .ref (Q 1)), (2, .int (iI e0))]) dX5_playHand_1 rfl (by decide) (fun _ => rfl) (fun e he => ?_)
  refine v_iconst K dX5_playHand_2 ?_
  refine v_istore K (fun q9 => [(4, .int (iI q9)), (3, .int (iI e)), (0, .ref (Q p)), (1, .ref (Q 1)), (2, .int (iI e0))]) dX5_playHand_3 (by decide) (fun _ => rfl) (fun y hy => ?_)
  subst he
  exact l_X5_playHand K hM p hp pd0 hs hm0 _ _ e E 10 0 MI (hOf (MI (p + 3)) hs) hs [] e y hy rfl S.2.1 (by simp) he0 he6 ⟨fun _ _ _ => rfl, S, rfl, by simpa using h5, fun _ _ => rfl, fun i hi => absurd hi (by simp)⟩ (by simp) rfl
def plC (pl : Nat → List Nat) : Nat → List Nat
  | 0 => []
  | t + 1 => plC pl t ++ pl t
/-- the plan at p is that of the lists pl -/
def plR (M : ZM) (p : Nat) (pl : Nat → List Nat) : Prop := (∀ t, t ≤ 12 → M (p + 2) t = (plC pl t).length) ∧ (∀ i, i < (plC pl 12).length → M (p + 1) i = ((plC pl 12).getD i 0 : Nat)) ∧ (plC pl 12).length ≤ 10
/-- what lay may change -/
def plF (MI M : ZM) (p : Nat) : Prop := ∀ a b, ¬ (p ≤ a ∧ a ≤ p + 3) → M a b = MI a b
/-- within lay, t TURNS laid; one card more is about to be drawn -/
def lyS (MI M : ZM) (p d : Nat) (q : Int) (pl : Nat → List Nat) (t : Nat) (h : Nat → Int) (hs dr : Nat) : Prop := plF MI M p ∧ pdS M p q h hs dr ∧ hs + (plC pl t).length = dr ∧ M p 5 = (plC pl t).length ∧ (∀ j, j ≤ t → M (p + 2) j = (plC pl j).length) ∧ ∀ i, i < (plC pl t).length → M (p + 1) i = ((plC pl t).getD i 0 : Nat)
theorem drw_2 (n : Nat) (cd : Nat → Nat) (s : (Nat → Int) × Nat) : drw n cd 1 (drw n cd 1 s) = drw n cd 2 s := by
  by_cases h : s.2 < n
  · simp [drw, h]
  · simp [drw, h]
theorem drw_le {n : Nat} {cd : Nat → Nat} {h : Nat → Int} {dr : Nat} (h10 : n ≤ 10) (hd : dr ≤ 10) : (drw n cd 1 (h, dr)).2 ≤ 10 ∧ dr ≤ (drw n cd 1 (h, dr)).2 := by
  simp only [drw]
  split
  · rename_i q; exact ⟨by show dr + 1 ≤ 10; have : dr < n := q; omega, by show dr ≤ dr + 1; omega⟩
  · exact ⟨hd, Nat.le_refl _⟩
