theorem lo_eq {MI M : ZM} {d : Nat} {q : Int} (h6 : M (6 + 2 * d) 1 = MI (6 + 2 * d) 1) (h7 : M (7 + 2 * d) = MI (7 + 2 * d)) : loN M d q = loN MI d q ∧ loC M d q = loC MI d q := by
  unfold loN loC
  rw [h6, h7]
  exact ⟨rfl, rfl⟩
set_option maxRecDepth 100000 in
set_option maxHeartbeats 4000000 in
theorem l_X5_lay {X : VX} {Q : Nat → Nat} {MI ML : ZM} (K : VK X cX5_lay RX5 5 none 3 71 0 0) (hM : cOk MI) (p : Nat) (hp : isPl p) (d : Nat) (hd : d < 5) (q : Int) (hq : q = -1 ∨ (0 ≤ q ∧ q < MI (6 + 2 * d) 1)) (E : VE X 0 0 110 Q (zq Q (zV fun M L => L = ML ∧ plF MI M p ∧ plR M p (plL (MI 1 3).toNat (MI 3) (MI 4) (loN MI d q) (loC MI d q))))) : ∀ (n t : Nat) (M : ZM) (h : Nat → Int) (hs dr : Nat) (y : Int), y = (t : Int) + 1 → t + n = 12 → dr ≤ 10 → lyS MI M p d q (plL (MI 1 3).toNat (MI 3) (MI 4) (loN MI d q) (loC MI d q)) t h hs dr → drw (loN MI d q) (loC MI d q) 1 (h, dr) = drw (loN MI d q) (loC MI d q) (ndr t) (pst (MI 1 3).toNat (MI 3) (MI 4) (loN MI d q) (loC MI d q) t) → V X (0, 0) 110 Q z_rf M ML 24 [(4, .int (iI y)), (0, .ref (Q p)), (1, .ref (Q 1)), (2, .ref (Q (6 + 2 * d))), (3, .int (iI q))] [] := by
  have us := hM.2.2.2.2.1 d hd
  have p31 := hp.1
  have p90 := hp.2.1
  have hn10 : loN MI d q ≤ 10 := by unfold loN; split <;> omega
  intro n
  induction n with
  | zero =>
    intro t M h hs dr y hy ht hd10 S hDr
    obtain rfl : t = 12 := by omega
    refine v_iload K 0 dX5_lay_24 rfl ?_
    refine v_bipush K dX5_lay_26 (by decide) ?_
    refine v_icmp_gt K 66 ⟨by omega, by omega⟩ ⟨by omega, by omega⟩ dX5_lay_28 (by decide) (fun h28 => ?_) (fun h28 => ?_)
    · exact v_rv K E dX5_lay_66 ⟨rfl, S.1, fun j hj => S.2.2.2.2.1 j hj, S.2.2.2.2.2, by have := S.2.2.1; omega⟩
    · exact absurd h28 (by omega)
  | succ n ih =>
    intro t M h hs dr y hy ht hd10 S hDr
    refine v_iload K 0 dX5_lay_24 rfl ?_
    refine v_bipush K dX5_lay_26 (by decide) ?_
    refine v_icmp_gt K 66 ⟨by omega, by omega⟩ ⟨by omega, by omega⟩ dX5_lay_28 (by decide) (fun h28 => ?_) (fun h28 => ?_)
    · exact absurd h28 (by omega)
    · have hMM : cOk M := cOk_of (fun a b h => S.1 a b (by omega)) hM
      have r6 : M (6 + 2 * d) 1 = MI (6 + 2 * d) 1 := S.1 _ _ (by omega)
      have r7 : M (7 + 2 * d) = MI (7 + 2 * d) := funext fun b => S.1 _ b (by omega)
      have lo := lo_eq (q := q) r6 r7
      have s3 := S.2.2.1
      refine v_aload_n K 1 dX5_lay_31 rfl rfl ?_
      refine v_aload_n K 3 dX5_lay_32 rfl rfl ?_
      refine v_iload_n K 4 dX5_lay_33 rfl rfl ?_
      refine v_cVv K (c_X5_draw hMM p hp d hd q (by rw [r6]; exact hq) hs dr S.2.1.1 (by omega) hd10 S.2.1.2.1) rfl fc_X5_31 wm_X5_draw ws_X5_draw (by have := hp.1; have := hp.2.1; omega) 5 hp.2.2.1 (by decide) rfl rfl (by decide) (Nat.le_of_ble_eq_true rfl) dX5_lay_34 (fun M34 L34 h34 => ?_)
      obtain ⟨hl34, D1, hs2, D2, D3⟩ := h34
      subst L34
      rw [lo.1, lo.2, S.2.1.2.2, hDr] at D2 D3
      have D4 := drw_le (n := loN MI d q) (cd := loC MI d q) (h := h) (dr := dr) hn10 hd10
      rw [hDr] at D4
      have f1 : plF MI M34 p := fun a b hab => (D1 a b (by omega)).trans (S.1 a b hab)
      have r33 : M34 3 = MI 3 := funext fun b => f1 3 b (by omega)
      have r34 : M34 4 = MI 4 := funext fun b => f1 4 b (by omega)
      have r13 : M34 1 3 = MI 1 3 := f1 1 3 (by omega)
      have e5 : M34 p 5 = (plC (plL (MI 1 3).toNat (MI 3) (MI 4) (loN MI d q) (loC MI d q)) t).length := (D1 p 5 (by omega)).trans S.2.2.2.1
      refine v_aload_n K 1 dX5_lay_37 rfl rfl ?_
      refine v_aload_n K 2 dX5_lay_38 rfl rfl ?_
      refine v_iload K 0 dX5_lay_39 rfl ?_
      refine v_bipush K dX5_lay_41 (by decide) ?_
      refine v_mmin K ⟨by omega, by omega⟩ ⟨by omega, by omega⟩ wq_minL ⟨by decide, Nat.le_of_ble_eq_true rfl, Nat.zero_le _, Nat.zero_le _⟩ dX5_lay_43 ?_
      refine v_eqi (eng (t + 1)) (by unfold eng; split <;> split <;> omega) ?_
      have ge : 0 ≤ eng (t + 1) ∧ eng (t + 1) ≤ 6 := by unfold eng; split <;> omega
      refine v_cVv K (c_X5_playHand (cOk_of (fun a b h => f1 a b (by omega)) hM) p hp (plC (plL (MI 1 3).toNat (MI 3) (MI 4) (loN MI d q) (loC MI d q)) t).length hs2 (by omega) e5 D2.1 (eng (t + 1)) ge.1 ge.2) rfl fc_X5_41 wm_X5_playHand ws_X5_playHand (by have := hp.1; have := hp.2.1; omega) 5 hp.2.2.1 (by decide) rfl rfl (by decide) (Nat.le_of_ble_eq_true rfl) dX5_lay_46 (fun M46 L46 h46 => ?_)
      obtain ⟨hl46, hs3, P1, P2⟩ := h46
      subst L46
      rw [r33, r34, r13, D2.2.2] at P1 P2
      refine v_aload_n K 1 dX5_lay_49 rfl rfl ?_
      refine v_getr K ff_X5_15 (by have := hp.1; have := hp.2.1; omega) hp.2.2.1 rfl hp.2.2.2.1.2.1 dX5_lay_50 ?_
      refine v_iload K 0 dX5_lay_53 rfl ?_
      refine v_aload_n K 1 dX5_lay_55 rfl rfl ?_
      refine v_geti K ff_X5_28 (by have := hp.1; have := hp.2.1; omega) hp.2.2.1 rfl dX5_lay_56 ?_
      refine v_eqi (((plC (plL (MI 1 3).toNat (MI 3) (MI 4) (loN MI d q) (loC MI d q)) (t + 1)).length : Int)) (by rw [P1.2.2.2.1]; show _ = ((plC _ t ++ plL _ _ _ _ _ t).length : Int); rw [List.length_append]; simp [plL]) ?_
      refine v_iast K (t + 1) (by have := hp.2.1; omega) hp.2.2.2.2.2.1.1 (by omega) (by rw [hp.2.2.2.2.2.1.2]; omega) dX5_lay_59 ?_
      refine v_iinc K 0 (fun q9 => [(4, .int (iI q9)), (0, .ref (Q p)), (1, .ref (Q 1)), (2, .ref (Q (6 + 2 * d))), (3, .int (iI q))]) dX5_lay_60 rfl (by decide) (fun _ => rfl) (fun w hw => ?_)
      refine v_goto K 24 dX5_lay_63 (by decide) ?_
      have eC : plC (plL (MI 1 3).toNat (MI 3) (MI 4) (loN MI d q) (loC MI d q)) (t + 1) = plC (plL (MI 1 3).toNat (MI 3) (MI 4) (loN MI d q) (loC MI d q)) t ++ (plL (MI 1 3).toNat (MI 3) (MI 4) (loN MI d q) (loC MI d q)) t := rfl
      have eL : (plL (MI 1 3).toNat (MI 3) (MI 4) (loN MI d q) (loC MI d q)) t = selL (MI 1 3).toNat (MI 3) (MI 4) 10 (drw (loN MI d q) (loC MI d q) (ndr t) (pst (MI 1 3).toNat (MI 3) (MI 4) (loN MI d q) (loC MI d q) t)).1 (eng (t + 1)) := rfl
      rw [← eL] at P1 P2
      refine ih (t + 1) _ (selH (MI 1 3).toNat (MI 3) (MI 4) 10 (drw (loN MI d q) (loC MI d q) (ndr t) (pst (MI 1 3).toNat (MI 3) (MI 4) (loN MI d q) (loC MI d q) t)).1 (eng (t + 1))) hs3 (drw (loN MI d q) (loC MI d q) (ndr t) (pst (MI 1 3).toNat (MI 3) (MI 4) (loN MI d q) (loC MI d q) t)).2 w (by omega) (by omega) D4.1 ⟨fun a b hab => ?_, ⟨⟨?_, P1.2.1.2.1, fun i hi => ?_⟩, ?_, ?_⟩, ?_, ?_, fun j hj => ?_, fun i hi => ?_⟩ ?_
      · rw [z_up_k (by omega), P1.1 a b (by omega)]; exact f1 a b hab
      · rw [z_up_k (by omega)]; exact P1.2.1.1
      · rw [z_up_k (by omega), z_up_k (by omega)]; exact P1.2.1.2.2 i hi
      · rw [z_up_k (by omega), P1.1 p 4 (by omega)]; exact D2.2.1
      · rw [show ∀ v : Int, z_up M46 (p + 2) (t + 1) v (p + 3) = M46 (p + 3) from fun v => funext fun b => z_up_k (by omega)]; exact P1.2.2.1
      · rw [eC, List.length_append]; omega
      · rw [z_up_k (by omega), P1.2.2.2.1, eC, List.length_append]; simp
      · by_cases e : j = t + 1
        · subst e; rw [z_up_s]
        · rw [z_up_j e, P1.1 (p + 2) j (by omega), D1 (p + 2) j (by omega)]; exact S.2.2.2.2.1 j (by omega)
      · rw [z_up_k (by omega)]
        rw [eC] at hi ⊢
        rw [List.length_append] at hi
        by_cases e : i < (plC (plL (MI 1 3).toNat (MI 3) (MI 4) (loN MI d q) (loC MI d q)) t).length
        · rw [P1.2.2.2.2.1 i e, D1 (p + 1) i (by omega), S.2.2.2.2.2 i e]; simp [List.getD, List.getElem?_append_left e]
        · have q9 := P1.2.2.2.2.2 (i - (plC (plL (MI 1 3).toNat (MI 3) (MI 4) (loN MI d q) (loC MI d q)) t).length) (by omega)
          rw [show (plC (plL (MI 1 3).toNat (MI 3) (MI 4) (loN MI d q) (loC MI d q)) t).length + (i - (plC (plL (MI 1 3).toNat (MI 3) (MI 4) (loN MI d q) (loC MI d q)) t).length) = i by omega] at q9
          rw [q9]; simp [List.getD, List.getElem?_append_right (Nat.le_of_not_lt e)]
      · rfl
set_option maxRecDepth 100000 in
set_option maxHeartbeats 4000000 in
theorem c_X5_lay {l : Launch} {D : va_G} {Z : ZC} {Q : Nat → Nat} {MI ML : ZM} (hM : cOk MI) (p : Nat) (hp : isPl p) (d : Nat) (hd : d < 5) (q : Int) (hq : q = -1 ∨ (0 ≤ q ∧ q < MI (6 + 2 * d) 1)) (hz : MI (p + 2) 0 = 0) (q9 : Int) (hq9 : q9 = q) : C_X5_lay l D Z Q [.ref (Q p), .ref (Q 1), .ref (Q (6 + 2 * d)), .int (iI q9)] MI ML (zV fun M L => L = ML ∧ plF MI M p ∧ plR M p (plL (MI 1 3).toNat (MI 3) (MI 4) (loN MI d q) (loC MI d q))) := by
  subst q9
  refine CM.of (by decide +kernel) (Nat.le_of_ble_eq_true rfl) ?_
  intro X K E _ _ _ _
  show V X (0, 0) 110 Q z_rf MI ML 0 [(0, .ref (Q p)), (1, .ref (Q 1)), (2, .ref (Q (6 + 2 * d))), (3, .int (iI q))] []
  refine v_aload_n K 0 dX5_lay_0 rfl rfl ?_
  refine v_iconst K dX5_lay_1 ?_
  refine v_puti K fp_X5_21 (by have := hp.1; have := hp.2.1; omega) hp.2.2.1 rfl dX5_lay_2 ?_
  refine v_aload_n K 0 dX5_lay_5 rfl rfl ?_
  refine v_iconst K dX5_lay_6 ?_
  refine v_puti K fp_X5_25 (by have := hp.1; have := hp.2.1; omega) hp.2.2.1 rfl dX5_lay_7 ?_
  refine v_aload_n K 0 dX5_lay_10 rfl rfl ?_
  refine v_iconst K dX5_lay_11 ?_
  refine v_puti K fp_X5_28 (by have := hp.1; have := hp.2.1; omega) hp.2.2.1 rfl dX5_lay_12 ?_
  refine v_aload_n K 0 dX5_lay_15 rfl rfl ?_
  refine v_aload_n K 2 dX5_lay_16 rfl rfl ?_
  refine v_iload_n K 3 dX5_lay_17 rfl rfl ?_
  have us := hM.2.2.2.2.1 d hd
  have p31 := hp.1
  have p90 := hp.2.1
  have hn10 : loN MI d q ≤ 10 := by unfold loN; split <;> omega
  obtain ⟨M1, hM1⟩ : ∃ M1, M1 = z_up (z_up (z_up MI p 3 0) p 4 0) p 5 0 := ⟨_, rfl⟩
  rw [← hM1]
  have f1 : ∀ a b, ¬ (a = p ∧ (b = 3 ∨ b = 4 ∨ b = 5)) → M1 a b = MI a b := fun a b h => by rw [hM1]; simp only [z_up]; rw [if_neg (by omega), if_neg (by omega), if_neg (by omega)]
  have e3 : M1 p 3 = ((0 : Nat) : Int) := by rw [hM1, z_up_j (by decide), z_up_j (by decide), z_up_s]; rfl
  have e4 : M1 p 4 = 0 := by rw [hM1, z_up_j (by decide), z_up_s]
  have e5 : M1 p 5 = 0 := by rw [hM1, z_up_s]
  have lo := lo_eq (q := q) (f1 (6 + 2 * d) 1 (by omega)) (funext fun b => f1 (7 + 2 * d) b (by omega))
  have z0 : hOf (M1 (p + 3)) 0 = fun _ => 0 := rfl
  refine v_cVv K (c_X5_draw (cOk_of (fun a b h => f1 a b (by omega)) hM) p hp d hd q (by rw [f1 _ _ (by omega)]; exact hq) 0 0 ⟨e3, by omega, fun i hi => absurd hi (by omega)⟩ (Nat.le_refl _) (by omega) (by rw [e4]; unfold rawR nxt; split <;> omega)) rfl fc_X5_31 wm_X5_draw ws_X5_draw (by have := hp.1; have := hp.2.1; omega) 5 hp.2.2.1 (by decide) rfl rfl (by decide) (Nat.le_of_ble_eq_true rfl) dX5_lay_18 (fun M18 L18 h18 => ?_)
  obtain ⟨hl18, D1, hs2, D2, D3⟩ := h18
  subst L18
  rw [lo.1, lo.2, z0] at D2 D3
  have D4 := drw_le (n := loN MI d q) (cd := loC MI d q) (h := fun _ => 0) (dr := 0) hn10 (by omega)
  refine v_iconst K dX5_lay_21 ?_
  refine v_istore K (fun q9 => [(4, .int (iI q9)), (0, .ref (Q p)), (1, .ref (Q 1)), (2, .ref (Q (6 + 2 * d))), (3, .int (iI q))]) dX5_lay_22 (by decide) (fun _ => rfl) (fun y hy => ?_)
  refine l_X5_lay K hM p hp d hd q hq E 12 0 M18 _ hs2 _ y (by omega) rfl D4.1 ⟨fun a b hab => (D1 a b (by omega)).trans (f1 a b (by omega)), D2, by simp [plC]; omega, by rw [D1 p 5 (by omega), e5]; simp [plC], fun j hj => ?_, fun i hi => absurd hi (by simp [plC])⟩ ?_
  · obtain rfl : j = 0 := by omega
    rw [D1 _ _ (by omega), f1 _ _ (by omega), hz]; simp [plC]
  · exact drw_2 _ _ _
