/-- deck d without its place q (-1: all of it) -/
def loN (M : ZM) (d : Nat) (q : Int) : Nat := if q = -1 then (M (6 + 2 * d) 1).toNat else (M (6 + 2 * d) 1).toNat - 1
def loC (M : ZM) (d : Nat) (q : Int) : Nat → Nat := fun k => if q = -1 ∨ (k : Int) < q then (M (7 + 2 * d) k).toNat else (M (7 + 2 * d) (k + 1)).toNat
/-- where the next card stands, dr having been drawn -/
def nxt (q : Int) (dr : Nat) : Int := if q = -1 ∨ (dr : Int) < q then (dr : Int) else (dr : Int) + 1
def rawR (q : Int) (dr : Nat) (raw : Int) : Prop := raw = nxt q dr ∨ ((dr : Int) = q ∧ raw = q)
def dwF (MI M : ZM) (p : Nat) : Prop := ∀ a b, ¬ ((a = p ∧ (b = 3 ∨ b = 4)) ∨ a = p + 3) → M a b = MI a b
def pdS (M : ZM) (p : Nat) (q : Int) (h : Nat → Int) (hs dr : Nat) : Prop := hdS M p hs ∧ rawR q dr (M p 4) ∧ hOf (M (p + 3)) hs = h
theorem cOk_of {MI M : ZM} (h : ∀ a b, a < 16 → M a b = MI a b) (hM : cOk MI) : cOk M := by
  obtain ⟨h1, h2, h3, h4, h5, h6⟩ := hM
  refine ⟨?_, ?_, ?_, ?_, ?_, ?_⟩
  · rw [h _ _ (by decide)]; exact h1
  · rw [h _ _ (by decide)]; exact h2
  · rw [h _ _ (by decide)]; exact h3
  · intro i hi; rw [h _ _ (by decide), h _ _ (by decide), h _ _ (by decide)]; exact h4 i hi
  · intro d hd; rw [h _ _ (by omega)]; exact h5 d hd
  · intro d k hd hk
    rw [h _ _ (by omega)] at hk
    rw [h _ _ (by omega), h _ _ (by decide)]; exact h6 d k hd hk
theorem hOf_put {f g : Nat → Int} {n : Nat} {v : Int} (h0 : 0 ≤ v) (hv : g n = v) (hg : ∀ i, i < n → g i = f i) : hOf g (n + 1) = hinc (hOf f n) v.toNat := by
  funext c
  simp only [hOf, hinc, cnt]
  rw [cnt_congr n hg, hv]
  by_cases e : c = v.toNat
  · rw [if_pos e, if_pos (by omega)]
  · rw [if_neg e, if_neg (by omega)]; omega
theorem hOf_rem {f g : Nat → Int} {n k : Nat} (hk : k < n + 1) (h0 : 0 ≤ f k) (hv : g k = f n) (hg : ∀ i, i < n → i ≠ k → g i = f i) : hOf g n = hdec (hOf f (n + 1)) (f k).toNat := by
  funext c
  simp only [hOf, hdec]
  by_cases e : k = n
  · subst e
    simp only [cnt]
    rw [cnt_congr k (fun i hi => hg i hi (by omega))]
    by_cases q : c = (f k).toNat
    · rw [if_pos q, if_pos (by omega)]; omega
    · rw [if_neg q, if_neg (by omega)]; omega
  · rw [cnt_set n (by omega) (fun j hj hne => hg j hj hne), hv]
    simp only [cnt]
    by_cases q : c = (f k).toNat
    · rw [if_pos q, if_pos (show f k = (c : Int) by omega)]; omega
    · rw [if_neg q, if_neg (show ¬ f k = (c : Int) by omega)]; omega
set_option maxRecDepth 100000 in
set_option maxHeartbeats 4000000 in
theorem l_X5_draw {X : VX} {Q : Nat → Nat} {MI ML : ZM} (K : VK X cX5_draw RX5 3 none 0 0 0 0) (hM : cOk MI) (p : Nat) (hp : isPl p) (d : Nat) (hd : d < 5) (q : Int) (hq : q = -1 ∨ (0 ≤ q ∧ q < MI (6 + 2 * d) 1)) (hs dr : Nat) (S : hdS MI p hs) (hdr : hs ≤ dr) (hd10 : dr ≤ 10) (E : VE X 0 0 110 Q (zq Q (zV fun M L => L = ML ∧ dwF MI M p ∧ ∃ hs2, pdS M p q (drw (loN MI d q) (loC MI d q) 1 (hOf (MI (p + 3)) hs, dr)).1 hs2 (drw (loN MI d q) (loC MI d q) 1 (hOf (MI (p + 3)) hs, dr)).2 ∧ hs2 + dr = hs + (drw (loN MI d q) (loC MI d q) 1 (hOf (MI (p + 3)) hs, dr)).2))) (M : ZM) (F : dwF MI M p) (h4 : M p 4 = nxt q dr) (h3 : M p 3 = hs) (hf : M (p + 3) = MI (p + 3)) : V X (0, 0) 110 Q z_rf M ML 18 [(0, .ref (Q p)), (1, .ref (Q (6 + 2 * d))), (2, .int (iI q))] [] := by
  have us := hM.2.2.2.2.1 d hd
  have uk := hM.2.2.2.2.2
  have u0 := hM.1
  have p31 := hp.1
  have p90 := hp.2.1
  have eS : M (6 + 2 * d) 1 = MI (6 + 2 * d) 1 := F _ _ (by omega)
  have eC : M (7 + 2 * d) = MI (7 + 2 * d) := funext fun b => F _ b (by omega)
  have hx : 0 ≤ nxt q dr ∧ nxt q dr ≤ 11 := by unfold nxt; split <;> omega
  refine v_aload_n K 0 dX5_draw_18 rfl rfl ?_
  refine v_geti K ff_X5_25 (by have := hp.1; have := hp.2.1; omega) hp.2.2.1 rfl dX5_draw_19 ?_
  refine v_eqi (nxt q dr) (h4) ?_
  refine v_aload_n K 1 dX5_draw_22 rfl rfl ?_
  refine v_geti K ff_X5_45 (by omega) (zk_dk hd) rfl dX5_draw_23 ?_
  refine v_eqi (MI (6 + 2 * d) 1) (eS) ?_
  refine v_icmp_ge K 67 ⟨by omega, by omega⟩ ⟨by omega, by omega⟩ dX5_draw_26 (by decide) (fun h26 => ?_) (fun h26 => ?_)
  · exact v_rv K E dX5_draw_67 (by
      have e1 : drw (loN MI d q) (loC MI d q) 1 (hOf (MI (p + 3)) hs, dr) = (hOf (MI (p + 3)) hs, dr) := by
        simp only [drw]
        rw [if_neg (by unfold loN; unfold nxt at h26; split at h26 <;> split <;> omega)]
      rw [e1]
      exact ⟨rfl, F, hs, ⟨⟨h3, S.2.1, fun i hi => by rw [hf, F 1 3 (by omega)]; exact S.2.2 i hi⟩, Or.inl h4, by rw [hf]⟩, rfl⟩)
  · have w := uk d (nxt q dr).toNat hd (by omega)
    have hs10 : hs < 10 := by unfold nxt at h26; split at h26 <;> omega
    refine v_aload_n K 0 dX5_draw_29 rfl rfl ?_
    refine v_getr K ff_X5_18 (by have := hp.1; have := hp.2.1; omega) hp.2.2.1 rfl hp.2.2.2.1.2.2 dX5_draw_30 ?_
    refine v_aload_n K 0 dX5_draw_33 rfl rfl ?_
    refine v_geti K ff_X5_21 (by have := hp.1; have := hp.2.1; omega) hp.2.2.1 rfl dX5_draw_34 ?_
    refine v_eqi ((hs : Int)) (h3) ?_
    refine v_aload_n K 1 dX5_draw_37 rfl rfl ?_
    refine v_getr K ff_X5_50 (by omega) (zk_dk hd) rfl (zr_dk hd) dX5_draw_38 ?_
    refine v_aload_n K 0 dX5_draw_41 rfl rfl ?_
    refine v_geti K ff_X5_25 (by have := hp.1; have := hp.2.1; omega) hp.2.2.1 rfl dX5_draw_42 ?_
    refine v_eqi (nxt q dr) (h4) ?_
    refine v_iald K ((nxt q dr).toNat) (by omega) (zk_dc hd) (by omega) (by rw [zl_dc hd]; omega) dX5_draw_45 ?_
    refine v_eqi (MI (7 + 2 * d) (nxt q dr).toNat) (by rw [eC]) ?_
    refine v_iast K (hs) (by have := hp.2.1; omega) hp.2.2.2.2.2.2.1 rfl (by rw [hp.2.2.2.2.2.2.2]; omega) dX5_draw_46 ?_
    refine v_aload_n K 0 dX5_draw_47 rfl rfl ?_
    refine v_dup K dX5_draw_48 rfl ?_
    refine v_geti K ff_X5_21 (by have := hp.1; have := hp.2.1; omega) hp.2.2.1 rfl dX5_draw_49 ?_
    refine v_eqi ((hs : Int)) (by rw [z_up_k (by omega)]; exact h3) ?_
    refine v_iconst K dX5_draw_52 ?_
    refine v_iadd K dX5_draw_53 ?_
    refine v_puti K fp_X5_21 (by have := hp.1; have := hp.2.1; omega) hp.2.2.1 rfl dX5_draw_54 ?_
    refine v_aload_n K 0 dX5_draw_57 rfl rfl ?_
    refine v_dup K dX5_draw_58 rfl ?_
    refine v_geti K ff_X5_25 (by have := hp.1; have := hp.2.1; omega) hp.2.2.1 rfl dX5_draw_59 ?_
    refine v_eqi (nxt q dr) (by rw [z_up_j (by omega), z_up_k (by omega)]; exact h4) ?_
    refine v_iconst K dX5_draw_62 ?_
    refine v_iadd K dX5_draw_63 ?_
    refine v_puti K fp_X5_25 (by have := hp.1; have := hp.2.1; omega) hp.2.2.1 rfl dX5_draw_64 ?_
    exact v_rv K E dX5_draw_67 (by
      have e1 : drw (loN MI d q) (loC MI d q) 1 (hOf (MI (p + 3)) hs, dr) = (hinc (hOf (MI (p + 3)) hs) (loC MI d q dr), dr + 1) := by
        simp only [drw]
        rw [if_pos (by show dr < loN MI d q; unfold loN; unfold nxt at h26; split at h26 <;> split <;> omega)]
      have e2 : (MI (7 + 2 * d) (nxt q dr).toNat).toNat = loC MI d q dr := by
        unfold loC nxt
        split
        · simp
        · rw [show ((dr : Int) + 1).toNat = dr + 1 by omega]
      rw [e1]
      refine ⟨rfl, fun a b hab => ?_, hs + 1, ⟨⟨?_, by omega, fun i hi => ?_⟩, ?_, ?_⟩, by show hs + 1 + dr = hs + (dr + 1); omega⟩
      · rw [← F a b hab]
        simp only [z_up]
        rw [if_neg (by omega), if_neg (by omega), if_neg (by omega)]
      · rw [z_up_j (by omega), z_up_s]; simp
      · rw [show ∀ (A B C : Int), z_up (z_up (z_up M (p + 3) hs A) p 3 B) p 4 C 1 3 = MI 1 3 from fun A B C => by rw [z_up_k (by omega), z_up_k (by omega), z_up_k (by omega)]; exact F 1 3 (by omega)]
        rw [z_up_k (by omega), z_up_k (by omega)]
        by_cases e : i = hs
        · subst e; rw [z_up_s]; exact w
        · rw [z_up_j e, hf]; exact S.2.2 i (by omega)
      · rw [z_up_s]
        unfold rawR nxt
        split <;> split <;> omega
      · rw [← e2]
        refine hOf_put w.1 ?_ (fun i hi => ?_)
        · rw [z_up_k (by omega), z_up_k (by omega), z_up_s]
        · rw [z_up_k (by omega), z_up_k (by omega), z_up_j (by omega), hf])
set_option maxRecDepth 100000 in
set_option maxHeartbeats 4000000 in
theorem c_X5_draw {l : Launch} {D : va_G} {Z : ZC} {Q : Nat → Nat} {MI ML : ZM} (hM : cOk MI) (p : Nat) (hp : isPl p) (d : Nat) (hd : d < 5) (q : Int) (hq : q = -1 ∨ (0 ≤ q ∧ q < MI (6 + 2 * d) 1)) (hs dr : Nat) (S : hdS MI p hs) (hdr : hs ≤ dr) (hd10 : dr ≤ 10) (hR : rawR q dr (MI p 4)) : C_X5_draw l D Z Q [.ref (Q p), .ref (Q (6 + 2 * d)), .int (iI q)] MI ML (zV fun M L => L = ML ∧ dwF MI M p ∧ ∃ hs2, pdS M p q (drw (loN MI d q) (loC MI d q) 1 (hOf (MI (p + 3)) hs, dr)).1 hs2 (drw (loN MI d q) (loC MI d q) 1 (hOf (MI (p + 3)) hs, dr)).2 ∧ hs2 + dr = hs + (drw (loN MI d q) (loC MI d q) 1 (hOf (MI (p + 3)) hs, dr)).2) := by
  refine CM.of (by decide +kernel) (Nat.le_of_ble_eq_true rfl) ?_
  intro X K E _ _ _ _
  show V X (0, 0) 110 Q z_rf MI ML 0 [(0, .ref (Q p)), (1, .ref (Q (6 + 2 * d))), (2, .int (iI q))] []
  have us := hM.2.2.2.2.1 d hd
  have hr9 : 0 ≤ MI p 4 ∧ MI p 4 ≤ 11 := by unfold rawR nxt at hR; split at hR <;> omega
  refine v_aload_n K 0 dX5_draw_0 rfl rfl ?_
  refine v_geti K ff_X5_25 (by have := hp.1; have := hp.2.1; omega) hp.2.2.1 rfl dX5_draw_1 ?_
  refine v_iload_n K 2 dX5_draw_4 rfl rfl ?_
  refine v_icmp_ne K 18 ⟨by omega, by omega⟩ ⟨by omega, by omega⟩ dX5_draw_5 (by decide) (fun h5 => ?_) (fun h5 => ?_)
  · exact l_X5_draw K hM p hp d hd q hq hs dr S hdr hd10 E MI (fun _ _ _ => rfl) (by unfold rawR at hR; rcases hR with h | h; exact h; exact absurd h.2 h5) S.1 rfl
  · refine v_aload_n K 0 dX5_draw_8 rfl rfl ?_
    refine v_dup K dX5_draw_9 rfl ?_
    refine v_geti K ff_X5_25 (by have := hp.1; have := hp.2.1; omega) hp.2.2.1 rfl dX5_draw_10 ?_
    refine v_eqi (MI p 4) (rfl) ?_
    refine v_iconst K dX5_draw_13 ?_
    refine v_iadd K dX5_draw_14 ?_
    refine v_puti K fp_X5_25 (by have := hp.1; have := hp.2.1; omega) hp.2.2.1 rfl dX5_draw_15 ?_
    exact l_X5_draw K hM p hp d hd q hq hs dr S hdr hd10 E _ (fun a b hab => by simp only [z_up]; rw [if_neg (by omega)]) (by rw [z_up_s]; unfold rawR nxt at hR; unfold nxt; split at hR <;> split <;> omega) (by rw [z_up_j (by omega)]; exact S.1) (funext fun b => z_up_k (by omega))
