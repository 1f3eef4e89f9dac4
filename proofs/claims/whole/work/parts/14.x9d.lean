theorem hOk.mono {h : Nat → Int} {n m : Nat} (q : hOk h n) (hm : n ≤ m) : hOk h m := ⟨q.1, by have := q.2; omega⟩
theorem drw_ok {n : Nat} {cd : Nat → Nat} (hc : ∀ k, k < n → cd k < 12) : ∀ (k : Nat) (h : Nat → Int) (dr : Nat), hOk h dr → hOk (drw n cd k (h, dr)).1 (drw n cd k (h, dr)).2 ∧ dr ≤ (drw n cd k (h, dr)).2 ∧ ((drw n cd k (h, dr)).2 ≤ n ∨ (drw n cd k (h, dr)).2 = dr) := by
  intro k
  induction k with
  | zero => intro h dr q; exact ⟨q, Nat.le_refl _, Or.inr rfl⟩
  | succ k ih =>
    intro h dr q
    simp only [drw]
    split
    · rename_i hl
      have := ih (hinc h (cd dr)) (dr + 1) (q.inc (hc dr hl))
      refine ⟨this.1, by omega, ?_⟩
      rcases this.2.2 with h1 | h1
      · exact Or.inl h1
      · left; omega
    · exact ⟨q, Nat.le_refl _, Or.inr rfl⟩
set_option maxRecDepth 100000 in
set_option maxHeartbeats 4000000 in
theorem l_X9_move_tail {X : VX} {Q : Nat → Nat} {MI ML : ZM} (K : VK X cX9_move RX9 6 none 1 25 0 0) (hM : mOk MI) (s : Nat) (hs : s < 2) (d dr t : Nat) (ht : MI 90 15 = (t : Int) + 1) (ht2 : t < 12) (hdr : dr ≤ 10) (hown : 0 < MI 97 s) (hown2 : MI 97 s ≤ 100000) (x : Int × Int × Int × Int) (hx : Nat → Int) (E : VE X 0 0 110 Q (zq Q (zV fun M L => L = ML ∧ (∃ h1, mvS MI M s h1 dr x.1 x.2.1 x.2.2.1 x.2.2.2 ∧ (0 < x.1 → ∀ i, i < 12 → h1 i = hx i))))) (M : ZM) (h : Nat → Int) (y lo f w p : Int) (hok : hOk h dr) (S : mvS MI M s h dr lo f w p) (hl0 : 0 < lo) (hl1 : lo ≤ 40) (hf0 : 0 ≤ f) (hf1 : f ≤ 10000) (hw0 : 0 ≤ MI 100 (1 - s)) (hw1 : MI 100 (1 - s) ≤ 10000) (hp : putL (MI 91) (MI 93) (selL (MI 90 0).toNat (MI 92) (MI 93) 10 h (eng (t + 1))) (hit lo f (MI 100 (1 - s)), f, w, p) = x) (hq : ∀ i, i < 12 → selH (MI 90 0).toNat (MI 92) (MI 93) 10 h (eng (t + 1)) i = hx i) : V X (0, 0) 110 Q z_rf M ML 86 [(3, .int (iI y)), (2, .int (iI (d : Int))), (0, .ref (Q 90)), (1, .int (iI (s : Int)))] [] := by
  refine v_aload_n K 2 dX9_move_86 rfl rfl ?_
  refine v_getr K ff_X9_38 (by decide) rfl rfl rfl dX9_move_87 ?_
  refine v_iload_n K 3 dX9_move_90 rfl rfl ?_
  refine v_iald K (s) (by decide) rfl rfl (by show _ < 2; omega) dX9_move_91 ?_
  refine v_eqi (f) (S.2.2.2.2.1) ?_
  refine v_aload_n K 2 dX9_move_92 rfl rfl ?_
  refine v_getr K ff_X9_41 (by decide) rfl rfl rfl dX9_move_93 ?_
  refine v_iconst K dX9_move_96 ?_
  refine v_iload_n K 3 dX9_move_97 rfl rfl ?_
  refine v_isub K dX9_move_98 ?_
  refine v_iald K (1 - s) (by decide) rfl (by omega) (by show _ < 2; omega) dX9_move_99 ?_
  refine v_eqi (MI 100 (1 - s)) (S.1 _ _ (by omega)) ?_
  refine v_isub K dX9_move_100 ?_
  refine v_istore_n K (fun q9 => [(3, .int (iI q9)), (2, .int (iI (d : Int))), (0, .ref (Q 90)), (1, .int (iI (s : Int)))]) dX9_move_101 rfl (by decide) (fun _ => rfl) (fun v hv => ?_)
  refine v_aload_n K 2 dX9_move_102 rfl rfl ?_
  refine v_getr K ff_X9_32 (by decide) rfl rfl rfl dX9_move_103 ?_
  refine v_iconst K dX9_move_106 ?_
  refine v_iload_n K 3 dX9_move_107 rfl rfl ?_
  refine v_isub K dX9_move_108 ?_
  refine v_dup2_11 K dX9_move_109 rfl rfl ?_
  refine v_iald K (1 - s) (by decide) rfl (by omega) (by show _ < 2; omega) dX9_move_110 ?_
  refine v_eqi (lo) (S.2.2.2.1) ?_
  refine v_iload_n K 0 dX9_move_111 rfl rfl ?_
  refine v_if_le K 119 ⟨by omega, by omega⟩ dX9_move_112 (by decide) (fun h112 => ?_) (fun h112 => ?_)
  · refine v_iconst K dX9_move_119 ?_
    refine v_isub K dX9_move_120 ?_
    refine v_iast K (1 - s) (by decide) rfl (by omega) (by show _ < 2; omega) dX9_move_121 ?_
    obtain ⟨v9, hv⟩ : ∃ v9, v9 = hit lo f (MI 100 (1 - s)) := ⟨_, rfl⟩
    have hv9 := hv
    refine v_eqM (M := z_up M 97 (1 - s) v9) (by congr 1; rw [hv]; unfold hit; split <;> omega) ?_
    have S2 := mvS_hit S hs v9
    have hb : -100000 ≤ v9 ∧ v9 ≤ 100000 := by rw [hv]; unfold hit; split <;> omega
    refine v_aload_n K 2 dX9_move_122 rfl rfl ?_
    refine v_geti K ff_X9_97 (by decide) rfl rfl dX9_move_123 ?_
    refine v_eqi ((t : Int) + 1) (by rw [z_up_k (by decide), S.1 90 15 (by omega)]; exact ht) ?_
    refine v_bipush K dX9_move_126 (by decide) ?_
    refine v_icmp_ge K 138 ⟨by omega, by omega⟩ ⟨by omega, by omega⟩ dX9_move_128 (by decide) (fun h128 => ?_) (fun h128 => ?_)
    · refine v_bipush K dX9_move_138 (by decide) ?_
      refine v_istore K (fun q9 => [(4, .int (iI q9)), (3, .int (iI v)), (2, .int (iI (d : Int))), (0, .ref (Q 90)), (1, .int (iI (s : Int)))]) dX9_move_140 (by decide) (fun _ => rfl) (fun e he => ?_)
      refine v_aload_n K 3 dX9_move_142 rfl rfl ?_
      refine v_iload_n K 4 dX9_move_143 rfl rfl ?_
      refine v_iload K 0 dX9_move_144 rfl ?_
      refine v_cVi K (c_X9_nextCard (S2.1.ok hM) s hs _ rfl e ⟨by omega, by omega⟩ (fun i hi => by rw [S2.2.1 i hi]; have := (hok.b hi); exact ⟨by omega, by omega⟩)) rfl fc_X9_100 wm_X9_nextCard ws_X9_nextCard (by decide) 9 rfl (by decide) rfl rfl (by decide) (Nat.le_of_ble_eq_true rfl) dX9_move_146 (fun r146 M146 L146 h146 => ?_)
      obtain ⟨hm146, hl146, hr146⟩ := h146
      subst M146 L146
      refine v_istore K (fun q9 => [(5, .int (iI q9)), (4, .int (iI e)), (3, .int (iI v)), (2, .int (iI (d : Int))), (0, .ref (Q 90)), (1, .int (iI (s : Int)))]) dX9_move_149 (by decide) (fun _ => rfl) (fun c hc => ?_)
      have ee : e = eng (t + 1) := by unfold eng; split <;> omega
      have eb : c = bst (MI 92) (MI 93) h e (MI 90 0).toNat := by
        rw [hc, hr146, S2.1.row (show 92 < 97 by decide), S2.1.row (show 93 < 97 by decide), S2.1.row (show 90 < 97 by decide)]
        exact bst_congr _ (fun i hi => S2.2.1 i (by have := hM.1; omega))
      exact l_X9_move_play K hM s hs d dr hown hown2 x hx E 10 _ h e c v _ f w p eb (by omega) (hok.mono hdr) (by omega) (by omega) hb.1 hb.2 S2 (by rw [ee, hv9]; exact hp) (by rw [ee]; exact hq)
    · refine v_aload_n K 2 dX9_move_131 rfl rfl ?_
      refine v_geti K ff_X9_97 (by decide) rfl rfl dX9_move_132 ?_
      refine v_eqi ((t : Int) + 1) (by rw [z_up_k (by decide), S.1 90 15 (by omega)]; exact ht) ?_
      refine v_goto K 140 dX9_move_135 (by decide) ?_
      refine v_istore K (fun q9 => [(4, .int (iI q9)), (3, .int (iI v)), (2, .int (iI (d : Int))), (0, .ref (Q 90)), (1, .int (iI (s : Int)))]) dX9_move_140 (by decide) (fun _ => rfl) (fun e he => ?_)
      refine v_aload_n K 3 dX9_move_142 rfl rfl ?_
      refine v_iload_n K 4 dX9_move_143 rfl rfl ?_
      refine v_iload K 0 dX9_move_144 rfl ?_
      refine v_cVi K (c_X9_nextCard (S2.1.ok hM) s hs _ rfl e ⟨by omega, by omega⟩ (fun i hi => by rw [S2.2.1 i hi]; have := (hok.b hi); exact ⟨by omega, by omega⟩)) rfl fc_X9_100 wm_X9_nextCard ws_X9_nextCard (by decide) 9 rfl (by decide) rfl rfl (by decide) (Nat.le_of_ble_eq_true rfl) dX9_move_146 (fun r146 M146 L146 h146 => ?_)
      obtain ⟨hm146, hl146, hr146⟩ := h146
      subst M146 L146
      refine v_istore K (fun q9 => [(5, .int (iI q9)), (4, .int (iI e)), (3, .int (iI v)), (2, .int (iI (d : Int))), (0, .ref (Q 90)), (1, .int (iI (s : Int)))]) dX9_move_149 (by decide) (fun _ => rfl) (fun c hc => ?_)
      have ee : e = eng (t + 1) := by unfold eng; split <;> omega
      have eb : c = bst (MI 92) (MI 93) h e (MI 90 0).toNat := by
        rw [hc, hr146, S2.1.row (show 92 < 97 by decide), S2.1.row (show 93 < 97 by decide), S2.1.row (show 90 < 97 by decide)]
        exact bst_congr _ (fun i hi => S2.2.1 i (by have := hM.1; omega))
      exact l_X9_move_play K hM s hs d dr hown hown2 x hx E 10 _ h e c v _ f w p eb (by omega) (hok.mono hdr) (by omega) (by omega) hb.1 hb.2 S2 (by rw [ee, hv9]; exact hp) (by rw [ee]; exact hq)
  · refine v_iload_n K 0 dX9_move_115 rfl rfl ?_
    refine v_goto K 120 dX9_move_116 (by decide) ?_
    refine v_isub K dX9_move_120 ?_
    refine v_iast K (1 - s) (by decide) rfl (by omega) (by show _ < 2; omega) dX9_move_121 ?_
    obtain ⟨v9, hv⟩ : ∃ v9, v9 = hit lo f (MI 100 (1 - s)) := ⟨_, rfl⟩
    have hv9 := hv
    refine v_eqM (M := z_up M 97 (1 - s) v9) (by congr 1; rw [hv]; unfold hit; split <;> omega) ?_
    have S2 := mvS_hit S hs v9
    have hb : -100000 ≤ v9 ∧ v9 ≤ 100000 := by rw [hv]; unfold hit; split <;> omega
    refine v_aload_n K 2 dX9_move_122 rfl rfl ?_
    refine v_geti K ff_X9_97 (by decide) rfl rfl dX9_move_123 ?_
    refine v_eqi ((t : Int) + 1) (by rw [z_up_k (by decide), S.1 90 15 (by omega)]; exact ht) ?_
    refine v_bipush K dX9_move_126 (by decide) ?_
    refine v_icmp_ge K 138 ⟨by omega, by omega⟩ ⟨by omega, by omega⟩ dX9_move_128 (by decide) (fun h128 => ?_) (fun h128 => ?_)
    · refine v_bipush K dX9_move_138 (by decide) ?_
      refine v_istore K (fun q9 => [(4, .int (iI q9)), (3, .int (iI v)), (2, .int (iI (d : Int))), (0, .ref (Q 90)), (1, .int (iI (s : Int)))]) dX9_move_140 (by decide) (fun _ => rfl) (fun e he => ?_)
      refine v_aload_n K 3 dX9_move_142 rfl rfl ?_
      refine v_iload_n K 4 dX9_move_143 rfl rfl ?_
      refine v_iload K 0 dX9_move_144 rfl ?_
      refine v_cVi K (c_X9_nextCard (S2.1.ok hM) s hs _ rfl e ⟨by omega, by omega⟩ (fun i hi => by rw [S2.2.1 i hi]; have := (hok.b hi); exact ⟨by omega, by omega⟩)) rfl fc_X9_100 wm_X9_nextCard ws_X9_nextCard (by decide) 9 rfl (by decide) rfl rfl (by decide) (Nat.le_of_ble_eq_true rfl) dX9_move_146 (fun r146 M146 L146 h146 => ?_)
      obtain ⟨hm146, hl146, hr146⟩ := h146
      subst M146 L146
      refine v_istore K (fun q9 => [(5, .int (iI q9)), (4, .int (iI e)), (3, .int (iI v)), (2, .int (iI (d : Int))), (0, .ref (Q 90)), (1, .int (iI (s : Int)))]) dX9_move_149 (by decide) (fun _ => rfl) (fun c hc => ?_)
      have ee : e = eng (t + 1) := by unfold eng; split <;> omega
      have eb : c = bst (MI 92) (MI 93) h e (MI 90 0).toNat := by
        rw [hc, hr146, S2.1.row (show 92 < 97 by decide), S2.1.row (show 93 < 97 by decide), S2.1.row (show 90 < 97 by decide)]
        exact bst_congr _ (fun i hi => S2.2.1 i (by have := hM.1; omega))
      exact l_X9_move_play K hM s hs d dr hown hown2 x hx E 10 _ h e c v _ f w p eb (by omega) (hok.mono hdr) (by omega) (by omega) hb.1 hb.2 S2 (by rw [ee, hv9]; exact hp) (by rw [ee]; exact hq)
    · refine v_aload_n K 2 dX9_move_131 rfl rfl ?_
      refine v_geti K ff_X9_97 (by decide) rfl rfl dX9_move_132 ?_
      refine v_eqi ((t : Int) + 1) (by rw [z_up_k (by decide), S.1 90 15 (by omega)]; exact ht) ?_
      refine v_goto K 140 dX9_move_135 (by decide) ?_
      refine v_istore K (fun q9 => [(4, .int (iI q9)), (3, .int (iI v)), (2, .int (iI (d : Int))), (0, .ref (Q 90)), (1, .int (iI (s : Int)))]) dX9_move_140 (by decide) (fun _ => rfl) (fun e he => ?_)
      refine v_aload_n K 3 dX9_move_142 rfl rfl ?_
      refine v_iload_n K 4 dX9_move_143 rfl rfl ?_
      refine v_iload K 0 dX9_move_144 rfl ?_
      refine v_cVi K (c_X9_nextCard (S2.1.ok hM) s hs _ rfl e ⟨by omega, by omega⟩ (fun i hi => by rw [S2.2.1 i hi]; have := (hok.b hi); exact ⟨by omega, by omega⟩)) rfl fc_X9_100 wm_X9_nextCard ws_X9_nextCard (by decide) 9 rfl (by decide) rfl rfl (by decide) (Nat.le_of_ble_eq_true rfl) dX9_move_146 (fun r146 M146 L146 h146 => ?_)
      obtain ⟨hm146, hl146, hr146⟩ := h146
      subst M146 L146
      refine v_istore K (fun q9 => [(5, .int (iI q9)), (4, .int (iI e)), (3, .int (iI v)), (2, .int (iI (d : Int))), (0, .ref (Q 90)), (1, .int (iI (s : Int)))]) dX9_move_149 (by decide) (fun _ => rfl) (fun c hc => ?_)
      have ee : e = eng (t + 1) := by unfold eng; split <;> omega
      have eb : c = bst (MI 92) (MI 93) h e (MI 90 0).toNat := by
        rw [hc, hr146, S2.1.row (show 92 < 97 by decide), S2.1.row (show 93 < 97 by decide), S2.1.row (show 90 < 97 by decide)]
        exact bst_congr _ (fun i hi => S2.2.1 i (by have := hM.1; omega))
      exact l_X9_move_play K hM s hs d dr hown hown2 x hx E 10 _ h e c v _ f w p eb (by omega) (hok.mono hdr) (by omega) (by omega) hb.1 hb.2 S2 (by rw [ee, hv9]; exact hp) (by rw [ee]; exact hq)
set_option maxRecDepth 100000 in
set_option maxHeartbeats 4000000 in
theorem c_X9_move {l : Launch} {D : va_G} {Z : ZC} {Q : Nat → Nat} {MI ML : ZM} (hM : mOk MI) (s : Nat) (hs : s < 2) (s9 : Int) (hs9 : s9 = s) (d : Nat) (hd : d < 5) (hp : MI 96 s = d) (t : Nat) (ht : MI 90 15 = (t : Int) + 1) (ht2 : t < 12) (h : Nat → Int) (dr : Nat) (hh : ∀ c, c < 12 → MI 102 (12 * s + c) = h c) (hdr : MI 98 s = dr) (hd10 : dr ≤ 10) (hok : hOk h dr) (hown : 0 < MI 97 s) (hown2 : MI 97 s ≤ 40) (hl0 : 0 < MI 97 (1 - s)) (hl1 : MI 97 (1 - s) ≤ 40) (hf0 : 0 ≤ MI 99 s) (hf1 : MI 99 s ≤ 10000) (hw0 : 0 ≤ MI 100 (1 - s)) (hw1 : MI 100 (1 - s) ≤ 10000) : C_X9_move l D Z Q [.ref (Q 90), .int (iI s9)] MI ML (zV fun M L => L = ML ∧ (∃ h1, mvS MI M s h1 (drw (MI 94 d).toNat (fun k => (MI 95 (10 * d + k)).toNat) (ndr t) (h, dr)).2 (mv (MI 91) (MI 93) (selL (MI 90 0).toNat (MI 92) (MI 93) 10 (drw (MI 94 d).toNat (fun k => (MI 95 (10 * d + k)).toNat) (ndr t) (h, dr)).1 (eng (t + 1))) (MI 97 (1 - s)) (MI 99 s) (MI 100 s) (MI 101 s) (MI 100 (1 - s))).1 (mv (MI 91) (MI 93) (selL (MI 90 0).toNat (MI 92) (MI 93) 10 (drw (MI 94 d).toNat (fun k => (MI 95 (10 * d + k)).toNat) (ndr t) (h, dr)).1 (eng (t + 1))) (MI 97 (1 - s)) (MI 99 s) (MI 100 s) (MI 101 s) (MI 100 (1 - s))).2.1 (mv (MI 91) (MI 93) (selL (MI 90 0).toNat (MI 92) (MI 93) 10 (drw (MI 94 d).toNat (fun k => (MI 95 (10 * d + k)).toNat) (ndr t) (h, dr)).1 (eng (t + 1))) (MI 97 (1 - s)) (MI 99 s) (MI 100 s) (MI 101 s) (MI 100 (1 - s))).2.2.1 (mv (MI 91) (MI 93) (selL (MI 90 0).toNat (MI 92) (MI 93) 10 (drw (MI 94 d).toNat (fun k => (MI 95 (10 * d + k)).toNat) (ndr t) (h, dr)).1 (eng (t + 1))) (MI 97 (1 - s)) (MI 99 s) (MI 100 s) (MI 101 s) (MI 100 (1 - s))).2.2.2 ∧ (0 < (mv (MI 91) (MI 93) (selL (MI 90 0).toNat (MI 92) (MI 93) 10 (drw (MI 94 d).toNat (fun k => (MI 95 (10 * d + k)).toNat) (ndr t) (h, dr)).1 (eng (t + 1))) (MI 97 (1 - s)) (MI 99 s) (MI 100 s) (MI 101 s) (MI 100 (1 - s))).1 → ∀ i, i < 12 → h1 i = (selH (MI 90 0).toNat (MI 92) (MI 93) 10 (drw (MI 94 d).toNat (fun k => (MI 95 (10 * d + k)).toNat) (ndr t) (h, dr)).1 (eng (t + 1))) i))) := by
  subst hs9
  refine CM.of (by decide +kernel) (Nat.le_of_ble_eq_true rfl) ?_
  intro X K E _ _ _ _
  show V X (0, 0) 110 Q z_rf MI ML 0 [(0, .ref (Q 90)), (1, .int (iI (s : Int)))] []
  refine v_aload_n K 0 dX9_move_0 rfl rfl ?_
  refine v_getr K ff_X9_29 (by decide) rfl rfl rfl dX9_move_1 ?_
  refine v_iload_n K 1 dX9_move_4 rfl rfl ?_
  refine v_iald K (s) (by decide) rfl rfl (by show _ < 2; omega) dX9_move_5 ?_
  refine v_eqi ((d : Int)) (hp) ?_
  refine v_istore_n K (fun q9 => [(2, .int (iI q9)), (0, .ref (Q 90)), (1, .int (iI (s : Int)))]) dX9_move_6 rfl (by decide) (fun _ => rfl) (fun y2 hy2 => ?_)
  refine v_aload_n K 1 dX9_move_7 rfl rfl ?_
  refine v_geti K ff_X9_97 (by decide) rfl rfl dX9_move_8 ?_
  refine v_eqi ((t : Int) + 1) (ht) ?_
  refine v_iconst K dX9_move_11 ?_
  refine v_icmp_ne K 19 ⟨by omega, by omega⟩ ⟨by omega, by omega⟩ dX9_move_12 (by decide) (fun h12 => ?_) (fun h12 => ?_)
  · refine v_iconst K dX9_move_19 ?_
    refine v_istore_n K (fun q9 => [(3, .int (iI q9)), (2, .int (iI y2)), (0, .ref (Q 90)), (1, .int (iI (s : Int)))]) dX9_move_20 rfl (by decide) (fun _ => rfl) (fun y hy => ?_)
    subst hy2
    have us := hM.2.2.2.2.1 d hd
    have uk := hM.2.2.2.2.2
    have u0 := hM.1
    have S0 : mvS MI MI s h dr (MI 97 (1 - s)) (MI 99 s) (MI 100 s) (MI 101 s) := ⟨fun _ _ _ => rfl, hh, hdr, rfl, rfl, rfl, rfl⟩
    have q := drw_ok (n := (MI 94 d).toNat) (cd := fun k => (MI 95 (10 * d + k)).toNat) (fun k hk => by have := uk d k hd (by omega); omega) (ndr t) h dr hok
    have hn : ndr t ≤ 2 ∧ y = (ndr t : Int) := by unfold ndr; split <;> omega
    exact l_X9_move_draw K hM s hs d hd _ _ _ _ _ (fun M y S => l_X9_move_tail K hM s hs d _ t ht ht2 (by omega) hown (by omega) _ _ E M _ y _ _ _ _ q.1 S hl0 hl1 hf0 hf1 hw0 hw1 rfl (fun _ _ => rfl)) (ndr t) MI h dr y hn.2 S0 hd10 hn.1 rfl
  · refine v_iconst K dX9_move_15 ?_
    refine v_goto K 20 dX9_move_16 (by decide) ?_
    refine v_istore_n K (fun q9 => [(3, .int (iI q9)), (2, .int (iI y2)), (0, .ref (Q 90)), (1, .int (iI (s : Int)))]) dX9_move_20 rfl (by decide) (fun _ => rfl) (fun y hy => ?_)
    subst hy2
    have us := hM.2.2.2.2.1 d hd
    have uk := hM.2.2.2.2.2
    have u0 := hM.1
    have S0 : mvS MI MI s h dr (MI 97 (1 - s)) (MI 99 s) (MI 100 s) (MI 101 s) := ⟨fun _ _ _ => rfl, hh, hdr, rfl, rfl, rfl, rfl⟩
    have q := drw_ok (n := (MI 94 d).toNat) (cd := fun k => (MI 95 (10 * d + k)).toNat) (fun k hk => by have := uk d k hd (by omega); omega) (ndr t) h dr hok
    have hn : ndr t ≤ 2 ∧ y = (ndr t : Int) := by unfold ndr; split <;> omega
    exact l_X9_move_draw K hM s hs d hd _ _ _ _ _ (fun M y S => l_X9_move_tail K hM s hs d _ t ht ht2 (by omega) hown (by omega) _ _ E M _ y _ _ _ _ q.1 S hl0 hl1 hf0 hf1 hw0 hw1 rfl (fun _ _ => rfl)) (ndr t) MI h dr y hn.2 S0 hd10 hn.1 rfl
