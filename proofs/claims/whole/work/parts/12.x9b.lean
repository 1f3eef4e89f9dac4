theorem mOk_of {MI M : ZM} (h : ∀ a b, 90 ≤ a → a ≤ 95 → ¬ (a = 90 ∧ b = 15) → M a b = MI a b) (hM : mOk MI) : mOk M := by
  obtain ⟨h1, h2, h3, h4, h5, h6⟩ := hM
  refine ⟨?_, ?_, ?_, ?_, ?_, ?_⟩
  · rw [h 90 0 (by decide) (by decide) (by decide)]; exact h1
  · rw [h 90 4 (by decide) (by decide) (by decide)]; exact h2
  · rw [h 90 7 (by decide) (by decide) (by decide)]; exact h3
  · intro i hi
    rw [h 91 i (by decide) (by decide) (by omega), h 92 i (by decide) (by decide) (by omega), h 93 i (by decide) (by decide) (by omega)]
    exact h4 i hi
  · intro d hd
    rw [h 94 d (by decide) (by decide) (by omega)]
    exact h5 d hd
  · intro d k hd hk
    rw [h 94 d (by decide) (by decide) (by omega)] at hk
    rw [h 95 _ (by decide) (by decide) (by omega), h 90 0 (by decide) (by decide) (by decide)]
    exact h6 d k hd hk
set_option maxRecDepth 100000 in
set_option maxHeartbeats 4000000 in
theorem c_X9_isOver {l : Launch} {D : va_G} {Z : ZC} {Q : Nat → Nat} {MI ML : ZM} (h0 : rg (MI 97 0)) (h1 : rg (MI 97 1)) : C_X9_isOver l D Z Q [.ref (Q 90)] MI ML (zI fun r M L => M = MI ∧ L = ML ∧ ((r = 1 ∧ (MI 97 0 ≤ 0 ∨ MI 97 1 ≤ 0)) ∨ (r = 0 ∧ 0 < MI 97 0 ∧ 0 < MI 97 1))) := by
  refine CM.of (by decide +kernel) (Nat.le_of_ble_eq_true rfl) ?_
  intro X K E _ _ _ _
  show V X (0, 0) 110 Q z_rf MI ML 0 [(0, .ref (Q 90))] []
  refine v_aload_n K 0 dX9_isOver_0 rfl rfl ?_
  refine v_getr K ff_X9_32 (by decide) rfl rfl rfl dX9_isOver_1 ?_
  refine v_iconst K dX9_isOver_4 ?_
  refine v_iald K (0) (by decide) rfl rfl (by show _ < 2; omega) dX9_isOver_5 ?_
  refine v_if_le K 18 h0 dX9_isOver_6 (by decide) (fun h6 => ?_) (fun h6 => ?_)
  · refine v_iconst K dX9_isOver_18 ?_
    refine v_goto K 23 dX9_isOver_19 (by decide) ?_
    exact v_rz K E (Or.inr rfl) dX9_isOver_23 ⟨rfl, rfl, by omega⟩
  · refine v_aload_n K 0 dX9_isOver_9 rfl rfl ?_
    refine v_getr K ff_X9_32 (by decide) rfl rfl rfl dX9_isOver_10 ?_
    refine v_iconst K dX9_isOver_13 ?_
    refine v_iald K (1) (by decide) rfl rfl (by show _ < 2; omega) dX9_isOver_14 ?_
    refine v_if_gt K 22 h1 dX9_isOver_15 (by decide) (fun h15 => ?_) (fun h15 => ?_)
    · refine v_iconst K dX9_isOver_22 ?_
      exact v_rz K E (Or.inl rfl) dX9_isOver_23 ⟨rfl, rfl, by omega⟩
    · refine v_iconst K dX9_isOver_18 ?_
      refine v_goto K 23 dX9_isOver_19 (by decide) ?_
      exact v_rz K E (Or.inr rfl) dX9_isOver_23 ⟨rfl, rfl, by omega⟩
set_option maxRecDepth 100000 in
set_option maxHeartbeats 4000000 in
theorem l_X9_nextCard {X : VX} {Q : Nat → Nat} {MI ML : ZM} (K : VK X cX9_nextCard RX9 6 (some .int) 0 0 0 0) (hM : mOk MI) (s : Nat) (hs : s < 2) (e : Int) (he : rg e) (hh : ∀ c, c < 12 → rg (MI 102 (12 * s + c))) (E : VE X 0 0 110 Q (zq Q (zI fun r M L => M = MI ∧ L = ML ∧ r = bst (MI 92) (MI 93) (fun c => MI 102 (12 * s + c)) e (MI 90 0).toNat))) : ∀ (n k : Nat) (b : Int), b = bst (MI 92) (MI 93) (fun c => MI 102 (12 * s + c)) e k → (k : Int) ≤ MI 90 0 → MI 90 0 < k + n → V X (0, 0) 110 Q z_rf MI ML 5 [(4, .int (iI (k : Int))), (3, .int (iI b)), (0, .ref (Q 90)), (1, .int (iI (s : Int))), (2, .int (iI e))] [] := by
  have u0 := hM.1
  have ua := hM.2.2.2.1
  intro n
  induction n with
  | zero => intro k b hb hk hn; exact absurd hn (by omega)
  | succ n ih =>
    intro k b hb hk hn
    refine v_iload K 0 dX9_nextCard_5 rfl ?_
    refine v_aload_n K 2 dX9_nextCard_7 rfl rfl ?_
    refine v_geti K ff_X9_72 (by decide) rfl rfl dX9_nextCard_8 ?_
    refine v_icmp_ge K 118 ⟨by omega, by omega⟩ ⟨by omega, by omega⟩ dX9_nextCard_11 (by decide) (fun h11 => ?_) (fun h11 => ?_)
    · obtain rfl : k = (MI 90 0).toNat := by omega
      refine v_iload_n K 1 dX9_nextCard_118 rfl rfl ?_
      exact v_ri K E dX9_nextCard_119 ⟨rfl, rfl, hb⟩
    · have q1 := hh k (by omega)
      have q2 := ua k (by omega)
      have q3 := bst_b (MI 92) (MI 93) (fun c => MI 102 (12 * s + c)) e k
      rw [← hb] at q3
      refine v_aload_n K 2 dX9_nextCard_14 rfl rfl ?_
      refine v_getr K ff_X9_47 (by decide) rfl rfl rfl dX9_nextCard_15 ?_
      refine v_bipush K dX9_nextCard_18 (by decide) ?_
      refine v_iload_n K 3 dX9_nextCard_20 rfl rfl ?_
      refine v_imul K dX9_nextCard_21 ?_
      refine v_iload K 0 dX9_nextCard_22 rfl ?_
      refine v_iadd K dX9_nextCard_24 ?_
      refine v_iald K (12 * s + k) (by decide) rfl (by omega) (by show _ < 24; omega) dX9_nextCard_25 ?_
      refine v_if_le K 112 q1 dX9_nextCard_26 (by decide) (fun h26 => ?_) (fun h26 => ?_)
      · refine v_iinc K 0 (fun q9 => [(4, .int (iI q9)), (3, .int (iI b)), (0, .ref (Q 90)), (1, .int (iI (s : Int))), (2, .int (iI e))]) dX9_nextCard_112 rfl (by decide) (fun _ => rfl) (fun w hw => ?_)
        refine v_goto K 5 dX9_nextCard_115 (by decide) ?_
        obtain rfl : w = ((k + 1 : Nat) : Int) := by omega
        have e1 : b = bst (MI 92) (MI 93) (fun c => MI 102 (12 * s + c)) e (k + 1) := by
          simp only [bst]
          rw [← hb]
          split
          · split <;> omega
          · omega
        exact ih (k + 1) b e1 (by omega) (by omega)
      · refine v_aload_n K 2 dX9_nextCard_29 rfl rfl ?_
        refine v_getr K ff_X9_13 (by decide) rfl rfl rfl dX9_nextCard_30 ?_
        refine v_iload K 0 dX9_nextCard_33 rfl ?_
        refine v_iald K (k) (by decide) rfl rfl (by show _ < 12; omega) dX9_nextCard_35 ?_
        refine v_iload_n K 4 dX9_nextCard_36 rfl rfl ?_
        refine v_icmp_gt K 112 ⟨by omega, by omega⟩ he dX9_nextCard_37 (by decide) (fun h37 => ?_) (fun h37 => ?_)
        · refine v_iinc K 0 (fun q9 => [(4, .int (iI q9)), (3, .int (iI b)), (0, .ref (Q 90)), (1, .int (iI (s : Int))), (2, .int (iI e))]) dX9_nextCard_112 rfl (by decide) (fun _ => rfl) (fun w hw => ?_)
          refine v_goto K 5 dX9_nextCard_115 (by decide) ?_
          obtain rfl : w = ((k + 1 : Nat) : Int) := by omega
          have e1 : b = bst (MI 92) (MI 93) (fun c => MI 102 (12 * s + c)) e (k + 1) := by
            simp only [bst]
            rw [← hb]
            split
            · split <;> omega
            · omega
          exact ih (k + 1) b e1 (by omega) (by omega)
        · refine v_iload_n K 1 dX9_nextCard_40 rfl rfl ?_
          refine v_iconst K dX9_nextCard_41 ?_
          refine v_icmp_eq K 93 ⟨by omega, by omega⟩ ⟨by omega, by omega⟩ dX9_nextCard_42 (by decide) (fun h42 => ?_) (fun h42 => ?_)
          · refine v_iconst K dX9_nextCard_93 ?_
            refine v_goto K 98 dX9_nextCard_94 (by decide) ?_
            refine v_istore K (fun q9 => [(5, .int (iI q9)), (4, .int (iI (k : Int))), (3, .int (iI b)), (0, .ref (Q 90)), (1, .int (iI (s : Int))), (2, .int (iI e))]) dX9_nextCard_98 (by decide) (fun _ => rfl) (fun x98 hx98 => ?_)
            refine v_iload K 0 dX9_nextCard_100 rfl ?_
            refine v_if_eq K 110 ⟨by omega, by omega⟩ dX9_nextCard_102 (by decide) (fun h102 => ?_) (fun h102 => ?_)
            · exact absurd h102 (by omega)
            · refine v_iload K 1 dX9_nextCard_105 rfl ?_
              refine v_goto K 111 dX9_nextCard_107 (by decide) ?_
              refine v_istore_n K (fun q9 => [(3, .int (iI q9)), (5, .int (iI x98)), (4, .int (iI (k : Int))), (0, .ref (Q 90)), (1, .int (iI (s : Int))), (2, .int (iI e))]) dX9_nextCard_111 rfl (by decide) (fun _ => rfl) (fun x111 hx111 => ?_)
              refine v_iinc K 2 (fun q9 => [(4, .int (iI q9)), (3, .int (iI x111)), (5, .int (iI x98)), (0, .ref (Q 90)), (1, .int (iI (s : Int))), (2, .int (iI e))]) dX9_nextCard_112 rfl (by decide) (fun _ => rfl) (fun w hw => ?_)
              refine v_goto K 5 dX9_nextCard_115 (by decide) ?_
              obtain rfl : w = ((k + 1 : Nat) : Int) := by omega
              have e1 : x111 = bst (MI 92) (MI 93) (fun c => MI 102 (12 * s + c)) e (k + 1) := by
                simp only [bst]
                rw [← hb]
                split
                · split <;> omega
                · omega
              refine v_sub K [0, 1, 3, 4, 5] rfl ?_
              exact ih (k + 1) x111 e1 (by omega) (by omega)
          · have q4 := ua b.toNat (by omega)
            refine v_aload_n K 2 dX9_nextCard_45 rfl rfl ?_
            refine v_getr K ff_X9_13 (by decide) rfl rfl rfl dX9_nextCard_46 ?_
            refine v_iload K 0 dX9_nextCard_49 rfl ?_
            refine v_iald K (k) (by decide) rfl rfl (by show _ < 12; omega) dX9_nextCard_51 ?_
            refine v_aload_n K 2 dX9_nextCard_52 rfl rfl ?_
            refine v_getr K ff_X9_13 (by decide) rfl rfl rfl dX9_nextCard_53 ?_
            refine v_iload_n K 1 dX9_nextCard_56 rfl rfl ?_
            refine v_iald K (b.toNat) (by decide) rfl (by omega) (by show _ < 12; omega) dX9_nextCard_57 ?_
            refine v_icmp_gt K 93 ⟨by omega, by omega⟩ ⟨by omega, by omega⟩ dX9_nextCard_58 (by decide) (fun h58 => ?_) (fun h58 => ?_)
            · refine v_iconst K dX9_nextCard_93 ?_
              refine v_goto K 98 dX9_nextCard_94 (by decide) ?_
              refine v_istore K (fun q9 => [(5, .int (iI q9)), (4, .int (iI (k : Int))), (3, .int (iI b)), (0, .ref (Q 90)), (1, .int (iI (s : Int))), (2, .int (iI e))]) dX9_nextCard_98 (by decide) (fun _ => rfl) (fun x98 hx98 => ?_)
              refine v_iload K 0 dX9_nextCard_100 rfl ?_
              refine v_if_eq K 110 ⟨by omega, by omega⟩ dX9_nextCard_102 (by decide) (fun h102 => ?_) (fun h102 => ?_)
              · exact absurd h102 (by omega)
              · refine v_iload K 1 dX9_nextCard_105 rfl ?_
                refine v_goto K 111 dX9_nextCard_107 (by decide) ?_
                refine v_istore_n K (fun q9 => [(3, .int (iI q9)), (5, .int (iI x98)), (4, .int (iI (k : Int))), (0, .ref (Q 90)), (1, .int (iI (s : Int))), (2, .int (iI e))]) dX9_nextCard_111 rfl (by decide) (fun _ => rfl) (fun x111 hx111 => ?_)
                refine v_iinc K 2 (fun q9 => [(4, .int (iI q9)), (3, .int (iI x111)), (5, .int (iI x98)), (0, .ref (Q 90)), (1, .int (iI (s : Int))), (2, .int (iI e))]) dX9_nextCard_112 rfl (by decide) (fun _ => rfl) (fun w hw => ?_)
                refine v_goto K 5 dX9_nextCard_115 (by decide) ?_
                obtain rfl : w = ((k + 1 : Nat) : Int) := by omega
                have e1 : x111 = bst (MI 92) (MI 93) (fun c => MI 102 (12 * s + c)) e (k + 1) := by
                  simp only [bst]
                  rw [← hb]
                  split
                  · split <;> omega
                  · omega
                refine v_sub K [0, 1, 3, 4, 5] rfl ?_
                exact ih (k + 1) x111 e1 (by omega) (by omega)
            · refine v_aload_n K 2 dX9_nextCard_61 rfl rfl ?_
              refine v_getr K ff_X9_13 (by decide) rfl rfl rfl dX9_nextCard_62 ?_
              refine v_iload K 0 dX9_nextCard_65 rfl ?_
              refine v_iald K (k) (by decide) rfl rfl (by show _ < 12; omega) dX9_nextCard_67 ?_
              refine v_aload_n K 2 dX9_nextCard_68 rfl rfl ?_
              refine v_getr K ff_X9_13 (by decide) rfl rfl rfl dX9_nextCard_69 ?_
              refine v_iload_n K 1 dX9_nextCard_72 rfl rfl ?_
              refine v_iald K (b.toNat) (by decide) rfl (by omega) (by show _ < 12; omega) dX9_nextCard_73 ?_
              refine v_icmp_ne K 97 ⟨by omega, by omega⟩ ⟨by omega, by omega⟩ dX9_nextCard_74 (by decide) (fun h74 => ?_) (fun h74 => ?_)
              · refine v_iconst K dX9_nextCard_97 ?_
                refine v_istore K (fun q9 => [(5, .int (iI q9)), (4, .int (iI (k : Int))), (3, .int (iI b)), (0, .ref (Q 90)), (1, .int (iI (s : Int))), (2, .int (iI e))]) dX9_nextCard_98 (by decide) (fun _ => rfl) (fun x98 hx98 => ?_)
                refine v_iload K 0 dX9_nextCard_100 rfl ?_
                refine v_if_eq K 110 ⟨by omega, by omega⟩ dX9_nextCard_102 (by decide) (fun h102 => ?_) (fun h102 => ?_)
                · refine v_iload_n K 2 dX9_nextCard_110 rfl rfl ?_
                  refine v_istore_n K (fun q9 => [(3, .int (iI q9)), (5, .int (iI x98)), (4, .int (iI (k : Int))), (0, .ref (Q 90)), (1, .int (iI (s : Int))), (2, .int (iI e))]) dX9_nextCard_111 rfl (by decide) (fun _ => rfl) (fun x111 hx111 => ?_)
                  refine v_iinc K 2 (fun q9 => [(4, .int (iI q9)), (3, .int (iI x111)), (5, .int (iI x98)), (0, .ref (Q 90)), (1, .int (iI (s : Int))), (2, .int (iI e))]) dX9_nextCard_112 rfl (by decide) (fun _ => rfl) (fun w hw => ?_)
                  refine v_goto K 5 dX9_nextCard_115 (by decide) ?_
                  obtain rfl : w = ((k + 1 : Nat) : Int) := by omega
                  have e1 : x111 = bst (MI 92) (MI 93) (fun c => MI 102 (12 * s + c)) e (k + 1) := by
                    simp only [bst]
                    rw [← hb]
                    split
                    · split <;> omega
                    · omega
                  refine v_sub K [0, 1, 3, 4, 5] rfl ?_
                  exact ih (k + 1) x111 e1 (by omega) (by omega)
                · exact absurd h102 (by omega)
              · refine v_aload_n K 2 dX9_nextCard_77 rfl rfl ?_
                refine v_getr K ff_X9_16 (by decide) rfl rfl rfl dX9_nextCard_78 ?_
                refine v_iload K 0 dX9_nextCard_81 rfl ?_
                refine v_iald K (k) (by decide) rfl rfl (by show _ < 12; omega) dX9_nextCard_83 ?_
                refine v_aload_n K 2 dX9_nextCard_84 rfl rfl ?_
                refine v_getr K ff_X9_16 (by decide) rfl rfl rfl dX9_nextCard_85 ?_
                refine v_iload_n K 1 dX9_nextCard_88 rfl rfl ?_
                refine v_iald K (b.toNat) (by decide) rfl (by omega) (by show _ < 12; omega) dX9_nextCard_89 ?_
                refine v_icmp_le K 97 ⟨by omega, by omega⟩ ⟨by omega, by omega⟩ dX9_nextCard_90 (by decide) (fun h90 => ?_) (fun h90 => ?_)
                · refine v_iconst K dX9_nextCard_97 ?_
                  refine v_istore K (fun q9 => [(5, .int (iI q9)), (4, .int (iI (k : Int))), (3, .int (iI b)), (0, .ref (Q 90)), (1, .int (iI (s : Int))), (2, .int (iI e))]) dX9_nextCard_98 (by decide) (fun _ => rfl) (fun x98 hx98 => ?_)
                  refine v_iload K 0 dX9_nextCard_100 rfl ?_
                  refine v_if_eq K 110 ⟨by omega, by omega⟩ dX9_nextCard_102 (by decide) (fun h102 => ?_) (fun h102 => ?_)
                  · refine v_iload_n K 2 dX9_nextCard_110 rfl rfl ?_
                    refine v_istore_n K (fun q9 => [(3, .int (iI q9)), (5, .int (iI x98)), (4, .int (iI (k : Int))), (0, .ref (Q 90)), (1, .int (iI (s : Int))), (2, .int (iI e))]) dX9_nextCard_111 rfl (by decide) (fun _ => rfl) (fun x111 hx111 => ?_)
                    refine v_iinc K 2 (fun q9 => [(4, .int (iI q9)), (3, .int (iI x111)), (5, .int (iI x98)), (0, .ref (Q 90)), (1, .int (iI (s : Int))), (2, .int (iI e))]) dX9_nextCard_112 rfl (by decide) (fun _ => rfl) (fun w hw => ?_)
                    refine v_goto K 5 dX9_nextCard_115 (by decide) ?_
                    obtain rfl : w = ((k + 1 : Nat) : Int) := by omega
                    have e1 : x111 = bst (MI 92) (MI 93) (fun c => MI 102 (12 * s + c)) e (k + 1) := by
                      simp only [bst]
                      rw [← hb]
                      split
                      · split <;> omega
                      · omega
                    refine v_sub K [0, 1, 3, 4, 5] rfl ?_
                    exact ih (k + 1) x111 e1 (by omega) (by omega)
                  · exact absurd h102 (by omega)
                · refine v_iconst K dX9_nextCard_93 ?_
                  refine v_goto K 98 dX9_nextCard_94 (by decide) ?_
                  refine v_istore K (fun q9 => [(5, .int (iI q9)), (4, .int (iI (k : Int))), (3, .int (iI b)), (0, .ref (Q 90)), (1, .int (iI (s : Int))), (2, .int (iI e))]) dX9_nextCard_98 (by decide) (fun _ => rfl) (fun x98 hx98 => ?_)
                  refine v_iload K 0 dX9_nextCard_100 rfl ?_
                  refine v_if_eq K 110 ⟨by omega, by omega⟩ dX9_nextCard_102 (by decide) (fun h102 => ?_) (fun h102 => ?_)
                  · exact absurd h102 (by omega)
                  · refine v_iload K 1 dX9_nextCard_105 rfl ?_
                    refine v_goto K 111 dX9_nextCard_107 (by decide) ?_
                    refine v_istore_n K (fun q9 => [(3, .int (iI q9)), (5, .int (iI x98)), (4, .int (iI (k : Int))), (0, .ref (Q 90)), (1, .int (iI (s : Int))), (2, .int (iI e))]) dX9_nextCard_111 rfl (by decide) (fun _ => rfl) (fun x111 hx111 => ?_)
                    refine v_iinc K 2 (fun q9 => [(4, .int (iI q9)), (3, .int (iI x111)), (5, .int (iI x98)), (0, .ref (Q 90)), (1, .int (iI (s : Int))), (2, .int (iI e))]) dX9_nextCard_112 rfl (by decide) (fun _ => rfl) (fun w hw => ?_)
                    refine v_goto K 5 dX9_nextCard_115 (by decide) ?_
                    obtain rfl : w = ((k + 1 : Nat) : Int) := by omega
                    have e1 : x111 = bst (MI 92) (MI 93) (fun c => MI 102 (12 * s + c)) e (k + 1) := by
                      simp only [bst]
                      rw [← hb]
                      split
                      · split <;> omega
                      · omega
                    refine v_sub K [0, 1, 3, 4, 5] rfl ?_
                    exact ih (k + 1) x111 e1 (by omega) (by omega)
set_option maxRecDepth 100000 in
set_option maxHeartbeats 4000000 in
theorem c_X9_nextCard {l : Launch} {D : va_G} {Z : ZC} {Q : Nat → Nat} {MI ML : ZM} (hM : mOk MI) (s : Nat) (hs : s < 2) (s9 : Int) (hs9 : s9 = s) (e : Int) (he : rg e) (hh : ∀ c, c < 12 → rg (MI 102 (12 * s + c))) : C_X9_nextCard l D Z Q [.ref (Q 90), .int (iI s9), .int (iI e)] MI ML (zI fun r M L => M = MI ∧ L = ML ∧ r = bst (MI 92) (MI 93) (fun c => MI 102 (12 * s + c)) e (MI 90 0).toNat) := by
  subst hs9
  refine CM.of (by decide +kernel) (Nat.le_of_ble_eq_true rfl) ?_
  intro X K E _ _ _ _
  show V X (0, 0) 110 Q z_rf MI ML 0 [(0, .ref (Q 90)), (1, .int (iI (s : Int))), (2, .int (iI e))] []
  refine v_iconst K dX9_nextCard_0 ?_
  refine v_istore_n K (fun q9 => [(3, .int (iI q9)), (0, .ref (Q 90)), (1, .int (iI (s : Int))), (2, .int (iI e))]) dX9_nextCard_1 rfl (by decide) (fun _ => rfl) (fun y hy => ?_)
  refine v_iconst K dX9_nextCard_2 ?_
  refine v_istore K (fun q9 => [(4, .int (iI q9)), (3, .int (iI y)), (0, .ref (Q 90)), (1, .int (iI (s : Int))), (2, .int (iI e))]) dX9_nextCard_3 (by decide) (fun _ => rfl) (fun w hw => ?_)
  subst hw
  have u0 := hM.1
  exact l_X9_nextCard K hM s hs e he hh E 13 0 y (by rw [hy]; rfl) (by show (0 : Int) ≤ _; omega) (by omega)
/-- the memory behind playCard -/
def pcM (M : ZM) (s c : Nat) : ZM :=
  if M 91 c = 0 then z_up (z_up (z_up M 102 (12 * s + c) (M 102 (12 * s + c) - 1)) 101 s (M 101 s + 1)) 99 s (M 99 s + M 93 c)
  else if M 91 c = 1 then z_up (z_up (z_up M 102 (12 * s + c) (M 102 (12 * s + c) - 1)) 101 s (M 101 s + 1)) 97 (1 - s) (M 97 (1 - s) - M 93 c)
  else z_up (z_up (z_up M 102 (12 * s + c) (M 102 (12 * s + c) - 1)) 101 s (M 101 s + 1)) 100 s (M 100 s + M 93 c)
set_option maxRecDepth 100000 in
set_option maxHeartbeats 4000000 in
theorem c_X9_playCard {l : Launch} {D : va_G} {Z : ZC} {Q : Nat → Nat} {MI ML : ZM} (hM : mOk MI) (s : Nat) (hs : s < 2) (s9 : Int) (hs9 : s9 = s) (c : Nat) (hc : c < 12) (c9 : Int) (hc9 : c9 = c) : C_X9_playCard l D Z Q [.ref (Q 90), .int (iI s9), .int (iI c9)] MI ML (zV fun M L => L = ML ∧ M = pcM MI s c) := by
  subst hs9
  subst hc9
  refine CM.of (by decide +kernel) (Nat.le_of_ble_eq_true rfl) ?_
  intro X K E _ _ _ _
  show V X (0, 0) 110 Q z_rf MI ML 0 [(0, .ref (Q 90)), (1, .int (iI (s : Int))), (2, .int (iI (c : Int)))] []
  have ua := hM.2.2.2.1 c hc
  refine v_aload_n K 0 dX9_playCard_0 rfl rfl ?_
  refine v_getr K ff_X9_47 (by decide) rfl rfl rfl dX9_playCard_1 ?_
  refine v_bipush K dX9_playCard_4 (by decide) ?_
  refine v_iload_n K 1 dX9_playCard_6 rfl rfl ?_
  refine v_imul K dX9_playCard_7 ?_
  refine v_iload_n K 2 dX9_playCard_8 rfl rfl ?_
  refine v_iadd K dX9_playCard_9 ?_
  refine v_dup2_11 K dX9_playCard_10 rfl rfl ?_
  refine v_iald K (12 * s + c) (by decide) rfl (by omega) (by show _ < 24; omega) dX9_playCard_11 ?_
  refine v_iconst K dX9_playCard_12 ?_
  refine v_isub K dX9_playCard_13 ?_
  refine v_iast K (12 * s + c) (by decide) rfl (by omega) (by show _ < 24; omega) dX9_playCard_14 ?_
  refine v_aload_n K 0 dX9_playCard_15 rfl rfl ?_
  refine v_getr K ff_X9_44 (by decide) rfl rfl rfl dX9_playCard_16 ?_
  refine v_iload_n K 1 dX9_playCard_19 rfl rfl ?_
  refine v_dup2_11 K dX9_playCard_20 rfl rfl ?_
  refine v_iald K (s) (by decide) rfl rfl (by show _ < 2; omega) dX9_playCard_21 ?_
  refine v_eqi (MI 101 s) (by simp [z_up]) ?_
  refine v_iconst K dX9_playCard_22 ?_
  refine v_iadd K dX9_playCard_23 ?_
  refine v_iast K (s) (by decide) rfl rfl (by show _ < 2; omega) dX9_playCard_24 ?_
  refine v_aload_n K 0 dX9_playCard_25 rfl rfl ?_
  refine v_getr K ff_X9_7 (by decide) rfl rfl rfl dX9_playCard_26 ?_
  refine v_iload_n K 2 dX9_playCard_29 rfl rfl ?_
  refine v_iald K (c) (by decide) rfl rfl (by show _ < 12; omega) dX9_playCard_30 ?_
  refine v_eqi (MI 91 c) (by simp [z_up]) ?_
  refine v_if_ne K 52 ⟨by omega, by omega⟩ dX9_playCard_31 (by decide) (fun h31 => ?_) (fun h31 => ?_)
  · refine v_aload_n K 0 dX9_playCard_52 rfl rfl ?_
    refine v_getr K ff_X9_7 (by decide) rfl rfl rfl dX9_playCard_53 ?_
    refine v_iload_n K 2 dX9_playCard_56 rfl rfl ?_
    refine v_iald K (c) (by decide) rfl rfl (by show _ < 12; omega) dX9_playCard_57 ?_
    refine v_eqi (MI 91 c) (by simp [z_up]) ?_
    refine v_iconst K dX9_playCard_58 ?_
    refine v_icmp_ne K 82 ⟨by omega, by omega⟩ ⟨by omega, by omega⟩ dX9_playCard_59 (by decide) (fun h59 => ?_) (fun h59 => ?_)
    · refine v_aload_n K 0 dX9_playCard_82 rfl rfl ?_
      refine v_getr K ff_X9_41 (by decide) rfl rfl rfl dX9_playCard_83 ?_
      refine v_iload_n K 1 dX9_playCard_86 rfl rfl ?_
      refine v_dup2_11 K dX9_playCard_87 rfl rfl ?_
      refine v_iald K (s) (by decide) rfl rfl (by show _ < 2; omega) dX9_playCard_88 ?_
      refine v_eqi (MI 100 s) (by simp [z_up]) ?_
      refine v_aload_n K 0 dX9_playCard_89 rfl rfl ?_
      refine v_getr K ff_X9_16 (by decide) rfl rfl rfl dX9_playCard_90 ?_
      refine v_iload_n K 2 dX9_playCard_93 rfl rfl ?_
      refine v_iald K (c) (by decide) rfl rfl (by show _ < 12; omega) dX9_playCard_94 ?_
      refine v_eqi (MI 93 c) (by simp [z_up]) ?_
      refine v_iadd K dX9_playCard_95 ?_
      refine v_iast K (s) (by decide) rfl rfl (by show _ < 2; omega) dX9_playCard_96 ?_
      exact v_rv K E dX9_playCard_97 ⟨rfl, by unfold pcM; first | rw [if_pos (by omega)] | rw [if_neg (by omega), if_pos (by omega)] | rw [if_neg (by omega), if_neg (by omega)]⟩
    · refine v_aload_n K 0 dX9_playCard_62 rfl rfl ?_
      refine v_getr K ff_X9_32 (by decide) rfl rfl rfl dX9_playCard_63 ?_
      refine v_iconst K dX9_playCard_66 ?_
      refine v_iload_n K 1 dX9_playCard_67 rfl rfl ?_
      refine v_isub K dX9_playCard_68 ?_
      refine v_dup2_11 K dX9_playCard_69 rfl rfl ?_
      refine v_iald K (1 - s) (by decide) rfl (by omega) (by show _ < 2; omega) dX9_playCard_70 ?_
      refine v_eqi (MI 97 (1 - s)) (by simp [z_up]) ?_
      refine v_aload_n K 0 dX9_playCard_71 rfl rfl ?_
      refine v_getr K ff_X9_16 (by decide) rfl rfl rfl dX9_playCard_72 ?_
      refine v_iload_n K 2 dX9_playCard_75 rfl rfl ?_
      refine v_iald K (c) (by decide) rfl rfl (by show _ < 12; omega) dX9_playCard_76 ?_
      refine v_eqi (MI 93 c) (by simp [z_up]) ?_
      refine v_isub K dX9_playCard_77 ?_
      refine v_iast K (1 - s) (by decide) rfl (by omega) (by show _ < 2; omega) dX9_playCard_78 ?_
      refine v_goto K 97 dX9_playCard_79 (by decide) ?_
      exact v_rv K E dX9_playCard_97 ⟨rfl, by unfold pcM; first | rw [if_pos (by omega)] | rw [if_neg (by omega), if_pos (by omega)] | rw [if_neg (by omega), if_neg (by omega)]⟩
  · refine v_aload_n K 0 dX9_playCard_34 rfl rfl ?_
    refine v_getr K ff_X9_38 (by decide) rfl rfl rfl dX9_playCard_35 ?_
    refine v_iload_n K 1 dX9_playCard_38 rfl rfl ?_
    refine v_dup2_11 K dX9_playCard_39 rfl rfl ?_
    refine v_iald K (s) (by decide) rfl rfl (by show _ < 2; omega) dX9_playCard_40 ?_
    refine v_eqi (MI 99 s) (by simp [z_up]) ?_
    refine v_aload_n K 0 dX9_playCard_41 rfl rfl ?_
    refine v_getr K ff_X9_16 (by decide) rfl rfl rfl dX9_playCard_42 ?_
    refine v_iload_n K 2 dX9_playCard_45 rfl rfl ?_
    refine v_iald K (c) (by decide) rfl rfl (by show _ < 12; omega) dX9_playCard_46 ?_
    refine v_eqi (MI 93 c) (by simp [z_up]) ?_
    refine v_iadd K dX9_playCard_47 ?_
    refine v_iast K (s) (by decide) rfl rfl (by show _ < 2; omega) dX9_playCard_48 ?_
    refine v_goto K 97 dX9_playCard_49 (by decide) ?_
    exact v_rv K E dX9_playCard_97 ⟨rfl, by unfold pcM; first | rw [if_pos (by omega)] | rw [if_neg (by omega), if_pos (by omega)] | rw [if_neg (by omega), if_neg (by omega)]⟩
