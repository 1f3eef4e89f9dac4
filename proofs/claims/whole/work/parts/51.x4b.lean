theorem bts_z : ∀ m : Nat, m < 32 → (bts m 5 = 0 ↔ m = 0) := by decide +kernel
theorem onL_0 (N : Nat) : onL 0 N = [] := by
  have l := onL_l 0 N
  have z : ∀ n, bts 0 n = 0 := by
    intro n
    induction n with
    | zero => rfl
    | succ n ih => simp only [bts, ih, bt1, Nat.zero_div]
  rw [z N] at l
  exact List.eq_nil_of_length_eq_zero l
theorem mnK_1 {MI : ZM} {B N : Nat} : mnK MI (z_up MI (B + 11) 0 1) B N 1 1 := ⟨fun a b h => z_up_k h, z_up_s, fun R C h1 h2 _ _ _ ho => by omega⟩
theorem mnK_put {MI M : ZM} {B N r c : Nat} {v : Int} (h5 : N ≤ 5) (hc : c < 32) (hr : 1 ≤ r) (h : mnK MI M B N r c) (hv : v = mnr MI B N r c) : mnK MI (z_up M (B + 11) (32 * r + c) v) B N r (c + 1) := by
  refine ⟨fun a b q => by rw [z_up_k q]; exact h.1 a b q, by rw [z_up_j (by omega)]; exact h.2.1, fun R C h1 h2 hR hC hb ho => ?_⟩
  have C3 := lt32 h5 hC
  by_cases e : R = r ∧ C = c
  · obtain ⟨rfl, rfl⟩ := e; rw [z_up_s, hv]
  · rw [z_up_j (by omega)]; exact h.2.2 R C h1 h2 hR hC hb (by omega)
theorem mnK_sk {MI M : ZM} {B N r c : Nat} (h : mnK MI M B N r c) (hn : bts c 5 ≠ bts r 5) : mnK MI M B N r (c + 1) := by
  refine ⟨h.1, h.2.1, fun R C h1 h2 hR hC hb ho => h.2.2 R C h1 h2 hR hC hb ?_⟩
  by_cases e : R = r ∧ C = c
  · obtain ⟨rfl, rfl⟩ := e; omega
  · omega
theorem mnK_nx {MI M : ZM} {B N r : Nat} (h : mnK MI M B N r (2 ^ N)) : mnK MI M B N (r + 1) 1 := ⟨h.1, h.2.1, fun R C h1 h2 hR hC hb ho => h.2.2 R C h1 h2 hR hC hb (by omega)⟩
theorem mn_all {MI M : ZM} {B N r c R C : Nat} (h5 : N ≤ 5) (h : mnK MI M B N r c) (hR : R < 2 ^ N) (hC : C < 2 ^ N) (hb : bts R 5 = bts C 5) (ho : R < r ∨ (R = r ∧ C < c)) : M (B + 11) (32 * R + C) = mnr MI B N R C := by
  have zR := bts_z R (lt32 h5 hR)
  have zC := bts_z C (lt32 h5 hC)
  by_cases e : R = 0
  · obtain rfl : C = 0 := zC.mp (by have := zR.mpr e; omega)
    subst e
    show M (B + 11) 0 = _
    rw [h.2.1]; unfold mnr; rw [onL_0]; rfl
  · refine h.2.2 R C (by omega) ?_ hR hC hb ho
    by_cases q : C = 0
    · exact absurd (zR.mp (by have := zC.mpr q; omega)) e
    · omega
theorem cT_fr {MI M : ZM} {B N : Nat} (h : ∀ a b, a ≠ B + 11 → M a b = MI a b) (i j : Nat) (hi : i < 5) : cT M B i j = cT MI B i j := h _ _ (by omega)
theorem dD_cg {T T' : Nat → Nat → Int} {c : Nat} : ∀ (R : List Nat) (f g : List Nat → Int), (∀ r, r ∈ R → T r c = T' r c) → (∀ B, (∀ r, r ∈ B → r ∈ R) → f B = g B) → dD T c R f = dD T' c R g := by
  intro R
  induction R with
  | nil => intro f g _ _; rfl
  | cons r B ih =>
    intro f g hT hf
    simp only [dD]
    rw [hT r List.mem_cons_self, hf B (fun q hq => List.mem_cons_of_mem _ hq), ih (fun B' => f (r :: B')) (fun B' => g (r :: B')) (fun q hq => hT q (List.mem_cons_of_mem _ hq)) (fun B' hB => hf (r :: B') (fun q hq => by
      rcases List.mem_cons.mp hq with e | e
      · rw [e]; exact List.mem_cons_self
      · exact List.mem_cons_of_mem _ (hB q e)))]
theorem dt_cg {T T' : Nat → Nat → Int} : ∀ (C R : List Nat), (∀ r c, r ∈ R → c ∈ C → T r c = T' r c) → dt T C R = dt T' C R := by
  intro C
  induction C with
  | nil => intro R _; match R with
    | [] => rfl
    | _ :: _ => rfl
  | cons c C ih =>
    intro R h
    exact dD_cg R _ _ (fun r hr => h r c hr List.mem_cons_self) (fun B hB => ih B (fun r q hr hq => h r q (hB r hr) (List.mem_cons_of_mem _ hq)))
theorem mnr_fr {MI M : ZM} {B N : Nat} (h5 : N ≤ 5) (h : ∀ a b, a ≠ B + 11 → M a b = MI a b) (R C : Nat) : mnr M B N R C = mnr MI B N R C := by
  unfold mnr
  refine dt_cg _ _ (fun r c hr hc => ?_)
  have := (onL_m.mp hr).1
  simp only [wT]
  rw [cT_fr (N := N) h r c (by omega)]
set_option maxRecDepth 100000 in
set_option maxHeartbeats 4000000 in
theorem l_X4_findMinors_c {X : VX} {Q : Nat → Nat} {MI ML : ZM} (K : VK X cX4_findMinors RX4 6 none 3 71 0 0) (B : Nat) (hB : isCt B) (N : Nat) (hN : MI (B + 8) 5 = N) (h1 : 1 ≤ N) (h5 : N ≤ 5) (P : Nat) (hP : P = 2 ^ N) (hP2 : P ≤ 32) (r : Nat) (hr1 : 1 ≤ r) (hr : r < P) (t : Int) (ht : t = (bts r 5 : Nat)) (kk : ∀ M, mnK MI M B N r (2 ^ N) → V X (0, 0) 110 Q z_rf M ML 72 [(5, .int (iI (P : Int))), (4, .int (iI t)), (3, .int (iI (r : Int))), (2, .int (iI (P : Int))), (0, .ref (Q (B + 8))), (1, .ref (Q (B + 2)))] []) : ∀ (n c : Nat) (M : ZM), mnK MI M B N r c → 1 ≤ c → c ≤ P → P < c + n → V X (0, 0) 110 Q z_rf M ML 30 [(5, .int (iI (c : Int))), (4, .int (iI t)), (3, .int (iI (r : Int))), (2, .int (iI (P : Int))), (0, .ref (Q (B + 8))), (1, .ref (Q (B + 2)))] [] := by
  intro n
  induction n with
  | zero => intro c M G hc1 hc hn; exact absurd hn (by omega)
  | succ n ih =>
    intro c M G hc1 hc hn
    refine v_iload K 0 dX4_findMinors_30 rfl ?_
    refine v_iload_n K 3 dX4_findMinors_32 rfl rfl ?_
    refine v_icmp_ge K 72 ⟨by omega, by omega⟩ ⟨by omega, by omega⟩ dX4_findMinors_33 (by decide) (fun h33 => ?_) (fun h33 => ?_)
    · obtain e9 : c = P := (by omega)
      rw [e9] at G ⊢
      rw [hP] at G
      exact kk M G
    · have b5 := bts_b r 5
      have b6 := bts_b c 5
      have r2 : r < 2 ^ N := by omega
      have c2 : c < 2 ^ N := by omega
      have r3 := lt32 h5 r2
      have c3 := lt32 h5 c2
      refine v_iload K 0 dX4_findMinors_36 rfl ?_
      refine v_cSi K (c_J6_bitCount_0f7a4 c c3 _ rfl) rfl fc_X4_32 wt_J6_bitCount_0f7a4 rfl (by decide) (Nat.le_of_ble_eq_true rfl) dX4_findMinors_38 (fun r38 M38 L38 h38 => ?_)
      obtain ⟨hm38, hl38, hr38⟩ := h38
      subst M38 L38
      refine v_iload K 1 dX4_findMinors_41 rfl ?_
      refine v_icmp_ne K 66 ⟨by omega, by omega⟩ ⟨by omega, by omega⟩ dX4_findMinors_43 (by decide) (fun h43 => ?_) (fun h43 => ?_)
      · refine v_iinc K 0 (fun q9 => [(5, .int (iI q9)), (4, .int (iI t)), (3, .int (iI (r : Int))), (2, .int (iI (P : Int))), (0, .ref (Q (B + 8))), (1, .ref (Q (B + 2)))]) dX4_findMinors_66 rfl (by decide) (fun _ => rfl) (fun w hw => ?_)
        refine v_goto K 30 dX4_findMinors_69 (by decide) ?_
        obtain rfl : w = ((c + 1 : Nat) : Int) := by omega
        first | exact ih (c + 1) _ (mnK_put h5 (by omega) hr1 G hv) (by omega) (by omega) (by omega) | exact ih (c + 1) _ (mnK_sk G (by omega)) (by omega) (by omega) (by omega)
      · have hbe : bts c 5 = bts r 5 := by omega
        refine v_aload_n K 4 dX4_findMinors_46 rfl rfl ?_
        refine v_getr K ff_X4_18 (by have := ct_b hB; omega) (mx_k hB).1 rfl (mx_k hB).2.2.2 dX4_findMinors_47 ?_
        refine v_iload_n K 2 dX4_findMinors_50 rfl rfl ?_
        refine v_bipush K dX4_findMinors_51 (by decide) ?_
        refine v_imul K dX4_findMinors_53 ?_
        refine v_iload K 0 dX4_findMinors_54 rfl ?_
        refine v_iadd K dX4_findMinors_56 ?_
        refine v_aload_n K 4 dX4_findMinors_57 rfl rfl ?_
        refine v_aload_n K 5 dX4_findMinors_58 rfl rfl ?_
        refine v_iload_n K 2 dX4_findMinors_59 rfl rfl ?_
        refine v_iload K 0 dX4_findMinors_60 rfl ?_
        refine v_cVi K (c_X4_minorOf (MI := M) B hB N (by rw [G.1 _ _ (by omega)]; exact hN) h1 h5 r c r2 c2 (by omega) (fun i hi hb => by
          have dc := onL_d4 r r3 i (by omega) hb
          obtain ⟨q, q1, q2⟩ := (bts_5 c c3 N (by omega) c2).2.1 (by omega)
          have cc := onL_c3 c c3 hc1
          have p2 : 0 < 2 ^ i := Nat.pow_pos (by decide)
          exact (mn_all h5 G (by omega) (by omega) (by omega) (Or.inl (by omega))).trans (mnr_fr h5 G.1 _ _).symm) _ _ rfl rfl) rfl fc_X4_53 wm_X4_minorOf ws_X4_minorOf (by have := ct_b hB; omega) 4 (mx_k hB).1 (by decide) rfl rfl (by decide) (Nat.le_of_ble_eq_true rfl) dX4_findMinors_62 (fun r62 M62 L62 h62 => ?_)
        obtain ⟨hm62, hl62, hr62⟩ := h62
        subst M62 L62
        have hv : r62 = mnr MI B N r c := by rw [hr62]; exact mnr_fr h5 G.1 r c
        refine v_iast K (32 * r + c) (by have := ct_b hB; omega) (mx_l hB).2.2.2.2.1 (by omega) (by rw [(mx_l hB).2.2.2.2.2]; omega) dX4_findMinors_65 ?_
        refine v_iinc K 0 (fun q9 => [(5, .int (iI q9)), (4, .int (iI t)), (3, .int (iI (r : Int))), (2, .int (iI (P : Int))), (0, .ref (Q (B + 8))), (1, .ref (Q (B + 2)))]) dX4_findMinors_66 rfl (by decide) (fun _ => rfl) (fun w hw => ?_)
        refine v_goto K 30 dX4_findMinors_69 (by decide) ?_
        obtain rfl : w = ((c + 1 : Nat) : Int) := by omega
        first | exact ih (c + 1) _ (mnK_put h5 (by omega) hr1 G hv) (by omega) (by omega) (by omega) | exact ih (c + 1) _ (mnK_sk G (by omega)) (by omega) (by omega) (by omega)
set_option maxRecDepth 100000 in
set_option maxHeartbeats 4000000 in
theorem l_X4_findMinors {X : VX} {Q : Nat → Nat} {MI ML : ZM} (K : VK X cX4_findMinors RX4 6 none 3 71 0 0) (B : Nat) (hB : isCt B) (N : Nat) (hN : MI (B + 8) 5 = N) (h1 : 1 ≤ N) (h5 : N ≤ 5) (P : Nat) (hP : P = 2 ^ N) (hP2 : P ≤ 32) (E : VE X 0 0 110 Q (zq Q (zV fun M L => L = ML ∧ mnK MI M B N (2 ^ N) 1))) : ∀ (n r : Nat) (M : ZM), mnK MI M B N r 1 → 1 ≤ r → r ≤ P → P < r + n → V X (0, 0) 110 Q z_rf M ML 16 [(3, .int (iI (r : Int))), (2, .int (iI (P : Int))), (0, .ref (Q (B + 8))), (1, .ref (Q (B + 2)))] [] := by
  intro n
  induction n with
  | zero => intro r M G hr1 hr hn; exact absurd hn (by omega)
  | succ n ih =>
    intro r M G hr1 hr hn
    refine v_iload_n K 0 dX4_findMinors_16 rfl rfl ?_
    refine v_iload_n K 1 dX4_findMinors_17 rfl rfl ?_
    refine v_icmp_ge K 78 ⟨by omega, by omega⟩ ⟨by omega, by omega⟩ dX4_findMinors_18 (by decide) (fun h18 => ?_) (fun h18 => ?_)
    · obtain e9 : r = P := (by omega)
      rw [e9, hP] at G
      exact v_rv K E dX4_findMinors_78 ⟨rfl, G⟩
    · have r3 : r < 32 := by omega
      refine v_iload_n K 0 dX4_findMinors_21 rfl rfl ?_
      refine v_cSi K (c_J6_bitCount_0f7a4 r r3 _ rfl) rfl fc_X4_32 wt_J6_bitCount_0f7a4 rfl (by decide) (Nat.le_of_ble_eq_true rfl) dX4_findMinors_22 (fun r22 M22 L22 h22 => ?_)
      obtain ⟨hm22, hl22, hr22⟩ := h22
      subst M22 L22
      refine v_istore K (fun q9 => [(4, .int (iI q9)), (3, .int (iI (r : Int))), (2, .int (iI (P : Int))), (0, .ref (Q (B + 8))), (1, .ref (Q (B + 2)))]) dX4_findMinors_25 (by decide) (fun _ => rfl) (fun t ht => ?_)
      refine v_iconst K dX4_findMinors_27 ?_
      refine v_istore K (fun q9 => [(5, .int (iI q9)), (4, .int (iI t)), (3, .int (iI (r : Int))), (2, .int (iI (P : Int))), (0, .ref (Q (B + 8))), (1, .ref (Q (B + 2)))]) dX4_findMinors_28 (by decide) (fun _ => rfl) (fun c0 hc0 => ?_)
      subst hc0
      refine l_X4_findMinors_c K B hB N hN h1 h5 P hP hP2 r hr1 (by omega) t (by rw [ht, hr22]) (fun M G => ?_) 33 1 M G (by omega) (by omega) (by omega)
      refine v_iinc K 2 (fun q9 => [(3, .int (iI q9)), (5, .int (iI (P : Int))), (4, .int (iI t)), (2, .int (iI (P : Int))), (0, .ref (Q (B + 8))), (1, .ref (Q (B + 2)))]) dX4_findMinors_72 rfl (by decide) (fun _ => rfl) (fun w hw => ?_)
      refine v_goto K 16 dX4_findMinors_75 (by decide) ?_
      obtain rfl : w = ((r + 1 : Nat) : Int) := by omega
      refine v_sub K [0, 3, 4, 5] rfl ?_
      exact ih (r + 1) _ (mnK_nx G) (by omega) (by omega) (by omega)
set_option maxRecDepth 100000 in
set_option maxHeartbeats 4000000 in
theorem c_X4_findMinors {l : Launch} {D : va_G} {Z : ZC} {Q : Nat → Nat} {MI ML : ZM} (B : Nat) (hB : isCt B) (N : Nat) (hN : MI (B + 8) 5 = N) (h1 : 1 ≤ N) (h5 : N ≤ 5) : C_X4_findMinors l D Z Q [.ref (Q (B + 8)), .ref (Q (B + 2))] MI ML (zV fun M L => L = ML ∧ mnK MI M B N (2 ^ N) 1) := by
  refine CM.of (by decide +kernel) (Nat.le_of_ble_eq_true rfl) ?_
  intro X K E _ _ _ _
  show V X (0, 0) 110 Q z_rf MI ML 0 [(0, .ref (Q (B + 8))), (1, .ref (Q (B + 2)))] []
  obtain ⟨P, hP, hP2⟩ : ∃ P, P = 2 ^ N ∧ P ≤ 32 := ⟨2 ^ N, rfl, (by rcases (show N = 1 ∨ N = 2 ∨ N = 3 ∨ N = 4 ∨ N = 5 by omega) with e | e | e | e | e <;> subst e <;> decide)⟩
  have hP1 : 1 ≤ P := by rw [hP]; exact Nat.pow_pos (by decide)
  refine v_iconst K dX4_findMinors_0 ?_
  refine v_aload_n K 0 dX4_findMinors_1 rfl rfl ?_
  refine v_geti K ff_X4_21 (by have := ct_b hB; omega) (mx_k hB).1 rfl dX4_findMinors_2 ?_
  refine v_eqi ((N : Int)) (hN) ?_
  refine v_ishl K ((P : Int)) ((by rw [hP]; exact shl_1 _ (by omega))) dX4_findMinors_5 ?_
  refine v_istore_n K (fun q9 => [(2, .int (iI q9)), (0, .ref (Q (B + 8))), (1, .ref (Q (B + 2)))]) dX4_findMinors_6 rfl (by decide) (fun _ => rfl) (fun p8 hp8 => ?_)
  subst hp8
  refine v_aload_n K 1 dX4_findMinors_7 rfl rfl ?_
  refine v_getr K ff_X4_18 (by have := ct_b hB; omega) (mx_k hB).1 rfl (mx_k hB).2.2.2 dX4_findMinors_8 ?_
  refine v_iconst K dX4_findMinors_11 ?_
  refine v_iconst K dX4_findMinors_12 ?_
  refine v_iast K (0) (by have := ct_b hB; omega) (mx_l hB).2.2.2.2.1 (by omega) (by rw [(mx_l hB).2.2.2.2.2]; omega) dX4_findMinors_13 ?_
  refine v_iconst K dX4_findMinors_14 ?_
  refine v_istore_n K (fun q9 => [(3, .int (iI q9)), (2, .int (iI (P : Int))), (0, .ref (Q (B + 8))), (1, .ref (Q (B + 2)))]) dX4_findMinors_15 rfl (by decide) (fun _ => rfl) (fun r0 hr0 => ?_)
  subst hr0
  exact l_X4_findMinors K B hB N hN h1 h5 P hP hP2 E 33 1 _ mnK_1 (by omega) hP1 (by omega)
def tsK (MI M : ZM) (B k : Nat) : Prop := (∀ a b, a ≠ B + 10 → M a b = MI a b) ∧ ∀ q, q < 5 → (q < k → M (B + 10) q = - MI (B + 10) q) ∧ (k ≤ q → M (B + 10) q = MI (B + 10) q)
theorem tsK_put {MI M : ZM} {B k : Nat} {v : Int} (h : tsK MI M B k) (hk : k < 5) (hv : v = - M (B + 10) k) : tsK MI (z_up M (B + 10) k v) B (k + 1) := by
  refine ⟨fun a b q => by rw [z_up_k q]; exact h.1 a b q, fun q hq => ⟨fun a => ?_, fun a => ?_⟩⟩
  · by_cases e : q = k
    · subst e; rw [z_up_s, hv, (h.2 q hq).2 (Nat.le_refl _)]
    · rw [z_up_j e]; exact (h.2 q hq).1 (by omega)
  · rw [z_up_j (by omega)]; exact (h.2 q hq).2 (by omega)
def tkK (MI M : ZM) (B k : Nat) : Prop := (∀ a b, a ≠ B + 9 → M a b = MI a b) ∧ ∀ q, q < k → M (B + 9) q = MI (B + 10) q
theorem tkK_put {MI M : ZM} {B k : Nat} {v : Int} (h : tkK MI M B k) (hv : v = M (B + 10) k) : tkK MI (z_up M (B + 9) k v) B (k + 1) := by
  refine ⟨fun a b q => by rw [z_up_k q]; exact h.1 a b q, fun q hq => ?_⟩
  by_cases e : q = k
  · subst e; rw [z_up_s, hv]; exact h.1 _ _ (by omega)
  · rw [z_up_j e]; exact h.2 q (by omega)
set_option maxRecDepth 100000 in
set_option maxHeartbeats 4000000 in
theorem l_X4_turnSigns {X : VX} {Q : Nat → Nat} {MI ML : ZM} (K : VK X cX4_turnSigns RX4 2 none 0 0 0 0) (B : Nat) (hB : isCt B) (N : Nat) (hN : MI (B + 8) 5 = N) (h1 : 1 ≤ N) (h5 : N ≤ 5) (E : VE X 0 0 110 Q (zq Q (zV fun M L => L = ML ∧ (∀ a b, a ≠ B + 10 → ¬ (a = B + 8 ∧ b = 3) → M a b = MI a b) ∧ (∀ q, q < N → M (B + 10) q = - MI (B + 10) q) ∧ M (B + 8) 3 = - MI (B + 8) 3))) : ∀ (n k : Nat) (M : ZM), tsK MI M B k → k ≤ N → N < k + n → V X (0, 0) 110 Q z_rf M ML 2 [(1, .int (iI (k : Int))), (0, .ref (Q (B + 8)))] [] := by
  intro n
  induction n with
  | zero => intro k M G hk hn; exact absurd hn (by omega)
  | succ n ih =>
    intro k M G hk hn
    refine v_iload_n K 0 dX4_turnSigns_2 rfl rfl ?_
    refine v_aload_n K 1 dX4_turnSigns_3 rfl rfl ?_
    refine v_geti K ff_X4_21 (by have := ct_b hB; omega) (mx_k hB).1 rfl dX4_turnSigns_4 ?_
    refine v_eqi ((N : Int)) ((G.1 _ _ (by omega)).trans hN) ?_
    refine v_icmp_ge K 29 ⟨by omega, by omega⟩ ⟨by omega, by omega⟩ dX4_turnSigns_7 (by decide) (fun h7 => ?_) (fun h7 => ?_)
    · obtain e9 : k = N := (by omega)
      rw [e9] at G
      refine v_aload_n K 1 dX4_turnSigns_29 rfl rfl ?_
      refine v_aload_n K 1 dX4_turnSigns_30 rfl rfl ?_
      refine v_geti K ff_X4_63 (by have := ct_b hB; omega) (mx_k hB).1 rfl dX4_turnSigns_31 ?_
      refine v_eqi (MI (B + 8) 3) (G.1 _ _ (by omega)) ?_
      refine v_ineg K dX4_turnSigns_34 ?_
      refine v_puti K fp_X4_63 (by have := ct_b hB; omega) (mx_k hB).1 rfl dX4_turnSigns_35 ?_
      exact v_rv K E dX4_turnSigns_38 ⟨rfl, fun a b q1 q2 => by simp only [z_up]; rw [if_neg q2]; exact G.1 a b q1, fun q hq => by rw [z_up_k (by omega)]; exact (G.2 q (by omega)).1 hq, z_up_s⟩
    · refine v_aload_n K 1 dX4_turnSigns_10 rfl rfl ?_
      refine v_getr K ff_X4_15 (by have := ct_b hB; omega) (mx_k hB).1 rfl (mx_k hB).2.2.1 dX4_turnSigns_11 ?_
      refine v_iload_n K 0 dX4_turnSigns_14 rfl rfl ?_
      refine v_aload_n K 1 dX4_turnSigns_15 rfl rfl ?_
      refine v_getr K ff_X4_15 (by have := ct_b hB; omega) (mx_k hB).1 rfl (mx_k hB).2.2.1 dX4_turnSigns_16 ?_
      refine v_iload_n K 0 dX4_turnSigns_19 rfl rfl ?_
      refine v_iald K (k) (by have := ct_b hB; omega) (mx_l hB).2.2.1 (by omega) (by rw [(mx_l hB).2.2.2.1]; omega) dX4_turnSigns_20 ?_
      refine v_ineg K dX4_turnSigns_21 ?_
      refine v_iast K (k) (by have := ct_b hB; omega) (mx_l hB).2.2.1 (by omega) (by rw [(mx_l hB).2.2.2.1]; omega) dX4_turnSigns_22 ?_
      refine v_iinc K 0 (fun q9 => [(1, .int (iI q9)), (0, .ref (Q (B + 8)))]) dX4_turnSigns_23 rfl (by decide) (fun _ => rfl) (fun w hw => ?_)
      refine v_goto K 2 dX4_turnSigns_26 (by decide) ?_
      obtain rfl : w = ((k + 1 : Nat) : Int) := by omega
      exact ih (k + 1) _ (tsK_put G (by omega) rfl) (by omega) (by omega)
set_option maxRecDepth 100000 in
set_option maxHeartbeats 4000000 in
theorem c_X4_turnSigns {l : Launch} {D : va_G} {Z : ZC} {Q : Nat → Nat} {MI ML : ZM} (B : Nat) (hB : isCt B) (N : Nat) (hN : MI (B + 8) 5 = N) (h1 : 1 ≤ N) (h5 : N ≤ 5) : C_X4_turnSigns l D Z Q [.ref (Q (B + 8))] MI ML (zV fun M L => L = ML ∧ (∀ a b, a ≠ B + 10 → ¬ (a = B + 8 ∧ b = 3) → M a b = MI a b) ∧ (∀ q, q < N → M (B + 10) q = - MI (B + 10) q) ∧ M (B + 8) 3 = - MI (B + 8) 3) := by
  refine CM.of (by decide +kernel) (Nat.le_of_ble_eq_true rfl) ?_
  intro X K E _ _ _ _
  show V X (0, 0) 110 Q z_rf MI ML 0 [(0, .ref (Q (B + 8)))] []
  refine v_iconst K dX4_turnSigns_0 ?_
  refine v_istore_n K (fun q9 => [(1, .int (iI q9)), (0, .ref (Q (B + 8)))]) dX4_turnSigns_1 rfl (by decide) (fun _ => rfl) (fun k0 hk0 => ?_)
  subst hk0
  exact l_X4_turnSigns K B hB N hN h1 h5 E 6 0 MI ⟨fun _ _ _ => rfl, fun q _ => ⟨fun h => absurd h (by omega), fun _ => rfl⟩⟩ (by omega) (by omega)
set_option maxRecDepth 100000 in
set_option maxHeartbeats 4000000 in
theorem l_X4_takeTried {X : VX} {Q : Nat → Nat} {MI ML : ZM} (K : VK X cX4_takeTried RX4 2 none 0 0 0 0) (B : Nat) (hB : isCt B) (N : Nat) (hN : MI (B + 8) 5 = N) (h1 : 1 ≤ N) (h5 : N ≤ 5) (E : VE X 0 0 110 Q (zq Q (zV fun M L => L = ML ∧ (∀ a b, a ≠ B + 9 → ¬ (a = B + 8 ∧ b = 1) → M a b = MI a b) ∧ (∀ q, q < N → M (B + 9) q = MI (B + 10) q) ∧ M (B + 8) 1 = MI (B + 8) 3))) : ∀ (n k : Nat) (M : ZM), tkK MI M B k → k ≤ N → N < k + n → V X (0, 0) 110 Q z_rf M ML 2 [(1, .int (iI (k : Int))), (0, .ref (Q (B + 8)))] [] := by
  intro n
  induction n with
  | zero => intro k M G hk hn; exact absurd hn (by omega)
  | succ n ih =>
    intro k M G hk hn
    refine v_iload_n K 0 dX4_takeTried_2 rfl rfl ?_
    refine v_aload_n K 1 dX4_takeTried_3 rfl rfl ?_
    refine v_geti K ff_X4_21 (by have := ct_b hB; omega) (mx_k hB).1 rfl dX4_takeTried_4 ?_
    refine v_eqi ((N : Int)) ((G.1 _ _ (by omega)).trans hN) ?_
    refine v_icmp_ge K 28 ⟨by omega, by omega⟩ ⟨by omega, by omega⟩ dX4_takeTried_7 (by decide) (fun h7 => ?_) (fun h7 => ?_)
    · obtain e9 : k = N := (by omega)
      rw [e9] at G
      refine v_aload_n K 1 dX4_takeTried_28 rfl rfl ?_
      refine v_aload_n K 1 dX4_takeTried_29 rfl rfl ?_
      refine v_geti K ff_X4_63 (by have := ct_b hB; omega) (mx_k hB).1 rfl dX4_takeTried_30 ?_
      refine v_eqi (MI (B + 8) 3) (G.1 _ _ (by omega)) ?_
      refine v_puti K fp_X4_25 (by have := ct_b hB; omega) (mx_k hB).1 rfl dX4_takeTried_33 ?_
      exact v_rv K E dX4_takeTried_36 ⟨rfl, fun a b q1 q2 => by simp only [z_up]; rw [if_neg q2]; exact G.1 a b q1, fun q hq => by rw [z_up_k (by omega)]; exact G.2 q hq, z_up_s⟩
    · refine v_aload_n K 1 dX4_takeTried_10 rfl rfl ?_
      refine v_getr K ff_X4_9 (by have := ct_b hB; omega) (mx_k hB).1 rfl (mx_k hB).2.1 dX4_takeTried_11 ?_
      refine v_iload_n K 0 dX4_takeTried_14 rfl rfl ?_
      refine v_aload_n K 1 dX4_takeTried_15 rfl rfl ?_
      refine v_getr K ff_X4_15 (by have := ct_b hB; omega) (mx_k hB).1 rfl (mx_k hB).2.2.1 dX4_takeTried_16 ?_
      refine v_iload_n K 0 dX4_takeTried_19 rfl rfl ?_
      refine v_iald K (k) (by have := ct_b hB; omega) (mx_l hB).2.2.1 (by omega) (by rw [(mx_l hB).2.2.2.1]; omega) dX4_takeTried_20 ?_
      refine v_iast K (k) (by have := ct_b hB; omega) (mx_l hB).1 (by omega) (by rw [(mx_l hB).2.1]; omega) dX4_takeTried_21 ?_
      refine v_iinc K 0 (fun q9 => [(1, .int (iI q9)), (0, .ref (Q (B + 8)))]) dX4_takeTried_22 rfl (by decide) (fun _ => rfl) (fun w hw => ?_)
      refine v_goto K 2 dX4_takeTried_25 (by decide) ?_
      obtain rfl : w = ((k + 1 : Nat) : Int) := by omega
      exact ih (k + 1) _ (tkK_put G rfl) (by omega) (by omega)
set_option maxRecDepth 100000 in
set_option maxHeartbeats 4000000 in
theorem c_X4_takeTried {l : Launch} {D : va_G} {Z : ZC} {Q : Nat → Nat} {MI ML : ZM} (B : Nat) (hB : isCt B) (N : Nat) (hN : MI (B + 8) 5 = N) (h1 : 1 ≤ N) (h5 : N ≤ 5) : C_X4_takeTried l D Z Q [.ref (Q (B + 8))] MI ML (zV fun M L => L = ML ∧ (∀ a b, a ≠ B + 9 → ¬ (a = B + 8 ∧ b = 1) → M a b = MI a b) ∧ (∀ q, q < N → M (B + 9) q = MI (B + 10) q) ∧ M (B + 8) 1 = MI (B + 8) 3) := by
  refine CM.of (by decide +kernel) (Nat.le_of_ble_eq_true rfl) ?_
  intro X K E _ _ _ _
  show V X (0, 0) 110 Q z_rf MI ML 0 [(0, .ref (Q (B + 8)))] []
  refine v_iconst K dX4_takeTried_0 ?_
  refine v_istore_n K (fun q9 => [(1, .int (iI q9)), (0, .ref (Q (B + 8)))]) dX4_takeTried_1 rfl (by decide) (fun _ => rfl) (fun k0 hk0 => ?_)
  subst hk0
  exact l_X4_takeTried K B hB N hN h1 h5 E 6 0 MI ⟨fun _ _ _ => rfl, fun q h => absurd h (by omega)⟩ (by omega) (by omega)
set_option maxRecDepth 100000 in
set_option maxHeartbeats 4000000 in
theorem l_X4_isHolding_s {X : VX} {Q : Nat → Nat} {MI ML : ZM} (K : VK X cX4_isHolding RX4 5 (some .boolean) 0 0 0 0) (B : Nat) (hB : isCt B) (N : Nat) (hN : MI (B + 8) 5 = N) (h1 : 1 ≤ N) (h5 : N ≤ 5) (j : Nat) (hj : j < N) (kk : V X (0, 0) 110 Q z_rf MI ML 47 [(4, .int (iI (N : Int))), (3, .int (iI (sumK (fun i => MI (B + 10) i * cT MI B i j) N))), (2, .int (iI (j : Int))), (0, .ref (Q (B + 8))), (1, .ref (Q (B + 2)))] []) : ∀ (n k : Nat), k ≤ N → N < k + n → V X (0, 0) 110 Q z_rf MI ML 15 [(4, .int (iI (k : Int))), (3, .int (iI (sumK (fun i => MI (B + 10) i * cT MI B i j) k))), (2, .int (iI (j : Int))), (0, .ref (Q (B + 8))), (1, .ref (Q (B + 2)))] [] := by
  intro n
  induction n with
  | zero => intro k hk hn; exact absurd hn (by omega)
  | succ n ih =>
    intro k hk hn
    refine v_iload K 0 dX4_isHolding_15 rfl ?_
    refine v_aload_n K 3 dX4_isHolding_17 rfl rfl ?_
    refine v_geti K ff_X4_21 (by have := ct_b hB; omega) (mx_k hB).1 rfl dX4_isHolding_18 ?_
    refine v_eqi ((N : Int)) (hN) ?_
    refine v_icmp_ge K 47 ⟨by omega, by omega⟩ ⟨by omega, by omega⟩ dX4_isHolding_21 (by decide) (fun h21 => ?_) (fun h21 => ?_)
    · obtain e9 : k = N := (by omega)
      rw [e9]
      exact kk
    · refine v_iload_n K 1 dX4_isHolding_24 rfl rfl ?_
      refine v_aload_n K 3 dX4_isHolding_25 rfl rfl ?_
      refine v_getr K ff_X4_15 (by have := ct_b hB; omega) (mx_k hB).1 rfl (mx_k hB).2.2.1 dX4_isHolding_26 ?_
      refine v_iload K 0 dX4_isHolding_29 rfl ?_
      refine v_iald K (k) (by have := ct_b hB; omega) (mx_l hB).2.2.1 (by omega) (by rw [(mx_l hB).2.2.2.1]; omega) dX4_isHolding_31 ?_
      refine v_aload_n K 4 dX4_isHolding_32 rfl rfl ?_
      refine v_iload K 0 dX4_isHolding_33 rfl ?_
      refine v_aaldT K (k) (by have := ct_b hB; omega) (ct_k hB).2.2.1 (by omega) (by rw [(ct_k hB).2.2.2]; omega) (ct_r hB (by omega)).1 dX4_isHolding_35 ?_
      refine v_iload_n K 2 dX4_isHolding_36 rfl rfl ?_
      refine v_iald K (j) (by have := ct_b hB; omega) (ct_r hB (i := k) (by omega)).2.1 (by omega) (by rw [(ct_r hB (i := k) (by omega)).2.2]; omega) dX4_isHolding_37 ?_
      refine v_imul K dX4_isHolding_38 ?_
      refine v_iadd K dX4_isHolding_39 ?_
      refine v_istore_n K (fun q9 => [(3, .int (iI q9)), (4, .int (iI (k : Int))), (2, .int (iI (j : Int))), (0, .ref (Q (B + 8))), (1, .ref (Q (B + 2)))]) dX4_isHolding_40 rfl (by decide) (fun _ => rfl) (fun s2 hs2 => ?_)
      refine v_iinc K 1 (fun q9 => [(4, .int (iI q9)), (3, .int (iI s2)), (2, .int (iI (j : Int))), (0, .ref (Q (B + 8))), (1, .ref (Q (B + 2)))]) dX4_isHolding_41 rfl (by decide) (fun _ => rfl) (fun w hw => ?_)
      refine v_goto K 15 dX4_isHolding_44 (by decide) ?_
      obtain rfl : w = ((k + 1 : Nat) : Int) := by omega
      obtain rfl : s2 = sumK (fun i => MI (B + 10) i * cT MI B i j) (k + 1) := hs2
      exact ih (k + 1) (by omega) (by omega)
set_option maxRecDepth 100000 in
set_option maxHeartbeats 4000000 in
theorem l_X4_isHolding {X : VX} {Q : Nat → Nat} {MI ML : ZM} (K : VK X cX4_isHolding RX4 5 (some .boolean) 0 0 0 0) (B : Nat) (hB : isCt B) (N : Nat) (hN : MI (B + 8) 5 = N) (h1 : 1 ≤ N) (h5 : N ≤ 5) (hT : ∀ i k, i < N → k < N → -2 ≤ cT MI B i k ∧ cT MI B i k ≤ 2) (hb : ∀ q, q < N → -10000 ≤ MI (B + 10) q ∧ MI (B + 10) q ≤ 10000) (E : VE X 0 0 110 Q (zq Q (zI fun r M L => M = MI ∧ L = ML ∧ ((r = 1 ∧ ∀ j, j < N → 0 ≤ sumK (fun i => MI (B + 10) i * cT MI B i j) N) ∨ (r = 0 ∧ ∃ j, j < N ∧ sumK (fun i => MI (B + 10) i * cT MI B i j) N < 0))))) : ∀ (n j : Nat), (∀ q, q < j → 0 ≤ sumK (fun i => MI (B + 10) i * cT MI B i q) N) → j ≤ N → N < j + n → V X (0, 0) 110 Q z_rf MI ML 2 [(2, .int (iI (j : Int))), (0, .ref (Q (B + 8))), (1, .ref (Q (B + 2)))] [] := by
  intro n
  induction n with
  | zero => intro j G hj hn; exact absurd hn (by omega)
  | succ n ih =>
    intro j G hj hn
    refine v_iload_n K 0 dX4_isHolding_2 rfl rfl ?_
    refine v_aload_n K 1 dX4_isHolding_3 rfl rfl ?_
    refine v_geti K ff_X4_21 (by have := ct_b hB; omega) (mx_k hB).1 rfl dX4_isHolding_4 ?_
    refine v_eqi ((N : Int)) (hN) ?_
    refine v_icmp_ge K 59 ⟨by omega, by omega⟩ ⟨by omega, by omega⟩ dX4_isHolding_7 (by decide) (fun h7 => ?_) (fun h7 => ?_)
    · obtain e9 : j = N := (by omega)
      rw [e9] at G
      refine v_iconst K dX4_isHolding_59 ?_
      exact v_rz K E (Or.inr rfl) dX4_isHolding_60 ⟨rfl, rfl, Or.inl ⟨rfl, G⟩⟩
    · refine v_iconst K dX4_isHolding_10 ?_
      refine v_istore_n K (fun q9 => [(3, .int (iI q9)), (2, .int (iI (j : Int))), (0, .ref (Q (B + 8))), (1, .ref (Q (B + 2)))]) dX4_isHolding_11 rfl (by decide) (fun _ => rfl) (fun s hs => ?_)
      refine v_iconst K dX4_isHolding_12 ?_
      refine v_istore K (fun q9 => [(4, .int (iI q9)), (3, .int (iI s)), (2, .int (iI (j : Int))), (0, .ref (Q (B + 8))), (1, .ref (Q (B + 2)))]) dX4_isHolding_13 (by decide) (fun _ => rfl) (fun k0 hk0 => ?_)
      subst hs hk0
      refine l_X4_isHolding_s K B hB N hN h1 h5 j (by omega) ?_ 6 0 (by omega) (by omega)
      have bd := sumK_bd (f := (fun i => MI (B + 10) i * cT MI B i j)) (B := 20000) N (fun i hi => by
        have t := hT i j hi (by omega)
        have b := hb i hi
        show -20000 ≤ MI (B + 10) i * cT MI B i j ∧ MI (B + 10) i * cT MI B i j ≤ 20000
        rcases (show cT MI B i j = -2 ∨ cT MI B i j = -1 ∨ cT MI B i j = 0 ∨ cT MI B i j = 1 ∨ cT MI B i j = 2 by omega) with e | e | e | e | e <;> rw [e] <;> omega)
      refine v_iload_n K 1 dX4_isHolding_47 rfl rfl ?_
      refine v_if_ge K 53 ⟨by omega, by omega⟩ dX4_isHolding_48 (by decide) (fun h48 => ?_) (fun h48 => ?_)
      · refine v_iinc K 2 (fun q9 => [(2, .int (iI q9)), (4, .int (iI (N : Int))), (3, .int (iI (sumK (fun i => MI (B + 10) i * cT MI B i j) N))), (0, .ref (Q (B + 8))), (1, .ref (Q (B + 2)))]) dX4_isHolding_53 rfl (by decide) (fun _ => rfl) (fun w hw => ?_)
        refine v_goto K 2 dX4_isHolding_56 (by decide) ?_
        obtain rfl : w = ((j + 1 : Nat) : Int) := by omega
        refine v_sub K [0, 3, 4] rfl ?_
        exact ih (j + 1) (fun q hq => by by_cases e : q = j; (subst e; omega); exact G q (by omega)) (by omega) (by omega)
      · refine v_iconst K dX4_isHolding_51 ?_
        exact v_rz K E (Or.inl rfl) dX4_isHolding_52 ⟨rfl, rfl, Or.inr ⟨rfl, j, by omega, by omega⟩⟩
set_option maxRecDepth 100000 in
set_option maxHeartbeats 4000000 in
theorem c_X4_isHolding {l : Launch} {D : va_G} {Z : ZC} {Q : Nat → Nat} {MI ML : ZM} (B : Nat) (hB : isCt B) (N : Nat) (hN : MI (B + 8) 5 = N) (h1 : 1 ≤ N) (h5 : N ≤ 5) (hT : ∀ i k, i < N → k < N → -2 ≤ cT MI B i k ∧ cT MI B i k ≤ 2) (hb : ∀ q, q < N → -10000 ≤ MI (B + 10) q ∧ MI (B + 10) q ≤ 10000) : C_X4_isHolding l D Z Q [.ref (Q (B + 8)), .ref (Q (B + 2))] MI ML (zI fun r M L => M = MI ∧ L = ML ∧ ((r = 1 ∧ ∀ j, j < N → 0 ≤ sumK (fun i => MI (B + 10) i * cT MI B i j) N) ∨ (r = 0 ∧ ∃ j, j < N ∧ sumK (fun i => MI (B + 10) i * cT MI B i j) N < 0))) := by
  refine CM.of (by decide +kernel) (Nat.le_of_ble_eq_true rfl) ?_
  intro X K E _ _ _ _
  show V X (0, 0) 110 Q z_rf MI ML 0 [(0, .ref (Q (B + 8))), (1, .ref (Q (B + 2)))] []
  refine v_iconst K dX4_isHolding_0 ?_
  refine v_istore_n K (fun q9 => [(2, .int (iI q9)), (0, .ref (Q (B + 8))), (1, .ref (Q (B + 2)))]) dX4_isHolding_1 rfl (by decide) (fun _ => rfl) (fun j0 hj0 => ?_)
  subst hj0
  exact l_X4_isHolding K B hB N hN h1 h5 hT hb E 6 0 (fun q h => absurd h (by omega)) (by omega) (by omega)
theorem mul_b2 {a b : Int} (a0 : -10000 ≤ a) (a1 : a ≤ 10000) (b0 : -50000 ≤ b) (b1 : b ≤ 50000) : -500000000 ≤ a * b ∧ a * b ≤ 500000000 := by
  have h1 := Int.mul_nonneg (show 0 ≤ 10000 - a by omega) (show 0 ≤ 50000 + b by omega)
  have h2 := Int.mul_nonneg (show 0 ≤ 10000 + a by omega) (show 0 ≤ 50000 - b by omega)
  have h3 := Int.mul_nonneg (show 0 ≤ 10000 - a by omega) (show 0 ≤ 50000 - b by omega)
  have h4 := Int.mul_nonneg (show 0 ≤ 10000 + a by omega) (show 0 ≤ 50000 + b by omega)
  constructor <;> grind
set_option maxRecDepth 100000 in
set_option maxHeartbeats 4000000 in
theorem l_X4_isGreater {X : VX} {Q : Nat → Nat} {MI ML : ZM} (K : VK X cX4_isGreater RX4 3 (some .boolean) 0 0 0 0) (B : Nat) (hB : isCt B) (N : Nat) (hN : MI (B + 8) 5 = N) (h1 : 1 ≤ N) (h5 : N ≤ 5) (hb : ∀ q, q < N → -10000 ≤ MI (B + 10) q ∧ MI (B + 10) q ≤ 10000) (hp : MI (B + 8) 1 ≠ 0 → ∀ q, q < N → -10000 ≤ MI (B + 9) q ∧ MI (B + 9) q ≤ 10000) (hw : -50000 ≤ MI (B + 8) 1 ∧ MI (B + 8) 1 ≤ 50000) (hv : -50000 ≤ MI (B + 8) 3 ∧ MI (B + 8) 3 ≤ 50000) (w0 : MI (B + 8) 1 ≠ 0) (E : VE X 0 0 110 Q (zq Q (zI fun r M L => M = MI ∧ L = ML ∧ ((r = 1 ∧ (MI (B + 8) 1 = 0 ∨ lxg N (fun i => MI (B + 10) i * MI (B + 8) 1 - MI (B + 9) i * MI (B + 8) 3))) ∨ (r = 0 ∧ MI (B + 8) 1 ≠ 0 ∧ lxg N (fun i => MI (B + 9) i * MI (B + 8) 3 - MI (B + 10) i * MI (B + 8) 1)))))) : ∀ (n k : Nat), (∀ q, q < k → MI (B + 10) q * MI (B + 8) 1 - MI (B + 9) q * MI (B + 8) 3 = 0) → k ≤ N → N < k + n → V X (0, 0) 110 Q z_rf MI ML 11 [(1, .int (iI (k : Int))), (0, .ref (Q (B + 8)))] [] := by
  intro n
  induction n with
  | zero => intro k G hk hn; exact absurd hn (by omega)
  | succ n ih =>
    intro k G hk hn
    refine v_iload_n K 0 dX4_isGreater_11 rfl rfl ?_
    refine v_aload_n K 1 dX4_isGreater_12 rfl rfl ?_
    refine v_geti K ff_X4_21 (by have := ct_b hB; omega) (mx_k hB).1 rfl dX4_isGreater_13 ?_
    refine v_eqi ((N : Int)) (hN) ?_
    refine v_icmp_ge K 63 ⟨by omega, by omega⟩ ⟨by omega, by omega⟩ dX4_isGreater_16 (by decide) (fun h16 => ?_) (fun h16 => ?_)
    · refine v_iconst K dX4_isGreater_63 ?_
      exact v_rz K E (Or.inl rfl) dX4_isGreater_64 ⟨rfl, rfl, Or.inr ⟨rfl, w0, fun i hi _ => by have := G i (by omega); show 0 ≤ MI (B + 9) i * MI (B + 8) 3 - MI (B + 10) i * MI (B + 8) 1; omega⟩⟩
    · have m1 := mul_b2 (hb k (by omega)).1 (hb k (by omega)).2 hw.1 hw.2
      have m2 := mul_b2 (hp w0 k (by omega)).1 (hp w0 k (by omega)).2 hv.1 hv.2
      refine v_aload_n K 1 dX4_isGreater_19 rfl rfl ?_
      refine v_getr K ff_X4_15 (by have := ct_b hB; omega) (mx_k hB).1 rfl (mx_k hB).2.2.1 dX4_isGreater_20 ?_
      refine v_iload_n K 0 dX4_isGreater_23 rfl rfl ?_
      refine v_iald K (k) (by have := ct_b hB; omega) (mx_l hB).2.2.1 (by omega) (by rw [(mx_l hB).2.2.2.1]; omega) dX4_isGreater_24 ?_
      refine v_aload_n K 1 dX4_isGreater_25 rfl rfl ?_
      refine v_geti K ff_X4_25 (by have := ct_b hB; omega) (mx_k hB).1 rfl dX4_isGreater_26 ?_
      refine v_imul K dX4_isGreater_29 ?_
      refine v_aload_n K 1 dX4_isGreater_30 rfl rfl ?_
      refine v_getr K ff_X4_9 (by have := ct_b hB; omega) (mx_k hB).1 rfl (mx_k hB).2.1 dX4_isGreater_31 ?_
      refine v_iload_n K 0 dX4_isGreater_34 rfl rfl ?_
      refine v_iald K (k) (by have := ct_b hB; omega) (mx_l hB).1 (by omega) (by rw [(mx_l hB).2.1]; omega) dX4_isGreater_35 ?_
      refine v_aload_n K 1 dX4_isGreater_36 rfl rfl ?_
      refine v_geti K ff_X4_63 (by have := ct_b hB; omega) (mx_k hB).1 rfl dX4_isGreater_37 ?_
      refine v_imul K dX4_isGreater_40 ?_
      refine v_isub K dX4_isGreater_41 ?_
      refine v_istore_n K (fun q9 => [(2, .int (iI q9)), (1, .int (iI (k : Int))), (0, .ref (Q (B + 8)))]) dX4_isGreater_42 rfl (by decide) (fun _ => rfl) (fun d hd => ?_)
      subst hd
      refine v_iload_n K 0 dX4_isGreater_43 rfl rfl ?_
      refine v_if_eq K 57 ⟨by omega, by omega⟩ dX4_isGreater_44 (by decide) (fun h44 => ?_) (fun h44 => ?_)
      · refine v_iinc K 1 (fun q9 => [(1, .int (iI q9)), (2, .int (iI (MI (B + 10) k * MI (B + 8) 1 - MI (B + 9) k * MI (B + 8) 3))), (0, .ref (Q (B + 8)))]) dX4_isGreater_57 rfl (by decide) (fun _ => rfl) (fun w hw => ?_)
        refine v_goto K 11 dX4_isGreater_60 (by decide) ?_
        obtain rfl : w = ((k + 1 : Nat) : Int) := by omega
        refine v_sub K [0, 2] rfl ?_
        exact ih (k + 1) (fun q hq => by by_cases e : q = k; (subst e; exact h44); exact G q (by omega)) (by omega) (by omega)
      · refine v_iload_n K 0 dX4_isGreater_47 rfl rfl ?_
        refine v_if_le K 55 ⟨by omega, by omega⟩ dX4_isGreater_48 (by decide) (fun h48 => ?_) (fun h48 => ?_)
        · refine v_iconst K dX4_isGreater_55 ?_
          exact v_rz K E (by omega) dX4_isGreater_56 (by
          refine ⟨rfl, rfl, ?_⟩
          have fin : ∀ (d : Nat → Int), (∀ q, q < k → d q = 0) → 0 ≤ d k → d k ≠ 0 → lxg N d := by
            intro d d1 d2 d3 i hi hj
            by_cases a : k < i
            · exact absurd (hj k a) d3
            · by_cases b : i = k
              · rw [b]; exact d2
              · rw [d1 i (by omega)]; omega
          first
            | exact Or.inl ⟨rfl, Or.inr (fin (fun i => MI (B + 10) i * MI (B + 8) 1 - MI (B + 9) i * MI (B + 8) 3) G (by show 0 ≤ MI (B + 10) k * MI (B + 8) 1 - MI (B + 9) k * MI (B + 8) 3; omega) h44)⟩
            | exact Or.inr ⟨rfl, w0, fin (fun i => MI (B + 9) i * MI (B + 8) 3 - MI (B + 10) i * MI (B + 8) 1) (fun q hq => by have := G q hq; show MI (B + 9) q * MI (B + 8) 3 - MI (B + 10) q * MI (B + 8) 1 = 0; omega) (by show 0 ≤ MI (B + 9) k * MI (B + 8) 3 - MI (B + 10) k * MI (B + 8) 1; omega) (by show MI (B + 9) k * MI (B + 8) 3 - MI (B + 10) k * MI (B + 8) 1 ≠ 0; omega)⟩)
        · refine v_iconst K dX4_isGreater_51 ?_
          refine v_goto K 56 dX4_isGreater_52 (by decide) ?_
          exact v_rz K E (by omega) dX4_isGreater_56 (by
          refine ⟨rfl, rfl, ?_⟩
          have fin : ∀ (d : Nat → Int), (∀ q, q < k → d q = 0) → 0 ≤ d k → d k ≠ 0 → lxg N d := by
            intro d d1 d2 d3 i hi hj
            by_cases a : k < i
            · exact absurd (hj k a) d3
            · by_cases b : i = k
              · rw [b]; exact d2
              · rw [d1 i (by omega)]; omega
          first
            | exact Or.inl ⟨rfl, Or.inr (fin (fun i => MI (B + 10) i * MI (B + 8) 1 - MI (B + 9) i * MI (B + 8) 3) G (by show 0 ≤ MI (B + 10) k * MI (B + 8) 1 - MI (B + 9) k * MI (B + 8) 3; omega) h44)⟩
            | exact Or.inr ⟨rfl, w0, fin (fun i => MI (B + 9) i * MI (B + 8) 3 - MI (B + 10) i * MI (B + 8) 1) (fun q hq => by have := G q hq; show MI (B + 9) q * MI (B + 8) 3 - MI (B + 10) q * MI (B + 8) 1 = 0; omega) (by show 0 ≤ MI (B + 9) k * MI (B + 8) 3 - MI (B + 10) k * MI (B + 8) 1; omega) (by show MI (B + 9) k * MI (B + 8) 3 - MI (B + 10) k * MI (B + 8) 1 ≠ 0; omega)⟩)
set_option maxRecDepth 100000 in
set_option maxHeartbeats 4000000 in
theorem c_X4_isGreater {l : Launch} {D : va_G} {Z : ZC} {Q : Nat → Nat} {MI ML : ZM} (B : Nat) (hB : isCt B) (N : Nat) (hN : MI (B + 8) 5 = N) (h1 : 1 ≤ N) (h5 : N ≤ 5) (hb : ∀ q, q < N → -10000 ≤ MI (B + 10) q ∧ MI (B + 10) q ≤ 10000) (hp : MI (B + 8) 1 ≠ 0 → ∀ q, q < N → -10000 ≤ MI (B + 9) q ∧ MI (B + 9) q ≤ 10000) (hw : -50000 ≤ MI (B + 8) 1 ∧ MI (B + 8) 1 ≤ 50000) (hv : -50000 ≤ MI (B + 8) 3 ∧ MI (B + 8) 3 ≤ 50000) : C_X4_isGreater l D Z Q [.ref (Q (B + 8))] MI ML (zI fun r M L => M = MI ∧ L = ML ∧ ((r = 1 ∧ (MI (B + 8) 1 = 0 ∨ lxg N (fun i => MI (B + 10) i * MI (B + 8) 1 - MI (B + 9) i * MI (B + 8) 3))) ∨ (r = 0 ∧ MI (B + 8) 1 ≠ 0 ∧ lxg N (fun i => MI (B + 9) i * MI (B + 8) 3 - MI (B + 10) i * MI (B + 8) 1)))) := by
  refine CM.of (by decide +kernel) (Nat.le_of_ble_eq_true rfl) ?_
  intro X K E _ _ _ _
  show V X (0, 0) 110 Q z_rf MI ML 0 [(0, .ref (Q (B + 8)))] []
  refine v_aload_n K 0 dX4_isGreater_0 rfl rfl ?_
  refine v_geti K ff_X4_25 (by have := ct_b hB; omega) (mx_k hB).1 rfl dX4_isGreater_1 ?_
  refine v_if_ne K 9 ⟨by omega, by omega⟩ dX4_isGreater_4 (by decide) (fun h4 => ?_) (fun h4 => ?_)
  · refine v_iconst K dX4_isGreater_9 ?_
    refine v_istore_n K (fun q9 => [(1, .int (iI q9)), (0, .ref (Q (B + 8)))]) dX4_isGreater_10 rfl (by decide) (fun _ => rfl) (fun k0 hk0 => ?_)
    subst hk0
    exact l_X4_isGreater K B hB N hN h1 h5 hb hp hw hv (by omega) E 6 0 (fun q h => absurd h (by omega)) (by omega) (by omega)
  · refine v_iconst K dX4_isGreater_7 ?_
    exact v_rz K E (Or.inr rfl) dX4_isGreater_8 ⟨rfl, rfl, Or.inl ⟨rfl, Or.inl (by omega)⟩⟩
set_option maxRecDepth 100000 in
set_option maxHeartbeats 4000000 in
theorem l_X4_isWithin {X : VX} {Q : Nat → Nat} {MI ML : ZM} (K : VK X cX4_isWithin RX4 4 (some .boolean) 0 0 0 0) (B : Nat) (hB : isCt B) (N : Nat) (hN : MI (B + 8) 5 = N) (h1 : 1 ≤ N) (h5 : N ≤ 5) (u v : Int) (hu : 1 ≤ u) (huv : u ≤ v) (hv : v ≤ 20) (hp : ∀ q, q < N → -10000 ≤ MI (B + 9) q ∧ MI (B + 9) q ≤ 10000) (hw : -50000 ≤ MI (B + 8) 1 ∧ MI (B + 8) 1 ≤ 50000) (E : VE X 0 0 110 Q (zq Q (zI fun r M L => M = MI ∧ L = ML ∧ ((r = 1 ∧ ∀ d, d < N → MI (B + 9) d * v ≤ u * MI (B + 8) 1) ∨ (r = 0 ∧ ¬ ∀ d, d < N → MI (B + 9) d * v ≤ u * MI (B + 8) 1))))) : ∀ (n k : Nat), (∀ d, d < k → MI (B + 9) d * v ≤ u * MI (B + 8) 1) → k ≤ N → N < k + n → V X (0, 0) 110 Q z_rf MI ML 2 [(3, .int (iI (k : Int))), (0, .ref (Q (B + 8))), (1, .int (iI u)), (2, .int (iI v))] [] := by
  intro n
  induction n with
  | zero => intro k G hk hn; exact absurd hn (by omega)
  | succ n ih =>
    intro k G hk hn
    refine v_iload_n K 0 dX4_isWithin_2 rfl rfl ?_
    refine v_aload_n K 1 dX4_isWithin_3 rfl rfl ?_
    refine v_geti K ff_X4_21 (by have := ct_b hB; omega) (mx_k hB).1 rfl dX4_isWithin_4 ?_
    refine v_eqi ((N : Int)) (hN) ?_
    refine v_icmp_ge K 35 ⟨by omega, by omega⟩ ⟨by omega, by omega⟩ dX4_isWithin_7 (by decide) (fun h7 => ?_) (fun h7 => ?_)
    · obtain e9 : k = N := (by omega)
      rw [e9] at G
      refine v_iconst K dX4_isWithin_35 ?_
      exact v_rz K E (Or.inr rfl) dX4_isWithin_36 ⟨rfl, rfl, Or.inl ⟨rfl, G⟩⟩
    · have m1 := mul_b2 (hp k (by omega)).1 (hp k (by omega)).2 (show -50000 ≤ v by omega) (show v ≤ 50000 by omega)
      have m2 := mul_b2 (show -10000 ≤ u by omega) (show u ≤ 10000 by omega) hw.1 hw.2
      refine v_aload_n K 1 dX4_isWithin_10 rfl rfl ?_
      refine v_getr K ff_X4_9 (by have := ct_b hB; omega) (mx_k hB).1 rfl (mx_k hB).2.1 dX4_isWithin_11 ?_
      refine v_iload_n K 0 dX4_isWithin_14 rfl rfl ?_
      refine v_iald K (k) (by have := ct_b hB; omega) (mx_l hB).1 (by omega) (by rw [(mx_l hB).2.1]; omega) dX4_isWithin_15 ?_
      refine v_iload_n K 3 dX4_isWithin_16 rfl rfl ?_
      refine v_imul K dX4_isWithin_17 ?_
      refine v_iload_n K 2 dX4_isWithin_18 rfl rfl ?_
      refine v_aload_n K 1 dX4_isWithin_19 rfl rfl ?_
      refine v_geti K ff_X4_25 (by have := ct_b hB; omega) (mx_k hB).1 rfl dX4_isWithin_20 ?_
      refine v_imul K dX4_isWithin_23 ?_
      refine v_icmp_le K 29 ⟨by omega, by omega⟩ ⟨by omega, by omega⟩ dX4_isWithin_24 (by decide) (fun h24 => ?_) (fun h24 => ?_)
      · refine v_iinc K 0 (fun q9 => [(3, .int (iI q9)), (0, .ref (Q (B + 8))), (1, .int (iI u)), (2, .int (iI v))]) dX4_isWithin_29 rfl (by decide) (fun _ => rfl) (fun w hw => ?_)
        refine v_goto K 2 dX4_isWithin_32 (by decide) ?_
        obtain rfl : w = ((k + 1 : Nat) : Int) := by omega
        exact ih (k + 1) (fun q hq => by by_cases e : q = k; (subst e; omega); exact G q (by omega)) (by omega) (by omega)
      · refine v_iconst K dX4_isWithin_27 ?_
        exact v_rz K E (Or.inl rfl) dX4_isWithin_28 ⟨rfl, rfl, Or.inr ⟨rfl, fun h => by have := h k (by omega); omega⟩⟩
set_option maxRecDepth 100000 in
set_option maxHeartbeats 4000000 in
theorem c_X4_isWithin {l : Launch} {D : va_G} {Z : ZC} {Q : Nat → Nat} {MI ML : ZM} (B : Nat) (hB : isCt B) (N : Nat) (hN : MI (B + 8) 5 = N) (h1 : 1 ≤ N) (h5 : N ≤ 5) (u v : Int) (hu : 1 ≤ u) (huv : u ≤ v) (hv : v ≤ 20) (hp : ∀ q, q < N → -10000 ≤ MI (B + 9) q ∧ MI (B + 9) q ≤ 10000) (hw : -50000 ≤ MI (B + 8) 1 ∧ MI (B + 8) 1 ≤ 50000) : C_X4_isWithin l D Z Q [.ref (Q (B + 8)), .int (iI u), .int (iI v)] MI ML (zI fun r M L => M = MI ∧ L = ML ∧ ((r = 1 ∧ ∀ d, d < N → MI (B + 9) d * v ≤ u * MI (B + 8) 1) ∨ (r = 0 ∧ ¬ ∀ d, d < N → MI (B + 9) d * v ≤ u * MI (B + 8) 1))) := by
  refine CM.of (by decide +kernel) (Nat.le_of_ble_eq_true rfl) ?_
  intro X K E _ _ _ _
  show V X (0, 0) 110 Q z_rf MI ML 0 [(0, .ref (Q (B + 8))), (1, .int (iI u)), (2, .int (iI v))] []
  refine v_iconst K dX4_isWithin_0 ?_
  refine v_istore_n K (fun q9 => [(3, .int (iI q9)), (0, .ref (Q (B + 8))), (1, .int (iI u)), (2, .int (iI v))]) dX4_isWithin_1 rfl (by decide) (fun _ => rfl) (fun k0 hk0 => ?_)
  subst hk0
  exact l_X4_isWithin K B hB N hN h1 h5 u v hu huv hv hp hw E 6 0 (fun q h => absurd h (by omega)) (by omega) (by omega)
