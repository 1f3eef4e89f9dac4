set_option maxRecDepth 100000 in
set_option maxHeartbeats 4000000 in
theorem l_X1_hasTablesOf_b {X : VX} {Q : Nat → Nat} {MI ML : ZM} (K : VK X cX1_hasTablesOf RX1 5 (some .boolean) 0 0 0 0) (N : Nat) (h5 : N ≤ 5) (hb : ∀ i j, i < N → j < N → (-2 ≤ MI (54 + i) j ∧ MI (54 + i) j ≤ 2) ∧ (-2 ≤ MI (22 + i) j ∧ MI (22 + i) j ≤ 2)) (a : Nat) (ha : a < N) (E : VE X 0 0 110 Q (zq Q (zI fun r M L => M = MI ∧ L = ML ∧ ((r = 1 ∧ ∀ i j, i < j → j < N → MI (54 + i) j = MI (22 + i) j) ∨ (r = 0 ∧ ∃ i j, i < j ∧ j < N ∧ MI (54 + i) j ≠ MI (22 + i) j))))) (kk : (∀ i j, i < j → j < N → i < a + 1 → MI (54 + i) j = MI (22 + i) j) → V X (0, 0) 110 Q z_rf MI ML 47 [(4, .int (iI (N : Int))), (3, .int (iI (a : Int))), (0, .ref (Q 51)), (1, .ref (Q 19)), (2, .int (iI (N : Int)))] []) : ∀ (n b : Nat), a < b → (∀ i j, i < j → j < N → (i < a ∨ (i = a ∧ j < b)) → MI (54 + i) j = MI (22 + i) j) → b ≤ N → N < b + n → V X (0, 0) 110 Q z_rf MI ML 12 [(4, .int (iI (b : Int))), (3, .int (iI (a : Int))), (0, .ref (Q 51)), (1, .ref (Q 19)), (2, .int (iI (N : Int)))] [] := by
  intro n
  induction n with
  | zero => intro b hab G hbN hn; exact absurd hn (by omega)
  | succ n ih =>
    intro b hab G hbN hn
    refine v_iload K 0 dX1_hasTablesOf_12 rfl ?_
    refine v_iload_n K 4 dX1_hasTablesOf_14 rfl rfl ?_
    refine v_icmp_ge K 47 ⟨by omega, by omega⟩ ⟨by omega, by omega⟩ dX1_hasTablesOf_15 (by decide) (fun h15 => ?_) (fun h15 => ?_)
    · obtain e9 : b = N := (by omega)
      rw [e9] at G ⊢
      exact kk (fun i j h1 h2 h3 => G i j h1 h2 (by omega))
    · have q := hb a b (by omega) (by omega)
      refine v_aload_n K 2 dX1_hasTablesOf_18 rfl rfl ?_
      refine v_getr K ff_X1_19 (by decide) rfl rfl rfl dX1_hasTablesOf_19 ?_
      refine v_iload_n K 1 dX1_hasTablesOf_22 rfl rfl ?_
      refine v_aaldT K (a) (by decide) rfl rfl (by show _ < 5; omega) (zr_tt (by omega)) dX1_hasTablesOf_23 ?_
      refine v_iload K 0 dX1_hasTablesOf_24 rfl ?_
      refine v_iald K (b) (by omega) (ct_r (Or.inr rfl) (i := a) (by omega)).2.1 rfl (by rw [show z_ln (54 + a) = 5 from (ct_r (Or.inr rfl) (i := a) (by omega)).2.2]; omega) dX1_hasTablesOf_26 ?_
      refine v_aload_n K 3 dX1_hasTablesOf_27 rfl rfl ?_
      refine v_getr K ff_X1_19 (by decide) rfl rfl rfl dX1_hasTablesOf_28 ?_
      refine v_iload_n K 1 dX1_hasTablesOf_31 rfl rfl ?_
      refine v_aaldT K (a) (by decide) rfl rfl (by show _ < 5; omega) (zr_nt (by omega)) dX1_hasTablesOf_32 ?_
      refine v_iload K 0 dX1_hasTablesOf_33 rfl ?_
      refine v_iald K (b) (by omega) (ct_r (Or.inl rfl) (i := a) (by omega)).2.1 rfl (by rw [show z_ln (22 + a) = 5 from (ct_r (Or.inl rfl) (i := a) (by omega)).2.2]; omega) dX1_hasTablesOf_35 ?_
      refine v_icmp_eq K 41 ⟨by omega, by omega⟩ ⟨by omega, by omega⟩ dX1_hasTablesOf_36 (by decide) (fun h36 => ?_) (fun h36 => ?_)
      · refine v_iinc K 0 (fun q9 => [(4, .int (iI q9)), (3, .int (iI (a : Int))), (0, .ref (Q 51)), (1, .ref (Q 19)), (2, .int (iI (N : Int)))]) dX1_hasTablesOf_41 rfl (by decide) (fun _ => rfl) (fun w hw => ?_)
        refine v_goto K 12 dX1_hasTablesOf_44 (by decide) ?_
        obtain rfl : w = ((b + 1 : Nat) : Int) := by omega
        exact ih (b + 1) (by omega) (fun i j h1 h2 h3 => by by_cases e : i = a ∧ j = b; (obtain ⟨rfl, rfl⟩ := e; exact h36); exact G i j h1 h2 (by omega)) (by omega) (by omega)
      · refine v_iconst K dX1_hasTablesOf_39 ?_
        exact v_rz K E (Or.inl rfl) dX1_hasTablesOf_40 ⟨rfl, rfl, Or.inr ⟨rfl, a, b, hab, by omega, h36⟩⟩
set_option maxRecDepth 100000 in
set_option maxHeartbeats 4000000 in
theorem l_X1_hasTablesOf {X : VX} {Q : Nat → Nat} {MI ML : ZM} (K : VK X cX1_hasTablesOf RX1 5 (some .boolean) 0 0 0 0) (N : Nat) (h5 : N ≤ 5) (hb : ∀ i j, i < N → j < N → (-2 ≤ MI (54 + i) j ∧ MI (54 + i) j ≤ 2) ∧ (-2 ≤ MI (22 + i) j ∧ MI (22 + i) j ≤ 2)) (E : VE X 0 0 110 Q (zq Q (zI fun r M L => M = MI ∧ L = ML ∧ ((r = 1 ∧ ∀ i j, i < j → j < N → MI (54 + i) j = MI (22 + i) j) ∨ (r = 0 ∧ ∃ i j, i < j ∧ j < N ∧ MI (54 + i) j ≠ MI (22 + i) j))))) : ∀ (n a : Nat), (∀ i j, i < j → j < N → i < a → MI (54 + i) j = MI (22 + i) j) → a ≤ N → N < a + n → V X (0, 0) 110 Q z_rf MI ML 2 [(3, .int (iI (a : Int))), (0, .ref (Q 51)), (1, .ref (Q 19)), (2, .int (iI (N : Int)))] [] := by
  intro n
  induction n with
  | zero => intro a G ha hn; exact absurd hn (by omega)
  | succ n ih =>
    intro a G ha hn
    refine v_iload_n K 0 dX1_hasTablesOf_2 rfl rfl ?_
    refine v_iload_n K 3 dX1_hasTablesOf_3 rfl rfl ?_
    refine v_icmp_ge K 53 ⟨by omega, by omega⟩ ⟨by omega, by omega⟩ dX1_hasTablesOf_4 (by decide) (fun h4 => ?_) (fun h4 => ?_)
    · obtain e9 : a = N := (by omega)
      refine v_iconst K dX1_hasTablesOf_53 ?_
      exact v_rz K E (Or.inr rfl) dX1_hasTablesOf_54 ⟨rfl, rfl, Or.inl ⟨rfl, fun i j h1 h2 => G i j h1 h2 (by omega)⟩⟩
    · refine v_iload_n K 0 dX1_hasTablesOf_7 rfl rfl ?_
      refine v_iconst K dX1_hasTablesOf_8 ?_
      refine v_iadd K dX1_hasTablesOf_9 ?_
      refine v_istore K (fun q9 => [(4, .int (iI q9)), (3, .int (iI (a : Int))), (0, .ref (Q 51)), (1, .ref (Q 19)), (2, .int (iI (N : Int)))]) dX1_hasTablesOf_10 (by decide) (fun _ => rfl) (fun b0 hb0 => ?_)
      obtain rfl : b0 = ((a + 1 : Nat) : Int) := by omega
      refine l_X1_hasTablesOf_b K N h5 hb a (by omega) E (fun G => ?_) 6 (a + 1) (by omega) (fun i j h1 h2 h3 => G i j h1 h2 (by omega)) (by omega) (by omega)
      refine v_iinc K 1 (fun q9 => [(3, .int (iI q9)), (4, .int (iI (N : Int))), (0, .ref (Q 51)), (1, .ref (Q 19)), (2, .int (iI (N : Int)))]) dX1_hasTablesOf_47 rfl (by decide) (fun _ => rfl) (fun w hw => ?_)
      refine v_goto K 2 dX1_hasTablesOf_50 (by decide) ?_
      obtain rfl : w = ((a + 1 : Nat) : Int) := by omega
      refine v_sub K [0, 2, 3, 4] rfl ?_
      exact ih (a + 1) G (by omega) (by omega)
set_option maxRecDepth 100000 in
set_option maxHeartbeats 4000000 in
theorem c_X1_hasTablesOf {l : Launch} {D : va_G} {Z : ZC} {Q : Nat → Nat} {MI ML : ZM} (N : Nat) (h5 : N ≤ 5) (hb : ∀ i j, i < N → j < N → (-2 ≤ MI (54 + i) j ∧ MI (54 + i) j ≤ 2) ∧ (-2 ≤ MI (22 + i) j ∧ MI (22 + i) j ≤ 2)) (N9 : Int) (hN9 : N9 = N) : C_X1_hasTablesOf l D Z Q [.ref (Q 51), .ref (Q 19), .int (iI N9)] MI ML (zI fun r M L => M = MI ∧ L = ML ∧ ((r = 1 ∧ ∀ i j, i < j → j < N → MI (54 + i) j = MI (22 + i) j) ∨ (r = 0 ∧ ∃ i j, i < j ∧ j < N ∧ MI (54 + i) j ≠ MI (22 + i) j))) := by
  subst hN9
  refine CM.of (by decide +kernel) (Nat.le_of_ble_eq_true rfl) ?_
  intro X K E _ _ _ _
  show V X (0, 0) 110 Q z_rf MI ML 0 [(0, .ref (Q 51)), (1, .ref (Q 19)), (2, .int (iI (N : Int)))] []
  refine v_iconst K dX1_hasTablesOf_0 ?_
  refine v_istore_n K (fun q9 => [(3, .int (iI q9)), (0, .ref (Q 51)), (1, .ref (Q 19)), (2, .int (iI (N : Int)))]) dX1_hasTablesOf_1 rfl (by decide) (fun _ => rfl) (fun a0 ha0 => ?_)
  subst ha0
  exact l_X1_hasTablesOf K N h5 hb E 6 0 (fun i j _ _ q => absurd q (by omega)) (by omega) (by omega)
set_option maxRecDepth 100000 in
set_option maxHeartbeats 4000000 in
theorem c_X8_trialPlan {l : Launch} {D : va_G} {Z : ZC} {Q : Nat → Nat} {MI ML : ZM} (hM : cOk MI) (d : Nat) (hd : d < 5) (d9 : Int) (hd9 : d9 = d) (c : Int) (hc : rg c) : C_X8_trialPlan l D Z Q [.ref (Q 0), .int (iI d9), .int (iI c)] MI ML (zF Q fun k M L => M = MI ∧ L = ML ∧ ((k = 63 + 4 * d ∧ fpl (MI (7 + 2 * d)) c (MI (6 + 2 * d) 1).toNat ≠ -1) ∨ (k = 31 + 4 * d ∧ fpl (MI (7 + 2 * d)) c (MI (6 + 2 * d) 1).toNat = -1))) := by
  refine CM.of (by decide +kernel) (Nat.le_of_ble_eq_true rfl) ?_
  intro X K E _ _ _ _
  show V X (0, 0) 110 Q z_rf MI ML 0 [(0, .ref (Q 0)), (1, .int (iI d9)), (2, .int (iI c))] []
  refine v_aload_n K 0 dX8_trialPlan_0 rfl rfl ?_
  refine v_iload_n K 1 dX8_trialPlan_1 rfl rfl ?_
  refine v_iload_n K 2 dX8_trialPlan_2 rfl rfl ?_
  refine v_cVi K (c_X8_hasCard hM d hd _ hd9 c hc) rfl fc_X8_220 wm_X8_hasCard ws_X8_hasCard (by decide) 8 rfl (by decide) rfl rfl (by decide) (Nat.le_of_ble_eq_true rfl) dX8_trialPlan_3 (fun r3 M3 L3 h3 => ?_)
  obtain ⟨hm3, hl3, hr3⟩ := h3
  subst M3 L3
  refine v_if_eq K 21 ⟨by omega, by omega⟩ dX8_trialPlan_6 (by decide) (fun h6 => ?_) (fun h6 => ?_)
  · refine v_aload_n K 0 dX8_trialPlan_21 rfl rfl ?_
    refine v_getr K ff_X8_35 (by decide) rfl rfl rfl dX8_trialPlan_22 ?_
    refine v_getr K ff_X8_109 (by decide) rfl rfl rfl dX8_trialPlan_25 ?_
    refine v_iload_n K 1 dX8_trialPlan_28 rfl rfl ?_
    refine v_aaldP K (d) (by decide) rfl (by omega) (by show _ < 5; omega) (zr_np (by omega)) dX8_trialPlan_29 ?_
    exact v_rr K E dX8_trialPlan_30 ⟨rfl, rfl, by omega⟩
  · refine v_aload_n K 0 dX8_trialPlan_9 rfl rfl ?_
    refine v_getr K ff_X8_39 (by decide) rfl rfl rfl dX8_trialPlan_10 ?_
    refine v_getr K ff_X8_109 (by decide) rfl rfl rfl dX8_trialPlan_13 ?_
    refine v_iload_n K 1 dX8_trialPlan_16 rfl rfl ?_
    refine v_aaldP K (d) (by decide) rfl (by omega) (by show _ < 5; omega) (zr_tp (by omega)) dX8_trialPlan_17 ?_
    refine v_goto K 30 dX8_trialPlan_18 (by decide) ?_
    exact v_rr K E dX8_trialPlan_30 ⟨rfl, rfl, by omega⟩
abbrev hasC (M : ZM) (c : Int) (d : Nat) : Prop := fpl (M (7 + 2 * d)) c (M (6 + 2 * d) 1).toNat ≠ -1
def t1S (MI M : ZM) (c : Int) (a : Nat) : Prop := (∀ x y, ¬ (63 ≤ x ∧ x ≤ 82) → M x y = MI x y) ∧ (∀ p, isPl p → M (p + 2) 0 = 0) ∧ ∀ i, i < a → hasC MI c i → plR M (63 + 4 * i) (cP MI i)
theorem t1S_lay {MI M M' : ZM} {c : Int} {a : Nat} (ha : a < 5) (S : t1S MI M c a) (F : plF M M' (63 + 4 * a)) (R : plR M' (63 + 4 * a) (cP MI a)) : t1S MI M' c (a + 1) := by
  obtain ⟨s1, s2, s3⟩ := S
  refine ⟨fun x y h => (F x y (by omega)).trans (s1 x y h), fun p hp => ?_, fun i hi hc => ?_⟩
  · by_cases e : p = 63 + 4 * a
    · subst e; have := R.1 0 (by omega); rw [this]; rfl
    · rw [F _ _ (by rcases isPl_z hp with ⟨j, hj, rfl⟩ | ⟨j, hj, rfl⟩ | rfl <;> omega)]; exact s2 p hp
  · by_cases e : i = a
    · subst e; exact R
    · exact plR_keep (s3 i (by omega) hc) (funext fun y => F _ y (by omega)) (funext fun y => F _ y (by omega))
theorem t1S_sk {MI M : ZM} {c : Int} {a : Nat} (S : t1S MI M c a) (h : ¬ hasC MI c a) : t1S MI M c (a + 1) := ⟨S.1, S.2.1, fun i hi hc => by
  by_cases e : i = a
  · subst e; exact absurd hc h
  · exact S.2.2 i (by omega) hc⟩
def t2S (MI M0 M : ZM) (a b : Nat) : Prop := (∀ x y, ¬ (x = 16 ∧ y = 2) → ¬ (17 ≤ x ∧ x ≤ 18) → ¬ (54 ≤ x ∧ x ≤ 58) → M x y = M0 x y) ∧ (∀ i, i < 5 → M (54 + i) i = 0) ∧ ∀ i j : Nat, i < j → (j : Int) < MI 0 8 → (i < a ∨ (i = a ∧ j < b)) → M (54 + i) j = cTab MI i j ∧ M (54 + j) i = - cTab MI i j
theorem t2S_put {MI M0 M M' : ZM} {a b : Nat} {v : Int} (hab : a < b) (hb : b < 5) (S : t2S MI M0 M a b) (F : gcF M M') (hv : v = cTab MI a b) : t2S MI M0 (z_up (z_up M' (54 + a) b v) (54 + b) a (-v)) a (b + 1) := by
  obtain ⟨s1, s2, s3⟩ := S
  have e : ∀ x y, 22 ≤ x → M' x y = M x y := fun x y h => F x y (by omega)
  refine ⟨fun x y h1 h2 h3 => ?_, fun i hi => ?_, fun i j hij hj hd => ?_⟩
  · rw [z_up_k (by omega), z_up_k (by omega), F x y (by omega)]; exact s1 x y h1 h2 h3
  · simp only [z_up]; rw [if_neg (by omega), if_neg (by omega), e _ _ (by omega)]; exact s2 i hi
  · by_cases q : i = a ∧ j = b
    · obtain ⟨rfl, rfl⟩ := q
      refine ⟨?_, ?_⟩
      · rw [z_up_k (by omega), z_up_s, hv]
      · rw [z_up_s, hv]
    · have := s3 i j hij hj (by omega)
      simp only [z_up]
      rw [if_neg (by omega), if_neg (by omega), if_neg (by omega), if_neg (by omega), e _ _ (by omega), e _ _ (by omega)]
      exact this
theorem gcF.rf (M : ZM) : gcF M M := fun _ _ _ => rfl
/-- what the trial knows before it is laid: plans and tables of the decks that have not the card -/
def tPre (MI : ZM) (c : Int) : Prop := cFix MI ∧ (∀ a : Nat, (a : Int) < MI 0 8 → ¬ hasC MI c a → plR MI (31 + 4 * a) (cP MI a)) ∧ ∀ a b : Nat, (a : Int) < MI 0 8 → (b : Int) < MI 0 8 → ¬ hasC MI c a → ¬ hasC MI c b → MI (22 + a) b = cTab MI a b
def tPost (MI M : ZM) : Prop := (∀ x y, ¬ (x = 16 ∧ y = 2) → ¬ (17 ≤ x ∧ x ≤ 18) → ¬ (51 ≤ x ∧ x ≤ 82) → M x y = MI x y) ∧ (∀ p, isPl p → 51 ≤ p → M (p + 2) 0 = 0) ∧ (∀ a, a < 5 → M (54 + a) a = 0) ∧ ∀ i j : Nat, (i : Int) < MI 0 8 → (j : Int) < MI 0 8 → M (54 + i) j = cTab MI i j
theorem hasC_co {MI M : ZM} (co : coC MI M) {c : Int} {d : Nat} (hd : d < 5) : fpl (M (7 + 2 * d)) c (M (6 + 2 * d) 1).toNat = fpl (MI (7 + 2 * d)) c (MI (6 + 2 * d) 1).toNat := by
  rw [co _ _ (by omega) (by omega), show M (7 + 2 * d) = MI (7 + 2 * d) from funext fun b => co _ b (by omega) (by omega)]
set_option maxRecDepth 100000 in
set_option maxHeartbeats 4000000 in
theorem l_X8_learnTrialTables_1 {X : VX} {Q : Nat → Nat} {MI ML : ZM} (K : VK X cX8_learnTrialTables RX8 5 none 4 95 0 0) (hM : cOk MI) (c : Int) (hc : rg c) (hP : tPre MI c) (kk : ∀ (M : ZM) (a : Nat), t1S MI M c (MI 0 8).toNat → V X (0, 0) 110 Q z_rf M ML 48 [(2, .int (iI (a : Int))), (0, .ref (Q 0)), (1, .int (iI c))] []) : ∀ (n a : Nat) (M : ZM), t1S MI M c a → (a : Int) ≤ MI 0 8 → MI 0 8 < a + n → V X (0, 0) 110 Q z_rf M ML 2 [(2, .int (iI (a : Int))), (0, .ref (Q 0)), (1, .int (iI c))] [] := by
  have u4 := hM.2.1
  intro n
  induction n with
  | zero => intro a M S ha hn; exact absurd hn (by omega)
  | succ n ih =>
    intro a M S ha hn
    refine v_iload_n K 0 dX8_learnTrialTables_2 rfl rfl ?_
    refine v_aload_n K 1 dX8_learnTrialTables_3 rfl rfl ?_
    refine v_geti K ff_X8_82 (by decide) rfl rfl dX8_learnTrialTables_4 ?_
    refine v_eqi (MI 0 8) (S.1 0 8 (by omega)) ?_
    refine v_icmp_ge K 48 ⟨by omega, by omega⟩ ⟨by omega, by omega⟩ dX8_learnTrialTables_7 (by decide) (fun h7 => ?_) (fun h7 => ?_)
    · obtain rfl : a = (MI 0 8).toNat := (by omega)
      exact kk M _ S
    · have co : coC MI M := fun x y h1 h2 => S.1 x y (by omega)
      have hf := hasC_co co (c := c) (d := a) (by omega)
      refine v_aload_n K 1 dX8_learnTrialTables_10 rfl rfl ?_
      refine v_iload_n K 0 dX8_learnTrialTables_11 rfl rfl ?_
      refine v_iload_n K 2 dX8_learnTrialTables_12 rfl rfl ?_
      refine v_cVi K (c_X8_hasCard (co.ok hM) a (by omega) _ rfl c hc) rfl fc_X8_220 wm_X8_hasCard ws_X8_hasCard (by decide) 8 rfl (by decide) rfl rfl (by decide) (Nat.le_of_ble_eq_true rfl) dX8_learnTrialTables_13 (fun r13 M13 L13 h13 => ?_)
      obtain ⟨hm13, hl13, hr13⟩ := h13
      subst M13 L13
      rw [hf] at hr13
      refine v_if_eq K 42 ⟨by omega, by omega⟩ dX8_learnTrialTables_16 (by decide) (fun h16 => ?_) (fun h16 => ?_)
      · refine v_iinc K 0 (fun q9 => [(2, .int (iI q9)), (0, .ref (Q 0)), (1, .int (iI c))]) dX8_learnTrialTables_42 rfl (by decide) (fun _ => rfl) (fun w hw => ?_)
        refine v_goto K 2 dX8_learnTrialTables_45 (by decide) ?_
        obtain rfl : w = ((a + 1 : Nat) : Int) := by omega
        first | exact ih (a + 1) _ (t1S_lay (by omega) S F39 R40) (by omega) (by omega) | exact ih (a + 1) _ (t1S_sk S (fun q => q (by omega))) (by omega) (by omega)
      · refine v_aload_n K 1 dX8_learnTrialTables_19 rfl rfl ?_
        refine v_getr K ff_X8_39 (by decide) rfl rfl rfl dX8_learnTrialTables_20 ?_
        refine v_getr K ff_X8_109 (by decide) rfl rfl rfl dX8_learnTrialTables_23 ?_
        refine v_iload_n K 0 dX8_learnTrialTables_26 rfl rfl ?_
        refine v_aaldP K (a) (by decide) rfl rfl (by show _ < 5; omega) (zr_tp (by omega)) dX8_learnTrialTables_27 ?_
        refine v_aload_n K 1 dX8_learnTrialTables_28 rfl rfl ?_
        refine v_getr K ff_X8_10 (by decide) rfl rfl rfl dX8_learnTrialTables_29 ?_
        refine v_aload_n K 1 dX8_learnTrialTables_32 rfl rfl ?_
        refine v_getr K ff_X8_18 (by decide) rfl rfl rfl dX8_learnTrialTables_33 ?_
        refine v_iload_n K 0 dX8_learnTrialTables_36 rfl rfl ?_
        refine v_aaldD K (a) (by decide) rfl rfl (by show _ < 5; omega) (zr_decks (by omega)) dX8_learnTrialTables_37 ?_
        refine v_iconst K dX8_learnTrialTables_38 ?_
        refine v_cVv K (c_X5_lay (co.ok hM) (63 + 4 * a) (isPl_trial (by omega)) a (by omega) (-1) (Or.inl rfl) (S.2.1 _ (isPl_trial (by omega))) _ rfl) rfl fc_X8_193 wm_X5_lay ws_X5_lay (by omega) 5 (isPl_trial (by omega : a < 5)).2.2.1 (by decide) rfl rfl (by decide) (Nat.le_of_ble_eq_true rfl) dX8_learnTrialTables_39 (fun M39 L39 h39 => ?_)
        obtain ⟨hl39, F39, R39⟩ := h39
        subst L39
        have R40 : plR M39 (63 + 4 * a) (cP M a) := R39
        rw [co.pl (by omega)] at R40
        refine v_iinc K 0 (fun q9 => [(2, .int (iI q9)), (0, .ref (Q 0)), (1, .int (iI c))]) dX8_learnTrialTables_42 rfl (by decide) (fun _ => rfl) (fun w hw => ?_)
        refine v_goto K 2 dX8_learnTrialTables_45 (by decide) ?_
        obtain rfl : w = ((a + 1 : Nat) : Int) := by omega
        first | exact ih (a + 1) _ (t1S_lay (by omega) S F39 R40) (by omega) (by omega) | exact ih (a + 1) _ (t1S_sk S (fun q => q (by omega))) (by omega) (by omega)
set_option maxRecDepth 100000 in
set_option maxHeartbeats 4000000 in
theorem l_X8_learnTrialTables_b {X : VX} {Q : Nat → Nat} {MI ML : ZM} (K : VK X cX8_learnTrialTables RX8 5 none 4 95 0 0) (hM : cOk MI) (c : Int) (hc : rg c) (hP : tPre MI c) (M0 : ZM) (S0 : t1S MI M0 c (MI 0 8).toNat) (a b : Nat) (hab : a < b) (hb : (b : Int) < MI 0 8) (M : ZM) (S : t2S MI M0 M a b) (kk : ∀ (M : ZM) (y : Int), t2S MI M0 M a (b + 1) → V X (0, 0) 110 Q z_rf M ML 139 [(4, .int (iI y)), (3, .int (iI (b : Int))), (2, .int (iI (a : Int))), (0, .ref (Q 0)), (1, .int (iI c))] []) : V X (0, 0) 110 Q z_rf M ML 70 [(3, .int (iI (b : Int))), (2, .int (iI (a : Int))), (0, .ref (Q 0)), (1, .int (iI c))] [] := by
  have u4 := hM.2.1
  have co : coC MI M := fun x y h1 h2 => (S.1 x y (by omega) (by omega) (by omega)).trans (S0.1 x y (by omega))
  have fa := hasC_co co (c := c) (d := a) (by omega)
  have fb := hasC_co co (c := c) (d := b) (by omega)
  have pl : ∀ i : Nat, (i : Int) < MI 0 8 → ∀ k : Nat, ((k = 63 + 4 * i ∧ hasC MI c i) ∨ (k = 31 + 4 * i ∧ ¬ hasC MI c i)) → isPl k ∧ plR M k (cP MI i) := by
    intro i hi k hk
    rcases hk with ⟨rfl, h⟩ | ⟨rfl, h⟩
    · exact ⟨isPl_trial (by omega), plR_keep (S0.2.2 i (by omega) h) (funext fun y => S.1 _ y (by omega) (by omega) (by omega)) (funext fun y => S.1 _ y (by omega) (by omega) (by omega))⟩
    · exact ⟨isPl_now (by omega), plR_keep (hP.2.1 i hi h) (funext fun y => (S.1 _ y (by omega) (by omega) (by omega)).trans (S0.1 _ y (by omega))) (funext fun y => (S.1 _ y (by omega) (by omega) (by omega)).trans (S0.1 _ y (by omega)))⟩
  refine v_aload_n K 2 dX8_learnTrialTables_70 rfl rfl ?_
  refine v_iload_n K 1 dX8_learnTrialTables_71 rfl rfl ?_
  refine v_iload_n K 3 dX8_learnTrialTables_72 rfl rfl ?_
  refine v_cVi K (c_X8_hasCard (co.ok hM) a (by omega) _ rfl c hc) rfl fc_X8_220 wm_X8_hasCard ws_X8_hasCard (by decide) 8 rfl (by decide) rfl rfl (by decide) (Nat.le_of_ble_eq_true rfl) dX8_learnTrialTables_73 (fun r73 M73 L73 h73 => ?_)
  obtain ⟨hm73, hl73, hr73⟩ := h73
  subst M73 L73
  rw [fa] at hr73
  refine v_if_ne K 88 ⟨by omega, by omega⟩ dX8_learnTrialTables_76 (by decide) (fun h76 => ?_) (fun h76 => ?_)
  · refine v_iconst K dX8_learnTrialTables_88 ?_
    refine v_goto K 93 dX8_learnTrialTables_89 (by decide) ?_
    refine v_istore K (fun q9 => [(4, .int (iI q9)), (3, .int (iI (b : Int))), (2, .int (iI (a : Int))), (0, .ref (Q 0)), (1, .int (iI c))]) dX8_learnTrialTables_93 (by decide) (fun _ => rfl) (fun y hy => ?_)
    refine v_aload_n K 3 dX8_learnTrialTables_95 rfl rfl ?_
    refine v_getr K ff_X8_39 (by decide) rfl rfl rfl dX8_learnTrialTables_96 ?_
    refine v_iload_n K 2 dX8_learnTrialTables_99 rfl rfl ?_
    refine v_iload_n K 1 dX8_learnTrialTables_100 rfl rfl ?_
    refine v_iload K 0 dX8_learnTrialTables_101 rfl ?_
    refine v_if_eq K 125 ⟨by omega, by omega⟩ dX8_learnTrialTables_103 (by decide) (fun h103 => ?_) (fun h103 => ?_)
    · exact absurd h103 (by omega)
    · refine v_aload_n K 3 dX8_learnTrialTables_106 rfl rfl ?_
      refine v_aload_n K 3 dX8_learnTrialTables_107 rfl rfl ?_
      refine v_iload_n K 2 dX8_learnTrialTables_108 rfl rfl ?_
      refine v_iload_n K 4 dX8_learnTrialTables_109 rfl rfl ?_
      refine v_cVr K (c_X8_trialPlan (co.ok hM) a (by omega) _ rfl c hc) rfl fc_X8_223 wm_X8_trialPlan ws_X8_trialPlan (by decide) 8 rfl (by decide) rfl rfl (by decide) (Nat.le_of_ble_eq_true rfl) dX8_learnTrialTables_110 (fun r110 M110 L110 h110 => ?_)
      obtain ⟨hm110, hl110, hr110⟩ := h110
      subst M110 L110
      rw [fa] at hr110
      have P1 := pl a (by omega) r110 (by rcases hr110 with q | q; exact Or.inl q; exact Or.inr ⟨q.1, fun z => z q.2⟩)
      refine v_aload_n K 3 dX8_learnTrialTables_113 rfl rfl ?_
      refine v_iload_n K 1 dX8_learnTrialTables_114 rfl rfl ?_
      refine v_iload_n K 4 dX8_learnTrialTables_115 rfl rfl ?_
      refine v_cVr K (c_X8_trialPlan (co.ok hM) b (by omega) _ rfl c hc) rfl fc_X8_223 wm_X8_trialPlan ws_X8_trialPlan (by decide) 8 rfl (by decide) rfl rfl (by decide) (Nat.le_of_ble_eq_true rfl) dX8_learnTrialTables_116 (fun r116 M116 L116 h116 => ?_)
      obtain ⟨hm116, hl116, hr116⟩ := h116
      subst M116 L116
      rw [fb] at hr116
      have P2 := pl b (by omega) r116 (by rcases hr116 with q | q; exact Or.inl q; exact Or.inr ⟨q.1, fun z => z q.2⟩)
      refine v_cVi K (c_X8_tableOf (co.ok hM) r110 r116 P1.1 P2.1 (cP MI a) (cP MI b) P1.2 P2.2 (cP_B hM a) (cP_B hM b)) rfl fc_X8_197 wm_X8_tableOf ws_X8_tableOf (by decide) 8 rfl (by decide) rfl rfl (by decide) (Nat.le_of_ble_eq_true rfl) dX8_learnTrialTables_119 (fun r119 M119 L119 h119 => ?_)
      obtain ⟨hl119, F119, h119r⟩ := h119
      subst L119
      rw [co 0 9 (by decide) (by decide), show M 2 = MI 2 from funext fun x => co 2 x (by decide) (by omega), show M 4 = MI 4 from funext fun x => co 4 x (by decide) (by omega)] at h119r
      have h120 : r119 = cTab MI a b := h119r
      refine v_goto K 136 dX8_learnTrialTables_122 (by decide) ?_
      refine v_cVv K (c_X1_enter 51 (Or.inr rfl) a b (by omega) (by omega) _ _ rfl rfl _) rfl fc_X8_201 wm_X1_enter ws_X1_enter (by decide) 1 rfl (by decide) rfl rfl (by decide) (Nat.le_of_ble_eq_true rfl) dX8_learnTrialTables_136 (fun M136 L136 h136 => ?_)
      obtain ⟨hl136, hm136⟩ := h136
      subst L136
      first | exact kk _ _ (by rw [hm136]; exact t2S_put hab (by omega) S F119 h120) | exact kk _ _ (by rw [hm136]; exact t2S_put hab (by omega) S (gcF.rf M) rfl)
  · refine v_aload_n K 2 dX8_learnTrialTables_79 rfl rfl ?_
    refine v_iload_n K 0 dX8_learnTrialTables_80 rfl rfl ?_
    refine v_iload_n K 3 dX8_learnTrialTables_81 rfl rfl ?_
    refine v_cVi K (c_X8_hasCard (co.ok hM) b (by omega) _ rfl c hc) rfl fc_X8_220 wm_X8_hasCard ws_X8_hasCard (by decide) 8 rfl (by decide) rfl rfl (by decide) (Nat.le_of_ble_eq_true rfl) dX8_learnTrialTables_82 (fun r82 M82 L82 h82 => ?_)
    obtain ⟨hm82, hl82, hr82⟩ := h82
    subst M82 L82
    rw [fb] at hr82
    refine v_if_eq K 92 ⟨by omega, by omega⟩ dX8_learnTrialTables_85 (by decide) (fun h85 => ?_) (fun h85 => ?_)
    · refine v_iconst K dX8_learnTrialTables_92 ?_
      refine v_istore K (fun q9 => [(4, .int (iI q9)), (3, .int (iI (b : Int))), (2, .int (iI (a : Int))), (0, .ref (Q 0)), (1, .int (iI c))]) dX8_learnTrialTables_93 (by decide) (fun _ => rfl) (fun y hy => ?_)
      refine v_aload_n K 3 dX8_learnTrialTables_95 rfl rfl ?_
      refine v_getr K ff_X8_39 (by decide) rfl rfl rfl dX8_learnTrialTables_96 ?_
      refine v_iload_n K 2 dX8_learnTrialTables_99 rfl rfl ?_
      refine v_iload_n K 1 dX8_learnTrialTables_100 rfl rfl ?_
      refine v_iload K 0 dX8_learnTrialTables_101 rfl ?_
      refine v_if_eq K 125 ⟨by omega, by omega⟩ dX8_learnTrialTables_103 (by decide) (fun h103 => ?_) (fun h103 => ?_)
      · refine v_aload_n K 3 dX8_learnTrialTables_125 rfl rfl ?_
        refine v_getr K ff_X8_35 (by decide) rfl rfl rfl dX8_learnTrialTables_126 ?_
        refine v_getr K ff_X8_136 (by decide) rfl rfl rfl dX8_learnTrialTables_129 ?_
        refine v_iload_n K 2 dX8_learnTrialTables_132 rfl rfl ?_
        refine v_aaldT K (a) (by decide) rfl rfl (by show _ < 5; omega) (zr_nt (by omega)) dX8_learnTrialTables_133 ?_
        refine v_iload_n K 1 dX8_learnTrialTables_134 rfl rfl ?_
        refine v_iald K (b) (by omega) (ct_r (Or.inl rfl) (i := a) (by omega)).2.1 rfl (by rw [show z_ln (22 + a) = 5 from (ct_r (Or.inl rfl) (i := a) (by omega)).2.2]; omega) dX8_learnTrialTables_135 ?_
        refine v_eqi (cTab MI a b) (((S.1 _ _ (by omega) (by omega) (by omega)).trans (S0.1 _ _ (by omega))).trans (hP.2.2 a b (by omega) (by omega) (fun z => z (by omega)) (fun z => z (by omega)))) ?_
        refine v_cVv K (c_X1_enter 51 (Or.inr rfl) a b (by omega) (by omega) _ _ rfl rfl _) rfl fc_X8_201 wm_X1_enter ws_X1_enter (by decide) 1 rfl (by decide) rfl rfl (by decide) (Nat.le_of_ble_eq_true rfl) dX8_learnTrialTables_136 (fun M136 L136 h136 => ?_)
        obtain ⟨hl136, hm136⟩ := h136
        subst L136
        first | exact kk _ _ (by rw [hm136]; exact t2S_put hab (by omega) S F119 h120) | exact kk _ _ (by rw [hm136]; exact t2S_put hab (by omega) S (gcF.rf M) rfl)
      · exact absurd h103 (by omega)
    · refine v_iconst K dX8_learnTrialTables_88 ?_
      refine v_goto K 93 dX8_learnTrialTables_89 (by decide) ?_
      refine v_istore K (fun q9 => [(4, .int (iI q9)), (3, .int (iI (b : Int))), (2, .int (iI (a : Int))), (0, .ref (Q 0)), (1, .int (iI c))]) dX8_learnTrialTables_93 (by decide) (fun _ => rfl) (fun y hy => ?_)
      refine v_aload_n K 3 dX8_learnTrialTables_95 rfl rfl ?_
      refine v_getr K ff_X8_39 (by decide) rfl rfl rfl dX8_learnTrialTables_96 ?_
      refine v_iload_n K 2 dX8_learnTrialTables_99 rfl rfl ?_
      refine v_iload_n K 1 dX8_learnTrialTables_100 rfl rfl ?_
      refine v_iload K 0 dX8_learnTrialTables_101 rfl ?_
      refine v_if_eq K 125 ⟨by omega, by omega⟩ dX8_learnTrialTables_103 (by decide) (fun h103 => ?_) (fun h103 => ?_)
      · exact absurd h103 (by omega)
      · refine v_aload_n K 3 dX8_learnTrialTables_106 rfl rfl ?_
        refine v_aload_n K 3 dX8_learnTrialTables_107 rfl rfl ?_
        refine v_iload_n K 2 dX8_learnTrialTables_108 rfl rfl ?_
        refine v_iload_n K 4 dX8_learnTrialTables_109 rfl rfl ?_
        refine v_cVr K (c_X8_trialPlan (co.ok hM) a (by omega) _ rfl c hc) rfl fc_X8_223 wm_X8_trialPlan ws_X8_trialPlan (by decide) 8 rfl (by decide) rfl rfl (by decide) (Nat.le_of_ble_eq_true rfl) dX8_learnTrialTables_110 (fun r110 M110 L110 h110 => ?_)
        obtain ⟨hm110, hl110, hr110⟩ := h110
        subst M110 L110
        rw [fa] at hr110
        have P1 := pl a (by omega) r110 (by rcases hr110 with q | q; exact Or.inl q; exact Or.inr ⟨q.1, fun z => z q.2⟩)
        refine v_aload_n K 3 dX8_learnTrialTables_113 rfl rfl ?_
        refine v_iload_n K 1 dX8_learnTrialTables_114 rfl rfl ?_
        refine v_iload_n K 4 dX8_learnTrialTables_115 rfl rfl ?_
        refine v_cVr K (c_X8_trialPlan (co.ok hM) b (by omega) _ rfl c hc) rfl fc_X8_223 wm_X8_trialPlan ws_X8_trialPlan (by decide) 8 rfl (by decide) rfl rfl (by decide) (Nat.le_of_ble_eq_true rfl) dX8_learnTrialTables_116 (fun r116 M116 L116 h116 => ?_)
        obtain ⟨hm116, hl116, hr116⟩ := h116
        subst M116 L116
        rw [fb] at hr116
        have P2 := pl b (by omega) r116 (by rcases hr116 with q | q; exact Or.inl q; exact Or.inr ⟨q.1, fun z => z q.2⟩)
        refine v_cVi K (c_X8_tableOf (co.ok hM) r110 r116 P1.1 P2.1 (cP MI a) (cP MI b) P1.2 P2.2 (cP_B hM a) (cP_B hM b)) rfl fc_X8_197 wm_X8_tableOf ws_X8_tableOf (by decide) 8 rfl (by decide) rfl rfl (by decide) (Nat.le_of_ble_eq_true rfl) dX8_learnTrialTables_119 (fun r119 M119 L119 h119 => ?_)
        obtain ⟨hl119, F119, h119r⟩ := h119
        subst L119
        rw [co 0 9 (by decide) (by decide), show M 2 = MI 2 from funext fun x => co 2 x (by decide) (by omega), show M 4 = MI 4 from funext fun x => co 4 x (by decide) (by omega)] at h119r
        have h120 : r119 = cTab MI a b := h119r
        refine v_goto K 136 dX8_learnTrialTables_122 (by decide) ?_
        refine v_cVv K (c_X1_enter 51 (Or.inr rfl) a b (by omega) (by omega) _ _ rfl rfl _) rfl fc_X8_201 wm_X1_enter ws_X1_enter (by decide) 1 rfl (by decide) rfl rfl (by decide) (Nat.le_of_ble_eq_true rfl) dX8_learnTrialTables_136 (fun M136 L136 h136 => ?_)
        obtain ⟨hl136, hm136⟩ := h136
        subst L136
        first | exact kk _ _ (by rw [hm136]; exact t2S_put hab (by omega) S F119 h120) | exact kk _ _ (by rw [hm136]; exact t2S_put hab (by omega) S (gcF.rf M) rfl)
set_option maxRecDepth 100000 in
set_option maxHeartbeats 4000000 in
theorem l_X8_learnTrialTables_2 {X : VX} {Q : Nat → Nat} {MI ML : ZM} (K : VK X cX8_learnTrialTables RX8 5 none 4 95 0 0) (hM : cOk MI) (c : Int) (hc : rg c) (hP : tPre MI c) (M0 : ZM) (S0 : t1S MI M0 c (MI 0 8).toNat) (a : Nat) (ha : (a : Int) < MI 0 8) (kk : ∀ (M : ZM) (b : Nat), t2S MI M0 M a (MI 0 8).toNat → V X (0, 0) 110 Q z_rf M ML 145 [(2, .int (iI (a : Int))), (0, .ref (Q 0)), (1, .int (iI c))] []) : ∀ (n b : Nat) (M : ZM), a < b → t2S MI M0 M a b → (b : Int) ≤ MI 0 8 → MI 0 8 < b + n → V X (0, 0) 110 Q z_rf M ML 62 [(3, .int (iI (b : Int))), (2, .int (iI (a : Int))), (0, .ref (Q 0)), (1, .int (iI c))] [] := by
  have u4 := hM.2.1
  intro n
  induction n with
  | zero => intro b M hab S hb hn; exact absurd hn (by omega)
  | succ n ih =>
    intro b M hab S hb hn
    refine v_iload_n K 0 dX8_learnTrialTables_62 rfl rfl ?_
    refine v_aload_n K 2 dX8_learnTrialTables_63 rfl rfl ?_
    refine v_geti K ff_X8_82 (by decide) rfl rfl dX8_learnTrialTables_64 ?_
    refine v_eqi (MI 0 8) (by rw [S.1 0 8 (by omega) (by omega) (by omega)]; exact S0.1 0 8 (by omega)) ?_
    refine v_icmp_ge K 145 ⟨by omega, by omega⟩ ⟨by omega, by omega⟩ dX8_learnTrialTables_67 (by decide) (fun h67 => ?_) (fun h67 => ?_)
    · obtain e9 : b = (MI 0 8).toNat := (by omega)
      rw [e9] at S
      refine v_sub K [1, 2, 3] rfl ?_
      exact kk M b S
    · refine l_X8_learnTrialTables_b K hM c hc hP M0 S0 a b hab (by omega) M S (fun M y S => ?_)
      refine v_iinc K 1 (fun q9 => [(3, .int (iI q9)), (4, .int (iI y)), (2, .int (iI (a : Int))), (0, .ref (Q 0)), (1, .int (iI c))]) dX8_learnTrialTables_139 rfl (by decide) (fun _ => rfl) (fun w hw => ?_)
      refine v_goto K 62 dX8_learnTrialTables_142 (by decide) ?_
      obtain rfl : w = ((b + 1 : Nat) : Int) := by omega
      refine v_sub K [0, 2, 3, 4] rfl ?_
      exact ih (b + 1) _ (by omega) S (by omega) (by omega)
set_option maxRecDepth 100000 in
set_option maxHeartbeats 4000000 in
theorem l_X8_learnTrialTables_3 {X : VX} {Q : Nat → Nat} {MI ML : ZM} (K : VK X cX8_learnTrialTables RX8 5 none 4 95 0 0) (hM : cOk MI) (c : Int) (hc : rg c) (hP : tPre MI c) (M0 : ZM) (S0 : t1S MI M0 c (MI 0 8).toNat) (E : VE X 0 0 110 Q (zq Q (zV fun M L => L = ML ∧ tPost MI M))) : ∀ (n a : Nat) (M : ZM), t2S MI M0 M a 0 → (a : Int) ≤ MI 0 8 → MI 0 8 < a + n → V X (0, 0) 110 Q z_rf M ML 50 [(2, .int (iI (a : Int))), (0, .ref (Q 0)), (1, .int (iI c))] [] := by
  have u4 := hM.2.1
  intro n
  induction n with
  | zero => intro a M S ha hn; exact absurd hn (by omega)
  | succ n ih =>
    intro a M S ha hn
    refine v_iload_n K 0 dX8_learnTrialTables_50 rfl rfl ?_
    refine v_aload_n K 1 dX8_learnTrialTables_51 rfl rfl ?_
    refine v_geti K ff_X8_82 (by decide) rfl rfl dX8_learnTrialTables_52 ?_
    refine v_eqi (MI 0 8) (by rw [S.1 0 8 (by omega) (by omega) (by omega)]; exact S0.1 0 8 (by omega)) ?_
    refine v_icmp_ge K 151 ⟨by omega, by omega⟩ ⟨by omega, by omega⟩ dX8_learnTrialTables_55 (by decide) (fun h55 => ?_) (fun h55 => ?_)
    · obtain e9 : a = (MI 0 8).toNat := (by omega)
      exact v_rv K E dX8_learnTrialTables_151 (by
        refine ⟨rfl, fun x y h1 h2 h3 => ?_, fun p hp h => ?_, S.2.1, fun i j hi hj => ?_⟩
        · rw [S.1 x y h1 h2 (by omega)]; exact S0.1 x y (by omega)
        · rw [S.1 _ _ (by omega) (by omega) (by rcases isPl_z hp with ⟨j, hj, rfl⟩ | ⟨j, hj, rfl⟩ | rfl <;> omega)]; exact S0.2.1 p hp
        · rcases (show i < j ∨ i = j ∨ j < i by omega) with h | h | h
          · exact (S.2.2 i j h hj (by omega)).1
          · subst h; rw [S.2.1 i (by omega)]; unfold cTab; omega
          · rw [(S.2.2 j i h hi (by omega)).2, cTab_a MI i j])
    · refine v_iload_n K 0 dX8_learnTrialTables_58 rfl rfl ?_
      refine v_iconst K dX8_learnTrialTables_59 ?_
      refine v_iadd K dX8_learnTrialTables_60 ?_
      refine v_istore_n K (fun q9 => [(3, .int (iI q9)), (2, .int (iI (a : Int))), (0, .ref (Q 0)), (1, .int (iI c))]) dX8_learnTrialTables_61 rfl (by decide) (fun _ => rfl) (fun b0 hb0 => ?_)
      obtain rfl : b0 = ((a + 1 : Nat) : Int) := by omega
      refine l_X8_learnTrialTables_2 K hM c hc hP M0 S0 a (by omega) (fun M b S => ?_) 6 (a + 1) M (by omega) ⟨S.1, S.2.1, fun i j h1 h2 h3 => S.2.2 i j h1 h2 (by omega)⟩ (by omega) (by omega)
      refine v_iinc K 0 (fun q9 => [(2, .int (iI q9)), (0, .ref (Q 0)), (1, .int (iI c))]) dX8_learnTrialTables_145 rfl (by decide) (fun _ => rfl) (fun v hv => ?_)
      refine v_goto K 50 dX8_learnTrialTables_148 (by decide) ?_
      obtain rfl : v = ((a + 1 : Nat) : Int) := by omega
      exact ih (a + 1) _ ⟨S.1, S.2.1, fun i j h1 h2 h3 => S.2.2 i j h1 h2 (by omega)⟩ (by omega) (by omega)
set_option maxRecDepth 100000 in
set_option maxHeartbeats 4000000 in
theorem c_X8_learnTrialTables {l : Launch} {D : va_G} {Z : ZC} {Q : Nat → Nat} {MI ML : ZM} (hM : cOk MI) (c : Int) (hc : rg c) (hP : tPre MI c) (c9 : Int) (hc9 : c9 = c) : C_X8_learnTrialTables l D Z Q [.ref (Q 0), .int (iI c9)] MI ML (zV fun M L => L = ML ∧ tPost MI M) := by
  subst hc9
  refine CM.of (by decide +kernel) (Nat.le_of_ble_eq_true rfl) ?_
  intro X K E _ _ _ _
  show V X (0, 0) 110 Q z_rf MI ML 0 [(0, .ref (Q 0)), (1, .int (iI c9))] []
  have u4 := hM.2.1
  refine v_iconst K dX8_learnTrialTables_0 ?_
  refine v_istore_n K (fun q9 => [(2, .int (iI q9)), (0, .ref (Q 0)), (1, .int (iI c9))]) dX8_learnTrialTables_1 rfl (by decide) (fun _ => rfl) (fun a0 ha0 => ?_)
  subst ha0
  refine l_X8_learnTrialTables_1 K hM c9 hc hP (fun M0 a S0 => ?_) 6 0 MI ⟨fun _ _ _ => rfl, hP.1.1, fun i hi => absurd hi (by omega)⟩ (by omega) (by omega)
  refine v_iconst K dX8_learnTrialTables_48 ?_
  refine v_istore_n K (fun q9 => [(2, .int (iI q9)), (0, .ref (Q 0)), (1, .int (iI c9))]) dX8_learnTrialTables_49 rfl (by decide) (fun _ => rfl) (fun z0 hz0 => ?_)
  subst hz0
  exact l_X8_learnTrialTables_3 K hM c9 hc hP M0 S0 E 6 0 M0 ⟨fun _ _ _ _ _ => rfl, fun i hi => by rw [S0.1 _ _ (by omega)]; exact (hP.1.2 i hi).2, fun i j h1 h2 h3 => absurd h3 (by omega)⟩ (by omega) (by omega)
