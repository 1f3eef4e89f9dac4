abbrev cP (MI : ZM) (d : Nat) : Nat → List Nat := plL (MI 1 3).toNat (MI 3) (MI 4) (loN MI d (-1)) (loC MI d (-1))
abbrev cGame (MI : ZM) (a b : Nat) : Nat × GS := gGame (MI 2) (MI 4) (cP MI a) (cP MI b) (MI 0 9)
abbrev cTab (MI : ZM) (a b : Nat) : Int := gRes (cGame MI a b).2 - gRes (cGame MI b a).2
theorem cTab_b (MI : ZM) (a b : Nat) : -2 ≤ cTab MI a b ∧ cTab MI a b ≤ 2 := by
  have h1 := gRes_b (cGame MI a b).2
  have h2 := gRes_b (cGame MI b a).2
  unfold cTab; omega
theorem cTab_a (MI : ZM) (a b : Nat) : cTab MI a b = - cTab MI b a := by unfold cTab; omega
theorem cP_B {MI : ZM} (hM : cOk MI) (d : Nat) : plB MI (cP MI d) := fun t => ⟨fun c hc => by have := selL_mem _ _ _ _ _ _ c hc; have := hM.1; omega, selL_len _ _ _ _ _ _⟩
/-- the class's own data are the same -/
def coC (MI M : ZM) : Prop := ∀ a b, a < 16 → ¬ (a = 0 ∧ (b = 10 ∨ b = 11)) → M a b = MI a b
theorem coC.ok {MI M : ZM} (h : coC MI M) (hM : cOk MI) : cOk M := by
  obtain ⟨h1, h2, h3, h4, h5, h6⟩ := hM
  refine ⟨?_, ?_, ?_, ?_, ?_, ?_⟩
  · rw [h _ _ (by decide) (by decide)]; exact h1
  · rw [h _ _ (by decide) (by decide)]; exact h2
  · rw [h _ _ (by decide) (by decide)]; exact h3
  · intro i hi; rw [h _ _ (by decide) (by omega), h _ _ (by decide) (by omega), h _ _ (by decide) (by omega)]; exact h4 i hi
  · intro d hd; rw [h _ _ (by omega) (by omega)]; exact h5 d hd
  · intro d k hd hk
    rw [h _ _ (by omega) (by omega)] at hk
    rw [h _ _ (by omega) (by omega), h _ _ (by decide) (by decide)]; exact h6 d k hd hk
theorem coC.trans {A B C : ZM} (h : coC A B) (h2 : coC B C) : coC A C := fun a b q1 q2 => (h2 a b q1 q2).trans (h a b q1 q2)
theorem coC.pl {MI M : ZM} (h : coC MI M) {d : Nat} (hd : d < 5) : cP M d = cP MI d := by
  have l := lo_eq (q := -1) (h (6 + 2 * d) 1 (by omega) (by omega)) (funext fun b => h (7 + 2 * d) b (by omega) (by omega))
  unfold cP
  rw [l.1, l.2, h 1 3 (by decide) (by decide), show M 3 = MI 3 from funext fun b => h 3 b (by decide) (by omega), show M 4 = MI 4 from funext fun b => h 4 b (by decide) (by omega)]
theorem coC.game {MI M : ZM} (h : coC MI M) {a b : Nat} (ha : a < 5) (hb : b < 5) : cGame M a b = cGame MI a b := by
  unfold cGame
  rw [h.pl ha, h.pl hb, h 0 9 (by decide) (by decide), show M 2 = MI 2 from funext fun b => h 2 b (by decide) (by omega), show M 4 = MI 4 from funext fun b => h 4 b (by decide) (by omega)]
theorem coC.tab {MI M : ZM} (h : coC MI M) {a b : Nat} (ha : a < 5) (hb : b < 5) : cTab M a b = cTab MI a b := by unfold cTab; rw [h.game ha hb, h.game hb ha]
theorem rgc_congr {T U : Nat → Nat → Int} {nd a b : Nat} (h : ∀ i j, i < nd → j < nd → T i j = U i j) (ha : a < nd) (hb : b < nd) : ∀ k, k ≤ nd → rgc T a b k = rgc U a b k := by
  intro k
  induction k with
  | zero => intro _; rfl
  | succ k ih => intro hk; simp only [rgc]; rw [ih (by omega), h a b ha hb, h b k hb (by omega), h k a (by omega) ha]
theorem rgb_congr {T U : Nat → Nat → Int} {nd a : Nat} (h : ∀ i j, i < nd → j < nd → T i j = U i j) (ha : a < nd) : ∀ k, k ≤ nd → rgb T nd a k = rgb U nd a k := by
  intro k
  induction k with
  | zero => intro _; rfl
  | succ k ih => intro hk; simp only [rgb]; rw [ih (by omega), rgc_congr h ha (by omega) nd (Nat.le_refl _)]
theorem rgs_congr {T U : Nat → Nat → Int} {nd : Nat} (h : ∀ i j, i < nd → j < nd → T i j = U i j) : rgs T nd = rgs U nd := by
  have : ∀ k, k ≤ nd → rga T nd k = rga U nd k := by
    intro k
    induction k with
    | zero => intro _; rfl
    | succ k ih => intro hk; simp only [rga]; rw [ih (by omega), rgb_congr h (by omega) nd (Nat.le_refl _)]
  exact this nd (Nat.le_refl _)
/-- what stays: the places that nobody writes -/
def cFix (M : ZM) : Prop := (∀ p, isPl p → M (p + 2) 0 = 0) ∧ ∀ a, a < 5 → M (22 + a) a = 0 ∧ M (54 + a) a = 0
/-- plans, TABLES and rings are those of the decks -/
def cKn (M : ZM) : Prop := (∀ a : Nat, (a : Int) < M 0 8 → plR M (31 + 4 * a) (cP M a)) ∧ (∀ a b : Nat, (a : Int) < M 0 8 → (b : Int) < M 0 8 → M (22 + a) b = cTab M a b) ∧ rcD M (rgs (cTab M) (M 0 8).toNat)
/-- what learnTables may change -/
def ltF (MI M : ZM) : Prop := ∀ a b, ¬ (a = 0 ∧ b = 10) → ¬ (a = 16 ∧ b = 2) → ¬ (17 ≤ a ∧ a ≤ 18) → ¬ (22 ≤ a ∧ a ≤ 26) → ¬ (31 ≤ a ∧ a ≤ 50) → ¬ (83 ≤ a ∧ a ≤ 84) → M a b = MI a b
theorem ltF.co {MI M : ZM} (h : ltF MI M) : coC MI M := fun a b q1 q2 => h a b (by omega) (by omega) (by omega) (by omega) (by omega) (by omega)
theorem isPl_z {p : Nat} (h : isPl p) : (∃ a, a < 5 ∧ p = 31 + 4 * a) ∨ (∃ a, a < 5 ∧ p = 63 + 4 * a) ∨ p = 85 := by
  have k : ∀ p, p < 90 → z_kd p = 5 → ((∃ a, a < 5 ∧ p = 31 + 4 * a) ∨ (∃ a, a < 5 ∧ p = 63 + 4 * a) ∨ p = 85) := by decide +kernel
  exact k p (by have := h.2.1; omega) h.2.2.1
def l1S (MI M : ZM) (a : Nat) : Prop := (∀ x y, ¬ (31 ≤ x ∧ x ≤ 50) → M x y = MI x y) ∧ (∀ p, isPl p → M (p + 2) 0 = 0) ∧ ∀ i, i < a → plR M (31 + 4 * i) (cP MI i)
theorem plR_keep {M M' : ZM} {p : Nat} {pl : Nat → List Nat} (h : plR M p pl) (h1 : M' (p + 1) = M (p + 1)) (h2 : M' (p + 2) = M (p + 2)) : plR M' p pl := by
  unfold plR at *
  rw [h1, h2]; exact h
theorem l1S_lay {MI M M' : ZM} {a : Nat} (ha : a < 5) (S : l1S MI M a) (F : plF M M' (31 + 4 * a)) (R : plR M' (31 + 4 * a) (cP MI a)) : l1S MI M' (a + 1) := by
  obtain ⟨s1, s2, s3⟩ := S
  refine ⟨fun x y h => (F x y (by omega)).trans (s1 x y h), fun p hp => ?_, fun i hi => ?_⟩
  · by_cases e : p = 31 + 4 * a
    · subst e; have := R.1 0 (by omega); rw [this]; rfl
    · rw [F _ _ (by rcases isPl_z hp with ⟨j, hj, rfl⟩ | ⟨j, hj, rfl⟩ | rfl <;> omega)]; exact s2 p hp
  · by_cases e : i = a
    · subst e; exact R
    · exact plR_keep (s3 i (by omega)) (funext fun y => F _ y (by omega)) (funext fun y => F _ y (by omega))
/-- within the tables' loops: the pairs i < j up to (a, b) are done -/
def l2S (MI M0 M : ZM) (a b : Nat) : Prop := (∀ x y, ¬ (x = 16 ∧ y = 2) → ¬ (17 ≤ x ∧ x ≤ 18) → ¬ (22 ≤ x ∧ x ≤ 26) → M x y = M0 x y) ∧ (∀ i, i < 5 → M (22 + i) i = 0) ∧ ∀ i j : Nat, i < j → (j : Int) < MI 0 8 → (i < a ∨ (i = a ∧ j < b)) → M (22 + i) j = cTab MI i j ∧ M (22 + j) i = - cTab MI i j
theorem l2S_put {MI M0 M M' : ZM} {a b : Nat} {v : Int} (hab : a < b) (hb : b < 5) (S : l2S MI M0 M a b) (F : gcF M M') (hv : v = cTab MI a b) : l2S MI M0 (z_up (z_up M' (22 + a) b v) (22 + b) a (-v)) a (b + 1) := by
  obtain ⟨s1, s2, s3⟩ := S
  have e : ∀ x y, 22 ≤ x → M' x y = M x y := fun x y h => F x y (by omega)
  refine ⟨fun x y h1 h2 h3 => ?_, fun i hi => ?_, fun i j hij hj hd => ?_⟩
  · rw [z_up_k (by omega), z_up_k (by omega), F x y (by omega)]; exact s1 x y h1 h2 h3
  · simp only [z_up]; rw [if_neg (by omega), if_neg (by omega), e _ _ (by omega)]; exact s2 i hi
  · by_cases q : i = a ∧ j = b
    · obtain ⟨rfl, rfl⟩ := q
      refine ⟨?_, ?_⟩
      · rw [z_up_k (by omega), z_up_s, hv]
      · rw [z_up_s, hv]
    · have := s3 i j hij hj (by omega)
      simp only [z_up]
      rw [if_neg (by omega), if_neg (by omega), if_neg (by omega), if_neg (by omega), e _ _ (by omega), e _ _ (by omega)]
      exact this
set_option maxRecDepth 100000 in
set_option maxHeartbeats 4000000 in
theorem l_X8_learnTables_1 {X : VX} {Q : Nat → Nat} {MI ML : ZM} (K : VK X cX8_learnTables RX8 3 none 4 95 0 0) (hM : cOk MI) (hF : cFix MI) (kk : ∀ (M : ZM) (y : Int), l1S MI M (MI 0 8).toNat → V X (0, 0) 110 Q z_rf M ML 47 [(1, .int (iI y)), (0, .ref (Q 0))] []) : ∀ (n a : Nat) (M : ZM) (y : Int), y = a → l1S MI M a → (a : Int) ≤ MI 0 8 → MI 0 8 < a + n → V X (0, 0) 110 Q z_rf M ML 10 [(1, .int (iI y)), (0, .ref (Q 0))] [] := by
  have u4 := hM.2.1
  intro n
  induction n with
  | zero => intro a M y hy S ha hn; exact absurd hn (by omega)
  | succ n ih =>
    intro a M y hy S ha hn
    refine v_iload_n K 0 dX8_learnTables_10 rfl rfl ?_
    refine v_aload_n K 1 dX8_learnTables_11 rfl rfl ?_
    refine v_geti K ff_X8_82 (by decide) rfl rfl dX8_learnTables_12 ?_
    refine v_eqi (MI 0 8) (S.1 0 8 (by omega)) ?_
    refine v_icmp_ge K 47 ⟨by omega, by omega⟩ ⟨by omega, by omega⟩ dX8_learnTables_15 (by decide) (fun h15 => ?_) (fun h15 => ?_)
    · obtain rfl : a = (MI 0 8).toNat := by omega
      exact kk M y S
    · have co : coC MI M := fun x y h1 h2 => S.1 x y (by omega)
      refine v_aload_n K 1 dX8_learnTables_18 rfl rfl ?_
      refine v_getr K ff_X8_35 (by decide) rfl rfl rfl dX8_learnTables_19 ?_
      refine v_getr K ff_X8_109 (by decide) rfl rfl rfl dX8_learnTables_22 ?_
      refine v_iload_n K 0 dX8_learnTables_25 rfl rfl ?_
      refine v_aaldP K (a) (by decide) rfl (by omega) (by show _ < 5; omega) (zr_np (by omega)) dX8_learnTables_26 ?_
      refine v_aload_n K 1 dX8_learnTables_27 rfl rfl ?_
      refine v_getr K ff_X8_10 (by decide) rfl rfl rfl dX8_learnTables_28 ?_
      refine v_aload_n K 1 dX8_learnTables_31 rfl rfl ?_
      refine v_getr K ff_X8_18 (by decide) rfl rfl rfl dX8_learnTables_32 ?_
      refine v_iload_n K 0 dX8_learnTables_35 rfl rfl ?_
      refine v_aaldD K (a) (by decide) rfl (by omega) (by show _ < 5; omega) (zr_decks (by omega)) dX8_learnTables_36 ?_
      refine v_iconst K dX8_learnTables_37 ?_
      refine v_cVv K (c_X5_lay (co.ok hM) (31 + 4 * a) (isPl_now (by omega)) a (by omega) (-1) (Or.inl rfl) (S.2.1 _ (isPl_now (by omega))) _ rfl) rfl fc_X8_193 wm_X5_lay ws_X5_lay (by omega) 5 (isPl_now (by omega : a < 5)).2.2.1 (by decide) rfl rfl (by decide) (Nat.le_of_ble_eq_true rfl) dX8_learnTables_38 (fun M38 L38 h38 => ?_)
      obtain ⟨hl38, F38, R38⟩ := h38
      subst L38
      have R39 : plR M38 (31 + 4 * a) (cP M a) := R38
      rw [co.pl (by omega)] at R39
      refine v_iinc K 0 (fun q9 => [(1, .int (iI q9)), (0, .ref (Q 0))]) dX8_learnTables_41 rfl (by decide) (fun _ => rfl) (fun w hw => ?_)
      refine v_goto K 10 dX8_learnTables_44 (by decide) ?_
      exact ih (a + 1) _ w (by omega) (l1S_lay (by omega) S F38 R39) (by omega) (by omega)
set_option maxRecDepth 100000 in
set_option maxHeartbeats 4000000 in
theorem l_X8_learnTables_2 {X : VX} {Q : Nat → Nat} {MI ML : ZM} (K : VK X cX8_learnTables RX8 3 none 4 95 0 0) (hM : cOk MI) (hF : cFix MI) (M0 : ZM) (S0 : l1S MI M0 (MI 0 8).toNat) (a : Nat) (ha : (a : Int) < MI 0 8) (kk : ∀ (M : ZM) (z : Int), l2S MI M0 M a (MI 0 8).toNat → V X (0, 0) 110 Q z_rf M ML 106 [(2, .int (iI z)), (1, .int (iI (a : Int))), (0, .ref (Q 0))] []) : ∀ (n b : Nat) (M : ZM) (z : Int), z = b → a < b → l2S MI M0 M a b → (b : Int) ≤ MI 0 8 → MI 0 8 < b + n → V X (0, 0) 110 Q z_rf M ML 61 [(2, .int (iI z)), (1, .int (iI (a : Int))), (0, .ref (Q 0))] [] := by
  have u4 := hM.2.1
  intro n
  induction n with
  | zero => intro b M z hz hab S hb hn; exact absurd hn (by omega)
  | succ n ih =>
    intro b M z hz hab S hb hn
    refine v_iload_n K 0 dX8_learnTables_61 rfl rfl ?_
    refine v_aload_n K 2 dX8_learnTables_62 rfl rfl ?_
    refine v_geti K ff_X8_82 (by decide) rfl rfl dX8_learnTables_63 ?_
    refine v_eqi (MI 0 8) (by rw [S.1 0 8 (by omega) (by omega) (by omega)]; exact S0.1 0 8 (by omega)) ?_
    refine v_icmp_ge K 106 ⟨by omega, by omega⟩ ⟨by omega, by omega⟩ dX8_learnTables_66 (by decide) (fun h66 => ?_) (fun h66 => ?_)
    · obtain rfl : b = (MI 0 8).toNat := by omega
      exact kk M z S
    · have co : coC MI M := fun x y h1 h2 => (S.1 x y (by omega) (by omega) (by omega)).trans (S0.1 x y (by omega))
      have pR : ∀ i, i < (MI 0 8).toNat → plR M (31 + 4 * i) (cP M i) := fun i hi => by rw [co.pl (by omega)]; exact plR_keep (S0.2.2 i hi) (funext fun y => S.1 _ y (by omega) (by omega) (by omega)) (funext fun y => S.1 _ y (by omega) (by omega) (by omega))
      refine v_aload_n K 2 dX8_learnTables_69 rfl rfl ?_
      refine v_getr K ff_X8_35 (by decide) rfl rfl rfl dX8_learnTables_70 ?_
      refine v_iload_n K 1 dX8_learnTables_73 rfl rfl ?_
      refine v_iload_n K 0 dX8_learnTables_74 rfl rfl ?_
      refine v_aload_n K 2 dX8_learnTables_75 rfl rfl ?_
      refine v_aload_n K 2 dX8_learnTables_76 rfl rfl ?_
      refine v_getr K ff_X8_35 (by decide) rfl rfl rfl dX8_learnTables_77 ?_
      refine v_getr K ff_X8_109 (by decide) rfl rfl rfl dX8_learnTables_80 ?_
      refine v_iload_n K 1 dX8_learnTables_83 rfl rfl ?_
      refine v_aaldP K (a) (by decide) rfl rfl (by show _ < 5; omega) (zr_np (by omega)) dX8_learnTables_84 ?_
      refine v_aload_n K 2 dX8_learnTables_85 rfl rfl ?_
      refine v_getr K ff_X8_35 (by decide) rfl rfl rfl dX8_learnTables_86 ?_
      refine v_getr K ff_X8_109 (by decide) rfl rfl rfl dX8_learnTables_89 ?_
      refine v_iload_n K 0 dX8_learnTables_92 rfl rfl ?_
      refine v_aaldP K (b) (by decide) rfl (by omega) (by show _ < 5; omega) (zr_np (by omega)) dX8_learnTables_93 ?_
      refine v_cVi K (c_X8_tableOf (co.ok hM) (31 + 4 * a) (31 + 4 * b) (isPl_now (by omega)) (isPl_now (by omega)) (cP M a) (cP M b) (pR a (by omega)) (pR b (by omega)) (cP_B (co.ok hM) a) (cP_B (co.ok hM) b)) rfl fc_X8_197 wm_X8_tableOf ws_X8_tableOf (by decide) 8 rfl (by decide) rfl rfl (by decide) (Nat.le_of_ble_eq_true rfl) dX8_learnTables_94 (fun r94 M94 L94 h94 => ?_)
      obtain ⟨hl94, F94, h94r⟩ := h94
      subst L94
      have h95 : r94 = cTab M a b := h94r
      rw [co.tab (by omega) (by omega)] at h95
      refine v_cVv K (c_X1_enter 19 (Or.inl rfl) a b (by omega) (by omega) _ _ rfl hz _) rfl fc_X8_201 wm_X1_enter ws_X1_enter (by decide) 1 rfl (by decide) rfl rfl (by decide) (Nat.le_of_ble_eq_true rfl) dX8_learnTables_97 (fun M97 L97 h97 => ?_)
      obtain ⟨hl97, hm97⟩ := h97
      subst L97
      refine v_iinc K 0 (fun q9 => [(2, .int (iI q9)), (1, .int (iI (a : Int))), (0, .ref (Q 0))]) dX8_learnTables_100 rfl (by decide) (fun _ => rfl) (fun w hw => ?_)
      refine v_goto K 61 dX8_learnTables_103 (by decide) ?_
      exact ih (b + 1) _ w (by omega) (by omega) (by rw [hm97]; exact l2S_put hab (by omega) S F94 h95) (by omega) (by omega)
set_option maxRecDepth 100000 in
set_option maxHeartbeats 4000000 in
theorem l_X8_learnTables_3 {X : VX} {Q : Nat → Nat} {MI ML : ZM} (K : VK X cX8_learnTables RX8 3 none 4 95 0 0) (hM : cOk MI) (hF : cFix MI) (M0 : ZM) (S0 : l1S MI M0 (MI 0 8).toNat) (kk : ∀ (M : ZM) (y : Int), l2S MI M0 M (MI 0 8).toNat 0 → V X (0, 0) 110 Q z_rf M ML 112 [(1, .int (iI y)), (0, .ref (Q 0))] []) : ∀ (n a : Nat) (M : ZM) (y : Int), y = a → l2S MI M0 M a 0 → (a : Int) ≤ MI 0 8 → MI 0 8 < a + n → V X (0, 0) 110 Q z_rf M ML 49 [(1, .int (iI y)), (0, .ref (Q 0))] [] := by
  have u4 := hM.2.1
  intro n
  induction n with
  | zero => intro a M y hy S ha hn; exact absurd hn (by omega)
  | succ n ih =>
    intro a M y hy S ha hn
    refine v_iload_n K 0 dX8_learnTables_49 rfl rfl ?_
    refine v_aload_n K 1 dX8_learnTables_50 rfl rfl ?_
    refine v_geti K ff_X8_82 (by decide) rfl rfl dX8_learnTables_51 ?_
    refine v_eqi (MI 0 8) (by rw [S.1 0 8 (by omega) (by omega) (by omega)]; exact S0.1 0 8 (by omega)) ?_
    refine v_icmp_ge K 112 ⟨by omega, by omega⟩ ⟨by omega, by omega⟩ dX8_learnTables_54 (by decide) (fun h54 => ?_) (fun h54 => ?_)
    · obtain rfl : a = (MI 0 8).toNat := by omega
      exact kk M y S
    · refine v_iload_n K 0 dX8_learnTables_57 rfl rfl ?_
      refine v_iconst K dX8_learnTables_58 ?_
      refine v_iadd K dX8_learnTables_59 ?_
      refine v_istore_n K (fun q9 => [(2, .int (iI q9)), (1, .int (iI y)), (0, .ref (Q 0))]) dX8_learnTables_60 rfl (by decide) (fun _ => rfl) (fun z hz => ?_)
      subst hy
      refine l_X8_learnTables_2 K hM hF M0 S0 a (by omega) (fun M z S => ?_) 6 (a + 1) M z (by omega) (by omega) ⟨S.1, S.2.1, fun i j h1 h2 h3 => S.2.2 i j h1 h2 (by omega)⟩ (by omega) (by omega)
      refine v_iinc K 1 (fun q9 => [(1, .int (iI q9)), (2, .int (iI z)), (0, .ref (Q 0))]) dX8_learnTables_106 rfl (by decide) (fun _ => rfl) (fun v hv => ?_)
      refine v_goto K 49 dX8_learnTables_109 (by decide) ?_
      refine v_sub K [0, 2] rfl ?_
      exact ih (a + 1) _ v (by omega) ⟨S.1, S.2.1, fun i j h1 h2 h3 => S.2.2 i j h1 h2 (by omega)⟩ (by omega) (by omega)
set_option maxRecDepth 100000 in
set_option maxHeartbeats 4000000 in
theorem l_X8_learnTables_4 {X : VX} {Q : Nat → Nat} {MI ML : ZM} (K : VK X cX8_learnTables RX8 3 none 4 95 0 0) (hM : cOk MI) (hF : cFix MI) (M0 : ZM) (S0 : l1S MI M0 (MI 0 8).toNat) (E : VE X 0 0 110 Q (zq Q (zV fun M L => L = ML ∧ ltF MI M ∧ cFix M ∧ cKn M ∧ M 0 10 = 1))) (M : ZM) (y : Int) (S : l2S MI M0 M (MI 0 8).toNat 0) : V X (0, 0) 110 Q z_rf M ML 112 [(1, .int (iI y)), (0, .ref (Q 0))] [] := by
  have u4 := hM.2.1
  have co : coC MI M := fun x y h1 h2 => (S.1 x y (by omega) (by omega) (by omega)).trans (S0.1 x y (by omega))
  have hT : ∀ i j, i < (MI 0 8).toNat → j < (MI 0 8).toNat → M (22 + i) j = cTab MI i j := by
    intro i j hi hj
    rcases (show i < j ∨ i = j ∨ j < i by omega) with h | h | h
    · exact (S.2.2 i j h (by omega) (by omega)).1
    · subst h; rw [S.2.1 i (by omega)]; unfold cTab; omega
    · rw [(S.2.2 j i h (by omega) (by omega)).2, cTab_a MI i j]
  refine v_aload_n K 1 dX8_learnTables_112 rfl rfl ?_
  refine v_getr K ff_X8_45 (by decide) rfl rfl rfl dX8_learnTables_113 ?_
  refine v_aload_n K 1 dX8_learnTables_116 rfl rfl ?_
  refine v_getr K ff_X8_35 (by decide) rfl rfl rfl dX8_learnTables_117 ?_
  refine v_getr K ff_X8_136 (by decide) rfl rfl rfl dX8_learnTables_120 ?_
  refine v_aload_n K 1 dX8_learnTables_123 rfl rfl ?_
  refine v_geti K ff_X8_82 (by decide) rfl rfl dX8_learnTables_124 ?_
  refine v_eqi ((((MI 0 8).toNat : Nat) : Int)) (by rw [co 0 8 (by omega) (by omega)]; omega) ?_
  refine v_cVv K (c_X6_find (cTab MI) (MI 0 8).toNat (by omega) hT (cTab_b MI) (rgs_len (cTab_a MI) (by omega)) _ rfl) rfl fc_X8_204 wm_X6_find ws_X6_find (by decide) 6 rfl (by decide) rfl rfl (by decide) (Nat.le_of_ble_eq_true rfl) dX8_learnTables_127 (fun M127 L127 h127 => ?_)
  obtain ⟨hl127, F2, G2⟩ := h127
  subst L127
  refine v_aload_n K 1 dX8_learnTables_130 rfl rfl ?_
  refine v_iconst K dX8_learnTables_131 ?_
  refine v_putz K fp_X8_186 (Or.inr rfl) (by decide) rfl rfl dX8_learnTables_132 ?_
  exact v_rv K E dX8_learnTables_135 (by
    obtain ⟨M9, hM9⟩ : ∃ M9, M9 = z_up M127 0 10 1 := ⟨_, rfl⟩
    rw [← hM9]
    have f : ltF MI M9 := by
      intro a b h1 h2 h3 h4 h5 h6
      rw [hM9]
      simp only [z_up]
      rw [if_neg h1, F2 a b (by omega) (by omega), S.1 a b h2 h3 h4]
      exact S0.1 a b h5
    have co9 := f.co
    have e8 : M9 0 8 = MI 0 8 := co9 0 8 (by decide) (by decide)
    have k9 : ∀ a b, a < 83 → a ≠ 0 → M9 a b = M a b := by
      intro a b h h0
      rw [hM9, z_up_k (by omega)]
      exact F2 a b (by omega) (by omega)
    have kb : ∀ a b, 51 ≤ a → ¬ (83 ≤ a ∧ a ≤ 84) → M9 a b = MI a b := fun a b h1 h2 => f a b (by omega) (by omega) (by omega) (by omega) (by omega) h2
    refine ⟨rfl, f, ⟨fun p hp => ?_, fun a ha => ⟨?_, ?_⟩⟩, ⟨fun a ha => ?_, fun a b ha hb => ?_, ?_⟩, by rw [hM9, z_up_s]⟩
    · rcases isPl_z hp with ⟨j, hj, rfl⟩ | ⟨j, hj, rfl⟩ | rfl
      · rw [k9 _ _ (by omega) (by omega), S.1 _ _ (by omega) (by omega) (by omega)]; exact S0.2.1 _ hp
      · rw [kb _ _ (by omega) (by omega)]; exact hF.1 _ hp
      · rw [kb _ _ (by omega) (by omega)]; exact hF.1 _ hp
    · rw [k9 _ _ (by omega) (by omega)]; exact S.2.1 a ha
    · rw [kb _ _ (by omega) (by omega)]; exact (hF.2 a ha).2
    · rw [e8] at ha
      rw [co9.pl (by omega)]
      exact plR_keep (S0.2.2 a (by omega)) (funext fun y => (k9 _ y (by omega) (by omega)).trans (S.1 _ y (by omega) (by omega) (by omega))) (funext fun y => (k9 _ y (by omega) (by omega)).trans (S.1 _ y (by omega) (by omega) (by omega)))
    · rw [e8] at ha hb
      rw [k9 _ _ (by omega) (by omega), co9.tab (by omega) (by omega)]
      exact hT a b (by omega) (by omega)
    · rw [e8, rgs_congr (U := cTab MI) (fun i j h1 h2 => co9.tab (by omega) (by omega))]
      refine ⟨?_, fun i q hq => ?_⟩
      · rw [hM9, z_up_k (by decide)]; exact G2.1
      · rw [hM9, z_up_k (by decide), z_up_k (by decide), z_up_k (by decide)]; exact G2.2 i q hq)
set_option maxRecDepth 100000 in
set_option maxHeartbeats 4000000 in
theorem l_X8_learnTables_47 {X : VX} {Q : Nat → Nat} {MI ML : ZM} (K : VK X cX8_learnTables RX8 3 none 4 95 0 0) (hM : cOk MI) (hF : cFix MI) (M0 : ZM) (S0 : l1S MI M0 (MI 0 8).toNat) (E : VE X 0 0 110 Q (zq Q (zV fun M L => L = ML ∧ ltF MI M ∧ cFix M ∧ cKn M ∧ M 0 10 = 1))) (y : Int) : V X (0, 0) 110 Q z_rf M0 ML 47 [(1, .int (iI y)), (0, .ref (Q 0))] [] := by
  refine v_iconst K dX8_learnTables_47 ?_
  refine v_istore_n K (fun q9 => [(1, .int (iI q9)), (0, .ref (Q 0))]) dX8_learnTables_48 rfl (by decide) (fun _ => rfl) (fun z hz => ?_)
  have u4 := hM.2.1
  exact l_X8_learnTables_3 K hM hF M0 S0 (fun M y S => l_X8_learnTables_4 K hM hF M0 S0 E M y S) 6 0 M0 z hz ⟨fun _ _ _ _ _ => rfl, fun i hi => by rw [S0.1 _ _ (by omega)]; exact (hF.2 i hi).1, fun i j h1 h2 h3 => absurd h3 (by omega)⟩ (by omega) (by omega)
set_option maxRecDepth 100000 in
set_option maxHeartbeats 4000000 in
theorem c_X8_learnTables {l : Launch} {D : va_G} {Z : ZC} {Q : Nat → Nat} {MI ML : ZM} (hM : cOk MI) (hF : cFix MI) (hK : MI 0 10 = 0 ∨ (MI 0 10 = 1 ∧ cKn MI)) : C_X8_learnTables l D Z Q [.ref (Q 0)] MI ML (zV fun M L => L = ML ∧ ltF MI M ∧ cFix M ∧ cKn M ∧ M 0 10 = 1) := by
  refine CM.of (by decide +kernel) (Nat.le_of_ble_eq_true rfl) ?_
  intro X K E _ _ _ _
  show V X (0, 0) 110 Q z_rf MI ML 0 [(0, .ref (Q 0))] []
  refine v_aload_n K 0 dX8_learnTables_0 rfl rfl ?_
  refine v_geti K ff_X8_186 (by decide) rfl rfl dX8_learnTables_1 ?_
  refine v_if_eq K 8 ⟨by omega, by omega⟩ dX8_learnTables_4 (by decide) (fun h4 => ?_) (fun h4 => ?_)
  · refine v_iconst K dX8_learnTables_8 ?_
    refine v_istore_n K (fun q9 => [(1, .int (iI q9)), (0, .ref (Q 0))]) dX8_learnTables_9 rfl (by decide) (fun _ => rfl) (fun y hy => ?_)
    have u4 := hM.2.1
    exact l_X8_learnTables_1 K hM hF (fun M y S0 => l_X8_learnTables_47 K hM hF M S0 E y) 6 0 MI y hy ⟨fun _ _ _ => rfl, hF.1, fun i hi => absurd hi (by omega)⟩ (by omega) (by omega)
  · exact v_rv K E dX8_learnTables_7 (by rcases hK with q | q; exact absurd q h4; exact ⟨rfl, fun _ _ _ _ _ _ _ _ => rfl, hF, q.2, q.1⟩)
