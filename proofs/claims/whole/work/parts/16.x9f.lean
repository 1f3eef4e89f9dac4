set_option maxRecDepth 100000 in
set_option maxHeartbeats 4000000 in
theorem c_X9_told {l : Launch} {D : va_G} {Z : ZC} {Q : Nat → Nat} {MI ML : ZM} (hM : mOk MI) (a b w : Int) (ha : rg a) (hb : rg b) (hw : rg w) : C_X9_told l D Z Q [.ref (Q 90), .int (iI a), .int (iI b), .int (iI w)] MI ML (zI fun r M L => L = ML ∧ scM MI M ∧ (((¬ (0 ≤ a ∧ a < MI 90 4 ∧ 0 ≤ b ∧ b < MI 90 4) ∨ w < 0 ∨ 4 < w) ∧ r = -2147483648) ∨ ((0 ≤ a ∧ a < MI 90 4 ∧ 0 ≤ b ∧ b < MI 90 4) ∧ ((w = 0 ∧ r = (mGame MI a.toNat b.toNat).1) ∨ (w = 1 ∧ r = (mGame MI a.toNat b.toNat).2.1) ∨ (w = 2 ∧ r = (mGame MI a.toNat b.toNat).2.2.1) ∨ (w = 3 ∧ r = (mGame MI a.toNat b.toNat).2.2.2.1.2.2) ∨ (w = 4 ∧ r = (mGame MI a.toNat b.toNat).2.2.2.2.2.2))))) := by
  refine CM.of (by decide +kernel) (Nat.le_of_ble_eq_true rfl) ?_
  intro X K E _ _ _ _
  show V X (0, 0) 110 Q z_rf MI ML 0 [(0, .ref (Q 90)), (1, .int (iI a)), (2, .int (iI b)), (3, .int (iI w))] []
  have u4 := hM.2.1
  refine v_aload_n K 0 dX9_told_0 rfl rfl ?_
  refine v_iload_n K 1 dX9_told_1 rfl rfl ?_
  refine v_cVi K (c_X9_isDeck hM _ ha) rfl fc_X9_86 wm_X9_isDeck ws_X9_isDeck (by decide) 9 rfl (by decide) rfl rfl (by decide) (Nat.le_of_ble_eq_true rfl) dX9_told_2 (fun r2 M2 L2 h2 => ?_)
  obtain ⟨hm2, hl2, hr2⟩ := h2
  subst M2 L2
  refine v_if_eq K 16 ⟨by omega, by omega⟩ dX9_told_5 (by decide) (fun h5 => ?_) (fun h5 => ?_)
  · refine v_ldc K (-2147483648) ck_X9_121 rfl dX9_told_16 ?_
    exact v_ri K E dX9_told_18 ⟨rfl, fun _ _ _ _ => rfl, Or.inl ⟨by omega, rfl⟩⟩
  · refine v_aload_n K 0 dX9_told_8 rfl rfl ?_
    refine v_iload_n K 2 dX9_told_9 rfl rfl ?_
    refine v_cVi K (c_X9_isDeck hM _ hb) rfl fc_X9_86 wm_X9_isDeck ws_X9_isDeck (by decide) 9 rfl (by decide) rfl rfl (by decide) (Nat.le_of_ble_eq_true rfl) dX9_told_10 (fun r10 M10 L10 h10 => ?_)
    obtain ⟨hm10, hl10, hr10⟩ := h10
    subst M10 L10
    refine v_if_ne K 19 ⟨by omega, by omega⟩ dX9_told_13 (by decide) (fun h13 => ?_) (fun h13 => ?_)
    · refine v_aload_n K 0 dX9_told_19 rfl rfl ?_
      refine v_iload_n K 1 dX9_told_20 rfl rfl ?_
      refine v_iload_n K 2 dX9_told_21 rfl rfl ?_
      refine v_cVv K (c_X9_game hM a.toNat b.toNat (by omega) (by omega) _ _ (by omega) (by omega)) rfl fc_X9_115 wm_X9_game ws_X9_game (by decide) 9 rfl (by decide) rfl rfl (by decide) (Nat.le_of_ble_eq_true rfl) dX9_told_22 (fun M22 L22 h22 => ?_)
      obtain ⟨hl22, h22⟩ := h22
      subst L22
      have hok : (0 ≤ a ∧ a < MI 90 4 ∧ 0 ≤ b ∧ b < MI 90 4) := by omega
      refine v_iload_n K 3 dX9_told_25 rfl rfl ?_
      by_cases c26 : w < 0 ∨ 4 < w
      · refine v_tableOut K 93 hw dX9_told_26 c26 (by decide) ?_
        refine v_ldc K (-2147483648) ck_X9_121 rfl dX9_told_93 ?_
        exact v_ri K E dX9_told_95 ⟨rfl, h22.1, Or.inl ⟨Or.inr c26, rfl⟩⟩
      rcases (show w = 0 ∨ w = 1 ∨ w = 2 ∨ w = 3 ∨ w = 4 by omega) with c26 | c26 | c26 | c26 | c26
      · refine v_tableIn K 60 (off := 34) hw dX9_told_26 (by omega) (by rw [c26]; rfl) (by decide) ?_
        refine v_aload_n K 0 dX9_told_60 rfl rfl ?_
        refine v_geti K ff_X9_97 (by decide) rfl rfl dX9_told_61 ?_
        refine v_eqi (((mGame MI a.toNat b.toNat).1 : Int)) (h22.2.2.2.1) ?_
        exact v_ri K E dX9_told_64 ⟨rfl, h22.1, Or.inr ⟨hok, Or.inl ⟨c26, rfl⟩⟩⟩
      · refine v_tableIn K 65 (off := 39) hw dX9_told_26 (by omega) (by rw [c26]; rfl) (by decide) ?_
        refine v_aload_n K 0 dX9_told_65 rfl rfl ?_
        refine v_getr K ff_X9_32 (by decide) rfl rfl rfl dX9_told_66 ?_
        refine v_iconst K dX9_told_69 ?_
        refine v_iald K (0) (by decide) rfl rfl (by show _ < 2; omega) dX9_told_70 ?_
        refine v_eqi ((mGame MI a.toNat b.toNat).2.1) (h22.2.2.2.2.1) ?_
        exact v_ri K E dX9_told_71 ⟨rfl, h22.1, Or.inr ⟨hok, Or.inr (Or.inl ⟨c26, rfl⟩)⟩⟩
      · refine v_tableIn K 72 (off := 46) hw dX9_told_26 (by omega) (by rw [c26]; rfl) (by decide) ?_
        refine v_aload_n K 0 dX9_told_72 rfl rfl ?_
        refine v_getr K ff_X9_32 (by decide) rfl rfl rfl dX9_told_73 ?_
        refine v_iconst K dX9_told_76 ?_
        refine v_iald K (1) (by decide) rfl rfl (by show _ < 2; omega) dX9_told_77 ?_
        refine v_eqi ((mGame MI a.toNat b.toNat).2.2.1) (h22.2.2.2.2.2.1) ?_
        exact v_ri K E dX9_told_78 ⟨rfl, h22.1, Or.inr ⟨hok, Or.inr (Or.inr (Or.inl ⟨c26, rfl⟩))⟩⟩
      · refine v_tableIn K 79 (off := 53) hw dX9_told_26 (by omega) (by rw [c26]; rfl) (by decide) ?_
        refine v_aload_n K 0 dX9_told_79 rfl rfl ?_
        refine v_getr K ff_X9_44 (by decide) rfl rfl rfl dX9_told_80 ?_
        refine v_iconst K dX9_told_83 ?_
        refine v_iald K (0) (by decide) rfl rfl (by show _ < 2; omega) dX9_told_84 ?_
        refine v_eqi ((mGame MI a.toNat b.toNat).2.2.2.1.2.2) (h22.2.2.2.2.2.2.2.2.1) ?_
        exact v_ri K E dX9_told_85 ⟨rfl, h22.1, Or.inr ⟨hok, Or.inr (Or.inr (Or.inr (Or.inl ⟨c26, rfl⟩)))⟩⟩
      · refine v_tableIn K 86 (off := 60) hw dX9_told_26 (by omega) (by rw [c26]; rfl) (by decide) ?_
        refine v_aload_n K 0 dX9_told_86 rfl rfl ?_
        refine v_getr K ff_X9_44 (by decide) rfl rfl rfl dX9_told_87 ?_
        refine v_iconst K dX9_told_90 ?_
        refine v_iald K (1) (by decide) rfl rfl (by show _ < 2; omega) dX9_told_91 ?_
        refine v_eqi ((mGame MI a.toNat b.toNat).2.2.2.2.2.2) (h22.2.2.2.2.2.2.2.2.2.2.2) ?_
        exact v_ri K E dX9_told_92 ⟨rfl, h22.1, Or.inr ⟨hok, Or.inr (Or.inr (Or.inr (Or.inr ⟨c26, rfl⟩)))⟩⟩
    · refine v_ldc K (-2147483648) ck_X9_121 rfl dX9_told_16 ?_
      exact v_ri K E dX9_told_18 ⟨rfl, fun _ _ _ _ => rfl, Or.inl ⟨by omega, rfl⟩⟩
/-- the reference's own data are the same -/
def coM (MI M : ZM) : Prop := (∀ k, 91 ≤ k → k ≤ 95 → M k = MI k) ∧ M 90 0 = MI 90 0 ∧ M 90 4 = MI 90 4 ∧ M 90 7 = MI 90 7
theorem coM.ok {MI M : ZM} (h : coM MI M) (hM : mOk MI) : mOk M := by
  obtain ⟨h1, h2, h3, h4⟩ := h
  unfold mOk at *
  rw [h2, h3, h4, h1 91 (by decide) (by decide), h1 92 (by decide) (by decide), h1 93 (by decide) (by decide), h1 94 (by decide) (by decide), h1 95 (by decide) (by decide)]
  exact hM
theorem coM.game {MI M : ZM} (h : coM MI M) (a b : Nat) : mGame M a b = mGame MI a b := by
  obtain ⟨h1, h2, h3, h4⟩ := h
  unfold mGame mPl
  rw [h2, h4, h1 91 (by decide) (by decide), h1 92 (by decide) (by decide), h1 93 (by decide) (by decide), h1 94 (by decide) (by decide), h1 95 (by decide) (by decide)]
theorem coM.tab {MI M : ZM} (h : coM MI M) (a b : Nat) : mTab M a b = mTab MI a b := by unfold mTab mRes; rw [h.game, h.game]
theorem scM.co {MI M : ZM} (h : scM MI M) : coM MI M := ⟨fun k h1 h2 => h.row (by omega) (by omega), h 90 0 (by omega) (by decide), h 90 4 (by omega) (by decide), h 90 7 (by omega) (by decide)⟩
theorem coM.rf (M : ZM) : coM M M := ⟨fun _ _ _ => rfl, rfl, rfl, rfl⟩
theorem coM.trans {A B C : ZM} (h : coM A B) (h2 : coM B C) : coM A C := ⟨fun k q1 q2 => (h2.1 k q1 q2).trans (h.1 k q1 q2), h2.2.1.trans h.2.1, h2.2.2.1.trans h.2.2.1, h2.2.2.2.trans h.2.2.2⟩
/-- what layTables may change -/
def scT (MI M : ZM) : Prop := ∀ a b, (a < 96 ∨ 103 < a) → ¬ (a = 90 ∧ b = 15) → M a b = MI a b
theorem scT.co {MI M : ZM} (h : scT MI M) : coM MI M := ⟨fun k h1 h2 => funext fun b => h k b (by omega) (by omega), h 90 0 (by omega) (by decide), h 90 4 (by omega) (by decide), h 90 7 (by omega) (by decide)⟩
theorem scT.sc {MI M M' : ZM} (h : scT MI M) (h2 : scM M M') : scT MI M' := fun a b q1 q2 => (h2 a b (by omega) q2).trans (h a b q1 q2)
def tbD (MI M : ZM) (a b : Nat) : Prop := scT MI M ∧ (∀ i j : Nat, i < a → (j : Int) < MI 90 4 → M 103 (5 * i + j) = mTab MI i j) ∧ ∀ j, j < b → M 103 (5 * a + j) = mTab MI a j
theorem tbD_put {MI M M' : ZM} {a b : Nat} {v : Int} (h : tbD MI M a b) (hb : (b : Int) < MI 90 4) (h5 : MI 90 4 ≤ 5) (h2 : scM M M') (hv : v = mTab M a b) : tbD MI (z_up M' 103 (5 * a + b) v) a (b + 1) := by
  obtain ⟨q1, q2, q3⟩ := h
  have e : M' 103 = M 103 := funext fun j => h2 103 j (by omega) (by omega)
  refine ⟨fun i j h3 h4 => ?_, fun i j h3 h4 => ?_, fun j hj => ?_⟩
  · rw [z_up_k (by omega)]; exact (q1.sc h2) i j h3 h4
  · rw [z_up_j (by omega), e]; exact q2 i j h3 h4
  · by_cases e2 : j = b
    · subst e2; rw [z_up_s, hv]; exact q1.co.tab a j
    · rw [z_up_j (by omega), e]; exact q3 j (by omega)
set_option maxRecDepth 100000 in
set_option maxHeartbeats 4000000 in
theorem l_X9_layTables_in {X : VX} {Q : Nat → Nat} {MI ML : ZM} (K : VK X cX9_layTables RX9 3 none 5 117 0 0) (hM : mOk MI) (a : Nat) (ha : (a : Int) < MI 90 4) (kk : ∀ (M : ZM) (y : Int), tbD MI M a (MI 90 4).toNat → V X (0, 0) 110 Q z_rf M ML 42 [(2, .int (iI y)), (1, .int (iI (a : Int))), (0, .ref (Q 90))] []) : ∀ (n b : Nat) (M : ZM) (y : Int), y = b → tbD MI M a b → (b : Int) ≤ MI 90 4 → MI 90 4 < b + n → V X (0, 0) 110 Q z_rf M ML 12 [(2, .int (iI y)), (1, .int (iI (a : Int))), (0, .ref (Q 90))] [] := by
  have u4 := hM.2.1
  intro n
  induction n with
  | zero => intro b M y hy G hb hn; exact absurd hn (by omega)
  | succ n ih =>
    intro b M y hy G hb hn
    refine v_iload_n K 0 dX9_layTables_12 rfl rfl ?_
    refine v_aload_n K 2 dX9_layTables_13 rfl rfl ?_
    refine v_geti K ff_X9_79 (by decide) rfl rfl dX9_layTables_14 ?_
    refine v_eqi (MI 90 4) (G.1 90 4 (by omega) (by decide)) ?_
    refine v_icmp_ge K 42 ⟨by omega, by omega⟩ ⟨by omega, by omega⟩ dX9_layTables_17 (by decide) (fun h17 => ?_) (fun h17 => ?_)
    · obtain rfl : b = (MI 90 4).toNat := by omega
      exact kk M y G
    · refine v_aload_n K 2 dX9_layTables_20 rfl rfl ?_
      refine v_getr K ff_X9_50 (by decide) rfl rfl rfl dX9_layTables_21 ?_
      refine v_iconst K dX9_layTables_24 ?_
      refine v_iload_n K 1 dX9_layTables_25 rfl rfl ?_
      refine v_imul K dX9_layTables_26 ?_
      refine v_iload_n K 0 dX9_layTables_27 rfl rfl ?_
      refine v_iadd K dX9_layTables_28 ?_
      refine v_aload_n K 2 dX9_layTables_29 rfl rfl ?_
      refine v_iload_n K 1 dX9_layTables_30 rfl rfl ?_
      refine v_iload_n K 0 dX9_layTables_31 rfl rfl ?_
      refine v_cVi K (c_X9_tableOf (G.1.co.ok hM) a b (by omega) (by omega) _ _ rfl hy) rfl fc_X9_122 wm_X9_tableOf ws_X9_tableOf (by decide) 9 rfl (by decide) rfl rfl (by decide) (Nat.le_of_ble_eq_true rfl) dX9_layTables_32 (fun r32 M32 L32 h32 => ?_)
      obtain ⟨hl32, h32s, h32r⟩ := h32
      subst L32
      refine v_iast K (5 * a + b) (by decide) rfl (by omega) (by show _ < 25; omega) dX9_layTables_35 ?_
      refine v_iinc K 0 (fun q9 => [(2, .int (iI q9)), (1, .int (iI (a : Int))), (0, .ref (Q 90))]) dX9_layTables_36 rfl (by decide) (fun _ => rfl) (fun w hw => ?_)
      refine v_goto K 12 dX9_layTables_39 (by decide) ?_
      exact ih (b + 1) _ w (by omega) (tbD_put G (by omega) u4.2 h32s h32r) (by omega) (by omega)
set_option maxRecDepth 100000 in
set_option maxHeartbeats 4000000 in
theorem l_X9_layTables {X : VX} {Q : Nat → Nat} {MI ML : ZM} (K : VK X cX9_layTables RX9 3 none 5 117 0 0) (hM : mOk MI) (E : VE X 0 0 110 Q (zq Q (zV fun M L => L = ML ∧ tbD MI M (MI 90 4).toNat 0))) : ∀ (n a : Nat) (M : ZM) (z : Int), z = a → tbD MI M a 0 → (a : Int) ≤ MI 90 4 → MI 90 4 < a + n → V X (0, 0) 110 Q z_rf M ML 2 [(1, .int (iI z)), (0, .ref (Q 90))] [] := by
  have u4 := hM.2.1
  intro n
  induction n with
  | zero => intro a M z hz G ha hn; exact absurd hn (by omega)
  | succ n ih =>
    intro a M z hz G ha hn
    refine v_iload_n K 0 dX9_layTables_2 rfl rfl ?_
    refine v_aload_n K 1 dX9_layTables_3 rfl rfl ?_
    refine v_geti K ff_X9_79 (by decide) rfl rfl dX9_layTables_4 ?_
    refine v_eqi (MI 90 4) (G.1 90 4 (by omega) (by decide)) ?_
    refine v_icmp_ge K 48 ⟨by omega, by omega⟩ ⟨by omega, by omega⟩ dX9_layTables_7 (by decide) (fun h7 => ?_) (fun h7 => ?_)
    · obtain rfl : a = (MI 90 4).toNat := by omega
      exact v_rv K E dX9_layTables_48 ⟨rfl, G⟩
    · refine v_iconst K dX9_layTables_10 ?_
      refine v_istore_n K (fun q9 => [(2, .int (iI q9)), (1, .int (iI z)), (0, .ref (Q 90))]) dX9_layTables_11 rfl (by decide) (fun _ => rfl) (fun y hy => ?_)
      subst hz
      refine l_X9_layTables_in K hM a (by omega) (fun M y G => ?_) 6 0 M y hy G (by omega) (by omega)
      refine v_iinc K 1 (fun q9 => [(1, .int (iI q9)), (2, .int (iI y)), (0, .ref (Q 90))]) dX9_layTables_42 rfl (by decide) (fun _ => rfl) (fun v hv => ?_)
      refine v_goto K 2 dX9_layTables_45 (by decide) ?_
      refine v_sub K [0, 2] rfl ?_
      exact ih (a + 1) _ v (by omega) ⟨G.1, fun i j h1 h2 => by by_cases e : i = a; (subst e; exact G.2.2 j (by omega)); exact G.2.1 i j (by omega) h2, fun j hj => absurd hj (by omega)⟩ (by omega) (by omega)
set_option maxRecDepth 100000 in
set_option maxHeartbeats 4000000 in
theorem c_X9_layTables {l : Launch} {D : va_G} {Z : ZC} {Q : Nat → Nat} {MI ML : ZM} (hM : mOk MI) : C_X9_layTables l D Z Q [.ref (Q 90)] MI ML (zV fun M L => L = ML ∧ tbD MI M (MI 90 4).toNat 0) := by
  refine CM.of (by decide +kernel) (Nat.le_of_ble_eq_true rfl) ?_
  intro X K E _ _ _ _
  show V X (0, 0) 110 Q z_rf MI ML 0 [(0, .ref (Q 90))] []
  refine v_iconst K dX9_layTables_0 ?_
  refine v_istore_n K (fun q9 => [(1, .int (iI q9)), (0, .ref (Q 90))]) dX9_layTables_1 rfl (by decide) (fun _ => rfl) (fun z hz => ?_)
  have u4 := hM.2.1
  exact l_X9_layTables K hM E 6 0 MI z hz ⟨fun _ _ _ _ => rfl, fun i j h => absurd h (by omega), fun j h => absurd h (by omega)⟩ (by omega) (by omega)
set_option maxRecDepth 100000 in
set_option maxHeartbeats 4000000 in
theorem c_X9_beats {l : Launch} {D : va_G} {Z : ZC} {Q : Nat → Nat} {MI ML : ZM} (a b : Nat) (ha : a < 5) (hb : b < 5) (hr : rg (MI 103 (5 * a + b))) (a9 b9 : Int) (ha9 : a9 = a) (hb9 : b9 = b) : C_X9_beats l D Z Q [.ref (Q 90), .int (iI a9), .int (iI b9)] MI ML (zI fun r M L => M = MI ∧ L = ML ∧ ((r = 1 ∧ 0 < MI 103 (5 * a + b)) ∨ (r = 0 ∧ MI 103 (5 * a + b) ≤ 0))) := by
  refine CM.of (by decide +kernel) (Nat.le_of_ble_eq_true rfl) ?_
  intro X K E _ _ _ _
  show V X (0, 0) 110 Q z_rf MI ML 0 [(0, .ref (Q 90)), (1, .int (iI a9)), (2, .int (iI b9))] []
  refine v_aload_n K 0 dX9_beats_0 rfl rfl ?_
  refine v_getr K ff_X9_50 (by decide) rfl rfl rfl dX9_beats_1 ?_
  refine v_iconst K dX9_beats_4 ?_
  refine v_iload_n K 1 dX9_beats_5 rfl rfl ?_
  refine v_imul K dX9_beats_6 ?_
  refine v_iload_n K 2 dX9_beats_7 rfl rfl ?_
  refine v_iadd K dX9_beats_8 ?_
  refine v_iald K (5 * a + b) (by decide) rfl (by omega) (by show _ < 25; omega) dX9_beats_9 ?_
  refine v_if_le K 17 hr dX9_beats_10 (by decide) (fun h10 => ?_) (fun h10 => ?_)
  · refine v_iconst K dX9_beats_17 ?_
    exact v_rz K E (Or.inl rfl) dX9_beats_18 ⟨rfl, rfl, by omega⟩
  · refine v_iconst K dX9_beats_13 ?_
    refine v_goto K 18 dX9_beats_14 (by decide) ?_
    exact v_rz K E (Or.inr rfl) dX9_beats_18 ⟨rfl, rfl, by omega⟩
set_option maxRecDepth 100000 in
set_option maxHeartbeats 4000000 in
theorem l_X9_standingOf {X : VX} {Q : Nat → Nat} {MI ML : ZM} (K : VK X cX9_standingOf RX9 4 (some .int) 5 117 0 0) (hM : mOk MI) (d : Nat) (hd : d < 5) (E : VE X 0 0 110 Q (zq Q (zI fun r M L => L = ML ∧ scM MI M ∧ r = sumK (fun b => mTab MI d b) (MI 90 4).toNat))) : ∀ (n b : Nat) (M : ZM) (y z : Int), y = b → z = sumK (fun b => mTab MI d b) b → scM MI M → (b : Int) ≤ MI 90 4 → MI 90 4 < b + n → V X (0, 0) 110 Q z_rf M ML 4 [(3, .int (iI y)), (2, .int (iI z)), (0, .ref (Q 90)), (1, .int (iI (d : Int)))] [] := by
  have u4 := hM.2.1
  intro n
  induction n with
  | zero => intro b M y z hy hz G hb hn; exact absurd hn (by omega)
  | succ n ih =>
    intro b M y z hy hz G hb hn
    refine v_iload_n K 0 dX9_standingOf_4 rfl rfl ?_
    refine v_aload_n K 2 dX9_standingOf_5 rfl rfl ?_
    refine v_geti K ff_X9_79 (by decide) rfl rfl dX9_standingOf_6 ?_
    refine v_eqi (MI 90 4) (G 90 4 (by omega) (by decide)) ?_
    refine v_icmp_ge K 27 ⟨by omega, by omega⟩ ⟨by omega, by omega⟩ dX9_standingOf_9 (by decide) (fun h9 => ?_) (fun h9 => ?_)
    · obtain rfl : b = (MI 90 4).toNat := by omega
      refine v_iload_n K 1 dX9_standingOf_27 rfl rfl ?_
      exact v_ri K E dX9_standingOf_28 ⟨rfl, G, hz⟩
    · refine v_iload_n K 1 dX9_standingOf_12 rfl rfl ?_
      refine v_aload_n K 2 dX9_standingOf_13 rfl rfl ?_
      refine v_iload_n K 3 dX9_standingOf_14 rfl rfl ?_
      refine v_iload_n K 0 dX9_standingOf_15 rfl rfl ?_
      refine v_cVi K (c_X9_tableOf (G.co.ok hM) d b hd (by omega) _ _ rfl hy) rfl fc_X9_122 wm_X9_tableOf ws_X9_tableOf (by decide) 9 rfl (by decide) rfl rfl (by decide) (Nat.le_of_ble_eq_true rfl) dX9_standingOf_16 (fun r16 M16 L16 h16 => ?_)
      obtain ⟨hl16, h16s, h16r⟩ := h16
      subst L16
      refine v_iadd K dX9_standingOf_19 ?_
      refine v_istore_n K (fun q9 => [(2, .int (iI q9)), (3, .int (iI y)), (0, .ref (Q 90)), (1, .int (iI (d : Int)))]) dX9_standingOf_20 rfl (by decide) (fun _ => rfl) (fun v hv => ?_)
      refine v_iinc K 1 (fun q9 => [(3, .int (iI q9)), (2, .int (iI v)), (0, .ref (Q 90)), (1, .int (iI (d : Int)))]) dX9_standingOf_21 rfl (by decide) (fun _ => rfl) (fun w hw => ?_)
      refine v_goto K 4 dX9_standingOf_24 (by decide) ?_
      exact ih (b + 1) _ w v (by omega) (by rw [hv, hz, h16r, G.co.tab]; rfl) (G.trans h16s) (by omega) (by omega)
set_option maxRecDepth 100000 in
set_option maxHeartbeats 4000000 in
theorem c_X9_standingOf {l : Launch} {D : va_G} {Z : ZC} {Q : Nat → Nat} {MI ML : ZM} (hM : mOk MI) (d : Nat) (hd : d < 5) (d9 : Int) (hd9 : d9 = d) : C_X9_standingOf l D Z Q [.ref (Q 90), .int (iI d9)] MI ML (zI fun r M L => L = ML ∧ scM MI M ∧ r = sumK (fun b => mTab MI d b) (MI 90 4).toNat) := by
  subst hd9
  refine CM.of (by decide +kernel) (Nat.le_of_ble_eq_true rfl) ?_
  intro X K E _ _ _ _
  show V X (0, 0) 110 Q z_rf MI ML 0 [(0, .ref (Q 90)), (1, .int (iI (d : Int)))] []
  refine v_iconst K dX9_standingOf_0 ?_
  refine v_istore_n K (fun q9 => [(2, .int (iI q9)), (0, .ref (Q 90)), (1, .int (iI (d : Int)))]) dX9_standingOf_1 rfl (by decide) (fun _ => rfl) (fun z hz => ?_)
  refine v_iconst K dX9_standingOf_2 ?_
  refine v_istore_n K (fun q9 => [(3, .int (iI q9)), (2, .int (iI z)), (0, .ref (Q 90)), (1, .int (iI (d : Int)))]) dX9_standingOf_3 rfl (by decide) (fun _ => rfl) (fun y hy => ?_)
  have u4 := hM.2.1
  exact l_X9_standingOf K hM d hd E 6 0 MI y z hy hz (fun _ _ _ _ => rfl) (by omega) (by omega)
set_option maxRecDepth 100000 in
set_option maxHeartbeats 4000000 in
theorem c_X9_standing {l : Launch} {D : va_G} {Z : ZC} {Q : Nat → Nat} {MI ML : ZM} (hM : mOk MI) (d : Int) (hd : rg d) : C_X9_standing l D Z Q [.ref (Q 90), .int (iI d)] MI ML (zI fun r M L => L = ML ∧ scM MI M ∧ ((¬ (0 ≤ d ∧ d < MI 90 4) ∧ r = -2147483648) ∨ ((0 ≤ d ∧ d < MI 90 4) ∧ r = sumK (fun b => mTab MI d.toNat b) (MI 90 4).toNat))) := by
  refine CM.of (by decide +kernel) (Nat.le_of_ble_eq_true rfl) ?_
  intro X K E _ _ _ _
  show V X (0, 0) 110 Q z_rf MI ML 0 [(0, .ref (Q 90)), (1, .int (iI d))] []
  have u4 := hM.2.1
  refine v_aload_n K 0 dX9_standing_0 rfl rfl ?_
  refine v_iload_n K 1 dX9_standing_1 rfl rfl ?_
  refine v_cVi K (c_X9_isDeck hM _ hd) rfl fc_X9_86 wm_X9_isDeck ws_X9_isDeck (by decide) 9 rfl (by decide) rfl rfl (by decide) (Nat.le_of_ble_eq_true rfl) dX9_standing_2 (fun r2 M2 L2 h2 => ?_)
  obtain ⟨hm2, hl2, hr2⟩ := h2
  subst M2 L2
  refine v_if_eq K 16 ⟨by omega, by omega⟩ dX9_standing_5 (by decide) (fun h5 => ?_) (fun h5 => ?_)
  · refine v_ldc K (-2147483648) ck_X9_121 rfl dX9_standing_16 ?_
    exact v_ri K E dX9_standing_18 (by first | exact ⟨rfl, h10s, Or.inr ⟨by omega, h10r⟩⟩ | exact ⟨rfl, fun _ _ _ _ => rfl, Or.inl ⟨by omega, rfl⟩⟩)
  · refine v_aload_n K 0 dX9_standing_8 rfl rfl ?_
    refine v_iload_n K 1 dX9_standing_9 rfl rfl ?_
    refine v_cVi K (c_X9_standingOf hM d.toNat (by omega) _ (by omega)) rfl fc_X9_177 wm_X9_standingOf ws_X9_standingOf (by decide) 9 rfl (by decide) rfl rfl (by decide) (Nat.le_of_ble_eq_true rfl) dX9_standing_10 (fun r10 M10 L10 h10 => ?_)
    obtain ⟨hl10, h10s, h10r⟩ := h10
    subst L10
    refine v_goto K 18 dX9_standing_13 (by decide) ?_
    exact v_ri K E dX9_standing_18 (by first | exact ⟨rfl, h10s, Or.inr ⟨by omega, h10r⟩⟩ | exact ⟨rfl, fun _ _ _ _ => rfl, Or.inl ⟨by omega, rfl⟩⟩)
