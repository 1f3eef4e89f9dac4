/-- what the class's queries (but those of the mix) may change -/
def qF (MI M : ZM) : Prop := ∀ a b, ¬ (a = 0 ∧ b = 10) → ¬ (a = 16 ∧ b = 2) → ¬ (17 ≤ a ∧ a ≤ 18) → ¬ (22 ≤ a ∧ a ≤ 26) → ¬ (31 ≤ a ∧ a ≤ 50) → ¬ (83 ≤ a ∧ a ≤ 89) → M a b = MI a b
def kn (M : ZM) : Prop := M 0 10 = 0 ∨ (M 0 10 = 1 ∧ cKn M)
theorem qF.rf (M : ZM) : qF M M := fun _ _ _ _ _ _ _ _ => rfl
theorem qF.trans {A B C : ZM} (h : qF A B) (h2 : qF B C) : qF A C := fun a b q1 q2 q3 q4 q5 q6 => (h2 a b q1 q2 q3 q4 q5 q6).trans (h a b q1 q2 q3 q4 q5 q6)
theorem ltF.q {MI M : ZM} (h : ltF MI M) : qF MI M := fun a b q1 q2 q3 q4 q5 q6 => h a b q1 q2 q3 q4 q5 (by omega)
theorem gcF.q {MI M : ZM} (h : gcF MI M) : qF MI M := fun a b q1 q2 q3 q4 q5 q6 => h a b (by omega)
theorem qF.co {MI M : ZM} (h : qF MI M) : coC MI M := fun a b q1 q2 => h a b (by omega) (by omega) (by omega) (by omega) (by omega) (by omega)
/-- known tables stay known where only games, the lessened plan and its tables change -/
theorem kn_keep {M M' : ZM} (hM : cOk M) (h : ∀ a b, ¬ (a = 16 ∧ b = 2) → ¬ (17 ≤ a ∧ a ≤ 18) → ¬ (85 ≤ a ∧ a ≤ 89) → M' a b = M a b) (hF : cFix M) (hK : cKn M) (hz : M' 87 0 = 0) : cFix M' ∧ cKn M' := by
  have u4 := hM.2.1
  have co : coC M M' := fun a b q1 q2 => h a b (by omega) (by omega) (by omega)
  have e8 : M' 0 8 = M 0 8 := co 0 8 (by decide) (by decide)
  refine ⟨⟨fun p hp => ?_, fun a ha => ?_⟩, fun a ha => ?_, fun a b ha hb => ?_, ?_⟩
  · rcases isPl_z hp with ⟨j, hj, rfl⟩ | ⟨j, hj, rfl⟩ | rfl
    · rw [h _ _ (by omega) (by omega) (by omega)]; exact hF.1 _ hp
    · rw [h _ _ (by omega) (by omega) (by omega)]; exact hF.1 _ hp
    · exact hz
  · rw [h _ _ (by omega) (by omega) (by omega), h _ _ (by omega) (by omega) (by omega)]; exact hF.2 a ha
  · rw [e8] at ha
    rw [co.pl (by omega)]
    exact plR_keep (hK.1 a ha) (funext fun y => h _ y (by omega) (by omega) (by omega)) (funext fun y => h _ y (by omega) (by omega) (by omega))
  · rw [e8] at ha hb
    rw [co.tab (by omega) (by omega), h _ _ (by omega) (by omega) (by omega)]
    exact hK.2.1 a b ha hb
  · rw [e8, rgs_congr (U := cTab M) (fun i j h1 h2 => co.tab (by omega) (by omega))]
    exact ⟨by rw [h _ _ (by omega) (by omega) (by omega)]; exact hK.2.2.1, fun i q hq => by rw [h _ _ (by omega) (by omega) (by omega), h _ _ (by omega) (by omega) (by omega), h _ _ (by omega) (by omega) (by omega)]; exact hK.2.2.2 i q hq⟩
theorem kn_game {M M' : ZM} (hM : cOk M) (h : gcF M M') (hF : cFix M) (hK : cKn M) : cFix M' ∧ cKn M' := kn_keep hM (fun a b q1 q2 q3 => h a b (by omega)) hF hK (by rw [h _ _ (by omega)]; exact hF.1 85 isPl_less)
set_option maxRecDepth 100000 in
set_option maxHeartbeats 4000000 in
theorem c_X8_play {l : Launch} {D : va_G} {Z : ZC} {Q : Nat → Nat} {MI ML : ZM} (hM : cOk MI) (hF : cFix MI) (hK : kn MI) (a b : Int) (ha : rg a) (hb : rg b) : C_X8_play l D Z Q [.ref (Q 0), .int (iI a), .int (iI b)] MI ML (zI fun r M L => L = ML ∧ qF MI M ∧ cFix M ∧ kn M ∧ ((¬ (0 ≤ a ∧ a < MI 0 8 ∧ 0 ≤ b ∧ b < MI 0 8) ∧ r = -2) ∨ ((0 ≤ a ∧ a < MI 0 8 ∧ 0 ≤ b ∧ b < MI 0 8) ∧ r = gRes (cGame MI a.toNat b.toNat).2))) := by
  refine CM.of (by decide +kernel) (Nat.le_of_ble_eq_true rfl) ?_
  intro X K E _ _ _ _
  show V X (0, 0) 110 Q z_rf MI ML 0 [(0, .ref (Q 0)), (1, .int (iI a)), (2, .int (iI b))] []
  have u4 := hM.2.1
  have u7 := hM.2.2.1
  refine v_aload_n K 0 dX8_play_0 rfl rfl ?_
  refine v_iload_n K 1 dX8_play_1 rfl rfl ?_
  refine v_cVi K (c_X8_isNoDeck hM _ ha) rfl fc_X8_85 wm_X8_isNoDeck ws_X8_isNoDeck (by decide) 8 rfl (by decide) rfl rfl (by decide) (Nat.le_of_ble_eq_true rfl) dX8_play_2 (fun r2 M2 L2 h2 => ?_)
  obtain ⟨hm2, hl2, hr2⟩ := h2
  subst M2 L2
  refine v_if_ne K 16 ⟨by omega, by omega⟩ dX8_play_5 (by decide) (fun h5 => ?_) (fun h5 => ?_)
  · refine v_bipush K dX8_play_16 (by decide) ?_
    exact v_ri K E dX8_play_18 ⟨rfl, qF.rf _, hF, hK, Or.inl ⟨by omega, rfl⟩⟩
  · refine v_aload_n K 0 dX8_play_8 rfl rfl ?_
    refine v_iload_n K 2 dX8_play_9 rfl rfl ?_
    refine v_cVi K (c_X8_isNoDeck hM _ hb) rfl fc_X8_85 wm_X8_isNoDeck ws_X8_isNoDeck (by decide) 8 rfl (by decide) rfl rfl (by decide) (Nat.le_of_ble_eq_true rfl) dX8_play_10 (fun r10 M10 L10 h10 => ?_)
    obtain ⟨hm10, hl10, hr10⟩ := h10
    subst M10 L10
    refine v_if_eq K 19 ⟨by omega, by omega⟩ dX8_play_13 (by decide) (fun h13 => ?_) (fun h13 => ?_)
    · refine v_aload_n K 0 dX8_play_19 rfl rfl ?_
      refine v_cVv K (c_X8_learnTables hM hF hK) rfl fc_X8_106 wm_X8_learnTables ws_X8_learnTables (by decide) 8 rfl (by decide) rfl rfl (by decide) (Nat.le_of_ble_eq_true rfl) dX8_play_20 (fun M20 L20 h20 => ?_)
      obtain ⟨hl20, F1, F2, F3, F4⟩ := h20
      subst L20
      have co := F1.co
      have e8 : M20 0 8 = MI 0 8 := co 0 8 (by decide) (by decide)
      have hMM := co.ok hM
      refine v_aload_n K 0 dX8_play_23 rfl rfl ?_
      refine v_getr K ff_X8_28 (by decide) rfl rfl rfl dX8_play_24 ?_
      refine v_aload_n K 0 dX8_play_27 rfl rfl ?_
      refine v_getr K ff_X8_35 (by decide) rfl rfl rfl dX8_play_28 ?_
      refine v_getr K ff_X8_109 (by decide) rfl rfl rfl dX8_play_31 ?_
      refine v_iload_n K 1 dX8_play_34 rfl rfl ?_
      refine v_aaldP K (a.toNat) (by decide) rfl (by omega) (by show _ < 5; omega) (zr_np (by omega)) dX8_play_35 ?_
      refine v_aload_n K 0 dX8_play_36 rfl rfl ?_
      refine v_getr K ff_X8_35 (by decide) rfl rfl rfl dX8_play_37 ?_
      refine v_getr K ff_X8_109 (by decide) rfl rfl rfl dX8_play_40 ?_
      refine v_iload_n K 2 dX8_play_43 rfl rfl ?_
      refine v_aaldP K (b.toNat) (by decide) rfl (by omega) (by show _ < 5; omega) (zr_np (by omega)) dX8_play_44 ?_
      refine v_aload_n K 0 dX8_play_45 rfl rfl ?_
      refine v_geti K ff_X8_60 (by decide) rfl rfl dX8_play_46 ?_
      refine v_eqi (MI 0 9) (co 0 9 (by decide) (by decide)) ?_
      refine v_cVi K (c_X3_resultOf hMM (31 + 4 * a.toNat) (31 + 4 * b.toNat) (isPl_now (by omega)) (isPl_now (by omega)) (cP M20 a.toNat) (cP M20 b.toNat) (F3.1 _ (by rw [e8]; omega)) (F3.1 _ (by rw [e8]; omega)) (cP_B hMM _) (cP_B hMM _) _ u7.1 u7.2) rfl fc_X8_113 wm_X3_resultOf ws_X3_resultOf (by decide) 3 rfl (by decide) rfl rfl (by decide) (Nat.le_of_ble_eq_true rfl) dX8_play_49 (fun r49 M49 L49 h49 => ?_)
      obtain ⟨hl49, G1, -, -, h49r⟩ := h49
      subst L49
      have h50 : r49 = gRes (gGame (M20 2) (M20 4) (cP M20 a.toNat) (cP M20 b.toNat) (MI 0 9)).2 := h49r
      rw [co.pl (by omega), co.pl (by omega), show M20 2 = MI 2 from funext fun x => co 2 x (by decide) (by omega), show M20 4 = MI 4 from funext fun x => co 4 x (by decide) (by omega)] at h50
      have k := kn_game hMM G1 F2 F3
      exact v_ri K E dX8_play_52 ⟨rfl, F1.q.trans G1.q, k.1, Or.inr ⟨by rw [G1 0 10 (by omega)]; exact F4, k.2⟩, Or.inr ⟨by omega, h50⟩⟩
    · refine v_bipush K dX8_play_16 (by decide) ?_
      exact v_ri K E dX8_play_18 ⟨rfl, qF.rf _, hF, hK, Or.inl ⟨by omega, rfl⟩⟩
set_option maxRecDepth 100000 in
set_option maxHeartbeats 4000000 in
theorem c_X8_told {l : Launch} {D : va_G} {Z : ZC} {Q : Nat → Nat} {MI ML : ZM} (hM : cOk MI) (hF : cFix MI) (hK : kn MI) (a b w : Int) (ha : rg a) (hb : rg b) (hw : rg w) : C_X8_told l D Z Q [.ref (Q 0), .int (iI a), .int (iI b), .int (iI w)] MI ML (zI fun r M L => L = ML ∧ qF MI M ∧ cFix M ∧ kn M ∧ (((¬ (0 ≤ a ∧ a < MI 0 8 ∧ 0 ≤ b ∧ b < MI 0 8) ∨ w < 0 ∨ 4 < w) ∧ r = -2147483648) ∨ ((0 ≤ a ∧ a < MI 0 8 ∧ 0 ≤ b ∧ b < MI 0 8) ∧ ((w = 0 ∧ r = (cGame MI a.toNat b.toNat).1) ∨ (w = 1 ∧ r = (cGame MI a.toNat b.toNat).2.1) ∨ (w = 2 ∧ r = (cGame MI a.toNat b.toNat).2.2.1) ∨ (w = 3 ∧ r = (cGame MI a.toNat b.toNat).2.2.2.1.2.2) ∨ (w = 4 ∧ r = (cGame MI a.toNat b.toNat).2.2.2.2.2.2))))) := by
  refine CM.of (by decide +kernel) (Nat.le_of_ble_eq_true rfl) ?_
  intro X K E _ _ _ _
  show V X (0, 0) 110 Q z_rf MI ML 0 [(0, .ref (Q 0)), (1, .int (iI a)), (2, .int (iI b)), (3, .int (iI w))] []
  have u4 := hM.2.1
  have u7 := hM.2.2.1
  refine v_aload_n K 0 dX8_told_0 rfl rfl ?_
  refine v_iload_n K 1 dX8_told_1 rfl rfl ?_
  refine v_cVi K (c_X8_isNoDeck hM _ ha) rfl fc_X8_85 wm_X8_isNoDeck ws_X8_isNoDeck (by decide) 8 rfl (by decide) rfl rfl (by decide) (Nat.le_of_ble_eq_true rfl) dX8_told_2 (fun r2 M2 L2 h2 => ?_)
  obtain ⟨hm2, hl2, hr2⟩ := h2
  subst M2 L2
  refine v_if_ne K 25 ⟨by omega, by omega⟩ dX8_told_5 (by decide) (fun h5 => ?_) (fun h5 => ?_)
  · refine v_ldc K (-2147483648) ck_X8_117 rfl dX8_told_25 ?_
    exact v_ri K E dX8_told_27 ⟨rfl, qF.rf _, hF, hK, Or.inl ⟨by omega, rfl⟩⟩
  · refine v_aload_n K 0 dX8_told_8 rfl rfl ?_
    refine v_iload_n K 2 dX8_told_9 rfl rfl ?_
    refine v_cVi K (c_X8_isNoDeck hM _ hb) rfl fc_X8_85 wm_X8_isNoDeck ws_X8_isNoDeck (by decide) 8 rfl (by decide) rfl rfl (by decide) (Nat.le_of_ble_eq_true rfl) dX8_told_10 (fun r10 M10 L10 h10 => ?_)
    obtain ⟨hm10, hl10, hr10⟩ := h10
    subst M10 L10
    refine v_if_ne K 25 ⟨by omega, by omega⟩ dX8_told_13 (by decide) (fun h13 => ?_) (fun h13 => ?_)
    · refine v_ldc K (-2147483648) ck_X8_117 rfl dX8_told_25 ?_
      exact v_ri K E dX8_told_27 ⟨rfl, qF.rf _, hF, hK, Or.inl ⟨by omega, rfl⟩⟩
    · refine v_iload_n K 3 dX8_told_16 rfl rfl ?_
      refine v_iconst K dX8_told_17 ?_
      refine v_iconst K dX8_told_18 ?_
      refine v_cSi K (c_X8_isOutside _ _ _ hw rg_0 ⟨by omega, by omega⟩) rfl fc_X8_64 wt_X8_isOutside rfl (by decide) (Nat.le_of_ble_eq_true rfl) dX8_told_19 (fun r19 M19 L19 h19 => ?_)
      obtain ⟨hm19, hl19, hr19⟩ := h19
      subst M19 L19
      refine v_if_eq K 28 ⟨by omega, by omega⟩ dX8_told_22 (by decide) (fun h22 => ?_) (fun h22 => ?_)
      · refine v_aload_n K 0 dX8_told_28 rfl rfl ?_
        refine v_cVv K (c_X8_learnTables hM hF hK) rfl fc_X8_106 wm_X8_learnTables ws_X8_learnTables (by decide) 8 rfl (by decide) rfl rfl (by decide) (Nat.le_of_ble_eq_true rfl) dX8_told_29 (fun M29 L29 h29 => ?_)
        obtain ⟨hl29, F1, F2, F3, F4⟩ := h29
        subst L29
        have co := F1.co
        have e8 : M29 0 8 = MI 0 8 := co 0 8 (by decide) (by decide)
        have hMM := co.ok hM
        refine v_aload_n K 0 dX8_told_32 rfl rfl ?_
        refine v_getr K ff_X8_28 (by decide) rfl rfl rfl dX8_told_33 ?_
        refine v_aload_n K 0 dX8_told_36 rfl rfl ?_
        refine v_getr K ff_X8_35 (by decide) rfl rfl rfl dX8_told_37 ?_
        refine v_getr K ff_X8_109 (by decide) rfl rfl rfl dX8_told_40 ?_
        refine v_iload_n K 1 dX8_told_43 rfl rfl ?_
        refine v_aaldP K (a.toNat) (by decide) rfl (by omega) (by show _ < 5; omega) (zr_np (by omega)) dX8_told_44 ?_
        refine v_aload_n K 0 dX8_told_45 rfl rfl ?_
        refine v_getr K ff_X8_35 (by decide) rfl rfl rfl dX8_told_46 ?_
        refine v_getr K ff_X8_109 (by decide) rfl rfl rfl dX8_told_49 ?_
        refine v_iload_n K 2 dX8_told_52 rfl rfl ?_
        refine v_aaldP K (b.toNat) (by decide) rfl (by omega) (by show _ < 5; omega) (zr_np (by omega)) dX8_told_53 ?_
        refine v_aload_n K 0 dX8_told_54 rfl rfl ?_
        refine v_geti K ff_X8_60 (by decide) rfl rfl dX8_told_55 ?_
        refine v_eqi (MI 0 9) (co 0 9 (by decide) (by decide)) ?_
        refine v_cVi K (c_X3_resultOf hMM (31 + 4 * a.toNat) (31 + 4 * b.toNat) (isPl_now (by omega)) (isPl_now (by omega)) (cP M29 a.toNat) (cP M29 b.toNat) (F3.1 _ (by rw [e8]; omega)) (F3.1 _ (by rw [e8]; omega)) (cP_B hMM _) (cP_B hMM _) _ u7.1 u7.2) rfl fc_X8_113 wm_X3_resultOf ws_X3_resultOf (by decide) 3 rfl (by decide) rfl rfl (by decide) (Nat.le_of_ble_eq_true rfl) dX8_told_58 (fun r58 M58 L58 h58 => ?_)
        obtain ⟨hl58, G1, G2, G3, -⟩ := h58
        subst L58
        have G4 : gcS M58 (gGame (M29 2) (M29 4) (cP M29 a.toNat) (cP M29 b.toNat) (MI 0 9)).2 := G2
        have G5 : M58 16 2 = (gGame (M29 2) (M29 4) (cP M29 a.toNat) (cP M29 b.toNat) (MI 0 9)).1 := G3
        rw [co.pl (by omega), co.pl (by omega), show M29 2 = MI 2 from funext fun x => co 2 x (by decide) (by omega), show M29 4 = MI 4 from funext fun x => co 4 x (by decide) (by omega)] at G4 G5
        have k := kn_game hMM G1 F2 F3
        obtain ⟨g1, g2, g3, g4, g5, g6, g7, g8⟩ := G4
        refine v_pop K dX8_told_61 rfl ?_
        refine v_iload_n K 3 dX8_told_62 rfl rfl ?_
        by_cases c63 : w < 0 ∨ 3 < w
        · refine v_tableOut K 133 hw dX8_told_63 c63 (by decide) ?_
          refine v_aload_n K 0 dX8_told_133 rfl rfl ?_
          refine v_getr K ff_X8_28 (by decide) rfl rfl rfl dX8_told_134 ?_
          refine v_getr K ff_X8_130 (by decide) rfl rfl rfl dX8_told_137 ?_
          refine v_geti K ff_X8_133 (by decide) rfl rfl dX8_told_140 ?_
          refine v_eqi ((cGame MI a.toNat b.toNat).2.2.2.2.2.2) (g8) ?_
          exact v_ri K E dX8_told_143 ⟨rfl, F1.q.trans G1.q, k.1, Or.inr ⟨by rw [G1 0 10 (by omega)]; exact F4, k.2⟩, Or.inr ⟨by omega, by omega⟩⟩
        rcases (show w = 0 ∨ w = 1 ∨ w = 2 ∨ w = 3 by omega) with c63 | c63 | c63 | c63
        · refine v_tableIn K 92 (off := 29) hw dX8_told_63 (by omega) (by rw [c63]; rfl) (by decide) ?_
          refine v_aload_n K 0 dX8_told_92 rfl rfl ?_
          refine v_getr K ff_X8_28 (by decide) rfl rfl rfl dX8_told_93 ?_
          refine v_geti K ff_X8_118 (by decide) rfl rfl dX8_told_96 ?_
          refine v_eqi (((cGame MI a.toNat b.toNat).1 : Int)) (G5) ?_
          exact v_ri K E dX8_told_99 ⟨rfl, F1.q.trans G1.q, k.1, Or.inr ⟨by rw [G1 0 10 (by omega)]; exact F4, k.2⟩, Or.inr ⟨by omega, by omega⟩⟩
        · refine v_tableIn K 100 (off := 37) hw dX8_told_63 (by omega) (by rw [c63]; rfl) (by decide) ?_
          refine v_aload_n K 0 dX8_told_100 rfl rfl ?_
          refine v_getr K ff_X8_28 (by decide) rfl rfl rfl dX8_told_101 ?_
          refine v_getr K ff_X8_121 (by decide) rfl rfl rfl dX8_told_104 ?_
          refine v_geti K ff_X8_125 (by decide) rfl rfl dX8_told_107 ?_
          refine v_eqi ((cGame MI a.toNat b.toNat).2.1) (g1) ?_
          exact v_ri K E dX8_told_110 ⟨rfl, F1.q.trans G1.q, k.1, Or.inr ⟨by rw [G1 0 10 (by omega)]; exact F4, k.2⟩, Or.inr ⟨by omega, by omega⟩⟩
        · refine v_tableIn K 111 (off := 48) hw dX8_told_63 (by omega) (by rw [c63]; rfl) (by decide) ?_
          refine v_aload_n K 0 dX8_told_111 rfl rfl ?_
          refine v_getr K ff_X8_28 (by decide) rfl rfl rfl dX8_told_112 ?_
          refine v_getr K ff_X8_130 (by decide) rfl rfl rfl dX8_told_115 ?_
          refine v_geti K ff_X8_125 (by decide) rfl rfl dX8_told_118 ?_
          refine v_eqi ((cGame MI a.toNat b.toNat).2.2.1) (g2) ?_
          exact v_ri K E dX8_told_121 ⟨rfl, F1.q.trans G1.q, k.1, Or.inr ⟨by rw [G1 0 10 (by omega)]; exact F4, k.2⟩, Or.inr ⟨by omega, by omega⟩⟩
        · refine v_tableIn K 122 (off := 59) hw dX8_told_63 (by omega) (by rw [c63]; rfl) (by decide) ?_
          refine v_aload_n K 0 dX8_told_122 rfl rfl ?_
          refine v_getr K ff_X8_28 (by decide) rfl rfl rfl dX8_told_123 ?_
          refine v_getr K ff_X8_121 (by decide) rfl rfl rfl dX8_told_126 ?_
          refine v_geti K ff_X8_133 (by decide) rfl rfl dX8_told_129 ?_
          refine v_eqi ((cGame MI a.toNat b.toNat).2.2.2.1.2.2) (g5) ?_
          exact v_ri K E dX8_told_132 ⟨rfl, F1.q.trans G1.q, k.1, Or.inr ⟨by rw [G1 0 10 (by omega)]; exact F4, k.2⟩, Or.inr ⟨by omega, by omega⟩⟩
      · refine v_ldc K (-2147483648) ck_X8_117 rfl dX8_told_25 ?_
        exact v_ri K E dX8_told_27 ⟨rfl, qF.rf _, hF, hK, Or.inl ⟨by omega, rfl⟩⟩
set_option maxRecDepth 100000 in
set_option maxHeartbeats 4000000 in
theorem c_X8_table {l : Launch} {D : va_G} {Z : ZC} {Q : Nat → Nat} {MI ML : ZM} (hM : cOk MI) (hF : cFix MI) (hK : kn MI) (a b : Int) (ha : rg a) (hb : rg b) : C_X8_table l D Z Q [.ref (Q 0), .int (iI a), .int (iI b)] MI ML (zI fun r M L => L = ML ∧ qF MI M ∧ cFix M ∧ kn M ∧ ((¬ (0 ≤ a ∧ a < MI 0 8 ∧ 0 ≤ b ∧ b < MI 0 8) ∧ r = -2147483648) ∨ ((0 ≤ a ∧ a < MI 0 8 ∧ 0 ≤ b ∧ b < MI 0 8) ∧ r = cTab MI a.toNat b.toNat))) := by
  refine CM.of (by decide +kernel) (Nat.le_of_ble_eq_true rfl) ?_
  intro X K E _ _ _ _
  show V X (0, 0) 110 Q z_rf MI ML 0 [(0, .ref (Q 0)), (1, .int (iI a)), (2, .int (iI b))] []
  have u4 := hM.2.1
  refine v_aload_n K 0 dX8_table_0 rfl rfl ?_
  refine v_iload_n K 1 dX8_table_1 rfl rfl ?_
  refine v_cVi K (c_X8_isNoDeck hM _ ha) rfl fc_X8_85 wm_X8_isNoDeck ws_X8_isNoDeck (by decide) 8 rfl (by decide) rfl rfl (by decide) (Nat.le_of_ble_eq_true rfl) dX8_table_2 (fun r2 M2 L2 h2 => ?_)
  obtain ⟨hm2, hl2, hr2⟩ := h2
  subst M2 L2
  refine v_if_ne K 16 ⟨by omega, by omega⟩ dX8_table_5 (by decide) (fun h5 => ?_) (fun h5 => ?_)
  · refine v_ldc K (-2147483648) ck_X8_117 rfl dX8_table_16 ?_
    exact v_ri K E dX8_table_18 ⟨rfl, qF.rf _, hF, hK, Or.inl ⟨by omega, rfl⟩⟩
  · refine v_aload_n K 0 dX8_table_8 rfl rfl ?_
    refine v_iload_n K 2 dX8_table_9 rfl rfl ?_
    refine v_cVi K (c_X8_isNoDeck hM _ hb) rfl fc_X8_85 wm_X8_isNoDeck ws_X8_isNoDeck (by decide) 8 rfl (by decide) rfl rfl (by decide) (Nat.le_of_ble_eq_true rfl) dX8_table_10 (fun r10 M10 L10 h10 => ?_)
    obtain ⟨hm10, hl10, hr10⟩ := h10
    subst M10 L10
    refine v_if_eq K 19 ⟨by omega, by omega⟩ dX8_table_13 (by decide) (fun h13 => ?_) (fun h13 => ?_)
    · refine v_aload_n K 0 dX8_table_19 rfl rfl ?_
      refine v_cVv K (c_X8_learnTables hM hF hK) rfl fc_X8_106 wm_X8_learnTables ws_X8_learnTables (by decide) 8 rfl (by decide) rfl rfl (by decide) (Nat.le_of_ble_eq_true rfl) dX8_table_20 (fun M20 L20 h20 => ?_)
      obtain ⟨hl20, F1, F2, F3, F4⟩ := h20
      subst L20
      have co := F1.co
      have e8 : M20 0 8 = MI 0 8 := co 0 8 (by decide) (by decide)
      have hMM := co.ok hM
      refine v_aload_n K 0 dX8_table_23 rfl rfl ?_
      refine v_getr K ff_X8_35 (by decide) rfl rfl rfl dX8_table_24 ?_
      refine v_getr K ff_X8_136 (by decide) rfl rfl rfl dX8_table_27 ?_
      refine v_iload_n K 1 dX8_table_30 rfl rfl ?_
      refine v_aaldT K (a.toNat) (by decide) rfl (by omega) (by show _ < 5; omega) (zr_nt (by omega)) dX8_table_31 ?_
      refine v_iload_n K 2 dX8_table_32 rfl rfl ?_
      refine v_iald K (b.toNat) (by omega) (ct_r (Or.inl rfl) (i := a.toNat) (by omega)).2.1 (by omega) (by rw [show z_ln (22 + a.toNat) = 5 from (ct_r (Or.inl rfl) (i := a.toNat) (by omega)).2.2]; omega) dX8_table_33 ?_
      refine v_eqi (cTab MI a.toNat b.toNat) (by rw [F3.2.1 _ _ (by rw [e8]; omega) (by rw [e8]; omega)]; exact co.tab (by omega) (by omega)) ?_
      exact v_ri K E dX8_table_34 ⟨rfl, F1.q, F2, Or.inr ⟨F4, F3⟩, Or.inr ⟨by omega, rfl⟩⟩
    · refine v_ldc K (-2147483648) ck_X8_117 rfl dX8_table_16 ?_
      exact v_ri K E dX8_table_18 ⟨rfl, qF.rf _, hF, hK, Or.inl ⟨by omega, rfl⟩⟩
set_option maxRecDepth 100000 in
set_option maxHeartbeats 4000000 in
theorem c_X8_rings {l : Launch} {D : va_G} {Z : ZC} {Q : Nat → Nat} {MI ML : ZM} (hM : cOk MI) (hF : cFix MI) (hK : kn MI) : C_X8_rings l D Z Q [.ref (Q 0)] MI ML (zI fun r M L => L = ML ∧ qF MI M ∧ cFix M ∧ kn M ∧ r = (rgs (cTab MI) (MI 0 8).toNat).length) := by
  refine CM.of (by decide +kernel) (Nat.le_of_ble_eq_true rfl) ?_
  intro X K E _ _ _ _
  show V X (0, 0) 110 Q z_rf MI ML 0 [(0, .ref (Q 0))] []
  have u4 := hM.2.1
  refine v_aload_n K 0 dX8_rings_0 rfl rfl ?_
  refine v_cVv K (c_X8_learnTables hM hF hK) rfl fc_X8_106 wm_X8_learnTables ws_X8_learnTables (by decide) 8 rfl (by decide) rfl rfl (by decide) (Nat.le_of_ble_eq_true rfl) dX8_rings_1 (fun M1 L1 h1 => ?_)
  obtain ⟨hl1, F1, F2, F3, F4⟩ := h1
  subst L1
  have co := F1.co
  have e8 : M1 0 8 = MI 0 8 := co 0 8 (by decide) (by decide)
  have hMM := co.ok hM
  have eR : rgs (cTab M1) (M1 0 8).toNat = (rgs (cTab MI) (MI 0 8).toNat) := by rw [e8]; exact rgs_congr (fun i j h1 h2 => co.tab (by omega) (by omega))
  have R := F3.2.2
  rw [eR] at R
  have hlen : (rgs (cTab MI) (MI 0 8).toNat).length ≤ 10 := rgs_len (cTab_a MI) (by omega)
  refine v_aload_n K 0 dX8_rings_4 rfl rfl ?_
  refine v_getr K ff_X8_45 (by decide) rfl rfl rfl dX8_rings_5 ?_
  refine v_geti K ff_X8_140 (by decide) rfl rfl dX8_rings_8 ?_
  refine v_eqi (((rgs (cTab MI) (MI 0 8).toNat).length : Int)) (R.1) ?_
  exact v_ri K E dX8_rings_11 ⟨rfl, F1.q, F2, Or.inr ⟨F4, F3⟩, rfl⟩
set_option maxRecDepth 100000 in
set_option maxHeartbeats 4000000 in
theorem c_X8_ring {l : Launch} {D : va_G} {Z : ZC} {Q : Nat → Nat} {MI ML : ZM} (hM : cOk MI) (hF : cFix MI) (hK : kn MI) (k j : Int) (hk : rg k) (hj : rg j) : C_X8_ring l D Z Q [.ref (Q 0), .int (iI k), .int (iI j)] MI ML (zI fun r M L => L = ML ∧ qF MI M ∧ cFix M ∧ kn M ∧ ((¬ (0 ≤ k ∧ k < (rgs (cTab MI) (MI 0 8).toNat).length ∧ 0 ≤ j ∧ j ≤ 2) ∧ r = -2) ∨ ((0 ≤ k ∧ k < (rgs (cTab MI) (MI 0 8).toNat).length ∧ 0 ≤ j ∧ j ≤ 2) ∧ (∃ q, (rgs (cTab MI) (MI 0 8).toNat)[k.toNat]? = some q ∧ ((j = 0 ∧ r = q.1) ∨ (j = 1 ∧ r = q.2.1) ∨ (j = 2 ∧ r = q.2.2)))))) := by
  refine CM.of (by decide +kernel) (Nat.le_of_ble_eq_true rfl) ?_
  intro X K E _ _ _ _
  show V X (0, 0) 110 Q z_rf MI ML 0 [(0, .ref (Q 0)), (1, .int (iI k)), (2, .int (iI j))] []
  have u4 := hM.2.1
  refine v_aload_n K 0 dX8_ring_0 rfl rfl ?_
  refine v_cVv K (c_X8_learnTables hM hF hK) rfl fc_X8_106 wm_X8_learnTables ws_X8_learnTables (by decide) 8 rfl (by decide) rfl rfl (by decide) (Nat.le_of_ble_eq_true rfl) dX8_ring_1 (fun M1 L1 h1 => ?_)
  obtain ⟨hl1, F1, F2, F3, F4⟩ := h1
  subst L1
  have co := F1.co
  have e8 : M1 0 8 = MI 0 8 := co 0 8 (by decide) (by decide)
  have hMM := co.ok hM
  have eR : rgs (cTab M1) (M1 0 8).toNat = (rgs (cTab MI) (MI 0 8).toNat) := by rw [e8]; exact rgs_congr (fun i j h1 h2 => co.tab (by omega) (by omega))
  have R := F3.2.2
  rw [eR] at R
  have hlen : (rgs (cTab MI) (MI 0 8).toNat).length ≤ 10 := rgs_len (cTab_a MI) (by omega)
  refine v_iload_n K 1 dX8_ring_4 rfl rfl ?_
  refine v_iconst K dX8_ring_5 ?_
  refine v_aload_n K 0 dX8_ring_6 rfl rfl ?_
  refine v_getr K ff_X8_45 (by decide) rfl rfl rfl dX8_ring_7 ?_
  refine v_geti K ff_X8_140 (by decide) rfl rfl dX8_ring_10 ?_
  refine v_eqi (((rgs (cTab MI) (MI 0 8).toNat).length : Int)) (R.1) ?_
  refine v_iconst K dX8_ring_13 ?_
  refine v_isub K dX8_ring_14 ?_
  refine v_cSi K (c_X8_isOutside _ _ _ hk rg_0 ⟨by omega, by omega⟩) rfl fc_X8_64 wt_X8_isOutside rfl (by decide) (Nat.le_of_ble_eq_true rfl) dX8_ring_15 (fun r15 M15 L15 h15 => ?_)
  obtain ⟨hm15, hl15, hr15⟩ := h15
  subst M15 L15
  refine v_if_ne K 30 ⟨by omega, by omega⟩ dX8_ring_18 (by decide) (fun h18 => ?_) (fun h18 => ?_)
  · refine v_bipush K dX8_ring_30 (by decide) ?_
    exact v_ri K E dX8_ring_32 ⟨rfl, F1.q, F2, Or.inr ⟨F4, F3⟩, Or.inl ⟨by omega, rfl⟩⟩
  · refine v_iload_n K 2 dX8_ring_21 rfl rfl ?_
    refine v_iconst K dX8_ring_22 ?_
    refine v_iconst K dX8_ring_23 ?_
    refine v_cSi K (c_X8_isOutside _ _ _ hj rg_0 ⟨by omega, by omega⟩) rfl fc_X8_64 wt_X8_isOutside rfl (by decide) (Nat.le_of_ble_eq_true rfl) dX8_ring_24 (fun r24 M24 L24 h24 => ?_)
    obtain ⟨hm24, hl24, hr24⟩ := h24
    subst M24 L24
    refine v_if_eq K 33 ⟨by omega, by omega⟩ dX8_ring_27 (by decide) (fun h27 => ?_) (fun h27 => ?_)
    · obtain ⟨q, hq⟩ : ∃ q, (rgs (cTab MI) (MI 0 8).toNat)[k.toNat]? = some q := ⟨_, List.getElem?_eq_getElem (by omega)⟩
      have w := R.2 k.toNat q hq
      refine v_aload_n K 0 dX8_ring_33 rfl rfl ?_
      refine v_getr K ff_X8_45 (by decide) rfl rfl rfl dX8_ring_34 ?_
      refine v_getr K ff_X8_143 (by decide) rfl rfl rfl dX8_ring_37 ?_
      refine v_iconst K dX8_ring_40 ?_
      refine v_iload_n K 1 dX8_ring_41 rfl rfl ?_
      refine v_imul K dX8_ring_42 ?_
      refine v_iload_n K 2 dX8_ring_43 rfl rfl ?_
      refine v_iadd K dX8_ring_44 ?_
      refine v_iald K (3 * k.toNat + j.toNat) (by decide) rfl (by omega) (by show _ < 30; omega) dX8_ring_45 ?_
      exact v_ri K E dX8_ring_46 ⟨rfl, F1.q, F2, Or.inr ⟨F4, F3⟩, Or.inr ⟨by omega, q, hq, by rcases (show j = 0 ∨ j = 1 ∨ j = 2 by omega) with rfl | rfl | rfl; exact Or.inl ⟨rfl, w.1⟩; exact Or.inr (Or.inl ⟨rfl, w.2.1⟩); exact Or.inr (Or.inr ⟨rfl, w.2.2⟩)⟩⟩
    · refine v_bipush K dX8_ring_30 (by decide) ?_
      exact v_ri K E dX8_ring_32 ⟨rfl, F1.q, F2, Or.inr ⟨F4, F3⟩, Or.inl ⟨by omega, rfl⟩⟩
set_option maxRecDepth 100000 in
set_option maxHeartbeats 4000000 in
theorem l_X8_sumOf {X : VX} {Q : Nat → Nat} {MI ML : ZM} (K : VK X cX8_sumOf RX8 4 (some .int) 0 0 0 0) (hM : cOk MI) (w : Nat) (hw : w < 110 ∧ z_kd w = 10 ∧ z_ln w = 5) (E : VE X 0 0 110 Q (zq Q (zI fun r M L => M = MI ∧ L = ML ∧ r = sumK (MI w) (MI 0 8).toNat))) : ∀ (n k : Nat) (y x : Int), y = k → x = sumK (MI w) k → (k : Int) ≤ MI 0 8 → MI 0 8 < k + n → V X (0, 0) 110 Q z_rf MI ML 4 [(3, .int (iI y)), (2, .int (iI x)), (0, .ref (Q 0)), (1, .ref (Q w))] [] := by
  have u4 := hM.2.1
  intro n
  induction n with
  | zero => intro k y x hy hx hk hn; exact absurd hn (by omega)
  | succ n ih =>
    intro k y x hy hx hk hn
    refine v_iload_n K 0 dX8_sumOf_4 rfl rfl ?_
    refine v_aload_n K 2 dX8_sumOf_5 rfl rfl ?_
    refine v_geti K ff_X8_82 (by decide) rfl rfl dX8_sumOf_6 ?_
    refine v_icmp_ge K 24 ⟨by omega, by omega⟩ ⟨by omega, by omega⟩ dX8_sumOf_9 (by decide) (fun h9 => ?_) (fun h9 => ?_)
    · obtain rfl : k = (MI 0 8).toNat := by omega
      refine v_iload_n K 1 dX8_sumOf_24 rfl rfl ?_
      exact v_ri K E dX8_sumOf_25 ⟨rfl, rfl, hx⟩
    · refine v_iload_n K 1 dX8_sumOf_12 rfl rfl ?_
      refine v_aload_n K 3 dX8_sumOf_13 rfl rfl ?_
      refine v_iload_n K 0 dX8_sumOf_14 rfl rfl ?_
      refine v_iald K (k) hw.1 hw.2.1 (by omega) (by rw [hw.2.2]; omega) dX8_sumOf_15 ?_
      refine v_iadd K dX8_sumOf_16 ?_
      refine v_istore_n K (fun q9 => [(2, .int (iI q9)), (3, .int (iI y)), (0, .ref (Q 0)), (1, .ref (Q w))]) dX8_sumOf_17 rfl (by decide) (fun _ => rfl) (fun v hv => ?_)
      refine v_iinc K 1 (fun q9 => [(3, .int (iI q9)), (2, .int (iI v)), (0, .ref (Q 0)), (1, .ref (Q w))]) dX8_sumOf_18 rfl (by decide) (fun _ => rfl) (fun u hu => ?_)
      refine v_goto K 4 dX8_sumOf_21 (by decide) ?_
      exact ih (k + 1) u v (by omega) (by rw [hv, hx]; rfl) (by omega) (by omega)
set_option maxRecDepth 100000 in
set_option maxHeartbeats 4000000 in
theorem c_X8_sumOf {l : Launch} {D : va_G} {Z : ZC} {Q : Nat → Nat} {MI ML : ZM} (hM : cOk MI) (w : Nat) (hw : w < 110 ∧ z_kd w = 10 ∧ z_ln w = 5) : C_X8_sumOf l D Z Q [.ref (Q 0), .ref (Q w)] MI ML (zI fun r M L => M = MI ∧ L = ML ∧ r = sumK (MI w) (MI 0 8).toNat) := by
  refine CM.of (by decide +kernel) (Nat.le_of_ble_eq_true rfl) ?_
  intro X K E _ _ _ _
  show V X (0, 0) 110 Q z_rf MI ML 0 [(0, .ref (Q 0)), (1, .ref (Q w))] []
  refine v_iconst K dX8_sumOf_0 ?_
  refine v_istore_n K (fun q9 => [(2, .int (iI q9)), (0, .ref (Q 0)), (1, .ref (Q w))]) dX8_sumOf_1 rfl (by decide) (fun _ => rfl) (fun x hx => ?_)
  refine v_iconst K dX8_sumOf_2 ?_
  refine v_istore_n K (fun q9 => [(3, .int (iI q9)), (2, .int (iI x)), (0, .ref (Q 0)), (1, .ref (Q w))]) dX8_sumOf_3 rfl (by decide) (fun _ => rfl) (fun y hy => ?_)
  have u4 := hM.2.1
  exact l_X8_sumOf K hM w hw E 6 0 y x hy hx (by omega) (by omega)
theorem sumK_congr {f g : Nat → Int} : ∀ n, (∀ i, i < n → f i = g i) → sumK f n = sumK g n := by
  intro n
  induction n with
  | zero => intro _; rfl
  | succ n ih => intro h; simp only [sumK]; rw [ih (fun i hi => h i (by omega)), h n (by omega)]
abbrev lP (MI : ZM) (d : Nat) (q : Int) : Nat → List Nat := plL (MI 1 3).toNat (MI 3) (MI 4) (loN MI d q) (loC MI d q)
abbrev wTab (MI : ZM) (d : Nat) (q : Int) (b : Nat) : Int := if b = d then 0 else gRes (gGame (MI 2) (MI 4) (lP MI d q) (cP MI b) (MI 0 9)).2 - gRes (gGame (MI 2) (MI 4) (cP MI b) (lP MI d q) (MI 0 9)).2
theorem wTab_b (MI : ZM) (d : Nat) (q : Int) (b : Nat) : -2 ≤ wTab MI d q b ∧ wTab MI d q b ≤ 2 := by
  have h1 := gRes_b (gGame (MI 2) (MI 4) (lP MI d q) (cP MI b) (MI 0 9)).2
  have h2 := gRes_b (gGame (MI 2) (MI 4) (cP MI b) (lP MI d q) (MI 0 9)).2
  unfold wTab; split <;> omega
theorem lP_B {MI : ZM} (hM : cOk MI) (d : Nat) (q : Int) : plB MI (lP MI d q) := fun t => ⟨fun c hc => by have := selL_mem _ _ _ _ _ _ c hc; have := hM.1; omega, selL_len _ _ _ _ _ _⟩
set_option maxRecDepth 100000 in
set_option maxHeartbeats 4000000 in
theorem c_X8_standing {l : Launch} {D : va_G} {Z : ZC} {Q : Nat → Nat} {MI ML : ZM} (hM : cOk MI) (hF : cFix MI) (hK : kn MI) (d : Int) (hd : rg d) : C_X8_standing l D Z Q [.ref (Q 0), .int (iI d)] MI ML (zI fun r M L => L = ML ∧ qF MI M ∧ cFix M ∧ kn M ∧ ((¬ (0 ≤ d ∧ d < MI 0 8) ∧ r = -2147483648) ∨ ((0 ≤ d ∧ d < MI 0 8) ∧ r = sumK (fun b => cTab MI d.toNat b) (MI 0 8).toNat))) := by
  refine CM.of (by decide +kernel) (Nat.le_of_ble_eq_true rfl) ?_
  intro X K E _ _ _ _
  show V X (0, 0) 110 Q z_rf MI ML 0 [(0, .ref (Q 0)), (1, .int (iI d))] []
  have u4 := hM.2.1
  refine v_aload_n K 0 dX8_standing_0 rfl rfl ?_
  refine v_iload_n K 1 dX8_standing_1 rfl rfl ?_
  refine v_cVi K (c_X8_isNoDeck hM _ hd) rfl fc_X8_85 wm_X8_isNoDeck ws_X8_isNoDeck (by decide) 8 rfl (by decide) rfl rfl (by decide) (Nat.le_of_ble_eq_true rfl) dX8_standing_2 (fun r2 M2 L2 h2 => ?_)
  obtain ⟨hm2, hl2, hr2⟩ := h2
  subst M2 L2
  refine v_if_eq K 11 ⟨by omega, by omega⟩ dX8_standing_5 (by decide) (fun h5 => ?_) (fun h5 => ?_)
  · refine v_aload_n K 0 dX8_standing_11 rfl rfl ?_
    refine v_cVv K (c_X8_learnTables hM hF hK) rfl fc_X8_106 wm_X8_learnTables ws_X8_learnTables (by decide) 8 rfl (by decide) rfl rfl (by decide) (Nat.le_of_ble_eq_true rfl) dX8_standing_12 (fun M12 L12 h12 => ?_)
    obtain ⟨hl12, F1, F2, F3, F4⟩ := h12
    subst L12
    have co := F1.co
    have e8 : M12 0 8 = MI 0 8 := co 0 8 (by decide) (by decide)
    have hMM := co.ok hM
    refine v_aload_n K 0 dX8_standing_15 rfl rfl ?_
    refine v_aload_n K 0 dX8_standing_16 rfl rfl ?_
    refine v_getr K ff_X8_35 (by decide) rfl rfl rfl dX8_standing_17 ?_
    refine v_getr K ff_X8_136 (by decide) rfl rfl rfl dX8_standing_20 ?_
    refine v_iload_n K 1 dX8_standing_23 rfl rfl ?_
    refine v_aaldT K (d.toNat) (by decide) rfl (by omega) (by show _ < 5; omega) (zr_nt (by omega)) dX8_standing_24 ?_
    refine v_cVi K (c_X8_sumOf hMM (22 + d.toNat) ⟨by omega, (ct_r (Or.inl rfl) (i := d.toNat) (by omega)).2.1, (ct_r (Or.inl rfl) (i := d.toNat) (by omega)).2.2⟩) rfl fc_X8_166 wm_X8_sumOf ws_X8_sumOf (by decide) 8 rfl (by decide) rfl rfl (by decide) (Nat.le_of_ble_eq_true rfl) dX8_standing_25 (fun r25 M25 L25 h25 => ?_)
    obtain ⟨hm25, hl25, hr25⟩ := h25
    subst M25 L25
    rw [e8] at hr25
    exact v_ri K E dX8_standing_28 ⟨rfl, F1.q, F2, Or.inr ⟨F4, F3⟩, Or.inr ⟨by omega, by rw [hr25]; exact sumK_congr _ (fun b hb => (F3.2.1 d.toNat b (by rw [e8]; omega) (by rw [e8]; omega)).trans (co.tab (by omega) (by omega)))⟩⟩
  · refine v_ldc K (-2147483648) ck_X8_117 rfl dX8_standing_8 ?_
    exact v_ri K E dX8_standing_10 ⟨rfl, qF.rf _, hF, hK, Or.inl ⟨by omega, rfl⟩⟩
/-- within learnTablesWithout: the first k lessened tables are laid -/
def lwS (MI M : ZM) (d : Nat) (q : Int) (k : Nat) : Prop := (∀ a b, ¬ (a = 16 ∧ b = 2) → ¬ (17 ≤ a ∧ a ≤ 18) → ¬ (85 ≤ a ∧ a ≤ 89) → M a b = MI a b) ∧ plR M 85 (lP MI d q) ∧ ∀ b, b < k → M 89 b = wTab MI d q b
set_option maxRecDepth 100000 in
set_option maxHeartbeats 4000000 in
theorem l_X8_learnTablesWithout {X : VX} {Q : Nat → Nat} {MI ML : ZM} (K : VK X cX8_learnTablesWithout RX8 4 none 4 95 0 0) (hM : cOk MI) (hF : cFix MI) (hK : cKn MI) (d : Nat) (hd : (d : Int) < MI 0 8) (c : Int) (q : Int) (E : VE X 0 0 110 Q (zq Q (zV fun M L => L = ML ∧ lwS MI M d q (MI 0 8).toNat))) : ∀ (n k : Nat) (M : ZM) (y : Int), y = k → lwS MI M d q k → (k : Int) ≤ MI 0 8 → MI 0 8 < k + n → V X (0, 0) 110 Q z_rf M ML 29 [(3, .int (iI y)), (0, .ref (Q 0)), (1, .int (iI (d : Int))), (2, .int (iI c))] [] := by
  have u4 := hM.2.1
  intro n
  induction n with
  | zero => intro k M y hy S hk hn; exact absurd hn (by omega)
  | succ n ih =>
    intro k M y hy S hk hn
    refine v_iload_n K 0 dX8_learnTablesWithout_29 rfl rfl ?_
    refine v_aload_n K 1 dX8_learnTablesWithout_30 rfl rfl ?_
    refine v_geti K ff_X8_82 (by decide) rfl rfl dX8_learnTablesWithout_31 ?_
    refine v_eqi (MI 0 8) (S.1 0 8 (by omega) (by omega) (by omega)) ?_
    refine v_icmp_ge K 75 ⟨by omega, by omega⟩ ⟨by omega, by omega⟩ dX8_learnTablesWithout_34 (by decide) (fun h34 => ?_) (fun h34 => ?_)
    · obtain rfl : k = (MI 0 8).toNat := by omega
      exact v_rv K E dX8_learnTablesWithout_75 ⟨rfl, S⟩
    · have co : coC MI M := fun x y h1 h2 => S.1 x y (by omega) (by omega) (by omega)
      refine v_aload_n K 1 dX8_learnTablesWithout_37 rfl rfl ?_
      refine v_getr K ff_X8_56 (by decide) rfl rfl rfl dX8_learnTablesWithout_38 ?_
      refine v_iload_n K 0 dX8_learnTablesWithout_41 rfl rfl ?_
      refine v_iload_n K 0 dX8_learnTablesWithout_42 rfl rfl ?_
      refine v_iload_n K 2 dX8_learnTablesWithout_43 rfl rfl ?_
      refine v_icmp_ne K 51 ⟨by omega, by omega⟩ ⟨by omega, by omega⟩ dX8_learnTablesWithout_44 (by decide) (fun h44 => ?_) (fun h44 => ?_)
      · refine v_aload_n K 1 dX8_learnTablesWithout_51 rfl rfl ?_
        refine v_aload_n K 1 dX8_learnTablesWithout_52 rfl rfl ?_
        refine v_getr K ff_X8_52 (by decide) rfl rfl rfl dX8_learnTablesWithout_53 ?_
        refine v_aload_n K 1 dX8_learnTablesWithout_56 rfl rfl ?_
        refine v_getr K ff_X8_35 (by decide) rfl rfl rfl dX8_learnTablesWithout_57 ?_
        refine v_getr K ff_X8_109 (by decide) rfl rfl rfl dX8_learnTablesWithout_60 ?_
        refine v_iload_n K 0 dX8_learnTablesWithout_63 rfl rfl ?_
        refine v_aaldP K (k) (by decide) rfl (by omega) (by show _ < 5; omega) (zr_np (by omega)) dX8_learnTablesWithout_64 ?_
        refine v_cVi K (c_X8_tableOf (co.ok hM) 85 (31 + 4 * k) isPl_less (isPl_now (by omega)) (lP MI d q) (cP MI k) S.2.1 (plR_keep (hK.1 k (by omega)) (funext fun y => S.1 _ y (by omega) (by omega) (by omega)) (funext fun y => S.1 _ y (by omega) (by omega) (by omega))) (lP_B hM d q) (cP_B hM k)) rfl fc_X8_197 wm_X8_tableOf ws_X8_tableOf (by decide) 8 rfl (by decide) rfl rfl (by decide) (Nat.le_of_ble_eq_true rfl) dX8_learnTablesWithout_65 (fun r65 M65 L65 h65 => ?_)
        obtain ⟨hl65, F65, h65r⟩ := h65
        subst L65
        rw [co 0 9 (by decide) (by decide), show M 2 = MI 2 from funext fun x => co 2 x (by decide) (by omega), show M 4 = MI 4 from funext fun x => co 4 x (by decide) (by omega)] at h65r
        refine v_iast K (k) (by decide) rfl (by omega) (by show _ < 5; omega) dX8_learnTablesWithout_68 ?_
        refine v_iinc K 0 (fun q9 => [(3, .int (iI q9)), (0, .ref (Q 0)), (1, .int (iI (d : Int))), (2, .int (iI c))]) dX8_learnTablesWithout_69 rfl (by decide) (fun _ => rfl) (fun w hw => ?_)
        refine v_goto K 29 dX8_learnTablesWithout_72 (by decide) ?_
        refine ih (k + 1) _ w (by omega) ⟨fun a b q1 q2 q3 => ?_, ?_, fun b hb => ?_⟩ (by omega) (by omega)
        · rw [z_up_k (by omega), F65 a b (by omega)]; exact S.1 a b q1 q2 q3
        · exact plR_keep S.2.1 (funext fun y => (z_up_k (by decide)).trans (F65 _ y (by omega))) (funext fun y => (z_up_k (by decide)).trans (F65 _ y (by omega)))
        · by_cases e : b = k
          · subst e; rw [z_up_s, h65r]; unfold wTab; rw [if_neg (by omega)]
          · rw [z_up_j e, F65 _ _ (by omega)]; exact S.2.2 b (by omega)
      · refine v_iconst K dX8_learnTablesWithout_47 ?_
        refine v_goto K 68 dX8_learnTablesWithout_48 (by decide) ?_
        refine v_iast K (k) (by decide) rfl (by omega) (by show _ < 5; omega) dX8_learnTablesWithout_68 ?_
        refine v_iinc K 0 (fun q9 => [(3, .int (iI q9)), (0, .ref (Q 0)), (1, .int (iI (d : Int))), (2, .int (iI c))]) dX8_learnTablesWithout_69 rfl (by decide) (fun _ => rfl) (fun w hw => ?_)
        refine v_goto K 29 dX8_learnTablesWithout_72 (by decide) ?_
        refine ih (k + 1) _ w (by omega) ⟨fun a b q1 q2 q3 => ?_, ?_, fun b hb => ?_⟩ (by omega) (by omega)
        · rw [z_up_k (by omega)]; exact S.1 a b q1 q2 q3
        · exact plR_keep S.2.1 (funext fun y => z_up_k (by decide)) (funext fun y => z_up_k (by decide))
        · by_cases e : b = k
          · subst e; rw [z_up_s]; unfold wTab; rw [if_pos (by omega)]
          · rw [z_up_j e]; exact S.2.2 b (by omega)
set_option maxRecDepth 100000 in
set_option maxHeartbeats 4000000 in
theorem c_X8_learnTablesWithout {l : Launch} {D : va_G} {Z : ZC} {Q : Nat → Nat} {MI ML : ZM} (hM : cOk MI) (hF : cFix MI) (hK : cKn MI) (d : Nat) (hd : (d : Int) < MI 0 8) (c : Int) (q : Int) (hq : q = fpl (MI (7 + 2 * d)) c (MI (6 + 2 * d) 1).toNat) (hq2 : q ≠ -1) (hc : rg c) (d9 : Int) (hd9 : d9 = d) : C_X8_learnTablesWithout l D Z Q [.ref (Q 0), .int (iI d9), .int (iI c)] MI ML (zV fun M L => L = ML ∧ lwS MI M d q (MI 0 8).toNat) := by
  subst hd9
  refine CM.of (by decide +kernel) (Nat.le_of_ble_eq_true rfl) ?_
  intro X K E _ _ _ _
  show V X (0, 0) 110 Q z_rf MI ML 0 [(0, .ref (Q 0)), (1, .int (iI (d : Int))), (2, .int (iI c))] []
  have u4 := hM.2.1
  have u0 := hM.1
  have us := hM.2.2.2.2.1 d (by omega)
  have uk := hM.2.2.2.2.2
  have b0 := fpl_b (MI (7 + 2 * d)) c (MI (6 + 2 * d) 1).toNat
  rw [← hq] at b0
  refine v_aload_n K 0 dX8_learnTablesWithout_0 rfl rfl ?_
  refine v_getr K ff_X8_52 (by decide) rfl rfl rfl dX8_learnTablesWithout_1 ?_
  refine v_aload_n K 0 dX8_learnTablesWithout_4 rfl rfl ?_
  refine v_getr K ff_X8_10 (by decide) rfl rfl rfl dX8_learnTablesWithout_5 ?_
  refine v_aload_n K 0 dX8_learnTablesWithout_8 rfl rfl ?_
  refine v_getr K ff_X8_18 (by decide) rfl rfl rfl dX8_learnTablesWithout_9 ?_
  refine v_iload_n K 1 dX8_learnTablesWithout_12 rfl rfl ?_
  refine v_aaldD K (d) (by decide) rfl rfl (by show _ < 5; omega) (zr_decks (by omega)) dX8_learnTablesWithout_13 ?_
  refine v_aload_n K 0 dX8_learnTablesWithout_14 rfl rfl ?_
  refine v_getr K ff_X8_18 (by decide) rfl rfl rfl dX8_learnTablesWithout_15 ?_
  refine v_iload_n K 1 dX8_learnTablesWithout_18 rfl rfl ?_
  refine v_aaldD K (d) (by decide) rfl rfl (by show _ < 5; omega) (zr_decks (by omega)) dX8_learnTablesWithout_19 ?_
  refine v_iload_n K 2 dX8_learnTablesWithout_20 rfl rfl ?_
  refine v_cVi K (c_X2_firstPlaceOf d (by omega) (fun k hk => by have := uk d k (by omega) hk; exact ⟨by omega, by omega⟩) us.1 us.2 c hc) rfl fc_X8_170 wm_X2_firstPlaceOf ws_X2_firstPlaceOf (by omega) 2 (zk_dk (by omega)) (by decide) rfl rfl (by decide) (Nat.le_of_ble_eq_true rfl) dX8_learnTablesWithout_21 (fun r21 M21 L21 h21 => ?_)
  obtain ⟨hm21, hl21, hr21⟩ := h21
  subst M21 L21
  rw [← hq] at hr21
  refine v_cVv K (c_X5_lay hM 85 isPl_less d (by omega) q (Or.inr (by omega)) (hF.1 85 isPl_less) _ hr21) rfl fc_X8_193 wm_X5_lay ws_X5_lay (by decide) 5 rfl (by decide) rfl rfl (by decide) (Nat.le_of_ble_eq_true rfl) dX8_learnTablesWithout_24 (fun M24 L24 h24 => ?_)
  obtain ⟨hl24, F24, R24⟩ := h24
  subst L24
  refine v_iconst K dX8_learnTablesWithout_27 ?_
  refine v_istore_n K (fun q9 => [(3, .int (iI q9)), (0, .ref (Q 0)), (1, .int (iI (d : Int))), (2, .int (iI c))]) dX8_learnTablesWithout_28 rfl (by decide) (fun _ => rfl) (fun y hy => ?_)
  exact l_X8_learnTablesWithout K hM hF hK d hd c q E 6 0 M24 y hy ⟨fun a b q1 q2 q3 => F24 a b (by omega), R24, fun b hb => absurd hb (by omega)⟩ (by omega) (by omega)
set_option maxRecDepth 100000 in
set_option maxHeartbeats 4000000 in
theorem c_X8_worth {l : Launch} {D : va_G} {Z : ZC} {Q : Nat → Nat} {MI ML : ZM} (hM : cOk MI) (hF : cFix MI) (hK : kn MI) (d c : Int) (hd : rg d) (hc : rg c) : C_X8_worth l D Z Q [.ref (Q 0), .int (iI d), .int (iI c)] MI ML (zI fun r M L => L = ML ∧ qF MI M ∧ cFix M ∧ kn M ∧ ((¬ ((0 ≤ d ∧ d < MI 0 8 ∧ 0 ≤ c ∧ c < MI 1 3) ∧ fpl (MI (7 + 2 * d.toNat)) c (MI (6 + 2 * d.toNat) 1).toNat ≠ -1) ∧ r = -2147483648) ∨ (((0 ≤ d ∧ d < MI 0 8 ∧ 0 ≤ c ∧ c < MI 1 3) ∧ fpl (MI (7 + 2 * d.toNat)) c (MI (6 + 2 * d.toNat) 1).toNat ≠ -1) ∧ r = sumK (fun b => cTab MI d.toNat b) (MI 0 8).toNat - sumK (wTab MI d.toNat (fpl (MI (7 + 2 * d.toNat)) c (MI (6 + 2 * d.toNat) 1).toNat)) (MI 0 8).toNat))) := by
  refine CM.of (by decide +kernel) (Nat.le_of_ble_eq_true rfl) ?_
  intro X K E _ _ _ _
  show V X (0, 0) 110 Q z_rf MI ML 0 [(0, .ref (Q 0)), (1, .int (iI d)), (2, .int (iI c))] []
  have u4 := hM.2.1
  have u0 := hM.1
  have uk := hM.2.2.2.2.2
  have b0 := fpl_b (MI (7 + 2 * d.toNat)) c (MI (6 + 2 * d.toNat) 1).toNat
  refine v_aload_n K 0 dX8_worth_0 rfl rfl ?_
  refine v_iload_n K 1 dX8_worth_1 rfl rfl ?_
  refine v_cVi K (c_X8_isNoDeck hM _ hd) rfl fc_X8_85 wm_X8_isNoDeck ws_X8_isNoDeck (by decide) 8 rfl (by decide) rfl rfl (by decide) (Nat.le_of_ble_eq_true rfl) dX8_worth_2 (fun r2 M2 L2 h2 => ?_)
  obtain ⟨hm2, hl2, hr2⟩ := h2
  subst M2 L2
  refine v_if_ne K 30 ⟨by omega, by omega⟩ dX8_worth_5 (by decide) (fun h5 => ?_) (fun h5 => ?_)
  · refine v_ldc K (-2147483648) ck_X8_117 rfl dX8_worth_30 ?_
    exact v_ri K E dX8_worth_32 (by first | exact ⟨rfl, qF.rf _, hF, hK, Or.inl ⟨by omega, rfl⟩⟩ | exact ⟨rfl, qF.rf _, hF, hK, Or.inl ⟨fun q => q.2 (by omega), rfl⟩⟩)
  · refine v_aload_n K 0 dX8_worth_8 rfl rfl ?_
    refine v_iload_n K 2 dX8_worth_9 rfl rfl ?_
    refine v_cVi K (c_X8_isNoCard hM _ hc) rfl fc_X8_72 wm_X8_isNoCard ws_X8_isNoCard (by decide) 8 rfl (by decide) rfl rfl (by decide) (Nat.le_of_ble_eq_true rfl) dX8_worth_10 (fun r10 M10 L10 h10 => ?_)
    obtain ⟨hm10, hl10, hr10⟩ := h10
    subst M10 L10
    refine v_if_ne K 30 ⟨by omega, by omega⟩ dX8_worth_13 (by decide) (fun h13 => ?_) (fun h13 => ?_)
    · refine v_ldc K (-2147483648) ck_X8_117 rfl dX8_worth_30 ?_
      exact v_ri K E dX8_worth_32 (by first | exact ⟨rfl, qF.rf _, hF, hK, Or.inl ⟨by omega, rfl⟩⟩ | exact ⟨rfl, qF.rf _, hF, hK, Or.inl ⟨fun q => q.2 (by omega), rfl⟩⟩)
    · refine v_aload_n K 0 dX8_worth_16 rfl rfl ?_
      refine v_getr K ff_X8_18 (by decide) rfl rfl rfl dX8_worth_17 ?_
      refine v_iload_n K 1 dX8_worth_20 rfl rfl ?_
      refine v_aaldD K (d.toNat) (by decide) rfl (by omega) (by show _ < 5; omega) (zr_decks (by omega)) dX8_worth_21 ?_
      refine v_iload_n K 2 dX8_worth_22 rfl rfl ?_
      refine v_cVi K (c_X2_firstPlaceOf d.toNat (by omega) (fun k hk => by have := uk d.toNat k (by omega) hk; exact ⟨by omega, by omega⟩) (hM.2.2.2.2.1 d.toNat (by omega)).1 (hM.2.2.2.2.1 d.toNat (by omega)).2 c hc) rfl fc_X8_170 wm_X2_firstPlaceOf ws_X2_firstPlaceOf (by omega) 2 (zk_dk (by omega)) (by decide) rfl rfl (by decide) (Nat.le_of_ble_eq_true rfl) dX8_worth_23 (fun r23 M23 L23 h23 => ?_)
      obtain ⟨hm23, hl23, hr23⟩ := h23
      subst M23 L23
      have us := hM.2.2.2.2.1 d.toNat (by omega)
      refine v_iconst K dX8_worth_26 ?_
      refine v_icmp_ne K 33 ⟨by omega, by omega⟩ ⟨by omega, by omega⟩ dX8_worth_27 (by decide) (fun h27 => ?_) (fun h27 => ?_)
      · refine v_aload_n K 0 dX8_worth_33 rfl rfl ?_
        refine v_cVv K (c_X8_learnTables hM hF hK) rfl fc_X8_106 wm_X8_learnTables ws_X8_learnTables (by decide) 8 rfl (by decide) rfl rfl (by decide) (Nat.le_of_ble_eq_true rfl) dX8_worth_34 (fun M34 L34 h34 => ?_)
        obtain ⟨hl34, F1, F2, F3, F4⟩ := h34
        subst L34
        have co := F1.co
        have e8 : M34 0 8 = MI 0 8 := co 0 8 (by decide) (by decide)
        have hMM := co.ok hM
        refine v_aload_n K 0 dX8_worth_37 rfl rfl ?_
        refine v_iload_n K 1 dX8_worth_38 rfl rfl ?_
        refine v_iload_n K 2 dX8_worth_39 rfl rfl ?_
        have eq : fpl (MI (7 + 2 * d.toNat)) c (MI (6 + 2 * d.toNat) 1).toNat = fpl (M34 (7 + 2 * d.toNat)) c (M34 (6 + 2 * d.toNat) 1).toNat := by rw [co (6 + 2 * d.toNat) 1 (by omega) (by omega), show M34 (7 + 2 * d.toNat) = MI (7 + 2 * d.toNat) from funext fun x => co _ x (by omega) (by omega)]
        refine v_cVv K (c_X8_learnTablesWithout hMM F2 F3 d.toNat (by rw [e8]; omega) c (fpl (MI (7 + 2 * d.toNat)) c (MI (6 + 2 * d.toNat) 1).toNat) eq (by omega) hc _ (by omega)) rfl fc_X8_173 wm_X8_learnTablesWithout ws_X8_learnTablesWithout (by decide) 8 rfl (by decide) rfl rfl (by decide) (Nat.le_of_ble_eq_true rfl) dX8_worth_40 (fun M40 L40 h40 => ?_)
        obtain ⟨hl40, S⟩ := h40
        subst L40
        rw [e8] at S
        have k9 := kn_keep hMM S.1 F2 F3 (by have := S.2.1.1 0 (by omega); rw [this]; rfl)
        have F9 : qF MI M40 := fun a b q1 q2 q3 q4 q5 q6 => (S.1 a b q2 q3 (by omega)).trans (F1.q a b q1 q2 q3 q4 q5 q6)
        have k10 : M40 0 10 = 1 := (S.1 0 10 (by omega) (by omega) (by omega)).trans F4
        have co9 := F9.co
        have e89 : M40 0 8 = MI 0 8 := co9 0 8 (by decide) (by decide)
        have eW : ∀ b, b < (MI 0 8).toNat → M40 89 b = wTab MI d.toNat (fpl (MI (7 + 2 * d.toNat)) c (MI (6 + 2 * d.toNat) 1).toNat) b := by
          intro b hb
          rw [S.2.2 b hb]
          have lo := lo_eq (q := fpl (MI (7 + 2 * d.toNat)) c (MI (6 + 2 * d.toNat) 1).toNat) (co (6 + 2 * d.toNat) 1 (by omega) (by omega)) (funext fun x => co (7 + 2 * d.toNat) x (by omega) (by omega))
          unfold wTab lP
          rw [co.pl (by omega), lo.1, lo.2, co 1 3 (by decide) (by decide), co 0 9 (by decide) (by decide), show M34 2 = MI 2 from funext fun x => co 2 x (by decide) (by omega), show M34 3 = MI 3 from funext fun x => co 3 x (by decide) (by omega), show M34 4 = MI 4 from funext fun x => co 4 x (by decide) (by omega)]
        refine v_aload_n K 0 dX8_worth_43 rfl rfl ?_
        refine v_aload_n K 0 dX8_worth_44 rfl rfl ?_
        refine v_getr K ff_X8_35 (by decide) rfl rfl rfl dX8_worth_45 ?_
        refine v_getr K ff_X8_136 (by decide) rfl rfl rfl dX8_worth_48 ?_
        refine v_iload_n K 1 dX8_worth_51 rfl rfl ?_
        refine v_aaldT K (d.toNat) (by decide) rfl (by omega) (by show _ < 5; omega) (zr_nt (by omega)) dX8_worth_52 ?_
        refine v_cVi K (c_X8_sumOf (co9.ok hM) (22 + d.toNat) ⟨by omega, (ct_r (Or.inl rfl) (i := d.toNat) (by omega)).2.1, (ct_r (Or.inl rfl) (i := d.toNat) (by omega)).2.2⟩) rfl fc_X8_166 wm_X8_sumOf ws_X8_sumOf (by decide) 8 rfl (by decide) rfl rfl (by decide) (Nat.le_of_ble_eq_true rfl) dX8_worth_53 (fun r53 M53 L53 h53 => ?_)
        obtain ⟨hm53, hl53, hr53⟩ := h53
        subst M53 L53
        rw [e89] at hr53
        refine v_aload_n K 0 dX8_worth_56 rfl rfl ?_
        refine v_aload_n K 0 dX8_worth_57 rfl rfl ?_
        refine v_getr K ff_X8_56 (by decide) rfl rfl rfl dX8_worth_58 ?_
        refine v_cVi K (c_X8_sumOf (co9.ok hM) 89 ⟨by decide, rfl, rfl⟩) rfl fc_X8_166 wm_X8_sumOf ws_X8_sumOf (by decide) 8 rfl (by decide) rfl rfl (by decide) (Nat.le_of_ble_eq_true rfl) dX8_worth_61 (fun r61 M61 L61 h61 => ?_)
        obtain ⟨hm61, hl61, hr61⟩ := h61
        subst M61 L61
        rw [e89] at hr61
        refine v_isub K dX8_worth_64 ?_
        exact v_ri K E dX8_worth_65 ⟨rfl, F9, k9.1, Or.inr ⟨k10, k9.2⟩, Or.inr ⟨⟨by omega, by omega⟩, by rw [hr53, hr61, sumK_congr _ eW]; congr 1; exact sumK_congr _ (fun b hb => (k9.2.2.1 d.toNat b (by rw [e89]; omega) (by rw [e89]; omega)).trans (co9.tab (by omega) (by omega)))⟩⟩
      · refine v_ldc K (-2147483648) ck_X8_117 rfl dX8_worth_30 ?_
        exact v_ri K E dX8_worth_32 (by first | exact ⟨rfl, qF.rf _, hF, hK, Or.inl ⟨by omega, rfl⟩⟩ | exact ⟨rfl, qF.rf _, hF, hK, Or.inl ⟨fun q => q.2 (by omega), rfl⟩⟩)
set_option maxRecDepth 100000 in
set_option maxHeartbeats 4000000 in
theorem l_X8_idle {X : VX} {Q : Nat → Nat} {MI ML : ZM} (K : VK X cX8_idle RX8 4 (some .int) 5 118 0 0) (hM : cOk MI) (d c : Int) (hok : (0 ≤ d ∧ d < MI 0 8 ∧ 0 ≤ c ∧ c < MI 1 3)) (hfp : fpl (MI (7 + 2 * d.toNat)) c (MI (6 + 2 * d.toNat) 1).toNat ≠ -1) (M : ZM) (F9 : qF MI M) (k9 : cFix M ∧ cKn M) (k10 : M 0 10 = 1) (eW : ∀ b, b < (MI 0 8).toNat → M 89 b = (wTab MI d.toNat (fpl (MI (7 + 2 * d.toNat)) c (MI (6 + 2 * d.toNat) 1).toNat)) b) (E : VE X 0 0 110 Q (zq Q (zI fun r M L => L = ML ∧ qF MI M ∧ cFix M ∧ kn M ∧ ((¬ (0 ≤ d ∧ d < MI 0 8 ∧ 0 ≤ c ∧ c < MI 1 3) ∧ r = -2) ∨ ((0 ≤ d ∧ d < MI 0 8 ∧ 0 ≤ c ∧ c < MI 1 3) ∧ fpl (MI (7 + 2 * d.toNat)) c (MI (6 + 2 * d.toNat) 1).toNat = -1 ∧ r = -3) ∨ ((0 ≤ d ∧ d < MI 0 8 ∧ 0 ≤ c ∧ c < MI 1 3) ∧ fpl (MI (7 + 2 * d.toNat)) c (MI (6 + 2 * d.toNat) 1).toNat ≠ -1 ∧ ((r = 1 ∧ ∀ b, b < (MI 0 8).toNat → wTab MI d.toNat (fpl (MI (7 + 2 * d.toNat)) c (MI (6 + 2 * d.toNat) 1).toNat) b = cTab MI d.toNat b) ∨ (r = 0 ∧ ∃ b, b < (MI 0 8).toNat ∧ wTab MI d.toNat (fpl (MI (7 + 2 * d.toNat)) c (MI (6 + 2 * d.toNat) 1).toNat) b ≠ cTab MI d.toNat b))))))) : ∀ (n k : Nat) (y : Int), y = k → (∀ b, b < k → (wTab MI d.toNat (fpl (MI (7 + 2 * d.toNat)) c (MI (6 + 2 * d.toNat) 1).toNat)) b = cTab MI d.toNat b) → (k : Int) ≤ MI 0 8 → MI 0 8 < k + n → V X (0, 0) 110 Q z_rf M ML 48 [(3, .int (iI y)), (0, .ref (Q 0)), (1, .int (iI d)), (2, .int (iI c))] [] := by
  have u4 := hM.2.1
  have co9 := F9.co
  have e89 : M 0 8 = MI 0 8 := co9 0 8 (by decide) (by decide)
  intro n
  induction n with
  | zero => intro k y hy hall hk hn; exact absurd hn (by omega)
  | succ n ih =>
    intro k y hy hall hk hn
    refine v_iload_n K 0 dX8_idle_48 rfl rfl ?_
    refine v_aload_n K 1 dX8_idle_49 rfl rfl ?_
    refine v_geti K ff_X8_82 (by decide) rfl rfl dX8_idle_50 ?_
    refine v_eqi (MI 0 8) (e89) ?_
    refine v_icmp_ge K 84 ⟨by omega, by omega⟩ ⟨by omega, by omega⟩ dX8_idle_53 (by decide) (fun h53 => ?_) (fun h53 => ?_)
    · obtain rfl : k = (MI 0 8).toNat := by omega
      refine v_iconst K dX8_idle_84 ?_
      exact v_ri K E dX8_idle_85 ⟨rfl, F9, k9.1, Or.inr ⟨k10, k9.2⟩, Or.inr (Or.inr ⟨hok, hfp, Or.inl ⟨rfl, hall⟩⟩)⟩
    · have b1 := wTab_b MI d.toNat (fpl (MI (7 + 2 * d.toNat)) c (MI (6 + 2 * d.toNat) 1).toNat) k
      have b2 := cTab_b MI d.toNat k
      refine v_aload_n K 1 dX8_idle_56 rfl rfl ?_
      refine v_getr K ff_X8_56 (by decide) rfl rfl rfl dX8_idle_57 ?_
      refine v_iload_n K 0 dX8_idle_60 rfl rfl ?_
      refine v_iald K (k) (by decide) rfl (by omega) (by show _ < 5; omega) dX8_idle_61 ?_
      refine v_eqi ((wTab MI d.toNat (fpl (MI (7 + 2 * d.toNat)) c (MI (6 + 2 * d.toNat) 1).toNat)) k) (eW k (by omega)) ?_
      refine v_aload_n K 1 dX8_idle_62 rfl rfl ?_
      refine v_getr K ff_X8_35 (by decide) rfl rfl rfl dX8_idle_63 ?_
      refine v_getr K ff_X8_136 (by decide) rfl rfl rfl dX8_idle_66 ?_
      refine v_iload_n K 2 dX8_idle_69 rfl rfl ?_
      refine v_aaldT K (d.toNat) (by decide) rfl (by omega) (by show _ < 5; omega) (zr_nt (by omega)) dX8_idle_70 ?_
      refine v_iload_n K 0 dX8_idle_71 rfl rfl ?_
      refine v_iald K (k) (by omega) (ct_r (Or.inl rfl) (i := d.toNat) (by omega)).2.1 (by omega) (by rw [show z_ln (22 + d.toNat) = 5 from (ct_r (Or.inl rfl) (i := d.toNat) (by omega)).2.2]; omega) dX8_idle_72 ?_
      refine v_eqi (cTab MI d.toNat k) ((k9.2.2.1 d.toNat k (by rw [e89]; omega) (by rw [e89]; omega)).trans (co9.tab (by omega) (by omega))) ?_
      refine v_icmp_eq K 78 ⟨by omega, by omega⟩ ⟨by omega, by omega⟩ dX8_idle_73 (by decide) (fun h73 => ?_) (fun h73 => ?_)
      · refine v_iinc K 0 (fun q9 => [(3, .int (iI q9)), (0, .ref (Q 0)), (1, .int (iI d)), (2, .int (iI c))]) dX8_idle_78 rfl (by decide) (fun _ => rfl) (fun w hw => ?_)
        refine v_goto K 48 dX8_idle_81 (by decide) ?_
        exact ih (k + 1) w (by omega) (fun b hb => by by_cases e : b = k; (subst e; exact h73); exact hall b (by omega)) (by omega) (by omega)
      · refine v_iconst K dX8_idle_76 ?_
        exact v_ri K E dX8_idle_77 ⟨rfl, F9, k9.1, Or.inr ⟨k10, k9.2⟩, Or.inr (Or.inr ⟨hok, hfp, Or.inr ⟨rfl, k, by omega, h73⟩⟩)⟩
set_option maxRecDepth 100000 in
set_option maxHeartbeats 4000000 in
theorem c_X8_idle {l : Launch} {D : va_G} {Z : ZC} {Q : Nat → Nat} {MI ML : ZM} (hM : cOk MI) (hF : cFix MI) (hK : kn MI) (d c : Int) (hd : rg d) (hc : rg c) : C_X8_idle l D Z Q [.ref (Q 0), .int (iI d), .int (iI c)] MI ML (zI fun r M L => L = ML ∧ qF MI M ∧ cFix M ∧ kn M ∧ ((¬ (0 ≤ d ∧ d < MI 0 8 ∧ 0 ≤ c ∧ c < MI 1 3) ∧ r = -2) ∨ ((0 ≤ d ∧ d < MI 0 8 ∧ 0 ≤ c ∧ c < MI 1 3) ∧ fpl (MI (7 + 2 * d.toNat)) c (MI (6 + 2 * d.toNat) 1).toNat = -1 ∧ r = -3) ∨ ((0 ≤ d ∧ d < MI 0 8 ∧ 0 ≤ c ∧ c < MI 1 3) ∧ fpl (MI (7 + 2 * d.toNat)) c (MI (6 + 2 * d.toNat) 1).toNat ≠ -1 ∧ ((r = 1 ∧ ∀ b, b < (MI 0 8).toNat → wTab MI d.toNat (fpl (MI (7 + 2 * d.toNat)) c (MI (6 + 2 * d.toNat) 1).toNat) b = cTab MI d.toNat b) ∨ (r = 0 ∧ ∃ b, b < (MI 0 8).toNat ∧ wTab MI d.toNat (fpl (MI (7 + 2 * d.toNat)) c (MI (6 + 2 * d.toNat) 1).toNat) b ≠ cTab MI d.toNat b))))) := by
  refine CM.of (by decide +kernel) (Nat.le_of_ble_eq_true rfl) ?_
  intro X K E _ _ _ _
  show V X (0, 0) 110 Q z_rf MI ML 0 [(0, .ref (Q 0)), (1, .int (iI d)), (2, .int (iI c))] []
  have u4 := hM.2.1
  have u0 := hM.1
  have uk := hM.2.2.2.2.2
  have b0 := fpl_b (MI (7 + 2 * d.toNat)) c (MI (6 + 2 * d.toNat) 1).toNat
  refine v_aload_n K 0 dX8_idle_0 rfl rfl ?_
  refine v_iload_n K 1 dX8_idle_1 rfl rfl ?_
  refine v_cVi K (c_X8_isNoDeck hM _ hd) rfl fc_X8_85 wm_X8_isNoDeck ws_X8_isNoDeck (by decide) 8 rfl (by decide) rfl rfl (by decide) (Nat.le_of_ble_eq_true rfl) dX8_idle_2 (fun r2 M2 L2 h2 => ?_)
  obtain ⟨hm2, hl2, hr2⟩ := h2
  subst M2 L2
  refine v_if_ne K 16 ⟨by omega, by omega⟩ dX8_idle_5 (by decide) (fun h5 => ?_) (fun h5 => ?_)
  · refine v_bipush K dX8_idle_16 (by decide) ?_
    exact v_ri K E dX8_idle_18 ⟨rfl, qF.rf _, hF, hK, Or.inl ⟨by omega, rfl⟩⟩
  · refine v_aload_n K 0 dX8_idle_8 rfl rfl ?_
    refine v_iload_n K 2 dX8_idle_9 rfl rfl ?_
    refine v_cVi K (c_X8_isNoCard hM _ hc) rfl fc_X8_72 wm_X8_isNoCard ws_X8_isNoCard (by decide) 8 rfl (by decide) rfl rfl (by decide) (Nat.le_of_ble_eq_true rfl) dX8_idle_10 (fun r10 M10 L10 h10 => ?_)
    obtain ⟨hm10, hl10, hr10⟩ := h10
    subst M10 L10
    refine v_if_eq K 19 ⟨by omega, by omega⟩ dX8_idle_13 (by decide) (fun h13 => ?_) (fun h13 => ?_)
    · refine v_aload_n K 0 dX8_idle_19 rfl rfl ?_
      refine v_getr K ff_X8_18 (by decide) rfl rfl rfl dX8_idle_20 ?_
      refine v_iload_n K 1 dX8_idle_23 rfl rfl ?_
      refine v_aaldD K (d.toNat) (by decide) rfl (by omega) (by show _ < 5; omega) (zr_decks (by omega)) dX8_idle_24 ?_
      refine v_iload_n K 2 dX8_idle_25 rfl rfl ?_
      refine v_cVi K (c_X2_firstPlaceOf d.toNat (by omega) (fun k hk => by have := uk d.toNat k (by omega) hk; exact ⟨by omega, by omega⟩) (hM.2.2.2.2.1 d.toNat (by omega)).1 (hM.2.2.2.2.1 d.toNat (by omega)).2 c hc) rfl fc_X8_170 wm_X2_firstPlaceOf ws_X2_firstPlaceOf (by omega) 2 (zk_dk (by omega)) (by decide) rfl rfl (by decide) (Nat.le_of_ble_eq_true rfl) dX8_idle_26 (fun r26 M26 L26 h26 => ?_)
      obtain ⟨hm26, hl26, hr26⟩ := h26
      subst M26 L26
      have us := hM.2.2.2.2.1 d.toNat (by omega)
      refine v_iconst K dX8_idle_29 ?_
      refine v_icmp_ne K 36 ⟨by omega, by omega⟩ ⟨by omega, by omega⟩ dX8_idle_30 (by decide) (fun h30 => ?_) (fun h30 => ?_)
      · refine v_aload_n K 0 dX8_idle_36 rfl rfl ?_
        refine v_cVv K (c_X8_learnTables hM hF hK) rfl fc_X8_106 wm_X8_learnTables ws_X8_learnTables (by decide) 8 rfl (by decide) rfl rfl (by decide) (Nat.le_of_ble_eq_true rfl) dX8_idle_37 (fun M37 L37 h37 => ?_)
        obtain ⟨hl37, F1, F2, F3, F4⟩ := h37
        subst L37
        have co := F1.co
        have e8 : M37 0 8 = MI 0 8 := co 0 8 (by decide) (by decide)
        have hMM := co.ok hM
        refine v_aload_n K 0 dX8_idle_40 rfl rfl ?_
        refine v_iload_n K 1 dX8_idle_41 rfl rfl ?_
        refine v_iload_n K 2 dX8_idle_42 rfl rfl ?_
        have eq : fpl (MI (7 + 2 * d.toNat)) c (MI (6 + 2 * d.toNat) 1).toNat = fpl (M37 (7 + 2 * d.toNat)) c (M37 (6 + 2 * d.toNat) 1).toNat := by rw [co (6 + 2 * d.toNat) 1 (by omega) (by omega), show M37 (7 + 2 * d.toNat) = MI (7 + 2 * d.toNat) from funext fun x => co _ x (by omega) (by omega)]
        refine v_cVv K (c_X8_learnTablesWithout hMM F2 F3 d.toNat (by rw [e8]; omega) c (fpl (MI (7 + 2 * d.toNat)) c (MI (6 + 2 * d.toNat) 1).toNat) eq (by omega) hc _ (by omega)) rfl fc_X8_173 wm_X8_learnTablesWithout ws_X8_learnTablesWithout (by decide) 8 rfl (by decide) rfl rfl (by decide) (Nat.le_of_ble_eq_true rfl) dX8_idle_43 (fun M43 L43 h43 => ?_)
        obtain ⟨hl43, S⟩ := h43
        subst L43
        rw [e8] at S
        have k9 := kn_keep hMM S.1 F2 F3 (by have := S.2.1.1 0 (by omega); rw [this]; rfl)
        have F9 : qF MI M43 := fun a b q1 q2 q3 q4 q5 q6 => (S.1 a b q2 q3 (by omega)).trans (F1.q a b q1 q2 q3 q4 q5 q6)
        have k10 : M43 0 10 = 1 := (S.1 0 10 (by omega) (by omega) (by omega)).trans F4
        have co9 := F9.co
        have e89 : M43 0 8 = MI 0 8 := co9 0 8 (by decide) (by decide)
        have eW : ∀ b, b < (MI 0 8).toNat → M43 89 b = wTab MI d.toNat (fpl (MI (7 + 2 * d.toNat)) c (MI (6 + 2 * d.toNat) 1).toNat) b := by
          intro b hb
          rw [S.2.2 b hb]
          have lo := lo_eq (q := fpl (MI (7 + 2 * d.toNat)) c (MI (6 + 2 * d.toNat) 1).toNat) (co (6 + 2 * d.toNat) 1 (by omega) (by omega)) (funext fun x => co (7 + 2 * d.toNat) x (by omega) (by omega))
          unfold wTab lP
          rw [co.pl (by omega), lo.1, lo.2, co 1 3 (by decide) (by decide), co 0 9 (by decide) (by decide), show M37 2 = MI 2 from funext fun x => co 2 x (by decide) (by omega), show M37 3 = MI 3 from funext fun x => co 3 x (by decide) (by omega), show M37 4 = MI 4 from funext fun x => co 4 x (by decide) (by omega)]
        refine v_iconst K dX8_idle_46 ?_
        refine v_istore_n K (fun q9 => [(3, .int (iI q9)), (0, .ref (Q 0)), (1, .int (iI d)), (2, .int (iI c))]) dX8_idle_47 rfl (by decide) (fun _ => rfl) (fun y hy => ?_)
        exact l_X8_idle K hM d c (by omega) (by omega) M43 F9 k9 k10 eW E 6 0 y hy (fun b hb => absurd hb (by omega)) (by omega) (by omega)
      · refine v_bipush K dX8_idle_33 (by decide) ?_
        exact v_ri K E dX8_idle_35 ⟨rfl, qF.rf _, hF, hK, Or.inr (Or.inl ⟨by omega, by omega, rfl⟩)⟩
    · refine v_bipush K dX8_idle_16 (by decide) ?_
      exact v_ri K E dX8_idle_18 ⟨rfl, qF.rf _, hF, hK, Or.inl ⟨by omega, rfl⟩⟩
