/-- what a GAME of the class may change -/
def gcF (MI M : ZM) : Prop := ∀ a b, ¬ ((a = 16 ∧ b = 2) ∨ ((a = 17 ∨ a = 18) ∧ b < 4)) → M a b = MI a b
def gcS (M : ZM) (g : GS) : Prop := M 17 0 = g.1 ∧ M 18 0 = g.2.1 ∧ M 17 2 = g.2.2.1.1 ∧ M 17 3 = g.2.2.1.2.1 ∧ M 17 1 = g.2.2.1.2.2 ∧ M 18 2 = g.2.2.2.1 ∧ M 18 3 = g.2.2.2.2.1 ∧ M 18 1 = g.2.2.2.2.2
theorem gcF.ok {MI M : ZM} (h : gcF MI M) (hM : cOk MI) : cOk M := cOk_of (fun a b q => h a b (by omega)) hM
theorem gcF.trans {A B C : ZM} (h : gcF A B) (h2 : gcF B C) : gcF A C := fun a b q => (h2 a b q).trans (h a b q)
theorem gcF.pl {MI M : ZM} (h : gcF MI M) {p : Nat} (hp : isPl p) {pl : Nat → List Nat} (hR : plR MI p pl) : plR M p pl := by
  have p31 := hp.1
  exact ⟨fun t ht => by rw [h _ _ (by omega)]; exact hR.1 t ht, fun i hi => by rw [h _ _ (by omega)]; exact hR.2.1 i hi, hR.2.2⟩
theorem gRun_over {so po : Nat → Int} {pa pb : Nat → List Nat} {n t : Nat} {g : GS} (h : g.1 ≤ 0 ∨ g.2.1 ≤ 0) : gRun so po pa pb n t g = (t, g) := by
  cases n with
  | zero => rfl
  | succ n => simp only [gRun]; rw [if_pos h]
theorem gc_A {MI M : ZM} {g : GS} {l : List Nat} (G : gcS MI g) (S : sdS MI M 17 18 (mv (MI 2) (MI 4) l (MI 18 0) (MI 17 2) (MI 17 3) (MI 17 1) (MI 18 3)).1 (mv (MI 2) (MI 4) l (MI 18 0) (MI 17 2) (MI 17 3) (MI 17 1) (MI 18 3)).2.1 (mv (MI 2) (MI 4) l (MI 18 0) (MI 17 2) (MI 17 3) (MI 17 1) (MI 18 3)).2.2.1 (mv (MI 2) (MI 4) l (MI 18 0) (MI 17 2) (MI 17 3) (MI 17 1) (MI 18 3)).2.2.2) : gcS M (gA (MI 2) (MI 4) l g) ∧ gcF MI M := by
  obtain ⟨g1, g2, g3, g4, g5, g6, g7, g8⟩ := G
  rw [g2, g3, g4, g5, g7] at S
  obtain ⟨s1, s2, s3, s4, s5⟩ := S
  refine ⟨⟨?_, s2, s3, s4, s5, ?_, ?_, ?_⟩, fun a b h => s1 a b (by omega)⟩
  · rw [s1 _ _ (by omega)]; exact g1
  · rw [s1 _ _ (by omega)]; exact g6
  · rw [s1 _ _ (by omega)]; exact g7
  · rw [s1 _ _ (by omega)]; exact g8
theorem gc_B {MI M : ZM} {g : GS} {l : List Nat} (G : gcS MI g) (S : sdS MI M 18 17 (mv (MI 2) (MI 4) l (MI 17 0) (MI 18 2) (MI 18 3) (MI 18 1) (MI 17 3)).1 (mv (MI 2) (MI 4) l (MI 17 0) (MI 18 2) (MI 18 3) (MI 18 1) (MI 17 3)).2.1 (mv (MI 2) (MI 4) l (MI 17 0) (MI 18 2) (MI 18 3) (MI 18 1) (MI 17 3)).2.2.1 (mv (MI 2) (MI 4) l (MI 17 0) (MI 18 2) (MI 18 3) (MI 18 1) (MI 17 3)).2.2.2) : gcS M (gB (MI 2) (MI 4) l g) ∧ gcF MI M := by
  obtain ⟨g1, g2, g3, g4, g5, g6, g7, g8⟩ := G
  rw [g1, g4, g6, g7, g8] at S
  obtain ⟨s1, s2, s3, s4, s5⟩ := S
  refine ⟨⟨s2, ?_, ?_, ?_, ?_, s3, s4, s5⟩, fun a b h => s1 a b (by omega)⟩
  · rw [s1 _ _ (by omega)]; exact g2
  · rw [s1 _ _ (by omega)]; exact g3
  · rw [s1 _ _ (by omega)]; exact g4
  · rw [s1 _ _ (by omega)]; exact g5
/-- lists of cards that a plan may hold -/
def plB (MI : ZM) (pl : Nat → List Nat) : Prop := ∀ t, (∀ c ∈ pl t, c < 12) ∧ (pl t).length ≤ 10
theorem plB.po {MI : ZM} {pl : Nat → List Nat} (hM : cOk MI) (h : plB MI pl) (t : Nat) : (∀ c ∈ pl t, 0 ≤ MI 4 c ∧ MI 4 c ≤ 9) ∧ (pl t).length ≤ 10 := ⟨fun c hc => (hM.2.2.2.1 c ((h t).1 c hc)).2.2, (h t).2⟩
set_option maxRecDepth 100000 in
set_option maxHeartbeats 4000000 in
theorem l_X3_resultOf_e {X : VX} {Q : Nat → Nat} {MI ML : ZM} (K : VK X cX3_resultOf RX3 5 (some .int) 2 49 0 0) {pa pb : Nat} (R : Nat × GS) (lf : Int) (E : VE X 0 0 110 Q (zq Q (zI fun r M L => L = ML ∧ gcF MI M ∧ gcS M R.2 ∧ M 16 2 = R.1 ∧ r = gRes R.2))) (M : ZM) (F : gcF MI M) (G : gcS M R.2) (hT : M 16 2 = R.1) (t2 : Nat) (hB : gBd t2 R.2) (y : Int) : V X (0, 0) 110 Q z_rf M ML 83 [(4, .int (iI y)), (0, .ref (Q 16)), (1, .ref (Q pa)), (2, .ref (Q pb)), (3, .int (iI lf))] [] := by
  refine v_aload_n K 1 dX3_resultOf_83 rfl rfl ?_
  refine v_getr K ff_X3_12 (by decide) rfl rfl rfl dX3_resultOf_84 ?_
  refine v_geti K ff_X3_37 (by decide) rfl rfl dX3_resultOf_87 ?_
  refine v_eqi (R.2.1) (G.1) ?_
  refine v_aload_n K 1 dX3_resultOf_90 rfl rfl ?_
  refine v_getr K ff_X3_18 (by decide) rfl rfl rfl dX3_resultOf_91 ?_
  refine v_geti K ff_X3_37 (by decide) rfl rfl dX3_resultOf_94 ?_
  refine v_eqi (R.2.2.1) (G.2.1) ?_
  refine v_cSi K (c_J6_compare_7cf53 _ _ ⟨by have := hB.1.1; omega, by have := hB.1.2; omega⟩ ⟨by have := hB.2.1.1; omega, by have := hB.2.1.2; omega⟩) rfl fc_X3_40 wt_J6_compare_7cf53 rfl (by decide) (Nat.le_of_ble_eq_true rfl) dX3_resultOf_97 (fun r97 M97 L97 h97 => ?_)
  obtain ⟨hm97, hl97, hr97⟩ := h97
  subst M97 L97
  exact v_ri K E dX3_resultOf_100 ⟨rfl, F, G, hT, hr97⟩
set_option maxRecDepth 100000 in
set_option maxHeartbeats 4000000 in
theorem l_X3_resultOf {X : VX} {Q : Nat → Nat} {MI ML : ZM} (K : VK X cX3_resultOf RX3 5 (some .int) 2 49 0 0) (hM : cOk MI) (pa pb : Nat) (hpa : isPl pa) (hpb : isPl pb) (la lb : Nat → List Nat) (hRa : plR MI pa la) (hRb : plR MI pb lb) (hBa : plB MI la) (hBb : plB MI lb) (R : Nat × GS) (lf : Int) (E : VE X 0 0 110 Q (zq Q (zI fun r M L => L = ML ∧ gcF MI M ∧ gcS M R.2 ∧ M 16 2 = R.1 ∧ r = gRes R.2))) : ∀ (n t : Nat) (M : ZM) (g : GS) (y : Int), y = (t : Int) + 1 → t + n = 12 → gcF MI M → gcS M g → (0 < t → M 16 2 = t) → gBd t g → 0 < g.1 → 0 < g.2.1 → gRun (MI 2) (MI 4) la lb n t g = R → V X (0, 0) 110 Q z_rf M ML 19 [(4, .int (iI y)), (0, .ref (Q 16)), (1, .ref (Q pa)), (2, .ref (Q pb)), (3, .int (iI lf))] [] := by
  intro n
  induction n with
  | zero =>
    intro t M g y hy ht F G hT hB q1 q2 hR
    obtain rfl : t = 12 := by omega
    simp only [gRun] at hR
    subst hR
    refine v_iload K 0 dX3_resultOf_19 rfl ?_
    refine v_bipush K dX3_resultOf_21 (by decide) ?_
    refine v_icmp_gt K 83 ⟨by omega, by omega⟩ ⟨by omega, by omega⟩ dX3_resultOf_23 (by decide) (fun h23 => ?_) (fun h23 => ?_)
    · exact l_X3_resultOf_e K (12, g) lf E M F G (hT (by decide)) 12 hB y
    · exact absurd h23 (by omega)
  | succ n ih =>
    intro t M g y hy ht F G hT hB q1 q2 hR
    refine v_iload K 0 dX3_resultOf_19 rfl ?_
    refine v_bipush K dX3_resultOf_21 (by decide) ?_
    refine v_icmp_gt K 83 ⟨by omega, by omega⟩ ⟨by omega, by omega⟩ dX3_resultOf_23 (by decide) (fun h23 => ?_) (fun h23 => ?_)
    · exact absurd h23 (by omega)
    · simp only [gRun] at hR
      rw [if_neg (by omega)] at hR
      refine v_aload_n K 1 dX3_resultOf_26 rfl rfl ?_
      refine v_iload K 0 dX3_resultOf_27 rfl ?_
      refine v_puti K fp_X3_29 (by decide) rfl rfl dX3_resultOf_29 ?_
      obtain ⟨M1, hM1⟩ : ∃ M1, M1 = z_up M 16 2 y := ⟨_, rfl⟩
      rw [← hM1]
      have f1 : gcF MI M1 := fun a b h => by rw [hM1]; simp only [z_up]; rw [if_neg (by omega)]; exact F a b h
      have G1 : gcS M1 g := by rw [hM1]; unfold gcS at G ⊢; simp only [z_up]; simpa using G
      have t1 : M1 16 2 = ((t + 1 : Nat) : Int) := by rw [hM1, z_up_s]; omega
      have r2 : M1 2 = MI 2 := funext fun b => f1 2 b (by omega)
      have r4 : M1 4 = MI 4 := funext fun b => f1 4 b (by omega)
      obtain ⟨g1, g2, g3, g4, g5, g6, g7, g8⟩ := id G1
      refine v_aload_n K 1 dX3_resultOf_32 rfl rfl ?_
      refine v_getr K ff_X3_12 (by decide) rfl rfl rfl dX3_resultOf_33 ?_
      refine v_aload_n K 1 dX3_resultOf_36 rfl rfl ?_
      refine v_getr K ff_X3_18 (by decide) rfl rfl rfl dX3_resultOf_37 ?_
      refine v_aload_n K 2 dX3_resultOf_40 rfl rfl ?_
      refine v_aload_n K 1 dX3_resultOf_41 rfl rfl ?_
      refine v_getr K ff_X3_21 (by decide) rfl rfl rfl dX3_resultOf_42 ?_
      refine v_iload K 0 dX3_resultOf_45 rfl ?_
      refine v_cVi K (c_X7_defeats 17 18 (by omega) (f1.ok hM) pa hpa la (f1.pl hpa hRa) t (by omega) (hBa t).1 (by rw [g2]; exact q2) (by rw [g2]; exact hB.2.1.2) (by rw [g3]; exact hB.2.2.1.1) (by rw [g3]; have := hB.2.2.1.2.1; omega) (by rw [g7]; exact hB.2.2.2.2.2.1) (by rw [g7]; have := hB.2.2.2.2.2.2.1; omega) _ (by omega)) rfl fc_X3_33 wm_X7_defeats ws_X7_defeats (by decide) 7 rfl (by decide) rfl rfl (by decide) (Nat.le_of_ble_eq_true rfl) dX3_resultOf_47 (fun r47 M47 L47 h47 => ?_)
      obtain ⟨hl47, hr47, S⟩ := h47
      subst L47
      have A1 := gc_A G1 S
      rw [g2, g3, g4, g5, g7, r2, r4] at hr47
      rw [r2, r4] at A1
      have hr47 : (r47 = 1 ∧ (gA (MI 2) (MI 4) (la t) g).2.1 ≤ 0) ∨ (r47 = 0 ∧ 0 < (gA (MI 2) (MI 4) (la t) g).2.1) := hr47
      have f2 := f1.trans A1.2
      have w := plB.po hM hBa t
      have B1 := mv_b (so := MI 2) (po := MI 4) (l := la t) (t := t) (wo := g.2.2.2.2.1) (by omega) w.1 w.2 q2 hB.2.1.2 hB.2.2.1 hB.2.2.2.2.2.1
      refine v_if_ne K 83 ⟨by omega, by omega⟩ dX3_resultOf_50 (by decide) (fun h50 => ?_) (fun h50 => ?_)
      · have eT : gTurn (MI 2) (MI 4) (la t) (lb t) g = gA (MI 2) (MI 4) (la t) g := by unfold gTurn; rw [if_pos (by omega)]
        rw [eT, gRun_over (Or.inr (by omega))] at hR
        subst hR
        exact l_X3_resultOf_e K _ lf E M47 f2 A1.1 (by rw [S.1 16 2 (by omega)]; exact t1) (t + 1) ⟨hB.1, B1.1, B1.2, hB.2.2.2.up⟩ y
      · have q3 : 0 < (gA (MI 2) (MI 4) (la t) g).2.1 := by omega
        obtain ⟨a1, a2, a3, a4, a5, a6, a7, a8⟩ := id A1.1
        have r22 : M47 2 = MI 2 := funext fun b => f2 2 b (by omega)
        have r24 : M47 4 = MI 4 := funext fun b => f2 4 b (by omega)
        refine v_aload_n K 1 dX3_resultOf_53 rfl rfl ?_
        refine v_getr K ff_X3_18 (by decide) rfl rfl rfl dX3_resultOf_54 ?_
        refine v_aload_n K 1 dX3_resultOf_57 rfl rfl ?_
        refine v_getr K ff_X3_12 (by decide) rfl rfl rfl dX3_resultOf_58 ?_
        refine v_aload_n K 3 dX3_resultOf_61 rfl rfl ?_
        refine v_aload_n K 1 dX3_resultOf_62 rfl rfl ?_
        refine v_getr K ff_X3_21 (by decide) rfl rfl rfl dX3_resultOf_63 ?_
        refine v_iload K 0 dX3_resultOf_66 rfl ?_
        refine v_cVi K (c_X7_defeats 18 17 (by omega) (f2.ok hM) pb hpb lb (f2.pl hpb hRb) t (by omega) (hBb t).1 (by rw [a1]; exact q1) (by rw [a1]; exact hB.1.2) (by rw [a6]; exact hB.2.2.2.1) (by rw [a6]; have := hB.2.2.2.2.1; show g.2.2.2.1 ≤ 10000; omega) (by rw [a4]; exact B1.2.2.2.1) (by rw [a4]; have := B1.2.2.2.2.1; show (mv _ _ _ _ _ _ _ _).2.2.1 ≤ 10000; omega) _ (by omega)) rfl fc_X3_33 wm_X7_defeats ws_X7_defeats (by decide) 7 rfl (by decide) rfl rfl (by decide) (Nat.le_of_ble_eq_true rfl) dX3_resultOf_68 (fun r68 M68 L68 h68 => ?_)
        obtain ⟨hl68, hr68, S2⟩ := h68
        subst L68
        have A2 := gc_B A1.1 S2
        rw [a1, a4, a6, a7, a8, r22, r24] at hr68
        rw [r22, r24] at A2
        have hr68 : (r68 = 1 ∧ (gB (MI 2) (MI 4) (lb t) (gA (MI 2) (MI 4) (la t) g)).1 ≤ 0) ∨ (r68 = 0 ∧ 0 < (gB (MI 2) (MI 4) (lb t) (gA (MI 2) (MI 4) (la t) g)).1) := hr68
        have f3 := f2.trans A2.2
        have w2 := plB.po hM hBb t
        have B2 := mv_b (so := MI 2) (po := MI 4) (l := lb t) (t := t) (wo := (gA (MI 2) (MI 4) (la t) g).2.2.1.2.1) (by omega) w2.1 w2.2 q1 hB.1.2 hB.2.2.2 (B1.2.2.2.1)
        have eT : gTurn (MI 2) (MI 4) (la t) (lb t) g = gB (MI 2) (MI 4) (lb t) (gA (MI 2) (MI 4) (la t) g) := by unfold gTurn; rw [if_neg (by omega)]
        rw [eT] at hR
        refine v_if_eq K 77 ⟨by omega, by omega⟩ dX3_resultOf_71 (by decide) (fun h71 => ?_) (fun h71 => ?_)
        · refine v_iinc K 0 (fun q9 => [(4, .int (iI q9)), (0, .ref (Q 16)), (1, .ref (Q pa)), (2, .ref (Q pb)), (3, .int (iI lf))]) dX3_resultOf_77 rfl (by decide) (fun _ => rfl) (fun v hv => ?_)
          refine v_goto K 19 dX3_resultOf_80 (by decide) ?_
          exact ih (t + 1) M68 _ v (by omega) (by omega) f3 A2.1 (fun _ => by rw [S2.1 16 2 (by omega), S.1 16 2 (by omega)]; exact t1) ⟨B2.1, B1.1, B1.2, B2.2⟩ (by omega) q3 hR
        · rw [gRun_over (Or.inl (by omega))] at hR
          refine v_goto K 83 dX3_resultOf_74 (by decide) ?_
          subst hR
          exact l_X3_resultOf_e K _ lf E M68 f3 A2.1 (by rw [S2.1 16 2 (by omega), S.1 16 2 (by omega)]; exact t1) (t + 1) ⟨B2.1, B1.1, B1.2, B2.2⟩ y
set_option maxRecDepth 100000 in
set_option maxHeartbeats 4000000 in
theorem c_X3_resultOf {l : Launch} {D : va_G} {Z : ZC} {Q : Nat → Nat} {MI ML : ZM} (hM : cOk MI) (pa pb : Nat) (hpa : isPl pa) (hpb : isPl pb) (la lb : Nat → List Nat) (hRa : plR MI pa la) (hRb : plR MI pb lb) (hBa : plB MI la) (hBb : plB MI lb) (lf : Int) (h5 : 5 ≤ lf) (h40 : lf ≤ 40) : C_X3_resultOf l D Z Q [.ref (Q 16), .ref (Q pa), .ref (Q pb), .int (iI lf)] MI ML (zI fun r M L => L = ML ∧ gcF MI M ∧ gcS M (gGame (MI 2) (MI 4) la lb lf).2 ∧ M 16 2 = (gGame (MI 2) (MI 4) la lb lf).1 ∧ r = gRes (gGame (MI 2) (MI 4) la lb lf).2) := by
  refine CM.of (by decide +kernel) (Nat.le_of_ble_eq_true rfl) ?_
  intro X K E _ _ _ _
  show V X (0, 0) 110 Q z_rf MI ML 0 [(0, .ref (Q 16)), (1, .ref (Q pa)), (2, .ref (Q pb)), (3, .int (iI lf))] []
  refine v_aload_n K 0 dX3_resultOf_0 rfl rfl ?_
  refine v_getr K ff_X3_12 (by decide) rfl rfl rfl dX3_resultOf_1 ?_
  refine v_iload_n K 3 dX3_resultOf_4 rfl rfl ?_
  refine v_cVv K (c_X7_begin 17 (by omega) _) rfl fc_X3_25 wm_X7_begin ws_X7_begin (by decide) 7 rfl (by decide) rfl rfl (by decide) (Nat.le_of_ble_eq_true rfl) dX3_resultOf_5 (fun M5 L5 h5_ => ?_)
  obtain ⟨hl5, hm5⟩ := h5_
  subst L5
  refine v_aload_n K 0 dX3_resultOf_8 rfl rfl ?_
  refine v_getr K ff_X3_18 (by decide) rfl rfl rfl dX3_resultOf_9 ?_
  refine v_iload_n K 3 dX3_resultOf_12 rfl rfl ?_
  refine v_cVv K (c_X7_begin 18 (by omega) _) rfl fc_X3_25 wm_X7_begin ws_X7_begin (by decide) 7 rfl (by decide) rfl rfl (by decide) (Nat.le_of_ble_eq_true rfl) dX3_resultOf_13 (fun M13 L13 h13 => ?_)
  obtain ⟨hl13, hm13⟩ := h13
  subst L13
  have F : gcF MI M13 := fun a b h => by rw [hm13, hm5]; simp only [z_up]; repeat rw [if_neg (by omega)]
  have G : gcS M13 (g0 lf) := by rw [hm13, hm5]; unfold gcS g0; simp [z_up]
  refine v_iconst K dX3_resultOf_16 ?_
  refine v_istore K (fun q9 => [(4, .int (iI q9)), (0, .ref (Q 16)), (1, .ref (Q pa)), (2, .ref (Q pb)), (3, .int (iI lf))]) dX3_resultOf_17 (by decide) (fun _ => rfl) (fun y hy => ?_)
  exact l_X3_resultOf K hM pa pb hpa hpb la lb hRa hRb hBa hBb (gGame (MI 2) (MI 4) la lb lf) lf E 12 0 M13 (g0 lf) y (by omega) rfl F G (fun h => absurd h (by omega)) ⟨⟨by show _ ≤ lf; omega, h40⟩, ⟨by show _ ≤ lf; omega, h40⟩, by unfold gIn g0; simp, by unfold gIn g0; simp⟩ (by show 0 < lf; omega) (by show 0 < lf; omega) rfl
set_option maxRecDepth 100000 in
set_option maxHeartbeats 4000000 in
theorem c_X8_tableOf {l : Launch} {D : va_G} {Z : ZC} {Q : Nat → Nat} {MI ML : ZM} (hM : cOk MI) (pa pb : Nat) (hpa : isPl pa) (hpb : isPl pb) (la lb : Nat → List Nat) (hRa : plR MI pa la) (hRb : plR MI pb lb) (hBa : plB MI la) (hBb : plB MI lb) : C_X8_tableOf l D Z Q [.ref (Q 0), .ref (Q pa), .ref (Q pb)] MI ML (zI fun r M L => L = ML ∧ gcF MI M ∧ r = (gRes (gGame (MI 2) (MI 4) la lb (MI 0 9)).2 - gRes (gGame (MI 2) (MI 4) lb la (MI 0 9)).2)) := by
  refine CM.of (by decide +kernel) (Nat.le_of_ble_eq_true rfl) ?_
  intro X K E _ _ _ _
  show V X (0, 0) 110 Q z_rf MI ML 0 [(0, .ref (Q 0)), (1, .ref (Q pa)), (2, .ref (Q pb))] []
  have u7 := hM.2.2.1
  refine v_aload_n K 0 dX8_tableOf_0 rfl rfl ?_
  refine v_getr K ff_X8_28 (by decide) rfl rfl rfl dX8_tableOf_1 ?_
  refine v_aload_n K 1 dX8_tableOf_4 rfl rfl ?_
  refine v_aload_n K 2 dX8_tableOf_5 rfl rfl ?_
  refine v_aload_n K 0 dX8_tableOf_6 rfl rfl ?_
  refine v_geti K ff_X8_60 (by decide) rfl rfl dX8_tableOf_7 ?_
  refine v_cVi K (c_X3_resultOf hM pa pb hpa hpb la lb hRa hRb hBa hBb _ u7.1 u7.2) rfl fc_X8_113 wm_X3_resultOf ws_X3_resultOf (by decide) 3 rfl (by decide) rfl rfl (by decide) (Nat.le_of_ble_eq_true rfl) dX8_tableOf_10 (fun r10 M10 L10 h10 => ?_)
  obtain ⟨hl10, F1, -, -, h10r⟩ := h10
  subst L10
  have r2 : M10 2 = MI 2 := funext fun b => F1 2 b (by omega)
  have r4 : M10 4 = MI 4 := funext fun b => F1 4 b (by omega)
  refine v_aload_n K 0 dX8_tableOf_13 rfl rfl ?_
  refine v_getr K ff_X8_28 (by decide) rfl rfl rfl dX8_tableOf_14 ?_
  refine v_aload_n K 2 dX8_tableOf_17 rfl rfl ?_
  refine v_aload_n K 1 dX8_tableOf_18 rfl rfl ?_
  refine v_aload_n K 0 dX8_tableOf_19 rfl rfl ?_
  refine v_geti K ff_X8_60 (by decide) rfl rfl dX8_tableOf_20 ?_
  refine v_eqi (MI 0 9) (F1 0 9 (by omega)) ?_
  refine v_cVi K (c_X3_resultOf (F1.ok hM) pb pa hpb hpa lb la (F1.pl hpb hRb) (F1.pl hpa hRa) hBb hBa _ u7.1 u7.2) rfl fc_X8_113 wm_X3_resultOf ws_X3_resultOf (by decide) 3 rfl (by decide) rfl rfl (by decide) (Nat.le_of_ble_eq_true rfl) dX8_tableOf_23 (fun r23 M23 L23 h23 => ?_)
  obtain ⟨hl23, F2, -, -, h23r⟩ := h23
  subst L23
  rw [r2, r4] at h23r
  refine v_isub K dX8_tableOf_26 ?_
  exact v_ri K E dX8_tableOf_27 ⟨rfl, F1.trans F2, by rw [h10r, h23r]⟩
