theorem wi_cg {T T' : Nat → Nat → Int} {N : Nat} {u v : Int} (h : ∀ i j, i < N → j < N → T i j = T' i j) : wi T N u v ↔ wi T' N u v := ⟨fun ⟨z, hz, q⟩ => ⟨z, mxI_cg h hz, q⟩, fun ⟨z, hz, q⟩ => ⟨z, mxI_cg (fun i j hi hj => (h i j hi hj).symm) hz, q⟩⟩
def iF (MI M : ZM) : Prop := ∀ a b, ¬ (a = 16 ∧ b = 2) → ¬ (17 ≤ a ∧ a ≤ 18) → ¬ (51 ≤ a ∧ a ≤ 82) → M a b = MI a b
theorem tPre_pw {MI : ZM} (hM : cOk MI) (hF : cFix MI) (hK : cKn MI) (c : Nat) (p : Int) : tPre (z_up MI 4 c p) c := by
  have u4 := hM.2.1
  have e8 : z_up MI 4 c p 0 8 = MI 0 8 := zu4 (by omega)
  have hc : ∀ d, hasC (z_up MI 4 c p) c d ↔ hasC MI c d := fun d => by
    unfold hasC
    rw [zu4 (by omega), show z_up MI 4 c p (7 + 2 * d) = MI (7 + 2 * d) from funext fun b => zu4 (by omega)]
  refine ⟨⟨fun q hq => ?_, fun a ha => ?_⟩, fun a ha hn => ?_, fun a b ha hb na nb => ?_⟩
  · rw [zu4 (by have := hq.1; omega)]; exact hF.1 q hq
  · rw [zu4 (by omega), zu4 (by omega)]; exact hF.2 a ha
  · rw [e8] at ha
    rw [hc] at hn
    have e : cP (z_up MI 4 c p) a = cP MI a := funext fun t => (cP_pw hM (by omega) (Decidable.not_not.mp hn) t).1
    rw [e]
    exact plR_keep (hK.1 a ha) (funext fun y => zu4 (by omega)) (funext fun y => zu4 (by omega))
  · rw [e8] at ha hb
    rw [hc] at na nb
    rw [zu4 (by omega), cTab_pw hM (by omega) (by omega) (Decidable.not_not.mp na) (Decidable.not_not.mp nb)]
    exact hK.2.1 a b ha hb
theorem iF_pw {MI M : ZM} {c : Nat} {p o : Int} (h : ∀ x y, ¬ (x = 16 ∧ y = 2) → ¬ (17 ≤ x ∧ x ≤ 18) → ¬ (51 ≤ x ∧ x ≤ 82) → M x y = z_up MI 4 c p x y) (ho : o = MI 4 c) : iF MI (z_up M 4 c o) := by
  intro a b q1 q2 q3
  by_cases e : a = 4 ∧ b = c
  · obtain ⟨rfl, rfl⟩ := e; rw [z_up_s, ho]
  · rw [zu4 e, h a b q1 q2 q3, zu4 e]
theorem iF.co {MI M : ZM} (h : iF MI M) : coC MI M := fun a b q1 q2 => h a b (by omega) (by omega) (by omega)
theorem iF_end {MI M : ZM} (hM : cOk MI) (hF : cFix MI) (hK : cKn MI) (hX : cMx MI) (h : iF MI M) (hz : ∀ p, isPl p → 51 ≤ p → M (p + 2) 0 = 0) (hd : ∀ a, a < 5 → M (54 + a) a = 0) : cFix M ∧ cKn M ∧ cMx M := by
  have k := kn_k2 hM (fun a b _ q2 q3 _ q5 q6 => h a b q2 q3 q5) hF hK hz hd
  exact ⟨k.1, k.2, cMx_keep hM h.co (fun b => h _ _ (by omega) (by omega) (by omega)) (fun b => h _ _ (by omega) (by omega) (by omega)) hX⟩
set_option maxRecDepth 100000 in
set_option maxHeartbeats 4000000 in
theorem c_X8_isMixWithin {l : Launch} {D : va_G} {Z : ZC} {Q : Nat → Nat} {MI ML : ZM} (hM : cOk MI) (hF : cFix MI) (hK : cKn MI) (hX : cMx MI) (N : Nat) (hN : MI 0 8 = N) (h1 : 1 ≤ N) (u v : Int) (hu : 1 ≤ u) (huv : u ≤ v) (hv : v ≤ 20) (c : Nat) (hc : (c : Int) < MI 1 3) (p : Int) (h0 : 0 ≤ p) (h9 : p ≤ 9) (c9 : Int) (hc9 : c9 = c) : C_X8_isMixWithin l D Z Q [.ref (Q 0), .int (iI u), .int (iI v), .int (iI c9), .int (iI p)] MI ML (zI fun r M L => L = ML ∧ iF MI M ∧ cFix M ∧ cKn M ∧ cMx M ∧ ((r = 1 ∧ wi (cTab (z_up MI 4 c p)) N u v) ∨ (r = 0 ∧ ¬ wi (cTab (z_up MI 4 c p)) N u v))) := by
  subst hc9
  refine CM.of (by decide +kernel) (Nat.le_of_ble_eq_true rfl) ?_
  intro X K E _ _ _ _
  show V X (0, 0) 110 Q z_rf MI ML 0 [(0, .ref (Q 0)), (1, .int (iI u)), (2, .int (iI v)), (3, .int (iI (c : Int))), (4, .int (iI p))] []
  have u4 := hM.2.1
  have u0 := hM.1
  have N5 : N ≤ 5 := by omega
  have tN : (MI 0 8).toNat = N := by omega
  refine v_aload_n K 0 dX8_isMixWithin_0 rfl rfl ?_
  refine v_getr K ff_X8_10 (by decide) rfl rfl rfl dX8_isMixWithin_1 ?_
  refine v_getr K ff_X8_76 (by decide) rfl rfl rfl dX8_isMixWithin_4 ?_
  refine v_iload_n K 3 dX8_isMixWithin_7 rfl rfl ?_
  refine v_iald K (c) (by decide) rfl rfl (by show _ < 12; omega) dX8_isMixWithin_8 ?_
  refine v_istore K (fun q9 => [(5, .int (iI q9)), (0, .ref (Q 0)), (1, .int (iI u)), (2, .int (iI v)), (3, .int (iI (c : Int))), (4, .int (iI p))]) dX8_isMixWithin_9 (by decide) (fun _ => rfl) (fun o ho => ?_)
  refine v_aload_n K 1 dX8_isMixWithin_11 rfl rfl ?_
  refine v_getr K ff_X8_10 (by decide) rfl rfl rfl dX8_isMixWithin_12 ?_
  refine v_getr K ff_X8_76 (by decide) rfl rfl rfl dX8_isMixWithin_15 ?_
  refine v_iload_n K 4 dX8_isMixWithin_18 rfl rfl ?_
  refine v_iload K 5 dX8_isMixWithin_19 rfl ?_
  refine v_iast K (c) (by decide) rfl rfl (by show _ < 12; omega) dX8_isMixWithin_21 ?_
  refine v_aload_n K 1 dX8_isMixWithin_22 rfl rfl ?_
  refine v_iload_n K 4 dX8_isMixWithin_23 rfl rfl ?_
  refine v_cVv K (c_X8_learnTrialTables (MI := z_up MI 4 c p) (cOk_pw hM c h0 h9) c ⟨by omega, by omega⟩ (tPre_pw hM hF hK c p) _ rfl) rfl fc_X8_209 wm_X8_learnTrialTables ws_X8_learnTrialTables (by decide) 8 rfl (by decide) rfl rfl (by decide) (Nat.le_of_ble_eq_true rfl) dX8_isMixWithin_24 (fun M24 L24 h24 => ?_)
  obtain ⟨hl24, F24⟩ := h24
  subst L24
  refine v_aload_n K 1 dX8_isMixWithin_27 rfl rfl ?_
  refine v_getr K ff_X8_10 (by decide) rfl rfl rfl dX8_isMixWithin_28 ?_
  refine v_getr K ff_X8_76 (by decide) rfl rfl rfl dX8_isMixWithin_31 ?_
  refine v_iload_n K 4 dX8_isMixWithin_34 rfl rfl ?_
  refine v_iload K 0 dX8_isMixWithin_35 rfl ?_
  refine v_iast K (c) (by decide) rfl rfl (by show _ < 12; omega) dX8_isMixWithin_37 ?_
  obtain ⟨M9, hM9⟩ : ∃ M9, M9 = z_up M24 4 c o := ⟨_, rfl⟩
  rw [← hM9]
  have f9 : iF MI M9 := by rw [hM9]; exact iF_pw F24.1 ho
  have d9 : ∀ a b, 51 ≤ a → M9 a b = M24 a b := fun a b h => by rw [hM9, zu4 (by omega)]
  have e8 : M9 0 8 = MI 0 8 := f9.co 0 8 (by decide) (by decide)
  have z9 : ∀ p, isPl p → 51 ≤ p → M9 (p + 2) 0 = 0 := fun p hp h => by rw [d9 _ _ (by omega)]; exact F24.2.1 p hp h
  have y9 : ∀ a, a < 5 → M9 (54 + a) a = 0 := fun a h => by rw [d9 _ _ (by omega)]; exact F24.2.2.1 a h
  have e8p : z_up MI 4 c p 0 8 = MI 0 8 := zu4 (by omega)
  have tt : ∀ i j, i < N → j < N → M9 (54 + i) j = cTab (z_up MI 4 c p) i j := fun i j hi hj => by rw [d9 _ _ (by omega)]; exact F24.2.2.2 i j (by rw [e8p]; omega) (by rw [e8p]; omega)
  have tn : ∀ i j, i < N → j < N → M9 (22 + i) j = cTab MI i j := fun i j hi hj => by rw [f9 _ _ (by omega) (by omega) (by omega)]; exact hK.2.1 i j (by omega) (by omega)
  have k9 := iF_end hM hF hK hX f9 z9 y9
  have X5 := hX
  unfold cMx at X5
  rw [tN] at X5
  have e28 : M9 28 = MI 28 := funext fun b => f9 _ _ (by omega) (by omega) (by omega)
  have sb := sumK_bd (f := MI 28) (B := 10000) N (fun i hi => by have := X5.2.2.2 i hi; omega)
  have e27 : M9 27 1 = sumK (MI 28) N := (f9 _ _ (by omega) (by omega) (by omega)).trans X5.2.1
  refine v_aload_n K 1 dX8_isMixWithin_38 rfl rfl ?_
  refine v_getr K ff_X8_39 (by decide) rfl rfl rfl dX8_isMixWithin_39 ?_
  refine v_aload_n K 1 dX8_isMixWithin_42 rfl rfl ?_
  refine v_getr K ff_X8_35 (by decide) rfl rfl rfl dX8_isMixWithin_43 ?_
  refine v_aload_n K 1 dX8_isMixWithin_46 rfl rfl ?_
  refine v_geti K ff_X8_82 (by decide) rfl rfl dX8_isMixWithin_47 ?_
  refine v_eqi ((N : Int)) (by rw [e8]; exact hN) ?_
  refine v_cVi K (c_X1_hasTablesOf N N5 (fun i j hi hj => by rw [tt i j hi hj, tn i j hi hj]; exact ⟨cTab_b _ i j, cTab_b _ i j⟩) _ rfl) rfl fc_X8_213 wm_X1_hasTablesOf ws_X1_hasTablesOf (by decide) 1 rfl (by decide) rfl rfl (by decide) (Nat.le_of_ble_eq_true rfl) dX8_isMixWithin_50 (fun r50 M50 L50 h50 => ?_)
  obtain ⟨hm50, hl50, hr50⟩ := h50
  subst M50 L50
  refine v_if_eq K 69 (by rcases hr50 with q | q <;> exact ⟨by omega, by omega⟩) dX8_isMixWithin_53 (by decide) (fun h53 => ?_) (fun h53 => ?_)
  · refine v_aload_n K 1 dX8_isMixWithin_69 rfl rfl ?_
    refine v_getr K ff_X8_39 (by decide) rfl rfl rfl dX8_isMixWithin_70 ?_
    refine v_getr K ff_X8_150 (by decide) rfl rfl rfl dX8_isMixWithin_73 ?_
    refine v_aload_n K 1 dX8_isMixWithin_76 rfl rfl ?_
    refine v_getr K ff_X8_39 (by decide) rfl rfl rfl dX8_isMixWithin_77 ?_
    refine v_getr K ff_X8_136 (by decide) rfl rfl rfl dX8_isMixWithin_80 ?_
    refine v_aload_n K 1 dX8_isMixWithin_83 rfl rfl ?_
    refine v_geti K ff_X8_82 (by decide) rfl rfl dX8_isMixWithin_84 ?_
    refine v_eqi ((N : Int)) (by rw [e8]; exact hN) ?_
    refine v_cVv K (c_X4_find (MI := M9) 51 (Or.inr rfl) N h1 N5 (fun i k hi hk => by rw [show cT M9 51 i k = _ from tt i k hi hk]; exact cTab_b _ i k) (fun i k hi hk => by rw [show cT M9 51 i k = _ from tt i k hi hk, show cT M9 51 k i = _ from tt k i hk hi]; exact cTab_a _ i k) _ rfl) rfl fc_X8_208 wm_X4_find ws_X4_find (by decide) 4 rfl (by decide) rfl rfl (by decide) (Nat.le_of_ble_eq_true rfl) dX8_isMixWithin_87 (fun M87 L87 h87 => ?_)
    obtain ⟨hl87, G1, G2, G3, G4, G5⟩ := h87
    subst L87
    have gm : mxI (cTab (z_up MI 4 c p)) N (M87 (51 + 9)) := mxI_cg (fun i j hi hj => tt i j hi hj) G4
    have sc := sumK_bd (f := M87 (51 + 9)) (B := 10000) N (fun i hi => by have := G5 i hi; omega)
    have f8 : iF MI M87 := fun a b q1 q2 q3 => (G1 a b (by omega)).trans (f9 a b q1 q2 q3)
    have k8 := iF_end hM hF hK hX f8 (fun p hp h => by rw [G1 _ _ (by rcases isPl_z hp with ⟨j, hj, rfl⟩ | ⟨j, hj, rfl⟩ | rfl <;> omega)]; exact z9 p hp h) (fun a ha => by rw [G1 _ _ (by omega)]; exact y9 a ha)
    refine v_aload_n K 1 dX8_isMixWithin_90 rfl rfl ?_
    refine v_getr K ff_X8_39 (by decide) rfl rfl rfl dX8_isMixWithin_91 ?_
    refine v_getr K ff_X8_150 (by decide) rfl rfl rfl dX8_isMixWithin_94 ?_
    refine v_iload_n K 2 dX8_isMixWithin_97 rfl rfl ?_
    refine v_iload_n K 3 dX8_isMixWithin_98 rfl rfl ?_
    refine v_cVi K (c_X4_isWithin (MI := M87) 51 (Or.inr rfl) N G2 h1 N5 u v hu huv hv (fun q hq => by have := G5 q hq; omega) (by rw [G3]; omega)) rfl fc_X8_217 wm_X4_isWithin ws_X4_isWithin (by decide) 4 rfl (by decide) rfl rfl (by decide) (Nat.le_of_ble_eq_true rfl) dX8_isMixWithin_99 (fun r99 M99 L99 h99 => ?_)
    obtain ⟨hm99, hl99, h99⟩ := h99
    subst M99 L99
    rw [G3, ← wi_z gm] at h99
    exact v_rz K E (by rcases h99 with q | q <;> omega) dX8_isMixWithin_102 ⟨rfl, f8, k8.1, k8.2.1, k8.2.2, h99⟩
  · have te : ∀ i j, i < N → j < N → cTab MI i j = cTab (z_up MI 4 c p) i j := by
      rcases hr50 with ⟨-, q⟩ | ⟨q, -⟩
      · intro i j hi hj
        rcases (show i < j ∨ i = j ∨ j < i by omega) with h | h | h
        · rw [← tt i j hi hj, ← tn i j hi hj]; exact (q i j h hj).symm
        · subst h; unfold cTab; omega
        · rw [cTab_a, cTab_a (z_up MI 4 c p), ← tt j i hj hi, ← tn j i hj hi, q j i h hi]
      · exact absurd q (by omega)
    have gm := mxI_cg te X5.2.2.1
    refine v_aload_n K 1 dX8_isMixWithin_56 rfl rfl ?_
    refine v_getr K ff_X8_35 (by decide) rfl rfl rfl dX8_isMixWithin_57 ?_
    refine v_getr K ff_X8_150 (by decide) rfl rfl rfl dX8_isMixWithin_60 ?_
    refine v_iload_n K 2 dX8_isMixWithin_63 rfl rfl ?_
    refine v_iload_n K 3 dX8_isMixWithin_64 rfl rfl ?_
    refine v_cVi K (c_X4_isWithin (MI := M9) 19 (Or.inl rfl) N (by show M9 27 5 = _; rw [f9 _ _ (by omega) (by omega) (by omega), X5.1]; exact hN) h1 N5 u v hu huv hv (fun q hq => by show -10000 ≤ M9 28 q ∧ M9 28 q ≤ 10000; rw [e28]; have := X5.2.2.2 q hq; omega) (by show -50000 ≤ M9 27 1 ∧ M9 27 1 ≤ 50000; rw [e27]; omega)) rfl fc_X8_217 wm_X4_isWithin ws_X4_isWithin (by decide) 4 rfl (by decide) rfl rfl (by decide) (Nat.le_of_ble_eq_true rfl) dX8_isMixWithin_65 (fun r65 M65 L65 h65 => ?_)
    obtain ⟨hm65, hl65, h65⟩ := h65
    subst M65 L65
    have h66 : (r65 = 1 ∧ ∀ d, d < N → M9 28 d * v ≤ u * M9 27 1) ∨ (r65 = 0 ∧ ¬ ∀ d, d < N → M9 28 d * v ≤ u * M9 27 1) := h65
    rw [e28, e27, ← wi_z gm] at h66
    exact v_rz K E (by rcases h66 with q | q <;> omega) dX8_isMixWithin_68 ⟨rfl, f9, k9.1, k9.2.1, k9.2.2, h66⟩
def pvC (MI : ZM) (b c w : Nat) : Int := if w = 0 then MI 4 c - b else MI 4 c + b
def rmC (MI : ZM) (u v : Int) (b c w : Nat) : Prop := 0 ≤ pvC MI b c w ∧ pvC MI b c w ≤ 9 ∧ wi (cTab (z_up MI 4 c (pvC MI b c w))) (MI 0 8).toNat u v
def rK (MI M : ZM) : Prop := mF MI M ∧ cFix M ∧ cKn M ∧ cMx M ∧ M 0 10 = 1 ∧ M 0 11 = 1
theorem rK_s {MI M M' : ZM} (h : rK MI M) (f : iF M M') (k : cFix M' ∧ cKn M' ∧ cMx M') : rK MI M' := ⟨h.1.trans (fun a b q1 q2 => f a b (by omega) (by omega) (by omega)), k.1, k.2.1, k.2.2, by rw [f _ _ (by omega) (by omega) (by omega)]; exact h.2.2.2.2.1, by rw [f _ _ (by omega) (by omega) (by omega)]; exact h.2.2.2.2.2⟩
theorem rK_wi {MI M : ZM} (hM : cOk MI) (h : rK MI M) {N : Nat} (h5 : N ≤ 5) {c : Nat} {p u v : Int} : wi (cTab (z_up M 4 c p)) N u v ↔ wi (cTab (z_up MI 4 c p)) N u v := wi_cg (fun i j hi hj => (coC_pw h.1.co c p).tab (by omega) (by omega))
set_option maxRecDepth 100000 in
set_option maxHeartbeats 4000000 in
theorem l_X8_remedy_c {X : VX} {Q : Nat → Nat} {MI ML : ZM} (K : VK X cX8_remedy RX8 7 (some .int) 6 147 0 0) (hM : cOk MI) (hp : 0 < MI 0 8) (u v : Int) (hu : 1 ≤ u) (huv : u ≤ v) (hv : v ≤ 20) (b : Nat) (hb1 : 1 ≤ b) (hb9 : b ≤ 9) (E : VE X 0 0 110 Q (zq Q (zI fun r M L => L = ML ∧ mF MI M ∧ cFix M ∧ kn M ∧ mK M ∧ ((¬ (1 ≤ v ∧ v ≤ 20 ∧ 1 ≤ u ∧ u ≤ v) ∧ r = -2) ∨ ((1 ≤ v ∧ v ≤ 20 ∧ 1 ≤ u ∧ u ≤ v) ∧ MI 0 8 = 0 ∧ r = -3) ∨ ((1 ≤ v ∧ v ≤ 20 ∧ 1 ≤ u ∧ u ≤ v) ∧ 0 < MI 0 8 ∧ rmF (rmC MI u v) (pvC MI) (MI 1 3).toNat r))))) (kk : ∀ (M : ZM) (c : Nat), (c : Int) = MI 1 3 → rK MI M → nob (rmC MI u v) (MI 1 3).toNat b c 0 → V X (0, 0) 110 Q z_rf M ML 149 [(4, .int (iI (c : Int))), (3, .int (iI (b : Int))), (0, .ref (Q 0)), (1, .int (iI u)), (2, .int (iI v))] []) : ∀ (n c : Nat) (M : ZM), rK MI M → nob (rmC MI u v) (MI 1 3).toNat b c 0 → (c : Int) ≤ MI 1 3 → MI 1 3 < c + n → V X (0, 0) 110 Q z_rf M ML 47 [(4, .int (iI (c : Int))), (3, .int (iI (b : Int))), (0, .ref (Q 0)), (1, .int (iI u)), (2, .int (iI v))] [] := by
  have u4 := hM.2.1
  have u0 := hM.1
  intro n
  induction n with
  | zero => intro c M K0 G hc hn; exact absurd hn (by omega)
  | succ n ih =>
    intro c M K0 G hc hn
    refine v_iload K 0 dX8_remedy_47 rfl ?_
    refine v_aload_n K 2 dX8_remedy_49 rfl rfl ?_
    refine v_getr K ff_X8_10 (by decide) rfl rfl rfl dX8_remedy_50 ?_
    refine v_geti K ff_X8_176 (by decide) rfl rfl dX8_remedy_53 ?_
    refine v_eqi (MI 1 3) (K0.1 1 3 (by omega) (by omega)) ?_
    refine v_icmp_ge K 149 ⟨by omega, by omega⟩ ⟨by omega, by omega⟩ dX8_remedy_56 (by decide) (fun h56 => ?_) (fun h56 => ?_)
    · exact kk M c (by omega) K0 G
    · have uc := hM.2.2.2.1 c (by omega)
      have p0 : pvC MI b c 0 = MI 4 c - b := by unfold pvC; rw [if_pos rfl]
      have p1 : pvC MI b c 1 = MI 4 c + b := by unfold pvC; rw [if_neg (by decide)]
      refine v_aload_n K 2 dX8_remedy_59 rfl rfl ?_
      refine v_getr K ff_X8_10 (by decide) rfl rfl rfl dX8_remedy_60 ?_
      refine v_getr K ff_X8_76 (by decide) rfl rfl rfl dX8_remedy_63 ?_
      refine v_iload K 0 dX8_remedy_66 rfl ?_
      refine v_iald K (c) (by decide) rfl rfl (by show _ < 12; omega) dX8_remedy_68 ?_
      refine v_eqi (MI 4 c) (K0.1 4 c (by omega) (by omega)) ?_
      refine v_iload_n K 1 dX8_remedy_69 rfl rfl ?_
      refine v_isub K dX8_remedy_70 ?_
      refine v_istore K (fun q9 => [(5, .int (iI q9)), (4, .int (iI (c : Int))), (3, .int (iI (b : Int))), (0, .ref (Q 0)), (1, .int (iI u)), (2, .int (iI v))]) dX8_remedy_71 (by decide) (fun _ => rfl) (fun lo hlo => ?_)
      obtain rfl : lo = pvC MI b c 0 := by rw [hlo, p0]
      refine v_aload_n K 3 dX8_remedy_73 rfl rfl ?_
      refine v_getr K ff_X8_10 (by decide) rfl rfl rfl dX8_remedy_74 ?_
      refine v_getr K ff_X8_76 (by decide) rfl rfl rfl dX8_remedy_77 ?_
      refine v_iload K 1 dX8_remedy_80 rfl ?_
      refine v_iald K (c) (by decide) rfl rfl (by show _ < 12; omega) dX8_remedy_82 ?_
      refine v_eqi (MI 4 c) (K0.1 4 c (by omega) (by omega)) ?_
      refine v_iload_n K 2 dX8_remedy_83 rfl rfl ?_
      refine v_iadd K dX8_remedy_84 ?_
      refine v_istore K (fun q9 => [(6, .int (iI q9)), (5, .int (iI (pvC MI b c 0))), (4, .int (iI (c : Int))), (3, .int (iI (b : Int))), (0, .ref (Q 0)), (1, .int (iI u)), (2, .int (iI v))]) dX8_remedy_85 (by decide) (fun _ => rfl) (fun hi hhi => ?_)
      obtain rfl : hi = pvC MI b c 1 := by rw [hhi, p1]
      refine v_iload K 1 dX8_remedy_87 rfl ?_
      refine v_if_lt K 114 ⟨by omega, by omega⟩ dX8_remedy_89 (by decide) (fun h89 => ?_) (fun h89 => ?_)
      · have K1 := K0
        have G1 : nob (rmC MI u v) (MI 1 3).toNat b c 1 := nob_w G (fun z => by have := z.1; omega)
        refine v_iload K 0 dX8_remedy_114 rfl ?_
        refine v_bipush K dX8_remedy_116 (by decide) ?_
        refine v_icmp_gt K 143 ⟨by omega, by omega⟩ ⟨by omega, by omega⟩ dX8_remedy_118 (by decide) (fun h118 => ?_) (fun h118 => ?_)
        · have K2 := K1
          have G2 : nob (rmC MI u v) (MI 1 3).toNat b c 2 := nob_w G1 (fun z => by have := z.2.1; omega)
          refine v_iinc K 2 (fun q9 => [(4, .int (iI q9)), (6, .int (iI (pvC MI b c 1))), (5, .int (iI (pvC MI b c 0))), (3, .int (iI (b : Int))), (0, .ref (Q 0)), (1, .int (iI u)), (2, .int (iI v))]) dX8_remedy_143 rfl (by decide) (fun _ => rfl) (fun w hw => ?_)
          refine v_goto K 47 dX8_remedy_146 (by decide) ?_
          obtain rfl : w = ((c + 1 : Nat) : Int) := by omega
          refine v_sub K [0, 3, 4, 5, 6] rfl ?_
          exact ih (c + 1) _ K2 (nob_c G2) (by omega) (by omega)
        · refine v_aload_n K 4 dX8_remedy_121 rfl rfl ?_
          refine v_iload_n K 5 dX8_remedy_122 rfl rfl ?_
          refine v_iload_n K 6 dX8_remedy_123 rfl rfl ?_
          refine v_iload K 2 dX8_remedy_124 rfl ?_
          refine v_iload K 0 dX8_remedy_126 rfl ?_
          refine v_cVi K (c_X8_isMixWithin (K1.1.co.ok hM) K1.2.1 K1.2.2.1 K1.2.2.2.1 (MI 0 8).toNat (by rw [K1.1 0 8 (by omega) (by omega)]; omega) (by omega) u v hu huv hv c (by rw [K1.1 1 3 (by omega) (by omega)]; omega) (pvC MI b c 1) (by omega) (by omega) _ rfl) rfl fc_X8_177 wm_X8_isMixWithin ws_X8_isMixWithin (by decide) 8 rfl (by decide) rfl rfl (by decide) (Nat.le_of_ble_eq_true rfl) dX8_remedy_128 (fun r128 M128 L128 h128 => ?_)
          obtain ⟨hl128, I128, J1, J2, J3, h128⟩ := h128
          subst L128
          rw [rK_wi hM K1 (by omega)] at h128
          have K128 := rK_s K1 I128 ⟨J1, J2, J3⟩
          refine v_if_eq K 143 (by rcases h128 with q | q <;> exact ⟨by omega, by omega⟩) dX8_remedy_131 (by decide) (fun h131 => ?_) (fun h131 => ?_)
          · have K2 := K128
            have G2 : nob (rmC MI u v) (MI 1 3).toNat b c 2 := nob_w G1 (fun z => by rcases h128 with ⟨q, -⟩ | ⟨-, q⟩; exact absurd q (by omega); exact q z.2.2)
            refine v_iinc K 2 (fun q9 => [(4, .int (iI q9)), (6, .int (iI (pvC MI b c 1))), (5, .int (iI (pvC MI b c 0))), (3, .int (iI (b : Int))), (0, .ref (Q 0)), (1, .int (iI u)), (2, .int (iI v))]) dX8_remedy_143 rfl (by decide) (fun _ => rfl) (fun w hw => ?_)
            refine v_goto K 47 dX8_remedy_146 (by decide) ?_
            obtain rfl : w = ((c + 1 : Nat) : Int) := by omega
            refine v_sub K [0, 3, 4, 5, 6] rfl ?_
            exact ih (c + 1) _ K2 (nob_c G2) (by omega) (by omega)
          · refine v_bipush K dX8_remedy_134 (by decide) ?_
            refine v_iload K 2 dX8_remedy_136 rfl ?_
            refine v_imul K dX8_remedy_138 ?_
            refine v_iload K 0 dX8_remedy_139 rfl ?_
            refine v_iadd K dX8_remedy_141 ?_
            exact v_ri K E dX8_remedy_142 ⟨rfl, K128.1, K128.2.1, Or.inr ⟨K128.2.2.2.2.1, K128.2.2.1⟩, Or.inr ⟨K128.2.2.2.2.2, K128.2.2.2.1⟩, Or.inr (Or.inr ⟨by omega, hp, Or.inl ⟨b, c, 1, hb1, hb9, by omega, by omega, ⟨by omega, by omega, by rcases h128 with ⟨-, q⟩ | ⟨q, -⟩; exact q; exact absurd q (by omega)⟩, G1, rfl⟩⟩)⟩
      · refine v_aload_n K 4 dX8_remedy_92 rfl rfl ?_
        refine v_iload_n K 5 dX8_remedy_93 rfl rfl ?_
        refine v_iload_n K 6 dX8_remedy_94 rfl rfl ?_
        refine v_iload K 2 dX8_remedy_95 rfl ?_
        refine v_iload K 1 dX8_remedy_97 rfl ?_
        refine v_cVi K (c_X8_isMixWithin (K0.1.co.ok hM) K0.2.1 K0.2.2.1 K0.2.2.2.1 (MI 0 8).toNat (by rw [K0.1 0 8 (by omega) (by omega)]; omega) (by omega) u v hu huv hv c (by rw [K0.1 1 3 (by omega) (by omega)]; omega) (pvC MI b c 0) (by omega) (by omega) _ rfl) rfl fc_X8_177 wm_X8_isMixWithin ws_X8_isMixWithin (by decide) 8 rfl (by decide) rfl rfl (by decide) (Nat.le_of_ble_eq_true rfl) dX8_remedy_99 (fun r99 M99 L99 h99 => ?_)
        obtain ⟨hl99, I99, J1, J2, J3, h99⟩ := h99
        subst L99
        rw [rK_wi hM K0 (by omega)] at h99
        have K99 := rK_s K0 I99 ⟨J1, J2, J3⟩
        refine v_if_eq K 114 (by rcases h99 with q | q <;> exact ⟨by omega, by omega⟩) dX8_remedy_102 (by decide) (fun h102 => ?_) (fun h102 => ?_)
        · have K1 := K99
          have G1 : nob (rmC MI u v) (MI 1 3).toNat b c 1 := nob_w G (fun z => by rcases h99 with ⟨q, -⟩ | ⟨-, q⟩; exact absurd q (by omega); exact q z.2.2)
          refine v_iload K 0 dX8_remedy_114 rfl ?_
          refine v_bipush K dX8_remedy_116 (by decide) ?_
          refine v_icmp_gt K 143 ⟨by omega, by omega⟩ ⟨by omega, by omega⟩ dX8_remedy_118 (by decide) (fun h118 => ?_) (fun h118 => ?_)
          · have K2 := K1
            have G2 : nob (rmC MI u v) (MI 1 3).toNat b c 2 := nob_w G1 (fun z => by have := z.2.1; omega)
            refine v_iinc K 2 (fun q9 => [(4, .int (iI q9)), (6, .int (iI (pvC MI b c 1))), (5, .int (iI (pvC MI b c 0))), (3, .int (iI (b : Int))), (0, .ref (Q 0)), (1, .int (iI u)), (2, .int (iI v))]) dX8_remedy_143 rfl (by decide) (fun _ => rfl) (fun w hw => ?_)
            refine v_goto K 47 dX8_remedy_146 (by decide) ?_
            obtain rfl : w = ((c + 1 : Nat) : Int) := by omega
            refine v_sub K [0, 3, 4, 5, 6] rfl ?_
            exact ih (c + 1) _ K2 (nob_c G2) (by omega) (by omega)
          · refine v_aload_n K 4 dX8_remedy_121 rfl rfl ?_
            refine v_iload_n K 5 dX8_remedy_122 rfl rfl ?_
            refine v_iload_n K 6 dX8_remedy_123 rfl rfl ?_
            refine v_iload K 2 dX8_remedy_124 rfl ?_
            refine v_iload K 0 dX8_remedy_126 rfl ?_
            refine v_cVi K (c_X8_isMixWithin (K1.1.co.ok hM) K1.2.1 K1.2.2.1 K1.2.2.2.1 (MI 0 8).toNat (by rw [K1.1 0 8 (by omega) (by omega)]; omega) (by omega) u v hu huv hv c (by rw [K1.1 1 3 (by omega) (by omega)]; omega) (pvC MI b c 1) (by omega) (by omega) _ rfl) rfl fc_X8_177 wm_X8_isMixWithin ws_X8_isMixWithin (by decide) 8 rfl (by decide) rfl rfl (by decide) (Nat.le_of_ble_eq_true rfl) dX8_remedy_128 (fun r128 M128 L128 h128 => ?_)
            obtain ⟨hl128, I128, J1, J2, J3, h128⟩ := h128
            subst L128
            rw [rK_wi hM K1 (by omega)] at h128
            have K128 := rK_s K1 I128 ⟨J1, J2, J3⟩
            refine v_if_eq K 143 (by rcases h128 with q | q <;> exact ⟨by omega, by omega⟩) dX8_remedy_131 (by decide) (fun h131 => ?_) (fun h131 => ?_)
            · have K2 := K128
              have G2 : nob (rmC MI u v) (MI 1 3).toNat b c 2 := nob_w G1 (fun z => by rcases h128 with ⟨q, -⟩ | ⟨-, q⟩; exact absurd q (by omega); exact q z.2.2)
              refine v_iinc K 2 (fun q9 => [(4, .int (iI q9)), (6, .int (iI (pvC MI b c 1))), (5, .int (iI (pvC MI b c 0))), (3, .int (iI (b : Int))), (0, .ref (Q 0)), (1, .int (iI u)), (2, .int (iI v))]) dX8_remedy_143 rfl (by decide) (fun _ => rfl) (fun w hw => ?_)
              refine v_goto K 47 dX8_remedy_146 (by decide) ?_
              obtain rfl : w = ((c + 1 : Nat) : Int) := by omega
              refine v_sub K [0, 3, 4, 5, 6] rfl ?_
              exact ih (c + 1) _ K2 (nob_c G2) (by omega) (by omega)
            · refine v_bipush K dX8_remedy_134 (by decide) ?_
              refine v_iload K 2 dX8_remedy_136 rfl ?_
              refine v_imul K dX8_remedy_138 ?_
              refine v_iload K 0 dX8_remedy_139 rfl ?_
              refine v_iadd K dX8_remedy_141 ?_
              exact v_ri K E dX8_remedy_142 ⟨rfl, K128.1, K128.2.1, Or.inr ⟨K128.2.2.2.2.1, K128.2.2.1⟩, Or.inr ⟨K128.2.2.2.2.2, K128.2.2.2.1⟩, Or.inr (Or.inr ⟨by omega, hp, Or.inl ⟨b, c, 1, hb1, hb9, by omega, by omega, ⟨by omega, by omega, by rcases h128 with ⟨-, q⟩ | ⟨q, -⟩; exact q; exact absurd q (by omega)⟩, G1, rfl⟩⟩)⟩
        · refine v_bipush K dX8_remedy_105 (by decide) ?_
          refine v_iload K 2 dX8_remedy_107 rfl ?_
          refine v_imul K dX8_remedy_109 ?_
          refine v_iload K 1 dX8_remedy_110 rfl ?_
          refine v_iadd K dX8_remedy_112 ?_
          exact v_ri K E dX8_remedy_113 ⟨rfl, K99.1, K99.2.1, Or.inr ⟨K99.2.2.2.2.1, K99.2.2.1⟩, Or.inr ⟨K99.2.2.2.2.2, K99.2.2.2.1⟩, Or.inr (Or.inr ⟨by omega, hp, Or.inl ⟨b, c, 0, hb1, hb9, by omega, by omega, ⟨by omega, by omega, by rcases h99 with ⟨-, q⟩ | ⟨q, -⟩; exact q; exact absurd q (by omega)⟩, G, rfl⟩⟩)⟩
set_option maxRecDepth 100000 in
set_option maxHeartbeats 4000000 in
theorem l_X8_remedy_b {X : VX} {Q : Nat → Nat} {MI ML : ZM} (K : VK X cX8_remedy RX8 7 (some .int) 6 147 0 0) (hM : cOk MI) (hp : 0 < MI 0 8) (u v : Int) (hu : 1 ≤ u) (huv : u ≤ v) (hv : v ≤ 20) (E : VE X 0 0 110 Q (zq Q (zI fun r M L => L = ML ∧ mF MI M ∧ cFix M ∧ kn M ∧ mK M ∧ ((¬ (1 ≤ v ∧ v ≤ 20 ∧ 1 ≤ u ∧ u ≤ v) ∧ r = -2) ∨ ((1 ≤ v ∧ v ≤ 20 ∧ 1 ≤ u ∧ u ≤ v) ∧ MI 0 8 = 0 ∧ r = -3) ∨ ((1 ≤ v ∧ v ≤ 20 ∧ 1 ≤ u ∧ u ≤ v) ∧ 0 < MI 0 8 ∧ rmF (rmC MI u v) (pvC MI) (MI 1 3).toNat r))))) : ∀ (n b : Nat) (M : ZM), rK MI M → nob (rmC MI u v) (MI 1 3).toNat b 0 0 → 1 ≤ b → b ≤ 10 → 10 < b + n → V X (0, 0) 110 Q z_rf M ML 38 [(3, .int (iI (b : Int))), (0, .ref (Q 0)), (1, .int (iI u)), (2, .int (iI v))] [] := by
  have u0 := hM.1
  intro n
  induction n with
  | zero => intro b M K0 G hb1 hb hn; exact absurd hn (by omega)
  | succ n ih =>
    intro b M K0 G hb1 hb hn
    refine v_iload_n K 0 dX8_remedy_38 rfl rfl ?_
    refine v_bipush K dX8_remedy_39 (by decide) ?_
    refine v_icmp_gt K 155 ⟨by omega, by omega⟩ ⟨by omega, by omega⟩ dX8_remedy_41 (by decide) (fun h41 => ?_) (fun h41 => ?_)
    · obtain rfl : b = 10 := (by omega)
      refine v_iconst K dX8_remedy_155 ?_
      exact v_ri K E dX8_remedy_156 ⟨rfl, K0.1, K0.2.1, Or.inr ⟨K0.2.2.2.2.1, K0.2.2.1⟩, Or.inr ⟨K0.2.2.2.2.2, K0.2.2.2.1⟩, Or.inr (Or.inr ⟨by omega, hp, Or.inr ⟨G, rfl⟩⟩)⟩
    · refine v_iconst K dX8_remedy_44 ?_
      refine v_istore K (fun q9 => [(4, .int (iI q9)), (3, .int (iI (b : Int))), (0, .ref (Q 0)), (1, .int (iI u)), (2, .int (iI v))]) dX8_remedy_45 (by decide) (fun _ => rfl) (fun c0 hc0 => ?_)
      subst hc0
      refine l_X8_remedy_c (ML := ML) K hM hp u v hu huv hv b hb1 (by omega) E (fun M c hc K0 G => ?_) 13 0 M K0 G (by omega) (by omega)
      refine v_iinc K 1 (fun q9 => [(3, .int (iI q9)), (4, .int (iI (c : Int))), (0, .ref (Q 0)), (1, .int (iI u)), (2, .int (iI v))]) dX8_remedy_149 rfl (by decide) (fun _ => rfl) (fun b2 hb2 => ?_)
      refine v_goto K 38 dX8_remedy_152 (by decide) ?_
      obtain rfl : b2 = ((b + 1 : Nat) : Int) := by omega
      refine v_sub K [0, 2, 3, 4] rfl ?_
      exact ih (b + 1) _ K0 (nob_b (by rw [show (MI 1 3).toNat = c by omega] at G ⊢; exact G)) (by omega) (by omega) (by omega)
set_option maxRecDepth 100000 in
set_option maxHeartbeats 4000000 in
theorem c_X8_remedy {l : Launch} {D : va_G} {Z : ZC} {Q : Nat → Nat} {MI ML : ZM} (hM : cOk MI) (hF : cFix MI) (hK : kn MI) (hX : mK MI) (u v : Int) (hu9 : rg u) (hv9 : rg v) : C_X8_remedy l D Z Q [.ref (Q 0), .int (iI u), .int (iI v)] MI ML (zI fun r M L => L = ML ∧ mF MI M ∧ cFix M ∧ kn M ∧ mK M ∧ ((¬ (1 ≤ v ∧ v ≤ 20 ∧ 1 ≤ u ∧ u ≤ v) ∧ r = -2) ∨ ((1 ≤ v ∧ v ≤ 20 ∧ 1 ≤ u ∧ u ≤ v) ∧ MI 0 8 = 0 ∧ r = -3) ∨ ((1 ≤ v ∧ v ≤ 20 ∧ 1 ≤ u ∧ u ≤ v) ∧ 0 < MI 0 8 ∧ rmF (rmC MI u v) (pvC MI) (MI 1 3).toNat r))) := by
  refine CM.of (by decide +kernel) (Nat.le_of_ble_eq_true rfl) ?_
  intro X K E _ _ _ _
  show V X (0, 0) 110 Q z_rf MI ML 0 [(0, .ref (Q 0)), (1, .int (iI u)), (2, .int (iI v))] []
  have u4 := hM.2.1
  refine v_iload_n K 2 dX8_remedy_0 rfl rfl ?_
  refine v_iconst K dX8_remedy_1 ?_
  refine v_bipush K dX8_remedy_2 (by decide) ?_
  refine v_cSi K (c_X8_isOutside _ _ _ hv9 ⟨by omega, by omega⟩ ⟨by omega, by omega⟩) rfl fc_X8_64 wt_X8_isOutside rfl (by decide) (Nat.le_of_ble_eq_true rfl) dX8_remedy_4 (fun r4 M4 L4 h4 => ?_)
  obtain ⟨hm4, hl4, hr4⟩ := h4
  subst M4 L4
  refine v_if_ne K 19 ⟨by omega, by omega⟩ dX8_remedy_7 (by decide) (fun h7 => ?_) (fun h7 => ?_)
  · refine v_bipush K dX8_remedy_19 (by decide) ?_
    exact v_ri K E dX8_remedy_21 ⟨rfl, mF.rf _, hF, hK, hX, Or.inl ⟨by omega, rfl⟩⟩
  · refine v_iload_n K 1 dX8_remedy_10 rfl rfl ?_
    refine v_iconst K dX8_remedy_11 ?_
    refine v_iload_n K 2 dX8_remedy_12 rfl rfl ?_
    refine v_cSi K (c_X8_isOutside _ _ _ hu9 ⟨by omega, by omega⟩ hv9) rfl fc_X8_64 wt_X8_isOutside rfl (by decide) (Nat.le_of_ble_eq_true rfl) dX8_remedy_13 (fun r13 M13 L13 h13 => ?_)
    obtain ⟨hm13, hl13, hr13⟩ := h13
    subst M13 L13
    refine v_if_eq K 22 ⟨by omega, by omega⟩ dX8_remedy_16 (by decide) (fun h16 => ?_) (fun h16 => ?_)
    · refine v_aload_n K 0 dX8_remedy_22 rfl rfl ?_
      refine v_geti K ff_X8_82 (by decide) rfl rfl dX8_remedy_23 ?_
      refine v_if_ne K 32 ⟨by omega, by omega⟩ dX8_remedy_26 (by decide) (fun h26 => ?_) (fun h26 => ?_)
      · refine v_aload_n K 0 dX8_remedy_32 rfl rfl ?_
        refine v_cVv K (c_X8_learnMix hM hF hK hX (by omega)) rfl fc_X8_147 wm_X8_learnMix ws_X8_learnMix (by decide) 8 rfl (by decide) rfl rfl (by decide) (Nat.le_of_ble_eq_true rfl) dX8_remedy_33 (fun M33 L33 h33 => ?_)
        obtain ⟨hl33, G1, G2, G3, G4, G5⟩ := h33
        subst L33
        refine v_iconst K dX8_remedy_36 ?_
        refine v_istore_n K (fun q9 => [(3, .int (iI q9)), (0, .ref (Q 0)), (1, .int (iI u)), (2, .int (iI v))]) dX8_remedy_37 rfl (by decide) (fun _ => rfl) (fun b0 hb0 => ?_)
        subst hb0
        exact l_X8_remedy_b (ML := ML) K hM (by omega) u v (by omega) (by omega) (by omega) E 10 1 M33 ⟨G1, G2, G3.2, G5, G3.1, G4⟩ (fun b c w h1 _ _ _ q => by unfold bef at q; omega) (by omega) (by omega) (by omega)
      · refine v_bipush K dX8_remedy_29 (by decide) ?_
        exact v_ri K E dX8_remedy_31 ⟨rfl, mF.rf _, hF, hK, hX, Or.inr (Or.inl ⟨by omega, by omega, rfl⟩)⟩
    · refine v_bipush K dX8_remedy_19 (by decide) ?_
      exact v_ri K E dX8_remedy_21 ⟨rfl, mF.rf _, hF, hK, hX, Or.inl ⟨by omega, rfl⟩⟩
