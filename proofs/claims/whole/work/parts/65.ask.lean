theorem mF.cm {M M1 : ZM} (h : mF M M1) : coM M M1 := ⟨fun k q1 q2 => funext fun b => h k b (by omega) (by omega), h _ _ (by omega) (by omega), h _ _ (by omega) (by omega), h _ _ (by omega) (by omega)⟩
theorem coM.dr {M M1 : ZM} (h : coM M M1) (d p : Nat) : coM (drD M d p) (drD M1 d p) := by
  have e94 := h.1 94 (by decide) (by decide)
  have e95 := h.1 95 (by decide) (by decide)
  refine ⟨fun k h1 h2 => ?_, ?_, ?_, ?_⟩
  · funext b
    rw [drD_at, drD_at, e94, e95, h.1 k h1 h2]
  · rw [drD_at, drD_at, if_neg (by omega), if_neg (by omega), if_neg (by omega), if_neg (by omega)]; exact h.2.1
  · rw [drD_at, drD_at, if_neg (by omega), if_neg (by omega), if_neg (by omega), if_neg (by omega)]; exact h.2.2.1
  · rw [drD_at, drD_at, if_neg (by omega), if_neg (by omega), if_neg (by omega), if_neg (by omega)]; exact h.2.2.2
theorem b_play {M M1 M2 L0 L1 L2 : ZM} {r1 r2 : Int} (I : Inv M) {a b : Int} (h1 : L1 = L0 ∧ qF M M1 ∧ cFix M1 ∧ kn M1 ∧ ((¬ (0 ≤ a ∧ a < M 0 8 ∧ 0 ≤ b ∧ b < M 0 8) ∧ r1 = -2) ∨ ((0 ≤ a ∧ a < M 0 8 ∧ 0 ≤ b ∧ b < M 0 8) ∧ r1 = gRes (cGame M a.toNat b.toNat).2))) (h2 : L2 = L1 ∧ scM M1 M2 ∧ ((¬ (0 ≤ a ∧ a < M1 90 4 ∧ 0 ≤ b ∧ b < M1 90 4) ∧ r2 = -2) ∨ ((0 ≤ a ∧ a < M1 90 4 ∧ 0 ≤ b ∧ b < M1 90 4) ∧ r2 = mRes M1 a.toNat b.toNat))) : r1 = r2 ∧ Inv M2 := by
  obtain ⟨ok, hF, hK, hX, r⟩ := id I
  have u4 := ok.2.1
  obtain ⟨-, q, F, K, g1⟩ := h1
  obtain ⟨-, sc, g2⟩ := h2
  have I2 : Inv M2 := inv_q I q.m F K (mK_q ok q hX) (fun a b h => sc a b (by omega) (by omega)) sc.co
  have cm := q.m.cm
  have e4 : M1 90 4 = M 0 8 := cm.2.2.1.trans r.2.1
  have e0 : M1 90 0 = M 1 3 := cm.2.1.trans r.1
  have tb : ∀ i j, i < 5 → j < 5 → mTab M1 i j = cTab M i j := fun i j hi hj => (cm.tab i j).trans (r.tab ok hi hj)
  have gm : ∀ i j, i < 5 → j < 5 → mGame M1 i j = cGame M i j := fun i j hi hj => (cm.game i j).trans (r.game ok hi hj)
  refine ⟨?_, I2⟩
  rw [e4] at g2
  rcases g1 with ⟨n1, g1⟩ | ⟨o1, g1⟩ <;> rcases g2 with ⟨n2, g2⟩ | ⟨o2, g2⟩
  · rw [g1, g2]
  · exact absurd o2 n1
  · exact absurd o1 n2
  · rw [g1, g2]; unfold mRes; rw [gm _ _ (by omega) (by omega)]
theorem b_told {M M1 M2 L0 L1 L2 : ZM} {r1 r2 : Int} (I : Inv M) {a b w : Int} (h1 : L1 = L0 ∧ qF M M1 ∧ cFix M1 ∧ kn M1 ∧ (((¬ (0 ≤ a ∧ a < M 0 8 ∧ 0 ≤ b ∧ b < M 0 8) ∨ w < 0 ∨ 4 < w) ∧ r1 = -2147483648) ∨ ((0 ≤ a ∧ a < M 0 8 ∧ 0 ≤ b ∧ b < M 0 8) ∧ ((w = 0 ∧ r1 = (cGame M a.toNat b.toNat).1) ∨ (w = 1 ∧ r1 = (cGame M a.toNat b.toNat).2.1) ∨ (w = 2 ∧ r1 = (cGame M a.toNat b.toNat).2.2.1) ∨ (w = 3 ∧ r1 = (cGame M a.toNat b.toNat).2.2.2.1.2.2) ∨ (w = 4 ∧ r1 = (cGame M a.toNat b.toNat).2.2.2.2.2.2))))) (h2 : L2 = L1 ∧ scM M1 M2 ∧ (((¬ (0 ≤ a ∧ a < M1 90 4 ∧ 0 ≤ b ∧ b < M1 90 4) ∨ w < 0 ∨ 4 < w) ∧ r2 = -2147483648) ∨ ((0 ≤ a ∧ a < M1 90 4 ∧ 0 ≤ b ∧ b < M1 90 4) ∧ ((w = 0 ∧ r2 = (mGame M1 a.toNat b.toNat).1) ∨ (w = 1 ∧ r2 = (mGame M1 a.toNat b.toNat).2.1) ∨ (w = 2 ∧ r2 = (mGame M1 a.toNat b.toNat).2.2.1) ∨ (w = 3 ∧ r2 = (mGame M1 a.toNat b.toNat).2.2.2.1.2.2) ∨ (w = 4 ∧ r2 = (mGame M1 a.toNat b.toNat).2.2.2.2.2.2))))) : r1 = r2 ∧ Inv M2 := by
  obtain ⟨ok, hF, hK, hX, r⟩ := id I
  have u4 := ok.2.1
  obtain ⟨-, q, F, K, g1⟩ := h1
  obtain ⟨-, sc, g2⟩ := h2
  have I2 : Inv M2 := inv_q I q.m F K (mK_q ok q hX) (fun a b h => sc a b (by omega) (by omega)) sc.co
  have cm := q.m.cm
  have e4 : M1 90 4 = M 0 8 := cm.2.2.1.trans r.2.1
  have e0 : M1 90 0 = M 1 3 := cm.2.1.trans r.1
  have tb : ∀ i j, i < 5 → j < 5 → mTab M1 i j = cTab M i j := fun i j hi hj => (cm.tab i j).trans (r.tab ok hi hj)
  have gm : ∀ i j, i < 5 → j < 5 → mGame M1 i j = cGame M i j := fun i j hi hj => (cm.game i j).trans (r.game ok hi hj)
  refine ⟨?_, I2⟩
  rw [e4] at g2
  by_cases o : 0 ≤ a ∧ a < M 0 8 ∧ 0 ≤ b ∧ b < M 0 8
  · rw [gm _ _ (by omega) (by omega)] at g2
    omega
  · omega
theorem b_table {M M1 M2 L0 L1 L2 : ZM} {r1 r2 : Int} (I : Inv M) {a b : Int} (h1 : L1 = L0 ∧ qF M M1 ∧ cFix M1 ∧ kn M1 ∧ ((¬ (0 ≤ a ∧ a < M 0 8 ∧ 0 ≤ b ∧ b < M 0 8) ∧ r1 = -2147483648) ∨ ((0 ≤ a ∧ a < M 0 8 ∧ 0 ≤ b ∧ b < M 0 8) ∧ r1 = cTab M a.toNat b.toNat))) (h2 : L2 = L1 ∧ scM M1 M2 ∧ ((¬ (0 ≤ a ∧ a < M1 90 4 ∧ 0 ≤ b ∧ b < M1 90 4) ∧ r2 = -2147483648) ∨ ((0 ≤ a ∧ a < M1 90 4 ∧ 0 ≤ b ∧ b < M1 90 4) ∧ r2 = mTab M1 a.toNat b.toNat))) : r1 = r2 ∧ Inv M2 := by
  obtain ⟨ok, hF, hK, hX, r⟩ := id I
  have u4 := ok.2.1
  obtain ⟨-, q, F, K, g1⟩ := h1
  obtain ⟨-, sc, g2⟩ := h2
  have I2 : Inv M2 := inv_q I q.m F K (mK_q ok q hX) (fun a b h => sc a b (by omega) (by omega)) sc.co
  have cm := q.m.cm
  have e4 : M1 90 4 = M 0 8 := cm.2.2.1.trans r.2.1
  have e0 : M1 90 0 = M 1 3 := cm.2.1.trans r.1
  have tb : ∀ i j, i < 5 → j < 5 → mTab M1 i j = cTab M i j := fun i j hi hj => (cm.tab i j).trans (r.tab ok hi hj)
  have gm : ∀ i j, i < 5 → j < 5 → mGame M1 i j = cGame M i j := fun i j hi hj => (cm.game i j).trans (r.game ok hi hj)
  refine ⟨?_, I2⟩
  rw [e4] at g2
  rcases g1 with ⟨n1, g1⟩ | ⟨o1, g1⟩ <;> rcases g2 with ⟨n2, g2⟩ | ⟨o2, g2⟩
  · rw [g1, g2]
  · exact absurd o2 n1
  · exact absurd o1 n2
  · rw [g1, g2, tb _ _ (by omega) (by omega)]
theorem b_rings {M M1 M2 L0 L1 L2 : ZM} {r1 r2 : Int} (I : Inv M)  (h1 : L1 = L0 ∧ qF M M1 ∧ cFix M1 ∧ kn M1 ∧ r1 = (rgs (cTab M) (M 0 8).toNat).length) (h2 : L2 = L1 ∧ scR M1 M2 ∧ r2 = (rgs (mTab M1) (M1 90 4).toNat).length) : r1 = r2 ∧ Inv M2 := by
  obtain ⟨ok, hF, hK, hX, r⟩ := id I
  have u4 := ok.2.1
  obtain ⟨-, q, F, K, g1⟩ := h1
  obtain ⟨-, sc, g2⟩ := h2
  have I2 : Inv M2 := inv_q I q.m F K (mK_q ok q hX) (fun a b h => sc a b (by omega) (by omega)) sc.co
  have cm := q.m.cm
  have e4 : M1 90 4 = M 0 8 := cm.2.2.1.trans r.2.1
  have e0 : M1 90 0 = M 1 3 := cm.2.1.trans r.1
  have tb : ∀ i j, i < 5 → j < 5 → mTab M1 i j = cTab M i j := fun i j hi hj => (cm.tab i j).trans (r.tab ok hi hj)
  have gm : ∀ i j, i < 5 → j < 5 → mGame M1 i j = cGame M i j := fun i j hi hj => (cm.game i j).trans (r.game ok hi hj)
  refine ⟨?_, I2⟩
  rw [e4] at g2
  rw [g1, g2, rgs_congr (U := cTab M) (fun i j h1 h2 => tb i j (by omega) (by omega))]
theorem b_ring {M M1 M2 L0 L1 L2 : ZM} {r1 r2 : Int} (I : Inv M) {k j : Int} (h1 : L1 = L0 ∧ qF M M1 ∧ cFix M1 ∧ kn M1 ∧ ((¬ (0 ≤ k ∧ k < (rgs (cTab M) (M 0 8).toNat).length ∧ 0 ≤ j ∧ j ≤ 2) ∧ r1 = -2) ∨ ((0 ≤ k ∧ k < (rgs (cTab M) (M 0 8).toNat).length ∧ 0 ≤ j ∧ j ≤ 2) ∧ (∃ q, (rgs (cTab M) (M 0 8).toNat)[k.toNat]? = some q ∧ ((j = 0 ∧ r1 = q.1) ∨ (j = 1 ∧ r1 = q.2.1) ∨ (j = 2 ∧ r1 = q.2.2)))))) (h2 : L2 = L1 ∧ scR M1 M2 ∧ ((¬ (0 ≤ k ∧ k < (rgs (mTab M1) (M1 90 4).toNat).length ∧ 0 ≤ j ∧ j ≤ 2) ∧ r2 = -2) ∨ ((0 ≤ k ∧ k < (rgs (mTab M1) (M1 90 4).toNat).length ∧ 0 ≤ j ∧ j ≤ 2) ∧ (∃ q, (rgs (mTab M1) (M1 90 4).toNat)[k.toNat]? = some q ∧ ((j = 0 ∧ r2 = q.1) ∨ (j = 1 ∧ r2 = q.2.1) ∨ (j = 2 ∧ r2 = q.2.2)))))) : r1 = r2 ∧ Inv M2 := by
  obtain ⟨ok, hF, hK, hX, r⟩ := id I
  have u4 := ok.2.1
  obtain ⟨-, q, F, K, g1⟩ := h1
  obtain ⟨-, sc, g2⟩ := h2
  have I2 : Inv M2 := inv_q I q.m F K (mK_q ok q hX) (fun a b h => sc a b (by omega) (by omega)) sc.co
  have cm := q.m.cm
  have e4 : M1 90 4 = M 0 8 := cm.2.2.1.trans r.2.1
  have e0 : M1 90 0 = M 1 3 := cm.2.1.trans r.1
  have tb : ∀ i j, i < 5 → j < 5 → mTab M1 i j = cTab M i j := fun i j hi hj => (cm.tab i j).trans (r.tab ok hi hj)
  have gm : ∀ i j, i < 5 → j < 5 → mGame M1 i j = cGame M i j := fun i j hi hj => (cm.game i j).trans (r.game ok hi hj)
  refine ⟨?_, I2⟩
  rw [e4] at g2
  rw [rgs_congr (U := cTab M) (fun i j h1 h2 => tb i j (by omega) (by omega))] at g2
  rcases g1 with ⟨n1, g1⟩ | ⟨o1, x, x1, x2⟩ <;> rcases g2 with ⟨n2, g2⟩ | ⟨o2, y, y1, y2⟩
  · rw [g1, g2]
  · exact absurd o2 n1
  · exact absurd o1 n2
  · obtain rfl : x = y := Option.some.inj (x1.symm.trans y1)
    omega
theorem b_standing {M M1 M2 L0 L1 L2 : ZM} {r1 r2 : Int} (I : Inv M) {d : Int} (h1 : L1 = L0 ∧ qF M M1 ∧ cFix M1 ∧ kn M1 ∧ ((¬ (0 ≤ d ∧ d < M 0 8) ∧ r1 = -2147483648) ∨ ((0 ≤ d ∧ d < M 0 8) ∧ r1 = sumK (fun b => cTab M d.toNat b) (M 0 8).toNat))) (h2 : L2 = L1 ∧ scM M1 M2 ∧ ((¬ (0 ≤ d ∧ d < M1 90 4) ∧ r2 = -2147483648) ∨ ((0 ≤ d ∧ d < M1 90 4) ∧ r2 = sumK (fun b => mTab M1 d.toNat b) (M1 90 4).toNat))) : r1 = r2 ∧ Inv M2 := by
  obtain ⟨ok, hF, hK, hX, r⟩ := id I
  have u4 := ok.2.1
  obtain ⟨-, q, F, K, g1⟩ := h1
  obtain ⟨-, sc, g2⟩ := h2
  have I2 : Inv M2 := inv_q I q.m F K (mK_q ok q hX) (fun a b h => sc a b (by omega) (by omega)) sc.co
  have cm := q.m.cm
  have e4 : M1 90 4 = M 0 8 := cm.2.2.1.trans r.2.1
  have e0 : M1 90 0 = M 1 3 := cm.2.1.trans r.1
  have tb : ∀ i j, i < 5 → j < 5 → mTab M1 i j = cTab M i j := fun i j hi hj => (cm.tab i j).trans (r.tab ok hi hj)
  have gm : ∀ i j, i < 5 → j < 5 → mGame M1 i j = cGame M i j := fun i j hi hj => (cm.game i j).trans (r.game ok hi hj)
  refine ⟨?_, I2⟩
  rw [e4] at g2
  rcases g1 with ⟨n1, g1⟩ | ⟨o1, g1⟩ <;> rcases g2 with ⟨n2, g2⟩ | ⟨o2, g2⟩
  · rw [g1, g2]
  · exact absurd o2 n1
  · exact absurd o1 n2
  · rw [g1, g2]; exact sumK_congr _ (fun b hb => (tb _ _ (by omega) (by omega)).symm)
theorem b_worth {M M1 M2 L0 L1 L2 : ZM} {r1 r2 : Int} (I : Inv M) {d c : Int} (h1 : L1 = L0 ∧ qF M M1 ∧ cFix M1 ∧ kn M1 ∧ ((¬ ((0 ≤ d ∧ d < M 0 8 ∧ 0 ≤ c ∧ c < M 1 3) ∧ fpl (M (7 + 2 * d.toNat)) c (M (6 + 2 * d.toNat) 1).toNat ≠ -1) ∧ r1 = -2147483648) ∨ (((0 ≤ d ∧ d < M 0 8 ∧ 0 ≤ c ∧ c < M 1 3) ∧ fpl (M (7 + 2 * d.toNat)) c (M (6 + 2 * d.toNat) 1).toNat ≠ -1) ∧ r1 = sumK (fun b => cTab M d.toNat b) (M 0 8).toNat - sumK (wTab M d.toNat (fpl (M (7 + 2 * d.toNat)) c (M (6 + 2 * d.toNat) 1).toNat)) (M 0 8).toNat))) (h2 : L2 = L1 ∧ scM M1 M2 ∧ ((¬ ((0 ≤ d ∧ d < M1 90 4 ∧ 0 ≤ c ∧ c < M1 90 0) ∧ fpl (fun k => M1 95 (10 * d.toNat + k)) c (M1 94 d.toNat).toNat ≠ -1) ∧ r2 = -2147483648) ∨ (((0 ≤ d ∧ d < M1 90 4 ∧ 0 ≤ c ∧ c < M1 90 0) ∧ fpl (fun k => M1 95 (10 * d.toNat + k)) c (M1 94 d.toNat).toNat ≠ -1) ∧ r2 = mSt M1 d.toNat - mSt (drD M1 d.toNat (fpl (fun k => M1 95 (10 * d.toNat + k)) c (M1 94 d.toNat).toNat).toNat) d.toNat))) : r1 = r2 ∧ Inv M2 := by
  obtain ⟨ok, hF, hK, hX, r⟩ := id I
  have u4 := ok.2.1
  obtain ⟨-, q, F, K, g1⟩ := h1
  obtain ⟨-, sc, g2⟩ := h2
  have I2 : Inv M2 := inv_q I q.m F K (mK_q ok q hX) (fun a b h => sc a b (by omega) (by omega)) sc.co
  have cm := q.m.cm
  have e4 : M1 90 4 = M 0 8 := cm.2.2.1.trans r.2.1
  have e0 : M1 90 0 = M 1 3 := cm.2.1.trans r.1
  have tb : ∀ i j, i < 5 → j < 5 → mTab M1 i j = cTab M i j := fun i j hi hj => (cm.tab i j).trans (r.tab ok hi hj)
  have gm : ∀ i j, i < 5 → j < 5 → mGame M1 i j = cGame M i j := fun i j hi hj => (cm.game i j).trans (r.game ok hi hj)
  refine ⟨?_, I2⟩
  rw [e4] at g2
  have fe : ∀ d : Nat, d < 5 → ∀ x : Int, fpl (fun k => M1 95 (10 * d + k)) x (M1 94 d).toNat = fpl (M (7 + 2 * d)) x (M (6 + 2 * d) 1).toNat := fun d hd x => by
    rw [cm.1 95 (by decide) (by decide), cm.1 94 (by decide) (by decide)]; exact r.fp ok hd x
  rw [e0] at g2
  have b0 := fpl_b (M (7 + 2 * d.toNat)) c (M (6 + 2 * d.toNat) 1).toNat
  by_cases o : 0 ≤ d ∧ d < M 0 8 ∧ 0 ≤ c ∧ c < M 1 3
  · rw [fe _ (by omega)] at g2
    rcases g1 with ⟨n1, g1⟩ | ⟨o1, g1⟩ <;> rcases g2 with ⟨n2, g2⟩ | ⟨o2, g2⟩
    · rw [g1, g2]
    · exact absurd o2 n1
    · exact absurd o1 n2
    · have us := ok.2.2.2.2.1 d.toNat (by omega)
      rw [g1, g2]
      unfold mSt
      rw [drD_nd, e4]
      congr 1
      · exact sumK_congr _ (fun b hb => (tb _ _ (by omega) (by omega)).symm)
      · refine sumK_congr _ (fun b hb => ?_)
        rw [(cm.dr _ _).tab, r.w ok (by omega) (by omega) (by omega) (by omega)]
  · rcases g1 with ⟨n1, g1⟩ | ⟨o1, g1⟩ <;> rcases g2 with ⟨n2, g2⟩ | ⟨o2, g2⟩
    · rw [g1, g2]
    · exact absurd o2.1 o
    · exact absurd o1.1 o
    · exact absurd o1.1 o
theorem b_idle {M M1 M2 L0 L1 L2 : ZM} {r1 r2 : Int} (I : Inv M) {d c : Int} (h1 : L1 = L0 ∧ qF M M1 ∧ cFix M1 ∧ kn M1 ∧ ((¬ (0 ≤ d ∧ d < M 0 8 ∧ 0 ≤ c ∧ c < M 1 3) ∧ r1 = -2) ∨ ((0 ≤ d ∧ d < M 0 8 ∧ 0 ≤ c ∧ c < M 1 3) ∧ fpl (M (7 + 2 * d.toNat)) c (M (6 + 2 * d.toNat) 1).toNat = -1 ∧ r1 = -3) ∨ ((0 ≤ d ∧ d < M 0 8 ∧ 0 ≤ c ∧ c < M 1 3) ∧ fpl (M (7 + 2 * d.toNat)) c (M (6 + 2 * d.toNat) 1).toNat ≠ -1 ∧ ((r1 = 1 ∧ ∀ b, b < (M 0 8).toNat → wTab M d.toNat (fpl (M (7 + 2 * d.toNat)) c (M (6 + 2 * d.toNat) 1).toNat) b = cTab M d.toNat b) ∨ (r1 = 0 ∧ ∃ b, b < (M 0 8).toNat ∧ wTab M d.toNat (fpl (M (7 + 2 * d.toNat)) c (M (6 + 2 * d.toNat) 1).toNat) b ≠ cTab M d.toNat b))))) (h2 : L2 = L1 ∧ scX M1 M2 ∧ ((¬ (0 ≤ d ∧ d < M1 90 4 ∧ 0 ≤ c ∧ c < M1 90 0) ∧ r2 = -2) ∨ ((0 ≤ d ∧ d < M1 90 4 ∧ 0 ≤ c ∧ c < M1 90 0) ∧ fpl (fun k => M1 95 (10 * d.toNat + k)) c (M1 94 d.toNat).toNat = -1 ∧ r2 = -3) ∨ ((0 ≤ d ∧ d < M1 90 4 ∧ 0 ≤ c ∧ c < M1 90 0) ∧ fpl (fun k => M1 95 (10 * d.toNat + k)) c (M1 94 d.toNat).toNat ≠ -1 ∧ idS M1 (drD M1 d.toNat (fpl (fun k => M1 95 (10 * d.toNat + k)) c (M1 94 d.toNat).toNat).toNat) d.toNat (M1 90 4).toNat r2))) : r1 = r2 ∧ Inv M2 := by
  obtain ⟨ok, hF, hK, hX, r⟩ := id I
  have u4 := ok.2.1
  obtain ⟨-, q, F, K, g1⟩ := h1
  obtain ⟨-, sc, g2⟩ := h2
  have I2 : Inv M2 := inv_q I q.m F K (mK_q ok q hX) (fun a b h => sc a b (by omega) (by omega) (by omega)) sc.co
  have cm := q.m.cm
  have e4 : M1 90 4 = M 0 8 := cm.2.2.1.trans r.2.1
  have e0 : M1 90 0 = M 1 3 := cm.2.1.trans r.1
  have tb : ∀ i j, i < 5 → j < 5 → mTab M1 i j = cTab M i j := fun i j hi hj => (cm.tab i j).trans (r.tab ok hi hj)
  have gm : ∀ i j, i < 5 → j < 5 → mGame M1 i j = cGame M i j := fun i j hi hj => (cm.game i j).trans (r.game ok hi hj)
  refine ⟨?_, I2⟩
  rw [e4] at g2
  have fe : ∀ d : Nat, d < 5 → ∀ x : Int, fpl (fun k => M1 95 (10 * d + k)) x (M1 94 d).toNat = fpl (M (7 + 2 * d)) x (M (6 + 2 * d) 1).toNat := fun d hd x => by
    rw [cm.1 95 (by decide) (by decide), cm.1 94 (by decide) (by decide)]; exact r.fp ok hd x
  rw [e0] at g2
  have b0 := fpl_b (M (7 + 2 * d.toNat)) c (M (6 + 2 * d.toNat) 1).toNat
  by_cases o : 0 ≤ d ∧ d < M 0 8 ∧ 0 ≤ c ∧ c < M 1 3
  · rw [fe _ (by omega)] at g2
    rcases g1 with ⟨n1, g1⟩ | ⟨o1, p1, g1⟩ | ⟨o1, p1, g1⟩ <;> rcases g2 with ⟨n2, g2⟩ | ⟨o2, p2, g2⟩ | ⟨o2, p2, g2⟩
    · exact absurd o n1
    · exact absurd o n1
    · exact absurd o n1
    · exact absurd o n2
    · rw [g1, g2]
    · exact absurd p1 p2
    · exact absurd o n2
    · exact absurd p2 p1
    · have us := ok.2.2.2.2.1 d.toNat (by omega)
      have wt : ∀ b, b < (M 0 8).toNat → mTab (drD M1 d.toNat (fpl (M (7 + 2 * d.toNat)) c (M (6 + 2 * d.toNat) 1).toNat).toNat) d.toNat b = wTab M d.toNat (fpl (M (7 + 2 * d.toNat)) c (M (6 + 2 * d.toNat) 1).toNat) b := fun b hb => by
        rw [(cm.dr _ _).tab, r.w ok (by omega) (by omega) (by omega) (by omega)]
      have tt : ∀ b, b < (M 0 8).toNat → mTab M1 d.toNat b = cTab M d.toNat b := fun b hb => tb _ _ (by omega) (by omega)
      unfold idS at g2
      rcases g1 with ⟨g1, a1⟩ | ⟨g1, b, b1, b2⟩ <;> rcases g2 with ⟨g2, a2⟩ | ⟨g2, b', b1', b2'⟩
      · rw [g1, g2]
      · exact absurd (by rw [wt b' b1', tt b' b1']; exact (a1 b' b1').symm) b2'
      · exact absurd (by have := a2 b b1; rw [wt b b1, tt b b1] at this; exact this.symm) b2
      · rw [g1, g2]
  · rcases g1 with ⟨n1, g1⟩ | ⟨o1, p1, g1⟩ | ⟨o1, p1, g1⟩
    · rcases g2 with ⟨n2, g2⟩ | ⟨o2, p2, g2⟩ | ⟨o2, p2, g2⟩
      · rw [g1, g2]
      · exact absurd o2 o
      · exact absurd o2 o
    · exact absurd o1 o
    · exact absurd o1 o
theorem b_share {M M1 M2 L0 L1 L2 : ZM} {r1 r2 : Int} (I : Inv M) {d p : Int} (h1 : L1 = L0 ∧ mF M M1 ∧ cFix M1 ∧ kn M1 ∧ mK M1 ∧ ((¬ (0 ≤ d ∧ d < M 0 8 ∧ 0 ≤ p ∧ p ≤ 1) ∧ r1 = -2) ∨ ((0 ≤ d ∧ d < M 0 8 ∧ 0 ≤ p ∧ p ≤ 1) ∧ ∃ a b, mixR (cTab M) (M 0 8).toNat a b ∧ r1 = if p = 0 then a d.toNat else b d.toNat))) (h2 : scT M1 M2 ∧ ((¬ (0 ≤ d ∧ d < M1 90 4 ∧ 0 ≤ p ∧ p ≤ 1) ∧ r2 = -2) ∨ ((0 ≤ d ∧ d < M1 90 4 ∧ 0 ≤ p ∧ p ≤ 1) ∧ ∃ a b, mixR (mTab M1) (M1 90 4).toNat a b ∧ r2 = if p = 0 then a d.toNat else b d.toNat))) : r1 = r2 ∧ Inv M2 := by
  obtain ⟨ok, hF, hK, hX, r⟩ := id I
  have u4 := ok.2.1
  obtain ⟨-, q, F, K, x, g1⟩ := h1
  obtain ⟨sc, g2⟩ := h2
  have I2 : Inv M2 := inv_q I q F K x (fun a b h => sc a b (by omega) (by omega)) sc.co
  have cm := q.cm
  have e4 : M1 90 4 = M 0 8 := cm.2.2.1.trans r.2.1
  have e0 : M1 90 0 = M 1 3 := cm.2.1.trans r.1
  have tb : ∀ i j, i < 5 → j < 5 → mTab M1 i j = cTab M i j := fun i j hi hj => (cm.tab i j).trans (r.tab ok hi hj)
  refine ⟨?_, I2⟩
  rw [e4] at g2
  rcases g1 with ⟨n1, g1⟩ | ⟨o1, a, b, m1, g1⟩ <;> rcases g2 with ⟨n2, g2⟩ | ⟨o2, a', b', m2, g2⟩
  · rw [g1, g2]
  · exact absurd o2 n1
  · exact absurd o1 n2
  · have m3 := mixR_cg (T' := cTab M) (fun i j hi hj => tb i j (by omega) (by omega)) m2
    have e := mixR_un m1 m3 d.toNat (by omega)
    rw [g1, g2, e.1, e.2]
theorem b_live {M M1 M2 L0 L1 L2 : ZM} {r1 r2 : Int} (I : Inv M)  (h1 : L1 = L0 ∧ mF M M1 ∧ cFix M1 ∧ kn M1 ∧ mK M1 ∧ ((M 0 8 = 0 ∧ r1 = -3) ∨ (0 < M 0 8 ∧ ∃ z, mxI (cTab M) (M 0 8).toNat z ∧ r1 = sumK (fun q => if 0 < z q then 1 else 0) (M 0 8).toNat))) (h2 : scT M1 M2 ∧ ((M1 90 4 = 0 ∧ r2 = -3) ∨ (0 < M1 90 4 ∧ ∃ a b, mixR (mTab M1) (M1 90 4).toNat a b ∧ r2 = sumK (fun q => if 0 < a q then 1 else 0) (M1 90 4).toNat))) : r1 = r2 ∧ Inv M2 := by
  obtain ⟨ok, hF, hK, hX, r⟩ := id I
  have u4 := ok.2.1
  obtain ⟨-, q, F, K, x, g1⟩ := h1
  obtain ⟨sc, g2⟩ := h2
  have I2 : Inv M2 := inv_q I q F K x (fun a b h => sc a b (by omega) (by omega)) sc.co
  have cm := q.cm
  have e4 : M1 90 4 = M 0 8 := cm.2.2.1.trans r.2.1
  have e0 : M1 90 0 = M 1 3 := cm.2.1.trans r.1
  have tb : ∀ i j, i < 5 → j < 5 → mTab M1 i j = cTab M i j := fun i j hi hj => (cm.tab i j).trans (r.tab ok hi hj)
  refine ⟨?_, I2⟩
  rw [e4] at g2
  rcases g1 with ⟨n1, g1⟩ | ⟨o1, z, m1, g1⟩ <;> rcases g2 with ⟨n2, g2⟩ | ⟨o2, a', b', m2, g2⟩
  · rw [g1, g2]
  · omega
  · omega
  · rw [g1, g2]
    exact live_eq m1 (mixR_cg (T' := cTab M) (fun i j hi hj => tb i j (by omega) (by omega)) m2)
theorem b_remedy {M M1 M2 L0 L1 L2 : ZM} {r1 r2 : Int} (I : Inv M) {u v : Int} (h1 : L1 = L0 ∧ mF M M1 ∧ cFix M1 ∧ kn M1 ∧ mK M1 ∧ ((¬ (1 ≤ v ∧ v ≤ 20 ∧ 1 ≤ u ∧ u ≤ v) ∧ r1 = -2) ∨ ((1 ≤ v ∧ v ≤ 20 ∧ 1 ≤ u ∧ u ≤ v) ∧ M 0 8 = 0 ∧ r1 = -3) ∨ ((1 ≤ v ∧ v ≤ 20 ∧ 1 ≤ u ∧ u ≤ v) ∧ 0 < M 0 8 ∧ rmF (rmC M u v) (pvC M) (M 1 3).toNat r1))) (h2 : scT M1 M2 ∧ ((¬ (1 ≤ v ∧ v ≤ 20 ∧ 1 ≤ u ∧ u ≤ v) ∧ r2 = -2) ∨ ((1 ≤ v ∧ v ≤ 20 ∧ 1 ≤ u ∧ u ≤ v) ∧ M1 90 4 = 0 ∧ r2 = -3) ∨ ((1 ≤ v ∧ v ≤ 20 ∧ 1 ≤ u ∧ u ≤ v) ∧ 0 < M1 90 4 ∧ rmF (rmP M1 u v) (pvM M1) (M1 90 0).toNat r2))) : r1 = r2 ∧ Inv M2 := by
  obtain ⟨ok, hF, hK, hX, r⟩ := id I
  have u4 := ok.2.1
  obtain ⟨-, q, F, K, x, g1⟩ := h1
  obtain ⟨sc, g2⟩ := h2
  have I2 : Inv M2 := inv_q I q F K x (fun a b h => sc a b (by omega) (by omega)) sc.co
  have cm := q.cm
  have e4 : M1 90 4 = M 0 8 := cm.2.2.1.trans r.2.1
  have e0 : M1 90 0 = M 1 3 := cm.2.1.trans r.1
  have tb : ∀ i j, i < 5 → j < 5 → mTab M1 i j = cTab M i j := fun i j hi hj => (cm.tab i j).trans (r.tab ok hi hj)
  refine ⟨?_, I2⟩
  rw [e4] at g2
  have e93 : M1 93 = M 93 := cm.1 93 (by decide) (by decide)
  have ep : pvM M1 = pvM M := by funext b c w; unfold pvM; rw [e93]
  have eP : rmP M1 u v = rmP M u v := by
    funext b c w
    unfold rmP
    rw [ep, cm.2.2.1, show mTab (z_up M1 93 c (pvM M b c w)) = mTab (z_up M 93 c (pvM M b c w)) from funext fun i => funext fun j => (coM_pw cm c _).tab i j]
  rw [e0, ep, eP] at g2
  rw [pv_eq r, rm_eq r ok] at g1
  rcases g1 with ⟨n1, g1⟩ | ⟨o1, p1, g1⟩ | ⟨o1, p1, g1⟩ <;> rcases g2 with ⟨n2, g2⟩ | ⟨o2, p2, g2⟩ | ⟨o2, p2, g2⟩
  · rw [g1, g2]
  · exact absurd o2 n1
  · exact absurd o2 n1
  · exact absurd o1 n2
  · rw [g1, g2]
  · omega
  · exact absurd o1 n2
  · omega
  · exact rmF_un g1 g2
theorem b_at {M M1 M2 L0 L1 L2 : ZM} {r1 r2 : Int} (I : Inv M) {d k : Int} (h1 : L1 = L0 ∧ M1 = M ∧ ((r1 = -2 ∧ ¬ (0 ≤ d ∧ d < M 0 8 ∧ 0 ≤ k)) ∨ ((0 ≤ d ∧ d < M 0 8 ∧ 0 ≤ k) ∧ ((k < M (6 + 2 * d.toNat) 1 ∧ r1 = M (7 + 2 * d.toNat) k.toNat) ∨ (M (6 + 2 * d.toNat) 1 ≤ k ∧ r1 = -1))))) (h2 : L2 = L1 ∧ M2 = M1 ∧ ((r2 = -2 ∧ ¬ (0 ≤ d ∧ d < M1 90 4 ∧ 0 ≤ k)) ∨ ((0 ≤ d ∧ d < M1 90 4 ∧ 0 ≤ k) ∧ ((k < M1 94 d.toNat ∧ r2 = M1 95 (10 * d.toNat + k.toNat)) ∨ (M1 94 d.toNat ≤ k ∧ r2 = -1))))) : r1 = r2 ∧ Inv M2 := by
  obtain ⟨ok, hF, hK, hX, r⟩ := id I
  have u4 := ok.2.1
  obtain ⟨-, e1, g1⟩ := h1
  obtain ⟨-, e2, g2⟩ := h2
  rw [e1] at g2 e2
  rw [e2]
  refine ⟨?_, I⟩
  rw [r.2.1] at g2
  by_cases o : 0 ≤ d ∧ d < M 0 8 ∧ 0 ≤ k
  · have us := ok.2.2.2.2.1 d.toNat (by omega)
    rw [r.2.2.2.2.1 d.toNat (by omega)] at g2
    by_cases z : k < M (6 + 2 * d.toNat) 1
    · rw [r.2.2.2.2.2 d.toNat k.toNat (by omega) (by omega)] at g2
      omega
    · omega
  · omega
theorem b_count {M M1 M2 L0 L1 L2 : ZM} {r1 r2 : Int} (I : Inv M) {w : Int} (h1 : L1 = L0 ∧ M1 = M ∧ ((w = 0 ∧ r1 = M 1 3) ∨ (w = 1 ∧ r1 = M 0 8) ∨ (w = 2 ∧ r1 = sumK (fun d => M (6 + 2 * d) 1) (M 0 8).toNat) ∨ (w = 3 ∧ r1 = M 0 9) ∨ ((w < 0 ∨ 3 < w) ∧ r1 = -2))) (h2 : L2 = L1 ∧ M2 = M1 ∧ ((w = 0 ∧ r2 = M1 90 0) ∨ (w = 1 ∧ r2 = M1 90 4) ∨ (w = 2 ∧ r2 = sumK (M1 94) (M1 90 4).toNat) ∨ (w = 3 ∧ r2 = M1 90 7) ∨ ((w < 0 ∨ 3 < w) ∧ r2 = -2))) : r1 = r2 ∧ Inv M2 := by
  obtain ⟨ok, hF, hK, hX, r⟩ := id I
  have u4 := ok.2.1
  obtain ⟨-, e1, g1⟩ := h1
  obtain ⟨-, e2, g2⟩ := h2
  rw [e1] at g2 e2
  rw [e2]
  refine ⟨?_, I⟩
  rw [r.1, r.2.1, r.2.2.1, show sumK (M 94) (M 0 8).toNat = sumK (fun d => M (6 + 2 * d) 1) (M 0 8).toNat from sumK_congr _ (fun d hd => r.2.2.2.2.1 d (by omega))] at g2
  omega
