/-! the class and the reference, one beside the other -/
def rel (M : ZM) : Prop := M 90 0 = M 1 3 ∧ M 90 4 = M 0 8 ∧ M 90 7 = M 0 9 ∧ (∀ i, M 91 i = M 2 i ∧ M 92 i = M 3 i ∧ M 93 i = M 4 i) ∧ (∀ d, d < 5 → M 94 d = M (6 + 2 * d) 1) ∧ ∀ d k, d < 5 → k < 10 → M 95 (10 * d + k) = M (7 + 2 * d) k
theorem rel.mok {M : ZM} (h : rel M) (c : cOk M) : mOk M := by
  obtain ⟨r0, r4, r7, ra, rs, rk⟩ := h
  obtain ⟨c0, c4, c7, ca, cs, ck⟩ := c
  refine ⟨by rw [r0]; exact c0, by rw [r4]; exact c4, by rw [r7]; exact c7, fun i hi => ?_, fun d hd => ?_, fun d k hd hk => ?_⟩
  · rw [(ra i).1, (ra i).2.1, (ra i).2.2]; exact ca i hi
  · rw [rs d hd]; exact cs d hd
  · rw [rs d hd] at hk
    have := cs d hd
    rw [rk d k hd (by omega), r0]; exact ck d k hd hk
theorem rel.f91 {M : ZM} (h : rel M) : M 91 = M 2 := funext fun i => (h.2.2.2.1 i).1
theorem rel.f92 {M : ZM} (h : rel M) : M 92 = M 3 := funext fun i => (h.2.2.2.1 i).2.1
theorem rel.f93 {M : ZM} (h : rel M) : M 93 = M 4 := funext fun i => (h.2.2.2.1 i).2.2
theorem drw_cd {n : Nat} {cd cd' : Nat → Nat} (h : ∀ k, k < n → cd k = cd' k) : ∀ k s, drw n cd k s = drw n cd' k s := by
  intro k
  induction k with
  | zero => intro s; rfl
  | succ k ih =>
    intro s
    simp only [drw]
    split
    · rename_i q; rw [h _ q, ih]
    · rfl
theorem pst_cd {nc : Nat} {co po : Nat → Int} {n : Nat} {cd cd' : Nat → Nat} (h : ∀ k, k < n → cd k = cd' k) : ∀ t, pst nc co po n cd t = pst nc co po n cd' t := by
  intro t
  induction t with
  | zero => rfl
  | succ t ih => simp only [pst]; rw [ih, drw_cd h]
theorem plL_cd {nc : Nat} {co po : Nat → Int} {n : Nat} {cd cd' : Nat → Nat} (h : ∀ k, k < n → cd k = cd' k) (t : Nat) : plL nc co po n cd t = plL nc co po n cd' t := by
  unfold plL
  rw [pst_cd h, drw_cd h]
theorem rel.pl {M : ZM} (h : rel M) (c : cOk M) {d : Nat} (hd : d < 5) : mPl M d = cP M d := by
  funext t
  have us := c.2.2.2.2.1 d hd
  show plL (M 90 0).toNat (M 92) (M 93) (M 94 d).toNat (fun k => (M 95 (10 * d + k)).toNat) t = plL (M 1 3).toNat (M 3) (M 4) (loN M d (-1)) (loC M d (-1)) t
  rw [h.1, h.f92, h.f93, h.2.2.2.2.1 d hd, show loN M d (-1) = (M (6 + 2 * d) 1).toNat by simp [loN]]
  refine plL_cd (fun k hk => ?_) t
  rw [h.2.2.2.2.2 d k hd (by omega)]
  simp [loC]
theorem rel.game {M : ZM} (h : rel M) (c : cOk M) {a b : Nat} (ha : a < 5) (hb : b < 5) : mGame M a b = cGame M a b := by
  unfold mGame cGame
  rw [h.pl c ha, h.pl c hb, h.f91, h.f93, h.2.2.1]
theorem rel.tab {M : ZM} (h : rel M) (c : cOk M) {a b : Nat} (ha : a < 5) (hb : b < 5) : mTab M a b = cTab M a b := by
  unfold mTab mRes cTab
  rw [h.game c ha hb, h.game c hb ha]
theorem rel.fp {M : ZM} (h : rel M) (c : cOk M) {d : Nat} (hd : d < 5) (x : Int) : fpl (fun k => M 95 (10 * d + k)) x (M 94 d).toNat = fpl (M (7 + 2 * d)) x (M (6 + 2 * d) 1).toNat := by
  have us := c.2.2.2.2.1 d hd
  rw [h.2.2.2.2.1 d hd]
  exact fpl_congr _ (fun i hi => h.2.2.2.2.2 d i hd (by omega))
theorem drD_at (M : ZM) (d p a b : Nat) : drD M d p a b = if a = 94 ∧ b = d then M 94 d - 1 else if a = 95 ∧ 10 * d + p ≤ b ∧ b < 10 * d + ((M 94 d).toNat - 1) then M 95 (b + 1) else M a b := rfl
theorem rel.w {M : ZM} (h : rel M) (c : cOk M) {d b : Nat} (hd : d < 5) (hb : b < 5) {q : Int} (q0 : 0 ≤ q) (q1 : q < M (6 + 2 * d) 1) : mTab (drD M d q.toNat) d b = wTab M d q b := by
  have us := c.2.2.2.2.1 d hd
  have ub := c.2.2.2.2.1 b hb
  have s94 := h.2.2.2.2.1 d hd
  have k : ∀ a j, a ≠ 94 → a ≠ 95 → drD M d q.toNat a j = M a j := fun a j h1 h2 => by rw [drD_at, if_neg (by omega), if_neg (by omega)]
  have kf : ∀ a, a ≠ 94 → a ≠ 95 → drD M d q.toNat a = M a := fun a h1 h2 => funext fun j => k a j h1 h2
  unfold wTab
  by_cases e : b = d
  · rw [if_pos e, e]; unfold mTab; omega
  · rw [if_neg e]
    have p1 : mPl (drD M d q.toNat) d = lP M d q := by
      funext t
      show plL (drD M d q.toNat 90 0).toNat (drD M d q.toNat 92) (drD M d q.toNat 93) (drD M d q.toNat 94 d).toNat (fun j => (drD M d q.toNat 95 (10 * d + j)).toNat) t = plL (M 1 3).toNat (M 3) (M 4) (loN M d q) (loC M d q) t
      have e94 : (drD M d q.toNat 94 d).toNat = loN M d q := by
        rw [drD_at, if_pos ⟨rfl, rfl⟩, s94]
        unfold loN
        rw [if_neg (by omega)]; omega
      have eL : loN M d q = (M (6 + 2 * d) 1).toNat - 1 := by unfold loN; rw [if_neg (by omega)]
      rw [k 90 0 (by decide) (by decide), h.1, kf 92 (by decide) (by decide), kf 93 (by decide) (by decide), h.f92, h.f93, e94]
      refine plL_cd (fun j hj => ?_) t
      rw [eL] at hj
      unfold loC
      rw [drD_at, if_neg (by omega)]
      by_cases z : (j : Int) < q
      · rw [if_neg (by omega), if_pos (Or.inr z), h.2.2.2.2.2 d j hd (by omega)]
      · rw [if_pos ⟨rfl, by omega, by rw [s94]; omega⟩, if_neg (by omega), show 10 * d + j + 1 = 10 * d + (j + 1) by omega, h.2.2.2.2.2 d (j + 1) hd (by omega)]
    have p2 : mPl (drD M d q.toNat) b = cP M b := by
      rw [← h.pl c hb]
      funext t
      show plL (drD M d q.toNat 90 0).toNat (drD M d q.toNat 92) (drD M d q.toNat 93) (drD M d q.toNat 94 b).toNat (fun j => (drD M d q.toNat 95 (10 * b + j)).toNat) t = plL (M 90 0).toNat (M 92) (M 93) (M 94 b).toNat (fun j => (M 95 (10 * b + j)).toNat) t
      have e94 : drD M d q.toNat 94 b = M 94 b := by rw [drD_at, if_neg (by omega), if_neg (by omega)]
      rw [k 90 0 (by decide) (by decide), kf 92 (by decide) (by decide), kf 93 (by decide) (by decide), e94]
      refine plL_cd (fun j hj => ?_) t
      have sb := h.2.2.2.2.1 b hb
      rw [drD_at, if_neg (by omega), if_neg (by rw [s94]; omega)]
    unfold mTab mRes mGame
    rw [p1, p2, kf 91 (by decide) (by decide), kf 93 (by decide) (by decide), k 90 7 (by decide) (by decide), h.f91, h.f93, h.2.2.1]
theorem mixR_cg {T T' : Nat → Nat → Int} {N : Nat} {u b : Nat → Int} (h : ∀ i j, i < N → j < N → T i j = T' i j) (hm : mixR T N u b) : mixR T' N u b := by
  obtain ⟨z, hz, hr⟩ := hm
  exact ⟨z, mxI_cg h hz, hr⟩
theorem mul_pos_i {x S : Int} (hS : 0 < S) : 0 < x * S ↔ 0 < x := by
  refine ⟨fun h => ?_, fun h => Int.mul_pos h hS⟩
  by_cases q : 0 < x
  · exact q
  · have := Int.mul_nonneg (show 0 ≤ -x by omega) (Int.le_of_lt hS)
    rw [Int.neg_mul] at this; omega
theorem live_eq {T : Nat → Nat → Int} {N : Nat} {z a b : Nat → Int} (hz : mxI T N z) (hm : mixR T N a b) : sumK (fun q => if 0 < z q then 1 else 0) N = sumK (fun q => if 0 < a q then 1 else 0) N := by
  refine sumK_congr N (fun q hq => ?_)
  obtain ⟨y, hy, hr⟩ := hm
  obtain ⟨b0, -, -, -, -, e⟩ := hr q hq
  have m := lge_anti (hz.2 y hy.1) (hy.2 z hz.1) q hq
  have i1 : 0 < z q ↔ 0 < y q := by
    rw [← mul_pos_i (x := z q) hy.1.2, m, mul_pos_i hz.1.2]
  have i2 : 0 < y q ↔ 0 < a q := by
    rw [← mul_pos_i (x := y q) b0, Int.mul_comm, e, mul_pos_i hy.1.2]
  by_cases c : 0 < z q
  · rw [if_pos c, if_pos (i2.mp (i1.mp c))]
  · rw [if_neg c, if_neg (fun x => c (i1.mpr (i2.mpr x)))]
theorem rel_pw {M : ZM} (h : rel M) (c : Nat) (p : Int) : rel (z_up (z_up M 4 c p) 93 c p) := by
  obtain ⟨r0, r4, r7, ra, rs, rk⟩ := h
  have k : ∀ a b, a ≠ 4 → a ≠ 93 → z_up (z_up M 4 c p) 93 c p a b = M a b := fun a b h1 h2 => by rw [z_up_k h2, z_up_k h1]
  refine ⟨by rw [k _ _ (by omega) (by omega), k _ _ (by omega) (by omega)]; exact r0, by rw [k _ _ (by omega) (by omega), k _ _ (by omega) (by omega)]; exact r4, by rw [k _ _ (by omega) (by omega), k _ _ (by omega) (by omega)]; exact r7, fun i => ⟨by rw [k _ _ (by omega) (by omega), k _ _ (by omega) (by omega)]; exact (ra i).1, by rw [k _ _ (by omega) (by omega), k _ _ (by omega) (by omega)]; exact (ra i).2.1, ?_⟩, fun d hd => by rw [k _ _ (by omega) (by omega), k _ _ (by omega) (by omega)]; exact rs d hd, fun d j hd hj => by rw [k _ _ (by omega) (by omega), k _ _ (by omega) (by omega)]; exact rk d j hd hj⟩
  by_cases e : i = c
  · subst e; rw [z_up_s, z_up_k (by omega), z_up_s]
  · rw [z_up_j e, z_up_j e, z_up_k (by omega), z_up_j e]; exact (ra i).2.2
theorem rm_tab {M : ZM} (h : rel M) (ok : cOk M) {c : Nat} {p : Int} (h0 : 0 ≤ p) (h9 : p ≤ 9) {i j : Nat} (hi : i < 5) (hj : j < 5) : cTab (z_up M 4 c p) i j = mTab (z_up M 93 c p) i j := by
  have r := rel_pw h c p
  have co : coC (z_up M 4 c p) (z_up (z_up M 4 c p) 93 c p) := fun a b q1 _ => z_up_k (by omega)
  have ok2 := co.ok (cOk_pw ok c h0 h9)
  have cm : coM (z_up M 93 c p) (z_up (z_up M 4 c p) 93 c p) := by
    refine ⟨fun k h1 h2 => ?_, by rw [z_up_k (by omega), z_up_k (by omega), z_up_k (by omega)], by rw [z_up_k (by omega), z_up_k (by omega), z_up_k (by omega)], by rw [z_up_k (by omega), z_up_k (by omega), z_up_k (by omega)]⟩
    funext b
    simp only [z_up]
    by_cases e : k = 93 ∧ b = c
    · rw [if_pos e, if_pos e]
    · rw [if_neg e, if_neg e, if_neg (by omega)]
  rw [← co.tab hi hj, ← r.tab ok2 hi hj, cm.tab]
theorem pv_eq {M : ZM} (h : rel M) : pvC M = pvM M := by
  funext b c w
  unfold pvC pvM
  rw [(h.2.2.2.1 c).2.2]
theorem rm_eq {M : ZM} (h : rel M) (ok : cOk M) (u v : Int) : rmC M u v = rmP M u v := by
  have u4 := ok.2.1
  funext b c w
  unfold rmC rmP
  rw [pv_eq h, h.2.1]
  refine propext ⟨fun ⟨h0, h9, q⟩ => ⟨h0, h9, ?_⟩, fun ⟨h0, h9, q⟩ => ⟨h0, h9, ?_⟩⟩
  · exact (wi_cg (fun i j hi hj => rm_tab h ok h0 h9 (by omega) (by omega))).mp q
  · exact (wi_cg (fun i j hi hj => rm_tab h ok h0 h9 (by omega) (by omega))).mpr q
