theorem same_I {M M1 M2 : ZM} (I : Inv M) (h1 : M1 = M) (h2 : M2 = M1) : Inv M2 := by rw [h2, h1]; exact I
theorem b_life {M M1 M2 L0 L1 L2 : ZM} {r1 r2 : Int} (I : Inv M) {v : Int} (h1 : L1 = L0 ∧ ((r1 = -2 ∧ M1 = M ∧ ¬ (5 ≤ v ∧ v ≤ 40)) ∨ ((5 ≤ v ∧ v ≤ 40) ∧ r1 = M 0 9 ∧ M1 = fgT (z_up M 0 9 v)))) (h2 : L2 = L1 ∧ ((r2 = -2 ∧ M2 = M1 ∧ ¬ (5 ≤ v ∧ v ≤ 40)) ∨ ((5 ≤ v ∧ v ≤ 40) ∧ r2 = M1 90 7 ∧ M2 = z_up M1 90 7 v))) : r1 = r2 ∧ Inv M2 := by
  obtain ⟨ok, hF, hK, hX, r⟩ := id I
  obtain ⟨r0, r4, r7, ra, rs, rk⟩ := id r
  obtain ⟨c0, c4, c7, ca, cs, ck⟩ := id ok
  obtain ⟨-, h1⟩ := h1
  obtain ⟨-, h2⟩ := h2
  rcases h1 with ⟨e1, m1, n1⟩ | ⟨o1, e1, m1⟩ <;> rcases h2 with ⟨e2, m2, n2⟩ | ⟨o2, e2, m2⟩
  · exact ⟨by omega, same_I I m1 m2⟩
  · exact absurd o2 n1
  · exact absurd o1 n2
  · have k1 : ∀ a b, ¬ (a = 0 ∧ (b = 9 ∨ b = 10 ∨ b = 11)) → M1 a b = M a b := fun a b q => by rw [m1, fgT_k (by omega)]; simp only [z_up]; rw [if_neg (by omega)]
    have k9 : M1 0 9 = v := by rw [m1, fgT_k (by omega), z_up_s]
    have k2 : ∀ a b, ¬ (a = 90 ∧ b = 7) → M2 a b = M1 a b := fun a b q => by rw [m2]; simp only [z_up]; rw [if_neg q]
    have f := fgT_10 (z_up M 0 9 v)
    refine ⟨by rw [e1, e2, k1 _ _ (by omega), r7], inv_u (M1 := M1) hF ?_ (fun a b h _ => k1 a b (by omega)) (by rw [m1]; exact f.1) (by rw [m1]; exact f.2) (fun a b h => k2 a b (by omega)) ?_⟩
    · refine ⟨by rw [k1 _ _ (by omega)]; exact c0, by rw [k1 _ _ (by omega)]; exact c4, by rw [k9]; exact o1, fun i hi => by rw [k1 2 i (by omega), k1 3 i (by omega), k1 4 i (by omega)]; exact ca i hi, fun d hd => by rw [k1 _ _ (by omega)]; exact cs d hd, fun d k hd hk => ?_⟩
      rw [k1 _ _ (by omega)] at hk
      rw [k1 _ _ (by omega), k1 _ _ (by omega)]; exact ck d k hd hk
    · refine ⟨by rw [k2 90 0 (by omega), k1 90 0 (by omega), k2 1 3 (by omega), k1 1 3 (by omega)]; exact r0, by rw [k2 90 4 (by omega), k1 90 4 (by omega), k2 0 8 (by omega), k1 0 8 (by omega)]; exact r4, by rw [k2 0 9 (by omega), k9, m2, z_up_s], fun i => by rw [k2 91 i (by omega), k2 92 i (by omega), k2 93 i (by omega), k2 2 i (by omega), k2 3 i (by omega), k2 4 i (by omega), k1 91 i (by omega), k1 92 i (by omega), k1 93 i (by omega), k1 2 i (by omega), k1 3 i (by omega), k1 4 i (by omega)]; exact ra i, fun d hd => by rw [k2 94 d (by omega), k1 94 d (by omega), k2 _ 1 (by omega), k1 _ 1 (by omega)]; exact rs d hd, fun d k hd hk => by rw [k2 95 _ (by omega), k1 95 _ (by omega), k2 (7 + 2 * d) k (by omega), k1 (7 + 2 * d) k (by omega)]; exact rk d k hd hk⟩
theorem b_deck {M M1 M2 L0 L1 L2 : ZM} {r1 r2 : Int} (I : Inv M) {nd ndm : Nat} (hnd : M 0 8 = nd) (hndm : M1 90 4 = ndm) (h1 : L1 = L0 ∧ ((nd = 5 ∧ r1 = -4 ∧ M1 = M) ∨ (nd < 5 ∧ r1 = nd ∧ M1 = fgT (z_up M 0 8 (nd + 1))))) (h2 : L2 = L1 ∧ ((ndm = 5 ∧ r2 = -4 ∧ M2 = M1) ∨ (ndm < 5 ∧ r2 = ndm ∧ M2 = z_up M1 90 4 (ndm + 1)))) : r1 = r2 ∧ Inv M2 := by
  obtain ⟨ok, hF, hK, hX, r⟩ := id I
  obtain ⟨r0, r4, r7, ra, rs, rk⟩ := id r
  obtain ⟨c0, c4, c7, ca, cs, ck⟩ := id ok
  obtain ⟨-, h1⟩ := h1
  obtain ⟨-, h2⟩ := h2
  rcases h1 with ⟨n1, e1, m1⟩ | ⟨o1, e1, m1⟩
  · have : ndm = nd := by rw [m1, r4] at hndm; omega
    rcases h2 with ⟨n2, e2, m2⟩ | ⟨o2, e2, m2⟩
    · exact ⟨by omega, same_I I m1 m2⟩
    · omega
  · have k1 : ∀ a b, ¬ (a = 0 ∧ (b = 8 ∨ b = 10 ∨ b = 11)) → M1 a b = M a b := fun a b q => by rw [m1, fgT_k (by omega)]; simp only [z_up]; rw [if_neg (by omega)]
    have k9 : M1 0 8 = nd + 1 := by rw [m1, fgT_k (by omega), z_up_s]
    have en : ndm = nd := by rw [k1 _ _ (by omega), r4] at hndm; omega
    rcases h2 with ⟨n2, e2, m2⟩ | ⟨o2, e2, m2⟩
    · omega
    · have k2 : ∀ a b, ¬ (a = 90 ∧ b = 4) → M2 a b = M1 a b := fun a b q => by rw [m2]; simp only [z_up]; rw [if_neg q]
      have f := fgT_10 (z_up M 0 8 (nd + 1))
      refine ⟨by omega, inv_u (M1 := M1) hF ?_ (fun a b h _ => k1 a b (by omega)) (by rw [m1]; exact f.1) (by rw [m1]; exact f.2) (fun a b h => k2 a b (by omega)) ?_⟩
      · refine ⟨by rw [k1 _ _ (by omega)]; exact c0, by rw [k9]; omega, by rw [k1 _ _ (by omega)]; exact c7, fun i hi => by rw [k1 2 i (by omega), k1 3 i (by omega), k1 4 i (by omega)]; exact ca i hi, fun d hd => by rw [k1 _ _ (by omega)]; exact cs d hd, fun d k hd hk => ?_⟩
        rw [k1 _ _ (by omega)] at hk
        rw [k1 _ _ (by omega), k1 _ _ (by omega)]; exact ck d k hd hk
      · refine ⟨by rw [k2 90 0 (by omega), k1 90 0 (by omega), k2 1 3 (by omega), k1 1 3 (by omega)]; exact r0, by rw [k2 0 8 (by omega), k9, m2, z_up_s, en], by rw [k2 90 7 (by omega), k1 90 7 (by omega), k2 0 9 (by omega), k1 0 9 (by omega)]; exact r7, fun i => by rw [k2 91 i (by omega), k2 92 i (by omega), k2 93 i (by omega), k2 2 i (by omega), k2 3 i (by omega), k2 4 i (by omega), k1 91 i (by omega), k1 92 i (by omega), k1 93 i (by omega), k1 2 i (by omega), k1 3 i (by omega), k1 4 i (by omega)]; exact ra i, fun d hd => by rw [k2 94 d (by omega), k1 94 d (by omega), k2 _ 1 (by omega), k1 _ 1 (by omega)]; exact rs d hd, fun d k hd hk => by rw [k2 95 _ (by omega), k1 95 _ (by omega), k2 (7 + 2 * d) k (by omega), k1 (7 + 2 * d) k (by omega)]; exact rk d k hd hk⟩
theorem b_power {M M1 M2 L0 L1 L2 : ZM} {r1 r2 : Int} (I : Inv M) {c v : Int} (h1 : L1 = L0 ∧ ((r1 = -2 ∧ M1 = M ∧ ¬ (0 ≤ c ∧ c < M 1 3 ∧ 0 ≤ v ∧ v ≤ 9)) ∨ ((0 ≤ c ∧ c < M 1 3 ∧ 0 ≤ v ∧ v ≤ 9) ∧ r1 = M 4 c.toNat ∧ M1 = fgT (z_up M 4 c.toNat v)))) (h2 : L2 = L1 ∧ ((r2 = -2 ∧ M2 = M1 ∧ ¬ (0 ≤ c ∧ c < M1 90 0 ∧ 0 ≤ v ∧ v ≤ 9)) ∨ ((0 ≤ c ∧ c < M1 90 0 ∧ 0 ≤ v ∧ v ≤ 9) ∧ r2 = M1 93 c.toNat ∧ M2 = z_up M1 93 c.toNat v))) : r1 = r2 ∧ Inv M2 := by
  obtain ⟨ok, hF, hK, hX, r⟩ := id I
  obtain ⟨r0, r4, r7, ra, rs, rk⟩ := id r
  obtain ⟨c0, c4, c7, ca, cs, ck⟩ := id ok
  obtain ⟨-, h1⟩ := h1
  obtain ⟨-, h2⟩ := h2
  rcases h1 with ⟨e1, m1, n1⟩ | ⟨o1, e1, m1⟩
  · have e0 : M1 90 0 = M 1 3 := by rw [m1]; exact r0
    rw [e0] at h2
    rcases h2 with ⟨e2, m2, n2⟩ | ⟨o2, e2, m2⟩
    · exact ⟨by omega, same_I I m1 m2⟩
    · exact absurd o2 n1
  · have k1 : ∀ a b, ¬ (a = 0 ∧ (b = 10 ∨ b = 11)) → M1 a b = z_up M 4 c.toNat v a b := fun a b q => by rw [m1, fgT_k q]
    have e0 : M1 90 0 = M 1 3 := by rw [k1 _ _ (by omega), zu4 (by omega)]; exact r0
    rw [e0] at h2
    rcases h2 with ⟨e2, m2, n2⟩ | ⟨o2, e2, m2⟩
    · exact absurd o1 n2
    · have f := fgT_10 (z_up M 4 c.toNat v)
      have rp := rel_pw r c.toNat v
      have kk : ∀ a b, ¬ (a = 0 ∧ (b = 10 ∨ b = 11)) → M2 a b = z_up (z_up M 4 c.toNat v) 93 c.toNat v a b := fun a b q => by
        rw [m2]
        simp only [z_up]
        by_cases z : a = 93 ∧ b = c.toNat
        · rw [if_pos z, if_pos z]
        · rw [if_neg z, if_neg z, k1 a b q]; rfl
      refine ⟨by rw [e1, e2, k1 _ _ (by omega), zu4 (by omega), (ra _).2.2], inv_u (M1 := M1) hF ?_ (fun a b h _ => by rw [k1 a b (by omega), zu4 (by omega)]) (by rw [m1]; exact f.1) (by rw [m1]; exact f.2) (fun a b h => by rw [m2, z_up_k (by omega)]) ?_⟩
      · rw [m1]; exact fgT_ok (cOk_pw ok c.toNat o1.2.2.1 o1.2.2.2)
      · obtain ⟨p0, p4, p7, pa, ps, pk⟩ := rp
        refine ⟨by rw [kk 90 0 (by omega), kk 1 3 (by omega)]; exact p0, by rw [kk 90 4 (by omega), kk 0 8 (by omega)]; exact p4, by rw [kk 90 7 (by omega), kk 0 9 (by omega)]; exact p7, fun i => by rw [kk 91 i (by omega), kk 92 i (by omega), kk 93 i (by omega), kk 2 i (by omega), kk 3 i (by omega), kk 4 i (by omega)]; exact pa i, fun d hd => by rw [kk 94 d (by omega), kk _ 1 (by omega)]; exact ps d hd, fun d k hd hk => by rw [kk 95 _ (by omega), kk (7 + 2 * d) k (by omega)]; exact pk d k hd hk⟩
/-- a change of deck d alone -/
theorem inv_d {M M1 M2 : ZM} (I : Inv M) {d : Nat} (hd : d < 5) (k1 : ∀ a b, ¬ (a = 0 ∧ (b = 10 ∨ b = 11)) → a ≠ 7 + 2 * d → ¬ (a = 6 + 2 * d ∧ b = 1) → M1 a b = M a b) (h10 : M1 0 10 = 0) (h11 : M1 0 11 = 0) (k2 : ∀ a b, a ≠ 95 → ¬ (a = 94 ∧ b = d) → M2 a b = M1 a b) (k95 : ∀ e k, e < 5 → e ≠ d → k < 10 → M2 95 (10 * e + k) = M1 95 (10 * e + k)) (s0 : 0 ≤ M1 (6 + 2 * d) 1 ∧ M1 (6 + 2 * d) 1 ≤ 10) (s1 : ∀ k : Nat, (k : Int) < M1 (6 + 2 * d) 1 → 0 ≤ M1 (7 + 2 * d) k ∧ M1 (7 + 2 * d) k < M 1 3) (q0 : M2 94 d = M1 (6 + 2 * d) 1) (q1 : ∀ k, k < 10 → M2 95 (10 * d + k) = M1 (7 + 2 * d) k) : Inv M2 := by
  obtain ⟨ok, hF, hK, hX, r0, r4, r7, ra, rs, rk⟩ := id I
  obtain ⟨c0, c4, c7, ca, cs, ck⟩ := id ok
  refine inv_u hF ?_ (fun a b h _ => k1 a b (by omega) (by omega) (by omega)) h10 h11 (fun a b h => k2 a b (by omega) (by omega)) ?_
  · refine ⟨by rw [k1 _ _ (by omega) (by omega) (by omega)]; exact c0, by rw [k1 _ _ (by omega) (by omega) (by omega)]; exact c4, by rw [k1 _ _ (by omega) (by omega) (by omega)]; exact c7, fun i hi => by rw [k1 2 i (by omega) (by omega) (by omega), k1 3 i (by omega) (by omega) (by omega), k1 4 i (by omega) (by omega) (by omega)]; exact ca i hi, fun e he => ?_, fun e k he hk => ?_⟩
    · by_cases z : e = d
      · subst z; exact s0
      · rw [k1 _ _ (by omega) (by omega) (by omega)]; exact cs e he
    · rw [k1 1 3 (by omega) (by omega) (by omega)]
      by_cases z : e = d
      · subst z; exact s1 k hk
      · rw [k1 _ _ (by omega) (by omega) (by omega)] at hk
        rw [k1 _ _ (by omega) (by omega) (by omega)]; exact ck e k he hk
  · have j : ∀ a b, ¬ (a = 0 ∧ (b = 10 ∨ b = 11)) → a ≠ 7 + 2 * d → ¬ (a = 6 + 2 * d ∧ b = 1) → a ≠ 95 → ¬ (a = 94 ∧ b = d) → M2 a b = M a b := fun a b h1 h2 h3 h4 h5 => (k2 a b h4 h5).trans (k1 a b h1 h2 h3)
    refine ⟨by rw [j 90 0 (by omega) (by omega) (by omega) (by omega) (by omega), j 1 3 (by omega) (by omega) (by omega) (by omega) (by omega)]; exact r0, by rw [j 90 4 (by omega) (by omega) (by omega) (by omega) (by omega), j 0 8 (by omega) (by omega) (by omega) (by omega) (by omega)]; exact r4, by rw [j 90 7 (by omega) (by omega) (by omega) (by omega) (by omega), j 0 9 (by omega) (by omega) (by omega) (by omega) (by omega)]; exact r7, fun i => by rw [j 91 i (by omega) (by omega) (by omega) (by omega) (by omega), j 92 i (by omega) (by omega) (by omega) (by omega) (by omega), j 93 i (by omega) (by omega) (by omega) (by omega) (by omega), j 2 i (by omega) (by omega) (by omega) (by omega) (by omega), j 3 i (by omega) (by omega) (by omega) (by omega) (by omega), j 4 i (by omega) (by omega) (by omega) (by omega) (by omega)]; exact ra i, fun e he => ?_, fun e k he hk => ?_⟩
    · by_cases z : e = d
      · subst z; rw [q0, k2 _ _ (by omega) (by omega)]
      · rw [j 94 e (by omega) (by omega) (by omega) (by omega) (by omega), j (6 + 2 * e) 1 (by omega) (by omega) (by omega) (by omega) (by omega)]; exact rs e he
    · by_cases z : e = d
      · subst z; rw [q1 k hk, k2 _ _ (by omega) (by omega)]
      · rw [k95 e k he z hk, k1 95 _ (by omega) (by omega) (by omega), j (7 + 2 * e) k (by omega) (by omega) (by omega) (by omega) (by omega)]; exact rk e k he hk
theorem b_add {M M1 M2 L0 L1 L2 : ZM} {r1 r2 : Int} (I : Inv M) {d c : Int} (h1 : L1 = L0 ∧ ((r1 = -2 ∧ M1 = M ∧ ¬ (0 ≤ d ∧ d < M 0 8 ∧ 0 ≤ c ∧ c < M 1 3)) ∨ ((0 ≤ d ∧ d < M 0 8 ∧ 0 ≤ c ∧ c < M 1 3) ∧ ((M (6 + 2 * d.toNat) 1 = 10 ∧ r1 = -4 ∧ M1 = M) ∨ (M (6 + 2 * d.toNat) 1 < 10 ∧ r1 = M (6 + 2 * d.toNat) 1 + 1 ∧ M1 = fgT (z_up (z_up M (7 + 2 * d.toNat) (M (6 + 2 * d.toNat) 1).toNat c) (6 + 2 * d.toNat) 1 (M (6 + 2 * d.toNat) 1 + 1))))))) (h2 : L2 = L1 ∧ ((r2 = -2 ∧ M2 = M1 ∧ ¬ (0 ≤ d ∧ d < M1 90 4 ∧ 0 ≤ c ∧ c < M1 90 0)) ∨ ((0 ≤ d ∧ d < M1 90 4 ∧ 0 ≤ c ∧ c < M1 90 0) ∧ ((M1 94 d.toNat = 10 ∧ r2 = -4 ∧ M2 = M1) ∨ (M1 94 d.toNat < 10 ∧ r2 = M1 94 d.toNat + 1 ∧ M2 = z_up (z_up M1 95 (10 * d.toNat + (M1 94 d.toNat).toNat) c) 94 d.toNat (M1 94 d.toNat + 1)))))) : r1 = r2 ∧ Inv M2 := by
  obtain ⟨ok, hF, hK, hX, r⟩ := id I
  obtain ⟨r0, r4, r7, ra, rs, rk⟩ := id r
  obtain ⟨c0, c4, c7, ca, cs, ck⟩ := id ok
  obtain ⟨-, h1⟩ := h1
  obtain ⟨-, h2⟩ := h2
  rcases h1 with ⟨e1, m1, n1⟩ | ⟨o1, h1⟩
  · rw [m1, r4, r0] at h2
    rcases h2 with ⟨e2, m2, n2⟩ | ⟨o2, -⟩
    · exact ⟨by omega, by rw [m2]; exact I⟩
    · exact absurd o2 n1
  · have d5 : d.toNat < 5 := by omega
    have us := cs d.toNat d5
    rcases h1 with ⟨s1, e1, m1⟩ | ⟨s1, e1, m1⟩
    · rw [m1, r4, r0, rs _ d5] at h2
      rcases h2 with ⟨e2, m2, n2⟩ | ⟨o2, h2⟩
      · exact absurd o1 n2
      · rcases h2 with ⟨s2, e2, m2⟩ | ⟨s2, e2, m2⟩
        · exact ⟨by omega, by rw [m2]; exact I⟩
        · omega
    · obtain ⟨n, hn⟩ : ∃ n : Nat, M (6 + 2 * d.toNat) 1 = n := ⟨(M (6 + 2 * d.toNat) 1).toNat, by omega⟩
      rw [hn, show ((n : Int)).toNat = n by omega] at m1
      have f : ∀ a b, ¬ (a = 0 ∧ (b = 10 ∨ b = 11)) → ¬ (a = 7 + 2 * d.toNat ∧ b = n) → ¬ (a = 6 + 2 * d.toNat ∧ b = 1) → M1 a b = M a b := fun a b q1 q2 q3 => by
        rw [m1, fgT_k q1]
        simp only [z_up]
        rw [if_neg q3, if_neg q2]
      have f7 : M1 (7 + 2 * d.toNat) n = c := by rw [m1, fgT_k (by omega), z_up_k (by omega), z_up_s]
      have f6 : M1 (6 + 2 * d.toNat) 1 = n + 1 := by rw [m1, fgT_k (by omega), z_up_s]
      have f0 : M1 0 10 = 0 ∧ M1 0 11 = 0 := by
        rw [m1]; exact fgT_10 _
      have e94 : M1 94 d.toNat = n := by rw [f _ _ (by omega) (by omega) (by omega), rs _ d5, hn]
      rw [f 90 4 (by omega) (by omega) (by omega), f 90 0 (by omega) (by omega) (by omega), e94, r4, r0, show ((n : Int)).toNat = n by omega] at h2
      rcases h2 with ⟨e2, m2, n2⟩ | ⟨o2, h2⟩
      · exact absurd o1 n2
      · rcases h2 with ⟨s2, e2, m2⟩ | ⟨s2, e2, m2⟩
        · omega
        · refine ⟨by omega, inv_d I d5 (fun a b q1 q2 q3 => f a b q1 (by omega) q3) f0.1 f0.2 (fun a b q1 q2 => ?_) (fun e k _ _ _ => ?_) ?_ ?_ ?_ ?_⟩
          · rw [m2]
            simp only [z_up]
            rw [if_neg q2, if_neg (by omega)]
          · rw [m2, z_up_k (by omega), z_up_j (by omega)]
          · rw [f6]; omega
          · intro k hk
            rw [f6] at hk
            by_cases z : k = n
            · rw [z, f7]; exact o1.2.2
            · rw [f _ _ (by omega) (by omega) (by omega)]; exact ck _ k d5 (by omega)
          · rw [m2, z_up_s, f6]
          · intro k hk
            rw [m2, z_up_k (by omega)]
            by_cases z : k = n
            · rw [z, z_up_s, f7]
            · rw [z_up_j (by omega), f _ _ (by omega) (by omega) (by omega), f _ _ (by omega) (by omega) (by omega)]; exact rk _ k d5 hk
theorem b_swap {M M1 M2 L0 L1 L2 : ZM} {r1 r2 : Int} (I : Inv M) {d a b : Int} (h1 : L1 = L0 ∧ ((r1 = -2 ∧ M1 = M ∧ ¬ (0 ≤ d ∧ d < M 0 8 ∧ 0 ≤ a ∧ a < M (6 + 2 * d.toNat) 1 ∧ 0 ≤ b ∧ b < M (6 + 2 * d.toNat) 1)) ∨ ((0 ≤ d ∧ d < M 0 8 ∧ 0 ≤ a ∧ a < M (6 + 2 * d.toNat) 1 ∧ 0 ≤ b ∧ b < M (6 + 2 * d.toNat) 1) ∧ r1 = 1 ∧ M1 = fgT (z_up (z_up M (7 + 2 * d.toNat) a.toNat (M (7 + 2 * d.toNat) b.toNat)) (7 + 2 * d.toNat) b.toNat (M (7 + 2 * d.toNat) a.toNat))))) (h2 : L2 = L1 ∧ ((r2 = -2 ∧ M2 = M1 ∧ ¬ (0 ≤ d ∧ d < M1 90 4 ∧ 0 ≤ a ∧ a < M1 94 d.toNat ∧ 0 ≤ b ∧ b < M1 94 d.toNat)) ∨ ((0 ≤ d ∧ d < M1 90 4 ∧ 0 ≤ a ∧ a < M1 94 d.toNat ∧ 0 ≤ b ∧ b < M1 94 d.toNat) ∧ r2 = 1 ∧ M2 = z_up (z_up M1 95 (10 * d.toNat + a.toNat) (M1 95 (10 * d.toNat + b.toNat))) 95 (10 * d.toNat + b.toNat) (M1 95 (10 * d.toNat + a.toNat))))) : r1 = r2 ∧ Inv M2 := by
  obtain ⟨ok, hF, hK, hX, r⟩ := id I
  obtain ⟨r0, r4, r7, ra, rs, rk⟩ := id r
  obtain ⟨c0, c4, c7, ca, cs, ck⟩ := id ok
  obtain ⟨-, h1⟩ := h1
  obtain ⟨-, h2⟩ := h2
  rcases h1 with ⟨e1, m1, n1⟩ | ⟨o1, e1, m1⟩
  · by_cases z : 0 ≤ d ∧ d < M 0 8
    · rw [m1, r4, rs _ (by omega)] at h2
      rcases h2 with ⟨e2, m2, n2⟩ | ⟨o2, -⟩
      · exact ⟨by omega, by rw [m2]; exact I⟩
      · exact absurd o2 n1
    · rw [m1, r4] at h2
      rcases h2 with ⟨e2, m2, n2⟩ | ⟨o2, -⟩
      · exact ⟨by omega, by rw [m2]; exact I⟩
      · omega
  · have d5 : d.toNat < 5 := by omega
    have us := cs d.toNat d5
    obtain ⟨x, hx⟩ : ∃ x : Nat, a.toNat = x := ⟨_, rfl⟩
    obtain ⟨y, hy⟩ : ∃ y : Nat, b.toNat = y := ⟨_, rfl⟩
    rw [hx, hy] at m1 h2
    have f : ∀ a b, ¬ (a = 0 ∧ (b = 10 ∨ b = 11)) → ¬ (a = 7 + 2 * d.toNat ∧ (b = x ∨ b = y)) → M1 a b = M a b := fun a b q1 q2 => by
      rw [m1, fgT_k q1]
      simp only [z_up]
      rw [if_neg (by omega), if_neg (by omega)]
    have fy : M1 (7 + 2 * d.toNat) y = M (7 + 2 * d.toNat) x := by rw [m1, fgT_k (by omega), z_up_s]
    have fx : x ≠ y → M1 (7 + 2 * d.toNat) x = M (7 + 2 * d.toNat) y := fun q => by rw [m1, fgT_k (by omega), z_up_j q, z_up_s]
    have cx := ck d.toNat x d5 (by omega)
    have cy := ck d.toNat y d5 (by omega)
    rw [f 90 4 (by omega) (by omega), f 94 _ (by omega) (by omega), r4, rs _ d5] at h2
    rcases h2 with ⟨e2, m2, n2⟩ | ⟨o2, e2, m2⟩
    · exact absurd o1 n2
    · have f0 := fgT_10 (z_up (z_up M (7 + 2 * d.toNat) x (M (7 + 2 * d.toNat) y)) (7 + 2 * d.toNat) y (M (7 + 2 * d.toNat) x))
      refine ⟨by omega, inv_d I d5 (fun a b q1 q2 q3 => f a b q1 (by omega)) (by rw [m1]; exact f0.1) (by rw [m1]; exact f0.2) (fun a b q1 q2 => ?_) (fun e k _ _ _ => ?_) ?_ ?_ ?_ ?_⟩
      · rw [m2, z_up_k (by omega), z_up_k (by omega)]
      · rw [m2, z_up_j (by omega), z_up_j (by omega)]
      · rw [f _ _ (by omega) (by omega)]; exact us
      · intro k hk
        rw [f _ _ (by omega) (by omega)] at hk
        by_cases z : k = y
        · rw [z, fy]; exact cx
        · by_cases w : k = x
          · rw [w, fx (by omega)]; exact cy
          · rw [f _ _ (by omega) (by omega)]; exact ck _ k d5 hk
      · rw [m2, z_up_k (by omega), z_up_k (by omega), f _ _ (by omega) (by omega), f _ _ (by omega) (by omega)]; exact rs _ d5
      · intro k hk
        rw [m2]
        by_cases z : k = y
        · rw [z, z_up_s, fy, f _ _ (by omega) (by omega)]; exact rk _ x d5 (by omega)
        · rw [z_up_j (by omega)]
          by_cases w : k = x
          · rw [w, z_up_s, fx (by omega), f _ _ (by omega) (by omega)]; exact rk _ y d5 (by omega)
          · rw [z_up_j (by omega), f _ _ (by omega) (by omega), f _ _ (by omega) (by omega)]; exact rk _ k d5 hk
theorem b_drop {M M1 M2 L0 L1 L2 : ZM} {r1 r2 : Int} (I : Inv M) {d k : Int} (h1 : L1 = L0 ∧ ((r1 = -2 ∧ M1 = M ∧ ¬ (0 ≤ d ∧ d < M 0 8 ∧ 0 ≤ k ∧ k < M (6 + 2 * d.toNat) 1)) ∨ ((0 ≤ d ∧ d < M 0 8 ∧ 0 ≤ k ∧ k < M (6 + 2 * d.toNat) 1) ∧ r1 = M (7 + 2 * d.toNat) k.toNat ∧ M1 = fgT (takM M d.toNat k.toNat)))) (h2 : L2 = L1 ∧ ((r2 = -2 ∧ M2 = M1 ∧ ¬ (0 ≤ d ∧ d < M1 90 4 ∧ 0 ≤ k ∧ k < M1 94 d.toNat)) ∨ ((0 ≤ d ∧ d < M1 90 4 ∧ 0 ≤ k ∧ k < M1 94 d.toNat) ∧ r2 = M1 95 (10 * d.toNat + k.toNat) ∧ M2 = dropK M1 d.toNat k.toNat ((M1 94 d.toNat).toNat - 1)))) : r1 = r2 ∧ Inv M2 := by
  obtain ⟨ok, hF, hK, hX, r⟩ := id I
  obtain ⟨r0, r4, r7, ra, rs, rk⟩ := id r
  obtain ⟨c0, c4, c7, ca, cs, ck⟩ := id ok
  obtain ⟨-, h1⟩ := h1
  obtain ⟨-, h2⟩ := h2
  rcases h1 with ⟨e1, m1, n1⟩ | ⟨o1, e1, m1⟩
  · by_cases z : 0 ≤ d ∧ d < M 0 8
    · rw [m1, r4, rs _ (by omega)] at h2
      rcases h2 with ⟨e2, m2, n2⟩ | ⟨o2, -⟩
      · exact ⟨by omega, by rw [m2]; exact I⟩
      · exact absurd o2 n1
    · rw [m1, r4] at h2
      rcases h2 with ⟨e2, m2, n2⟩ | ⟨o2, -⟩
      · exact ⟨by omega, by rw [m2]; exact I⟩
      · omega
  · have d5 : d.toNat < 5 := by omega
    have us := cs d.toNat d5
    obtain ⟨x, hx⟩ : ∃ x : Nat, k.toNat = x := ⟨_, rfl⟩
    obtain ⟨n, hn⟩ : ∃ n : Nat, M (6 + 2 * d.toNat) 1 = n := ⟨(M (6 + 2 * d.toNat) 1).toNat, by omega⟩
    rw [hx] at m1 h2 e1
    have f : ∀ a b, ¬ (a = 0 ∧ (b = 10 ∨ b = 11)) → ¬ (a = 7 + 2 * d.toNat ∧ x ≤ b ∧ b + 1 < n) → ¬ (a = 6 + 2 * d.toNat ∧ b = 1) → M1 a b = M a b := fun a b q1 q2 q3 => by
      rw [m1, fgT_k q1]
      unfold takM
      rw [hn, show ((n : Int)).toNat = n by omega]
      simp only [z_up, takK]
      rw [if_neg q3, if_neg q2]
    have f7 : ∀ b, x ≤ b → b + 1 < n → M1 (7 + 2 * d.toNat) b = M (7 + 2 * d.toNat) (b + 1) := fun b q1 q2 => by
      rw [m1, fgT_k (by omega)]
      unfold takM
      rw [hn, show ((n : Int)).toNat = n by omega]
      simp only [z_up, takK]
      rw [if_neg (by omega), if_pos ⟨trivial, q1, q2⟩]
    have f6 : M1 (6 + 2 * d.toNat) 1 = n - 1 := by
      rw [m1, fgT_k (by omega)]
      unfold takM
      rw [z_up_s, hn]
    have e94 : M1 94 d.toNat = n := by rw [f _ _ (by omega) (by omega) (by omega), rs _ d5, hn]
    rw [f 90 4 (by omega) (by omega) (by omega), e94, r4, show ((n : Int)).toNat = n by omega] at h2
    rcases h2 with ⟨e2, m2, n2⟩ | ⟨o2, e2, m2⟩
    · omega
    · have f0 := fgT_10 (takM M d.toNat x)
      have m3 : ∀ a b, M2 a b = if a = 94 ∧ b = d.toNat then (n : Int) - 1 else if a = 95 ∧ 10 * d.toNat + x ≤ b ∧ b < 10 * d.toNat + (n - 1) then M1 95 (b + 1) else M1 a b := fun a b => by rw [m2, ← e94]; rfl
      refine ⟨by rw [e1, e2, f _ _ (by omega) (by omega) (by omega)]; exact (rk _ x d5 (by omega)).symm, inv_d I d5 (fun a b q1 q2 q3 => f a b q1 (by omega) q3) (by rw [m1]; exact f0.1) (by rw [m1]; exact f0.2) (fun a b q1 q2 => ?_) (fun e j _ _ _ => ?_) ?_ ?_ ?_ ?_⟩
      · rw [m3, if_neg q2, if_neg (by omega)]
      · rw [m3, if_neg (by omega), if_neg (by omega)]
      · rw [f6]; omega
      · intro j hj
        rw [f6] at hj
        by_cases z : x ≤ j
        · rw [f7 j z (by omega)]; exact ck _ (j + 1) d5 (by omega)
        · rw [f _ _ (by omega) (by omega) (by omega)]; exact ck _ j d5 (by omega)
      · rw [m3, if_pos ⟨rfl, rfl⟩, f6]
      · intro j hj
        rw [m3, if_neg (by omega)]
        by_cases z : x ≤ j ∧ j + 1 < n
        · rw [if_pos ⟨rfl, by omega, by omega⟩, f7 j z.1 z.2, f _ _ (by omega) (by omega) (by omega), show 10 * d.toNat + j + 1 = 10 * d.toNat + (j + 1) by omega]; exact rk _ (j + 1) d5 (by omega)
        · rw [if_neg (by omega), f _ _ (by omega) (by omega) (by omega), f _ _ (by omega) (by omega) (by omega)]; exact rk _ j d5 hj
theorem b_card {M M1 M2 L0 L1 L2 : ZM} {r1 r2 : Int} (I : Inv M) {s c p : Int} {nc ncm : Nat} (hnc : M 1 3 = nc) (hncm : M1 90 0 = ncm) (h1 : L1 = L0 ∧ ((r1 = -2 ∧ M1 = M ∧ ¬ (0 ≤ s ∧ s ≤ 2 ∧ 0 ≤ c ∧ c ≤ 5 ∧ 0 ≤ p ∧ p ≤ 9)) ∨ ((0 ≤ s ∧ s ≤ 2 ∧ 0 ≤ c ∧ c ≤ 5 ∧ 0 ≤ p ∧ p ≤ 9) ∧ ((nc = 12 ∧ r1 = -4 ∧ M1 = M) ∨ (nc < 12 ∧ r1 = nc ∧ M1 = z_up (z_up (z_up (z_up M 2 nc s) 3 nc c) 4 nc p) 1 3 (nc + 1)))))) (h2 : L2 = L1 ∧ ((r2 = -2 ∧ M2 = M1 ∧ ¬ (0 ≤ s ∧ s ≤ 2 ∧ 0 ≤ c ∧ c ≤ 5 ∧ 0 ≤ p ∧ p ≤ 9)) ∨ ((0 ≤ s ∧ s ≤ 2 ∧ 0 ≤ c ∧ c ≤ 5 ∧ 0 ≤ p ∧ p ≤ 9) ∧ ((ncm = 12 ∧ r2 = -4 ∧ M2 = M1) ∨ (ncm < 12 ∧ r2 = ncm ∧ M2 = z_up (z_up (z_up (z_up M1 91 ncm s) 92 ncm c) 93 ncm p) 90 0 (ncm + 1)))))) : r1 = r2 ∧ Inv M2 := by
  obtain ⟨ok, hF, hK, hX, r⟩ := id I
  obtain ⟨r0, r4, r7, ra, rs, rk⟩ := id r
  obtain ⟨c0, c4, c7, ca, cs, ck⟩ := id ok
  obtain ⟨-, h1⟩ := h1
  obtain ⟨-, h2⟩ := h2
  rcases h1 with ⟨e1, m1, n1⟩ | ⟨o1, h1⟩
  · rcases h2 with ⟨e2, m2, n2⟩ | ⟨o2, -⟩
    · exact ⟨by omega, same_I I m1 m2⟩
    · exact absurd o2 n1
  · rcases h2 with ⟨e2, m2, n2⟩ | ⟨o2, h2⟩
    · exact absurd o1 n2
    · rcases h1 with ⟨s1, e1, m1⟩ | ⟨s1, e1, m1⟩
      · have : ncm = nc := by rw [m1, r0] at hncm; omega
        rcases h2 with ⟨s2, e2, m2⟩ | ⟨s2, e2, m2⟩
        · exact ⟨by omega, same_I I m1 m2⟩
        · omega
      · have m1 : M1 = cdM M nc s c p := m1
        have k : ∀ a b, a ≠ 2 → a ≠ 3 → a ≠ 4 → ¬ (a = 1 ∧ b = 3) → M1 a b = M a b := fun a b q1 q2 q3 q4 => by rw [m1]; exact cdM_k q1 q2 q3 q4
        have en : ncm = nc := by rw [k _ _ (by omega) (by omega) (by omega) (by omega), r0] at hncm; omega
        rcases h2 with ⟨s2, e2, m2⟩ | ⟨s2, e2, m2⟩
        · omega
        · rw [en] at m2 e2
          have g : ∀ a b, a ≠ 91 → a ≠ 92 → a ≠ 93 → ¬ (a = 90 ∧ b = 0) → M2 a b = M1 a b := fun a b q1 q2 q3 q4 => by
            rw [m2]
            simp only [z_up]
            rw [if_neg q4, if_neg (by omega), if_neg (by omega), if_neg (by omega)]
          have v : ∀ b, cdM M nc s c p 2 b = (if b = nc then s else M 2 b) ∧ cdM M nc s c p 3 b = (if b = nc then c else M 3 b) ∧ cdM M nc s c p 4 b = (if b = nc then p else M 4 b) := fun b => cdM_2 b
          have ok1 : cOk M1 := by
            refine ⟨by rw [m1, cdM_13]; omega, by rw [k _ _ (by omega) (by omega) (by omega) (by omega)]; exact c4, by rw [k _ _ (by omega) (by omega) (by omega) (by omega)]; exact c7, fun i hi => ?_, fun d hd => by rw [k _ _ (by omega) (by omega) (by omega) (by omega)]; exact cs d hd, fun d j hd hj => ?_⟩
            · rw [m1, (v i).1, (v i).2.1, (v i).2.2]
              by_cases z : i = nc
              · rw [if_pos z, if_pos z, if_pos z]; exact ⟨⟨o1.1, o1.2.1⟩, ⟨o1.2.2.1, o1.2.2.2.1⟩, o1.2.2.2.2⟩
              · rw [if_neg z, if_neg z, if_neg z]; exact ca i hi
            · rw [k _ _ (by omega) (by omega) (by omega) (by omega)] at hj
              have := ck d j hd hj
              rw [k _ _ (by omega) (by omega) (by omega) (by omega), m1, cdM_13]; omega
          have kp := keep (M' := M1) ok (k _ _ (by omega) (by omega) (by omega) (by omega)) (fun d hd => by rw [m1]; exact funext fun t => (cdM_pl ok hnc hd t).1) (fun i j hi hj => by rw [m1]; exact cdM_tab ok hnc hi hj) (fun a b h _ => k a b (by omega) (by omega) (by omega) (by omega)) (k _ _ (by omega) (by omega) (by omega) (by omega)) (k _ _ (by omega) (by omega) (by omega) (by omega))
          have k9 := cl_90 (M := M1) (M' := M2) (fun a b h => g a b (by omega) (by omega) (by omega) (by omega)) ok1
          refine ⟨by omega, k9.1, k9.2.1 (kp.1 hF), k9.2.2.1 (kp.2.1 hK), k9.2.2.2 (kp.2.2 hX), ?_, ?_, ?_, fun i => ?_, fun d hd => ?_, fun d j hd hj => ?_⟩
          · rw [g 1 3 (by omega) (by omega) (by omega) (by omega), m2, z_up_s, m1, cdM_13]
          · rw [g 90 4 (by omega) (by omega) (by omega) (by omega), g 0 8 (by omega) (by omega) (by omega) (by omega), k 90 4 (by omega) (by omega) (by omega) (by omega), k 0 8 (by omega) (by omega) (by omega) (by omega)]; exact r4
          · rw [g 90 7 (by omega) (by omega) (by omega) (by omega), g 0 9 (by omega) (by omega) (by omega) (by omega), k 90 7 (by omega) (by omega) (by omega) (by omega), k 0 9 (by omega) (by omega) (by omega) (by omega)]; exact r7
          · have w1 : M2 91 i = if i = nc then s else M1 91 i := by
              rw [m2, z_up_k (by omega), z_up_k (by omega), z_up_k (by omega)]
              by_cases z : i = nc
              · rw [z, z_up_s, if_pos rfl]
              · rw [z_up_j z, if_neg z]
            have w2 : M2 92 i = if i = nc then c else M1 92 i := by
              rw [m2, z_up_k (by omega), z_up_k (by omega)]
              by_cases z : i = nc
              · rw [z, z_up_s, if_pos rfl]
              · rw [z_up_j z, if_neg z, z_up_k (by omega)]
            have w3 : M2 93 i = if i = nc then p else M1 93 i := by
              rw [m2, z_up_k (by omega)]
              by_cases z : i = nc
              · rw [z, z_up_s, if_pos rfl]
              · rw [z_up_j z, if_neg z, z_up_k (by omega), z_up_k (by omega)]
            rw [w1, w2, w3, g 2 i (by omega) (by omega) (by omega) (by omega), g 3 i (by omega) (by omega) (by omega) (by omega), g 4 i (by omega) (by omega) (by omega) (by omega), k 91 i (by omega) (by omega) (by omega) (by omega), k 92 i (by omega) (by omega) (by omega) (by omega), k 93 i (by omega) (by omega) (by omega) (by omega), m1, (v i).1, (v i).2.1, (v i).2.2]
            by_cases z : i = nc
            · rw [if_pos z, if_pos z, if_pos z, if_pos z, if_pos z, if_pos z]; exact ⟨rfl, rfl, rfl⟩
            · rw [if_neg z, if_neg z, if_neg z, if_neg z, if_neg z, if_neg z]; exact ra i
          · rw [g 94 d (by omega) (by omega) (by omega) (by omega), g _ 1 (by omega) (by omega) (by omega) (by omega), k 94 d (by omega) (by omega) (by omega) (by omega), k _ 1 (by omega) (by omega) (by omega) (by omega)]; exact rs d hd
          · rw [g 95 _ (by omega) (by omega) (by omega) (by omega), g (7 + 2 * d) j (by omega) (by omega) (by omega) (by omega), k 95 _ (by omega) (by omega) (by omega) (by omega), k (7 + 2 * d) j (by omega) (by omega) (by omega) (by omega)]; exact rk d j hd hj
