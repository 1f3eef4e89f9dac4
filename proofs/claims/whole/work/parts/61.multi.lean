/-! arrays of arrays -/
def rfL (L : List (Nat × Nat × Nat)) (MR : ZR) : ZR := L.foldl (fun M q => z_upR M q.1 q.2.1 (some q.2.2)) MR
def zQ6 (n h : Nat) (Q : Nat → Nat) : Nat → Nat := fun k => if k < n then Q k else h + (k - n)
def mrow (n : Nat) : List (Nat × Nat × Nat) := [(n, 0, n + 1), (n, 1, n + 2), (n, 2, n + 3), (n, 3, n + 4), (n, 4, n + 5)]
theorem mrow_k {n a j : Nat} {MR : ZR} (h : a ≠ n) : rfL (mrow n) MR a j = MR a j := by
  simp only [rfL, mrow, List.foldl]
  repeat rw [z_upR_k h]
theorem mrow_n {n j : Nat} {MR : ZR} (h : ∀ j, MR n j = none) : rfL (mrow n) MR n j = if j < 5 then some (n + 1 + j) else none := by
  simp only [rfL, mrow, List.foldl, z_upR, h]
  by_cases e4 : j = 4
  · subst e4; simp
  · by_cases e3 : j = 3
    · subst e3; simp
    · by_cases e2 : j = 2
      · subst e2; simp
      · by_cases e1 : j = 1
        · subst e1; simp
        · by_cases e0 : j = 0
          · subst e0; simp
          · rw [if_neg (by omega), if_neg (by omega), if_neg (by omega), if_neg (by omega), if_neg (by omega), if_neg (by omega)]
theorem outer5 (cA : ClassId) (h : Nat) : Jvm.Free.Multi.outerC cA 5 h 5 = arrV cA 5 (fun j => if j < 5 then .ref (h + 1 + j) else .null) := by
  simp only [Jvm.Free.Multi.outerC]
  rw [arrV_new, arrV_store, arrV_store, arrV_store, arrV_store, arrV_store]
  congr 1
  funext j
  unfold updV
  by_cases e4 : j = 4
  · subst e4; simp
  · by_cases e3 : j = 3
    · subst e3; simp
    · by_cases e2 : j = 2
      · subst e2; simp
      · by_cases e1 : j = 1
        · subst e1; simp
        · by_cases e0 : j = 0
          · subst e0; simp
          · rw [if_neg e4, if_neg e3, if_neg e2, if_neg e1, if_neg e0, if_neg (by omega)]
theorem zQ6_a (n h : Nat) (Q : Nat → Nat) : agr n Q (zQ6 n h Q) := fun k hk => if_pos hk
theorem zQ6_n (n h : Nat) (Q : Nat → Nat) : zQ6 n h Q n = h := by unfold zQ6; rw [if_neg (by omega)]; omega
theorem mu_E {Z : ZC} {n h : Nat} {Q : Nat → Nat} {MR : ZR} {MI ML : ZM} (S : zst n MR MI ML) {k : Nat} (hk : k < n) : z_E Z (zQ6 n h Q) (rfL (mrow n) MR) MI ML k = z_E Z Q MR MI ML k := by
  have e1 : ∀ j, rfL (mrow n) MR k j = MR k j := fun j => mrow_k (by omega)
  rw [z_E_q (Q := Q) (fun j r h => by rw [e1] at h; exact zQ6_a n _ Q r (S.1 k j r h))]
  unfold z_E z_fv
  simp only [e1]
theorem z_W_lt {Z : ZC} {n k : Nat} {Q : Nat → Nat} {MR : ZR} {MI ML : ZM} {q : Nat × va_E} (h : (z_W Z n Q MR MI ML)[k]? = some q) : k < n ∧ q = (Q k, z_E Z Q MR MI ML k) := by
  have kn : k < n := by
    by_cases z : k < n
    · exact z
    · rw [List.getElem?_eq_none (by unfold z_W; simp; omega)] at h; cases h
  rw [z_W_at kn] at h
  exact ⟨kn, (Option.some.inj h).symm⟩
theorem mu_P {D : va_G} {Z : ZC} {n h : Nat} {Q : Nat → Nat} {MR : ZR} {MI ML : ZM} {H H1 : Heap} (S : zst n MR MI ML) (hkd : z_kd n = 14 ∧ z_ln n = 5) (hrd : ∀ i, i < 5 → z_kd (n + 1 + i) = 10 ∧ z_ln (n + 1 + i) = 5) (hP : va_P D vwCl (z_W Z n Q MR MI ML) H) (fo : ∀ a : Nat, a < H.size → H1[a]? = H[a]?) (f2 : H1[h]? = some (arrV Z.2.2.2.2 5 (fun j => if j < 5 then .ref (h + 1 + j) else .null))) (fi : ∀ j : Nat, j < 5 → H1[h + 1 + j]? = some (arrV Z.1 5 (fun _ => .int 0))) : va_P D vwCl (z_W Z (n + 6) (zQ6 n h Q) (rfL (mrow n) MR) MI ML) H1 := by
  intro k q hk
  obtain ⟨kn, rfl⟩ := z_W_lt hk
  by_cases c1 : k < n
  · rw [zQ6_a n h Q k c1, mu_E S c1]
    have h0 : va_at D vwCl (Q k, z_E Z Q MR MI ML k) H := hP k (Q k, z_E Z Q MR MI ML k) (z_W_at c1)
    exact va_at.kept (H := H) (H1 := H1) h0 (fo (Q k) h0.lt)
  · by_cases c2 : k = n
    · subst c2
      rw [zQ6_n, z_E_T hkd.1, hkd.2]
      show H1[h]? = some (vp_cell _ _)
      rw [f2, vp_cell_q]
      congr 2
      funext j
      rw [mrow_n (fun j => (S.2 k j (Nat.le_refl _)).1)]
      by_cases j5 : j < 5
      · rw [if_pos j5, if_pos j5]
        show _ = Value.ref (zQ6 k h Q (k + 1 + j))
        unfold zQ6
        rw [if_neg (by omega), show h + (k + 1 + j - k) = h + 1 + j by omega]
      · rw [if_neg j5, if_neg j5]; rfl
    · obtain ⟨i, i5, rfl⟩ : ∃ i, i < 5 ∧ k = n + 1 + i := ⟨k - (n + 1), by omega, by omega⟩
      have e2 : zQ6 n h Q (n + 1 + i) = h + 1 + i := by unfold zQ6; rw [if_neg (by omega)]; omega
      rw [e2, z_E_i (hrd i i5).1, (hrd i i5).2]
      show H1[h + 1 + i]? = some (vp_cell _ _)
      rw [fi i i5, vp_cell_i]
      congr 2
      funext j
      rw [(S.2 (n + 1 + i) j (by omega)).2.1]; rfl
theorem mu_D {A : Nat → Prop} {Z : ZC} {n h : Nat} {Q : Nat → Nat} {MR MR' : ZR} {MI ML : ZM} (lt : ∀ k, k < n → Q k < h) (hD : va_D A (z_W Z n Q MR MI ML)) (hA : ∀ q, h ≤ q → A q) : va_D A (z_W Z (n + 6) (zQ6 n h Q) MR' MI ML) := by
  refine ⟨fun i j a b hi hj hab => ?_, fun k q hk => ?_⟩
  · obtain ⟨i1, rfl⟩ := z_W_lt hi
    obtain ⟨j1, rfl⟩ := z_W_lt hj
    have hab : zQ6 n h Q i = zQ6 n h Q j := hab
    unfold zQ6 at hab
    by_cases c1 : i < n
    · rw [if_pos c1] at hab
      by_cases c2 : j < n
      · rw [if_pos c2] at hab
        exact hD.1 i j _ _ (z_W_at c1) (z_W_at c2) hab
      · rw [if_neg c2] at hab
        have := lt i c1; omega
    · rw [if_neg c1] at hab
      by_cases c2 : j < n
      · rw [if_pos c2] at hab
        have := lt j c2; omega
      · rw [if_neg c2] at hab; omega
  · obtain ⟨k1, rfl⟩ := z_W_lt hk
    show A (zQ6 n h Q k)
    unfold zQ6
    by_cases c1 : k < n
    · rw [if_pos c1]; exact hD.2 k _ (z_W_at c1)
    · rw [if_neg c1]; exact hA _ (by omega)
theorem mu_fill {T : State} {cA comp : ClassId} {T1 : State} (e : Jvm.Free.Multi.fill T cA comp 5 5 (defaultValue .int) 5 = T1) : T1.heap.size = T.heap.size + 6 ∧ (∀ a : Nat, a < T.heap.size → T1.heap[a]? = T.heap[a]?) ∧ T1.heap[T.heap.size]? = some (arrV cA 5 (fun j => if j < 5 then .ref (T.heap.size + 1 + j) else .null)) ∧ ∀ j : Nat, j < 5 → T1.heap[T.heap.size + 1 + j]? = some (arrV comp 5 (fun _ => .int 0)) := by
  obtain ⟨f1, f2, f3, f4⟩ := Jvm.Free.Multi.fill_facts T cA comp 5 5 (defaultValue .int) 5
  have fo := fun (a : Nat) (ha : a < T.heap.size) => Jvm.Free.Multi.fill_old T cA comp 5 5 (defaultValue .int) (a := a) ha 5
  have fi := fun (j : Nat) (hj : j < 5) => Jvm.Free.Multi.fill_inner T cA comp 5 5 (defaultValue .int) 5 j hj
  rw [e] at f1 f2 fo fi
  rw [outer5] at f2
  unfold Jvm.Free.Multi.innerC at fi
  rw [arrV_new] at fi
  exact ⟨by omega, fo, f2, fi⟩
section VMULTI
variable {X : VX} {cs : Nat × Nat} {n : Nat} {Q : Nat → Nat} {MR : ZR} {MI ML : ZM} {pc : Nat} {cc : ByteArray} {own : String} {nL : Nat} {ret : Option FieldType} {fr lo mc ms : Nat}
theorem v_multi (K : VK X cc own nL ret fr lo mc ms) {idx : Nat} (hcl : Cond.classLink own idx "[[I" ∈ wsL) (ha : Cond.arrayClass .int ∈ wsL) (S : zst n MR MI ML) (hkd : z_kd n = 14 ∧ z_ln n = 5) (hrd : ∀ i, i < 5 → z_kd (n + 1 + i) = 10 ∧ z_ln (n + 1 + i) = 5) (hc : cs.1 + 6 ≤ mc) (hs : cs.2 + 30 ≤ ms) (lvf : (Nat → Nat) → List (Nat × Value)) (stf : (Nat → Nat) → List Value) (hq : ∀ Q', agr n Q Q' → lvf Q' = lvf Q ∧ stf Q' = stf Q) (hd : decode cc pc = .ok (.multianewarray idx 2, 4)) (kk : ∀ Q', agr n Q Q' → V X (cs.1 + 6, cs.2 + 30) (n + 6) Q' (rfL (mrow n) MR) MI ML (pc + 4) (lvf Q') (.ref (Q' n) :: stf Q')) : V X cs n Q MR MI ML pc (lvf Q) (.int (iI 5) :: .int (iI 5) :: stf Q) := by
  obtain ⟨p, l, e, R, s, m, args, below, meth, c, nL2, D, Z, A, Qp⟩ := X
  obtain ⟨kx, kb, km, rfl, ko, kt, kK, kr, kl, kA, rfl⟩ := K
  intro H locs ls hl hP hD hS
  intro T hT Xs
  subst hT
  have t5 : (iI 5).toNatClampNeg = 5 := by decide
  obtain ⟨vm₁, cA, comp, hW, hfA, hfC, hO, hI, X1, step⟩ := Xs.multianewarray2F kx (own := own) (index := idx) (ty := .int) ko (kt _ hcl) (z_AOA.use kK.2.2.2) (kt _ ha) (g := F0 m pc ls (.int (iI 5) :: .int (iI 5) :: stf Q)) rfl (by rw [kb]; exact hd) rfl (by decide) (by decide) (by decide) (by decide) (by decide) rfl rfl (by rw [t5]; show cs.1 + (1 + 5) ≤ mc; omega) (by rw [t5]; show cs.2 + (5 + 5 * 5) ≤ ms; omega)
  rw [t5] at X1 step
  generalize hT1 : Jvm.Free.Multi.fill (T.setVm vm₁) cA comp 5 5 (defaultValue .int) 5 = T1 at X1 step
  obtain ⟨f1, fo, f2, fi⟩ := mu_fill hT1
  have a1 : s.vm.findClass ("[" ++ FieldType.int.toString) = some Z.1 := (kK.1.2 0 (Z.1, .int) rfl).2
  have a2 : s.vm.findClass ("[" ++ (FieldType.array .int).toString) = some Z.2.2.2.2 := (kK.1.2 4 (Z.2.2.2.2, .array .int) rfl).2
  obtain rfl : comp = Z.1 := Option.some.inj (hfC.symm.trans a1)
  obtain rfl : cA = Z.2.2.2.2 := Option.some.inj (hfA.symm.trans a2)
  have qa := zQ6_a n T.heap.size Q
  have qn := zQ6_n n T.heap.size Q
  have hP1 : va_P D vwCl (z_W Z (n + 6) (zQ6 n T.heap.size Q) (rfL (mrow n) MR) MI ML) T1.heap := mu_P S hkd hrd hP fo f2 fi
  have hD1 : va_D A (z_W Z (n + 6) (zQ6 n T.heap.size Q) (rfL (mrow n) MR) MI ML) := mu_D (fun k hk => (hP k _ (z_W_at hk)).lt) hD (fun q h => kA q (Nat.le_trans hS.1 h))
  have f1 : T1.heap.size = T.heap.size + 6 := f1
  have fo : ∀ a : Nat, a < T.heap.size → T1.heap[a]? = T.heap[a]? := fo
  have hS1 : va_S A s.heap T1.heap locs := ⟨by have := hS.1; omega, fun q h1 h2 => by rw [fo q (Nat.lt_of_lt_of_le h1 hS.1)]; exact hS.2.1 q h1 h2, hS.2.2⟩
  have k := kk (zQ6 n T.heap.size Q) qa T1.heap locs ls (by rw [(hq _ qa).1]; exact hl) hP1 hD1 hS1
  rw [qn, (hq _ qa).2] at k
  obtain ⟨t', a3, b3⟩ := k T1 rfl (by have := X1; exact this)
  exact ⟨t', step t' a3, b3⟩
end VMULTI
theorem zst_multi {n : Nat} {MR : ZR} {MI ML : ZM} (h : zst n MR MI ML) : zst (n + 6) (rfL (mrow n) MR) MI ML := by
  have g := h.le (show n ≤ n + 6 by omega)
  exact ((((g.ref (k := n) (j := 0) (r := n + 1) (by omega) (by omega)).ref (k := n) (j := 1) (r := n + 2) (by omega) (by omega)).ref (k := n) (j := 2) (r := n + 3) (by omega) (by omega)).ref (k := n) (j := 3) (r := n + 4) (by omega) (by omega)).ref (k := n) (j := 4) (r := n + 5) (by omega) (by omega)
