/-! Math.max, Math.min; ldc_w, iushr -/
theorem wq_max : Cond.static Lib.Math.max.name ∈ wsL ∧ Cond.code Lib.Math.max.name Lib.Math.max.code 2 (some .int) ∈ wsL := ⟨in_T 357 (by decide +kernel) (by decide +kernel), in_T 358 (by decide +kernel) (by decide +kernel)⟩
theorem wq_min : Cond.static Lib.Math.min.name ∈ wsL ∧ Cond.code Lib.Math.min.name Lib.Math.min.code 2 (some .int) ∈ wsL := ⟨in_T 322 (by decide +kernel) (by decide +kernel), in_T 323 (by decide +kernel) (by decide +kernel)⟩
theorem wq_maxL : Cond.methodLink RX7 24 Lib.Math.max.name ∈ wsL := in_T 356 (by decide +kernel) (by decide +kernel)
theorem wq_minL : Cond.methodLink RX5 35 Lib.Math.min.name ∈ wsL := in_T 321 (by decide +kernel) (by decide +kernel)
section VMATH
variable {X : VX} {cs : Nat × Nat} {n : Nat} {Q : Nat → Nat} {MR : ZR} {MI ML : ZM} {pc : Nat} {lv : List (Nat × Value)} {st : List Value} {cc : ByteArray} {own : String} {nL : Nat} {ret : Option FieldType} {fr lo mc ms : Nat}
theorem v_mmax (K : VK X cc own nL ret fr lo mc ms) {idx : Nat} {a b : Int} (ha : rg a) (hb : rg b) (hl9 : Cond.methodLink own idx Lib.Math.max.name ∈ wsL) (hrm : 1 ≤ fr ∧ (st.map fun v => v.category).sum + 13 ≤ lo ∧ cs.1 ≤ mc ∧ cs.2 ≤ ms) (hd : decode cc pc = .ok (.invokestatic idx, 3)) (k : V X cs n Q MR MI ML (pc + 3) lv (.int (iI (if a < b then b else a)) :: st)) : V X cs n Q MR MI ML pc lv (.int (iI b) :: .int (iI a) :: st) := by
  obtain ⟨p, l, e, R, s, m, args, below, meth, c, nL2, D, Z, A, Qp⟩ := X
  obtain ⟨kx, kb, km, rfl, ko, kt, kK, kr, kl, kA, rfl⟩ := K
  intro H locs ls hl hP hD hS
  have e1 : (if iI a < iI b then iI b else iI a) = iI (if a < b then b else a) := by
    by_cases q : a < b
    · rw [if_pos q, if_pos ((iI_lt ha hb).mpr q)]
    · rw [if_neg q, if_neg (fun z => q ((iI_lt ha hb).mp z))]
  have k9 := k H locs ls hl hP hD hS
  rw [← e1] at k9
  exact va_mmax kx kb (by rw [km]; exact hl.1.symm) ko (kt _ hl9) (kt _ wq_max.1) (kt _ wi_J9) (kt _ wq_max.2) hrm.1 hrm.2.1 hrm.2.2.1 hrm.2.2.2 hd k9
theorem v_mmin (K : VK X cc own nL ret fr lo mc ms) {idx : Nat} {a b : Int} (ha : rg a) (hb : rg b) (hl9 : Cond.methodLink own idx Lib.Math.min.name ∈ wsL) (hrm : 1 ≤ fr ∧ (st.map fun v => v.category).sum + 13 ≤ lo ∧ cs.1 ≤ mc ∧ cs.2 ≤ ms) (hd : decode cc pc = .ok (.invokestatic idx, 3)) (k : V X cs n Q MR MI ML (pc + 3) lv (.int (iI (if b < a then b else a)) :: st)) : V X cs n Q MR MI ML pc lv (.int (iI b) :: .int (iI a) :: st) := by
  obtain ⟨p, l, e, R, s, m, args, below, meth, c, nL2, D, Z, A, Qp⟩ := X
  obtain ⟨kx, kb, km, rfl, ko, kt, kK, kr, kl, kA, rfl⟩ := K
  intro H locs ls hl hP hD hS
  have e1 : (if iI b < iI a then iI b else iI a) = iI (if b < a then b else a) := by
    by_cases q : b < a
    · rw [if_pos q, if_pos ((iI_lt hb ha).mpr q)]
    · rw [if_neg q, if_neg (fun z => q ((iI_lt hb ha).mp z))]
  have k9 := k H locs ls hl hP hD hS
  rw [← e1] at k9
  exact va_mmin kx kb (by rw [km]; exact hl.1.symm) ko (kt _ hl9) (kt _ wq_min.1) (kt _ wi_J9) (kt _ wq_min.2) hrm.1 hrm.2.1 hrm.2.2.1 hrm.2.2.2 hd k9
theorem v_ldcw (K : VK X cc own nL ret fr lo mc ms) {index : Nat} {v : Int32} (z : Int) (hw : Cond.constant own index v ∈ wsL) (hv : v = iI z) (hd : decode cc pc = .ok (.ldc_w index, 3)) (k : V X cs n Q MR MI ML (pc + 3) lv (.int (iI z) :: st)) : V X cs n Q MR MI ML pc lv st := by
  obtain ⟨p, l, e, R, s, m, args, below, meth, c, nL2, D, Z, A, Qp⟩ := X
  obtain ⟨kx, kb, km, rfl, ko, kt, kK, kr, kl, kA, rfl⟩ := K
  intro H locs ls hl hP hD hS
  subst hv
  exact lv_ldcw kx kb ko (kt _ hw) hd (k H locs ls hl hP hD hS)
theorem v_iushr (K : VK X cc own nL ret fr lo mc ms) {a b : Int} (z : Int) (hz : ((iI a).toUInt32 >>> ((iI b).toUInt32 &&& Int32.toUInt32 31)).toInt32 = iI z) (hd : decode cc pc = .ok (.iushr, 1)) (k : V X cs n Q MR MI ML (pc + 1) lv (.int (iI z) :: st)) : V X cs n Q MR MI ML pc lv (.int (iI b) :: .int (iI a) :: st) := by
  obtain ⟨p, l, e, R, s, m, args, below, meth, c, nL2, D, Z, A, Qp⟩ := X
  obtain ⟨kx, kb, km, rfl, ko, kt, kK, kr, kl, kA, rfl⟩ := K
  intro H locs ls hl hP hD hS
  exact lv_iushr kx kb hd hz (k H locs ls hl hP hD hS)
end VMATH
