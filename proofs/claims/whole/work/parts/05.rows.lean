section VROWS
variable {X : VX} {cs : Nat × Nat} {n : Nat} {Q : Nat → Nat} {MR : ZR} {MI ML : ZM} {pc : Nat} {lv : List (Nat × Value)} {st : List Value} {cc : ByteArray} {own : String} {nL : Nat} {ret : Option FieldType} {fr lo mc ms : Nat}
theorem v_iconst (K : VK X cc own nL ret fr lo mc ms) {z : Int} (hd : decode cc pc = .ok (.iconst z, 1)) (k : V X cs n Q MR MI ML (pc + 1) lv (.int (iI z) :: st)) : V X cs n Q MR MI ML pc lv st := by
  obtain ⟨p, l, e, R, s, m, args, below, meth, c, nL2, D, Z, A, Qp⟩ := X
  obtain ⟨kx, kb, km, rfl, ko, kt, kK, kr, kl, kA, rfl⟩ := K
  intro H locs ls hl hP hD hS
  exact lv_iconst kx kb hd rfl (k H locs ls hl hP hD hS)
theorem v_bipush (K : VK X cc own nL ret fr lo mc ms) {z : Int} (hd : decode cc pc = .ok (.bipush z, 2)) (hv : (Int8.ofInt z).toInt32 = iI z) (k : V X cs n Q MR MI ML (pc + 2) lv (.int (iI z) :: st)) : V X cs n Q MR MI ML pc lv st := by
  obtain ⟨p, l, e, R, s, m, args, below, meth, c, nL2, D, Z, A, Qp⟩ := X
  obtain ⟨kx, kb, km, rfl, ko, kt, kK, kr, kl, kA, rfl⟩ := K
  intro H locs ls hl hP hD hS
  exact lv_bipush kx kb hd hv (k H locs ls hl hP hD hS)
theorem v_sipush (K : VK X cc own nL ret fr lo mc ms) {z : Int} (hd : decode cc pc = .ok (.sipush z, 3)) (hv : (Int16.ofInt z).toInt32 = iI z) (k : V X cs n Q MR MI ML (pc + 3) lv (.int (iI z) :: st)) : V X cs n Q MR MI ML pc lv st := by
  obtain ⟨p, l, e, R, s, m, args, below, meth, c, nL2, D, Z, A, Qp⟩ := X
  obtain ⟨kx, kb, km, rfl, ko, kt, kK, kr, kl, kA, rfl⟩ := K
  intro H locs ls hl hP hD hS
  exact lv_sipush kx kb hd hv (k H locs ls hl hP hD hS)
theorem v_ldc (K : VK X cc own nL ret fr lo mc ms) {index : Nat} {v : Int32} (z : Int) (hw : Cond.constant own index v ∈ wsL) (hv : v = iI z) (hd : decode cc pc = .ok (.ldc index, 2)) (k : V X cs n Q MR MI ML (pc + 2) lv (.int (iI z) :: st)) : V X cs n Q MR MI ML pc lv st := by
  obtain ⟨p, l, e, R, s, m, args, below, meth, c, nL2, D, Z, A, Qp⟩ := X
  obtain ⟨kx, kb, km, rfl, ko, kt, kK, kr, kl, kA, rfl⟩ := K
  intro H locs ls hl hP hD hS
  subst hv
  exact lv_ldc kx kb ko (kt _ hw) hd (k H locs ls hl hP hD hS)
theorem v_ldc2 (K : VK X cc own nL ret fr lo mc ms) {index : Nat} {v : Int64} (z : Int) (hw : Cond.constantLong own index v ∈ wsL) (hv : v = lJ z) (hd : decode cc pc = .ok (.ldc2_w index, 3)) (k : V X cs n Q MR MI ML (pc + 3) lv (.long (lJ z) :: st)) : V X cs n Q MR MI ML pc lv st := by
  obtain ⟨p, l, e, R, s, m, args, below, meth, c, nL2, D, Z, A, Qp⟩ := X
  obtain ⟨kx, kb, km, rfl, ko, kt, kK, kr, kl, kA, rfl⟩ := K
  intro H locs ls hl hP hD hS
  subst hv
  exact lv_ldc2 kx kb ko (kt _ hw) hd (k H locs ls hl hP hD hS)
theorem v_lconst (K : VK X cc own nL ret fr lo mc ms) {f : Fin 2} (z : Int) (hd : decode cc pc = .ok (.lconst f, 1)) (hv : Int64.ofNat (f : Nat) = lJ z) (k : V X cs n Q MR MI ML (pc + 1) lv (.long (lJ z) :: st)) : V X cs n Q MR MI ML pc lv st := by
  obtain ⟨p, l, e, R, s, m, args, below, meth, c, nL2, D, Z, A, Qp⟩ := X
  obtain ⟨kx, kb, km, rfl, ko, kt, kK, kr, kl, kA, rfl⟩ := K
  intro H locs ls hl hP hD hS
  exact lv_lconst kx kb hd hv (k H locs ls hl hP hD hS)
theorem v_iload_n (K : VK X cc own nL ret fr lo mc ms) {f : Fin 4} {i : Nat} {z : Int} (j : Nat) (hd : decode cc pc = .ok (.iload_n f, 1)) (hi : (f : Nat) = i) (hj : lv[j]? = some (i, .int (iI z))) (k : V X cs n Q MR MI ML (pc + 1) lv (.int (iI z) :: st)) : V X cs n Q MR MI ML pc lv st := by
  obtain ⟨p, l, e, R, s, m, args, below, meth, c, nL2, D, Z, A, Qp⟩ := X
  obtain ⟨kx, kb, km, rfl, ko, kt, kK, kr, kl, kA, rfl⟩ := K
  intro H locs ls hl hP hD hS
  exact lv_iload_n kx kb hd hi (lv_at hl j hj) (k H locs ls hl hP hD hS)
theorem v_iload (K : VK X cc own nL ret fr lo mc ms) {i : Nat} {z : Int} (j : Nat) (hd : decode cc pc = .ok (.iload i, 2)) (hj : lv[j]? = some (i, .int (iI z))) (k : V X cs n Q MR MI ML (pc + 2) lv (.int (iI z) :: st)) : V X cs n Q MR MI ML pc lv st := by
  obtain ⟨p, l, e, R, s, m, args, below, meth, c, nL2, D, Z, A, Qp⟩ := X
  obtain ⟨kx, kb, km, rfl, ko, kt, kK, kr, kl, kA, rfl⟩ := K
  intro H locs ls hl hP hD hS
  exact lv_iload kx kb hd (lv_at hl j hj) (k H locs ls hl hP hD hS)
theorem v_lload_n (K : VK X cc own nL ret fr lo mc ms) {f : Fin 4} {i : Nat} {z : Int} (j : Nat) (hd : decode cc pc = .ok (.lload_n f, 1)) (hi : (f : Nat) = i) (hj : lv[j]? = some (i, .long (lJ z))) (k : V X cs n Q MR MI ML (pc + 1) lv (.long (lJ z) :: st)) : V X cs n Q MR MI ML pc lv st := by
  obtain ⟨p, l, e, R, s, m, args, below, meth, c, nL2, D, Z, A, Qp⟩ := X
  obtain ⟨kx, kb, km, rfl, ko, kt, kK, kr, kl, kA, rfl⟩ := K
  intro H locs ls hl hP hD hS
  exact lv_lload_n kx kb hd hi (lv_at hl j hj) (k H locs ls hl hP hD hS)
theorem v_lload (K : VK X cc own nL ret fr lo mc ms) {i : Nat} {z : Int} (j : Nat) (hd : decode cc pc = .ok (.lload i, 2)) (hj : lv[j]? = some (i, .long (lJ z))) (k : V X cs n Q MR MI ML (pc + 2) lv (.long (lJ z) :: st)) : V X cs n Q MR MI ML pc lv st := by
  obtain ⟨p, l, e, R, s, m, args, below, meth, c, nL2, D, Z, A, Qp⟩ := X
  obtain ⟨kx, kb, km, rfl, ko, kt, kK, kr, kl, kA, rfl⟩ := K
  intro H locs ls hl hP hD hS
  exact lv_lload kx kb hd (lv_at hl j hj) (k H locs ls hl hP hD hS)
theorem v_aload_n (K : VK X cc own nL ret fr lo mc ms) {f : Fin 4} {i : Nat} {z : Nat} (j : Nat) (hd : decode cc pc = .ok (.aload_n f, 1)) (hi : (f : Nat) = i) (hj : lv[j]? = some (i, .ref z)) (k : V X cs n Q MR MI ML (pc + 1) lv (.ref z :: st)) : V X cs n Q MR MI ML pc lv st := by
  obtain ⟨p, l, e, R, s, m, args, below, meth, c, nL2, D, Z, A, Qp⟩ := X
  obtain ⟨kx, kb, km, rfl, ko, kt, kK, kr, kl, kA, rfl⟩ := K
  intro H locs ls hl hP hD hS
  exact lv_aload_n kx kb hd hi (lv_at hl j hj) (k H locs ls hl hP hD hS)
theorem v_aload (K : VK X cc own nL ret fr lo mc ms) {i : Nat} {z : Nat} (j : Nat) (hd : decode cc pc = .ok (.aload i, 2)) (hj : lv[j]? = some (i, .ref z)) (k : V X cs n Q MR MI ML (pc + 2) lv (.ref z :: st)) : V X cs n Q MR MI ML pc lv st := by
  obtain ⟨p, l, e, R, s, m, args, below, meth, c, nL2, D, Z, A, Qp⟩ := X
  obtain ⟨kx, kb, km, rfl, ko, kt, kK, kr, kl, kA, rfl⟩ := K
  intro H locs ls hl hP hD hS
  exact lv_aload kx kb hd (lv_at hl j hj) (k H locs ls hl hP hD hS)
theorem v_istore_n (K : VK X cc own nL ret fr lo mc ms) {f : Fin 4} {i : Nat} {z : Int} (lf : Int → List (Nat × Value)) (hd : decode cc pc = .ok (.istore_n f, 1)) (hi : (f : Nat) = i) (hn : i < nL) (hlf : ∀ x, (i, Value.int (iI x)) :: lv.filter (fun q => !(q.1 == i) && !(q.1 + 1 == i && q.2.category == 2)) = lf x) (k : ∀ x, x = z → V X cs n Q MR MI ML (pc + 1) (lf x) st) : V X cs n Q MR MI ML pc lv (.int (iI z) :: st) := by
  obtain ⟨p, l, e, R, s, m, args, below, meth, c, nL2, D, Z, A, Qp⟩ := X
  obtain ⟨kx, kb, km, rfl, ko, kt, kK, kr, kl, kA, rfl⟩ := K
  intro H locs ls hl hP hD hS
  exact lv_istore_n kx kb hd hi hl hn (hlf z) (fun ls hl => k z rfl H locs ls hl hP hD hS)
theorem v_istore (K : VK X cc own nL ret fr lo mc ms) {i : Nat} {z : Int} (lf : Int → List (Nat × Value)) (hd : decode cc pc = .ok (.istore i, 2)) (hn : i < nL) (hlf : ∀ x, (i, Value.int (iI x)) :: lv.filter (fun q => !(q.1 == i) && !(q.1 + 1 == i && q.2.category == 2)) = lf x) (k : ∀ x, x = z → V X cs n Q MR MI ML (pc + 2) (lf x) st) : V X cs n Q MR MI ML pc lv (.int (iI z) :: st) := by
  obtain ⟨p, l, e, R, s, m, args, below, meth, c, nL2, D, Z, A, Qp⟩ := X
  obtain ⟨kx, kb, km, rfl, ko, kt, kK, kr, kl, kA, rfl⟩ := K
  intro H locs ls hl hP hD hS
  exact lv_istore kx kb hd hl hn (hlf z) (fun ls hl => k z rfl H locs ls hl hP hD hS)
theorem v_lstore_n (K : VK X cc own nL ret fr lo mc ms) {f : Fin 4} {i : Nat} {z : Int} (lf : Int → List (Nat × Value)) (hd : decode cc pc = .ok (.lstore_n f, 1)) (hi : (f : Nat) = i) (hn : i + 1 < nL) (hlf : ∀ x, (i, Value.long (lJ x)) :: lv.filter (fun q => !(q.1 == i) && (!(q.1 == i + 1) && !(q.1 + 1 == i && q.2.category == 2))) = lf x) (k : ∀ x, x = z → V X cs n Q MR MI ML (pc + 1) (lf x) st) : V X cs n Q MR MI ML pc lv (.long (lJ z) :: st) := by
  obtain ⟨p, l, e, R, s, m, args, below, meth, c, nL2, D, Z, A, Qp⟩ := X
  obtain ⟨kx, kb, km, rfl, ko, kt, kK, kr, kl, kA, rfl⟩ := K
  intro H locs ls hl hP hD hS
  exact lv_lstore_n kx kb hd hi hl hn (hlf z) (fun ls hl => k z rfl H locs ls hl hP hD hS)
theorem v_lstore (K : VK X cc own nL ret fr lo mc ms) {i : Nat} {z : Int} (lf : Int → List (Nat × Value)) (hd : decode cc pc = .ok (.lstore i, 2)) (hn : i + 1 < nL) (hlf : ∀ x, (i, Value.long (lJ x)) :: lv.filter (fun q => !(q.1 == i) && (!(q.1 == i + 1) && !(q.1 + 1 == i && q.2.category == 2))) = lf x) (k : ∀ x, x = z → V X cs n Q MR MI ML (pc + 2) (lf x) st) : V X cs n Q MR MI ML pc lv (.long (lJ z) :: st) := by
  obtain ⟨p, l, e, R, s, m, args, below, meth, c, nL2, D, Z, A, Qp⟩ := X
  obtain ⟨kx, kb, km, rfl, ko, kt, kK, kr, kl, kA, rfl⟩ := K
  intro H locs ls hl hP hD hS
  exact lv_lstore kx kb hd hl hn (hlf z) (fun ls hl => k z rfl H locs ls hl hP hD hS)
theorem v_astore_n (K : VK X cc own nL ret fr lo mc ms) {f : Fin 4} {i z : Nat} (lv1 : List (Nat × Value)) (hd : decode cc pc = .ok (.astore_n f, 1)) (hi : (f : Nat) = i) (hn : i < nL) (hlf : (i, Value.ref z) :: lv.filter (fun q => !(q.1 == i) && !(q.1 + 1 == i && q.2.category == 2)) = lv1) (k : V X cs n Q MR MI ML (pc + 1) lv1 st) : V X cs n Q MR MI ML pc lv (.ref z :: st) := by
  obtain ⟨p, l, e, R, s, m, args, below, meth, c, nL2, D, Z, A, Qp⟩ := X
  obtain ⟨kx, kb, km, rfl, ko, kt, kK, kr, kl, kA, rfl⟩ := K
  intro H locs ls hl hP hD hS
  exact lv_astore_n kx kb hd hi hl hn hlf (fun ls hl => k H locs ls hl hP hD hS)
theorem v_iinc (K : VK X cc own nL ret fr lo mc ms) {i : Nat} {d z : Int} (j : Nat) (lf : Int → List (Nat × Value)) (hd : decode cc pc = .ok (.iinc i d, 3)) (hj : lv[j]? = some (i, .int (iI z))) (hn : i < nL) (hlf : ∀ x, (i, Value.int (iI x)) :: lv.filter (fun q => !(q.1 == i) && !(q.1 + 1 == i && q.2.category == 2)) = lf x) (k : ∀ x, x = z + d → V X cs n Q MR MI ML (pc + 3) (lf x) st) : V X cs n Q MR MI ML pc lv st := by
  obtain ⟨p, l, e, R, s, m, args, below, meth, c, nL2, D, Z, A, Qp⟩ := X
  obtain ⟨kx, kb, km, rfl, ko, kt, kK, kr, kl, kA, rfl⟩ := K
  intro H locs ls hl hP hD hS
  exact lv_iinc (v := iI (z + d)) kx kb hd hl hj (iI_add z d) hn (hlf (z + d)) (fun ls hl => k (z + d) rfl H locs ls hl hP hD hS)
theorem v_sub (K : VK X cc own nL ret fr lo mc ms) {lv1 : List (Nat × Value)} (ks : List Nat) (h : lv_pick lv ks = lv1) (k : V X cs n Q MR MI ML pc lv1 st) : V X cs n Q MR MI ML pc lv st := by
  obtain ⟨p, l, e, R, s, m, args, below, meth, c, nL2, D, Z, A, Qp⟩ := X
  obtain ⟨kx, kb, km, rfl, ko, kt, kK, kr, kl, kA, rfl⟩ := K
  intro H locs ls hl hP hD hS
  exact k H locs ls (lv_sub hl ks h) hP hD hS
theorem v_iadd (K : VK X cc own nL ret fr lo mc ms) {a b : Int} (hd : decode cc pc = .ok (.iadd, 1)) (k : V X cs n Q MR MI ML (pc + 1) lv (.int (iI (a + b)) :: st)) : V X cs n Q MR MI ML pc lv (.int (iI b) :: .int (iI a) :: st) := by
  obtain ⟨p, l, e, R, s, m, args, below, meth, c, nL2, D, Z, A, Qp⟩ := X
  obtain ⟨kx, kb, km, rfl, ko, kt, kK, kr, kl, kA, rfl⟩ := K
  intro H locs ls hl hP hD hS
  have k9 := k H locs ls hl hP hD hS
  rw [← iI_add] at k9
  exact lv_iadd kx kb hd k9
theorem v_isub (K : VK X cc own nL ret fr lo mc ms) {a b : Int} (hd : decode cc pc = .ok (.isub, 1)) (k : V X cs n Q MR MI ML (pc + 1) lv (.int (iI (a - b)) :: st)) : V X cs n Q MR MI ML pc lv (.int (iI b) :: .int (iI a) :: st) := by
  obtain ⟨p, l, e, R, s, m, args, below, meth, c, nL2, D, Z, A, Qp⟩ := X
  obtain ⟨kx, kb, km, rfl, ko, kt, kK, kr, kl, kA, rfl⟩ := K
  intro H locs ls hl hP hD hS
  have k9 := k H locs ls hl hP hD hS
  rw [← iI_sub] at k9
  exact lv_isub kx kb hd k9
theorem v_imul (K : VK X cc own nL ret fr lo mc ms) {a b : Int} (hd : decode cc pc = .ok (.imul, 1)) (k : V X cs n Q MR MI ML (pc + 1) lv (.int (iI (a * b)) :: st)) : V X cs n Q MR MI ML pc lv (.int (iI b) :: .int (iI a) :: st) := by
  obtain ⟨p, l, e, R, s, m, args, below, meth, c, nL2, D, Z, A, Qp⟩ := X
  obtain ⟨kx, kb, km, rfl, ko, kt, kK, kr, kl, kA, rfl⟩ := K
  intro H locs ls hl hP hD hS
  have k9 := k H locs ls hl hP hD hS
  rw [← iI_mul] at k9
  exact lv_imul kx kb hd k9
theorem v_ladd (K : VK X cc own nL ret fr lo mc ms) {a b : Int} (hd : decode cc pc = .ok (.ladd, 1)) (k : V X cs n Q MR MI ML (pc + 1) lv (.long (lJ (a + b)) :: st)) : V X cs n Q MR MI ML pc lv (.long (lJ b) :: .long (lJ a) :: st) := by
  obtain ⟨p, l, e, R, s, m, args, below, meth, c, nL2, D, Z, A, Qp⟩ := X
  obtain ⟨kx, kb, km, rfl, ko, kt, kK, kr, kl, kA, rfl⟩ := K
  intro H locs ls hl hP hD hS
  have k9 := k H locs ls hl hP hD hS
  rw [← lJ_add] at k9
  exact lv_ladd kx kb hd k9
theorem v_lsub (K : VK X cc own nL ret fr lo mc ms) {a b : Int} (hd : decode cc pc = .ok (.lsub, 1)) (k : V X cs n Q MR MI ML (pc + 1) lv (.long (lJ (a - b)) :: st)) : V X cs n Q MR MI ML pc lv (.long (lJ b) :: .long (lJ a) :: st) := by
  obtain ⟨p, l, e, R, s, m, args, below, meth, c, nL2, D, Z, A, Qp⟩ := X
  obtain ⟨kx, kb, km, rfl, ko, kt, kK, kr, kl, kA, rfl⟩ := K
  intro H locs ls hl hP hD hS
  have k9 := k H locs ls hl hP hD hS
  rw [← lJ_sub] at k9
  exact lv_lsub kx kb hd k9
theorem v_lmul (K : VK X cc own nL ret fr lo mc ms) {a b : Int} (hd : decode cc pc = .ok (.lmul, 1)) (k : V X cs n Q MR MI ML (pc + 1) lv (.long (lJ (a * b)) :: st)) : V X cs n Q MR MI ML pc lv (.long (lJ b) :: .long (lJ a) :: st) := by
  obtain ⟨p, l, e, R, s, m, args, below, meth, c, nL2, D, Z, A, Qp⟩ := X
  obtain ⟨kx, kb, km, rfl, ko, kt, kK, kr, kl, kA, rfl⟩ := K
  intro H locs ls hl hP hD hS
  have k9 := k H locs ls hl hP hD hS
  rw [← lJ_mul] at k9
  exact lv_lmul kx kb hd k9
theorem v_ineg (K : VK X cc own nL ret fr lo mc ms) {a : Int} (hd : decode cc pc = .ok (.ineg, 1)) (k : V X cs n Q MR MI ML (pc + 1) lv (.int (iI (-a)) :: st)) : V X cs n Q MR MI ML pc lv (.int (iI a) :: st) := by
  obtain ⟨p, l, e, R, s, m, args, below, meth, c, nL2, D, Z, A, Qp⟩ := X
  obtain ⟨kx, kb, km, rfl, ko, kt, kK, kr, kl, kA, rfl⟩ := K
  intro H locs ls hl hP hD hS
  have k9 := k H locs ls hl hP hD hS
  rw [← iI_neg] at k9
  exact lv_ineg kx kb hd k9
theorem v_lneg (K : VK X cc own nL ret fr lo mc ms) {a : Int} (hd : decode cc pc = .ok (.lneg, 1)) (k : V X cs n Q MR MI ML (pc + 1) lv (.long (lJ (-a)) :: st)) : V X cs n Q MR MI ML pc lv (.long (lJ a) :: st) := by
  obtain ⟨p, l, e, R, s, m, args, below, meth, c, nL2, D, Z, A, Qp⟩ := X
  obtain ⟨kx, kb, km, rfl, ko, kt, kK, kr, kl, kA, rfl⟩ := K
  intro H locs ls hl hP hD hS
  have k9 := k H locs ls hl hP hD hS
  rw [← lJ_neg] at k9
  exact lv_lneg kx kb hd k9
theorem v_iand (K : VK X cc own nL ret fr lo mc ms) {a b : Int} (z : Int) (hz : iI a &&& iI b = iI z) (hd : decode cc pc = .ok (.iand, 1)) (k : V X cs n Q MR MI ML (pc + 1) lv (.int (iI z) :: st)) : V X cs n Q MR MI ML pc lv (.int (iI b) :: .int (iI a) :: st) := by
  obtain ⟨p, l, e, R, s, m, args, below, meth, c, nL2, D, Z, A, Qp⟩ := X
  obtain ⟨kx, kb, km, rfl, ko, kt, kK, kr, kl, kA, rfl⟩ := K
  intro H locs ls hl hP hD hS
  have k9 := k H locs ls hl hP hD hS
  rw [← hz] at k9
  exact lv_iand kx kb hd k9
theorem v_ixor (K : VK X cc own nL ret fr lo mc ms) {a b : Int} (z : Int) (hz : iI a ^^^ iI b = iI z) (hd : decode cc pc = .ok (.ixor, 1)) (k : V X cs n Q MR MI ML (pc + 1) lv (.int (iI z) :: st)) : V X cs n Q MR MI ML pc lv (.int (iI b) :: .int (iI a) :: st) := by
  obtain ⟨p, l, e, R, s, m, args, below, meth, c, nL2, D, Z, A, Qp⟩ := X
  obtain ⟨kx, kb, km, rfl, ko, kt, kK, kr, kl, kA, rfl⟩ := K
  intro H locs ls hl hP hD hS
  have k9 := k H locs ls hl hP hD hS
  rw [← hz] at k9
  exact lv_ixor kx kb hd k9
theorem v_ishl (K : VK X cc own nL ret fr lo mc ms) {a b : Int} (z : Int) (hz : iI a <<< (iI b &&& 31) = iI z) (hd : decode cc pc = .ok (.ishl, 1)) (k : V X cs n Q MR MI ML (pc + 1) lv (.int (iI z) :: st)) : V X cs n Q MR MI ML pc lv (.int (iI b) :: .int (iI a) :: st) := by
  obtain ⟨p, l, e, R, s, m, args, below, meth, c, nL2, D, Z, A, Qp⟩ := X
  obtain ⟨kx, kb, km, rfl, ko, kt, kK, kr, kl, kA, rfl⟩ := K
  intro H locs ls hl hP hD hS
  have k9 := k H locs ls hl hP hD hS
  rw [← hz] at k9
  exact lv_ishl kx kb hd k9
theorem v_ishr (K : VK X cc own nL ret fr lo mc ms) {a b : Int} (z : Int) (hz : iI a >>> (iI b &&& 31) = iI z) (hd : decode cc pc = .ok (.ishr, 1)) (k : V X cs n Q MR MI ML (pc + 1) lv (.int (iI z) :: st)) : V X cs n Q MR MI ML pc lv (.int (iI b) :: .int (iI a) :: st) := by
  obtain ⟨p, l, e, R, s, m, args, below, meth, c, nL2, D, Z, A, Qp⟩ := X
  obtain ⟨kx, kb, km, rfl, ko, kt, kK, kr, kl, kA, rfl⟩ := K
  intro H locs ls hl hP hD hS
  have k9 := k H locs ls hl hP hD hS
  rw [← hz] at k9
  exact lv_ishr kx kb hd k9
theorem v_idiv (K : VK X cc own nL ret fr lo mc ms) {a b : Int} (z : Int) (h0 : ¬ iI b = 0) (hz : iI a / iI b = iI z) (hd : decode cc pc = .ok (.idiv, 1)) (k : V X cs n Q MR MI ML (pc + 1) lv (.int (iI z) :: st)) : V X cs n Q MR MI ML pc lv (.int (iI b) :: .int (iI a) :: st) := by
  obtain ⟨p, l, e, R, s, m, args, below, meth, c, nL2, D, Z, A, Qp⟩ := X
  obtain ⟨kx, kb, km, rfl, ko, kt, kK, kr, kl, kA, rfl⟩ := K
  intro H locs ls hl hP hD hS
  have k9 := k H locs ls hl hP hD hS
  rw [← hz] at k9
  exact lv_idiv kx kb hd h0 k9
theorem v_irem (K : VK X cc own nL ret fr lo mc ms) {a b : Int} (z : Int) (h0 : ¬ iI b = 0) (hz : iI a - iI a / iI b * iI b = iI z) (hd : decode cc pc = .ok (.irem, 1)) (k : V X cs n Q MR MI ML (pc + 1) lv (.int (iI z) :: st)) : V X cs n Q MR MI ML pc lv (.int (iI b) :: .int (iI a) :: st) := by
  obtain ⟨p, l, e, R, s, m, args, below, meth, c, nL2, D, Z, A, Qp⟩ := X
  obtain ⟨kx, kb, km, rfl, ko, kt, kK, kr, kl, kA, rfl⟩ := K
  intro H locs ls hl hP hD hS
  have k9 := k H locs ls hl hP hD hS
  rw [← hz] at k9
  exact lv_irem kx kb hd h0 k9
theorem v_ldiv (K : VK X cc own nL ret fr lo mc ms) {a b : Int} (z : Int) (h0 : ¬ lJ b = 0) (hz : lJ a / lJ b = lJ z) (hd : decode cc pc = .ok (.ldiv, 1)) (k : V X cs n Q MR MI ML (pc + 1) lv (.long (lJ z) :: st)) : V X cs n Q MR MI ML pc lv (.long (lJ b) :: .long (lJ a) :: st) := by
  obtain ⟨p, l, e, R, s, m, args, below, meth, c, nL2, D, Z, A, Qp⟩ := X
  obtain ⟨kx, kb, km, rfl, ko, kt, kK, kr, kl, kA, rfl⟩ := K
  intro H locs ls hl hP hD hS
  have k9 := k H locs ls hl hP hD hS
  rw [← hz] at k9
  exact lv_ldiv kx kb hd h0 k9
theorem v_lrem (K : VK X cc own nL ret fr lo mc ms) {a b : Int} (z : Int) (h0 : ¬ lJ b = 0) (hz : lJ a - lJ a / lJ b * lJ b = lJ z) (hd : decode cc pc = .ok (.lrem, 1)) (k : V X cs n Q MR MI ML (pc + 1) lv (.long (lJ z) :: st)) : V X cs n Q MR MI ML pc lv (.long (lJ b) :: .long (lJ a) :: st) := by
  obtain ⟨p, l, e, R, s, m, args, below, meth, c, nL2, D, Z, A, Qp⟩ := X
  obtain ⟨kx, kb, km, rfl, ko, kt, kK, kr, kl, kA, rfl⟩ := K
  intro H locs ls hl hP hD hS
  have k9 := k H locs ls hl hP hD hS
  rw [← hz] at k9
  exact lv_lrem kx kb hd h0 k9
theorem v_i2l (K : VK X cc own nL ret fr lo mc ms) {a : Int} (ha : rg a) (hd : decode cc pc = .ok (.i2l, 1)) (k : V X cs n Q MR MI ML (pc + 1) lv (.long (lJ a) :: st)) : V X cs n Q MR MI ML pc lv (.int (iI a) :: st) := by
  obtain ⟨p, l, e, R, s, m, args, below, meth, c, nL2, D, Z, A, Qp⟩ := X
  obtain ⟨kx, kb, km, rfl, ko, kt, kK, kr, kl, kA, rfl⟩ := K
  intro H locs ls hl hP hD hS
  exact lv_i2l kx kb hd (by rw [← Int64.toInt_inj, Int32.toInt_toInt64, iI_T ha, lJ_T ⟨by have := ha.1; omega, by have := ha.2; omega⟩]) (k H locs ls hl hP hD hS)
theorem v_dup (K : VK X cc own nL ret fr lo mc ms) {va : Value} (hd : decode cc pc = .ok (.dup, 1)) (hva : va.category = 1) (k : V X cs n Q MR MI ML (pc + 1) lv (va :: va :: st)) : V X cs n Q MR MI ML pc lv (va :: st) := by
  obtain ⟨p, l, e, R, s, m, args, below, meth, c, nL2, D, Z, A, Qp⟩ := X
  obtain ⟨kx, kb, km, rfl, ko, kt, kK, kr, kl, kA, rfl⟩ := K
  intro H locs ls hl hP hD hS
  exact lv_dup kx kb hd hva (k H locs ls hl hP hD hS)
theorem v_pop (K : VK X cc own nL ret fr lo mc ms) {va : Value} (hd : decode cc pc = .ok (.pop, 1)) (hva : va.category = 1) (k : V X cs n Q MR MI ML (pc + 1) lv st) : V X cs n Q MR MI ML pc lv (va :: st) := by
  obtain ⟨p, l, e, R, s, m, args, below, meth, c, nL2, D, Z, A, Qp⟩ := X
  obtain ⟨kx, kb, km, rfl, ko, kt, kK, kr, kl, kA, rfl⟩ := K
  intro H locs ls hl hP hD hS
  exact lv_pop kx kb hd hva (k H locs ls hl hP hD hS)
theorem v_dup2_11 (K : VK X cc own nL ret fr lo mc ms) {va vb : Value} (hd : decode cc pc = .ok (.dup2, 1)) (hva : va.category = 1) (hvb : vb.category = 1) (k : V X cs n Q MR MI ML (pc + 1) lv (va :: vb :: va :: vb :: st)) : V X cs n Q MR MI ML pc lv (va :: vb :: st) := by
  obtain ⟨p, l, e, R, s, m, args, below, meth, c, nL2, D, Z, A, Qp⟩ := X
  obtain ⟨kx, kb, km, rfl, ko, kt, kK, kr, kl, kA, rfl⟩ := K
  intro H locs ls hl hP hD hS
  exact lv_dup2_11 kx kb hd hva hvb (k H locs ls hl hP hD hS)
theorem v_goto (K : VK X cc own nL ret fr lo mc ms) {off : Int} (tgt : Nat) (hd : decode cc pc = .ok (.goto off, 3)) (ht : (pc : Int) + off = (tgt : Int)) (k : V X cs n Q MR MI ML tgt lv st) : V X cs n Q MR MI ML pc lv st := by
  obtain ⟨p, l, e, R, s, m, args, below, meth, c, nL2, D, Z, A, Qp⟩ := X
  obtain ⟨kx, kb, km, rfl, ko, kt, kK, kr, kl, kA, rfl⟩ := K
  intro H locs ls hl hP hD hS
  exact lv_goto kx kb hd ht (k H locs ls hl hP hD hS)
theorem v_icmp_eq (K : VK X cc own nL ret fr lo mc ms) {a b off : Int} (tgt : Nat) (ha : rg a) (hb : rg b) (hd : decode cc pc = .ok (.if_icmp .eq off, 3)) (ht : (pc : Int) + off = (tgt : Int)) (kt : a = b → V X cs n Q MR MI ML tgt lv st) (kf : a ≠ b → V X cs n Q MR MI ML (pc + 3) lv st) : V X cs n Q MR MI ML pc lv (.int (iI b) :: .int (iI a) :: st) := by
  obtain ⟨p, l, e, R, s, m, args, below, meth, c, nL2, D, Z, A, Qp⟩ := X
  obtain ⟨kx, kb, km, rfl, ko, kt, kK, kr, kl, kA, rfl⟩ := K
  intro H locs ls hl hP hD hS
  refine lv_icmp_eq kx kb hd ht (fun q => kt ?_ H locs ls hl hP hD hS) (fun q => kf ?_ H locs ls hl hP hD hS)
  · simp only [ge_iff_le, gt_iff_lt, ne_eq, iI_lt ha hb, iI_lt hb ha, iI_le ha hb, iI_le hb ha, iI_eq ha hb, Decidable.not_not] at q
    omega
  · simp only [ge_iff_le, gt_iff_lt, ne_eq, iI_lt ha hb, iI_lt hb ha, iI_le ha hb, iI_le hb ha, iI_eq ha hb, Decidable.not_not] at q
    omega
theorem v_if_eq (K : VK X cc own nL ret fr lo mc ms) {a off : Int} (tgt : Nat) (ha : rg a) (hd : decode cc pc = .ok (.ifCond .eq off, 3)) (ht : (pc : Int) + off = (tgt : Int)) (kt : a = 0 → V X cs n Q MR MI ML tgt lv st) (kf : a ≠ 0 → V X cs n Q MR MI ML (pc + 3) lv st) : V X cs n Q MR MI ML pc lv (.int (iI a) :: st) := by
  obtain ⟨p, l, e, R, s, m, args, below, meth, c, nL2, D, Z, A, Qp⟩ := X
  obtain ⟨kx, kb, km, rfl, ko, kt, kK, kr, kl, kA, rfl⟩ := K
  intro H locs ls hl hP hD hS
  refine lv_if_eq kx kb hd ht (fun q => kt ?_ H locs ls hl hP hD hS) (fun q => kf ?_ H locs ls hl hP hD hS)
  · simp only [ge_iff_le, gt_iff_lt, ne_eq, iI_0, iI_lt ha rg_0, iI_lt rg_0 ha, iI_le ha rg_0, iI_le rg_0 ha, iI_eq ha rg_0, Decidable.not_not] at q
    omega
  · simp only [ge_iff_le, gt_iff_lt, ne_eq, iI_0, iI_lt ha rg_0, iI_lt rg_0 ha, iI_le ha rg_0, iI_le rg_0 ha, iI_eq ha rg_0, Decidable.not_not] at q
    omega
theorem v_lcmp_eq (K : VK X cc own nL ret fr lo mc ms) {a b off : Int} (tgt : Nat) (ha : rl a) (hb : rl b) (hd1 : decode cc pc = .ok (.lcmp, 1)) (hd : decode cc (pc + 1) = .ok (.ifCond .eq off, 3)) (ht : ((pc + 1 : Nat) : Int) + off = (tgt : Int)) (kt : a = b → V X cs n Q MR MI ML tgt lv st) (kf : a ≠ b → V X cs n Q MR MI ML (pc + 1 + 3) lv st) : V X cs n Q MR MI ML pc lv (.long (lJ b) :: .long (lJ a) :: st) := by
  obtain ⟨p, l, e, R, s, m, args, below, meth, c, nL2, D, Z, A, Qp⟩ := X
  obtain ⟨kx, kb, km, rfl, ko, kt, kK, kr, kl, kA, rfl⟩ := K
  intro H locs ls hl hP hD hS
  have h1 : lg_cmp (lJ a) (lJ b) = iI (if b < a then 1 else if a = b then 0 else -1) := by
    unfold lg_cmp
    simp only [gt_iff_lt, lJ_lt hb ha, lJ_eq ha hb]
    split
    · rfl
    · split <;> rfl
  refine W.lcmp kx kb hd1 ?_
  rw [h1]
  have hr : rg (if b < a then 1 else if a = b then 0 else -1) := by
    split
    · exact ⟨by decide, by decide⟩
    · split <;> exact ⟨by decide, by decide⟩
  refine lv_if_eq kx kb hd ht (fun q => kt ?_ H locs ls hl hP hD hS) (fun q => kf ?_ H locs ls hl hP hD hS)
  · simp only [ge_iff_le, gt_iff_lt, ne_eq, iI_0, iI_lt hr rg_0, iI_lt rg_0 hr, iI_le hr rg_0, iI_le rg_0 hr, iI_eq hr rg_0, Decidable.not_not] at q
    split at q
    · omega
    · split at q <;> omega
  · simp only [ge_iff_le, gt_iff_lt, ne_eq, iI_0, iI_lt hr rg_0, iI_lt rg_0 hr, iI_le hr rg_0, iI_le rg_0 hr, iI_eq hr rg_0, Decidable.not_not] at q
    split at q
    · omega
    · split at q <;> omega
theorem v_icmp_ne (K : VK X cc own nL ret fr lo mc ms) {a b off : Int} (tgt : Nat) (ha : rg a) (hb : rg b) (hd : decode cc pc = .ok (.if_icmp .ne off, 3)) (ht : (pc : Int) + off = (tgt : Int)) (kt : a ≠ b → V X cs n Q MR MI ML tgt lv st) (kf : a = b → V X cs n Q MR MI ML (pc + 3) lv st) : V X cs n Q MR MI ML pc lv (.int (iI b) :: .int (iI a) :: st) := by
  obtain ⟨p, l, e, R, s, m, args, below, meth, c, nL2, D, Z, A, Qp⟩ := X
  obtain ⟨kx, kb, km, rfl, ko, kt, kK, kr, kl, kA, rfl⟩ := K
  intro H locs ls hl hP hD hS
  refine lv_icmp_ne kx kb hd ht (fun q => kt ?_ H locs ls hl hP hD hS) (fun q => kf ?_ H locs ls hl hP hD hS)
  · simp only [ge_iff_le, gt_iff_lt, ne_eq, iI_lt ha hb, iI_lt hb ha, iI_le ha hb, iI_le hb ha, iI_eq ha hb, Decidable.not_not] at q
    omega
  · simp only [ge_iff_le, gt_iff_lt, ne_eq, iI_lt ha hb, iI_lt hb ha, iI_le ha hb, iI_le hb ha, iI_eq ha hb, Decidable.not_not] at q
    omega
theorem v_if_ne (K : VK X cc own nL ret fr lo mc ms) {a off : Int} (tgt : Nat) (ha : rg a) (hd : decode cc pc = .ok (.ifCond .ne off, 3)) (ht : (pc : Int) + off = (tgt : Int)) (kt : a ≠ 0 → V X cs n Q MR MI ML tgt lv st) (kf : a = 0 → V X cs n Q MR MI ML (pc + 3) lv st) : V X cs n Q MR MI ML pc lv (.int (iI a) :: st) := by
  obtain ⟨p, l, e, R, s, m, args, below, meth, c, nL2, D, Z, A, Qp⟩ := X
  obtain ⟨kx, kb, km, rfl, ko, kt, kK, kr, kl, kA, rfl⟩ := K
  intro H locs ls hl hP hD hS
  refine lv_if_ne kx kb hd ht (fun q => kt ?_ H locs ls hl hP hD hS) (fun q => kf ?_ H locs ls hl hP hD hS)
  · simp only [ge_iff_le, gt_iff_lt, ne_eq, iI_0, iI_lt ha rg_0, iI_lt rg_0 ha, iI_le ha rg_0, iI_le rg_0 ha, iI_eq ha rg_0, Decidable.not_not] at q
    omega
  · simp only [ge_iff_le, gt_iff_lt, ne_eq, iI_0, iI_lt ha rg_0, iI_lt rg_0 ha, iI_le ha rg_0, iI_le rg_0 ha, iI_eq ha rg_0, Decidable.not_not] at q
    omega
theorem v_lcmp_ne (K : VK X cc own nL ret fr lo mc ms) {a b off : Int} (tgt : Nat) (ha : rl a) (hb : rl b) (hd1 : decode cc pc = .ok (.lcmp, 1)) (hd : decode cc (pc + 1) = .ok (.ifCond .ne off, 3)) (ht : ((pc + 1 : Nat) : Int) + off = (tgt : Int)) (kt : a ≠ b → V X cs n Q MR MI ML tgt lv st) (kf : a = b → V X cs n Q MR MI ML (pc + 1 + 3) lv st) : V X cs n Q MR MI ML pc lv (.long (lJ b) :: .long (lJ a) :: st) := by
  obtain ⟨p, l, e, R, s, m, args, below, meth, c, nL2, D, Z, A, Qp⟩ := X
  obtain ⟨kx, kb, km, rfl, ko, kt, kK, kr, kl, kA, rfl⟩ := K
  intro H locs ls hl hP hD hS
  have h1 : lg_cmp (lJ a) (lJ b) = iI (if b < a then 1 else if a = b then 0 else -1) := by
    unfold lg_cmp
    simp only [gt_iff_lt, lJ_lt hb ha, lJ_eq ha hb]
    split
    · rfl
    · split <;> rfl
  refine W.lcmp kx kb hd1 ?_
  rw [h1]
  have hr : rg (if b < a then 1 else if a = b then 0 else -1) := by
    split
    · exact ⟨by decide, by decide⟩
    · split <;> exact ⟨by decide, by decide⟩
  refine lv_if_ne kx kb hd ht (fun q => kt ?_ H locs ls hl hP hD hS) (fun q => kf ?_ H locs ls hl hP hD hS)
  · simp only [ge_iff_le, gt_iff_lt, ne_eq, iI_0, iI_lt hr rg_0, iI_lt rg_0 hr, iI_le hr rg_0, iI_le rg_0 hr, iI_eq hr rg_0, Decidable.not_not] at q
    split at q
    · omega
    · split at q <;> omega
  · simp only [ge_iff_le, gt_iff_lt, ne_eq, iI_0, iI_lt hr rg_0, iI_lt rg_0 hr, iI_le hr rg_0, iI_le rg_0 hr, iI_eq hr rg_0, Decidable.not_not] at q
    split at q
    · omega
    · split at q <;> omega
theorem v_icmp_lt (K : VK X cc own nL ret fr lo mc ms) {a b off : Int} (tgt : Nat) (ha : rg a) (hb : rg b) (hd : decode cc pc = .ok (.if_icmp .lt off, 3)) (ht : (pc : Int) + off = (tgt : Int)) (kt : a < b → V X cs n Q MR MI ML tgt lv st) (kf : b ≤ a → V X cs n Q MR MI ML (pc + 3) lv st) : V X cs n Q MR MI ML pc lv (.int (iI b) :: .int (iI a) :: st) := by
  obtain ⟨p, l, e, R, s, m, args, below, meth, c, nL2, D, Z, A, Qp⟩ := X
  obtain ⟨kx, kb, km, rfl, ko, kt, kK, kr, kl, kA, rfl⟩ := K
  intro H locs ls hl hP hD hS
  refine lv_icmp_lt kx kb hd ht (fun q => kt ?_ H locs ls hl hP hD hS) (fun q => kf ?_ H locs ls hl hP hD hS)
  · simp only [ge_iff_le, gt_iff_lt, ne_eq, iI_lt ha hb, iI_lt hb ha, iI_le ha hb, iI_le hb ha, iI_eq ha hb, Decidable.not_not] at q
    omega
  · simp only [ge_iff_le, gt_iff_lt, ne_eq, iI_lt ha hb, iI_lt hb ha, iI_le ha hb, iI_le hb ha, iI_eq ha hb, Decidable.not_not] at q
    omega
theorem v_if_lt (K : VK X cc own nL ret fr lo mc ms) {a off : Int} (tgt : Nat) (ha : rg a) (hd : decode cc pc = .ok (.ifCond .lt off, 3)) (ht : (pc : Int) + off = (tgt : Int)) (kt : a < 0 → V X cs n Q MR MI ML tgt lv st) (kf : 0 ≤ a → V X cs n Q MR MI ML (pc + 3) lv st) : V X cs n Q MR MI ML pc lv (.int (iI a) :: st) := by
  obtain ⟨p, l, e, R, s, m, args, below, meth, c, nL2, D, Z, A, Qp⟩ := X
  obtain ⟨kx, kb, km, rfl, ko, kt, kK, kr, kl, kA, rfl⟩ := K
  intro H locs ls hl hP hD hS
  refine lv_if_lt kx kb hd ht (fun q => kt ?_ H locs ls hl hP hD hS) (fun q => kf ?_ H locs ls hl hP hD hS)
  · simp only [ge_iff_le, gt_iff_lt, ne_eq, iI_0, iI_lt ha rg_0, iI_lt rg_0 ha, iI_le ha rg_0, iI_le rg_0 ha, iI_eq ha rg_0, Decidable.not_not] at q
    omega
  · simp only [ge_iff_le, gt_iff_lt, ne_eq, iI_0, iI_lt ha rg_0, iI_lt rg_0 ha, iI_le ha rg_0, iI_le rg_0 ha, iI_eq ha rg_0, Decidable.not_not] at q
    omega
theorem v_lcmp_lt (K : VK X cc own nL ret fr lo mc ms) {a b off : Int} (tgt : Nat) (ha : rl a) (hb : rl b) (hd1 : decode cc pc = .ok (.lcmp, 1)) (hd : decode cc (pc + 1) = .ok (.ifCond .lt off, 3)) (ht : ((pc + 1 : Nat) : Int) + off = (tgt : Int)) (kt : a < b → V X cs n Q MR MI ML tgt lv st) (kf : b ≤ a → V X cs n Q MR MI ML (pc + 1 + 3) lv st) : V X cs n Q MR MI ML pc lv (.long (lJ b) :: .long (lJ a) :: st) := by
  obtain ⟨p, l, e, R, s, m, args, below, meth, c, nL2, D, Z, A, Qp⟩ := X
  obtain ⟨kx, kb, km, rfl, ko, kt, kK, kr, kl, kA, rfl⟩ := K
  intro H locs ls hl hP hD hS
  have h1 : lg_cmp (lJ a) (lJ b) = iI (if b < a then 1 else if a = b then 0 else -1) := by
    unfold lg_cmp
    simp only [gt_iff_lt, lJ_lt hb ha, lJ_eq ha hb]
    split
    · rfl
    · split <;> rfl
  refine W.lcmp kx kb hd1 ?_
  rw [h1]
  have hr : rg (if b < a then 1 else if a = b then 0 else -1) := by
    split
    · exact ⟨by decide, by decide⟩
    · split <;> exact ⟨by decide, by decide⟩
  refine lv_if_lt kx kb hd ht (fun q => kt ?_ H locs ls hl hP hD hS) (fun q => kf ?_ H locs ls hl hP hD hS)
  · simp only [ge_iff_le, gt_iff_lt, ne_eq, iI_0, iI_lt hr rg_0, iI_lt rg_0 hr, iI_le hr rg_0, iI_le rg_0 hr, iI_eq hr rg_0, Decidable.not_not] at q
    split at q
    · omega
    · split at q <;> omega
  · simp only [ge_iff_le, gt_iff_lt, ne_eq, iI_0, iI_lt hr rg_0, iI_lt rg_0 hr, iI_le hr rg_0, iI_le rg_0 hr, iI_eq hr rg_0, Decidable.not_not] at q
    split at q
    · omega
    · split at q <;> omega
theorem v_icmp_ge (K : VK X cc own nL ret fr lo mc ms) {a b off : Int} (tgt : Nat) (ha : rg a) (hb : rg b) (hd : decode cc pc = .ok (.if_icmp .ge off, 3)) (ht : (pc : Int) + off = (tgt : Int)) (kt : b ≤ a → V X cs n Q MR MI ML tgt lv st) (kf : a < b → V X cs n Q MR MI ML (pc + 3) lv st) : V X cs n Q MR MI ML pc lv (.int (iI b) :: .int (iI a) :: st) := by
  obtain ⟨p, l, e, R, s, m, args, below, meth, c, nL2, D, Z, A, Qp⟩ := X
  obtain ⟨kx, kb, km, rfl, ko, kt, kK, kr, kl, kA, rfl⟩ := K
  intro H locs ls hl hP hD hS
  refine lv_icmp_ge kx kb hd ht (fun q => kt ?_ H locs ls hl hP hD hS) (fun q => kf ?_ H locs ls hl hP hD hS)
  · simp only [ge_iff_le, gt_iff_lt, ne_eq, iI_lt ha hb, iI_lt hb ha, iI_le ha hb, iI_le hb ha, iI_eq ha hb, Decidable.not_not] at q
    omega
  · simp only [ge_iff_le, gt_iff_lt, ne_eq, iI_lt ha hb, iI_lt hb ha, iI_le ha hb, iI_le hb ha, iI_eq ha hb, Decidable.not_not] at q
    omega
theorem v_if_ge (K : VK X cc own nL ret fr lo mc ms) {a off : Int} (tgt : Nat) (ha : rg a) (hd : decode cc pc = .ok (.ifCond .ge off, 3)) (ht : (pc : Int) + off = (tgt : Int)) (kt : 0 ≤ a → V X cs n Q MR MI ML tgt lv st) (kf : a < 0 → V X cs n Q MR MI ML (pc + 3) lv st) : V X cs n Q MR MI ML pc lv (.int (iI a) :: st) := by
  obtain ⟨p, l, e, R, s, m, args, below, meth, c, nL2, D, Z, A, Qp⟩ := X
  obtain ⟨kx, kb, km, rfl, ko, kt, kK, kr, kl, kA, rfl⟩ := K
  intro H locs ls hl hP hD hS
  refine lv_if_ge kx kb hd ht (fun q => kt ?_ H locs ls hl hP hD hS) (fun q => kf ?_ H locs ls hl hP hD hS)
  · simp only [ge_iff_le, gt_iff_lt, ne_eq, iI_0, iI_lt ha rg_0, iI_lt rg_0 ha, iI_le ha rg_0, iI_le rg_0 ha, iI_eq ha rg_0, Decidable.not_not] at q
    omega
  · simp only [ge_iff_le, gt_iff_lt, ne_eq, iI_0, iI_lt ha rg_0, iI_lt rg_0 ha, iI_le ha rg_0, iI_le rg_0 ha, iI_eq ha rg_0, Decidable.not_not] at q
    omega
theorem v_lcmp_ge (K : VK X cc own nL ret fr lo mc ms) {a b off : Int} (tgt : Nat) (ha : rl a) (hb : rl b) (hd1 : decode cc pc = .ok (.lcmp, 1)) (hd : decode cc (pc + 1) = .ok (.ifCond .ge off, 3)) (ht : ((pc + 1 : Nat) : Int) + off = (tgt : Int)) (kt : b ≤ a → V X cs n Q MR MI ML tgt lv st) (kf : a < b → V X cs n Q MR MI ML (pc + 1 + 3) lv st) : V X cs n Q MR MI ML pc lv (.long (lJ b) :: .long (lJ a) :: st) := by
  obtain ⟨p, l, e, R, s, m, args, below, meth, c, nL2, D, Z, A, Qp⟩ := X
  obtain ⟨kx, kb, km, rfl, ko, kt, kK, kr, kl, kA, rfl⟩ := K
  intro H locs ls hl hP hD hS
  have h1 : lg_cmp (lJ a) (lJ b) = iI (if b < a then 1 else if a = b then 0 else -1) := by
    unfold lg_cmp
    simp only [gt_iff_lt, lJ_lt hb ha, lJ_eq ha hb]
    split
    · rfl
    · split <;> rfl
  refine W.lcmp kx kb hd1 ?_
  rw [h1]
  have hr : rg (if b < a then 1 else if a = b then 0 else -1) := by
    split
    · exact ⟨by decide, by decide⟩
    · split <;> exact ⟨by decide, by decide⟩
  refine lv_if_ge kx kb hd ht (fun q => kt ?_ H locs ls hl hP hD hS) (fun q => kf ?_ H locs ls hl hP hD hS)
  · simp only [ge_iff_le, gt_iff_lt, ne_eq, iI_0, iI_lt hr rg_0, iI_lt rg_0 hr, iI_le hr rg_0, iI_le rg_0 hr, iI_eq hr rg_0, Decidable.not_not] at q
    split at q
    · omega
    · split at q <;> omega
  · simp only [ge_iff_le, gt_iff_lt, ne_eq, iI_0, iI_lt hr rg_0, iI_lt rg_0 hr, iI_le hr rg_0, iI_le rg_0 hr, iI_eq hr rg_0, Decidable.not_not] at q
    split at q
    · omega
    · split at q <;> omega
theorem v_icmp_gt (K : VK X cc own nL ret fr lo mc ms) {a b off : Int} (tgt : Nat) (ha : rg a) (hb : rg b) (hd : decode cc pc = .ok (.if_icmp .gt off, 3)) (ht : (pc : Int) + off = (tgt : Int)) (kt : b < a → V X cs n Q MR MI ML tgt lv st) (kf : a ≤ b → V X cs n Q MR MI ML (pc + 3) lv st) : V X cs n Q MR MI ML pc lv (.int (iI b) :: .int (iI a) :: st) := by
  obtain ⟨p, l, e, R, s, m, args, below, meth, c, nL2, D, Z, A, Qp⟩ := X
  obtain ⟨kx, kb, km, rfl, ko, kt, kK, kr, kl, kA, rfl⟩ := K
  intro H locs ls hl hP hD hS
  refine lv_icmp_gt kx kb hd ht (fun q => kt ?_ H locs ls hl hP hD hS) (fun q => kf ?_ H locs ls hl hP hD hS)
  · simp only [ge_iff_le, gt_iff_lt, ne_eq, iI_lt ha hb, iI_lt hb ha, iI_le ha hb, iI_le hb ha, iI_eq ha hb, Decidable.not_not] at q
    omega
  · simp only [ge_iff_le, gt_iff_lt, ne_eq, iI_lt ha hb, iI_lt hb ha, iI_le ha hb, iI_le hb ha, iI_eq ha hb, Decidable.not_not] at q
    omega
theorem v_if_gt (K : VK X cc own nL ret fr lo mc ms) {a off : Int} (tgt : Nat) (ha : rg a) (hd : decode cc pc = .ok (.ifCond .gt off, 3)) (ht : (pc : Int) + off = (tgt : Int)) (kt : 0 < a → V X cs n Q MR MI ML tgt lv st) (kf : a ≤ 0 → V X cs n Q MR MI ML (pc + 3) lv st) : V X cs n Q MR MI ML pc lv (.int (iI a) :: st) := by
  obtain ⟨p, l, e, R, s, m, args, below, meth, c, nL2, D, Z, A, Qp⟩ := X
  obtain ⟨kx, kb, km, rfl, ko, kt, kK, kr, kl, kA, rfl⟩ := K
  intro H locs ls hl hP hD hS
  refine lv_if_gt kx kb hd ht (fun q => kt ?_ H locs ls hl hP hD hS) (fun q => kf ?_ H locs ls hl hP hD hS)
  · simp only [ge_iff_le, gt_iff_lt, ne_eq, iI_0, iI_lt ha rg_0, iI_lt rg_0 ha, iI_le ha rg_0, iI_le rg_0 ha, iI_eq ha rg_0, Decidable.not_not] at q
    omega
  · simp only [ge_iff_le, gt_iff_lt, ne_eq, iI_0, iI_lt ha rg_0, iI_lt rg_0 ha, iI_le ha rg_0, iI_le rg_0 ha, iI_eq ha rg_0, Decidable.not_not] at q
    omega
theorem v_lcmp_gt (K : VK X cc own nL ret fr lo mc ms) {a b off : Int} (tgt : Nat) (ha : rl a) (hb : rl b) (hd1 : decode cc pc = .ok (.lcmp, 1)) (hd : decode cc (pc + 1) = .ok (.ifCond .gt off, 3)) (ht : ((pc + 1 : Nat) : Int) + off = (tgt : Int)) (kt : b < a → V X cs n Q MR MI ML tgt lv st) (kf : a ≤ b → V X cs n Q MR MI ML (pc + 1 + 3) lv st) : V X cs n Q MR MI ML pc lv (.long (lJ b) :: .long (lJ a) :: st) := by
  obtain ⟨p, l, e, R, s, m, args, below, meth, c, nL2, D, Z, A, Qp⟩ := X
  obtain ⟨kx, kb, km, rfl, ko, kt, kK, kr, kl, kA, rfl⟩ := K
  intro H locs ls hl hP hD hS
  have h1 : lg_cmp (lJ a) (lJ b) = iI (if b < a then 1 else if a = b then 0 else -1) := by
    unfold lg_cmp
    simp only [gt_iff_lt, lJ_lt hb ha, lJ_eq ha hb]
    split
    · rfl
    · split <;> rfl
  refine W.lcmp kx kb hd1 ?_
  rw [h1]
  have hr : rg (if b < a then 1 else if a = b then 0 else -1) := by
    split
    · exact ⟨by decide, by decide⟩
    · split <;> exact ⟨by decide, by decide⟩
  refine lv_if_gt kx kb hd ht (fun q => kt ?_ H locs ls hl hP hD hS) (fun q => kf ?_ H locs ls hl hP hD hS)
  · simp only [ge_iff_le, gt_iff_lt, ne_eq, iI_0, iI_lt hr rg_0, iI_lt rg_0 hr, iI_le hr rg_0, iI_le rg_0 hr, iI_eq hr rg_0, Decidable.not_not] at q
    split at q
    · omega
    · split at q <;> omega
  · simp only [ge_iff_le, gt_iff_lt, ne_eq, iI_0, iI_lt hr rg_0, iI_lt rg_0 hr, iI_le hr rg_0, iI_le rg_0 hr, iI_eq hr rg_0, Decidable.not_not] at q
    split at q
    · omega
    · split at q <;> omega
theorem v_icmp_le (K : VK X cc own nL ret fr lo mc ms) {a b off : Int} (tgt : Nat) (ha : rg a) (hb : rg b) (hd : decode cc pc = .ok (.if_icmp .le off, 3)) (ht : (pc : Int) + off = (tgt : Int)) (kt : a ≤ b → V X cs n Q MR MI ML tgt lv st) (kf : b < a → V X cs n Q MR MI ML (pc + 3) lv st) : V X cs n Q MR MI ML pc lv (.int (iI b) :: .int (iI a) :: st) := by
  obtain ⟨p, l, e, R, s, m, args, below, meth, c, nL2, D, Z, A, Qp⟩ := X
  obtain ⟨kx, kb, km, rfl, ko, kt, kK, kr, kl, kA, rfl⟩ := K
  intro H locs ls hl hP hD hS
  refine lv_icmp_le kx kb hd ht (fun q => kt ?_ H locs ls hl hP hD hS) (fun q => kf ?_ H locs ls hl hP hD hS)
  · simp only [ge_iff_le, gt_iff_lt, ne_eq, iI_lt ha hb, iI_lt hb ha, iI_le ha hb, iI_le hb ha, iI_eq ha hb, Decidable.not_not] at q
    omega
  · simp only [ge_iff_le, gt_iff_lt, ne_eq, iI_lt ha hb, iI_lt hb ha, iI_le ha hb, iI_le hb ha, iI_eq ha hb, Decidable.not_not] at q
    omega
theorem v_if_le (K : VK X cc own nL ret fr lo mc ms) {a off : Int} (tgt : Nat) (ha : rg a) (hd : decode cc pc = .ok (.ifCond .le off, 3)) (ht : (pc : Int) + off = (tgt : Int)) (kt : a ≤ 0 → V X cs n Q MR MI ML tgt lv st) (kf : 0 < a → V X cs n Q MR MI ML (pc + 3) lv st) : V X cs n Q MR MI ML pc lv (.int (iI a) :: st) := by
  obtain ⟨p, l, e, R, s, m, args, below, meth, c, nL2, D, Z, A, Qp⟩ := X
  obtain ⟨kx, kb, km, rfl, ko, kt, kK, kr, kl, kA, rfl⟩ := K
  intro H locs ls hl hP hD hS
  refine lv_if_le kx kb hd ht (fun q => kt ?_ H locs ls hl hP hD hS) (fun q => kf ?_ H locs ls hl hP hD hS)
  · simp only [ge_iff_le, gt_iff_lt, ne_eq, iI_0, iI_lt ha rg_0, iI_lt rg_0 ha, iI_le ha rg_0, iI_le rg_0 ha, iI_eq ha rg_0, Decidable.not_not] at q
    omega
  · simp only [ge_iff_le, gt_iff_lt, ne_eq, iI_0, iI_lt ha rg_0, iI_lt rg_0 ha, iI_le ha rg_0, iI_le rg_0 ha, iI_eq ha rg_0, Decidable.not_not] at q
    omega
theorem v_lcmp_le (K : VK X cc own nL ret fr lo mc ms) {a b off : Int} (tgt : Nat) (ha : rl a) (hb : rl b) (hd1 : decode cc pc = .ok (.lcmp, 1)) (hd : decode cc (pc + 1) = .ok (.ifCond .le off, 3)) (ht : ((pc + 1 : Nat) : Int) + off = (tgt : Int)) (kt : a ≤ b → V X cs n Q MR MI ML tgt lv st) (kf : b < a → V X cs n Q MR MI ML (pc + 1 + 3) lv st) : V X cs n Q MR MI ML pc lv (.long (lJ b) :: .long (lJ a) :: st) := by
  obtain ⟨p, l, e, R, s, m, args, below, meth, c, nL2, D, Z, A, Qp⟩ := X
  obtain ⟨kx, kb, km, rfl, ko, kt, kK, kr, kl, kA, rfl⟩ := K
  intro H locs ls hl hP hD hS
  have h1 : lg_cmp (lJ a) (lJ b) = iI (if b < a then 1 else if a = b then 0 else -1) := by
    unfold lg_cmp
    simp only [gt_iff_lt, lJ_lt hb ha, lJ_eq ha hb]
    split
    · rfl
    · split <;> rfl
  refine W.lcmp kx kb hd1 ?_
  rw [h1]
  have hr : rg (if b < a then 1 else if a = b then 0 else -1) := by
    split
    · exact ⟨by decide, by decide⟩
    · split <;> exact ⟨by decide, by decide⟩
  refine lv_if_le kx kb hd ht (fun q => kt ?_ H locs ls hl hP hD hS) (fun q => kf ?_ H locs ls hl hP hD hS)
  · simp only [ge_iff_le, gt_iff_lt, ne_eq, iI_0, iI_lt hr rg_0, iI_lt rg_0 hr, iI_le hr rg_0, iI_le rg_0 hr, iI_eq hr rg_0, Decidable.not_not] at q
    split at q
    · omega
    · split at q <;> omega
  · simp only [ge_iff_le, gt_iff_lt, ne_eq, iI_0, iI_lt hr rg_0, iI_lt rg_0 hr, iI_le hr rg_0, iI_le rg_0 hr, iI_eq hr rg_0, Decidable.not_not] at q
    split at q
    · omega
    · split at q <;> omega
theorem v_tableOut (K : VK X cc own nL ret fr lo mc ms) {a dflt l1 h1 : Int} {offs : Array Int} {len : Nat} (tgt : Nat) (ha : rg a) (hd : decode cc pc = .ok (.tableswitch dflt l1 h1 offs, len)) (h : a < l1 ∨ h1 < a) (ht : (pc : Int) + dflt = (tgt : Int)) (k : V X cs n Q MR MI ML tgt lv st) : V X cs n Q MR MI ML pc lv (.int (iI a) :: st) := by
  obtain ⟨p, l, e, R, s, m, args, below, meth, c, nL2, D, Z, A, Qp⟩ := X
  obtain ⟨kx, kb, km, rfl, ko, kt, kK, kr, kl, kA, rfl⟩ := K
  intro H locs ls hl hP hD hS
  exact lv_tableOut kx kb hd (by rw [iI_T ha]; exact h) ht (k H locs ls hl hP hD hS)
theorem v_tableIn (K : VK X cc own nL ret fr lo mc ms) {a dflt l1 h1 off : Int} {offs : Array Int} {len : Nat} (tgt : Nat) (ha : rg a) (hd : decode cc pc = .ok (.tableswitch dflt l1 h1 offs, len)) (h : l1 ≤ a ∧ a ≤ h1) (ho : offs[(a - l1).toNat]? = some off) (ht : (pc : Int) + off = (tgt : Int)) (k : V X cs n Q MR MI ML tgt lv st) : V X cs n Q MR MI ML pc lv (.int (iI a) :: st) := by
  obtain ⟨p, l, e, R, s, m, args, below, meth, c, nL2, D, Z, A, Qp⟩ := X
  obtain ⟨kx, kb, km, rfl, ko, kt, kK, kr, kl, kA, rfl⟩ := K
  intro H locs ls hl hP hD hS
  exact lv_tableIn kx kb hd (by rw [iI_T ha]; omega) (by rw [iI_T ha]; omega) (by rw [iI_T ha]; exact ho) ht (k H locs ls hl hP hD hS)
theorem v_lookup (K : VK X cc own nL ret fr lo mc ms) {a dflt off : Int} {ps : Array (Int × Int)} {len : Nat} (tgt : Nat) (ha : rg a) (hd : decode cc pc = .ok (.lookupswitch dflt ps, len)) (hp : (ps.toList.zip (ps.toList.drop 1)).all (fun (a, next) => a.1 < next.1) = true) (ho : Op.lookupswitch.offset ps.toList dflt a = off) (ht : (pc : Int) + off = (tgt : Int)) (k : V X cs n Q MR MI ML tgt lv st) : V X cs n Q MR MI ML pc lv (.int (iI a) :: st) := by
  obtain ⟨p, l, e, R, s, m, args, below, meth, c, nL2, D, Z, A, Qp⟩ := X
  obtain ⟨kx, kb, km, rfl, ko, kt, kK, kr, kl, kA, rfl⟩ := K
  intro H locs ls hl hP hD hS
  exact lv_lookup kx kb hd hp (by rw [iI_T ha]; exact ho) ht (k H locs ls hl hP hD hS)
theorem v_iald (K : VK X cc own nL ret fr lo mc ms) {k : Nat} {z : Int} (j : Nat) (hk : k < n) (hkd : z_kd k = 10) (hz : z = (j : Int)) (hj : j < z_ln k) (hd : decode cc pc = .ok (.iaload, 1)) (kk : V X cs n Q MR MI ML (pc + 1) lv (.int (iI (MI k j)) :: st)) : V X cs n Q MR MI ML pc lv (.int (iI z) :: .ref (Q k) :: st) := by
  obtain ⟨p, l, e, R, s, m, args, below, meth, c, nL2, D, Z, A, Qp⟩ := X
  obtain ⟨kx, kb, km, rfl, ko, kt, kK, kr, kl, kA, rfl⟩ := K
  intro H locs ls hl hP hD hS
  subst hz
  refine va_iald (f := fun j => iI (MI k j)) kx kb kK.1 hP k 0 (by rw [z_W_at hk, z_E_i hkd]) rfl (iI_in hj (z_ln_lt k)) hd ?_
  rw [iI_cl hj (z_ln_lt k)]
  exact kk H locs ls hl hP hD hS
theorem v_lald (K : VK X cc own nL ret fr lo mc ms) {k : Nat} {z : Int} (j : Nat) (hk : k < n) (hkd : z_kd k = 11) (hz : z = (j : Int)) (hj : j < z_ln k) (hd : decode cc pc = .ok (.laload, 1)) (kk : V X cs n Q MR MI ML (pc + 1) lv (.long (lJ (ML k j)) :: st)) : V X cs n Q MR MI ML pc lv (.int (iI z) :: .ref (Q k) :: st) := by
  obtain ⟨p, l, e, R, s, m, args, below, meth, c, nL2, D, Z, A, Qp⟩ := X
  obtain ⟨kx, kb, km, rfl, ko, kt, kK, kr, kl, kA, rfl⟩ := K
  intro H locs ls hl hP hD hS
  subst hz
  refine va_lald (f := fun j => lJ (ML k j)) kx kb kK.1 hP k 1 (by rw [z_W_at hk, z_E_l hkd]) rfl (iI_in hj (z_ln_lt k)) hd ?_
  rw [iI_cl hj (z_ln_lt k)]
  exact kk H locs ls hl hP hD hS
theorem v_iast (K : VK X cc own nL ret fr lo mc ms) {k : Nat} {z v : Int} (j : Nat) (hk : k < n) (hkd : z_kd k = 10) (hz : z = (j : Int)) (hj : j < z_ln k) (hd : decode cc pc = .ok (.iastore, 1)) (kk : V X cs n Q MR (z_up MI k j v) ML (pc + 1) lv st) : V X cs n Q MR MI ML pc lv (.int (iI v) :: .int (iI z) :: .ref (Q k) :: st) := by
  obtain ⟨p, l, e, R, s, m, args, below, meth, c, nL2, D, Z, A, Qp⟩ := X
  obtain ⟨kx, kb, km, rfl, ko, kt, kK, kr, kl, kA, rfl⟩ := K
  intro H locs ls hl hP hD hS
  subst hz
  refine va_iast (f := fun j => iI (MI k j)) kx kb kK.1 hP hD hS k 0 (by rw [z_W_at hk, z_E_i hkd]) rfl (iI_in hj (z_ln_lt k)) hd (fun H locs hP hD hS => ?_)
  rw [iI_cl hj (z_ln_lt k)] at hP hD
  have e1 := z_W_set (Z := Z) (Q := Q) (MR := MR) (MR' := MR) (MI := MI) (ML := ML) (MI' := z_up MI k j v) (ML' := ML) (x := (Q k, .inl (Z.1, z_ln k, .inl (upd (fun j => iI (MI k j)) j (iI v))))) hk (by
    rw [z_E_i hkd]
    congr 5
    funext b
    by_cases hb : b = j
    · subst hb; rw [z_up_s]; simp [upd]
    · rw [z_up_j hb]; simp [upd, hb]) (fun a ha => z_E_up ha)
  rw [e1] at hP hD
  exact kk H locs ls hl hP hD hS
theorem v_last (K : VK X cc own nL ret fr lo mc ms) {k : Nat} {z v : Int} (j : Nat) (hk : k < n) (hkd : z_kd k = 11) (hz : z = (j : Int)) (hj : j < z_ln k) (hd : decode cc pc = .ok (.lastore, 1)) (kk : V X cs n Q MR MI (z_up ML k j v) (pc + 1) lv st) : V X cs n Q MR MI ML pc lv (.long (lJ v) :: .int (iI z) :: .ref (Q k) :: st) := by
  obtain ⟨p, l, e, R, s, m, args, below, meth, c, nL2, D, Z, A, Qp⟩ := X
  obtain ⟨kx, kb, km, rfl, ko, kt, kK, kr, kl, kA, rfl⟩ := K
  intro H locs ls hl hP hD hS
  subst hz
  refine va_last (f := fun j => lJ (ML k j)) kx kb kK.1 hP hD hS k 1 (by rw [z_W_at hk, z_E_l hkd]) rfl (iI_in hj (z_ln_lt k)) hd (fun H locs hP hD hS => ?_)
  rw [iI_cl hj (z_ln_lt k)] at hP hD
  have e1 := z_W_set (Z := Z) (Q := Q) (MR := MR) (MR' := MR) (MI := MI) (ML := ML) (MI' := MI) (ML' := z_up ML k j v) (x := (Q k, .inl (Z.2.1, z_ln k, .inr (.inl (vp_updL (fun j => lJ (ML k j)) j (lJ v)))))) hk (by
    rw [z_E_l hkd]
    congr 6
    funext b
    by_cases hb : b = j
    · subst hb; rw [z_up_s]; simp [vp_updL]
    · rw [z_up_j hb]; simp [vp_updL, hb]) (fun a ha => z_E_upL ha)
  rw [e1] at hP hD
  exact kk H locs ls hl hP hD hS
theorem v_aaldD (K : VK X cc own nL ret fr lo mc ms) {k r : Nat} {z : Int} (j : Nat) (hk : k < n) (hkd : z_kd k = 12) (hz : z = (j : Int)) (hj : j < z_ln k) (hr : MR k j = some r) (hd : decode cc pc = .ok (.aaload, 1)) (kk : V X cs n Q MR MI ML (pc + 1) lv (.ref (Q r) :: st)) : V X cs n Q MR MI ML pc lv (.int (iI z) :: .ref (Q k) :: st) := by
  obtain ⟨p, l, e, R, s, m, args, below, meth, c, nL2, D, Z, A, Qp⟩ := X
  obtain ⟨kx, kb, km, rfl, ko, kt, kK, kr, kl, kA, rfl⟩ := K
  intro H locs ls hl hP hD hS
  subst hz
  have ha := hP k _ (z_W_at hk)
  rw [z_E_D hkd] at ha
  exact W.aald (v := .ref (Q r)) (ty := .object "DeckBalance$Deck") kx kb ha ((kK.1.2 2 _ rfl).1 (z_ln k) (fun j => va_rf ((MR k j).map Q))) rfl (fun q => by cases q) (by show ¬ (_ ∨ (arrV _ _ _).slots.size ≤ _); rw [arrV_size]; exact iI_in hj (z_ln_lt k)) (by show (arrV _ _ _).slots[_]? = _; rw [iI_cl hj (z_ln_lt k), arrV_read _ _ hj]; show some (va_rf (Option.map Q (MR k j))) = _; rw [hr]; rfl) rfl rfl hd (kk H locs ls hl hP hD hS)
theorem v_aaldP (K : VK X cc own nL ret fr lo mc ms) {k r : Nat} {z : Int} (j : Nat) (hk : k < n) (hkd : z_kd k = 13) (hz : z = (j : Int)) (hj : j < z_ln k) (hr : MR k j = some r) (hd : decode cc pc = .ok (.aaload, 1)) (kk : V X cs n Q MR MI ML (pc + 1) lv (.ref (Q r) :: st)) : V X cs n Q MR MI ML pc lv (.int (iI z) :: .ref (Q k) :: st) := by
  obtain ⟨p, l, e, R, s, m, args, below, meth, c, nL2, D, Z, A, Qp⟩ := X
  obtain ⟨kx, kb, km, rfl, ko, kt, kK, kr, kl, kA, rfl⟩ := K
  intro H locs ls hl hP hD hS
  subst hz
  have ha := hP k _ (z_W_at hk)
  rw [z_E_P hkd] at ha
  exact W.aald (v := .ref (Q r)) (ty := .object "DeckBalance$Plan") kx kb ha ((kK.1.2 3 _ rfl).1 (z_ln k) (fun j => va_rf ((MR k j).map Q))) rfl (fun q => by cases q) (by show ¬ (_ ∨ (arrV _ _ _).slots.size ≤ _); rw [arrV_size]; exact iI_in hj (z_ln_lt k)) (by show (arrV _ _ _).slots[_]? = _; rw [iI_cl hj (z_ln_lt k), arrV_read _ _ hj]; show some (va_rf (Option.map Q (MR k j))) = _; rw [hr]; rfl) rfl rfl hd (kk H locs ls hl hP hD hS)
theorem v_aaldT (K : VK X cc own nL ret fr lo mc ms) {k r : Nat} {z : Int} (j : Nat) (hk : k < n) (hkd : z_kd k = 14) (hz : z = (j : Int)) (hj : j < z_ln k) (hr : MR k j = some r) (hd : decode cc pc = .ok (.aaload, 1)) (kk : V X cs n Q MR MI ML (pc + 1) lv (.ref (Q r) :: st)) : V X cs n Q MR MI ML pc lv (.int (iI z) :: .ref (Q k) :: st) := by
  obtain ⟨p, l, e, R, s, m, args, below, meth, c, nL2, D, Z, A, Qp⟩ := X
  obtain ⟨kx, kb, km, rfl, ko, kt, kK, kr, kl, kA, rfl⟩ := K
  intro H locs ls hl hP hD hS
  subst hz
  have ha := hP k _ (z_W_at hk)
  rw [z_E_T hkd] at ha
  exact W.aald (v := .ref (Q r)) (ty := .array .int) kx kb ha ((kK.1.2 4 _ rfl).1 (z_ln k) (fun j => va_rf ((MR k j).map Q))) rfl (fun q => by cases q) (by show ¬ (_ ∨ (arrV _ _ _).slots.size ≤ _); rw [arrV_size]; exact iI_in hj (z_ln_lt k)) (by show (arrV _ _ _).slots[_]? = _; rw [iI_cl hj (z_ln_lt k), arrV_read _ _ hj]; show some (va_rf (Option.map Q (MR k j))) = _; rw [hr]; rfl) rfl rfl hd (kk H locs ls hl hP hD hS)
end VROWS
