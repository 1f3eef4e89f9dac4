/-! fields, calls, answers, the entry -/
/-- the tables' words of a field: class ci, slot j, named by entry idx of own -/
def FF (own : String) (idx ci j : Nat) : Prop := ∃ (C : String) (T : u_T) (N : Nat), vwCl[ci]? = some (C, T, N) ∧ j < N ∧ ci < 10 ∧ (∀ k, z_kd k = ci → z_ln k = N) ∧ (∀ w ∈ u_ws C T N, w ∈ wsL) ∧ Cond.fieldLink own idx (T j).1 (T j).2.1 (T j).2.2.1 ∈ wsL
/-- the same, to write: not final, of a type -/
def FP (own : String) (idx ci j : Nat) (fin : Bool) (ty : FieldType) : Prop := ∃ (C : String) (T : u_T) (N : Nat) (ty0 : Nat → FieldType), vwCl[ci]? = some (C, T, N) ∧ j < N ∧ ci < 10 ∧ (∀ k, z_kd k = ci → z_ln k = N) ∧ (∀ w ∈ u_ws C T N, w ∈ wsL) ∧ Cond.fieldLink own idx (T j).1 (T j).2.1 (T j).2.2.1 ∈ wsL ∧ (∀ k, k < N → parseFieldDescriptor (T k).2.2.1 = some (ty0 k)) ∧ (∀ a, a < N → ∀ b, b < N → a ≠ b → (T a).2.1 ≠ (T b).2.1) ∧ (T j).2.2.2 = fin ∧ (fin = true → (T j).1 = own) ∧ parseFieldDescriptor (T j).2.2.1 = some ty
theorem z_fs_at {N j : Nat} {f : Nat → Value} (h : j < N) : ((List.range N).map f)[j]? = some (f j) := by
  rw [List.getElem?_map, List.getElem?_range h]; rfl
theorem z_fs_set {N j : Nat} {f g : Nat → Value} {v : Value} (hv : g j = v) (ho : ∀ a, a ≠ j → g a = f a) (h : j < N) : ((List.range N).map f).set j v = (List.range N).map g := by
  apply List.ext_getElem?
  intro i
  by_cases hi : i = j
  · subst hi
    rw [List.getElem?_set_self (by simp; exact h), z_fs_at h, hv]
  · rw [List.getElem?_set_ne (Ne.symm hi)]
    by_cases hn : i < N
    · rw [z_fs_at hn, z_fs_at hn, ho i hi]
    · rw [List.getElem?_eq_none (by simp; omega), List.getElem?_eq_none (by simp; omega)]
section VFIELDS
variable {X : VX} {cs : Nat × Nat} {n : Nat} {Q : Nat → Nat} {MR : ZR} {MI ML : ZM} {pc : Nat} {lv : List (Nat × Value)} {st : List Value} {cc : ByteArray} {own : String} {nL : Nat} {ret : Option FieldType} {fr lo mc ms : Nat}
theorem v_geti (K : VK X cc own nL ret fr lo mc ms) {idx ci j k : Nat} (f : FF own idx ci j) (hk : k < n) (hkd : z_kd k = ci) (hfi : z_fi ci j = true) (hd : decode cc pc = .ok (.getfield idx, 3)) (kk : V X cs n Q MR MI ML (pc + 3) lv (.int (iI (MI k j)) :: st)) : V X cs n Q MR MI ML pc lv (.ref (Q k) :: st) := by
  obtain ⟨p, l, e, R, s, m, args, below, meth, c, nL2, D, Z, A, Qp⟩ := X
  obtain ⟨kx, kb, km, rfl, ko, kt, kK, kr, kl, kA, rfl⟩ := K
  intro H locs ls hl hP hD hS
  obtain ⟨C, T, N, f1, f2, f3, f4, f5, f6⟩ := f
  have hN := f4 k hkd
  refine va_get (v := .int (iI (MI k j))) kx kb kt f5 ko kK.1 hP k (by rw [z_W_at hk, z_E_o hkd f3]) f1 j f2 (kt _ f6) (fun _ h9 => h9) ?_ hd (kk H locs ls hl hP hD hS)
  rw [z_fs_at (by omega)]
  unfold z_fv
  rw [hkd, if_pos hfi]
theorem v_getr (K : VK X cc own nL ret fr lo mc ms) {idx ci j k r : Nat} (f : FF own idx ci j) (hk : k < n) (hkd : z_kd k = ci) (hfi : z_fi ci j = false) (hr : MR k j = some r) (hd : decode cc pc = .ok (.getfield idx, 3)) (kk : V X cs n Q MR MI ML (pc + 3) lv (.ref (Q r) :: st)) : V X cs n Q MR MI ML pc lv (.ref (Q k) :: st) := by
  obtain ⟨p, l, e, R, s, m, args, below, meth, c, nL2, D, Z, A, Qp⟩ := X
  obtain ⟨kx, kb, km, rfl, ko, kt, kK, kr, kl, kA, rfl⟩ := K
  intro H locs ls hl hP hD hS
  obtain ⟨C, T, N, f1, f2, f3, f4, f5, f6⟩ := f
  have hN := f4 k hkd
  refine va_get (v := .ref (Q r)) kx kb kt f5 ko kK.1 hP k (by rw [z_W_at hk, z_E_o hkd f3]) f1 j f2 (kt _ f6) (fun _ h9 => h9) ?_ hd (kk H locs ls hl hP hD hS)
  rw [z_fs_at (by omega)]
  unfold z_fv
  rw [hkd, if_neg (by rw [hfi]; decide), hr]
  rfl
theorem v_puti (K : VK X cc own nL ret fr lo mc ms) {idx ci j k : Nat} {v : Int} (f : FP own idx ci j false .int) (hk : k < n) (hkd : z_kd k = ci) (hfi : z_fi ci j = true) (hd : decode cc pc = .ok (.putfield idx, 3)) (kk : V X cs n Q MR (z_up MI k j v) ML (pc + 3) lv st) : V X cs n Q MR MI ML pc lv (.int (iI v) :: .ref (Q k) :: st) := by
  obtain ⟨p, l, e, R, s, m, args, below, meth, c, nL2, D, Z, A, Qp⟩ := X
  obtain ⟨kx, kb, km, rfl, ko, kt, kK, kr, kl, kA, rfl⟩ := K
  intro H locs ls hl hP hD hS
  obtain ⟨C, T, N, ty0, f1, f2, f3, f4, f5, f6, f7, f8, f9, f10, f11⟩ := f
  have hN := f4 k hkd
  have hs : z_W Z n Q MR MI ML = z_W Z n Q MR MI ML := rfl
  refine va_put (v := .int (iI v)) (ty := .int) kx kb kt f5 ty0 f7 f8 ko kK.1 hP hD hS k (by rw [z_W_at hk, z_E_o hkd f3]) f1 j f2 (kt _ f6) (fun _ h9 => h9) f9 f11 rfl rfl (by simp; omega) hd (fun H locs hP hD hS => ?_)
  have e1 := z_W_set (Z := Z) (Q := Q) (MR := MR) (MR' := MR) (MI := MI) (ML := ML) (MI' := z_up MI k j v) (ML' := ML) (x := (Q k, .inr (ci, ((List.range (z_ln k)).map (z_fv Q MR MI k)).set j (.int (iI v))))) hk (by
    rw [z_E_o hkd f3, z_fs_set (g := z_fv Q MR (z_up MI k j v) k) (by unfold z_fv; rw [hkd, if_pos hfi, z_up_s]) (fun a ha => by unfold z_fv; rw [z_up_j ha]) (by omega)]) (fun a ha => z_E_up ha)
  rw [e1] at hP hD
  exact kk H locs ls hl hP hD hS
theorem v_putz (K : VK X cc own nL ret fr lo mc ms) {idx ci j k : Nat} {v : Int} (f : FP own idx ci j false .boolean) (hv : v = 0 ∨ v = 1) (hk : k < n) (hkd : z_kd k = ci) (hfi : z_fi ci j = true) (hd : decode cc pc = .ok (.putfield idx, 3)) (kk : V X cs n Q MR (z_up MI k j v) ML (pc + 3) lv st) : V X cs n Q MR MI ML pc lv (.int (iI v) :: .ref (Q k) :: st) := by
  obtain ⟨p, l, e, R, s, m, args, below, meth, c, nL2, D, Z, A, Qp⟩ := X
  obtain ⟨kx, kb, km, rfl, ko, kt, kK, kr, kl, kA, rfl⟩ := K
  intro H locs ls hl hP hD hS
  obtain ⟨C, T, N, ty0, f1, f2, f3, f4, f5, f6, f7, f8, f9, f10, f11⟩ := f
  have hN := f4 k hkd
  refine va_put (v := .int (iI v)) (ty := .boolean) kx kb kt f5 ty0 f7 f8 ko kK.1 hP hD hS k (by rw [z_W_at hk, z_E_o hkd f3]) f1 j f2 (kt _ f6) (fun _ h9 => h9) f9 f11 (by rcases hv with rfl | rfl <;> decide) (by rcases hv with rfl | rfl <;> decide) (by simp; omega) hd (fun H locs hP hD hS => ?_)
  have e1 := z_W_set (Z := Z) (Q := Q) (MR := MR) (MR' := MR) (MI := MI) (ML := ML) (MI' := z_up MI k j v) (ML' := ML) (x := (Q k, .inr (ci, ((List.range (z_ln k)).map (z_fv Q MR MI k)).set j (.int (iI v))))) hk (by
    rw [z_E_o hkd f3, z_fs_set (g := z_fv Q MR (z_up MI k j v) k) (by unfold z_fv; rw [hkd, if_pos hfi, z_up_s]) (fun a ha => by unfold z_fv; rw [z_up_j ha]) (by omega)]) (fun a ha => z_E_up ha)
  rw [e1] at hP hD
  exact kk H locs ls hl hP hD hS
end VFIELDS
/-! contracts -/
abbrev ZQ : Type := Option Value → Nat → (Nat → Nat) → ZR → ZM → ZM → Prop
def z_Pre (D : va_G) (Z : ZC) (n : Nat) (Q : Nat → Nat) (MR : ZR) (MI ML : ZM) (sz : Nat) (U : State) : Prop := U.heap.size = sz ∧ va_P D vwCl (z_W Z n Q MR MI ML) U.heap ∧ z_K D Z U ∧ va_D (fun _ => True) (z_W Z n Q MR MI ML)
def z_Post (D : va_G) (Z : ZC) (n : Nat) (Q : Nat → Nat) (sz : Nat) (Post : ZQ) : Array Value → State → Outcome → State → Prop := fun _ s oc t => ∃ (v : Option Value) (n' : Nat) (Q' : Nat → Nat) (MR' : ZR) (MI' ML' : ZM), oc = .returned v ∧ Post v n' Q' MR' MI' ML' ∧ va_P D vwCl (z_W Z n' Q' MR' MI' ML') t.heap ∧ va_D (z_A n Q sz) (z_W Z n' Q' MR' MI' ML') ∧ va_F (z_A n Q sz) s t
/-- the contract of method y: from a memory (n Q MR MI ML) and the arguments As it returns, with Post -/
def CM (l : Launch) (y : MethodName) (cc : ByteArray) (nL : Nat) (ret : Option FieldType) (fr lo mc ms : Nat) (D : va_G) (Z : ZC) (n : Nat) (Q : Nat → Nat) (MR : ZR) (As : List Value) (MI ML : ZM) (Post : ZQ) : Prop :=
  ∀ sz, Met l y (.code y cc nL ret :: wsL) ({ frames := fr, cells := mc, slots := ms, locals := lo }) (va_Pc As (z_Pre D Z n Q MR MI ML sz)) (z_Post D Z n Q sz Post) mc ms (z_A n Q sz)
/-- X is a body's frame whose end is Post -/
def VE (X : VX) (mc ms n0 : Nat) (Q0 : Nat → Nat) (Post : ZQ) : Prop :=
  match X with
  | (_, _, _, _, s, _, args, below, _, _, _, D, Z, A, Qp) => A = z_A n0 Q0 s.heap.size ∧ Qp = MQ below (z_Post D Z n0 Q0 s.heap.size Post) args s mc ms A
theorem CM.of {l : Launch} {y : MethodName} {cc : ByteArray} {nL : Nat} {ret : Option FieldType} {fr lo mc ms : Nat} {D : va_G} {Z : ZC} {n : Nat} {Q : Nat → Nat} {MR : ZR} {As : List Value} {MI ML : ZM} {Post : ZQ} (hy : plainName y.cls = true) (hlen : (lg_sl As).length ≤ nL)
    (body : ∀ X : VX, VK X cc y.cls nL ret fr lo mc ms → VE X mc ms n Q Post → X.2.1 = l → X.2.2.2.2.2.2.2.2.2.2.2.1 = D → X.2.2.2.2.2.2.2.2.2.2.2.2.1 = Z → (y.name = "<init>" → X.2.2.2.2.2.2.2.2.1.name = "<init>") → V X (0, 0) n Q MR MI ML 0 (lv_args 0 As) []) : CM l y cc nL ret fr lo mc ms D Z n Q MR As MI ML Post := by
  intro sz
  refine Met.ofW (cc := cc) (maxL := nL) (ret := ret) hy rfl ?_
  intro p e s m args below meth c s₁ B hml hv
  obtain ⟨rfl, rfl, hP, hK, hD0⟩ := hv
  have hts := atoms_spec (ws := (.code y cc nL ret :: wsL)) B.pre
  have hown : s.vm.findClass y.cls = some m.cls := findClass_of_methodNamed B.named
  have hD : va_D (z_A n Q s.heap.size) (z_W Z n Q MR MI ML) := by
    refine hD0.weaken (fun k q hk _ => ?_)
    by_cases hn : k < n
    · rw [z_W_at hn] at hk
      cases hk
      exact Or.inl ⟨k, hn, rfl⟩
    · rw [List.getElem?_eq_none (by unfold z_W; simp; omega)] at hk
      cases hk
  have hb := body (p, l, e, { frames := fr, cells := mc, slots := ms, locals := lo }, s, m, As.toArray, below, meth, c, nL, D, Z, z_A n Q s.heap.size, MQ below (z_Post D Z n Q s.heap.size Post) As.toArray s mc ms (z_A n Q s.heap.size))
    ⟨B.exec, B.bytes, hml, rfl, hown, fun w h => hts w (List.mem_cons_of_mem _ h), hK, B.returns, B.notSynchronized, fun q h => Or.inr h, rfl⟩ ⟨rfl, rfl⟩ rfl rfl rfl (fun h => by rw [← h]; exact (name_of_methodNamed B.named B.method).1)
  have hl := lv_entry As (n := nL) hlen
  rw [lg_entry_eq]
  exact hb s.heap [] _ hl hP hD va_S.rf
section VRET
variable {X : VX} {n : Nat} {Q : Nat → Nat} {MR : ZR} {MI ML : ZM} {pc : Nat} {lv : List (Nat × Value)} {cc : ByteArray} {own : String} {nL : Nat} {fr lo mc ms : Nat} {n0 : Nat} {Q0 : Nat → Nat} {Post : ZQ}
theorem v_iret (K : VK X cc own nL (some .int) fr lo mc ms) (E : VE X mc ms n0 Q0 Post) {z : Int} (hd : decode cc pc = .ok (.ireturn, 1)) (h : Post (some (.int (iI z))) n Q MR MI ML) : V X (mc, ms) n Q MR MI ML pc lv [.int (iI z)] := by
  obtain ⟨p, l, e, R, s, m, args, below, meth, c, nL2, D, Z, A, Qp⟩ := X
  obtain ⟨kx, kb, km, rfl, ko, kt, kK, kr, kl, kA, rfl⟩ := K
  obtain ⟨rfl, rfl⟩ := E
  intro H locs ls hl hP hD hS
  exact W.iret (v := iI z) kx kb kr (fun t ht hW => ⟨_, n, Q, MR, MI, ML, rfl, h, by rw [ht]; exact hP, hD, hS.F ht⟩) hS.2.2 hd kl
theorem v_zret (K : VK X cc own nL (some .boolean) fr lo mc ms) (E : VE X mc ms n0 Q0 Post) {z : Int} (hz : z = 0 ∨ z = 1) (hd : decode cc pc = .ok (.ireturn, 1)) (h : Post (some (.int (iI z))) n Q MR MI ML) : V X (mc, ms) n Q MR MI ML pc lv [.int (iI z)] := by
  obtain ⟨p, l, e, R, s, m, args, below, meth, c, nL2, D, Z, A, Qp⟩ := X
  obtain ⟨kx, kb, km, rfl, ko, kt, kK, kr, kl, kA, rfl⟩ := K
  obtain ⟨rfl, rfl⟩ := E
  intro H locs ls hl hP hD hS
  exact W.zret (v := iI z) kx kb kr (by rcases hz with rfl | rfl <;> decide) (fun t ht hW => ⟨_, n, Q, MR, MI, ML, rfl, h, by rw [ht]; exact hP, hD, hS.F ht⟩) hS.2.2 hd kl
theorem v_lret (K : VK X cc own nL (some .long) fr lo mc ms) (E : VE X mc ms n0 Q0 Post) {z : Int} (hd : decode cc pc = .ok (.lreturn, 1)) (h : Post (some (.long (lJ z))) n Q MR MI ML) : V X (mc, ms) n Q MR MI ML pc lv [.long (lJ z)] := by
  obtain ⟨p, l, e, R, s, m, args, below, meth, c, nL2, D, Z, A, Qp⟩ := X
  obtain ⟨kx, kb, km, rfl, ko, kt, kK, kr, kl, kA, rfl⟩ := K
  obtain ⟨rfl, rfl⟩ := E
  intro H locs ls hl hP hD hS
  exact W.lret (v := lJ z) kx kb kr (fun t ht hW => ⟨_, n, Q, MR, MI, ML, rfl, h, by rw [ht]; exact hP, hD, hS.F ht⟩) hS.2.2 hd kl
theorem v_ret (K : VK X cc own nL none fr lo mc ms) (E : VE X mc ms n0 Q0 Post) (hd : decode cc pc = .ok (.return_, 1)) (h : Post none n Q MR MI ML) : V X (mc, ms) n Q MR MI ML pc lv [] := by
  obtain ⟨p, l, e, R, s, m, args, below, meth, c, nL2, D, Z, A, Qp⟩ := X
  obtain ⟨kx, kb, km, rfl, ko, kt, kK, kr, kl, kA, rfl⟩ := K
  obtain ⟨rfl, rfl⟩ := E
  intro H locs ls hl hP hD hS
  exact W.vret kx kb kr (fun t ht hW => ⟨_, n, Q, MR, MI, ML, rfl, h, by rw [ht]; exact hP, hD, hS.F ht⟩) hS.2.2 hd kl
theorem v_aret {C : String} (K : VK X cc own nL (some (.object C)) fr lo mc ms) (E : VE X mc ms n0 Q0 Post) {k : Nat} (hd : decode cc pc = .ok (.areturn, 1)) (h : Post (some (.ref (Q k))) n Q MR MI ML) : V X (mc, ms) n Q MR MI ML pc lv [.ref (Q k)] := by
  obtain ⟨p, l, e, R, s, m, args, below, meth, c, nL2, D, Z, A, Qp⟩ := X
  obtain ⟨kx, kb, km, rfl, ko, kt, kK, kr, kl, kA, rfl⟩ := K
  obtain ⟨rfl, rfl⟩ := E
  intro H locs ls hl hP hD hS
  exact W.aret (v := .ref (Q k)) kx kb kr (Or.inl ⟨C, rfl⟩) (Or.inr ⟨_, rfl⟩) (fun t ht hW => ⟨_, n, Q, MR, MI, ML, rfl, h, by rw [ht]; exact hP, hD, hS.F ht⟩) hS.2.2 hd kl
end VRET
theorem wsL_in {y : MethodName} {bytes : ByteArray} {maxL : Nat} {ret : Option FieldType} (h : Cond.code y bytes maxL ret ∈ wsL) : GoodIn wsL (Cond.code y bytes maxL ret :: wsL) := by
  intro w hw
  rcases List.mem_cons.mp hw with rfl | hw
  · exact ⟨h, good_of_word (wsL_good _ h)⟩
  · exact ⟨hw, good_of_word (wsL_good _ hw)⟩
theorem z_K.moved {D : va_G} {Z : ZC} {u U : State} (hvm : u.vm.Alike U.vm) (h : z_K D Z u) : z_K D Z U := ⟨va_K.moved hvm h.1, h.2.1.moved hvm, h.2.2.1.moved hvm, h.2.2.2.moved hvm⟩
theorem z_blind {D : va_G} {Z : ZC} {n : Nat} {Q : Nat → Nat} {MR : ZR} {MI ML : ZM} {sz : Nat} {As : List Value} : FrameBlind (va_Pc As (z_Pre D Z n Q MR MI ML sz)) := by
  intro a U g mk q
  obtain ⟨q0, q1, qP, qK, qD⟩ := q
  exact ⟨q0, q1, qP, z_K.moved (u := U) (U := U.calling g mk a) (Vm.Alike.refl U.vm) qK, qD⟩
/-- a call's words that don't hang on its kind -/
def FC (own : String) (idx : Nat) (y : MethodName) (cc : ByteArray) (nL : Nat) (ret : Option FieldType) (na : Nat) : Prop := Cond.code y cc nL ret ∈ wsL ∧ Cond.methodLink own idx y ∈ wsL ∧ Cond.initialized y.cls ∈ wsL ∧ (y.cls ≠ "java/lang/invoke/MethodHandle" ∧ y.cls ≠ "java/lang/invoke/VarHandle" ∧ (parseMethodDescriptor y.desc).map (fun d => d.parameters.length) = some na)
section VCALL
variable {X : VX} {cs : Nat × Nat} {n : Nat} {Q : Nat → Nat} {MR : ZR} {MI ML : ZM} {pc : Nat} {lv : List (Nat × Value)} {st : List Value} {cc : ByteArray} {own : String} {nL : Nat} {ret : Option FieldType} {fr lo mc ms : Nat}
variable {y : MethodName} {cy : ByteArray} {nLy : Nat} {rety : Option FieldType} {fry loy mcy msy na idx b : Nat} {As : List Value} {Post : ZQ}
/-- behind a call -/
theorem v_after {p : Program} {l : Launch} {e : Env} {R : Room} {s : State} {m : MethodId} {args : Array Value} {below : List Frame} {meth : Method} {c : Code} {D : va_G} {Z : ZC} {A : Nat → Prop} {Qp : State → Prop} {H : Heap} {locs : List Loc} {ls : Array Slot} {a : Array Value} {st0 : List Value} {k1 k2 : Nat} (hl : lv_has ls nL lv) (hD : va_D A (z_W Z n Q MR MI ML)) (hS : va_S A s.heap H locs) (hA : ∀ q, s.heap.size ≤ q → A q) (hr : va_Run p l e R s m args below meth c H locs k1 k2 mcy msy (F0 m pc ls st0) st (z_Post D Z n Q H.size Post a) (z_A n Q H.size))
    (kk : ∀ v n' Q' MR' MI' ML', Post v n' Q' MR' MI' ML' → V (p, l, e, R, s, m, args, below, meth, c, nL, D, Z, A, Qp) (k1 + mcy, k2 + msy) n' Q' MR' MI' ML' (pc + 3) lv (v.toList ++ st)) : W p l e R s m args below meth c H locs k1 k2 Qp (F0 m pc ls st0) := by
  intro T hT Xs
  obtain ⟨v, st₀, t, T', L, h0, X', hL, e1, e2, ⟨v', n', Q', MR', MI', ML', hv, hp, hP1, hD1, hz, hk⟩, stp⟩ := hr T hT Xs
  cases hv
  rw [h0] at hz hk
  have hF : ∀ q, z_A n Q H.size q → A q := by
    intro q h
    rcases h with ⟨k, hk, rfl⟩ | h
    · exact hD.2 k _ (z_W_at hk)
    · exact hA q (Nat.le_trans hS.1 h)
  have hS1 : va_S A s.heap T'.heap (locs ++ L) := ⟨Nat.le_trans hS.1 (by rw [e1]; exact hz), fun q h1 h2 => by rw [e1, hk q (Nat.lt_of_lt_of_le h1 hS.1) (fun z => h2 (hF q z))]; exact hS.2.1 q h1 h2, fun q hq => by
      rcases List.mem_append.mp hq with h | h
      · exact hS.2.2 q h
      · exact hF _ (hL q h)⟩
  obtain ⟨t2, a1, b1⟩ := kk v n' Q' MR' MI' ML' hp T'.heap (locs ++ L) ls hl (by rw [e1]; exact hP1) (hD1.weaken (fun k q _ h => hF q.1 h)) hS1 T' rfl X'
  exact ⟨t2, stp t2 a1, b1⟩
theorem v_callV (K : VK X cc own nL ret fr lo mc ms) (hM : CM X.2.1 y cy nLy rety fry loy mcy msy X.2.2.2.2.2.2.2.2.2.2.2.1 X.2.2.2.2.2.2.2.2.2.2.2.2.1 n Q MR (.ref (Q b) :: As) MI ML Post) (f : FC own idx y cy nLy rety na) (fi : Cond.instanceMethod y ∈ wsL) (fs : Cond.selects y.cls y y ∈ wsL) (hb : b < n) (ci : Nat) (hkd : z_kd b = ci) (hci : ci < 10) (hc : (vwCl[ci]?).map (fun q => q.1) = some y.cls) (hn : As.length = na) (hrm : fry + 1 ≤ fr ∧ 8 + (nLy + 11) + loy ≤ lo ∧ cs.1 + mcy ≤ mc ∧ cs.2 + msy ≤ ms) (hw : (st.map fun v => v.category).sum ≤ 8) (hd : decode cc pc = .ok (.invokevirtual idx, 3))
    (kk : ∀ v n' Q' MR' MI' ML', Post v n' Q' MR' MI' ML' → V X (cs.1 + mcy, cs.2 + msy) n' Q' MR' MI' ML' (pc + 3) lv (v.toList ++ st)) : V X cs n Q MR MI ML pc lv (As.reverse ++ .ref (Q b) :: st) := by
  obtain ⟨p, l, e, R, s, m, args, below, meth, c, nL2, D, Z, A, Qp⟩ := X
  obtain ⟨kx, kb, km, rfl, ko, kt, kK, kr, kl, kA, rfl⟩ := K
  intro H locs ls hl hP hD hS
  obtain ⟨f1, f2, f3, f4⟩ := f
  obtain ⟨q, hq⟩ : ∃ q, vwCl[ci]? = some q := by
    cases h9 : vwCl[ci]? with
    | none => rw [h9] at hc; cases hc
    | some q => exact ⟨q, rfl⟩
  have hqc : q.1 = y.cls := by rw [hq] at hc; exact Option.some.inj hc
  refine v_after hl hD hS kA (va_runV (y := y) (C := y.cls) (As := As) (rest := st) (b := Q b) ⟨kx, kb, km, ko, kt⟩ (hM H.size) ⟨callB_of na kt (wsL_in f1) rfl rfl rfl (kt _ f3) (kt _ f2) f4 ⟨hrm.1, hrm.2.1⟩, kt _ fi, kt _ fs⟩ ⟨z_blind, ?_, fun U hU hW => ⟨rfl, by rw [hU], by rw [hU]; exact hP, z_K.moved hW.alike kK, hD.weaken (fun _ _ _ _ => trivial)⟩⟩ rfl hn hl.1 rfl (lv_room hw) hd ⟨hrm.2.2.1, hrm.2.2.2⟩) kk
  rw [← hqc]
  exact va_recv kK.1 hP hq (ci := ci) (q0 := b) (by rw [z_W_at hb, z_E_o hkd hci])
theorem v_callS (K : VK X cc own nL ret fr lo mc ms) (hM : CM X.2.1 y cy nLy rety fry loy mcy msy X.2.2.2.2.2.2.2.2.2.2.2.1 X.2.2.2.2.2.2.2.2.2.2.2.2.1 n Q MR As MI ML Post) (f : FC own idx y cy nLy rety na) (fs : Cond.static y ∈ wsL) (hn : As.length = na) (hrm : fry + 1 ≤ fr ∧ 8 + (nLy + 11) + loy ≤ lo ∧ cs.1 + mcy ≤ mc ∧ cs.2 + msy ≤ ms) (hw : (st.map fun v => v.category).sum ≤ 8) (hd : decode cc pc = .ok (.invokestatic idx, 3))
    (kk : ∀ v n' Q' MR' MI' ML', Post v n' Q' MR' MI' ML' → V X (cs.1 + mcy, cs.2 + msy) n' Q' MR' MI' ML' (pc + 3) lv (v.toList ++ st)) : V X cs n Q MR MI ML pc lv (As.reverse ++ st) := by
  obtain ⟨p, l, e, R, s, m, args, below, meth, c, nL2, D, Z, A, Qp⟩ := X
  obtain ⟨kx, kb, km, rfl, ko, kt, kK, kr, kl, kA, rfl⟩ := K
  intro H locs ls hl hP hD hS
  obtain ⟨f1, f2, f3, f4⟩ := f
  exact v_after hl hD hS kA (va_runS (y := y) (As := As) (rest := st) ⟨kx, kb, km, ko, kt⟩ (hM H.size) ⟨callB_of na kt (wsL_in f1) rfl rfl rfl (kt _ f3) (kt _ f2) f4 ⟨hrm.1, hrm.2.1⟩, kt _ fs⟩ ⟨z_blind, fun U hU hW => ⟨rfl, by rw [hU], by rw [hU]; exact hP, z_K.moved hW.alike kK, hD.weaken (fun _ _ _ _ => trivial)⟩⟩ rfl hn hl.1 rfl (lv_room hw) hd ⟨hrm.2.2.1, hrm.2.2.2⟩) kk
end VCALL
