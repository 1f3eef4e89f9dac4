/-! making cells -/
def zst (n : Nat) (MR : ZR) (MI ML : ZM) : Prop := (∀ a j r, MR a j = some r → r < n) ∧ ∀ a j, n ≤ a → MR a j = none ∧ MI a j = 0 ∧ ML a j = 0
theorem zst.le {n n' : Nat} {MR : ZR} {MI ML : ZM} (h : zst n MR MI ML) (hn : n ≤ n') : zst n' MR MI ML := ⟨fun a j r q => Nat.lt_of_lt_of_le (h.1 a j r q) hn, fun a j q => h.2 a j (Nat.le_trans hn q)⟩
theorem zst.ref {n : Nat} {MR : ZR} {MI ML : ZM} (h : zst n MR MI ML) {k j r : Nat} (hk : k < n) (hr : r < n) : zst n (z_upR MR k j (some r)) MI ML := by
  refine ⟨fun a i x q => ?_, fun a i q => ?_⟩
  · simp only [z_upR] at q
    split at q
    · cases q; exact hr
    · exact h.1 a i x q
  · rw [z_upR_k (by omega)]; exact h.2 a i q
theorem zst.int {n : Nat} {MR : ZR} {MI ML : ZM} (h : zst n MR MI ML) {k j : Nat} {v : Int} (hk : k < n) : zst n MR (z_up MI k j v) ML := ⟨h.1, fun a i q => by rw [z_up_k (by omega)]; exact h.2 a i q⟩
def agr (n : Nat) (Q Q' : Nat → Nat) : Prop := ∀ k, k < n → Q' k = Q k
theorem agr.rf (n : Nat) (Q : Nat → Nat) : agr n Q Q := fun _ _ => rfl
theorem agr.tr {n m : Nat} {Q Q' Q'' : Nat → Nat} (h : agr n Q Q') (h2 : agr m Q' Q'') (hn : n ≤ m) : agr n Q Q'' := fun k hk => (h2 k (by omega)).trans (h k hk)
theorem z_E_q {Z : ZC} {Q Q' : Nat → Nat} {MR : ZR} {MI ML : ZM} {k : Nat} (h : ∀ j r, MR k j = some r → Q' r = Q r) : z_E Z Q' MR MI ML k = z_E Z Q MR MI ML k := by
  have e : ∀ j, (MR k j).map Q' = (MR k j).map Q := fun j => by
    cases q : MR k j with
    | none => rfl
    | some r => show some (Q' r) = some (Q r); rw [h j r q]
  unfold z_E z_fv
  simp only [e]
def zQ (n q : Nat) (Q : Nat → Nat) : Nat → Nat := fun k => if k = n then q else Q k
theorem zQ_s (n q : Nat) (Q : Nat → Nat) : zQ n q Q n = q := if_pos rfl
theorem zQ_a (n q : Nat) (Q : Nat → Nat) : agr n Q (zQ n q Q) := fun k hk => if_neg (by omega)
theorem z_W_push {Z : ZC} {n q : Nat} {Q : Nat → Nat} {MR : ZR} {MI ML : ZM} (S : zst n MR MI ML) {x : va_E} (hx : x = z_E Z (zQ n q Q) MR MI ML n) : z_W Z n Q MR MI ML ++ [(q, x)] = z_W Z (n + 1) (zQ n q Q) MR MI ML := by
  unfold z_W
  rw [List.range_succ, List.map_append]
  congr 1
  · apply List.map_congr_left
    intro k hk
    have hk := List.mem_range.mp hk
    rw [zQ_a n q Q k hk, z_E_q (Q := Q) (fun j r h => zQ_a n q Q r (S.1 k j r h))]
  · rw [List.map_cons, List.map_nil, zQ_s, hx]
/-- a class that can be made: number ci, N slots, linked by own's entry idx -/
def FN (own : String) (idx ci N : Nat) : Prop := ∃ (C : String) (T : u_T) (ty : Nat → FieldType), vwCl[ci]? = some (C, T, N) ∧ ci < 10 ∧ (∀ w ∈ u_ws C T N, w ∈ wsL) ∧ (∀ k, k < N → parseFieldDescriptor (T k).2.2.1 = some (ty k)) ∧ (∀ j, j < N → defaultValue (ty j) = if z_fi ci j = true then .int 0 else .null) ∧ Cond.classLink own idx C ∈ wsL ∧ Cond.instantiable C N ∈ wsL ∧ Cond.initialized C ∈ wsL
/-- the nest's words -/
def nestW (q : String × Nat × MethodName) : Cond := .methodLinkNest q.1 q.2.1 q.2.2 "DeckBalance"
def nestL : List (String × Nat × MethodName) := [(RX8, 9, yX0_init), (RX8, 22, yX2_init), (RX3, 11, yX7_init), (RX1, 24, yX4_init), (RX1, 29, yX5_init), (RX8, 44, yX6_init), (RX8, 51, yX5_init)]
def zN (U : State) : Prop := ∀ q ∈ nestL, va_Nw (nestW q) U
theorem zN.warm {s U : State} (hW : s.WarmedH U.vm) (h : zN s) : zN U := fun q hq => va_Nw.warmM hW (h q hq)
theorem zN.same {s U : State} (h : s.vm = U.vm) (hN : zN s) : zN U := fun q hq => va_Nw.same rfl h (hN q hq)
def CMg (l : Launch) (y : MethodName) (cc : ByteArray) (nL : Nat) (ret : Option FieldType) (fr lo mc ms : Nat) (D : va_G) (Z : ZC) (n : Nat) (Q : Nat → Nat) (MR : ZR) (As : List Value) (MI ML : ZM) (Post : ZQ) : Prop :=
  ∀ sz, Met l y (.code y cc nL ret :: wsL) ({ frames := fr, cells := mc, slots := ms, locals := lo }) (va_Pc As (fun U => z_Pre D Z n Q MR MI ML sz U ∧ zN U)) (z_Post D Z n Q sz Post) mc ms (z_A n Q sz)
theorem CMg.of {l : Launch} {y : MethodName} {cc : ByteArray} {nL : Nat} {ret : Option FieldType} {fr lo mc ms : Nat} {D : va_G} {Z : ZC} {n : Nat} {Q : Nat → Nat} {MR : ZR} {As : List Value} {MI ML : ZM} {Post : ZQ} (hy : plainName y.cls = true) (hi : y.name = "<init>") (hlen : (lg_sl As).length ≤ nL)
    (body : ∀ X : VX, VK X cc y.cls nL ret fr lo mc ms → VE X mc ms n Q Post → X.2.1 = l → X.2.2.2.2.2.2.2.2.2.2.2.1 = D → X.2.2.2.2.2.2.2.2.2.2.2.2.1 = Z → zN X.2.2.2.2.1 → X.2.2.2.2.2.2.2.2.1.name = "<init>" → V X (0, 0) n Q MR MI ML 0 (lv_args 0 As) []) : CMg l y cc nL ret fr lo mc ms D Z n Q MR As MI ML Post := by
  intro sz
  refine Met.ofW (cc := cc) (maxL := nL) (ret := ret) hy rfl ?_
  intro p e s m args below meth c s₁ B hml hv
  obtain ⟨rfl, ⟨rfl, hP, hK, hD0⟩, hN⟩ := hv
  have hts := atoms_spec (ws := (.code y cc nL ret :: wsL)) B.pre
  have hown : s.vm.findClass y.cls = some m.cls := findClass_of_methodNamed B.named
  have hD : va_D (z_A n Q s.heap.size) (z_W Z n Q MR MI ML) := by
    refine hD0.weaken (fun k q hk _ => ?_)
    by_cases hn : k < n
    · rw [z_W_at hn] at hk
      cases hk
      exact Or.inl ⟨k, hn, rfl⟩
    · rw [List.getElem?_eq_none (by unfold z_W; simp; omega)] at hk
      cases hk
  have hb := body (p, l, e, { frames := fr, cells := mc, slots := ms, locals := lo }, s, m, As.toArray, below, meth, c, nL, D, Z, z_A n Q s.heap.size, MQ below (z_Post D Z n Q s.heap.size Post) As.toArray s mc ms (z_A n Q s.heap.size))
    ⟨B.exec, B.bytes, hml, rfl, hown, fun w h => hts w (List.mem_cons_of_mem _ h), hK, B.returns, B.notSynchronized, fun q h => Or.inr h, rfl⟩ ⟨rfl, rfl⟩ rfl rfl rfl hN (by rw [← hi]; exact (name_of_methodNamed B.named B.method).1)
  have hl := lv_entry As (n := nL) hlen
  rw [lg_entry_eq]
  exact hb s.heap [] _ hl hP hD va_S.rf
theorem zg_blind {D : va_G} {Z : ZC} {n : Nat} {Q : Nat → Nat} {MR : ZR} {MI ML : ZM} {sz : Nat} {As : List Value} : FrameBlind (va_Pc As (fun U => z_Pre D Z n Q MR MI ML sz U ∧ zN U)) := by
  intro a U g mk q
  obtain ⟨q0, ⟨q1, qP, qK, qD⟩, qN⟩ := q
  exact ⟨q0, ⟨q1, qP, z_K.moved (u := U) (U := U.calling g mk a) (Vm.Alike.refl U.vm) qK, qD⟩, zN.same (U := U.calling g mk a) rfl qN⟩
theorem iI_N0 {N : Nat} (h : N < 2147483648) : ¬ iI (N : Int) < 0 := by
  rw [iI_0, iI_lt ⟨by omega, by omega⟩ rg_0]; omega
section VNEW
variable {X : VX} {cs : Nat × Nat} {n : Nat} {Q : Nat → Nat} {MR : ZR} {MI ML : ZM} {pc : Nat} {lv : List (Nat × Value)} {st : List Value} {cc : ByteArray} {own : String} {nL : Nat} {ret : Option FieldType} {fr lo mc ms : Nat}
theorem v_new (K : VK X cc own nL ret fr lo mc ms) {idx ci N : Nat} (f : FN own idx ci N) (S : zst n MR MI ML) (hkd : z_kd n = ci) (hln : z_ln n = N) (hc : cs.1 + 1 ≤ mc) (hs : cs.2 + N ≤ ms) (lvf : (Nat → Nat) → List (Nat × Value)) (stf : (Nat → Nat) → List Value) (hq : ∀ Q', agr n Q Q' → lvf Q' = lvf Q ∧ stf Q' = stf Q) (hd : decode cc pc = .ok (.new idx, 3)) (kk : ∀ Q', agr n Q Q' → V X (cs.1 + 1, cs.2 + N) (n + 1) Q' MR MI ML (pc + 3) (lvf Q') (.ref (Q' n) :: stf Q')) : V X cs n Q MR MI ML pc (lvf Q) (stf Q) := by
  obtain ⟨p, l, e, R, s, m, args, below, meth, c, nL2, D, Z, A, Qp⟩ := X
  obtain ⟨kx, kb, km, rfl, ko, kt, kK, kr, kl, kA, rfl⟩ := K
  intro H locs ls hl hP hD hS
  obtain ⟨C, T, ty, f1, f2, f3, f4, f5, f6, f7, f8⟩ := f
  refine va_new (ci := ci) (fs := (List.range N).map (fun j => if z_fi ci j = true then .int 0 else .null)) kx kb kt f3 ty f4 ko (kt _ f6) (kt _ f7) (kt _ f8) kK.1 hP hD hS kA f1 (fun j hj => ?_) hc hs hd (fun q H1 hP1 hD1 hS1 => ?_)
  · rw [f5 j hj]
    unfold vp_V
    rw [List.getD_eq_getElem?_getD, z_fs_at hj]; rfl
  · have e1 := z_W_push (Z := Z) (q := q) (Q := Q) (x := .inr (ci, (List.range N).map (fun j => if z_fi ci j = true then .int 0 else .null))) S (by
      rw [z_E_o hkd f2, hln]
      congr 3
      funext j
      unfold z_fv
      rw [hkd, (S.2 n j (Nat.le_refl _)).1, (S.2 n j (Nat.le_refl _)).2.1]; rfl)
    rw [e1] at hP1 hD1
    have k := kk (zQ n q Q) (zQ_a n q Q) H1 locs ls (by rw [(hq _ (zQ_a n q Q)).1]; exact hl) hP1 hD1 hS1
    rw [zQ_s, (hq _ (zQ_a n q Q)).2] at k
    exact k
theorem v_newi (K : VK X cc own nL ret fr lo mc ms) {z : Int} (N : Nat) (hz : z = N) (hN : N ≤ 10000) (ha : Cond.arrayClass .int ∈ wsL) (S : zst n MR MI ML) (hkd : z_kd n = 10) (hln : z_ln n = N) (hc : cs.1 + 1 ≤ mc) (hs : cs.2 + N ≤ ms) (lvf : (Nat → Nat) → List (Nat × Value)) (stf : (Nat → Nat) → List Value) (hq : ∀ Q', agr n Q Q' → lvf Q' = lvf Q ∧ stf Q' = stf Q) (hd : decode cc pc = .ok (.newarray .int, 2)) (kk : ∀ Q', agr n Q Q' → V X (cs.1 + 1, cs.2 + N) (n + 1) Q' MR MI ML (pc + 2) (lvf Q') (.ref (Q' n) :: stf Q')) : V X cs n Q MR MI ML pc (lvf Q) (.int (iI z) :: stf Q) := by
  obtain ⟨p, l, e, R, s, m, args, below, meth, c, nL2, D, Z, A, Qp⟩ := X
  obtain ⟨kx, kb, km, rfl, ko, kt, kK, kr, kl, kA, rfl⟩ := K
  intro H locs ls hl hP hD hS
  subst hz
  refine va_newa (atype := .int) (ty := .int) (a0 := (N, .inl (fun _ => 0))) kx kb (kt _ ha) rfl kK.1 hP hD hS kA (fun cA => rfl) (iI_N0 (by omega)) (iI_cl (N := N + 1) (by omega) (by omega)) (by show N * 4 ≤ _; omega) hc hs hd (fun q cA H1 hK1 hP1 hD1 hS1 => ?_)
  have a : s.vm.findClass ("[" ++ FieldType.int.toString) = some cA := (hK1.2 5 (cA, .int) rfl).2
  have b : s.vm.findClass ("[" ++ FieldType.int.toString) = some Z.1 := (kK.1.2 0 (Z.1, .int) rfl).2
  obtain rfl : cA = Z.1 := Option.some.inj (a.symm.trans b)
  have e1 := z_W_push (Z := Z) (q := q) (Q := Q) (x := .inl (Z.1, N, .inl (fun _ => 0))) S (by
    rw [z_E_i hkd, hln]
    congr 4
    funext j
    rw [(S.2 n j (Nat.le_refl _)).2.1]; rfl)
  rw [e1] at hP1 hD1
  have k := kk (zQ n q Q) (zQ_a n q Q) H1 locs ls (by rw [(hq _ (zQ_a n q Q)).1]; exact hl) hP1 hD1 hS1
  rw [zQ_s, (hq _ (zQ_a n q Q)).2] at k
  exact k
theorem v_newl (K : VK X cc own nL ret fr lo mc ms) {z : Int} (N : Nat) (hz : z = N) (hN : N ≤ 10000) (ha : Cond.arrayClass .long ∈ wsL) (S : zst n MR MI ML) (hkd : z_kd n = 11) (hln : z_ln n = N) (hc : cs.1 + 1 ≤ mc) (hs : cs.2 + N ≤ ms) (lvf : (Nat → Nat) → List (Nat × Value)) (stf : (Nat → Nat) → List Value) (hq : ∀ Q', agr n Q Q' → lvf Q' = lvf Q ∧ stf Q' = stf Q) (hd : decode cc pc = .ok (.newarray .long, 2)) (kk : ∀ Q', agr n Q Q' → V X (cs.1 + 1, cs.2 + N) (n + 1) Q' MR MI ML (pc + 2) (lvf Q') (.ref (Q' n) :: stf Q')) : V X cs n Q MR MI ML pc (lvf Q) (.int (iI z) :: stf Q) := by
  obtain ⟨p, l, e, R, s, m, args, below, meth, c, nL2, D, Z, A, Qp⟩ := X
  obtain ⟨kx, kb, km, rfl, ko, kt, kK, kr, kl, kA, rfl⟩ := K
  intro H locs ls hl hP hD hS
  subst hz
  refine va_newa (atype := .long) (ty := .long) (a0 := (N, .inr (.inl (fun _ => 0)))) kx kb (kt _ ha) rfl kK.1 hP hD hS kA (fun cA => rfl) (iI_N0 (by omega)) (iI_cl (N := N + 1) (by omega) (by omega)) (by show N * 8 ≤ _; omega) hc hs hd (fun q cA H1 hK1 hP1 hD1 hS1 => ?_)
  have a : s.vm.findClass ("[" ++ FieldType.long.toString) = some cA := (hK1.2 5 (cA, .long) rfl).2
  have b : s.vm.findClass ("[" ++ FieldType.long.toString) = some Z.2.1 := (kK.1.2 1 (Z.2.1, .long) rfl).2
  obtain rfl : cA = Z.2.1 := Option.some.inj (a.symm.trans b)
  have e1 := z_W_push (Z := Z) (q := q) (Q := Q) (x := .inl (Z.2.1, N, .inr (.inl (fun _ => 0)))) S (by
    rw [z_E_l hkd, hln]
    congr 5
    funext j
    rw [(S.2 n j (Nat.le_refl _)).2.2]; rfl)
  rw [e1] at hP1 hD1
  have k := kk (zQ n q Q) (zQ_a n q Q) H1 locs ls (by rw [(hq _ (zQ_a n q Q)).1]; exact hl) hP1 hD1 hS1
  rw [zQ_s, (hq _ (zQ_a n q Q)).2] at k
  exact k
theorem v_newqD (K : VK X cc own nL ret fr lo mc ms) {z : Int} {idx : Nat} (N : Nat) (hz : z = N) (hN : N ≤ 10000) (ha : Cond.classLink own idx "DeckBalance$Deck" ∈ wsL) (S : zst n MR MI ML) (hkd : z_kd n = 12) (hln : z_ln n = N) (hc : cs.1 + 1 ≤ mc) (hs : cs.2 + N ≤ ms) (lvf : (Nat → Nat) → List (Nat × Value)) (stf : (Nat → Nat) → List Value) (hq : ∀ Q', agr n Q Q' → lvf Q' = lvf Q ∧ stf Q' = stf Q) (hd : decode cc pc = .ok (.anewarray idx, 3)) (kk : ∀ Q', agr n Q Q' → V X (cs.1 + 1, cs.2 + N) (n + 1) Q' MR MI ML (pc + 3) (lvf Q') (.ref (Q' n) :: stf Q')) : V X cs n Q MR MI ML pc (lvf Q) (.int (iI z) :: stf Q) := by
  obtain ⟨p, l, e, R, s, m, args, below, meth, c, nL2, D, Z, A, Qp⟩ := X
  obtain ⟨kx, kb, km, rfl, ko, kt, kK, kr, kl, kA, rfl⟩ := K
  intro H locs ls hl hP hD hS
  subst hz
  refine va_newq (C := "DeckBalance$Deck") (N' := N) kx kb ko (kt _ ha) kK.2.1 kK.1 hP hD hS kA (iI_N0 (by omega)) (iI_cl (N := N + 1) (by omega) (by omega)) (by omega) hc hs hd (fun q cA H1 hK1 hP1 hD1 hS1 => ?_)
  obtain ⟨_, _, _, _, _, a⟩ := (hK1.2 5 (cA, .object "DeckBalance$Deck") rfl).2
  obtain ⟨_, _, _, _, _, b⟩ := (kK.1.2 2 (Z.2.2.1, .object "DeckBalance$Deck") rfl).2
  obtain rfl : cA = Z.2.2.1 := Option.some.inj (a.symm.trans b)
  have e1 := z_W_push (Z := Z) (q := q) (Q := Q) (x := .inl (Z.2.2.1, N, .inr (.inr (.inr (.inr (fun _ => none)))))) S (by
    rw [z_E_D hkd, hln]
    congr 8
    funext j
    rw [(S.2 n j (Nat.le_refl _)).1]; rfl)
  rw [e1] at hP1 hD1
  have k := kk (zQ n q Q) (zQ_a n q Q) H1 locs ls (by rw [(hq _ (zQ_a n q Q)).1]; exact hl) hP1 hD1 hS1
  rw [zQ_s, (hq _ (zQ_a n q Q)).2] at k
  exact k
theorem v_aastD (K : VK X cc own nL ret fr lo mc ms) {z : Int} {k r : Nat} (j : Nat) (hk : k < n) (hkd : z_kd k = 12) (hr : r < n) (hrd : z_kd r = 2) (hz : z = j) (hj : j < z_ln k) (hd : decode cc pc = .ok (.aastore, 1)) (kk : V X cs n Q (z_upR MR k j (some r)) MI ML (pc + 1) lv st) : V X cs n Q MR MI ML pc lv (.ref (Q r) :: .int (iI z) :: .ref (Q k) :: st) := by
  obtain ⟨p, l, e, R, s, m, args, below, meth, c, nL2, D, Z, A, Qp⟩ := X
  obtain ⟨kx, kb, km, rfl, ko, kt, kK, kr, kl, kA, rfl⟩ := K
  intro H locs ls hl hP hD hS
  subst hz
  have hjl := z_ln_lt k
  refine va_astq (r := (RX2, TX2, 2)) kx kb kK.1 hP hD hS k 2 r 2 (by rw [z_W_at hk, z_E_D hkd]) rfl (by rw [z_W_at hr, z_E_o hrd (by decide)]) rfl (iI_in hj hjl) hd (fun H locs hP hD hS => ?_)
  have e1 := z_W_set (Z := Z) (Q := Q) (MR := MR) (MR' := z_upR MR k j (some r)) (MI := MI) (ML := ML) (MI' := MI) (ML' := ML) (x := (Q k, .inl (Z.2.2.1, z_ln k, .inr (.inr (.inr (.inr (va_up (fun j => (MR k j).map Q) (iI (j : Int)).toNatClampNeg (some (Q r))))))))) hk (by
    rw [z_E_D hkd, iI_cl hj hjl]
    congr 9
    funext a
    unfold va_up
    by_cases q : a = j
    · rw [if_pos q, q, z_upR_s]; rfl
    · rw [if_neg q, z_upR_j q]) (fun a ha => z_E_upR ha)
  rw [e1] at hP hD
  exact kk H locs ls hl hP hD hS
theorem v_newqP (K : VK X cc own nL ret fr lo mc ms) {z : Int} {idx : Nat} (N : Nat) (hz : z = N) (hN : N ≤ 10000) (ha : Cond.classLink own idx "DeckBalance$Plan" ∈ wsL) (S : zst n MR MI ML) (hkd : z_kd n = 13) (hln : z_ln n = N) (hc : cs.1 + 1 ≤ mc) (hs : cs.2 + N ≤ ms) (lvf : (Nat → Nat) → List (Nat × Value)) (stf : (Nat → Nat) → List Value) (hq : ∀ Q', agr n Q Q' → lvf Q' = lvf Q ∧ stf Q' = stf Q) (hd : decode cc pc = .ok (.anewarray idx, 3)) (kk : ∀ Q', agr n Q Q' → V X (cs.1 + 1, cs.2 + N) (n + 1) Q' MR MI ML (pc + 3) (lvf Q') (.ref (Q' n) :: stf Q')) : V X cs n Q MR MI ML pc (lvf Q) (.int (iI z) :: stf Q) := by
  obtain ⟨p, l, e, R, s, m, args, below, meth, c, nL2, D, Z, A, Qp⟩ := X
  obtain ⟨kx, kb, km, rfl, ko, kt, kK, kr, kl, kA, rfl⟩ := K
  intro H locs ls hl hP hD hS
  subst hz
  refine va_newq (C := "DeckBalance$Plan") (N' := N) kx kb ko (kt _ ha) kK.2.2.1 kK.1 hP hD hS kA (iI_N0 (by omega)) (iI_cl (N := N + 1) (by omega) (by omega)) (by omega) hc hs hd (fun q cA H1 hK1 hP1 hD1 hS1 => ?_)
  obtain ⟨_, _, _, _, _, a⟩ := (hK1.2 5 (cA, .object "DeckBalance$Plan") rfl).2
  obtain ⟨_, _, _, _, _, b⟩ := (kK.1.2 3 (Z.2.2.2.1, .object "DeckBalance$Plan") rfl).2
  obtain rfl : cA = Z.2.2.2.1 := Option.some.inj (a.symm.trans b)
  have e1 := z_W_push (Z := Z) (q := q) (Q := Q) (x := .inl (Z.2.2.2.1, N, .inr (.inr (.inr (.inr (fun _ => none)))))) S (by
    rw [z_E_P hkd, hln]
    congr 8
    funext j
    rw [(S.2 n j (Nat.le_refl _)).1]; rfl)
  rw [e1] at hP1 hD1
  have k := kk (zQ n q Q) (zQ_a n q Q) H1 locs ls (by rw [(hq _ (zQ_a n q Q)).1]; exact hl) hP1 hD1 hS1
  rw [zQ_s, (hq _ (zQ_a n q Q)).2] at k
  exact k
theorem v_aastP (K : VK X cc own nL ret fr lo mc ms) {z : Int} {k r : Nat} (j : Nat) (hk : k < n) (hkd : z_kd k = 13) (hr : r < n) (hrd : z_kd r = 5) (hz : z = j) (hj : j < z_ln k) (hd : decode cc pc = .ok (.aastore, 1)) (kk : V X cs n Q (z_upR MR k j (some r)) MI ML (pc + 1) lv st) : V X cs n Q MR MI ML pc lv (.ref (Q r) :: .int (iI z) :: .ref (Q k) :: st) := by
  obtain ⟨p, l, e, R, s, m, args, below, meth, c, nL2, D, Z, A, Qp⟩ := X
  obtain ⟨kx, kb, km, rfl, ko, kt, kK, kr, kl, kA, rfl⟩ := K
  intro H locs ls hl hP hD hS
  subst hz
  have hjl := z_ln_lt k
  refine va_astq (r := (RX5, TX5, 6)) kx kb kK.1 hP hD hS k 3 r 5 (by rw [z_W_at hk, z_E_P hkd]) rfl (by rw [z_W_at hr, z_E_o hrd (by decide)]) rfl (iI_in hj hjl) hd (fun H locs hP hD hS => ?_)
  have e1 := z_W_set (Z := Z) (Q := Q) (MR := MR) (MR' := z_upR MR k j (some r)) (MI := MI) (ML := ML) (MI' := MI) (ML' := ML) (x := (Q k, .inl (Z.2.2.2.1, z_ln k, .inr (.inr (.inr (.inr (va_up (fun j => (MR k j).map Q) (iI (j : Int)).toNatClampNeg (some (Q r))))))))) hk (by
    rw [z_E_P hkd, iI_cl hj hjl]
    congr 9
    funext a
    unfold va_up
    by_cases q : a = j
    · rw [if_pos q, q, z_upR_s]; rfl
    · rw [if_neg q, z_upR_j q]) (fun a ha => z_E_upR ha)
  rw [e1] at hP hD
  exact kk H locs ls hl hP hD hS
theorem v_objI (K : VK X cc own nL ret fr lo mc ms) {idx a : Nat} (h1 : Cond.methodLink own idx Lib.objectInit ∈ wsL) (h2 : Cond.instanceMethod Lib.objectInit ∈ wsL) (h3 : Cond.code Lib.objectInit ⟨#[0xb1]⟩ 1 none ∈ wsL) (hf : 1 ≤ fr) (hlo : 12 ≤ lo) (hd : decode cc pc = .ok (.invokespecial idx, 3)) (kk : V X cs n Q MR MI ML (pc + 3) lv []) : V X cs n Q MR MI ML pc lv [.ref a] := by
  obtain ⟨p, l, e, R, s, m, args, below, meth, c, nL2, D, Z, A, Qp⟩ := X
  obtain ⟨kx, kb, km, rfl, ko, kt, kK, kr, kl, kA, rfl⟩ := K
  intro H locs ls hl hP hD hS
  refine W.objInit (a := a) (rest := []) kx kb ko (kt _ h1) (kt _ h2) (kt _ h3) rfl (by rw [km]; exact hl.1) rfl hd hf (Nat.le_trans (Nat.le_of_ble_eq_true rfl) hlo) ?_
  exact W.eq (g2 := F0 m (pc + 3) ls []) rfl (kk H locs ls hl hP hD hS)
theorem v_putF (K : VK X cc own nL ret fr lo mc ms) (hin : X.2.2.2.2.2.2.2.2.1.name = "<init>") {idx ci j k r : Nat} {ty : FieldType} (f : FP own idx ci j true ty) (ht : ∀ q : Nat, narrow ty (.ref q) = .ref q ∧ fits ty (.ref q) = true) (hk : k < n) (hkd : z_kd k = ci) (hfi : z_fi ci j = false) (hd : decode cc pc = .ok (.putfield idx, 3)) (kk : V X cs n Q (z_upR MR k j (some r)) MI ML (pc + 3) lv st) : V X cs n Q MR MI ML pc lv (.ref (Q r) :: .ref (Q k) :: st) := by
  obtain ⟨p, l, e, R, s, m, args, below, meth, c, nL2, D, Z, A, Qp⟩ := X
  obtain ⟨kx, kb, km, rfl, ko, kt, kK, kr, kl, kA, rfl⟩ := K
  intro H locs ls hl hP hD hS
  obtain ⟨C, T, N, ty0, f1, f2, f3, f4, f5, f6, f7, f8, f9, f10, f11⟩ := f
  have hN := f4 k hkd
  refine va_putF (v := .ref (Q r)) (ty := ty) kx kb kt f5 ty0 f7 f8 ko kK.1 hP hD hS k (by rw [z_W_at hk, z_E_o hkd f3]) f1 j f2 (kt _ f6) (fun _ h9 => h9) f9 hin (f10 rfl) f11 (ht _).1 (ht _).2 (by simp; omega) hd (fun H locs hP hD hS => ?_)
  have e1 := z_W_set (Z := Z) (Q := Q) (MR := MR) (MR' := z_upR MR k j (some r)) (MI := MI) (ML := ML) (MI' := MI) (ML' := ML) (x := (Q k, .inr (ci, ((List.range (z_ln k)).map (z_fv Q MR MI k)).set j (.ref (Q r))))) hk (by
    rw [z_E_o hkd f3, z_fs_set (g := z_fv Q (z_upR MR k j (some r)) MI k) (by unfold z_fv; rw [hkd, if_neg (by rw [hfi]; decide), z_upR_s]; rfl) (fun a ha => by unfold z_fv; rw [z_upR_j ha]) (by omega)]) (fun a ha => z_E_upR ha)
  rw [e1] at hP hD
  exact kk H locs ls hl hP hD hS
variable {y : MethodName} {cy : ByteArray} {nLy : Nat} {fry loy mcy msy na idx b : Nat} {As : List Value} {Post : ZQ} {st0 : List Value}
theorem v_callI (K : VK X cc own nL ret fr lo mc ms) (hN : zN X.2.2.2.2.1) (hM : CMg X.2.1 y cy nLy none fry loy mcy msy X.2.2.2.2.2.2.2.2.2.2.2.1 X.2.2.2.2.2.2.2.2.2.2.2.2.1 n Q MR (.ref (Q b) :: As) MI ML Post) (hst : st0 = As.reverse ++ .ref (Q b) :: st) (f : FC own idx y cy nLy none na) (fi : Cond.instanceMethod y ∈ wsL) (hy : y.name = "<init>") (hn : As.length = na) (hrm : fry + 1 ≤ fr ∧ 8 + (nLy + 11) + loy ≤ lo ∧ cs.1 + mcy ≤ mc ∧ cs.2 + msy ≤ ms) (hw : (st.map fun v => v.category).sum ≤ 8) (hd : decode cc pc = .ok (.invokespecial idx, 3))
    (kk : ∀ v n' Q' MR' MI' ML', Post v n' Q' MR' MI' ML' → V X (cs.1 + mcy, cs.2 + msy) n' Q' MR' MI' ML' (pc + 3) lv (v.toList ++ st)) : V X cs n Q MR MI ML pc lv st0 := by
  subst hst
  obtain ⟨p, l, e, R, s, m, args, below, meth, c, nL2, D, Z, A, Qp⟩ := X
  obtain ⟨kx, kb, km, rfl, ko, kt, kK, kr, kl, kA, rfl⟩ := K
  intro H locs ls hl hP hD hS
  obtain ⟨f1, f2, f3, f4⟩ := f
  exact v_after hl hD hS kA (va_runI (y := y) (As := As) (rest := st) (b := Q b) ⟨kx, kb, km, ko, kt⟩ (hM H.size) ⟨callB_of na kt (wsL_in f1) rfl rfl rfl (kt _ f3) (kt _ f2) f4 ⟨hrm.1, hrm.2.1⟩, hy, kt _ fi⟩ ⟨zg_blind, fun U hU hW => ⟨rfl, ⟨by rw [hU], by rw [hU]; exact hP, z_K.moved hW.alike kK, hD.weaken (fun _ _ _ _ => trivial)⟩, zN.warm hW hN⟩⟩ rfl hn hl.1 rfl (lv_room hw) hd ⟨hrm.2.2.1, hrm.2.2.2⟩) kk
theorem v_callN (K : VK X cc own nL ret fr lo mc ms) (hN : zN X.2.2.2.2.1) (hM : CMg X.2.1 y cy nLy none fry loy mcy msy X.2.2.2.2.2.2.2.2.2.2.2.1 X.2.2.2.2.2.2.2.2.2.2.2.2.1 n Q MR (.ref (Q b) :: As) MI ML Post) (hst : st0 = As.reverse ++ .ref (Q b) :: st) (f1 : Cond.code y cy nLy none ∈ wsL) (f2 : (own, idx, y) ∈ nestL) (f3 : Cond.initialized y.cls ∈ wsL) (f4 : y.cls ≠ "java/lang/invoke/MethodHandle" ∧ y.cls ≠ "java/lang/invoke/VarHandle" ∧ (parseMethodDescriptor y.desc).map (fun d => d.parameters.length) = some na) (fi : Cond.instanceMethod y ∈ wsL) (hy : y.name = "<init>") (hn : As.length = na) (hrm : fry + 1 ≤ fr ∧ 8 + (nLy + 11) + loy ≤ lo ∧ cs.1 + mcy ≤ mc ∧ cs.2 + msy ≤ ms) (hw : (st.map fun v => v.category).sum ≤ 8) (hd : decode cc pc = .ok (.invokespecial idx, 3))
    (kk : ∀ v n' Q' MR' MI' ML', Post v n' Q' MR' MI' ML' → V X (cs.1 + mcy, cs.2 + msy) n' Q' MR' MI' ML' (pc + 3) lv (v.toList ++ st)) : V X cs n Q MR MI ML pc lv st0 := by
  subst hst
  obtain ⟨p, l, e, R, s, m, args, below, meth, c, nL2, D, Z, A, Qp⟩ := X
  obtain ⟨kx, kb, km, rfl, ko, kt, kK, kr, kl, kA, rfl⟩ := K
  intro H locs ls hl hP hD hS
  exact v_after hl hD hS kA (va_runIN (y := y) (As := As) (rest := st) (b := Q b) (host := "DeckBalance") ⟨kx, kb, km, ko, kt⟩ (hM H.size) ⟨va_cnB na kt (wsL_in f1) rfl rfl rfl (hN (own, idx, y) f2) (kt _ f3) f4 ⟨hrm.1, hrm.2.1⟩, hy, kt _ fi⟩ ⟨zg_blind, fun U hU hW => ⟨rfl, ⟨by rw [hU], by rw [hU]; exact hP, z_K.moved hW.alike kK, hD.weaken (fun _ _ _ _ => trivial)⟩, zN.warm hW hN⟩⟩ rfl hn hl.1 rfl (lv_room hw) hd ⟨hrm.2.2.1, hrm.2.2.2⟩) kk
end VNEW
theorem fn_X8_7 : FN RX8 7 0 4 := ⟨_, _, tyX0, rfl, by decide, us0, tyX0_ok, (by decide +kernel : ∀ j, j < 4 → defaultValue (tyX0 j) = if z_fi 0 j = true then .int 0 else .null), cl_X8_7, in_T 22 (by decide +kernel) (by decide +kernel), wi_X0⟩
theorem fn_X8_16 : FN RX8 16 2 2 := ⟨_, _, tyX2, rfl, by decide, us2, tyX2_ok, (by decide +kernel : ∀ j, j < 2 → defaultValue (tyX2 j) = if z_fi 2 j = true then .int 0 else .null), cl_X8_16, in_T 48 (by decide +kernel) (by decide +kernel), wi_X2⟩
theorem fn_X8_23 : FN RX8 23 3 4 := ⟨_, _, tyX3, rfl, by decide, us3, tyX3_ok, (by decide +kernel : ∀ j, j < 4 → defaultValue (tyX3 j) = if z_fi 3 j = true then .int 0 else .null), cl_X8_23, in_T 65 (by decide +kernel) (by decide +kernel), wi_X3⟩
theorem fn_X3_9 : FN RX3 9 7 4 := ⟨_, _, tyX7, rfl, by decide, us7, tyX7_ok, (by decide +kernel : ∀ j, j < 4 → defaultValue (tyX7 j) = if z_fi 7 j = true then .int 0 else .null), cl_X3_9, in_T 71 (by decide +kernel) (by decide +kernel), wi_X7⟩
theorem fn_X8_32 : FN RX8 32 1 3 := ⟨_, _, tyX1, rfl, by decide, us1, tyX1_ok, (by decide +kernel : ∀ j, j < 3 → defaultValue (tyX1 j) = if z_fi 1 j = true then .int 0 else .null), cl_X8_32, in_T 109 (by decide +kernel) (by decide +kernel), wi_X1⟩
theorem fn_X1_22 : FN RX1 22 4 6 := ⟨_, _, tyX4, rfl, by decide, us4, tyX4_ok, (by decide +kernel : ∀ j, j < 6 → defaultValue (tyX4 j) = if z_fi 4 j = true then .int 0 else .null), cl_X1_22, in_T 119 (by decide +kernel) (by decide +kernel), wi_X4⟩
theorem fn_X1_9 : FN RX1 9 5 6 := ⟨_, _, tyX5, rfl, by decide, us5, tyX5_ok, (by decide +kernel : ∀ j, j < 6 → defaultValue (tyX5 j) = if z_fi 5 j = true then .int 0 else .null), cl_X1_9, in_T 145 (by decide +kernel) (by decide +kernel), wi_X5⟩
theorem fn_X8_42 : FN RX8 42 6 2 := ⟨_, _, tyX6, rfl, by decide, us6, tyX6_ok, (by decide +kernel : ∀ j, j < 2 → defaultValue (tyX6 j) = if z_fi 6 j = true then .int 0 else .null), cl_X8_42, in_T 185 (by decide +kernel) (by decide +kernel), wi_X6⟩
theorem fn_X8_49 : FN RX8 49 5 6 := ⟨_, _, tyX5, rfl, by decide, us5, tyX5_ok, (by decide +kernel : ∀ j, j < 6 → defaultValue (tyX5 j) = if z_fi 5 j = true then .int 0 else .null), cl_X8_49, in_T 145 (by decide +kernel) (by decide +kernel), wi_X5⟩
theorem fn_L_7 : FN RL 7 8 12 := ⟨_, _, tyX8, rfl, by decide, us8, tyX8_ok, (by decide +kernel : ∀ j, j < 12 → defaultValue (tyX8 j) = if z_fi 8 j = true then .int 0 else .null), cl_L_7, in_T 14 (by decide +kernel) (by decide +kernel), wi_X8⟩
theorem fn_L_10 : FN RL 10 9 26 := ⟨_, _, tyX9, rfl, by decide, us9, tyX9_ok, (by decide +kernel : ∀ j, j < 26 → defaultValue (tyX9 j) = if z_fi 9 j = true then .int 0 else .null), cl_L_10, in_T 517 (by decide +kernel) (by decide +kernel), wi_X9⟩
theorem ac_int : Cond.arrayClass .int ∈ wsL := in_T 45 (by decide +kernel) (by decide +kernel)
theorem ac_long : Cond.arrayClass .long ∈ wsL := in_T 601 (by decide +kernel) (by decide +kernel)
theorem ob_m : Cond.instanceMethod Lib.objectInit ∈ wsL := in_T 19 (by decide +kernel) (by decide +kernel)
theorem ob_c : Cond.code Lib.objectInit ⟨#[0xb1]⟩ 1 none ∈ wsL := in_T 20 (by decide +kernel) (by decide +kernel)
theorem ob_X8_1 : Cond.methodLink RX8 1 Lib.objectInit ∈ wsL := in_T 18 (by decide +kernel) (by decide +kernel)
theorem ob_X0_3 : Cond.methodLink RX0 3 Lib.objectInit ∈ wsL := in_T 26 (by decide +kernel) (by decide +kernel)
theorem ob_X2_3 : Cond.methodLink RX2 3 Lib.objectInit ∈ wsL := in_T 52 (by decide +kernel) (by decide +kernel)
theorem ob_X3_3 : Cond.methodLink RX3 3 Lib.objectInit ∈ wsL := in_T 69 (by decide +kernel) (by decide +kernel)
theorem ob_X7_3 : Cond.methodLink RX7 3 Lib.objectInit ∈ wsL := in_T 75 (by decide +kernel) (by decide +kernel)
theorem ob_X1_3 : Cond.methodLink RX1 3 Lib.objectInit ∈ wsL := in_T 113 (by decide +kernel) (by decide +kernel)
theorem ob_X4_3 : Cond.methodLink RX4 3 Lib.objectInit ∈ wsL := in_T 123 (by decide +kernel) (by decide +kernel)
theorem ob_X5_3 : Cond.methodLink RX5 3 Lib.objectInit ∈ wsL := in_T 149 (by decide +kernel) (by decide +kernel)
theorem ob_X6_3 : Cond.methodLink RX6 3 Lib.objectInit ∈ wsL := in_T 189 (by decide +kernel) (by decide +kernel)
theorem ob_X9_1 : Cond.methodLink RX9 1 Lib.objectInit ∈ wsL := in_T 521 (by decide +kernel) (by decide +kernel)
