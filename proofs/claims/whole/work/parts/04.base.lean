/-! the world: 110 cells, what each is, what its references are -/
abbrev ZM : Type := Nat → Nat → Int
abbrev ZR : Type := Nat → Nat → Option Nat
abbrev ZC : Type := ClassId × ClassId × ClassId × ClassId × ClassId
def iI (z : Int) : Int32 := Int32.ofInt z
def lJ (z : Int) : Int64 := Int64.ofInt z
def z_up (M : ZM) (k j : Nat) (v : Int) : ZM := fun a b => if a = k ∧ b = j then v else M a b
def z_upR (M : ZR) (k j : Nat) (v : Option Nat) : ZR := fun a b => if a = k ∧ b = j then v else M a b
def z_sh : List (Nat × Nat) := [(8, 12), (0, 4), (10, 12), (10, 12), (10, 12), (12, 5), (2, 2), (10, 10), (2, 2), (10, 10), (2, 2), (10, 10), (2, 2), (10, 10), (2, 2), (10, 10), (3, 4), (7, 4), (7, 4), (1, 3), (13, 5), (14, 5), (10, 5), (10, 5), (10, 5), (10, 5), (10, 5), (4, 6), (10, 5), (10, 5), (10, 1024), (5, 6), (10, 10), (10, 13), (10, 10), (5, 6), (10, 10), (10, 13), (10, 10), (5, 6), (10, 10), (10, 13), (10, 10), (5, 6), (10, 10), (10, 13), (10, 10), (5, 6), (10, 10), (10, 13), (10, 10), (1, 3), (13, 5), (14, 5), (10, 5), (10, 5), (10, 5), (10, 5), (10, 5), (4, 6), (10, 5), (10, 5), (10, 1024), (5, 6), (10, 10), (10, 13), (10, 10), (5, 6), (10, 10), (10, 13), (10, 10), (5, 6), (10, 10), (10, 13), (10, 10), (5, 6), (10, 10), (10, 13), (10, 10), (5, 6), (10, 10), (10, 13), (10, 10), (6, 2), (10, 30), (5, 6), (10, 10), (10, 13), (10, 10), (10, 5), (9, 26), (10, 12), (10, 12), (10, 12), (10, 5), (10, 50), (10, 2), (10, 2), (10, 2), (10, 2), (10, 2), (10, 2), (10, 24), (10, 25), (11, 30), (11, 5), (11, 5), (11, 5), (11, 5), (10, 5)]
def z_kd (k : Nat) : Nat := (z_sh.getD k (99, 0)).1
def z_ln (k : Nat) : Nat := (z_sh.getD k (99, 0)).2
def z_ft : List (List Bool) := [[false, false, false, true], [false, false, false], [false, true], [false, false, true, false], [false, true, false, true, false, true], [false, false, false, true, true, true], [false, true], [true, true, true, true], [false, false, false, false, false, false, false, false, true, true, true, true], [true, false, false, false, true, false, false, true, false, false, false, false, false, false, false, true, false, true, true, true, false, false, false, false, false, false]]
def z_fi (ci j : Nat) : Bool := (z_ft.getD ci []).getD j false
def z_rl : List (List (Option Nat)) := [[some 1, some 5, some 16, some 19, some 51, some 83, some 85, some 89], [some 2, some 3, some 4], [], [], [], [some 6, some 8, some 10, some 12, some 14], [some 7], [], [some 9], [], [some 11], [], [some 13], [], [some 15], [], [some 17, some 18, none, some 1], [], [], [some 20, some 21, some 27], [some 31, some 35, some 39, some 43, some 47], [some 22, some 23, some 24, some 25, some 26], [], [], [], [], [], [some 28, none, some 29, none, some 30], [], [], [], [some 32, some 33, some 34], [], [], [], [some 36, some 37, some 38], [], [], [], [some 40, some 41, some 42], [], [], [], [some 44, some 45, some 46], [], [], [], [some 48, some 49, some 50], [], [], [], [some 52, some 53, some 59], [some 63, some 67, some 71, some 75, some 79], [some 54, some 55, some 56, some 57, some 58], [], [], [], [], [], [some 60, none, some 61, none, some 62], [], [], [], [some 64, some 65, some 66], [], [], [], [some 68, some 69, some 70], [], [], [], [some 72, some 73, some 74], [], [], [], [some 76, some 77, some 78], [], [], [], [some 80, some 81, some 82], [], [], [], [some 84], [], [some 86, some 87, some 88], [], [], [], [], [none, some 91, some 92, some 93, none, some 94, some 95, none, some 96, some 97, some 98, some 99, some 100, some 101, some 102, none, some 103, none, none, none, some 104, some 105, some 106, some 107, some 108, some 109], [], [], [], [], [], [], [], [], [], [], [], [], [], [], [], [], [], [], []]
def z_rf : ZR := fun k j => (z_rl.getD k []).getD j none
theorem iI_add (a b : Int) : iI a + iI b = iI (a + b) := (Int32.ofInt_add _ _).symm
theorem iI_sub (a b : Int) : iI a - iI b = iI (a - b) := (Int32.ofInt_sub _ _).symm
theorem iI_mul (a b : Int) : iI a * iI b = iI (a * b) := (Int32.ofInt_mul _ _).symm
theorem iI_neg (a : Int) : -iI a = iI (-a) := Int32.neg_ofInt
theorem lJ_add (a b : Int) : lJ a + lJ b = lJ (a + b) := (Int64.ofInt_add _ _).symm
theorem lJ_sub (a b : Int) : lJ a - lJ b = lJ (a - b) := (Int64.ofInt_sub _ _).symm
theorem lJ_mul (a b : Int) : lJ a * lJ b = lJ (a * b) := (Int64.ofInt_mul _ _).symm
theorem lJ_neg (a : Int) : -lJ a = lJ (-a) := Int64.neg_ofInt
def rg (z : Int) : Prop := -2147483648 ≤ z ∧ z < 2147483648
def rl (z : Int) : Prop := -9223372036854775808 ≤ z ∧ z < 9223372036854775808
theorem iI_T {z : Int} (h : rg z) : (iI z).toInt = z := Int32.toInt_ofInt_of_le h.1 h.2
theorem lJ_T {z : Int} (h : rl z) : (lJ z).toInt = z := Int64.toInt_ofInt_of_le h.1 h.2
theorem iI_of (x : Int32) : iI x.toInt = x := Int32.ofInt_toInt x
theorem rg_of (x : Int32) : rg x.toInt := ⟨Int32.le_toInt x, Int32.toInt_lt x⟩
theorem iI_eq {a b : Int} (ha : rg a) (hb : rg b) : iI a = iI b ↔ a = b := by
  rw [← Int32.toInt_inj, iI_T ha, iI_T hb]
theorem iI_lt {a b : Int} (ha : rg a) (hb : rg b) : iI a < iI b ↔ a < b := by
  rw [Int32.lt_iff_toInt_lt, iI_T ha, iI_T hb]
theorem iI_le {a b : Int} (ha : rg a) (hb : rg b) : iI a ≤ iI b ↔ a ≤ b := by
  rw [Int32.le_iff_toInt_le, iI_T ha, iI_T hb]
theorem lJ_eq {a b : Int} (ha : rl a) (hb : rl b) : lJ a = lJ b ↔ a = b := by
  rw [← Int64.toInt_inj, lJ_T ha, lJ_T hb]
theorem lJ_lt {a b : Int} (ha : rl a) (hb : rl b) : lJ a < lJ b ↔ a < b := by
  rw [Int64.lt_iff_toInt_lt, lJ_T ha, lJ_T hb]
theorem iI_0 : (0 : Int32) = iI 0 := rfl
theorem rg_0 : rg 0 := ⟨by decide, by decide⟩
theorem iI_cl {j N : Nat} (h : j < N) (hN : N < 2147483648) : (iI (j : Int)).toNatClampNeg = j := by
  show (iI (j : Int)).toInt.toNat = j
  rw [iI_T ⟨by omega, by omega⟩]; rfl
theorem iI_in {j N : Nat} (h : j < N) (hN : N < 2147483648) : vp_in (iI (j : Int)) N := by
  intro q
  rcases q with q | q
  · rw [iI_0, iI_lt ⟨by omega, by omega⟩ rg_0] at q; omega
  · rw [iI_cl h hN] at q; omega
theorem z_ln_lt (k : Nat) : z_ln k < 2147483648 := by
  unfold z_ln
  by_cases h : k < z_sh.length
  · have h1 : ∀ x ∈ z_sh, x.2 < 2147483648 := by decide +kernel
    rw [List.getD_eq_getElem?_getD, List.getElem?_eq_getElem h]
    exact h1 _ (List.getElem_mem h)
  · rw [List.getD_eq_getElem?_getD, List.getElem?_eq_none (by omega)]; decide
theorem z_up_s {M : ZM} {k j : Nat} {v : Int} : z_up M k j v k j = v := by simp [z_up]
theorem z_up_k {M : ZM} {k j a b : Nat} {v : Int} (h : a ≠ k) : z_up M k j v a b = M a b := by simp [z_up, h]
theorem z_up_j {M : ZM} {k j a b : Nat} {v : Int} (h : b ≠ j) : z_up M k j v a b = M a b := by simp [z_up, h]
theorem z_upR_s {M : ZR} {k j : Nat} {v : Option Nat} : z_upR M k j v k j = v := by simp [z_upR]
theorem z_upR_k {M : ZR} {k j a b : Nat} {v : Option Nat} (h : a ≠ k) : z_upR M k j v a b = M a b := by simp [z_upR, h]
theorem z_upR_j {M : ZR} {k j a b : Nat} {v : Option Nat} (h : b ≠ j) : z_upR M k j v a b = M a b := by simp [z_upR, h]
/-- the value of field j of the object k -/
def z_fv (Q : Nat → Nat) (MR : ZR) (MI : ZM) (k j : Nat) : Value := if z_fi (z_kd k) j = true then .int (iI (MI k j)) else va_rf ((MR k j).map Q)
/-- what the cell k holds -/
def z_E (Z : ZC) (Q : Nat → Nat) (MR : ZR) (MI ML : ZM) (k : Nat) : va_E :=
  if z_kd k = 10 then .inl (Z.1, z_ln k, .inl (fun j => iI (MI k j)))
  else if z_kd k = 11 then .inl (Z.2.1, z_ln k, .inr (.inl (fun j => lJ (ML k j))))
  else if z_kd k = 12 then .inl (Z.2.2.1, z_ln k, .inr (.inr (.inr (.inr (fun j => (MR k j).map Q)))))
  else if z_kd k = 13 then .inl (Z.2.2.2.1, z_ln k, .inr (.inr (.inr (.inr (fun j => (MR k j).map Q)))))
  else if z_kd k = 14 then .inl (Z.2.2.2.2, z_ln k, .inr (.inr (.inr (.inr (fun j => (MR k j).map Q)))))
  else .inr (z_kd k, (List.range (z_ln k)).map (z_fv Q MR MI k))
def z_W (Z : ZC) (n : Nat) (Q : Nat → Nat) (MR : ZR) (MI ML : ZM) : va_W := (List.range n).map (fun k => (Q k, z_E Z Q MR MI ML k))
/-- an array of arrays can be made (as va_AO, of arrays) -/
def z_AOA (ty : FieldType) (U : State) : Prop := (Cond.arrayOver (.array ty)).before #[] U = true
theorem z_AOA.use {ty : FieldType} {A : Array Value} {U : State} (h : z_AOA ty U) : (Cond.arrayOver (.array ty)).before A U = true := h
theorem z_AOA.moved {ty : FieldType} {u U : State} (hvm : u.vm.Alike U.vm) (h : z_AOA ty u) : z_AOA ty U := Jvm.Stand.arrayOver_alikeB hvm h
def z_T (Z : ZC) : List (ClassId × FieldType) := [(Z.1, .int), (Z.2.1, .long), (Z.2.2.1, .object "DeckBalance$Deck"), (Z.2.2.2.1, .object "DeckBalance$Plan"), (Z.2.2.2.2, .array .int)]
def z_K (D : va_G) (Z : ZC) (U : State) : Prop := va_K D vwCl (z_T Z) U ∧ va_AO "DeckBalance$Deck" U ∧ va_AO "DeckBalance$Plan" U ∧ z_AOA .int U
def z_A (n : Nat) (Q : Nat → Nat) (sz : Nat) : Nat → Prop := fun q => (∃ k, k < n ∧ q = Q k) ∨ sz ≤ q
theorem z_W_at {Z : ZC} {n k : Nat} {Q : Nat → Nat} {MR : ZR} {MI ML : ZM} (h : k < n) : (z_W Z n Q MR MI ML)[k]? = some (Q k, z_E Z Q MR MI ML k) := by
  unfold z_W
  rw [List.getElem?_map, List.getElem?_range h]; rfl
theorem z_W_set {Z : ZC} {n k : Nat} {Q : Nat → Nat} {MR MR' : ZR} {MI ML MI' ML' : ZM} {x : Nat × va_E} (h : k < n) (hx : x = (Q k, z_E Z Q MR' MI' ML' k)) (ho : ∀ a, a ≠ k → z_E Z Q MR' MI' ML' a = z_E Z Q MR MI ML a) : (z_W Z n Q MR MI ML).set k x = z_W Z n Q MR' MI' ML' := by
  apply List.ext_getElem?
  intro i
  by_cases hi : i = k
  · subst hi
    rw [List.getElem?_set_self (by unfold z_W; simp; exact h), z_W_at h, hx]
  · rw [List.getElem?_set_ne (Ne.symm hi)]
    by_cases hn : i < n
    · rw [z_W_at hn, z_W_at hn, ho i hi]
    · rw [List.getElem?_eq_none (by unfold z_W; simp; omega), List.getElem?_eq_none (by unfold z_W; simp; omega)]
theorem z_E_up {Z : ZC} {Q : Nat → Nat} {MR : ZR} {MI ML : ZM} {k j a : Nat} {v : Int} (h : a ≠ k) : z_E Z Q MR (z_up MI k j v) ML a = z_E Z Q MR MI ML a := by
  have e : ∀ b, z_up MI k j v a b = MI a b := fun b => z_up_k h
  unfold z_E z_fv
  simp only [e]
theorem z_E_upL {Z : ZC} {Q : Nat → Nat} {MR : ZR} {MI ML : ZM} {k j a : Nat} {v : Int} (h : a ≠ k) : z_E Z Q MR MI (z_up ML k j v) a = z_E Z Q MR MI ML a := by
  have e : ∀ b, z_up ML k j v a b = ML a b := fun b => z_up_k h
  unfold z_E z_fv
  simp only [e]
theorem z_E_upR {Z : ZC} {Q : Nat → Nat} {MR : ZR} {MI ML : ZM} {k j a : Nat} {v : Option Nat} (h : a ≠ k) : z_E Z Q (z_upR MR k j v) MI ML a = z_E Z Q MR MI ML a := by
  have e : ∀ b, z_upR MR k j v a b = MR a b := fun b => z_upR_k h
  unfold z_E z_fv
  simp only [e]
theorem z_E_i {Z : ZC} {Q : Nat → Nat} {MR : ZR} {MI ML : ZM} {k : Nat} (h : z_kd k = 10) : z_E Z Q MR MI ML k = .inl (Z.1, z_ln k, .inl (fun j => iI (MI k j))) := by unfold z_E; rw [if_pos h]
theorem z_E_l {Z : ZC} {Q : Nat → Nat} {MR : ZR} {MI ML : ZM} {k : Nat} (h : z_kd k = 11) : z_E Z Q MR MI ML k = .inl (Z.2.1, z_ln k, .inr (.inl (fun j => lJ (ML k j)))) := by unfold z_E; rw [if_neg (by omega), if_pos h]
theorem z_E_D {Z : ZC} {Q : Nat → Nat} {MR : ZR} {MI ML : ZM} {k : Nat} (h : z_kd k = 12) : z_E Z Q MR MI ML k = .inl (Z.2.2.1, z_ln k, .inr (.inr (.inr (.inr (fun j => (MR k j).map Q))))) := by unfold z_E; rw [if_neg (by omega), if_neg (by omega), if_pos h]
theorem z_E_P {Z : ZC} {Q : Nat → Nat} {MR : ZR} {MI ML : ZM} {k : Nat} (h : z_kd k = 13) : z_E Z Q MR MI ML k = .inl (Z.2.2.2.1, z_ln k, .inr (.inr (.inr (.inr (fun j => (MR k j).map Q))))) := by unfold z_E; rw [if_neg (by omega), if_neg (by omega), if_neg (by omega), if_pos h]
theorem z_E_T {Z : ZC} {Q : Nat → Nat} {MR : ZR} {MI ML : ZM} {k : Nat} (h : z_kd k = 14) : z_E Z Q MR MI ML k = .inl (Z.2.2.2.2, z_ln k, .inr (.inr (.inr (.inr (fun j => (MR k j).map Q))))) := by unfold z_E; rw [if_neg (by omega), if_neg (by omega), if_neg (by omega), if_neg (by omega), if_pos h]
theorem z_E_o {Z : ZC} {Q : Nat → Nat} {MR : ZR} {MI ML : ZM} {k ci : Nat} (h : z_kd k = ci) (hc : ci < 10) : z_E Z Q MR MI ML k = .inr (ci, (List.range (z_ln k)).map (z_fv Q MR MI k)) := by unfold z_E; rw [if_neg (by omega), if_neg (by omega), if_neg (by omega), if_neg (by omega), if_neg (by omega), h]
/-! the judgement -/
abbrev VX : Type := Program × Launch × Env × Room × State × MethodId × Array Value × List Frame × Method × Code × Nat × va_G × ZC × (Nat → Prop) × (State → Prop)
def V (X : VX) (cs : Nat × Nat) (n : Nat) (Q : Nat → Nat) (MR : ZR) (MI ML : ZM) (pc : Nat) (lv : List (Nat × Value)) (st : List Value) : Prop :=
  match X with
  | (p, l, e, R, s, m, args, below, meth, c, nL, D, Z, A, Qp) => ∀ (H : Heap) (locs : List Loc) (ls : Array Slot), lv_has ls nL lv → va_P D vwCl (z_W Z n Q MR MI ML) H → va_D A (z_W Z n Q MR MI ML) → va_S A s.heap H locs → W p l e R s m args below meth c H locs cs.1 cs.2 Qp (F0 m pc ls st)
def VK (X : VX) (cc : ByteArray) (own : String) (nL : Nat) (ret : Option FieldType) (fr lo mc ms : Nat) : Prop :=
  match X with
  | (p, _, _, R, s, m, args, _, meth, c, nL', D, Z, A, _) => p.tables.exec = Jvm.exec ∧ c.code = cc ∧ c.maxLocals = nL ∧ nL' = nL ∧ s.vm.findClass own = some m.cls ∧ (∀ w ∈ wsL, w.before args s = true) ∧ z_K D Z s ∧ meth.sig.returnType = ret ∧ meth.locks = false ∧ (∀ q, s.heap.size ≤ q → A q) ∧ R = { frames := fr, cells := mc, slots := ms, locals := lo }

