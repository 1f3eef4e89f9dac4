/-! the finished world: 110 cells, their references as z_rf; contracts that make nothing -/
abbrev ZP : Type := Option Value → ZM → ZM → Prop
abbrev zq (Q : Nat → Nat) (P : ZP) : ZQ := fun v n Q' MR MI ML => n = 110 ∧ Q' = Q ∧ MR = z_rf ∧ P v MI ML
abbrev zI (P : Int → ZM → ZM → Prop) : ZP := fun v M L => ∃ r, v = some (.int (iI r)) ∧ P r M L
abbrev zL (P : Int → ZM → ZM → Prop) : ZP := fun v M L => ∃ r, v = some (.long (lJ r)) ∧ P r M L
abbrev zV (P : ZM → ZM → Prop) : ZP := fun v M L => v = none ∧ P M L
abbrev zF (Q : Nat → Nat) (P : Nat → ZM → ZM → Prop) : ZP := fun v M L => ∃ k, v = some (.ref (Q k)) ∧ P k M L
section VPOST
variable {X : VX} {Q : Nat → Nat} {MI ML : ZM} {pc : Nat} {lv : List (Nat × Value)} {st st0 : List Value} {cc : ByteArray} {own : String} {nL : Nat} {ret : Option FieldType} {fr lo : Nat}
variable {y : MethodName} {cy : ByteArray} {nLy : Nat} {rety : Option FieldType} {fry loy na idx b : Nat} {As : List Value}
theorem v_ri (K : VK X cc own nL (some .int) fr lo 0 0) {P : Int → ZM → ZM → Prop} (E : VE X 0 0 110 Q (zq Q (zI P))) {z : Int} (hd : decode cc pc = .ok (.ireturn, 1)) (h : P z MI ML) : V X (0, 0) 110 Q z_rf MI ML pc lv [.int (iI z)] := v_iret K E hd ⟨rfl, rfl, rfl, z, rfl, h⟩
theorem v_rz (K : VK X cc own nL (some .boolean) fr lo 0 0) {P : Int → ZM → ZM → Prop} (E : VE X 0 0 110 Q (zq Q (zI P))) {z : Int} (hz : z = 0 ∨ z = 1) (hd : decode cc pc = .ok (.ireturn, 1)) (h : P z MI ML) : V X (0, 0) 110 Q z_rf MI ML pc lv [.int (iI z)] := v_zret K E hz hd ⟨rfl, rfl, rfl, z, rfl, h⟩
theorem v_rl (K : VK X cc own nL (some .long) fr lo 0 0) {P : Int → ZM → ZM → Prop} (E : VE X 0 0 110 Q (zq Q (zL P))) {z : Int} (hd : decode cc pc = .ok (.lreturn, 1)) (h : P z MI ML) : V X (0, 0) 110 Q z_rf MI ML pc lv [.long (lJ z)] := v_lret K E hd ⟨rfl, rfl, rfl, z, rfl, h⟩
theorem v_rv (K : VK X cc own nL none fr lo 0 0) {P : ZM → ZM → Prop} (E : VE X 0 0 110 Q (zq Q (zV P))) (hd : decode cc pc = .ok (.return_, 1)) (h : P MI ML) : V X (0, 0) 110 Q z_rf MI ML pc lv [] := v_ret K E hd ⟨rfl, rfl, rfl, rfl, h⟩
theorem v_rr {C : String} (K : VK X cc own nL (some (.object C)) fr lo 0 0) {P : Nat → ZM → ZM → Prop} (E : VE X 0 0 110 Q (zq Q (zF Q P))) {k : Nat} (hd : decode cc pc = .ok (.areturn, 1)) (h : P k MI ML) : V X (0, 0) 110 Q z_rf MI ML pc lv [.ref (Q k)] := v_aret K E hd ⟨rfl, rfl, rfl, k, rfl, h⟩
theorem v_cVi (K : VK X cc own nL ret fr lo 0 0) {P : Int → ZM → ZM → Prop} (hM : CM X.2.1 y cy nLy rety fry loy 0 0 X.2.2.2.2.2.2.2.2.2.2.2.1 X.2.2.2.2.2.2.2.2.2.2.2.2.1 110 Q z_rf (.ref (Q b) :: As) MI ML (zq Q (zI P))) (hst : st0 = As.reverse ++ .ref (Q b) :: st) (f : FC own idx y cy nLy rety na) (fi : Cond.instanceMethod y ∈ wsL) (fs : Cond.selects y.cls y y ∈ wsL) (hb : b < 110) (ci : Nat) (hkd : z_kd b = ci) (hci : ci < 10) (hc : (vwCl[ci]?).map (fun q => q.1) = some y.cls) (hn : As.length = na) (hrm : fry + 1 ≤ fr ∧ 8 + (nLy + 11) + loy ≤ lo) (hw : (st.map fun v => v.category).sum ≤ 8) (hd : decode cc pc = .ok (.invokevirtual idx, 3))
    (kk : ∀ r M L, P r M L → V X (0, 0) 110 Q z_rf M L (pc + 3) lv (.int (iI r) :: st)) : V X (0, 0) 110 Q z_rf MI ML pc lv st0 := by
  subst hst
  refine v_callV K hM f fi fs hb ci hkd hci hc hn ⟨hrm.1, hrm.2, Nat.le_refl _, Nat.le_refl _⟩ hw hd ?_
  rintro v n' Q' MR' M L ⟨rfl, rfl, rfl, r, rfl, h⟩
  exact kk r M L h
theorem v_cVl (K : VK X cc own nL ret fr lo 0 0) {P : Int → ZM → ZM → Prop} (hM : CM X.2.1 y cy nLy rety fry loy 0 0 X.2.2.2.2.2.2.2.2.2.2.2.1 X.2.2.2.2.2.2.2.2.2.2.2.2.1 110 Q z_rf (.ref (Q b) :: As) MI ML (zq Q (zL P))) (hst : st0 = As.reverse ++ .ref (Q b) :: st) (f : FC own idx y cy nLy rety na) (fi : Cond.instanceMethod y ∈ wsL) (fs : Cond.selects y.cls y y ∈ wsL) (hb : b < 110) (ci : Nat) (hkd : z_kd b = ci) (hci : ci < 10) (hc : (vwCl[ci]?).map (fun q => q.1) = some y.cls) (hn : As.length = na) (hrm : fry + 1 ≤ fr ∧ 8 + (nLy + 11) + loy ≤ lo) (hw : (st.map fun v => v.category).sum ≤ 8) (hd : decode cc pc = .ok (.invokevirtual idx, 3))
    (kk : ∀ r M L, P r M L → V X (0, 0) 110 Q z_rf M L (pc + 3) lv (.long (lJ r) :: st)) : V X (0, 0) 110 Q z_rf MI ML pc lv st0 := by
  subst hst
  refine v_callV K hM f fi fs hb ci hkd hci hc hn ⟨hrm.1, hrm.2, Nat.le_refl _, Nat.le_refl _⟩ hw hd ?_
  rintro v n' Q' MR' M L ⟨rfl, rfl, rfl, r, rfl, h⟩
  exact kk r M L h
theorem v_cVv (K : VK X cc own nL ret fr lo 0 0) {P : ZM → ZM → Prop} (hM : CM X.2.1 y cy nLy rety fry loy 0 0 X.2.2.2.2.2.2.2.2.2.2.2.1 X.2.2.2.2.2.2.2.2.2.2.2.2.1 110 Q z_rf (.ref (Q b) :: As) MI ML (zq Q (zV P))) (hst : st0 = As.reverse ++ .ref (Q b) :: st) (f : FC own idx y cy nLy rety na) (fi : Cond.instanceMethod y ∈ wsL) (fs : Cond.selects y.cls y y ∈ wsL) (hb : b < 110) (ci : Nat) (hkd : z_kd b = ci) (hci : ci < 10) (hc : (vwCl[ci]?).map (fun q => q.1) = some y.cls) (hn : As.length = na) (hrm : fry + 1 ≤ fr ∧ 8 + (nLy + 11) + loy ≤ lo) (hw : (st.map fun v => v.category).sum ≤ 8) (hd : decode cc pc = .ok (.invokevirtual idx, 3))
    (kk : ∀ M L, P M L → V X (0, 0) 110 Q z_rf M L (pc + 3) lv st) : V X (0, 0) 110 Q z_rf MI ML pc lv st0 := by
  subst hst
  refine v_callV K hM f fi fs hb ci hkd hci hc hn ⟨hrm.1, hrm.2, Nat.le_refl _, Nat.le_refl _⟩ hw hd ?_
  rintro v n' Q' MR' M L ⟨rfl, rfl, rfl, rfl, h⟩
  exact kk M L h
theorem v_cVr (K : VK X cc own nL ret fr lo 0 0) {P : Nat → ZM → ZM → Prop} (hM : CM X.2.1 y cy nLy rety fry loy 0 0 X.2.2.2.2.2.2.2.2.2.2.2.1 X.2.2.2.2.2.2.2.2.2.2.2.2.1 110 Q z_rf (.ref (Q b) :: As) MI ML (zq Q (zF Q P))) (hst : st0 = As.reverse ++ .ref (Q b) :: st) (f : FC own idx y cy nLy rety na) (fi : Cond.instanceMethod y ∈ wsL) (fs : Cond.selects y.cls y y ∈ wsL) (hb : b < 110) (ci : Nat) (hkd : z_kd b = ci) (hci : ci < 10) (hc : (vwCl[ci]?).map (fun q => q.1) = some y.cls) (hn : As.length = na) (hrm : fry + 1 ≤ fr ∧ 8 + (nLy + 11) + loy ≤ lo) (hw : (st.map fun v => v.category).sum ≤ 8) (hd : decode cc pc = .ok (.invokevirtual idx, 3))
    (kk : ∀ k M L, P k M L → V X (0, 0) 110 Q z_rf M L (pc + 3) lv (.ref (Q k) :: st)) : V X (0, 0) 110 Q z_rf MI ML pc lv st0 := by
  subst hst
  refine v_callV K hM f fi fs hb ci hkd hci hc hn ⟨hrm.1, hrm.2, Nat.le_refl _, Nat.le_refl _⟩ hw hd ?_
  rintro v n' Q' MR' M L ⟨rfl, rfl, rfl, r, rfl, h⟩
  exact kk r M L h
theorem v_cSi (K : VK X cc own nL ret fr lo 0 0) {P : Int → ZM → ZM → Prop} (hM : CM X.2.1 y cy nLy rety fry loy 0 0 X.2.2.2.2.2.2.2.2.2.2.2.1 X.2.2.2.2.2.2.2.2.2.2.2.2.1 110 Q z_rf As MI ML (zq Q (zI P))) (hst : st0 = As.reverse ++ st) (f : FC own idx y cy nLy rety na) (fs : Cond.static y ∈ wsL) (hn : As.length = na) (hrm : fry + 1 ≤ fr ∧ 8 + (nLy + 11) + loy ≤ lo) (hw : (st.map fun v => v.category).sum ≤ 8) (hd : decode cc pc = .ok (.invokestatic idx, 3))
    (kk : ∀ r M L, P r M L → V X (0, 0) 110 Q z_rf M L (pc + 3) lv (.int (iI r) :: st)) : V X (0, 0) 110 Q z_rf MI ML pc lv st0 := by
  subst hst
  refine v_callS K hM f fs hn ⟨hrm.1, hrm.2, Nat.le_refl _, Nat.le_refl _⟩ hw hd ?_
  rintro v n' Q' MR' M L ⟨rfl, rfl, rfl, r, rfl, h⟩
  exact kk r M L h
theorem v_cSl (K : VK X cc own nL ret fr lo 0 0) {P : Int → ZM → ZM → Prop} (hM : CM X.2.1 y cy nLy rety fry loy 0 0 X.2.2.2.2.2.2.2.2.2.2.2.1 X.2.2.2.2.2.2.2.2.2.2.2.2.1 110 Q z_rf As MI ML (zq Q (zL P))) (hst : st0 = As.reverse ++ st) (f : FC own idx y cy nLy rety na) (fs : Cond.static y ∈ wsL) (hn : As.length = na) (hrm : fry + 1 ≤ fr ∧ 8 + (nLy + 11) + loy ≤ lo) (hw : (st.map fun v => v.category).sum ≤ 8) (hd : decode cc pc = .ok (.invokestatic idx, 3))
    (kk : ∀ r M L, P r M L → V X (0, 0) 110 Q z_rf M L (pc + 3) lv (.long (lJ r) :: st)) : V X (0, 0) 110 Q z_rf MI ML pc lv st0 := by
  subst hst
  refine v_callS K hM f fs hn ⟨hrm.1, hrm.2, Nat.le_refl _, Nat.le_refl _⟩ hw hd ?_
  rintro v n' Q' MR' M L ⟨rfl, rfl, rfl, r, rfl, h⟩
  exact kk r M L h
end VPOST
section VEQ
variable {X : VX} {cs : Nat × Nat} {n : Nat} {Q : Nat → Nat} {MR : ZR} {MI ML : ZM} {pc : Nat} {lv : List (Nat × Value)} {st : List Value}
theorem v_eqi {z : Int} (x : Int) (h : z = x) (k : V X cs n Q MR MI ML pc lv (.int (iI x) :: st)) : V X cs n Q MR MI ML pc lv (.int (iI z) :: st) := h ▸ k
theorem v_eql {z : Int} (x : Int) (h : z = x) (k : V X cs n Q MR MI ML pc lv (.long (lJ x) :: st)) : V X cs n Q MR MI ML pc lv (.long (lJ z) :: st) := h ▸ k
theorem v_nmi {z : Int} (k : ∀ x, x = z → V X cs n Q MR MI ML pc lv (.int (iI x) :: st)) : V X cs n Q MR MI ML pc lv (.int (iI z) :: st) := k z rfl
theorem v_eqM {M : ZM} (h : MI = M) (k : V X cs n Q MR M ML pc lv st) : V X cs n Q MR MI ML pc lv st := h ▸ k
end VEQ
theorem zr_decks {j : Nat} (h : j < 5) : z_rf 5 j = some (6 + 2 * j) := (by decide +kernel : ∀ j, j < 5 → z_rf 5 j = some (6 + 2 * j)) j h
theorem zr_np {j : Nat} (h : j < 5) : z_rf 20 j = some (31 + 4 * j) := (by decide +kernel : ∀ j, j < 5 → z_rf 20 j = some (31 + 4 * j)) j h
theorem zr_tp {j : Nat} (h : j < 5) : z_rf 52 j = some (63 + 4 * j) := (by decide +kernel : ∀ j, j < 5 → z_rf 52 j = some (63 + 4 * j)) j h
theorem zr_nt {j : Nat} (h : j < 5) : z_rf 21 j = some (22 + j) := (by decide +kernel : ∀ j, j < 5 → z_rf 21 j = some (22 + j)) j h
theorem zr_tt {j : Nat} (h : j < 5) : z_rf 53 j = some (54 + j) := (by decide +kernel : ∀ j, j < 5 → z_rf 53 j = some (54 + j)) j h

abbrev C_X0_enter (l : Launch) (D : va_G) (Z : ZC) (Q : Nat → Nat) (As : List Value) (MI ML : ZM) (P : ZP) : Prop := CM l yX0_enter cX0_enter 4 (some .int) 0 0 0 0 D Z 110 Q z_rf As MI ML (zq Q P)
abbrev C_X0_isPlayedAhead (l : Launch) (D : va_G) (Z : ZC) (Q : Nat → Nat) (As : List Value) (MI ML : ZM) (P : ZP) : Prop := CM l yX0_isPlayedAhead cX0_isPlayedAhead 3 (some .boolean) 0 0 0 0 D Z 110 Q z_rf As MI ML (zq Q P)
abbrev C_X1_enter (l : Launch) (D : va_G) (Z : ZC) (Q : Nat → Nat) (As : List Value) (MI ML : ZM) (P : ZP) : Prop := CM l yX1_enter cX1_enter 4 none 0 0 0 0 D Z 110 Q z_rf As MI ML (zq Q P)
abbrev C_X1_hasTablesOf (l : Launch) (D : va_G) (Z : ZC) (Q : Nat → Nat) (As : List Value) (MI ML : ZM) (P : ZP) : Prop := CM l yX1_hasTablesOf cX1_hasTablesOf 5 (some .boolean) 0 0 0 0 D Z 110 Q z_rf As MI ML (zq Q P)
abbrev C_X2_append (l : Launch) (D : va_G) (Z : ZC) (Q : Nat → Nat) (As : List Value) (MI ML : ZM) (P : ZP) : Prop := CM l yX2_append cX2_append 2 (some .int) 0 0 0 0 D Z 110 Q z_rf As MI ML (zq Q P)
abbrev C_X2_takeOut (l : Launch) (D : va_G) (Z : ZC) (Q : Nat → Nat) (As : List Value) (MI ML : ZM) (P : ZP) : Prop := CM l yX2_takeOut cX2_takeOut 4 (some .int) 0 0 0 0 D Z 110 Q z_rf As MI ML (zq Q P)
abbrev C_X2_exchange (l : Launch) (D : va_G) (Z : ZC) (Q : Nat → Nat) (As : List Value) (MI ML : ZM) (P : ZP) : Prop := CM l yX2_exchange cX2_exchange 4 none 0 0 0 0 D Z 110 Q z_rf As MI ML (zq Q P)
abbrev C_X2_firstPlaceOf (l : Launch) (D : va_G) (Z : ZC) (Q : Nat → Nat) (As : List Value) (MI ML : ZM) (P : ZP) : Prop := CM l yX2_firstPlaceOf cX2_firstPlaceOf 3 (some .int) 0 0 0 0 D Z 110 Q z_rf As MI ML (zq Q P)
abbrev C_X3_resultOf (l : Launch) (D : va_G) (Z : ZC) (Q : Nat → Nat) (As : List Value) (MI ML : ZM) (P : ZP) : Prop := CM l yX3_resultOf cX3_resultOf 5 (some .int) 2 49 0 0 D Z 110 Q z_rf As MI ML (zq Q P)
abbrev C_X4_find (l : Launch) (D : va_G) (Z : ZC) (Q : Nat → Nat) (As : List Value) (MI ML : ZM) (P : ZP) : Prop := CM l yX4_find cX4_find 7 none 4 96 0 0 D Z 110 Q z_rf As MI ML (zq Q P)
abbrev C_X4_isWithin (l : Launch) (D : va_G) (Z : ZC) (Q : Nat → Nat) (As : List Value) (MI ML : ZM) (P : ZP) : Prop := CM l yX4_isWithin cX4_isWithin 4 (some .boolean) 0 0 0 0 D Z 110 Q z_rf As MI ML (zq Q P)
abbrev C_X4_findMinors (l : Launch) (D : va_G) (Z : ZC) (Q : Nat → Nat) (As : List Value) (MI ML : ZM) (P : ZP) : Prop := CM l yX4_findMinors cX4_findMinors 6 none 3 71 0 0 D Z 110 Q z_rf As MI ML (zq Q P)
abbrev C_X4_minorOf (l : Launch) (D : va_G) (Z : ZC) (Q : Nat → Nat) (As : List Value) (MI ML : ZM) (P : ZP) : Prop := CM l yX4_minorOf cX4_minorOf 9 (some .int) 2 43 0 0 D Z 110 Q z_rf As MI ML (zq Q P)
abbrev C_X4_leastOf (l : Launch) (D : va_G) (Z : ZC) (Q : Nat → Nat) (As : List Value) (MI ML : ZM) (P : ZP) : Prop := CM l yX4_leastOf cX4_leastOf 3 (some .int) 1 21 0 0 D Z 110 Q z_rf As MI ML (zq Q P)
abbrev C_X4_isIn (l : Launch) (D : va_G) (Z : ZC) (Q : Nat → Nat) (As : List Value) (MI ML : ZM) (P : ZP) : Prop := CM l yX4_isIn cX4_isIn 2 (some .boolean) 0 0 0 0 D Z 110 Q z_rf As MI ML (zq Q P)
abbrev C_X4_tryCorner (l : Launch) (D : va_G) (Z : ZC) (Q : Nat → Nat) (As : List Value) (MI ML : ZM) (P : ZP) : Prop := CM l yX4_tryCorner cX4_tryCorner 7 (some .boolean) 1 21 0 0 D Z 110 Q z_rf As MI ML (zq Q P)
abbrev C_X4_turnSigns (l : Launch) (D : va_G) (Z : ZC) (Q : Nat → Nat) (As : List Value) (MI ML : ZM) (P : ZP) : Prop := CM l yX4_turnSigns cX4_turnSigns 2 none 0 0 0 0 D Z 110 Q z_rf As MI ML (zq Q P)
abbrev C_X4_isHolding (l : Launch) (D : va_G) (Z : ZC) (Q : Nat → Nat) (As : List Value) (MI ML : ZM) (P : ZP) : Prop := CM l yX4_isHolding cX4_isHolding 5 (some .boolean) 0 0 0 0 D Z 110 Q z_rf As MI ML (zq Q P)
abbrev C_X4_isGreater (l : Launch) (D : va_G) (Z : ZC) (Q : Nat → Nat) (As : List Value) (MI ML : ZM) (P : ZP) : Prop := CM l yX4_isGreater cX4_isGreater 3 (some .boolean) 0 0 0 0 D Z 110 Q z_rf As MI ML (zq Q P)
abbrev C_X4_takeTried (l : Launch) (D : va_G) (Z : ZC) (Q : Nat → Nat) (As : List Value) (MI ML : ZM) (P : ZP) : Prop := CM l yX4_takeTried cX4_takeTried 2 none 0 0 0 0 D Z 110 Q z_rf As MI ML (zq Q P)
abbrev C_X5_lay (l : Launch) (D : va_G) (Z : ZC) (Q : Nat → Nat) (As : List Value) (MI ML : ZM) (P : ZP) : Prop := CM l yX5_lay cX5_lay 5 none 3 71 0 0 D Z 110 Q z_rf As MI ML (zq Q P)
abbrev C_X5_draw (l : Launch) (D : va_G) (Z : ZC) (Q : Nat → Nat) (As : List Value) (MI ML : ZM) (P : ZP) : Prop := CM l yX5_draw cX5_draw 3 none 0 0 0 0 D Z 110 Q z_rf As MI ML (zq Q P)
abbrev C_X5_playHand (l : Launch) (D : va_G) (Z : ZC) (Q : Nat → Nat) (As : List Value) (MI ML : ZM) (P : ZP) : Prop := CM l yX5_playHand cX5_playHand 6 none 2 46 0 0 D Z 110 Q z_rf As MI ML (zq Q P)
abbrev C_X5_nextPlace (l : Launch) (D : va_G) (Z : ZC) (Q : Nat → Nat) (As : List Value) (MI ML : ZM) (P : ZP) : Prop := CM l yX5_nextPlace cX5_nextPlace 5 (some .int) 1 22 0 0 D Z 110 Q z_rf As MI ML (zq Q P)
abbrev C_X5_putDown (l : Launch) (D : va_G) (Z : ZC) (Q : Nat → Nat) (As : List Value) (MI ML : ZM) (P : ZP) : Prop := CM l yX5_putDown cX5_putDown 2 none 0 0 0 0 D Z 110 Q z_rf As MI ML (zq Q P)
abbrev C_X6_find (l : Launch) (D : va_G) (Z : ZC) (Q : Nat → Nat) (As : List Value) (MI ML : ZM) (P : ZP) : Prop := CM l yX6_find cX6_find 5 none 1 25 0 0 D Z 110 Q z_rf As MI ML (zq Q P)
abbrev C_X6_findThird (l : Launch) (D : va_G) (Z : ZC) (Q : Nat → Nat) (As : List Value) (MI ML : ZM) (P : ZP) : Prop := CM l yX6_findThird cX6_findThird 6 none 0 0 0 0 D Z 110 Q z_rf As MI ML (zq Q P)
abbrev C_X7_begin (l : Launch) (D : va_G) (Z : ZC) (Q : Nat → Nat) (As : List Value) (MI ML : ZM) (P : ZP) : Prop := CM l yX7_begin cX7_begin 2 none 0 0 0 0 D Z 110 Q z_rf As MI ML (zq Q P)
abbrev C_X7_defeats (l : Launch) (D : va_G) (Z : ZC) (Q : Nat → Nat) (As : List Value) (MI ML : ZM) (P : ZP) : Prop := CM l yX7_defeats cX7_defeats 7 (some .boolean) 1 23 0 0 D Z 110 Q z_rf As MI ML (zq Q P)
abbrev C_X7_put (l : Launch) (D : va_G) (Z : ZC) (Q : Nat → Nat) (As : List Value) (MI ML : ZM) (P : ZP) : Prop := CM l yX7_put cX7_put 4 none 0 0 0 0 D Z 110 Q z_rf As MI ML (zq Q P)
abbrev C_X8_card (l : Launch) (D : va_G) (Z : ZC) (Q : Nat → Nat) (As : List Value) (MI ML : ZM) (P : ZP) : Prop := CM l yX8_card cX8_card 4 (some .int) 1 23 0 0 D Z 110 Q z_rf As MI ML (zq Q P)
abbrev C_X8_power (l : Launch) (D : va_G) (Z : ZC) (Q : Nat → Nat) (As : List Value) (MI ML : ZM) (P : ZP) : Prop := CM l yX8_power cX8_power 4 (some .int) 2 43 0 0 D Z 110 Q z_rf As MI ML (zq Q P)
abbrev C_X8_deck (l : Launch) (D : va_G) (Z : ZC) (Q : Nat → Nat) (As : List Value) (MI ML : ZM) (P : ZP) : Prop := CM l yX8_deck cX8_deck 1 (some .int) 1 20 0 0 D Z 110 Q z_rf As MI ML (zq Q P)
abbrev C_X8_add (l : Launch) (D : va_G) (Z : ZC) (Q : Nat → Nat) (As : List Value) (MI ML : ZM) (P : ZP) : Prop := CM l yX8_add cX8_add 4 (some .int) 2 43 0 0 D Z 110 Q z_rf As MI ML (zq Q P)
abbrev C_X8_drop (l : Launch) (D : va_G) (Z : ZC) (Q : Nat → Nat) (As : List Value) (MI ML : ZM) (P : ZP) : Prop := CM l yX8_drop cX8_drop 4 (some .int) 2 44 0 0 D Z 110 Q z_rf As MI ML (zq Q P)
abbrev C_X8_swap (l : Launch) (D : va_G) (Z : ZC) (Q : Nat → Nat) (As : List Value) (MI ML : ZM) (P : ZP) : Prop := CM l yX8_swap cX8_swap 4 (some .int) 2 44 0 0 D Z 110 Q z_rf As MI ML (zq Q P)
abbrev C_X8_at (l : Launch) (D : va_G) (Z : ZC) (Q : Nat → Nat) (As : List Value) (MI ML : ZM) (P : ZP) : Prop := CM l yX8_at cX8_at 3 (some .int) 2 44 0 0 D Z 110 Q z_rf As MI ML (zq Q P)
abbrev C_X8_life (l : Launch) (D : va_G) (Z : ZC) (Q : Nat → Nat) (As : List Value) (MI ML : ZM) (P : ZP) : Prop := CM l yX8_life cX8_life 3 (some .int) 1 22 0 0 D Z 110 Q z_rf As MI ML (zq Q P)
abbrev C_X8_play (l : Launch) (D : va_G) (Z : ZC) (Q : Nat → Nat) (As : List Value) (MI ML : ZM) (P : ZP) : Prop := CM l yX8_play cX8_play 3 (some .int) 5 117 0 0 D Z 110 Q z_rf As MI ML (zq Q P)
abbrev C_X8_told (l : Launch) (D : va_G) (Z : ZC) (Q : Nat → Nat) (As : List Value) (MI ML : ZM) (P : ZP) : Prop := CM l yX8_told cX8_told 4 (some .int) 5 117 0 0 D Z 110 Q z_rf As MI ML (zq Q P)
abbrev C_X8_table (l : Launch) (D : va_G) (Z : ZC) (Q : Nat → Nat) (As : List Value) (MI ML : ZM) (P : ZP) : Prop := CM l yX8_table cX8_table 3 (some .int) 5 117 0 0 D Z 110 Q z_rf As MI ML (zq Q P)
abbrev C_X8_rings (l : Launch) (D : va_G) (Z : ZC) (Q : Nat → Nat) (As : List Value) (MI ML : ZM) (P : ZP) : Prop := CM l yX8_rings cX8_rings 1 (some .int) 5 117 0 0 D Z 110 Q z_rf As MI ML (zq Q P)
abbrev C_X8_ring (l : Launch) (D : va_G) (Z : ZC) (Q : Nat → Nat) (As : List Value) (MI ML : ZM) (P : ZP) : Prop := CM l yX8_ring cX8_ring 3 (some .int) 5 117 0 0 D Z 110 Q z_rf As MI ML (zq Q P)
abbrev C_X8_share (l : Launch) (D : va_G) (Z : ZC) (Q : Nat → Nat) (As : List Value) (MI ML : ZM) (P : ZP) : Prop := CM l yX8_share cX8_share 6 (some .long) 6 142 0 0 D Z 110 Q z_rf As MI ML (zq Q P)
abbrev C_X8_live (l : Launch) (D : va_G) (Z : ZC) (Q : Nat → Nat) (As : List Value) (MI ML : ZM) (P : ZP) : Prop := CM l yX8_live cX8_live 3 (some .int) 6 142 0 0 D Z 110 Q z_rf As MI ML (zq Q P)
abbrev C_X8_standing (l : Launch) (D : va_G) (Z : ZC) (Q : Nat → Nat) (As : List Value) (MI ML : ZM) (P : ZP) : Prop := CM l yX8_standing cX8_standing 2 (some .int) 5 117 0 0 D Z 110 Q z_rf As MI ML (zq Q P)
abbrev C_X8_worth (l : Launch) (D : va_G) (Z : ZC) (Q : Nat → Nat) (As : List Value) (MI ML : ZM) (P : ZP) : Prop := CM l yX8_worth cX8_worth 3 (some .int) 5 118 0 0 D Z 110 Q z_rf As MI ML (zq Q P)
abbrev C_X8_idle (l : Launch) (D : va_G) (Z : ZC) (Q : Nat → Nat) (As : List Value) (MI ML : ZM) (P : ZP) : Prop := CM l yX8_idle cX8_idle 4 (some .int) 5 118 0 0 D Z 110 Q z_rf As MI ML (zq Q P)
abbrev C_X8_remedy (l : Launch) (D : va_G) (Z : ZC) (Q : Nat → Nat) (As : List Value) (MI ML : ZM) (P : ZP) : Prop := CM l yX8_remedy cX8_remedy 7 (some .int) 6 147 0 0 D Z 110 Q z_rf As MI ML (zq Q P)
abbrev C_X8_count (l : Launch) (D : va_G) (Z : ZC) (Q : Nat → Nat) (As : List Value) (MI ML : ZM) (P : ZP) : Prop := CM l yX8_count cX8_count 2 (some .int) 1 22 0 0 D Z 110 Q z_rf As MI ML (zq Q P)
abbrev C_X8_isOutside (l : Launch) (D : va_G) (Z : ZC) (Q : Nat → Nat) (As : List Value) (MI ML : ZM) (P : ZP) : Prop := CM l yX8_isOutside cX8_isOutside 3 (some .boolean) 0 0 0 0 D Z 110 Q z_rf As MI ML (zq Q P)
abbrev C_X8_isNoCard (l : Launch) (D : va_G) (Z : ZC) (Q : Nat → Nat) (As : List Value) (MI ML : ZM) (P : ZP) : Prop := CM l yX8_isNoCard cX8_isNoCard 2 (some .boolean) 1 22 0 0 D Z 110 Q z_rf As MI ML (zq Q P)
abbrev C_X8_isNoDeck (l : Launch) (D : va_G) (Z : ZC) (Q : Nat → Nat) (As : List Value) (MI ML : ZM) (P : ZP) : Prop := CM l yX8_isNoDeck cX8_isNoDeck 2 (some .boolean) 1 22 0 0 D Z 110 Q z_rf As MI ML (zq Q P)
abbrev C_X8_isNoPlace (l : Launch) (D : va_G) (Z : ZC) (Q : Nat → Nat) (As : List Value) (MI ML : ZM) (P : ZP) : Prop := CM l yX8_isNoPlace cX8_isNoPlace 3 (some .boolean) 1 22 0 0 D Z 110 Q z_rf As MI ML (zq Q P)
abbrev C_X8_cardsInDecks (l : Launch) (D : va_G) (Z : ZC) (Q : Nat → Nat) (As : List Value) (MI ML : ZM) (P : ZP) : Prop := CM l yX8_cardsInDecks cX8_cardsInDecks 3 (some .int) 0 0 0 0 D Z 110 Q z_rf As MI ML (zq Q P)
abbrev C_X8_sumOf (l : Launch) (D : va_G) (Z : ZC) (Q : Nat → Nat) (As : List Value) (MI ML : ZM) (P : ZP) : Prop := CM l yX8_sumOf cX8_sumOf 4 (some .int) 0 0 0 0 D Z 110 Q z_rf As MI ML (zq Q P)
abbrev C_X8_greatestDivisor (l : Launch) (D : va_G) (Z : ZC) (Q : Nat → Nat) (As : List Value) (MI ML : ZM) (P : ZP) : Prop := CM l yX8_greatestDivisor cX8_greatestDivisor 6 (some .int) 0 0 0 0 D Z 110 Q z_rf As MI ML (zq Q P)
abbrev C_X8_forgetTables (l : Launch) (D : va_G) (Z : ZC) (Q : Nat → Nat) (As : List Value) (MI ML : ZM) (P : ZP) : Prop := CM l yX8_forgetTables cX8_forgetTables 1 none 0 0 0 0 D Z 110 Q z_rf As MI ML (zq Q P)
abbrev C_X8_learnTables (l : Launch) (D : va_G) (Z : ZC) (Q : Nat → Nat) (As : List Value) (MI ML : ZM) (P : ZP) : Prop := CM l yX8_learnTables cX8_learnTables 3 none 4 95 0 0 D Z 110 Q z_rf As MI ML (zq Q P)
abbrev C_X8_learnMix (l : Launch) (D : va_G) (Z : ZC) (Q : Nat → Nat) (As : List Value) (MI ML : ZM) (P : ZP) : Prop := CM l yX8_learnMix cX8_learnMix 1 none 5 122 0 0 D Z 110 Q z_rf As MI ML (zq Q P)
abbrev C_X8_tableOf (l : Launch) (D : va_G) (Z : ZC) (Q : Nat → Nat) (As : List Value) (MI ML : ZM) (P : ZP) : Prop := CM l yX8_tableOf cX8_tableOf 3 (some .int) 3 73 0 0 D Z 110 Q z_rf As MI ML (zq Q P)
abbrev C_X8_learnTablesWithout (l : Launch) (D : va_G) (Z : ZC) (Q : Nat → Nat) (As : List Value) (MI ML : ZM) (P : ZP) : Prop := CM l yX8_learnTablesWithout cX8_learnTablesWithout 4 none 4 95 0 0 D Z 110 Q z_rf As MI ML (zq Q P)
abbrev C_X8_isMixWithin (l : Launch) (D : va_G) (Z : ZC) (Q : Nat → Nat) (As : List Value) (MI ML : ZM) (P : ZP) : Prop := CM l yX8_isMixWithin cX8_isMixWithin 6 (some .boolean) 5 122 0 0 D Z 110 Q z_rf As MI ML (zq Q P)
abbrev C_X8_learnTrialTables (l : Launch) (D : va_G) (Z : ZC) (Q : Nat → Nat) (As : List Value) (MI ML : ZM) (P : ZP) : Prop := CM l yX8_learnTrialTables cX8_learnTrialTables 5 none 4 95 0 0 D Z 110 Q z_rf As MI ML (zq Q P)
abbrev C_X8_trialPlan (l : Launch) (D : va_G) (Z : ZC) (Q : Nat → Nat) (As : List Value) (MI ML : ZM) (P : ZP) : Prop := CM l yX8_trialPlan cX8_trialPlan 3 (some (.object "DeckBalance$Plan")) 2 44 0 0 D Z 110 Q z_rf As MI ML (zq Q P)
abbrev C_X8_hasCard (l : Launch) (D : va_G) (Z : ZC) (Q : Nat → Nat) (As : List Value) (MI ML : ZM) (P : ZP) : Prop := CM l yX8_hasCard cX8_hasCard 3 (some .boolean) 1 22 0 0 D Z 110 Q z_rf As MI ML (zq Q P)
abbrev C_X9_in (l : Launch) (D : va_G) (Z : ZC) (Q : Nat → Nat) (As : List Value) (MI ML : ZM) (P : ZP) : Prop := CM l yX9_in cX9_in 3 (some .boolean) 0 0 0 0 D Z 110 Q z_rf As MI ML (zq Q P)
abbrev C_X9_isCard (l : Launch) (D : va_G) (Z : ZC) (Q : Nat → Nat) (As : List Value) (MI ML : ZM) (P : ZP) : Prop := CM l yX9_isCard cX9_isCard 2 (some .boolean) 1 22 0 0 D Z 110 Q z_rf As MI ML (zq Q P)
abbrev C_X9_isDeck (l : Launch) (D : va_G) (Z : ZC) (Q : Nat → Nat) (As : List Value) (MI ML : ZM) (P : ZP) : Prop := CM l yX9_isDeck cX9_isDeck 2 (some .boolean) 1 22 0 0 D Z 110 Q z_rf As MI ML (zq Q P)
abbrev C_X9_card (l : Launch) (D : va_G) (Z : ZC) (Q : Nat → Nat) (As : List Value) (MI ML : ZM) (P : ZP) : Prop := CM l yX9_card cX9_card 4 (some .int) 1 22 0 0 D Z 110 Q z_rf As MI ML (zq Q P)
abbrev C_X9_power (l : Launch) (D : va_G) (Z : ZC) (Q : Nat → Nat) (As : List Value) (MI ML : ZM) (P : ZP) : Prop := CM l yX9_power cX9_power 4 (some .int) 2 43 0 0 D Z 110 Q z_rf As MI ML (zq Q P)
abbrev C_X9_deck (l : Launch) (D : va_G) (Z : ZC) (Q : Nat → Nat) (As : List Value) (MI ML : ZM) (P : ZP) : Prop := CM l yX9_deck cX9_deck 1 (some .int) 0 0 0 0 D Z 110 Q z_rf As MI ML (zq Q P)
abbrev C_X9_add (l : Launch) (D : va_G) (Z : ZC) (Q : Nat → Nat) (As : List Value) (MI ML : ZM) (P : ZP) : Prop := CM l yX9_add cX9_add 3 (some .int) 2 43 0 0 D Z 110 Q z_rf As MI ML (zq Q P)
abbrev C_X9_isPlace (l : Launch) (D : va_G) (Z : ZC) (Q : Nat → Nat) (As : List Value) (MI ML : ZM) (P : ZP) : Prop := CM l yX9_isPlace cX9_isPlace 3 (some .boolean) 2 43 0 0 D Z 110 Q z_rf As MI ML (zq Q P)
abbrev C_X9_dropAt (l : Launch) (D : va_G) (Z : ZC) (Q : Nat → Nat) (As : List Value) (MI ML : ZM) (P : ZP) : Prop := CM l yX9_dropAt cX9_dropAt 4 none 0 0 0 0 D Z 110 Q z_rf As MI ML (zq Q P)
abbrev C_X9_drop (l : Launch) (D : va_G) (Z : ZC) (Q : Nat → Nat) (As : List Value) (MI ML : ZM) (P : ZP) : Prop := CM l yX9_drop cX9_drop 4 (some .int) 3 65 0 0 D Z 110 Q z_rf As MI ML (zq Q P)
abbrev C_X9_swap (l : Launch) (D : va_G) (Z : ZC) (Q : Nat → Nat) (As : List Value) (MI ML : ZM) (P : ZP) : Prop := CM l yX9_swap cX9_swap 5 (some .int) 3 65 0 0 D Z 110 Q z_rf As MI ML (zq Q P)
abbrev C_X9_at (l : Launch) (D : va_G) (Z : ZC) (Q : Nat → Nat) (As : List Value) (MI ML : ZM) (P : ZP) : Prop := CM l yX9_at cX9_at 3 (some .int) 2 43 0 0 D Z 110 Q z_rf As MI ML (zq Q P)
abbrev C_X9_life (l : Launch) (D : va_G) (Z : ZC) (Q : Nat → Nat) (As : List Value) (MI ML : ZM) (P : ZP) : Prop := CM l yX9_life cX9_life 3 (some .int) 1 22 0 0 D Z 110 Q z_rf As MI ML (zq Q P)
abbrev C_X9_isOver (l : Launch) (D : va_G) (Z : ZC) (Q : Nat → Nat) (As : List Value) (MI ML : ZM) (P : ZP) : Prop := CM l yX9_isOver cX9_isOver 1 (some .boolean) 0 0 0 0 D Z 110 Q z_rf As MI ML (zq Q P)
abbrev C_X9_nextCard (l : Launch) (D : va_G) (Z : ZC) (Q : Nat → Nat) (As : List Value) (MI ML : ZM) (P : ZP) : Prop := CM l yX9_nextCard cX9_nextCard 6 (some .int) 0 0 0 0 D Z 110 Q z_rf As MI ML (zq Q P)
abbrev C_X9_playCard (l : Launch) (D : va_G) (Z : ZC) (Q : Nat → Nat) (As : List Value) (MI ML : ZM) (P : ZP) : Prop := CM l yX9_playCard cX9_playCard 3 none 0 0 0 0 D Z 110 Q z_rf As MI ML (zq Q P)
abbrev C_X9_move (l : Launch) (D : va_G) (Z : ZC) (Q : Nat → Nat) (As : List Value) (MI ML : ZM) (P : ZP) : Prop := CM l yX9_move cX9_move 6 none 1 25 0 0 D Z 110 Q z_rf As MI ML (zq Q P)
abbrev C_X9_game (l : Launch) (D : va_G) (Z : ZC) (Q : Nat → Nat) (As : List Value) (MI ML : ZM) (P : ZP) : Prop := CM l yX9_game cX9_game 4 none 2 50 0 0 D Z 110 Q z_rf As MI ML (zq Q P)
abbrev C_X9_result (l : Launch) (D : va_G) (Z : ZC) (Q : Nat → Nat) (As : List Value) (MI ML : ZM) (P : ZP) : Prop := CM l yX9_result cX9_result 3 (some .int) 3 73 0 0 D Z 110 Q z_rf As MI ML (zq Q P)
abbrev C_X9_play (l : Launch) (D : va_G) (Z : ZC) (Q : Nat → Nat) (As : List Value) (MI ML : ZM) (P : ZP) : Prop := CM l yX9_play cX9_play 3 (some .int) 4 95 0 0 D Z 110 Q z_rf As MI ML (zq Q P)
abbrev C_X9_told (l : Launch) (D : va_G) (Z : ZC) (Q : Nat → Nat) (As : List Value) (MI ML : ZM) (P : ZP) : Prop := CM l yX9_told cX9_told 4 (some .int) 3 73 0 0 D Z 110 Q z_rf As MI ML (zq Q P)
abbrev C_X9_tableOf (l : Launch) (D : va_G) (Z : ZC) (Q : Nat → Nat) (As : List Value) (MI ML : ZM) (P : ZP) : Prop := CM l yX9_tableOf cX9_tableOf 3 (some .int) 4 95 0 0 D Z 110 Q z_rf As MI ML (zq Q P)
abbrev C_X9_table (l : Launch) (D : va_G) (Z : ZC) (Q : Nat → Nat) (As : List Value) (MI ML : ZM) (P : ZP) : Prop := CM l yX9_table cX9_table 3 (some .int) 5 117 0 0 D Z 110 Q z_rf As MI ML (zq Q P)
abbrev C_X9_layTables (l : Launch) (D : va_G) (Z : ZC) (Q : Nat → Nat) (As : List Value) (MI ML : ZM) (P : ZP) : Prop := CM l yX9_layTables cX9_layTables 3 none 5 117 0 0 D Z 110 Q z_rf As MI ML (zq Q P)
abbrev C_X9_beats (l : Launch) (D : va_G) (Z : ZC) (Q : Nat → Nat) (As : List Value) (MI ML : ZM) (P : ZP) : Prop := CM l yX9_beats cX9_beats 3 (some .boolean) 0 0 0 0 D Z 110 Q z_rf As MI ML (zq Q P)
abbrev C_X9_findRings (l : Launch) (D : va_G) (Z : ZC) (Q : Nat → Nat) (As : List Value) (MI ML : ZM) (P : ZP) : Prop := CM l yX9_findRings cX9_findRings 6 (some .int) 6 139 0 0 D Z 110 Q z_rf As MI ML (zq Q P)
abbrev C_X9_rings (l : Launch) (D : va_G) (Z : ZC) (Q : Nat → Nat) (As : List Value) (MI ML : ZM) (P : ZP) : Prop := CM l yX9_rings cX9_rings 1 (some .int) 7 164 0 0 D Z 110 Q z_rf As MI ML (zq Q P)
abbrev C_X9_ring (l : Launch) (D : va_G) (Z : ZC) (Q : Nat → Nat) (As : List Value) (MI ML : ZM) (P : ZP) : Prop := CM l yX9_ring cX9_ring 3 (some .int) 7 164 0 0 D Z 110 Q z_rf As MI ML (zq Q P)
abbrev C_X9_divisor (l : Launch) (D : va_G) (Z : ZC) (Q : Nat → Nat) (As : List Value) (MI ML : ZM) (P : ZP) : Prop := CM l yX9_divisor cX9_divisor 10 (some .long) 0 0 0 0 D Z 110 Q z_rf As MI ML (zq Q P)
abbrev C_X9_layBounds (l : Launch) (D : va_G) (Z : ZC) (Q : Nat → Nat) (As : List Value) (MI ML : ZM) (P : ZP) : Prop := CM l yX9_layBounds cX9_layBounds 5 none 0 0 0 0 D Z 110 Q z_rf As MI ML (zq Q P)
abbrev C_X9_changeRows (l : Launch) (D : va_G) (Z : ZC) (Q : Nat → Nat) (As : List Value) (MI ML : ZM) (P : ZP) : Prop := CM l yX9_changeRows cX9_changeRows 6 none 0 0 0 0 D Z 110 Q z_rf As MI ML (zq Q P)
abbrev C_X9_clearRow (l : Launch) (D : va_G) (Z : ZC) (Q : Nat → Nat) (As : List Value) (MI ML : ZM) (P : ZP) : Prop := CM l yX9_clearRow cX9_clearRow 11 none 1 29 0 0 D Z 110 Q z_rf As MI ML (zq Q P)
abbrev C_X9_solve (l : Launch) (D : va_G) (Z : ZC) (Q : Nat → Nat) (As : List Value) (MI ML : ZM) (P : ZP) : Prop := CM l yX9_solve cX9_solve 8 (some .boolean) 2 59 0 0 D Z 110 Q z_rf As MI ML (zq Q P)
abbrev C_X9_holds (l : Launch) (D : va_G) (Z : ZC) (Q : Nat → Nat) (As : List Value) (MI ML : ZM) (P : ZP) : Prop := CM l yX9_holds cX9_holds 8 (some .boolean) 1 29 0 0 D Z 110 Q z_rf As MI ML (zq Q P)
abbrev C_X9_isGreater (l : Launch) (D : va_G) (Z : ZC) (Q : Nat → Nat) (As : List Value) (MI ML : ZM) (P : ZP) : Prop := CM l yX9_isGreater cX9_isGreater 4 (some .boolean) 0 0 0 0 D Z 110 Q z_rf As MI ML (zq Q P)
abbrev C_X9_ones (l : Launch) (D : va_G) (Z : ZC) (Q : Nat → Nat) (As : List Value) (MI ML : ZM) (P : ZP) : Prop := CM l yX9_ones cX9_ones 3 (some .int) 0 0 0 0 D Z 110 Q z_rf As MI ML (zq Q P)
abbrev C_X9_findMix (l : Launch) (D : va_G) (Z : ZC) (Q : Nat → Nat) (As : List Value) (MI ML : ZM) (P : ZP) : Prop := CM l yX9_findMix cX9_findMix 3 none 6 139 0 0 D Z 110 Q z_rf As MI ML (zq Q P)
abbrev C_X9_share (l : Launch) (D : va_G) (Z : ZC) (Q : Nat → Nat) (As : List Value) (MI ML : ZM) (P : ZP) : Prop := CM l yX9_share cX9_share 3 (some .long) 7 161 0 0 D Z 110 Q z_rf As MI ML (zq Q P)
abbrev C_X9_live (l : Launch) (D : va_G) (Z : ZC) (Q : Nat → Nat) (As : List Value) (MI ML : ZM) (P : ZP) : Prop := CM l yX9_live cX9_live 3 (some .int) 7 161 0 0 D Z 110 Q z_rf As MI ML (zq Q P)
abbrev C_X9_standingOf (l : Launch) (D : va_G) (Z : ZC) (Q : Nat → Nat) (As : List Value) (MI ML : ZM) (P : ZP) : Prop := CM l yX9_standingOf cX9_standingOf 4 (some .int) 5 117 0 0 D Z 110 Q z_rf As MI ML (zq Q P)
abbrev C_X9_standing (l : Launch) (D : va_G) (Z : ZC) (Q : Nat → Nat) (As : List Value) (MI ML : ZM) (P : ZP) : Prop := CM l yX9_standing cX9_standing 2 (some .int) 6 140 0 0 D Z 110 Q z_rf As MI ML (zq Q P)
abbrev C_X9_placeOf (l : Launch) (D : va_G) (Z : ZC) (Q : Nat → Nat) (As : List Value) (MI ML : ZM) (P : ZP) : Prop := CM l yX9_placeOf cX9_placeOf 4 (some .int) 0 0 0 0 D Z 110 Q z_rf As MI ML (zq Q P)
abbrev C_X9_putBack (l : Launch) (D : va_G) (Z : ZC) (Q : Nat → Nat) (As : List Value) (MI ML : ZM) (P : ZP) : Prop := CM l yX9_putBack cX9_putBack 5 none 0 0 0 0 D Z 110 Q z_rf As MI ML (zq Q P)
abbrev C_X9_worth (l : Launch) (D : va_G) (Z : ZC) (Q : Nat → Nat) (As : List Value) (MI ML : ZM) (P : ZP) : Prop := CM l yX9_worth cX9_worth 6 (some .int) 6 140 0 0 D Z 110 Q z_rf As MI ML (zq Q P)
abbrev C_X9_idle (l : Launch) (D : va_G) (Z : ZC) (Q : Nat → Nat) (As : List Value) (MI ML : ZM) (P : ZP) : Prop := CM l yX9_idle cX9_idle 6 (some .int) 5 117 0 0 D Z 110 Q z_rf As MI ML (zq Q P)
abbrev C_X9_isRemedied (l : Launch) (D : va_G) (Z : ZC) (Q : Nat → Nat) (As : List Value) (MI ML : ZM) (P : ZP) : Prop := CM l yX9_isRemedied cX9_isRemedied 5 (some .boolean) 7 161 0 0 D Z 110 Q z_rf As MI ML (zq Q P)
abbrev C_X9_remedy (l : Launch) (D : va_G) (Z : ZC) (Q : Nat → Nat) (As : List Value) (MI ML : ZM) (P : ZP) : Prop := CM l yX9_remedy cX9_remedy 9 (some .int) 8 185 0 0 D Z 110 Q z_rf As MI ML (zq Q P)
abbrev C_X9_count (l : Launch) (D : va_G) (Z : ZC) (Q : Nat → Nat) (As : List Value) (MI ML : ZM) (P : ZP) : Prop := CM l yX9_count cX9_count 4 (some .int) 0 0 0 0 D Z 110 Q z_rf As MI ML (zq Q P)
abbrev C_J6_compare_7cf53 (l : Launch) (D : va_G) (Z : ZC) (Q : Nat → Nat) (As : List Value) (MI ML : ZM) (P : ZP) : Prop := CM l yJ6_compare_7cf53 cJ6_compare_7cf53 2 (some .int) 0 0 0 0 D Z 110 Q z_rf As MI ML (zq Q P)
abbrev C_J6_bitCount_0f7a4 (l : Launch) (D : va_G) (Z : ZC) (Q : Nat → Nat) (As : List Value) (MI ML : ZM) (P : ZP) : Prop := CM l yJ6_bitCount_0f7a4 cJ6_bitCount_0f7a4 1 (some .int) 0 0 0 0 D Z 110 Q z_rf As MI ML (zq Q P)
abbrev C_J9_max_7cf53 (l : Launch) (D : va_G) (Z : ZC) (Q : Nat → Nat) (As : List Value) (MI ML : ZM) (P : ZP) : Prop := CM l yJ9_max_7cf53 cJ9_max_7cf53 2 (some .int) 0 0 0 0 D Z 110 Q z_rf As MI ML (zq Q P)
abbrev C_J9_min_7cf53 (l : Launch) (D : va_G) (Z : ZC) (Q : Nat → Nat) (As : List Value) (MI ML : ZM) (P : ZP) : Prop := CM l yJ9_min_7cf53 cJ9_min_7cf53 2 (some .int) 0 0 0 0 D Z 110 Q z_rf As MI ML (zq Q P)
