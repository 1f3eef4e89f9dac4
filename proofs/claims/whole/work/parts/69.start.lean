theorem in_L {w : Cond} (i : Nat) (h : tables_1[i]? = some w) : w ∈ lw_tbl := List.mem_append_right _ (List.mem_of_getElem? h)
theorem rfL_out : ∀ (L : List (Nat × Nat × Nat)) (MR : ZR) (a j : Nat), (∀ q ∈ L, ¬ (q.1 = a ∧ q.2.1 = j)) → rfL L MR a j = MR a j := by
  intro L
  induction L with
  | nil => intro MR a j _; rfl
  | cons q L ih =>
    intro MR a j h
    show rfL L (z_upR MR q.1 q.2.1 (some q.2.2)) a j = MR a j
    rw [ih _ a j (fun x hx => h x (List.mem_cons_of_mem _ hx))]
    simp only [z_upR]
    rw [if_neg (fun z => h q List.mem_cons_self ⟨z.1.symm, z.2.symm⟩)]
theorem mr_in : ∀ a, a < 110 → ∀ j, j < 26 → rfL L_X9_init_90 (rfL L_X8_init_0 (fun _ _ => none)) a j = z_rf a j := by decide +kernel
theorem L8_b : ∀ q ∈ L_X8_init_0, q.1 < 110 ∧ q.2.1 < 26 := by decide +kernel
theorem L9_b : ∀ q ∈ L_X9_init_90, q.1 < 110 ∧ q.2.1 < 26 := by decide +kernel
theorem z_rl_l : z_rl.length ≤ 110 ∧ ∀ x ∈ z_rl, x.length ≤ 26 := by decide +kernel
theorem z_rf_out {a j : Nat} (h : ¬ (a < 110 ∧ j < 26)) : z_rf a j = none := by
  unfold z_rf
  by_cases ha : a < z_rl.length
  · have hj : ¬ j < 26 := fun q => h ⟨by have := z_rl_l.1; omega, q⟩
    rw [List.getD_eq_getElem?_getD, List.getD_eq_getElem?_getD, List.getElem?_eq_getElem ha]
    have := z_rl_l.2 _ (List.getElem_mem ha)
    show ((z_rl[a])[j]?).getD none = none
    rw [List.getElem?_eq_none (by omega)]; rfl
  · have e : z_rl.getD a [] = [] := by rw [List.getD_eq_getElem?_getD, List.getElem?_eq_none (by omega)]; rfl
    rw [e]; rfl
theorem mr_all : rfL L_X9_init_90 (rfL L_X8_init_0 (fun _ _ => none)) = z_rf := by
  funext a j
  by_cases h : a < 110 ∧ j < 26
  · exact mr_in a h.1 j h.2
  · rw [rfL_out _ _ a j (fun q hq z => h (by have := L9_b q hq; omega)), rfL_out _ _ a j (fun q hq z => h (by have := L8_b q hq; omega)), z_rf_out h]
def M00 : ZM := z_up (z_up (fun _ _ => 0) 0 9 12) 90 7 12
theorem M00_0 {a b : Nat} (h : ¬ (a = 0 ∧ b = 9)) (h2 : ¬ (a = 90 ∧ b = 7)) : M00 a b = 0 := by
  unfold M00
  simp only [z_up]
  rw [if_neg h2, if_neg h]
theorem M00_9 : M00 0 9 = 12 ∧ M00 90 7 = 12 := ⟨by unfold M00; rw [z_up_k (by decide), z_up_s], by unfold M00; rw [z_up_s]⟩
theorem M00_inv : Inv M00 := by
  have z : ∀ a b, ¬ (a = 0 ∧ b = 9) → ¬ (a = 90 ∧ b = 7) → M00 a b = 0 := fun a b => M00_0
  refine ⟨⟨by rw [z _ _ (by omega) (by omega)]; omega, by rw [z _ _ (by omega) (by omega)]; omega, by rw [M00_9.1]; omega, fun i hi => by rw [z 2 i (by omega) (by omega), z 3 i (by omega) (by omega), z 4 i (by omega) (by omega)]; omega, fun d hd => by rw [z _ _ (by omega) (by omega)]; omega, fun d k hd hk => ?_⟩, ⟨fun p hp => z _ _ (by omega) (by omega), fun a ha => ⟨z _ _ (by omega) (by omega), z _ _ (by omega) (by omega)⟩⟩, Or.inl (z _ _ (by omega) (by omega)), Or.inl (z _ _ (by omega) (by omega)), by rw [z 90 0 (by omega) (by omega), z 1 3 (by omega) (by omega)], by rw [z 90 4 (by omega) (by omega), z 0 8 (by omega) (by omega)], by rw [M00_9.1, M00_9.2], fun i => by rw [z 91 i (by omega) (by omega), z 92 i (by omega) (by omega), z 93 i (by omega) (by omega), z 2 i (by omega) (by omega), z 3 i (by omega) (by omega), z 4 i (by omega) (by omega)]; exact ⟨rfl, rfl, rfl⟩, fun d hd => by rw [z 94 d (by omega) (by omega), z _ 1 (by omega) (by omega)], fun d k hd hk => by rw [z 95 _ (by omega) (by omega), z _ k (by omega) (by omega)]⟩
  rw [z _ _ (by omega) (by omega)] at hk
  omega
/-- the array classes -/
theorem ar_prim {s : State} {A : Array Value} {ty : FieldType} (h : (Cond.arrayClass ty).before A s = true) : ∃ c, ArrOfT s c ty ∧ s.vm.findClass ("[" ++ ty.toString) = some c := by
  obtain ⟨c, k, comp, h1, h2, h3⟩ := Cond.arrayClass_spec h
  exact ⟨c, fun n z => ⟨(fun k h => by cases h), k, h2, comp, h3⟩, h1⟩
theorem ar_obj {s : State} {C : String} (h : va_AO C s) : ∃ c, ArrOfT s c (.object C) ∧ va_RA s c (.object C) := by
  obtain ⟨comp, c, k, h1, h2, h3, h4, h5⟩ := Cond.arrayOver_spec h
  exact ⟨c, fun n z => ⟨(fun k h => by cases h), k, h3, comp, h4⟩, k, comp, h3, h4, h1, h5⟩
theorem ar_arr {s : State} {ty : FieldType} (h : z_AOA ty s) : ∃ c, ArrOfT s c (.array ty) ∧ s.vm.findClass ("[" ++ (FieldType.array ty).toString) = some c := by
  obtain ⟨comp, c, k, h1, h2, h3, h4, h5⟩ := Jvm.Stand.arrayOver_specB h
  exact ⟨c, fun n z => ⟨(fun k h => by cases h), k, h3, comp, h4⟩, h5⟩
set_option maxRecDepth 100000 in
set_option maxHeartbeats 4000000 in
theorem law_K {s : State} {A : Array Value} (hts : ∀ w ∈ lw_tbl, w.before A s = true) : (∃ (D : va_G) (Z : ZC), z_K D Z s) ∧ zN s := by
  have ht : ∀ w ∈ wsL, w.before A s = true := fun w h => hts w (wsL_tbl w h)
  obtain ⟨c0, i0, hK0⟩ := u_known (C := RX0) (T := TX0) (N := 4) (n := 4) ht us0 (hts _ (in_L 22 (by decide +kernel)))
  obtain ⟨c1, i1, hK1⟩ := u_known (C := RX1) (T := TX1) (N := 3) (n := 3) ht us1 (hts _ (in_L 109 (by decide +kernel)))
  obtain ⟨c2, i2, hK2⟩ := u_known (C := RX2) (T := TX2) (N := 2) (n := 2) ht us2 (hts _ (in_L 48 (by decide +kernel)))
  obtain ⟨c3, i3, hK3⟩ := u_known (C := RX3) (T := TX3) (N := 4) (n := 4) ht us3 (hts _ (in_L 65 (by decide +kernel)))
  obtain ⟨c4, i4, hK4⟩ := u_known (C := RX4) (T := TX4) (N := 6) (n := 6) ht us4 (hts _ (in_L 119 (by decide +kernel)))
  obtain ⟨c5, i5, hK5⟩ := u_known (C := RX5) (T := TX5) (N := 6) (n := 6) ht us5 (hts _ (in_L 145 (by decide +kernel)))
  obtain ⟨c6, i6, hK6⟩ := u_known (C := RX6) (T := TX6) (N := 2) (n := 2) ht us6 (hts _ (in_L 185 (by decide +kernel)))
  obtain ⟨c7, i7, hK7⟩ := u_known (C := RX7) (T := TX7) (N := 4) (n := 4) ht us7 (hts _ (in_L 71 (by decide +kernel)))
  obtain ⟨c8, i8, hK8⟩ := u_known (C := RX8) (T := TX8) (N := 12) (n := 12) ht us8 (hts _ (in_L 14 (by decide +kernel)))
  obtain ⟨c9, i9, hK9⟩ := u_known (C := RX9) (T := TX9) (N := 26) (n := 26) ht us9 (hts _ (in_L 517 (by decide +kernel)))
  obtain ⟨dC, dI, hKc⟩ : ∃ (dC : Nat → ClassId) (dI : Nat → Nat → Nat), ∀ (k : Nat) (q : vw_C), vwCl[k]? = some q → u_Kn s q.1 q.2.1 q.2.2 (dC k) (dI k) := by
    refine ⟨fun k => match k with | 0 => c0 | 1 => c1 | 2 => c2 | 3 => c3 | 4 => c4 | 5 => c5 | 6 => c6 | 7 => c7 | 8 => c8 | _ => c9, fun k => match k with | 0 => i0 | 1 => i1 | 2 => i2 | 3 => i3 | 4 => i4 | 5 => i5 | 6 => i6 | 7 => i7 | 8 => i8 | _ => i9, ?_⟩
    intro k q hq
    match k, hq with
    | 0, hq => cases hq; exact hK0
    | 1, hq => cases hq; exact hK1
    | 2, hq => cases hq; exact hK2
    | 3, hq => cases hq; exact hK3
    | 4, hq => cases hq; exact hK4
    | 5, hq => cases hq; exact hK5
    | 6, hq => cases hq; exact hK6
    | 7, hq => cases hq; exact hK7
    | 8, hq => cases hq; exact hK8
    | 9, hq => cases hq; exact hK9
    | k + 10, hq => exact absurd hq (by rw [List.getElem?_eq_none (by show 10 ≤ k + 10; omega)]; exact fun z => by cases z)
  have aoD : va_AO "DeckBalance$Deck" s := va_AO.of (hts _ (in_L 47 (by decide +kernel)))
  have aoP : va_AO "DeckBalance$Plan" s := va_AO.of (hts _ (in_L 115 (by decide +kernel)))
  have aoT : z_AOA .int s := hts (Cond.arrayOver (.array .int)) (in_L 117 (by decide +kernel))
  obtain ⟨zi, z1, z2⟩ := ar_prim (hts (Cond.arrayClass .int) (in_L 45 (by decide +kernel)))
  obtain ⟨zl, z3, z4⟩ := ar_prim (hts (Cond.arrayClass .long) (in_L 601 (by decide +kernel)))
  obtain ⟨zd, z5, z6⟩ := ar_obj aoD
  obtain ⟨zp, z7, z8⟩ := ar_obj aoP
  obtain ⟨zt, z9, z10⟩ := ar_arr aoT
  refine ⟨⟨(dC, dI), (zi, zl, zd, zp, zt), ⟨hKc, fun k q hk => ?_⟩, aoD, aoP, aoT⟩, fun q hq => ?_⟩
  · match k, hk with
    | 0, hk => cases hk; exact ⟨z1, z2⟩
    | 1, hk => cases hk; exact ⟨z3, z4⟩
    | 2, hk => cases hk; exact ⟨z5, z6⟩
    | 3, hk => cases hk; exact ⟨z7, z8⟩
    | 4, hk => cases hk; exact ⟨z9, z10⟩
    | k + 5, hk => exact absurd hk (by rw [List.getElem?_eq_none (by show 5 ≤ k + 5; omega)]; exact fun z => by cases z)
  · refine va_Nw.of rfl (A := A) (hts _ ?_)
    simp only [nestL, List.mem_cons, List.not_mem_nil, or_false] at hq
    rcases hq with rfl | rfl | rfl | rfl | rfl | rfl | rfl
    · exact in_L 23 (by decide +kernel)
    · exact in_L 49 (by decide +kernel)
    · exact in_L 72 (by decide +kernel)
    · exact in_L 120 (by decide +kernel)
    · exact in_L 146 (by decide +kernel)
    · exact in_L 186 (by decide +kernel)
    · exact in_L 200 (by decide +kernel)
set_option maxRecDepth 100000 in
set_option maxHeartbeats 4000000 in
theorem law_begin {p : Program} {l : Launch} {e : Env} {s : State} {m : MethodId} {below : List Frame} {meth : Method} {c : Code} {D : va_G} {Z : ZC} {b : Nat} {L : Nat} {xs : Nat → Int32} (K : VK (LX p l e s m below meth c D Z b) cL_law RL 4 ret 11 426 600000 7302250) (hN : zN s) (hX : va_X b L xs s s.heap) (hbl : b < s.heap.size) (hL : L ≤ 2048) (Q : Nat → Nat) (MR0 : ZR) (hMR : MR0 = fun _ _ => none) (Z0 : ZM) (hZ0 : Z0 = fun _ _ => 0) : V (LX p l e s m below meth c D Z b) (0, 0) 0 Q MR0 Z0 Z0 0 [(0, .ref b)] [] := by
  have S0 : zst 0 MR0 Z0 Z0 := by rw [hMR, hZ0]; exact ⟨fun a j r h => (by cases h), fun a j _ => ⟨rfl, rfl, rfl⟩⟩
  refine v_new K fn_L_7 S0 rfl rfl (Nat.le_of_ble_eq_true rfl) (Nat.le_of_ble_eq_true rfl) (fun Q8 => [(0, .ref b)]) (fun Q8 => []) (fun Q9 h9 => ⟨rfl, rfl⟩) dL_law_0 (fun Q1 a1 => ?_)
  show V (LX p l e s m below meth c D Z b) (1, 12) 1 Q1 MR0 Z0 Z0 3 [(0, .ref b)] [.ref (Q1 0)]
  have S1 : zst 1 MR0 Z0 Z0 := S0.le (by decide)
  refine v_dup K dL_law_3 rfl ?_
  refine v_callI K hN (c_X8_init_0 S1) rfl fc_L_9 wm_X8_init rfl rfl ⟨Nat.le_of_ble_eq_true rfl, Nat.le_of_ble_eq_true rfl, Nat.le_of_ble_eq_true rfl, Nat.le_of_ble_eq_true rfl⟩ (Nat.le_of_ble_eq_true rfl) dL_law_4 (fun v9 n9 Q2 MR9 MI9 ML9 h9 => ?_)
  obtain ⟨e1, e2, a2, e3, e4, e5, S2⟩ := h9
  subst e1; subst e2
  have e3 := e3.symm
  subst e3
  have e4 := e4.symm
  subst e4
  have e5 := e5.symm
  subst e5
  rw [← a2 0 (by decide)]
  show V (LX p l e s m below meth c D Z b) (90, 2751) 90 Q2 (rfL L_X8_init_0 MR0) (z_up Z0 0 9 12) Z0 7 [(0, .ref b)] [.ref (Q2 0)]
  refine v_astore_n K [(1, .ref (Q2 0)), (0, .ref b)] dL_law_7 rfl (by decide) rfl ?_
  refine v_new K fn_L_10 S2 rfl rfl (Nat.le_of_ble_eq_true rfl) (Nat.le_of_ble_eq_true rfl) (fun Q8 => [(1, .ref (Q8 0)), (0, .ref b)]) (fun Q8 => []) (fun Q9 h9 => ⟨by simp only [h9 0 (by decide)], rfl⟩) dL_law_8 (fun Q3 a3 => ?_)
  show V (LX p l e s m below meth c D Z b) (91, 2777) 91 Q3 (rfL L_X8_init_0 MR0) (z_up Z0 0 9 12) Z0 11 [(1, .ref (Q3 0)), (0, .ref b)] [.ref (Q3 90)]
  have S3 := S2.le (show 90 ≤ 91 by decide)
  refine v_dup K dL_law_11 rfl ?_
  refine v_callI K hN (c_X9_init_90 S3) rfl fc_L_12 wm_X9_init rfl rfl ⟨Nat.le_of_ble_eq_true rfl, Nat.le_of_ble_eq_true rfl, Nat.le_of_ble_eq_true rfl, Nat.le_of_ble_eq_true rfl⟩ (Nat.le_of_ble_eq_true rfl) dL_law_12 (fun v9 n9 Q4 MR9 MI9 ML9 h9 => ?_)
  obtain ⟨e1, e2, a4, e3, e4, e5, S4⟩ := h9
  subst e1; subst e2
  have e3 := e3.symm
  subst e3
  have e4 := e4.symm
  subst e4
  have e5 := e5.symm
  subst e5
  rw [← a4 0 (by decide), ← a4 90 (by decide)]
  show V (LX p l e s m below meth c D Z b) (110, 2984) 110 Q4 (rfL L_X9_init_90 (rfL L_X8_init_0 MR0)) (z_up (z_up Z0 0 9 12) 90 7 12) Z0 15 [(1, .ref (Q4 0)), (0, .ref b)] [.ref (Q4 90)]
  rw [hMR, mr_all, hZ0]
  show V (LX p l e s m below meth c D Z b) (110, 2984) 110 Q4 z_rf M00 (fun _ _ => 0) 15 [(1, .ref (Q4 0)), (0, .ref b)] [.ref (Q4 90)]
  refine v_astore_n K [(2, .ref (Q4 90)), (1, .ref (Q4 0)), (0, .ref b)] dL_law_15 rfl (by decide) rfl ?_
  refine v_iconst K dL_law_16 ?_
  refine v_istore_n K (fun q9 => [(3, .int (iI q9)), (2, .ref (Q4 90)), (1, .ref (Q4 0)), (0, .ref b)]) dL_law_17 rfl (by decide) (fun _ => rfl) (fun x hx => ?_)
  subst hx
  exact law_loop K hX hbl hL (L + 4) 0 M00 (fun _ _ => 0) M00_inv (by omega) (by omega)
/-- THE LAW, from its entry -/
theorem whole_start {p : Program} {e : Env} {s : State} {m : MethodId} {below : List Frame} {meth : Method} {c : Code} (l : Launch) {b L : Nat} {xs : Nat → Int32} (hL : L ≤ 2048) (C0 : lw_At p s m meth c b L xs) : W p l e room_1 s m #[Value.ref b] below meth c s.heap [] 0 0 (lw_Z below #[Value.ref b] s) (entryFrame m ([Value.ref b] : List Value).toArray 4) := by
  obtain ⟨hx, hb, hr, hml, hown, hts, hX, hbl, hlocks, hgv⟩ := C0
  obtain ⟨⟨D, Z, hK⟩, hN⟩ := law_K hts
  have K : VK (LX p l e s m below meth c D Z b) cL_law RL 4 ret 11 426 600000 7302250 := ⟨hx, hb, hml, rfl, hown, fun w h => hts w (wsL_tbl w h), hK, hr, hlocks, fun q h => h, rfl⟩
  have B := law_begin K hN hX hbl hL (fun _ => 0) (fun _ _ => none) rfl (fun _ _ => 0) rfl
  have hl := lv_entry ([.ref b]) (n := 4) (Nat.le_of_ble_eq_true rfl)
  rw [lg_entry_eq]
  generalize (lg_sl ([.ref b]) ++ List.replicate (4 - (lg_sl ([.ref b])).length) Slot.unset).toArray = ls at hl ⊢
  exact B s.heap [] ls hl (fun k q h => by simp [z_W] at h) ⟨fun i j p q h => by simp [z_W] at h, fun k q h => by simp [z_W] at h⟩ va_S.rf
