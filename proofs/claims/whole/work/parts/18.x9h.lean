/-- the first place below n where f is c; -1: none -/
def fpl (f : Nat → Int) (c : Int) : Nat → Int
  | 0 => -1
  | n + 1 => if fpl f c n = -1 then (if f n = c then (n : Int) else -1) else fpl f c n
theorem fpl_b (f : Nat → Int) (c : Int) : ∀ n, fpl f c n = -1 ∨ (0 ≤ fpl f c n ∧ fpl f c n < n ∧ f (fpl f c n).toNat = c) := by
  intro n
  induction n with
  | zero => exact Or.inl rfl
  | succ n ih =>
    simp only [fpl]
    split
    · split
      · right; refine ⟨by omega, by omega, ?_⟩; simpa
      · exact Or.inl rfl
    · omega
theorem fpl_up {f : Nat → Int} {c : Int} {k : Nat} {v : Int} (h : fpl f c k = v) (hv : v ≠ -1) : ∀ n, k ≤ n → fpl f c n = v := by
  intro n
  induction n with
  | zero => intro hk; obtain rfl : k = 0 := (by omega); exact h
  | succ n ih =>
    intro hk
    by_cases e : k = n + 1
    · subst e; exact h
    · simp only [fpl]; rw [ih (by omega), if_neg hv]
theorem fpl_congr {f g : Nat → Int} {c : Int} : ∀ n, (∀ i, i < n → f i = g i) → fpl f c n = fpl g c n := by
  intro n
  induction n with
  | zero => intro _; rfl
  | succ n ih => intro h; simp only [fpl]; rw [ih (fun i hi => h i (by omega)), h n (by omega)]
set_option maxRecDepth 100000 in
set_option maxHeartbeats 4000000 in
theorem l_X9_placeOf {X : VX} {Q : Nat → Nat} {MI ML : ZM} (K : VK X cX9_placeOf RX9 4 (some .int) 0 0 0 0) (hM : mOk MI) (d : Nat) (hd : d < 5) (c : Int) (hc : rg c) (E : VE X 0 0 110 Q (zq Q (zI fun r M L => M = MI ∧ L = ML ∧ r = fpl (fun k => MI 95 (10 * d + k)) c (MI 94 d).toNat))) : ∀ (n k : Nat) (y : Int), y = k → fpl (fun k => MI 95 (10 * d + k)) c k = -1 → (k : Int) ≤ MI 94 d → MI 94 d < k + n → V X (0, 0) 110 Q z_rf MI ML 2 [(3, .int (iI y)), (0, .ref (Q 90)), (1, .int (iI (d : Int))), (2, .int (iI c))] [] := by
  have us := hM.2.2.2.2.1 d hd
  have uk := hM.2.2.2.2.2
  have u0 := hM.1
  intro n
  induction n with
  | zero => intro k y hy hf hk hn; exact absurd hn (by omega)
  | succ n ih =>
    intro k y hy hf hk hn
    refine v_iload_n K 0 dX9_placeOf_2 rfl rfl ?_
    refine v_aload_n K 1 dX9_placeOf_3 rfl rfl ?_
    refine v_getr K ff_X9_19 (by decide) rfl rfl rfl dX9_placeOf_4 ?_
    refine v_iload_n K 2 dX9_placeOf_7 rfl rfl ?_
    refine v_iald K (d) (by decide) rfl rfl (by show _ < 5; omega) dX9_placeOf_8 ?_
    refine v_icmp_ge K 35 ⟨by omega, by omega⟩ ⟨by omega, by omega⟩ dX9_placeOf_9 (by decide) (fun h9 => ?_) (fun h9 => ?_)
    · obtain rfl : k = (MI 94 d).toNat := by omega
      refine v_iconst K dX9_placeOf_35 ?_
      exact v_ri K E dX9_placeOf_36 ⟨rfl, rfl, hf.symm⟩
    · have q := uk d k hd (by omega)
      refine v_aload_n K 1 dX9_placeOf_12 rfl rfl ?_
      refine v_getr K ff_X9_22 (by decide) rfl rfl rfl dX9_placeOf_13 ?_
      refine v_bipush K dX9_placeOf_16 (by decide) ?_
      refine v_iload_n K 2 dX9_placeOf_18 rfl rfl ?_
      refine v_imul K dX9_placeOf_19 ?_
      refine v_iload_n K 0 dX9_placeOf_20 rfl rfl ?_
      refine v_iadd K dX9_placeOf_21 ?_
      refine v_iald K (10 * d + k) (by decide) rfl (by omega) (by show _ < 50; omega) dX9_placeOf_22 ?_
      refine v_iload_n K 3 dX9_placeOf_23 rfl rfl ?_
      refine v_icmp_ne K 29 ⟨by omega, by omega⟩ hc dX9_placeOf_24 (by decide) (fun h24 => ?_) (fun h24 => ?_)
      · refine v_iinc K 0 (fun q9 => [(3, .int (iI q9)), (0, .ref (Q 90)), (1, .int (iI (d : Int))), (2, .int (iI c))]) dX9_placeOf_29 rfl (by decide) (fun _ => rfl) (fun w hw => ?_)
        refine v_goto K 2 dX9_placeOf_32 (by decide) ?_
        exact ih (k + 1) w (by omega) (by simp only [fpl]; rw [if_pos hf, if_neg h24]) (by omega) (by omega)
      · refine v_iload_n K 0 dX9_placeOf_27 rfl rfl ?_
        exact v_ri K E dX9_placeOf_28 ⟨rfl, rfl, by rw [hy]; exact (fpl_up (k := k + 1) (by simp only [fpl]; rw [if_pos hf, if_pos h24]) (by omega) _ (by omega)).symm⟩
set_option maxRecDepth 100000 in
set_option maxHeartbeats 4000000 in
theorem c_X9_placeOf {l : Launch} {D : va_G} {Z : ZC} {Q : Nat → Nat} {MI ML : ZM} (hM : mOk MI) (d : Nat) (hd : d < 5) (c : Int) (hc : rg c) (d9 : Int) (hd9 : d9 = d) : C_X9_placeOf l D Z Q [.ref (Q 90), .int (iI d9), .int (iI c)] MI ML (zI fun r M L => M = MI ∧ L = ML ∧ r = fpl (fun k => MI 95 (10 * d + k)) c (MI 94 d).toNat) := by
  subst hd9
  refine CM.of (by decide +kernel) (Nat.le_of_ble_eq_true rfl) ?_
  intro X K E _ _ _ _
  show V X (0, 0) 110 Q z_rf MI ML 0 [(0, .ref (Q 90)), (1, .int (iI (d : Int))), (2, .int (iI c))] []
  refine v_iconst K dX9_placeOf_0 ?_
  refine v_istore_n K (fun q9 => [(3, .int (iI q9)), (0, .ref (Q 90)), (1, .int (iI (d : Int))), (2, .int (iI c))]) dX9_placeOf_1 rfl (by decide) (fun _ => rfl) (fun y hy => ?_)
  have us := hM.2.2.2.2.1 d hd
  exact l_X9_placeOf K hM d hd c hc E 11 0 y hy rfl (by omega) (by omega)
/-- the row of deck d with its places from p on moved up, done down to place k -/
def pbK (M : ZM) (d n k : Nat) : ZM := fun a b => if a = 95 ∧ 10 * d + k < b ∧ b ≤ 10 * d + n then M 95 (b - 1) else M a b
def pbM (M : ZM) (d p : Nat) (c : Int) : ZM := z_up (z_up (pbK M d (M 94 d).toNat p) 95 (10 * d + p) c) 94 d (M 94 d + 1)
theorem pbK_n (M : ZM) (d n : Nat) : pbK M d n n = M := by
  funext a b
  simp only [pbK]
  rw [if_neg (by omega)]
theorem pbK_s {M : ZM} {d n k : Nat} (hk : k + 1 ≤ n) : z_up (pbK M d n (k + 1)) 95 (10 * d + (k + 1)) (M 95 (10 * d + k)) = pbK M d n k := by
  funext a b
  simp only [z_up, pbK]
  by_cases h1 : a = 95 ∧ b = 10 * d + (k + 1)
  · obtain ⟨rfl, rfl⟩ := h1
    rw [if_pos ⟨rfl, rfl⟩, if_pos (by omega)]; rfl
  · rw [if_neg h1]
    by_cases h2 : a = 95 ∧ 10 * d + (k + 1) < b ∧ b ≤ 10 * d + n
    · rw [if_pos h2, if_pos (by omega)]
    · rw [if_neg h2, if_neg (by omega)]
set_option maxRecDepth 100000 in
set_option maxHeartbeats 4000000 in
theorem l_X9_putBack {X : VX} {Q : Nat → Nat} {MI ML : ZM} (K : VK X cX9_putBack RX9 5 none 0 0 0 0) (d p : Nat) (hd : d < 5) (hp : (p : Int) ≤ MI 94 d) (h1 : MI 94 d < 10) (c : Int) (E : VE X 0 0 110 Q (zq Q (zV fun M L => L = ML ∧ M = pbM MI d p c))) : ∀ (n k : Nat) (y : Int), y = k → p ≤ k → k ≤ (MI 94 d).toNat → k < p + n → V X (0, 0) 110 Q z_rf (pbK MI d (MI 94 d).toNat k) ML 8 [(4, .int (iI y)), (0, .ref (Q 90)), (1, .int (iI (d : Int))), (2, .int (iI (p : Int))), (3, .int (iI c))] [] := by
  intro n
  induction n with
  | zero => intro k y hy hpk hk hn; exact absurd hn (by omega)
  | succ n ih =>
    intro k y hy hpk hk hn
    refine v_iload K 0 dX9_putBack_8 rfl ?_
    refine v_iload_n K 3 dX9_putBack_10 rfl rfl ?_
    refine v_icmp_le K 46 ⟨by omega, by omega⟩ ⟨by omega, by omega⟩ dX9_putBack_11 (by decide) (fun h11 => ?_) (fun h11 => ?_)
    · obtain rfl : k = p := by omega
      refine v_aload_n K 1 dX9_putBack_46 rfl rfl ?_
      refine v_getr K ff_X9_22 (by decide) rfl rfl rfl dX9_putBack_47 ?_
      refine v_bipush K dX9_putBack_50 (by decide) ?_
      refine v_iload_n K 2 dX9_putBack_52 rfl rfl ?_
      refine v_imul K dX9_putBack_53 ?_
      refine v_iload_n K 3 dX9_putBack_54 rfl rfl ?_
      refine v_iadd K dX9_putBack_55 ?_
      refine v_iload_n K 4 dX9_putBack_56 rfl rfl ?_
      refine v_iast K (10 * d + k) (by decide) rfl (by omega) (by show _ < 50; omega) dX9_putBack_57 ?_
      refine v_aload_n K 1 dX9_putBack_58 rfl rfl ?_
      refine v_getr K ff_X9_19 (by decide) rfl rfl rfl dX9_putBack_59 ?_
      refine v_iload_n K 2 dX9_putBack_62 rfl rfl ?_
      refine v_dup2_11 K dX9_putBack_63 rfl rfl ?_
      refine v_iald K (d) (by decide) rfl rfl (by show _ < 5; omega) dX9_putBack_64 ?_
      refine v_eqi (MI 94 d) (by simp [z_up, pbK]) ?_
      refine v_iconst K dX9_putBack_65 ?_
      refine v_iadd K dX9_putBack_66 ?_
      refine v_iast K (d) (by decide) rfl rfl (by show _ < 5; omega) dX9_putBack_67 ?_
      exact v_rv K E dX9_putBack_68 ⟨rfl, rfl⟩
    · obtain ⟨k, rfl⟩ : ∃ j, k = j + 1 := ⟨k - 1, by omega⟩
      refine v_aload_n K 1 dX9_putBack_14 rfl rfl ?_
      refine v_getr K ff_X9_22 (by decide) rfl rfl rfl dX9_putBack_15 ?_
      refine v_bipush K dX9_putBack_18 (by decide) ?_
      refine v_iload_n K 2 dX9_putBack_20 rfl rfl ?_
      refine v_imul K dX9_putBack_21 ?_
      refine v_iload K 0 dX9_putBack_22 rfl ?_
      refine v_iadd K dX9_putBack_24 ?_
      refine v_aload_n K 1 dX9_putBack_25 rfl rfl ?_
      refine v_getr K ff_X9_22 (by decide) rfl rfl rfl dX9_putBack_26 ?_
      refine v_bipush K dX9_putBack_29 (by decide) ?_
      refine v_iload_n K 2 dX9_putBack_31 rfl rfl ?_
      refine v_imul K dX9_putBack_32 ?_
      refine v_iload K 0 dX9_putBack_33 rfl ?_
      refine v_iadd K dX9_putBack_35 ?_
      refine v_iconst K dX9_putBack_36 ?_
      refine v_isub K dX9_putBack_37 ?_
      refine v_iald K (10 * d + k) (by decide) rfl (by omega) (by show _ < 50; omega) dX9_putBack_38 ?_
      refine v_eqi (MI 95 (10 * d + k)) (by simp only [pbK]; rw [if_neg (by omega)]) ?_
      refine v_iast K (10 * d + (k + 1)) (by decide) rfl (by omega) (by show _ < 50; omega) dX9_putBack_39 ?_
      refine v_iinc K 0 (fun q9 => [(4, .int (iI q9)), (0, .ref (Q 90)), (1, .int (iI (d : Int))), (2, .int (iI (p : Int))), (3, .int (iI c))]) dX9_putBack_40 rfl (by decide) (fun _ => rfl) (fun w hw => ?_)
      refine v_goto K 8 dX9_putBack_43 (by decide) ?_
      refine v_eqM (pbK_s hk) ?_
      exact ih k w (by omega) (by omega) (by omega) (by omega)
set_option maxRecDepth 100000 in
set_option maxHeartbeats 4000000 in
theorem c_X9_putBack {l : Launch} {D : va_G} {Z : ZC} {Q : Nat → Nat} {MI ML : ZM} (d p : Nat) (hd : d < 5) (hp : (p : Int) ≤ MI 94 d) (h0 : 0 ≤ MI 94 d) (h1 : MI 94 d < 10) (c : Int) (d9 p9 : Int) (hd9 : d9 = d) (hp9 : p9 = p) : C_X9_putBack l D Z Q [.ref (Q 90), .int (iI d9), .int (iI p9), .int (iI c)] MI ML (zV fun M L => L = ML ∧ M = pbM MI d p c) := by
  subst hd9
  subst hp9
  refine CM.of (by decide +kernel) (Nat.le_of_ble_eq_true rfl) ?_
  intro X K E _ _ _ _
  show V X (0, 0) 110 Q z_rf MI ML 0 [(0, .ref (Q 90)), (1, .int (iI (d : Int))), (2, .int (iI (p : Int))), (3, .int (iI c))] []
  refine v_aload_n K 0 dX9_putBack_0 rfl rfl ?_
  refine v_getr K ff_X9_19 (by decide) rfl rfl rfl dX9_putBack_1 ?_
  refine v_iload_n K 1 dX9_putBack_4 rfl rfl ?_
  refine v_iald K (d) (by decide) rfl rfl (by show _ < 5; omega) dX9_putBack_5 ?_
  refine v_istore K (fun q9 => [(4, .int (iI q9)), (0, .ref (Q 90)), (1, .int (iI (d : Int))), (2, .int (iI (p : Int))), (3, .int (iI c))]) dX9_putBack_6 (by decide) (fun _ => rfl) (fun y hy => ?_)
  have q := l_X9_putBack K d p hd hp h1 c E 11 (MI 94 d).toNat y (by omega) (by omega) (Nat.le_refl _) (by omega)
  rw [pbK_n] at q
  exact q
theorem dropK_ok {MI : ZM} (hM : mOk MI) {d p : Nat} (hd : d < 5) (hp : (p : Int) < MI 94 d) : mOk (dropK MI d p ((MI 94 d).toNat - 1)) := by
  obtain ⟨h1, h2, h3, h4, h5, h6⟩ := hM
  refine ⟨by simpa [dropK] using h1, by simpa [dropK] using h2, by simpa [dropK] using h3, fun i hi => by simpa [dropK] using h4 i hi, fun e he => ?_, fun e k he hk => ?_⟩
  · have a1 := h5 e he
    simp only [dropK]
    by_cases q : e = d
    · subst q; rw [if_pos (by simp)]; omega
    · rw [if_neg (by omega), if_neg (by omega)]; exact a1
  · have a1 := h5 e he
    have a2 := h5 d hd
    have e90 : dropK MI d p ((MI 94 d).toNat - 1) 90 0 = MI 90 0 := by simp [dropK]
    rw [e90]
    by_cases q : e = d
    · subst q
      have e94 : dropK MI e p ((MI 94 e).toNat - 1) 94 e = MI 94 e - 1 := by simp [dropK]
      rw [e94] at hk
      simp only [dropK]
      rw [if_neg (by omega)]
      split
      · exact h6 e (k + 1) he (by omega)
      · exact h6 e k he (by omega)
    · have e94 : dropK MI d p ((MI 94 d).toNat - 1) 94 e = MI 94 e := by simp only [dropK]; rw [if_neg (by omega), if_neg (by omega)]
      rw [e94] at hk
      simp only [dropK]
      rw [if_neg (by omega), if_neg (by omega)]
      exact h6 e k he hk
/-- a place goes and comes back: all is as it was -/
theorem drop_back {MI M : ZM} {d p : Nat} {c : Int} (S : Nat → Nat → Prop) (hS : ∀ b, ¬ S 94 b ∧ ¬ S 95 b) (hp : (p : Int) < MI 94 d) (hc : MI 95 (10 * d + p) = c) (h : ∀ a b, ¬ S a b → M a b = dropK MI d p ((MI 94 d).toNat - 1) a b) : ∀ a b, ¬ S a b → pbM M d p c a b = MI a b := by
  intro a b hab
  have e94 : M 94 d = MI 94 d - 1 := by rw [h 94 d (hS d).1]; simp [dropK]
  have e95 : ∀ j, M 95 j = dropK MI d p ((MI 94 d).toNat - 1) 95 j := fun j => h 95 j (hS j).2
  simp only [pbM, z_up]
  by_cases q1 : a = 94 ∧ b = d
  · obtain ⟨rfl, rfl⟩ := q1
    rw [if_pos ⟨rfl, rfl⟩, e94]; omega
  · rw [if_neg q1]
    by_cases q2 : a = 95 ∧ b = 10 * d + p
    · obtain ⟨rfl, rfl⟩ := q2
      rw [if_pos ⟨rfl, rfl⟩, hc]
    · rw [if_neg q2]
      simp only [pbK]
      rw [e94]
      by_cases q3 : a = 95 ∧ 10 * d + p < b ∧ b ≤ 10 * d + (MI 94 d - 1).toNat
      · obtain ⟨rfl, q4, q5⟩ := q3
        rw [if_pos (by omega), e95]
        show (if (95 : Nat) = 94 ∧ b - 1 = d then _ else if (95 : Nat) = 95 ∧ 10 * d + p ≤ b - 1 ∧ b - 1 < 10 * d + ((MI 94 d).toNat - 1) then MI 95 (b - 1 + 1) else MI 95 (b - 1)) = MI 95 b
        rw [if_neg (by omega), if_pos (by omega), show b - 1 + 1 = b by omega]
      · rw [if_neg q3, h a b hab]
        simp only [dropK]
        rw [if_neg q1, if_neg (by omega)]
def drD (MI : ZM) (d p : Nat) : ZM := dropK MI d p ((MI 94 d).toNat - 1)
/-- STANDING by a memory -/
def mSt (MI : ZM) (d : Nat) : Int := sumK (fun b => mTab MI d b) (MI 90 4).toNat
theorem drD_nd (MI : ZM) (d p : Nat) : drD MI d p 90 4 = MI 90 4 := by simp [drD, dropK]
set_option maxRecDepth 100000 in
set_option maxHeartbeats 4000000 in
theorem c_X9_worth {l : Launch} {D : va_G} {Z : ZC} {Q : Nat → Nat} {MI ML : ZM} (hM : mOk MI) (d c : Int) (hd : rg d) (hc : rg c) : C_X9_worth l D Z Q [.ref (Q 90), .int (iI d), .int (iI c)] MI ML (zI fun r M L => L = ML ∧ scM MI M ∧ ((¬ ((0 ≤ d ∧ d < MI 90 4 ∧ 0 ≤ c ∧ c < MI 90 0) ∧ fpl (fun k => MI 95 (10 * d.toNat + k)) c (MI 94 d.toNat).toNat ≠ -1) ∧ r = -2147483648) ∨ (((0 ≤ d ∧ d < MI 90 4 ∧ 0 ≤ c ∧ c < MI 90 0) ∧ fpl (fun k => MI 95 (10 * d.toNat + k)) c (MI 94 d.toNat).toNat ≠ -1) ∧ r = mSt MI d.toNat - mSt (drD MI d.toNat (fpl (fun k => MI 95 (10 * d.toNat + k)) c (MI 94 d.toNat).toNat).toNat) d.toNat))) := by
  refine CM.of (by decide +kernel) (Nat.le_of_ble_eq_true rfl) ?_
  intro X K E _ _ _ _
  show V X (0, 0) 110 Q z_rf MI ML 0 [(0, .ref (Q 90)), (1, .int (iI d)), (2, .int (iI c))] []
  have u4 := hM.2.1
  have b0 := fpl_b (fun k => MI 95 (10 * d.toNat + k)) c (MI 94 d.toNat).toNat
  refine v_aload_n K 0 dX9_worth_0 rfl rfl ?_
  refine v_iload_n K 1 dX9_worth_1 rfl rfl ?_
  refine v_cVi K (c_X9_isDeck hM _ hd) rfl fc_X9_86 wm_X9_isDeck ws_X9_isDeck (by decide) 9 rfl (by decide) rfl rfl (by decide) (Nat.le_of_ble_eq_true rfl) dX9_worth_2 (fun r2 M2 L2 h2 => ?_)
  obtain ⟨hm2, hl2, hr2⟩ := h2
  subst M2 L2
  refine v_if_eq K 25 ⟨by omega, by omega⟩ dX9_worth_5 (by decide) (fun h5 => ?_) (fun h5 => ?_)
  · refine v_iconst K dX9_worth_25 ?_
    refine v_istore_n K (fun q9 => [(3, .int (iI q9)), (0, .ref (Q 90)), (1, .int (iI d)), (2, .int (iI c))]) dX9_worth_26 rfl (by decide) (fun _ => rfl) (fun y hy => ?_)
    refine v_iload_n K 0 dX9_worth_27 rfl rfl ?_
    refine v_iconst K dX9_worth_28 ?_
    refine v_icmp_ne K 35 ⟨by omega, by omega⟩ ⟨by omega, by omega⟩ dX9_worth_29 (by decide) (fun h29 => ?_) (fun h29 => ?_)
    · exact absurd h29 (by omega)
    · refine v_ldc K (-2147483648) ck_X9_121 rfl dX9_worth_32 ?_
      exact v_ri K E dX9_worth_34 (by first | exact ⟨rfl, fun _ _ _ _ => rfl, Or.inl ⟨by omega, rfl⟩⟩ | exact ⟨rfl, fun _ _ _ _ => rfl, Or.inl ⟨fun q => q.2 (by omega), rfl⟩⟩)
  · refine v_aload_n K 0 dX9_worth_8 rfl rfl ?_
    refine v_iload_n K 2 dX9_worth_9 rfl rfl ?_
    refine v_cVi K (c_X9_isCard hM _ hc) rfl fc_X9_82 wm_X9_isCard ws_X9_isCard (by decide) 9 rfl (by decide) rfl rfl (by decide) (Nat.le_of_ble_eq_true rfl) dX9_worth_10 (fun r10 M10 L10 h10 => ?_)
    obtain ⟨hm10, hl10, hr10⟩ := h10
    subst M10 L10
    refine v_if_eq K 25 ⟨by omega, by omega⟩ dX9_worth_13 (by decide) (fun h13 => ?_) (fun h13 => ?_)
    · refine v_iconst K dX9_worth_25 ?_
      refine v_istore_n K (fun q9 => [(3, .int (iI q9)), (0, .ref (Q 90)), (1, .int (iI d)), (2, .int (iI c))]) dX9_worth_26 rfl (by decide) (fun _ => rfl) (fun y hy => ?_)
      refine v_iload_n K 0 dX9_worth_27 rfl rfl ?_
      refine v_iconst K dX9_worth_28 ?_
      refine v_icmp_ne K 35 ⟨by omega, by omega⟩ ⟨by omega, by omega⟩ dX9_worth_29 (by decide) (fun h29 => ?_) (fun h29 => ?_)
      · exact absurd h29 (by omega)
      · refine v_ldc K (-2147483648) ck_X9_121 rfl dX9_worth_32 ?_
        exact v_ri K E dX9_worth_34 (by first | exact ⟨rfl, fun _ _ _ _ => rfl, Or.inl ⟨by omega, rfl⟩⟩ | exact ⟨rfl, fun _ _ _ _ => rfl, Or.inl ⟨fun q => q.2 (by omega), rfl⟩⟩)
    · refine v_aload_n K 0 dX9_worth_16 rfl rfl ?_
      refine v_iload_n K 1 dX9_worth_17 rfl rfl ?_
      refine v_iload_n K 2 dX9_worth_18 rfl rfl ?_
      refine v_cVi K (c_X9_placeOf hM d.toNat (by omega) c hc _ (by omega)) rfl fc_X9_180 wm_X9_placeOf ws_X9_placeOf (by decide) 9 rfl (by decide) rfl rfl (by decide) (Nat.le_of_ble_eq_true rfl) dX9_worth_19 (fun r19 M19 L19 h19 => ?_)
      obtain ⟨hm19, hl19, hr19⟩ := h19
      subst M19 L19
      have us := hM.2.2.2.2.1 d.toNat (by omega)
      refine v_goto K 26 dX9_worth_22 (by decide) ?_
      refine v_istore_n K (fun q9 => [(3, .int (iI q9)), (0, .ref (Q 90)), (1, .int (iI d)), (2, .int (iI c))]) dX9_worth_26 rfl (by decide) (fun _ => rfl) (fun y hy => ?_)
      refine v_iload_n K 0 dX9_worth_27 rfl rfl ?_
      refine v_iconst K dX9_worth_28 ?_
      refine v_icmp_ne K 35 ⟨by omega, by omega⟩ ⟨by omega, by omega⟩ dX9_worth_29 (by decide) (fun h29 => ?_) (fun h29 => ?_)
      · refine v_aload_n K 1 dX9_worth_35 rfl rfl ?_
        refine v_iload_n K 2 dX9_worth_36 rfl rfl ?_
        have hq := dropK_ok hM (d := d.toNat) (p := y.toNat) (by omega) (by omega)
        refine v_cVi K (c_X9_standingOf hM d.toNat (by omega) _ (by omega)) rfl fc_X9_177 wm_X9_standingOf ws_X9_standingOf (by decide) 9 rfl (by decide) rfl rfl (by decide) (Nat.le_of_ble_eq_true rfl) dX9_worth_37 (fun r37 M37 L37 h37 => ?_)
        obtain ⟨hl37, h37s, h37r⟩ := h37
        subst L37
        have r94 := h37s.row (a := 94) (by omega) (by decide)
        refine v_istore K (fun q9 => [(4, .int (iI q9)), (3, .int (iI y)), (0, .ref (Q 90)), (1, .int (iI d)), (2, .int (iI c))]) dX9_worth_40 (by decide) (fun _ => rfl) (fun v hv => ?_)
        refine v_aload_n K 2 dX9_worth_42 rfl rfl ?_
        refine v_iload_n K 3 dX9_worth_43 rfl rfl ?_
        refine v_iload_n K 1 dX9_worth_44 rfl rfl ?_
        refine v_cVv K (c_X9_dropAt d.toNat y.toNat (by omega) (by rw [r94]; omega) (by rw [r94]; omega) _ _ (by omega) (by omega)) rfl fc_X9_93 wm_X9_dropAt ws_X9_dropAt (by decide) 9 rfl (by decide) rfl rfl (by decide) (Nat.le_of_ble_eq_true rfl) dX9_worth_45 (fun M45 L45 h45 => ?_)
        obtain ⟨hl45, hm45⟩ := h45
        subst L45
        have k45 : scM (drD MI d.toNat y.toNat) M45 := by
          rw [hm45]
          intro a b q1 q2
          simp only [drD, dropK]
          rw [r94, h37s.row (a := 95) (by omega) (by decide), h37s a b q1 q2]
        refine v_aload_n K 2 dX9_worth_48 rfl rfl ?_
        refine v_iload_n K 3 dX9_worth_49 rfl rfl ?_
        refine v_cVi K (c_X9_standingOf (k45.ok hq) d.toNat (by omega) _ (by omega)) rfl fc_X9_177 wm_X9_standingOf ws_X9_standingOf (by decide) 9 rfl (by decide) rfl rfl (by decide) (Nat.le_of_ble_eq_true rfl) dX9_worth_50 (fun r50 M50 L50 h50 => ?_)
        obtain ⟨hl50, h50s, h50r⟩ := h50
        subst L50
        have k50 := k45.trans h50s
        have e94 : M50 94 d.toNat = MI 94 d.toNat - 1 := by rw [k50 94 _ (by omega) (by omega)]; simp [drD, dropK]
        refine v_istore K (fun q9 => [(5, .int (iI q9)), (4, .int (iI v)), (3, .int (iI y)), (0, .ref (Q 90)), (1, .int (iI d)), (2, .int (iI c))]) dX9_worth_53 (by decide) (fun _ => rfl) (fun w hw => ?_)
        refine v_aload_n K 3 dX9_worth_55 rfl rfl ?_
        refine v_iload_n K 4 dX9_worth_56 rfl rfl ?_
        refine v_iload_n K 2 dX9_worth_57 rfl rfl ?_
        refine v_iload_n K 5 dX9_worth_58 rfl rfl ?_
        refine v_cVv K (c_X9_putBack d.toNat y.toNat (by omega) (by rw [e94]; omega) (by rw [e94]; omega) (by rw [e94]; omega) c _ _ (by omega) (by omega)) rfl fc_X9_183 wm_X9_putBack ws_X9_putBack (by decide) 9 rfl (by decide) rfl rfl (by decide) (Nat.le_of_ble_eq_true rfl) dX9_worth_59 (fun M59 L59 h59 => ?_)
        obtain ⟨hl59, hm59⟩ := h59
        subst L59
        refine v_iload K 1 dX9_worth_62 rfl ?_
        refine v_iload K 0 dX9_worth_64 rfl ?_
        refine v_isub K dX9_worth_66 ?_
        exact v_ri K E dX9_worth_67 (by
        have ey : y = fpl (fun k => MI 95 (10 * d.toNat + k)) c (MI 94 d.toNat).toNat := by omega
        refine ⟨rfl, fun a b q1 q2 => ?_, Or.inr ⟨⟨by omega, by omega⟩, ?_⟩⟩
        · rw [hm59]; exact drop_back (MI := MI) (fun a b => ¬ (a < 96 ∨ 102 < a) ∨ (a = 90 ∧ b = 15)) (fun b => by omega) (by omega) (by rcases b0 with q | q; exact absurd (ey.trans q) (by omega); rw [ey]; exact q.2.2) (fun a b q => k50 a b (by omega) (by omega)) a b (by omega)
        · rw [hv, hw, h37r, h50r, ← ey, k45.co.2.2.1]
          unfold mSt
          rw [drD_nd]
          congr 2
          funext b
          exact k45.co.tab _ b)
      · refine v_ldc K (-2147483648) ck_X9_121 rfl dX9_worth_32 ?_
        exact v_ri K E dX9_worth_34 (by first | exact ⟨rfl, fun _ _ _ _ => rfl, Or.inl ⟨by omega, rfl⟩⟩ | exact ⟨rfl, fun _ _ _ _ => rfl, Or.inl ⟨fun q => q.2 (by omega), rfl⟩⟩)
