theorem zk_sd {s : Nat} (h : s = 17 ∨ s = 18) : z_kd s = 7 := by rcases h with rfl | rfl <;> rfl
/-- the memory behind put -/
def psM (M : ZM) (s o c : Nat) : ZM :=
  if M 2 c = 0 then z_up (z_up M s 1 (M s 1 + 1)) s 2 (M s 2 + M 4 c)
  else if M 2 c = 1 then z_up (z_up M s 1 (M s 1 + 1)) o 0 (M o 0 - M 4 c)
  else z_up (z_up M s 1 (M s 1 + 1)) s 3 (M s 3 + M 4 c)
/-- within a move of side s against o -/
def sdS (MI M : ZM) (s o : Nat) (lo f w pd : Int) : Prop := (∀ a b, ¬ ((a = o ∧ b = 0) ∨ (a = s ∧ (b = 1 ∨ b = 2 ∨ b = 3))) → M a b = MI a b) ∧ M o 0 = lo ∧ M s 2 = f ∧ M s 3 = w ∧ M s 1 = pd
theorem sdS_put {MI M : ZM} {s o c : Nat} {lo f w pd : Int} (hso : (s = 17 ∧ o = 18) ∨ (s = 18 ∧ o = 17)) (S : sdS MI M s o lo f w pd) : sdS MI (psM M s o c) s o (put1 (MI 2) (MI 4) c (lo, f, w, pd)).1 (put1 (MI 2) (MI 4) c (lo, f, w, pd)).2.1 (put1 (MI 2) (MI 4) c (lo, f, w, pd)).2.2.1 (put1 (MI 2) (MI 4) c (lo, f, w, pd)).2.2.2 := by
  obtain ⟨s1, s2, s3, s4, s5⟩ := S
  have e2 : M 2 = MI 2 := funext fun b => s1 2 b (by omega)
  have e4 : M 4 = MI 4 := funext fun b => s1 4 b (by omega)
  have hne : s ≠ o := by omega
  unfold psM put1
  rw [e2, e4]
  split
  · refine ⟨fun a b hab => ?_, ?_, ?_, ?_, ?_⟩
    · rw [← s1 a b hab]; simp only [z_up]; rw [if_neg (by omega), if_neg (by omega)]
    · rw [z_up_k (Ne.symm hne), z_up_k (Ne.symm hne)]; exact s2
    · rw [z_up_s, s3]
    · rw [z_up_j (by decide), z_up_j (by decide)]; exact s4
    · rw [z_up_j (by decide), z_up_s, s5]
  · split
    · refine ⟨fun a b hab => ?_, ?_, ?_, ?_, ?_⟩
      · rw [← s1 a b hab]; simp only [z_up]; rw [if_neg (by omega), if_neg (by omega)]
      · rw [z_up_s, s2]
      · rw [z_up_k hne, z_up_j (by decide)]; exact s3
      · rw [z_up_k hne, z_up_j (by decide)]; exact s4
      · rw [z_up_k hne, z_up_s, s5]
    · refine ⟨fun a b hab => ?_, ?_, ?_, ?_, ?_⟩
      · rw [← s1 a b hab]; simp only [z_up]; rw [if_neg (by omega), if_neg (by omega)]
      · rw [z_up_k (Ne.symm hne), z_up_k (Ne.symm hne)]; exact s2
      · rw [z_up_j (by decide), z_up_j (by decide)]; exact s3
      · rw [z_up_s, s4]
      · rw [z_up_j (by decide), z_up_s, s5]
set_option maxRecDepth 100000 in
set_option maxHeartbeats 4000000 in
theorem c_X7_put {l : Launch} {D : va_G} {Z : ZC} {Q : Nat → Nat} {MI ML : ZM} (s o : Nat) (hso : (s = 17 ∧ o = 18) ∨ (s = 18 ∧ o = 17)) (hM : cOk MI) (c : Nat) (hc : c < 12) (c9 : Int) (hc9 : c9 = c) : C_X7_put l D Z Q [.ref (Q s), .ref (Q o), .int (iI c9), .ref (Q 1)] MI ML (zV fun M L => L = ML ∧ M = psM MI s o c) := by
  refine CM.of (by decide +kernel) (Nat.le_of_ble_eq_true rfl) ?_
  intro X K E _ _ _ _
  show V X (0, 0) 110 Q z_rf MI ML 0 [(0, .ref (Q s)), (1, .ref (Q o)), (2, .int (iI c9)), (3, .ref (Q 1))] []
  have ua := hM.2.2.2.1 c hc
  have hne : s ≠ o := by omega
  refine v_aload_n K 0 dX7_put_0 rfl rfl ?_
  refine v_dup K dX7_put_1 rfl ?_
  refine v_geti K ff_X7_15 (by omega) (zk_sd (by omega)) rfl dX7_put_2 ?_
  refine v_iconst K dX7_put_5 ?_
  refine v_iadd K dX7_put_6 ?_
  refine v_puti K fp_X7_15 (by omega) (zk_sd (by omega)) rfl dX7_put_7 ?_
  refine v_aload_n K 3 dX7_put_10 rfl rfl ?_
  refine v_getr K ff_X7_43 (by decide) rfl rfl rfl dX7_put_11 ?_
  refine v_iload_n K 2 dX7_put_14 rfl rfl ?_
  refine v_iald K (c) (by decide) rfl (by omega) (by show _ < 12; omega) dX7_put_15 ?_
  refine v_eqi (MI 2 c) (by rw [z_up_k (by omega)]) ?_
  by_cases c16 : MI 2 c ≠ 0 ∧ MI 2 c ≠ 1
  · refine v_lookup K 80 (off := 64) ⟨by omega, by omega⟩ dX7_put_16 (by decide) (by simp [Op.lookupswitch.offset]; rw [if_neg (by omega), if_neg (by omega)]) (by decide) ?_
    refine v_aload_n K 0 dX7_put_80 rfl rfl ?_
    refine v_dup K dX7_put_81 rfl ?_
    refine v_geti K ff_X7_21 (by omega) (zk_sd (by omega)) rfl dX7_put_82 ?_
    refine v_eqi (MI s 3) (by rw [z_up_j (by decide)]) ?_
    refine v_aload_n K 3 dX7_put_85 rfl rfl ?_
    refine v_getr K ff_X7_48 (by decide) rfl rfl rfl dX7_put_86 ?_
    refine v_iload_n K 2 dX7_put_89 rfl rfl ?_
    refine v_iald K (c) (by decide) rfl (by omega) (by show _ < 12; omega) dX7_put_90 ?_
    refine v_eqi (MI 4 c) (by rw [z_up_k (by omega)]) ?_
    refine v_iadd K dX7_put_91 ?_
    refine v_puti K fp_X7_21 (by omega) (zk_sd (by omega)) rfl dX7_put_92 ?_
    exact v_rv K E dX7_put_95 ⟨rfl, by unfold psM; first | rw [if_pos (by omega)] | rw [if_neg (by omega), if_pos (by omega)] | rw [if_neg (by omega), if_neg (by omega)]⟩
  rcases (show MI 2 c = 0 ∨ MI 2 c = 1 by omega) with c16 | c16
  · refine v_lookup K 44 (off := 28) ⟨by omega, by omega⟩ dX7_put_16 (by decide) (by rw [c16]; rfl) (by decide) ?_
    refine v_aload_n K 0 dX7_put_44 rfl rfl ?_
    refine v_dup K dX7_put_45 rfl ?_
    refine v_geti K ff_X7_18 (by omega) (zk_sd (by omega)) rfl dX7_put_46 ?_
    refine v_eqi (MI s 2) (by rw [z_up_j (by decide)]) ?_
    refine v_aload_n K 3 dX7_put_49 rfl rfl ?_
    refine v_getr K ff_X7_48 (by decide) rfl rfl rfl dX7_put_50 ?_
    refine v_iload_n K 2 dX7_put_53 rfl rfl ?_
    refine v_iald K (c) (by decide) rfl (by omega) (by show _ < 12; omega) dX7_put_54 ?_
    refine v_eqi (MI 4 c) (by rw [z_up_k (by omega)]) ?_
    refine v_iadd K dX7_put_55 ?_
    refine v_puti K fp_X7_18 (by omega) (zk_sd (by omega)) rfl dX7_put_56 ?_
    refine v_goto K 95 dX7_put_59 (by decide) ?_
    exact v_rv K E dX7_put_95 ⟨rfl, by unfold psM; first | rw [if_pos (by omega)] | rw [if_neg (by omega), if_pos (by omega)] | rw [if_neg (by omega), if_neg (by omega)]⟩
  · refine v_lookup K 62 (off := 46) ⟨by omega, by omega⟩ dX7_put_16 (by decide) (by rw [c16]; rfl) (by decide) ?_
    refine v_aload_n K 1 dX7_put_62 rfl rfl ?_
    refine v_dup K dX7_put_63 rfl ?_
    refine v_geti K ff_X7_9 (by omega) (zk_sd (by omega)) rfl dX7_put_64 ?_
    refine v_eqi (MI o 0) (by rw [z_up_k (Ne.symm hne)]) ?_
    refine v_aload_n K 3 dX7_put_67 rfl rfl ?_
    refine v_getr K ff_X7_48 (by decide) rfl rfl rfl dX7_put_68 ?_
    refine v_iload_n K 2 dX7_put_71 rfl rfl ?_
    refine v_iald K (c) (by decide) rfl (by omega) (by show _ < 12; omega) dX7_put_72 ?_
    refine v_eqi (MI 4 c) (by rw [z_up_k (by omega)]) ?_
    refine v_isub K dX7_put_73 ?_
    refine v_puti K fp_X7_9 (by omega) (zk_sd (by omega)) rfl dX7_put_74 ?_
    refine v_goto K 95 dX7_put_77 (by decide) ?_
    exact v_rv K E dX7_put_95 ⟨rfl, by unfold psM; first | rw [if_pos (by omega)] | rw [if_neg (by omega), if_pos (by omega)] | rw [if_neg (by omega), if_neg (by omega)]⟩
set_option maxRecDepth 100000 in
set_option maxHeartbeats 4000000 in
theorem c_X7_begin {l : Launch} {D : va_G} {Z : ZC} {Q : Nat → Nat} {MI ML : ZM} (s : Nat) (hs : s = 17 ∨ s = 18) (v : Int) : C_X7_begin l D Z Q [.ref (Q s), .int (iI v)] MI ML (zV fun M L => L = ML ∧ M = z_up (z_up (z_up (z_up MI s 0 v) s 1 0) s 2 0) s 3 0) := by
  refine CM.of (by decide +kernel) (Nat.le_of_ble_eq_true rfl) ?_
  intro X K E _ _ _ _
  show V X (0, 0) 110 Q z_rf MI ML 0 [(0, .ref (Q s)), (1, .int (iI v))] []
  refine v_aload_n K 0 dX7_begin_0 rfl rfl ?_
  refine v_iload_n K 1 dX7_begin_1 rfl rfl ?_
  refine v_puti K fp_X7_9 (by omega) (zk_sd (by omega)) rfl dX7_begin_2 ?_
  refine v_aload_n K 0 dX7_begin_5 rfl rfl ?_
  refine v_iconst K dX7_begin_6 ?_
  refine v_puti K fp_X7_15 (by omega) (zk_sd (by omega)) rfl dX7_begin_7 ?_
  refine v_aload_n K 0 dX7_begin_10 rfl rfl ?_
  refine v_iconst K dX7_begin_11 ?_
  refine v_puti K fp_X7_18 (by omega) (zk_sd (by omega)) rfl dX7_begin_12 ?_
  refine v_aload_n K 0 dX7_begin_15 rfl rfl ?_
  refine v_iconst K dX7_begin_16 ?_
  refine v_puti K fp_X7_21 (by omega) (zk_sd (by omega)) rfl dX7_begin_17 ?_
  exact v_rv K E dX7_begin_20 ⟨rfl, rfl⟩
set_option maxRecDepth 100000 in
set_option maxHeartbeats 4000000 in
theorem l_X7_defeats {X : VX} {Q : Nat → Nat} {MI ML : ZM} (K : VK X cX7_defeats RX7 7 (some .boolean) 1 23 0 0) (s o : Nat) (hso : (s = 17 ∧ o = 18) ∨ (s = 18 ∧ o = 17)) (hM : cOk MI) (p : Nat) (hp : isPl p) (t1 en : Nat) (hen : en ≤ 10) (x : Int × Int × Int × Int) (E : VE X 0 0 110 Q (zq Q (zI fun r M L => L = ML ∧ ((r = 1 ∧ x.1 ≤ 0) ∨ (r = 0 ∧ 0 < x.1)) ∧ sdS MI M s o x.1 x.2.1 x.2.2.1 x.2.2.2))) : ∀ (ls9 : List Nat) (k : Nat) (M : ZM) (y z lo f w pd : Int), y = k → z = en → k + ls9.length = en → (∀ c ∈ ls9, c < 12) → (∀ j, j < ls9.length → MI (p + 1) (k + j) = (ls9.getD j 0 : Nat)) → -100000 ≤ lo → lo ≤ 100000 → sdS MI M s o lo f w pd → putL (MI 2) (MI 4) ls9 (lo, f, w, pd) = x → V X (0, 0) 110 Q z_rf M ML 42 [(6, .int (iI y)), (5, .int (iI z)), (0, .ref (Q s)), (1, .ref (Q o)), (2, .ref (Q p)), (3, .ref (Q 1)), (4, .int (iI (t1 : Int)))] [] := by
  have ua := hM.2.2.2.1
  have p31 := hp.1
  have p90 := hp.2.1
  intro ls9
  induction ls9 with
  | nil =>
    intro k M y z lo f w pd hy hz hk hc ho hl0 hl1 S hx
    simp only [putL] at hx
    refine v_iload K 0 dX7_defeats_42 rfl ?_
    refine v_iload K 1 dX7_defeats_44 rfl ?_
    refine v_icmp_ge K 75 ⟨by omega, by omega⟩ ⟨by omega, by omega⟩ dX7_defeats_46 (by decide) (fun h46 => ?_) (fun h46 => ?_)
    · refine v_aload_n K 3 dX7_defeats_75 rfl rfl ?_
      refine v_geti K ff_X7_9 (by omega) (zk_sd (by omega)) rfl dX7_defeats_76 ?_
      refine v_eqi (lo) (S.2.1) ?_
      refine v_if_gt K 86 ⟨by omega, by omega⟩ dX7_defeats_79 (by decide) (fun h79 => ?_) (fun h79 => ?_)
      · refine v_iconst K dX7_defeats_86 ?_
        exact v_rz K E (Or.inl rfl) dX7_defeats_87 ⟨rfl, by subst hx; first | exact Or.inl ⟨rfl, h79⟩ | exact Or.inr ⟨rfl, h79⟩, by subst hx; exact S⟩
      · refine v_iconst K dX7_defeats_82 ?_
        refine v_goto K 87 dX7_defeats_83 (by decide) ?_
        exact v_rz K E (Or.inr rfl) dX7_defeats_87 ⟨rfl, by subst hx; first | exact Or.inl ⟨rfl, h79⟩ | exact Or.inr ⟨rfl, h79⟩, by subst hx; exact S⟩
    · exact absurd h46 (by simp at hk; omega)
  | cons c ls9 ih =>
    intro k M y z lo f w pd hy hz hk hc ho hl0 hl1 S hx
    have hMM : cOk M := cOk_of (fun a b h => S.1 a b (by omega)) hM
    have r1 : M (p + 1) = MI (p + 1) := funext fun b => S.1 _ b (by omega)
    have hc0 : MI (p + 1) k = (c : Int) := by simpa using ho 0 (by simp)
    have hc2 := ua c (hc c (List.mem_cons_self))
    refine v_iload K 0 dX7_defeats_42 rfl ?_
    refine v_iload K 1 dX7_defeats_44 rfl ?_
    refine v_icmp_ge K 75 ⟨by omega, by omega⟩ ⟨by omega, by omega⟩ dX7_defeats_46 (by decide) (fun h46 => ?_) (fun h46 => ?_)
    · exact absurd h46 (by simp at hk; omega)
    · refine v_aload_n K 3 dX7_defeats_49 rfl rfl ?_
      refine v_geti K ff_X7_9 (by omega) (zk_sd (by omega)) rfl dX7_defeats_50 ?_
      refine v_eqi (lo) (S.2.1) ?_
      refine v_if_le K 75 ⟨by omega, by omega⟩ dX7_defeats_53 (by decide) (fun h53 => ?_) (fun h53 => ?_)
      · simp only [putL] at hx
        rw [if_pos (show lo ≤ 0 from h53)] at hx
        refine v_aload_n K 3 dX7_defeats_75 rfl rfl ?_
        refine v_geti K ff_X7_9 (by omega) (zk_sd (by omega)) rfl dX7_defeats_76 ?_
        refine v_eqi (lo) (S.2.1) ?_
        refine v_if_gt K 86 ⟨by omega, by omega⟩ dX7_defeats_79 (by decide) (fun h79 => ?_) (fun h79 => ?_)
        · refine v_iconst K dX7_defeats_86 ?_
          exact v_rz K E (Or.inl rfl) dX7_defeats_87 ⟨rfl, by subst hx; first | exact Or.inl ⟨rfl, h79⟩ | exact Or.inr ⟨rfl, h79⟩, by subst hx; exact S⟩
        · refine v_iconst K dX7_defeats_82 ?_
          refine v_goto K 87 dX7_defeats_83 (by decide) ?_
          exact v_rz K E (Or.inr rfl) dX7_defeats_87 ⟨rfl, by subst hx; first | exact Or.inl ⟨rfl, h79⟩ | exact Or.inr ⟨rfl, h79⟩, by subst hx; exact S⟩
      · refine v_aload_n K 2 dX7_defeats_56 rfl rfl ?_
        refine v_aload_n K 3 dX7_defeats_57 rfl rfl ?_
        refine v_aload_n K 4 dX7_defeats_58 rfl rfl ?_
        refine v_getr K ff_X7_36 (by have := hp.1; have := hp.2.1; omega) hp.2.2.1 rfl hp.2.2.2.1.1 dX7_defeats_59 ?_
        refine v_iload K 0 dX7_defeats_62 rfl ?_
        refine v_iald K (k) (by have := hp.2.1; omega) hp.2.2.2.2.1.1 (by omega) (by rw [hp.2.2.2.2.1.2]; omega) dX7_defeats_64 ?_
        refine v_eqi ((c : Int)) (by rw [r1]; exact hc0) ?_
        refine v_aload_n K 5 dX7_defeats_65 rfl rfl ?_
        refine v_cVv K (c_X7_put s o hso hMM c (hc c (List.mem_cons_self)) _ rfl) rfl fc_X7_39 wm_X7_put ws_X7_put (by omega) 7 (zk_sd (by omega)) (by decide) rfl rfl (by decide) (Nat.le_of_ble_eq_true rfl) dX7_defeats_66 (fun M66 L66 h66 => ?_)
        obtain ⟨hl66, hm66⟩ := h66
        subst M66 L66
        have S2 := sdS_put (c := c) hso S
        refine v_iinc K 0 (fun q9 => [(6, .int (iI q9)), (5, .int (iI z)), (0, .ref (Q s)), (1, .ref (Q o)), (2, .ref (Q p)), (3, .ref (Q 1)), (4, .int (iI (t1 : Int)))]) dX7_defeats_69 rfl (by decide) (fun _ => rfl) (fun v hv => ?_)
        refine v_goto K 42 dX7_defeats_72 (by decide) ?_
        simp only [putL] at hx
        rw [if_neg (show ¬ lo ≤ 0 by omega)] at hx
        exact ih (k + 1) _ v z _ _ _ _ (by omega) hz (by simp at hk; omega) (fun d hd => hc d (List.mem_cons_of_mem _ hd)) (fun j hj => by have := ho (j + 1) (by simp; omega); rw [show k + 1 + j = k + (j + 1) by omega, this]; simp) (by have := put1_b (so := MI 2) (po := MI 4) (c := c) (lo, f, w, pd) (by omega) (by omega); have h9 := this.2.1; show _ ≤ (put1 _ _ _ _).1; simp only at h9; omega) (by have := put1_b (so := MI 2) (po := MI 4) (c := c) (lo, f, w, pd) (by omega) (by omega); have h9 := this.1; show (put1 _ _ _ _).1 ≤ _; simp only at h9; omega) S2 hx
theorem plC_mono (pl : Nat → List Nat) (t : Nat) : ∀ k, ∃ r, plC pl (t + k) = plC pl t ++ r := by
  intro k
  induction k with
  | zero => exact ⟨[], by simp⟩
  | succ k ih =>
    obtain ⟨r, hr⟩ := ih
    exact ⟨r ++ pl (t + k), by rw [← Nat.add_assoc]; simp only [plC]; rw [hr, List.append_assoc]⟩
/-- the part of the order that TURN t + 1 plays -/
theorem plR_seg {M : ZM} {p : Nat} {pl : Nat → List Nat} (h : plR M p pl) {t : Nat} (ht : t < 12) : M (p + 2) t = (plC pl t).length ∧ M (p + 2) (t + 1) = ((plC pl t).length + (pl t).length : Nat) ∧ (plC pl t).length + (pl t).length ≤ 10 ∧ ∀ j, j < (pl t).length → M (p + 1) ((plC pl t).length + j) = ((pl t).getD j 0 : Nat) := by
  obtain ⟨h1, h2, h3⟩ := h
  obtain ⟨r, hr⟩ := plC_mono pl (t + 1) (11 - t)
  rw [show t + 1 + (11 - t) = 12 by omega] at hr
  have e : plC pl (t + 1) = plC pl t ++ pl t := rfl
  rw [e] at hr
  have hl : (plC pl 12).length = (plC pl t).length + (pl t).length + r.length := by rw [hr]; simp; omega
  refine ⟨h1 t (by omega), ?_, by omega, fun j hj => ?_⟩
  · rw [h1 (t + 1) (by omega), e, List.length_append]
  · rw [h2 _ (by omega), hr]
    simp only [List.getD]
    rw [List.getElem?_append_left (by simp; omega), List.getElem?_append_right (by omega)]
    simp
set_option maxRecDepth 100000 in
set_option maxHeartbeats 4000000 in
theorem c_X7_defeats {l : Launch} {D : va_G} {Z : ZC} {Q : Nat → Nat} {MI ML : ZM} (s o : Nat) (hso : (s = 17 ∧ o = 18) ∨ (s = 18 ∧ o = 17)) (hM : cOk MI) (p : Nat) (hp : isPl p) (pl : Nat → List Nat) (hR : plR MI p pl) (t : Nat) (ht : t < 12) (hc : ∀ c ∈ pl t, c < 12) (hl0 : 0 < MI o 0) (hl1 : MI o 0 ≤ 40) (hf0 : 0 ≤ MI s 2) (hf1 : MI s 2 ≤ 10000) (hw0 : 0 ≤ MI o 3) (hw1 : MI o 3 ≤ 10000) (t9 : Int) (ht9 : t9 = ((t + 1 : Nat) : Int)) : C_X7_defeats l D Z Q [.ref (Q s), .ref (Q o), .ref (Q p), .ref (Q 1), .int (iI t9)] MI ML (zI fun r M L => L = ML ∧ ((r = 1 ∧ (mv (MI 2) (MI 4) (pl t) (MI o 0) (MI s 2) (MI s 3) (MI s 1) (MI o 3)).1 ≤ 0) ∨ (r = 0 ∧ 0 < (mv (MI 2) (MI 4) (pl t) (MI o 0) (MI s 2) (MI s 3) (MI s 1) (MI o 3)).1)) ∧ sdS MI M s o (mv (MI 2) (MI 4) (pl t) (MI o 0) (MI s 2) (MI s 3) (MI s 1) (MI o 3)).1 (mv (MI 2) (MI 4) (pl t) (MI o 0) (MI s 2) (MI s 3) (MI s 1) (MI o 3)).2.1 (mv (MI 2) (MI 4) (pl t) (MI o 0) (MI s 2) (MI s 3) (MI s 1) (MI o 3)).2.2.1 (mv (MI 2) (MI 4) (pl t) (MI o 0) (MI s 2) (MI s 3) (MI s 1) (MI o 3)).2.2.2) := by
  subst ht9
  refine CM.of (by decide +kernel) (Nat.le_of_ble_eq_true rfl) ?_
  intro X K E _ _ _ _
  show V X (0, 0) 110 Q z_rf MI ML 0 [(0, .ref (Q s)), (1, .ref (Q o)), (2, .ref (Q p)), (3, .ref (Q 1)), (4, .int (iI ((t + 1 : Nat) : Int)))] []
  have p31 := hp.1
  have p90 := hp.2.1
  have hne : s ≠ o := by omega
  have G := plR_seg hR ht
  refine v_aload_n K 1 dX7_defeats_0 rfl rfl ?_
  refine v_dup K dX7_defeats_1 rfl ?_
  refine v_geti K ff_X7_9 (by omega) (zk_sd (by omega)) rfl dX7_defeats_2 ?_
  refine v_iconst K dX7_defeats_5 ?_
  refine v_aload_n K 0 dX7_defeats_6 rfl rfl ?_
  refine v_geti K ff_X7_18 (by omega) (zk_sd (by omega)) rfl dX7_defeats_7 ?_
  refine v_aload_n K 1 dX7_defeats_10 rfl rfl ?_
  refine v_geti K ff_X7_21 (by omega) (zk_sd (by omega)) rfl dX7_defeats_11 ?_
  refine v_isub K dX7_defeats_14 ?_
  refine v_mmax K ⟨by omega, by omega⟩ ⟨by omega, by omega⟩ wq_maxL ⟨by decide, Nat.le_of_ble_eq_true rfl, Nat.zero_le _, Nat.zero_le _⟩ dX7_defeats_15 ?_
  refine v_isub K dX7_defeats_18 ?_
  refine v_puti K fp_X7_9 (by omega) (zk_sd (by omega)) rfl dX7_defeats_19 ?_
  obtain ⟨v9, hv⟩ : ∃ v9, v9 = hit (MI o 0) (MI s 2) (MI o 3) := ⟨_, rfl⟩
  refine v_eqM (M := z_up MI o 0 v9) (by congr 1; rw [hv]; unfold hit; split <;> (try split) <;> omega) ?_
  have hb : -100000 ≤ v9 ∧ v9 ≤ 100000 := by rw [hv]; unfold hit; split <;> omega
  refine v_aload_n K 2 dX7_defeats_22 rfl rfl ?_
  refine v_getr K ff_X7_30 (by have := hp.1; have := hp.2.1; omega) hp.2.2.1 rfl hp.2.2.2.1.2.1 dX7_defeats_23 ?_
  refine v_iload K 4 dX7_defeats_26 rfl ?_
  refine v_iald K (t + 1) (by have := hp.2.1; omega) hp.2.2.2.2.2.1.1 rfl (by rw [hp.2.2.2.2.2.1.2]; omega) dX7_defeats_28 ?_
  refine v_eqi ((((plC pl t).length + (pl t).length : Nat) : Int)) (by rw [z_up_k (by omega)]; exact G.2.1) ?_
  refine v_istore K (fun q9 => [(5, .int (iI q9)), (0, .ref (Q s)), (1, .ref (Q o)), (2, .ref (Q p)), (3, .ref (Q 1)), (4, .int (iI ((t + 1 : Nat) : Int)))]) dX7_defeats_29 (by decide) (fun _ => rfl) (fun z hz => ?_)
  refine v_aload_n K 3 dX7_defeats_31 rfl rfl ?_
  refine v_getr K ff_X7_30 (by have := hp.1; have := hp.2.1; omega) hp.2.2.1 rfl hp.2.2.2.1.2.1 dX7_defeats_32 ?_
  refine v_iload K 5 dX7_defeats_35 rfl ?_
  refine v_iconst K dX7_defeats_37 ?_
  refine v_isub K dX7_defeats_38 ?_
  refine v_iald K (t) (by have := hp.2.1; omega) hp.2.2.2.2.2.1.1 (by omega) (by rw [hp.2.2.2.2.2.1.2]; omega) dX7_defeats_39 ?_
  refine v_eqi (((plC pl t).length : Int)) (by rw [z_up_k (by omega)]; exact G.1) ?_
  refine v_istore K (fun q9 => [(6, .int (iI q9)), (5, .int (iI z)), (0, .ref (Q s)), (1, .ref (Q o)), (2, .ref (Q p)), (3, .ref (Q 1)), (4, .int (iI ((t + 1 : Nat) : Int)))]) dX7_defeats_40 (by decide) (fun _ => rfl) (fun y hy => ?_)
  exact l_X7_defeats K s o hso hM p hp (t + 1) ((plC pl t).length + (pl t).length) G.2.2.1 (mv (MI 2) (MI 4) (pl t) (MI o 0) (MI s 2) (MI s 3) (MI s 1) (MI o 3)) E (pl t) (plC pl t).length _ y z v9 (MI s 2) (MI s 3) (MI s 1) hy hz rfl hc G.2.2.2 hb.1 hb.2 ⟨fun a b hab => by simp only [z_up]; rw [if_neg (by omega)], by rw [z_up_s], by rw [z_up_k hne], by rw [z_up_k hne], by rw [z_up_k hne]⟩ (by rw [hv]; rfl)
