/-! a card that a deck has not plays no part in its games -/
theorem bst_po {co po po' h : Nat → Int} {e : Int} (hp : ∀ c, 0 < h c → po c = po' c) : ∀ k, bst co po h e k = bst co po' h e k := by
  intro k
  induction k with
  | zero => rfl
  | succ k ih =>
    simp only [bst]
    rw [ih]
    by_cases q : 0 < h k ∧ co k ≤ e
    · rw [if_pos q, if_pos q]
      have b := bst_b co po' h e k
      by_cases z : bst co po' h e k = -1
      · rw [if_pos (Or.inl z), if_pos (Or.inl z)]
      · have hh := bst_h co po' h e k (by omega)
        rw [hp k q.1, hp _ hh.1]
    · rw [if_neg q, if_neg q]
theorem hdec_le (h : Nat → Int) (x c : Nat) : hdec h x c ≤ h c := by unfold hdec; split <;> omega
theorem selL_po {nc : Nat} {co po po' : Nat → Int} : ∀ n h e, (∀ c, 0 < h c → po c = po' c) → selL nc co po n h e = selL nc co po' n h e ∧ selH nc co po n h e = selH nc co po' n h e := by
  intro n
  induction n with
  | zero => intro h e _; exact ⟨rfl, rfl⟩
  | succ n ih =>
    intro h e hp
    simp only [selL, selH]
    rw [bst_po hp nc]
    by_cases z : bst co po' h e nc = -1
    · rw [if_pos z, if_pos z, if_pos z, if_pos z]; exact ⟨rfl, rfl⟩
    · rw [if_neg z, if_neg z, if_neg z, if_neg z]
      have i := ih (hdec h (bst co po' h e nc).toNat) (e - co (bst co po' h e nc).toNat) (fun c hc => hp c (by have := hdec_le h (bst co po' h e nc).toNat c; omega))
      rw [i.1, i.2]; exact ⟨rfl, rfl⟩
theorem selH_le {nc : Nat} {co po : Nat → Int} : ∀ n h e c, selH nc co po n h e c ≤ h c := by
  intro n
  induction n with
  | zero => intro h e c; exact Int.le_refl _
  | succ n ih =>
    intro h e c
    simp only [selH]
    split
    · exact Int.le_refl _
    · exact Int.le_trans (ih _ _ c) (hdec_le _ _ _)
theorem selL_hp {nc : Nat} {co po : Nat → Int} : ∀ n h e c, c ∈ selL nc co po n h e → 0 < h c := by
  intro n
  induction n with
  | zero => intro h e c hc; simp [selL] at hc
  | succ n ih =>
    intro h e c hc
    simp only [selL] at hc
    split at hc
    · simp at hc
    · rename_i z
      have b := bst_b co po h e nc
      have hh := bst_h co po h e nc (by omega)
      rcases List.mem_cons.mp hc with rfl | hc
      · exact hh.1
      · have := ih _ _ c hc
        have := hdec_le h (bst co po h e nc).toNat c
        omega
theorem drw_po {po po' : Nat → Int} {n : Nat} {cd : Nat → Nat} (hd : ∀ k, k < n → po (cd k) = po' (cd k)) : ∀ k s, (∀ c, 0 < s.1 c → po c = po' c) → ∀ c, 0 < (drw n cd k s).1 c → po c = po' c := by
  intro k
  induction k with
  | zero => intro s h; exact h
  | succ k ih =>
    intro s h
    simp only [drw]
    split
    · rename_i q
      refine ih _ (fun c hc => ?_)
      by_cases e : c = cd s.2
      · rw [e]; exact hd _ q
      · have hc : 0 < hinc s.1 (cd s.2) c := hc
        unfold hinc at hc
        rw [if_neg e] at hc
        exact h c hc
    · exact h
theorem pst_po {nc : Nat} {co po po' : Nat → Int} {n : Nat} {cd : Nat → Nat} (hd : ∀ k, k < n → po (cd k) = po' (cd k)) : ∀ t, pst nc co po n cd t = pst nc co po' n cd t ∧ ∀ c, 0 < (pst nc co po' n cd t).1 c → po c = po' c := by
  intro t
  induction t with
  | zero => exact ⟨rfl, fun c hc => absurd hc (by simp [pst])⟩
  | succ t ih =>
    have d := drw_po hd (ndr t) _ ih.2
    simp only [pst]
    rw [ih.1, (selL_po 10 _ _ d).2]
    exact ⟨rfl, fun c hc => d c (by have := selH_le (nc := nc) (co := co) (po := po') 10 (drw n cd (ndr t) (pst nc co po' n cd t)).1 (eng (t + 1)) c; omega)⟩
theorem plL_po {nc : Nat} {co po po' : Nat → Int} {n : Nat} {cd : Nat → Nat} (hd : ∀ k, k < n → po (cd k) = po' (cd k)) (t : Nat) : plL nc co po n cd t = plL nc co po' n cd t ∧ ∀ c, c ∈ plL nc co po' n cd t → po c = po' c := by
  have p := pst_po (nc := nc) (co := co) hd t
  have d := drw_po hd (ndr t) _ p.2
  unfold plL
  rw [p.1, (selL_po 10 _ _ d).1]
  exact ⟨rfl, fun c hc => d c (selL_hp _ _ _ c hc)⟩
theorem putL_po {so po po' : Nat → Int} : ∀ l, (∀ c, c ∈ l → po c = po' c) → ∀ x, putL so po l x = putL so po' l x := by
  intro l
  induction l with
  | nil => intro _ x; rfl
  | cons c l ih =>
    intro h x
    simp only [putL]
    rw [show put1 so po c x = put1 so po' c x by unfold put1; rw [h c List.mem_cons_self], ih (fun c' hc => h c' (List.mem_cons_of_mem _ hc))]
theorem gTurn_po {so po po' : Nat → Int} {la lb : List Nat} (ha : ∀ c, c ∈ la → po c = po' c) (hb : ∀ c, c ∈ lb → po c = po' c) (g : GS) : gTurn so po la lb g = gTurn so po' la lb g := by
  have a : ∀ g, gA so po la g = gA so po' la g := fun g => by unfold gA mv; rw [putL_po la ha]
  have b : ∀ g, gB so po lb g = gB so po' lb g := fun g => by unfold gB mv; rw [putL_po lb hb]
  unfold gTurn
  rw [a, b]
theorem gRun_po {so po po' : Nat → Int} {pa pb : Nat → List Nat} (ha : ∀ t c, c ∈ pa t → po c = po' c) (hb : ∀ t c, c ∈ pb t → po c = po' c) : ∀ n t g, gRun so po pa pb n t g = gRun so po' pa pb n t g := by
  intro n
  induction n with
  | zero => intro t g; rfl
  | succ n ih =>
    intro t g
    simp only [gRun]
    rw [gTurn_po (ha t) (hb t), ih]
theorem fpl_no {f : Nat → Int} {c : Int} : ∀ n, fpl f c n = -1 → ∀ k, k < n → f k ≠ c := by
  intro n
  induction n with
  | zero => intro _ k hk; exact absurd hk (by omega)
  | succ n ih =>
    intro h k hk
    simp only [fpl] at h
    by_cases q : fpl f c n = -1
    · rw [if_pos q] at h
      by_cases z : f n = c
      · rw [if_pos z] at h; omega
      · by_cases e : k = n
        · subst e; exact z
        · exact ih q k (by omega)
    · rw [if_neg q] at h; exact absurd h q
theorem zu4 {MI : ZM} {c : Nat} {p : Int} {a b : Nat} (h : ¬ (a = 4 ∧ b = c)) : z_up MI 4 c p a b = MI a b := by simp only [z_up]; rw [if_neg h]
theorem cP_pw {MI : ZM} (hM : cOk MI) {c : Nat} {p : Int} {d : Nat} (hd : d < 5) (hf : fpl (MI (7 + 2 * d)) c (MI (6 + 2 * d) 1).toNat = -1) (t : Nat) : cP (z_up MI 4 c p) d t = cP MI d t ∧ ∀ x, x ∈ cP MI d t → z_up MI 4 c p 4 x = MI 4 x := by
  have l := lo_eq (M := z_up MI 4 c p) (MI := MI) (d := d) (q := -1) (zu4 (by omega)) (funext fun b => zu4 (by omega))
  have e3 : z_up MI 4 c p 3 = MI 3 := funext fun b => zu4 (by omega)
  unfold cP
  rw [l.1, l.2, zu4 (by omega), e3]
  have us := hM.2.2.2.2.1 d hd
  refine plL_po (fun k hk => ?_) t
  have hk2 : k < (MI (6 + 2 * d) 1).toNat := by simpa [loN] using hk
  have e : loC MI d (-1) k = (MI (7 + 2 * d) k).toNat := by simp [loC]
  rw [e]
  have n := fpl_no _ hf k hk2
  have r := hM.2.2.2.2.2 d k hd (by omega)
  exact zu4 (by omega)
theorem cTab_pw {MI : ZM} (hM : cOk MI) {c : Nat} {p : Int} {i j : Nat} (hi : i < 5) (hj : j < 5) (fi : fpl (MI (7 + 2 * i)) c (MI (6 + 2 * i) 1).toNat = -1) (fj : fpl (MI (7 + 2 * j)) c (MI (6 + 2 * j) 1).toNat = -1) : cTab (z_up MI 4 c p) i j = cTab MI i j := by
  have pi := cP_pw (p := p) hM hi fi
  have pj := cP_pw (p := p) hM hj fj
  have ei : cP (z_up MI 4 c p) i = cP MI i := funext fun t => (pi t).1
  have ej : cP (z_up MI 4 c p) j = cP MI j := funext fun t => (pj t).1
  have e2 : z_up MI 4 c p 2 = MI 2 := funext fun b => zu4 (by omega)
  have e9 : z_up MI 4 c p 0 9 = MI 0 9 := zu4 (by omega)
  unfold cTab cGame gGame
  rw [ei, ej, e2, e9, gRun_po (fun t x hx => (pi t).2 x hx) (fun t x hx => (pj t).2 x hx), gRun_po (fun t x hx => (pj t).2 x hx) (fun t x hx => (pi t).2 x hx)]
theorem cOk_pw {MI : ZM} (hM : cOk MI) (c : Nat) {p : Int} (h0 : 0 ≤ p) (h9 : p ≤ 9) : cOk (z_up MI 4 c p) := by
  obtain ⟨a1, a2, a3, a4, a5, a6⟩ := hM
  refine ⟨by rw [zu4 (by omega)]; exact a1, by rw [zu4 (by omega)]; exact a2, by rw [zu4 (by omega)]; exact a3, fun i hi => ?_, fun d hd => ?_, fun d k hd hk => ?_⟩
  · rw [zu4 (by omega), zu4 (by omega)]
    refine ⟨(a4 i hi).1, (a4 i hi).2.1, ?_⟩
    by_cases e : i = c
    · subst e; rw [z_up_s]; exact ⟨h0, h9⟩
    · rw [z_up_j e]; exact (a4 i hi).2.2
  · rw [zu4 (by omega)]; exact a5 d hd
  · rw [zu4 (by omega)] at hk
    rw [zu4 (by omega), zu4 (by omega)]; exact a6 d k hd hk
theorem coC_pw {MI M : ZM} (h : coC MI M) (c : Nat) (p : Int) : coC (z_up MI 4 c p) (z_up M 4 c p) := by
  intro a b q1 q2
  simp only [z_up]
  rw [h a b q1 q2]
