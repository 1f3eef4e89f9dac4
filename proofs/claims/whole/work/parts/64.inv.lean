/-! a card more changes no game -/
theorem bst_nc {co po co' po' h : Nat → Int} {e : Int} {nc : Nat} (hp : ∀ c, c < nc → co c = co' c ∧ po c = po' c) : ∀ k, k ≤ nc → bst co po h e k = bst co' po' h e k := by
  intro k
  induction k with
  | zero => intro _; rfl
  | succ k ih =>
    intro hk
    have b := bst_b co' po' h e k
    simp only [bst]
    rw [ih (by omega), (hp k (by omega)).1, (hp k (by omega)).2]
    by_cases z : bst co' po' h e k = -1
    · rw [if_pos (Or.inl z), if_pos (Or.inl z)]
    · have c := hp (bst co' po' h e k).toNat (by omega)
      rw [c.1, c.2]
theorem bst_nx {co po h : Nat → Int} {e : Int} {nc : Nat} (hh : h nc ≤ 0) : bst co po h e (nc + 1) = bst co po h e nc := by
  simp only [bst]
  rw [if_neg (by omega)]
theorem selL_nc {nc : Nat} {co po co' po' : Nat → Int} (hp : ∀ c, c < nc → co c = co' c ∧ po c = po' c) : ∀ n h e, h nc ≤ 0 → selL nc co po n h e = selL (nc + 1) co' po' n h e ∧ selH nc co po n h e = selH (nc + 1) co' po' n h e := by
  intro n
  induction n with
  | zero => intro h e _; exact ⟨rfl, rfl⟩
  | succ n ih =>
    intro h e hh
    have b := bst_b co' po' h e nc
    simp only [selL, selH]
    rw [bst_nx hh, bst_nc hp nc (Nat.le_refl _)]
    by_cases z : bst co' po' h e nc = -1
    · rw [if_pos z, if_pos z, if_pos z, if_pos z]; exact ⟨rfl, rfl⟩
    · rw [if_neg z, if_neg z, if_neg z, if_neg z, (hp (bst co' po' h e nc).toNat (by omega)).1]
      have i := ih (hdec h (bst co' po' h e nc).toNat) (e - co' (bst co' po' h e nc).toNat) (by have := hdec_le h (bst co' po' h e nc).toNat nc; omega)
      rw [i.1, i.2]; exact ⟨rfl, rfl⟩
theorem drw_nc {n nc : Nat} {cd : Nat → Nat} (hd : ∀ k, k < n → cd k < nc) : ∀ k s, s.1 nc ≤ 0 → (drw n cd k s).1 nc ≤ 0 := by
  intro k
  induction k with
  | zero => intro s h; exact h
  | succ k ih =>
    intro s h
    simp only [drw]
    split
    · rename_i q
      refine ih _ ?_
      show hinc s.1 (cd s.2) nc ≤ 0
      unfold hinc
      rw [if_neg (by have := hd _ q; omega)]; exact h
    · exact h
theorem pst_nc {nc : Nat} {co po co' po' : Nat → Int} {n : Nat} {cd : Nat → Nat} (hp : ∀ c, c < nc → co c = co' c ∧ po c = po' c) (hd : ∀ k, k < n → cd k < nc) : ∀ t, pst nc co po n cd t = pst (nc + 1) co' po' n cd t ∧ (pst nc co po n cd t).1 nc ≤ 0 := by
  intro t
  induction t with
  | zero => exact ⟨rfl, Int.le_refl _⟩
  | succ t ih =>
    have d := drw_nc hd (ndr t) _ ih.2
    simp only [pst]
    refine ⟨?_, ?_⟩
    · rw [← ih.1, (selL_nc hp 10 _ _ d).2]
    · exact Int.le_trans (selH_le 10 _ _ nc) d
theorem plL_nc {nc : Nat} {co po co' po' : Nat → Int} {n : Nat} {cd : Nat → Nat} (hp : ∀ c, c < nc → co c = co' c ∧ po c = po' c) (hd : ∀ k, k < n → cd k < nc) (t : Nat) : plL (nc + 1) co' po' n cd t = plL nc co po n cd t ∧ ∀ c, c ∈ plL nc co po n cd t → c < nc := by
  have p := pst_nc (co := co) (po := po) (co' := co') (po' := po') hp hd t
  have d := drw_nc hd (ndr t) _ p.2
  unfold plL
  rw [← p.1, (selL_nc hp 10 _ _ d).1]
  refine ⟨rfl, fun c hc => ?_⟩
  rw [← (selL_nc hp 10 _ _ d).1] at hc
  exact selL_mem _ _ _ _ _ _ c hc
theorem putL_sp {so po so' po' : Nat → Int} : ∀ l, (∀ c, c ∈ l → so c = so' c ∧ po c = po' c) → ∀ x, putL so po l x = putL so' po' l x := by
  intro l
  induction l with
  | nil => intro _ x; rfl
  | cons c l ih =>
    intro h x
    simp only [putL]
    rw [show put1 so po c x = put1 so' po' c x by unfold put1; rw [(h c List.mem_cons_self).1, (h c List.mem_cons_self).2], ih (fun c' hc => h c' (List.mem_cons_of_mem _ hc))]
theorem gRun_sp {so po so' po' : Nat → Int} {pa pb : Nat → List Nat} (ha : ∀ t c, c ∈ pa t → so c = so' c ∧ po c = po' c) (hb : ∀ t c, c ∈ pb t → so c = so' c ∧ po c = po' c) : ∀ n t g, gRun so po pa pb n t g = gRun so' po' pa pb n t g := by
  intro n
  induction n with
  | zero => intro t g; rfl
  | succ n ih =>
    intro t g
    have a : ∀ g, gA so po (pa t) g = gA so' po' (pa t) g := fun g => by unfold gA mv; rw [putL_sp (pa t) (ha t)]
    have b : ∀ g, gB so po (pb t) g = gB so' po' (pb t) g := fun g => by unfold gB mv; rw [putL_sp (pb t) (hb t)]
    simp only [gRun]
    rw [show gTurn so po (pa t) (pb t) g = gTurn so' po' (pa t) (pb t) g by unfold gTurn; rw [a, b], ih]
def cdM (M : ZM) (nc : Nat) (s c p : Int) : ZM := z_up (z_up (z_up (z_up M 2 nc s) 3 nc c) 4 nc p) 1 3 (nc + 1)
theorem cdM_k {M : ZM} {nc : Nat} {s c p : Int} {a b : Nat} (h2 : a ≠ 2) (h3 : a ≠ 3) (h4 : a ≠ 4) (h1 : ¬ (a = 1 ∧ b = 3)) : cdM M nc s c p a b = M a b := by
  unfold cdM
  simp only [z_up]
  rw [if_neg h1, if_neg (by omega), if_neg (by omega), if_neg (by omega)]
theorem cdM_2 {M : ZM} {nc : Nat} {s c p : Int} (b : Nat) : cdM M nc s c p 2 b = (if b = nc then s else M 2 b) ∧ cdM M nc s c p 3 b = (if b = nc then c else M 3 b) ∧ cdM M nc s c p 4 b = (if b = nc then p else M 4 b) := by
  unfold cdM
  simp only [z_up]
  refine ⟨?_, ?_, ?_⟩
  · rw [if_neg (by omega), if_neg (by omega), if_neg (by omega)]
    by_cases e : b = nc
    · rw [if_pos ⟨trivial, e⟩, if_pos e]
    · rw [if_neg (by omega), if_neg e]
  · rw [if_neg (by omega), if_neg (by omega)]
    by_cases e : b = nc
    · rw [if_pos ⟨trivial, e⟩, if_pos e]
    · rw [if_neg (by omega), if_neg (by omega), if_neg e]
  · rw [if_neg (by omega)]
    by_cases e : b = nc
    · rw [if_pos ⟨trivial, e⟩, if_pos e]
    · rw [if_neg (by omega), if_neg (by omega), if_neg (by omega), if_neg e]
theorem cdM_13 {M : ZM} {nc : Nat} {s c p : Int} : cdM M nc s c p 1 3 = (nc : Int) + 1 := z_up_s
theorem cdM_pl {M : ZM} (hM : cOk M) {nc : Nat} (hnc : M 1 3 = nc) {s c p : Int} {d : Nat} (hd : d < 5) (t : Nat) : cP (cdM M nc s c p) d t = cP M d t ∧ ∀ x, x ∈ cP M d t → x < nc := by
  have l := lo_eq (M := cdM M nc s c p) (MI := M) (d := d) (q := -1) (cdM_k (by omega) (by omega) (by omega) (by omega)) (funext fun b => cdM_k (by omega) (by omega) (by omega) (by omega))
  unfold cP
  rw [l.1, l.2, cdM_13, hnc, show ((nc : Int) + 1).toNat = nc + 1 by omega, show ((nc : Int)).toNat = nc by omega]
  refine plL_nc (fun x hx => ?_) (fun k hk => ?_) t
  · have := cdM_2 (M := M) (nc := nc) (s := s) (c := c) (p := p) x
    rw [this.2.1, this.2.2, if_neg (by omega), if_neg (by omega)]; exact ⟨rfl, rfl⟩
  · have us := hM.2.2.2.2.1 d hd
    have hk2 : k < (M (6 + 2 * d) 1).toNat := by simpa [loN] using hk
    have e : loC M d (-1) k = (M (7 + 2 * d) k).toNat := by simp [loC]
    have r := hM.2.2.2.2.2 d k hd (by omega)
    omega
theorem cdM_tab {M : ZM} (hM : cOk M) {nc : Nat} (hnc : M 1 3 = nc) {s c p : Int} {i j : Nat} (hi : i < 5) (hj : j < 5) : cTab (cdM M nc s c p) i j = cTab M i j := by
  have pi := cdM_pl hM hnc (s := s) (c := c) (p := p) hi
  have pj := cdM_pl hM hnc (s := s) (c := c) (p := p) hj
  have ei : cP (cdM M nc s c p) i = cP M i := funext fun t => (pi t).1
  have ej : cP (cdM M nc s c p) j = cP M j := funext fun t => (pj t).1
  have e9 : cdM M nc s c p 0 9 = M 0 9 := cdM_k (by omega) (by omega) (by omega) (by omega)
  have ag : ∀ x, x < nc → cdM M nc s c p 2 x = M 2 x ∧ cdM M nc s c p 4 x = M 4 x := fun x hx => by
    have := cdM_2 (M := M) (nc := nc) (s := s) (c := c) (p := p) x
    rw [this.1, this.2.2, if_neg (by omega), if_neg (by omega)]; exact ⟨rfl, rfl⟩
  unfold cTab cGame gGame
  rw [ei, ej, e9, gRun_sp (fun t x hx => ag x ((pi t).2 x hx)) (fun t x hx => ag x ((pj t).2 x hx)), gRun_sp (fun t x hx => ag x ((pj t).2 x hx)) (fun t x hx => ag x ((pi t).2 x hx))]
/-- what is known stays known where the decks play as before -/
theorem keep {M M' : ZM} (hM : cOk M) (h8 : M' 0 8 = M 0 8) (hP : ∀ d, d < 5 → cP M' d = cP M d) (hT : ∀ i j, i < 5 → j < 5 → cTab M' i j = cTab M i j) (hf : ∀ a b, 16 ≤ a → a < 90 → M' a b = M a b) (h10 : M' 0 10 = M 0 10) (h11 : M' 0 11 = M 0 11) : (cFix M → cFix M') ∧ (kn M → kn M') ∧ (mK M → mK M') := by
  have u4 := hM.2.1
  refine ⟨fun hF => ⟨fun p hp => by rw [hf _ _ (by have := hp.1; omega) (by have := hp.2.1; omega)]; exact hF.1 p hp, fun a ha => by rw [hf _ _ (by omega) (by omega), hf _ _ (by omega) (by omega)]; exact hF.2 a ha⟩, fun hk => ?_, fun hk => ?_⟩
  · rcases hk with q | ⟨q, k⟩
    · exact Or.inl (by rw [h10]; exact q)
    · refine Or.inr ⟨by rw [h10]; exact q, fun a ha => ?_, fun a b ha hb => ?_, ?_⟩
      · rw [h8] at ha
        rw [hP a (by omega)]
        exact plR_keep (k.1 a ha) (funext fun y => hf _ y (by omega) (by omega)) (funext fun y => hf _ y (by omega) (by omega))
      · rw [h8] at ha hb
        rw [hT a b (by omega) (by omega), hf _ _ (by omega) (by omega)]; exact k.2.1 a b ha hb
      · rw [h8, rgs_congr (U := cTab M) (fun i j h1 h2 => hT i j (by omega) (by omega))]
        exact ⟨by rw [hf _ _ (by omega) (by omega)]; exact k.2.2.1, fun i q hq => by rw [hf _ _ (by omega) (by omega), hf _ _ (by omega) (by omega), hf _ _ (by omega) (by omega)]; exact k.2.2.2 i q hq⟩
  · rcases hk with q | ⟨q, k⟩
    · exact Or.inl (by rw [h11]; exact q)
    · refine Or.inr ⟨by rw [h11]; exact q, ?_⟩
      have e28 : M' 28 = M 28 := funext fun b => hf _ _ (by omega) (by omega)
      unfold cMx
      rw [h8, e28, hf _ _ (by omega) (by omega), hf _ _ (by omega) (by omega)]
      exact ⟨k.1, k.2.1, mxI_cg (fun i j hi hj => (hT i j (by omega) (by omega)).symm) k.2.2.1, k.2.2.2⟩
def Inv (M : ZM) : Prop := cOk M ∧ cFix M ∧ kn M ∧ mK M ∧ rel M
theorem cl_90 {M M' : ZM} (h : ∀ a b, a < 90 → M' a b = M a b) (hM : cOk M) : cOk M' ∧ (cFix M → cFix M') ∧ (kn M → kn M') ∧ (mK M → mK M') := by
  have co : coC M M' := fun a b q1 _ => h a b (by omega)
  exact ⟨co.ok hM, keep hM (h _ _ (by omega)) (fun d hd => co.pl hd) (fun i j hi hj => co.tab hi hj) (fun a b _ q => h a b q) (h _ _ (by omega)) (h _ _ (by omega))⟩
/-- behind a question to both -/
theorem inv_q {M M1 M2 : ZM} (I : Inv M) (q : mF M M1) (F : cFix M1) (K : kn M1) (x : mK M1) (h : ∀ a b, a < 90 → M2 a b = M1 a b) (cm : coM M1 M2) : Inv M2 := by
  obtain ⟨ok, -, -, -, r0, r4, r7, ra, rs, rk⟩ := I
  have ok1 := q.co.ok ok
  have k := cl_90 h ok1
  have d : ∀ a b, a < 16 → ¬ (a = 0 ∧ (b = 10 ∨ b = 11)) → M2 a b = M a b := fun a b h1 h2 => (h a b (by omega)).trans (q a b h2 (Or.inl h1))
  have g : ∀ a b, 91 ≤ a → a ≤ 95 → M2 a b = M a b := fun a b h1 h2 => by rw [cm.1 a h1 h2]; exact q a b (by omega) (by omega)
  refine ⟨k.1, k.2.1 F, k.2.2.1 K, k.2.2.2 x, ?_, ?_, ?_, fun i => ?_, fun e he => ?_, fun e j he hj => ?_⟩
  · rw [cm.2.1, q _ _ (by omega) (by omega), d _ _ (by omega) (by omega)]; exact r0
  · rw [cm.2.2.1, q _ _ (by omega) (by omega), d _ _ (by omega) (by omega)]; exact r4
  · rw [cm.2.2.2, q _ _ (by omega) (by omega), d _ _ (by omega) (by omega)]; exact r7
  · rw [g 91 i (by omega) (by omega), g 92 i (by omega) (by omega), g 93 i (by omega) (by omega), d 2 i (by omega) (by omega), d 3 i (by omega) (by omega), d 4 i (by omega) (by omega)]; exact ra i
  · rw [g _ _ (by omega) (by omega), d _ _ (by omega) (by omega)]; exact rs e he
  · rw [g _ _ (by omega) (by omega), d _ _ (by omega) (by omega)]; exact rk e j he hj
/-- behind a change of both, whereby the class forgets what it knew -/
theorem inv_u {M M1 M2 : ZM} (hF : cFix M) (ok : cOk M1) (hf : ∀ a b, 16 ≤ a → a < 90 → M1 a b = M a b) (h10 : M1 0 10 = 0) (h11 : M1 0 11 = 0) (h : ∀ a b, a < 90 → M2 a b = M1 a b) (r : rel M2) : Inv M2 := by
  have k := cl_90 h ok
  have F1 : cFix M1 := ⟨fun p hp => by rw [hf _ _ (by have := hp.1; omega) (by have := hp.2.1; omega)]; exact hF.1 p hp, fun a ha => by rw [hf _ _ (by omega) (by omega), hf _ _ (by omega) (by omega)]; exact hF.2 a ha⟩
  exact ⟨k.1, k.2.1 F1, k.2.2.1 (Or.inl h10), k.2.2.2 (Or.inl h11), r⟩
theorem fgT_k {M : ZM} {a b : Nat} (h : ¬ (a = 0 ∧ (b = 10 ∨ b = 11))) : fgT M a b = M a b := by
  unfold fgT
  simp only [z_up]
  rw [if_neg (by omega), if_neg (by omega)]
theorem fgT_10 (M : ZM) : fgT M 0 10 = 0 ∧ fgT M 0 11 = 0 := ⟨by unfold fgT; rw [z_up_j (by decide), z_up_s], by unfold fgT; rw [z_up_s]⟩
theorem fgT_ok {M : ZM} (h : cOk M) : cOk (fgT M) := coC.ok (MI := M) (fun a b _ q => fgT_k q) h
