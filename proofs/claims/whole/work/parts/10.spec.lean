/-! GAMES, in mathematics -/
/-- the card that is played next: of the first k cards those in the hand h that the energy e buys; -1: none -/
def bst (co po h : Nat → Int) (e : Int) : Nat → Int
  | 0 => -1
  | k + 1 => if 0 < h k ∧ co k ≤ e then (if bst co po h e k = -1 ∨ co (bst co po h e k).toNat < co k ∨ (co k = co (bst co po h e k).toNat ∧ po (bst co po h e k).toNat < po k) then (k : Int) else bst co po h e k) else bst co po h e k
theorem bst_b (co po h : Nat → Int) (e : Int) : ∀ k, bst co po h e k = -1 ∨ (0 ≤ bst co po h e k ∧ bst co po h e k < k) := by
  intro k
  induction k with
  | zero => exact Or.inl rfl
  | succ k ih =>
    simp only [bst]
    split
    · split
      · omega
      · omega
    · omega
theorem bst_h (co po h : Nat → Int) (e : Int) : ∀ k, 0 ≤ bst co po h e k → 0 < h (bst co po h e k).toNat ∧ co (bst co po h e k).toNat ≤ e := by
  intro k
  induction k with
  | zero => intro q; simp [bst] at q
  | succ k ih =>
    simp only [bst]
    split
    · rename_i q
      split
      · intro _; simpa using q
      · exact ih
    · exact ih
/-- one card less, one more -/
def hdec (h : Nat → Int) (c : Nat) : Nat → Int := fun i => if i = c then h i - 1 else h i
def hinc (h : Nat → Int) (c : Nat) : Nat → Int := fun i => if i = c then h i + 1 else h i
/-- the cards played from the hand h with the energy e, and the hand that is left -/
def selL (nc : Nat) (co po : Nat → Int) : Nat → (Nat → Int) → Int → List Nat
  | 0, _, _ => []
  | n + 1, h, e => if bst co po h e nc = -1 then [] else (bst co po h e nc).toNat :: selL nc co po n (hdec h (bst co po h e nc).toNat) (e - co (bst co po h e nc).toNat)
def selH (nc : Nat) (co po : Nat → Int) : Nat → (Nat → Int) → Int → (Nat → Int)
  | 0, h, _ => h
  | n + 1, h, e => if bst co po h e nc = -1 then h else selH nc co po n (hdec h (bst co po h e nc).toNat) (e - co (bst co po h e nc).toNat)
/-- k cards more are drawn from the deck (n cards, cd), as far as it goes -/
def drw (n : Nat) (cd : Nat → Nat) : Nat → (Nat → Int) × Nat → (Nat → Int) × Nat
  | 0, s => s
  | k + 1, s => if s.2 < n then drw n cd k (hinc s.1 (cd s.2), s.2 + 1) else s
def ndr (t : Nat) : Nat := if t = 0 then 2 else 1
def eng (t : Nat) : Int := if t < 6 then (t : Int) else 6
/-- a deck's hand and how many it has drawn, behind TURN t -/
def pst (nc : Nat) (co po : Nat → Int) (n : Nat) (cd : Nat → Nat) : Nat → (Nat → Int) × Nat
  | 0 => (fun _ => 0, 0)
  | t + 1 => (selH nc co po 10 (drw n cd (ndr t) (pst nc co po n cd t)).1 (eng (t + 1)), (drw n cd (ndr t) (pst nc co po n cd t)).2)
/-- the cards that a deck plays in TURN t + 1 -/
def plL (nc : Nat) (co po : Nat → Int) (n : Nat) (cd : Nat → Nat) (t : Nat) : List Nat := selL nc co po 10 (drw n cd (ndr t) (pst nc co po n cd t)).1 (eng (t + 1))
/-- (the other one's LIFE, FIGHTERS, WALLS, cards played) behind a card -/
def put1 (so po : Nat → Int) (c : Nat) (x : Int × Int × Int × Int) : Int × Int × Int × Int :=
  if so c = 0 then (x.1, x.2.1 + po c, x.2.2.1, x.2.2.2 + 1) else if so c = 1 then (x.1 - po c, x.2.1, x.2.2.1, x.2.2.2 + 1) else (x.1, x.2.1, x.2.2.1 + po c, x.2.2.2 + 1)
def putL (so po : Nat → Int) : List Nat → Int × Int × Int × Int → Int × Int × Int × Int
  | [], x => x
  | c :: cs, x => if x.1 ≤ 0 then x else putL so po cs (put1 so po c x)
def hit (lo f wo : Int) : Int := if 0 < f - wo then lo - (f - wo) else lo
/-- a MOVE: of one's FIGHTERS, WALLS, cards played against the other one's LIFE and WALLS -/
def mv (so po : Nat → Int) (l : List Nat) (lo f w p wo : Int) : Int × Int × Int × Int := putL so po l (hit lo f wo, f, w, p)
/-- the state of a GAME: (LIFE a, LIFE b, (FIGHTERS, WALLS, played) of a, of b) -/
abbrev GS : Type := Int × Int × (Int × Int × Int) × (Int × Int × Int)
def gOver (g : GS) : Prop := g.1 ≤ 0 ∨ g.2.1 ≤ 0
def gA (so po : Nat → Int) (l : List Nat) (g : GS) : GS := (g.1, (mv so po l g.2.1 g.2.2.1.1 g.2.2.1.2.1 g.2.2.1.2.2 g.2.2.2.2.1).1, (mv so po l g.2.1 g.2.2.1.1 g.2.2.1.2.1 g.2.2.1.2.2 g.2.2.2.2.1).2, g.2.2.2)
def gB (so po : Nat → Int) (l : List Nat) (g : GS) : GS := ((mv so po l g.1 g.2.2.2.1 g.2.2.2.2.1 g.2.2.2.2.2 g.2.2.1.2.1).1, g.2.1, g.2.2.1, (mv so po l g.1 g.2.2.2.1 g.2.2.2.2.1 g.2.2.2.2.2 g.2.2.1.2.1).2)
/-- TURN t + 1 -/
def gTurn (so po : Nat → Int) (la lb : List Nat) (g : GS) : GS := if (gA so po la g).2.1 ≤ 0 then gA so po la g else gB so po lb (gA so po la g)
/-- n TURNS more, t are over: (the TURN, the state) at the end -/
def gRun (so po : Nat → Int) (pa pb : Nat → List Nat) : Nat → Nat → GS → Nat × GS
  | 0, t, g => (t, g)
  | n + 1, t, g => if g.1 ≤ 0 ∨ g.2.1 ≤ 0 then (t, g) else gRun so po pa pb n (t + 1) (gTurn so po (pa t) (pb t) g)
def g0 (lf : Int) : GS := (lf, lf, (0, 0, 0), (0, 0, 0))
def gGame (so po : Nat → Int) (pa pb : Nat → List Nat) (lf : Int) : Nat × GS := gRun so po pa pb 12 0 (g0 lf)
def gRes (g : GS) : Int := if g.2.1 < g.1 then 1 else if g.1 < g.2.1 then -1 else 0
/-! how large things get -/
def htot (h : Nat → Int) : Nat → Int
  | 0 => 0
  | k + 1 => htot h k + h k
theorem htot_0 {h : Nat → Int} (h0 : ∀ i, 0 ≤ h i) : ∀ k, 0 ≤ htot h k := by
  intro k
  induction k with
  | zero => exact Int.le_refl 0
  | succ k ih => have := h0 k; simp only [htot]; omega
theorem htot_le {h : Nat → Int} (h0 : ∀ i, 0 ≤ h i) : ∀ k i, i < k → h i ≤ htot h k := by
  intro k
  induction k with
  | zero => intro i hi; exact absurd hi (by omega)
  | succ k ih =>
    intro i hi
    simp only [htot]
    by_cases e : i = k
    · subst e; have := htot_0 h0 i; omega
    · have := ih i (by omega); have := h0 k; omega
theorem htot_dec (h : Nat → Int) (c : Nat) : ∀ k, htot (hdec h c) k = htot h k - (if c < k then 1 else 0) := by
  intro k
  induction k with
  | zero => simp [htot]
  | succ k ih =>
    simp only [htot, ih, hdec]
    by_cases e : k = c
    · subst e; simp; omega
    · rw [if_neg e]
      by_cases e2 : c < k
      · rw [if_pos e2, if_pos (by omega)]; omega
      · rw [if_neg e2, if_neg (by omega)]; omega
theorem htot_inc (h : Nat → Int) (c : Nat) : ∀ k, htot (hinc h c) k = htot h k + (if c < k then 1 else 0) := by
  intro k
  induction k with
  | zero => simp [htot]
  | succ k ih =>
    simp only [htot, ih, hinc]
    by_cases e : k = c
    · subst e; simp
      omega
    · rw [if_neg e]
      by_cases e2 : c < k
      · rw [if_pos e2, if_pos (by omega)]; omega
      · rw [if_neg e2, if_neg (by omega)]; omega
theorem selL_len (nc : Nat) (co po : Nat → Int) : ∀ n h e, (selL nc co po n h e).length ≤ n := by
  intro n
  induction n with
  | zero => intro h e; simp [selL]
  | succ n ih =>
    intro h e
    simp only [selL]
    split
    · simp
    · simp only [List.length_cons]; have := ih (hdec h (bst co po h e nc).toNat) (e - co (bst co po h e nc).toNat); omega
theorem selL_mem (nc : Nat) (co po : Nat → Int) : ∀ n h e, ∀ c ∈ selL nc co po n h e, c < nc := by
  intro n
  induction n with
  | zero => intro h e c hc; simp [selL] at hc
  | succ n ih =>
    intro h e c hc
    simp only [selL] at hc
    split at hc
    · simp at hc
    · rename_i q
      rcases List.mem_cons.mp hc with rfl | hc
      · have := bst_b co po h e nc; omega
      · exact ih _ _ c hc
/-- a state that a GAME can be in behind t TURNS -/
def gIn (t : Nat) (f w p : Int) : Prop := 0 ≤ f ∧ f ≤ 90 * t ∧ 0 ≤ w ∧ w ≤ 90 * t ∧ 0 ≤ p ∧ p ≤ 10 * t
