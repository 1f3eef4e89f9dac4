/-! the law's own frame -/
abbrev LX (p : Program) (l : Launch) (e : Env) (s : State) (m : MethodId) (below : List Frame) (meth : Method) (c : Code) (D : va_G) (Z : ZC) (b : Nat) : VX := (p, l, e, room_1, s, m, #[Value.ref b], below, meth, c, 4, D, Z, (fun q : Nat => s.heap.size ≤ q), lw_Z below #[Value.ref b] s)
section LAW
variable {p : Program} {l : Launch} {e : Env} {s : State} {m : MethodId} {below : List Frame} {meth : Method} {c : Code} {D : va_G} {Z : ZC} {b : Nat} {cs : Nat × Nat} {n : Nat} {Q : Nat → Nat} {MR : ZR} {MI ML : ZM} {pc : Nat} {lv : List (Nat × Value)} {st st0 : List Value} {L : Nat} {xs : Nat → Int32}
theorem w_sld (K : VK (LX p l e s m below meth c D Z b) cL_law RL 4 ret 11 426 600000 7302250) (hX : va_X b L xs s s.heap) (hbl : b < s.heap.size) {z : Int} (j : Nat) (hz : z = j) (hj : j < L) (hL : L ≤ 2048) (hd : decode cL_law pc = .ok (.iaload, 1)) (k : V (LX p l e s m below meth c D Z b) cs n Q MR MI ML (pc + 1) lv (.int (iI (xs j).toInt) :: st)) : V (LX p l e s m below meth c D Z b) cs n Q MR MI ML pc lv (.int (iI z) :: .ref b :: st) := by
  obtain ⟨kx, kb, km, -, ko, kt, kK, kr, kl, kA, -⟩ := K
  intro H locs ls hl hP hD hS
  subst hz
  have k9 := k H locs ls hl hP hD hS
  rw [iI_of] at k9
  refine va_sld kx kb hX hbl (Nat.not_le.mpr hbl) hS (iI_in hj (by omega)) hd ?_
  rw [iI_cl hj (by omega)]
  exact k9
theorem w_slen (K : VK (LX p l e s m below meth c D Z b) cL_law RL 4 ret 11 426 600000 7302250) (hX : va_X b L xs s s.heap) (hbl : b < s.heap.size) (hd : decode cL_law pc = .ok (.arraylength, 1)) (k : V (LX p l e s m below meth c D Z b) cs n Q MR MI ML (pc + 1) lv (.int (iI (L : Int)) :: st)) : V (LX p l e s m below meth c D Z b) cs n Q MR MI ML pc lv (.ref b :: st) := by
  obtain ⟨kx, kb, km, -, ko, kt, kK, kr, kl, kA, -⟩ := K
  intro H locs ls hl hP hD hS
  have k9 := k H locs ls hl hP hD hS
  rw [iI_N] at k9
  exact va_slen kx kb hX hbl (Nat.not_le.mpr hbl) hS hd k9
theorem w_ret (K : VK (LX p l e s m below meth c D Z b) cL_law RL 4 ret 11 426 600000 7302250) (hc : cs.1 ≤ 600000) (hs : cs.2 ≤ 7302250) (hd : decode cL_law pc = .ok (.ireturn, 1)) : V (LX p l e s m below meth c D Z b) cs n Q MR MI ML pc lv [.int (iI 1)] := by
  obtain ⟨kx, kb, km, -, ko, kt, kK, kr, kl, kA, -⟩ := K
  intro H locs ls hl hP hD hS
  refine va_forget (fun q hq => hS.2.2 q hq) ?_
  refine W.widen (k := 600000) (n := 7302250) hc hs ?_
  exact lw_ret kx kb kr kl hd
variable {X : VX} {cc : ByteArray} {own : String} {nL : Nat} {re : Option FieldType} {fr lo mc ms : Nat}
theorem w_same (K : VK X cc own nL re fr lo mc ms) {a off : Int} (tgt : Nat) (hd : decode cc pc = .ok (.if_icmp .eq off, 3)) (ht : (pc : Int) + off = (tgt : Int)) (kt : V X cs n Q MR MI ML tgt lv st) : V X cs n Q MR MI ML pc lv (.int (iI a) :: .int (iI a) :: st) := by
  obtain ⟨p, l, e, R, s, m, args, below, meth, c, nL2, D, Z, A, Qp⟩ := X
  obtain ⟨kx, kb, km, rfl, ko, kt9, kK, kr, kl, kA, rfl⟩ := K
  intro H locs ls hl hP hD hS
  exact lv_icmp_eq kx kb hd ht (fun _ => kt H locs ls hl hP hD hS) (fun q => absurd rfl q)
theorem w_lsame (K : VK X cc own nL re fr lo mc ms) {a off : Int} (tgt : Nat) (ha : rl a) (hd1 : decode cc pc = .ok (.lcmp, 1)) (hd : decode cc (pc + 1) = .ok (.ifCond .eq off, 3)) (ht : ((pc + 1 : Nat) : Int) + off = (tgt : Int)) (kt : V X cs n Q MR MI ML tgt lv st) : V X cs n Q MR MI ML pc lv (.long (lJ a) :: .long (lJ a) :: st) :=
  v_lcmp_eq K tgt ha ha hd1 hd ht (fun _ => kt) (fun q => absurd rfl q)
variable {y : MethodName} {cy : ByteArray} {nLy : Nat} {rety : Option FieldType} {fry loy na idx k0 c1 c2 : Nat} {As : List Value}
theorem w_cVi (K : VK X cc own nL re fr lo mc ms) {P : Int → ZM → ZM → Prop} (hM : CM X.2.1 y cy nLy rety fry loy 0 0 X.2.2.2.2.2.2.2.2.2.2.2.1 X.2.2.2.2.2.2.2.2.2.2.2.2.1 110 Q z_rf (.ref (Q k0) :: As) MI ML (zq Q (zI P))) (hst : st0 = As.reverse ++ .ref (Q k0) :: st) (f : FC own idx y cy nLy rety na) (fi : Cond.instanceMethod y ∈ wsL) (fs : Cond.selects y.cls y y ∈ wsL) (hb : k0 < 110) (ci : Nat) (hkd : z_kd k0 = ci) (hci : ci < 10) (hc : (vwCl[ci]?).map (fun q => q.1) = some y.cls) (hn : As.length = na) (hrm : fry + 1 ≤ fr ∧ 8 + (nLy + 11) + loy ≤ lo) (hcs : c1 ≤ mc ∧ c2 ≤ ms) (hw : (st.map fun v => v.category).sum ≤ 8) (hd : decode cc pc = .ok (.invokevirtual idx, 3))
    (kk : ∀ r M L, P r M L → V X (c1, c2) 110 Q z_rf M L (pc + 3) lv (.int (iI r) :: st)) : V X (c1, c2) 110 Q z_rf MI ML pc lv st0 := by
  subst hst
  refine v_callV K hM f fi fs hb ci hkd hci hc hn ⟨hrm.1, hrm.2, hcs.1, hcs.2⟩ hw hd ?_
  rintro v n' Q' MR' M L ⟨rfl, rfl, rfl, r, rfl, h⟩
  exact kk r M L h
theorem w_cVl (K : VK X cc own nL re fr lo mc ms) {P : Int → ZM → ZM → Prop} (hM : CM X.2.1 y cy nLy rety fry loy 0 0 X.2.2.2.2.2.2.2.2.2.2.2.1 X.2.2.2.2.2.2.2.2.2.2.2.2.1 110 Q z_rf (.ref (Q k0) :: As) MI ML (zq Q (zL P))) (hst : st0 = As.reverse ++ .ref (Q k0) :: st) (f : FC own idx y cy nLy rety na) (fi : Cond.instanceMethod y ∈ wsL) (fs : Cond.selects y.cls y y ∈ wsL) (hb : k0 < 110) (ci : Nat) (hkd : z_kd k0 = ci) (hci : ci < 10) (hc : (vwCl[ci]?).map (fun q => q.1) = some y.cls) (hn : As.length = na) (hrm : fry + 1 ≤ fr ∧ 8 + (nLy + 11) + loy ≤ lo) (hcs : c1 ≤ mc ∧ c2 ≤ ms) (hw : (st.map fun v => v.category).sum ≤ 8) (hd : decode cc pc = .ok (.invokevirtual idx, 3))
    (kk : ∀ r M L, P r M L → V X (c1, c2) 110 Q z_rf M L (pc + 3) lv (.long (lJ r) :: st)) : V X (c1, c2) 110 Q z_rf MI ML pc lv st0 := by
  subst hst
  refine v_callV K hM f fi fs hb ci hkd hci hc hn ⟨hrm.1, hrm.2, hcs.1, hcs.2⟩ hw hd ?_
  rintro v n' Q' MR' M L ⟨rfl, rfl, rfl, r, rfl, h⟩
  exact kk r M L h
end LAW
theorem share_rl {M M1 L0 L1 : ZM} {r1 d p : Int} (I : Inv M) (h1 : L1 = L0 ∧ mF M M1 ∧ cFix M1 ∧ kn M1 ∧ mK M1 ∧ ((¬ (0 ≤ d ∧ d < M 0 8 ∧ 0 ≤ p ∧ p ≤ 1) ∧ r1 = -2) ∨ ((0 ≤ d ∧ d < M 0 8 ∧ 0 ≤ p ∧ p ≤ 1) ∧ ∃ a b, mixR (cTab M) (M 0 8).toNat a b ∧ r1 = if p = 0 then a d.toNat else b d.toNat))) : rl r1 := by
  obtain ⟨-, -, -, -, -, g | ⟨o, a, b, ⟨z, hz, hr⟩, e⟩⟩ := h1
  · rw [g.2]; exact ⟨by decide, by decide⟩
  · have q := hr d.toNat (by omega)
    rw [e]
    split
    · exact ⟨by omega, by omega⟩
    · exact ⟨by omega, by omega⟩
theorem mok_90 {M M1 : ZM} (I : Inv M) (h : ∀ a b, 90 ≤ a → M1 a b = M a b) : mOk M1 := by
  have hm := I.2.2.2.2.mok I.1
  refine coM.ok (MI := M) ⟨fun k q1 q2 => funext fun b => h k b (by omega), h _ _ (by omega), h _ _ (by omega), h _ _ (by omega)⟩ hm
theorem a_card {M M1 L0 L1 : ZM} {r1 : Int} (I : Inv M) {s c p : Int} {nc : Nat} (hnc : M 1 3 = nc) (h1 : L1 = L0 ∧ ((r1 = -2 ∧ M1 = M ∧ ¬ (0 ≤ s ∧ s ≤ 2 ∧ 0 ≤ c ∧ c ≤ 5 ∧ 0 ≤ p ∧ p ≤ 9)) ∨ ((0 ≤ s ∧ s ≤ 2 ∧ 0 ≤ c ∧ c ≤ 5 ∧ 0 ≤ p ∧ p ≤ 9) ∧ ((nc = 12 ∧ r1 = -4 ∧ M1 = M) ∨ (nc < 12 ∧ r1 = nc ∧ M1 = z_up (z_up (z_up (z_up M 2 nc s) 3 nc c) 4 nc p) 1 3 (nc + 1)))))) : mOk M1 := by
  refine mok_90 I (fun a b h => ?_)
  rcases h1.2 with ⟨-, m, -⟩ | ⟨-, ⟨-, -, m⟩ | ⟨-, -, m⟩⟩
  · rw [m]
  · rw [m]
  · rw [m, z_up_k (by omega), z_up_k (by omega), z_up_k (by omega), z_up_k (by omega)]
theorem a_power {M M1 L0 L1 : ZM} {r1 : Int} (I : Inv M) {c v : Int} (h1 : L1 = L0 ∧ ((r1 = -2 ∧ M1 = M ∧ ¬ (0 ≤ c ∧ c < M 1 3 ∧ 0 ≤ v ∧ v ≤ 9)) ∨ ((0 ≤ c ∧ c < M 1 3 ∧ 0 ≤ v ∧ v ≤ 9) ∧ r1 = M 4 c.toNat ∧ M1 = fgT (z_up M 4 c.toNat v)))) : mOk M1 := by
  refine mok_90 I (fun a b h => ?_)
  rcases h1.2 with ⟨-, m, -⟩ | ⟨-, -, m⟩
  · rw [m]
  · rw [m, fgT_k (by omega), z_up_k (by omega)]
theorem a_deck {M M1 L0 L1 : ZM} {r1 : Int} (I : Inv M) {nd : Nat} (hnd : M 0 8 = nd) (h1 : L1 = L0 ∧ ((nd = 5 ∧ r1 = -4 ∧ M1 = M) ∨ (nd < 5 ∧ r1 = nd ∧ M1 = fgT (z_up M 0 8 (nd + 1))))) : mOk M1 := by
  refine mok_90 I (fun a b h => ?_)
  rcases h1.2 with ⟨-, -, m⟩ | ⟨-, -, m⟩
  · rw [m]
  · rw [m, fgT_k (by omega), z_up_k (by omega)]
theorem a_add {M M1 L0 L1 : ZM} {r1 : Int} (I : Inv M) {d c : Int} (h1 : L1 = L0 ∧ ((r1 = -2 ∧ M1 = M ∧ ¬ (0 ≤ d ∧ d < M 0 8 ∧ 0 ≤ c ∧ c < M 1 3)) ∨ ((0 ≤ d ∧ d < M 0 8 ∧ 0 ≤ c ∧ c < M 1 3) ∧ ((M (6 + 2 * d.toNat) 1 = 10 ∧ r1 = -4 ∧ M1 = M) ∨ (M (6 + 2 * d.toNat) 1 < 10 ∧ r1 = M (6 + 2 * d.toNat) 1 + 1 ∧ M1 = fgT (z_up (z_up M (7 + 2 * d.toNat) (M (6 + 2 * d.toNat) 1).toNat c) (6 + 2 * d.toNat) 1 (M (6 + 2 * d.toNat) 1 + 1))))))) : mOk M1 := by
  refine mok_90 I (fun a b h => ?_)
  rcases h1.2 with ⟨-, m, -⟩ | ⟨o, ⟨-, -, m⟩ | ⟨-, -, m⟩⟩
  · rw [m]
  · rw [m]
  · have := I.1.2.1
    rw [m, fgT_k (by omega), z_up_k (by omega), z_up_k (by omega)]
theorem a_drop {M M1 L0 L1 : ZM} {r1 : Int} (I : Inv M) {d k : Int} (h1 : L1 = L0 ∧ ((r1 = -2 ∧ M1 = M ∧ ¬ (0 ≤ d ∧ d < M 0 8 ∧ 0 ≤ k ∧ k < M (6 + 2 * d.toNat) 1)) ∨ ((0 ≤ d ∧ d < M 0 8 ∧ 0 ≤ k ∧ k < M (6 + 2 * d.toNat) 1) ∧ r1 = M (7 + 2 * d.toNat) k.toNat ∧ M1 = fgT (takM M d.toNat k.toNat)))) : mOk M1 := by
  refine mok_90 I (fun a b h => ?_)
  rcases h1.2 with ⟨-, m, -⟩ | ⟨o, -, m⟩
  · rw [m]
  · have := I.1.2.1
    rw [m, fgT_k (by omega)]
    unfold takM
    rw [z_up_k (by omega)]
    simp only [takK]
    rw [if_neg (by omega)]
theorem a_swap {M M1 L0 L1 : ZM} {r1 : Int} (I : Inv M) {d a b : Int} (h1 : L1 = L0 ∧ ((r1 = -2 ∧ M1 = M ∧ ¬ (0 ≤ d ∧ d < M 0 8 ∧ 0 ≤ a ∧ a < M (6 + 2 * d.toNat) 1 ∧ 0 ≤ b ∧ b < M (6 + 2 * d.toNat) 1)) ∨ ((0 ≤ d ∧ d < M 0 8 ∧ 0 ≤ a ∧ a < M (6 + 2 * d.toNat) 1 ∧ 0 ≤ b ∧ b < M (6 + 2 * d.toNat) 1) ∧ r1 = 1 ∧ M1 = fgT (z_up (z_up M (7 + 2 * d.toNat) a.toNat (M (7 + 2 * d.toNat) b.toNat)) (7 + 2 * d.toNat) b.toNat (M (7 + 2 * d.toNat) a.toNat))))) : mOk M1 := by
  refine mok_90 I (fun x y h => ?_)
  rcases h1.2 with ⟨-, m, -⟩ | ⟨o, -, m⟩
  · rw [m]
  · have := I.1.2.1
    rw [m, fgT_k (by omega), z_up_k (by omega), z_up_k (by omega)]
theorem a_at {M M1 L0 L1 : ZM} {r1 : Int} (I : Inv M) {d k : Int} (h1 : L1 = L0 ∧ M1 = M ∧ ((r1 = -2 ∧ ¬ (0 ≤ d ∧ d < M 0 8 ∧ 0 ≤ k)) ∨ ((0 ≤ d ∧ d < M 0 8 ∧ 0 ≤ k) ∧ ((k < M (6 + 2 * d.toNat) 1 ∧ r1 = M (7 + 2 * d.toNat) k.toNat) ∨ (M (6 + 2 * d.toNat) 1 ≤ k ∧ r1 = -1))))) : mOk M1 := by
  exact mok_90 I (fun a b h => by rw [h1.2.1])
theorem a_life {M M1 L0 L1 : ZM} {r1 : Int} (I : Inv M) {v : Int} (h1 : L1 = L0 ∧ ((r1 = -2 ∧ M1 = M ∧ ¬ (5 ≤ v ∧ v ≤ 40)) ∨ ((5 ≤ v ∧ v ≤ 40) ∧ r1 = M 0 9 ∧ M1 = fgT (z_up M 0 9 v)))) : mOk M1 := by
  refine mok_90 I (fun a b h => ?_)
  rcases h1.2 with ⟨-, m, -⟩ | ⟨-, -, m⟩
  · rw [m]
  · rw [m, fgT_k (by omega), z_up_k (by omega)]
theorem a_play {M M1 L0 L1 : ZM} {r1 : Int} (I : Inv M) {a b : Int} (h1 : L1 = L0 ∧ qF M M1 ∧ cFix M1 ∧ kn M1 ∧ ((¬ (0 ≤ a ∧ a < M 0 8 ∧ 0 ≤ b ∧ b < M 0 8) ∧ r1 = -2) ∨ ((0 ≤ a ∧ a < M 0 8 ∧ 0 ≤ b ∧ b < M 0 8) ∧ r1 = gRes (cGame M a.toNat b.toNat).2))) : mOk M1 := by
  exact mok_90 I (fun a b h => h1.2.1.m a b (by omega) (by omega))
theorem a_told {M M1 L0 L1 : ZM} {r1 : Int} (I : Inv M) {a b w : Int} (h1 : L1 = L0 ∧ qF M M1 ∧ cFix M1 ∧ kn M1 ∧ (((¬ (0 ≤ a ∧ a < M 0 8 ∧ 0 ≤ b ∧ b < M 0 8) ∨ w < 0 ∨ 4 < w) ∧ r1 = -2147483648) ∨ ((0 ≤ a ∧ a < M 0 8 ∧ 0 ≤ b ∧ b < M 0 8) ∧ ((w = 0 ∧ r1 = (cGame M a.toNat b.toNat).1) ∨ (w = 1 ∧ r1 = (cGame M a.toNat b.toNat).2.1) ∨ (w = 2 ∧ r1 = (cGame M a.toNat b.toNat).2.2.1) ∨ (w = 3 ∧ r1 = (cGame M a.toNat b.toNat).2.2.2.1.2.2) ∨ (w = 4 ∧ r1 = (cGame M a.toNat b.toNat).2.2.2.2.2.2))))) : mOk M1 := by
  exact mok_90 I (fun a b h => h1.2.1.m a b (by omega) (by omega))
theorem a_table {M M1 L0 L1 : ZM} {r1 : Int} (I : Inv M) {a b : Int} (h1 : L1 = L0 ∧ qF M M1 ∧ cFix M1 ∧ kn M1 ∧ ((¬ (0 ≤ a ∧ a < M 0 8 ∧ 0 ≤ b ∧ b < M 0 8) ∧ r1 = -2147483648) ∨ ((0 ≤ a ∧ a < M 0 8 ∧ 0 ≤ b ∧ b < M 0 8) ∧ r1 = cTab M a.toNat b.toNat))) : mOk M1 := by
  exact mok_90 I (fun a b h => h1.2.1.m a b (by omega) (by omega))
theorem a_rings {M M1 L0 L1 : ZM} {r1 : Int} (I : Inv M)  (h1 : L1 = L0 ∧ qF M M1 ∧ cFix M1 ∧ kn M1 ∧ r1 = (rgs (cTab M) (M 0 8).toNat).length) : mOk M1 := by
  exact mok_90 I (fun a b h => h1.2.1.m a b (by omega) (by omega))
theorem a_ring {M M1 L0 L1 : ZM} {r1 : Int} (I : Inv M) {k j : Int} (h1 : L1 = L0 ∧ qF M M1 ∧ cFix M1 ∧ kn M1 ∧ ((¬ (0 ≤ k ∧ k < (rgs (cTab M) (M 0 8).toNat).length ∧ 0 ≤ j ∧ j ≤ 2) ∧ r1 = -2) ∨ ((0 ≤ k ∧ k < (rgs (cTab M) (M 0 8).toNat).length ∧ 0 ≤ j ∧ j ≤ 2) ∧ (∃ q, (rgs (cTab M) (M 0 8).toNat)[k.toNat]? = some q ∧ ((j = 0 ∧ r1 = q.1) ∨ (j = 1 ∧ r1 = q.2.1) ∨ (j = 2 ∧ r1 = q.2.2)))))) : mOk M1 := by
  exact mok_90 I (fun a b h => h1.2.1.m a b (by omega) (by omega))
theorem a_share {M M1 L0 L1 : ZM} {r1 : Int} (I : Inv M) {d p : Int} (h1 : L1 = L0 ∧ mF M M1 ∧ cFix M1 ∧ kn M1 ∧ mK M1 ∧ ((¬ (0 ≤ d ∧ d < M 0 8 ∧ 0 ≤ p ∧ p ≤ 1) ∧ r1 = -2) ∨ ((0 ≤ d ∧ d < M 0 8 ∧ 0 ≤ p ∧ p ≤ 1) ∧ ∃ a b, mixR (cTab M) (M 0 8).toNat a b ∧ r1 = if p = 0 then a d.toNat else b d.toNat))) : mOk M1 := by
  exact mok_90 I (fun a b h => h1.2.1 a b (by omega) (by omega))
theorem a_live {M M1 L0 L1 : ZM} {r1 : Int} (I : Inv M)  (h1 : L1 = L0 ∧ mF M M1 ∧ cFix M1 ∧ kn M1 ∧ mK M1 ∧ ((M 0 8 = 0 ∧ r1 = -3) ∨ (0 < M 0 8 ∧ ∃ z, mxI (cTab M) (M 0 8).toNat z ∧ r1 = sumK (fun q => if 0 < z q then 1 else 0) (M 0 8).toNat))) : mOk M1 := by
  exact mok_90 I (fun a b h => h1.2.1 a b (by omega) (by omega))
theorem a_standing {M M1 L0 L1 : ZM} {r1 : Int} (I : Inv M) {d : Int} (h1 : L1 = L0 ∧ qF M M1 ∧ cFix M1 ∧ kn M1 ∧ ((¬ (0 ≤ d ∧ d < M 0 8) ∧ r1 = -2147483648) ∨ ((0 ≤ d ∧ d < M 0 8) ∧ r1 = sumK (fun b => cTab M d.toNat b) (M 0 8).toNat))) : mOk M1 := by
  exact mok_90 I (fun a b h => h1.2.1.m a b (by omega) (by omega))
theorem a_worth {M M1 L0 L1 : ZM} {r1 : Int} (I : Inv M) {d c : Int} (h1 : L1 = L0 ∧ qF M M1 ∧ cFix M1 ∧ kn M1 ∧ ((¬ ((0 ≤ d ∧ d < M 0 8 ∧ 0 ≤ c ∧ c < M 1 3) ∧ fpl (M (7 + 2 * d.toNat)) c (M (6 + 2 * d.toNat) 1).toNat ≠ -1) ∧ r1 = -2147483648) ∨ (((0 ≤ d ∧ d < M 0 8 ∧ 0 ≤ c ∧ c < M 1 3) ∧ fpl (M (7 + 2 * d.toNat)) c (M (6 + 2 * d.toNat) 1).toNat ≠ -1) ∧ r1 = sumK (fun b => cTab M d.toNat b) (M 0 8).toNat - sumK (wTab M d.toNat (fpl (M (7 + 2 * d.toNat)) c (M (6 + 2 * d.toNat) 1).toNat)) (M 0 8).toNat))) : mOk M1 := by
  exact mok_90 I (fun a b h => h1.2.1.m a b (by omega) (by omega))
theorem a_idle {M M1 L0 L1 : ZM} {r1 : Int} (I : Inv M) {d c : Int} (h1 : L1 = L0 ∧ qF M M1 ∧ cFix M1 ∧ kn M1 ∧ ((¬ (0 ≤ d ∧ d < M 0 8 ∧ 0 ≤ c ∧ c < M 1 3) ∧ r1 = -2) ∨ ((0 ≤ d ∧ d < M 0 8 ∧ 0 ≤ c ∧ c < M 1 3) ∧ fpl (M (7 + 2 * d.toNat)) c (M (6 + 2 * d.toNat) 1).toNat = -1 ∧ r1 = -3) ∨ ((0 ≤ d ∧ d < M 0 8 ∧ 0 ≤ c ∧ c < M 1 3) ∧ fpl (M (7 + 2 * d.toNat)) c (M (6 + 2 * d.toNat) 1).toNat ≠ -1 ∧ ((r1 = 1 ∧ ∀ b, b < (M 0 8).toNat → wTab M d.toNat (fpl (M (7 + 2 * d.toNat)) c (M (6 + 2 * d.toNat) 1).toNat) b = cTab M d.toNat b) ∨ (r1 = 0 ∧ ∃ b, b < (M 0 8).toNat ∧ wTab M d.toNat (fpl (M (7 + 2 * d.toNat)) c (M (6 + 2 * d.toNat) 1).toNat) b ≠ cTab M d.toNat b))))) : mOk M1 := by
  exact mok_90 I (fun a b h => h1.2.1.m a b (by omega) (by omega))
theorem a_remedy {M M1 L0 L1 : ZM} {r1 : Int} (I : Inv M) {u v : Int} (h1 : L1 = L0 ∧ mF M M1 ∧ cFix M1 ∧ kn M1 ∧ mK M1 ∧ ((¬ (1 ≤ v ∧ v ≤ 20 ∧ 1 ≤ u ∧ u ≤ v) ∧ r1 = -2) ∨ ((1 ≤ v ∧ v ≤ 20 ∧ 1 ≤ u ∧ u ≤ v) ∧ M 0 8 = 0 ∧ r1 = -3) ∨ ((1 ≤ v ∧ v ≤ 20 ∧ 1 ≤ u ∧ u ≤ v) ∧ 0 < M 0 8 ∧ rmF (rmC M u v) (pvC M) (M 1 3).toNat r1))) : mOk M1 := by
  exact mok_90 I (fun a b h => h1.2.1 a b (by omega) (by omega))
theorem a_count {M M1 L0 L1 : ZM} {r1 : Int} (I : Inv M) {w : Int} (h1 : L1 = L0 ∧ M1 = M ∧ ((w = 0 ∧ r1 = M 1 3) ∨ (w = 1 ∧ r1 = M 0 8) ∨ (w = 2 ∧ r1 = sumK (fun d => M (6 + 2 * d) 1) (M 0 8).toNat) ∨ (w = 3 ∧ r1 = M 0 9) ∨ ((w < 0 ∨ 3 < w) ∧ r1 = -2))) : mOk M1 := by
  exact mok_90 I (fun a b h => by rw [h1.2.1])
set_option maxRecDepth 100000 in
set_option maxHeartbeats 4000000 in
theorem l_law_card {p : Program} {l : Launch} {e : Env} {s : State} {m : MethodId} {below : List Frame} {meth : Method} {c : Code} {D : va_G} {Z : ZC} {b : Nat} {Q : Nat → Nat} {L : Nat} {xs : Nat → Int32} (K : VK (LX p l e s m below meth c D Z b) cL_law RL 4 ret 11 426 600000 7302250) (hX : va_X b L xs s s.heap) (hbl : b < s.heap.size) (hL : L ≤ 2048) (i : Nat) (hi : i + 4 ≤ L) (M L0 : ZM) (I : Inv M) (kk : ∀ M L, Inv M → V (LX p l e s m below meth c D Z b) (110, 2984) 110 Q z_rf M L 729 [(3, .int (iI (i : Int))), (2, .ref (Q 90)), (1, .ref (Q 0)), (0, .ref b)] []) : V (LX p l e s m below meth c D Z b) (110, 2984) 110 Q z_rf M L0 128 [(3, .int (iI (i : Int))), (2, .ref (Q 90)), (1, .ref (Q 0)), (0, .ref b)] [] := by
  refine v_aload_n K 2 dL_law_128 rfl rfl ?_
  refine v_aload_n K 3 dL_law_129 rfl rfl ?_
  refine v_iload_n K 0 dL_law_130 rfl rfl ?_
  refine v_iconst K dL_law_131 ?_
  refine v_iadd K dL_law_132 ?_
  refine w_sld K hX hbl (i + 1) (by omega) (by omega) hL dL_law_133 ?_
  refine v_aload_n K 3 dL_law_134 rfl rfl ?_
  refine v_iload_n K 0 dL_law_135 rfl rfl ?_
  refine v_iconst K dL_law_136 ?_
  refine v_iadd K dL_law_137 ?_
  refine w_sld K hX hbl (i + 2) (by omega) (by omega) hL dL_law_138 ?_
  refine v_aload_n K 3 dL_law_139 rfl rfl ?_
  refine v_iload_n K 0 dL_law_140 rfl rfl ?_
  refine v_iconst K dL_law_141 ?_
  refine v_iadd K dL_law_142 ?_
  refine w_sld K hX hbl (i + 3) (by omega) (by omega) hL dL_law_143 ?_
  refine w_cVi K (c_X8_card I.1 _ _ _ (rg_of _) (rg_of _) (rg_of _) (M 1 3).toNat (by have := I.1.1; omega)) rfl fc_L_13 wm_X8_card ws_X8_card (by decide) 8 rfl (by decide) rfl rfl ⟨Nat.le_of_ble_eq_true rfl, Nat.le_of_ble_eq_true rfl⟩ ⟨Nat.le_of_ble_eq_true rfl, Nat.le_of_ble_eq_true rfl⟩ (Nat.le_of_ble_eq_true rfl) dL_law_144 (fun r1 M1 L1 h1 => ?_)
  have J1 : mOk M1 := a_card I (by have := I.1.1; omega) h1
  refine v_aload_n K 1 dL_law_147 rfl rfl ?_
  refine v_aload_n K 3 dL_law_148 rfl rfl ?_
  refine v_iload_n K 0 dL_law_149 rfl rfl ?_
  refine v_iconst K dL_law_150 ?_
  refine v_iadd K dL_law_151 ?_
  refine w_sld K hX hbl (i + 1) (by omega) (by omega) hL dL_law_152 ?_
  refine v_aload_n K 3 dL_law_153 rfl rfl ?_
  refine v_iload_n K 0 dL_law_154 rfl rfl ?_
  refine v_iconst K dL_law_155 ?_
  refine v_iadd K dL_law_156 ?_
  refine w_sld K hX hbl (i + 2) (by omega) (by omega) hL dL_law_157 ?_
  refine v_aload_n K 3 dL_law_158 rfl rfl ?_
  refine v_iload_n K 0 dL_law_159 rfl rfl ?_
  refine v_iconst K dL_law_160 ?_
  refine v_iadd K dL_law_161 ?_
  refine w_sld K hX hbl (i + 3) (by omega) (by omega) hL dL_law_162 ?_
  refine w_cVi K (c_X9_card J1 _ _ _ (rg_of _) (rg_of _) (rg_of _) (M1 90 0).toNat (by have := J1.1; omega)) rfl fc_L_17 wm_X9_card ws_X9_card (by decide) 9 rfl (by decide) rfl rfl ⟨Nat.le_of_ble_eq_true rfl, Nat.le_of_ble_eq_true rfl⟩ ⟨Nat.le_of_ble_eq_true rfl, Nat.le_of_ble_eq_true rfl⟩ (Nat.le_of_ble_eq_true rfl) dL_law_163 (fun r2 M2 L2 h2 => ?_)
  obtain ⟨rfl, I2⟩ := b_card I (nc := (M 1 3).toNat) (ncm := (M1 90 0).toNat) (by have := I.1.1; omega) (by have := J1.1; omega) h1 h2
  refine w_same K 729 dL_law_166 (by decide) ?_
  exact kk M2 L2 I2
set_option maxRecDepth 100000 in
set_option maxHeartbeats 4000000 in
theorem l_law_power {p : Program} {l : Launch} {e : Env} {s : State} {m : MethodId} {below : List Frame} {meth : Method} {c : Code} {D : va_G} {Z : ZC} {b : Nat} {Q : Nat → Nat} {L : Nat} {xs : Nat → Int32} (K : VK (LX p l e s m below meth c D Z b) cL_law RL 4 ret 11 426 600000 7302250) (hX : va_X b L xs s s.heap) (hbl : b < s.heap.size) (hL : L ≤ 2048) (i : Nat) (hi : i + 4 ≤ L) (M L0 : ZM) (I : Inv M) (kk : ∀ M L, Inv M → V (LX p l e s m below meth c D Z b) (110, 2984) 110 Q z_rf M L 729 [(3, .int (iI (i : Int))), (2, .ref (Q 90)), (1, .ref (Q 0)), (0, .ref b)] []) : V (LX p l e s m below meth c D Z b) (110, 2984) 110 Q z_rf M L0 171 [(3, .int (iI (i : Int))), (2, .ref (Q 90)), (1, .ref (Q 0)), (0, .ref b)] [] := by
  refine v_aload_n K 2 dL_law_171 rfl rfl ?_
  refine v_aload_n K 3 dL_law_172 rfl rfl ?_
  refine v_iload_n K 0 dL_law_173 rfl rfl ?_
  refine v_iconst K dL_law_174 ?_
  refine v_iadd K dL_law_175 ?_
  refine w_sld K hX hbl (i + 1) (by omega) (by omega) hL dL_law_176 ?_
  refine v_aload_n K 3 dL_law_177 rfl rfl ?_
  refine v_iload_n K 0 dL_law_178 rfl rfl ?_
  refine v_iconst K dL_law_179 ?_
  refine v_iadd K dL_law_180 ?_
  refine w_sld K hX hbl (i + 2) (by omega) (by omega) hL dL_law_181 ?_
  refine w_cVi K (c_X8_power I.1 _ _ (rg_of _) (rg_of _)) rfl fc_L_18 wm_X8_power ws_X8_power (by decide) 8 rfl (by decide) rfl rfl ⟨Nat.le_of_ble_eq_true rfl, Nat.le_of_ble_eq_true rfl⟩ ⟨Nat.le_of_ble_eq_true rfl, Nat.le_of_ble_eq_true rfl⟩ (Nat.le_of_ble_eq_true rfl) dL_law_182 (fun r1 M1 L1 h1 => ?_)
  have J1 : mOk M1 := a_power I h1
  refine v_aload_n K 1 dL_law_185 rfl rfl ?_
  refine v_aload_n K 3 dL_law_186 rfl rfl ?_
  refine v_iload_n K 0 dL_law_187 rfl rfl ?_
  refine v_iconst K dL_law_188 ?_
  refine v_iadd K dL_law_189 ?_
  refine w_sld K hX hbl (i + 1) (by omega) (by omega) hL dL_law_190 ?_
  refine v_aload_n K 3 dL_law_191 rfl rfl ?_
  refine v_iload_n K 0 dL_law_192 rfl rfl ?_
  refine v_iconst K dL_law_193 ?_
  refine v_iadd K dL_law_194 ?_
  refine w_sld K hX hbl (i + 2) (by omega) (by omega) hL dL_law_195 ?_
  refine w_cVi K (c_X9_power J1 _ _ (rg_of _) (rg_of _)) rfl fc_L_22 wm_X9_power ws_X9_power (by decide) 9 rfl (by decide) rfl rfl ⟨Nat.le_of_ble_eq_true rfl, Nat.le_of_ble_eq_true rfl⟩ ⟨Nat.le_of_ble_eq_true rfl, Nat.le_of_ble_eq_true rfl⟩ (Nat.le_of_ble_eq_true rfl) dL_law_196 (fun r2 M2 L2 h2 => ?_)
  obtain ⟨rfl, I2⟩ := b_power (L2 := L2) I h1 h2
  refine w_same K 729 dL_law_199 (by decide) ?_
  exact kk M2 L2 I2
set_option maxRecDepth 100000 in
set_option maxHeartbeats 4000000 in
theorem l_law_deck {p : Program} {l : Launch} {e : Env} {s : State} {m : MethodId} {below : List Frame} {meth : Method} {c : Code} {D : va_G} {Z : ZC} {b : Nat} {Q : Nat → Nat} {L : Nat} {xs : Nat → Int32} (K : VK (LX p l e s m below meth c D Z b) cL_law RL 4 ret 11 426 600000 7302250) (hX : va_X b L xs s s.heap) (hbl : b < s.heap.size) (hL : L ≤ 2048) (i : Nat) (hi : i + 4 ≤ L) (M L0 : ZM) (I : Inv M) (kk : ∀ M L, Inv M → V (LX p l e s m below meth c D Z b) (110, 2984) 110 Q z_rf M L 729 [(3, .int (iI (i : Int))), (2, .ref (Q 90)), (1, .ref (Q 0)), (0, .ref b)] []) : V (LX p l e s m below meth c D Z b) (110, 2984) 110 Q z_rf M L0 204 [(3, .int (iI (i : Int))), (2, .ref (Q 90)), (1, .ref (Q 0)), (0, .ref b)] [] := by
  refine v_aload_n K 2 dL_law_204 rfl rfl ?_
  refine w_cVi K (c_X8_deck I.1 (M 0 8).toNat (by have := I.1.2.1; omega)) rfl fc_L_23 wm_X8_deck ws_X8_deck (by decide) 8 rfl (by decide) rfl rfl ⟨Nat.le_of_ble_eq_true rfl, Nat.le_of_ble_eq_true rfl⟩ ⟨Nat.le_of_ble_eq_true rfl, Nat.le_of_ble_eq_true rfl⟩ (Nat.le_of_ble_eq_true rfl) dL_law_205 (fun r1 M1 L1 h1 => ?_)
  have J1 : mOk M1 := a_deck I (by have := I.1.2.1; omega) h1
  refine v_aload_n K 1 dL_law_208 rfl rfl ?_
  refine w_cVi K (c_X9_deck J1 (M1 90 4).toNat (by have := J1.2.1; omega)) rfl fc_L_27 wm_X9_deck ws_X9_deck (by decide) 9 rfl (by decide) rfl rfl ⟨Nat.le_of_ble_eq_true rfl, Nat.le_of_ble_eq_true rfl⟩ ⟨Nat.le_of_ble_eq_true rfl, Nat.le_of_ble_eq_true rfl⟩ (Nat.le_of_ble_eq_true rfl) dL_law_209 (fun r2 M2 L2 h2 => ?_)
  obtain ⟨rfl, I2⟩ := b_deck I (nd := (M 0 8).toNat) (ndm := (M1 90 4).toNat) (by have := I.1.2.1; omega) (by have := J1.2.1; omega) h1 h2
  refine w_same K 729 dL_law_212 (by decide) ?_
  exact kk M2 L2 I2
set_option maxRecDepth 100000 in
set_option maxHeartbeats 4000000 in
theorem l_law_add {p : Program} {l : Launch} {e : Env} {s : State} {m : MethodId} {below : List Frame} {meth : Method} {c : Code} {D : va_G} {Z : ZC} {b : Nat} {Q : Nat → Nat} {L : Nat} {xs : Nat → Int32} (K : VK (LX p l e s m below meth c D Z b) cL_law RL 4 ret 11 426 600000 7302250) (hX : va_X b L xs s s.heap) (hbl : b < s.heap.size) (hL : L ≤ 2048) (i : Nat) (hi : i + 4 ≤ L) (M L0 : ZM) (I : Inv M) (kk : ∀ M L, Inv M → V (LX p l e s m below meth c D Z b) (110, 2984) 110 Q z_rf M L 729 [(3, .int (iI (i : Int))), (2, .ref (Q 90)), (1, .ref (Q 0)), (0, .ref b)] []) : V (LX p l e s m below meth c D Z b) (110, 2984) 110 Q z_rf M L0 217 [(3, .int (iI (i : Int))), (2, .ref (Q 90)), (1, .ref (Q 0)), (0, .ref b)] [] := by
  refine v_aload_n K 2 dL_law_217 rfl rfl ?_
  refine v_aload_n K 3 dL_law_218 rfl rfl ?_
  refine v_iload_n K 0 dL_law_219 rfl rfl ?_
  refine v_iconst K dL_law_220 ?_
  refine v_iadd K dL_law_221 ?_
  refine w_sld K hX hbl (i + 1) (by omega) (by omega) hL dL_law_222 ?_
  refine v_aload_n K 3 dL_law_223 rfl rfl ?_
  refine v_iload_n K 0 dL_law_224 rfl rfl ?_
  refine v_iconst K dL_law_225 ?_
  refine v_iadd K dL_law_226 ?_
  refine w_sld K hX hbl (i + 2) (by omega) (by omega) hL dL_law_227 ?_
  refine w_cVi K (c_X8_add I.1 _ _ (rg_of _) (rg_of _)) rfl fc_L_28 wm_X8_add ws_X8_add (by decide) 8 rfl (by decide) rfl rfl ⟨Nat.le_of_ble_eq_true rfl, Nat.le_of_ble_eq_true rfl⟩ ⟨Nat.le_of_ble_eq_true rfl, Nat.le_of_ble_eq_true rfl⟩ (Nat.le_of_ble_eq_true rfl) dL_law_228 (fun r1 M1 L1 h1 => ?_)
  have J1 : mOk M1 := a_add I h1
  refine v_aload_n K 1 dL_law_231 rfl rfl ?_
  refine v_aload_n K 3 dL_law_232 rfl rfl ?_
  refine v_iload_n K 0 dL_law_233 rfl rfl ?_
  refine v_iconst K dL_law_234 ?_
  refine v_iadd K dL_law_235 ?_
  refine w_sld K hX hbl (i + 1) (by omega) (by omega) hL dL_law_236 ?_
  refine v_aload_n K 3 dL_law_237 rfl rfl ?_
  refine v_iload_n K 0 dL_law_238 rfl rfl ?_
  refine v_iconst K dL_law_239 ?_
  refine v_iadd K dL_law_240 ?_
  refine w_sld K hX hbl (i + 2) (by omega) (by omega) hL dL_law_241 ?_
  refine w_cVi K (c_X9_add J1 _ _ (rg_of _) (rg_of _)) rfl fc_L_31 wm_X9_add ws_X9_add (by decide) 9 rfl (by decide) rfl rfl ⟨Nat.le_of_ble_eq_true rfl, Nat.le_of_ble_eq_true rfl⟩ ⟨Nat.le_of_ble_eq_true rfl, Nat.le_of_ble_eq_true rfl⟩ (Nat.le_of_ble_eq_true rfl) dL_law_242 (fun r2 M2 L2 h2 => ?_)
  obtain ⟨rfl, I2⟩ := b_add (L2 := L2) I h1 h2
  refine w_same K 729 dL_law_245 (by decide) ?_
  exact kk M2 L2 I2
set_option maxRecDepth 100000 in
set_option maxHeartbeats 4000000 in
theorem l_law_drop {p : Program} {l : Launch} {e : Env} {s : State} {m : MethodId} {below : List Frame} {meth : Method} {c : Code} {D : va_G} {Z : ZC} {b : Nat} {Q : Nat → Nat} {L : Nat} {xs : Nat → Int32} (K : VK (LX p l e s m below meth c D Z b) cL_law RL 4 ret 11 426 600000 7302250) (hX : va_X b L xs s s.heap) (hbl : b < s.heap.size) (hL : L ≤ 2048) (i : Nat) (hi : i + 4 ≤ L) (M L0 : ZM) (I : Inv M) (kk : ∀ M L, Inv M → V (LX p l e s m below meth c D Z b) (110, 2984) 110 Q z_rf M L 729 [(3, .int (iI (i : Int))), (2, .ref (Q 90)), (1, .ref (Q 0)), (0, .ref b)] []) : V (LX p l e s m below meth c D Z b) (110, 2984) 110 Q z_rf M L0 250 [(3, .int (iI (i : Int))), (2, .ref (Q 90)), (1, .ref (Q 0)), (0, .ref b)] [] := by
  refine v_aload_n K 2 dL_law_250 rfl rfl ?_
  refine v_aload_n K 3 dL_law_251 rfl rfl ?_
  refine v_iload_n K 0 dL_law_252 rfl rfl ?_
  refine v_iconst K dL_law_253 ?_
  refine v_iadd K dL_law_254 ?_
  refine w_sld K hX hbl (i + 1) (by omega) (by omega) hL dL_law_255 ?_
  refine v_aload_n K 3 dL_law_256 rfl rfl ?_
  refine v_iload_n K 0 dL_law_257 rfl rfl ?_
  refine v_iconst K dL_law_258 ?_
  refine v_iadd K dL_law_259 ?_
  refine w_sld K hX hbl (i + 2) (by omega) (by omega) hL dL_law_260 ?_
  refine w_cVi K (c_X8_drop I.1 _ _ (rg_of _) (rg_of _)) rfl fc_L_32 wm_X8_drop ws_X8_drop (by decide) 8 rfl (by decide) rfl rfl ⟨Nat.le_of_ble_eq_true rfl, Nat.le_of_ble_eq_true rfl⟩ ⟨Nat.le_of_ble_eq_true rfl, Nat.le_of_ble_eq_true rfl⟩ (Nat.le_of_ble_eq_true rfl) dL_law_261 (fun r1 M1 L1 h1 => ?_)
  have J1 : mOk M1 := a_drop I h1
  refine v_aload_n K 1 dL_law_264 rfl rfl ?_
  refine v_aload_n K 3 dL_law_265 rfl rfl ?_
  refine v_iload_n K 0 dL_law_266 rfl rfl ?_
  refine v_iconst K dL_law_267 ?_
  refine v_iadd K dL_law_268 ?_
  refine w_sld K hX hbl (i + 1) (by omega) (by omega) hL dL_law_269 ?_
  refine v_aload_n K 3 dL_law_270 rfl rfl ?_
  refine v_iload_n K 0 dL_law_271 rfl rfl ?_
  refine v_iconst K dL_law_272 ?_
  refine v_iadd K dL_law_273 ?_
  refine w_sld K hX hbl (i + 2) (by omega) (by omega) hL dL_law_274 ?_
  refine w_cVi K (c_X9_drop J1 _ _ (rg_of _) (rg_of _)) rfl fc_L_35 wm_X9_drop ws_X9_drop (by decide) 9 rfl (by decide) rfl rfl ⟨Nat.le_of_ble_eq_true rfl, Nat.le_of_ble_eq_true rfl⟩ ⟨Nat.le_of_ble_eq_true rfl, Nat.le_of_ble_eq_true rfl⟩ (Nat.le_of_ble_eq_true rfl) dL_law_275 (fun r2 M2 L2 h2 => ?_)
  obtain ⟨rfl, I2⟩ := b_drop (L2 := L2) I h1 h2
  refine w_same K 729 dL_law_278 (by decide) ?_
  exact kk M2 L2 I2
set_option maxRecDepth 100000 in
set_option maxHeartbeats 4000000 in
theorem l_law_swap {p : Program} {l : Launch} {e : Env} {s : State} {m : MethodId} {below : List Frame} {meth : Method} {c : Code} {D : va_G} {Z : ZC} {b : Nat} {Q : Nat → Nat} {L : Nat} {xs : Nat → Int32} (K : VK (LX p l e s m below meth c D Z b) cL_law RL 4 ret 11 426 600000 7302250) (hX : va_X b L xs s s.heap) (hbl : b < s.heap.size) (hL : L ≤ 2048) (i : Nat) (hi : i + 4 ≤ L) (M L0 : ZM) (I : Inv M) (kk : ∀ M L, Inv M → V (LX p l e s m below meth c D Z b) (110, 2984) 110 Q z_rf M L 729 [(3, .int (iI (i : Int))), (2, .ref (Q 90)), (1, .ref (Q 0)), (0, .ref b)] []) : V (LX p l e s m below meth c D Z b) (110, 2984) 110 Q z_rf M L0 283 [(3, .int (iI (i : Int))), (2, .ref (Q 90)), (1, .ref (Q 0)), (0, .ref b)] [] := by
  refine v_aload_n K 2 dL_law_283 rfl rfl ?_
  refine v_aload_n K 3 dL_law_284 rfl rfl ?_
  refine v_iload_n K 0 dL_law_285 rfl rfl ?_
  refine v_iconst K dL_law_286 ?_
  refine v_iadd K dL_law_287 ?_
  refine w_sld K hX hbl (i + 1) (by omega) (by omega) hL dL_law_288 ?_
  refine v_aload_n K 3 dL_law_289 rfl rfl ?_
  refine v_iload_n K 0 dL_law_290 rfl rfl ?_
  refine v_iconst K dL_law_291 ?_
  refine v_iadd K dL_law_292 ?_
  refine w_sld K hX hbl (i + 2) (by omega) (by omega) hL dL_law_293 ?_
  refine v_aload_n K 3 dL_law_294 rfl rfl ?_
  refine v_iload_n K 0 dL_law_295 rfl rfl ?_
  refine v_iconst K dL_law_296 ?_
  refine v_iadd K dL_law_297 ?_
  refine w_sld K hX hbl (i + 3) (by omega) (by omega) hL dL_law_298 ?_
  refine w_cVi K (c_X8_swap I.1 _ _ _ (rg_of _) (rg_of _) (rg_of _)) rfl fc_L_36 wm_X8_swap ws_X8_swap (by decide) 8 rfl (by decide) rfl rfl ⟨Nat.le_of_ble_eq_true rfl, Nat.le_of_ble_eq_true rfl⟩ ⟨Nat.le_of_ble_eq_true rfl, Nat.le_of_ble_eq_true rfl⟩ (Nat.le_of_ble_eq_true rfl) dL_law_299 (fun r1 M1 L1 h1 => ?_)
  have J1 : mOk M1 := a_swap I h1
  refine v_aload_n K 1 dL_law_302 rfl rfl ?_
  refine v_aload_n K 3 dL_law_303 rfl rfl ?_
  refine v_iload_n K 0 dL_law_304 rfl rfl ?_
  refine v_iconst K dL_law_305 ?_
  refine v_iadd K dL_law_306 ?_
  refine w_sld K hX hbl (i + 1) (by omega) (by omega) hL dL_law_307 ?_
  refine v_aload_n K 3 dL_law_308 rfl rfl ?_
  refine v_iload_n K 0 dL_law_309 rfl rfl ?_
  refine v_iconst K dL_law_310 ?_
  refine v_iadd K dL_law_311 ?_
  refine w_sld K hX hbl (i + 2) (by omega) (by omega) hL dL_law_312 ?_
  refine v_aload_n K 3 dL_law_313 rfl rfl ?_
  refine v_iload_n K 0 dL_law_314 rfl rfl ?_
  refine v_iconst K dL_law_315 ?_
  refine v_iadd K dL_law_316 ?_
  refine w_sld K hX hbl (i + 3) (by omega) (by omega) hL dL_law_317 ?_
  refine w_cVi K (c_X9_swap J1 _ _ _ (rg_of _) (rg_of _) (rg_of _)) rfl fc_L_39 wm_X9_swap ws_X9_swap (by decide) 9 rfl (by decide) rfl rfl ⟨Nat.le_of_ble_eq_true rfl, Nat.le_of_ble_eq_true rfl⟩ ⟨Nat.le_of_ble_eq_true rfl, Nat.le_of_ble_eq_true rfl⟩ (Nat.le_of_ble_eq_true rfl) dL_law_318 (fun r2 M2 L2 h2 => ?_)
  obtain ⟨rfl, I2⟩ := b_swap (L2 := L2) I h1 h2
  refine w_same K 729 dL_law_321 (by decide) ?_
  exact kk M2 L2 I2
set_option maxRecDepth 100000 in
set_option maxHeartbeats 4000000 in
theorem l_law_at {p : Program} {l : Launch} {e : Env} {s : State} {m : MethodId} {below : List Frame} {meth : Method} {c : Code} {D : va_G} {Z : ZC} {b : Nat} {Q : Nat → Nat} {L : Nat} {xs : Nat → Int32} (K : VK (LX p l e s m below meth c D Z b) cL_law RL 4 ret 11 426 600000 7302250) (hX : va_X b L xs s s.heap) (hbl : b < s.heap.size) (hL : L ≤ 2048) (i : Nat) (hi : i + 4 ≤ L) (M L0 : ZM) (I : Inv M) (kk : ∀ M L, Inv M → V (LX p l e s m below meth c D Z b) (110, 2984) 110 Q z_rf M L 729 [(3, .int (iI (i : Int))), (2, .ref (Q 90)), (1, .ref (Q 0)), (0, .ref b)] []) : V (LX p l e s m below meth c D Z b) (110, 2984) 110 Q z_rf M L0 326 [(3, .int (iI (i : Int))), (2, .ref (Q 90)), (1, .ref (Q 0)), (0, .ref b)] [] := by
  refine v_aload_n K 2 dL_law_326 rfl rfl ?_
  refine v_aload_n K 3 dL_law_327 rfl rfl ?_
  refine v_iload_n K 0 dL_law_328 rfl rfl ?_
  refine v_iconst K dL_law_329 ?_
  refine v_iadd K dL_law_330 ?_
  refine w_sld K hX hbl (i + 1) (by omega) (by omega) hL dL_law_331 ?_
  refine v_aload_n K 3 dL_law_332 rfl rfl ?_
  refine v_iload_n K 0 dL_law_333 rfl rfl ?_
  refine v_iconst K dL_law_334 ?_
  refine v_iadd K dL_law_335 ?_
  refine w_sld K hX hbl (i + 2) (by omega) (by omega) hL dL_law_336 ?_
  refine w_cVi K (c_X8_at I.1 _ _ (rg_of _) (rg_of _)) rfl fc_L_40 wm_X8_at ws_X8_at (by decide) 8 rfl (by decide) rfl rfl ⟨Nat.le_of_ble_eq_true rfl, Nat.le_of_ble_eq_true rfl⟩ ⟨Nat.le_of_ble_eq_true rfl, Nat.le_of_ble_eq_true rfl⟩ (Nat.le_of_ble_eq_true rfl) dL_law_337 (fun r1 M1 L1 h1 => ?_)
  have J1 : mOk M1 := a_at I h1
  refine v_aload_n K 1 dL_law_340 rfl rfl ?_
  refine v_aload_n K 3 dL_law_341 rfl rfl ?_
  refine v_iload_n K 0 dL_law_342 rfl rfl ?_
  refine v_iconst K dL_law_343 ?_
  refine v_iadd K dL_law_344 ?_
  refine w_sld K hX hbl (i + 1) (by omega) (by omega) hL dL_law_345 ?_
  refine v_aload_n K 3 dL_law_346 rfl rfl ?_
  refine v_iload_n K 0 dL_law_347 rfl rfl ?_
  refine v_iconst K dL_law_348 ?_
  refine v_iadd K dL_law_349 ?_
  refine w_sld K hX hbl (i + 2) (by omega) (by omega) hL dL_law_350 ?_
  refine w_cVi K (c_X9_at J1 _ _ (rg_of _) (rg_of _)) rfl fc_L_43 wm_X9_at ws_X9_at (by decide) 9 rfl (by decide) rfl rfl ⟨Nat.le_of_ble_eq_true rfl, Nat.le_of_ble_eq_true rfl⟩ ⟨Nat.le_of_ble_eq_true rfl, Nat.le_of_ble_eq_true rfl⟩ (Nat.le_of_ble_eq_true rfl) dL_law_351 (fun r2 M2 L2 h2 => ?_)
  obtain ⟨rfl, I2⟩ := b_at (L2 := L2) I h1 h2
  refine w_same K 729 dL_law_354 (by decide) ?_
  exact kk M2 L2 I2
set_option maxRecDepth 100000 in
set_option maxHeartbeats 4000000 in
theorem l_law_life {p : Program} {l : Launch} {e : Env} {s : State} {m : MethodId} {below : List Frame} {meth : Method} {c : Code} {D : va_G} {Z : ZC} {b : Nat} {Q : Nat → Nat} {L : Nat} {xs : Nat → Int32} (K : VK (LX p l e s m below meth c D Z b) cL_law RL 4 ret 11 426 600000 7302250) (hX : va_X b L xs s s.heap) (hbl : b < s.heap.size) (hL : L ≤ 2048) (i : Nat) (hi : i + 4 ≤ L) (M L0 : ZM) (I : Inv M) (kk : ∀ M L, Inv M → V (LX p l e s m below meth c D Z b) (110, 2984) 110 Q z_rf M L 729 [(3, .int (iI (i : Int))), (2, .ref (Q 90)), (1, .ref (Q 0)), (0, .ref b)] []) : V (LX p l e s m below meth c D Z b) (110, 2984) 110 Q z_rf M L0 359 [(3, .int (iI (i : Int))), (2, .ref (Q 90)), (1, .ref (Q 0)), (0, .ref b)] [] := by
  refine v_aload_n K 2 dL_law_359 rfl rfl ?_
  refine v_aload_n K 3 dL_law_360 rfl rfl ?_
  refine v_iload_n K 0 dL_law_361 rfl rfl ?_
  refine v_iconst K dL_law_362 ?_
  refine v_iadd K dL_law_363 ?_
  refine w_sld K hX hbl (i + 1) (by omega) (by omega) hL dL_law_364 ?_
  refine w_cVi K (c_X8_life _ (rg_of _)) rfl fc_L_44 wm_X8_life ws_X8_life (by decide) 8 rfl (by decide) rfl rfl ⟨Nat.le_of_ble_eq_true rfl, Nat.le_of_ble_eq_true rfl⟩ ⟨Nat.le_of_ble_eq_true rfl, Nat.le_of_ble_eq_true rfl⟩ (Nat.le_of_ble_eq_true rfl) dL_law_365 (fun r1 M1 L1 h1 => ?_)
  have J1 : mOk M1 := a_life I h1
  refine v_aload_n K 1 dL_law_368 rfl rfl ?_
  refine v_aload_n K 3 dL_law_369 rfl rfl ?_
  refine v_iload_n K 0 dL_law_370 rfl rfl ?_
  refine v_iconst K dL_law_371 ?_
  refine v_iadd K dL_law_372 ?_
  refine w_sld K hX hbl (i + 1) (by omega) (by omega) hL dL_law_373 ?_
  refine w_cVi K (c_X9_life _ (rg_of _)) rfl fc_L_48 wm_X9_life ws_X9_life (by decide) 9 rfl (by decide) rfl rfl ⟨Nat.le_of_ble_eq_true rfl, Nat.le_of_ble_eq_true rfl⟩ ⟨Nat.le_of_ble_eq_true rfl, Nat.le_of_ble_eq_true rfl⟩ (Nat.le_of_ble_eq_true rfl) dL_law_374 (fun r2 M2 L2 h2 => ?_)
  obtain ⟨rfl, I2⟩ := b_life (L2 := L2) I h1 h2
  refine w_same K 729 dL_law_377 (by decide) ?_
  exact kk M2 L2 I2
set_option maxRecDepth 100000 in
set_option maxHeartbeats 4000000 in
theorem l_law_play {p : Program} {l : Launch} {e : Env} {s : State} {m : MethodId} {below : List Frame} {meth : Method} {c : Code} {D : va_G} {Z : ZC} {b : Nat} {Q : Nat → Nat} {L : Nat} {xs : Nat → Int32} (K : VK (LX p l e s m below meth c D Z b) cL_law RL 4 ret 11 426 600000 7302250) (hX : va_X b L xs s s.heap) (hbl : b < s.heap.size) (hL : L ≤ 2048) (i : Nat) (hi : i + 4 ≤ L) (M L0 : ZM) (I : Inv M) (kk : ∀ M L, Inv M → V (LX p l e s m below meth c D Z b) (110, 2984) 110 Q z_rf M L 729 [(3, .int (iI (i : Int))), (2, .ref (Q 90)), (1, .ref (Q 0)), (0, .ref b)] []) : V (LX p l e s m below meth c D Z b) (110, 2984) 110 Q z_rf M L0 382 [(3, .int (iI (i : Int))), (2, .ref (Q 90)), (1, .ref (Q 0)), (0, .ref b)] [] := by
  refine v_aload_n K 2 dL_law_382 rfl rfl ?_
  refine v_aload_n K 3 dL_law_383 rfl rfl ?_
  refine v_iload_n K 0 dL_law_384 rfl rfl ?_
  refine v_iconst K dL_law_385 ?_
  refine v_iadd K dL_law_386 ?_
  refine w_sld K hX hbl (i + 1) (by omega) (by omega) hL dL_law_387 ?_
  refine v_aload_n K 3 dL_law_388 rfl rfl ?_
  refine v_iload_n K 0 dL_law_389 rfl rfl ?_
  refine v_iconst K dL_law_390 ?_
  refine v_iadd K dL_law_391 ?_
  refine w_sld K hX hbl (i + 2) (by omega) (by omega) hL dL_law_392 ?_
  refine w_cVi K (c_X8_play I.1 I.2.1 I.2.2.1 _ _ (rg_of _) (rg_of _)) rfl fc_L_49 wm_X8_play ws_X8_play (by decide) 8 rfl (by decide) rfl rfl ⟨Nat.le_of_ble_eq_true rfl, Nat.le_of_ble_eq_true rfl⟩ ⟨Nat.le_of_ble_eq_true rfl, Nat.le_of_ble_eq_true rfl⟩ (Nat.le_of_ble_eq_true rfl) dL_law_393 (fun r1 M1 L1 h1 => ?_)
  have J1 : mOk M1 := a_play I h1
  refine v_aload_n K 1 dL_law_396 rfl rfl ?_
  refine v_aload_n K 3 dL_law_397 rfl rfl ?_
  refine v_iload_n K 0 dL_law_398 rfl rfl ?_
  refine v_iconst K dL_law_399 ?_
  refine v_iadd K dL_law_400 ?_
  refine w_sld K hX hbl (i + 1) (by omega) (by omega) hL dL_law_401 ?_
  refine v_aload_n K 3 dL_law_402 rfl rfl ?_
  refine v_iload_n K 0 dL_law_403 rfl rfl ?_
  refine v_iconst K dL_law_404 ?_
  refine v_iadd K dL_law_405 ?_
  refine w_sld K hX hbl (i + 2) (by omega) (by omega) hL dL_law_406 ?_
  refine w_cVi K (c_X9_play J1 _ _ (rg_of _) (rg_of _)) rfl fc_L_52 wm_X9_play ws_X9_play (by decide) 9 rfl (by decide) rfl rfl ⟨Nat.le_of_ble_eq_true rfl, Nat.le_of_ble_eq_true rfl⟩ ⟨Nat.le_of_ble_eq_true rfl, Nat.le_of_ble_eq_true rfl⟩ (Nat.le_of_ble_eq_true rfl) dL_law_407 (fun r2 M2 L2 h2 => ?_)
  obtain ⟨rfl, I2⟩ := b_play (L2 := L2) I h1 h2
  refine w_same K 729 dL_law_410 (by decide) ?_
  exact kk M2 L2 I2
set_option maxRecDepth 100000 in
set_option maxHeartbeats 4000000 in
theorem l_law_told {p : Program} {l : Launch} {e : Env} {s : State} {m : MethodId} {below : List Frame} {meth : Method} {c : Code} {D : va_G} {Z : ZC} {b : Nat} {Q : Nat → Nat} {L : Nat} {xs : Nat → Int32} (K : VK (LX p l e s m below meth c D Z b) cL_law RL 4 ret 11 426 600000 7302250) (hX : va_X b L xs s s.heap) (hbl : b < s.heap.size) (hL : L ≤ 2048) (i : Nat) (hi : i + 4 ≤ L) (M L0 : ZM) (I : Inv M) (kk : ∀ M L, Inv M → V (LX p l e s m below meth c D Z b) (110, 2984) 110 Q z_rf M L 729 [(3, .int (iI (i : Int))), (2, .ref (Q 90)), (1, .ref (Q 0)), (0, .ref b)] []) : V (LX p l e s m below meth c D Z b) (110, 2984) 110 Q z_rf M L0 415 [(3, .int (iI (i : Int))), (2, .ref (Q 90)), (1, .ref (Q 0)), (0, .ref b)] [] := by
  refine v_aload_n K 2 dL_law_415 rfl rfl ?_
  refine v_aload_n K 3 dL_law_416 rfl rfl ?_
  refine v_iload_n K 0 dL_law_417 rfl rfl ?_
  refine v_iconst K dL_law_418 ?_
  refine v_iadd K dL_law_419 ?_
  refine w_sld K hX hbl (i + 1) (by omega) (by omega) hL dL_law_420 ?_
  refine v_aload_n K 3 dL_law_421 rfl rfl ?_
  refine v_iload_n K 0 dL_law_422 rfl rfl ?_
  refine v_iconst K dL_law_423 ?_
  refine v_iadd K dL_law_424 ?_
  refine w_sld K hX hbl (i + 2) (by omega) (by omega) hL dL_law_425 ?_
  refine v_aload_n K 3 dL_law_426 rfl rfl ?_
  refine v_iload_n K 0 dL_law_427 rfl rfl ?_
  refine v_iconst K dL_law_428 ?_
  refine v_iadd K dL_law_429 ?_
  refine w_sld K hX hbl (i + 3) (by omega) (by omega) hL dL_law_430 ?_
  refine w_cVi K (c_X8_told I.1 I.2.1 I.2.2.1 _ _ _ (rg_of _) (rg_of _) (rg_of _)) rfl fc_L_53 wm_X8_told ws_X8_told (by decide) 8 rfl (by decide) rfl rfl ⟨Nat.le_of_ble_eq_true rfl, Nat.le_of_ble_eq_true rfl⟩ ⟨Nat.le_of_ble_eq_true rfl, Nat.le_of_ble_eq_true rfl⟩ (Nat.le_of_ble_eq_true rfl) dL_law_431 (fun r1 M1 L1 h1 => ?_)
  have J1 : mOk M1 := a_told I h1
  refine v_aload_n K 1 dL_law_434 rfl rfl ?_
  refine v_aload_n K 3 dL_law_435 rfl rfl ?_
  refine v_iload_n K 0 dL_law_436 rfl rfl ?_
  refine v_iconst K dL_law_437 ?_
  refine v_iadd K dL_law_438 ?_
  refine w_sld K hX hbl (i + 1) (by omega) (by omega) hL dL_law_439 ?_
  refine v_aload_n K 3 dL_law_440 rfl rfl ?_
  refine v_iload_n K 0 dL_law_441 rfl rfl ?_
  refine v_iconst K dL_law_442 ?_
  refine v_iadd K dL_law_443 ?_
  refine w_sld K hX hbl (i + 2) (by omega) (by omega) hL dL_law_444 ?_
  refine v_aload_n K 3 dL_law_445 rfl rfl ?_
  refine v_iload_n K 0 dL_law_446 rfl rfl ?_
  refine v_iconst K dL_law_447 ?_
  refine v_iadd K dL_law_448 ?_
  refine w_sld K hX hbl (i + 3) (by omega) (by omega) hL dL_law_449 ?_
  refine w_cVi K (c_X9_told J1 _ _ _ (rg_of _) (rg_of _) (rg_of _)) rfl fc_L_56 wm_X9_told ws_X9_told (by decide) 9 rfl (by decide) rfl rfl ⟨Nat.le_of_ble_eq_true rfl, Nat.le_of_ble_eq_true rfl⟩ ⟨Nat.le_of_ble_eq_true rfl, Nat.le_of_ble_eq_true rfl⟩ (Nat.le_of_ble_eq_true rfl) dL_law_450 (fun r2 M2 L2 h2 => ?_)
  obtain ⟨rfl, I2⟩ := b_told (L2 := L2) I h1 h2
  refine w_same K 729 dL_law_453 (by decide) ?_
  exact kk M2 L2 I2
set_option maxRecDepth 100000 in
set_option maxHeartbeats 4000000 in
theorem l_law_table {p : Program} {l : Launch} {e : Env} {s : State} {m : MethodId} {below : List Frame} {meth : Method} {c : Code} {D : va_G} {Z : ZC} {b : Nat} {Q : Nat → Nat} {L : Nat} {xs : Nat → Int32} (K : VK (LX p l e s m below meth c D Z b) cL_law RL 4 ret 11 426 600000 7302250) (hX : va_X b L xs s s.heap) (hbl : b < s.heap.size) (hL : L ≤ 2048) (i : Nat) (hi : i + 4 ≤ L) (M L0 : ZM) (I : Inv M) (kk : ∀ M L, Inv M → V (LX p l e s m below meth c D Z b) (110, 2984) 110 Q z_rf M L 729 [(3, .int (iI (i : Int))), (2, .ref (Q 90)), (1, .ref (Q 0)), (0, .ref b)] []) : V (LX p l e s m below meth c D Z b) (110, 2984) 110 Q z_rf M L0 458 [(3, .int (iI (i : Int))), (2, .ref (Q 90)), (1, .ref (Q 0)), (0, .ref b)] [] := by
  refine v_aload_n K 2 dL_law_458 rfl rfl ?_
  refine v_aload_n K 3 dL_law_459 rfl rfl ?_
  refine v_iload_n K 0 dL_law_460 rfl rfl ?_
  refine v_iconst K dL_law_461 ?_
  refine v_iadd K dL_law_462 ?_
  refine w_sld K hX hbl (i + 1) (by omega) (by omega) hL dL_law_463 ?_
  refine v_aload_n K 3 dL_law_464 rfl rfl ?_
  refine v_iload_n K 0 dL_law_465 rfl rfl ?_
  refine v_iconst K dL_law_466 ?_
  refine v_iadd K dL_law_467 ?_
  refine w_sld K hX hbl (i + 2) (by omega) (by omega) hL dL_law_468 ?_
  refine w_cVi K (c_X8_table I.1 I.2.1 I.2.2.1 _ _ (rg_of _) (rg_of _)) rfl fc_L_57 wm_X8_table ws_X8_table (by decide) 8 rfl (by decide) rfl rfl ⟨Nat.le_of_ble_eq_true rfl, Nat.le_of_ble_eq_true rfl⟩ ⟨Nat.le_of_ble_eq_true rfl, Nat.le_of_ble_eq_true rfl⟩ (Nat.le_of_ble_eq_true rfl) dL_law_469 (fun r1 M1 L1 h1 => ?_)
  have J1 : mOk M1 := a_table I h1
  refine v_aload_n K 1 dL_law_472 rfl rfl ?_
  refine v_aload_n K 3 dL_law_473 rfl rfl ?_
  refine v_iload_n K 0 dL_law_474 rfl rfl ?_
  refine v_iconst K dL_law_475 ?_
  refine v_iadd K dL_law_476 ?_
  refine w_sld K hX hbl (i + 1) (by omega) (by omega) hL dL_law_477 ?_
  refine v_aload_n K 3 dL_law_478 rfl rfl ?_
  refine v_iload_n K 0 dL_law_479 rfl rfl ?_
  refine v_iconst K dL_law_480 ?_
  refine v_iadd K dL_law_481 ?_
  refine w_sld K hX hbl (i + 2) (by omega) (by omega) hL dL_law_482 ?_
  refine w_cVi K (c_X9_table J1 _ _ (rg_of _) (rg_of _)) rfl fc_L_60 wm_X9_table ws_X9_table (by decide) 9 rfl (by decide) rfl rfl ⟨Nat.le_of_ble_eq_true rfl, Nat.le_of_ble_eq_true rfl⟩ ⟨Nat.le_of_ble_eq_true rfl, Nat.le_of_ble_eq_true rfl⟩ (Nat.le_of_ble_eq_true rfl) dL_law_483 (fun r2 M2 L2 h2 => ?_)
  obtain ⟨rfl, I2⟩ := b_table (L2 := L2) I h1 h2
  refine w_same K 729 dL_law_486 (by decide) ?_
  exact kk M2 L2 I2
set_option maxRecDepth 100000 in
set_option maxHeartbeats 4000000 in
theorem l_law_rings {p : Program} {l : Launch} {e : Env} {s : State} {m : MethodId} {below : List Frame} {meth : Method} {c : Code} {D : va_G} {Z : ZC} {b : Nat} {Q : Nat → Nat} {L : Nat} {xs : Nat → Int32} (K : VK (LX p l e s m below meth c D Z b) cL_law RL 4 ret 11 426 600000 7302250) (hX : va_X b L xs s s.heap) (hbl : b < s.heap.size) (hL : L ≤ 2048) (i : Nat) (hi : i + 4 ≤ L) (M L0 : ZM) (I : Inv M) (kk : ∀ M L, Inv M → V (LX p l e s m below meth c D Z b) (110, 2984) 110 Q z_rf M L 729 [(3, .int (iI (i : Int))), (2, .ref (Q 90)), (1, .ref (Q 0)), (0, .ref b)] []) : V (LX p l e s m below meth c D Z b) (110, 2984) 110 Q z_rf M L0 491 [(3, .int (iI (i : Int))), (2, .ref (Q 90)), (1, .ref (Q 0)), (0, .ref b)] [] := by
  refine v_aload_n K 2 dL_law_491 rfl rfl ?_
  refine w_cVi K (c_X8_rings I.1 I.2.1 I.2.2.1 ) rfl fc_L_61 wm_X8_rings ws_X8_rings (by decide) 8 rfl (by decide) rfl rfl ⟨Nat.le_of_ble_eq_true rfl, Nat.le_of_ble_eq_true rfl⟩ ⟨Nat.le_of_ble_eq_true rfl, Nat.le_of_ble_eq_true rfl⟩ (Nat.le_of_ble_eq_true rfl) dL_law_492 (fun r1 M1 L1 h1 => ?_)
  have J1 : mOk M1 := a_rings I h1
  refine v_aload_n K 1 dL_law_495 rfl rfl ?_
  refine w_cVi K (c_X9_rings J1 ) rfl fc_L_64 wm_X9_rings ws_X9_rings (by decide) 9 rfl (by decide) rfl rfl ⟨Nat.le_of_ble_eq_true rfl, Nat.le_of_ble_eq_true rfl⟩ ⟨Nat.le_of_ble_eq_true rfl, Nat.le_of_ble_eq_true rfl⟩ (Nat.le_of_ble_eq_true rfl) dL_law_496 (fun r2 M2 L2 h2 => ?_)
  obtain ⟨rfl, I2⟩ := b_rings (L2 := L2) I h1 h2
  refine w_same K 729 dL_law_499 (by decide) ?_
  exact kk M2 L2 I2
set_option maxRecDepth 100000 in
set_option maxHeartbeats 4000000 in
theorem l_law_ring {p : Program} {l : Launch} {e : Env} {s : State} {m : MethodId} {below : List Frame} {meth : Method} {c : Code} {D : va_G} {Z : ZC} {b : Nat} {Q : Nat → Nat} {L : Nat} {xs : Nat → Int32} (K : VK (LX p l e s m below meth c D Z b) cL_law RL 4 ret 11 426 600000 7302250) (hX : va_X b L xs s s.heap) (hbl : b < s.heap.size) (hL : L ≤ 2048) (i : Nat) (hi : i + 4 ≤ L) (M L0 : ZM) (I : Inv M) (kk : ∀ M L, Inv M → V (LX p l e s m below meth c D Z b) (110, 2984) 110 Q z_rf M L 729 [(3, .int (iI (i : Int))), (2, .ref (Q 90)), (1, .ref (Q 0)), (0, .ref b)] []) : V (LX p l e s m below meth c D Z b) (110, 2984) 110 Q z_rf M L0 504 [(3, .int (iI (i : Int))), (2, .ref (Q 90)), (1, .ref (Q 0)), (0, .ref b)] [] := by
  refine v_aload_n K 2 dL_law_504 rfl rfl ?_
  refine v_aload_n K 3 dL_law_505 rfl rfl ?_
  refine v_iload_n K 0 dL_law_506 rfl rfl ?_
  refine v_iconst K dL_law_507 ?_
  refine v_iadd K dL_law_508 ?_
  refine w_sld K hX hbl (i + 1) (by omega) (by omega) hL dL_law_509 ?_
  refine v_aload_n K 3 dL_law_510 rfl rfl ?_
  refine v_iload_n K 0 dL_law_511 rfl rfl ?_
  refine v_iconst K dL_law_512 ?_
  refine v_iadd K dL_law_513 ?_
  refine w_sld K hX hbl (i + 2) (by omega) (by omega) hL dL_law_514 ?_
  refine w_cVi K (c_X8_ring I.1 I.2.1 I.2.2.1 _ _ (rg_of _) (rg_of _)) rfl fc_L_65 wm_X8_ring ws_X8_ring (by decide) 8 rfl (by decide) rfl rfl ⟨Nat.le_of_ble_eq_true rfl, Nat.le_of_ble_eq_true rfl⟩ ⟨Nat.le_of_ble_eq_true rfl, Nat.le_of_ble_eq_true rfl⟩ (Nat.le_of_ble_eq_true rfl) dL_law_515 (fun r1 M1 L1 h1 => ?_)
  have J1 : mOk M1 := a_ring I h1
  refine v_aload_n K 1 dL_law_518 rfl rfl ?_
  refine v_aload_n K 3 dL_law_519 rfl rfl ?_
  refine v_iload_n K 0 dL_law_520 rfl rfl ?_
  refine v_iconst K dL_law_521 ?_
  refine v_iadd K dL_law_522 ?_
  refine w_sld K hX hbl (i + 1) (by omega) (by omega) hL dL_law_523 ?_
  refine v_aload_n K 3 dL_law_524 rfl rfl ?_
  refine v_iload_n K 0 dL_law_525 rfl rfl ?_
  refine v_iconst K dL_law_526 ?_
  refine v_iadd K dL_law_527 ?_
  refine w_sld K hX hbl (i + 2) (by omega) (by omega) hL dL_law_528 ?_
  refine w_cVi K (c_X9_ring J1 _ _ (rg_of _) (rg_of _)) rfl fc_L_68 wm_X9_ring ws_X9_ring (by decide) 9 rfl (by decide) rfl rfl ⟨Nat.le_of_ble_eq_true rfl, Nat.le_of_ble_eq_true rfl⟩ ⟨Nat.le_of_ble_eq_true rfl, Nat.le_of_ble_eq_true rfl⟩ (Nat.le_of_ble_eq_true rfl) dL_law_529 (fun r2 M2 L2 h2 => ?_)
  obtain ⟨rfl, I2⟩ := b_ring (L2 := L2) I h1 h2
  refine w_same K 729 dL_law_532 (by decide) ?_
  exact kk M2 L2 I2
set_option maxRecDepth 100000 in
set_option maxHeartbeats 4000000 in
theorem l_law_share {p : Program} {l : Launch} {e : Env} {s : State} {m : MethodId} {below : List Frame} {meth : Method} {c : Code} {D : va_G} {Z : ZC} {b : Nat} {Q : Nat → Nat} {L : Nat} {xs : Nat → Int32} (K : VK (LX p l e s m below meth c D Z b) cL_law RL 4 ret 11 426 600000 7302250) (hX : va_X b L xs s s.heap) (hbl : b < s.heap.size) (hL : L ≤ 2048) (i : Nat) (hi : i + 4 ≤ L) (M L0 : ZM) (I : Inv M) (kk : ∀ M L, Inv M → V (LX p l e s m below meth c D Z b) (110, 2984) 110 Q z_rf M L 729 [(3, .int (iI (i : Int))), (2, .ref (Q 90)), (1, .ref (Q 0)), (0, .ref b)] []) : V (LX p l e s m below meth c D Z b) (110, 2984) 110 Q z_rf M L0 537 [(3, .int (iI (i : Int))), (2, .ref (Q 90)), (1, .ref (Q 0)), (0, .ref b)] [] := by
  refine v_aload_n K 2 dL_law_537 rfl rfl ?_
  refine v_aload_n K 3 dL_law_538 rfl rfl ?_
  refine v_iload_n K 0 dL_law_539 rfl rfl ?_
  refine v_iconst K dL_law_540 ?_
  refine v_iadd K dL_law_541 ?_
  refine w_sld K hX hbl (i + 1) (by omega) (by omega) hL dL_law_542 ?_
  refine v_aload_n K 3 dL_law_543 rfl rfl ?_
  refine v_iload_n K 0 dL_law_544 rfl rfl ?_
  refine v_iconst K dL_law_545 ?_
  refine v_iadd K dL_law_546 ?_
  refine w_sld K hX hbl (i + 2) (by omega) (by omega) hL dL_law_547 ?_
  refine w_cVl K (c_X8_share I.1 I.2.1 I.2.2.1 I.2.2.2.1 _ _ (rg_of _) (rg_of _)) rfl fc_L_69 wm_X8_share ws_X8_share (by decide) 8 rfl (by decide) rfl rfl ⟨Nat.le_of_ble_eq_true rfl, Nat.le_of_ble_eq_true rfl⟩ ⟨Nat.le_of_ble_eq_true rfl, Nat.le_of_ble_eq_true rfl⟩ (Nat.le_of_ble_eq_true rfl) dL_law_548 (fun r1 M1 L1 h1 => ?_)
  have J1 : mOk M1 := a_share I h1
  refine v_aload_n K 1 dL_law_551 rfl rfl ?_
  refine v_aload_n K 3 dL_law_552 rfl rfl ?_
  refine v_iload_n K 0 dL_law_553 rfl rfl ?_
  refine v_iconst K dL_law_554 ?_
  refine v_iadd K dL_law_555 ?_
  refine w_sld K hX hbl (i + 1) (by omega) (by omega) hL dL_law_556 ?_
  refine v_aload_n K 3 dL_law_557 rfl rfl ?_
  refine v_iload_n K 0 dL_law_558 rfl rfl ?_
  refine v_iconst K dL_law_559 ?_
  refine v_iadd K dL_law_560 ?_
  refine w_sld K hX hbl (i + 2) (by omega) (by omega) hL dL_law_561 ?_
  refine w_cVl K (c_X9_share J1 _ _ (rg_of _) (rg_of _)) rfl fc_L_73 wm_X9_share ws_X9_share (by decide) 9 rfl (by decide) rfl rfl ⟨Nat.le_of_ble_eq_true rfl, Nat.le_of_ble_eq_true rfl⟩ ⟨Nat.le_of_ble_eq_true rfl, Nat.le_of_ble_eq_true rfl⟩ (Nat.le_of_ble_eq_true rfl) dL_law_562 (fun r2 M2 L2 h2 => ?_)
  have hrl := share_rl I h1
  obtain ⟨rfl, I2⟩ := b_share (L2 := L2) I h1 h2
  refine w_lsame K 729 hrl dL_law_565 dL_law_566 (by decide) ?_
  exact kk M2 L2 I2
set_option maxRecDepth 100000 in
set_option maxHeartbeats 4000000 in
theorem l_law_live {p : Program} {l : Launch} {e : Env} {s : State} {m : MethodId} {below : List Frame} {meth : Method} {c : Code} {D : va_G} {Z : ZC} {b : Nat} {Q : Nat → Nat} {L : Nat} {xs : Nat → Int32} (K : VK (LX p l e s m below meth c D Z b) cL_law RL 4 ret 11 426 600000 7302250) (hX : va_X b L xs s s.heap) (hbl : b < s.heap.size) (hL : L ≤ 2048) (i : Nat) (hi : i + 4 ≤ L) (M L0 : ZM) (I : Inv M) (kk : ∀ M L, Inv M → V (LX p l e s m below meth c D Z b) (110, 2984) 110 Q z_rf M L 729 [(3, .int (iI (i : Int))), (2, .ref (Q 90)), (1, .ref (Q 0)), (0, .ref b)] []) : V (LX p l e s m below meth c D Z b) (110, 2984) 110 Q z_rf M L0 571 [(3, .int (iI (i : Int))), (2, .ref (Q 90)), (1, .ref (Q 0)), (0, .ref b)] [] := by
  refine v_aload_n K 2 dL_law_571 rfl rfl ?_
  refine w_cVi K (c_X8_live I.1 I.2.1 I.2.2.1 I.2.2.2.1 ) rfl fc_L_74 wm_X8_live ws_X8_live (by decide) 8 rfl (by decide) rfl rfl ⟨Nat.le_of_ble_eq_true rfl, Nat.le_of_ble_eq_true rfl⟩ ⟨Nat.le_of_ble_eq_true rfl, Nat.le_of_ble_eq_true rfl⟩ (Nat.le_of_ble_eq_true rfl) dL_law_572 (fun r1 M1 L1 h1 => ?_)
  have J1 : mOk M1 := a_live I h1
  refine v_aload_n K 1 dL_law_575 rfl rfl ?_
  refine w_cVi K (c_X9_live J1 ) rfl fc_L_77 wm_X9_live ws_X9_live (by decide) 9 rfl (by decide) rfl rfl ⟨Nat.le_of_ble_eq_true rfl, Nat.le_of_ble_eq_true rfl⟩ ⟨Nat.le_of_ble_eq_true rfl, Nat.le_of_ble_eq_true rfl⟩ (Nat.le_of_ble_eq_true rfl) dL_law_576 (fun r2 M2 L2 h2 => ?_)
  obtain ⟨rfl, I2⟩ := b_live (L2 := L2) I h1 h2
  refine w_same K 729 dL_law_579 (by decide) ?_
  exact kk M2 L2 I2
set_option maxRecDepth 100000 in
set_option maxHeartbeats 4000000 in
theorem l_law_standing {p : Program} {l : Launch} {e : Env} {s : State} {m : MethodId} {below : List Frame} {meth : Method} {c : Code} {D : va_G} {Z : ZC} {b : Nat} {Q : Nat → Nat} {L : Nat} {xs : Nat → Int32} (K : VK (LX p l e s m below meth c D Z b) cL_law RL 4 ret 11 426 600000 7302250) (hX : va_X b L xs s s.heap) (hbl : b < s.heap.size) (hL : L ≤ 2048) (i : Nat) (hi : i + 4 ≤ L) (M L0 : ZM) (I : Inv M) (kk : ∀ M L, Inv M → V (LX p l e s m below meth c D Z b) (110, 2984) 110 Q z_rf M L 729 [(3, .int (iI (i : Int))), (2, .ref (Q 90)), (1, .ref (Q 0)), (0, .ref b)] []) : V (LX p l e s m below meth c D Z b) (110, 2984) 110 Q z_rf M L0 584 [(3, .int (iI (i : Int))), (2, .ref (Q 90)), (1, .ref (Q 0)), (0, .ref b)] [] := by
  refine v_aload_n K 2 dL_law_584 rfl rfl ?_
  refine v_aload_n K 3 dL_law_585 rfl rfl ?_
  refine v_iload_n K 0 dL_law_586 rfl rfl ?_
  refine v_iconst K dL_law_587 ?_
  refine v_iadd K dL_law_588 ?_
  refine w_sld K hX hbl (i + 1) (by omega) (by omega) hL dL_law_589 ?_
  refine w_cVi K (c_X8_standing I.1 I.2.1 I.2.2.1 _ (rg_of _)) rfl fc_L_78 wm_X8_standing ws_X8_standing (by decide) 8 rfl (by decide) rfl rfl ⟨Nat.le_of_ble_eq_true rfl, Nat.le_of_ble_eq_true rfl⟩ ⟨Nat.le_of_ble_eq_true rfl, Nat.le_of_ble_eq_true rfl⟩ (Nat.le_of_ble_eq_true rfl) dL_law_590 (fun r1 M1 L1 h1 => ?_)
  have J1 : mOk M1 := a_standing I h1
  refine v_aload_n K 1 dL_law_593 rfl rfl ?_
  refine v_aload_n K 3 dL_law_594 rfl rfl ?_
  refine v_iload_n K 0 dL_law_595 rfl rfl ?_
  refine v_iconst K dL_law_596 ?_
  refine v_iadd K dL_law_597 ?_
  refine w_sld K hX hbl (i + 1) (by omega) (by omega) hL dL_law_598 ?_
  refine w_cVi K (c_X9_standing J1 _ (rg_of _)) rfl fc_L_81 wm_X9_standing ws_X9_standing (by decide) 9 rfl (by decide) rfl rfl ⟨Nat.le_of_ble_eq_true rfl, Nat.le_of_ble_eq_true rfl⟩ ⟨Nat.le_of_ble_eq_true rfl, Nat.le_of_ble_eq_true rfl⟩ (Nat.le_of_ble_eq_true rfl) dL_law_599 (fun r2 M2 L2 h2 => ?_)
  obtain ⟨rfl, I2⟩ := b_standing (L2 := L2) I h1 h2
  refine w_same K 729 dL_law_602 (by decide) ?_
  exact kk M2 L2 I2
set_option maxRecDepth 100000 in
set_option maxHeartbeats 4000000 in
theorem l_law_worth {p : Program} {l : Launch} {e : Env} {s : State} {m : MethodId} {below : List Frame} {meth : Method} {c : Code} {D : va_G} {Z : ZC} {b : Nat} {Q : Nat → Nat} {L : Nat} {xs : Nat → Int32} (K : VK (LX p l e s m below meth c D Z b) cL_law RL 4 ret 11 426 600000 7302250) (hX : va_X b L xs s s.heap) (hbl : b < s.heap.size) (hL : L ≤ 2048) (i : Nat) (hi : i + 4 ≤ L) (M L0 : ZM) (I : Inv M) (kk : ∀ M L, Inv M → V (LX p l e s m below meth c D Z b) (110, 2984) 110 Q z_rf M L 729 [(3, .int (iI (i : Int))), (2, .ref (Q 90)), (1, .ref (Q 0)), (0, .ref b)] []) : V (LX p l e s m below meth c D Z b) (110, 2984) 110 Q z_rf M L0 607 [(3, .int (iI (i : Int))), (2, .ref (Q 90)), (1, .ref (Q 0)), (0, .ref b)] [] := by
  refine v_aload_n K 2 dL_law_607 rfl rfl ?_
  refine v_aload_n K 3 dL_law_608 rfl rfl ?_
  refine v_iload_n K 0 dL_law_609 rfl rfl ?_
  refine v_iconst K dL_law_610 ?_
  refine v_iadd K dL_law_611 ?_
  refine w_sld K hX hbl (i + 1) (by omega) (by omega) hL dL_law_612 ?_
  refine v_aload_n K 3 dL_law_613 rfl rfl ?_
  refine v_iload_n K 0 dL_law_614 rfl rfl ?_
  refine v_iconst K dL_law_615 ?_
  refine v_iadd K dL_law_616 ?_
  refine w_sld K hX hbl (i + 2) (by omega) (by omega) hL dL_law_617 ?_
  refine w_cVi K (c_X8_worth I.1 I.2.1 I.2.2.1 _ _ (rg_of _) (rg_of _)) rfl fc_L_82 wm_X8_worth ws_X8_worth (by decide) 8 rfl (by decide) rfl rfl ⟨Nat.le_of_ble_eq_true rfl, Nat.le_of_ble_eq_true rfl⟩ ⟨Nat.le_of_ble_eq_true rfl, Nat.le_of_ble_eq_true rfl⟩ (Nat.le_of_ble_eq_true rfl) dL_law_618 (fun r1 M1 L1 h1 => ?_)
  have J1 : mOk M1 := a_worth I h1
  refine v_aload_n K 1 dL_law_621 rfl rfl ?_
  refine v_aload_n K 3 dL_law_622 rfl rfl ?_
  refine v_iload_n K 0 dL_law_623 rfl rfl ?_
  refine v_iconst K dL_law_624 ?_
  refine v_iadd K dL_law_625 ?_
  refine w_sld K hX hbl (i + 1) (by omega) (by omega) hL dL_law_626 ?_
  refine v_aload_n K 3 dL_law_627 rfl rfl ?_
  refine v_iload_n K 0 dL_law_628 rfl rfl ?_
  refine v_iconst K dL_law_629 ?_
  refine v_iadd K dL_law_630 ?_
  refine w_sld K hX hbl (i + 2) (by omega) (by omega) hL dL_law_631 ?_
  refine w_cVi K (c_X9_worth J1 _ _ (rg_of _) (rg_of _)) rfl fc_L_85 wm_X9_worth ws_X9_worth (by decide) 9 rfl (by decide) rfl rfl ⟨Nat.le_of_ble_eq_true rfl, Nat.le_of_ble_eq_true rfl⟩ ⟨Nat.le_of_ble_eq_true rfl, Nat.le_of_ble_eq_true rfl⟩ (Nat.le_of_ble_eq_true rfl) dL_law_632 (fun r2 M2 L2 h2 => ?_)
  obtain ⟨rfl, I2⟩ := b_worth (L2 := L2) I h1 h2
  refine w_same K 729 dL_law_635 (by decide) ?_
  exact kk M2 L2 I2
set_option maxRecDepth 100000 in
set_option maxHeartbeats 4000000 in
theorem l_law_idle {p : Program} {l : Launch} {e : Env} {s : State} {m : MethodId} {below : List Frame} {meth : Method} {c : Code} {D : va_G} {Z : ZC} {b : Nat} {Q : Nat → Nat} {L : Nat} {xs : Nat → Int32} (K : VK (LX p l e s m below meth c D Z b) cL_law RL 4 ret 11 426 600000 7302250) (hX : va_X b L xs s s.heap) (hbl : b < s.heap.size) (hL : L ≤ 2048) (i : Nat) (hi : i + 4 ≤ L) (M L0 : ZM) (I : Inv M) (kk : ∀ M L, Inv M → V (LX p l e s m below meth c D Z b) (110, 2984) 110 Q z_rf M L 729 [(3, .int (iI (i : Int))), (2, .ref (Q 90)), (1, .ref (Q 0)), (0, .ref b)] []) : V (LX p l e s m below meth c D Z b) (110, 2984) 110 Q z_rf M L0 640 [(3, .int (iI (i : Int))), (2, .ref (Q 90)), (1, .ref (Q 0)), (0, .ref b)] [] := by
  refine v_aload_n K 2 dL_law_640 rfl rfl ?_
  refine v_aload_n K 3 dL_law_641 rfl rfl ?_
  refine v_iload_n K 0 dL_law_642 rfl rfl ?_
  refine v_iconst K dL_law_643 ?_
  refine v_iadd K dL_law_644 ?_
  refine w_sld K hX hbl (i + 1) (by omega) (by omega) hL dL_law_645 ?_
  refine v_aload_n K 3 dL_law_646 rfl rfl ?_
  refine v_iload_n K 0 dL_law_647 rfl rfl ?_
  refine v_iconst K dL_law_648 ?_
  refine v_iadd K dL_law_649 ?_
  refine w_sld K hX hbl (i + 2) (by omega) (by omega) hL dL_law_650 ?_
  refine w_cVi K (c_X8_idle I.1 I.2.1 I.2.2.1 _ _ (rg_of _) (rg_of _)) rfl fc_L_86 wm_X8_idle ws_X8_idle (by decide) 8 rfl (by decide) rfl rfl ⟨Nat.le_of_ble_eq_true rfl, Nat.le_of_ble_eq_true rfl⟩ ⟨Nat.le_of_ble_eq_true rfl, Nat.le_of_ble_eq_true rfl⟩ (Nat.le_of_ble_eq_true rfl) dL_law_651 (fun r1 M1 L1 h1 => ?_)
  have J1 : mOk M1 := a_idle I h1
  refine v_aload_n K 1 dL_law_654 rfl rfl ?_
  refine v_aload_n K 3 dL_law_655 rfl rfl ?_
  refine v_iload_n K 0 dL_law_656 rfl rfl ?_
  refine v_iconst K dL_law_657 ?_
  refine v_iadd K dL_law_658 ?_
  refine w_sld K hX hbl (i + 1) (by omega) (by omega) hL dL_law_659 ?_
  refine v_aload_n K 3 dL_law_660 rfl rfl ?_
  refine v_iload_n K 0 dL_law_661 rfl rfl ?_
  refine v_iconst K dL_law_662 ?_
  refine v_iadd K dL_law_663 ?_
  refine w_sld K hX hbl (i + 2) (by omega) (by omega) hL dL_law_664 ?_
  refine w_cVi K (c_X9_idle J1 _ _ (rg_of _) (rg_of _)) rfl fc_L_89 wm_X9_idle ws_X9_idle (by decide) 9 rfl (by decide) rfl rfl ⟨Nat.le_of_ble_eq_true rfl, Nat.le_of_ble_eq_true rfl⟩ ⟨Nat.le_of_ble_eq_true rfl, Nat.le_of_ble_eq_true rfl⟩ (Nat.le_of_ble_eq_true rfl) dL_law_665 (fun r2 M2 L2 h2 => ?_)
  obtain ⟨rfl, I2⟩ := b_idle (L2 := L2) I h1 h2
  refine w_same K 729 dL_law_668 (by decide) ?_
  exact kk M2 L2 I2
set_option maxRecDepth 100000 in
set_option maxHeartbeats 4000000 in
theorem l_law_remedy {p : Program} {l : Launch} {e : Env} {s : State} {m : MethodId} {below : List Frame} {meth : Method} {c : Code} {D : va_G} {Z : ZC} {b : Nat} {Q : Nat → Nat} {L : Nat} {xs : Nat → Int32} (K : VK (LX p l e s m below meth c D Z b) cL_law RL 4 ret 11 426 600000 7302250) (hX : va_X b L xs s s.heap) (hbl : b < s.heap.size) (hL : L ≤ 2048) (i : Nat) (hi : i + 4 ≤ L) (M L0 : ZM) (I : Inv M) (kk : ∀ M L, Inv M → V (LX p l e s m below meth c D Z b) (110, 2984) 110 Q z_rf M L 729 [(3, .int (iI (i : Int))), (2, .ref (Q 90)), (1, .ref (Q 0)), (0, .ref b)] []) : V (LX p l e s m below meth c D Z b) (110, 2984) 110 Q z_rf M L0 673 [(3, .int (iI (i : Int))), (2, .ref (Q 90)), (1, .ref (Q 0)), (0, .ref b)] [] := by
  refine v_aload_n K 2 dL_law_673 rfl rfl ?_
  refine v_aload_n K 3 dL_law_674 rfl rfl ?_
  refine v_iload_n K 0 dL_law_675 rfl rfl ?_
  refine v_iconst K dL_law_676 ?_
  refine v_iadd K dL_law_677 ?_
  refine w_sld K hX hbl (i + 1) (by omega) (by omega) hL dL_law_678 ?_
  refine v_aload_n K 3 dL_law_679 rfl rfl ?_
  refine v_iload_n K 0 dL_law_680 rfl rfl ?_
  refine v_iconst K dL_law_681 ?_
  refine v_iadd K dL_law_682 ?_
  refine w_sld K hX hbl (i + 2) (by omega) (by omega) hL dL_law_683 ?_
  refine w_cVi K (c_X8_remedy I.1 I.2.1 I.2.2.1 I.2.2.2.1 _ _ (rg_of _) (rg_of _)) rfl fc_L_90 wm_X8_remedy ws_X8_remedy (by decide) 8 rfl (by decide) rfl rfl ⟨Nat.le_of_ble_eq_true rfl, Nat.le_of_ble_eq_true rfl⟩ ⟨Nat.le_of_ble_eq_true rfl, Nat.le_of_ble_eq_true rfl⟩ (Nat.le_of_ble_eq_true rfl) dL_law_684 (fun r1 M1 L1 h1 => ?_)
  have J1 : mOk M1 := a_remedy I h1
  refine v_aload_n K 1 dL_law_687 rfl rfl ?_
  refine v_aload_n K 3 dL_law_688 rfl rfl ?_
  refine v_iload_n K 0 dL_law_689 rfl rfl ?_
  refine v_iconst K dL_law_690 ?_
  refine v_iadd K dL_law_691 ?_
  refine w_sld K hX hbl (i + 1) (by omega) (by omega) hL dL_law_692 ?_
  refine v_aload_n K 3 dL_law_693 rfl rfl ?_
  refine v_iload_n K 0 dL_law_694 rfl rfl ?_
  refine v_iconst K dL_law_695 ?_
  refine v_iadd K dL_law_696 ?_
  refine w_sld K hX hbl (i + 2) (by omega) (by omega) hL dL_law_697 ?_
  refine w_cVi K (c_X9_remedy J1 _ _ (rg_of _) (rg_of _)) rfl fc_L_93 wm_X9_remedy ws_X9_remedy (by decide) 9 rfl (by decide) rfl rfl ⟨Nat.le_of_ble_eq_true rfl, Nat.le_of_ble_eq_true rfl⟩ ⟨Nat.le_of_ble_eq_true rfl, Nat.le_of_ble_eq_true rfl⟩ (Nat.le_of_ble_eq_true rfl) dL_law_698 (fun r2 M2 L2 h2 => ?_)
  obtain ⟨rfl, I2⟩ := b_remedy (L2 := L2) I h1 h2
  refine w_same K 729 dL_law_701 (by decide) ?_
  exact kk M2 L2 I2
set_option maxRecDepth 100000 in
set_option maxHeartbeats 4000000 in
theorem l_law_count {p : Program} {l : Launch} {e : Env} {s : State} {m : MethodId} {below : List Frame} {meth : Method} {c : Code} {D : va_G} {Z : ZC} {b : Nat} {Q : Nat → Nat} {L : Nat} {xs : Nat → Int32} (K : VK (LX p l e s m below meth c D Z b) cL_law RL 4 ret 11 426 600000 7302250) (hX : va_X b L xs s s.heap) (hbl : b < s.heap.size) (hL : L ≤ 2048) (i : Nat) (hi : i + 4 ≤ L) (M L0 : ZM) (I : Inv M) (kk : ∀ M L, Inv M → V (LX p l e s m below meth c D Z b) (110, 2984) 110 Q z_rf M L 729 [(3, .int (iI (i : Int))), (2, .ref (Q 90)), (1, .ref (Q 0)), (0, .ref b)] []) : V (LX p l e s m below meth c D Z b) (110, 2984) 110 Q z_rf M L0 706 [(3, .int (iI (i : Int))), (2, .ref (Q 90)), (1, .ref (Q 0)), (0, .ref b)] [] := by
  refine v_aload_n K 2 dL_law_706 rfl rfl ?_
  refine v_aload_n K 3 dL_law_707 rfl rfl ?_
  refine v_iload_n K 0 dL_law_708 rfl rfl ?_
  refine v_iconst K dL_law_709 ?_
  refine v_iadd K dL_law_710 ?_
  refine w_sld K hX hbl (i + 1) (by omega) (by omega) hL dL_law_711 ?_
  refine w_cVi K (c_X8_count I.1 _ (rg_of _)) rfl fc_L_94 wm_X8_count ws_X8_count (by decide) 8 rfl (by decide) rfl rfl ⟨Nat.le_of_ble_eq_true rfl, Nat.le_of_ble_eq_true rfl⟩ ⟨Nat.le_of_ble_eq_true rfl, Nat.le_of_ble_eq_true rfl⟩ (Nat.le_of_ble_eq_true rfl) dL_law_712 (fun r1 M1 L1 h1 => ?_)
  have J1 : mOk M1 := a_count I h1
  refine v_aload_n K 1 dL_law_715 rfl rfl ?_
  refine v_aload_n K 3 dL_law_716 rfl rfl ?_
  refine v_iload_n K 0 dL_law_717 rfl rfl ?_
  refine v_iconst K dL_law_718 ?_
  refine v_iadd K dL_law_719 ?_
  refine w_sld K hX hbl (i + 1) (by omega) (by omega) hL dL_law_720 ?_
  refine w_cVi K (c_X9_count J1 _ (rg_of _)) rfl fc_L_97 wm_X9_count ws_X9_count (by decide) 9 rfl (by decide) rfl rfl ⟨Nat.le_of_ble_eq_true rfl, Nat.le_of_ble_eq_true rfl⟩ ⟨Nat.le_of_ble_eq_true rfl, Nat.le_of_ble_eq_true rfl⟩ (Nat.le_of_ble_eq_true rfl) dL_law_721 (fun r2 M2 L2 h2 => ?_)
  obtain ⟨rfl, I2⟩ := b_count (L2 := L2) I h1 h2
  refine w_same K 729 dL_law_724 (by decide) ?_
  exact kk M2 L2 I2
set_option maxRecDepth 100000 in
set_option maxHeartbeats 4000000 in
theorem law_loop {p : Program} {l : Launch} {e : Env} {s : State} {m : MethodId} {below : List Frame} {meth : Method} {c : Code} {D : va_G} {Z : ZC} {b : Nat} {Q : Nat → Nat} {L : Nat} {xs : Nat → Int32} (K : VK (LX p l e s m below meth c D Z b) cL_law RL 4 ret 11 426 600000 7302250) (hX : va_X b L xs s s.heap) (hbl : b < s.heap.size) (hL : L ≤ 2048) : ∀ (n i : Nat) (M L0 : ZM), Inv M → i ≤ L + 3 → L + 4 ≤ i + n → V (LX p l e s m below meth c D Z b) (110, 2984) 110 Q z_rf M L0 18 [(3, .int (iI (i : Int))), (2, .ref (Q 90)), (1, .ref (Q 0)), (0, .ref b)] [] := by
  intro n
  induction n with
  | zero => intro i M L0 I hi hn; exact absurd hn (by omega)
  | succ n ih =>
    intro i M L0 I hi hn
    have end_ : ∀ M L9, Inv M → i + 4 ≤ L → V (LX p l e s m below meth c D Z b) (110, 2984) 110 Q z_rf M L9 729 [(3, .int (iI (i : Int))), (2, .ref (Q 90)), (1, .ref (Q 0)), (0, .ref b)] [] := by
      intro M L9 I h4
      refine v_iinc K 0 (fun q9 => [(3, .int (iI q9)), (2, .ref (Q 90)), (1, .ref (Q 0)), (0, .ref b)]) dL_law_729 rfl (by decide) (fun _ => rfl) (fun w hw => ?_)
      refine v_goto K 18 dL_law_732 (by decide) ?_
      obtain rfl : w = ((i + 4 : Nat) : Int) := by omega
      exact ih (i + 4) M L9 I (by omega) (by omega)
    refine v_iload_n K 0 dL_law_18 rfl rfl ?_
    refine v_aload_n K 3 dL_law_19 rfl rfl ?_
    refine w_slen K hX hbl dL_law_20 ?_
    refine v_iconst K dL_law_21 ?_
    refine v_isub K dL_law_22 ?_
    refine v_icmp_gt K 735 ⟨by omega, by omega⟩ ⟨by omega, by omega⟩ dL_law_23 (by decide) (fun h23 => ?_) (fun h23 => ?_)
    · refine v_iconst K dL_law_735 ?_
      exact w_ret K (Nat.le_of_ble_eq_true rfl) (Nat.le_of_ble_eq_true rfl) dL_law_736
    · have h4 : i + 4 ≤ L := by omega
      refine v_aload_n K 3 dL_law_26 rfl rfl ?_
      refine v_iload_n K 0 dL_law_27 rfl rfl ?_
      refine w_sld K hX hbl i rfl (by omega) hL dL_law_28 ?_
      refine v_bipush K dL_law_29 (by decide) ?_
      refine v_iand K ((iI (xs i).toInt &&& iI 31).toInt) (iI_of _).symm dL_law_31 ?_
      obtain ⟨z, hz⟩ : ∃ z, z = (iI (xs i).toInt &&& iI 31).toInt := ⟨_, rfl⟩
      rw [← hz]
      have rz : rg z := by rw [hz]; exact rg_of _
      by_cases c32 : z < 0 ∨ 19 < z
      · refine v_tableOut K 729 rz dL_law_32 c32 (by decide) ?_
        exact end_ M L0 I h4
      rcases (show z = 0 ∨ z = 1 ∨ z = 2 ∨ z = 3 ∨ z = 4 ∨ z = 5 ∨ z = 6 ∨ z = 7 ∨ z = 8 ∨ z = 9 ∨ z = 10 ∨ z = 11 ∨ z = 12 ∨ z = 13 ∨ z = 14 ∨ z = 15 ∨ z = 16 ∨ z = 17 ∨ z = 18 ∨ z = 19 by omega) with c32 | c32 | c32 | c32 | c32 | c32 | c32 | c32 | c32 | c32 | c32 | c32 | c32 | c32 | c32 | c32 | c32 | c32 | c32 | c32
      · refine v_tableIn K 128 (off := 96) rz dL_law_32 (by omega) (by rw [c32]; rfl) (by decide) ?_
        exact l_law_card K hX hbl hL i h4 M L0 I (fun M L9 I => end_ M L9 I h4)
      · refine v_tableIn K 171 (off := 139) rz dL_law_32 (by omega) (by rw [c32]; rfl) (by decide) ?_
        exact l_law_power K hX hbl hL i h4 M L0 I (fun M L9 I => end_ M L9 I h4)
      · refine v_tableIn K 204 (off := 172) rz dL_law_32 (by omega) (by rw [c32]; rfl) (by decide) ?_
        exact l_law_deck K hX hbl hL i h4 M L0 I (fun M L9 I => end_ M L9 I h4)
      · refine v_tableIn K 217 (off := 185) rz dL_law_32 (by omega) (by rw [c32]; rfl) (by decide) ?_
        exact l_law_add K hX hbl hL i h4 M L0 I (fun M L9 I => end_ M L9 I h4)
      · refine v_tableIn K 250 (off := 218) rz dL_law_32 (by omega) (by rw [c32]; rfl) (by decide) ?_
        exact l_law_drop K hX hbl hL i h4 M L0 I (fun M L9 I => end_ M L9 I h4)
      · refine v_tableIn K 283 (off := 251) rz dL_law_32 (by omega) (by rw [c32]; rfl) (by decide) ?_
        exact l_law_swap K hX hbl hL i h4 M L0 I (fun M L9 I => end_ M L9 I h4)
      · refine v_tableIn K 326 (off := 294) rz dL_law_32 (by omega) (by rw [c32]; rfl) (by decide) ?_
        exact l_law_at K hX hbl hL i h4 M L0 I (fun M L9 I => end_ M L9 I h4)
      · refine v_tableIn K 359 (off := 327) rz dL_law_32 (by omega) (by rw [c32]; rfl) (by decide) ?_
        exact l_law_life K hX hbl hL i h4 M L0 I (fun M L9 I => end_ M L9 I h4)
      · refine v_tableIn K 382 (off := 350) rz dL_law_32 (by omega) (by rw [c32]; rfl) (by decide) ?_
        exact l_law_play K hX hbl hL i h4 M L0 I (fun M L9 I => end_ M L9 I h4)
      · refine v_tableIn K 415 (off := 383) rz dL_law_32 (by omega) (by rw [c32]; rfl) (by decide) ?_
        exact l_law_told K hX hbl hL i h4 M L0 I (fun M L9 I => end_ M L9 I h4)
      · refine v_tableIn K 458 (off := 426) rz dL_law_32 (by omega) (by rw [c32]; rfl) (by decide) ?_
        exact l_law_table K hX hbl hL i h4 M L0 I (fun M L9 I => end_ M L9 I h4)
      · refine v_tableIn K 491 (off := 459) rz dL_law_32 (by omega) (by rw [c32]; rfl) (by decide) ?_
        exact l_law_rings K hX hbl hL i h4 M L0 I (fun M L9 I => end_ M L9 I h4)
      · refine v_tableIn K 504 (off := 472) rz dL_law_32 (by omega) (by rw [c32]; rfl) (by decide) ?_
        exact l_law_ring K hX hbl hL i h4 M L0 I (fun M L9 I => end_ M L9 I h4)
      · refine v_tableIn K 537 (off := 505) rz dL_law_32 (by omega) (by rw [c32]; rfl) (by decide) ?_
        exact l_law_share K hX hbl hL i h4 M L0 I (fun M L9 I => end_ M L9 I h4)
      · refine v_tableIn K 571 (off := 539) rz dL_law_32 (by omega) (by rw [c32]; rfl) (by decide) ?_
        exact l_law_live K hX hbl hL i h4 M L0 I (fun M L9 I => end_ M L9 I h4)
      · refine v_tableIn K 584 (off := 552) rz dL_law_32 (by omega) (by rw [c32]; rfl) (by decide) ?_
        exact l_law_standing K hX hbl hL i h4 M L0 I (fun M L9 I => end_ M L9 I h4)
      · refine v_tableIn K 607 (off := 575) rz dL_law_32 (by omega) (by rw [c32]; rfl) (by decide) ?_
        exact l_law_worth K hX hbl hL i h4 M L0 I (fun M L9 I => end_ M L9 I h4)
      · refine v_tableIn K 640 (off := 608) rz dL_law_32 (by omega) (by rw [c32]; rfl) (by decide) ?_
        exact l_law_idle K hX hbl hL i h4 M L0 I (fun M L9 I => end_ M L9 I h4)
      · refine v_tableIn K 673 (off := 641) rz dL_law_32 (by omega) (by rw [c32]; rfl) (by decide) ?_
        exact l_law_remedy K hX hbl hL i h4 M L0 I (fun M L9 I => end_ M L9 I h4)
      · refine v_tableIn K 706 (off := 674) rz dL_law_32 (by omega) (by rw [c32]; rfl) (by decide) ?_
        exact l_law_count K hX hbl hL i h4 M L0 I (fun M L9 I => end_ M L9 I h4)
