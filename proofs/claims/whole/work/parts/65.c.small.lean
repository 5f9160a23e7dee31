set_option maxRecDepth 100000
/-! calls that change little: feed, input, drop -/
theorem ar_0 {as : List Value} (w : ∀ v, v ∈ as → ∀ o, v ≠ .ref o) : ∀ v, v ∈ (.ref 0 :: as : List Value) → ∀ o, v = .ref o → o < 81 := fun v hv o e => by
  rcases List.mem_cons.mp hv with z | z
  · rw [e] at z
    cases z
    show (0 : Nat) < 81
    decide
  · exact absurd e (w v z o)
theorem ar_81 {as : List Value} (w : ∀ v, v ∈ as → ∀ o, v ≠ .ref o) : ∀ v, v ∈ (.ref 81 :: as : List Value) → ∀ o, v = .ref o → 81 ≤ o ∧ o < 2644 := fun v hv o e => by
  rcases List.mem_cons.mp hv with z | z
  · rw [e] at z
    cases z
    show (81 : Nat) ≤ 81 ∧ (81 : Nat) < 2644
    decide
  · exact absurd e (w v z o)
section SMs
variable {W : Nat → Nat → Prop} {R : Nat → Prop} {k : Nat} {h h1 h2 : mh_H} {fd fd' : Nat × (Nat → Int32)} {td : Bool × Int32 × Int32 × Int32} {g : pgz} {cl : Nat → Option ab} {ip ip' : Nat × (Nat → Int32)} {rz rz' : rnz} {T T' : List Int32}
theorem ICl_w (f : fz W h h1) (kk : WC W (fun _ => True) h) (I : ICl h fd td g cl ip rz T) (f' : mh_i h1 0 1 = Int32.ofNat fd'.1 ∧ ∀ i, i < fd'.1 → mh_i h1 1 i &&& 255 = fd'.2 i) (i0 : ∀ j, 7 ≤ j → j ≤ 12 → mh_i h1 0 j = mh_i h 0 j) (ip1 : mh_i h1 67 2 = Int32.ofNat ip'.1 ∧ mh_i h1 68 = ip'.2) (r1 : mh_i h1 67 4 = Int32.ofNat rz'.p ∧ mh_i h1 67 5 = rz'.d ∧ mh_i h1 67 3 = rz'.t ∧ mh_i h1 67 9 = rz'.o ∧ (∀ x, x < g.G.n rz'.p → mh_i h1 69 x = rz'.V x) ∧ ∀ x, x < g.G.a rz'.p → mh_i h1 71 x = Int32.ofNat (g.G.rm rz'.p x) ∧ ∀ y, y < g.G.rm rz'.p x → mh_i h1 70 (64 * x + y) = rz'.P (64 * x + y)) (l1 : ∃ s0 l, LNa h1 T' s0 l) (n1 : CNm h1 g) : ICl h1 fd' td g cl ip' rz' T' := by
  obtain ⟨Y, C, E, TT, UU, SC, SP, nC, nE, nS, pa, P⟩ := I.P
  have hn := P.B.N
  have i53 := wc_lo f kk P.B.F 53 0 17 (by decide +kernel) (by omega)
  have i55 := wc_lo f kk P.B.F 55 100 250 (by decide +kernel) (by omega)
  obtain ⟨t1, t2, t3, t4⟩ := I.t
  obtain ⟨ca, jd, j1, j2, j3, j4⟩ := I.j
  exact ICl.of ⟨⟨Y, C, E, TT, UU, SC, SP, nC, nE, nS, pa, CPg_f f kk P⟩, fun q hq => pv_f f kk hn P.B.S (by unfold isPl; omega) (I.k q hq), fun q hq => pv_f f kk hn P.B.S (by unfold isPl; omega) (I.c q hq), f', ⟨(i0 7 (by omega) (by omega)).trans t1, (i0 8 (by omega) (by omega)).trans t2, (i0 9 (by omega) (by omega)).trans t3, by rw [i53]; exact t4⟩, by rw [i53]; exact I.m, by rw [i55]; exact I.a, ⟨ca, jd, (i0 10 (by omega) (by omega)).trans j1, (i0 11 (by omega) (by omega)).trans j2, by rw [i0 12 (by omega) (by omega)]; exact j3, j4⟩, ip1, r1, l1, n1⟩
/-- the line and the names stay where no cell of theirs changes -/
theorem LNa_w {s0 l : Nat} (f : fz W h h1) (w0 : ¬ W 0 13 ∧ ¬ W 0 14) (wS : ∀ j, ¬ W s0 j) (g0 : mg h 0 11) (L : LNa h T s0 l) : LNa h1 T s0 l := LNa.of ⟨(fz_r f g0 w0.1).trans L.r, fz_mg f L.g, (fz_l f L.g).trans L.l, L.b, L.s, L.n, (fz_i f g0 w0.2).trans L.e, fun i v e => by rw [fz_i f L.g (wS i)]; exact L.t i v e⟩
theorem CNm_w (f : fz W h h1) (F : CF h) (w0 : ¬ W 0 13) (w2 : ¬ W 2 0) (w30 : ∀ j, ¬ W 30 j) (wT : ∀ b j, 2644 ≤ b → (∀ s0, mh_r h 0 13 = some s0 → s0 ≠ b) → ¬ W b j) (w : CNm h g) : CNm h1 g := by
  obtain ⟨TK, X, n, Bt, np, ap, w1, w2', w3⟩ := w
  have g30 := F.g 30 100 4500 (by decide +kernel)
  have g2 := F.g 2 4 20 (by decide +kernel)
  have g0 := F.g 0 11 15 (by decide +kernel)
  have i30 : mh_i h1 30 = mh_i h 30 := funext fun j => fz_i f g30 (w30 j)
  refine ⟨TK, X, n, Bt, np, ap, fun p hp h0 => ?_, by rw [i30]; exact w2', by rw [i30]; exact w3⟩
  obtain ⟨u1, u2, u3, u4⟩ := w1 p hp h0
  have gX : mg h X 102 := ⟨u2.k, u2.x⟩
  obtain ⟨b1, b2⟩ := u3
  exact ⟨(fz_r f g2 w2).trans u1, ⟨fz_mg f u2.g, (fz_r f u2.g (wT TK 0 b1 (fun s0 e => (u4 s0 e).1))).trans u2.r, (fz_mg f gX).1, (fz_mg f gX).2, (fz_l f gX).trans u2.l, u2.n, fun i hi => by rw [fz_i f gX (wT X i b2 (fun s0 e => (u4 s0 e).2))]; exact u2.b i hi, u2.2.2.2.2.2.2.2⟩, ⟨b1, b2⟩, fun s0 e => u4 s0 (by rw [← fz_r f g0 w0]; exact e)⟩
/-- the room, over both calls -/
theorem RM_2 {k' F' F : Nat} (D : SDs R h) (x : sdK R h h1) (Y : RYh h) (y : sdK (fun b => ¬ R b ∧ b < mh_n h1) h1 h2) (D1 : SDs R h1) {Y' C E TT UU SC SP nC nE nS : Nat} (B1 : BS h1 Y' C E TT UU SC SP nC nE nS) (r0 : ∃ s0, mh_r h1 0 13 = some s0 ∧ s0 < mh_n h1) (q1 : qN h2 ≤ qN h1) (q2 : qS h2 ≤ qS h1) (c1 : cN h1 - (ln h1 0 13 : Int) + F' ≤ cN h - (ln h 0 13 : Int) + F + 60 * ((k' : Int) - k)) (c2 : cS h1 - 2 * (ln h1 0 13 : Int) + 25 * F' ≤ cS h - 2 * (ln h 0 13 : Int) + 25 * F + 1800 * ((k' : Int) - k)) (M : RMz k F h) : RMz k' F' h2 := by
  obtain ⟨l, l1, l2, l3⟩ := M
  obtain ⟨a1, a2⟩ := qN_r (fz_R x) (wr_R D) Y
  obtain ⟨b1, b2⟩ := cT_f (fz_C y) (wc_C D1 B1.N) B1
  obtain ⟨s0, r1, r2⟩ := r0
  have nn := B1.N
  have k0 : ¬ R 0 ∧ 0 < mh_n h1 := ⟨D1.l 0 (by omega), by omega⟩
  have e1 : ln h2 0 13 = ln h1 0 13 := by
    unfold ln
    rw [(y.2.2.2 0 k0).2.2, r1]
    exact (y.2.2.1 s0 r2).2
  rw [← l1] at l2 l3
  refine ⟨_, rfl, ?_, ?_⟩
  · rw [e1, b1]
    omega
  · rw [e1, b2]
    omega
/-- a call of both sides: they answer alike, and all goes on -/
def NXT (k : Nat) (h : mh_H) (cy ry : Nat) (as bs : List Value) : Prop := ∃ (R' : Nat → Prop) (h1 h2 : mh_H) (r : Int32) (fd' : Nat × (Nat → Int32)) (td' : Bool × Int32 × Int32 × Int32) (g' : pgz) (cl' : Nat → Option ab) (ip' : Nat × (Nat → Int32)) (rz' : rnz) (T' : List Int32), (∀ Q, mcall 2046 cy as h Q = Q (some (.int r)) h1) ∧ (∀ Q, mcall 2046 ry bs h1 Q = Q (some (.int r)) h2) ∧ INV R' (k + 1) h2 fd' td' g' cl' ip' rz' T'
theorem INV_s (I : INV R k h fd td g cl ip rz T) : INV R (k + 1) h fd td g cl ip rz T := by
  obtain ⟨l, l1, l2, l3⟩ := I.m
  have F := I.F
  exact INV.of ⟨I.S, I.C, I.R, I.w, ⟨l, l1, by omega, by omega⟩, by omega⟩
/-- where nothing changes -/
theorem NXT_r {cy ry : Nat} {as bs : List Value} (I : INV R k h fd td g cl ip rz T) (w : ∃ r : Int32, (∀ Q, mcall 2046 cy as h Q = Q (some (.int r)) h) ∧ ∀ Q, mcall 2046 ry bs h Q = Q (some (.int r)) h) : NXT k h cy ry as bs := by
  obtain ⟨r, a, b⟩ := w
  exact ⟨R, h, h, r, fd, td, g, cl, ip, rz, T, a, b, INV_s I⟩
end SMs
section FDs
variable {R : Nat → Prop} {k : Nat} {h : mh_H} {fd : Nat × (Nat → Int32)} {td : Bool × Int32 × Int32 × Int32} {g : pgz} {cl : Nat → Option ab} {ip : Nat × (Nat → Int32)} {rz : rnz} {T : List Int32}
theorem wc_T {W : Nat → Nat → Prop} (w : ∀ b j, W b j → (b = 0 ∧ (j = 1 ∨ 13 ≤ j)) ∨ (b = 67 ∧ (j = 2 ∨ j = 3 ∨ j = 4 ∨ j = 5 ∨ j = 9 ∨ j = 10 ∨ j = 12)) ∨ (68 ≤ b ∧ b ≤ 72) ∨ (mh_k h b = 102 ∧ (b = 1 ∨ b = 74 ∨ 2644 ≤ b))) : WC W (fun _ => True) h := WC.of ⟨fun _ _ => trivial, fun _ _ _ _ _ => trivial, fun b j _ q => w b j q⟩
theorem wr_T {W : Nat → Nat → Prop} (w : ∀ b j, W b j → (b = 81 ∧ (j = 2 ∨ j = 54 ∨ j = 55 ∨ j = 57 ∨ j = 60 ∨ (64 ≤ j ∧ j ≤ 69))) ∨ b = 82 ∨ (2637 ≤ b ∧ b ≤ 2642)) : WRf W (fun _ => True) h := WRf.of ⟨fun _ _ _ => trivial, fun _ _ _ _ _ => trivial, fun b j _ q => w b j q⟩
theorem s_feed (I : INV R k h fd td g cl ip rz T) (hk : k < 512) (w1 w2 w3 w4 w5 : Int32) : NXT k h 184 301 [.ref 0, .int w1, .int w2, .int w3, .int w4, .int w5] [.ref 81, .int w1, .int w2, .int w3, .int w4, .int w5] := by
  obtain ⟨Y, C, E, TT, UU, SC, SP, nC, nE, nS, pa, P⟩ := I.C.P
  have hn := P.B.N
  have F20 := I.F
  have k1 := (P.B.F.g 1 102 16400 (by decide +kernel)).1
  obtain ⟨h1, x1, x2, x3, run1⟩ := v_184 (d := 2045) (w1 := w1) (w2 := w2) (w3 := w3) (w4 := w4) (w5 := w5) P.B.F I.C.f.1 (by omega)
  obtain ⟨D1, sk⟩ := sd_c I.S (ar_0 (fun v hv o e => by subst e; simp at hv)) run1 hn
  have IR1 := IRf_x I.S sk I.R
  obtain ⟨ap, Pr0⟩ := I.R.P
  obtain ⟨ap1, Pr1⟩ := IR1.P
  obtain ⟨h2, y1, y2, y3, run2⟩ := u_301 (d := 2046) (w1 := w1) (w2 := w2) (w3 := w3) (w4 := w4) (w5 := w5) Pr1.b.Y.F IR1.f.1 (by omega)
  obtain ⟨D2, sk2⟩ := sd_r D1 (ar_81 (fun v hv o e => by subst e; simp at hv)) run2 (Nat.le_trans hn (Nat.le_of_eq x1.2.2.2.1.symm))
  have f1 := fG_z x1
  have kk : WC (fdW fd.1 20) (fun _ => True) h := wc_T (fun b j q => by
    unfold fdW at q
    rcases q with q | q
    · exact Or.inr (Or.inr (Or.inr ⟨by rw [q.1]; exact k1, Or.inl q.1⟩))
    · exact Or.inl ⟨q.1, Or.inl q.2⟩)
  have ii : ∀ b j, ¬ fdW fd.1 20 b j → mh_i h1 b j = mh_i h b j := fun b j q => fG_i x1 q
  obtain ⟨s0, l, L⟩ := I.C.l
  have g0 := P.B.F.g 0 11 15 (by decide +kernel)
  have s01 : s0 ≠ 1 ∧ s0 ≠ 0 := by have := L.s; omega
  have L1 : LNa h1 T s0 l := LNa_w f1 ⟨by unfold fdW; omega, by unfold fdW; omega⟩ (fun j => by unfold fdW; omega) g0 L
  have IC1 : ICl h1 (fd.1 + 20, fun i => if i < fd.1 then fd.2 i else byW (wdA w1 w2 w3 w4 w5 (i - fd.1)) ((i - fd.1) % 4)) td g cl ip rz T := by
    refine ICl_w f1 kk I.C ⟨x2, fun i hi => ?_⟩ (fun j h7 h12 => ii 0 j (by unfold fdW; omega)) ⟨(ii 67 2 (by unfold fdW; omega)).trans I.C.i.1, (funext fun j => ii 68 j (by unfold fdW; omega)).trans I.C.i.2⟩ ?_ ⟨s0, l, L1⟩ (CNm_w f1 P.B.F (by unfold fdW; omega) (by unfold fdW; omega) (fun j => by unfold fdW; omega) (fun b j hb _ => by unfold fdW; omega) I.C.n)
    · show mh_i h1 1 i &&& 255 = if i < fd.1 then fd.2 i else byW (wdA w1 w2 w3 w4 w5 (i - fd.1)) ((i - fd.1) % 4)
      by_cases c : i < fd.1
      · rw [if_pos c, ii 1 i (by unfold fdW; omega)]
        exact I.C.f.2 i c
      · rw [if_neg c]
        have hi' : i < fd.1 + 20 := hi
        have := x3 (i - fd.1) (by omega)
        rw [show fd.1 + (i - fd.1) = i from by omega] at this
        exact this
    · have e67 : ∀ j, mh_i h1 67 j = mh_i h 67 j := fun j => ii 67 j (by unfold fdW; omega)
      have e69 : mh_i h1 69 = mh_i h 69 := funext fun j => ii 69 j (by unfold fdW; omega)
      have e70 : mh_i h1 70 = mh_i h 70 := funext fun j => ii 70 j (by unfold fdW; omega)
      have e71 : mh_i h1 71 = mh_i h 71 := funext fun j => ii 71 j (by unfold fdW; omega)
      rw [e67, e67, e67, e67, e69, e70, e71]
      exact I.C.r
  have IC2 := ICl_x D1 sk2 IC1
  have jj : ∀ b j, ¬ fdR fd.1 20 b j → mh_i h2 b j = mh_i h1 b j := fun b j q => fG_i y1 q
  have kr : WRf (fdR fd.1 20) (fun _ => True) h1 := wr_T (fun b j q => by unfold fdR at q; omega)
  have IR2 : IRf h2 (fd.1 + 20, fun i => if i < fd.1 then fd.2 i else byW (wdA w1 w2 w3 w4 w5 (i - fd.1)) ((i - fd.1) % 4)) td g cl ip rz T := by
    have e81 : ∀ j, j ≠ 2 → mh_i h2 81 j = mh_i h1 81 j := fun j hj => jj 81 j (by unfold fdR; omega)
    have eb : ∀ b, b ≠ 81 → b ≠ 82 → mh_i h2 b = mh_i h1 b := fun b b1 b2 => funext fun j => jj b j (by unfold fdR; omega)
    refine IRf.of ⟨⟨ap1, RPg_r (fG_z y1) kr Pr1⟩, ⟨y2, fun i hi => ?_⟩, ?_, ?_, ?_, ?_⟩
    · show mh_i h2 82 i = if i < fd.1 then fd.2 i else byW (wdA w1 w2 w3 w4 w5 (i - fd.1)) ((i - fd.1) % 4)
      by_cases c : i < fd.1
      · rw [if_pos c, jj 82 i (by unfold fdR; omega)]
        exact IR1.f.2 i c
      · rw [if_neg c]
        have hi' : i < fd.1 + 20 := hi
        have := y3 (i - fd.1) (by omega)
        rw [show fd.1 + (i - fd.1) = i from by omega] at this
        exact this
    · rw [e81 49 (by omega), e81 47 (by omega), e81 48 (by omega), eb 115 (by omega) (by omega)]
      exact IR1.t
    · rw [e81 60 (by omega), eb 2639 (by omega) (by omega)]
      exact IR1.i
    · rw [e81 64 (by omega), e81 65 (by omega), e81 66 (by omega), e81 54 (by omega), eb 2640 (by omega) (by omega), eb 2641 (by omega) (by omega)]
      exact IR1.r
    · rw [e81 57 (by omega), eb 2637 (by omega) (by omega)]
      exact IR1.l
  have P1 := CPg_f f1 kk P
  obtain ⟨-, m1, m2⟩ := fG_D x1 (fun Y' e q => by
    rw [P.B.y] at e
    cases e
    have := P.B.q.n Y (by simp)
    unfold fdW at q
    omega)
  have lnE : ln h1 0 13 = ln h 0 13 := by unfold ln; rw [x1.2.2.1, x1.2.1]
  obtain ⟨r1, r2⟩ := fG_rm y1
  refine ⟨_, h1, h2, _, _, td, g, cl, ip, rz, T, run1, run2, INV.of ⟨D2, IC2, IR2, PUW.of ⟨I.w.P, I.w.c, I.w.e, ⟨by show fd.1 + 20 ≤ 16400; omega, fun i hi => ?_⟩, I.w.i, I.w.r⟩, RM_2 I.S sk Pr0.b.Y sk2 D1 P1.B ⟨s0, L1.r, L1.g.2⟩ (Int.le_of_eq r1) (Int.le_of_eq r2) (by rw [lnE]; show cN h1 - _ + ((fd.1 + 20 : Nat) : Int) ≤ _; omega) (by rw [lnE]; show cS h1 - _ + 25 * ((fd.1 + 20 : Nat) : Int) ≤ _; omega) I.m, by show fd.1 + 20 ≤ 20 * (k + 1); omega⟩⟩
  show ∃ m, m < 256 ∧ (if i < fd.1 then fd.2 i else byW (wdA w1 w2 w3 w4 w5 (i - fd.1)) ((i - fd.1) % 4)) = Int32.ofNat m
  by_cases c : i < fd.1
  · rw [if_pos c]
    exact I.w.f.2 i c
  · rw [if_neg c]
    exact by_lt _ _
end FDs
