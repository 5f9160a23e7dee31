set_option maxRecDepth 100000
/-! run, on both sides -/
theorem i_nn {x : Int32} (c : ¬ (x < 0 ∨ 2000 < x)) : ∃ M, M ≤ 2000 ∧ x = Int32.ofNat M := by
  obtain ⟨j, e, hj⟩ : ∃ j, x = Int32.ofNat j ∧ j < 2147483648 := by
    refine ⟨x.toNatClampNeg, ?_, ?_⟩
    · have : 0 ≤ x.toInt := by
        have := Int32.not_lt.mp (fun z => c (Or.inl z))
        rw [Int32.le_iff_toInt_le] at this
        exact this
      apply Int32.toInt_inj.mp
      rw [nn_int (by have := Int32.toInt_lt x; unfold Int32.toNatClampNeg; omega)]
      unfold Int32.toNatClampNeg
      omega
    · have := Int32.toInt_lt x
      unfold Int32.toNatClampNeg
      omega
  refine ⟨j, ?_, e⟩
  have w := Int32.not_lt.mp (fun z => c (Or.inr z))
  rw [Int32.le_iff_toInt_le, e, nn_int hj] at w
  have z2 : (2000 : Int32).toInt = 2000 := by decide
  omega
section RNs
variable {W : Nat → Nat → Prop} {R R' : Nat → Prop} {k d : Nat} {h h1 h2 : mh_H} {fd : Nat × (Nat → Int32)} {td : Bool × Int32 × Int32 × Int32} {g : pgz} {cl cl0 : Nat → Option ab} {ip : Nat × (Nat → Int32)} {rz rz' : rnz} {T T' : List Int32}
/-- the reference where its run or its line changes -/
theorem IRf_w (x : fz W h h1) (hW : ∀ b j, W b j → (b = 81 ∧ (j = 54 ∨ j = 55 ∨ j = 57 ∨ (64 ≤ j ∧ j ≤ 69))) ∨ b = 2637 ∨ b = 2638 ∨ (2640 ≤ b ∧ b ≤ 2642)) (I : IRf h fd td g cl ip rz T) (r1 : mh_i h1 81 64 = Int32.ofNat rz'.p ∧ mh_i h1 81 65 = rz'.d ∧ mh_i h1 81 66 = rz'.t ∧ mh_i h1 81 54 = rz'.o ∧ mh_i h1 2640 = rz'.V ∧ mh_i h1 2641 = rz'.P) (l1 : mh_i h1 81 57 = Int32.ofNat T'.length ∧ ∀ i v, T'[i]? = some v → mh_i h1 2637 i = v) : IRf h1 fd td g cl ip rz' T' := by
  obtain ⟨ap, P⟩ := I.P
  have hn := RF_n P.b.Y.F
  have e81 : ∀ j, j = 2 ∨ (47 ≤ j ∧ j ≤ 49) ∨ j = 60 → mh_i h1 81 j = mh_i h 81 j := fun j hj => (x.2.2 81 j (by omega) (fun w => by have := hW 81 j w; omega)).1
  have eb : ∀ b, b = 82 ∨ b = 115 ∨ b = 2639 → mh_i h1 b = mh_i h b := fun b hb => funext fun j => (x.2.2 b j (by omega) (fun w => by have := hW b j w; omega)).1
  exact IRf.of ⟨⟨ap, RPg_r x (wr_T (fun b j w => by have := hW b j w; omega)) P⟩, by rw [e81 2 (by omega), eb 82 (by omega)]; exact I.f, by rw [e81 49 (by omega), e81 47 (by omega), e81 48 (by omega), eb 115 (by omega)]; exact I.t, by rw [e81 60 (by omega), eb 2639 (by omega)]; exact I.i, r1, l1⟩
def rnW (b j : Nat) : Prop := b = 81 ∧ (j = 64 ∨ j = 65 ∨ j = 67 ∨ j = 68)
theorem rnH_G : fG rnW h (rnH h) := by
  unfold rnH
  exact fG_t (fG_t (fG_t (fG_si ⟨rfl, by omega⟩) (fG_si ⟨rfl, by omega⟩)) (fG_si ⟨rfl, by omega⟩)) (fG_si ⟨rfl, by omega⟩)
theorem rnH_0 : mh_i (rnH h) 81 64 = 0 ∧ mh_i (rnH h) 81 65 = 0 ∧ mh_i (rnH h) 81 67 = 0 ∧ mh_i (rnH h) 81 68 = 0 := by
  unfold rnH
  refine ⟨?_, ?_, ?_, ?_⟩
  · rw [hi_si, if_neg (by omega), hi_si, if_neg (by omega), hi_si, if_neg (by omega), hi_si, if_pos ⟨rfl, rfl⟩]
  · rw [hi_si, if_neg (by omega), hi_si, if_neg (by omega), hi_si, if_pos ⟨rfl, rfl⟩]
  · rw [hi_si, if_neg (by omega), hi_si, if_pos ⟨rfl, rfl⟩]
  · rw [hi_si, if_pos ⟨rfl, rfl⟩]
/-- the reference's run -/
theorem r_366 (I : IRf h fd td g cl ip rz T) (U : PUR g) (S : CSH g.G g.c cl) (S0 : CSH g.G g.c cl0) (e0 : ∀ q, q < g.c → cl0 q = cl q) (hi : ip.1 ≤ 1000) {M : Nat} (hM : M ≤ 2000) {tru : Bool} (tr : cl0 = g.kn ∨ ∀ v', JV g.G g.c cl g.fs g.ot g.m v' → tru = (!g.m && decide (v' = -1))) {s : rst} (es : s = rgo (sJ g.G g.J2 ip.2 ip.1) g.fs g.ot g.m tru g.kn cl0 g.al (g.c - 1) M (0, 0, rz.V, rz.P, rz.o + ar g.m tru (g.kn 0) (cl0 0) rz.V rz.P, 0, 0)) : ∃ h1, IRf h1 fd td g cl ip (s.p, Int32.ofNat s.d, Int32.ofNat (min s.c ip.1), s.o, s.V, s.P) T ∧ (qN h1 ≤ qN h ∧ qS h1 ≤ qS h) ∧ ∀ Q, mcall 2046 366 [.ref 81, .int (Int32.ofNat M)] h Q = Q (some (.int (rAn (g.c - 1) s))) h1 := by
  have x0 := rnH_G (h := h)
  obtain ⟨k4, k5, k7, k8⟩ := rnH_0 (h := h)
  obtain ⟨r1, r2, r3, r4, r5, r6⟩ := I.r
  have i0 : ∀ b j, ¬ rnW b j → mh_i (rnH h) b j = mh_i h b j := fun b j w => fG_i x0 w
  have I0 : IRf (rnH h) fd td g cl ip (0, 0, rz.t, rz.o, rz.V, rz.P) T := IRf_w (rz' := (0, 0, rz.t, rz.o, rz.V, rz.P)) (T' := T) (fG_z x0) (fun b j w => by unfold rnW at w; omega) I ⟨k4, k5, (i0 81 66 (by unfold rnW; omega)).trans r3, (i0 81 54 (by unfold rnW; omega)).trans r4, (funext fun j => i0 2640 j (by unfold rnW; omega)).trans r5, (funext fun j => i0 2641 j (by unfold rnW; omega)).trans r6⟩ ⟨(i0 81 57 (by unfold rnW; omega)).trans I.l.1, fun i v e => by rw [i0 2637 i (by unfold rnW; omega)]; exact I.l.2 i v e⟩
  obtain ⟨a1, a2⟩ := fG_rm x0
  obtain ⟨ap0, P0⟩ := I.P
  have key : ∃ hm v tr', IRf hm fd td g cl ip (0, 0, rz.t, rz.o, rz.V, rz.P) T ∧ (qN hm ≤ qN h ∧ qS hm ≤ qS h) ∧ (g.m = true → hm = rnH h) ∧ (g.m = false → ∀ Q, mcall (1346 + 699) 275 [.ref 115] (rnH h) Q = Q (some (.int v)) hm) ∧ tr' = (!g.m && decide (v = -1)) ∧ (cl0 = g.kn ∨ tr' = tru) ∧ mh_i hm 81 = mh_i (rnH h) 81 := by
    by_cases hm : g.m = true
    · refine ⟨rnH h, -3, _, I0, ⟨by omega, by omega⟩, fun _ => rfl, fun z => (by rw [hm] at z; cases z), rfl, ?_, rfl⟩
      rcases tr with e | e
      · exact Or.inl e
      · exact Or.inr (e (-3) (Or.inl ⟨hm, rfl⟩)).symm
    · obtain ⟨hm2, v, I2, ⟨q1, q2⟩, jv, ii, run⟩ := r_275 (d := 2044) I0 U S (by omega)
      refine ⟨hm2, v, _, I2, ⟨by omega, by omega⟩, fun z => absurd z hm, fun _ => run, rfl, ?_, ii 81 (by omega)⟩
      rcases tr with e | e
      · exact Or.inl e
      · exact Or.inr (e v jv).symm
  obtain ⟨hm, v, tr', I2, ⟨q1, q2⟩, c0, c1, et, tt, e81⟩ := key
  obtain ⟨ap, P⟩ := I2.P
  obtain ⟨b1, b2, b3, b4, b5, b6⟩ := I2.r
  have b4' : mh_i hm 81 54 = rz.o := b4
  have b5' : mh_i hm 2640 = rz.V := b5
  have b6' : mh_i hm 2641 = rz.P := b6
  have es' : s = rgo (sJ g.G g.J2 (mh_i hm 2639) ip.1) g.fs g.ot g.m tr' g.kn cl0 g.al (g.c - 1) M (0, 0, mh_i hm 2640, mh_i hm 2641, mh_i hm 81 54 + ar g.m tr' (g.kn 0) (cl0 0) (mh_i hm 2640) (mh_i hm 2641), 0, 0) := by
    rw [b4', b5', b6', I2.i.2, es]
    rcases tt with e | e
    · rw [e, rgo_s tru tr', ar_s tru tr']
    · rw [e]
  obtain ⟨h', y, RS', sp, sc, y66, y55, run⟩ := u_366 (d := 1346) (ap := ap) (gv := ip.1) U.S P0.b.Y.F hM P0.f.2.2 c0 c1 et (RRI.of ⟨P.b.Y.F, ⟨P.H.c, P.H.b⟩, ⟨I2.i.1, hi⟩, P.t, P.M, P.k, fun q hq => by rw [e0 q hq]; exact P.c q hq, U.k, S0, P.a, U.t, fun p hp => ⟨(P.H.n p hp).2, (P.H.a p hp).2⟩⟩) (fun j hj => by
    rw [e81]
    rcases hj with e | e | e | e <;> subst e
    · exact k4
    · exact k5
    · exact k7
    · exact k8) es'
  obtain ⟨m1, m2⟩ := fG_rm y
  refine ⟨h', IRf_w (rz' := (s.p, Int32.ofNat s.d, Int32.ofNat (min s.c ip.1), s.o, s.V, s.P)) (T' := T) (fG_z y) (fun b j w => by unfold rvW at w; omega) I2 ⟨RS'.p, RS'.d, ?_, RS'.o, RS'.V, RS'.P⟩ ⟨?_, fun i v e => ?_⟩, ⟨by omega, by omega⟩, run⟩
  · rw [y66]
    show _ = Int32.ofNat (min s.c ip.1)
    congr 1
    split <;> omega
  · rw [fG_i y (by unfold rvW; omega)]
    exact I2.l.1
  · rw [fG_i y (by unfold rvW; omega)]
    exact I2.l.2 i v e
/-- the class's run -/
theorem c_208 {Y C E TT UU SC SP nC nE nS pa : Nat} (P : CPg h Y C E TT UU SC SP nC nE nS pa g.G g.J g.J2 g.c g.fs g.ot g.pl) (I : ICl h fd td g cl ip rz T) (U : PUR g) (S : CSH g.G g.c cl) (hi : ip.1 ≤ 1000) {M : Nat} (hM : M ≤ 2000) (V0 P0 : Nat → Int32) : ∃ h1 tru cl0 s, s = rgo (sJ g.G g.J2 ip.2 ip.1) g.fs g.ot g.m tru g.kn cl0 g.al (g.c - 1) M (0, 0, V0, P0, rz.o + ar g.m tru (g.kn 0) (cl0 0) V0 P0, 0, 0) ∧ CSH g.G g.c cl0 ∧ (∀ q, q < g.c → cl0 q = cl q) ∧ (cl0 = g.kn ∨ ∀ v', JV g.G g.c cl g.fs g.ot g.m v' → tru = (!g.m && decide (v' = -1))) ∧ s.p < g.c ∧ ICl h1 fd td g cl ip (s.p, Int32.ofNat s.d, Int32.ofNat (min s.c ip.1), s.o, s.V, s.P) T ∧ (cN h1 ≤ cN h ∧ cS h1 ≤ cS h ∧ ln h1 0 13 = ln h 0 13) ∧ ∀ Q, mcall 2046 208 [.ref 0, .int (Int32.ofNat M)] h Q = Q (some (.int (rAn (g.c - 1) s))) h1 := by
  obtain ⟨ca, jd, j1, j2, j3, j4⟩ := I.j
  have key : ∃ hm v cl0, ICl hm fd td g cl ip rz T ∧ CPg hm Y C E TT UU SC SP nC nE nS pa g.G g.J g.J2 g.c g.fs g.ot g.pl ∧ (cN hm ≤ cN h ∧ cS hm ≤ cS h ∧ ln hm 0 13 = ln h 0 13) ∧ (ca = false → hm = h) ∧ (ca = true → ∀ Q, mcall (2038 + 7) 204 [.ref 0] h Q = Q (some (.int v)) hm) ∧ CSH g.G g.c cl0 ∧ (∀ q, q < g.c → cl0 q = cl q) ∧ (cl0 = g.kn ∨ ∀ v', JV g.G g.c cl g.fs g.ot g.m v' → (ca && decide (v = -1)) = (!g.m && decide (v' = -1))) := by
    cases ca with
    | false => exact ⟨h, 0, g.kn, I, P, ⟨Int.le_refl _, Int.le_refl _, rfl⟩, fun _ => rfl, fun z => (by cases z), U.k, fun q hq => (j4 rfl q hq).symm, Or.inl rfl⟩
    | true =>
      obtain ⟨hm, v, I1, P1, jv, rr, -, run⟩ := c_204 (d := 2038) P I U S
      refine ⟨hm, v, cl, I1, P1, rr, fun z => (by cases z), fun _ => run, S, fun _ _ => rfl, Or.inr (fun v' jv' => ?_)⟩
      have e : v = v' := JV_u jv jv'
      subst e
      cases em : g.m with
      | true =>
        have e3 : v = -3 := JV_u jv (Or.inl ⟨em, rfl⟩)
        rw [e3]
        decide
      | false => rfl
  obtain ⟨hm, v, cl0, I1, P1, ⟨r1, r2, r3⟩, c0, c1, S0, e0, tr⟩ := key
  obtain ⟨b1, b2, b3, b4, b5, b6⟩ := I1.r
  obtain ⟨s, es⟩ : ∃ s, s = rgo (sJ g.G g.J2 ip.2 ip.1) g.fs g.ot g.m (ca && decide (v = -1)) g.kn cl0 g.al (g.c - 1) M (0, 0, V0, P0, rz.o + ar g.m (ca && decide (v = -1)) (g.kn 0) (cl0 0) V0 P0, 0, 0) := ⟨_, rfl⟩
  obtain ⟨h', x, C', sp, run⟩ := v_208 (d := 2038) (ca := ca) (gv := ip.1) (V := V0) (P := P0) (s := s) U.S P.B U.o hM j1 c0 c1 rfl (CRI.of ⟨P1.B, P1.H, P1.I, ⟨fun q hq => by rw [e0 q hq]; exact I1.c q hq, P1.F, P1.O⟩, I1.k, U.k, S0, I1.m, I1.a, ⟨I1.i.1, hi⟩⟩) (by rw [I1.i.2, b4]; exact es)
  have f1 := fG_z x
  have kk : WC gdW (fun _ => True) hm := wc_T (fun b j q => by unfold gdW at q; omega)
  have ii : ∀ b j, ¬ gdW b j → mh_i h' b j = mh_i hm b j := fun b j q => fG_i x q
  obtain ⟨s0, l, L⟩ := I1.l
  have g0 := P1.B.F.g 0 11 15 (by decide +kernel)
  have sL := L.s
  have L1 : LNa h' T s0 l := LNa_w f1 ⟨by unfold gdW; omega, by unfold gdW; omega⟩ (fun j => by unfold gdW; omega) g0 L
  have IC1 : ICl h' fd td g cl ip (s.p, Int32.ofNat s.d, Int32.ofNat (min s.c ip.1), s.o, s.V, s.P) T := ICl_w (rz' := (s.p, Int32.ofNat s.d, Int32.ofNat (min s.c ip.1), s.o, s.V, s.P)) (ip' := ip) (fd' := fd) (T' := T) f1 kk I1 ⟨(ii 0 1 (by unfold gdW; omega)).trans I1.f.1, fun i hi => by rw [ii 1 i (by unfold gdW; omega)]; exact I1.f.2 i hi⟩ (fun j h7 h12 => ii 0 j (by unfold gdW; omega)) ⟨(ii 67 2 (by unfold gdW; omega)).trans I1.i.1, (funext fun j => ii 68 j (by unfold gdW; omega)).trans I1.i.2⟩ ⟨C'.p, C'.d, C'.c, C'.o, fun x hx => C'.g.1 x hx, fun x hx => ⟨C'.z x hx, fun y hy => C'.g.2 x y hx hy⟩⟩ ⟨s0, l, L1⟩ (CNm_w f1 P1.B.F (by unfold gdW; omega) (by unfold gdW; omega) (fun j => by unfold gdW; omega) (fun b j hb _ => by unfold gdW; omega) I1.n)
  obtain ⟨-, m1, m2⟩ := fG_D x (fun Y' e q => by
    rw [P1.B.y] at e
    cases e
    have := P1.B.q.n Y (by simp)
    unfold gdW at q
    omega)
  have lnE : ln h' 0 13 = ln hm 0 13 := by unfold ln; rw [x.2.2.1, x.2.1]
  exact ⟨h', _, cl0, s, es, S0, e0, tr, sp, IC1, ⟨by omega, by omega, lnE.trans r3⟩, run⟩
theorem s_run (I : INV R k h fd td g cl ip rz T) (x : Int32) : NXT k h 208 366 [.ref 0, .int x] [.ref 81, .int x] := by
  by_cases hx : x < 0 ∨ 2000 < x
  · exact NXT_r I ⟨_, v_208n (d := 2046) x hx, u_366n (d := 2046) x hx⟩
  · obtain ⟨M, hM, eM⟩ := i_nn hx
    subst eM
    obtain ⟨Y, C, E, TT, UU, SC, SP, nC, nE, nS, pa, P⟩ := I.C.P
    have hn := P.B.N
    obtain ⟨h1, tru, cl0, s, es, S0, e0, tr, sp, IC1, ⟨r1, r2, r3⟩, run1⟩ := c_208 P I.C I.w.P I.w.c I.w.i hM rz.V rz.P
    obtain ⟨D1, sk⟩ := sd_c I.S (ar_0 (fun v hv o e => by subst e; simp at hv)) run1 hn
    have IR1 := IRf_x I.S sk I.R
    obtain ⟨h2, IR2, q, run2⟩ := r_366 IR1 I.w.P I.w.c S0 e0 I.w.i hM tr es
    obtain ⟨D2, sk2⟩ := sd_r D1 (ar_81 (fun v hv o e => by subst e; simp at hv)) run2 (Nat.le_trans hn sk.1)
    have zp : ZPx (g.G.a s.p) (g.G.rm s.p) s.P := by
      rw [es]
      refine ZP_go I.w.P.S M _ ?_ ?_
      · show 0 < g.c
        have := I.w.P.c
        omega
      · intro x y hx
        have hx' : x < g.G.a 0 := hx
        rw [I.w.P.o.2] at hx'
        exact absurd hx' (Nat.not_lt_zero _)
    exact ⟨_, h1, h2, _, fd, td, g, cl, ip, _, T, run1, run2, INV_2 I D1 sk D2 sk2 IC1 IR2 (PUW.of ⟨I.w.P, I.w.c, I.w.e, I.w.f, I.w.i, ⟨sp, zp⟩⟩) q.1 q.2 (by rw [r3]; omega) (by rw [r3]; omega)⟩
end RNs
