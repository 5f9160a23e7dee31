set_option maxRecDepth 100000
/-! input and drop; claims -/
def ipW (b j : Nat) : Prop := b = 68 ∨ (b = 67 ∧ j = 2)
def ipR (b j : Nat) : Prop := b = 2639 ∨ (b = 81 ∧ j = 60)
section IPs
variable {R R' : Nat → Prop} {k : Nat} {h h1 h2 : mh_H} {fd : Nat × (Nat → Int32)} {td : Bool × Int32 × Int32 × Int32} {g : pgz} {cl : Nat → Option ab} {ip ip' : Nat × (Nat → Int32)} {rz : rnz} {T : List Int32}
theorem ip_tail (I : INV R k h fd td g cl ip rz T) (D1 : SDs R h1) (sk : sdK R h h1) (D2 : SDs R' h2) (sk2 : sdK (fun b => ¬ R b ∧ b < mh_n h1) h1 h2) (x1 : fG ipW h h1) (y1 : fG ipR h1 h2) (c1 : mh_i h1 67 2 = Int32.ofNat ip'.1 ∧ mh_i h1 68 = ip'.2) (c2 : mh_i h2 81 60 = Int32.ofNat ip'.1 ∧ mh_i h2 2639 = ip'.2) (hi : ip'.1 ≤ 1000) : INV R' (k + 1) h2 fd td g cl ip' rz T := by
  obtain ⟨Y, C, E, TT, UU, SC, SP, nC, nE, nS, pa, P⟩ := I.C.P
  have IR1 := IRf_x I.S sk I.R
  obtain ⟨ap, Pr0⟩ := I.R.P
  obtain ⟨ap1, Pr1⟩ := IR1.P
  have f1 := fG_z x1
  have kk : WC ipW (fun _ => True) h := wc_T (fun b j q => by unfold ipW at q; omega)
  have ii : ∀ b j, ¬ ipW b j → mh_i h1 b j = mh_i h b j := fun b j q => fG_i x1 q
  obtain ⟨s0, l, L⟩ := I.C.l
  have g0 := P.B.F.g 0 11 15 (by decide +kernel)
  have sL := L.s
  have L1 : LNa h1 T s0 l := LNa_w f1 ⟨by unfold ipW; omega, by unfold ipW; omega⟩ (fun j => by unfold ipW; omega) g0 L
  have IC1 : ICl h1 fd td g cl ip' rz T := by
    refine ICl_w f1 kk I.C ⟨(ii 0 1 (by unfold ipW; omega)).trans I.C.f.1, fun i hi => by rw [ii 1 i (by unfold ipW; omega)]; exact I.C.f.2 i hi⟩ (fun j h7 h12 => ii 0 j (by unfold ipW; omega)) c1 ?_ ⟨s0, l, L1⟩ (CNm_w f1 P.B.F (by unfold ipW; omega) (by unfold ipW; omega) (fun j => by unfold ipW; omega) (fun b j hb _ => by unfold ipW; omega) I.C.n)
    have e67 : ∀ j, j ≠ 2 → mh_i h1 67 j = mh_i h 67 j := fun j hj => ii 67 j (by unfold ipW; omega)
    have e69 : mh_i h1 69 = mh_i h 69 := funext fun j => ii 69 j (by unfold ipW; omega)
    have e70 : mh_i h1 70 = mh_i h 70 := funext fun j => ii 70 j (by unfold ipW; omega)
    have e71 : mh_i h1 71 = mh_i h 71 := funext fun j => ii 71 j (by unfold ipW; omega)
    rw [e67 4 (by omega), e67 5 (by omega), e67 3 (by omega), e67 9 (by omega), e69, e70, e71]
    exact I.C.r
  have IC2 := ICl_x D1 sk2 IC1
  have kr : WRf ipR (fun _ => True) h1 := wr_T (fun b j q => by unfold ipR at q; omega)
  have IR2 : IRf h2 fd td g cl ip' rz T := by
    have jj : ∀ b j, ¬ ipR b j → mh_i h2 b j = mh_i h1 b j := fun b j q => fG_i y1 q
    have e81 : ∀ j, j ≠ 60 → mh_i h2 81 j = mh_i h1 81 j := fun j hj => jj 81 j (by unfold ipR; omega)
    have eb : ∀ b, b ≠ 81 → b ≠ 2639 → mh_i h2 b = mh_i h1 b := fun b b1 b2 => funext fun j => jj b j (by unfold ipR; omega)
    refine IRf.of ⟨⟨ap1, RPg_r (fG_z y1) kr Pr1⟩, ?_, ?_, c2, ?_, ?_⟩
    · rw [e81 2 (by omega), eb 82 (by omega) (by omega)]
      exact IR1.f
    · rw [e81 49 (by omega), e81 47 (by omega), e81 48 (by omega), eb 115 (by omega) (by omega)]
      exact IR1.t
    · rw [e81 64 (by omega), e81 65 (by omega), e81 66 (by omega), e81 54 (by omega), eb 2640 (by omega) (by omega), eb 2641 (by omega) (by omega)]
      exact IR1.r
    · rw [e81 57 (by omega), eb 2637 (by omega) (by omega)]
      exact IR1.l
  have P1 := CPg_f f1 kk P
  obtain ⟨-, m1, m2⟩ := fG_D x1 (fun Y' e q => by
    rw [P.B.y] at e
    cases e
    have := P.B.q.n Y (by simp)
    unfold ipW at q
    omega)
  have lnE : ln h1 0 13 = ln h 0 13 := by unfold ln; rw [x1.2.2.1, x1.2.1]
  obtain ⟨r1, r2⟩ := fG_rm y1
  have hF := I.F
  exact INV.of ⟨D2, IC2, IR2, PUW.of ⟨I.w.P, I.w.c, I.w.e, I.w.f, hi, I.w.r⟩, RM_2 I.S sk Pr0.b.Y sk2 D1 P1.B ⟨s0, L1.r, L1.g.2⟩ (Int.le_of_eq r1) (Int.le_of_eq r2) (by rw [lnE]; omega) (by rw [lnE]; omega) I.m, by omega⟩
theorem s_input (I : INV R k h fd td g cl ip rz T) (a : Int32) : NXT k h 206 353 [.ref 0, .int a] [.ref 81, .int a] := by
  obtain ⟨Y, C, E, TT, UU, SC, SP, nC, nE, nS, pa, P⟩ := I.C.P
  have hn := P.B.N
  obtain ⟨i1, i2⟩ := I.C.i
  have i3 := I.w.i
  by_cases c : ip.1 < 1000
  · have run1 := v_206 (d := 2045) (x := a) P.B.F i1 c
    obtain ⟨D1, sk⟩ := sd_c I.S (ar_0 (fun v hv o e => by subst e; simp at hv)) run1 hn
    have IR1 := IRf_x I.S sk I.R
    obtain ⟨ap1, Pr1⟩ := IR1.P
    have run2 := u_353 (d := 2046) (x := a) Pr1.b.Y.F IR1.i.1 c
    obtain ⟨D2, sk2⟩ := sd_r D1 (ar_81 (fun v hv o e => by subst e; simp at hv)) run2 hn
    have x1 : fG ipW h (mh_si (mh_si h 68 ip.1 a) 67 2 (Int32.ofNat (ip.1 + 1))) := fG_t (fG_si (Or.inl rfl)) (fG_si (Or.inr ⟨rfl, rfl⟩))
    refine ⟨_, _, _, _, fd, td, g, cl, (ip.1 + 1, fun j => if j = ip.1 then a else ip.2 j), rz, T, run1, run2, ip_tail I D1 sk D2 sk2 x1 (fG_t (fG_si (Or.inl rfl)) (fG_si (Or.inr ⟨rfl, rfl⟩))) ⟨by rw [hi_si, if_pos ⟨rfl, rfl⟩], ?_⟩ ⟨by rw [hi_si, if_pos ⟨rfl, rfl⟩], ?_⟩ c⟩
    · funext j
      show mh_i (mh_si (mh_si h 68 ip.1 a) 67 2 (Int32.ofNat (ip.1 + 1))) 68 j = if j = ip.1 then a else ip.2 j
      rw [hi_si, if_neg (by omega), hi_si, i2]
      by_cases q : j = ip.1
      · rw [if_pos ⟨rfl, q⟩, if_pos q]
      · rw [if_neg (fun z => q z.2), if_neg q]
    · funext j
      show _ = if j = ip.1 then a else ip.2 j
      rw [hi_si, if_neg (by omega), hi_si, IR1.i.2]
      by_cases q : j = ip.1
      · rw [if_pos ⟨rfl, q⟩, if_pos q]
      · rw [if_neg (fun z => q z.2), if_neg q]
  · have e : ip.1 = 1000 := by omega
    obtain ⟨ap, Pr⟩ := I.R.P
    refine NXT_r I ⟨-1, v_206n (d := 2045) P.B.F (by rw [i1, e]; rfl), u_353n (d := 2046) Pr.b.Y.F (by rw [I.R.i.1, e]; rfl)⟩
theorem s_drop (I : INV R k h fd td g cl ip rz T) : NXT k h 207 354 [.ref 0] [.ref 81] := by
  obtain ⟨Y, C, E, TT, UU, SC, SP, nC, nE, nS, pa, P⟩ := I.C.P
  have hn := P.B.N
  obtain ⟨i1, i2⟩ := I.C.i
  have run1 := v_207 (d := 2046) P.B.F
  rw [i1] at run1
  obtain ⟨D1, sk⟩ := sd_c I.S (ar_0 (fun v hv o e => by subst e; simp at hv)) run1 hn
  have IR1 := IRf_x I.S sk I.R
  obtain ⟨ap1, Pr1⟩ := IR1.P
  have run2 := u_354 (d := 2046) Pr1.b.Y.F
  rw [IR1.i.1] at run2
  obtain ⟨D2, sk2⟩ := sd_r D1 (ar_81 (fun v hv o e => by subst e; simp at hv)) run2 hn
  refine ⟨_, _, _, _, fd, td, g, cl, (0, ip.2), rz, T, run1, run2, ip_tail I D1 sk D2 sk2 (fG_si (Or.inr ⟨rfl, rfl⟩)) (fG_si (Or.inr ⟨rfl, rfl⟩)) ⟨by rw [hi_si, if_pos ⟨rfl, rfl⟩]; rfl, ?_⟩ ⟨by rw [hi_si, if_pos ⟨rfl, rfl⟩]; rfl, ?_⟩ (Nat.zero_le _)⟩
  · show mh_i (mh_si h 67 2 0) 68 = ip.2
    rw [← i2]
    exact funext fun j => by rw [hi_si, if_neg (by omega)]
  · show mh_i (mh_si _ 81 60 0) 2639 = ip.2
    rw [← IR1.i.2]
    exact funext fun j => by rw [hi_si, if_neg (by omega)]
end IPs
/-! claims -/
section CLs
variable {R R' : Nat → Prop} {k : Nat} {h h1 h2 : mh_H} {fd : Nat × (Nat → Int32)} {td : Bool × Int32 × Int32 × Int32} {g : pgz} {cl cl' : Nat → Option ab} {ip : Nat × (Nat → Int32)} {rz : rnz} {T : List Int32}
/-- the class's claims change; its judgement is none any more -/
theorem ICl_cl {V : Nat → Nat → Prop} {Y C E TT UU SC SP nC nE nS pa : Nat} (P : CPg h Y C E TT UU SC SP nC nE nS pa g.G g.J g.J2 g.c g.fs g.ot g.pl) (I : ICl h fd td g cl ip rz T) {U : Nat → Nat → Prop} (z : zS V U h h1) (hU : ∀ b j, U b j → b = 0 ∧ 10 ≤ j ∧ j ≤ 12) (hV : ∀ b j, V b j → b = 73 ∨ b = 34 ∨ b = 51) (B1 : BS h1 Y C E TT UU SC SP nC nE nS) (cc : ∀ q, q < 250 → V 73 q → mh_r h1 73 q = none ∨ ∃ v, pv h1 73 q v) (c1 : ∀ q, q < g.c → pv h1 73 q (cl' q)) {ca jd : Bool} (j1 : mh_i h1 0 10 = kb ca) (j2 : mh_i h1 0 11 = kb jd) (j3 : jd = true → JV g.G g.c cl' g.fs g.ot g.m (mh_i h1 0 12)) (j4 : ca = false → ∀ q, q < g.c → cl' q = g.kn q) : ICl h1 fd td g cl' ip rz T ∧ CPg h1 Y C E TT UU SC SP nC nE nS pa g.G g.J g.J2 g.c g.fs g.ot g.pl := by
  have F := P.B.F
  have P1 := CPg_z z (fun b j u => Or.inr (Or.inl (hU b j u).1)) (fun b j v => by have := hV b j v; omega) B1 cc P
  have ii : ∀ b c j, mg h b c → c ≠ 8 → c ≠ 101 → ¬ eff b → ¬ (b = 0 ∧ 10 ≤ j ∧ j ≤ 12) → mh_i h1 b j = mh_i h b j := fun b c j gb c8 c1 e u => z.ii b c j gb c8 c1 e (fun q => u (hU b j q))
  have g0 := F.g 0 11 15 (by decide +kernel)
  have g53 := F.g 53 0 17 (by decide +kernel)
  have g67 := F.g 67 2 13 (by decide +kernel)
  have i0 : ∀ j, j < 10 → True → mh_i h1 0 j = mh_i h 0 j := fun j a _ => ii 0 11 j g0 (by decide) (by decide) (by unfold eff; omega) (by omega)
  have i53 : mh_i h1 53 = mh_i h 53 := funext fun j => ii 53 0 j g53 (by decide) (by decide) (by unfold eff; omega) (by omega)
  have i67 : mh_i h1 67 = mh_i h 67 := funext fun j => ii 67 2 j g67 (by decide) (by decide) (by unfold eff; omega) (by omega)
  have ir : ∀ b l, (b, 100, l) ∈ cfK → ¬ eff b → b ≠ 0 → mh_i h1 b = mh_i h b := fun b l m e n0 => funext fun j => ii b 100 j (F.g b 100 l m) (by decide) (by decide) e (by omega)
  have i1 : mh_i h1 1 = mh_i h 1 := funext fun j => ii 1 102 j (F.g 1 102 16400 (by decide +kernel)) (by decide) (by decide) (by unfold eff; omega) (by omega)
  obtain ⟨s0, l, L⟩ := I.l
  have sL := L.s
  have es : ¬ eff s0 := by unfold eff; omega
  have r0 : mh_r h1 0 13 = mh_r h 0 13 := z.rr 0 11 13 g0 (by decide) (by decide) (by unfold eff; omega) (by unfold isPl; omega)
  have r2 : mh_r h1 2 0 = mh_r h 2 0 := z.rr 2 4 0 (F.g 2 4 20 (by decide +kernel)) (by decide) (by decide) (by unfold eff; omega) (by unfold isPl; omega)
  have L1 : LNa h1 T s0 l := LNa.of ⟨r0.trans L.r, zS_g z L.g, (zS_l z L.g).trans L.l, L.b, L.s, L.n, (ii 0 11 14 g0 (by decide) (by decide) (by unfold eff; omega) (by omega)).trans L.e, fun i v e => by rw [ii s0 102 i L.g (by decide) (by decide) es (by omega)]; exact L.t i v e⟩
  have N1 : CNm h1 g := by
    obtain ⟨TK, X, n, Bt, np, ap, w1, w2', w3⟩ := I.n
    have i30 := ir 30 4500 (by decide +kernel) (by unfold eff; omega) (by omega)
    refine ⟨TK, X, n, Bt, np, ap, fun p hp h0 => ?_, by rw [i30]; exact w2', by rw [i30]; exact w3⟩
    obtain ⟨u1, u2, ⟨b1, b2⟩, u4⟩ := w1 p hp h0
    have gX : mg h X 102 := ⟨u2.k, u2.x⟩
    exact ⟨r2.trans u1, ⟨zS_g z u2.g, (z.rr TK 10 0 u2.g (by decide) (by decide) (by unfold eff; omega) (by unfold isPl; omega)).trans u2.r, (zS_g z gX).1, (zS_g z gX).2, (zS_l z gX).trans u2.l, u2.n, fun i hi => by rw [ii X 102 i gX (by decide) (by decide) (by unfold eff; omega) (by omega)]; exact u2.b i hi, u2.2.2.2.2.2.2.2⟩, ⟨b1, b2⟩, by rw [r0]; exact u4⟩
  obtain ⟨t1, t2, t3, t4⟩ := I.t
  refine ⟨ICl.of ⟨⟨Y, C, E, TT, UU, SC, SP, nC, nE, nS, pa, P1⟩, fun q hq => z.pp 54 q _ (by unfold isPl; omega) (fun v => by have := hV 54 q v; omega) (I.k q hq), c1, ⟨(i0 1 (by omega) trivial).trans I.f.1, by rw [i1]; exact I.f.2⟩, ⟨(i0 7 (by omega) trivial).trans t1, (i0 8 (by omega) trivial).trans t2, (i0 9 (by omega) trivial).trans t3, by rw [i53]; exact t4⟩, by rw [i53]; exact I.m, by rw [ir 55 250 (by decide +kernel) (by unfold eff; omega) (by omega)]; exact I.a, ⟨ca, jd, j1, j2, j3, j4⟩, by rw [i67, ir 68 1000 (by decide +kernel) (by unfold eff; omega) (by omega)]; exact I.i, by rw [i67, ir 69 12 (by decide +kernel) (by unfold eff; omega) (by omega), ir 70 384 (by decide +kernel) (by unfold eff; omega) (by omega), ir 71 6 (by decide +kernel) (by unfold eff; omega) (by omega)]; exact I.r, ⟨s0, l, L1⟩, N1⟩, P1⟩
/-- the reference's claims change -/
theorem IRf_cl (I : IRf h fd td g cl ip rz T) (x : fq (clW g.c) h h1) (c1 : ∀ q, q < g.c → RK h1 (137 + 10 * q) (cl' q)) (a1 : ∀ q, q < g.c → mh_i h1 (137 + 10 * q) 2 = mh_i h (137 + 10 * q) 2 ∨ mh_i h1 (137 + 10 * q) 2 = mh_i h (132 + 10 * q) 2) : IRf h1 fd td g cl' ip rz T := by
  obtain ⟨ap, P⟩ := I.P
  have cb := P.H.b
  have fx := fG_fq x
  have nb : ∀ b, b < 132 ∨ 2637 ≤ b → ¬ clW g.c b := fun b hb w => by
    rcases w with w | ⟨q, hq, w⟩
    · unfold kW at w
      omega
    · unfold kW at w
      omega
  have ii : ∀ b, b < 132 ∨ 2637 ≤ b → mh_i h1 b = mh_i h b := fun b hb => funext fun j => (x.2.2.2.2.2 b (nb b hb)).1 j
  have nk : ∀ q y, q < 250 → y ≤ 4 → ¬ clW g.c (132 + 10 * q + y) := fun q y hq hy w => by
    rcases w with w | ⟨q', hq', w⟩
    · unfold kW at w
      omega
    · unfold kW at w
      omega
  have kk : ∀ q A, q < 250 → RK h (132 + 10 * q) A → RK h1 (132 + 10 * q) A := fun q A hq r => RK_fz (fG_z fx) (fun y hy j => nk q y hq hy) r
  have B1 : RBz h1 := RBz.of ⟨RYh_G fx P.b.Y, fun q hq => by
    obtain ⟨⟨a, u⟩, b, v⟩ := P.b.K q hq
    refine ⟨⟨a, kk q a hq u⟩, ?_⟩
    by_cases c : q < g.c
    · exact ⟨_, c1 q c⟩
    · refine ⟨b, RK_fz (fG_z fx) (fun y hy j w => ?_) v⟩
      rcases w with w | ⟨q', hq', w⟩
      · unfold kW at w
        omega
      · unfold kW at w
        omega, by rw [ii 2643 (by omega)]; exact P.b.s, by rw [ii 99 (by omega)]; exact P.b.z⟩
  refine IRf.of ⟨⟨ap, RPg_c P B1 (fun q hq => kk q _ (by omega) (P.k q hq)) c1 (fun b hb => ii b (by omega)) (fun q hq => by rw [ii 118 (by omega)]) (fun q hq c => cnQ_c (by omega) (by rw [ii 130 (by omega)]) (by rw [ii 131 (by omega)]) c) (fun j _ => by rw [ii 81 (by omega)]) (fun j _ => by rw [ii 115 (by omega)]) (fun Z => RZ_same Z fx.1 fx.2.1 fx.2.2.2.1 (fun b j _ => by rw [fx.2.2.1])) (fun D F => FT_same F fx.1 fx.2.1 fx.2.2.2.1 fx.2.2.1 (fun c f hc _ => by
    by_cases c0 : c < 132
    · rw [ii c (by omega)]
    · rw [ii c (by omega)])) (fun q hq => (x.2.2.2.2.2 (132 + 10 * q) (by have := nk q 0 (by omega) (by omega); rw [Nat.add_zero] at this; exact this)).1 2) (fun q hq => a1 q (by omega))⟩, by rw [ii 81 (by omega), ii 82 (by omega)]; exact I.f, by rw [ii 81 (by omega), ii 115 (by omega)]; exact I.t, by rw [ii 81 (by omega), ii 2639 (by omega)]; exact I.i, by rw [ii 81 (by omega), ii 2640 (by omega), ii 2641 (by omega)]; exact I.r, by rw [ii 81 (by omega), ii 2637 (by omega)]; exact I.l⟩
end CLs
