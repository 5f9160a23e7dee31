set_option maxRecDepth 100000
/-! the class's parser over statements: calls -/
section CLz
variable {d : Nat} {h : mh_H} {B n m : Nat} {Bt : Nat → Int32} {K : Nat → Int32} {P U : Nat → Nat} {V : Nat → Int} {s s1 s2 s3 sn s' : cps} {L : cen} {lo : lkt} {w w0 b i i1 dp N f c j a aN fN pp : Nat} {kd p x y x8 : Int32} {o : Option Nat} {W0 : Nat × Nat}
theorem lkN_b {sp : Nat → Nat → Bool} : ∀ (L : cen) (v : Int), lkN (loE sp L) v ≤ L.length := by
  intro L v
  have key : ∀ L : cen, ∀ e, loE sp L v = some e → e.1 ≤ L.length := by
    intro L
    induction L with
    | nil => intro e he; cases he
    | cons x r ih =>
      obtain ⟨a, z⟩ := x
      intro e he
      have he' : (if sp a v.toNat = true then some (slE r z, z) else loE sp r v) = some e := he
      have l := sl_len (r := r) (z := z)
      by_cases cc : sp a v.toNat = true
      · rw [if_pos cc] at he'
        cases he'
        show slE r z ≤ r.length + 1
        omega
      · rw [if_neg cc] at he'
        have := ih e he'
        show e.1 ≤ r.length + 1
        omega
  unfold lkN
  cases e : loE sp L v with
  | none => exact Nat.zero_le _
  | some q => exact key L q e
theorem wSt_nf : wSt (nfS s x y) = (x, y) := by
  unfold wSt nfS
  rw [u2_1, u2_1, u2_2, if_neg (by omega), u2_2, if_pos ⟨rfl, rfl⟩, u2_2, if_pos ⟨rfl, rfl⟩]
theorem nf_o {z k : Nat} (ho : ¬ (z = 23 + s.1 8 ∧ (k = 5 ∨ k = 6))) : (nfS s x y).2 z k = s.2 z k := by
  unfold nfS
  rw [u2_2, if_neg (by omega), u2_2, if_neg (by omega)]
theorem bk_all (nI : IST s sn w kd p) (nE : SCE sn m L) : ∃ sk, sk = bkS sn (Int32.ofNat pp) o ∧ sk.1 = sn.1 ∧ (∀ z k, ¬ (z = 24 + s.1 8 ∧ (k = 5 ∨ k = 6 ∨ k = 14)) → ¬ (z = 16 ∧ k = 12) → sk.2 z k = sn.2 z k) ∧ sk.2 16 12 = Int32.ofNat pp ∧ sk.2 (24 + s.1 8) 14 = fsI o ∧ IST s sk w kd p ∧ SCE sk m L ∧ wSt sk = wn (wSt sn) (if o = none then (4, pp) else (0, 0)) := by
  have hn := nI.n
  have e24 : 23 + sn.1 8 = 24 + s.1 8 := by omega
  have I1 : ∀ z, IST s (u2 (u2 sn 16 12 (Int32.ofNat pp)) (23 + sn.1 8) 14 z) w kd p := fun z => IST_u (s1 := u2 sn 16 12 (Int32.ofNat pp)) (IST_6 nI) (by decide)
  have E1 : ∀ z, SCE (u2 (u2 sn 16 12 (Int32.ofNat pp)) (23 + sn.1 8) 14 z) m L := fun z => SCE_2 (SCE_2 nE (by omega)) (by omega)
  have X1 : ∀ z, wSt (u2 (u2 sn 16 12 (Int32.ofNat pp)) (23 + sn.1 8) 14 z) = wSt sn := fun z => wSt_f rfl (by rw [u2_2, if_neg (by omega), u2_2, if_neg (by omega)]) (by rw [u2_2, if_neg (by omega), u2_2, if_neg (by omega)])
  have R1 : ∀ z y k, ¬ (y = 24 + s.1 8 ∧ (k = 5 ∨ k = 6 ∨ k = 14)) → ¬ (y = 16 ∧ k = 12) → (u2 (u2 sn 16 12 (Int32.ofNat pp)) (23 + sn.1 8) 14 z).2 y k = sn.2 y k := fun z y k h1 h2 => by rw [u2_2, if_neg (by omega), u2_2, if_neg h2]
  have R2 : ∀ z, (u2 (u2 sn 16 12 (Int32.ofNat pp)) (23 + sn.1 8) 14 z).2 16 12 = Int32.ofNat pp := fun z => by rw [u2_2, if_neg (by omega), u2_2, if_pos ⟨rfl, rfl⟩]
  have R3 : ∀ z, (u2 (u2 sn 16 12 (Int32.ofNat pp)) (23 + sn.1 8) 14 z).2 (24 + s.1 8) 14 = z := fun z => by rw [u2_2, if_pos ⟨by omega, rfl⟩]
  have R0 : ∀ z, (u2 (u2 sn 16 12 (Int32.ofNat pp)) (23 + sn.1 8) 14 z).1 = sn.1 := fun z => rfl
  refine ⟨_, rfl, ?_⟩
  unfold bkS
  cases o with
  | none =>
    have e8 : (u2 (u2 sn 16 12 (Int32.ofNat pp)) (23 + sn.1 8) 14 (-1)).1 8 = sn.1 8 := rfl
    refine ⟨nt_1, fun z k h1 h2 => (nt_o (by omega)).trans (R1 _ z k h1 h2), (nt_o (by omega)).trans (R2 _), (nt_o (by omega)).trans (R3 _), IST_nt (I1 _), SCE_nt (E1 _), ?_⟩
    rw [if_pos rfl, ← X1 (-1)]
    exact wSt_nt (k := 4) (p := pp) (by decide)
  | some g =>
    refine ⟨rfl, R1 _, R2 _, R3 _, I1 _, E1 _, ?_⟩
    rw [if_neg (fun z => by cases z), wn_0]
    exact X1 _
theorem wrS_7 {sp : Nat → Nat → Bool} {H : Nat → Int32} {nf nn q : Nat} {rl : Bool} {cc c2 r : tr} (h : tK nn = 7) : wrS sp H nf L b rl nn (.branch a cc (.branch q c2 r)) = wrC sp H nf (loE sp L) a q r := by
  show (if tK nn = 3 then _ else if tK nn = 4 then _ else if tK nn = 6 then _ else if tK nn = 7 then _ else _) = _
  rw [if_neg (by omega), if_neg (by omega), if_neg (by omega), if_pos h]
theorem wrC_n {sp : Nat → Nat → Bool} {H : Nat → Int32} {nf q : Nat} {t : tr} {W : Nat × Nat} (hW : fw (if tK a = 13 then (lkW lo (tV a) false, tP a) else (0, 0)) (if fmH sp H nf (tV q).toNat = none then (4, tP q) else (0, 0)) = W) (h0 : ¬ W.1 = 0) : wrC sp H nf lo a q t = W := by
  unfold wrC
  rw [hW, if_neg h0]
theorem wrC_s {sp : Nat → Nat → Bool} {H : Nat → Int32} {nf q g : Nat} {t : tr} {W : Nat × Nat} (hW : fw (if tK a = 13 then (lkW lo (tV a) false, tP a) else (0, 0)) (if fmH sp H nf (tV q).toNat = none then (4, tP q) else (0, 0)) = W) (h0 : W.1 = 0) (ho : fmH sp H nf (tV q).toNat = some g) : wrC sp H nf lo a q t = if ¬ Int32.ofNat (tlc t) = H (6 * g + 1) then (5, tP q) else if tK a = 13 ∧ H (6 * g + 5) = -1 then (6, tP q) else lwT lo t := by
  unfold wrC
  rw [hW, if_pos h0, ho]
theorem z_cal (bb : CPB h B n) (t : CTK h B n m Bt K P U V) (hN8 : 8 * m + 6 ≤ N) (H : CHt n m s L b i dp) (T : TOP s w 149 0) (hw : w ≤ 12 * dp) (q : K i = 2) (hi : i ≤ i1) (hi2 : i1 + 2 < m) (p1 : PL (d + 10) h B 1 s (blS sn (Int32.ofNat (P i1)) (fmH (spe Bt n P U) (s.2 15) (s.1 9) i1))) (nI : IST s sn w 4 (Int32.ofNat (P i))) (nE : SCE sn m L) (nx : wSt sn = wn (0, 0) W0) (W0b : W0.1 < 100) (n0 : sn.1 0 = w) (n1 : sn.1 1 = i1) (nd : sn.1 2 = dp) (n4 : sn.1 4 = s.1 4) (n5 : sn.1 5 = s.1 5) (n6 : sn.1 6 = s.1 6) (n7 : sn.1 7 = s.1 7) (nf : sn.2 16 7 = -1) (n11 : sn.2 (24 + s.1 8) 11 = 0) (n8 : sn.2 (24 + s.1 8) 8 = if tK aN = 13 then Int32.ofNat (lkN (loE (spe Bt n P U) L) (tV aN)) else -1) (hW : (if tK aN = 13 then (lkW (loE (spe Bt n P U) L) (tV aN) false, tP aN) else (0, 0)) = W0) (fv : (tV fN).toNat = i1) (fp : tP fN = P i1) : RTa (d + 10) h B n m (spe Bt n P U) K P f s w L b i dp 9 (bnd (pgS K P V N (dp + 1) (i1 + 2)) fun r j => tak K 59 j (j + 1, some (tNd (tE 7 (P i) 0) (.branch aN (.leaf ()) (.branch fN (.leaf ()) r))))) := by
  have hb := H.j
  have hm := t.m
  have hn := bb.n
  obtain ⟨e1, e2, e3⟩ := H.e
  obtain ⟨l1, l2⟩ := H.l
  obtain ⟨B1, B2⟩ := H.B
  obtain ⟨c4, c5, c6, c7⟩ := H.c
  have hN3 := H.N
  have hF := H.F
  have hP := p16 bb t hb
  have gw : w < gL n := gL_w t hb e3 e2 (by omega)
  have gw1 : w + 1 < gL n := gL_w t hb e3 e2 (by omega)
  have gw2 : w + 2 < gL n := gL_w t hb e3 e2 (by omega)
  have gw9 : w + 10 ≤ gL n := gL_w (w := w + 9) t hb e3 e2 (by omega)
  have hi1 : i + 1 < m := tkM_s t.M hb q (by decide) (by decide)
  have e : (u1 s 0 w).1 1 = i := H.i
  generalize ho : fmH (spe Bt n P U) (s.2 15) (s.1 9) i1 = o at p1
  have ob : ∀ g, o = some g → g < s.1 9 := fun g hg => (fsr_b _ _ (show fsr _ _ = some g from ho.trans hg)).1
  have hNs := nI.n
  obtain ⟨sk, hsk, k1, k2, k12, k14, kI, kE, kx⟩ := bk_all (pp := P i1) (o := o) nI nE
  obtain ⟨W, hWW⟩ : ∃ W, W = fw W0 (if o = none then (4, P i1) else (0, 0)) := ⟨_, rfl⟩
  have kx' : wSt sk = wn (0, 0) W := by rw [kx, nx, wn_fw W0b, hWW]
  have Wb : W.1 < 100 := by rw [hWW]; exact fw_b W0b (fw2_b (by decide))
  have k8 : sk.1 8 = s.1 8 + 1 := by rw [k1]; exact hNs
  have c0 : ∀ c, sk.1 c = sn.1 c := fun c => by rw [k1]
  obtain ⟨x13, hx13⟩ : ∃ x13 : Int32, x13 = if W.1 = 0 then 0 else 1 := ⟨_, rfl⟩
  have f5 : (if sk.2 (23 + sn.1 8) 5 = 0 then (0 : Int32) else 1) = x13 := by
    have e5 : sk.2 (23 + sn.1 8) 5 = (wn (0, 0) W).1 := by rw [← kx', ← c0 8]; rfl
    rw [e5, hx13]
    by_cases cW : W.1 = 0
    · rw [wn_o cW, if_pos rfl, if_pos cW]
    · rw [wn_p rfl cW, if_neg cW]
      have : ¬ Int32.ofNat W.1 = 0 := by
        rw [show (0 : Int32) = Int32.ofNat 0 from rfl, nn_eq (by omega) (by decide)]
        exact cW
      rw [if_neg this]
  obtain ⟨s1, hs1⟩ : ∃ s1, s1 = asS (asS (asS (u1 (u2 sk 16 13 x13) 1 (i1 + 2)) 156 0) 59 0) 154 0 := ⟨_, rfl⟩
  have pe : blS sn (Int32.ofNat (P i1)) o = s1 := by
    rw [hs1]
    unfold blS
    rw [← hsk, f5, n1]
  rw [pe] at p1
  clear pe hsk f5
  have y0 := c0 0
  have y2 := c0 2
  have y4 := c0 4
  have y5 := c0 5
  have y6 := c0 6
  have y7 := c0 7
  have hNk : 0 < sk.1 8 := by omega
  have mI : IST s (u2 sk 16 13 x13) w 4 (Int32.ofNat (P i)) := IST_6 kI
  have mE : SCE (u2 sk 16 13 x13) m L := SCE_2 kE (by omega)
  have G1 : CGx (u2 sk 16 13 x13) s1 w ((u2 sk 16 13 x13).1 7) := by
    rw [hs1]
    exact CGx_as' (CGx_as' (CGx_as' (CGx_1 (Or.inr (Or.inl rfl)) (Nat.le_refl _)) (by show w ≤ sk.1 0; omega)) (by show w ≤ sk.1 0 + 1; omega)) (by show w ≤ sk.1 0 + 1 + 1; omega)
  have a0 : s1.1 0 = w + 3 := by rw [hs1]; show sk.1 0 + 1 + 1 + 1 = _; omega
  have a1 : s1.1 1 = i1 + 2 := by rw [hs1]; rfl
  have a2 : s1.1 2 = dp := by rw [hs1]; exact y2.trans nd
  have a4 : s1.1 4 = s.1 4 := by rw [hs1]; exact y4.trans n4
  have a5 : s1.1 5 = s.1 5 := by rw [hs1]; exact y5.trans n5
  have a6 : s1.1 6 = s.1 6 := by rw [hs1]; exact y6.trans n6
  have a7 : s1.1 7 = s.1 7 := by rw [hs1]; exact y7.trans n7
  have row : ∀ z k, z ≠ 23 → ¬ (z = 16 ∧ k = 13) → s1.2 z k = sk.2 z k := fun z k h1 h2 => by
    rw [hs1]
    show (if z = 23 ∧ _ then _ else if z = 23 ∧ _ then _ else if z = 23 ∧ _ then _ else if z = 16 ∧ k = 13 then _ else sk.2 z k) = _
    rw [if_neg (fun y => h1 y.1), if_neg (fun y => h1 y.1), if_neg (fun y => h1 y.1), if_neg h2]
  have a13 : s1.2 16 13 = x13 := by
    have as2 : ∀ (S : cps) g y o k, o ≠ 23 → (asS S g y).2 o k = S.2 o k := fun S g y o k ho => by unfold asS; rw [u1_2, u2_2, if_neg (fun z => ho z.1)]
    rw [hs1, as2 _ _ _ _ _ (by decide), as2 _ _ _ _ _ (by decide), as2 _ _ _ _ _ (by decide), u1_2, u2_2, if_pos ⟨rfl, rfl⟩]
  have ax : wSt s1 = wn (0, 0) W := by
    rw [← kx', ← wSt_2 (o := 16) (j := 13) (x := x13) (by decide) hNk, hs1]
    repeat (first | refine (wSt_as (by exact hNk)).trans ?_ | refine (wSt_em (by exact hNk)).trans ?_ | refine (wSt_pt (by exact hNk)).trans ?_ | refine (wSt_1 (by decide)).trans ?_)
    rfl
  have g2 : s1.2 23 (w + 2) = glI (Int32.ofNat 154) (Int32.ofNat 0) := by
    rw [hs1, as_23, if_pos (by show w + 2 = sk.1 0 + 1 + 1; omega)]
    rfl
  have g1 : s1.2 23 (w + 1) = glI (Int32.ofNat 59) (Int32.ofNat 0) := by
    rw [hs1, as_23, if_neg (by show ¬ w + 1 = sk.1 0 + 1 + 1; omega), as_23, if_pos (by show w + 1 = sk.1 0 + 1; omega)]
    rfl
  have g0 : s1.2 23 w = glI (Int32.ofNat 156) (Int32.ofNat 0) := by
    rw [hs1, as_23, if_neg (by show ¬ w = sk.1 0 + 1 + 1; omega), as_23, if_neg (by show ¬ w = sk.1 0 + 1; omega), as_23, if_pos (by show w = sk.1 0; omega)]
    rfl
  clear hs1
  have I1 := IST_G mI G1
  have E1 := SCE_G mE G1
  have m8 := I1.n
  have af : s1.2 16 7 = -1 := by rw [row 16 7 (by decide) (by omega), k2 16 7 (by omega) (by omega)]; exact nf
  have a12 : s1.2 16 12 = Int32.ofNat (P i1) := (row 16 12 (by decide) (by omega)).trans k12
  have a14 : s1.2 (24 + s.1 8) 14 = fsI o := (row _ 14 (by omega) (by omega)).trans k14
  have a11 : s1.2 (24 + s.1 8) 11 = 0 := ((row _ 11 (by omega) (by omega)).trans (k2 _ 11 (by omega) (by omega))).trans n11
  have a8 : s1.2 (24 + s.1 8) 8 = if tK aN = 13 then Int32.ofNat (lkN (loE (spe Bt n P U) L) (tV aN)) else -1 := ((row _ 8 (by omega) (by omega)).trans (k2 _ 8 (by omega) (by omega))).trans n8
  have C1 := CHc_of (dp := dp) bb t E1 (i := i1 + 2) (by omega) (by omega) a1 hi2 a2 (by omega) (by omega) (by omega) (by omega)
  have R := x_args (d := d) (N := N) (w := w + 2) bb t (by omega) e2 (by omega) C1 (TOP.of ⟨a0, af, g2, ⟨by decide, by decide⟩⟩) (by omega)
  have gd := pgS_b (P := P) (V := V) (N := N) t.M (d := dp + 1) hi2
  generalize pgS K P V N (dp + 1) (i1 + 2) = r1 at R gd ⊢
  rcases r1 with ⟨j, _ | tt⟩
  · have gj : i1 + 2 ≤ j := gd.1
    exact RTn_C p1 I1.F (by omega) R (by omega)
  have gj : i1 + 2 ≤ j := gd.1
  have gm' : j < m := gd.2.1
  obtain ⟨kk2, s2, p2, F2, bk2, O2, d4, d5, d6, d7, u2', z11⟩ := R
  have F2' : CGx s1 s2 w (s1.1 7) := CGx_w F2 (by omega) (Nat.le_refl _)
  have I2 := IST_G I1 F2'
  have E2 := SCE_G E1 F2'
  have n2' := I2.n
  have T2 : TOP s2 (w + 1) 59 0 := TOP.of ⟨O2.w, O2.f, (F2.g (w + 1) (by omega)).trans g1, ⟨by decide, by decide⟩⟩
  show RTa (d + 10) h B n m (spe Bt n P U) K P f s w L b i dp 9 (tak K 59 j (j + 1, some (tNd (tE 7 (P i) 0) (.branch aN (.leaf ()) (.branch fN (.leaf ()) tt)))))
  by_cases c59 : ¬ K j = 59
  · have e8 : ∀ X, tak K 59 j X = (j, none) := fun X => if_neg c59
    rw [e8]
    exact RTn_t bb t (PL_t p1 p2) I2.F (by omega) O2.j gm' T2 (by decide) gw1 c59 (by omega) (by omega)
  have c59 : K j = 59 := Classical.not_not.mp c59
  have e8 : ∀ X, tak K 59 j X = X := fun X => if_pos c59
  rw [e8]
  have p3 := st_tk (d := d) bb t O2.j gm' (by decide) T2 gw1 c59
  obtain ⟨s3, hs3⟩ : ∃ s3, s3 = u1 (u1 s2 0 (w + 1)) 1 (j + 1) := ⟨_, rfl⟩
  rw [← hs3] at p3
  have ir : s3.2 = s2.2 := by rw [hs3]; rfl
  have i0 : s3.1 0 = w + 1 := by rw [hs3]; rfl
  have i1' : s3.1 1 = j + 1 := by rw [hs3]; rfl
  have ic : ∀ c, c ≠ 0 → c ≠ 1 → s3.1 c = s2.1 c := fun c h0 h1 => by rw [hs3, u1_1, if_neg h1, u1_1, if_neg h0]
  have I3 : IST s s3 w 4 (Int32.ofNat (P i)) := by rw [hs3]; exact IST_1 (IST_1 I2 (by decide)) (by decide)
  have E3 : SCE s3 m L := by rw [hs3]; exact SCE_1 (SCE_1 E2 (by decide)) (by decide)
  have ix : wSt s3 = wn (wn (0, 0) W) (lwT (loE (spe Bt n P U) L) tt) := by rw [hs3, wSt_1 (by decide), wSt_1 (by decide), O2.x, ax]
  have iR : suMR (loE (spe Bt n P U) L) s3 tt (s1.1 6) := by rw [hs3]; exact suMR_r tt _ (CRx_t (CRx_1 (by decide)) (CRx_1 (by decide))) u2'
  clear hs3
  have n3 := I3.n
  have j13 : s3.2 16 13 = x13 := by rw [ir, F2.r 16 13 (by decide) (by omega) (by decide) (by omega)]; exact a13
  have j12 : s3.2 16 12 = Int32.ofNat (P i1) := by rw [ir, F2.r 16 12 (by decide) (by omega) (by decide) (by omega)]; exact a12
  have j14 : s3.2 (24 + s.1 8) 14 = fsI o := by rw [ir, F2.u _ 14 (by omega) (by omega)]; exact a14
  have j8 : s3.2 (24 + s.1 8) 8 = if tK aN = 13 then Int32.ofNat (lkN (loE (spe Bt n P U) L) (tV aN)) else -1 := by rw [ir, F2.u _ 8 (by omega) (by omega)]; exact a8
  have j11 : s3.2 (24 + s.1 8) 11 = Int32.ofNat (tlc tt) := by
    have e9 : 23 + s1.1 8 = 24 + s.1 8 := by omega
    rw [e9, a11, Int32.zero_add] at z11
    rw [ir]
    exact z11
  have T3 : TOP s3 w 156 0 := TOP.of ⟨i0, by rw [ir]; exact O2.f, by rw [ir]; exact (F2.g w (by omega)).trans g0, ⟨by decide, by decide⟩⟩
  have hH : ∀ S : cps, (∀ z k, ¬ (z = 24 + s.1 8 ∧ (k = 5 ∨ k = 6)) → S.2 z k = s3.2 z k) → fmH (spe Bt n P U) (S.2 15) (s.1 9) (tV fN).toNat = o := fun S hS => by
    rw [fv, ← ho]
    exact fmH_c (fun y hy => (hS 15 y (by omega)).trans (I3.F.h y (by omega)))
  have fin : ∃ s4, PL (d + 10) h B 1 s3 s4 ∧ s4.1 = (u1 s3 0 w).1 ∧ (∀ z k, ¬ (z = 24 + s.1 8 ∧ (k = 5 ∨ k = 6)) → s4.2 z k = s3.2 z k) ∧ IST s s4 w 4 (Int32.ofNat (P i)) ∧ wSt s4 = wn (0, 0) (wrC (spe Bt n P U) (s4.2 15) (s.1 9) (loE (spe Bt n P U) L) aN fN tt) := by
    have hW4 : ∀ S : cps, (∀ z k, ¬ (z = 24 + s.1 8 ∧ (k = 5 ∨ k = 6)) → S.2 z k = s3.2 z k) → fw (if tK aN = 13 then (lkW (loE (spe Bt n P U) L) (tV aN) false, tP aN) else (0, 0)) (if fmH (spe Bt n P U) (S.2 15) (s.1 9) (tV fN).toNat = none then (4, tP fN) else (0, 0)) = W := fun S hS => by rw [hW, hH S hS, fp, hWW]
    have x23 : 23 + s3.1 8 = 24 + s.1 8 := by omega
    by_cases cW : W.1 = 0
    · rw [if_pos cW] at hx13
      cases hoc : o with
      | none =>
        rw [hoc, if_pos rfl] at hWW
        exact absurd cW (by rw [hWW]; unfold fw; split <;> omega)
      | some g =>
        have hg := ob g hoc
        have hoc' : ∀ S : cps, (∀ z k, ¬ (z = 24 + s.1 8 ∧ (k = 5 ∨ k = 6)) → S.2 z k = s3.2 z k) → fmH (spe Bt n P U) (S.2 15) (s.1 9) (tV fN).toNat = some g := fun S hS => (hH S hS).trans hoc
        have p4 := it_66 (d := d + 9) bb T3 gw (by decide) (c_66l (d := d + 3) (s := u1 s3 0 w) bb (f := g) (by show 0 < s3.1 8; omega) (fun _ => ⟨by show s3.2 (23 + s3.1 8) 14 = _; rw [x23, j14, hoc]; rfl, by omega⟩) (Or.inl (j13.trans hx13)))
        have ix' : wSt s3 = wn (0, 0) (lwT (loE (spe Bt n P U) L) tt) := by rw [ix, wn_o cW]
        have nb := lkN_b (sp := spe Bt n P U) L (tV aN)
        have nm : (¬ s3.2 (24 + s.1 8) 8 = -1) ↔ tK aN = 13 := by
          rw [j8]
          by_cases c13 : tK aN = 13
          · rw [if_pos c13, nn_m2 (by omega)]
            exact ⟨fun _ => c13, fun _ => fun z => z⟩
          · rw [if_neg c13]
            exact ⟨fun z => absurd rfl z, fun z => absurd z c13⟩
        have fe : fcS (u1 s3 0 w) g = if s3.2 16 13 = 0 then (if ¬ s3.2 (23 + s3.1 8) 11 = s3.2 15 (6 * g + 1) then nfS (u1 s3 0 w) 5 (s3.2 16 12) else if ¬ s3.2 (23 + s3.1 8) 8 = -1 ∧ s3.2 15 (6 * g + 5) = -1 then nfS (u1 s3 0 w) 6 (s3.2 16 12) else u1 s3 0 w) else u1 s3 0 w := rfl
        rw [fe, if_pos (j13.trans hx13), x23, j11, j12] at p4
        have nfr : ∀ x y z k, ¬ (z = 24 + s.1 8 ∧ (k = 5 ∨ k = 6)) → (nfS (u1 s3 0 w) x y).2 z k = s3.2 z k := fun x y z k hz => nf_o (s := u1 s3 0 w) (by show ¬ (z = 23 + s3.1 8 ∧ _); omega)
        by_cases c1 : ¬ Int32.ofNat (tlc tt) = s3.2 15 (6 * g + 1)
        · rw [if_pos c1] at p4
          refine ⟨_, p4, rfl, nfr _ _, IST_nf (IST_1 I3 (by decide)), ?_⟩
          rw [wrC_s (hW4 _ (nfr _ _)) cW (hoc' _ (nfr _ _)), nfr _ _ 15 _ (by omega), if_pos c1, wSt_nf, fp]
          exact (wn_p (x := (0, 0)) (b := (5, P i1)) rfl (show (5 : Nat) ≠ 0 by decide)).symm
        · rw [if_neg c1] at p4
          by_cases c2 : ¬ s3.2 (24 + s.1 8) 8 = -1 ∧ s3.2 15 (6 * g + 5) = -1
          · rw [if_pos c2] at p4
            refine ⟨_, p4, rfl, nfr _ _, IST_nf (IST_1 I3 (by decide)), ?_⟩
            rw [wrC_s (hW4 _ (nfr _ _)) cW (hoc' _ (nfr _ _)), nfr _ _ 15 _ (by omega), if_neg c1, nfr _ _ 15 _ (by omega), if_pos ⟨nm.mp c2.1, c2.2⟩, wSt_nf, fp]
            exact (wn_p (x := (0, 0)) (b := (6, P i1)) rfl (show (6 : Nat) ≠ 0 by decide)).symm
          · rw [if_neg c2] at p4
            refine ⟨_, p4, rfl, fun _ _ _ => rfl, IST_1 I3 (by decide), ?_⟩
            rw [wrC_s (hW4 (u1 s3 0 w) (fun _ _ _ => rfl)) cW (hoc' (u1 s3 0 w) (fun _ _ _ => rfl))]
            show wSt (u1 s3 0 w) = wn (0, 0) (if ¬ Int32.ofNat (tlc tt) = s3.2 15 (6 * g + 1) then _ else if tK aN = 13 ∧ s3.2 15 (6 * g + 5) = -1 then _ else _)
            rw [if_neg c1, if_neg (fun z => c2 ⟨nm.mpr z.1, z.2⟩), wSt_1 (by decide), ix']
    · rw [if_neg cW] at hx13
      have e1 : s3.2 16 13 = 1 := j13.trans hx13
      have p4 := it_66 (d := d + 9) bb T3 gw (by decide) (c_66l (d := d + 3) (s := u1 s3 0 w) bb (f := 0) (by show 0 < s3.1 8; omega) (fun z => absurd (e1.symm.trans z) (by decide)) (Or.inr e1))
      have fe : fcS (u1 s3 0 w) 0 = u1 s3 0 w := if_neg (fun z => absurd (e1.symm.trans z) (by decide))
      rw [fe] at p4
      refine ⟨_, p4, rfl, fun _ _ _ => rfl, IST_1 I3 (by decide), ?_⟩
      rw [wrC_n (hW4 (u1 s3 0 w) (fun _ _ _ => rfl)) cW, wSt_1 (by decide), ix, wn_n]
      rw [wn_p rfl cW]
      show ¬ Int32.ofNat W.1 = 0
      rw [show (0 : Int32) = Int32.ofNat 0 from rfl, nn_eq (by omega) (by decide)]
      exact cW
  obtain ⟨s4, p4, q1, q2, I4, q4⟩ := fin
  have qc : ∀ c, c ≠ 0 → s4.1 c = s3.1 c := fun c hc => by rw [q1]; exact if_neg hc
  have q0 : s4.1 0 = w := by rw [q1]; rfl
  have v1 := qc 1 (by decide)
  have v2 := qc 2 (by decide)
  have v4 := qc 4 (by decide)
  have v5 := qc 5 (by decide)
  have v6 := qc 6 (by decide)
  have v7 := qc 7 (by decide)
  have w2 := ic 2 (by decide) (by decide)
  have w4 := ic 4 (by decide) (by decide)
  have w5 := ic 5 (by decide) (by decide)
  have w6 := ic 6 (by decide) (by decide)
  have w7 := ic 7 (by decide) (by decide)
  have od := O2.d
  have R34 : CRx s3 s4 (s3.1 7) := ⟨⟨by omega, by omega, by omega, by omega⟩, fun _ _ => q2 _ _ (by omega), fun z _ h1 h2 _ => q2 _ _ (by omega), fun z _ h1 _ => q2 _ _ (by omega), fun hh => absurd hh (by omega), fun _ => ⟨v4, v5⟩, fun z _ h1 _ => q2 _ _ (by omega)⟩
  have n4' := I4.n
  have kk : tK (tE 7 (P i) 0) = 7 := tE_K (by decide)
  have kp : tP (tE 7 (P i) 0) = P i := tE_P (by decide) hP
  have nxe : nxE (tE 7 (P i) 0) (.branch aN (.leaf ()) (.branch fN (.leaf ()) tt)) L = L := nxE_o (by omega) (by omega)
  have I6 : IST s s4 w (Int32.ofNat (skN (tE 7 (P i) 0))) (Int32.ofNat (tP (tE 7 (P i) 0))) := by rw [skN_o kk (by decide) (by decide), kp]; exact I4
  rw [a6] at iR
  refine ⟨tE 7 (P i) 0, .branch aN (.leaf ()) (.branch fN (.leaf ()) tt), rfl, _, s4, PL_t (PL_t (PL_t p1 p2) p3) p4, I4.F, by omega, TOK.of ⟨q0, by omega, by omega, by rw [q2 16 7 (by omega)]; exact T3.f, ⟨by omega, by omega, by omega, by omega⟩, by omega⟩, by rw [nxe]; exact SCE_g E3 (qc 10 (by decide)) (qc 12 (by decide)) (qc 13 (by decide)) (fun z k h1 h2 h3 => q2 z k (by omega)), by rw [nxe]; omega, ⟨IST_z I6 H.E (by rw [wrS_7 kk]; exact q4), Or.inr (Or.inr (Or.inr (Or.inr (Or.inl ⟨kk, aN, fN, tt, s.1 6, rfl, n4', (q2 _ 8 (by omega)).trans j8, by rw [hH s4 q2]; exact (q2 _ 14 (by omega)).trans j14, (q2 _ 11 (by omega)).trans j11, I4.f 10 (by omega), suMR_r tt _ R34 iR⟩))))⟩, I4.h.trans (if_neg (fun z => by omega)).symm⟩
end CLz
