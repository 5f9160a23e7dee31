set_option maxRecDepth 100000
/-! the class's parser over statements: NAME = SUM ; and NAME [ SUM ] = SUM ; -/
section SNs
variable {d : Nat} {h : mh_H} {B n m : Nat} {Bt : Nat → Int32} {K : Nat → Int32} {P U : Nat → Nat} {V : Nat → Int} {s s1 s2 s3 sb s' : cps} {L : cen} {lo : lkt} {w w0 b i dp N f c j a pp : Nat} {kd p x y : Int32} {o : Option Nat}
theorem nu_o {z k : Nat} (ho : ¬ (z = 23 + s.1 8 ∧ (k = 5 ∨ k = 6))) : (nuS s o p).2 z k = s.2 z k := by
  cases o with
  | none => exact nt_o ho
  | some y =>
    show (if 0 < zT s y then ntS s 3 p else s).2 z k = _
    split
    · exact nt_o ho
    · rfl
theorem IST_nu (I : IST s s1 w kd p) : IST s (nuS s1 o x) w kd p := by
  cases o with
  | none => exact IST_nt I
  | some y =>
    show IST s (if 0 < zT s1 y then ntS s1 3 x else s1) w kd p
    split
    · exact IST_nt I
    · exact I
theorem ar_o {z k : Nat} (ho : ¬ (z = 23 + s.1 8 ∧ (k = 5 ∨ k = 6))) : (arS s o p).2 z k = s.2 z k := by
  cases o with
  | none => exact nt_o ho
  | some y =>
    show (if 0 < zT s y then s else ntS s 3 p).2 z k = _
    split
    · rfl
    · exact nt_o ho
theorem IST_ar (I : IST s s1 w kd p) : IST s (arS s1 o x) w kd p := by
  cases o with
  | none => exact IST_nt I
  | some y =>
    show IST s (if 0 < zT s1 y then s1 else ntS s1 3 x) w kd p
    split
    · exact I
    · exact IST_nt I
theorem bs_all (S : CSC sb n m) (I : IST s sb w kd p) (E : SCE sb m L) (hm : m ≤ 1000000) (hl : L.length < 2147483648) : ∃ sn, sn = bsS sb (fiT Bt n P U sb i) (Int32.ofNat pp) ∧ sn.1 = sb.1 ∧ (∀ z k, ¬ (z = 24 + s.1 8 ∧ (k = 5 ∨ k = 6 ∨ k = 8)) → sn.2 z k = sb.2 z k) ∧ IST s sn w kd p ∧ SCE sn m L ∧ wSt sn = wn (wSt sb) (lkW (loE (spe Bt n P U) L) (i : Int) false, pp) ∧ sn.2 (24 + s.1 8) 8 = Int32.ofNat (lkN (loE (spe Bt n P U) L) (i : Int)) := by
  have hn := I.n
  have e24 : 23 + sb.1 8 = 24 + s.1 8 := by omega
  have lo' := SCE_l (Bt := Bt) (P := P) (U := U) (n := n) E hm hl
  refine ⟨_, rfl, ?_⟩
  unfold bsS
  have r1 : (u2 (nuS sb (fiT Bt n P U sb i) (Int32.ofNat pp)) (23 + sb.1 8) 8 (nuV sb (fiT Bt n P U sb i))).1 = sb.1 := by rw [u2_1]; exact nu_1
  have r2 : ∀ z k, ¬ (z = 24 + s.1 8 ∧ (k = 5 ∨ k = 6 ∨ k = 8)) → (u2 (nuS sb (fiT Bt n P U sb i) (Int32.ofNat pp)) (23 + sb.1 8) 8 (nuV sb (fiT Bt n P U sb i))).2 z k = sb.2 z k := fun z k ho => by
    rw [u2_2, if_neg (by omega)]
    exact nu_o (by omega)
  refine ⟨r1, r2, ?_, SCE_g E (by rw [r1]) (by rw [r1]) (by rw [r1]) (fun z k h1 h2 h3 => r2 z k (by omega)), ?_, ?_⟩
  · have := IST_u (s1 := nuS sb (fiT Bt n P U sb i) (Int32.ofNat pp)) (j := 8) (x := nuV sb (fiT Bt n P U sb i)) (IST_nu I) (by decide)
    rw [nu_1] at this
    exact this
  · rw [← lo', ← wSt_nu]
    exact wSt_f rfl (by rw [u2_2, if_neg (by omega)]) (by rw [u2_2, if_neg (by omega)])
  · rw [u2_2, if_pos ⟨by omega, rfl⟩, nuV_lo S, lo']
theorem ba_all (S : CSC sb n m) (I : IST s sb w kd p) (E : SCE sb m L) (hm : m ≤ 1000000) (hl : L.length < 2147483648) : ∃ sn, sn = baS sb (fiT Bt n P U sb i) (Int32.ofNat pp) ∧ sn.1 = sb.1 ∧ (∀ z k, ¬ (z = 24 + s.1 8 ∧ (k = 5 ∨ k = 6 ∨ k = 8 ∨ k = 9)) → sn.2 z k = sb.2 z k) ∧ IST s sn w kd p ∧ SCE sn m L ∧ wSt sn = wn (wSt sb) (lkW (loE (spe Bt n P U) L) (i : Int) true, pp) ∧ (∀ sl z, loE (spe Bt n P U) L (i : Int) = some (sl, z) → 0 < z → sn.2 (24 + s.1 8) 8 = Int32.ofNat sl ∧ sn.2 (24 + s.1 8) 9 = Int32.ofNat z) := by
  have hn := I.n
  have e24 : 23 + sb.1 8 = 24 + s.1 8 := by omega
  have lo' := SCE_l (Bt := Bt) (P := P) (U := U) (n := n) E hm hl
  have gen : ∀ x9 x8 : Int32, (u2 (u2 (arS sb (fiT Bt n P U sb i) (Int32.ofNat pp)) (23 + sb.1 8) 8 x8) (23 + sb.1 8) 9 x9).1 = sb.1 ∧ (∀ z k, ¬ (z = 24 + s.1 8 ∧ (k = 5 ∨ k = 6 ∨ k = 8 ∨ k = 9)) → (u2 (u2 (arS sb (fiT Bt n P U sb i) (Int32.ofNat pp)) (23 + sb.1 8) 8 x8) (23 + sb.1 8) 9 x9).2 z k = sb.2 z k) ∧ IST s (u2 (u2 (arS sb (fiT Bt n P U sb i) (Int32.ofNat pp)) (23 + sb.1 8) 8 x8) (23 + sb.1 8) 9 x9) w kd p ∧ wSt (u2 (u2 (arS sb (fiT Bt n P U sb i) (Int32.ofNat pp)) (23 + sb.1 8) 8 x8) (23 + sb.1 8) 9 x9) = wn (wSt sb) (lkW (loE (spe Bt n P U) L) (i : Int) true, pp) ∧ (u2 (u2 (arS sb (fiT Bt n P U sb i) (Int32.ofNat pp)) (23 + sb.1 8) 8 x8) (23 + sb.1 8) 9 x9).2 (24 + s.1 8) 8 = x8 ∧ (u2 (u2 (arS sb (fiT Bt n P U sb i) (Int32.ofNat pp)) (23 + sb.1 8) 8 x8) (23 + sb.1 8) 9 x9).2 (24 + s.1 8) 9 = x9 := fun x9 x8 => by
    refine ⟨by rw [u2_1, u2_1]; exact ar_1, fun z k ho => by rw [u2_2, if_neg (by omega), u2_2, if_neg (by omega)]; exact ar_o (by omega), ?_, ?_, by rw [u2_2, if_neg (by omega), u2_2, if_pos ⟨by omega, rfl⟩], by rw [u2_2, if_pos ⟨by omega, rfl⟩]⟩
    · have := IST_u (s1 := u2 (arS sb (fiT Bt n P U sb i) (Int32.ofNat pp)) (23 + (arS sb (fiT Bt n P U sb i) (Int32.ofNat pp)).1 8) 8 x8) (j := 9) (x := x9) (IST_u (IST_ar I) (by decide)) (by decide)
      rw [u2_1, ar_1] at this
      exact this
    · rw [← lo', ← wSt_ar]
      exact wSt_f rfl (by rw [u2_2, if_neg (by omega), u2_2, if_neg (by omega)]) (by rw [u2_2, if_neg (by omega), u2_2, if_neg (by omega)])
  have e : loF Bt n P U sb (i : Int) = (fiT Bt n P U sb i).map fun k => (slT sb k, zT sb k) := by unfold loF; rw [Int.toNat_natCast]
  rw [lo'] at e
  refine ⟨_, rfl, ?_⟩
  unfold baS
  cases ff : fiT Bt n P U sb i with
  | none =>
    rw [ff] at gen e
    obtain ⟨g1, g2, g3, g4, g5, g6⟩ := gen 1 0
    refine ⟨g1, g2, g3, SCE_g E (by rw [← g1]; rfl) (by rw [← g1]; rfl) (by rw [← g1]; rfl) (fun z k h1 h2 h3 => g2 z k (by omega)), g4, fun sl z h1 h2 => ?_⟩
    rw [e] at h1
    cases h1
  | some k =>
    rw [ff] at gen e
    have kb := (fsr_b _ _ ff).1
    obtain ⟨x1, x2⟩ := S.x k kb
    obtain ⟨z1, z2⟩ := S.z k kb
    by_cases cz : 0 < zT sb k
    · have ea : arV sb (some k) = some k := if_pos cz
      rw [ea]
      obtain ⟨g1, g2, g3, g4, g5, g6⟩ := gen (sb.2 22 k) (sb.2 21 k)
      refine ⟨g1, g2, g3, SCE_g E (by rw [← g1]; rfl) (by rw [← g1]; rfl) (by rw [← g1]; rfl) (fun z k h1 h2 h3 => g2 z k (by omega)), g4, fun sl z h1 h2 => ?_⟩
      rw [e] at h1
      cases h1
      exact ⟨g5.trans x2, g6.trans z2⟩
    · have ea : arV sb (some k) = none := if_neg cz
      rw [ea]
      obtain ⟨g1, g2, g3, g4, g5, g6⟩ := gen 1 0
      refine ⟨g1, g2, g3, SCE_g E (by rw [← g1]; rfl) (by rw [← g1]; rfl) (by rw [← g1]; rfl) (fun z k h1 h2 h3 => g2 z k (by omega)), g4, fun sl z h1 h2 => ?_⟩
      rw [e] at h1
      cases h1
      exact absurd h2 cz
theorem z_set (bb : CPB h B n) (t : CTK h B n m Bt K P U V) (hN8 : 8 * m + 6 ≤ N) (H : CHt n m s L b i dp) (T : TOP s w 149 0) (hw : w ≤ 12 * dp) (q : K i = 2) (q1 : K (i + 1) = 61) (q2 : ¬ (K (i + 2) = 2 ∧ K (i + 3) = 40)) : RTa (d + 10) h B n m (spe Bt n P U) K P f s w L b i dp 9 (bnd (pgX K P V N 0 (dp + 1) (i + 2)) fun t j => tak K 59 j (j + 1, some (tNd (tE 5 (P i) 0) (.branch (tE 13 (P i) i) (.leaf ()) t)))) := by
  have hb := H.j
  have hm := t.m
  have hn := bb.n
  obtain ⟨e1, e2, e3⟩ := H.e
  obtain ⟨l1, l2⟩ := H.l
  obtain ⟨B1, B2⟩ := H.B
  obtain ⟨c4, c5, c6, c7⟩ := H.c
  have hN3 := H.N
  have hF := H.F
  have hP := p16 bb t hb
  have gw : w < gL n := gL_w t hb e3 e2 (by omega)
  have gw1 : w + 1 < gL n := gL_w t hb e3 e2 (by omega)
  have gw2 : w + 2 < gL n := gL_w t hb e3 e2 (by omega)
  have gw9 : w + 10 ≤ gL n := gL_w (w := w + 9) t hb e3 e2 (by omega)
  have hi1 : i + 1 < m := tkM_s t.M hb q (by decide) (by decide)
  have e : (u1 s 0 w).1 1 = i := H.i
  have hi2 : i + 2 < m := tkM_s t.M hi1 q1 (by decide) (by decide)
  have E0 : ∀ x y, SCE (bgS (u1 s 0 w) x y) m L := fun x y => SCE_bg (SCE_1 H.E (by decide))
  have z := c_58g (d := d) (s := u1 s 0 w) bb t (by rw [e]; exact hb) (by rw [e]; exact q) (c_61b (d := d) (s := u1 s 0 w) bb t (by rw [e]; exact hb) (by rw [e]; exact q1) (by rw [e]; exact q2) (by show s.1 8 < n / 3 + 2; omega) (SCE_C (E0 _ _) (by omega) hn hm.2) (by show w + 2 ≤ gL n; omega))
  rw [e] at z
  have p1 := it_58 bb T gw z
  have G := BGN_bg (kd := 2) (p := Int32.ofNat (P i)) H T
  have S := SCE_C (n := n) G.E (by omega) hn hm.2
  generalize bgS (u1 s 0 w) 2 (Int32.ofNat (P i)) = sb at p1 G S
  obtain ⟨b4, b5, b6, b7⟩ := G.c
  have b0 := G.w
  have b8 := G.I.n
  have hNb : 0 < sb.1 8 := by omega
  obtain ⟨sn, hsn, n1, n2, nI, nE, nx, n8⟩ := bs_all (Bt := Bt) (P := P) (U := U) (i := i) (pp := P i) S G.I G.E (by omega) (by omega)
  rw [← hsn] at p1
  clear hsn
  have nc : ∀ c, sn.1 c = sb.1 c := fun c => by rw [n1]
  obtain ⟨s1, hs1⟩ : ∃ s1, s1 = asS (asS (u1 sn 1 (i + 2)) 59 0) 161 0 := ⟨_, rfl⟩
  rw [← hs1] at p1
  have m0 := nc 0
  have m7 := nc 7
  have m8 := nc 8
  have hNn : 0 < sn.1 8 := by omega
  have G1 : CGx sn s1 w (sn.1 7) := by
    rw [hs1]
    exact CGx_as' (CGx_as' (CGx_1 (Or.inr (Or.inl rfl)) (Nat.le_refl _)) (by show w ≤ sn.1 0; omega)) (by show w ≤ sn.1 0 + 1; omega)
  have a0 : s1.1 0 = w + 2 := by rw [hs1]; show sn.1 0 + 1 + 1 = _; omega
  have a1 : s1.1 1 = i + 2 := by rw [hs1]; rfl
  have a2 : s1.1 2 = dp := by rw [hs1]; exact (nc 2).trans G.d
  have a4 : s1.1 4 = s.1 4 := by rw [hs1]; exact (nc 4).trans b4
  have a5 : s1.1 5 = s.1 5 := by rw [hs1]; exact (nc 5).trans b5
  have a6 : s1.1 6 = s.1 6 := by rw [hs1]; exact (nc 6).trans b6
  have a7 : s1.1 7 = s.1 7 := by rw [hs1]; exact (nc 7).trans b7
  have af : s1.2 16 7 = -1 := by rw [hs1]; exact (n2 16 7 (by omega)).trans G.f
  have ax : wSt s1 = wn (0, 0) (lkW (loE (spe Bt n P U) L) (i : Int) false, P i) := by
    rw [← G.x, ← nx, hs1]
    repeat (first | refine (wSt_as (by exact hNn)).trans ?_ | refine (wSt_em (by exact hNn)).trans ?_ | refine (wSt_pt (by exact hNn)).trans ?_ | refine (wSt_1 (by decide)).trans ?_)
    rfl
  have g1 : s1.2 23 (w + 1) = glI (Int32.ofNat 161) (Int32.ofNat (tun false)) := by
    rw [hs1, as_23, if_pos (by show w + 1 = sn.1 0 + 1; omega)]
    rfl
  have g0 : s1.2 23 w = glI (Int32.ofNat 59) (Int32.ofNat 0) := by
    rw [hs1, as_23, if_neg (by show ¬ w = sn.1 0 + 1; omega), as_23, if_pos (by show w = sn.1 0; omega)]
    rfl
  clear hs1
  have I1 := IST_G nI G1
  have E1 := SCE_G nE G1
  have k8 := I1.n
  have C1 := CHc_of (dp := dp) bb t E1 (i := i + 2) (by omega) (by omega) a1 hi2 a2 (by omega) (by omega) (by omega) (by omega)
  have R := t_ss (d := d) (w := w) (g := 59) (N := N) (tu := false) bb t (by omega) C1 (TOP.of ⟨a0, af, g1, ⟨by decide, tun_b⟩⟩) (by decide) g0 (by omega) e2 (by omega)
  have gd := pgX_b (P := P) (V := V) t.M N 0 (dp + 1) (i + 2) (by decide) hi2
  generalize pgX K P V N 0 (dp + 1) (i + 2) = r1 at R gd ⊢
  rcases r1 with ⟨j, _ | tt⟩
  · have gj : i + 2 ≤ j := gd.1
    exact RTn_C p1 I1.F (by omega) R (by omega)
  have gj : i + 2 ≤ j := gd.1
  have gm' : j < m := gd.2.1
  obtain ⟨R1, R2⟩ := R
  show RTa (d + 10) h B n m (spe Bt n P U) K P f s w L b i dp 9 (tak K 59 j (j + 1, some (tNd (tE 5 (P i) 0) (.branch (tE 13 (P i) i) (.leaf ()) tt))))
  by_cases c59 : ¬ K j = 59
  · have e7 : ∀ X, tak K 59 j X = (j, none) := fun X => if_neg c59
    rw [e7]
    exact RTn_C p1 I1.F (by omega) (R1 c59) (by omega)
  have c59 : K j = 59 := Classical.not_not.mp c59
  have e7 : ∀ X, tak K 59 j X = X := fun X => if_pos c59
  rw [e7]
  obtain ⟨k1, s5, p5, F5, b5', O5, d4, d5, d6, d7, y5, -, -⟩ := R2 c59
  have I5 := IST_G I1 F5
  have n5 := I5.n
  have kk : tK (tE 5 (P i) 0) = 5 := tE_K (by decide)
  have kp : tP (tE 5 (P i) 0) = P i := tE_P (by decide) hP
  have ak : tK (tE 13 (P i) i) = 13 := tE_K (by decide)
  have av : tV (tE 13 (P i) i) = i := tE_V (by decide) hP
  have ap : tP (tE 13 (P i) i) = P i := tE_P (by decide) hP
  generalize tE 13 (P i) i = aN at ak av ap ⊢
  have nxe : nxE (tE 5 (P i) 0) (.branch aN (.leaf ()) tt) L = L := nxE_o (by omega) (by omega)
  have I6 : IST s s5 w (Int32.ofNat (skN (tE 5 (P i) 0))) (Int32.ofNat (tP (tE 5 (P i) 0))) := by rw [skN_o kk (by decide) (by decide), kp]; exact I5
  refine ⟨tE 5 (P i) 0, .branch aN (.leaf ()) tt, rfl, _, s5, PL_t p1 p5, I5.F, by omega, TOK.of ⟨O5.w, O5.j, O5.d, O5.f, ⟨by omega, by omega, by omega, by omega⟩, by omega⟩, by rw [nxe]; exact SCE_G E1 F5, by rw [nxe]; omega, ⟨IST_z I6 H.E ?_, Or.inr (Or.inr (Or.inl ⟨kk, aN, tt, s1.1 6, rfl, n5, ?_, by rw [a6]; exact I5.f 10 (by omega), y5⟩))⟩, I5.h.trans (if_neg (fun z => by omega)).symm⟩
  · rw [wrS_l (Or.inr kk), lwT_B, lwN_13 ak, av, ap, O5.x, ax, wn_fw lkW_b]
  · rw [av, F5.u _ 8 (by omega) (by omega), G1.u _ 8 (by omega) (by omega)]
    exact n8
end SNs
