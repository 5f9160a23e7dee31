set_option maxRecDepth 100000
/-! the class's parser over statements: all that begin with a NAME -/
section NMz
variable {d : Nat} {h : mh_H} {B n m : Nat} {Bt : Nat → Int32} {K : Nat → Int32} {P U : Nat → Nat} {V : Nat → Int} {s : cps} {L : cen} {w b i dp N f : Nat}
theorem z_ca1 (bb : CPB h B n) (t : CTK h B n m Bt K P U V) (hN8 : 8 * m + 6 ≤ N) (H : CHt n m s L b i dp) (T : TOP s w 149 0) (hw : w ≤ 12 * dp) (q : K i = 2) (q1 : K (i + 1) = 40) : RTa (d + 10) h B n m (spe Bt n P U) K P f s w L b i dp 9 (bnd (pgS K P V N (dp + 1) (i + 2)) fun r j => tak K 59 j (j + 1, some (tNd (tE 7 (P i) 0) (.branch (tE 33 (P i) 0) (.leaf ()) (.branch (tE 13 (P i) i) (.leaf ()) r))))) := by
  have hb := H.j
  have hm := t.m
  have hn := bb.n
  obtain ⟨e1, e2, e3⟩ := H.e
  obtain ⟨l1, l2⟩ := H.l
  obtain ⟨B1, B2⟩ := H.B
  obtain ⟨c4, c5, c6, c7⟩ := H.c
  have hN3 := H.N
  have hF := H.F
  have hP := p16 bb t hb
  have gw : w < gL n := gL_w t hb e3 e2 (by omega)
  have gw1 : w + 1 < gL n := gL_w t hb e3 e2 (by omega)
  have gw2 : w + 2 < gL n := gL_w t hb e3 e2 (by omega)
  have gw9 : w + 10 ≤ gL n := gL_w (w := w + 9) t hb e3 e2 (by omega)
  have hi1 : i + 1 < m := tkM_s t.M hb q (by decide) (by decide)
  have e : (u1 s 0 w).1 1 = i := H.i
  have hi2 : i + 2 < m := tkM_s t.M hi1 q1 (by decide) (by decide)
  have z := c_58g (d := d) (s := u1 s 0 w) bb t (by rw [e]; exact hb) (by rw [e]; exact q) (c_61a (d := d) (s := u1 s 0 w) bb t (by rw [e]; exact hb) (by rw [e]; exact q1) (by show s.1 8 < n / 3 + 2; omega) (by show 6 * s.1 9 ≤ _; omega) H.H (by show w + 3 ≤ gL n; omega))
  rw [e] at z
  have p1 := it_58 bb T gw z
  have G := BGN_bg (kd := 4) (p := Int32.ofNat (P i)) H T
  have q8 : (bgS (u1 s 0 w) 4 (Int32.ofNat (P i))).2 (24 + s.1 8) 8 = -1 := if_pos rfl
  have q11 : (bgS (u1 s 0 w) 4 (Int32.ofNat (P i))).2 (24 + s.1 8) 11 = 0 := if_pos rfl
  have o1 : (bgS (u1 s 0 w) 4 (Int32.ofNat (P i))).1 1 = i := e
  generalize bgS (u1 s 0 w) 4 (Int32.ofNat (P i)) = sb at p1 G q8 q11 o1
  obtain ⟨b4, b5, b6, b7⟩ := G.c
  have b0 := G.w
  have b8 := G.I.n
  have hNb : 0 < sb.1 8 := by omega
  have ak : ¬ tK (tE 33 (P i) 0) = 13 := by rw [tE_K (by decide)]; decide
  have av : (tV (tE 13 (P i) i)).toNat = i := by rw [tE_V (by decide) hP]; omega
  have ap : tP (tE 13 (P i) i) = P i := tE_P (by decide) hP
  exact z_cal (W0 := (0, 0)) bb t hN8 H T hw q (Nat.le_refl _) hi2 p1 G.I G.E (G.x.trans wn_0.symm) (by decide) b0 o1 G.d b4 b5 b6 b7 G.f q11 (by rw [if_neg ak]; exact q8) (if_neg ak) av ap
theorem z_ca2 (bb : CPB h B n) (t : CTK h B n m Bt K P U V) (hN8 : 8 * m + 6 ≤ N) (H : CHt n m s L b i dp) (T : TOP s w 149 0) (hw : w ≤ 12 * dp) (q : K i = 2) (q1 : K (i + 1) = 61) (q2 : K (i + 2) = 2) (q3 : K (i + 3) = 40) : RTa (d + 10) h B n m (spe Bt n P U) K P f s w L b i dp 9 (bnd (pgS K P V N (dp + 1) (i + 4)) fun r j => tak K 59 j (j + 1, some (tNd (tE 7 (P i) 0) (.branch (tE 13 (P i) i) (.leaf ()) (.branch (tE 13 (P (i + 2)) (i + 2)) (.leaf ()) r))))) := by
  have hb := H.j
  have hm := t.m
  have hn := bb.n
  obtain ⟨e1, e2, e3⟩ := H.e
  obtain ⟨l1, l2⟩ := H.l
  obtain ⟨B1, B2⟩ := H.B
  obtain ⟨c4, c5, c6, c7⟩ := H.c
  have hN3 := H.N
  have hF := H.F
  have hP := p16 bb t hb
  have gw : w < gL n := gL_w t hb e3 e2 (by omega)
  have gw1 : w + 1 < gL n := gL_w t hb e3 e2 (by omega)
  have gw2 : w + 2 < gL n := gL_w t hb e3 e2 (by omega)
  have gw9 : w + 10 ≤ gL n := gL_w (w := w + 9) t hb e3 e2 (by omega)
  have hi1 : i + 1 < m := tkM_s t.M hb q (by decide) (by decide)
  have e : (u1 s 0 w).1 1 = i := H.i
  have hi2 : i + 2 < m := tkM_s t.M hi1 q1 (by decide) (by decide)
  have hi3 : i + 3 < m := tkM_s t.M hi2 q2 (by decide) (by decide)
  have hi4 : i + 2 + 2 < m := tkM_s t.M hi3 q3 (by decide) (by decide)
  have hP2 := p16 bb t hi2
  have E0 : ∀ x y, SCE (bgS (u1 s 0 w) x y) m L := fun x y => SCE_bg (SCE_1 H.E (by decide))
  have z := c_58g (d := d) (s := u1 s 0 w) bb t (by rw [e]; exact hb) (by rw [e]; exact q) (c_61c (d := d) (s := u1 s 0 w) bb t (by rw [e]; exact hb) (by rw [e]; exact hi2) (by rw [e]; exact q1) (by rw [e]; exact q2) (by rw [e]; exact q3) (by show s.1 8 < n / 3 + 2; omega) (SCE_C (E0 _ _) (by omega) hn hm.2) (by show 6 * s.1 9 ≤ _; omega) H.H (by show w + 3 ≤ gL n; omega))
  rw [e] at z
  have p1 := it_58 bb T gw z
  have G := BGN_bg (kd := 4) (p := Int32.ofNat (P i)) H T
  have S := SCE_C (n := n) G.E (by omega) hn hm.2
  have q11 : (bgS (u1 s 0 w) 4 (Int32.ofNat (P i))).2 (24 + s.1 8) 11 = 0 := if_pos rfl
  generalize bgS (u1 s 0 w) 4 (Int32.ofNat (P i)) = sb at p1 G S q11
  obtain ⟨b4, b5, b6, b7⟩ := G.c
  have b0 := G.w
  have b8 := G.I.n
  have hNb : 0 < sb.1 8 := by omega
  obtain ⟨sn, hsn, n1, n2, nI, nE, nx, n8⟩ := bs_all (Bt := Bt) (P := P) (U := U) (i := i) (pp := P i) S G.I G.E (by omega) (by omega)
  rw [← hsn] at p1
  clear hsn
  have nc : ∀ c, sn.1 c = sb.1 c := fun c => by rw [n1]
  have ak : tK (tE 13 (P i) i) = 13 := tE_K (by decide)
  have av : tV (tE 13 (P i) i) = i := tE_V (by decide) hP
  have ap : tP (tE 13 (P i) i) = P i := tE_P (by decide) hP
  have fv : (tV (tE 13 (P (i + 2)) (i + 2))).toNat = i + 2 := by rw [tE_V (by decide) hP2]; omega
  have fp : tP (tE 13 (P (i + 2)) (i + 2)) = P (i + 2) := tE_P (by decide) hP2
  generalize tE 13 (P i) i = aN at ak av ap ⊢
  generalize tE 13 (P (i + 2)) (i + 2) = fN at fv fp ⊢
  exact z_cal (i1 := i + 2) (sn := u1 sn 1 (i + 2)) (W0 := (lkW (loE (spe Bt n P U) L) (i : Int) false, P i)) bb t hN8 H T hw q (by omega) hi4 p1 (IST_1 nI (by decide)) (SCE_1 nE (by decide)) (by rw [wSt_1 (by decide), nx, G.x]) lkW_b ((nc 0).trans b0) rfl ((nc 2).trans G.d) ((nc 4).trans b4) ((nc 5).trans b5) ((nc 6).trans b6) ((nc 7).trans b7) ((n2 16 7 (by omega)).trans G.f) ((n2 _ 11 (by omega)).trans q11) (by rw [if_pos ak, av]; exact n8) (by rw [if_pos ak, av, ap]) fv fp
theorem z_nam (bb : CPB h B n) (t : CTK h B n m Bt K P U V) (hN8 : 8 * m + 6 ≤ N) (H : CHt n m s L b i dp) (T : TOP s w 149 0) (hw : w ≤ 12 * dp) (q : K i = 2) : RTa (d + 10) h B n m (spe Bt n P U) K P f s w L b i dp 9 (
      if K (i + 1) = 40 then bnd (pgS K P V N (dp + 1) (i + 2)) fun r j => tak K 59 j (j + 1, some (tNd (tE 7 (P i) 0) (.branch (tE 33 (P i) 0) (.leaf ()) (.branch (tE 13 (P i) i) (.leaf ()) r))))
      else if K (i + 1) = 91 then bnd (pgX K P V N 0 (dp + 1) (i + 2)) fun t j => tak K 93 j (tak K 61 (j + 1) (bnd (pgX K P V N 0 (dp + 1) (j + 2)) fun u k => tak K 59 k (k + 1, some (tNd (tE 6 (P i) 0) (.branch (tE 13 (P i) i) (.leaf ()) (tA t u))))))
      else tak K 61 (i + 1) (
        if K (i + 2) = 2 ∧ K (i + 3) = 40 then bnd (pgS K P V N (dp + 1) (i + 4)) fun r j => tak K 59 j (j + 1, some (tNd (tE 7 (P i) 0) (.branch (tE 13 (P i) i) (.leaf ()) (.branch (tE 13 (P (i + 2)) (i + 2)) (.leaf ()) r))))
        else bnd (pgX K P V N 0 (dp + 1) (i + 2)) fun t j => tak K 59 j (j + 1, some (tNd (tE 5 (P i) 0) (.branch (tE 13 (P i) i) (.leaf ()) t))))) := by
  by_cases c40 : K (i + 1) = 40
  · rw [if_pos c40]
    exact z_ca1 bb t hN8 H T hw q c40
  rw [if_neg c40]
  by_cases c91 : K (i + 1) = 91
  · rw [if_pos c91]
    exact z_sto bb t hN8 H T hw q c91
  rw [if_neg c91]
  by_cases c61 : K (i + 1) = 61
  · have e7 : ∀ X, tak K 61 (i + 1) X = X := fun X => if_pos c61
    rw [e7]
    by_cases cc : K (i + 2) = 2 ∧ K (i + 3) = 40
    · rw [if_pos cc]
      exact z_ca2 bb t hN8 H T hw q c61 cc.1 cc.2
    · rw [if_neg cc]
      exact z_set bb t hN8 H T hw q c61 cc
  · have e7 : ∀ X, tak K 61 (i + 1) X = (i + 1, none) := fun X => if_neg c61
    rw [e7]
    have hb := H.j
    have hm := t.m
    have hn := bb.n
    obtain ⟨e1, e2, e3⟩ := H.e
    obtain ⟨l1, l2⟩ := H.l
    obtain ⟨B1, B2⟩ := H.B
    obtain ⟨c4, c5, c6, c7⟩ := H.c
    have hN3 := H.N
    have hF := H.F
    have hP := p16 bb t hb
    have gw : w < gL n := gL_w t hb e3 e2 (by omega)
    have gw1 : w + 1 < gL n := gL_w t hb e3 e2 (by omega)
    have gw2 : w + 2 < gL n := gL_w t hb e3 e2 (by omega)
    have gw9 : w + 10 ≤ gL n := gL_w (w := w + 9) t hb e3 e2 (by omega)
    have hi1 : i + 1 < m := tkM_s t.M hb q (by decide) (by decide)
    have e : (u1 s 0 w).1 1 = i := H.i
    have z := c_58g (d := d) (s := u1 s 0 w) bb t (by rw [e]; exact hb) (by rw [e]; exact q) (c_61e (d := d) (s := u1 s 0 w) bb t (by rw [e]; exact hi1) T.f (by rw [e]; exact c40) (by rw [e]; exact c61) (by rw [e]; exact c91))
    rw [e] at z
    have p1 := it_58 bb T gw z
    exact ⟨1, _, p1, CVx_W (CSx_t (CSx_1 (w := w) (c := 0) (v := w) (by decide)) (CSx_1 (c := 1) (v := i + 1) (by decide))) CWx_f (by show s.1 8 ≤ _; omega), by omega, rfl, by show s.1 6 ≤ _; omega⟩
end NMz
