set_option maxRecDepth 100000
/-! the class's parser over what a call gives -/
abbrev RGs (d : Nat) (h : mh_H) (B : Nat) (lo : lkt) (s : cps) (w i dp j : Nat) (t : tr) : Prop := ∃ k s', PL d h B k s s' ∧ CGx s s' w (s.1 7) ∧ k ≤ 24 * (j - i) ∧ COK s s' w j dp (lwT lo t) ∧ s'.1 4 ≤ s.1 4 + (j - i) ∧ s'.1 5 ≤ s.1 5 + (j - i) ∧ s'.1 6 ≤ s.1 6 + (j - i) ∧ s'.1 7 = s.1 7 ∧ suMR lo s' t (s.1 6) ∧ s'.2 (23 + s.1 8) 11 = s.2 (23 + s.1 8) 11 + Int32.ofNat (tlc t)
def RGa (d : Nat) (h : mh_H) (B : Nat) (P : Nat → Nat) (lo : lkt) (s : cps) (w i dp : Nat) (r : pqr) : Prop := match r with
  | (j, none) => RCn d h B P s i j 9
  | (j, some t) => RGs d h B lo s w i dp j t
section RGz
variable {d : Nat} {h : mh_H} {B n m : Nat} {Bt : Nat → Int32} {K : Nat → Int32} {P U : Nat → Nat} {V : Nat → Int} {s s1 s2 s3 s' : cps} {lo : lkt} {w i i1 dp N f j k0 kf kf1 : Nat} {x : Int32}
theorem RCn_t (p : PL d h B k0 s s1) (F : CWx s s1) (R : RCn d h B P s1 i1 j kf1) (hk : k0 + (24 * (j - i1) + kf1) ≤ 24 * (j - i) + kf) : RCn d h B P s i j kf := by
  obtain ⟨k1, s2, p2, F2, b2, f2, f3⟩ := R
  exact ⟨k0 + k1, s2, PL_t p p2, CWx_t F F2, by omega, f2, f3⟩
theorem suMR_g {t : tr} {y q : Nat} (F : CGx s s' w q) (S : suMR lo s t y) : suMR lo s' t y := suMR_r t y (CGx_R F) S
theorem pgA_s : pgA K P V N (f + 1) dp i = if K i = 44 then bnd (pgX K P V N 0 dp (i + 1)) fun t j => bnd (pgA K P V N f dp j) fun r k => (k, some (tA t r)) else tak K 41 i (i + 1, some (.leaf ())) := rfl
theorem i11 {k : Nat} : x + 1 + Int32.ofNat k = x + Int32.ofNat (k + 1) := by
  rw [Int32.add_assoc, show (1 : Int32) = Int32.ofNat 1 from rfl, nn_add, Nat.add_comm]
/-- a SUM, and the rest behind it -/
theorem x_row (p1 : PL (d + 10) h B 1 s s1) (F1 : CGx s s1 w (s.1 7)) (b6 : s.1 6 ≤ i) (a4 : s1.1 4 = s.1 4) (a5 : s1.1 5 = s.1 5) (a6 : s1.1 6 = s.1 6) (a7 : s1.1 7 = s.1 7) (ax : wSt s1 = wSt s) (a11 : s1.2 (23 + s.1 8) 11 = s.2 (23 + s.1 8) 11) (hi : i ≤ i1) (bb : CPB h B n) (t : CTK h B n m Bt K P U V) (hN8 : 8 * m + 3 ≤ N) (C1 : CHc Bt n m P U s1 lo i1 dp) (T1 : TOP s1 (w + 1) 161 (tun false)) (g0 : s1.2 23 w = glI (Int32.ofNat 155) (Int32.ofNat 0)) (hd : dp + 1 ≤ i1) (hd2 : dp ≤ 60) (hw : w + 1 ≤ 12 * dp + 24) (ih : ∀ j s2, i1 < j → j < m → CHc Bt n m P U s2 lo j dp → TOP s2 w 155 0 → RGa (d + 10) h B P lo s2 w j dp (pgA K P V N f (dp + 1) j)) : RGa (d + 10) h B P lo s w i dp (bnd (pgX K P V N 0 (dp + 1) i1) fun t j => bnd (pgA K P V N f (dp + 1) j) fun r k => (k, some (tA t r))) := by
  have hi1 := C1.H.b
  have c4 := C1.H.c
  have c5 := C1.H.p
  have c6 := C1.x
  have c7 := C1.y
  have R := x_ws (d := d) (f := N) bb t (by omega) C1 T1 hd hd2 hw
  have gd := pgX_b (P := P) (V := V) t.M N 0 (dp + 1) i1 (by decide) hi1
  generalize pgX K P V N 0 (dp + 1) i1 = r1 at R gd ⊢
  rcases r1 with ⟨j, _ | tt⟩
  · have gj : i1 ≤ j := gd.1
    exact RCn_t p1 (CGx_W F1) R (by omega)
  have gm' : j < m := gd.2.1
  obtain ⟨gj, nt, ct, htt⟩ := (gd.2.2 tt rfl).1 rfl
  have gj : i1 < j := gj
  obtain ⟨k2, s2, p2, F2, bk2, O2, d4, d5, d6, d7, y2, z11, -⟩ := R
  have F2' : CGx s1 s2 w (s1.1 7) := CGx_w F2 (by omega) (Nat.le_refl _)
  have n2 := CGx_8 F2
  have n1 := CGx_8 F1
  have R := ih j s2 gj gm' (CHc_g C1 F2 O2.j gm' O2.d (by omega) (by omega) (by omega) (by omega)) (TOP.of ⟨O2.w, O2.f, (F2.g w (by omega)).trans g0, ⟨by decide, by decide⟩⟩)
  have gd2 := pgA_b (P := P) (V := V) (N := N) t.M f (dp + 1) j gm'
  show RGa (d + 10) h B P lo s w i dp (bnd (pgA K P V N f (dp + 1) j) fun r k => (k, some (tA tt r)))
  generalize pgA K P V N f (dp + 1) j = r2 at R gd2 ⊢
  have F12 : CGx s s2 w (s.1 7) := CGx_t F1 (by rw [← a7]; exact F2')
  rcases r2 with ⟨l, _ | rr⟩
  · have gl : j ≤ l := gd2.1
    exact RCn_t (PL_t p1 p2) (CGx_W F12) R (by omega)
  have gl : j ≤ l := gd2.1
  obtain ⟨k3, s3, p3, F3, bk3, O3, v4, v5, v6, v7, y3, w11⟩ := R
  have e27 : s2.1 7 = s.1 7 := by omega
  rw [e27] at F3
  subst htt
  have e8 : 23 + s2.1 8 = 23 + s.1 8 := by omega
  have e8' : 23 + s1.1 8 = 23 + s.1 8 := by omega
  have e6 : s2.1 6 = s.1 6 + 1 := by omega
  rw [e8] at w11
  rw [e8', a11] at z11
  rw [e6] at y3
  rw [a6] at y2
  refine ⟨1 + k2 + k3, s3, PL_t (PL_t p1 p2) p3, CGx_t F12 F3, by omega, COK.of ⟨O3.w, O3.j, O3.d, O3.f, ?_⟩, by omega, by omega, by omega, by omega, ⟨SUX_o (SUX_g F3 y2), y3⟩, ?_⟩
  · rw [O3.x, O2.x, ax]
    exact lwT_A
  · rw [w11, z11]
    exact i11
theorem x_more (bb : CPB h B n) (t : CTK h B n m Bt K P U V) (hN8 : 8 * m + 3 ≤ N) (hd2 : dp ≤ 60) (hw : w ≤ 12 * dp + 20) : ∀ f i s, m + 1 ≤ f + i → CHc Bt n m P U s lo i dp → TOP s w 155 0 → dp + 1 ≤ i → RGa (d + 10) h B P lo s w i dp (pgA K P V N f (dp + 1) i) := by
  intro f
  induction f with
  | zero =>
    intro i s hf H T hd
    have hb := H.H.b
    omega
  | succ f ih =>
    intro i s hf H T hd
    have hb := H.H.b
    have hN := H.H.N
    have h4 := H.H.c
    have h5 := H.H.p
    have h6 := H.x
    have h7 := H.y
    have gw : w < gL n := gL_w t hb (show dp ≤ i by omega) hd2 (by omega)
    have gw2 : w + 2 ≤ gL n := gL_w (w := w + 1) t hb (show dp ≤ i by omega) hd2 (by omega)
    have e : (u1 s 0 w).1 1 = i := H.H.i
    rw [pgA_s]
    by_cases c44 : K i = 44
    · rw [if_pos c44]
      have hi1 : i + 1 < m := tkM_s t.M hb c44 (by decide) (by decide)
      have p1 := it_66 (d := d + 9) bb T gw (by decide) (c_66j (d := d + 3) (s := u1 s 0 w) bb t (by rw [e]; exact hb) (by rw [e]; exact c44) gw2)
      rw [e] at p1
      obtain ⟨s1, hs1⟩ : ∃ s1, s1 = asS (asS (u1 (u1 s 0 w) 1 (i + 1)) 155 0) 161 0 := ⟨_, rfl⟩
      rw [← hs1] at p1
      have F1 : CGx s s1 w (s.1 7) := by
        rw [hs1]
        exact CGx_as' (CGx_as' (CGx_t (CGx_1 (Or.inl rfl) (Nat.le_refl _)) (CGx_1 (Or.inr (Or.inl rfl)) (Nat.le_refl _))) (Nat.le_refl _)) (by show w ≤ w + 1; omega)
      have a0 : s1.1 0 = w + 2 := by rw [hs1]; rfl
      have a1 : s1.1 1 = i + 1 := by rw [hs1]; rfl
      have a2 : s1.1 2 = dp := by rw [hs1]; exact H.H.d
      have a4 : s1.1 4 = s.1 4 := by rw [hs1]; rfl
      have a5 : s1.1 5 = s.1 5 := by rw [hs1]; rfl
      have a6 : s1.1 6 = s.1 6 := by rw [hs1]; rfl
      have a7 : s1.1 7 = s.1 7 := by rw [hs1]; rfl
      have af : s1.2 16 7 = -1 := by rw [hs1]; exact T.f
      have ax : wSt s1 = wSt s := by
        rw [hs1]
        repeat (first | refine (wSt_as (by exact hN)).trans ?_ | refine (wSt_em (by exact hN)).trans ?_ | refine (wSt_pt (by exact hN)).trans ?_ | refine (wSt_1 (by decide)).trans ?_)
        rfl
      have a11 : s1.2 (23 + s.1 8) 11 = s.2 (23 + s.1 8) 11 := by
        rw [hs1]
        show (if 23 + s.1 8 = 23 ∧ _ then _ else if 23 + s.1 8 = 23 ∧ _ then _ else s.2 (23 + s.1 8) 11) = _
        rw [if_neg (by omega), if_neg (by omega)]
      have g1 : s1.2 23 (w + 1) = glI (Int32.ofNat 161) (Int32.ofNat (tun false)) := by
        rw [hs1, as_23, if_pos (by show w + 1 = w + 1; rfl)]
        rfl
      have g0 : s1.2 23 w = glI (Int32.ofNat 155) (Int32.ofNat 0) := by
        rw [hs1, as_23, if_neg (by show ¬ w = w + 1; omega), as_23, if_pos (by show w = w; rfl)]
        rfl
      clear hs1
      exact x_row (i1 := i + 1) p1 F1 h6 a4 a5 a6 a7 ax a11 (by omega) bb t hN8 (CHc_g H F1 a1 hi1 a2 (by omega) (by omega) (by omega) (by omega)) (TOP.of ⟨a0, af, g1, ⟨by decide, tun_b⟩⟩) g0 (by omega) hd2 (by omega) (fun j s2 hj hjm C T => ih j s2 (by omega) C T (by omega))
    · rw [if_neg c44]
      have p1 := it_66 (d := d + 9) bb T gw (by decide) (c_66k (d := d + 3) (s := u1 s 0 w) bb t (by rw [e]; exact hb) (by rw [e]; exact c44))
      by_cases c41 : K i = 41
      · have e7 : ∀ X, tak K 41 i X = X := fun X => if_pos c41
        rw [e7]
        rw [tkS_p (s := u1 s 0 w) T.f (by rw [e]; exact c41), e] at p1
        exact ⟨1, _, p1, CGx_t (CGx_1 (Or.inl rfl) (Nat.le_refl _)) (CGx_1 (Or.inr (Or.inl rfl)) (Nat.le_refl _)), by omega, COK.of ⟨rfl, rfl, H.H.d, T.f, by rw [wSt_1 (by decide), wSt_1 (by decide)]; exact wn_0.symm⟩, by show s.1 4 ≤ _; omega, by show s.1 5 ≤ _; omega, by show s.1 6 ≤ _; omega, rfl, Nat.le_refl (s.1 6), by show s.2 (23 + s.1 8) 11 = s.2 (23 + s.1 8) 11 + 0; rw [Int32.add_zero]⟩
      · have e7 : ∀ X, tak K 41 i X = (i, none) := fun X => if_neg c41
        rw [e7]
        rw [tkS_n (s := u1 s 0 w) T.f (by rw [e]; exact c41), e] at p1
        exact ⟨1, _, p1, CWx_t (CGx_W (CGx_1 (w := w) (Or.inl rfl) (Nat.le_refl _))) CWx_f, by omega, rfl, by show s.1 6 ≤ _; omega⟩
theorem x_args (bb : CPB h B n) (t : CTK h B n m Bt K P U V) (hN8 : 8 * m + 3 ≤ N) (hd2 : dp ≤ 60) (hw : w ≤ 12 * dp + 20) (H : CHc Bt n m P U s lo i dp) (T : TOP s w 154 0) (hd : dp + 1 ≤ i) : RGa (d + 10) h B P lo s w i dp (pgS K P V N (dp + 1) i) := by
  have hm := t.m
  have hb := H.H.b
  have hN := H.H.N
  have h4 := H.H.c
  have h5 := H.H.p
  have h6 := H.x
  have h7 := H.y
  have gw : w < gL n := gL_w t hb (show dp ≤ i by omega) hd2 (by omega)
  have gw2 : w + 2 ≤ gL n := gL_w (w := w + 1) t hb (show dp ≤ i by omega) hd2 (by omega)
  have e : (u1 s 0 w).1 1 = i := H.H.i
  unfold pgS
  by_cases c41 : K i = 41
  · rw [if_pos c41]
    have p1 := it_66 (d := d + 9) bb T gw (by decide) (c_66h (d := d + 3) (s := u1 s 0 w) bb t (by rw [e]; exact hb) (by rw [e]; exact c41))
    rw [e] at p1
    exact ⟨1, _, p1, CGx_t (CGx_1 (Or.inl rfl) (Nat.le_refl _)) (CGx_1 (Or.inr (Or.inl rfl)) (Nat.le_refl _)), by omega, COK.of ⟨rfl, rfl, H.H.d, T.f, by rw [wSt_1 (by decide), wSt_1 (by decide)]; exact wn_0.symm⟩, by show s.1 4 ≤ _; omega, by show s.1 5 ≤ _; omega, by show s.1 6 ≤ _; omega, rfl, Nat.le_refl (s.1 6), by show s.2 (23 + s.1 8) 11 = s.2 (23 + s.1 8) 11 + 0; rw [Int32.add_zero]⟩
  · rw [if_neg c41]
    have p1 := it_66 (d := d + 9) bb T gw (by decide) (c_66i (d := d + 3) (s := u1 s 0 w) bb t (by rw [e]; exact hb) (by rw [e]; exact c41) gw2)
    obtain ⟨s1, hs1⟩ : ∃ s1, s1 = asS (asS (u1 s 0 w) 155 0) 161 0 := ⟨_, rfl⟩
    rw [← hs1] at p1
    have F1 : CGx s s1 w (s.1 7) := by
      rw [hs1]
      exact CGx_as' (CGx_as' (CGx_1 (Or.inl rfl) (Nat.le_refl _)) (Nat.le_refl _)) (by show w ≤ w + 1; omega)
    have a0 : s1.1 0 = w + 2 := by rw [hs1]; rfl
    have a1 : s1.1 1 = i := by rw [hs1]; exact H.H.i
    have a2 : s1.1 2 = dp := by rw [hs1]; exact H.H.d
    have a4 : s1.1 4 = s.1 4 := by rw [hs1]; rfl
    have a5 : s1.1 5 = s.1 5 := by rw [hs1]; rfl
    have a6 : s1.1 6 = s.1 6 := by rw [hs1]; rfl
    have a7 : s1.1 7 = s.1 7 := by rw [hs1]; rfl
    have af : s1.2 16 7 = -1 := by rw [hs1]; exact T.f
    have ax : wSt s1 = wSt s := by
      rw [hs1]
      repeat (first | refine (wSt_as (by exact hN)).trans ?_ | refine (wSt_em (by exact hN)).trans ?_ | refine (wSt_pt (by exact hN)).trans ?_ | refine (wSt_1 (by decide)).trans ?_)
      rfl
    have a11 : s1.2 (23 + s.1 8) 11 = s.2 (23 + s.1 8) 11 := by
      rw [hs1]
      show (if 23 + s.1 8 = 23 ∧ _ then _ else if 23 + s.1 8 = 23 ∧ _ then _ else s.2 (23 + s.1 8) 11) = _
      rw [if_neg (by omega), if_neg (by omega)]
    have g1 : s1.2 23 (w + 1) = glI (Int32.ofNat 161) (Int32.ofNat (tun false)) := by
      rw [hs1, as_23, if_pos (by show w + 1 = w + 1; rfl)]
      rfl
    have g0 : s1.2 23 w = glI (Int32.ofNat 155) (Int32.ofNat 0) := by
      rw [hs1, as_23, if_neg (by show ¬ w = w + 1; omega), as_23, if_pos (by show w = w; rfl)]
      rfl
    clear hs1
    exact x_row (i1 := i) p1 F1 h6 a4 a5 a6 a7 ax a11 (Nat.le_refl _) bb t hN8 (CHc_g H F1 a1 hb a2 (by omega) (by omega) (by omega) (by omega)) (TOP.of ⟨a0, af, g1, ⟨by decide, tun_b⟩⟩) g0 hd hd2 (by omega) (fun j s2 hj hjm C T => x_more bb t hN8 hd2 hw N j s2 (by omega) C T (by omega))
end RGz
