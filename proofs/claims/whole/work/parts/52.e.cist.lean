set_option maxRecDepth 100000
/-! a statement that began: what goes on standing; a SUM and a token; a COND in brackets -/
def IST (s s' : cps) (w : Nat) (kd p : Int32) : Prop := (CSx s s' w) ∧ (s'.1 8 = s.1 8 + 1) ∧ (∀ j, j < 5 ∨ j = 10 ∨ j = 12 → s'.2 (24 + s.1 8) j = stF s kd p j) ∧ (s'.2 15 (6 * s.1 9 + 5) = s.2 15 (6 * s.1 9 + 5))
theorem IST.of {s s' : cps} {w : Nat} {kd p : Int32} (q : (CSx s s' w) ∧ (s'.1 8 = s.1 8 + 1) ∧ (∀ j, j < 5 ∨ j = 10 ∨ j = 12 → s'.2 (24 + s.1 8) j = stF s kd p j) ∧ (s'.2 15 (6 * s.1 9 + 5) = s.2 15 (6 * s.1 9 + 5))) : IST s s' w kd p := q
theorem IST.F {s s' : cps} {w : Nat} {kd p : Int32} (q : IST s s' w kd p) : CSx s s' w := q.1
theorem IST.n {s s' : cps} {w : Nat} {kd p : Int32} (q : IST s s' w kd p) : s'.1 8 = s.1 8 + 1 := q.2.1
theorem IST.f {s s' : cps} {w : Nat} {kd p : Int32} (q : IST s s' w kd p) : ∀ j, j < 5 ∨ j = 10 ∨ j = 12 → s'.2 (24 + s.1 8) j = stF s kd p j := q.2.2.1
theorem IST.h {s s' : cps} {w : Nat} {kd p : Int32} (q : IST s s' w kd p) : s'.2 15 (6 * s.1 9 + 5) = s.2 15 (6 * s.1 9 + 5) := q.2.2.2
def BGN (s sb : cps) (m : Nat) (L : cen) (w dp : Nat) (kd p : Int32) : Prop := (IST s sb w kd p) ∧ (SCE sb m L) ∧ (wSt sb = (0, 0)) ∧ (sb.1 0 = w) ∧ (sb.1 2 = dp) ∧ (sb.1 4 = s.1 4 ∧ sb.1 5 = s.1 5 ∧ sb.1 6 = s.1 6 ∧ sb.1 7 = s.1 7) ∧ (sb.2 16 7 = -1)
theorem BGN.of {s sb : cps} {m : Nat} {L : cen} {w dp : Nat} {kd p : Int32} (q : (IST s sb w kd p) ∧ (SCE sb m L) ∧ (wSt sb = (0, 0)) ∧ (sb.1 0 = w) ∧ (sb.1 2 = dp) ∧ (sb.1 4 = s.1 4 ∧ sb.1 5 = s.1 5 ∧ sb.1 6 = s.1 6 ∧ sb.1 7 = s.1 7) ∧ (sb.2 16 7 = -1)) : BGN s sb m L w dp kd p := q
theorem BGN.I {s sb : cps} {m : Nat} {L : cen} {w dp : Nat} {kd p : Int32} (q : BGN s sb m L w dp kd p) : IST s sb w kd p := q.1
theorem BGN.E {s sb : cps} {m : Nat} {L : cen} {w dp : Nat} {kd p : Int32} (q : BGN s sb m L w dp kd p) : SCE sb m L := q.2.1
theorem BGN.x {s sb : cps} {m : Nat} {L : cen} {w dp : Nat} {kd p : Int32} (q : BGN s sb m L w dp kd p) : wSt sb = (0, 0) := q.2.2.1
theorem BGN.w {s sb : cps} {m : Nat} {L : cen} {w dp : Nat} {kd p : Int32} (q : BGN s sb m L w dp kd p) : sb.1 0 = w := q.2.2.2.1
theorem BGN.d {s sb : cps} {m : Nat} {L : cen} {w dp : Nat} {kd p : Int32} (q : BGN s sb m L w dp kd p) : sb.1 2 = dp := q.2.2.2.2.1
theorem BGN.c {s sb : cps} {m : Nat} {L : cen} {w dp : Nat} {kd p : Int32} (q : BGN s sb m L w dp kd p) : sb.1 4 = s.1 4 ∧ sb.1 5 = s.1 5 ∧ sb.1 6 = s.1 6 ∧ sb.1 7 = s.1 7 := q.2.2.2.2.2.1
theorem BGN.f {s sb : cps} {m : Nat} {L : cen} {w dp : Nat} {kd p : Int32} (q : BGN s sb m L w dp kd p) : sb.2 16 7 = -1 := q.2.2.2.2.2.2
def RSa (d : Nat) (h : mh_H) (B : Nat) (P : Nat → Nat) (lo : lkt) (K : Nat → Int32) (g : Nat) (s : cps) (w : Nat) (tu : Bool) (i dp : Nat) (r : pqr) : Prop := match r with
  | (j, none) => RCn d h B P s i j 5
  | (j, some t) => (¬ K j = Int32.ofNat g → RCn d h B P s i j 5) ∧ (K j = Int32.ofNat g → RWs d h B lo s w tu i dp (j + 1) t)
def kdS (s : cps) (w j : Nat) : cps := u1 (u1 (u2 (u1 s 0 (w + 1)) (23 + s.1 8) 13 (Int32.ofNat (s.1 7))) 0 w) 1 (j + 1)
abbrev RKs (d : Nat) (h : mh_H) (B : Nat) (lo : lkt) (s : cps) (w i dp j : Nat) (t : tr) : Prop := ∃ k s2 s', PL d h B k s s' ∧ CGx s s2 w (s.1 7) ∧ s' = kdS s2 w j ∧ k ≤ 24 * (j + 1 - i) ∧ COK s s' w (j + 1) dp (lwT lo t) ∧ s'.1 4 ≤ s.1 4 + (j - i) ∧ s'.1 5 ≤ s.1 5 + (j - i) ∧ s'.1 6 + 1 ≤ s.1 6 + (j - i) ∧ s'.1 7 + 1 ≤ s.1 7 + (j - i) ∧ s'.2 (23 + s.1 8) 13 = Int32.ofNat (s'.1 7) ∧ cy (s'.2 12) (s'.2 13) (rlx lo s') t false false (s.1 7) (s'.1 7)
def RKa (d : Nat) (h : mh_H) (B : Nat) (P : Nat → Nat) (lo : lkt) (K : Nat → Int32) (s : cps) (w i dp : Nat) (r : pqr) : Prop := match r with
  | (j, none) => RCn d h B P s i j 8
  | (j, some t) => (¬ K j = 41 → RCn d h B P s i j 8) ∧ (K j = 41 → RKs d h B lo s w i dp j t)
section ISs
variable {d : Nat} {h : mh_H} {B n m : Nat} {Bt : Nat → Int32} {K : Nat → Int32} {P U : Nat → Nat} {V : Nat → Int} {s s1 s2 s' : cps} {L : cen} {lo : lkt} {w w0 b i i1 dp N f c v j k0 kf kf1 g : Nat} {kd p x y : Int32} {tu : Bool}
theorem IST_bg : IST s (bgS (u1 s 0 w) kd p) w kd p := IST.of ⟨CSx_t (CSx_1 (by omega)) CSx_bg, bg_8, fun j _ => (show (bgS (u1 s 0 w) kd p).2 (24 + s.1 8) j = stF (u1 s 0 w) kd p j from if_pos rfl), bg_2 (by omega)⟩
theorem IST_G (I : IST s s1 w kd p) (G : CGx s1 s2 w (s1.1 7)) : IST s s2 w kd p := by
  have hn := I.n
  exact IST.of ⟨CSx_G I.F G (by omega), by rw [CGx_8 G]; exact hn, fun j hj => (G.u (24 + s.1 8) j (by omega) (by omega)).trans (I.f j hj), (G.r 15 _ (by decide) (by omega) (by decide) (by omega)).trans I.h⟩
theorem IST_1 (I : IST s s1 w kd p) (hc : c = 0 ∨ c = 1 ∨ c = 2) : IST s (u1 s1 c v) w kd p := IST_G I (CGx_1 hc (Nat.le_refl _))
theorem IST_u (I : IST s s1 w kd p) (hj : 5 ≤ j ∧ j ≠ 10 ∧ j ≠ 12) : IST s (u2 s1 (23 + s1.1 8) j x) w kd p := by
  have hn := I.n
  exact IST.of ⟨CSx_u I.F (by omega), hn, fun k hk => (if_neg (by omega)).trans (I.f k hk), (if_neg (by omega)).trans I.h⟩
theorem CSx_6 : CSx s (u2 s 16 j x) w := by
  have e : ∀ o k, o ≠ 16 → (u2 s 16 j x).2 o k = s.2 o k := fun o k ho => by rw [u2_2, if_neg (fun z => ho z.1)]
  exact CSx.of ⟨⟨⟨Nat.le_refl _, Nat.le_refl _, Nat.le_refl _, Nat.le_refl _⟩, fun k _ => e _ _ (by decide), fun o k _ _ _ => e _ _ (by omega), fun o k _ _ => e _ _ (by omega), fun h => absurd h (Nat.lt_irrefl _), fun _ => ⟨rfl, rfl⟩, fun o k _ _ => e _ _ (by omega)⟩, fun _ _ => rfl, Nat.le_refl _, fun _ _ => e _ _ (by decide), fun o k h => e _ _ (by omega), fun k _ => e _ _ (by decide), fun k l _ => e _ _ (by omega)⟩
theorem IST_6 (I : IST s s1 w kd p) : IST s (u2 s1 16 j x) w kd p := by
  have hn := I.n
  exact IST.of ⟨CSx_t I.F CSx_6, hn, fun k hk => (by rw [u2_2, if_neg (by omega)]; exact I.f k hk), (by rw [u2_2, if_neg (by omega)]; exact I.h)⟩
theorem IST_nf (I : IST s s1 w kd p) : IST s (nfS s1 x y) w kd p := IST_u (s1 := u2 s1 (23 + s1.1 8) 5 x) (IST_u I (by decide)) (by decide)
theorem IST_nt (I : IST s s1 w kd p) : IST s (ntS s1 x y) w kd p := by
  unfold ntS
  split
  · exact IST_nf I
  · exact I
theorem IST_K (I : IST s s1 w kd p) : IST s (kdS s1 w0 j) w kd p := IST_1 (IST_1 (IST_u (s1 := u1 s1 0 (w0 + 1)) (IST_1 I (by decide)) (by decide)) (by decide)) (by decide)
theorem BGN_bg (H : CHt n m s L b i dp) (T : TOP s w g v) : BGN s (bgS (u1 s 0 w) kd p) m L w dp kd p := BGN.of ⟨IST_bg, SCE_bg (SCE_1 H.E (by omega)), wSt_bg, rfl, H.d, ⟨rfl, rfl, rfl, rfl⟩, (bg_2 (by omega)).trans T.f⟩
theorem tkS_p (hf : s.2 16 7 = -1) (q : K (s.1 1) = x) : tkS K P s x = u1 s 1 (s.1 1 + 1) := by unfold tkS; rw [if_pos hf, if_pos q]
theorem tkS_n (hf : s.2 16 7 = -1) (q : ¬ K (s.1 1) = x) : tkS K P s x = u2 s 16 7 (Int32.ofNat (P (s.1 1))) := by unfold tkS; rw [if_pos hf, if_neg q]
theorem CWx_s (hN : 0 < s.1 8) : CWx s (u2 s (23 + s.1 8) j x) := CWx.of ⟨fun _ _ => rfl, fun o k h1 h2 h3 h4 => if_neg (by omega), fun o k h1 h2 => if_neg (by omega)⟩
theorem CRx_u (hN : 0 < s.1 8) : CRx s (u2 s (23 + s.1 8) j x) (s.1 7) := ⟨⟨Nat.le_refl _, Nat.le_refl _, Nat.le_refl _, Nat.le_refl _⟩, fun k _ => if_neg (by omega), fun o k _ _ _ => if_neg (by omega), fun o k _ _ => if_neg (by omega), fun h => absurd h (Nat.lt_irrefl _), fun _ => ⟨rfl, rfl⟩, fun o k _ _ => if_neg (by omega)⟩
theorem CRx_1 (hc : c = 0 ∨ c = 1 ∨ c = 2) : CRx s (u1 s c v) (s.1 7) := (CSx_1 (w := 0) hc).R
theorem CRx_K (hN : 0 < s.1 8) : CRx s (kdS s w j) (s.1 7) := CRx_t (CRx_t (CRx_t (CRx_1 (by decide)) (CRx_u (s := u1 s 0 (w + 1)) hN)) (CRx_1 (by decide))) (CRx_1 (by decide))
theorem RTn_C (p : PL d h B k0 s s1) (F : CSx s s1 w) (h8 : s1.1 8 ≤ n / 3 + 2) (R : RCn d h B P s1 i1 j kf1) (hk : k0 + (24 * (j - i1) + kf1) ≤ 30 * (j - i) + kf) : RTn d h B n P s i j kf := by
  obtain ⟨k1, s2, p2, F2, b2, f2, f3⟩ := R
  exact ⟨k0 + k1, s2, PL_t p p2, CVx_W F F2 h8, by omega, f2, f3⟩
theorem RTn_t (bb : CPB h B n) (t : CTK h B n m Bt K P U V) (p : PL (d + 10) h B k0 s s1) (F : CSx s s1 w0) (h8 : s1.1 8 ≤ n / 3 + 2) (h1 : s1.1 1 = j) (hj : j < m) (T : TOP s1 w g v) (hg : g < 140) (gw : w < gL n) (c : ¬ K j = Int32.ofNat g) (hk : k0 + 1 ≤ 30 * (j - i) + kf) (h6 : s1.1 6 ≤ j + 1) : RTn (d + 10) h B n P s i j kf :=
  ⟨k0 + 1, _, PL_t p (st_tn (d := d) bb t h1 hj hg T gw c), CVx_W F (CWx_t (CGx_W (CGx_1 (w := w) (Or.inl rfl) (Nat.le_refl _))) CWx_f) h8, hk, rfl, h6⟩
theorem t_ss (bb : CPB h B n) (t : CTK h B n m Bt K P U V) (hf : 8 * (m - i) + 3 ≤ N) (H : CHc Bt n m P U s lo i dp) (T : TOP s (w + 1) 161 (tun tu)) (hg : g < 140) (h23 : s.2 23 w = glI (Int32.ofNat g) (Int32.ofNat 0)) (hd : dp + 1 ≤ i) (hd2 : dp ≤ 60) (hw : w + 1 ≤ 12 * dp + 24) : RSa (d + 10) h B P lo K g s w tu i dp (pgX K P V N 0 (dp + 1) i) := by
  have hm := t.m
  have hb := H.H.b
  have h6 := H.x
  have gw : w < gL n := gL_w t hb (by omega) hd2 (by omega)
  have R := x_ws (d := d) bb t hf H T hd hd2 hw
  have gd := pgX_b (P := P) (V := V) t.M N 0 (dp + 1) i (by decide) hb
  generalize pgX K P V N 0 (dp + 1) i = r1 at R gd ⊢
  rcases r1 with ⟨j, _ | tt⟩
  · obtain ⟨k1, s2, p2, F2, b2, f2, f3⟩ := R
    exact ⟨k1, s2, p2, F2, by omega, f2, f3⟩
  have gj : i ≤ j := gd.1
  have gm' : j < m := gd.2.1
  obtain ⟨k1, s2, p2, F2, b2, O2, d4, d5, d6, d7, y2, z1, z2⟩ := R
  have T2 : TOP s2 w g 0 := TOP.of ⟨O2.w, O2.f, (F2.g w (by omega)).trans h23, ⟨by omega, by decide⟩⟩
  refine ⟨fun c => ?_, fun c => ?_⟩
  · exact ⟨k1 + 1, _, PL_t p2 (st_tn (d := d) bb t O2.j gm' hg T2 gw c), CWx_t (CGx_W F2) (CWx_t (CGx_W (CGx_1 (w := w) (Or.inl rfl) (Nat.le_refl _))) CWx_f), by omega, rfl, by show s2.1 6 ≤ _; omega⟩
  · have p3 := st_tk (d := d) bb t O2.j gm' hg T2 gw c
    obtain ⟨s3, hs3⟩ : ∃ s3, s3 = u1 (u1 s2 0 w) 1 (j + 1) := ⟨_, rfl⟩
    rw [← hs3] at p3
    have G3 : CGx s2 s3 w (s.1 7) := by rw [hs3]; exact CGx_t (CGx_1 (Or.inl rfl) (by omega)) (CGx_1 (Or.inr (Or.inl rfl)) (by show s.1 7 ≤ s2.1 7; omega))
    exact ⟨k1 + 1, s3, PL_t p2 p3, CGx_t (CGx_w F2 (by omega) (Nat.le_refl _)) G3, by omega, COK.of ⟨by rw [hs3]; rfl, by rw [hs3]; rfl, by rw [hs3]; exact O2.d, by rw [hs3]; exact O2.f, by rw [hs3, wSt_1 (by decide), wSt_1 (by decide)]; exact O2.x⟩, by rw [hs3]; show s2.1 4 ≤ _; omega, by rw [hs3]; show s2.1 5 ≤ _; omega, by rw [hs3]; exact d6, by rw [hs3]; exact d7, SUX_g G3 y2, by rw [hs3]; exact z1, by rw [hs3]; exact z2⟩
theorem t_cd (bb : CPB h B n) (t : CTK h B n m Bt K P U V) (hN8 : 8 * m + 3 ≤ N) (H : CHc Bt n m P U s lo i dp) (T : TOP s (w + 2) 171 0) (g1 : s.2 23 (w + 1) = glI (Int32.ofNat 157) (Int32.ofNat 0)) (g0 : s.2 23 w = glI (Int32.ofNat 41) (Int32.ofNat 0)) (hd : dp + 2 ≤ i) (hd2 : dp ≤ 60) (hw : w + 2 ≤ 12 * dp + 24) : RKa (d + 10) h B P lo K s w i dp (pgC K P V N N 0 (dp + 1) i) := by
  have hm := t.m
  have hb := H.H.b
  have hN := H.H.N
  have h6 := H.x
  have gw : w < gL n := gL_w t hb (by omega) hd2 (by omega)
  have gw1 : w + 1 < gL n := gL_w t hb (by omega) hd2 (by omega)
  have R := (xc_all (d := d) (lo := lo) bb t hN8 N).1 i dp s (w + 2) (by omega) H T hd hd2 hw
  have gd := (pgC_b (P := P) (V := V) (N := N) t.M N 0 (dp + 1) i (by decide) hb).1
  generalize pgC K P V N N 0 (dp + 1) i = r1 at R gd ⊢
  rcases r1 with ⟨j, _ | tt⟩
  · obtain ⟨k1, s2, p2, F2, b2, f2, f3⟩ := R
    exact ⟨k1, s2, p2, F2, by omega, f2, f3⟩
  have gj : i ≤ j := gd.1
  have gm' : j < m := gd.2.1
  obtain ⟨k1, s2, p2, F2, b2, O2, d4, d5, d6, d7, y2⟩ := R
  have n8 := CGx_8 F2
  have T2 : TOP s2 (w + 1) 157 0 := TOP.of ⟨O2.w, O2.f, (F2.g (w + 1) (by omega)).trans g1, ⟨by decide, by decide⟩⟩
  have p3 := it_66 (d := d + 9) bb T2 gw1 (by decide) (c_66m (d := d + 3) (s := u1 s2 0 (w + 1)) bb (by show 0 < s2.1 8; omega))
  obtain ⟨s3, hs3⟩ : ∃ s3, s3 = u2 (u1 s2 0 (w + 1)) (23 + s2.1 8) 13 (Int32.ofNat (s2.1 7)) := ⟨_, rfl⟩
  have p3' : PL (d + 10) h B 1 s2 s3 := by rw [hs3]; exact p3
  have T3 : TOP s3 w 41 0 := by
    refine TOP.of ⟨by rw [hs3]; rfl, ?_, ?_, ⟨by decide, by decide⟩⟩
    · rw [hs3, u2_2, if_neg (by omega)]; exact O2.f
    · rw [hs3, u2_2, if_neg (by omega)]; exact (F2.g w (by omega)).trans g0
  have a1 : s3.1 1 = j := by rw [hs3]; exact O2.j
  have W3 : CWx s2 s3 := by rw [hs3]; exact CWx_t (CGx_W (CGx_1 (w := w) (Or.inl rfl) (Nat.le_refl _))) (CWx_s (s := u1 s2 0 (w + 1)) (by show 0 < s2.1 8; omega))
  refine ⟨fun c => ?_, fun c => ?_⟩
  · exact ⟨k1 + 1 + 1, _, PL_t (PL_t p2 p3') (st_tn (d := d) bb t a1 gm' (g := 41) (by decide) T3 gw c), CWx_t (CWx_t (CGx_W F2) W3) (CWx_t (CGx_W (CGx_1 (w := w) (Or.inl rfl) (Nat.le_refl _))) CWx_f), by omega, rfl, by rw [hs3]; show s2.1 6 ≤ _; omega⟩
  · have p4 := st_tk (d := d) bb t a1 gm' (g := 41) (by decide) T3 gw c
    obtain ⟨s4, hs4⟩ : ∃ s4, s4 = kdS s2 w j := ⟨_, rfl⟩
    have e4 : u1 (u1 s3 0 w) 1 (j + 1) = s4 := by rw [hs4, hs3]; rfl
    rw [e4] at p4
    refine ⟨k1 + 1 + 1, s2, s4, PL_t (PL_t p2 p3') p4, CGx_w F2 (by omega) (Nat.le_refl _), hs4, by omega, COK.of ⟨by rw [hs4]; rfl, by rw [hs4]; rfl, by rw [hs4]; exact O2.d, ?_, ?_⟩, by rw [hs4]; exact d4, by rw [hs4]; exact d5, by rw [hs4]; exact d6, by rw [hs4]; exact d7, ?_, ?_⟩
    · rw [hs4]
      show (if 16 = 23 + s2.1 8 ∧ 7 = 13 then _ else s2.2 16 7) = -1
      rw [if_neg (by omega)]
      exact O2.f
    · rw [← O2.x]
      refine wSt_f (by rw [hs4]; rfl) ?_ ?_
      · rw [hs4]
        show (if 23 + s2.1 8 = 23 + s2.1 8 ∧ 5 = 13 then _ else s2.2 (23 + s2.1 8) 5) = _
        rw [if_neg (by omega)]
      · rw [hs4]
        show (if 23 + s2.1 8 = 23 + s2.1 8 ∧ 6 = 13 then _ else s2.2 (23 + s2.1 8) 6) = _
        rw [if_neg (by omega)]
    · rw [hs4]
      show (if 23 + s.1 8 = 23 + s2.1 8 ∧ 13 = 13 then Int32.ofNat (s2.1 7) else s2.2 (23 + s.1 8) 13) = Int32.ofNat (s2.1 7)
      rw [if_pos ⟨by omega, rfl⟩]
    · rw [hs4]
      exact cy_r (CRx_K (by omega)) (Nat.le_refl _) y2
end ISs
