set_option maxRecDepth 100000
/-! a while: what stands in its rounds -/
/-- what is so of the while all along -/
def WHL (G : pgm) (J : pin) (D : fd) (f : Nat) (E : nv) (p k m : Nat) (c : tr) (b : Nat) (bs qt : tr) (hO : mh_H) : Prop := (BQ G J D f) ∧ (G.fx = fxJ J) ∧ (J.en p = E.en) ∧ (G.n p = E.nu) ∧ (G.a p = E.ar) ∧ (J.c p = 7) ∧ (J.t p = .branch m c (.branch b bs qt)) ∧ (eCo E (.branch m c (.branch b bs qt))) ∧ (G.sp p = cn3 (.branch m c (.branch b bs qt))) ∧ (p < G.E p) ∧ (G.E p ≤ 249) ∧ (LW G J D f bs (p + 1) (G.E p) E) ∧ (E.nu ≤ 12 ∧ E.ar ≤ 6) ∧ (nd (mh_i hO 93) (mh_i hO 95) (mh_i hO 97) (k + 1) (.branch m c (.branch b bs qt))) ∧ (k + 1 + ts (.branch m c (.branch b bs qt)) ≤ 26000)
theorem WHL.of {G : pgm} {J : pin} {D : fd} {f : Nat} {E : nv} {p k m : Nat} {c : tr} {b : Nat} {bs qt : tr} {hO : mh_H} (q : (BQ G J D f) ∧ (G.fx = fxJ J) ∧ (J.en p = E.en) ∧ (G.n p = E.nu) ∧ (G.a p = E.ar) ∧ (J.c p = 7) ∧ (J.t p = .branch m c (.branch b bs qt)) ∧ (eCo E (.branch m c (.branch b bs qt))) ∧ (G.sp p = cn3 (.branch m c (.branch b bs qt))) ∧ (p < G.E p) ∧ (G.E p ≤ 249) ∧ (LW G J D f bs (p + 1) (G.E p) E) ∧ (E.nu ≤ 12 ∧ E.ar ≤ 6) ∧ (nd (mh_i hO 93) (mh_i hO 95) (mh_i hO 97) (k + 1) (.branch m c (.branch b bs qt))) ∧ (k + 1 + ts (.branch m c (.branch b bs qt)) ≤ 26000)) : WHL G J D f E p k m c b bs qt hO := q
theorem WHL.B {G : pgm} {J : pin} {D : fd} {f : Nat} {E : nv} {p k m : Nat} {c : tr} {b : Nat} {bs qt : tr} {hO : mh_H} (q : WHL G J D f E p k m c b bs qt hO) : BQ G J D f := q.1
theorem WHL.hG {G : pgm} {J : pin} {D : fd} {f : Nat} {E : nv} {p k m : Nat} {c : tr} {b : Nat} {bs qt : tr} {hO : mh_H} (q : WHL G J D f E p k m c b bs qt hO) : G.fx = fxJ J := q.2.1
theorem WHL.hen {G : pgm} {J : pin} {D : fd} {f : Nat} {E : nv} {p k m : Nat} {c : tr} {b : Nat} {bs qt : tr} {hO : mh_H} (q : WHL G J D f E p k m c b bs qt hO) : J.en p = E.en := q.2.2.1
theorem WHL.e1 {G : pgm} {J : pin} {D : fd} {f : Nat} {E : nv} {p k m : Nat} {c : tr} {b : Nat} {bs qt : tr} {hO : mh_H} (q : WHL G J D f E p k m c b bs qt hO) : G.n p = E.nu := q.2.2.2.1
theorem WHL.e2 {G : pgm} {J : pin} {D : fd} {f : Nat} {E : nv} {p k m : Nat} {c : tr} {b : Nat} {bs qt : tr} {hO : mh_H} (q : WHL G J D f E p k m c b bs qt hO) : G.a p = E.ar := q.2.2.2.2.1
theorem WHL.jc {G : pgm} {J : pin} {D : fd} {f : Nat} {E : nv} {p k m : Nat} {c : tr} {b : Nat} {bs qt : tr} {hO : mh_H} (q : WHL G J D f E p k m c b bs qt hO) : J.c p = 7 := q.2.2.2.2.2.1
theorem WHL.jt {G : pgm} {J : pin} {D : fd} {f : Nat} {E : nv} {p k m : Nat} {c : tr} {b : Nat} {bs qt : tr} {hO : mh_H} (q : WHL G J D f E p k m c b bs qt hO) : J.t p = .branch m c (.branch b bs qt) := q.2.2.2.2.2.2.1
theorem WHL.hC {G : pgm} {J : pin} {D : fd} {f : Nat} {E : nv} {p k m : Nat} {c : tr} {b : Nat} {bs qt : tr} {hO : mh_H} (q : WHL G J D f E p k m c b bs qt hO) : eCo E (.branch m c (.branch b bs qt)) := q.2.2.2.2.2.2.2.1
theorem WHL.hsp {G : pgm} {J : pin} {D : fd} {f : Nat} {E : nv} {p k m : Nat} {c : tr} {b : Nat} {bs qt : tr} {hO : mh_H} (q : WHL G J D f E p k m c b bs qt hO) : G.sp p = cn3 (.branch m c (.branch b bs qt)) := q.2.2.2.2.2.2.2.2.1
theorem WHL.hpE {G : pgm} {J : pin} {D : fd} {f : Nat} {E : nv} {p k m : Nat} {c : tr} {b : Nat} {bs qt : tr} {hO : mh_H} (q : WHL G J D f E p k m c b bs qt hO) : p < G.E p := q.2.2.2.2.2.2.2.2.2.1
theorem WHL.hE {G : pgm} {J : pin} {D : fd} {f : Nat} {E : nv} {p k m : Nat} {c : tr} {b : Nat} {bs qt : tr} {hO : mh_H} (q : WHL G J D f E p k m c b bs qt hO) : G.E p ≤ 249 := q.2.2.2.2.2.2.2.2.2.2.1
theorem WHL.L1 {G : pgm} {J : pin} {D : fd} {f : Nat} {E : nv} {p k m : Nat} {c : tr} {b : Nat} {bs qt : tr} {hO : mh_H} (q : WHL G J D f E p k m c b bs qt hO) : LW G J D f bs (p + 1) (G.E p) E := q.2.2.2.2.2.2.2.2.2.2.2.1
theorem WHL.m12 {G : pgm} {J : pin} {D : fd} {f : Nat} {E : nv} {p k m : Nat} {c : tr} {b : Nat} {bs qt : tr} {hO : mh_H} (q : WHL G J D f E p k m c b bs qt hO) : E.nu ≤ 12 ∧ E.ar ≤ 6 := q.2.2.2.2.2.2.2.2.2.2.2.2.1
theorem WHL.N {G : pgm} {J : pin} {D : fd} {f : Nat} {E : nv} {p k m : Nat} {c : tr} {b : Nat} {bs qt : tr} {hO : mh_H} (q : WHL G J D f E p k m c b bs qt hO) : nd (mh_i hO 93) (mh_i hO 95) (mh_i hO 97) (k + 1) (.branch m c (.branch b bs qt)) := q.2.2.2.2.2.2.2.2.2.2.2.2.2.1
theorem WHL.hb {G : pgm} {J : pin} {D : fd} {f : Nat} {E : nv} {p k m : Nat} {c : tr} {b : Nat} {bs qt : tr} {hO : mh_H} (q : WHL G J D f E p k m c b bs qt hO) : k + 1 + ts (.branch m c (.branch b bs qt)) ≤ 26000 := q.2.2.2.2.2.2.2.2.2.2.2.2.2.2
/-- what stands between its steps -/
def LPi (G : pgm) (hO h : mh_H) (s0 sb o hh tt nn bh : Nat) (E : nv) (D : fd) (w0 : wd) : Prop := (RA h sb E D w0) ∧ (lv h s0 o) ∧ (mh_r h 119 s0 = some hh) ∧ (mh_r h 119 (s0 + 1) = some tt) ∧ (mh_r h 119 (s0 + 2) = some nn) ∧ (mh_r h 119 (s0 + 3) = some bh) ∧ (rq s0 (sV o E.T) hO h) ∧ (mh_i h 93 = mh_i hO 93 ∧ mh_i h 95 = mh_i hO 95 ∧ mh_i h 97 = mh_i hO 97) ∧ (∀ q, cnQ G hO q → cnQ G h q) ∧ (mh_i h 115 34 = 0)
theorem LPi.of {G : pgm} {hO h : mh_H} {s0 sb o hh tt nn bh : Nat} {E : nv} {D : fd} {w0 : wd} (q : (RA h sb E D w0) ∧ (lv h s0 o) ∧ (mh_r h 119 s0 = some hh) ∧ (mh_r h 119 (s0 + 1) = some tt) ∧ (mh_r h 119 (s0 + 2) = some nn) ∧ (mh_r h 119 (s0 + 3) = some bh) ∧ (rq s0 (sV o E.T) hO h) ∧ (mh_i h 93 = mh_i hO 93 ∧ mh_i h 95 = mh_i hO 95 ∧ mh_i h 97 = mh_i hO 97) ∧ (∀ q, cnQ G hO q → cnQ G h q) ∧ (mh_i h 115 34 = 0)) : LPi G hO h s0 sb o hh tt nn bh E D w0 := q
theorem LPi.A {G : pgm} {hO h : mh_H} {s0 sb o hh tt nn bh : Nat} {E : nv} {D : fd} {w0 : wd} (q : LPi G hO h s0 sb o hh tt nn bh E D w0) : RA h sb E D w0 := q.1
theorem LPi.l {G : pgm} {hO h : mh_H} {s0 sb o hh tt nn bh : Nat} {E : nv} {D : fd} {w0 : wd} (q : LPi G hO h s0 sb o hh tt nn bh E D w0) : lv h s0 o := q.2.1
theorem LPi.r0 {G : pgm} {hO h : mh_H} {s0 sb o hh tt nn bh : Nat} {E : nv} {D : fd} {w0 : wd} (q : LPi G hO h s0 sb o hh tt nn bh E D w0) : mh_r h 119 s0 = some hh := q.2.2.1
theorem LPi.r1 {G : pgm} {hO h : mh_H} {s0 sb o hh tt nn bh : Nat} {E : nv} {D : fd} {w0 : wd} (q : LPi G hO h s0 sb o hh tt nn bh E D w0) : mh_r h 119 (s0 + 1) = some tt := q.2.2.2.1
theorem LPi.r2 {G : pgm} {hO h : mh_H} {s0 sb o hh tt nn bh : Nat} {E : nv} {D : fd} {w0 : wd} (q : LPi G hO h s0 sb o hh tt nn bh E D w0) : mh_r h 119 (s0 + 2) = some nn := q.2.2.2.2.1
theorem LPi.r3 {G : pgm} {hO h : mh_H} {s0 sb o hh tt nn bh : Nat} {E : nv} {D : fd} {w0 : wd} (q : LPi G hO h s0 sb o hh tt nn bh E D w0) : mh_r h 119 (s0 + 3) = some bh := q.2.2.2.2.2.1
theorem LPi.x {G : pgm} {hO h : mh_H} {s0 sb o hh tt nn bh : Nat} {E : nv} {D : fd} {w0 : wd} (q : LPi G hO h s0 sb o hh tt nn bh E D w0) : rq s0 (sV o E.T) hO h := q.2.2.2.2.2.2.1
theorem LPi.t {G : pgm} {hO h : mh_H} {s0 sb o hh tt nn bh : Nat} {E : nv} {D : fd} {w0 : wd} (q : LPi G hO h s0 sb o hh tt nn bh E D w0) : mh_i h 93 = mh_i hO 93 ∧ mh_i h 95 = mh_i hO 95 ∧ mh_i h 97 = mh_i hO 97 := q.2.2.2.2.2.2.2.1
theorem LPi.c {G : pgm} {hO h : mh_H} {s0 sb o hh tt nn bh : Nat} {E : nv} {D : fd} {w0 : wd} (q : LPi G hO h s0 sb o hh tt nn bh E D w0) : ∀ q, cnQ G hO q → cnQ G h q := q.2.2.2.2.2.2.2.2.1
theorem LPi.z {G : pgm} {hO h : mh_H} {s0 sb o hh tt nn bh : Nat} {E : nv} {D : fd} {w0 : wd} (q : LPi G hO h s0 sb o hh tt nn bh E D w0) : mh_i h 115 34 = 0 := q.2.2.2.2.2.2.2.2.2
/-- the points behind p have their slots -/
def cNq (G : pgm) (h : mh_H) (p : Nat) (w0 : wd) : Prop := (wW w0 ≤ 4000 → ∀ q, p + 1 ≤ q → q < G.E p → cnQ G h q ∧ cnQ G h (q + 1000)) ∧ cnQ G h (p + 1000)
theorem cNq_t {G : pgm} {h h1 : mh_H} {p : Nat} {w0 : wd} (c : ∀ q, cnQ G h q → cnQ G h1 q) (n : cNq G h p w0) : cNq G h1 p w0 := ⟨fun w q q1 q2 => ⟨c q (n.1 w q q1 q2).1, c _ (n.1 w q q1 q2).2⟩, c _ n.2⟩
section LIs
variable {d : Nat} {hO h h1 h2 : mh_H} {s0 sb o hh tt nn bh p k f i x y m b : Nat} {E : nv} {D : fd} {w0 w1 : wd} {S H X : Option ab} {G : pgm} {J : pin} {c bs q : tr}
theorem li_ne (I : LPi G hO h s0 sb o hh tt nn bh E D w0) {j : Nat} (ei : mh_r h 119 i = some x) (ej : mh_r h 119 j = some y) (ne : i ≠ j) : x ≠ y := fun z => ne (I.A.j.i i j x ei (by rw [z]; exact ej))
theorem li_lo (I : LPi G hO h s0 sb o hh tt nn bh E D w0) (ei : mh_r h 119 i = some x) (hi : s0 ≤ i) : o ≠ x := lv_ne I.A.j I.l hi ei
theorem li_k (I : LPi G hO h s0 sb o hh tt nn bh E D w0) (hi : s0 ≤ i) (e : mh_r h 119 i = some x) (f : fq (kW x) h h1) (k : ko h1 x) : LPi G hO h1 s0 sb o hh tt nn bh E D w0 ∧ (∀ q, cnQ G h q → cnQ G h1 q) ∧ mh_r h1 = mh_r h := by
  have sx : sp h x := ⟨i, e⟩
  have J0 := I.A.j
  have er : mh_r h1 = mh_r h := f.2.2.1
  obtain ⟨t1, t2, t3⟩ := rs_tr J0 (vK_1 sx) (rs_k f)
  obtain ⟨u1, u2, u3⟩ := I.t
  refine ⟨LPi.of ⟨ra_k I.A sx f k, ?_, by rw [er]; exact I.r0, by rw [er]; exact I.r1, by rw [er]; exact I.r2, by rw [er]; exact I.r3, rq_t I.x (sV_v (rq_rs (s0 := s0) J0 (vK_1 sx) (rs_k f)) (Nat.le_refl _) (fun b j w => Or.inr ⟨i, x, hi, e, w⟩)), ⟨t1.trans u1, t2.trans u2, t3.trans u3⟩, fun q w => cn_k I.A sx f (I.c q w), (rs_ij J0 sx f 34).trans I.z⟩, fun q w => cn_k I.A sx f w, er⟩
  obtain ⟨a, a1, a2⟩ := I.l
  exact ⟨a, a1, by rw [er]; exact a2⟩
theorem li_o (I : LPi G hO h s0 sb o hh tt nn bh E D w0) (e : mh_r h 119 i = some x) (f : fq (kW x) h h1) (sy : sp h y) (ne : y ≠ x) (c : RK h y X) : RK h1 y X := ra_o I.A ⟨i, e⟩ sy ne f c
theorem li_oi (I : LPi G hO h s0 sb o hh tt nn bh E D w0) (e : mh_r h 119 i = some x) (f : fq (kW x) h h1) (sy : sp h y) (ne : y ≠ x) (j : Nat) : mh_i h1 y j = mh_i h y j := ra_oi I.A ⟨i, e⟩ sy ne f j
/-- a round, from a head x to an n y -/
theorem li_r (W : WHL G J D f E p k m c b bs q hO) (I : LPi G hO h s0 sb o hh tt nn bh E D w0) (hsb : s0 + 4 ≤ sb) (hw : wW w0 ≤ 4000) {i2 : Nat} (e1 : mh_r h 119 i = some x) (hi : s0 ≤ i ∧ i < sb) (e2 : mh_r h 119 i2 = some y) (hi2 : s0 ≤ i2 ∧ i2 < sb) (ni : i ≠ i2) (nb1 : i ≠ s0 + 3) (nb2 : i2 ≠ s0 + 3) (kt : RK h o S) (kh : RK h x H) (sS' : shp E.nu E.ar E.rm S) (sH : shp E.nu E.ar E.rm H) (aH : mh_i h x 2 = Int32.ofNat E.ar) (hs : sb + (rnd G (DB G f) p S H w0).2.2.2 + 1 ≤ 2048) (hd : 4 * (G.E p - p) + 826 ≤ d) : ∃ h', LPi G hO h' s0 sb o hh tt nn bh E D (rnd G (DB G f) p S H w0).2.2.1 ∧ RK h' y (rnd G (DB G f) p S H w0).1 ∧ RK h' bh (rnd G (DB G f) p S H w0).2.1 ∧ mh_i h' bh 2 = Int32.ofNat E.ar ∧ (∀ z X, lv h sb z → z ≠ y → z ≠ bh → RK h z X → RK h' z X) ∧ (∀ z j, lv h sb z → z ≠ y → z ≠ bh → mh_i h' z j = mh_i h z j) ∧ (∀ i a, mh_r h 119 i = some a → mh_r h' 119 i = some a) ∧ cNq G h' p (rnd G (DB G f) p S H w0).2.2.1 ∧ shp E.nu E.ar E.rm (rnd G (DB G f) p S H w0).2.1 ∧ shp E.nu E.ar E.rm (rnd G (DB G f) p S H w0).1 ∧ ∀ Q, mcall (d + 1) 267 [.ref 115, .int (Int32.ofNat k), .int (Int32.ofNat p), .ref o, .ref x, .ref y, .ref bh] h Q = Q none h' := by
  obtain ⟨u1, u2, u3⟩ := I.t
  have lx : lv h sb x := ⟨i, hi.2, e1⟩
  have ly : lv h sb y := ⟨i2, hi2.2, e2⟩
  have lb : lv h sb bh := ⟨s0 + 3, by omega, I.r3⟩
  have lo : lv h sb o := lv_w I.l (by omega)
  obtain ⟨h1, x1, A1, k1, k2, a2, sh1, sh2, ⟨t1, t2, t3⟩, c1, n1, kp, run⟩ := u_267 (d := d) (k := k) I.z W.B W.hG W.hen W.e1 W.e2 W.jc W.jt W.hC W.hsp W.hpE W.hE W.L1 hw I.A W.m12 lo lx ly lb (li_lo I e2 hi2.1) (li_lo I I.r3 (by omega)) (li_ne I e1 e2 ni) (li_ne I e1 I.r3 nb1) (li_ne I e2 I.r3 nb2) kt kh sS' sH aH (by rw [u1, u2, u3]; exact W.N) W.hb hs hd
  refine ⟨h1, LPi.of ⟨A1, rq_lv x1 I.l, x1.k _ _ I.r0, x1.k _ _ I.r1, x1.k _ _ I.r2, x1.k _ _ I.r3, rq_t I.x (sWn_o x1 (by omega) hi2.1 e2 (by omega) I.r3), ⟨t1.trans u1, t2.trans u2, t3.trans u3⟩, fun q w => c1 q (I.c q w), (sWn_z I.A x1 ly lb).trans I.z⟩, k1, k2, a2, fun z X lz n1 n2 kz => sWn_K I.A x1 ly lb lz n1 n2 kz, fun z j lz n1 n2 => sWn_ki I.A x1 ly lb lz n1 n2 j, x1.k, ⟨n1, kp⟩, sh2, sh1, run⟩
end LIs
section CMs
variable {G : pgm} {rc : rc3} {p : Nat} {S : Option ab}
theorem clm_mx : ∀ g h told n be (w0 : wd) mx r, mx ≤ (clm G rc p S g h told n be w0 mx r).2.2.2.2 := by
  intro g
  induction g with
  | zero => exact fun h told n be w0 mx r => Nat.le_refl _
  | succ g ih =>
    intro h told n be w0 mx r
    rw [clm_1]
    split
    · exact Nat.le_refl _
    · exact Nat.le_trans (Nat.le_max_left _ _) (ih _ _ _ _ _ _ _)
theorem trs_mx : ∀ g h n be (w0 : wd) mx, mx ≤ (trs G rc p S g h n be w0 mx).2.2.2 := by
  intro g
  induction g with
  | zero => exact fun h n be w0 mx => Nat.le_refl _
  | succ g ih =>
    intro h n be w0 mx
    rw [trs_1]
    split
    · exact Nat.le_refl _
    · split
      · exact Nat.le_trans (Nat.le_max_left _ _) (ih _ _ _ _ _)
      · exact Nat.le_max_left _ _
theorem finD_mx {t : Option ab × Option ab × wd × Nat} : t.2.2.2 ≤ (finD G rc p S t).2.2 := by
  unfold finD
  split
  · exact Nat.le_refl _
  · exact Nat.le_max_left _ _
end CMs
