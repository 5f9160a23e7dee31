set_option maxRecDepth 100000
/-! THE REFERENCE'S STATEMENTS: names, functions, where points lie -/
/-- names known here: how many, which, their slots, slots of numbers, of arrays, rooms, the function, where a return's value goes -/
abbrev nv : Type := Nat × (Int → Prop) × (Int → Nat) × Nat × Nat × (Nat → Nat) × Nat × Option Nat
def nv.T (E : nv) : Nat := E.1
def nv.sN (E : nv) : Int → Prop := E.2.1
def nv.en (E : nv) : Int → Nat := E.2.2.1
def nv.nu (E : nv) : Nat := E.2.2.2.1
def nv.ar (E : nv) : Nat := E.2.2.2.2.1
def nv.rm (E : nv) : Nat → Nat := E.2.2.2.2.2.1
def nv.fu (E : nv) : Nat := E.2.2.2.2.2.2.1
def nv.ta (E : nv) : Option Nat := E.2.2.2.2.2.2.2
def nv.addN (E : nv) (v : Int) : nv := (E.T + 1, fun y => y = v ∨ E.sN y, fun y => if y = v then E.nu else E.en y, E.nu + 1, E.ar, E.rm, E.fu, E.ta)
def nv.addA (E : nv) (v : Int) (z : Nat) : nv := (E.T + 1, fun y => y = v ∨ E.sN y, fun y => if y = v then E.ar else E.en y, E.nu, E.ar + 1, fun x => if x = E.ar then z else E.rm x, E.fu, E.ta)
def nv.addL (E : nv) : List Int → nv
  | [] => E
  | v :: l => nv.addL (E.addN v) l
def nv.go (E : nv) (g : Nat) (tk : Option Nat) : nv := (E.T, E.sN, E.en, E.nu, E.ar, E.rm, g, tk)
/-- functions: how many, their nodes, names, parameters, statements -/
abbrev fd : Type := Nat × (Nat → Nat) × (Nat → Int) × (Nat → List Int) × (Nat → tr)
def fd.c (D : fd) : Nat := D.1
def fd.n (D : fd) : Nat → Nat := D.2.1
def fd.m (D : fd) : Nat → Int := D.2.2.1
def fd.p (D : fd) : Nat → List Int := D.2.2.2.1
def fd.t (D : fd) : Nat → tr := D.2.2.2.2
def fd.b (D : fd) (g : Nat) : Nat := D.n g + 2 + (D.p g).length
/-- a SUM, a COND, a row of SUMs in order here -/
def eSm (E : nv) (t : tr) : Prop := (∀ A : ab, A.n = E.nu → A.a = E.ar → (∀ x, x < E.ar → A.rm x = E.rm x) → wS E.sN E.en A t false) ∧ pz t false ∧ pn t false ≤ 6000 ∧ th t ≤ 300
def eCo (E : nv) (t : tr) : Prop := (∀ A : ab, A.n = E.nu → A.a = E.ar → (∀ x, x < E.ar → A.rm x = E.rm x) → wC E.sN E.en A t false) ∧ th t ≤ 300
def eRo (E : nv) : tr → Prop
  | .leaf _ => True
  | .branch m c r => eSm E (.branch m c r) ∧ eRo E r
/-- a statement lies at p -/
def LN (G : pgm) (J : pin) (D : fd) (rec : tr → Nat → Nat → nv → Prop) (n : Nat) (cs : tr) (p : Nat) (E : nv) : Prop :=
  (tK n = 3 ∧ ∃ m u t, cs = .branch m (.leaf u) t ∧ G.kd p = 1 ∧ G.E p = p + 1 ∧ E.nu < 12 ∧ E.T < 64 ∧ G.sp p = 1 ∧ (((∃ u', t = .leaf u') ∧ J.c p = 2) ∨ (J.c p = 1 ∧ J.t p = t ∧ eSm E t))) ∨
  (tK n = 4 ∧ ∃ m u q u' r', cs = .branch m (.leaf u) (.branch q (.leaf u') r') ∧ G.kd p = 1 ∧ G.E p = p + 1 ∧ E.ar < 6 ∧ E.T < 64 ∧ G.sp p = 1 ∧ J.c p = 3 ∧ 1 ≤ tV q ∧ tV q ≤ 64 ∧ J.sz p = (tV q).toNat) ∨
  (tK n = 5 ∧ ∃ m u t, cs = .branch m (.leaf u) t ∧ G.kd p = 2 ∧ G.E p = p + 1 ∧ G.sp p = 1 ∧ J.c p = 4 ∧ E.sN (tV m) ∧ E.en (tV m) < E.nu ∧ J.x p = E.en (tV m) ∧ J.t p = t ∧ eSm E t) ∨
  (tK n = 6 ∧ ∃ m u t, cs = .branch m (.leaf u) t ∧ G.kd p = 3 ∧ G.E p = p + 1 ∧ G.sp p = 1 ∧ J.c p = 5 ∧ E.sN (tV m) ∧ E.en (tV m) < E.ar ∧ 1 ≤ E.rm (E.en (tV m)) ∧ E.rm (E.en (tV m)) ≤ 64 ∧ J.x p = E.en (tV m) ∧ J.t p = t ∧ eSm E t ∧ eSm E (tT t)) ∨
  (tK n = 7 ∧ ∃ m u m2 u2 t g tk, cs = .branch m (.leaf u) (.branch m2 (.leaf u2) t) ∧ G.kd p = 4 ∧ J.c p = 6 ∧ J.t p = t ∧ eRo E t ∧ g < E.fu ∧ D.m g = tV m2 ∧ (∀ g', g < g' → g' < E.fu → D.m g' ≠ tV m2) ∧ tl t = (D.p g).length ∧ E.nu + tl t ≤ 12 ∧ E.T + tl t ≤ 64 ∧ ((tK m = 13 ∧ E.sN (tV m) ∧ E.en (tV m) < E.nu ∧ tk = some (E.en (tV m))) ∨ (¬ tK m = 13 ∧ tk = none)) ∧ rec (D.t g) (p + 1) (G.E p) ((E.go g tk).addL (D.p g))) ∨
  (tK n = 8 ∧ ∃ m c b bs q, cs = .branch m c (.branch b bs q) ∧ G.kd p = 5 ∧ J.c p = 7 ∧ J.t p = cs ∧ eCo E cs ∧ G.sp p = cn3 cs ∧ p < G.M p ∧ G.M p ≤ G.E p ∧ rec bs (p + 1) (G.M p) E ∧ (((∃ u, q = .leaf u) ∧ G.M p = G.E p) ∨ ∃ b2 bs2 u, q = .branch b2 bs2 (.leaf u) ∧ rec bs2 (G.M p) (G.E p) E)) ∨
  (tK n = 9 ∧ ∃ m c b bs u, cs = .branch m c (.branch b bs (.leaf u)) ∧ G.kd p = 6 ∧ J.c p = 7 ∧ J.t p = cs ∧ eCo E cs ∧ G.sp p = cn3 cs ∧ rec bs (p + 1) (G.E p) E) ∨
  (tK n = 10 ∧ G.kd p = 7 ∧ G.E p = p + 1 ∧ J.c p = 8 ∧ J.t p = cs ∧ eCo E cs ∧ G.sp p = 2 + cn3 cs) ∨
  (tK n = 11 ∧ G.kd p = 8 ∧ G.E p = p + 1 ∧ J.c p = 9 ∧ J.t p = cs ∧ eSm E cs ∧ J.tk p = E.ta ∧ (∀ y, E.ta = some y → y < E.nu) ∧ G.sp p = 1)
/-- names known behind it -/
def nx (n : Nat) (cs : tr) (E : nv) : nv := if tK n = 3 then (match cs with
    | .branch m _ _ => E.addN (tV m)
    | .leaf _ => E) else if tK n = 4 then (match cs with
    | .branch m _ (.branch q _ _) => E.addA (tV m) (tV q).toNat
    | _ => E) else E
/-- a row of statements lies from p to e -/
def LW (G : pgm) (J : pin) (D : fd) : Nat → tr → Nat → Nat → nv → Prop
  | 0, .leaf _, p, e, _ => p = e
  | 0, .branch _ _ _, _, _, _ => False
  | _ + 1, .leaf _, p, e, _ => p = e
  | f + 1, .branch n cs r, p, e, E => p < e ∧ e ≤ 249 ∧ G.n p = E.nu ∧ G.a p = E.ar ∧ J.en p = E.en ∧ (J.sN p = E.sN ∧ ∀ x, x < E.ar → E.rm x = G.rm p x) ∧ p < G.E p ∧ G.E p ≤ e ∧ E.fu ≤ D.c ∧ LN G J D (LW G J D f) n cs p E ∧ LW G J D f r (G.E p) e (nx n cs E)
/-- the functions in the rows -/
def FX (K V S : Nat → Int32) (D : fd) : Prop := ∀ g, g < D.c → D.b g + 1 + ts (D.t g) ≤ 26000 ∧ (V (D.n g + 1)).toInt = D.m g ∧ (∀ i v, (D.p g)[i]? = some v → K (D.n g + 2 + i) = 13 ∧ (V (D.n g + 2 + i)).toInt = v) ∧ K (D.b g) = 2 ∧ S (D.b g) = Int32.ofNat (1 + ts (D.t g)) ∧ nd K V S (D.b g + 1) (D.t g)
/-- the table of functions -/
def FT (h : mh_H) (D : fd) : Prop := ∃ c, mh_r h 115 12 = some c ∧ mg h c 100 ∧ D.c ≤ mh_l h c ∧ mh_l h c ≤ 100000 ∧ (c = 120 ∨ 2644 ≤ c) ∧ (∀ i a, mh_r h 119 i = some a → ¬ kc a c) ∧ ¬ paR h c ∧ ∀ f, f < D.c → mh_i h c f = Int32.ofNat (D.n f)
section FTs
variable {d : Nat} {h h1 : mh_H} {T : Nat} {sN : Int → Prop} {en : Int → Nat} {D : fd} {G : pgm} {J : pin}
/-- called -/
theorem u_255 (A : RJ h T sN en) (F : FT h D) (X : FX (mh_i h 93) (mh_i h 95) (mh_i h 97) D) {fu k g : Nat} {w : Int} (hf : mh_i h 115 14 = Int32.ofNat fu) (hfu : fu ≤ D.c) (hk : k + 2 < 26000) (hv : (mh_i h 95 (k + 2)).toInt = w) (hg : g < fu) (hm : D.m g = w) (hn : ∀ g', g < g' → g' < fu → D.m g' ≠ w) : ∀ Q, mcall d 255 [.ref 115, .int (Int32.ofNat k)] h Q = Q (some (.int (Int32.ofNat g))) h := by
  intro Q
  obtain ⟨c, c1, c2, c3, c4, -, -, -, c5⟩ := F
  have g0 := A.a.g
  have r1 := A.a.r1
  have gV := A.a.F.g 95 100 26000 (by decide +kernel)
  have lV := A.a.F.l 95 100 26000 (by decide +kernel)
  have es : ∀ j, 1 ≤ j → Int32.ofNat j - 1 = Int32.ofNat (j - 1) := fun j hj => nn_sub (a := j) (b := 1) hj
  have ep : ∀ j, 1 ≤ j → Int32.ofNat j + -1 = Int32.ofNat (j - 1) := fun j hj => by rw [← es j hj, Int32.sub_eq_add_neg]
  have e1' : ∀ k, Int32.ofNat k + 1 = Int32.ofNat (k + 1) := fun k => nn_add (a := k) (b := 1)
  have e2' : ∀ k, Int32.ofNat k + 2 = Int32.ofNat (k + 2) := fun k => nn_add (a := k) (b := 2)
  have xb : ∀ f, f < D.c → D.n f + 1 < 26000 := fun f hf => by have := (X f hf).1; unfold fd.b at this; omega
  have xv : ∀ f, f < D.c → (mh_i h 95 (D.n f + 1)).toInt = D.m f := fun f hf => (X f hf).2.1
  have L := mw_loop (d := d) (y := 255) (pc := 7) (Q := Q) (st := []) (fun q => [some (.ref 115), some (.int (Int32.ofNat k)), some (.int (Int32.ofNat (fu - 1 - q)))]) (fun _ => h) (a := 0) (b := fu - 1 - g) (Nat.zero_le _) (fun q _ hq => by
    have hfq : fu - 1 - q < D.c := by omega
    have b1 := xb _ hfq
    have ne2 : ¬ mh_i h 95 (D.n (fu - 1 - q) + 1) = mh_i h 95 (k + 2) := fun z => hn (fu - 1 - q) (by omega) (by omega) (by rw [← xv _ hfq, z]; exact hv)
    have c5' := c5 _ hfq
    have e1 : fu - 1 - q - 1 = fu - 1 - (q + 1) := by omega
    rw [s_255_7]
    simp (disch := omega) only [s_255_0, s_255_1, s_255_4, s_255_5, s_255_6, s_255_8, s_255_11, s_255_12, s_255_15, s_255_16, s_255_17, s_255_18, s_255_19, s_255_20, s_255_21, s_255_24, s_255_25, s_255_26, s_255_27, s_255_28, s_255_31, s_255_34, s_255_37, s_255_38, e_255, mv_i_1, mv_l_1, mv_a_1, mv_a_2, mv_a_3, mk2_n, mk2_i, mk2_l, mk2_a, mk2_u, mk2_x, mB_T, mB_F, mS_cons, mS_nil, mSB_T, mSB_F, mca_nil, mca_i, mca_l, mca_r, mca_u, mca_x, mcat_i, mcat_l, mcat_r, mcat_u, mcat_x, mK_some, mK_none, va_rf_s, va_rf_n, lgc_eq, lgc_lt, lgc_gt, lgc_ge, lgc_le, mrd_104, mrd_105, mrd_106, mrd_107, true_and, and_true, and_self, false_and, and_false, true_or, or_true, false_or, or_false, not_true_eq_false, not_false_eq_true, mgb, mga, mgr, mN, reduceCtorEq, ↓reduceIte, eq_self, ge_iff_le, gt_iff_lt, Nat.reduceAdd, Nat.reduceMul, Nat.reduceSub, Nat.reduceLT, Nat.reduceGT, Nat.reduceEqDiff, Nat.reduceLeDiff, Nat.left_eq_add, Nat.add_eq_left, Nat.reduceMod, Nat.reduceDiv, Nat.succ_ne_self, g0, r1, c1, gV, lV, c2, c5', e1', e2', nn_mxT, nn_clamp, ne2, ep, e1])
  have e0 : fu - 1 - 0 = fu - 1 := by omega
  have e9 : fu - 1 - (fu - 1 - g) = g := by omega
  rw [e0, e9] at L
  have hgc : g < D.c := by omega
  have eq : mh_i h 95 (D.n g + 1) = mh_i h 95 (k + 2) := Int32.toInt_inj.mp (by rw [xv g hgc, hv, hm])
  have b1 := xb _ hgc
  have c5' := c5 _ hgc
  have E0 : mcall d 255 [.ref 115, .int (Int32.ofNat k)] h Q = mw d 255 Q 7 [some (.ref 115), some (.int (Int32.ofNat k)), some (.int (Int32.ofNat (fu - 1)))] [] h := by
    simp (disch := omega) only [s_255_0, s_255_1, s_255_4, s_255_5, s_255_6, s_255_8, s_255_11, s_255_12, s_255_15, s_255_16, s_255_17, s_255_18, s_255_19, s_255_20, s_255_21, s_255_24, s_255_25, s_255_26, s_255_27, s_255_28, s_255_31, s_255_34, s_255_37, s_255_38, e_255, mv_i_1, mv_l_1, mv_a_1, mv_a_2, mv_a_3, mk2_n, mk2_i, mk2_l, mk2_a, mk2_u, mk2_x, mB_T, mB_F, mS_cons, mS_nil, mSB_T, mSB_F, mca_nil, mca_i, mca_l, mca_r, mca_u, mca_x, mcat_i, mcat_l, mcat_r, mcat_u, mcat_x, mK_some, mK_none, va_rf_s, va_rf_n, lgc_eq, lgc_lt, lgc_gt, lgc_ge, lgc_le, mrd_104, mrd_105, mrd_106, mrd_107, true_and, and_true, and_self, false_and, and_false, true_or, or_true, false_or, or_false, not_true_eq_false, not_false_eq_true, mgb, mga, mgr, mN, reduceCtorEq, ↓reduceIte, eq_self, ge_iff_le, gt_iff_lt, Nat.reduceAdd, Nat.reduceMul, Nat.reduceSub, Nat.reduceLT, Nat.reduceGT, Nat.reduceEqDiff, Nat.reduceLeDiff, Nat.left_eq_add, Nat.add_eq_left, Nat.reduceMod, Nat.reduceDiv, Nat.succ_ne_self, g0, hf, es]
  refine E0.trans (L.trans ?_)
  rw [s_255_7]
  simp (disch := omega) only [s_255_0, s_255_1, s_255_4, s_255_5, s_255_6, s_255_8, s_255_11, s_255_12, s_255_15, s_255_16, s_255_17, s_255_18, s_255_19, s_255_20, s_255_21, s_255_24, s_255_25, s_255_26, s_255_27, s_255_28, s_255_31, s_255_34, s_255_37, s_255_38, e_255, mv_i_1, mv_l_1, mv_a_1, mv_a_2, mv_a_3, mk2_n, mk2_i, mk2_l, mk2_a, mk2_u, mk2_x, mB_T, mB_F, mS_cons, mS_nil, mSB_T, mSB_F, mca_nil, mca_i, mca_l, mca_r, mca_u, mca_x, mcat_i, mcat_l, mcat_r, mcat_u, mcat_x, mK_some, mK_none, va_rf_s, va_rf_n, lgc_eq, lgc_lt, lgc_gt, lgc_ge, lgc_le, mrd_104, mrd_105, mrd_106, mrd_107, true_and, and_true, and_self, false_and, and_false, true_or, or_true, false_or, or_false, not_true_eq_false, not_false_eq_true, mgb, mga, mgr, mN, reduceCtorEq, ↓reduceIte, eq_self, ge_iff_le, gt_iff_lt, Nat.reduceAdd, Nat.reduceMul, Nat.reduceSub, Nat.reduceLT, Nat.reduceGT, Nat.reduceEqDiff, Nat.reduceLeDiff, Nat.left_eq_add, Nat.add_eq_left, Nat.reduceMod, Nat.reduceDiv, Nat.succ_ne_self, g0, r1, c1, gV, lV, c2, c5', e1', e2', nn_mxT, nn_clamp, eq]
/-- blockOf -/
theorem u_256 (A : RJ h T sN en) (F : FT h D) (X : FX (mh_i h 93) (mh_i h 95) (mh_i h 97) D) {g : Nat} (hg : g < D.c) : ∀ Q, mcall d 256 [.ref 115, .int (Int32.ofNat g)] h Q = Q (some (.int (Int32.ofNat (D.b g)))) h := by
  intro Q
  obtain ⟨c, c1, c2, c3, c4, -, -, -, c5⟩ := F
  have g0 := A.a.g
  have r0 := A.a.r0
  have gV := A.a.F.g 93 102 26000 (by decide +kernel)
  have gV1 := gV.1
  have gV2 := gV.2
  have lV := A.a.F.l 93 102 26000 (by decide +kernel)
  have e1' : ∀ k, Int32.ofNat k + 1 = Int32.ofNat (k + 1) := fun k => nn_add (a := k) (b := 1)
  have e2' : ∀ k, Int32.ofNat k + 2 = Int32.ofNat (k + 2) := fun k => nn_add (a := k) (b := 2)
  obtain ⟨x1, -, x3, x4, -, -⟩ := X g hg
  have hb : D.b g = D.n g + 2 + (D.p g).length := rfl
  have c5' := c5 g hg
  have L := mw_loop (d := d) (y := 256) (pc := 9) (Q := Q) (st := []) (fun q => [some (.ref 115), some (.int (Int32.ofNat g)), some (.int (Int32.ofNat (D.n g + 2 + q)))]) (fun _ => h) (a := 0) (b := (D.p g).length) (Nat.zero_le _) (fun q _ hq => by
    obtain ⟨k1, -⟩ := x3 q _ (List.getElem?_eq_getElem hq)
    have e1 : D.n g + 2 + q + 1 = D.n g + 2 + (q + 1) := by omega
    rw [s_256_9]
    simp (disch := omega) only [s_256_0, s_256_1, s_256_4, s_256_5, s_256_6, s_256_7, s_256_8, s_256_10, s_256_13, s_256_14, s_256_15, s_256_17, s_256_20, s_256_23, s_256_26, s_256_27, e_256, mv_i_1, mv_l_1, mv_a_1, mv_a_2, mv_a_3, mk2_n, mk2_i, mk2_l, mk2_a, mk2_u, mk2_x, mB_T, mB_F, mS_cons, mS_nil, mSB_T, mSB_F, mca_nil, mca_i, mca_l, mca_r, mca_u, mca_x, mcat_i, mcat_l, mcat_r, mcat_u, mcat_x, mK_some, mK_none, va_rf_s, va_rf_n, lgc_eq, lgc_lt, lgc_gt, lgc_ge, lgc_le, mrd_104, mrd_105, mrd_106, mrd_107, true_and, and_true, and_self, false_and, and_false, true_or, or_true, false_or, or_false, not_true_eq_false, not_false_eq_true, mgb, mga, mgr, mN, reduceCtorEq, ↓reduceIte, eq_self, ge_iff_le, gt_iff_lt, Nat.reduceAdd, Nat.reduceMul, Nat.reduceSub, Nat.reduceLT, Nat.reduceGT, Nat.reduceEqDiff, Nat.reduceLeDiff, Nat.left_eq_add, Nat.add_eq_left, Nat.reduceMod, Nat.reduceDiv, Nat.succ_ne_self, g0, r0, gV1, gV2, lV, k1, nn_mxT, nn_clamp, e1', e1])
  have e0 : D.n g + 2 + 0 = D.n g + 2 := rfl
  rw [e0, ← hb] at L
  have n13 : ((2 : Int32) = 13) = False := by decide
  have E0 : mcall d 256 [.ref 115, .int (Int32.ofNat g)] h Q = mw d 256 Q 9 [some (.ref 115), some (.int (Int32.ofNat g)), some (.int (Int32.ofNat (D.n g + 2)))] [] h := by
    simp (disch := omega) only [s_256_0, s_256_1, s_256_4, s_256_5, s_256_6, s_256_7, s_256_8, s_256_10, s_256_13, s_256_14, s_256_15, s_256_17, s_256_20, s_256_23, s_256_26, s_256_27, e_256, mv_i_1, mv_l_1, mv_a_1, mv_a_2, mv_a_3, mk2_n, mk2_i, mk2_l, mk2_a, mk2_u, mk2_x, mB_T, mB_F, mS_cons, mS_nil, mSB_T, mSB_F, mca_nil, mca_i, mca_l, mca_r, mca_u, mca_x, mcat_i, mcat_l, mcat_r, mcat_u, mcat_x, mK_some, mK_none, va_rf_s, va_rf_n, lgc_eq, lgc_lt, lgc_gt, lgc_ge, lgc_le, mrd_104, mrd_105, mrd_106, mrd_107, true_and, and_true, and_self, false_and, and_false, true_or, or_true, false_or, or_false, not_true_eq_false, not_false_eq_true, mgb, mga, mgr, mN, reduceCtorEq, ↓reduceIte, eq_self, ge_iff_le, gt_iff_lt, Nat.reduceAdd, Nat.reduceMul, Nat.reduceSub, Nat.reduceLT, Nat.reduceGT, Nat.reduceEqDiff, Nat.reduceLeDiff, Nat.left_eq_add, Nat.add_eq_left, Nat.reduceMod, Nat.reduceDiv, Nat.succ_ne_self, g0, c1, c2, c5', e2', nn_mxT, nn_clamp]
  refine E0.trans (L.trans ?_)
  rw [s_256_9]
  simp (disch := omega) only [s_256_0, s_256_1, s_256_4, s_256_5, s_256_6, s_256_7, s_256_8, s_256_10, s_256_13, s_256_14, s_256_15, s_256_17, s_256_20, s_256_23, s_256_26, s_256_27, e_256, mv_i_1, mv_l_1, mv_a_1, mv_a_2, mv_a_3, mk2_n, mk2_i, mk2_l, mk2_a, mk2_u, mk2_x, mB_T, mB_F, mS_cons, mS_nil, mSB_T, mSB_F, mca_nil, mca_i, mca_l, mca_r, mca_u, mca_x, mcat_i, mcat_l, mcat_r, mcat_u, mcat_x, mK_some, mK_none, va_rf_s, va_rf_n, lgc_eq, lgc_lt, lgc_gt, lgc_ge, lgc_le, mrd_104, mrd_105, mrd_106, mrd_107, true_and, and_true, and_self, false_and, and_false, true_or, or_true, false_or, or_false, not_true_eq_false, not_false_eq_true, mgb, mga, mgr, mN, reduceCtorEq, ↓reduceIte, eq_self, ge_iff_le, gt_iff_lt, Nat.reduceAdd, Nat.reduceMul, Nat.reduceSub, Nat.reduceLT, Nat.reduceGT, Nat.reduceEqDiff, Nat.reduceLeDiff, Nat.left_eq_add, Nat.add_eq_left, Nat.reduceMod, Nat.reduceDiv, Nat.succ_ne_self, g0, r0, gV1, gV2, lV, x4, n13, nn_mxT, nn_clamp]
end FTs
