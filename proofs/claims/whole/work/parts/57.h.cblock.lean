set_option maxRecDepth 100000
/-! the class lays a call, a while, an if -/
section CSl
variable {d : Nat} {h h1 h2 : mh_H} {B n m mn : Nat} {D : lyD} {K : Nat → Int32} {Sc Sf : cps} {k k' p p' s s1 se b nn N N' f r : Nat} {cs t : tr} {X X' : lcx} {L L' : cen} {rl fb : Bool} {cl : Option Nat} {x1 x2 : Option Value} {q : lyq}
/-- points stay when a statement before them is shut -/
theorem CPz_s {Pt : Nat → lpt} {lo hi : Nat} (F : CF h) (x : fLy h h1) (er : mh_r h1 = mh_r h) (e : ∀ y j, ¬ (25 ≤ y ∧ y ≤ 26 ∧ j = p) → y ≠ 2 → y ≠ 32 → mh_i h1 y j = mh_i h y j) (hp : p < lo) (w : CPz h B D Pt lo hi) : CPz h1 B D Pt lo hi := fun r r1 r2 => by
  obtain ⟨w1, w2, w3⟩ := w r r1 r2
  have kk : kpD hi 0 h h1 := ⟨fun r _ => by rw [er], fun y r u1 u2 _ => e y r (by omega) (by omega) (by omega), fun j _ => e 30 j (by omega) (by decide) (by decide), fun y j u1 u2 u3 => absurd u3 (Nat.not_lt_zero _)⟩
  exact ⟨CPo_k F x kk r2 w1, (e 26 r (by omega) (by decide) (by decide)).trans w2, fun z => (e 25 r (by omega) (by decide) (by decide)).trans (w3 z)⟩
/-- the end of a statement with BLOCKs -/
theorem sh_b {h4 : mh_H} {ix kd e1 : Nat} (C : CLC h4 B n m D Sf) (hs : s < Sf.1 8) (e0 : Sf.2 (24 + s) 0 = Int32.ofNat kd) (e1' : Sf.2 (24 + s) 1 = Int32.ofNat ix) (hkd : kd < 100) (k16 : mh_i h4 2 16 = Int32.ofNat (k + 1)) (hk : k + 1 ≤ 250) (hp : p < 250) (e31 : mh_i h4 31 k = Int32.ofNat p) (r20 : mh_r h4 20 p = some (B + (24 + s))) (e32 : kd = 5 → mh_i h4 32 k = 1) (ec : mh_i h4 2 2 = Int32.ofNat e1) {nx : Int32} : ∃ h5, fLy h4 h5 ∧ mh_r h5 = mh_r h4 ∧ (∀ y j, ¬ (y = 26 ∧ j = p) → ¬ (y = 2 ∧ (j = 16 ∨ j = 17)) → mh_i h5 y j = mh_i h4 y j) ∧ mh_i h5 26 p = Int32.ofNat e1 ∧ mh_i h5 2 16 = Int32.ofNat k ∧ mh_i h5 2 17 = (if kd = 4 then mh_i h4 23 p else mh_i h4 2 17) ∧ ∀ Q, mcall (d + 2) 88 [.ref 2, .int nx] h4 Q = Q (some (.int (if kd = 4 then Int32.ofNat (ix + 1) else nx))) h5 := by
  obtain ⟨q1, gS, q3⟩ := C.q s hs
  have a0 := c_88b (d := d + 2) (k := k + 1) (o := p) (nx := nx) C.F k16 (by omega) hk hp e31 r20 gS ((q3 0).trans e0) hkd ((q3 1).trans e1') e32 ec
  rw [show k + 1 - 1 = k from rfl] at a0
  by_cases c : kd = 4
  · refine ⟨mh_si (mh_si (mh_si h4 26 p (Int32.ofNat e1)) 2 16 (Int32.ofNat k)) 2 17 (mh_i h4 23 p), fLy_t (fLy_si (Or.inl ⟨by decide, by decide⟩)) (fLy_t (fLy_si (Or.inr ⟨rfl, Or.inr ⟨by decide, by decide⟩⟩)) (fLy_si (Or.inr ⟨rfl, Or.inr ⟨by decide, by decide⟩⟩))), rfl, fun y j w1 w2 => by rw [hi_si, if_neg (by omega), hi_si, if_neg (by omega), hi_si, if_neg w1], by rw [hi_si, if_neg (by omega), hi_si, if_neg (by omega), hi_si, if_pos ⟨rfl, rfl⟩], by rw [hi_si, if_neg (by omega), hi_si, if_pos ⟨rfl, rfl⟩], by rw [if_pos c, hi_si, if_pos ⟨rfl, rfl⟩], fun Q => by rw [a0 Q, if_pos c, if_pos c]⟩
  · refine ⟨mh_si (mh_si h4 26 p (Int32.ofNat e1)) 2 16 (Int32.ofNat k), fLy_t (fLy_si (Or.inl ⟨by decide, by decide⟩)) (fLy_si (Or.inr ⟨rfl, Or.inr ⟨by decide, by decide⟩⟩)), rfl, fun y j w1 w2 => by rw [hi_si, if_neg (by omega), hi_si, if_neg w1], by rw [hi_si, if_neg (by omega), hi_si, if_pos ⟨rfl, rfl⟩], by rw [hi_si, if_pos ⟨rfl, rfl⟩], by rw [if_neg c, hi_si, if_neg (by omega), hi_si, if_neg (by omega)], fun Q => by rw [a0 Q, if_neg c, if_neg c]⟩
/-- a call -/
theorem sc_7 {g a ff : Nat} (IH : CRf d x1 x2 mn B n D K m Sc Sf f) (FC : FCq D K m Sc Sf N g) (C : CLC h B n m D Sf) (hm : mn < D.c) (S : CSt h X cl k p) (NM : NAM h D m p L X) (hr : r + 3 * (249 - p) + 5 ≤ 1000000) (lim : (k = 0 ∧ D.H (6 * mn + 4) = Int32.ofNat se) ∨ (0 < k ∧ LMd h D k se)) (hs : s < se) (hse : se ≤ Sf.1 8) (hp : p < 249) (f90 : ∀ Q, mcall (d + 1) 90 [.ref 2, .ref (B + (24 + s))] h Q = Q none h) (k7 : tK nn = 7) (hf : fmH D.sp D.H X.fu (tV ff).toNat = some g) (gX : g < X.fu) (hX : X.fu < D.c) (et : tlc t = (D.FP g).length) (h12 : X.nb + cnZl L + tlc t ≤ 12) (e0 : Sf.2 (24 + s) 0 = Int32.ofNat 4) (e1 : Sf.2 (24 + s) 1 = Int32.ofNat s) (e3 : Sf.2 (24 + s) 3 = Int32.ofNat (cnZl L)) (e4 : Sf.2 (24 + s) 4 = Int32.ofNat (cnAl L)) (e8 : Sf.2 (24 + s) 8 = if tK a = 13 then Int32.ofNat (lkN (loE D.sp L) (tV a)) else -1) (e11 : Sf.2 (24 + s) 11 = Int32.ofNat (tlc t)) (e14 : Sf.2 (24 + s) 14 = Int32.ofNat g) (hfu : ts (D.FT g) + rkF D g ≤ f) : ∃ h', SCz h h' B D m f nn (.branch a (.leaf ()) (.branch ff (.leaf ()) t)) s p L X cl k (lyQ D f true (D.FT g) (p + 1) (D.FP g) (D.FP g).length (lyC D X L p g a)) ∧ RUNc d x1 x2 mn h h' s (s + 1) r p (lyQ D f true (D.FT g) (p + 1) (D.FP g) (D.FP g).length (lyC D X L p g a)) := by
  obtain ⟨h2, f2, k2, ⟨v2, v16, v17, v18⟩, v31, P, v26, v23, run⟩ := lay_p (d := d) C S hp NM (by omega) f90
  have C2 := CLC_L f2 C
  obtain ⟨q1, gS, q3⟩ := C2.q s (by omega)
  obtain ⟨k1, k1'⟩ := S.k
  obtain ⟨c1, c2⟩ := S.c
  obtain ⟨g3, g3'⟩ := FC.h3
  obtain ⟨sg, g4, g4', g4s, g4w⟩ := FC.h4
  obtain ⟨n1, n2⟩ := NM.1
  have hg : g < D.c := by omega
  have a0 := s_89c (d := d + 1) (h := h2) (p := p) (k := k) C2 gS ((q3 0).trans e0) ((q3 14).trans e14) hg (v16.trans k1) (by omega) (by omega)
  rw [g3] at a0
  have run2 : ∀ Q, mcall (d + 2) 89 [.ref 2, .ref (B + (24 + s))] h Q = Q (some (.int (Int32.ofNat (D.S g)))) (mh_si (opH h2 k p) 2 17 (Int32.ofNat p)) := fun Q => by
    rw [run Q, a0 Q]
  have tn := tn_s (x1 := x1) (x2 := x2) (r := r) C hm S (by omega) lim hs hse run2
  obtain ⟨o1, o2, o3, o4, o5, o6, o7⟩ := op_f (h := h2) (k := k) (p := p) (p' := p + 1)
  have i3 : ∀ y j, ¬ (31 ≤ y ∧ y ≤ 32 ∧ j = k) → ¬ (y = 2 ∧ (j = 16 ∨ j = 17)) → mh_i (mh_si (opH h2 k p) 2 17 (Int32.ofNat p)) y j = mh_i h2 y j := fun y j w1 w2 => by rw [hi_si, if_neg (by omega)]; exact o3 y j w1 (by omega)
  have f3 : fLy h2 (mh_si (opH h2 k p) 2 17 (Int32.ofNat p)) := fLy_t o1 (fLy_si (Or.inr ⟨rfl, Or.inr ⟨by decide, by decide⟩⟩))
  have t31 : mh_i (mh_si (opH h2 k p) 2 17 (Int32.ofNat p)) 31 k = Int32.ofNat p := by rw [hi_si, if_neg (by omega)]; exact o4
  have t16 : mh_i (mh_si (opH h2 k p) 2 17 (Int32.ofNat p)) 2 16 = Int32.ofNat (k + 1) := by rw [hi_si, if_neg (by omega)]; exact o6
  have t17 : mh_i (mh_si (opH h2 k p) 2 17 (Int32.ofNat p)) 2 17 = Int32.ofNat p := by rw [hi_si, if_pos ⟨rfl, rfl⟩]
  have r3 : mh_r (mh_si (opH h2 k p) 2 17 (Int32.ofNat p)) = mh_r h2 := rfl
  generalize mh_si (opH h2 k p) 2 17 (Int32.ofNat p) = h3 at tn i3 f3 t31 t16 t17 r3
  have C3 := CLC_L f3 C2
  obtain ⟨-, gS3, q33⟩ := C3.q s (by omega)
  have k3 : kpC (p + 1) k h2 h3 := ⟨fun r _ => by rw [r3], fun y r u1 u2 _ => i3 y r (by omega) (by omega), fun j _ => i3 30 j (by omega) (by omega), fun y j u1 u2 u3 => i3 y j (by omega) (by omega)⟩
  have P3 := CPo_k C2.F f3 (kpD_of k3) (Nat.lt_succ_self p) P
  have NM3 : NAM h3 D m (p + 1) (D.FP g) (lyC D X L p g a) := NAM_c C3 P3 (by omega) e0 e3 e4 e14 e11 hg FC et h12
  have len18 := cn_len L
  have lk := lkN_le (sp := D.sp) (v := tV a) L
  have S3 : CSt h3 (lyC D X L p g a) (some p) (k + 1) (p + 1) := by
    refine CSt.of ⟨⟨(i3 2 2 (by omega) (by omega)).trans v2, by omega⟩, ⟨t16, by omega⟩, ⟨t17, fun c e => by cases e; omega⟩, (i3 2 18 (by omega) (by omega)).trans v18, Or.inr ⟨p, B + (24 + s), X.nb, cnZl L, X.na, cnAl L, t17, by omega, P3.n, P3.a, P3.s, gS3, (q33 3).trans e3, (q33 4).trans e4, rfl, rfl⟩, Or.inr ⟨by omega, p, rfl, t31, by omega⟩, Or.inr ⟨p, B + (24 + s), rfl, P3.s, gS3, ?_⟩⟩
    have e8' := (q33 8).trans e8
    have ta : (lyC D X L p g a).ta = if tK a = 13 then some (X.nb + lkN (loE D.sp L) (tV a)) else none := rfl
    rw [ta]
    by_cases c : tK a = 13
    · rw [if_pos c] at e8' ⊢
      exact Or.inr ⟨lkN (loE D.sp L) (tV a), X.nb, e8', by omega, P3.n, rfl⟩
    · rw [if_neg c] at e8' ⊢
      exact Or.inl ⟨e8', rfl⟩
  have L3 : LMd h3 D (k + 1) sg := ⟨p, B + (24 + s), 4, t31, by omega, P3.s, gS3, (q33 0).trans e0, Or.inl ⟨rfl, g, (q33 14).trans e14, hg, g4⟩⟩
  obtain ⟨h4, CR, RU⟩ := IH true (D.FT g) (D.S g) (p + 1) (D.FP g) (D.FP g).length (lyC D X L p g a) (some p) (k + 1) h3 N sg (r + 1) C3 S3 NM3 g4s g4w hg hfu FC.t FC.v (Or.inr ⟨by omega, L3⟩) g4' (by omega)
  generalize hQ1 : lyQ D f true (D.FT g) (p + 1) (D.FP g) (D.FP g).length (lyC D X L p g a) = Q1 at CR RU ⊢
  have f4 : fLy h h4 := fLy_t f2 (fLy_t f3 CR.f)
  have k4 : kpC p k h h4 := kpC_t k2 (kpC_t k3 CR.k (Nat.le_refl _) (by omega)) (by omega) (Nat.le_refl _)
  have C4 := CLC_L CR.f C3
  by_cases z1 : Q1.1.1 = 0
  · obtain ⟨S4, NM4, le4⟩ := CR.o z1
    obtain ⟨r', r1, RU2⟩ := RU.2 z1
    have pe := S4.p
    obtain ⟨h5, f5, r5, i5, v5, v5', v5'', run5⟩ := sh_b (d := d) (k := k) (p := p) (s := s) (ix := s) (kd := 4) (e1 := Q1.2) (nx := Int32.ofNat sg) C4 (by omega) e0 e1 (by decide) S4.k.1 (by omega) (by omega) ((CR.k.2.2.2 31 k (by decide) (by decide) (by omega)).trans t31) ((CR.k.1 p (by omega)).trans P3.s) (fun z => absurd z (by decide)) pe.1
    rw [if_pos rfl] at v5''
    rw [if_pos rfl] at run5
    have e23 : mh_i h4 23 p = owI cl := (CR.k.2.1 23 p (by decide) (by decide) (by omega)).trans ((i3 23 p (by omega) (by omega)).trans v23)
    have L4 : LMd h4 D (k + 1) sg := LMd_k C3.F CR.f (kpD_of CR.k) (by omega) (by omega) (fun o eo ho => by rw [show k + 1 - 1 = k from rfl, t31] at eo; have := (nn_eq (a := p) (b := o) (by omega) (by omega)) ▸ eo; omega) L3
    have tb := tn_b (x1 := x1) (x2 := x2) (r := r') C4 hm S4 (by omega) (by omega) L4 g4' run5
    have f45 := fLy_t f4 f5
    have i45 : ∀ y j, ¬ (25 ≤ y ∧ y ≤ 26 ∧ j = p) → y ≠ 2 → y ≠ 32 → mh_i h5 y j = mh_i h4 y j := fun y j w1 w2 w3 => i5 y j (by omega) (by omega)
    have kD5 : ∀ hi, kpD hi (k + 1) h4 h5 := fun hi => ⟨fun r _ => by rw [r5], fun y r u1 u2 _ => i5 y r (by omega) (by omega), fun j _ => i5 30 j (by omega) (by omega), fun y j u1 u2 u3 => i5 y j (by omega) (by omega)⟩
    have k5 : kpC p k h h5 := ⟨fun r u => by rw [r5]; exact k4.1 r u, fun y r u1 u2 u3 => (i5 y r (by omega) (by omega)).trans (k4.2.1 y r u1 u2 u3), fun j u => (i5 30 j (by omega) (by omega)).trans (k4.2.2.1 j u), fun y j u1 u2 u3 => (i5 y j (by omega) (by omega)).trans (k4.2.2.2 y j u1 u2 u3)⟩
    have P4 := CPo_k C3.F CR.f (kpD_of CR.k) (Nat.lt_succ_self p) P3
    refine ⟨h5, SCz.of ⟨f45, k5, fun z => absurd z1 z, fun _ => ⟨?_, ?_, by omega, CPo_k C4.F f5 (kD5 (p + 1)) (Nat.lt_succ_self p) P4, v5⟩, fun _ Pt kn ly => ⟨?_, fun z => by omega⟩⟩, fun z => absurd z1 z, fun _ => ⟨r' + 1, by omega, fun x6 => ?_⟩⟩
    · exact CSt_n C.F S f45 (kpD_of k5) ((i5 2 2 (by omega) (by omega)).trans pe.1) (by omega) pe.2 (v5'.trans k1.symm) (v5''.trans (e23.trans c1.symm)) ((i5 2 18 (by omega) (by omega)).trans S4.w)
    · rw [nxE_oo (by omega) (by omega)]
      refine NAM_k C4.F f5 (kD5 Q1.2) (NAM_r NM4 ?_ ?_ (fun x hx => ?_) (fun x hx => ?_))
      · show X.nb + cnZl L ≤ X.nb + cnZl L + cnZl (D.FP g); omega
      · show X.na + cnAl L ≤ X.na + cnAl L + cnAl (D.FP g); omega
      · exact if_pos hx
      · exact if_pos hx
    · rcases ly with ⟨-, a', ff', t', g', y1, y2, y3, y4⟩ | ⟨y1, -⟩ | ⟨y1, -⟩ | ⟨y1, -⟩
      · cases y1
        rw [hf] at y2
        cases y2
        have e := (LYR_q _ _ _ _ _ _ _ _ _ _ _ y4).2
        rw [hQ1] at e
        rw [← e] at y4
        exact CPz_s C4.F f5 r5 i45 (Nat.lt_succ_self p) (CR.r z1 Pt _ _ y4)
      · omega
      · omega
      · omega
    · obtain ⟨y6, t1⟩ := tn x6
      obtain ⟨z6, t2⟩ := RU2 y6
      obtain ⟨w6, t3⟩ := tb z6
      exact ⟨w6, fun Q => (t1 Q).trans ((t2 Q).trans (t3 Q))⟩
  · refine ⟨h4, SCz.of ⟨f4, k4, CR.g, fun z => absurd z z1, fun z => absurd z z1⟩, fun _ x6 Q => ?_, fun z => absurd z z1⟩
    obtain ⟨y6, t1⟩ := tn x6
    exact (t1 Q).trans (RU.1 z1 y6 Q)
/-- the BLOCK of an if or a while is open -/
theorem opn {kd : Nat} (C : CLC h B n m D Sf) (hm : mn < D.c) (S : CSt h X cl k p) (NM : NAM h D m p L X) (hr : r < 1000000) (lim : (k = 0 ∧ D.H (6 * mn + 4) = Int32.ofNat se) ∨ (0 < k ∧ LMd h D k se)) (hs : s < se) (hse : se ≤ Sf.1 8) (hp : p < 249) (f90 : ∀ Q, mcall (d + 1) 90 [.ref 2, .ref (B + (24 + s))] h Q = Q none h) (hkd : kd = 5 ∨ kd = 6) (e0 : Sf.2 (24 + s) 0 = Int32.ofNat kd) (e1 : Sf.2 (24 + s) 1 = Int32.ofNat s) (e3 : Sf.2 (24 + s) 3 = Int32.ofNat (cnZl L)) (e4 : Sf.2 (24 + s) 4 = Int32.ofNat (cnAl L)) : ∃ h3, fLy h h3 ∧ kpC p k h h3 ∧ CLC h3 B n m D Sf ∧ CSt h3 (lyB X p) cl (k + 1) (p + 1) ∧ NAM h3 D m (p + 1) L (lyB X p) ∧ CPo h3 B D s L X p ∧ mh_i h3 31 k = Int32.ofNat p ∧ mh_i h3 32 k = 0 ∧ ∀ x6, ∃ y6, ∀ Q, mw (d + 3) 85 Q 89 [some (.ref 2), x1, x2, some (.int (Int32.ofNat mn)), some (.int (Int32.ofNat s)), some (.int (Int32.ofNat (r))), x6] [] h = mw (d + 3) 85 Q 89 [some (.ref 2), x1, x2, some (.int (Int32.ofNat mn)), some (.int (Int32.ofNat (s + 1))), some (.int (Int32.ofNat (r + 1))), y6] [] h3 := by
  obtain ⟨h2, f2, k2, ⟨v2, v16, v17, v18⟩, v31, P, v26, v23, run⟩ := lay_p (d := d) C S hp NM (by omega) f90
  have C2 := CLC_L f2 C
  obtain ⟨q1, gS, q3⟩ := C2.q s (by omega)
  obtain ⟨k1, k1'⟩ := S.k
  have a0 := s_89e (d := d + 1) (h := h2) (p := p) (ix := s) C2.F gS ((q3 0).trans e0) (by omega) ((q3 1).trans e1) (v16.trans k1) (by omega) (by omega) (by omega)
  have run2 : ∀ Q, mcall (d + 2) 89 [.ref 2, .ref (B + (24 + s))] h Q = Q (some (.int (Int32.ofNat (s + 1)))) (opH h2 k p) := fun Q => by
    rw [run Q, a0 Q, if_pos hkd]
  have tn := tn_s (x1 := x1) (x2 := x2) C hm S hr lim hs hse run2
  obtain ⟨o1, o2, o3, o4, o5, o6, o7⟩ := op_f (h := h2) (k := k) (p := p) (p' := p + 1)
  generalize opH h2 k p = h3 at tn o1 o2 o3 o4 o5 o6 o7
  have C3 := CLC_L o1 C2
  have P3 := CPo_k C2.F o1 (kpD_of o2) (Nat.lt_succ_self p) P
  have f3 := fLy_t f2 o1
  have k3 : kpC p k h h3 := kpC_t k2 o2 (by omega) (Nat.le_refl _)
  obtain ⟨p1, p2⟩ := S.p
  obtain ⟨c1, c2⟩ := S.c
  have e17 : mh_i h3 2 17 = mh_i h 2 17 := (o3 2 17 (by omega) (by omega)).trans v17
  refine ⟨h3, f3, k3, C3, CSt.of ⟨⟨(o3 2 2 (by omega) (by omega)).trans v2, by omega⟩, ⟨o6, by omega⟩, ⟨e17.trans c1, fun c e => by have := c2 c e; omega⟩, (o3 2 18 (by omega) (by omega)).trans v18, BSE_k C.F f3 (kpD_of k3) (fun c e hc => owI_lt (cl := cl) (c1 ▸ e) hc c2 p2) e17 S.b, Or.inr ⟨by omega, p, rfl, o4, by omega⟩, TKc_k C.F f3 (kpD_of k3) c2 S.t⟩, ?_, P3, o4, o5, tn⟩
  have u := NAM_o C3 P3 (by omega) e0 e3 e4 (by omega) (by omega) (by omega)
  exact u
/-- a while -/
theorem sc_9 {c b1 : Nat} {cc bs1 : tr} (IH : CRf d x1 x2 mn B n D K m Sc Sf f) (C : CLC h B n m D Sf) (hm : mn < D.c) (S : CSt h X cl k p) (NM : NAM h D m p L X) (hr : r + 3 * (249 - p) + 5 ≤ 1000000) (lim : (k = 0 ∧ D.H (6 * mn + 4) = Int32.ofNat se) ∨ (0 < k ∧ LMd h D k se)) (hs : s < se) (hse : se ≤ Sf.1 8) (hp : p < 249) (f90 : ∀ Q, mcall (d + 1) 90 [.ref 2, .ref (B + (24 + s))] h Q = Q none h) (k9 : tK nn = 9) (hX : X.fu < D.c) (e0 : Sf.2 (24 + s) 0 = Int32.ofNat 6) (e1 : Sf.2 (24 + s) 1 = Int32.ofNat s) (e3 : Sf.2 (24 + s) 3 = Int32.ofNat (cnZl L)) (e4 : Sf.2 (24 + s) 4 = Int32.ofNat (cnAl L)) (e16 : Sf.2 (24 + s) 16 = Int32.ofNat s1) (st : stR D.sp Sc X.fu N' false bs1 (s + 1) s1 L 0) (wf : wfR D Sf X.fu N' false bs1 (s + 1) L 0) (hs1 : s1 ≤ se) (hfu : ts bs1 + rkF D X.fu ≤ f) (hts : ts bs1 < 50000) (tv : tvT K m bs1 ∧ syT bs1) : ∃ h', SCz h h' B D m f nn (.branch c cc (.branch b1 bs1 (.leaf ()))) s p L X cl k (lyQ D f false bs1 (p + 1) L 0 (lyB X p)) ∧ RUNc d x1 x2 mn h h' s s1 r p (lyQ D f false bs1 (p + 1) L 0 (lyB X p)) := by
  obtain ⟨h3, f3, k3, C3, S3, NM3, P3, t31, t32, tn⟩ := opn (x1 := x1) (x2 := x2) (d := d) (r := r) C hm S NM (by omega) lim hs hse hp f90 (Or.inr rfl) e0 e1 e3 e4
  obtain ⟨q1, gS, q3⟩ := C3.q s (by omega)
  obtain ⟨k1, k1'⟩ := S.k
  obtain ⟨c1, c2⟩ := S.c
  have L3 : LMd h3 D (k + 1) s1 := ⟨p, B + (24 + s), 6, t31, by omega, P3.s, gS, (q3 0).trans e0, Or.inr (Or.inr ⟨Or.inr rfl, (q3 16).trans e16⟩)⟩
  obtain ⟨h4, CR, RU⟩ := IH false bs1 (s + 1) (p + 1) L 0 (lyB X p) cl (k + 1) h3 N' s1 (r + 1) C3 S3 NM3 st wf hX hfu hts tv (Or.inr ⟨by omega, L3⟩) (by omega) (by omega)
  generalize hQ1 : lyQ D f false bs1 (p + 1) L 0 (lyB X p) = Q1 at CR RU ⊢
  have f4 : fLy h h4 := fLy_t f3 CR.f
  have k4 : kpC p k h h4 := kpC_t k3 CR.k (by omega) (by omega)
  have C4 := CLC_L CR.f C3
  by_cases z1 : Q1.1.1 = 0
  · obtain ⟨S4, NM4, le4⟩ := CR.o z1
    obtain ⟨r', r1, RU2⟩ := RU.2 z1
    have pe := S4.p
    obtain ⟨h5, f5, r5, i5, v5, v5', v5'', run5⟩ := sh_b (d := d) (k := k) (p := p) (s := s) (ix := s) (kd := 6) (e1 := Q1.2) (nx := Int32.ofNat s1) C4 (by omega) e0 e1 (by decide) S4.k.1 (by omega) (by omega) ((CR.k.2.2.2 31 k (by decide) (by decide) (by omega)).trans t31) ((CR.k.1 p (by omega)).trans P3.s) (fun z => absurd z (by decide)) pe.1
    rw [if_neg (by decide)] at v5''
    rw [if_neg (by decide)] at run5
    have L4 : LMd h4 D (k + 1) s1 := LMd_k C3.F CR.f (kpD_of CR.k) (by omega) (by omega) (fun o eo ho => by rw [show k + 1 - 1 = k from rfl, t31] at eo; have := (nn_eq (a := p) (b := o) (by omega) (by omega)) ▸ eo; omega) L3
    have tb := tn_b (x1 := x1) (x2 := x2) (r := r') C4 hm S4 (by omega) (by omega) L4 (by omega) run5
    have f45 := fLy_t f4 f5
    have i45 : ∀ y j, ¬ (25 ≤ y ∧ y ≤ 26 ∧ j = p) → y ≠ 2 → y ≠ 32 → mh_i h5 y j = mh_i h4 y j := fun y j w1 w2 w3 => i5 y j (by omega) (by omega)
    have kD5 : ∀ hi, kpD hi (k + 1) h4 h5 := fun hi => ⟨fun r _ => by rw [r5], fun y r u1 u2 _ => i5 y r (by omega) (by omega), fun j _ => i5 30 j (by omega) (by omega), fun y j u1 u2 u3 => i5 y j (by omega) (by omega)⟩
    have k5 : kpC p k h h5 := ⟨fun r u => by rw [r5]; exact k4.1 r u, fun y r u1 u2 u3 => (i5 y r (by omega) (by omega)).trans (k4.2.1 y r u1 u2 u3), fun j u => (i5 30 j (by omega) (by omega)).trans (k4.2.2.1 j u), fun y j u1 u2 u3 => (i5 y j (by omega) (by omega)).trans (k4.2.2.2 y j u1 u2 u3)⟩
    have P4 := CPo_k C3.F CR.f (kpD_of CR.k) (Nat.lt_succ_self p) P3
    refine ⟨h5, SCz.of ⟨f45, k5, fun z => absurd z1 z, fun _ => ⟨?_, ?_, by omega, CPo_k C4.F f5 (kD5 (p + 1)) (Nat.lt_succ_self p) P4, v5⟩, fun _ Pt kn ly => ⟨?_, fun z => by omega⟩⟩, fun z => absurd z1 z, fun _ => ⟨r' + 1, by omega, fun x6 => ?_⟩⟩
    · exact CSt_n C.F S f45 (kpD_of k5) ((i5 2 2 (by omega) (by omega)).trans pe.1) (by omega) pe.2 (v5'.trans k1.symm) (v5''.trans (S4.c.1.trans c1.symm)) ((i5 2 18 (by omega) (by omega)).trans S4.w)
    · rw [nxE_oo (by omega) (by omega)]
      exact NAM_k C4.F f5 (kD5 Q1.2) NM4
    · rcases ly with ⟨y1, -⟩ | ⟨y1, -⟩ | ⟨-, c', cc', b1', bs1', ec, y1⟩ | ⟨-, -, y1, -⟩
      · omega
      · omega
      · cases ec
        have e := (LYR_q _ _ _ _ _ _ _ _ _ _ _ y1).2
        rw [hQ1] at e
        rw [← e] at y1
        exact CPz_s C4.F f5 r5 i45 (Nat.lt_succ_self p) (CR.r z1 Pt _ _ y1)
      · omega
    · obtain ⟨y6, t1⟩ := tn x6
      obtain ⟨z6, t2⟩ := RU2 y6
      obtain ⟨w6, t3⟩ := tb z6
      exact ⟨w6, fun Q => (t1 Q).trans ((t2 Q).trans (t3 Q))⟩
  · refine ⟨h4, SCz.of ⟨f4, k4, CR.g, fun z => absurd z z1, fun z => absurd z z1⟩, fun _ x6 Q => ?_, fun z => absurd z z1⟩
    obtain ⟨y6, t1⟩ := tn x6
    exact (t1 Q).trans (RU.1 z1 y6 Q)
/-- an if: k2 is where its first BLOCK ends, u the statements of its second one -/
theorem sc_8 {c b1 k2 : Nat} {cc bs1 qq u : tr} (IH : CRf d x1 x2 mn B n D K m Sc Sf f) (C : CLC h B n m D Sf) (hm : mn < D.c) (S : CSt h X cl k p) (NM : NAM h D m p L X) (hr : r + 3 * (249 - p) + 5 ≤ 1000000) (lim : (k = 0 ∧ D.H (6 * mn + 4) = Int32.ofNat se) ∨ (0 < k ∧ LMd h D k se)) (hs : s < se) (hse : se ≤ Sf.1 8) (hp : p < 249) (f90 : ∀ Q, mcall (d + 1) 90 [.ref 2, .ref (B + (24 + s))] h Q = Q none h) (k8 : tK nn = 8) (hX : X.fu < D.c) (e0 : Sf.2 (24 + s) 0 = Int32.ofNat 5) (e1 : Sf.2 (24 + s) 1 = Int32.ofNat s) (e3 : Sf.2 (24 + s) 3 = Int32.ofNat (cnZl L)) (e4 : Sf.2 (24 + s) 4 = Int32.ofNat (cnAl L)) (e15 : Sf.2 (24 + s) 15 = Int32.ofNat k2) (e16 : Sf.2 (24 + s) 16 = Int32.ofNat s1) (st : stR D.sp Sc X.fu N' false bs1 (s + 1) k2 L 0) (wf : wfR D Sf X.fu N' false bs1 (s + 1) L 0) (st2 : stR D.sp Sc X.fu N' false u k2 s1 L 0) (wf2 : wfR D Sf X.fu N' false u k2 L 0) (hu : (qq = .leaf () ∧ u = .leaf ()) ∨ ∃ b2, qq = .branch b2 u (.leaf ())) (hk2 : k2 ≤ s1) (hs1 : s1 ≤ se) (hk2s : k2 = s + 1 + stLq bs1) (hfu : ts bs1 + rkF D X.fu ≤ f) (hts : ts bs1 < 50000) (tv : tvT K m bs1 ∧ syT bs1) (hfu2 : ts u + rkF D X.fu ≤ f) (hts2 : ts u < 50000) (tv2 : tvT K m u ∧ syT u) : ∃ h', SCz h h' B D m f nn (.branch c cc (.branch b1 bs1 qq)) s p L X cl k (lyG (lyQ D f false bs1 (p + 1) L 0 (lyB X p)) fun e => lyQ D f false u e L 0 (lyB X p)) ∧ RUNc d x1 x2 mn h h' s s1 r p (lyG (lyQ D f false bs1 (p + 1) L 0 (lyB X p)) fun e => lyQ D f false u e L 0 (lyB X p)) := by
  obtain ⟨h3, f3, k3, C3, S3, NM3, P3, t31, t32, tn⟩ := opn (x1 := x1) (x2 := x2) (d := d) (r := r) C hm S NM (by omega) lim hs hse hp f90 (Or.inl rfl) e0 e1 e3 e4
  obtain ⟨q1, gS, q3⟩ := C3.q s (by omega)
  obtain ⟨k1, k1'⟩ := S.k
  obtain ⟨c1, c2⟩ := S.c
  have L3 : LMd h3 D (k + 1) k2 := ⟨p, B + (24 + s), 5, t31, by omega, P3.s, gS, (q3 0).trans e0, Or.inr (Or.inl ⟨rfl, t32, (q3 15).trans e15⟩)⟩
  obtain ⟨h4, CR, RU⟩ := IH false bs1 (s + 1) (p + 1) L 0 (lyB X p) cl (k + 1) h3 N' k2 (r + 1) C3 S3 NM3 st wf hX hfu hts tv (Or.inr ⟨by omega, L3⟩) (by omega) (by omega)
  generalize hQ1 : lyQ D f false bs1 (p + 1) L 0 (lyB X p) = Q1 at CR RU ⊢
  have f4 : fLy h h4 := fLy_t f3 CR.f
  have k4 : kpC p k h h4 := kpC_t k3 CR.k (by omega) (by omega)
  have C4 := CLC_L CR.f C3
  by_cases z1 : Q1.1.1 = 0
  · rw [lyG_y z1]
    obtain ⟨S4, NM4, le4⟩ := CR.o z1
    obtain ⟨r', r1, RU2⟩ := RU.2 z1
    have pe := S4.p
    obtain ⟨-, gS4, q34⟩ := C4.q s (by omega)
    have w31 : mh_i h4 31 k = Int32.ofNat p := (CR.k.2.2.2 31 k (by decide) (by decide) (by omega)).trans t31
    have w32 : mh_i h4 32 k = 0 := (CR.k.2.2.2 32 k (by decide) (by decide) (by omega)).trans t32
    have w20 : mh_r h4 20 p = some (B + (24 + s)) := (CR.k.1 p (by omega)).trans P3.s
    have a5 := c_88a (d := d + 2) (k := k + 1) (o := p) (p := Q1.2) (nx := Int32.ofNat k2) C4.F S4.k.1 (by omega) (by omega) (by omega) w31 w20 gS4 ((q34 0).trans e0) w32 pe.1
    rw [show k + 1 - 1 = k from rfl] at a5
    have L4 : LMd h4 D (k + 1) k2 := LMd_k C3.F CR.f (kpD_of CR.k) (by omega) (by omega) (fun o eo ho => by rw [show k + 1 - 1 = k from rfl, t31] at eo; have := (nn_eq (a := p) (b := o) (by omega) (by omega)) ▸ eo; omega) L3
    have tb := tn_b (x1 := x1) (x2 := x2) (r := r') C4 hm S4 (by omega) (by omega) L4 (by omega) a5
    have f5 : fLy h4 (mh_si (mh_si h4 32 k 1) 25 p (Int32.ofNat Q1.2)) := fLy_t (fLy_si (Or.inl ⟨by decide, by decide⟩)) (fLy_si (Or.inl ⟨by decide, by decide⟩))
    have i5 : ∀ y j, ¬ (y = 32 ∧ j = k) → ¬ (y = 25 ∧ j = p) → mh_i (mh_si (mh_si h4 32 k 1) 25 p (Int32.ofNat Q1.2)) y j = mh_i h4 y j := fun y j w1 w2 => by rw [hi_si, if_neg w2, hi_si, if_neg w1]
    have v25 : mh_i (mh_si (mh_si h4 32 k 1) 25 p (Int32.ofNat Q1.2)) 25 p = Int32.ofNat Q1.2 := by rw [hi_si, if_pos ⟨rfl, rfl⟩]
    have v32 : mh_i (mh_si (mh_si h4 32 k 1) 25 p (Int32.ofNat Q1.2)) 32 k = 1 := by rw [hi_si, if_neg (by omega), hi_si, if_pos ⟨rfl, rfl⟩]
    have r5 : mh_r (mh_si (mh_si h4 32 k 1) 25 p (Int32.ofNat Q1.2)) = mh_r h4 := rfl
    generalize mh_si (mh_si h4 32 k 1) 25 p (Int32.ofNat Q1.2) = h5 at tb f5 i5 v25 v32 r5
    have C5 := CLC_L f5 C4
    have kD5 : ∀ hi, kpD hi k h4 h5 := fun hi => ⟨fun r _ => by rw [r5], fun y r u1 u2 _ => i5 y r (by omega) (by omega), fun j _ => i5 30 j (by omega) (by omega), fun y j u1 u2 u3 => i5 y j (by omega) (by omega)⟩
    have i45 : ∀ y j, ¬ (25 ≤ y ∧ y ≤ 26 ∧ j = p) → y ≠ 2 → y ≠ 32 → mh_i h5 y j = mh_i h4 y j := fun y j w1 w2 w3 => i5 y j (by omega) (by omega)
    have S5 : CSt h5 (lyB X p) cl (k + 1) Q1.2 := by
      obtain ⟨c1', c2'⟩ := S4.c
      refine CSt.of ⟨⟨(i5 2 2 (by omega) (by omega)).trans pe.1, pe.2⟩, ⟨(i5 2 16 (by omega) (by omega)).trans S4.k.1, S4.k.2⟩, ⟨(i5 2 17 (by omega) (by omega)).trans c1', c2'⟩, (i5 2 18 (by omega) (by omega)).trans S4.w, BSE_k C4.F f5 (kD5 Q1.2) (fun c e hc => owI_lt (cl := cl) (c1' ▸ e) hc c2' pe.2) (i5 2 17 (by omega) (by omega)) S4.b, Or.inr ⟨by omega, p, rfl, (i5 31 k (by omega) (by omega)).trans w31, by omega⟩, TKc_k C4.F f5 (kD5 Q1.2) c2' S4.t⟩
    have NM5 := NAM_k C4.F f5 (kD5 Q1.2) NM4
    obtain ⟨-, gS5, q35⟩ := C5.q s (by omega)
    have L5 : LMd h5 D (k + 1) s1 := ⟨p, B + (24 + s), 5, (i5 31 k (by omega) (by omega)).trans w31, by omega, by rw [r5]; exact w20, gS5, (q35 0).trans e0, Or.inr (Or.inr ⟨Or.inl ⟨rfl, v32⟩, (q35 16).trans e16⟩)⟩
    obtain ⟨h6, CR2, RV⟩ := IH false u k2 Q1.2 L 0 (lyB X p) cl (k + 1) h5 N' s1 (r' + 1) C5 S5 NM5 st2 wf2 hX hfu2 hts2 tv2 (Or.inr ⟨by omega, L5⟩) (by omega) (by omega)
    generalize hQ2 : lyQ D f false u Q1.2 L 0 (lyB X p) = Q2 at CR2 RV ⊢
    have f6 : fLy h h6 := fLy_t f4 (fLy_t f5 CR2.f)
    have k45 : kpC p k h h5 := ⟨fun r u => by rw [r5]; exact k4.1 r u, fun y r u1 u2 u3 => (i5 y r (by omega) (by omega)).trans (k4.2.1 y r u1 u2 u3), fun j u => (i5 30 j (by omega) (by omega)).trans (k4.2.2.1 j u), fun y j u1 u2 u3 => (i5 y j (by omega) (by omega)).trans (k4.2.2.2 y j u1 u2 u3)⟩
    have k6 : kpC p k h h6 := kpC_t k45 CR2.k (by omega) (by omega)
    have C6 := CLC_L CR2.f C5
    by_cases z2 : Q2.1.1 = 0
    · obtain ⟨S6, NM6, le6⟩ := CR2.o z2
      obtain ⟨r'', r2, RV2⟩ := RV.2 z2
      have pe6 := S6.p
      have u31 : mh_i h6 31 k = Int32.ofNat p := (CR2.k.2.2.2 31 k (by decide) (by decide) (by omega)).trans ((i5 31 k (by omega) (by omega)).trans w31)
      obtain ⟨h7, f7, r7, i7, v7, v7', v7'', run7⟩ := sh_b (d := d) (k := k) (p := p) (s := s) (ix := s) (kd := 5) (e1 := Q2.2) (nx := Int32.ofNat s1) C6 (by omega) e0 e1 (by decide) S6.k.1 (by omega) (by omega) u31 ((CR2.k.1 p (by omega)).trans (by rw [r5]; exact w20)) (fun _ => (CR2.k.2.2.2 32 k (by decide) (by decide) (by omega)).trans v32) pe6.1
      rw [if_neg (by decide)] at v7''
      rw [if_neg (by decide)] at run7
      have L6 : LMd h6 D (k + 1) s1 := LMd_k C5.F CR2.f (kpD_of CR2.k) (by omega) (by omega) (fun o eo ho => by rw [show k + 1 - 1 = k from rfl, (i5 31 k (by omega) (by omega)).trans w31] at eo; have := (nn_eq (a := p) (b := o) (by omega) (by omega)) ▸ eo; omega) L5
      have tb2 := tn_b (x1 := x1) (x2 := x2) (r := r'') C6 hm S6 (by omega) (by omega) L6 (by omega) run7
      have f67 := fLy_t f6 f7
      have i67 : ∀ y j, ¬ (25 ≤ y ∧ y ≤ 26 ∧ j = p) → y ≠ 2 → y ≠ 32 → mh_i h7 y j = mh_i h6 y j := fun y j w1 w2 w3 => i7 y j (by omega) (by omega)
      have kD7 : ∀ hi, kpD hi (k + 1) h6 h7 := fun hi => ⟨fun r _ => by rw [r7], fun y r u1 u2 _ => i7 y r (by omega) (by omega), fun j _ => i7 30 j (by omega) (by omega), fun y j u1 u2 u3 => i7 y j (by omega) (by omega)⟩
      have k7 : kpC p k h h7 := ⟨fun r u => by rw [r7]; exact k6.1 r u, fun y r u1 u2 u3 => (i7 y r (by omega) (by omega)).trans (k6.2.1 y r u1 u2 u3), fun j u => (i7 30 j (by omega) (by omega)).trans (k6.2.2.1 j u), fun y j u1 u2 u3 => (i7 y j (by omega) (by omega)).trans (k6.2.2.2 y j u1 u2 u3)⟩
      have P4 := CPo_k C3.F CR.f (kpD_of CR.k) (Nat.lt_succ_self p) P3
      have P5 := CPo_k C4.F f5 (kD5 (p + 1)) (Nat.lt_succ_self p) P4
      have P6 := CPo_k C5.F CR2.f (kpD_of CR2.k) (show p < Q1.2 by omega) P5
      have v25' : mh_i h7 25 p = Int32.ofNat Q1.2 := (i7 25 p (by omega) (by omega)).trans ((CR2.k.2.1 25 p (by decide) (by decide) (by omega)).trans v25)
      refine ⟨h7, SCz.of ⟨f67, k7, fun z => absurd z2 z, fun _ => ⟨?_, ?_, by omega, CPo_k C6.F f7 (kD7 (p + 1)) (Nat.lt_succ_self p) P6, v7⟩, fun _ Pt kn ly => ?_⟩, fun z => absurd z2 z, fun _ => ⟨r'' + 1, by omega, fun x6 => ?_⟩⟩
      · exact CSt_n C.F S f67 (kpD_of k7) ((i7 2 2 (by omega) (by omega)).trans pe6.1) (by omega) pe6.2 (v7'.trans k1.symm) (v7''.trans (S6.c.1.trans c1.symm)) ((i7 2 18 (by omega) (by omega)).trans S6.w)
      · rw [nxE_oo (by omega) (by omega)]
        exact NAM_k C6.F f7 (kD7 Q2.2) NM6
      · rcases ly with ⟨y1, -⟩ | ⟨-, c', cc', b1', bs1', q', ec, y1, y2, y3, y4⟩ | ⟨y1, -⟩ | ⟨-, y1, -⟩
        · omega
        · cases ec
          have e := (LYR_q _ _ _ _ _ _ _ _ _ _ _ y3).2
          rw [hQ1] at e
          rw [← e] at y3 y4
          have PA := CPz_s C4.F f5 r5 i45 (Nat.lt_succ_self p) (CR.r z1 Pt _ _ y3)
          have PA' := CPz_k C5.F CR2.f CR2.k PA
          have PA'' := CPz_s C6.F f7 r7 i67 (Nat.lt_succ_self p) PA'
          refine ⟨?_, fun _ => by rw [v25', e]⟩
          rcases y4 with ⟨y5, y6⟩ | ⟨b2, bs2, y5, y6⟩
          · rcases hu with ⟨u1, u2⟩ | ⟨b2, u1⟩
            · subst u2
              have : Q2 = ((0, 0), Q1.2) := by rw [← hQ2]; cases f <;> rfl
              rw [this]
              exact PA''
            · rw [u1] at y5; cases y5
          · rcases hu with ⟨u1, u2⟩ | ⟨b2', u1⟩
            · rw [u1] at y5; cases y5
            · rw [u1] at y5
              cases y5
              have e2 := (LYR_q _ _ _ _ _ _ _ _ _ _ _ y6).2
              rw [hQ2] at e2
              rw [← e2, ← hk2s] at y6
              have PB := CPz_s C6.F f7 r7 i67 (show p < Q1.2 by omega) (CR2.r z2 Pt _ _ y6)
              intro x x1 x2
              by_cases c0 : x < Q1.2
              · exact PA'' x x1 c0
              · exact PB x (by omega) x2
        · omega
        · omega
      · obtain ⟨y6, t1⟩ := tn x6
        obtain ⟨z6, t2⟩ := RU2 y6
        obtain ⟨w6, t3⟩ := tb z6
        obtain ⟨a6, t4⟩ := RV2 w6
        obtain ⟨b6, t5⟩ := tb2 a6
        exact ⟨b6, fun Q => (t1 Q).trans ((t2 Q).trans ((t3 Q).trans ((t4 Q).trans (t5 Q))))⟩
    · refine ⟨h6, SCz.of ⟨f6, k6, CR2.g, fun z => absurd z z2, fun z => absurd z z2⟩, fun _ x6 Q => ?_, fun z => absurd z z2⟩
      obtain ⟨y6, t1⟩ := tn x6
      obtain ⟨z6, t2⟩ := RU2 y6
      obtain ⟨w6, t3⟩ := tb z6
      exact (t1 Q).trans ((t2 Q).trans ((t3 Q).trans (RV.1 z2 w6 Q)))
  · rw [lyG_n z1]
    refine ⟨h4, SCz.of ⟨f4, k4, CR.g, fun z => absurd z z1, fun z => absurd z z1⟩, fun _ x6 Q => ?_, fun z => absurd z z1⟩
    obtain ⟨y6, t1⟩ := tn x6
    exact (t1 Q).trans (RU.1 z1 y6 Q)
end CSl
