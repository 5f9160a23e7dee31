set_option maxRecDepth 100000
/-! the class's lay: turns of its loop; what stands before a statement -/
/-- where what a return gives goes -/
def TKc (h : mh_H) (cl ta : Option Nat) : Prop := (cl = none ∧ ta = none) ∨ ∃ c Sq, cl = some c ∧ mh_r h 20 c = some Sq ∧ mg h Sq 9 ∧ ((mh_i h Sq 8 = -1 ∧ ta = none) ∨ ∃ sl nq, mh_i h Sq 8 = Int32.ofNat sl ∧ sl < 1000 ∧ mh_i h 21 c = Int32.ofNat nq ∧ ta = some (nq + sl))
def CSt (h : mh_H) (X : lcx) (cl : Option Nat) (k p : Nat) : Prop := (mh_i h 2 2 = Int32.ofNat p ∧ p ≤ 249) ∧ (mh_i h 2 16 = Int32.ofNat k ∧ k ≤ p) ∧ (mh_i h 2 17 = owI cl ∧ ∀ c, cl = some c → c < p) ∧ (mh_i h 2 18 = 0) ∧ (BSE h X.nb X.na) ∧ ((k = 0 ∧ X.ow = none) ∨ (0 < k ∧ ∃ o, X.ow = some o ∧ mh_i h 31 (k - 1) = Int32.ofNat o ∧ o < p)) ∧ (TKc h cl X.ta)
theorem CSt.of {h : mh_H} {X : lcx} {cl : Option Nat} {k p : Nat} (q : (mh_i h 2 2 = Int32.ofNat p ∧ p ≤ 249) ∧ (mh_i h 2 16 = Int32.ofNat k ∧ k ≤ p) ∧ (mh_i h 2 17 = owI cl ∧ ∀ c, cl = some c → c < p) ∧ (mh_i h 2 18 = 0) ∧ (BSE h X.nb X.na) ∧ ((k = 0 ∧ X.ow = none) ∨ (0 < k ∧ ∃ o, X.ow = some o ∧ mh_i h 31 (k - 1) = Int32.ofNat o ∧ o < p)) ∧ (TKc h cl X.ta)) : CSt h X cl k p := q
theorem CSt.p {h : mh_H} {X : lcx} {cl : Option Nat} {k p : Nat} (q : CSt h X cl k p) : mh_i h 2 2 = Int32.ofNat p ∧ p ≤ 249 := q.1
theorem CSt.k {h : mh_H} {X : lcx} {cl : Option Nat} {k p : Nat} (q : CSt h X cl k p) : mh_i h 2 16 = Int32.ofNat k ∧ k ≤ p := q.2.1
theorem CSt.c {h : mh_H} {X : lcx} {cl : Option Nat} {k p : Nat} (q : CSt h X cl k p) : mh_i h 2 17 = owI cl ∧ ∀ c, cl = some c → c < p := q.2.2.1
theorem CSt.w {h : mh_H} {X : lcx} {cl : Option Nat} {k p : Nat} (q : CSt h X cl k p) : mh_i h 2 18 = 0 := q.2.2.2.1
theorem CSt.b {h : mh_H} {X : lcx} {cl : Option Nat} {k p : Nat} (q : CSt h X cl k p) : BSE h X.nb X.na := q.2.2.2.2.1
theorem CSt.o {h : mh_H} {X : lcx} {cl : Option Nat} {k p : Nat} (q : CSt h X cl k p) : (k = 0 ∧ X.ow = none) ∨ (0 < k ∧ ∃ o, X.ow = some o ∧ mh_i h 31 (k - 1) = Int32.ofNat o ∧ o < p) := q.2.2.2.2.2.1
theorem CSt.t {h : mh_H} {X : lcx} {cl : Option Nat} {k p : Nat} (q : CSt h X cl k p) : TKc h cl X.ta := q.2.2.2.2.2.2
/-- names are those of the point before -/
def NAM (h : mh_H) (D : lyD) (m p : Nat) (L : cen) (X : lcx) : Prop := (X.nb + cnZl L ≤ 12 ∧ X.na + cnAl L ≤ 6) ∧ ((p = 0 ∧ X.nb + cnZl L = 0 ∧ X.na + cnAl L = 0) ∨ (0 < p ∧ ∃ kd sz a nn an nt su, NMq h D m (p - 1) kd sz a nn an nt su ∧ (∀ x, x < X.nb + cnZl L → NMv h D (p - 1) kd sz a nn an nt su x = Int32.ofNat (D.P (X.nA L x))) ∧ (∀ x, x < X.na + cnAl L → NMv h D (p - 1) kd sz a nn an nt su (12 + x) = Int32.ofNat (D.P (X.aA L x)))))
/-- a point in the class's rows -/
def CPo (h : mh_H) (B : Nat) (D : lyD) (S : Nat) (L : cen) (X : lcx) (r : Nat) : Prop := (mh_r h 20 r = some (B + (24 + S))) ∧ (mh_i h 21 r = Int32.ofNat X.nb) ∧ (mh_i h 22 r = Int32.ofNat X.na) ∧ (∃ cl, mh_i h 23 r = owI cl ∧ (∀ c, cl = some c → c < r) ∧ TKc h cl X.ta) ∧ (mh_i h 24 r = owI X.ow) ∧ (∀ x, x < X.nb + cnZl L → mh_i h 30 (18 * r + x) = Int32.ofNat (D.P (X.nA L x))) ∧ (∀ x, x < X.na + cnAl L → mh_i h 30 (18 * r + (12 + x)) = Int32.ofNat (D.P (X.aA L x))) ∧ (X.nb + cnZl L ≤ 12 ∧ X.na + cnAl L ≤ 6)
theorem CPo.of {h : mh_H} {B : Nat} {D : lyD} {S : Nat} {L : cen} {X : lcx} {r : Nat} (q : (mh_r h 20 r = some (B + (24 + S))) ∧ (mh_i h 21 r = Int32.ofNat X.nb) ∧ (mh_i h 22 r = Int32.ofNat X.na) ∧ (∃ cl, mh_i h 23 r = owI cl ∧ (∀ c, cl = some c → c < r) ∧ TKc h cl X.ta) ∧ (mh_i h 24 r = owI X.ow) ∧ (∀ x, x < X.nb + cnZl L → mh_i h 30 (18 * r + x) = Int32.ofNat (D.P (X.nA L x))) ∧ (∀ x, x < X.na + cnAl L → mh_i h 30 (18 * r + (12 + x)) = Int32.ofNat (D.P (X.aA L x))) ∧ (X.nb + cnZl L ≤ 12 ∧ X.na + cnAl L ≤ 6)) : CPo h B D S L X r := q
theorem CPo.s {h : mh_H} {B : Nat} {D : lyD} {S : Nat} {L : cen} {X : lcx} {r : Nat} (q : CPo h B D S L X r) : mh_r h 20 r = some (B + (24 + S)) := q.1
theorem CPo.n {h : mh_H} {B : Nat} {D : lyD} {S : Nat} {L : cen} {X : lcx} {r : Nat} (q : CPo h B D S L X r) : mh_i h 21 r = Int32.ofNat X.nb := q.2.1
theorem CPo.a {h : mh_H} {B : Nat} {D : lyD} {S : Nat} {L : cen} {X : lcx} {r : Nat} (q : CPo h B D S L X r) : mh_i h 22 r = Int32.ofNat X.na := q.2.2.1
theorem CPo.c {h : mh_H} {B : Nat} {D : lyD} {S : Nat} {L : cen} {X : lcx} {r : Nat} (q : CPo h B D S L X r) : ∃ cl, mh_i h 23 r = owI cl ∧ (∀ c, cl = some c → c < r) ∧ TKc h cl X.ta := q.2.2.2.1
theorem CPo.o {h : mh_H} {B : Nat} {D : lyD} {S : Nat} {L : cen} {X : lcx} {r : Nat} (q : CPo h B D S L X r) : mh_i h 24 r = owI X.ow := q.2.2.2.2.1
theorem CPo.z {h : mh_H} {B : Nat} {D : lyD} {S : Nat} {L : cen} {X : lcx} {r : Nat} (q : CPo h B D S L X r) : ∀ x, x < X.nb + cnZl L → mh_i h 30 (18 * r + x) = Int32.ofNat (D.P (X.nA L x)) := q.2.2.2.2.2.1
theorem CPo.y {h : mh_H} {B : Nat} {D : lyD} {S : Nat} {L : cen} {X : lcx} {r : Nat} (q : CPo h B D S L X r) : ∀ x, x < X.na + cnAl L → mh_i h 30 (18 * r + (12 + x)) = Int32.ofNat (D.P (X.aA L x)) := q.2.2.2.2.2.2.1
theorem CPo.b {h : mh_H} {B : Nat} {D : lyD} {S : Nat} {L : cen} {X : lcx} {r : Nat} (q : CPo h B D S L X r) : X.nb + cnZl L ≤ 12 ∧ X.na + cnAl L ≤ 6 := q.2.2.2.2.2.2.2
/-- points below p, BLOCKs that are open stay -/
def kpC (p k : Nat) (h h' : mh_H) : Prop := (∀ r, r < p → mh_r h' 20 r = mh_r h 20 r) ∧ (∀ y r, 21 ≤ y → y ≤ 26 → r < p → mh_i h' y r = mh_i h y r) ∧ (∀ j, j < 18 * p → mh_i h' 30 j = mh_i h 30 j) ∧ (∀ y j, 31 ≤ y → y ≤ 32 → j < k → mh_i h' y j = mh_i h y j)
def kpD (p k : Nat) (h h' : mh_H) : Prop := (∀ r, r < p → mh_r h' 20 r = mh_r h 20 r) ∧ (∀ y r, 21 ≤ y → y ≤ 24 → r < p → mh_i h' y r = mh_i h y r) ∧ (∀ j, j < 18 * p → mh_i h' 30 j = mh_i h 30 j) ∧ (∀ y j, 31 ≤ y → y ≤ 32 → j < k → mh_i h' y j = mh_i h y j)
theorem kpD_of {p k : Nat} {h h' : mh_H} (x : kpC p k h h') : kpD p k h h' := ⟨x.1, fun y r u1 u2 u3 => x.2.1 y r u1 (by omega) u3, x.2.2.1, x.2.2.2⟩
section TUl
variable {d : Nat} {h h1 h2 : mh_H} {B n m : Nat} {D : lyD} {Sf : cps} {k k' se p p' St nb na kd r mn s S q : Nat} {X X' : lcx} {L L' : cen} {cl ta : Option Nat} {x1 x2 x6 : Option Value} {nx v : Int32}
theorem kpC_t (x : kpC p k h h1) (y : kpC p' k' h1 h2) (hp : p ≤ p') (hk : k ≤ k') : kpC p k h h2 := ⟨fun r u => (y.1 r (by omega)).trans (x.1 r u), fun y' r u1 u2 u3 => (y.2.1 y' r u1 u2 (by omega)).trans (x.2.1 y' r u1 u2 u3), fun j u => (y.2.2.1 j (by omega)).trans (x.2.2.1 j u), fun y' j u1 u2 u3 => (y.2.2.2 y' j u1 u2 (by omega)).trans (x.2.2.2 y' j u1 u2 u3)⟩
theorem kpC_r : kpC p k h h := ⟨fun _ _ => rfl, fun _ _ _ _ _ => rfl, fun _ _ => rfl, fun _ _ _ _ _ => rfl⟩
theorem st_cy (F : CF h) (g : mg h St 9) (j : Nat) : ¬ cyW St j := by
  intro z
  have gk := g.1
  have a2 := (F.g 2 4 20 (by decide +kernel)).1
  have c : ∀ y, 21 ≤ y → y ≤ 32 → mh_k h y = 100 ∨ mh_k h y = 103 := by
    intro y y1 y2
    have : y = 21 ∨ y = 22 ∨ y = 23 ∨ y = 24 ∨ y = 25 ∨ y = 26 ∨ y = 27 ∨ y = 28 ∨ y = 29 ∨ y = 30 ∨ y = 31 ∨ y = 32 := by omega
    rcases this with e | e | e | e | e | e | e | e | e | e | e | e <;> subst e
    · exact Or.inl (F.g 21 100 250 (by decide +kernel)).1
    · exact Or.inl (F.g 22 100 250 (by decide +kernel)).1
    · exact Or.inl (F.g 23 100 250 (by decide +kernel)).1
    · exact Or.inl (F.g 24 100 250 (by decide +kernel)).1
    · exact Or.inl (F.g 25 100 250 (by decide +kernel)).1
    · exact Or.inl (F.g 26 100 250 (by decide +kernel)).1
    · exact Or.inl (F.g 27 100 250 (by decide +kernel)).1
    · exact Or.inl (F.g 28 100 250 (by decide +kernel)).1
    · exact Or.inl (F.g 29 100 250 (by decide +kernel)).1
    · exact Or.inl (F.g 30 100 4500 (by decide +kernel)).1
    · exact Or.inl (F.g 31 100 250 (by decide +kernel)).1
    · exact Or.inr (F.g 32 103 250 (by decide +kernel)).1
  rcases z with ⟨z1, z2⟩ | ⟨z1, -⟩
  · have := c St z1 z2
    omega
  · rw [z1] at gk
    omega
theorem TKc_k (F : CF h) (x : fLy h h1) (kp : kpD p k h h1) (hc : ∀ c, cl = some c → c < p) (w : TKc h cl ta) : TKc h1 cl ta := by
  rcases w with w | ⟨c, Sq, w1, w2, w3, w4⟩
  · exact Or.inl w
  · have cp := hc c w1
    refine Or.inr ⟨c, Sq, w1, (kp.1 c cp).trans w2, by rw [fLy_g x]; exact w3, ?_⟩
    have e : ∀ j, mh_i h1 Sq j = mh_i h Sq j := fun j => fLy_i x (st_cy F w3 j)
    rw [e 8]
    rcases w4 with w4 | ⟨sl, nq, y1, y2, y3, y4⟩
    · exact Or.inl w4
    · exact Or.inr ⟨sl, nq, y1, y2, (kp.2.1 21 c (by decide) (by decide) cp).trans y3, y4⟩
theorem BSE_k (F : CF h) (x : fLy h h1) (kp : kpD p k h h1) (hc : ∀ c, mh_i h 2 17 = Int32.ofNat c → c < 250 → c < p) (e17 : mh_i h1 2 17 = mh_i h 2 17) (w : BSE h nb na) : BSE h1 nb na := by
  rcases w with ⟨w1, w2⟩ | ⟨c, Sc, b1, n1, a1, x1, y1, y2, y3, y4, y5, y6, y7, y8, y9⟩
  · exact Or.inl ⟨e17.trans w1, w2⟩
  · have cp := hc c y1 y2
    have e : ∀ j, mh_i h1 Sc j = mh_i h Sc j := fun j => fLy_i x (st_cy F y6 j)
    exact Or.inr ⟨c, Sc, b1, n1, a1, x1, e17.trans y1, y2, (kp.2.1 21 c (by decide) (by decide) cp).trans y3, (kp.2.1 22 c (by decide) (by decide) cp).trans y4, (kp.1 c cp).trans y5, by rw [fLy_g x]; exact y6, (e 3).trans y7, (e 4).trans y8, y9⟩
theorem CPo_k (F : CF h) (x : fLy h h1) (kp : kpD p k h h1) (hr : r < p) (w : CPo h B D S L X r) : CPo h1 B D S L X r := by
  obtain ⟨cl, c1, c2, c3⟩ := w.c
  obtain ⟨b1, b2⟩ := w.b
  exact CPo.of ⟨(kp.1 r hr).trans w.s, (kp.2.1 21 r (by decide) (by decide) hr).trans w.n, (kp.2.1 22 r (by decide) (by decide) hr).trans w.a, ⟨cl, (kp.2.1 23 r (by decide) (by decide) hr).trans c1, c2, TKc_k F x kp (fun c e => by have := c2 c e; omega) c3⟩, (kp.2.1 24 r (by decide) (by decide) hr).trans w.o, fun y hy => (kp.2.2.1 _ (by omega)).trans (w.z y hy), fun y hy => (kp.2.2.1 _ (by omega)).trans (w.y y hy), w.b⟩
theorem NMq_k {sz a nn an nt su : Nat} (F : CF h) (x : fLy h h1) (kp : kpD p k h h1) (hq : q < p) (w : NMq h D m q kd sz a nn an nt su) : NMq h1 D m q kd sz a nn an nt su := by
  obtain ⟨Sq, nb, nm, na, nx, y1, y2, y3, y4, y5, y6, y7, y8, y9, y10, y11⟩ := w.s
  have e : ∀ j, mh_i h1 Sq j = mh_i h Sq j := fun j => fLy_i x (st_cy F y2 j)
  exact NMq.of ⟨⟨Sq, nb, nm, na, nx, (kp.1 q hq).trans y1, by rw [fLy_g x]; exact y2, (e 0).trans y3, (kp.2.1 21 q (by decide) (by decide) hq).trans y4, (e 3).trans y5, y6, (kp.2.1 22 q (by decide) (by decide) hq).trans y7, (e 4).trans y8, y9, fun z => ⟨(e 9).trans (y10 z).1, (e 7).trans (y10 z).2⟩, fun z => ⟨(e 11).trans (y11 z).1, by obtain ⟨g, g1, g2⟩ := (y11 z).2; exact ⟨g, (e 14).trans g1, g2⟩⟩⟩, w.k, w.v, w.c⟩
theorem NMv_k {sz a nn an nt su x : Nat} (kp : kpD p k h h1) (hq : q < p) (hx : x < 18) : NMv h1 D q kd sz a nn an nt su x = NMv h D q kd sz a nn an nt su x := by
  unfold NMv
  rw [kp.2.2.1 (18 * q + x) (by omega)]
theorem NAM_k (F : CF h) (x : fLy h h1) (kp : kpD p k h h1) (w : NAM h D m p L X) : NAM h1 D m p L X := by
  obtain ⟨⟨w1, w2⟩, w3⟩ := w
  refine ⟨⟨w1, w2⟩, ?_⟩
  rcases w3 with w3 | ⟨w3, kd, sz, a, nn, an, nt, su, y1, y2, y3⟩
  · exact Or.inl w3
  · exact Or.inr ⟨w3, kd, sz, a, nn, an, nt, su, NMq_k F x kp (by omega) y1, fun z hz => (NMv_k kp (by omega) (by omega)).trans (y2 z hz), fun z hz => (NMv_k kp (by omega) (by omega)).trans (y3 z hz)⟩
/-- fewer names -/
theorem NAM_r (w : NAM h D m p L' X') (e1 : X.nb + cnZl L ≤ X'.nb + cnZl L') (e2 : X.na + cnAl L ≤ X'.na + cnAl L') (f1 : ∀ x, x < X.nb + cnZl L → X'.nA L' x = X.nA L x) (f2 : ∀ x, x < X.na + cnAl L → X'.aA L' x = X.aA L x) : NAM h D m p L X := by
  obtain ⟨⟨w1, w2⟩, w3⟩ := w
  refine ⟨⟨by omega, by omega⟩, ?_⟩
  rcases w3 with ⟨w3, w4, w5⟩ | ⟨w3, kd, sz, a, nn, an, nt, su, y1, y2, y3⟩
  · exact Or.inl ⟨w3, by omega, by omega⟩
  · exact Or.inr ⟨w3, kd, sz, a, nn, an, nt, su, y1, fun x hx => by rw [← f1 x hx]; exact y2 x (by omega), fun x hx => by rw [← f2 x hx]; exact y3 x (by omega)⟩
/-- the head of the loop -/
theorem t_85h (C : CLC h B n m D Sf) (hm : mn < D.c) (hr : r < 1000000) (w0 : mh_i h 2 18 = 0) (k16 : mh_i h 2 16 = Int32.ofNat k) (hk : k ≤ 250) (lim : (k = 0 ∧ D.H (6 * mn + 4) = Int32.ofNat se) ∨ (0 < k ∧ LMd h D k se)) : ∀ Q, mw (d + 2) 85 Q 89 [some (.ref 2), x1, x2, some (.int (Int32.ofNat mn)), some (.int nx), some (.int (Int32.ofNat r)), x6] [] h = mw (d + 2) 85 Q 139 [some (.ref 2), x1, x2, some (.int (Int32.ofNat mn)), some (.int nx), some (.int (Int32.ofNat r)), some (.int (Int32.ofNat se))] [] h := by
  intro Q
  have F := C.F
  have g2 := F.g 2 4 20 (by decide +kernel)
  have t14 := F.f 2 14 31 (by decide +kernel)
  have g31 := F.g 31 100 250 (by decide +kernel)
  have l31 := F.l 31 100 250 (by decide +kernel)
  have sr := C.s.1
  have srg := C.s.2.1
  have m1 : (1000000 ≤ Int32.ofNat r) = False := by
    rw [show (1000000 : Int32) = Int32.ofNat 1000000 from rfl, nn_le (by omega) (by omega)]
    exact eq_false (by omega)
  have z0 : ((0 : Int32) = 0) = True := eq_true rfl
  have kz : (Int32.ofNat k = 0) = (k = 0) := nn_eq (a := k) (b := 0) (by omega) (by decide)
  rcases lim with ⟨c1, c2⟩ | ⟨c1, c2⟩
  · have kz' := kz.trans (eq_true c1)
    have a0 := c_137L (d := d + 1) C (f := mn) (x := 4) (x' := 4) rfl hm (by decide)
    rw [c2] at a0
    clear C F
    rw [s_85_89]
    simp (disch := omega) only [s_85_0, s_85_1, s_85_2, s_85_2n, s_85_5, s_85_6, s_85_7, s_85_7n, s_85_10, s_85_11, s_85_12, s_85_15, s_85_16, s_85_17, s_85_20, s_85_21, s_85_22, s_85_25, s_85_26, s_85_27, s_85_30, s_85_31, s_85_34, s_85_37, s_85_38, s_85_39, s_85_40, s_85_41, s_85_44, s_85_45, s_85_46, s_85_49, s_85_52, s_85_53, s_85_55, s_85_56, s_85_59, s_85_62, s_85_63, s_85_66, s_85_67, s_85_68, s_85_71, s_85_71x, s_85_72, s_85_75, s_85_76, s_85_79, s_85_80, s_85_81, s_85_84, s_85_86, s_85_87, s_85_91, s_85_93, s_85_96, s_85_97, s_85_100, s_85_103, s_85_104, s_85_107, s_85_110, s_85_111, s_85_114, s_85_115, s_85_116, s_85_119, s_85_122, s_85_123, s_85_124, s_85_127, s_85_128, s_85_131, s_85_132, s_85_133, s_85_133x, s_85_134, s_85_137, s_85_141, s_85_143, s_85_146, s_85_147, s_85_148, s_85_151, s_85_154, s_85_156, s_85_157, s_85_160, s_85_162, s_85_165, s_85_166, s_85_169, s_85_172, s_85_173, s_85_175, s_85_178, s_85_180, s_85_183, s_85_184, s_85_187, s_85_188, s_85_191, s_85_192, s_85_193, s_85_196, s_85_199, s_85_200, e_85, mv_i_1, mv_l_1, mv_a_1, mv_a_2, mv_a_3, mk2_n, mk2_i, mk2_l, mk2_a, mk2_u, mk2_x, mB_T, mB_F, mS_cons, mS_nil, mSB_T, mSB_F, mca_nil, mca_i, mca_l, mca_r, mca_u, mca_x, mcat_i, mcat_l, mcat_r, mcat_u, mcat_x, mK_some, mK_none, va_rf_s, va_rf_n, lgc_eq, lgc_lt, lgc_gt, lgc_ge, lgc_le, mrd_104, mrd_105, mrd_106, mrd_107, true_and, and_true, and_self, false_and, and_false, true_or, or_true, false_or, or_false, not_true_eq_false, not_false_eq_true, mgb, mga, mgr, mN, reduceCtorEq, ↓reduceIte, eq_self, ge_iff_le, gt_iff_lt, Nat.reduceAdd, Nat.reduceMul, Nat.reduceSub, Nat.reduceLT, Nat.reduceGT, Nat.reduceEqDiff, Nat.reduceLeDiff, Nat.left_eq_add, Nat.add_eq_left, Nat.reduceMod, Nat.reduceDiv, Nat.succ_ne_self, g2, m1, w0, z0, k16, kz', sr, srg, a0]
  · have kz' := kz.trans (eq_false (by omega))
    have es : Int32.ofNat k - 1 = Int32.ofNat (k - 1) := nn_sub (a := k) (b := 1) (by omega)
    have a0 := c_87 (d := d) C k16 c1 hk c2
    clear C F c2
    rw [s_85_89]
    simp (disch := omega) only [s_85_0, s_85_1, s_85_2, s_85_2n, s_85_5, s_85_6, s_85_7, s_85_7n, s_85_10, s_85_11, s_85_12, s_85_15, s_85_16, s_85_17, s_85_20, s_85_21, s_85_22, s_85_25, s_85_26, s_85_27, s_85_30, s_85_31, s_85_34, s_85_37, s_85_38, s_85_39, s_85_40, s_85_41, s_85_44, s_85_45, s_85_46, s_85_49, s_85_52, s_85_53, s_85_55, s_85_56, s_85_59, s_85_62, s_85_63, s_85_66, s_85_67, s_85_68, s_85_71, s_85_71x, s_85_72, s_85_75, s_85_76, s_85_79, s_85_80, s_85_81, s_85_84, s_85_86, s_85_87, s_85_91, s_85_93, s_85_96, s_85_97, s_85_100, s_85_103, s_85_104, s_85_107, s_85_110, s_85_111, s_85_114, s_85_115, s_85_116, s_85_119, s_85_122, s_85_123, s_85_124, s_85_127, s_85_128, s_85_131, s_85_132, s_85_133, s_85_133x, s_85_134, s_85_137, s_85_141, s_85_143, s_85_146, s_85_147, s_85_148, s_85_151, s_85_154, s_85_156, s_85_157, s_85_160, s_85_162, s_85_165, s_85_166, s_85_169, s_85_172, s_85_173, s_85_175, s_85_178, s_85_180, s_85_183, s_85_184, s_85_187, s_85_188, s_85_191, s_85_192, s_85_193, s_85_196, s_85_199, s_85_200, e_85, mv_i_1, mv_l_1, mv_a_1, mv_a_2, mv_a_3, mk2_n, mk2_i, mk2_l, mk2_a, mk2_u, mk2_x, mB_T, mB_F, mS_cons, mS_nil, mSB_T, mSB_F, mca_nil, mca_i, mca_l, mca_r, mca_u, mca_x, mcat_i, mcat_l, mcat_r, mcat_u, mcat_x, mK_some, mK_none, va_rf_s, va_rf_n, lgc_eq, lgc_lt, lgc_gt, lgc_ge, lgc_le, mrd_104, mrd_105, mrd_106, mrd_107, true_and, and_true, and_self, false_and, and_false, true_or, or_true, false_or, or_false, not_true_eq_false, not_false_eq_true, mgb, mga, mgr, mN, reduceCtorEq, ↓reduceIte, eq_self, ge_iff_le, gt_iff_lt, Nat.reduceAdd, Nat.reduceMul, Nat.reduceSub, Nat.reduceLT, Nat.reduceGT, Nat.reduceEqDiff, Nat.reduceLeDiff, Nat.left_eq_add, Nat.add_eq_left, Nat.reduceMod, Nat.reduceDiv, Nat.succ_ne_self, g2, m1, w0, z0, k16, kz', es, t14, g31, l31, a0, nn_mxT, nn_clamp]
/-- a statement is laid -/
theorem t_85s (C : CLC h B n m D Sf) (hs : s < se) (hse : s < Sf.1 8) (hb : se < 1000000) (run : ∀ Q, mcall (d + 1) 89 [.ref 2, .ref (B + (24 + s))] h Q = Q (some (.int v)) h1) : ∀ Q, mw (d + 2) 85 Q 139 [some (.ref 2), x1, x2, some (.int (Int32.ofNat mn)), some (.int (Int32.ofNat s)), some (.int (Int32.ofNat r)), some (.int (Int32.ofNat se))] [] h = mw (d + 2) 85 Q 89 [some (.ref 2), x1, x2, some (.int (Int32.ofNat mn)), some (.int v), some (.int (Int32.ofNat (r + 1))), some (.int (Int32.ofNat se))] [] h1 := by
  intro Q
  have F := C.F
  have g2 := F.g 2 4 20 (by decide +kernel)
  have g2' : mg h 2 4 := g2
  obtain ⟨s1, s2, s3, s4, s5⟩ := C.s
  have hd := C.d
  have s4a := s4.1
  have s4b := s4.2
  obtain ⟨q1, q2, q3⟩ := C.q s hse
  have le : (se ≤ s) = False := eq_false (by omega)
  have e1' : ∀ k, Int32.ofNat k + 1 = Int32.ofNat (k + 1) := fun k => nn_add (a := k) (b := 1)
  clear C F
  simp (disch := omega) only [s_85_0, s_85_1, s_85_2, s_85_2n, s_85_5, s_85_6, s_85_7, s_85_7n, s_85_10, s_85_11, s_85_12, s_85_15, s_85_16, s_85_17, s_85_20, s_85_21, s_85_22, s_85_25, s_85_26, s_85_27, s_85_30, s_85_31, s_85_34, s_85_37, s_85_38, s_85_39, s_85_40, s_85_41, s_85_44, s_85_45, s_85_46, s_85_49, s_85_52, s_85_53, s_85_55, s_85_56, s_85_59, s_85_62, s_85_63, s_85_66, s_85_67, s_85_68, s_85_71, s_85_71x, s_85_72, s_85_75, s_85_76, s_85_79, s_85_80, s_85_81, s_85_84, s_85_86, s_85_87, s_85_91, s_85_93, s_85_96, s_85_97, s_85_100, s_85_103, s_85_104, s_85_107, s_85_110, s_85_111, s_85_114, s_85_115, s_85_116, s_85_119, s_85_122, s_85_123, s_85_124, s_85_127, s_85_128, s_85_131, s_85_132, s_85_133, s_85_133x, s_85_134, s_85_137, s_85_139, s_85_141, s_85_143, s_85_146, s_85_147, s_85_148, s_85_151, s_85_154, s_85_156, s_85_157, s_85_160, s_85_162, s_85_165, s_85_166, s_85_169, s_85_172, s_85_173, s_85_175, s_85_178, s_85_180, s_85_183, s_85_184, s_85_187, s_85_188, s_85_191, s_85_192, s_85_193, s_85_196, s_85_199, s_85_200, e_85, mv_i_1, mv_l_1, mv_a_1, mv_a_2, mv_a_3, mk2_n, mk2_i, mk2_l, mk2_a, mk2_u, mk2_x, mB_T, mB_F, mS_cons, mS_nil, mSB_T, mSB_F, mca_nil, mca_i, mca_l, mca_r, mca_u, mca_x, mcat_i, mcat_l, mcat_r, mcat_u, mcat_x, mK_some, mK_none, va_rf_s, va_rf_n, lgc_eq, lgc_lt, lgc_gt, lgc_ge, lgc_le, mrd_104, mrd_105, mrd_106, mrd_107, true_and, and_true, and_self, false_and, and_false, true_or, or_true, false_or, or_false, not_true_eq_false, not_false_eq_true, mgb, mga, mgr, mN, reduceCtorEq, ↓reduceIte, eq_self, ge_iff_le, gt_iff_lt, Nat.reduceAdd, Nat.reduceMul, Nat.reduceSub, Nat.reduceLT, Nat.reduceGT, Nat.reduceEqDiff, Nat.reduceLeDiff, Nat.left_eq_add, Nat.add_eq_left, Nat.reduceMod, Nat.reduceDiv, Nat.succ_ne_self, g2, nn_le, le, s1, s2, s3, s4, s4a, s4b, s5, q1, run, e1', nn_mxT, nn_clamp]
/-- a BLOCK is shut -/
theorem t_85b (F : CF h) (hs : se ≤ s) (hb : s < 1000000) (k16 : mh_i h 2 16 = Int32.ofNat k) (hk : 0 < k) (hk2 : k ≤ 250) (run : ∀ Q, mcall (d + 1) 88 [.ref 2, .int (Int32.ofNat s)] h Q = Q (some (.int v)) h1) : ∀ Q, mw (d + 2) 85 Q 139 [some (.ref 2), x1, x2, some (.int (Int32.ofNat mn)), some (.int (Int32.ofNat s)), some (.int (Int32.ofNat r)), some (.int (Int32.ofNat se))] [] h = mw (d + 2) 85 Q 89 [some (.ref 2), x1, x2, some (.int (Int32.ofNat mn)), some (.int v), some (.int (Int32.ofNat (r + 1))), some (.int (Int32.ofNat se))] [] h1 := by
  intro Q
  have g2 := F.g 2 4 20 (by decide +kernel)
  have le : (se ≤ s) = True := eq_true hs
  have lk : (Int32.ofNat k ≤ 0) = False := (nn_le (a := k) (b := 0) (by omega) (by decide)).trans (eq_false (by omega))
  have e1' : ∀ k, Int32.ofNat k + 1 = Int32.ofNat (k + 1) := fun k => nn_add (a := k) (b := 1)
  clear F
  simp (disch := omega) only [s_85_0, s_85_1, s_85_2, s_85_2n, s_85_5, s_85_6, s_85_7, s_85_7n, s_85_10, s_85_11, s_85_12, s_85_15, s_85_16, s_85_17, s_85_20, s_85_21, s_85_22, s_85_25, s_85_26, s_85_27, s_85_30, s_85_31, s_85_34, s_85_37, s_85_38, s_85_39, s_85_40, s_85_41, s_85_44, s_85_45, s_85_46, s_85_49, s_85_52, s_85_53, s_85_55, s_85_56, s_85_59, s_85_62, s_85_63, s_85_66, s_85_67, s_85_68, s_85_71, s_85_71x, s_85_72, s_85_75, s_85_76, s_85_79, s_85_80, s_85_81, s_85_84, s_85_86, s_85_87, s_85_91, s_85_93, s_85_96, s_85_97, s_85_100, s_85_103, s_85_104, s_85_107, s_85_110, s_85_111, s_85_114, s_85_115, s_85_116, s_85_119, s_85_122, s_85_123, s_85_124, s_85_127, s_85_128, s_85_131, s_85_132, s_85_133, s_85_133x, s_85_134, s_85_137, s_85_139, s_85_141, s_85_143, s_85_146, s_85_147, s_85_148, s_85_151, s_85_154, s_85_156, s_85_157, s_85_160, s_85_162, s_85_165, s_85_166, s_85_169, s_85_172, s_85_173, s_85_175, s_85_178, s_85_180, s_85_183, s_85_184, s_85_187, s_85_188, s_85_191, s_85_192, s_85_193, s_85_196, s_85_199, s_85_200, e_85, mv_i_1, mv_l_1, mv_a_1, mv_a_2, mv_a_3, mk2_n, mk2_i, mk2_l, mk2_a, mk2_u, mk2_x, mB_T, mB_F, mS_cons, mS_nil, mSB_T, mSB_F, mca_nil, mca_i, mca_l, mca_r, mca_u, mca_x, mcat_i, mcat_l, mcat_r, mcat_u, mcat_x, mK_some, mK_none, va_rf_s, va_rf_n, lgc_eq, lgc_lt, lgc_gt, lgc_ge, lgc_le, mrd_104, mrd_105, mrd_106, mrd_107, true_and, and_true, and_self, false_and, and_false, true_or, or_true, false_or, or_false, not_true_eq_false, not_false_eq_true, mgb, mga, mgr, mN, reduceCtorEq, ↓reduceIte, eq_self, ge_iff_le, gt_iff_lt, Nat.reduceAdd, Nat.reduceMul, Nat.reduceSub, Nat.reduceLT, Nat.reduceGT, Nat.reduceEqDiff, Nat.reduceLeDiff, Nat.left_eq_add, Nat.add_eq_left, Nat.reduceMod, Nat.reduceDiv, Nat.succ_ne_self, g2, nn_le, le, k16, lk, run, e1']
/-- something is wrong -/
theorem t_85x (F : CF h) (w : ¬ mh_i h 2 18 = 0) : ∀ Q, mw (d + 2) 85 Q 89 [some (.ref 2), x1, x2, some (.int (Int32.ofNat mn)), some (.int nx), some (.int (Int32.ofNat r)), x6] [] h = Q (some (.int 0)) h := by
  intro Q
  have g2 := F.g 2 4 20 (by decide +kernel)
  have w' := eq_false w
  clear F
  rw [s_85_89]
  by_cases c : 1000000 ≤ Int32.ofNat r
  · have c' := eq_true c
    simp (disch := omega) only [s_85_0, s_85_1, s_85_2, s_85_2n, s_85_5, s_85_6, s_85_7, s_85_7n, s_85_10, s_85_11, s_85_12, s_85_15, s_85_16, s_85_17, s_85_20, s_85_21, s_85_22, s_85_25, s_85_26, s_85_27, s_85_30, s_85_31, s_85_34, s_85_37, s_85_38, s_85_39, s_85_40, s_85_41, s_85_44, s_85_45, s_85_46, s_85_49, s_85_52, s_85_53, s_85_55, s_85_56, s_85_59, s_85_62, s_85_63, s_85_66, s_85_67, s_85_68, s_85_71, s_85_71x, s_85_72, s_85_75, s_85_76, s_85_79, s_85_80, s_85_81, s_85_84, s_85_86, s_85_87, s_85_91, s_85_93, s_85_96, s_85_97, s_85_100, s_85_103, s_85_104, s_85_107, s_85_110, s_85_111, s_85_114, s_85_115, s_85_116, s_85_119, s_85_122, s_85_123, s_85_124, s_85_127, s_85_128, s_85_131, s_85_132, s_85_133, s_85_133x, s_85_134, s_85_137, s_85_139, s_85_141, s_85_143, s_85_146, s_85_147, s_85_148, s_85_151, s_85_154, s_85_156, s_85_157, s_85_160, s_85_162, s_85_165, s_85_166, s_85_169, s_85_172, s_85_173, s_85_175, s_85_178, s_85_180, s_85_183, s_85_184, s_85_187, s_85_188, s_85_191, s_85_192, s_85_193, s_85_196, s_85_199, s_85_200, e_85, mv_i_1, mv_l_1, mv_a_1, mv_a_2, mv_a_3, mk2_n, mk2_i, mk2_l, mk2_a, mk2_u, mk2_x, mB_T, mB_F, mS_cons, mS_nil, mSB_T, mSB_F, mca_nil, mca_i, mca_l, mca_r, mca_u, mca_x, mcat_i, mcat_l, mcat_r, mcat_u, mcat_x, mK_some, mK_none, va_rf_s, va_rf_n, lgc_eq, lgc_lt, lgc_gt, lgc_ge, lgc_le, mrd_104, mrd_105, mrd_106, mrd_107, true_and, and_true, and_self, false_and, and_false, true_or, or_true, false_or, or_false, not_true_eq_false, not_false_eq_true, mgb, mga, mgr, mN, reduceCtorEq, ↓reduceIte, eq_self, ge_iff_le, gt_iff_lt, Nat.reduceAdd, Nat.reduceMul, Nat.reduceSub, Nat.reduceLT, Nat.reduceGT, Nat.reduceEqDiff, Nat.reduceLeDiff, Nat.left_eq_add, Nat.add_eq_left, Nat.reduceMod, Nat.reduceDiv, Nat.succ_ne_self, g2, c']
  · have c' := eq_false c
    simp (disch := omega) only [s_85_0, s_85_1, s_85_2, s_85_2n, s_85_5, s_85_6, s_85_7, s_85_7n, s_85_10, s_85_11, s_85_12, s_85_15, s_85_16, s_85_17, s_85_20, s_85_21, s_85_22, s_85_25, s_85_26, s_85_27, s_85_30, s_85_31, s_85_34, s_85_37, s_85_38, s_85_39, s_85_40, s_85_41, s_85_44, s_85_45, s_85_46, s_85_49, s_85_52, s_85_53, s_85_55, s_85_56, s_85_59, s_85_62, s_85_63, s_85_66, s_85_67, s_85_68, s_85_71, s_85_71x, s_85_72, s_85_75, s_85_76, s_85_79, s_85_80, s_85_81, s_85_84, s_85_86, s_85_87, s_85_91, s_85_93, s_85_96, s_85_97, s_85_100, s_85_103, s_85_104, s_85_107, s_85_110, s_85_111, s_85_114, s_85_115, s_85_116, s_85_119, s_85_122, s_85_123, s_85_124, s_85_127, s_85_128, s_85_131, s_85_132, s_85_133, s_85_133x, s_85_134, s_85_137, s_85_139, s_85_141, s_85_143, s_85_146, s_85_147, s_85_148, s_85_151, s_85_154, s_85_156, s_85_157, s_85_160, s_85_162, s_85_165, s_85_166, s_85_169, s_85_172, s_85_173, s_85_175, s_85_178, s_85_180, s_85_183, s_85_184, s_85_187, s_85_188, s_85_191, s_85_192, s_85_193, s_85_196, s_85_199, s_85_200, e_85, mv_i_1, mv_l_1, mv_a_1, mv_a_2, mv_a_3, mk2_n, mk2_i, mk2_l, mk2_a, mk2_u, mk2_x, mB_T, mB_F, mS_cons, mS_nil, mSB_T, mSB_F, mca_nil, mca_i, mca_l, mca_r, mca_u, mca_x, mcat_i, mcat_l, mcat_r, mcat_u, mcat_x, mK_some, mK_none, va_rf_s, va_rf_n, lgc_eq, lgc_lt, lgc_gt, lgc_ge, lgc_le, mrd_104, mrd_105, mrd_106, mrd_107, true_and, and_true, and_self, false_and, and_false, true_or, or_true, false_or, or_false, not_true_eq_false, not_false_eq_true, mgb, mga, mgr, mN, reduceCtorEq, ↓reduceIte, eq_self, ge_iff_le, gt_iff_lt, Nat.reduceAdd, Nat.reduceMul, Nat.reduceSub, Nat.reduceLT, Nat.reduceGT, Nat.reduceEqDiff, Nat.reduceLeDiff, Nat.left_eq_add, Nat.add_eq_left, Nat.reduceMod, Nat.reduceDiv, Nat.succ_ne_self, g2, c', w']
end TUl
