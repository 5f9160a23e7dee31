set_option maxRecDepth 100000
/-! the reference's run -/
section SCs
variable {en : Int → Nat} {V P N : Nat → Int32} {g n a : Nat} {rm : Nat → Nat}
theorem s_z_c {q : xr} {f : Int → Nat → so5} {c e : Nat} (h1 : q.2.2 ≤ c) (h2 : ∀ v, (f v q.2.2).c ≤ q.2.2 + e) : (s_z V P q f).c ≤ c + e := by
  unfold s_z
  cases q.1 with
  | none => show q.2.2 ≤ c + e; omega
  | some v => have := h2 v; show (f v q.2.2).c ≤ c + e; omega
theorem s_y_c {q : yr} {f : Bool → Nat → so5} {c e : Nat} (h1 : q.2.2 ≤ c) (h2 : ∀ v, (f v q.2.2).c ≤ q.2.2 + e) : (s_y V P q f).c ≤ c + e := by
  unfold s_y
  cases q.1 with
  | none => show q.2.2 ≤ c + e; omega
  | some v => have := h2 v; show (f v q.2.2).c ≤ c + e; omega
theorem s_row_c : ∀ t k c W, (s_row en V P rm N g t k c W).c ≤ c + ts t := by
  intro t
  induction t with
  | leaf u => exact fun _ c _ => Nat.le_add_right _ _
  | branch m cs r _ ih =>
    intro k c W
    have e : s_row en V P rm N g (.branch m cs r) k c W = s_z V P (xv en V P rm N g (.branch m cs r) none c) (fun v c' => s_row en V P rm N g r (k + 1) c' (s_up W k v)) := rfl
    rw [e]
    have x := (xv_c2 (en := en) (V := V) (P := P) (rm := rm) (N := N) (g := g) (.branch m cs r)).1 c
    have tT' : tT (.branch m cs r) = r := rfl
    rw [tT', ts_B] at x
    have z := s_z_c (V := V) (P := P) (f := fun v c' => s_row en V P rm N g r (k + 1) c' (s_up W k v)) (e := ts r) x (fun v => ih _ _ _)
    rw [ts_B]
    omega
theorem s_st_c {t : tr} {x : Nat} {tk : Option Nat} {c k : Nat} : (s_st en t x tk n a rm N g V P c k).c ≤ c + 2 * ts t := by
  have xc := xv_c (en := en) (V := V) (P := P) (rm := rm) (N := N) (g := g) (t := t) (c := c)
  have tl' : ts (tT t) ≤ ts t := by
    cases t with
    | leaf _ => exact Nat.le_refl _
    | branch x1 x2 x3 => rw [ts_B]; show ts x3 ≤ _; omega
  have hc := xh_c (en := en) (V := V) (P := P) (A := A0 n a rm) (N := N) (k := g) t false false c
  have rm' : (A0 n a rm).rm = rm := rfl
  rw [if_neg (by decide), rm'] at hc
  unfold s_st
  split
  · have := s_z_c (V := V) (P := P) (f := fun v c' => ((0, c', s_up V n v, P, true) : so5)) (e := 0) xc (fun _ => Nat.le_refl _); omega
  split
  · exact Nat.le_add_right _ _
  split
  · exact Nat.le_add_right _ _
  split
  · have := s_z_c (V := V) (P := P) (f := fun v c' => ((0, c', s_up V x v, P, true) : so5)) (e := 0) xc (fun _ => Nat.le_refl _); omega
  split
  · have := s_z_c (V := V) (P := P) (f := fun i c' => if i < 0 ∨ (rm x : Int) ≤ i then ((4, c', V, P, true) : so5) else s_z V P (xv en V P rm N g (tT t) none c') (fun v c' => (0, c', V, s_up P (64 * x + i.toNat) v, true))) (e := ts (tT t)) xc (fun i => by
      show (if i < 0 ∨ _ ≤ i then _ else _ : so5).c ≤ _
      split
      · exact Nat.le_add_right _ _
      · have z := s_z_c (V := V) (P := P) (f := fun v c' => ((0, c', V, s_up P (64 * x + i.toNat) v, true) : so5)) (e := 0) (xv_c (en := en) (V := V) (P := P) (rm := rm) (N := N) (g := g) (t := tT t) (c := (xv en V P rm N g t none c).2.2)) (fun _ => Nat.le_refl _)
        omega)
    omega
  split
  · have := s_row_c (en := en) (V := V) (P := P) (rm := rm) (N := N) (g := g) t n c V; omega
  split
  · have := s_y_c (V := V) (P := P) (f := fun b c' => ((0, c', V, P, b) : so5)) (e := 0) hc (fun _ => Nat.le_refl _); omega
  split
  · have := s_y_c (V := V) (P := P) (f := fun b c' => ((if b = true then 0 else 8, c', V, P, true) : so5)) (e := 0) hc (fun _ => Nat.le_refl _); omega
  · exact Nat.le_trans (s_z_c (e := 0) xc (fun _ => Nat.le_refl _)) (by omega)
end SCs
def rvW (b j : Nat) : Prop := b = 2640 ∨ b = 2641 ∨ b = 2642 ∨ (b = 81 ∧ (j = 54 ∨ j = 55 ∨ (64 ≤ j ∧ j ≤ 68)))
theorem rv_rd : ∀ b j, rdW b j → rvW b j := fun b j z => by unfold rdW at z; unfold rvW; omega
/-- what stays through a run -/
def RRI (h : mh_H) (G : pgm) (J : pin) (ap : Nat → Int → Nat) (cnt gv : Nat) (kn cl : Nat → Option ab) (fst oth : Nat → Nat) (al : Nat → Int32) : Prop := (RF h) ∧ (mh_i h 81 33 = Int32.ofNat cnt ∧ 1 ≤ cnt ∧ cnt ≤ 250) ∧ (mh_i h 81 60 = Int32.ofNat gv ∧ gv ≤ 1000) ∧ (∀ p, p + 1 < cnt → RPT h p (J.sN p) (J.en p) (ap p) (G.n p) (G.a p) (G.rm p) (J.c p) (J.t p) (J.x p) (J.tk p) cnt (fst p) (oth p)) ∧ (∀ p, p + 1 < cnt → MTT h p (J.sN p) (J.en p) (ap p)) ∧ (∀ q, q < cnt → RK h (132 + 10 * q) (kn q)) ∧ (∀ q, q < cnt → RK h (137 + 10 * q) (cl q)) ∧ (CSH G cnt kn) ∧ (CSH G cnt cl) ∧ (∀ q, q < cnt → mh_i h 118 q = al q) ∧ (∀ p, p + 1 < cnt → th (J.t p) ≤ 300 ∧ ts (J.t p) ≤ 26000 ∧ 1 ≤ J.c p ∧ J.c p ≤ 9) ∧ (∀ p, p < cnt → G.n p ≤ 12 ∧ G.a p ≤ 6)
theorem RRI.of {h : mh_H} {G : pgm} {J : pin} {ap : Nat → Int → Nat} {cnt gv : Nat} {kn cl : Nat → Option ab} {fst oth : Nat → Nat} {al : Nat → Int32} (q : (RF h) ∧ (mh_i h 81 33 = Int32.ofNat cnt ∧ 1 ≤ cnt ∧ cnt ≤ 250) ∧ (mh_i h 81 60 = Int32.ofNat gv ∧ gv ≤ 1000) ∧ (∀ p, p + 1 < cnt → RPT h p (J.sN p) (J.en p) (ap p) (G.n p) (G.a p) (G.rm p) (J.c p) (J.t p) (J.x p) (J.tk p) cnt (fst p) (oth p)) ∧ (∀ p, p + 1 < cnt → MTT h p (J.sN p) (J.en p) (ap p)) ∧ (∀ q, q < cnt → RK h (132 + 10 * q) (kn q)) ∧ (∀ q, q < cnt → RK h (137 + 10 * q) (cl q)) ∧ (CSH G cnt kn) ∧ (CSH G cnt cl) ∧ (∀ q, q < cnt → mh_i h 118 q = al q) ∧ (∀ p, p + 1 < cnt → th (J.t p) ≤ 300 ∧ ts (J.t p) ≤ 26000 ∧ 1 ≤ J.c p ∧ J.c p ≤ 9) ∧ (∀ p, p < cnt → G.n p ≤ 12 ∧ G.a p ≤ 6)) : RRI h G J ap cnt gv kn cl fst oth al := q
theorem RRI.F {h : mh_H} {G : pgm} {J : pin} {ap : Nat → Int → Nat} {cnt gv : Nat} {kn cl : Nat → Option ab} {fst oth : Nat → Nat} {al : Nat → Int32} (q : RRI h G J ap cnt gv kn cl fst oth al) : RF h := q.1
theorem RRI.c {h : mh_H} {G : pgm} {J : pin} {ap : Nat → Int → Nat} {cnt gv : Nat} {kn cl : Nat → Option ab} {fst oth : Nat → Nat} {al : Nat → Int32} (q : RRI h G J ap cnt gv kn cl fst oth al) : mh_i h 81 33 = Int32.ofNat cnt ∧ 1 ≤ cnt ∧ cnt ≤ 250 := q.2.1
theorem RRI.g {h : mh_H} {G : pgm} {J : pin} {ap : Nat → Int → Nat} {cnt gv : Nat} {kn cl : Nat → Option ab} {fst oth : Nat → Nat} {al : Nat → Int32} (q : RRI h G J ap cnt gv kn cl fst oth al) : mh_i h 81 60 = Int32.ofNat gv ∧ gv ≤ 1000 := q.2.2.1
theorem RRI.t {h : mh_H} {G : pgm} {J : pin} {ap : Nat → Int → Nat} {cnt gv : Nat} {kn cl : Nat → Option ab} {fst oth : Nat → Nat} {al : Nat → Int32} (q : RRI h G J ap cnt gv kn cl fst oth al) : ∀ p, p + 1 < cnt → RPT h p (J.sN p) (J.en p) (ap p) (G.n p) (G.a p) (G.rm p) (J.c p) (J.t p) (J.x p) (J.tk p) cnt (fst p) (oth p) := q.2.2.2.1
theorem RRI.m {h : mh_H} {G : pgm} {J : pin} {ap : Nat → Int → Nat} {cnt gv : Nat} {kn cl : Nat → Option ab} {fst oth : Nat → Nat} {al : Nat → Int32} (q : RRI h G J ap cnt gv kn cl fst oth al) : ∀ p, p + 1 < cnt → MTT h p (J.sN p) (J.en p) (ap p) := q.2.2.2.2.1
theorem RRI.k {h : mh_H} {G : pgm} {J : pin} {ap : Nat → Int → Nat} {cnt gv : Nat} {kn cl : Nat → Option ab} {fst oth : Nat → Nat} {al : Nat → Int32} (q : RRI h G J ap cnt gv kn cl fst oth al) : ∀ q, q < cnt → RK h (132 + 10 * q) (kn q) := q.2.2.2.2.2.1
theorem RRI.l {h : mh_H} {G : pgm} {J : pin} {ap : Nat → Int → Nat} {cnt gv : Nat} {kn cl : Nat → Option ab} {fst oth : Nat → Nat} {al : Nat → Int32} (q : RRI h G J ap cnt gv kn cl fst oth al) : ∀ q, q < cnt → RK h (137 + 10 * q) (cl q) := q.2.2.2.2.2.2.1
theorem RRI.s {h : mh_H} {G : pgm} {J : pin} {ap : Nat → Int → Nat} {cnt gv : Nat} {kn cl : Nat → Option ab} {fst oth : Nat → Nat} {al : Nat → Int32} (q : RRI h G J ap cnt gv kn cl fst oth al) : CSH G cnt kn := q.2.2.2.2.2.2.2.1
theorem RRI.u {h : mh_H} {G : pgm} {J : pin} {ap : Nat → Int → Nat} {cnt gv : Nat} {kn cl : Nat → Option ab} {fst oth : Nat → Nat} {al : Nat → Int32} (q : RRI h G J ap cnt gv kn cl fst oth al) : CSH G cnt cl := q.2.2.2.2.2.2.2.2.1
theorem RRI.a {h : mh_H} {G : pgm} {J : pin} {ap : Nat → Int → Nat} {cnt gv : Nat} {kn cl : Nat → Option ab} {fst oth : Nat → Nat} {al : Nat → Int32} (q : RRI h G J ap cnt gv kn cl fst oth al) : ∀ q, q < cnt → mh_i h 118 q = al q := q.2.2.2.2.2.2.2.2.2.1
theorem RRI.d {h : mh_H} {G : pgm} {J : pin} {ap : Nat → Int → Nat} {cnt gv : Nat} {kn cl : Nat → Option ab} {fst oth : Nat → Nat} {al : Nat → Int32} (q : RRI h G J ap cnt gv kn cl fst oth al) : ∀ p, p + 1 < cnt → th (J.t p) ≤ 300 ∧ ts (J.t p) ≤ 26000 ∧ 1 ≤ J.c p ∧ J.c p ≤ 9 := q.2.2.2.2.2.2.2.2.2.2.1
theorem RRI.n {h : mh_H} {G : pgm} {J : pin} {ap : Nat → Int → Nat} {cnt gv : Nat} {kn cl : Nat → Option ab} {fst oth : Nat → Nat} {al : Nat → Int32} (q : RRI h G J ap cnt gv kn cl fst oth al) : ∀ p, p < cnt → G.n p ≤ 12 ∧ G.a p ≤ 6 := q.2.2.2.2.2.2.2.2.2.2.2
/-- the reference at a pure state of the run -/
def RRS (h : mh_H) (s : rst) : Prop := (mh_i h 81 64 = Int32.ofNat s.p) ∧ (mh_i h 81 67 = Int32.ofNat s.c) ∧ (mh_i h 81 68 = s.w) ∧ (mh_i h 81 54 = s.o) ∧ (mh_i h 81 65 = Int32.ofNat s.d) ∧ (mh_i h 2640 = s.V) ∧ (mh_i h 2641 = s.P) ∧ (s.w = 0 ∨ 0 < s.w)
theorem RRS.of {h : mh_H} {s : rst} (q : (mh_i h 81 64 = Int32.ofNat s.p) ∧ (mh_i h 81 67 = Int32.ofNat s.c) ∧ (mh_i h 81 68 = s.w) ∧ (mh_i h 81 54 = s.o) ∧ (mh_i h 81 65 = Int32.ofNat s.d) ∧ (mh_i h 2640 = s.V) ∧ (mh_i h 2641 = s.P) ∧ (s.w = 0 ∨ 0 < s.w)) : RRS h s := q
theorem RRS.p {h : mh_H} {s : rst} (q : RRS h s) : mh_i h 81 64 = Int32.ofNat s.p := q.1
theorem RRS.c {h : mh_H} {s : rst} (q : RRS h s) : mh_i h 81 67 = Int32.ofNat s.c := q.2.1
theorem RRS.w {h : mh_H} {s : rst} (q : RRS h s) : mh_i h 81 68 = s.w := q.2.2.1
theorem RRS.o {h : mh_H} {s : rst} (q : RRS h s) : mh_i h 81 54 = s.o := q.2.2.2.1
theorem RRS.d {h : mh_H} {s : rst} (q : RRS h s) : mh_i h 81 65 = Int32.ofNat s.d := q.2.2.2.2.1
theorem RRS.V {h : mh_H} {s : rst} (q : RRS h s) : mh_i h 2640 = s.V := q.2.2.2.2.2.1
theorem RRS.P {h : mh_H} {s : rst} (q : RRS h s) : mh_i h 2641 = s.P := q.2.2.2.2.2.2.1
theorem RRS.q {h : mh_H} {s : rst} (q : RRS h s) : s.w = 0 ∨ 0 < s.w := q.2.2.2.2.2.2.2
section RHs
variable {d : Nat} {h h1 : mh_H} {gv cnt : Nat} {G : pgm} {J : pin} {ap : Nat → Int → Nat} {kn cl : Nat → Option ab} {fst oth : Nat → Nat} {al : Nat → Int32} {m tru : Bool}
theorem rvW_i (f : fG rvW h h1) {b : Nat} (hb : b ≠ 2640 ∧ b ≠ 2641 ∧ b ≠ 2642 ∧ b ≠ 81) : mh_i h1 b = mh_i h b := funext fun j => (f.2.2.2.2.2 b j (by unfold rvW; omega)).1
theorem RRI_G (f : fG rvW h h1) (R : RRI h G J ap cnt gv kn cl fst oth al) : RRI h1 G J ap cnt gv kn cl fst oth al := by
  have e : ∀ b, b = 93 ∨ b = 95 ∨ b = 96 ∨ b = 97 ∨ (100 ≤ b ∧ b ≤ 108) → mh_i h1 b = mh_i h b := fun b hb => rvW_i f (by omega)
  have i81 : ∀ j, j = 33 ∨ j = 60 → mh_i h1 81 j = mh_i h 81 j := fun j hj => (f.2.2.2.2.2 81 j (by unfold rvW; omega)).1
  have eA : afr h1 cnt = afr h cnt := by
    funext a b c
    exact propext ⟨afr_G (fun b hb => (e b (by omega)).symm) a b c, afr_G (fun b hb => e b (by omega)) a b c⟩
  refine RRI.of ⟨RF_G f R.F, ⟨by rw [i81 33 (by omega)]; exact R.c.1, R.c.2⟩, ⟨by rw [i81 60 (by omega)]; exact R.g.1, R.g.2⟩, fun p hp => ?_, fun p hp => ?_, fun q hq => RK_fz (fG_z f) (fun y hy j w => by have := R.c.2; unfold rvW at w; omega) (R.k q hq), fun q hq => RK_fz (fG_z f) (fun y hy j w => by have := R.c.2; unfold rvW at w; omega) (R.l q hq), R.s, R.u, fun q hq => by rw [rvW_i f (by omega)]; exact R.a q hq, R.d, R.n⟩
  · have w := R.t p hp
    unfold RPT glF obF at w ⊢
    rw [e 93 (by omega), e 95 (by omega), e 96 (by omega), e 97 (by omega), e 100 (by omega), e 101 (by omega), e 102 (by omega), e 103 (by omega), e 104 (by omega), e 105 (by omega), e 106 (by omega), e 107 (by omega), eA]
    exact w
  · have w := R.m p hp
    unfold MTT at w ⊢
    rw [e 105 (by omega), e 106 (by omega), e 107 (by omega), e 108 (by omega)]
    exact w
end RHs
