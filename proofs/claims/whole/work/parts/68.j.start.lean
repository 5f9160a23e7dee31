set_option maxRecDepth 100000
/-! THE START: all of the reference's side, whatever the heaps are called: hC before its loop, h behind it, hE at its end -/
section ZEs
variable {d : Nat} {hC h hE : mh_H}
/-- the heap before the loop -/
def ZC0 (hC : mh_H) : Prop := (mh_n hC = 132) ∧ (∀ t ∈ rfK, t.1 < 132 → mh_k hC t.1 = t.2.1 ∧ mh_l hC t.1 = t.2.2) ∧ (∀ t ∈ rfR, t.1 < 132 ∧ (t.1 = 115 ∨ (1 ≤ t.2.1 ∧ t.2.1 < 52)) → mh_r hC t.1 t.2.1 = some t.2.2) ∧ (mh_r hC 115 12 = some 120 ∧ mh_r hC 115 27 = some 124 ∧ mh_r hC 115 28 = some 125 ∧ mh_r hC 115 29 = some 126 ∧ mh_r hC 115 30 = some 127 ∧ mh_r hC 115 31 = some 128 ∧ mh_r hC 115 32 = some 129) ∧ (∀ j, j < 2048 → mh_r hC 119 j = none) ∧ (mh_i hC 81 49 = -1 ∧ mh_i hC 81 2 = 0 ∧ mh_i hC 81 54 = 0 ∧ mh_i hC 81 57 = 0 ∧ mh_i hC 81 60 = 0 ∧ mh_i hC 99 0 = 0)
theorem ZC0.of {hC : mh_H} (q : (mh_n hC = 132) ∧ (∀ t ∈ rfK, t.1 < 132 → mh_k hC t.1 = t.2.1 ∧ mh_l hC t.1 = t.2.2) ∧ (∀ t ∈ rfR, t.1 < 132 ∧ (t.1 = 115 ∨ (1 ≤ t.2.1 ∧ t.2.1 < 52)) → mh_r hC t.1 t.2.1 = some t.2.2) ∧ (mh_r hC 115 12 = some 120 ∧ mh_r hC 115 27 = some 124 ∧ mh_r hC 115 28 = some 125 ∧ mh_r hC 115 29 = some 126 ∧ mh_r hC 115 30 = some 127 ∧ mh_r hC 115 31 = some 128 ∧ mh_r hC 115 32 = some 129) ∧ (∀ j, j < 2048 → mh_r hC 119 j = none) ∧ (mh_i hC 81 49 = -1 ∧ mh_i hC 81 2 = 0 ∧ mh_i hC 81 54 = 0 ∧ mh_i hC 81 57 = 0 ∧ mh_i hC 81 60 = 0 ∧ mh_i hC 99 0 = 0)) : ZC0 hC := q
theorem ZC0.n {hC : mh_H} (q : ZC0 hC) : mh_n hC = 132 := q.1
theorem ZC0.K {hC : mh_H} (q : ZC0 hC) : ∀ t ∈ rfK, t.1 < 132 → mh_k hC t.1 = t.2.1 ∧ mh_l hC t.1 = t.2.2 := q.2.1
theorem ZC0.R {hC : mh_H} (q : ZC0 hC) : ∀ t ∈ rfR, t.1 < 132 ∧ (t.1 = 115 ∨ (1 ≤ t.2.1 ∧ t.2.1 < 52)) → mh_r hC t.1 t.2.1 = some t.2.2 := q.2.2.1
theorem ZC0.p {hC : mh_H} (q : ZC0 hC) : mh_r hC 115 12 = some 120 ∧ mh_r hC 115 27 = some 124 ∧ mh_r hC 115 28 = some 125 ∧ mh_r hC 115 29 = some 126 ∧ mh_r hC 115 30 = some 127 ∧ mh_r hC 115 31 = some 128 ∧ mh_r hC 115 32 = some 129 := q.2.2.2.1
theorem ZC0.s {hC : mh_H} (q : ZC0 hC) : ∀ j, j < 2048 → mh_r hC 119 j = none := q.2.2.2.2.1
theorem ZC0.i {hC : mh_H} (q : ZC0 hC) : mh_i hC 81 49 = -1 ∧ mh_i hC 81 2 = 0 ∧ mh_i hC 81 54 = 0 ∧ mh_i hC 81 57 = 0 ∧ mh_i hC 81 60 = 0 ∧ mh_i hC 99 0 = 0 := q.2.2.2.2.2
theorem ZC_0 (n : mh_n hC = 132) (K : (rfK.all fun t => decide (132 ≤ t.1) || (decide (mh_k hC t.1 = t.2.1) && decide (mh_l hC t.1 = t.2.2))) = true) (R : (rfR.all fun t => (decide (132 ≤ t.1) || (decide (t.1 ≠ 115) && (decide (t.2.1 < 1) || decide (52 ≤ t.2.1)))) || decide (mh_r hC t.1 t.2.1 = some t.2.2)) = true) (p : mh_r hC 115 12 = some 120 ∧ mh_r hC 115 27 = some 124 ∧ mh_r hC 115 28 = some 125 ∧ mh_r hC 115 29 = some 126 ∧ mh_r hC 115 30 = some 127 ∧ mh_r hC 115 31 = some 128 ∧ mh_r hC 115 32 = some 129) (s : ((List.range 2048).all fun j => decide (mh_r hC 119 j = none)) = true) (i : mh_i hC 81 49 = -1 ∧ mh_i hC 81 2 = 0 ∧ mh_i hC 81 54 = 0 ∧ mh_i hC 81 57 = 0 ∧ mh_i hC 81 60 = 0 ∧ mh_i hC 99 0 = 0) : ZC0 hC := by
  refine ZC0.of ⟨n, fun t ht lt => ?_, fun t ht w => ?_, p, fun j hj => ?_, i⟩
  · have q := List.all_eq_true.mp K t ht
    simp only [Bool.or_eq_true, Bool.and_eq_true, decide_eq_true_eq] at q
    exact q.resolve_left (by omega)
  · have q := List.all_eq_true.mp R t ht
    simp only [Bool.or_eq_true, Bool.and_eq_true, decide_eq_true_eq] at q
    exact q.resolve_left (by omega)
  · exact of_decide_eq_true (List.all_eq_true.mp s j (List.mem_range.mpr hj))
theorem zc_D (c : ZC0 hC) (eh : h = lp 116 117 250 0 hC) : mh_n h = 2632 ∧ fz (fun b j => (b = 116 ∨ b = 117) ∧ 0 ≤ j) hC h ∧ ∀ q, q < 250 → RK h (132 + 10 * q) (some A00) ∧ RK h (137 + 10 * q) (some A00) ∧ mh_r h 116 q = some (132 + 10 * q) ∧ mh_r h 117 q = some (137 + 10 * q) := by
  have cn := c.n
  obtain ⟨a1, a2, a3⟩ := lw_all (A := 116) (B := 117) (by decide) 250 0 hC (by omega) (by omega) (by decide) (by decide) (by omega)
  rw [← eh] at a1 a2 a3
  exact ⟨a1, a2, fun q hq => a3 q (Nat.zero_le _) (by omega)⟩
theorem zc_F (c : ZC0 hC) (eh : h = lp 116 117 250 0 hC) : RF (zwZ h) := by
  have cn := c.n
  obtain ⟨a1, a2, a3⟩ := zc_D c eh
  refine zz_F a1 (fun t ht lt => ?_) (fun t ht w => ?_) a3 ?_
  · obtain ⟨k1, k2⟩ := c.K t ht lt
    have g : mg hC t.1 t.2.1 := ⟨k1, by omega⟩
    exact ⟨fz_mg a2 g, (fz_l a2 g).trans k2⟩
  · have q : ∀ t ∈ rfR, t.1 = 81 ∨ t.1 = 115 := by decide +kernel
    have q' := q t ht
    rw [← c.R t ht w]
    exact (a2.2.2 t.1 t.2.1 (by omega) (fun z => by omega)).2.2
  · rw [← c.p.1]
    exact (a2.2.2 115 12 (by omega) (fun z => by omega)).2.2
/-- at its end -/
theorem zc_E (c : ZC0 hC) (eh : h = lp 116 117 250 0 hC) (w : mw (d + 5) 298 (fun _ z => z = hE) 308 [some (.ref 81)] [.ref 115, .ref 81] h) : fG noW (zwZ h) hE ∧ NOP hE := by
  have F := zc_F c eh
  obtain ⟨a1, a2, a3⟩ := zc_D c eh
  have C0 : RK (zwZ h) 137 (some A00) := RK_fz (zz_z a1) (fun y hy j => zw_no (by omega)) (a3 0 (by decide)).2.1
  obtain ⟨h', x1, x2, x3, x4, x5, x6, x7, y⟩ := u_299 (d := d) F C0
  have k81 := c.K (81, 14, 70) (by decide +kernel) (by decide)
  have cn := c.n
  have g : mg h 81 14 := fz_mg a2 ⟨k81.1, by omega⟩
  have e := zz_run (d := d + 4) g a1 y (fun _ z => z = hE)
  have w' : h' = hE := Eq.mp e w
  rw [← w']
  exact ⟨x1, x2, x3, x4, x5, x6, x7⟩
theorem zc_fr (c : ZC0 hC) (eh : h = lp 116 117 250 0 hC) {b j : Nat} (hb : b < 132) (h6 : b ≠ 116 ∧ b ≠ 117) (hw : ¬ zwW b j) : mh_i (zwZ h) b j = mh_i hC b j ∧ mh_r (zwZ h) b j = mh_r hC b j := by
  have cn := c.n
  obtain ⟨a1, a2, a3⟩ := zc_D c eh
  have u := (zz_z a1).2.2 b j (by omega) hw
  have v := a2.2.2 b j (by omega) (fun z => by omega)
  exact ⟨u.1.trans v.1, u.2.2.trans v.2.2⟩
theorem zc_B (c : ZC0 hC) (eh : h = lp 116 117 250 0 hC) (x : fG noW (zwZ h) hE) (N : NOP hE) (iy : iyf hE) : RBz hE := by
  have F : RF hE := RF_G x (zc_F c eh)
  have cn := c.n
  obtain ⟨a1, a2, a3⟩ := zc_D c eh
  have nE := RF_n F
  have rr : ∀ b j, b < 132 → b ≠ 116 → b ≠ 117 → ¬ zwW b j → mh_r hE b j = mh_r hC b j := fun b j hb h1 h2 hw => by
    rw [x.2.2.1]
    exact (zc_fr c eh hb ⟨h1, h2⟩ hw).2
  have no : ∀ j a, ¬ mh_r hE 119 j = some a := fun j a e => by
    obtain ⟨-, u2⟩ := iy 119 j a e
    have g := F.g 119 106 2048 (by decide +kernel)
    have l := F.l 119 106 2048 (by decide +kernel)
    unfold iyk at u2
    rw [g.1, l] at u2
    have hj : j < 2048 := by
      rcases u2 with z | z
      · exact absurd z.1 (by decide)
      · exact z.2.2
    rw [rr 119 j (by decide) (by decide) (by decide) (zw_no (by decide)), c.s j hj] at e
    cases e
  have r15 : ∀ j, mh_r hE 115 j = mh_r hC 115 j := fun j => rr 115 j (by decide) (by decide) (by decide) (zw_no (by decide))
  obtain ⟨c0, c1, c2, c3, c4, c5, c6⟩ := c.p
  have p0 := (r15 12).trans c0
  have p1 := (r15 27).trans c1
  have p2 := (r15 28).trans c2
  have p3 := (r15 29).trans c3
  have p4 := (r15 30).trans c4
  have p5 := (r15 31).trans c5
  have p6 := (r15 32).trans c6
  have g4 := F.g 124 100 64 (by decide +kernel)
  have g5 := F.g 125 100 64 (by decide +kernel)
  have g6 := F.g 126 100 64 (by decide +kernel)
  have g7 := F.g 127 103 64 (by decide +kernel)
  have g8 := F.g 128 101 64 (by decide +kernel)
  have g9 := F.g 129 101 64 (by decide +kernel)
  have l4 := F.l 124 100 64 (by decide +kernel)
  have l5 := F.l 125 100 64 (by decide +kernel)
  have l6 := F.l 126 100 64 (by decide +kernel)
  have l7 := F.l 127 103 64 (by decide +kernel)
  have l8 := F.l 128 101 64 (by decide +kernel)
  have l9 := F.l 129 101 64 (by decide +kernel)
  have g0 := F.g 120 100 64 (by decide +kernel)
  have l0 := F.l 120 100 64 (by decide +kernel)
  have npa : ¬ paR hE 120 := fun z => by
    obtain ⟨j, j1, j2, e⟩ := z
    have ej : j = 27 ∨ j = 28 ∨ j = 29 ∨ j = 30 ∨ j = 31 ∨ j = 32 := by omega
    rcases ej with q | q | q | q | q | q <;> rw [q] at e
    · rw [p1] at e; exact absurd (Option.some.inj e) (by decide)
    · rw [p2] at e; exact absurd (Option.some.inj e) (by decide)
    · rw [p3] at e; exact absurd (Option.some.inj e) (by decide)
    · rw [p4] at e; exact absurd (Option.some.inj e) (by decide)
    · rw [p5] at e; exact absurd (Option.some.inj e) (by decide)
    · rw [p6] at e; exact absurd (Option.some.inj e) (by decide)
  have Y : RYh hE := RYh.of ⟨F, ⟨124, 125, 126, 127, 128, 129, 64, p1, p2, p3, p4, p5, p6, g4, g5, g6, g7, g8, g9, l4, l5, l6, l7, l8, l9, by decide, by decide, by decide, by decide, fun q hq => Or.inl (by omega), fun i a e => absurd e (no i a), by decide, by decide⟩, fun i a e => absurd e (no i a), fun i j a e => absurd e (no i a), 120, p0, g0, Nat.le_of_eq l0.symm, Nat.le_trans (Nat.le_of_eq l0) (by decide), Or.inl rfl, fun i a e => absurd e (no i a), npa⟩
  refine RBz.of ⟨Y, fun q hq => ?_, fun k hk => ?_, ?_⟩
  · by_cases q0 : q = 0
    · subst q0
      exact ⟨⟨_, N.2.1⟩, _, N.2.2.1⟩
    · obtain ⟨k1, k2, -, -⟩ := a3 q hq
      exact ⟨⟨_, RK_G x (fun y j hy => no_no (by omega)) (RK_fz (zz_z a1) (fun y hy j => zw_no (by omega)) k1)⟩, _, RK_G x (fun y j hy => no_no (by omega)) (RK_fz (zz_z a1) (fun y hy j => zw_no (by omega)) k2)⟩
  · rw [fG_i (b := 2643) (j := k) x (no_no (by decide))]
    exact zz_s k hk
  · have n99 : ¬ noW 99 0 := by unfold noW; omega
    exact (fG_i x n99).trans ((zc_fr c eh (b := 99) (j := 0) (by decide) ⟨by decide, by decide⟩ (zw_no (by decide))).1.trans c.i.2.2.2.2.2)
theorem zc_I (c : ZC0 hC) (eh : h = lp 116 117 250 0 hC) (x : fG noW (zwZ h) hE) : (mh_i hE 81 49 = -1 ∧ mh_i hE 81 2 = 0 ∧ mh_i hE 81 54 = 0 ∧ mh_i hE 81 57 = 0 ∧ mh_i hE 81 60 = 0) ∧ mh_i hE 2639 = fun _ => 0 := by
  obtain ⟨a1, a2, a3⟩ := zc_D c eh
  have ii : ∀ j, j = 49 ∨ j = 2 ∨ j = 54 ∨ j = 57 ∨ j = 60 → mh_i hE 81 j = mh_i hC 81 j := fun j hj => by
    have n1 : ¬ noW 81 j := by unfold noW; omega
    have n2 : ¬ zwW 81 j := by unfold zwW; omega
    exact (fG_i x n1).trans (zc_fr c eh (by decide) ⟨by decide, by decide⟩ n2).1
  obtain ⟨i1, i2, i3, i4, i5, -⟩ := c.i
  refine ⟨⟨(ii 49 (by decide)).trans i1, (ii 2 (by decide)).trans i2, (ii 54 (by decide)).trans i3, (ii 57 (by decide)).trans i4, (ii 60 (by decide)).trans i5⟩, ?_⟩
  funext j
  exact (fG_i x (no_no (by decide))).trans (zz_i a1 j)
end ZEs
