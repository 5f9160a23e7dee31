set_option maxRecDepth 100000
/-! the cells that the constructors make, and the references that stay: by program (wip/whole/gen_h.py) -/
def rfK : List (Nat × Nat × Nat) := [(81, 14, 70), (82, 100, 16400), (83, 100, 16402), (84, 100, 16402), (85, 100, 16402), (86, 100, 52000), (87, 100, 52000), (88, 100, 52000), (89, 100, 52000), (90, 100, 52000), (91, 100, 52000), (92, 100, 52000), (93, 102, 26000), (94, 100, 26000), (95, 100, 26000), (96, 100, 26000), (97, 100, 26000), (98, 100, 16400), (99, 100, 8300), (100, 100, 250), (101, 100, 250), (102, 100, 250), (103, 100, 250), (104, 100, 250), (105, 100, 251), (106, 100, 10040), (107, 100, 10040), (108, 100, 10040), (109, 100, 40), (110, 100, 40), (111, 100, 40), (112, 100, 40), (113, 100, 3000), (114, 100, 1500), (115, 12, 38), (116, 106, 250), (117, 106, 250), (118, 100, 250), (119, 106, 2048), (120, 100, 64), (121, 100, 64), (122, 100, 64), (123, 103, 64), (124, 100, 64), (125, 100, 64), (126, 100, 64), (127, 103, 64), (128, 101, 64), (129, 101, 64), (130, 100, 250), (131, 100, 250), (2637, 100, 24000), (2638, 100, 24000), (2639, 100, 1000), (2640, 100, 12), (2641, 100, 384), (2642, 101, 13), (2643, 107, 8)]
def rfR : List (Nat × Nat × Nat) := [(81, 0, 2643), (81, 1, 82), (81, 4, 83), (81, 5, 84), (81, 6, 85), (81, 11, 86), (81, 12, 87), (81, 13, 88), (81, 14, 89), (81, 15, 90), (81, 16, 91), (81, 18, 92), (81, 19, 93), (81, 20, 94), (81, 21, 95), (81, 22, 96), (81, 23, 97), (81, 25, 98), (81, 26, 99), (81, 28, 100), (81, 29, 101), (81, 30, 102), (81, 31, 103), (81, 32, 104), (81, 34, 105), (81, 35, 106), (81, 36, 107), (81, 37, 108), (81, 38, 109), (81, 39, 110), (81, 40, 111), (81, 41, 112), (81, 50, 113), (81, 51, 114), (81, 52, 115), (81, 53, 2632), (81, 56, 2637), (81, 58, 2638), (81, 59, 2639), (81, 61, 2640), (81, 62, 2641), (81, 63, 2642), (115, 4, 116), (115, 5, 117), (115, 6, 118), (115, 10, 119), (115, 15, 121), (115, 16, 122), (115, 17, 123), (115, 36, 130), (115, 37, 131)]
def cfK : List (Nat × Nat × Nat) := [(0, 11, 15), (1, 102, 16400), (2, 4, 20), (20, 105, 250), (21, 100, 250), (22, 100, 250), (23, 100, 250), (24, 100, 250), (25, 100, 250), (26, 100, 250), (27, 100, 250), (28, 100, 250), (29, 100, 250), (30, 100, 4500), (31, 100, 250), (32, 103, 250), (34, 1, 9), (35, 5, 19), (36, 101, 124), (37, 101, 124), (38, 100, 124), (41, 100, 12), (51, 104, 122), (52, 101, 48), (53, 0, 17), (54, 104, 250), (55, 100, 250), (59, 100, 250), (60, 100, 250), (61, 104, 250), (62, 104, 250), (63, 104, 250), (64, 104, 250), (65, 100, 250), (66, 100, 250), (67, 2, 13), (68, 100, 1000), (69, 100, 12), (70, 100, 384), (71, 100, 6), (72, 100, 124), (73, 104, 250)]
def cfR : List (Nat × Nat × Nat) := [(0, 0, 1), (0, 2, 2), (0, 3, 34), (0, 4, 53), (0, 5, 67), (0, 6, 73), (2, 3, 20), (2, 4, 21), (2, 5, 22), (2, 6, 23), (2, 7, 24), (2, 8, 25), (2, 9, 26), (2, 10, 27), (2, 11, 28), (2, 12, 29), (2, 13, 30), (2, 14, 31), (2, 15, 32), (34, 0, 2), (34, 1, 35), (34, 5, 51), (34, 7, 52), (35, 5, 36), (35, 6, 37), (35, 7, 38), (35, 11, 41), (53, 0, 54), (53, 1, 55), (53, 4, 2), (53, 5, 34), (53, 8, 59), (53, 10, 60), (53, 11, 61), (53, 12, 62), (53, 13, 63), (53, 14, 64), (53, 15, 65), (53, 16, 66), (67, 0, 2), (67, 1, 68), (67, 6, 69), (67, 7, 70), (67, 8, 71), (67, 11, 72)]
/-! frames: what may change, a place each; cells may be new -/
def fz (W : Nat → Nat → Prop) (h h' : mh_H) : Prop := mh_n h ≤ mh_n h' ∧ (∀ b, b < mh_n h → mh_k h' b = mh_k h b ∧ mh_l h' b = mh_l h b) ∧ ∀ b j, b < mh_n h → ¬ W b j → mh_i h' b j = mh_i h b j ∧ mh_j h' b j = mh_j h b j ∧ mh_r h' b j = mh_r h b j
section FZ
variable {W V : Nat → Nat → Prop} {h h1 h2 : mh_H}
theorem fz_id : fz W h h := ⟨Nat.le_refl _, fun _ _ => ⟨rfl, rfl⟩, fun _ _ _ _ => ⟨rfl, rfl, rfl⟩⟩
theorem fz_t (x : fz W h h1) (y : fz W h1 h2) : fz W h h2 := ⟨Nat.le_trans x.1 y.1, fun b hb => by
  have a := x.2.1 b hb
  have c := y.2.1 b (Nat.lt_of_lt_of_le hb x.1)
  exact ⟨c.1.trans a.1, c.2.trans a.2⟩, fun b j hb hw => by
  have a := x.2.2 b j hb hw
  have c := y.2.2 b j (Nat.lt_of_lt_of_le hb x.1) hw
  exact ⟨c.1.trans a.1, c.2.1.trans a.2.1, c.2.2.trans a.2.2⟩⟩
theorem fz_w (x : fz W h h1) (w : ∀ b j, b < mh_n h → W b j → V b j) : fz V h h1 := ⟨x.1, x.2.1, fun b j hb hv => x.2.2 b j hb (fun z => hv (w b j hb z))⟩
theorem fz_fq {U : Nat → Prop} (x : fq U h h1) : fz (fun b _ => U b) h h1 := ⟨Nat.le_of_eq x.2.2.2.1.symm, fun b _ => ⟨by rw [x.1], by rw [x.2.1]⟩, fun b j _ hw => ⟨(x.2.2.2.2.2 b hw).1 j, (x.2.2.2.2.2 b hw).2 j, by rw [x.2.2.1]⟩⟩
theorem fz_mg {b c : Nat} (x : fz W h h1) (g : mg h b c) : mg h1 b c := ⟨by rw [(x.2.1 b g.2).1]; exact g.1, Nat.lt_of_lt_of_le g.2 x.1⟩
theorem fz_l {b c : Nat} (x : fz W h h1) (g : mg h b c) : mh_l h1 b = mh_l h b := (x.2.1 b g.2).2
theorem fz_i {b c j : Nat} (x : fz W h h1) (g : mg h b c) (w : ¬ W b j) : mh_i h1 b j = mh_i h b j := (x.2.2 b j g.2 w).1
theorem fz_j {b c j : Nat} (x : fz W h h1) (g : mg h b c) (w : ¬ W b j) : mh_j h1 b j = mh_j h b j := (x.2.2 b j g.2 w).2.1
theorem fz_r {b c j : Nat} (x : fz W h h1) (g : mg h b c) (w : ¬ W b j) : mh_r h1 b j = mh_r h b j := (x.2.2 b j g.2 w).2.2
theorem fz_si {a k : Nat} {v : Int32} (w : W a k) : fz W h (mh_si h a k v) := ⟨Nat.le_refl _, fun _ _ => ⟨rfl, rfl⟩, fun b j _ hw => ⟨by rw [hi_si, if_neg (fun z => hw (by rw [z.1, z.2]; exact w))], rfl, rfl⟩⟩
theorem fz_sj {a k : Nat} {v : Int64} (w : W a k) : fz W h (mh_sj h a k v) := ⟨Nat.le_refl _, fun _ _ => ⟨rfl, rfl⟩, fun b j _ hw => ⟨rfl, by rw [hj_sj, if_neg (fun z => hw (by rw [z.1, z.2]; exact w))], rfl⟩⟩
theorem fz_sr {a k : Nat} {v : Option Nat} (w : W a k) : fz W h (mh_sr h a k v) := ⟨Nat.le_refl _, fun _ _ => ⟨rfl, rfl⟩, fun b j _ hw => ⟨rfl, rfl, by rw [hr_sr, if_neg (fun z => hw (by rw [z.1, z.2]; exact w))]⟩⟩
theorem fz_new {kd len : Nat} : fz W h (mh_new h kd len) := ⟨by rw [hn_new]; omega, fun b hb => ⟨by rw [hk_new, if_neg (by omega)], by rw [hl_new, if_neg (by omega)]⟩, fun b j hb _ => ⟨by rw [hi_new, if_neg (by omega)], by rw [hj_new, if_neg (by omega)], by rw [hr_nw, if_neg (by omega)]⟩⟩
theorem fz_cp {o sp a dp n : Nat} (w : ∀ j, a < mh_n h → W a j) : fz W h (mh_cp h o sp a dp n) := ⟨Nat.le_refl _, fun _ _ => ⟨rfl, rfl⟩, fun b j hb hw => ⟨by rw [hi_cp, if_neg (fun z => hw (by rw [z.1] at hb ⊢; exact w j hb))], by rw [hj_cp, if_neg (fun z => hw (by rw [z.1] at hb ⊢; exact w j hb))], rfl⟩⟩
/-- what is new may be written -/
theorem fz_n {m : Nat} (hm : m ≤ mh_n h) (x : fz W h h1) (y : fz (fun b j => W b j ∨ mh_n h ≤ b) h1 h2) : fz W h h2 := by
  refine ⟨Nat.le_trans x.1 y.1, fun b hb => ?_, fun b j hb hw => ?_⟩
  · have a := x.2.1 b hb
    have c := y.2.1 b (Nat.lt_of_lt_of_le hb x.1)
    exact ⟨c.1.trans a.1, c.2.trans a.2⟩
  · have a := x.2.2 b j hb hw
    have c := y.2.2 b j (Nat.lt_of_lt_of_le hb x.1) (fun z => z.elim hw (fun q => by omega))
    exact ⟨c.1.trans a.1, c.2.1.trans a.2.1, c.2.2.trans a.2.2⟩
theorem so_fz {o : Nat} (x : fz W h h1) (w3 : ¬ W o 3) (w4 : ¬ W o 4) (s : so h o) : so h1 o := by
  obtain ⟨a, b, c, d, e, f, g⟩ := s
  exact ⟨fz_mg x a, by rw [fz_r x a w3]; exact b, fz_mg x c, by rw [fz_l x c]; exact d, by rw [fz_r x a w4]; exact e, fz_mg x f, by rw [fz_l x f]; exact g⟩
theorem RM_fz {o : Nat} {A : ab} (x : fz W h h1) (w : ∀ y, y ≤ 2 → ∀ j, ¬ W (o + y) j) (r : RM h o A) : RM h1 o A := by
  have w0 := w 0 (by omega)
  have w1 := w 1 (by omega)
  have w2 := w 2 (by omega)
  have s := r.s
  refine ⟨so_fz x (w0 3) (w0 4) r.s, ?_, ?_, r.n12, ?_, r.a6, fun i j hi hj => ?_, fun y hy => ?_⟩
  · rw [fz_i x s.1 (w0 0)]; exact r.z
  · rw [fz_i x s.1 (w0 1)]; exact r.n
  · rw [fz_i x s.1 (w0 2)]; exact r.a
  · rw [← r.m i j hi hj]
    unfold smx
    rw [fz_j x s.2.2.1 (w1 _)]
  · rw [fz_j x s.2.2.2.2.2.1 (w2 _), fz_j x s.2.2.2.2.2.1 (w2 _)]; exact r.e y hy
theorem RN_fz {o : Nat} (x : fz W h h1) (w : ∀ j, ¬ W o j) (r : RN h o) : RN h1 o := by
  have s := r.s
  exact ⟨so_fz x (w 3) (w 4) r.s, by rw [fz_i x s.1 (w 0)]; exact r.z, by rw [fz_i x s.1 (w 1)]; exact r.n, by rw [fz_i x s.1 (w 2)]; exact r.a⟩
theorem RS_fz {o : Nat} {A : Option ab} (x : fz W h h1) (w : ∀ y, y ≤ 2 → ∀ j, ¬ W (o + y) j) (r : RS h o A) : RS h1 o A := by
  have w0 := w 0 (by omega)
  cases A with
  | none => exact ⟨RN_fz x w0 r.1, by rw [fz_i x (RS_so (A := none) r).1 (w0 5)]; exact r.2⟩
  | some A => exact ⟨RM_fz x w r.1, by rw [fz_i x (RS_so (A := some A) r).1 (w0 5)]; exact r.2⟩
theorem RL_fz {o y : Nat} {A : ab} {c : oc_M} (x : fz W h h1) (w : ∀ y, y ≤ 2 → ∀ j, ¬ W (o + y) j) (r : RL h o A c y) : RL h1 o A c y := ⟨RM_fz x w r.m, by rw [fz_i x r.m.s.1 (w 0 (by omega) 5)]; exact r.l, r.xl, r.t, r.le, r.co, r.df⟩
end FZ
/-- the cells of the reference that its constructor makes -/
abbrev RF (h : mh_H) : Prop := (∀ t ∈ rfK, mg h t.1 t.2.1 ∧ mh_l h t.1 = t.2.2) ∧ (∀ t ∈ rfR, mh_r h t.1 t.2.1 = some t.2.2) ∧ (∀ p, p < 250 → ko h (132 + 10 * p) ∧ ko h (137 + 10 * p) ∧ mh_r h 116 p = some (132 + 10 * p) ∧ mh_r h 117 p = some (137 + 10 * p)) ∧ (ko h 2632) ∧ (∃ b, mh_r h 115 12 = some b ∧ b < mh_n h)
theorem RF.k {h : mh_H} (q : RF h) : ∀ t ∈ rfK, mg h t.1 t.2.1 ∧ mh_l h t.1 = t.2.2 := q.1
theorem RF.r {h : mh_H} (q : RF h) : ∀ t ∈ rfR, mh_r h t.1 t.2.1 = some t.2.2 := q.2.1
theorem RF.p {h : mh_H} (q : RF h) : ∀ p, p < 250 → ko h (132 + 10 * p) ∧ ko h (137 + 10 * p) ∧ mh_r h 116 p = some (132 + 10 * p) ∧ mh_r h 117 p = some (137 + 10 * p) := q.2.2.1
theorem RF.w {h : mh_H} (q : RF h) : ko h 2632 := q.2.2.2.1
theorem RF.fn {h : mh_H} (q : RF h) : ∃ b, mh_r h 115 12 = some b ∧ b < mh_n h := q.2.2.2.2
theorem RF.g {h : mh_H} (H : RF h) (a k l : Nat) (w : (a, k, l) ∈ rfK) : mg h a k := (H.k _ w).1
theorem RF.l {h : mh_H} (H : RF h) (a k l : Nat) (w : (a, k, l) ∈ rfK) : mh_l h a = l := (H.k _ w).2
theorem RF.f {h : mh_H} (H : RF h) (a j t : Nat) (w : (a, j, t) ∈ rfR) : mh_r h a j = some t := H.r _ w
section FK
variable {W : Nat → Nat → Prop} {h h1 : mh_H}
theorem ko_fz {o : Nat} (x : fz W h h1) (w : ∀ j, ¬ W o j) (s : ko h o) : ko h1 o := by
  unfold ko at s ⊢
  obtain ⟨a1, a2, a3, a4, a5, a6, a7, a8, a9, b1, b2, b3, b4⟩ := s
  refine ⟨fz_mg x a1, ?_, fz_mg x a3, ?_, ?_, fz_mg x a6, ?_, ?_, fz_mg x a9, ?_, ?_, fz_mg x b3, ?_⟩
  · rw [fz_r x a1 (w _)]; exact a2
  · rw [fz_l x a3]; exact a4
  · rw [fz_r x a1 (w _)]; exact a5
  · rw [fz_l x a6]; exact a7
  · rw [fz_r x a1 (w _)]; exact a8
  · rw [fz_l x a9]; exact b1
  · rw [fz_r x a1 (w _)]; exact b2
  · rw [fz_l x b3]; exact b4
theorem KM_fz {o : Nat} {A : ab} (x : fz W h h1) (w : ∀ y, y ≤ 4 → ∀ j, ¬ W (o + y) j) (r : KM h o A) : KM h1 o A := by
  have w0 := w 0 (by omega)
  have s := r.s
  have s' := s
  unfold ko at s'
  obtain ⟨a1, a2, a3, a4, a5, a6, a7, a8, a9, b1, b2, b3, b4⟩ := s'
  refine ⟨ko_fz x w0 s, ?_, ?_, r.n12, ?_, r.a6, fun i j hi hj => ?_, fun y hy => ?_, fun y hy => ?_, fun y hy => ?_⟩
  · rw [fz_i x a1 (w0 0)]; exact r.z
  · rw [fz_i x a1 (w0 1)]; exact r.n
  · rw [fz_i x a1 (w0 2)]; exact r.a
  · rw [fz_j x a3 (w 1 (by omega) _)]; exact r.m i j hi hj
  · rw [fz_j x a6 (w 2 (by omega) _)]; exact r.lo y hy
  · rw [fz_j x a9 (w 3 (by omega) _)]; exact r.hi y hy
  · rw [fz_i x b3 (w 4 (by omega) _)]; exact r.rm y hy
theorem KN_fz {o : Nat} (x : fz W h h1) (w : ∀ j, ¬ W o j) (r : KN h o) : KN h1 o := by
  have s := r.s
  unfold ko at s
  exact ⟨ko_fz x w r.s, by rw [fz_i x s.1 (w 0)]; exact r.z, by rw [fz_i x s.1 (w 1)]; exact r.n, by rw [fz_i x s.1 (w 2)]; exact r.a⟩
theorem RK_fz {o : Nat} {A : Option ab} (x : fz W h h1) (w : ∀ y, y ≤ 4 → ∀ j, ¬ W (o + y) j) (r : RK h o A) : RK h1 o A := by
  cases A with
  | none => exact KN_fz x (w 0 (by omega)) r
  | some A => exact KM_fz x w r
theorem rfR_lt : ∀ t ∈ rfR, t.1 = 81 ∨ (t.1 = 115 ∧ t.2.1 ∈ [4, 5, 6, 10, 12, 15, 16, 17, 36, 37]) := by decide +kernel
/-- the constructor's cells stay -/
theorem RF_fz (x : fz W h h1) (H : RF h) (w1 : ∀ j, ¬ W 81 j) (w2 : ∀ j, j ∈ [4, 5, 6, 10, 12, 15, 16, 17, 36, 37] → ¬ W 115 j) (w3 : ∀ p, p < 250 → (∀ j, (j = 3 ∨ j = 4 ∨ j = 5 ∨ j = 6) → ¬ W (132 + 10 * p) j ∧ ¬ W (137 + 10 * p) j) ∧ ¬ W 116 p ∧ ¬ W 117 p) (w4 : ∀ j, (j = 3 ∨ j = 4 ∨ j = 5 ∨ j = 6) → ¬ W 2632 j) : RF h1 := by
  have kf : ∀ o, (∀ j, (j = 3 ∨ j = 4 ∨ j = 5 ∨ j = 6) → ¬ W o j) → ko h o → ko h1 o := fun o w s => by
    unfold ko at s ⊢
    obtain ⟨a1, a2, a3, a4, a5, a6, a7, a8, a9, b1, b2, b3, b4⟩ := s
    refine ⟨fz_mg x a1, ?_, fz_mg x a3, ?_, ?_, fz_mg x a6, ?_, ?_, fz_mg x a9, ?_, ?_, fz_mg x b3, ?_⟩
    · rw [fz_r x a1 (w 3 (by omega))]; exact a2
    · rw [fz_l x a3]; exact a4
    · rw [fz_r x a1 (w 4 (by omega))]; exact a5
    · rw [fz_l x a6]; exact a7
    · rw [fz_r x a1 (w 5 (by omega))]; exact a8
    · rw [fz_l x a9]; exact b1
    · rw [fz_r x a1 (w 6 (by omega))]; exact b2
    · rw [fz_l x b3]; exact b4
  refine ⟨fun t ht => ?_, fun t ht => ?_, fun p hp => ?_, kf 2632 w4 H.w, ?_⟩
  · obtain ⟨a, b⟩ := H.k t ht
    exact ⟨fz_mg x a, by rw [fz_l x a]; exact b⟩
  · have := H.r t ht
    have g81 := H.g 81 14 70 (by decide +kernel)
    have g115 := H.g 115 12 38 (by decide +kernel)
    rcases rfR_lt t ht with e | ⟨e, e2⟩
    · rw [← this, e, fz_r x g81 (w1 _)]
    · rw [← this, e, fz_r x g115 (w2 _ e2)]
  · obtain ⟨a, b, c, d⟩ := H.p p hp
    have g116 := H.g 116 106 250 (by decide +kernel)
    have g117 := H.g 117 106 250 (by decide +kernel)
    have := w3 p hp
    exact ⟨kf _ (fun j hj => (this.1 j hj).1) a, kf _ (fun j hj => (this.1 j hj).2) b, by rw [fz_r x g116 this.2.1]; exact c, by rw [fz_r x g117 this.2.2]; exact d⟩
  · obtain ⟨b, b1, b2⟩ := H.fn
    exact ⟨b, by rw [fz_r x (H.g 115 12 38 (by decide +kernel)) (w2 12 (by simp))]; exact b1, Nat.lt_of_lt_of_le b2 x.1⟩
end FK
/-! the reference's room: cells and slots, less what is made once -/
def cnS (h : mh_H) (a n : Nat) : Nat := n64 (fun i => (mh_r h a i).isSome) n
def ln (h : mh_H) (a j : Nat) : Nat := match mh_r h a j with
  | some b => mh_l h b
  | none => 0
def qN (h : mh_H) : Int := (mh_n h : Int) - 5 * (cnS h 119 2048 : Int) - 6 * (ln h 115 27 : Int) - (ln h 115 12 : Int)
def qS (h : mh_H) : Int := (mh_s h : Int) - 601 * (cnS h 119 2048 : Int) - 12 * (ln h 115 27 : Int) - 2 * (ln h 115 12 : Int)
def fR (W : Nat → Nat → Prop) (h h' : mh_H) : Prop := fz W h h' ∧ qN h' ≤ qN h ∧ qS h' ≤ qS h
section FR
variable {W V : Nat → Nat → Prop} {h h1 h2 : mh_H}
theorem fR_id : fR W h h := ⟨fz_id, Int.le_refl _, Int.le_refl _⟩
theorem fR_t (x : fR W h h1) (y : fR W h1 h2) : fR W h h2 := ⟨fz_t x.1 y.1, Int.le_trans y.2.1 x.2.1, Int.le_trans y.2.2 x.2.2⟩
theorem fR_w (x : fR W h h1) (w : ∀ b j, b < mh_n h → W b j → V b j) : fR V h h1 := ⟨fz_w x.1 w, x.2⟩
theorem q_same (en : mh_n h1 = mh_n h) (es : mh_s h1 = mh_s h) (er : mh_r h1 = mh_r h) (el : mh_l h1 = mh_l h) : qN h1 = qN h ∧ qS h1 = qS h := by
  have ec : cnS h1 119 2048 = cnS h 119 2048 := by unfold cnS; rw [er]
  have e27 : ∀ a j, ln h1 a j = ln h a j := fun a j => by unfold ln; rw [er, el]
  unfold qN qS
  rw [en, es, ec, e27, e27]
  exact ⟨rfl, rfl⟩
theorem fR_fq {U : Nat → Prop} (x : fq U h h1) : fR (fun b _ => U b) h h1 := by
  obtain ⟨a, b⟩ := q_same x.2.2.2.1 x.2.2.2.2.1 x.2.2.1 x.2.1
  exact ⟨fz_fq x, Int.le_of_eq a, Int.le_of_eq b⟩
theorem fR_si {a k : Nat} {v : Int32} (w : W a k) : fR W h (mh_si h a k v) := ⟨fz_si w, Int.le_refl _, Int.le_refl _⟩
theorem fR_sj {a k : Nat} {v : Int64} (w : W a k) : fR W h (mh_sj h a k v) := ⟨fz_sj w, Int.le_refl _, Int.le_refl _⟩
/-- a reference that isn't counted -/
theorem fR_sr {a k : Nat} {v : Option Nat} (w : W a k) (h1 : a ≠ 119) (h2 : ¬ (a = 115 ∧ (k = 27 ∨ k = 12))) : fR W h (mh_sr h a k v) := by
  have ec : cnS (mh_sr h a k v) 119 2048 = cnS h 119 2048 := n64_cong _ (fun i _ => by rw [hr_sr, if_neg (fun z => h1 z.1.symm)])
  have e1 : ln (mh_sr h a k v) 115 27 = ln h 115 27 := by unfold ln; rw [hr_sr, if_neg (fun z => h2 ⟨z.1.symm, Or.inl z.2.symm⟩), hl_sr]
  have e2 : ln (mh_sr h a k v) 115 12 = ln h 115 12 := by unfold ln; rw [hr_sr, if_neg (fun z => h2 ⟨z.1.symm, Or.inr z.2.symm⟩), hl_sr]
  refine ⟨fz_sr w, ?_, ?_⟩
  · unfold qN; rw [ec, e1, e2, hn_sr]; exact Int.le_refl _
  · unfold qS; rw [ec, e1, e2, hs_sr]; exact Int.le_refl _
end FR
