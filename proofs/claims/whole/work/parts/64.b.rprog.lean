set_option maxRecDepth 100000
/-! the reference with a program -/
def RBz (h : mh_H) : Prop := (RYh h) ∧ (∀ q, q < 250 → (∃ x, RK h (132 + 10 * q) x) ∧ ∃ x, RK h (137 + 10 * q) x) ∧ (∀ k, k < 8 → me_xr (mh_i h 2643 k) = .retAddr (3 * (18 + k) + 3)) ∧ (mh_i h 99 0 = 0)
theorem RBz.of {h : mh_H} (q : (RYh h) ∧ (∀ q, q < 250 → (∃ x, RK h (132 + 10 * q) x) ∧ ∃ x, RK h (137 + 10 * q) x) ∧ (∀ k, k < 8 → me_xr (mh_i h 2643 k) = .retAddr (3 * (18 + k) + 3)) ∧ (mh_i h 99 0 = 0)) : RBz h := q
theorem RBz.Y {h : mh_H} (q : RBz h) : RYh h := q.1
theorem RBz.K {h : mh_H} (q : RBz h) : ∀ q, q < 250 → (∃ x, RK h (132 + 10 * q) x) ∧ ∃ x, RK h (137 + 10 * q) x := q.2.1
theorem RBz.s {h : mh_H} (q : RBz h) : ∀ k, k < 8 → me_xr (mh_i h 2643 k) = .retAddr (3 * (18 + k) + 3) := q.2.2.1
theorem RBz.z {h : mh_H} (q : RBz h) : mh_i h 99 0 = 0 := q.2.2.2
def RPg (h : mh_H) (G : pgm) (J J2 : pin) (ap : Nat → Int → Nat) (cnt : Nat) (kn cl : Nat → Option ab) (fst oth : Nat → Nat) (al : Nat → Int32) (m : Bool) (nm am : Nat → Nat → List Int32) (pl : Nat → Int32) : Prop := (RBz h) ∧ (RPH h G cnt) ∧ (∀ p, p + 1 < cnt → RPT h p (J2.sN p) (J2.en p) (ap p) (G.n p) (G.a p) (G.rm p) (J2.c p) (J2.t p) (J2.x p) (J2.tk p) cnt (fst p) (oth p)) ∧ (∀ p, p + 1 < cnt → MTT h p (J2.sN p) (J2.en p) (ap p)) ∧ (∀ q, q < cnt → RK h (132 + 10 * q) (kn q)) ∧ (∀ q, q < cnt → RK h (137 + 10 * q) (cl q)) ∧ (∀ q, q < cnt → mh_i h 118 q = al q) ∧ (mh_i h 115 7 = Int32.ofNat cnt ∧ mh_i h 115 9 = kb m ∧ ((mh_i h 81 49 = 3) = (m = true))) ∧ (∀ p, p < cnt → (mh_i h 100 p = -1 ∧ G.kd p = 0 ∧ pl p = 0) ∨ ∃ k t, mh_i h 100 p = Int32.ofNat k ∧ k < 26000 ∧ mh_i h 93 k = Int32.ofNat t ∧ (3 ≤ t ∧ t ≤ 11) ∧ G.kd p = (if t < 5 then 1 else t - 3) ∧ mh_i h 94 k = pl p) ∧ (∀ p, p < cnt → (∀ x, x < G.n p → ∃ k, k < 8300 ∧ mh_i h 113 (12 * p + x) = Int32.ofNat k ∧ NMl h k (nm p x) ∧ (nm p x).length ≤ 30) ∧ ∀ x, x < G.a p → ∃ k, k < 8300 ∧ mh_i h 114 (6 * p + x) = Int32.ofNat k ∧ NMl h k (am p x) ∧ (am p x).length ≤ 30) ∧ ((mh_i h 115 13 = 0 ∧ cnt = 1) ∨ ∃ (D : fd) (fu : Nat), RZ h ∧ FT h D ∧ FX (mh_i h 93) (mh_i h 95) (mh_i h 97) D ∧ mh_i h 115 13 = Int32.ofNat D.c ∧ (1 ≤ D.c ∧ D.c ≤ 100000) ∧ LW G J D fu (D.t (D.c - 1)) 0 (cnt - 1) (E00 D) ∧ SUC G fst oth fu 0 (cnt - 1) (cnt - 1) ∧ (m = false → (∃ W, W ≤ 4000 ∧ mh_i h 115 8 = Int32.ofNat W) ∧ ∀ q, q ≤ cnt - 1 → cnQ G h q ∧ (q < cnt - 1 → mh_i h (132 + 10 * q) 2 = Int32.ofNat (G.a q) ∧ mh_i h (137 + 10 * q) 2 = Int32.ofNat (G.a q))))
theorem RPg.of {h : mh_H} {G : pgm} {J J2 : pin} {ap : Nat → Int → Nat} {cnt : Nat} {kn cl : Nat → Option ab} {fst oth : Nat → Nat} {al : Nat → Int32} {m : Bool} {nm am : Nat → Nat → List Int32} {pl : Nat → Int32} (q : (RBz h) ∧ (RPH h G cnt) ∧ (∀ p, p + 1 < cnt → RPT h p (J2.sN p) (J2.en p) (ap p) (G.n p) (G.a p) (G.rm p) (J2.c p) (J2.t p) (J2.x p) (J2.tk p) cnt (fst p) (oth p)) ∧ (∀ p, p + 1 < cnt → MTT h p (J2.sN p) (J2.en p) (ap p)) ∧ (∀ q, q < cnt → RK h (132 + 10 * q) (kn q)) ∧ (∀ q, q < cnt → RK h (137 + 10 * q) (cl q)) ∧ (∀ q, q < cnt → mh_i h 118 q = al q) ∧ (mh_i h 115 7 = Int32.ofNat cnt ∧ mh_i h 115 9 = kb m ∧ ((mh_i h 81 49 = 3) = (m = true))) ∧ (∀ p, p < cnt → (mh_i h 100 p = -1 ∧ G.kd p = 0 ∧ pl p = 0) ∨ ∃ k t, mh_i h 100 p = Int32.ofNat k ∧ k < 26000 ∧ mh_i h 93 k = Int32.ofNat t ∧ (3 ≤ t ∧ t ≤ 11) ∧ G.kd p = (if t < 5 then 1 else t - 3) ∧ mh_i h 94 k = pl p) ∧ (∀ p, p < cnt → (∀ x, x < G.n p → ∃ k, k < 8300 ∧ mh_i h 113 (12 * p + x) = Int32.ofNat k ∧ NMl h k (nm p x) ∧ (nm p x).length ≤ 30) ∧ ∀ x, x < G.a p → ∃ k, k < 8300 ∧ mh_i h 114 (6 * p + x) = Int32.ofNat k ∧ NMl h k (am p x) ∧ (am p x).length ≤ 30) ∧ ((mh_i h 115 13 = 0 ∧ cnt = 1) ∨ ∃ (D : fd) (fu : Nat), RZ h ∧ FT h D ∧ FX (mh_i h 93) (mh_i h 95) (mh_i h 97) D ∧ mh_i h 115 13 = Int32.ofNat D.c ∧ (1 ≤ D.c ∧ D.c ≤ 100000) ∧ LW G J D fu (D.t (D.c - 1)) 0 (cnt - 1) (E00 D) ∧ SUC G fst oth fu 0 (cnt - 1) (cnt - 1) ∧ (m = false → (∃ W, W ≤ 4000 ∧ mh_i h 115 8 = Int32.ofNat W) ∧ ∀ q, q ≤ cnt - 1 → cnQ G h q ∧ (q < cnt - 1 → mh_i h (132 + 10 * q) 2 = Int32.ofNat (G.a q) ∧ mh_i h (137 + 10 * q) 2 = Int32.ofNat (G.a q))))) : RPg h G J J2 ap cnt kn cl fst oth al m nm am pl := q
theorem RPg.b {h : mh_H} {G : pgm} {J J2 : pin} {ap : Nat → Int → Nat} {cnt : Nat} {kn cl : Nat → Option ab} {fst oth : Nat → Nat} {al : Nat → Int32} {m : Bool} {nm am : Nat → Nat → List Int32} {pl : Nat → Int32} (q : RPg h G J J2 ap cnt kn cl fst oth al m nm am pl) : RBz h := q.1
theorem RPg.H {h : mh_H} {G : pgm} {J J2 : pin} {ap : Nat → Int → Nat} {cnt : Nat} {kn cl : Nat → Option ab} {fst oth : Nat → Nat} {al : Nat → Int32} {m : Bool} {nm am : Nat → Nat → List Int32} {pl : Nat → Int32} (q : RPg h G J J2 ap cnt kn cl fst oth al m nm am pl) : RPH h G cnt := q.2.1
theorem RPg.t {h : mh_H} {G : pgm} {J J2 : pin} {ap : Nat → Int → Nat} {cnt : Nat} {kn cl : Nat → Option ab} {fst oth : Nat → Nat} {al : Nat → Int32} {m : Bool} {nm am : Nat → Nat → List Int32} {pl : Nat → Int32} (q : RPg h G J J2 ap cnt kn cl fst oth al m nm am pl) : ∀ p, p + 1 < cnt → RPT h p (J2.sN p) (J2.en p) (ap p) (G.n p) (G.a p) (G.rm p) (J2.c p) (J2.t p) (J2.x p) (J2.tk p) cnt (fst p) (oth p) := q.2.2.1
theorem RPg.M {h : mh_H} {G : pgm} {J J2 : pin} {ap : Nat → Int → Nat} {cnt : Nat} {kn cl : Nat → Option ab} {fst oth : Nat → Nat} {al : Nat → Int32} {m : Bool} {nm am : Nat → Nat → List Int32} {pl : Nat → Int32} (q : RPg h G J J2 ap cnt kn cl fst oth al m nm am pl) : ∀ p, p + 1 < cnt → MTT h p (J2.sN p) (J2.en p) (ap p) := q.2.2.2.1
theorem RPg.k {h : mh_H} {G : pgm} {J J2 : pin} {ap : Nat → Int → Nat} {cnt : Nat} {kn cl : Nat → Option ab} {fst oth : Nat → Nat} {al : Nat → Int32} {m : Bool} {nm am : Nat → Nat → List Int32} {pl : Nat → Int32} (q : RPg h G J J2 ap cnt kn cl fst oth al m nm am pl) : ∀ q, q < cnt → RK h (132 + 10 * q) (kn q) := q.2.2.2.2.1
theorem RPg.c {h : mh_H} {G : pgm} {J J2 : pin} {ap : Nat → Int → Nat} {cnt : Nat} {kn cl : Nat → Option ab} {fst oth : Nat → Nat} {al : Nat → Int32} {m : Bool} {nm am : Nat → Nat → List Int32} {pl : Nat → Int32} (q : RPg h G J J2 ap cnt kn cl fst oth al m nm am pl) : ∀ q, q < cnt → RK h (137 + 10 * q) (cl q) := q.2.2.2.2.2.1
theorem RPg.a {h : mh_H} {G : pgm} {J J2 : pin} {ap : Nat → Int → Nat} {cnt : Nat} {kn cl : Nat → Option ab} {fst oth : Nat → Nat} {al : Nat → Int32} {m : Bool} {nm am : Nat → Nat → List Int32} {pl : Nat → Int32} (q : RPg h G J J2 ap cnt kn cl fst oth al m nm am pl) : ∀ q, q < cnt → mh_i h 118 q = al q := q.2.2.2.2.2.2.1
theorem RPg.f {h : mh_H} {G : pgm} {J J2 : pin} {ap : Nat → Int → Nat} {cnt : Nat} {kn cl : Nat → Option ab} {fst oth : Nat → Nat} {al : Nat → Int32} {m : Bool} {nm am : Nat → Nat → List Int32} {pl : Nat → Int32} (q : RPg h G J J2 ap cnt kn cl fst oth al m nm am pl) : mh_i h 115 7 = Int32.ofNat cnt ∧ mh_i h 115 9 = kb m ∧ ((mh_i h 81 49 = 3) = (m = true)) := q.2.2.2.2.2.2.2.1
theorem RPg.p {h : mh_H} {G : pgm} {J J2 : pin} {ap : Nat → Int → Nat} {cnt : Nat} {kn cl : Nat → Option ab} {fst oth : Nat → Nat} {al : Nat → Int32} {m : Bool} {nm am : Nat → Nat → List Int32} {pl : Nat → Int32} (q : RPg h G J J2 ap cnt kn cl fst oth al m nm am pl) : ∀ p, p < cnt → (mh_i h 100 p = -1 ∧ G.kd p = 0 ∧ pl p = 0) ∨ ∃ k t, mh_i h 100 p = Int32.ofNat k ∧ k < 26000 ∧ mh_i h 93 k = Int32.ofNat t ∧ (3 ≤ t ∧ t ≤ 11) ∧ G.kd p = (if t < 5 then 1 else t - 3) ∧ mh_i h 94 k = pl p := q.2.2.2.2.2.2.2.2.1
theorem RPg.n {h : mh_H} {G : pgm} {J J2 : pin} {ap : Nat → Int → Nat} {cnt : Nat} {kn cl : Nat → Option ab} {fst oth : Nat → Nat} {al : Nat → Int32} {m : Bool} {nm am : Nat → Nat → List Int32} {pl : Nat → Int32} (q : RPg h G J J2 ap cnt kn cl fst oth al m nm am pl) : ∀ p, p < cnt → (∀ x, x < G.n p → ∃ k, k < 8300 ∧ mh_i h 113 (12 * p + x) = Int32.ofNat k ∧ NMl h k (nm p x) ∧ (nm p x).length ≤ 30) ∧ ∀ x, x < G.a p → ∃ k, k < 8300 ∧ mh_i h 114 (6 * p + x) = Int32.ofNat k ∧ NMl h k (am p x) ∧ (am p x).length ≤ 30 := q.2.2.2.2.2.2.2.2.2.1
theorem RPg.i {h : mh_H} {G : pgm} {J J2 : pin} {ap : Nat → Int → Nat} {cnt : Nat} {kn cl : Nat → Option ab} {fst oth : Nat → Nat} {al : Nat → Int32} {m : Bool} {nm am : Nat → Nat → List Int32} {pl : Nat → Int32} (q : RPg h G J J2 ap cnt kn cl fst oth al m nm am pl) : (mh_i h 115 13 = 0 ∧ cnt = 1) ∨ ∃ (D : fd) (fu : Nat), RZ h ∧ FT h D ∧ FX (mh_i h 93) (mh_i h 95) (mh_i h 97) D ∧ mh_i h 115 13 = Int32.ofNat D.c ∧ (1 ≤ D.c ∧ D.c ≤ 100000) ∧ LW G J D fu (D.t (D.c - 1)) 0 (cnt - 1) (E00 D) ∧ SUC G fst oth fu 0 (cnt - 1) (cnt - 1) ∧ (m = false → (∃ W, W ≤ 4000 ∧ mh_i h 115 8 = Int32.ofNat W) ∧ ∀ q, q ≤ cnt - 1 → cnQ G h q ∧ (q < cnt - 1 → mh_i h (132 + 10 * q) 2 = Int32.ofNat (G.a q) ∧ mh_i h (137 + 10 * q) 2 = Int32.ofNat (G.a q))) := q.2.2.2.2.2.2.2.2.2.2
section RGs
variable {W : Nat → Nat → Prop} {KR : Nat → Prop} {h h1 : mh_H} {G : pgm} {J J2 : pin} {ap : Nat → Int → Nat} {cnt : Nat} {kn cl cl' : Nat → Option ab} {fst oth : Nat → Nat} {al : Nat → Int32} {m : Bool} {nm am : Nat → Nat → List Int32} {pl : Nat → Int32}
theorem NMl_c {k : Nat} {T : List Int32} (e8 : mh_i h1 98 = mh_i h 98) (e9 : mh_i h1 99 = mh_i h 99) (w : NMl h k T) : NMl h1 k T := by
  unfold NMl at w ⊢
  rw [e8, e9]
  exact w
theorem RBz_r (f : fz W h h1) (k : WRf W KR h) (B : RBz h) : RBz h1 := by
  have hn := RF_n B.Y.F
  refine RBz.of ⟨RYh_r f k B.Y, fun q hq => ?_, fun j hj => ?_, by rw [wr_i f k hn 99 (by omega)]; exact B.z⟩
  · obtain ⟨⟨x, u⟩, y, v⟩ := B.K q hq
    exact ⟨⟨x, RK_r f k (by omega) u⟩, y, RK_r f k (by omega) v⟩
  · rw [(f.2.2 2643 j (by omega) (wr_n k (k.z 2643 (by omega) (by omega)) (by omega) j)).1]
    exact B.s j hj
/-- where the rows of the program stay -/
theorem RPg_c (P : RPg h G J J2 ap cnt kn cl fst oth al m nm am pl) (b1 : RBz h1) (k1 : ∀ q, q < cnt → RK h1 (132 + 10 * q) (kn q)) (c1 : ∀ q, q < cnt → RK h1 (137 + 10 * q) (cl' q)) (ei : ∀ b, 83 ≤ b ∧ b ≤ 114 → mh_i h1 b = mh_i h b) (e118 : ∀ q, q < cnt → mh_i h1 118 q = mh_i h 118 q) (cq : ∀ q, q < cnt → cnQ G h q → cnQ G h1 q) (e8 : ∀ j, j = 33 ∨ j = 49 → mh_i h1 81 j = mh_i h 81 j) (e1 : ∀ j, j = 7 ∨ j = 8 ∨ j = 9 ∨ j = 13 → mh_i h1 115 j = mh_i h 115 j) (z1 : RZ h → RZ h1) (t1 : ∀ D, FT h D → FT h1 D) (a0 : ∀ q, q + 1 < cnt → mh_i h1 (132 + 10 * q) 2 = mh_i h (132 + 10 * q) 2) (a1 : ∀ q, q + 1 < cnt → mh_i h1 (137 + 10 * q) 2 = mh_i h (137 + 10 * q) 2 ∨ mh_i h1 (137 + 10 * q) 2 = mh_i h (132 + 10 * q) 2) : RPg h1 G J J2 ap cnt kn cl' fst oth al m nm am pl := by
  have H := P.H
  have er : ∀ b, b = 93 ∨ b = 95 ∨ b = 96 ∨ b = 97 ∨ (100 ≤ b ∧ b ≤ 108) → mh_i h1 b = mh_i h b := fun b hb => ei b (by omega)
  obtain ⟨f1, f2, f3⟩ := P.f
  refine RPg.of ⟨b1, ⟨by rw [e8 33 (by omega)]; exact H.1, H.2.1, by rw [ei 103 (by omega)]; exact H.2.2.1, by rw [ei 104 (by omega)]; exact H.2.2.2⟩, fun p hp => RPT_c er (P.t p hp), fun p hp => MTT_c er (P.M p hp), k1, c1, fun q hq => (e118 q hq).trans (P.a q hq), ⟨by rw [e1 7 (by omega)]; exact f1, by rw [e1 9 (by omega)]; exact f2, by rw [e8 49 (by omega)]; exact f3⟩, by rw [ei 100 (by omega), ei 93 (by omega), ei 94 (by omega)]; exact P.p, fun p hp => ?_, ?_⟩
  · obtain ⟨n1, n2⟩ := P.n p hp
    rw [ei 113 (by omega), ei 114 (by omega)]
    exact ⟨fun x hx => by
      obtain ⟨k, u1, u2, u3, u4⟩ := n1 x hx
      exact ⟨k, u1, u2, NMl_c (ei 98 (by omega)) (ei 99 (by omega)) u3, u4⟩, fun x hx => by
      obtain ⟨k, u1, u2, u3, u4⟩ := n2 x hx
      exact ⟨k, u1, u2, NMl_c (ei 98 (by omega)) (ei 99 (by omega)) u3, u4⟩⟩
  · rcases P.i with ⟨u1, u2⟩ | ⟨D, fu, u1, u2, u3, u4, u5, u6, u7, u8⟩
    · exact Or.inl ⟨by rw [e1 13 (by omega)]; exact u1, u2⟩
    · refine Or.inr ⟨D, fu, z1 u1, t1 D u2, by rw [ei 93 (by omega), ei 95 (by omega), ei 97 (by omega)]; exact u3, by rw [e1 13 (by omega)]; exact u4, u5, u6, u7, fun hm => ?_⟩
      obtain ⟨v1, v2⟩ := u8 hm
      have cb := H.2.1
      refine ⟨by rw [e1 8 (by omega)]; exact v1, fun q hq => ⟨cq q (by omega) (v2 q hq).1, fun hq2 => ?_⟩⟩
      obtain ⟨x1, x2⟩ := (v2 q hq).2 hq2
      refine ⟨by rw [a0 q (by omega)]; exact x1, ?_⟩
      rcases a1 q (by omega) with z | z
      · rw [z]; exact x2
      · rw [z]; exact x1
/-- where the other side, or what is fed, put in, shown, changes -/
theorem RPg_r (f : fz W h h1) (k : WRf W KR h) (P : RPg h G J J2 ap cnt kn cl fst oth al m nm am pl) : RPg h1 G J J2 ap cnt kn cl fst oth al m nm am pl := by
  have F := P.b.Y.F
  have hn := RF_n F
  have cb := P.H.2.1
  exact RPg_c P (RBz_r f k P.b) (fun q hq => RK_r f k (by omega) (P.k q hq)) (fun q hq => RK_r f k (by omega) (P.c q hq)) (fun b hb => wr_i f k hn b (by omega)) (fun q hq => by rw [wr_i f k hn 118 (by omega)]) (fun q hq c => cnQ_c (by omega) (by rw [wr_i f k hn 130 (by omega)]) (by rw [wr_i f k hn 131 (by omega)]) c) (fun j hj => wr_8i f k hn j (by omega)) (fun j hj => by rw [wr_i f k hn 115 (by omega)]) (RZ_r f k) (fun D => FT_r f k F) (fun q hq => by rw [wr_i f k hn (132 + 10 * q) (by omega)]) (fun q hq => Or.inl (by rw [wr_i f k hn (137 + 10 * q) (by omega)]))
/-- no program -/
theorem RPg_0 (B : RBz h) (N : NOP h) (h49 : ¬ mh_i h 81 49 = 3) {sp : Nat → Nat → Bool} {NL : List Nat} {Pt : Nat → lpt} {E0 : nv} : RPg h (pgG sp NL Pt E0 0) (pJ sp NL Pt E0) (pJ2 sp NL Pt E0) ap 1 (fun _ => some A00) (fun _ => some A00) fst oth (fun _ => 0) false nm am (fun _ => 0) := by
  have k0 : ∀ p, (pgG sp NL Pt E0 0).kd p = 0 := fun p => show (if p < 0 then skN (Pt p).N else 0) = 0 from if_neg (Nat.not_lt_zero p)
  have n0 : ∀ p, (pgG sp NL Pt E0 0).n p = 0 := fun p => show (if p < 0 then (Pt p).X.nb + cnZl (Pt p).L else 0) = 0 from if_neg (Nat.not_lt_zero p)
  have a0 : ∀ p, (pgG sp NL Pt E0 0).a p = 0 := fun p => show (if p < 0 then (Pt p).X.na + cnAl (Pt p).L else 0) = 0 from if_neg (Nat.not_lt_zero p)
  obtain ⟨⟨x1, x2, x3, x4⟩, y1, y2, ⟨z1, z2, z3⟩, ⟨w1, w2, w3, w4⟩, ⟨v1, v2, v3, v4, v5⟩⟩ := N
  have nz : (mh_i h 81 49 = 3) = (false = true) := (eq_false h49).trans (eq_false (by decide)).symm
  refine RPg.of ⟨B, ⟨w1, by decide, fun q hq => ?_, fun q hq => ?_⟩, fun p hp => absurd hp (by omega), fun p hp => absurd hp (by omega), fun q hq => ?_, fun q hq => ?_, fun q hq => ?_, ⟨x1, x3, nz⟩, fun p hp => Or.inl ?_, fun p hp => ⟨fun x hx => ?_, fun x hx => ?_⟩, Or.inl ⟨x4, rfl⟩⟩
  · have : q = 0 := by omega
    subst this
    exact ⟨by rw [v4, n0]; rfl, by rw [n0]; decide⟩
  · have : q = 0 := by omega
    subst this
    exact ⟨by rw [v5, a0]; rfl, by rw [a0]; decide⟩
  · have : q = 0 := by omega
    subst this
    exact y1
  · have : q = 0 := by omega
    subst this
    exact y2
  · have : q = 0 := by omega
    subst this
    exact z1
  · have : p = 0 := by omega
    subst this
    exact ⟨v1, k0 0, rfl⟩
  · rw [n0] at hx
    exact absurd hx (Nat.not_lt_zero _)
  · rw [a0] at hx
    exact absurd hx (Nat.not_lt_zero _)
end RGs
