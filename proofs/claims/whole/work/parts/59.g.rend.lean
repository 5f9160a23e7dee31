set_option maxRecDepth 100000
/-! the reference's end: a program -/
/-- the rows of a program that is laid out -/
def RPZ (h : mh_H) (nm : Nat → Nat) (Pt : Nat → lpt) (e : Nat) : Prop := (mh_i h 81 33 = Int32.ofNat (e + 1)) ∧ (REz h e) ∧ (PTz h nm Pt 0 e) ∧ (e ≤ 249)
theorem RPZ.of {h : mh_H} {nm : Nat → Nat} {Pt : Nat → lpt} {e : Nat} (q : (mh_i h 81 33 = Int32.ofNat (e + 1)) ∧ (REz h e) ∧ (PTz h nm Pt 0 e) ∧ (e ≤ 249)) : RPZ h nm Pt e := q
theorem RPZ.c {h : mh_H} {nm : Nat → Nat} {Pt : Nat → lpt} {e : Nat} (q : RPZ h nm Pt e) : mh_i h 81 33 = Int32.ofNat (e + 1) := q.1
theorem RPZ.z {h : mh_H} {nm : Nat → Nat} {Pt : Nat → lpt} {e : Nat} (q : RPZ h nm Pt e) : REz h e := q.2.1
theorem RPZ.p {h : mh_H} {nm : Nat → Nat} {Pt : Nat → lpt} {e : Nat} (q : RPZ h nm Pt e) : PTz h nm Pt 0 e := q.2.2.1
theorem RPZ.e {h : mh_H} {nm : Nat → Nat} {Pt : Nat → lpt} {e : Nat} (q : RPZ h nm Pt e) : e ≤ 249 := q.2.2.2
/-- what the analysis left -/
def RAZ (h : mh_H) (G : pgm) (Dd : fd) (f e : Nat) (w0 : wd) : Prop := (∀ q, q ≤ e → RK h (132 + 10 * q) (KF e (DB G f 0 e (some A00) w0) q) ∧ RK h (137 + 10 * q) (KF e (DB G f 0 e (some A00) w0) q) ∧ mh_i h 118 q = AF e (DB G f 0 e (some A00) w0) q) ∧ (∀ q, q < 250 → (∃ x, RK h (132 + 10 * q) x) ∧ ∃ x, RK h (137 + 10 * q) x) ∧ (mh_i h 115 7 = Int32.ofNat (e + 1)) ∧ (mh_i h 115 13 = Int32.ofNat Dd.c) ∧ (mh_i h 115 8 = Int32.ofNat (wW (DB G f 0 e (some A00) w0).2.1)) ∧ (mh_i h 115 9 = kb (decide (4000 < wW (DB G f 0 e (some A00) w0).2.1))) ∧ (mh_i h 115 34 = 0) ∧ (wW (DB G f 0 e (some A00) w0).2.1 ≤ 4000 → ∀ q, q < e → cnQ G h q ∧ mh_i h (132 + 10 * q) 2 = Int32.ofNat (G.a q) ∧ mh_i h (137 + 10 * q) 2 = Int32.ofNat (G.a q)) ∧ (mh_i h 130 e = 0 ∧ mh_i h 131 e = 0)
theorem RAZ.of {h : mh_H} {G : pgm} {Dd : fd} {f e : Nat} {w0 : wd} (q : (∀ q, q ≤ e → RK h (132 + 10 * q) (KF e (DB G f 0 e (some A00) w0) q) ∧ RK h (137 + 10 * q) (KF e (DB G f 0 e (some A00) w0) q) ∧ mh_i h 118 q = AF e (DB G f 0 e (some A00) w0) q) ∧ (∀ q, q < 250 → (∃ x, RK h (132 + 10 * q) x) ∧ ∃ x, RK h (137 + 10 * q) x) ∧ (mh_i h 115 7 = Int32.ofNat (e + 1)) ∧ (mh_i h 115 13 = Int32.ofNat Dd.c) ∧ (mh_i h 115 8 = Int32.ofNat (wW (DB G f 0 e (some A00) w0).2.1)) ∧ (mh_i h 115 9 = kb (decide (4000 < wW (DB G f 0 e (some A00) w0).2.1))) ∧ (mh_i h 115 34 = 0) ∧ (wW (DB G f 0 e (some A00) w0).2.1 ≤ 4000 → ∀ q, q < e → cnQ G h q ∧ mh_i h (132 + 10 * q) 2 = Int32.ofNat (G.a q) ∧ mh_i h (137 + 10 * q) 2 = Int32.ofNat (G.a q)) ∧ (mh_i h 130 e = 0 ∧ mh_i h 131 e = 0)) : RAZ h G Dd f e w0 := q
theorem RAZ.k {h : mh_H} {G : pgm} {Dd : fd} {f e : Nat} {w0 : wd} (q : RAZ h G Dd f e w0) : ∀ q, q ≤ e → RK h (132 + 10 * q) (KF e (DB G f 0 e (some A00) w0) q) ∧ RK h (137 + 10 * q) (KF e (DB G f 0 e (some A00) w0) q) ∧ mh_i h 118 q = AF e (DB G f 0 e (some A00) w0) q := q.1
theorem RAZ.x {h : mh_H} {G : pgm} {Dd : fd} {f e : Nat} {w0 : wd} (q : RAZ h G Dd f e w0) : ∀ q, q < 250 → (∃ x, RK h (132 + 10 * q) x) ∧ ∃ x, RK h (137 + 10 * q) x := q.2.1
theorem RAZ.n {h : mh_H} {G : pgm} {Dd : fd} {f e : Nat} {w0 : wd} (q : RAZ h G Dd f e w0) : mh_i h 115 7 = Int32.ofNat (e + 1) := q.2.2.1
theorem RAZ.f {h : mh_H} {G : pgm} {Dd : fd} {f e : Nat} {w0 : wd} (q : RAZ h G Dd f e w0) : mh_i h 115 13 = Int32.ofNat Dd.c := q.2.2.2.1
theorem RAZ.w {h : mh_H} {G : pgm} {Dd : fd} {f e : Nat} {w0 : wd} (q : RAZ h G Dd f e w0) : mh_i h 115 8 = Int32.ofNat (wW (DB G f 0 e (some A00) w0).2.1) := q.2.2.2.2.1
theorem RAZ.m {h : mh_H} {G : pgm} {Dd : fd} {f e : Nat} {w0 : wd} (q : RAZ h G Dd f e w0) : mh_i h 115 9 = kb (decide (4000 < wW (DB G f 0 e (some A00) w0).2.1)) := q.2.2.2.2.2.1
theorem RAZ.b {h : mh_H} {G : pgm} {Dd : fd} {f e : Nat} {w0 : wd} (q : RAZ h G Dd f e w0) : mh_i h 115 34 = 0 := q.2.2.2.2.2.2.1
theorem RAZ.c {h : mh_H} {G : pgm} {Dd : fd} {f e : Nat} {w0 : wd} (q : RAZ h G Dd f e w0) : wW (DB G f 0 e (some A00) w0).2.1 ≤ 4000 → ∀ q, q < e → cnQ G h q ∧ mh_i h (132 + 10 * q) 2 = Int32.ofNat (G.a q) ∧ mh_i h (137 + 10 * q) 2 = Int32.ofNat (G.a q) := q.2.2.2.2.2.2.2.1
theorem RAZ.e {h : mh_H} {G : pgm} {Dd : fd} {f e : Nat} {w0 : wd} (q : RAZ h G Dd f e w0) : mh_i h 130 e = 0 ∧ mh_i h 131 e = 0 := q.2.2.2.2.2.2.2.2
section YZs
variable {d n f nP e : Nat} {h h1 : mh_H} {W : Nat → Nat → Prop} {G : pgm} {J : pin} {Dd : fd} {w0 : wd} {nm : Nat → Nat} {Pt : Nat → lpt}
theorem RPZ_c (he : e ≤ 249) (q : ∀ b j, 100 ≤ b → b ≤ 114 → mh_i h1 b j = mh_i h b j) (q33 : mh_i h1 81 33 = mh_i h 81 33) (P : RPZ h nm Pt e) : RPZ h1 nm Pt e := by
  have Z := P.z
  have kk : kpR 250 0 h h1 := ⟨fun y j u1 u2 _ => q y j (by omega) (by omega), fun y j u1 u2 _ => q y j (by omega) (by omega), fun y j u1 u2 _ => q y j (by omega) (by omega), fun j _ => q _ j (by omega) (by omega), fun j _ => q _ j (by omega) (by omega)⟩
  refine RPZ.of ⟨q33.trans P.c, REz.of ⟨?_, ?_, ?_, ?_, ?_, ?_⟩, fun r r1 r2 => ?_, P.e⟩
  · rw [q 100 e (by omega) (by omega)]; exact Z.k
  · rw [q 101 e (by omega) (by omega)]; exact Z.o
  · rw [q 102 e (by omega) (by omega)]; exact Z.e
  · rw [q 103 e (by omega) (by omega)]; exact Z.n
  · rw [q 104 e (by omega) (by omega)]; exact Z.a
  · rw [q 105 e (by omega) (by omega)]; exact Z.m
  · obtain ⟨w1, w2⟩ := P.p r r1 r2
    exact ⟨RPo_k kk (by omega) w1, (q 102 r (by omega) (by omega)).trans w2⟩
theorem cnQ_c {q : Nat} (hq : q < 1000) (e1 : mh_i h1 130 q = mh_i h 130 q) (e2 : mh_i h1 131 q = mh_i h 131 q) (c : cnQ G h q) : cnQ G h1 q := ⟨fun w => by rw [e1, e2]; exact c.1 w, fun w => by omega⟩
theorem RAZ_G (x : fG W h h1) (he : e ≤ 249) (w : ∀ b j, W b j → ¬ (115 ≤ b ∧ b ≤ 2643)) (A : RAZ h G Dd f e w0) : RAZ h1 G Dd f e w0 := by
  have q : ∀ b j, 115 ≤ b → b ≤ 2643 → mh_i h1 b j = mh_i h b j := fun b j u1 u2 => (x.2.2.2.2.2 b j (fun z => w b j z ⟨u1, u2⟩)).1
  have k1 : ∀ o, 132 ≤ o → o ≤ 2639 → ∀ A, RK h o A → RK h1 o A := fun o o1 o2 A r => RK_G x (fun y j hy z => w _ j z ⟨by omega, by omega⟩) r
  refine RAZ.of ⟨fun y hy => ?_, fun y hy => ?_, ?_, ?_, ?_, ?_, ?_, fun hw y hy => ?_, ?_, ?_⟩
  · obtain ⟨a1, a2, a3⟩ := A.k y hy
    exact ⟨k1 _ (by omega) (by omega) _ a1, k1 _ (by omega) (by omega) _ a2, by rw [q 118 y (by omega) (by omega)]; exact a3⟩
  · obtain ⟨⟨x1, a1⟩, x2, a2⟩ := A.x y hy
    exact ⟨⟨x1, k1 _ (by omega) (by omega) _ a1⟩, x2, k1 _ (by omega) (by omega) _ a2⟩
  · rw [q 115 7 (by omega) (by omega)]; exact A.n
  · rw [q 115 13 (by omega) (by omega)]; exact A.f
  · rw [q 115 8 (by omega) (by omega)]; exact A.w
  · rw [q 115 9 (by omega) (by omega)]; exact A.m
  · rw [q 115 34 (by omega) (by omega)]; exact A.b
  · obtain ⟨a1, a2, a3⟩ := A.c hw y hy
    exact ⟨cnQ_c (by omega) (q 130 y (by omega) (by omega)) (q 131 y (by omega) (by omega)) a1, by rw [q _ 2 (by omega) (by omega)]; exact a2, by rw [q _ 2 (by omega) (by omega)]; exact a3⟩
  · rw [q 130 e (by omega) (by omega)]; exact A.e.1
  · rw [q 131 e (by omega) (by omega)]; exact A.e.2
/-- a program: it is analysed -/
theorem y_331c (Y : RYh h) (KC : ∀ q, q < 250 → (∃ x, RK h (132 + 10 * q) x) ∧ ∃ x, RK h (137 + 10 * q) x) (b9 : mh_i h 81 9 = 0) {KN : Nat → Prop} {D : lyD} {K : Nat → Int32} {m cnt N : Nat} {FK : Nat → Nat} {T : tr} {Sc : cps} (RL : ∀ h2, (∀ b j, 93 ≤ b → b ≤ 97 → mh_i h2 b j = mh_i h b j) → mh_i h2 81 24 = mh_i h 81 24 → RLC h2 nm KN D K m cnt FK T) (X : FX (mh_i h 93) (mh_i h 95) (mh_i h 97) Dd) (hc : 0 < D.c) (STg : ∀ g, g < D.c → ∃ k', stR D.sp Sc g N true (D.FT g) (D.S g) k' (D.FP g) (D.FP g).length) (hL : lsI T 1 = some (FK (D.c - 1))) (eP : mh_i h 94 (FK (D.c - 1) + 1) = Int32.ofNat nP) (hf : ts (D.FT (D.c - 1)) + rkF D (D.c - 1) ≤ f) (W : (lyT D f nP).1.1 = 0) (ee : (lyT D f nP).2 = e) (ly : LYR D Pt f true (D.FT (D.c - 1)) (D.B (D.c - 1) + 1) (D.B (D.c - 1)) (D.S (D.c - 1)) 0 e [] 0 (lyX0 D)) (tc : tlc T = D.c) (t2 : tlc T ≤ 2000) (hFK : FK = poZ T 1) (dc : Dd.c = D.c) (dn : ∀ g, g < D.c → Dd.n g = FK g) (hG : G.fx = fxJ J) (LL : LW G J Dd f (Dd.t (Dd.c - 1)) 0 e (E00 Dd)) (hsp : ∀ p, p < e → G.sp p ≤ 350) (hd : 2000 ≤ d) {x1 x2 : Option Value} : ∃ h' w0, wW w0 = 0 ∧ RZ h' ∧ RYh h' ∧ FT h' Dd ∧ RPZ h' nm Pt e ∧ RAZ h' G Dd f e w0 ∧ (mh_i h' 81 2 = 0 ∧ mh_i h' 81 47 = 0 ∧ mh_i h' 81 48 = 0 ∧ mh_i h' 81 49 = (if 4000 < wW (DB G f 0 e (some A00) w0).2.1 then 3 else 0)) ∧ (mh_i h' 81 64 = 0 ∧ mh_i h' 81 65 = 0 ∧ mh_i h' 81 66 = 0) ∧ (∀ b j, b < 115 ∨ (2637 ≤ b ∧ b ≤ 2643) → ¬ yWr b j → mh_i h' b j = mh_i h b j) ∧ (mh_n h ≤ mh_n h' ∧ ∀ b, b < mh_n h → mh_k h' b = mh_k h b ∧ mh_l h' b = mh_l h b) ∧ (qN h' ≤ qN h ∧ qS h' ≤ qS h) ∧ ∀ Q, mw (d + 5) 331 Q 93 [some (.ref 81), x1, x2] [] h = Q (some (.int (if 4000 < wW (DB G f 0 e (some A00) w0).2.1 then 3 else 0))) h' := by
  obtain ⟨x0, C0⟩ := (KC 0 (by decide)).2
  obtain ⟨hA, y1, ⟨y2, y3, y4⟩, y5, y6, y7, y8, y9, -, y11, y12⟩ := y_331l (d := d) (x1 := x1) (x2 := x2) Y.F C0 b9 RL hc STg hL eP hf (by omega)
  obtain ⟨v1, v2, v3, v4, -, v6, v7⟩ := y11 W
  rw [ee] at v3 v4 v6 v7
  have qA : ∀ b j, ¬ yWr b j → mh_i hA b j = mh_i h b j := fun b j z => (y1.2.2.2.2.2 b j z).1
  have PA : RPZ hA nm Pt e := RPZ.of ⟨v3, v6, v7 Pt ly, v4⟩
  have YA : RYh hA := RYh_G y1 Y
  have CA := RL hA (fun b j u1 u2 => qA b j (by unfold yWr noW lyWr; omega)) (qA 81 24 (by unfold yWr noW lyWr; omega))
  have e24 := CA.c.1
  obtain ⟨T1, T2, -⟩ := CA.T
  have KA : ∀ q, q < 250 → (∃ x, RK hA (132 + 10 * q) x) ∧ ∃ x, RK hA (137 + 10 * q) x := fun q hq => by
    by_cases c : q = 0
    · subst c
      exact ⟨⟨_, y5⟩, _, y6⟩
    · obtain ⟨⟨a, a1⟩, b, b1⟩ := KC q hq
      obtain ⟨u1, u2⟩ := y9 q (by omega) hq
      exact ⟨⟨a, u1 a a1⟩, b, u2 b b1⟩
  obtain ⟨hB, z1, z2, z3, z4, ⟨c, k1, k2, k3, k4, k5, k6, k7, k8⟩, z6⟩ := u_270 (d := d + 3) YA T1 T2 CA.c.2 t2
  obtain ⟨m1, m2, m3, m4, m5, -, m7, m8⟩ := z1
  have iB : ∀ b j, b < 115 ∨ (2637 ≤ b ∧ b ≤ 2643) → mh_i hB b j = mh_i hA b j := fun b j hb => (m4 b j (by omega) (by omega) (by omega)).1
  have fB : fz (fun b j => b = 115 ∨ b = 120 ∨ 2644 ≤ b) hA hB := ⟨m1, m2, fun b j hb w => ⟨(m4 b j (by omega) (by omega) (by omega)).1, m5 b j hb, m3 b j hb (by omega)⟩⟩
  have ZB : RZ hB := ⟨z2.F, z3.1, z3.2.1, z3.2.2, z2.P, z2.K, z2.u⟩
  have FB : FT hB Dd := ⟨c, k1, k2, by omega, by omega, k5, k6, k7, fun g hg => by rw [k8 g (by omega), dn g (by omega), hFK]⟩
  have row : ∀ b, 93 ≤ b → b ≤ 97 → mh_i hB b = mh_i h b := fun b u1 u2 => funext fun j => (iB b j (by omega)).trans (qA b j (by unfold yWr noW lyWr; omega))
  obtain ⟨hC, w0, w1, w2, w3, w4, w5, w6, w7, w8, w9, w10, w11, w12, w13, w14, w15⟩ := u_273 (d := d + 3) ZB FB (by rw [row 93 (by omega) (by omega), row 95 (by omega) (by omega), row 97 (by omega) (by omega)]; exact X) (by rw [z4, dc, tc]) (by omega) (fun q hq => by
    obtain ⟨⟨a, a1⟩, -⟩ := KA q hq
    exact ⟨a, RK_fz fB (fun y hy j => by omega) a1⟩) (fun q hq => by
    obtain ⟨-, a, a1⟩ := KA q hq
    exact ⟨a, RK_fz fB (fun y hy j => by omega) a1⟩) hG LL v4 hsp (by omega)
  obtain ⟨⟨⟨r1, r2, r3⟩, r4, r5⟩, -, -, -⟩ := w2
  have par : ∀ b, paR hB b → ¬ (b < 115 ∨ (2637 ≤ b ∧ b ≤ 2643)) := fun b z => by
    obtain ⟨PQ, PS, PU, PF, PL, PH, lP, Pr⟩ := z2.P
    have := Pr.n b ((PR_pa Pr).mp z)
    omega
  have nW : ∀ b j, ((b < 115 ∨ (2637 ≤ b ∧ b ≤ 2643)) ∨ (b = 115 ∧ j = 12)) → ¬ rqW 0 aZ hB b j := fun b j hb z => by
    unfold rqW at z
    rcases z with z | z | z | ⟨i, a, -, ha, hk⟩ | z
    · omega
    · have := par b z
      obtain ⟨PQ, PS, PU, PF, PL, PH, lP, Pr⟩ := z2.P
      have := Pr.n b ((PR_pa Pr).mp z)
      omega
    · omega
    · have := (z2.K i a ha).1
      unfold kc at hk
      omega
    · unfold aZ at z
      rcases z with z | z | z | z | z | ⟨q, q1, q2⟩ | ⟨q, q1, q2⟩
      · omega
      · omega
      · omega
      · omega
      · omega
      · unfold kc at q2
        omega
      · unfold kc at q2
        omega
  have n2 : 2643 < mh_n hB := (z2.F.g 2643 107 8 (by decide +kernel)).2
  have iC : ∀ b j, b < 115 ∨ (2637 ≤ b ∧ b ≤ 2643) → mh_i hC b j = mh_i hA b j := fun b j hb => ((r3 b j (by omega) (nW b j (Or.inl hb))).1).trans (iB b j hb)
  have rC : mh_r hC 115 12 = some c := ((r3 115 12 (by omega) (nW 115 12 (Or.inr ⟨rfl, rfl⟩))).2.2).trans k1
  have YC : RYh hC := by
    obtain ⟨c', u1, u2, -, -, u5, u6, u7, -⟩ := w4
    have ec : c' = c := by
      rw [rC] at u1
      cases u1
      rfl
    subst ec
    obtain ⟨-, l1⟩ := r2 c' k2.2
    obtain ⟨c2, a1, a2, a3, a4, -⟩ := z2.t
    have e2' : c2 = c' := by
      rw [k1] at a1
      cases a1
      rfl
    subst e2'
    exact RYh.of ⟨w3.F, w3.p, w3.s, w3.i, c2, u1, u2, by omega, by omega, u5, u6, u7⟩
  have AC : RAZ hC G Dd f e w0 := RAZ.of ⟨w5, w6, w8, w9, w10, w11, w12, w13, w14⟩
  have fD : ∀ v, fG (fun b j => b = 81 ∧ j = 49) hC (mh_si hC 81 49 v) := fun v => fG_si ⟨rfl, rfl⟩
  have hans : ∀ Q, mw (d + 5) 331 Q 93 [some (.ref 81), x1, x2] [] h = Q (some (.int (if 4000 < wW (DB G f 0 e (some A00) w0).2.1 then 3 else 0))) (mh_si hC 81 49 (if 4000 < wW (DB G f 0 e (some A00) w0).2.1 then 3 else 0)) := fun Q => by
    rw [y12 Q]
    have gA : mg hA 81 14 := YA.F.g 81 14 70 (by decide +kernel)
    have gB : mg hB 81 14 := z2.F.g 81 14 70 (by decide +kernel)
    have gC : mg hC 81 14 := w3.F.g 81 14 70 (by decide +kernel)
    have a52 := YA.F.f 81 52 115 (by decide +kernel)
    have a19 := YA.F.f 81 19 93 (by decide +kernel)
    have a21 := YA.F.f 81 21 95 (by decide +kernel)
    have a23 := YA.F.f 81 23 97 (by decide +kernel)
    have b52 := z2.F.f 81 52 115 (by decide +kernel)
    have g115 : mg hA 115 12 := YA.F.g 115 12 38 (by decide +kernel)
    have h115 : mg hB 115 12 := z2.F.g 115 12 38 (by decide +kernel)
    have le : ((0 : Int32) ≤ 0) = True := by decide
    have n1 : ((0 : Int32) = 0) = True := by decide
    have n2 : ((1 : Int32) = 0) = False := by decide
    have kt : kb true = 1 := rfl
    have kf : kb false = 0 := rfl
    by_cases c4 : 4000 < wW (DB G f 0 e (some A00) w0).2.1
    · have e15 : ∀ Q, mcall (d + 4) 273 [.ref 115] hB Q = Q (some (.int 0)) hC := fun Q => by
        rw [w15 Q, decide_eq_true c4]
        rfl
      rw [if_pos c4]
      clear Y KC C0 y1 y5 y6 y7 y8 y9 y11 y12 v6 v7 qA PA YA CA T1 KA z2 m2 m3 m4 m5 fB ZB FB w3 w4 w5 w6 w13 YC AC fD r2 r3 nW par iC iB RL X STg LL ly w15
      rw [s_331_153]
      simp only [s_331_0, s_331_1, s_331_4, s_331_5, s_331_6, s_331_9, s_331_12, s_331_13, s_331_14, s_331_15, s_331_16, s_331_19, s_331_20, s_331_21, s_331_24, s_331_25, s_331_26, s_331_29, s_331_30, s_331_31, s_331_32, s_331_33, s_331_34, s_331_37, s_331_38, s_331_39, s_331_42, s_331_43, s_331_44, s_331_47, s_331_48, s_331_49, s_331_52, s_331_53, s_331_54, s_331_57, s_331_58, s_331_59, s_331_62, s_331_63, s_331_66, s_331_67, s_331_68, s_331_71, s_331_74, s_331_75, s_331_76, s_331_79, s_331_80, s_331_83, s_331_86, s_331_87, s_331_90, s_331_93, s_331_94, s_331_95, s_331_98, s_331_99, s_331_100, s_331_103, s_331_104, s_331_105, s_331_108, s_331_111, s_331_112, s_331_115, s_331_118, s_331_119, s_331_122, s_331_123, s_331_126, s_331_127, s_331_128, s_331_131, s_331_134, s_331_135, s_331_138, s_331_139, s_331_142, s_331_143, s_331_146, s_331_149, s_331_150, s_331_154, s_331_157, s_331_160, s_331_161, s_331_162, s_331_165, s_331_166, s_331_169, s_331_172, s_331_173, s_331_176, s_331_179, s_331_180, s_331_183, s_331_184, s_331_187, s_331_188, s_331_191, s_331_192, s_331_195, s_331_196, s_331_199, s_331_202, s_331_203, s_331_204, s_331_207, s_331_210, s_331_213, s_331_214, s_331_217, s_331_218, s_331_221, s_331_222, s_331_225, e_331, mv_i_1, mv_l_1, mv_a_1, mv_a_2, mv_a_3, mk2_n, mk2_i, mk2_l, mk2_a, mk2_u, mk2_x, mB_T, mB_F, mS_cons, mS_nil, mSB_T, mSB_F, mca_nil, mca_i, mca_l, mca_r, mca_u, mca_x, mcat_i, mcat_l, mcat_r, mcat_u, mcat_x, mK_some, mK_none, va_rf_s, va_rf_n, lgc_eq, lgc_lt, lgc_gt, lgc_ge, lgc_le, mrd_104, mrd_105, mrd_106, mrd_107, true_and, and_true, and_self, false_and, and_false, true_or, or_true, false_or, or_false, not_true_eq_false, not_false_eq_true, mgb, mga, mgr, mN, reduceCtorEq, ↓reduceIte, eq_self, ge_iff_le, gt_iff_lt, hk_si, hk_sj, hk_sr, hl_si, hl_sj, hl_sr, hn_si, hn_sj, hn_sr, hs_si, hs_sj, hs_sr, hi_sj, hi_sr, hj_si, hj_sr, hr_si, hr_sj, hi_si, hj_sj, hr_sr, mg_si, mg_sj, mg_sr, Nat.reduceAdd, Nat.reduceMul, Nat.reduceSub, Nat.reduceLT, Nat.reduceGT, Nat.reduceEqDiff, Nat.reduceLeDiff, Nat.left_eq_add, Nat.add_eq_left, Nat.reduceMod, Nat.reduceDiv, Nat.succ_ne_self, gA, gB, gC, v1, le, y4, n1, n2, a52, a19, a21, a23, b52, g115, h115, e24, z6, e15]
    · have e15 : ∀ Q, mcall (d + 4) 273 [.ref 115] hB Q = Q (some (.int 1)) hC := fun Q => by
        rw [w15 Q, decide_eq_false c4]
        rfl
      rw [if_neg c4]
      clear Y KC C0 y1 y5 y6 y7 y8 y9 y11 y12 v6 v7 qA PA YA CA T1 KA z2 m2 m3 m4 m5 fB ZB FB w3 w4 w5 w6 w13 YC AC fD r2 r3 nW par iC iB RL X STg LL ly w15
      rw [s_331_153]
      simp only [s_331_0, s_331_1, s_331_4, s_331_5, s_331_6, s_331_9, s_331_12, s_331_13, s_331_14, s_331_15, s_331_16, s_331_19, s_331_20, s_331_21, s_331_24, s_331_25, s_331_26, s_331_29, s_331_30, s_331_31, s_331_32, s_331_33, s_331_34, s_331_37, s_331_38, s_331_39, s_331_42, s_331_43, s_331_44, s_331_47, s_331_48, s_331_49, s_331_52, s_331_53, s_331_54, s_331_57, s_331_58, s_331_59, s_331_62, s_331_63, s_331_66, s_331_67, s_331_68, s_331_71, s_331_74, s_331_75, s_331_76, s_331_79, s_331_80, s_331_83, s_331_86, s_331_87, s_331_90, s_331_93, s_331_94, s_331_95, s_331_98, s_331_99, s_331_100, s_331_103, s_331_104, s_331_105, s_331_108, s_331_111, s_331_112, s_331_115, s_331_118, s_331_119, s_331_122, s_331_123, s_331_126, s_331_127, s_331_128, s_331_131, s_331_134, s_331_135, s_331_138, s_331_139, s_331_142, s_331_143, s_331_146, s_331_149, s_331_150, s_331_154, s_331_157, s_331_160, s_331_161, s_331_162, s_331_165, s_331_166, s_331_169, s_331_172, s_331_173, s_331_176, s_331_179, s_331_180, s_331_183, s_331_184, s_331_187, s_331_188, s_331_191, s_331_192, s_331_195, s_331_196, s_331_199, s_331_202, s_331_203, s_331_204, s_331_207, s_331_210, s_331_213, s_331_214, s_331_217, s_331_218, s_331_221, s_331_222, s_331_225, e_331, mv_i_1, mv_l_1, mv_a_1, mv_a_2, mv_a_3, mk2_n, mk2_i, mk2_l, mk2_a, mk2_u, mk2_x, mB_T, mB_F, mS_cons, mS_nil, mSB_T, mSB_F, mca_nil, mca_i, mca_l, mca_r, mca_u, mca_x, mcat_i, mcat_l, mcat_r, mcat_u, mcat_x, mK_some, mK_none, va_rf_s, va_rf_n, lgc_eq, lgc_lt, lgc_gt, lgc_ge, lgc_le, mrd_104, mrd_105, mrd_106, mrd_107, true_and, and_true, and_self, false_and, and_false, true_or, or_true, false_or, or_false, not_true_eq_false, not_false_eq_true, mgb, mga, mgr, mN, reduceCtorEq, ↓reduceIte, eq_self, ge_iff_le, gt_iff_lt, hk_si, hk_sj, hk_sr, hl_si, hl_sj, hl_sr, hn_si, hn_sj, hn_sr, hs_si, hs_sj, hs_sr, hi_sj, hi_sr, hj_si, hj_sr, hr_si, hr_sj, hi_si, hj_sj, hr_sr, mg_si, mg_sj, mg_sr, Nat.reduceAdd, Nat.reduceMul, Nat.reduceSub, Nat.reduceLT, Nat.reduceGT, Nat.reduceEqDiff, Nat.reduceLeDiff, Nat.left_eq_add, Nat.add_eq_left, Nat.reduceMod, Nat.reduceDiv, Nat.succ_ne_self, gA, gB, gC, v1, le, y4, n1, n2, a52, a19, a21, a23, b52, g115, h115, e24, z6, e15]
  have fv := fD (if 4000 < wW (DB G f 0 e (some A00) w0).2.1 then 3 else 0)
  have iD : ∀ b j, ¬ (b = 81 ∧ j = 49) → mh_i (mh_si hC 81 49 (if 4000 < wW (DB G f 0 e (some A00) w0).2.1 then 3 else 0)) b j = mh_i hC b j := fun b j w => by rw [hi_si, if_neg w]
  have v49 : mh_i (mh_si hC 81 49 (if 4000 < wW (DB G f 0 e (some A00) w0).2.1 then 3 else 0)) 81 49 = (if 4000 < wW (DB G f 0 e (some A00) w0).2.1 then 3 else 0) := by rw [hi_si, if_pos ⟨rfl, rfl⟩]
  have rm : qN (mh_si hC 81 49 (if 4000 < wW (DB G f 0 e (some A00) w0).2.1 then 3 else 0)) = qN hC ∧ qS (mh_si hC 81 49 (if 4000 < wW (DB G f 0 e (some A00) w0).2.1 then 3 else 0)) = qS hC := ⟨rfl, rfl⟩
  generalize mh_si hC 81 49 (if 4000 < wW (DB G f 0 e (some A00) w0).2.1 then 3 else 0) = hD at hans fv iD v49 rm
  have j8 : ∀ j, j ≠ 49 → mh_i hD 81 j = mh_i hA 81 j := fun j w => (iD 81 j (fun z => w z.2)).trans (iC 81 j (by omega))
  have FD : FT hD Dd := FT_same w4 fv.1 fv.2.1 fv.2.2.2.1 fv.2.2.1 (fun c f hc _ => iD c f (by omega))
  have rmA : qN hA = qN h ∧ qS hA = qS h := by
    obtain ⟨u1, u2, u3, u4, u5, -⟩ := y1
    unfold qN qS ln cnS
    rw [u3, u4, u5, u2]
    exact ⟨rfl, rfl⟩
  refine ⟨hD, w0, w1, RZ_same w3 fv.1 fv.2.1 fv.2.2.2.1 (fun b j _ => by rw [fv.2.2.1]), RYh_G fv YC, FD, RPZ_c v4 (fun b j u1 u2 => (iD b j (by omega)).trans (iC b j (by omega))) (j8 33 (by omega)) PA, RAZ_G fv v4 (fun b j z => by omega) AC, ⟨(j8 2 (by omega)).trans y2, (j8 47 (by omega)).trans v1, (j8 48 (by omega)).trans v2, v49⟩, ⟨(j8 64 (by omega)).trans y8.1, (j8 65 (by omega)).trans y8.2.1, (j8 66 (by omega)).trans y8.2.2⟩, fun b j hb hw => ?_, ⟨?_, fun b hb => ?_⟩, ⟨?_, ?_⟩, hans⟩
  · rw [iD b j (fun z => hw (by unfold yWr; omega)), iC b j hb, qA b j hw]
  · rw [fv.2.2.2.1]
    have := y1.2.2.2.1
    omega
  · have e4 := y1.2.2.2.1
    obtain ⟨a1, a2⟩ := m2 b (by omega)
    obtain ⟨b1, b2⟩ := r2 b (by omega)
    rw [fv.1, fv.2.1, b1, b2, a1, a2, y1.1, y1.2.1]
    exact ⟨rfl, rfl⟩
  · rw [rm.1, ← rmA.1]
    exact Int.le_trans r4 m7
  · rw [rm.2, ← rmA.2]
    exact Int.le_trans r5 m8
end YZs
