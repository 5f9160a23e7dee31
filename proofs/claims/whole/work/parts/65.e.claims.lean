set_option maxRecDepth 100000
/-! claims, pure: what they leave -/
section CPs
variable {G : pgm} {cnt : Nat} {cl kn : Nat → Option ab} {n a : Nat} {r : Nat → Nat}
theorem o_le_r {x : Option ab} : o_le x x := by
  cases x with
  | none => trivial
  | some A => exact a_le_id
theorem o_le_t {x y z : Option ab} (sx : shp n a r x) (sy : shp n a r y) (h1 : o_le x y) (h2 : o_le y z) : o_le x z := by
  cases x with
  | none => trivial
  | some A =>
    cases y with
    | none => exact absurd h1 (fun q => q)
    | some B =>
      cases z with
      | none => exact absurd h2 (fun q => q)
      | some C =>
        obtain ⟨-, a1, a2, -⟩ := sx A rfl
        obtain ⟨-, b1, b2, -⟩ := sy B rfl
        obtain ⟨u1, u2⟩ := h1
        obtain ⟨v1, v2⟩ := h2
        refine ⟨fun i j hi hj => Int.le_trans (u1 i j hi hj) (v1 i j (by omega) (by omega)), fun x hx => ?_⟩
        obtain ⟨p1, p2⟩ := u2 x hx
        obtain ⟨q1, q2⟩ := v2 x (by omega)
        exact ⟨Int.le_trans q1 p1, Int.le_trans p2 q2⟩
theorem up_ok (S : CSH G cnt cl) {q : Nat} {X : Option ab} (hX : q < cnt → shp (G.n q) (G.a q) (G.rm q) X) (lX : o_le X (cl q)) : CSH G cnt (upC cl q X) ∧ ∀ q', o_le (upC cl q X q') (cl q') := by
  refine ⟨fun q' hq' => ?_, fun q' => ?_⟩
  · by_cases c : q' = q
    · subst c
      rw [upC_s]
      exact hX hq'
    · rw [upC_n c]
      exact S q' hq'
  · by_cases c : q' = q
    · subst c
      rw [upC_s]
      exact lX
    · rw [upC_n c]
      exact o_le_r
theorem cle_t {cl' : Nat → Option ab} (S : CSH G cnt cl) (S' : CSH G cnt cl') (w : ∀ q, o_le (cl' q) (cl q)) (L : CLE cnt cl kn) : CLE cnt cl' kn := fun q hq => o_le_t (S' q hq) (S q hq) (w q) (L q hq)
theorem cm_ok (S : CSH G cnt cl) {p x s y t : Int32} {c : Int64} : CSH G cnt (cmC G cnt cl p x s y t c) ∧ ∀ q, o_le (cmC G cnt cl p x s y t c q) (cl q) := by
  unfold cmC
  by_cases ok : okB G cnt p x s y t = true
  · rw [if_pos ok]
    cases e : cl p.toNatClampNeg with
    | none => exact ⟨S, fun q => o_le_r⟩
    | some A =>
      show CSH G cnt (upC cl p.toNatClampNeg (cmO (sgx x s) (sgx y t) c.toInt A)) ∧ ∀ q, o_le (upC cl p.toNatClampNeg (cmO (sgx x s) (sgx y t) c.toInt A) q) (cl q)
      exact up_ok S (fun hq => cm_shp (by rw [← e]; exact S _ hq)) (by rw [e]; exact cm_le)
  · rw [if_neg ok]
    exact ⟨S, fun q => o_le_r⟩
theorem cm_no {p x s y t : Int32} {c : Int64} (w : ¬ cmR G cnt cl p x s y t c = 1) : cmC G cnt cl p x s y t c = cl := by
  unfold cmR at w
  unfold cmC
  by_cases ok : okB G cnt p x s y t = true
  · rw [if_pos ok] at w ⊢
    cases e : cl p.toNatClampNeg with
    | none => rfl
    | some A =>
      rw [e] at w
      have w' : ¬ cmV (sgx x s) (sgx y t) c.toInt A = 1 := w
      unfold cmV at w'
      by_cases q : a_gr A (sgx x s) (sgx y t) ≤ c.toInt
      · show upC cl p.toNatClampNeg (cmO (sgx x s) (sgx y t) c.toInt A) = cl
        have e2 : cmO (sgx x s) (sgx y t) c.toInt A = some A := if_pos q
        rw [e2, ← e]
        exact upC_i
      · rw [if_neg q] at w'
        exact absurd rfl w'
  · rw [if_neg ok]
theorem cr_ok (S : CSH G cnt cl) {p b g c : Int32} : CSH G cnt (crC G cnt cl p b g c) ∧ ∀ q, o_le (crC G cnt cl p b g c q) (cl q) := by
  have c1 := Int32.le_toInt c
  have c2 := Int32.toInt_lt c
  unfold crC
  by_cases ok : okA G cnt p b = true
  · rw [if_pos ok]
    cases e : cl p.toNatClampNeg with
    | none => exact ⟨S, fun q => o_le_r⟩
    | some A =>
      show CSH G cnt (upC cl p.toNatClampNeg (rgP b.toNatClampNeg g c.toInt A)) ∧ ∀ q, o_le (upC cl p.toNatClampNeg (rgP b.toNatClampNeg g c.toInt A) q) (cl q)
      exact up_ok S (fun hq => rg_shp (by rw [← e]; exact S _ hq) ⟨by omega, by omega⟩) (by rw [e]; exact rg_le)
  · rw [if_neg ok]
    exact ⟨S, fun q => o_le_r⟩
theorem cr_no {p b g c : Int32} (w : ¬ crR G cnt cl p b g c = 1) : crC G cnt cl p b g c = cl := by
  unfold crR at w
  unfold crC
  by_cases ok : okA G cnt p b = true
  · rw [if_pos ok] at w ⊢
    cases e : cl p.toNatClampNeg with
    | none => rfl
    | some A =>
      rw [e] at w
      have w' : ¬ rgV b.toNatClampNeg g c.toInt A = 1 := w
      unfold rgV at w'
      by_cases q : (if g = 0 then c.toInt ≤ A.lo b.toNatClampNeg else A.hi b.toNatClampNeg ≤ c.toInt)
      · show upC cl p.toNatClampNeg (rgP b.toNatClampNeg g c.toInt A) = cl
        have e2 : rgP b.toNatClampNeg g c.toInt A = some A := if_pos q
        rw [e2, ← e]
        exact upC_i
      · rw [if_neg q] at w'
        exact absurd rfl w'
  · rw [if_neg ok]
theorem cn_ok (S : CSH G cnt cl) {p : Int32} : CSH G cnt (cnC cnt cl p) ∧ ∀ q, o_le (cnC cnt cl p q) (cl q) := by
  unfold cnC
  split
  · exact up_ok S (fun hq A e => by cases e) trivial
  · exact ⟨S, fun q => o_le_r⟩
theorem cn_no {p : Int32} (w : ¬ cnR cnt cl p = 1) : cnC cnt cl p = cl := by
  unfold cnR at w
  unfold cnC
  by_cases ok : okP cnt p = true
  · rw [if_pos ok] at w ⊢
    cases e : cl p.toNatClampNeg with
    | none =>
      rw [← e]
      exact upC_i
    | some A =>
      rw [e] at w
      exact absurd rfl w
  · rw [if_neg ok]
/-- what inductive answers is one answer -/
theorem JV_u {fst oth : Nat → Nat} {m : Bool} {v v' : Int32} (x : JV G cnt cl fst oth m v) (y : JV G cnt cl fst oth m v') : v = v' := by
  rcases x with ⟨x1, x2⟩ | ⟨x1, x2, x3⟩ | ⟨x1, x2, b, x3, x4⟩
  · rcases y with ⟨y1, y2⟩ | ⟨y1, y2, y3⟩ | ⟨y1, y2, b', y3, y4⟩
    · rw [x2, y2]
    · rw [x1] at y1; cases y1
    · rw [x1] at y1; cases y1
  · rcases y with ⟨y1, y2⟩ | ⟨y1, y2, y3⟩ | ⟨y1, y2, b', y3, y4⟩
    · rw [x1] at y1; cases y1
    · rw [x3, y3]
    · exact absurd x2 y2
  · rcases y with ⟨y1, y2⟩ | ⟨y1, y2, y3⟩ | ⟨y1, y2, b', y3, y4⟩
    · rw [x1] at y1; cases y1
    · exact absurd y2 x2
    · have e : b = b' := by
        obtain ⟨p1, p2, p3⟩ := x3
        obtain ⟨q1, q2, q3⟩ := y3
        rcases p3 with p3 | ⟨p3, p4, p5⟩
        · rcases q3 with q3 | ⟨q3, q4, q5⟩
          · omega
          · have := p2 b' q3 q4 q5
            omega
        · have := q2 b p3 p4 p5
          rcases q3 with q3 | ⟨q3, q4, q5⟩
          · omega
          · have := p2 b' q3 q4 q5
            omega
      rw [x4, y4, e]
end CPs
section CTs2
variable {R R' : Nat → Prop} {k : Nat} {h h1 h2 : mh_H} {fd : Nat × (Nat → Int32)} {td : Bool × Int32 × Int32 × Int32} {g : pgz} {cl cl' : Nat → Option ab} {ip : Nat × (Nat → Int32)} {rz : rnz} {T : List Int32}
/-- claims changed on both sides -/
theorem cl_tail {V U : Nat → Nat → Prop} {Y C E TT UU SC SP nC nE nS pa : Nat} (I : INV R k h fd td g cl ip rz T) (P : CPg h Y C E TT UU SC SP nC nE nS pa g.G g.J g.J2 g.c g.fs g.ot g.pl) (D1 : SDs R h1) (sk : sdK R h h1) (D2 : SDs R' h2) (sk2 : sdK (fun b => ¬ R b ∧ b < mh_n h1) h1 h2) (z : zS V U h h1) (hU : ∀ b j, U b j → b = 0 ∧ 10 ≤ j ∧ j ≤ 12) (hV : ∀ b j, V b j → b = 73 ∨ b = 34 ∨ b = 51) (B1 : BS h1 Y C E TT UU SC SP nC nE nS) (cc : ∀ q, q < 250 → V 73 q → mh_r h1 73 q = none ∨ ∃ v, pv h1 73 q v) (c1 : ∀ q, q < g.c → pv h1 73 q (cl' q)) {ca jd : Bool} (j1 : mh_i h1 0 10 = kb ca) (j2 : mh_i h1 0 11 = kb jd) (j3 : jd = true → JV g.G g.c cl' g.fs g.ot g.m (mh_i h1 0 12)) (j4 : ca = false → ∀ q, q < g.c → cl' q = g.kn q) (IR2 : IRf h2 fd td g cl' ip rz T) (q1 : qN h2 ≤ qN h1) (q2 : qS h2 ≤ qS h1) (S' : CSH g.G g.c cl') (L' : CLE g.c cl' g.kn) : INV R' (k + 1) h2 fd td g cl' ip rz T := by
  obtain ⟨IC1, P1⟩ := ICl_cl P I.C z hU hV B1 cc c1 j1 j2 j3 j4
  have IC2 := ICl_x D1 sk2 IC1
  obtain ⟨ap, Pr0⟩ := I.R.P
  obtain ⟨s0, l, L⟩ := I.C.l
  obtain ⟨s1, l1, L1⟩ := IC1.l
  have F := P.B.F
  have g0 := F.g 0 11 15 (by decide +kernel)
  have r0 : mh_r h1 0 13 = mh_r h 0 13 := z.rr 0 11 13 g0 (by decide) (by decide) (by unfold eff; omega) (by unfold isPl; omega)
  have lnE : ln h1 0 13 = ln h 0 13 := by
    unfold ln
    rw [r0, L.r]
    exact zS_l z L.g
  have hF := I.F
  have z1 := z.rN
  have z2 := z.rS
  exact INV.of ⟨D2, IC2, IR2, PUW.of ⟨I.w.P, S', L', I.w.f, I.w.i, I.w.r⟩, RM_2 I.S sk Pr0.b.Y sk2 D1 P1.B ⟨s1, L1.r, L1.g.2⟩ q1 q2 (by rw [lnE]; omega) (by rw [lnE]; omega) I.m, by omega⟩
theorem s_claim (I : INV R k h fd td g cl ip rz T) (p x s y t : Int32) (c : Int64) : NXT k h 199 379 [.ref 0, .int p, .int x, .int s, .int y, .int t, .long c] [.ref 81, .int p, .int x, .int s, .int y, .int t, .long c] := by
  obtain ⟨Y, C, E, TT, UU, SC, SP, nC, nE, nS, pa, P⟩ := I.C.P
  have hn := P.B.N
  obtain ⟨h1, z, B1, c1, fl, run1⟩ := v_199 (d := 2042) (p := p) (x := x) (s := s) (y := y) (t := t) (c := c) P.B P.H I.C.c I.w.c
  obtain ⟨D1, sk⟩ := sd_c I.S (ar_0 (fun v hv o e => by subst e; simp at hv)) run1 hn
  have IR1 := IRf_x I.S sk I.R
  obtain ⟨ap1, Pr1⟩ := IR1.P
  obtain ⟨h2, y1, y2, y3, run2⟩ := u_379 (d := 2043) (p := p) (x := x) (s := s) (y := y) (t := t) (c := c) Pr1.b.Y.F Pr1.H Pr1.c I.w.c
  obtain ⟨D2, sk2⟩ := sd_r D1 (ar_81 (fun v hv o e => by subst e; simp at hv)) run2 (Nat.le_trans hn z.nn)
  obtain ⟨S', L'⟩ := cm_ok (p := p) (x := x) (s := s) (y := y) (t := t) (c := c) I.w.c
  have cb := I.w.P.c
  have IR2 := IRf_cl IR1 y1 y2 (fun q hq => Or.inl (y3 q (by omega)))
  obtain ⟨r1, r2⟩ := fG_rm (fG_fq y1)
  obtain ⟨ca, jd, j1, j2, j3, j4⟩ := I.C.j
  have cc : ∀ q, q < 250 → (73 = 73 ∧ q < g.c) → mh_r h1 73 q = none ∨ ∃ v, pv h1 73 q v := fun q _ w => Or.inr ⟨_, c1 q w.2⟩
  have hU : ∀ b j, ntU b j → b = 0 ∧ 10 ≤ j ∧ j ≤ 12 := fun b j u => by unfold ntU at u; omega
  have hV : ∀ b j, (b = 73 ∧ j < g.c) → b = 73 ∨ b = 34 ∨ b = 51 := fun b j v => Or.inl v.1
  by_cases e : cmR g.G g.c cl p x s y t c = 1
  · rw [if_pos e] at fl
    exact ⟨_, h1, h2, _, fd, td, g, _, ip, rz, T, run1, run2, cl_tail I P D1 sk D2 sk2 z hU hV B1 cc c1 (ca := true) (jd := false) fl.1 fl.2 (fun z => by cases z) (fun z => by cases z) IR2 (Int.le_of_eq r1) (Int.le_of_eq r2) S' (cle_t I.w.c S' L' I.w.e)⟩
  · rw [if_neg e] at fl
    subst fl
    rw [cm_no e] at IR2 c1
    exact ⟨_, h1, h2, _, fd, td, g, cl, ip, rz, T, run1, run2, cl_tail I P D1 sk D2 sk2 z hU hV B1 cc c1 j1 j2 j3 j4 IR2 (Int.le_of_eq r1) (Int.le_of_eq r2) I.w.c I.w.e⟩
theorem s_crange (I : INV R k h fd td g cl ip rz T) (p a b c : Int32) : NXT k h 200 380 [.ref 0, .int p, .int a, .int b, .int c] [.ref 81, .int p, .int a, .int b, .int c] := by
  obtain ⟨Y, C, E, TT, UU, SC, SP, nC, nE, nS, pa, P⟩ := I.C.P
  have hn := P.B.N
  obtain ⟨h1, z, B1, c1, fl, run1⟩ := v_200 (d := 2042) (p := p) (a := a) (g := b) (c := c) P.B P.H I.C.c I.w.c
  obtain ⟨D1, sk⟩ := sd_c I.S (ar_0 (fun v hv o e => by subst e; simp at hv)) run1 hn
  have IR1 := IRf_x I.S sk I.R
  obtain ⟨ap1, Pr1⟩ := IR1.P
  obtain ⟨h2, y1, y2, y3, run2⟩ := u_380 (d := 2043) (p := p) (a := a) (g := b) (c := c) Pr1.b.Y.F Pr1.H Pr1.c I.w.c
  obtain ⟨D2, sk2⟩ := sd_r D1 (ar_81 (fun v hv o e => by subst e; simp at hv)) run2 (Nat.le_trans hn z.nn)
  obtain ⟨S', L'⟩ := cr_ok (p := p) (b := a) (g := b) (c := c) I.w.c
  have cb := I.w.P.c
  have IR2 := IRf_cl IR1 y1 y2 (fun q hq => Or.inl (y3 q (by omega)))
  obtain ⟨r1, r2⟩ := fG_rm (fG_fq y1)
  obtain ⟨ca, jd, j1, j2, j3, j4⟩ := I.C.j
  have cc : ∀ q, q < 250 → (73 = 73 ∧ q < g.c) → mh_r h1 73 q = none ∨ ∃ v, pv h1 73 q v := fun q _ w => Or.inr ⟨_, c1 q w.2⟩
  have hU : ∀ b j, ntU b j → b = 0 ∧ 10 ≤ j ∧ j ≤ 12 := fun b j u => by unfold ntU at u; omega
  have hV : ∀ b j, (b = 73 ∧ j < g.c) → b = 73 ∨ b = 34 ∨ b = 51 := fun b j v => Or.inl v.1
  by_cases e : crR g.G g.c cl p a b c = 1
  · rw [if_pos e] at fl
    exact ⟨_, h1, h2, _, fd, td, g, _, ip, rz, T, run1, run2, cl_tail I P D1 sk D2 sk2 z hU hV B1 cc c1 (ca := true) (jd := false) fl.1 fl.2 (fun z => by cases z) (fun z => by cases z) IR2 (Int.le_of_eq r1) (Int.le_of_eq r2) S' (cle_t I.w.c S' L' I.w.e)⟩
  · rw [if_neg e] at fl
    subst fl
    rw [cr_no e] at IR2 c1
    exact ⟨_, h1, h2, _, fd, td, g, cl, ip, rz, T, run1, run2, cl_tail I P D1 sk D2 sk2 z hU hV B1 cc c1 j1 j2 j3 j4 IR2 (Int.le_of_eq r1) (Int.le_of_eq r2) I.w.c I.w.e⟩
theorem s_cnothing (I : INV R k h fd td g cl ip rz T) (p : Int32) : NXT k h 201 381 [.ref 0, .int p] [.ref 81, .int p] := by
  obtain ⟨Y, C, E, TT, UU, SC, SP, nC, nE, nS, pa, P⟩ := I.C.P
  have hn := P.B.N
  obtain ⟨h1, z, B1, c1, fl, run1⟩ := v_201 (d := 2045) (p := p) P.B P.H I.C.c
  obtain ⟨D1, sk⟩ := sd_c I.S (ar_0 (fun v hv o e => by subst e; simp at hv)) run1 hn
  have IR1 := IRf_x I.S sk I.R
  obtain ⟨ap1, Pr1⟩ := IR1.P
  obtain ⟨h2, y1, y2, y3, run2⟩ := u_381 (d := 2045) (p := p) Pr1.b.Y.F Pr1.H Pr1.c
  obtain ⟨D2, sk2⟩ := sd_r D1 (ar_81 (fun v hv o e => by subst e; simp at hv)) run2 (Nat.le_trans hn z.nn)
  obtain ⟨S', L'⟩ := cn_ok (p := p) I.w.c
  have cb := I.w.P.c
  have IR2 := IRf_cl IR1 y1 y2 (fun q hq => Or.inl (y3 q (by omega)))
  obtain ⟨r1, r2⟩ := fG_rm (fG_fq y1)
  obtain ⟨ca, jd, j1, j2, j3, j4⟩ := I.C.j
  have cc : ∀ q, q < 250 → (73 = 73 ∧ q < g.c) → mh_r h1 73 q = none ∨ ∃ v, pv h1 73 q v := fun q _ w => Or.inr ⟨_, c1 q w.2⟩
  have hU : ∀ b j, ntU b j → b = 0 ∧ 10 ≤ j ∧ j ≤ 12 := fun b j u => by unfold ntU at u; omega
  have hV : ∀ b j, (b = 73 ∧ j < g.c) → b = 73 ∨ b = 34 ∨ b = 51 := fun b j v => Or.inl v.1
  by_cases e : cnR g.c cl p = 1
  · rw [if_pos e] at fl
    exact ⟨_, h1, h2, _, fd, td, g, _, ip, rz, T, run1, run2, cl_tail I P D1 sk D2 sk2 z hU hV B1 cc c1 (ca := true) (jd := false) fl.1 fl.2 (fun z => by cases z) (fun z => by cases z) IR2 (Int.le_of_eq r1) (Int.le_of_eq r2) S' (cle_t I.w.c S' L' I.w.e)⟩
  · rw [if_neg e] at fl
    subst fl
    rw [cn_no e] at IR2 c1
    exact ⟨_, h1, h2, _, fd, td, g, cl, ip, rz, T, run1, run2, cl_tail I P D1 sk D2 sk2 z hU hV B1 cc c1 j1 j2 j3 j4 IR2 (Int.le_of_eq r1) (Int.le_of_eq r2) I.w.c I.w.e⟩
theorem s_unclaim (I : INV R k h fd td g cl ip rz T) : NXT k h 202 382 [.ref 0] [.ref 81] := by
  obtain ⟨Y, C, E, TT, UU, SC, SP, nC, nE, nS, pa, P⟩ := I.C.P
  have hn := P.B.N
  have cb := I.w.P.c
  obtain ⟨h1, z, B1, c0, c1, f1, f2, run1⟩ := v_202 (d := 2043) P.B P.H P.c I.C.c I.C.k I.w.c I.w.P.k I.w.e
  obtain ⟨D1, sk⟩ := sd_c I.S (ar_0 (fun v hv o e => by subst e; simp at hv)) run1 hn
  have IR1 := IRf_x I.S sk I.R
  obtain ⟨ap1, Pr1⟩ := IR1.P
  obtain ⟨h2, y1, y2, y3, run2⟩ := u_382 (d := 2043) Pr1.b.Y.F Pr1.f.1 cb.2 Pr1.k Pr1.c I.w.c I.w.P.k
  obtain ⟨D2, sk2⟩ := sd_r D1 (ar_81 (fun v hv o e => by subst e; simp at hv)) run2 (Nat.le_trans hn z.nn)
  have IR2 := IRf_cl IR1 y1 y2 (fun q hq => Or.inr (y3 q hq))
  obtain ⟨r1, r2⟩ := fG_rm (fG_fq y1)
  exact ⟨_, h1, h2, _, fd, td, g, g.kn, ip, rz, T, run1, run2, cl_tail I P D1 sk D2 sk2 z (fun b j u => by unfold ntU at u; omega) (fun b j v => Or.inl v) B1 (fun q hq _ => c0 q hq) c1 (ca := false) (jd := false) f1 f2 (fun z => by cases z) (fun _ q _ => rfl) IR2 (Int.le_of_eq r1) (Int.le_of_eq r2) I.w.P.k (fun q hq => o_le_r)⟩
end CTs2
