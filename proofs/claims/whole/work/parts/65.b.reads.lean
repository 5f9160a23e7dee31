set_option maxRecDepth 100000
/-! calls that change nothing: both sides answer alike -/
section N8s
variable {d : Nat} {h : mh_H} {G : pgm} {cnt p : Nat}
theorem n_80 (F : CF h) (H : PH h G cnt) (hp : p < cnt) : ∀ Q, mcall d 80 [.ref 2, .int (Int32.ofNat p)] h Q = Q (some (.int (Int32.ofNat (G.n p)))) h := by
  have cb := H.b
  obtain ⟨St, nb, nm, na, nx, q1, q2, q3, q4, q5, q6, q7, q8, q9⟩ := H.s p hp
  have := c_80 (d := d) F (by omega) q4 q1 q2 q5
  rw [q6] at this
  exact this
theorem n_81 (F : CF h) (H : PH h G cnt) (hp : p < cnt) : ∀ Q, mcall d 81 [.ref 2, .int (Int32.ofNat p)] h Q = Q (some (.int (Int32.ofNat (G.a p)))) h := by
  have cb := H.b
  obtain ⟨St, nb, nm, na, nx, q1, q2, q3, q4, q5, q6, q7, q8, q9⟩ := H.s p hp
  have := c_81 (d := d) F (by omega) q7 q1 q2 q8
  rw [q9] at this
  exact this
end N8s
section ROs
variable {R : Nat → Prop} {k : Nat} {h : mh_H} {fd : Nat × (Nat → Int32)} {td : Bool × Int32 × Int32 × Int32} {g : pgz} {cl : Nat → Option ab} {ip : Nat × (Nat → Int32)} {rz : rnz} {T : List Int32}
theorem q_told (I : INV R k h fd td g cl ip rz T) (a : Int32) : ∃ r, (∀ Q, mcall 2046 189 [.ref 0, .int a] h Q = Q (some (.int r)) h) ∧ ∀ Q, mcall 2046 332 [.ref 81, .int a] h Q = Q (some (.int r)) h := by
  obtain ⟨Y, C, E, TT, UU, SC, SP, nC, nE, nS, pa, P⟩ := I.C.P
  obtain ⟨ap, Pr⟩ := I.R.P
  have F := Pr.b.Y.F
  obtain ⟨t1, t2, t3, t4⟩ := I.C.t
  obtain ⟨u1, u2⟩ := I.R.t
  cases e : td.1 with
  | false =>
    rw [e] at t1
    exact ⟨-1, v_189n P.B.F t1, u_332n F (u1 e)⟩
  | true =>
    rw [e] at t1
    obtain ⟨w1, w2, w3, w4⟩ := u2 e
    refine ⟨an3 a td.2.1 td.2.2.1 td.2.2.2, fun Q => ?_, fun Q => ?_⟩
    · have := v_189 (d := 2046) (i := a) P.B.F t1 Q
      rw [t2, t3, t4] at this
      exact this
    · have := u_332 (d := 2046) (i := a) F w1 w4.symm Q
      rw [w2, w3] at this
      exact this
theorem q_points (I : INV R k h fd td g cl ip rz T) : ∃ r, (∀ Q, mcall 2046 190 [.ref 0] h Q = Q (some (.int r)) h) ∧ ∀ Q, mcall 2046 350 [.ref 81] h Q = Q (some (.int r)) h := by
  obtain ⟨Y, C, E, TT, UU, SC, SP, nC, nE, nS, pa, P⟩ := I.C.P
  obtain ⟨ap, Pr⟩ := I.R.P
  refine ⟨Int32.ofNat g.c, fun Q => ?_, fun Q => ?_⟩
  · have := v_190 (d := 2046) P.B.F Q
    rw [P.H.c] at this
    exact this
  · have := u_350 (d := 2046) Pr.b.Y.F Q
    rw [Pr.H.c] at this
    exact this
theorem q_point (I : INV R k h fd td g cl ip rz T) (a b : Int32) : ∃ r, (∀ Q, mcall 2046 191 [.ref 0, .int a, .int b] h Q = Q (some (.int r)) h) ∧ ∀ Q, mcall 2046 352 [.ref 81, .int a, .int b] h Q = Q (some (.int r)) h := by
  obtain ⟨Y, C, E, TT, UU, SC, SP, nC, nE, nS, pa, P⟩ := I.C.P
  obtain ⟨ap, Pr⟩ := I.R.P
  have cb := I.w.P.c
  cases e : okP g.c a with
  | false => exact ⟨-1, v_191n (d := 2045) P.B P.H e, u_352n Pr.b.Y.F Pr.H.c e⟩
  | true =>
    obtain ⟨q, hq, ea, -⟩ := okP_n (by omega) e
    subst ea
    exact ⟨_, v_191 (d := 2045) P.B P.H hq (P.p q hq) (I.C.a q hq) (I.C.k q hq) (I.C.c q hq), u_352 (d := 2046) (kd := g.G.kd q) Pr.b.Y.F Pr.H.c cb.2 hq (Pr.p q hq) (Pr.a q hq) (Pr.H.n q hq).1 (Pr.H.a q hq).1 (Pr.k q hq) (Pr.c q hq)⟩
theorem q_bound (I : INV R k h fd td g cl ip rz T) (b p x s y t : Int32) : ∃ r, (∀ Q, mcall 2046 196 [.ref 0, .int b, .int p, .int x, .int s, .int y, .int t] h Q = Q (some (.long r)) h) ∧ ∀ Q, mcall 2046 377 [.ref 81, .int b, .int p, .int x, .int s, .int y, .int t] h Q = Q (some (.long r)) h := by
  obtain ⟨Y, C, E, TT, UU, SC, SP, nC, nE, nS, pa, P⟩ := I.C.P
  obtain ⟨ap, Pr⟩ := I.R.P
  by_cases c : b = 0
  · exact ⟨_, v_196 (d := 2044) (st := g.kn) P.B P.H (fun q hq => by rw [if_pos c]; exact I.C.k q hq) I.w.P.k, u_377 (d := 2044) (st := g.kn) Pr.b.Y.F Pr.H (fun q hq => by unfold kO; rw [if_pos c]; exact Pr.k q hq) I.w.P.k⟩
  · exact ⟨_, v_196 (d := 2044) (st := cl) P.B P.H (fun q hq => by rw [if_neg c]; exact I.C.c q hq) I.w.c, u_377 (d := 2044) (st := cl) Pr.b.Y.F Pr.H (fun q hq => by unfold kO; rw [if_neg c]; exact Pr.c q hq) I.w.c⟩
theorem q_range (I : INV R k h fd td g cl ip rz T) (b p a s : Int32) : ∃ r, (∀ Q, mcall 2046 198 [.ref 0, .int b, .int p, .int a, .int s] h Q = Q (some (.long r)) h) ∧ ∀ Q, mcall 2046 378 [.ref 81, .int b, .int p, .int a, .int s] h Q = Q (some (.long r)) h := by
  obtain ⟨Y, C, E, TT, UU, SC, SP, nC, nE, nS, pa, P⟩ := I.C.P
  obtain ⟨ap, Pr⟩ := I.R.P
  by_cases c : b = 0
  · exact ⟨_, v_198 (d := 2044) (st := g.kn) P.B P.H (fun q hq => by rw [if_pos c]; exact I.C.k q hq) I.w.P.k, u_378 (d := 2044) (st := g.kn) Pr.b.Y.F Pr.H (fun q hq => by unfold kO; rw [if_pos c]; exact Pr.k q hq) I.w.P.k⟩
  · exact ⟨_, v_198 (d := 2044) (st := cl) P.B P.H (fun q hq => by rw [if_neg c]; exact I.C.c q hq) I.w.c, u_378 (d := 2044) (st := cl) Pr.b.Y.F Pr.H (fun q hq => by unfold kO; rw [if_neg c]; exact Pr.c q hq) I.w.c⟩
theorem q_ran (I : INV R k h fd td g cl ip rz T) (a : Int32) : ∃ r, (∀ Q, mcall 2046 209 [.ref 0, .int a] h Q = Q (some (.int r)) h) ∧ ∀ Q, mcall 2046 369 [.ref 81, .int a] h Q = Q (some (.int r)) h := by
  obtain ⟨Y, C, E, TT, UU, SC, SP, nC, nE, nS, pa, P⟩ := I.C.P
  obtain ⟨ap, Pr⟩ := I.R.P
  obtain ⟨a1, a2, a3, -⟩ := I.C.r
  obtain ⟨b1, b2, b3, -⟩ := I.R.r
  refine ⟨an3 a (Int32.ofNat rz.p) rz.d rz.t, fun Q => ?_, fun Q => ?_⟩
  · have := v_209 (d := 2046) (i := a) P.B.F Q
    rw [a1, a2, a3] at this
    exact this
  · have := u_369 (d := 2046) (i := a) Pr.b.Y.F Q
    rw [b1, b2, b3] at this
    exact this
theorem q_outside (I : INV R k h fd td g cl ip rz T) : ∃ r, (∀ Q, mcall 2046 212 [.ref 0] h Q = Q (some (.int r)) h) ∧ ∀ Q, mcall 2046 368 [.ref 81] h Q = Q (some (.int r)) h := by
  obtain ⟨Y, C, E, TT, UU, SC, SP, nC, nE, nS, pa, P⟩ := I.C.P
  obtain ⟨ap, Pr⟩ := I.R.P
  refine ⟨rz.o, fun Q => ?_, fun Q => ?_⟩
  · have := v_212 (d := 2046) P.B.F Q
    rw [I.C.r.2.2.2.1] at this
    exact this
  · have := u_368 (d := 2046) Pr.b.Y.F Q
    rw [I.R.r.2.2.2.1] at this
    exact this
/-- an index that is none, or one of n -/
theorem ix_n {n : Nat} {i : Int32} (hn : n < 1000) : (i < 0 ∨ Int32.ofNat n ≤ i) ∨ ∃ j, j < n ∧ i = Int32.ofNat j := by
  by_cases c : i < 0 ∨ Int32.ofNat n ≤ i
  · exact Or.inl c
  · right
    obtain ⟨j, ej⟩ : ∃ j, i = Int32.ofNat j ∧ j < 2147483648 := by
      refine ⟨i.toNatClampNeg, ?_, ?_⟩
      · have : 0 ≤ i.toInt := by
          have := Int32.not_lt.mp (fun z => c (Or.inl z))
          rw [Int32.le_iff_toInt_le] at this
          exact this
        apply Int32.toInt_inj.mp
        rw [nn_int (by have := Int32.toInt_lt i; unfold Int32.toNatClampNeg; omega)]
        unfold Int32.toNatClampNeg
        omega
      · have := Int32.toInt_lt i
        unfold Int32.toNatClampNeg
        omega
    refine ⟨j, ?_, ej.1⟩
    by_cases q : j < n
    · exact q
    · exact absurd (Or.inr (by rw [ej.1, nn_le (by omega) ej.2]; omega)) c
theorem q_value (I : INV R k h fd td g cl ip rz T) (a : Int32) : ∃ r, (∀ Q, mcall 2046 210 [.ref 0, .int a] h Q = Q (some (.int r)) h) ∧ ∀ Q, mcall 2046 370 [.ref 81, .int a] h Q = Q (some (.int r)) h := by
  obtain ⟨Y, C, E, TT, UU, SC, SP, nC, nE, nS, pa, P⟩ := I.C.P
  obtain ⟨ap, Pr⟩ := I.R.P
  have cb := I.w.P.c
  have hp := I.w.r.1
  obtain ⟨a1, -, -, -, a5, -⟩ := I.C.r
  obtain ⟨b1, -, -, -, b5, -⟩ := I.R.r
  obtain ⟨n1, n2⟩ := Pr.H.n rz.p hp
  have run := n_80 (d := 2045) P.B.F P.H hp
  rcases ix_n (n := g.G.n rz.p) (i := a) (by omega) with c | ⟨j, hj, ej⟩
  · exact ⟨0, v_210o (d := 2045) P.B.F a1 run c, u_370o (d := 2046) Pr.b.Y.F (by omega) b1 n1 c⟩
  · subst ej
    refine ⟨rz.V j, fun Q => ?_, fun Q => ?_⟩
    · have := v_210 (d := 2045) P.B.F a1 run n2 hj Q
      rw [a5 j hj] at this
      exact this
    · have := u_370 (d := 2046) Pr.b.Y.F (by omega) b1 n1 n2 hj Q
      rw [b5] at this
      exact this
theorem q_place (I : INV R k h fd td g cl ip rz T) (a b : Int32) : ∃ r, (∀ Q, mcall 2046 211 [.ref 0, .int a, .int b] h Q = Q (some (.int r)) h) ∧ ∀ Q, mcall 2046 371 [.ref 81, .int a, .int b] h Q = Q (some (.int r)) h := by
  obtain ⟨Y, C, E, TT, UU, SC, SP, nC, nE, nS, pa, P⟩ := I.C.P
  obtain ⟨ap, Pr⟩ := I.R.P
  have cb := I.w.P.c
  obtain ⟨hp, zp⟩ := I.w.r
  obtain ⟨a1, -, -, -, -, a6⟩ := I.C.r
  obtain ⟨b1, -, -, -, -, b6⟩ := I.R.r
  obtain ⟨n1, n2⟩ := Pr.H.a rz.p hp
  have run := n_81 (d := 2045) P.B.F P.H hp
  rcases ix_n (n := g.G.a rz.p) (i := a) (by omega) with c | ⟨x, hx, ex⟩
  · exact ⟨0, v_211o (d := 2045) P.B.F a1 run c, u_371o (d := 2046) Pr.b.Y.F (by omega) b1 n1 c⟩
  · subst ex
    obtain ⟨e1, e2⟩ := a6 x hx
    have r64 : g.G.rm rz.p x ≤ 64 := I.w.P.S.r rz.p hp x hx
    rcases ix_n (n := 64) (i := b) (by omega) with c | ⟨y, hy, ey⟩
    · have c' : b < 0 ∨ Int32.ofNat (g.G.rm rz.p x) ≤ b := by
        rcases c with c | c
        · exact Or.inl c
        · exact Or.inr (Int32.le_trans (by rw [nn_le (by omega) (by omega)]; exact r64) c)
      exact ⟨0, v_211j (d := 2045) P.B.F a1 run n2 hx e1 c', u_371j (d := 2046) Pr.b.Y.F (by omega) b1 n1 n2 hx c⟩
    · subst ey
      by_cases c : y < g.G.rm rz.p x
      · refine ⟨rz.P (64 * x + y), fun Q => ?_, fun Q => ?_⟩
        · have := v_211 (d := 2045) P.B.F a1 run n2 hx e1 r64 c Q
          rw [Nat.mul_comm x 64, e2 y c] at this
          exact this
        · have := u_371 (d := 2046) Pr.b.Y.F (by omega) b1 n1 n2 hx hy Q
          rw [b6] at this
          exact this
      · refine ⟨0, fun Q => ?_, fun Q => ?_⟩
        · exact v_211j (d := 2045) P.B.F a1 run n2 hx e1 (Or.inr (by rw [nn_le (by omega) (by omega)]; omega)) Q
        · have := u_371 (d := 2046) Pr.b.Y.F (by omega) b1 n1 n2 hx hy Q
          rw [b6, zp x y hx (by omega) hy] at this
          exact this
theorem q_shown (I : INV R k h fd td g cl ip rz T) (a : Int32) : ∃ r, (∀ Q, mcall 2046 214 [.ref 0, .int a] h Q = Q (some (.int r)) h) ∧ ∀ Q, mcall 2046 391 [.ref 81, .int a] h Q = Q (some (.int r)) h := by
  obtain ⟨Y, C, E, TT, UU, SC, SP, nC, nE, nS, pa, P⟩ := I.C.P
  obtain ⟨ap, Pr⟩ := I.R.P
  have F := Pr.b.Y.F
  obtain ⟨s0, l, L⟩ := I.C.l
  obtain ⟨b1, b2⟩ := I.R.l
  have lb := L.b
  have ln' := L.n
  have v := v_214 (d := 2046) (i := a) P.B.F L.r L.g L.l L.e L.n.1 (by omega)
  have u := u_391 (d := 2046) (i := a) F b1 (F.f 81 56 2637 (by decide +kernel)) (F.g 2637 100 24000 (by decide +kernel)) (F.l 2637 100 24000 (by decide +kernel)) L.n.2 (by omega)
  by_cases c : a < 0 ∨ Int32.ofNat T.length ≤ a
  · refine ⟨-1, fun Q => ?_, fun Q => ?_⟩
    · have := v Q
      rw [if_pos c] at this
      exact this
    · have := u Q
      rw [if_pos c] at this
      exact this
  · obtain ⟨j, hj, ej⟩ : ∃ j, j < T.length ∧ a = Int32.ofNat j := by
      have h0 : 0 ≤ a.toInt := by
        have := Int32.not_lt.mp (fun z => c (Or.inl z))
        rw [Int32.le_iff_toInt_le] at this
        exact this
      have hl := Int32.toInt_lt a
      have ea : a = Int32.ofNat a.toInt.toNat := by
        apply Int32.toInt_inj.mp
        rw [nn_int (by omega)]
        omega
      refine ⟨a.toInt.toNat, ?_, ea⟩
      by_cases q : a.toInt.toNat < T.length
      · exact q
      · exact absurd (Or.inr (by rw [ea, nn_le (by omega) (by omega)]; omega)) c
    have tj : T[j]? = some T[j] := List.getElem?_eq_getElem hj
    have ea : a.toNatClampNeg = j := by rw [ej]; exact nn_clamp (by omega)
    refine ⟨T[j], fun Q => ?_, fun Q => ?_⟩
    · have := v Q
      rw [if_neg c, ea, L.t j _ tj] at this
      exact this
    · have := u Q
      rw [if_neg c, ea, b2 j _ tj] at this
      exact this
end ROs
