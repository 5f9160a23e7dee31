set_option maxRecDepth 100000
/-! inductive, on both sides -/
section IDs
variable {d : Nat} {h h1 : mh_H}
theorem rqn {b j : Nat} (P : ∃ PQ PS PU PF PL PH lP, PR h PQ PS PU PF PL PH lP) (S : KS h) (hb : b < 2644) (n1 : ¬ (b = 115 ∧ (j = 11 ∨ (23 ≤ j ∧ j ≤ 33)))) (n2 : ¬ (124 ≤ b ∧ b ≤ 129)) (n3 : b ≠ 119) (n4 : ¬ aZ b j) : ¬ rqW 0 aZ h b j := by
  obtain ⟨PQ, PS, PU, PF, PL, PH, lP, q⟩ := P
  rintro (w | w | w | ⟨i, a, w1, w2, w3⟩ | w)
  · exact n1 w
  · have := q.n b ((PR_pa q).mp w)
    omega
  · exact n3 w.1
  · have := (S i a w2).1
    unfold kc at w3
    omega
  · exact n4 w
theorem aZ_n {b j : Nat} (hb : b < 132 ∨ 2632 ≤ b) (n : b ≠ 118 ∧ ¬ (121 ≤ b ∧ b ≤ 123) ∧ b ≠ 130 ∧ b ≠ 131) (n5 : ¬ (b = 115 ∧ (j = 7 ∨ j = 8 ∨ j = 9 ∨ j = 14 ∨ (18 ≤ j ∧ j ≤ 22) ∨ j = 34 ∨ j = 35))) : ¬ aZ b j := by
  rintro (w | w | w | w | w | ⟨q, w1, w2⟩ | ⟨q, w1, w2⟩)
  · exact n5 w
  · omega
  · omega
  · omega
  · omega
  · unfold kc at w2
    omega
  · unfold kc at w2
    omega
theorem ft_q (x : rq 0 aZ h h1) (P : ∃ PQ PS PU PF PL PH lP, PR h PQ PS PU PF PL PH lP) (S : KS h) (F : RF h) {c : Nat} (t1 : mh_r h 115 12 = some c) (t2 : mg h c 100) (t5 : c = 120 ∨ 2644 ≤ c) (t6 : ∀ i a, mh_r h 119 i = some a → ¬ kc a c) (t7 : ¬ paR h c) : mh_r h1 115 12 = some c ∧ mg h1 c 100 ∧ mh_l h1 c = mh_l h c ∧ (∀ i a, mh_r h1 119 i = some a → ¬ kc a c) ∧ ¬ paR h1 c ∧ mh_i h1 c = mh_i h c := by
  obtain ⟨⟨f, -, -⟩, x2, x3, x4⟩ := x
  have g5 := F.g 115 12 38 (by decide +kernel)
  have cn := t2.2
  refine ⟨(fz_r f g5 (rqn P S (by omega) (by omega) (by omega) (by omega) (aZ_n (by omega) (by omega) (by omega)))).trans t1, fz_mg f t2, fz_l f t2, fun i a e w => ?_, fun w => ?_, funext fun j => fz_i f t2 (fun w => ?_)⟩
  · rcases x4 i a e with z | z
    · exact t6 i a z w
    · unfold kc at w
      omega
  · rcases x2 c w with z | z
    · exact t7 z
    · omega
  · rcases w with w | w | w | ⟨i, a, w1, w2, w3⟩ | w
    · omega
    · exact t7 w
    · omega
    · exact t6 i a w2 w3
    · exact aZ_n (by omega) (by omega) (by omega) w
theorem FT_q {D : fd} (x : rq 0 aZ h h1) (P : ∃ PQ PS PU PF PL PH lP, PR h PQ PS PU PF PL PH lP) (S : KS h) (F : RF h) (T : FT h D) : FT h1 D := by
  obtain ⟨c, t1, t2, t3, t4, t5, t6, t7, t8⟩ := T
  obtain ⟨u1, u2, u3, u4, u5, u6⟩ := ft_q x P S F t1 t2 t5 t6 t7
  exact ⟨c, u1, u2, by rw [u3]; exact t3, by rw [u3]; exact t4, t5, u4, u5, by rw [u6]; exact t8⟩
theorem RYh_q (x : rq 0 aZ h h1) (Y : RYh h) (Z : RZ h1) : RYh h1 := by
  obtain ⟨c, t1, t2, t3, t4, t5, t6, t7⟩ := Y.t
  obtain ⟨u1, u2, u3, u4, u5, u6⟩ := ft_q x Y.P Y.K Y.F t1 t2 t5 t6 t7
  exact RYh.of ⟨Z.F, Z.p, Z.s, Z.i, c, u1, u2, by rw [u3]; exact t3, by rw [u3]; exact t4, t5, u4, u5⟩
theorem v_203 (F : CF h) {v : Int32} (run : ∀ Q, mcall d 204 [.ref 0] h Q = Q (some (.int v)) h1) : ∀ Q, mcall (d + 1) 203 [.ref 0] h Q = Q (some (.int v)) h1 := fun Q => by
  have g := F.g 0 11 15 (by decide +kernel)
  clear F
  simp (disch := omega) only [s_203_0, s_203_1, s_203_4, e_203, mv_i_1, mv_l_1, mv_a_1, mv_a_2, mv_a_3, mk2_n, mk2_i, mk2_l, mk2_a, mk2_u, mk2_x, mB_T, mB_F, mS_cons, mS_nil, mSB_T, mSB_F, mca_nil, mca_i, mca_l, mca_r, mca_u, mca_x, mcat_i, mcat_l, mcat_r, mcat_u, mcat_x, mK_some, mK_none, va_rf_s, va_rf_n, lgc_eq, lgc_lt, lgc_gt, lgc_ge, lgc_le, mrd_104, mrd_105, mrd_106, mrd_107, true_and, and_true, and_self, false_and, and_false, true_or, or_true, false_or, or_false, not_true_eq_false, not_false_eq_true, mgb, mga, mgr, mN, reduceCtorEq, ↓reduceIte, eq_self, ge_iff_le, gt_iff_lt, hk_si, hk_sj, hk_sr, hl_si, hl_sj, hl_sr, hn_si, hn_sj, hn_sr, hs_si, hs_sj, hs_sr, hi_sj, hi_sr, hj_si, hj_sr, hr_si, hr_sj, hi_si, hj_sj, hr_sr, mg_si, mg_sj, mg_sr, Nat.reduceAdd, Nat.reduceMul, Nat.reduceSub, Nat.reduceLT, Nat.reduceGT, Nat.reduceEqDiff, Nat.reduceLeDiff, Nat.left_eq_add, Nat.add_eq_left, Nat.reduceMod, Nat.reduceDiv, Nat.succ_ne_self, g, run]
end IDs
section IDt
variable {R R' : Nat → Prop} {k d : Nat} {h h1 h2 : mh_H} {fd : Nat × (Nat → Int32)} {td td' : Bool × Int32 × Int32 × Int32} {g g' : pgz} {cl cl' : Nat → Option ab} {ip : Nat × (Nat → Int32)} {rz rz' : rnz} {T T' : List Int32}
/-- what the reference's check leaves and answers -/
theorem r_275 (I : IRf h fd td g cl ip rz T) (U : PUR g) (S : CSH g.G g.c cl) (hd : 1850 ≤ d) : ∃ h1 v, IRf h1 fd td g cl ip rz T ∧ (qN h1 ≤ qN h ∧ qS h1 ≤ qS h) ∧ JV g.G g.c cl g.fs g.ot g.m v ∧ (∀ b, (81 ≤ b ∧ b ≤ 114) ∨ (2637 ≤ b ∧ b ≤ 2643) → mh_i h1 b = mh_i h b) ∧ ∀ Q, mcall (d + 1) 275 [.ref 115] h Q = Q (some (.int v)) h1 := by
  obtain ⟨ap, P⟩ := I.P
  have cb := U.c
  have F := P.b.Y.F
  have c0 := P.c 0 (by omega)
  have f9 := P.f.2.1
  by_cases hx : g.m = true ∨ cl 0 = none ∨ mh_i h 115 13 = 0
  · refine ⟨h, _, I, ⟨Int.le_refl _, Int.le_refl _⟩, ?_, fun _ _ => rfl, u_275x (d := d + 1) F c0 f9 hx⟩
    by_cases hm : g.m = true
    · rw [if_pos hm]
      exact Or.inl ⟨hm, rfl⟩
    · have hm' : g.m = false := by simpa using hm
      rw [if_neg hm]
      by_cases hc : cl 0 = none
      · rw [if_pos hc]
        exact Or.inr (Or.inl ⟨hm', hc, rfl⟩)
      · rw [if_neg hc]
        have h13 : mh_i h 115 13 = 0 := by
          rcases hx with q | q | q
          · exact absurd q hm
          · exact absurd q hc
          · exact q
        have c1 : g.c = 1 := by
          rcases P.i with ⟨-, q⟩ | ⟨D, fu, u1, u2, u3, u4, u5, -⟩
          · exact q
          · rw [h13] at u4
            have e : D.c = 0 := (ofn_eq (b := 0) (by omega) (by omega)).mp u4.symm
            omega
        refine Or.inr (Or.inr ⟨hm', hc, 250, ⟨Nat.le_refl _, fun q q1 q2 => ?_, Or.inl rfl⟩, rfl⟩)
        omega
  · have hm' : g.m = false := by
      cases e : g.m
      · rfl
      · exact absurd (Or.inl e) hx
    have hc : cl 0 ≠ none := fun e => hx (Or.inr (Or.inl e))
    rcases P.i with ⟨q, -⟩ | ⟨D, fu, Z, Ft, X, f13, u5, L, Us, u8⟩
    · exact absurd (Or.inr (Or.inr q)) hx
    · obtain ⟨⟨W, hW, f8⟩, v2⟩ := u8 hm'
      have hK : ∀ q, ∃ y, (q < 250 → RK h (132 + 10 * q) y) ∧ (q < g.c → y = g.kn q) := fun q => by
        by_cases c : q < g.c
        · exact ⟨g.kn q, fun _ => P.k q c, fun _ => rfl⟩
        · by_cases c2 : q < 250
          · obtain ⟨⟨y, hy⟩, -⟩ := P.b.K q c2
            exact ⟨y, fun _ => hy, fun z => absurd z c⟩
          · exact ⟨none, fun z => absurd z c2, fun z => absurd z c⟩
      obtain ⟨K, hK⟩ := Classical.axiomOfChoice hK
      have ec : g.c - 1 + 1 = g.c := by omega
      have cn : ∀ q, (q ≤ g.c - 1 ∨ (1000 ≤ q ∧ q < 1000 + (g.c - 1))) → cnQ g.G h q := fun q hq => by
        rcases hq with hq | hq
        · exact (v2 q hq).1
        · refine ⟨fun z => by omega, fun _ => ⟨by omega, ?_⟩⟩
          exact ((v2 (q - 1000) (by omega)).2 (by omega)).1
      obtain ⟨h', b', brk, x, Z', Ft', r1, r2, r3, r4, r5, -, r7, -, run⟩ := u_275 (d := d) (e0 := g.c - 1) (K := K) (cl := cl) Z Ft X f13 u5.1 u5.2 (fun q hq => (hK q).1 hq) (fun q hq => P.c q (by omega)) (fun q hq => ((v2 q (by omega)).2 hq).2) cn (by rw [ec]; exact P.f.1) f8 hW (by rw [f9, hm']; rfl) ⟨U.x, by omega, fun q hq => S q (by omega), fun A e => by
        obtain ⟨-, a1, a2, -⟩ := S (g.c - 1) (by omega) A e
        exact ⟨a1, a2⟩, U.s⟩ L Us U.z hc (by omega)
      have nr : ∀ b j, (81 ≤ b ∧ b ≤ 114) ∨ (2637 ≤ b ∧ b ≤ 2643) → ¬ rqW 0 aZ h b j := fun b j hb => rqn Z.p Z.s (by omega) (by omega) (by omega) (by omega) (aZ_n (by omega) (by omega) (by omega))
      have hn := RF_n F
      have ii : ∀ b, (81 ≤ b ∧ b ≤ 114) ∨ (2637 ≤ b ∧ b ≤ 2643) → mh_i h' b = mh_i h b := fun b hb => funext fun j => (x.1.1.2.2 b j (by omega) (nr b j hb)).1
      have B' : RBz h' := RBz.of ⟨RYh_q x P.b.Y Z', fun q hq => ⟨⟨_, (r1 q hq).1⟩, by
        obtain ⟨-, y, hy⟩ := P.b.K q hq
        exact ⟨y, r3 q hq y hy⟩⟩, by rw [ii 2643 (by omega)]; exact P.b.s, by rw [ii 99 (by omega)]; exact P.b.z⟩
      have P' := RPg_c (cl' := cl) P B' (fun q hq => by rw [← (hK q).2 hq]; exact (r1 q (by omega)).1) (fun q hq => r2 q (by omega)) (fun b hb => ii b (by omega)) (fun q hq => (r1 q (by omega)).2) (fun q hq _ => r5 q (Or.inl (by omega))) (fun j _ => by rw [ii 81 (by omega)]) r7 (fun _ => Z') (fun D' t => FT_q x Z.p Z.s F t) (fun q hq => by
        have w := ((r5 (1000 + q) (Or.inr (by omega))).2 (by omega)).2
        rw [show 1000 + q - 1000 = q from by omega] at w
        rw [w, ((v2 q (by omega)).2 (by omega)).1]) (fun q hq => Or.inl (by rw [r4 q (by omega), ((v2 q (by omega)).2 (by omega)).2]))
      refine ⟨h', _, IRf.of ⟨⟨ap, P'⟩, by rw [ii 81 (by omega), ii 82 (by omega)]; exact I.f, by rw [ii 81 (by omega), r7 8 (by omega)]; exact I.t, by rw [ii 81 (by omega), ii 2639 (by omega)]; exact I.i, by rw [ii 81 (by omega), ii 2640 (by omega), ii 2641 (by omega)]; exact I.r, by rw [ii 81 (by omega), ii 2637 (by omega)]; exact I.l⟩, x.1.2, Or.inr (Or.inr ⟨hm', hc, b', brk, rfl⟩), ii, run⟩
/-- what the class's judgement leaves and answers -/
theorem c_204 {Y C E TT UU SC SP nC nE nS pa : Nat} (P : CPg h Y C E TT UU SC SP nC nE nS pa g.G g.J g.J2 g.c g.fs g.ot g.pl) (I : ICl h fd td g cl ip rz T) (U : PUR g) (S : CSH g.G g.c cl) : ∃ h1 v, ICl h1 fd td g cl ip rz T ∧ CPg h1 Y C E TT UU SC SP nC nE nS pa g.G g.J g.J2 g.c g.fs g.ot g.pl ∧ JV g.G g.c cl g.fs g.ot g.m v ∧ (cN h1 ≤ cN h ∧ cS h1 ≤ cS h ∧ ln h1 0 13 = ln h 0 13) ∧ mh_i h1 0 10 = mh_i h 0 10 ∧ ∀ Q, mcall (d + 7) 204 [.ref 0] h Q = Q (some (.int v)) h1 := by
  obtain ⟨ca, jd, j1, j2, j3, j4⟩ := I.j
  cases jd with
  | true => exact ⟨h, _, I, P, j3 rfl, ⟨Int.le_refl _, Int.le_refl _, rfl⟩, rfl, v_204j (d := d + 7) P.B j2⟩
  | false =>
    obtain ⟨h', v, jv, z, B1, f11, f12, run⟩ := v_204 (d := d) (m := g.m) (IC_e U.x) IC_p (fun h h1 V U B z hU w => IC_pX B z hU w) U.D S P.B P.H P.i ⟨I.c, P.F, P.O⟩ j2 I.m
    have g0 := P.B.F.g 0 11 15 (by decide +kernel)
    have f10 : mh_i h' 0 10 = mh_i h 0 10 := z.ii 0 11 10 g0 (by decide) (by decide) (by unfold eff; omega) (by unfold jgU; omega)
    have nv : ¬ ((73 : Nat) = 34 ∨ (73 : Nat) = 51) := by omega
    obtain ⟨IC1, P1⟩ := ICl_cl (cl' := cl) (ca := ca) (jd := true) P I z (fun b j u => by unfold jgU at u; omega) (fun b j v => Or.inr v) B1 (fun q _ v => absurd v nv) (fun q hq => z.pp 73 q _ (by unfold isPl; omega) nv (I.c q hq)) (f10.trans j1) f11 (fun _ => by rw [f12]; exact jv) j4
    obtain ⟨s0, l, L⟩ := I.l
    have r0 : mh_r h' 0 13 = mh_r h 0 13 := z.rr 0 11 13 g0 (by decide) (by decide) (by unfold eff; omega) (by unfold isPl; omega)
    have lnE : ln h' 0 13 = ln h 0 13 := by
      unfold ln
      rw [r0, L.r]
      exact zS_l z L.g
    exact ⟨h', v, IC1, P1, jv, ⟨z.rN, z.rS, lnE⟩, f10, run⟩
/-- both sides behind a call -/
theorem INV_2 (I : INV R k h fd td g cl ip rz T) (D1 : SDs R h1) (sk : sdK R h h1) (D2 : SDs R' h2) (sk2 : sdK (fun b => ¬ R b ∧ b < mh_n h1) h1 h2) (IC1 : ICl h1 fd td' g' cl' ip rz' T') (IR2 : IRf h2 fd td' g' cl' ip rz' T') (w' : PUW fd g' cl' ip rz') (q1 : qN h2 ≤ qN h1) (q2 : qS h2 ≤ qS h1) (c1 : cN h1 - (ln h1 0 13 : Int) ≤ cN h - (ln h 0 13 : Int) + 60) (c2 : cS h1 - 2 * (ln h1 0 13 : Int) ≤ cS h - 2 * (ln h 0 13 : Int) + 1800) : INV R' (k + 1) h2 fd td' g' cl' ip rz' T' := by
  have IC2 := ICl_x D1 sk2 IC1
  obtain ⟨ap, Pr0⟩ := I.R.P
  obtain ⟨s1, l1, L1⟩ := IC1.l
  obtain ⟨Y, C, E, TT, UU, SC, SP, nC, nE, nS, pa, P1⟩ := IC1.P
  have hF := I.F
  exact INV.of ⟨D2, IC2, IR2, w', RM_2 I.S sk Pr0.b.Y sk2 D1 P1.B ⟨s1, L1.r, L1.g.2⟩ q1 q2 (by omega) (by omega) I.m, by omega⟩
theorem s_ind (I : INV R k h fd td g cl ip rz T) : NXT k h 203 383 [.ref 0] [.ref 81] := by
  obtain ⟨Y, C, E, TT, UU, SC, SP, nC, nE, nS, pa, P⟩ := I.C.P
  have hn := P.B.N
  obtain ⟨h1, v, IC1, P1, jv, ⟨r1, r2, r3⟩, f10, run⟩ := c_204 (d := 2038) P I.C I.w.P I.w.c
  have run1 := v_203 P.B.F run
  obtain ⟨D1, sk⟩ := sd_c I.S (ar_0 (fun v hv o e => by subst e; simp at hv)) run1 hn
  have IR1 := IRf_x I.S sk I.R
  obtain ⟨ap1, Pr1⟩ := IR1.P
  have key : ∃ h2, IRf h2 fd td g cl ip rz T ∧ (qN h2 ≤ qN h1 ∧ qS h2 ≤ qS h1) ∧ ∀ Q, mcall 2046 383 [.ref 81] h1 Q = Q (some (.int v)) h2 := by
    have f3 := Pr1.f.2.2
    by_cases hm : g.m = true
    · refine ⟨h1, IR1, ⟨Int.le_refl _, Int.le_refl _⟩, ?_⟩
      have ev : v = -3 := JV_u jv (Or.inl ⟨hm, rfl⟩)
      rw [ev]
      exact u_383m (d := 2046) Pr1.b.Y.F (by rw [f3]; exact hm)
    · obtain ⟨h2, v', IR2, q, jv', -, run2⟩ := r_275 (d := 2044) IR1 I.w.P I.w.c (by omega)
      have ev : v = v' := JV_u jv jv'
      rw [ev]
      exact ⟨h2, IR2, q, u_383 (d := 2045) Pr1.b.Y.F (by rw [f3]; exact eq_false hm) run2⟩
  obtain ⟨h2, IR2, q, run2⟩ := key
  obtain ⟨D2, sk2⟩ := sd_r D1 (ar_81 (fun v hv o e => by subst e; simp at hv)) run2 P1.B.N
  exact ⟨_, h1, h2, _, fd, td, g, cl, ip, rz, T, run1, run2, INV_2 I D1 sk D2 sk2 IC1 IR2 I.w q.1 q.2 (by rw [r3]; omega) (by rw [r3]; omega)⟩
end IDt
