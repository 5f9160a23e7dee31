set_option maxRecDepth 100000
/-! steps that use spare Knowns from s0 on -/
def rqW (s0 : Nat) (V : Nat → Nat → Prop) (h : mh_H) (b j : Nat) : Prop := (b = 115 ∧ (j = 11 ∨ (23 ≤ j ∧ j ≤ 33))) ∨ paR h b ∨ (b = 119 ∧ s0 ≤ j) ∨ (∃ i a, s0 ≤ i ∧ mh_r h 119 i = some a ∧ kc a b) ∨ V b j
abbrev rq (s0 : Nat) (V : Nat → Nat → Prop) (h h' : mh_H) : Prop := (fR (rqW s0 V h) h h') ∧ (∀ x, paR h' x → paR h x ∨ mh_n h ≤ x) ∧ (∀ i a, mh_r h 119 i = some a → mh_r h' 119 i = some a) ∧ (∀ i a, mh_r h' 119 i = some a → mh_r h 119 i = some a ∨ (mh_n h ≤ a ∧ s0 ≤ i))
theorem rq.f {s0 : Nat} {V : Nat → Nat → Prop} {h h' : mh_H} (q : rq s0 V h h') : fR (rqW s0 V h) h h' := q.1
theorem rq.p {s0 : Nat} {V : Nat → Nat → Prop} {h h' : mh_H} (q : rq s0 V h h') : ∀ x, paR h' x → paR h x ∨ mh_n h ≤ x := q.2.1
theorem rq.k {s0 : Nat} {V : Nat → Nat → Prop} {h h' : mh_H} (q : rq s0 V h h') : ∀ i a, mh_r h 119 i = some a → mh_r h' 119 i = some a := q.2.2.1
theorem rq.n {s0 : Nat} {V : Nat → Nat → Prop} {h h' : mh_H} (q : rq s0 V h h') : ∀ i a, mh_r h' 119 i = some a → mh_r h 119 i = some a ∨ (mh_n h ≤ a ∧ s0 ≤ i) := q.2.2.2
section RQ
variable {s0 s1 : Nat} {V U : Nat → Nat → Prop} {h h1 h2 : mh_H} {T : Nat} {sN : Int → Prop} {en : Int → Nat} {PQ PS PU PF PL PH lP : Nat}
theorem rq_id : rq s0 V h h := ⟨fR_id, fun _ hx => Or.inl hx, fun _ _ e => e, fun _ _ e => Or.inl e⟩
theorem rq_t (x : rq s0 V h h1) (y : rq s0 V h1 h2) : rq s0 V h h2 := by
  have hn := x.f.1.1
  refine ⟨fR_n x.f (fR_w y.f (fun b j hb w => ?_)), fun z hz => ?_, fun i a e => y.k i a (x.k i a e), fun i a e => ?_⟩
  · rcases w with w | w | w | ⟨i, a, w1, w2, w3⟩ | w
    · exact Or.inl (Or.inl w)
    · rcases x.p b w with q | q
      · exact Or.inl (Or.inr (Or.inl q))
      · exact Or.inr q
    · exact Or.inl (Or.inr (Or.inr (Or.inl w)))
    · rcases x.n i a w2 with q | q
      · exact Or.inl (Or.inr (Or.inr (Or.inr (Or.inl ⟨i, a, w1, q, w3⟩))))
      · unfold kc at w3
        exact Or.inr (by omega)
    · exact Or.inl (Or.inr (Or.inr (Or.inr (Or.inr w))))
  · rcases y.p z hz with q | q
    · exact x.p z q
    · exact Or.inr (by omega)
  · rcases y.n i a e with q | q
    · exact x.n i a q
    · exact Or.inr ⟨by omega, q.2⟩
/-- fewer spares are used -/
theorem rq_w (x : rq s1 U h h1) (hs : s0 ≤ s1) (w : ∀ b j, b < mh_n h → U b j → V b j ∨ rqW s0 V h b j) : rq s0 V h h1 := ⟨fR_w x.f (fun b j hb z => by
  rcases z with z | z | z | ⟨i, a, z1, z2, z3⟩ | z
  · exact Or.inl z
  · exact Or.inr (Or.inl z)
  · exact Or.inr (Or.inr (Or.inl ⟨z.1, by omega⟩))
  · exact Or.inr (Or.inr (Or.inr (Or.inl ⟨i, a, by omega, z2, z3⟩)))
  · rcases w b j hb z with q | q
    · exact Or.inr (Or.inr (Or.inr (Or.inr q)))
    · exact q), x.p, x.k, fun i a e => (x.n i a e).elim Or.inl (fun q => Or.inr ⟨q.1, by omega⟩)⟩
theorem rq_rs (J : RJ h T sN en) (v : vK h V) (x : rs V h h1) : rq s0 V h h1 := ⟨fR_w x.1 (fun b j _ w => by
  rcases w with w | w | w
  · exact Or.inl ⟨w.1, Or.inr ⟨by omega, by omega⟩⟩
  · exact Or.inr (Or.inl w)
  · exact Or.inr (Or.inr (Or.inr (Or.inr w)))), x.2, fun i a e => by rw [rs_sp J v x i]; exact e, fun i a e => Or.inl (by rw [← rs_sp J v x i]; exact e)⟩
theorem PR_same {h h1 : mh_H} (P : PR h PQ PS PU PF PL PH lP) (x : fz U h h1) (er : ∀ j, 27 ≤ j → j ≤ 32 → mh_r h1 115 j = mh_r h 115 j) (e2 : ∀ i a, mh_r h1 119 i = some a → mh_r h 119 i = some a ∨ (mh_n h ≤ a ∧ a + 4 < mh_n h1)) : PR h1 PQ PS PU PF PL PH lP := by
  obtain ⟨r27, r28, r29, r30, r31, r32, g27, g28, g29, g30, g31, g32, l27, l28, l29, l30, l31, l32, d1, d2, d3, d4, n, s', c, b⟩ := P
  refine ⟨by rw [er 27 (by omega) (by omega)]; exact r27, by rw [er 28 (by omega) (by omega)]; exact r28, by rw [er 29 (by omega) (by omega)]; exact r29, by rw [er 30 (by omega) (by omega)]; exact r30, by rw [er 31 (by omega) (by omega)]; exact r31, by rw [er 32 (by omega) (by omega)]; exact r32, fz_mg x g27, fz_mg x g28, fz_mg x g29, fz_mg x g30, fz_mg x g31, fz_mg x g32, by rw [fz_l x g27]; exact l27, by rw [fz_l x g28]; exact l28, by rw [fz_l x g29]; exact l29, by rw [fz_l x g30]; exact l30, by rw [fz_l x g31]; exact l31, by rw [fz_l x g32]; exact l32, d1, d2, d3, d4, n, fun i a hi => ?_, c, b⟩
  rcases e2 i a hi with q | q
  · exact ⟨Nat.lt_of_lt_of_le (s' i a q).1 x.1, (s' i a q).2⟩
  · refine ⟨q.2, fun x' hx => Or.inl ?_⟩
    have k27 := g27.2
    have k28 := g28.2
    have k29 := g29.2
    have k30 := g30.2
    have k31 := g31.2
    have k32 := g32.2
    omega
/-- the room for a new Known -/
theorem tk_q {k : Nat} (hk2 : k < 2048) (hr : mh_r h 119 k = none) (n119 : 119 < mh_n h) (n115 : 115 < mh_n h) (r27 : ∃ b, mh_r h 115 27 = some b ∧ b < mh_n h) (r12 : ∃ b, mh_r h 115 12 = some b ∧ b < mh_n h) : qN (tkH h k) ≤ qN h ∧ qS (tkH h k) ≤ qS h := by
  have r119 : ∀ i, mh_r (tkH h k) 119 i = if i = k then some (mh_n h) else mh_r h 119 i := fun i => by
    rw [(tk_o (k := k) (j := i) n119).2.2.2.2]
    by_cases c : i = k
    · rw [if_pos ⟨rfl, c⟩, if_pos c]
    · rw [if_neg (fun z => c z.2), if_neg c]
  have er : ∀ j, mh_r (tkH h k) 115 j = mh_r h 115 j := fun j => by rw [(tk_o (k := k) (j := j) n115).2.2.2.2, if_neg (by omega)]
  have cn : n64 (fun i => (mh_r (tkH h k) 119 i).isSome) 2048 = n64 (fun i => (mh_r h 119 i).isSome) 2048 + 1 := n64_set (by rw [hr]; rfl) (by rw [r119, if_pos rfl]; rfl) (fun i hi => by rw [r119, if_neg hi]) hk2
  have l27 : ln (tkH h k) 115 27 = ln h 115 27 := by
    obtain ⟨b', b1, b2⟩ := r27
    unfold ln
    rw [er, b1]
    exact (tk_o (k := k) (j := 0) b2).2.1
  have l12 : ln (tkH h k) 115 12 = ln h 115 12 := by
    obtain ⟨b', b1, b2⟩ := r12
    unfold ln
    rw [er, b1]
    exact (tk_o (k := k) (j := 0) b2).2.1
  unfold qN qS cnS
  rw [cn, l27, l12, tk_n, tk_s]
  constructor <;> omega
/-- the run that makes one -/
theorem u_226n {k d : Nat} (g : mg h 115 12) (r10 : mh_r h 115 10 = some 119) (k119 : mh_k h 119 = 106) (n119 : 119 < mh_n h) (l119 : mh_l h 119 = 2048) (hk : mh_i h 115 11 = Int32.ofNat k) (hk2 : k < 2048) (hr : mh_r h 119 k = none) : ∀ Q, mcall (d + 1) 226 [.ref 115] h Q = Q (some (.ref (mh_n h))) (mh_si (tkH h k) 115 11 (Int32.ofNat (k + 1))) := by
  intro Q
  have ei : ∀ k, Int32.ofNat k + 1 = Int32.ofNat (k + 1) := fun k => nn_add (a := k) (b := 1)
  have cs : ∀ Q', mcall d 276 [.ref (mh_n h)] (mh_new h 13 7) Q' = Q' none (kn_i (mh_n h) (mh_new h 13 7)) := fun Q' => c_276 ⟨by rw [hk_new, if_pos rfl], by rw [hn_new]; omega⟩
  have oo := fun b j (hb : b < mh_n h) => tk_o (k := k) (j := j) hb
  have kk : ∀ b, mh_k (kn_i (mh_n h) (mh_new h 13 7)) b = mh_k (tkH h k) b := fun b => by unfold tkH; rw [hk_sr]
  have ll : ∀ b, mh_l (kn_i (mh_n h) (mh_new h 13 7)) b = mh_l (tkH h k) b := fun b => by unfold tkH; rw [hl_sr]
  have ii : ∀ b j, mh_i (kn_i (mh_n h) (mh_new h 13 7)) b j = mh_i (tkH h k) b j := fun b j => by unfold tkH; rw [hi_sr]
  have nnn : mh_n (kn_i (mh_n h) (mh_new h 13 7)) = mh_n h + 5 := by
    have := tk_n (h := h) (k := k)
    unfold tkH at this
    rw [hn_sr] at this
    exact this
  have s1 : ∀ b, ¬ (b = 119) → ∀ j, mh_r (kn_i (mh_n h) (mh_new h 13 7)) b j = mh_r (tkH h k) b j := fun b hb j => by
    unfold tkH
    rw [hr_sr, if_neg (fun z => hb z.1)]
  have kX : mh_k (kn_i (mh_n h) (mh_new h 13 7)) 119 = 106 := by rw [kk, (oo 119 0 n119).1]; exact k119
  have nX : 119 < mh_n (kn_i (mh_n h) (mh_new h 13 7)) := by rw [nnn]; omega
  have lX : mh_l (kn_i (mh_n h) (mh_new h 13 7)) 119 = 2048 := by rw [ll, (oo 119 0 n119).2.1]; exact l119
  have gX : mg (kn_i (mh_n h) (mh_new h 13 7)) (mh_n h) 13 := ⟨by rw [kk]; exact (tk_ko (k := k) n119).1.1, by rw [nnn]; omega⟩
  have g115 : mg (kn_i (mh_n h) (mh_new h 13 7)) 115 12 := ⟨by rw [kk, (oo 115 0 g.2).1]; exact g.1, by rw [nnn]; have := g.2; omega⟩
  have i11 : mh_i (kn_i (mh_n h) (mh_new h 13 7)) 115 11 = Int32.ofNat k := by rw [ii, (oo 115 11 g.2).2.2.1]; exact hk
  have r10' : mh_r (kn_i (mh_n h) (mh_new h 13 7)) 115 10 = some 119 := by rw [s1 115 (by omega) 10, (oo 115 10 g.2).2.2.2.2, if_neg (by omega)]; exact r10
  have tk : tkH h k = mh_sr (kn_i (mh_n h) (mh_new h 13 7)) 119 k (some (mh_n h)) := by unfold tkH; rfl
  have ac : me_ac 106 = 13 := by decide
  rw [tk]
  clear oo kk ll ii nnn s1 tk
  generalize hX : kn_i (mh_n h) (mh_new h 13 7) = X at *
  simp (disch := omega) only [s_226_0, s_226_1, s_226_4, s_226_5, s_226_8, s_226_9n, s_226_9, s_226_12, s_226_13, s_226_16, s_226_17, s_226_20, s_226_23, s_226_24, s_226_27, s_226_27n, s_226_27x, s_226_28, s_226_29, s_226_32, s_226_33, s_226_34, s_226_37, s_226_38, s_226_39, s_226_40, s_226_43, s_226_44, s_226_44n, e_226, mv_i_1, mv_l_1, mv_a_1, mv_a_2, mv_a_3, mk2_n, mk2_i, mk2_l, mk2_a, mk2_u, mk2_x, mB_T, mB_F, mS_cons, mS_nil, mSB_T, mSB_F, mca_nil, mca_i, mca_l, mca_r, mca_u, mca_x, mcat_i, mcat_l, mcat_r, mcat_u, mcat_x, mK_some, mK_none, va_rf_s, va_rf_n, lgc_eq, lgc_lt, lgc_gt, lgc_ge, lgc_le, mrd_104, mrd_105, mrd_106, mrd_107, true_and, and_true, and_self, false_and, and_false, true_or, or_true, false_or, or_false, not_true_eq_false, not_false_eq_true, mgb, mga, mgr, mN, reduceCtorEq, ↓reduceIte, eq_self, ge_iff_le, gt_iff_lt, hk_si, hk_sj, hk_sr, hl_si, hl_sj, hl_sr, hn_si, hn_sj, hn_sr, hs_si, hs_sj, hs_sr, hi_sj, hi_sr, hj_si, hj_sr, hr_si, hr_sj, hi_si, hj_sj, hr_sr, mg_si, mg_sj, mg_sr, Nat.reduceAdd, Nat.reduceMul, Nat.reduceSub, Nat.reduceLT, Nat.reduceGT, Nat.reduceEqDiff, Nat.reduceLeDiff, Nat.left_eq_add, Nat.add_eq_left, Nat.reduceMod, Nat.reduceDiv, Nat.succ_ne_self, g, r10, k119, n119, l119, hk, hr, nn_mxT, nn_clamp, ei, cs, kX, nX, lX, gX, g115, i11, r10', ac]
/-- Analysis.take -/
theorem u_226 (J : RJ h T sN en) {k d : Nat} (hk : mh_i h 115 11 = Int32.ofNat k) (hk2 : k < 2048) : ∃ h' o, mh_r h' 119 k = some o ∧ (mh_r h 119 k = some o ∨ (mh_r h 119 k = none ∧ o = mh_n h)) ∧ fR (fun b j => (b = 115 ∧ j = 11) ∨ (b = 119 ∧ j = k)) h h' ∧ (∀ i, i ≠ k → mh_r h' 119 i = mh_r h 119 i) ∧ mh_i h' 115 11 = Int32.ofNat (k + 1) ∧ RJ h' T sN en ∧ ∀ Q, mcall (d + 1) 226 [.ref 115] h Q = Q (some (.ref o)) h' := by
  have F := J.a.F
  have g := J.a.g
  have r10 := F.f 115 10 119 (by decide +kernel)
  have g119 := F.g 119 106 2048 (by decide +kernel)
  have k119 := g119.1
  have n119 := g119.2
  have l119 := F.l 119 106 2048 (by decide +kernel)
  have g2643 := (F.g 2643 107 8 (by decide +kernel)).2
  have ei : ∀ k, Int32.ofNat k + 1 = Int32.ofNat (k + 1) := fun k => nn_add (a := k) (b := 1)
  obtain ⟨PQ, PS, PU, PF, PL, PH, lP, P⟩ := J.p
  cases hr : mh_r h 119 k with
  | some o =>
    have x : fR (fun b j => (b = 115 ∧ j = 11) ∨ (b = 119 ∧ j = k)) h (mh_si h 115 11 (Int32.ofNat (k + 1))) := fR_si (Or.inl ⟨rfl, rfl⟩)
    have F' : RF (mh_si h 115 11 (Int32.ofNat (k + 1))) := F
    refine ⟨mh_si h 115 11 (Int32.ofNat (k + 1)), o, hr, Or.inl rfl, x, fun _ _ => rfl, by rw [hi_si, if_pos ⟨rfl, rfl⟩], ⟨AE_fz (W := fun b j => b = 115 ∧ j = 11) (fz_si ⟨rfl, rfl⟩) J.a F' (by omega) (by omega) (by omega) (by omega) (fun j => ⟨by omega, by omega⟩), ⟨PQ, PS, PU, PF, PL, PH, lP, P⟩, J.s, J.i⟩, fun Q => ?_⟩
    simp (disch := omega) only [s_226_0, s_226_1, s_226_4, s_226_5, s_226_8, s_226_9n, s_226_9, s_226_12, s_226_13, s_226_16, s_226_17, s_226_20, s_226_23, s_226_24, s_226_27, s_226_27n, s_226_27x, s_226_28, s_226_29, s_226_32, s_226_33, s_226_34, s_226_37, s_226_38, s_226_39, s_226_40, s_226_43, s_226_44, s_226_44n, e_226, mv_i_1, mv_l_1, mv_a_1, mv_a_2, mv_a_3, mk2_n, mk2_i, mk2_l, mk2_a, mk2_u, mk2_x, mB_T, mB_F, mS_cons, mS_nil, mSB_T, mSB_F, mca_nil, mca_i, mca_l, mca_r, mca_u, mca_x, mcat_i, mcat_l, mcat_r, mcat_u, mcat_x, mK_some, mK_none, va_rf_s, va_rf_n, lgc_eq, lgc_lt, lgc_gt, lgc_ge, lgc_le, mrd_104, mrd_105, mrd_106, mrd_107, true_and, and_true, and_self, false_and, and_false, true_or, or_true, false_or, or_false, not_true_eq_false, not_false_eq_true, mgb, mga, mgr, mN, reduceCtorEq, ↓reduceIte, eq_self, ge_iff_le, gt_iff_lt, hk_si, hk_sj, hk_sr, hl_si, hl_sj, hl_sr, hn_si, hn_sj, hn_sr, hs_si, hs_sj, hs_sr, hi_sj, hi_sr, hj_si, hj_sr, hr_si, hr_sj, hi_si, hj_sj, hr_sr, mg_si, mg_sj, mg_sr, Nat.reduceAdd, Nat.reduceMul, Nat.reduceSub, Nat.reduceLT, Nat.reduceGT, Nat.reduceEqDiff, Nat.reduceLeDiff, Nat.left_eq_add, Nat.add_eq_left, Nat.reduceMod, Nat.reduceDiv, Nat.succ_ne_self, g, r10, k119, n119, l119, hk, hr, nn_mxT, nn_clamp, ei]
  | none =>
    have oo := fun b j (hb : b < mh_n h) => tk_o (k := k) (j := j) hb
    have r119 : ∀ i, mh_r (tkH h k) 119 i = if i = k then some (mh_n h) else mh_r h 119 i := fun i => by
      rw [(oo 119 i n119).2.2.2.2]
      by_cases c : i = k
      · rw [if_pos ⟨rfl, c⟩, if_pos c]
      · rw [if_neg (fun z => c z.2), if_neg c]
    have x0 : fz (fun b j => (b = 115 ∧ j = 11) ∨ (b = 119 ∧ j = k)) h (tkH h k) := by
      refine ⟨by rw [tk_n]; omega, fun b hb => ⟨(oo b 0 hb).1, (oo b 0 hb).2.1⟩, fun b j hb hw => ⟨(oo b j hb).2.2.1, (oo b j hb).2.2.2.1, ?_⟩⟩
      rw [(oo b j hb).2.2.2.2, if_neg (fun z => hw (Or.inr z))]
    have x1 : fz (fun b j => (b = 115 ∧ j = 11) ∨ (b = 119 ∧ j = k)) h (mh_si (tkH h k) 115 11 (Int32.ofNat (k + 1))) := fz_t x0 (fz_si (Or.inl ⟨rfl, rfl⟩))
    have er : ∀ j, mh_r (tkH h k) 115 j = mh_r h 115 j := fun j => by rw [(oo 115 j g.2).2.2.2.2, if_neg (by omega)]
    obtain ⟨q1, q2⟩ := tk_q hk2 hr n119 g.2 ⟨PQ, P.r27, P.g27.2⟩ F.fn
    obtain ⟨y1, y2⟩ := q_same (h := tkH h k) (h1 := mh_si (tkH h k) 115 11 (Int32.ofNat (k + 1))) hn_si hs_si hr_si hl_si
    rw [← y1] at q1
    rw [← y2] at q2
    have F' : RF (mh_si (tkH h k) 115 11 (Int32.ofNat (k + 1))) := RF_fz x1 F (fun j w => by omega) (fun j hj w => by simp at hj; omega) (fun p hp => ⟨fun j _ => ⟨fun w => by omega, fun w => by omega⟩, fun w => by omega, fun w => by omega⟩) (fun j _ w => by omega)
    have a' : AE (mh_si (tkH h k) 115 11 (Int32.ofNat (k + 1))) T sN en := AE_fz x1 J.a F' (by omega) (by omega) (by omega) (by omega) (fun j => ⟨by omega, by omega⟩)
    have P' : PR (mh_si (tkH h k) 115 11 (Int32.ofNat (k + 1))) PQ PS PU PF PL PH lP := PR_same P x1 (fun j _ _ => er j) (fun i a e => by
      rw [hr_si, r119] at e
      split at e
      · cases e
        exact Or.inr ⟨Nat.le_refl _, by rw [hn_si, tk_n]; omega⟩
      · exact Or.inl e)
    refine ⟨mh_si (tkH h k) 115 11 (Int32.ofNat (k + 1)), mh_n h, by rw [hr_si, r119, if_pos rfl], Or.inr ⟨rfl, rfl⟩, ⟨x1, q1, q2⟩, fun i hi => by rw [hr_si, r119, if_neg hi], by rw [hi_si, if_pos ⟨rfl, rfl⟩], ⟨a', ⟨PQ, PS, PU, PF, PL, PH, lP, P'⟩, fun i a e => ?_, fun i j a e1 e2 => ?_⟩, fun Q => ?_⟩
    · rw [hr_si, r119] at e
      split at e
      · cases e
        exact ⟨by omega, ko_fz (W := fun b j => b = 115 ∧ j = 11) (fz_si ⟨rfl, rfl⟩) (fun j w => by omega) (tk_ko n119)⟩
      · obtain ⟨b1, b2⟩ := J.s i a e
        exact ⟨b1, ko_fz x1 (fun j w => by omega) b2⟩
    · have lt : ∀ i, mh_r h 119 i = some a → a < mh_n h := fun i e => (J.s i a e).2.1.2
      rw [hr_si, r119] at e1 e2
      split at e1
      · next c1 =>
        split at e2
        · next c2 => rw [c1, c2]
        · cases e1
          have := lt j e2
          omega
      · split at e2
        · cases e2
          have := lt i e1
          omega
        · exact J.i i j a e1 e2
    · exact u_226n g r10 k119 n119 l119 hk hk2 hr Q
end RQ
