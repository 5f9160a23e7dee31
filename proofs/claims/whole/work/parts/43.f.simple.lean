set_option maxRecDepth 100000
/-! look, tell, goes; how a simple statement begins and ends -/
/-- what stands in a simple statement behind its start -/
def SMp (h : mh_H) (s0 o b : Nat) (E : nv) (D : fd) (w0 : wd) (s : Option ab) : Prop := (RA h (s0 + 1) E D w0) ∧ (lv h s0 o) ∧ (mh_r h 119 s0 = some b) ∧ (b ≠ o) ∧ (RK h o s) ∧ (RK h b s) ∧ (mh_r h 115 23 = some b) ∧ (mh_i h o 2 = Int32.ofNat E.ar) ∧ (mh_i h 115 24 = 0)
theorem SMp.of {h : mh_H} {s0 o b : Nat} {E : nv} {D : fd} {w0 : wd} {s : Option ab} (q : (RA h (s0 + 1) E D w0) ∧ (lv h s0 o) ∧ (mh_r h 119 s0 = some b) ∧ (b ≠ o) ∧ (RK h o s) ∧ (RK h b s) ∧ (mh_r h 115 23 = some b) ∧ (mh_i h o 2 = Int32.ofNat E.ar) ∧ (mh_i h 115 24 = 0)) : SMp h s0 o b E D w0 s := q
theorem SMp.A {h : mh_H} {s0 o b : Nat} {E : nv} {D : fd} {w0 : wd} {s : Option ab} (q : SMp h s0 o b E D w0 s) : RA h (s0 + 1) E D w0 := q.1
theorem SMp.l {h : mh_H} {s0 o b : Nat} {E : nv} {D : fd} {w0 : wd} {s : Option ab} (q : SMp h s0 o b E D w0 s) : lv h s0 o := q.2.1
theorem SMp.e {h : mh_H} {s0 o b : Nat} {E : nv} {D : fd} {w0 : wd} {s : Option ab} (q : SMp h s0 o b E D w0 s) : mh_r h 119 s0 = some b := q.2.2.1
theorem SMp.ne {h : mh_H} {s0 o b : Nat} {E : nv} {D : fd} {w0 : wd} {s : Option ab} (q : SMp h s0 o b E D w0 s) : b ≠ o := q.2.2.2.1
theorem SMp.k {h : mh_H} {s0 o b : Nat} {E : nv} {D : fd} {w0 : wd} {s : Option ab} (q : SMp h s0 o b E D w0 s) : RK h o s := q.2.2.2.2.1
theorem SMp.kb {h : mh_H} {s0 o b : Nat} {E : nv} {D : fd} {w0 : wd} {s : Option ab} (q : SMp h s0 o b E D w0 s) : RK h b s := q.2.2.2.2.2.1
theorem SMp.r {h : mh_H} {s0 o b : Nat} {E : nv} {D : fd} {w0 : wd} {s : Option ab} (q : SMp h s0 o b E D w0 s) : mh_r h 115 23 = some b := q.2.2.2.2.2.2.1
theorem SMp.a2 {h : mh_H} {s0 o b : Nat} {E : nv} {D : fd} {w0 : wd} {s : Option ab} (q : SMp h s0 o b E D w0 s) : mh_i h o 2 = Int32.ofNat E.ar := q.2.2.2.2.2.2.2.1
theorem SMp.al {h : mh_H} {s0 o b : Nat} {E : nv} {D : fd} {w0 : wd} {s : Option ab} (q : SMp h s0 o b E D w0 s) : mh_i h 115 24 = 0 := q.2.2.2.2.2.2.2.2
section SBs
variable {d : Nat} {h h1 : mh_H} {s0 s1 T o o' p k : Nat} {E : nv} {D : fd} {w0 : wd} {s : Option ab} {G : pgm}
theorem w_258 (A : RA h s0 E D w0) (l : lv h s0 o) (c : RK h o s) (hp : p < 250) (hw : wW w0 ≤ 4000) (z34 : mh_i h 115 34 = 0) (ga : G.a p = E.ar) (oa : mh_i h o 2 = Int32.ofNat E.ar) : ∃ h', rq s0 (sV o E.T) h h' ∧ RA h' s0 E D (wl p s 0 w0) ∧ RK h' o s ∧ (∀ j, mh_i h' o j = mh_i h o j) ∧ mh_i h' 115 24 = 0 ∧ (∀ q, cnQ G h q → cnQ G h' q) ∧ cnQ G h' (p + 1000) ∧ ∀ Q, mcall (d + 1) 258 [.ref 115, .int (Int32.ofNat p), .ref o] h Q = Q (some (.int (kb (decide (s ≠ none))))) h' := by
  have J := A.j
  have lo := sp_lo J (lv_sp l)
  obtain ⟨h', e1, e2, e3, e4, e5, e6, e7, e8, e9, f1, f2, f3, f4, f6, f5⟩ := u_258 (d := d) J l c hp A.w (by omega) A.m z34
  have ok : ∀ y, y ≤ 4 → ∀ q, q < 250 → ¬ kc (132 + 10 * q) (o + y) := fun y hy q hq w => by unfold kc at w; omega
  have z : fz (fun b j => kc (132 + 10 * p) b ∨ (b = 118 ∧ j = p) ∨ (b = 115 ∧ (j = 8 ∨ j = 9 ∨ j = 24 ∨ j = 23))) h h' := ⟨Nat.le_of_eq e3.symm, fun b _ => ⟨by rw [e1], by rw [e2]⟩, fun b j _ nb => ⟨e6 b j (fun w => nb (Or.inl w)) (fun w => nb (Or.inr (Or.inl w))) (fun w => nb (Or.inr (Or.inr ⟨w.1, by omega⟩))), e7 b j (fun w => nb (Or.inl w)), e5 b j (fun w => nb (Or.inr (Or.inr ⟨w.1, by omega⟩)))⟩⟩
  have i : ∀ j, ¬ (j = 8 ∨ j = 9 ∨ j = 24) → mh_i h' 115 j = mh_i h 115 j := fun j hj => e6 115 j (by unfold kc; omega) (by omega) (fun w => hj w.2)
  have rowi : ∀ b j, b < 118 ∨ (118 < b ∧ b < 132) ∨ 2644 ≤ b → ¬ b = 115 → mh_i h' b j = mh_i h b j := fun b j hb n => e6 b j (by unfold kc; omega) (by omega) (by omega)
  have row : ∀ b, b < 118 ∨ (118 < b ∧ b < 132) ∨ 2644 ≤ b → ¬ b = 115 → mh_i h' b = mh_i h b := fun b hb n => funext fun j => rowi b j hb n
  have mgs : ∀ b c, mg h b c → mg h' b c := fun b c w => by unfold mg at w ⊢; rw [e1, e3]; exact w
  have kp : cnQ G h' (p + 1000) := ⟨fun z => by omega, fun _ => ⟨by omega, by
    rw [Nat.add_sub_cancel, f6, oa, ga]⟩⟩
  refine ⟨h', ?_, ?_, ?_, fun j => rowi o j (by omega) (by omega), f3, fun q w => ?_, kp, f5⟩
  · have qq : qN h' = qN h ∧ qS h' = qS h := by
      have a1 : cnS h' 119 2048 = cnS h 119 2048 := by
        unfold cnS
        have : (fun i => (mh_r h' 119 i).isSome) = (fun i => (mh_r h 119 i).isSome) := funext fun i => by rw [e5 119 i (by omega)]
        rw [this]
      have a2 : ∀ j, j ≠ 23 → ln h' 115 j = ln h 115 j := fun j hj => by unfold ln; rw [e5 115 j (by omega), e2]
      unfold qN qS
      rw [a1, a2 27 (by omega), a2 12 (by omega), e3, e4]
      exact ⟨rfl, rfl⟩
    refine ⟨⟨fz_w z (fun b j _ w => ?_), Int.le_of_eq qq.1, Int.le_of_eq qq.2⟩, fun x ⟨j, j1, j2, j3⟩ => Or.inl ⟨j, j1, j2, by rw [← e5 115 j (by omega)]; exact j3⟩, fun i a e => by rw [e5 119 i (by omega)]; exact e, fun i a e => Or.inl (by rw [← e5 119 i (by omega)]; exact e)⟩
    rcases w with w | w | w
    · exact Or.inr (Or.inr (Or.inr (Or.inr (Or.inr (Or.inr (Or.inr (Or.inr (Or.inl ⟨p, hp, w⟩))))))))
    · exact Or.inr (Or.inr (Or.inr (Or.inr (Or.inr (Or.inl w.1)))))
    · have : (j = 8 ∨ j = 9) ∨ (j = 24 ∨ j = 23) := by omega
      rcases this with v | v
      · exact Or.inr (Or.inr (Or.inr (Or.inr (Or.inr (Or.inr (Or.inr (Or.inr (Or.inr (Or.inl ⟨w.1, by omega⟩)))))))))
      · exact Or.inl ⟨w.1, by omega⟩
  · have nw : decide (4000 < wW w0) = false := decide_eq_false (by omega)
    refine RA.of ⟨RZ_same A.Z e1 e2 e3 e5, EV_same A.V (i 18 (by omega)) (fun j _ => rowi _ _ (by omega) (by omega)) (fun j _ => rowi _ _ (by omega) (by omega)), (i 11 (by omega)).trans A.s, (i 20 (by omega)).trans A.n, (i 21 (by omega)).trans A.a, (i 14 (by omega)).trans A.f, (i 22 (by omega)).trans A.t, f1, by rw [f2, nw, Bool.false_or]; rfl, fun q hq => ⟨?_, ?_⟩, ?_, by rw [row 93 (by omega) (by omega), row 95 (by omega) (by omega), row 97 (by omega) (by omega)]; exact A.X⟩
    · rw [wl_K]
      by_cases c : q = p
      · rw [if_pos c, c]; exact e8
      · rw [if_neg c]
        exact RK_fz z (fun y hy j w => by unfold kc at w; omega) (A.k q hq).1
    · rw [wl_A]
      by_cases c : q = p
      · rw [if_pos c, c]; exact e9
      · rw [if_neg c, e6 118 q (by unfold kc; omega) (by omega) (by omega)]
        exact (A.k q hq).2
    · obtain ⟨c, c1, c2, c3, c4, c5, c6, c7, c8⟩ := A.F
      refine ⟨c, by rw [e5 _ _ (by omega)]; exact c1, mgs _ _ c2, by rw [e2]; exact c3, by rw [e2]; exact c4, c5, fun i a e => c6 i a (by rw [← e5 _ _ (by omega)]; exact e), fun ⟨j, j1, j2, j3⟩ => c7 ⟨j, j1, j2, by rw [← e5 _ _ (by omega)]; exact j3⟩, fun f hf => by rw [rowi c f (by omega) (by omega)]; exact c8 f hf⟩
  · exact RK_fz z (fun y hy j w => by
      rcases w with w | w | w
      · exact ok y hy p hp w
      · omega
      · omega) c
  · refine ⟨fun hq => ⟨(rowi 130 q (by omega) (by omega)).trans (w.1 hq).1, (rowi 131 q (by omega) (by omega)).trans (w.1 hq).2⟩, fun hq => ?_⟩
    by_cases c : q = p + 1000
    · rw [c]; exact kp.2 (by omega)
    · have w2 := w.2 hq
      exact ⟨w2.1, (e6 _ _ (by unfold kc; omega) (by omega) (by omega)).trans w2.2⟩
theorem w_259 (A : RA h s0 E D (wl p s 0 w0)) (hp : p < 250) (z34 : mh_i h 115 34 = 0) {al : Int32} (hal : mh_i h 115 24 = al) : ∃ h', rq s0 (sV o T) h h' ∧ RA h' s0 E D (wl p s al w0) ∧ (∀ b j, ¬ b = 118 → mh_i h' b j = mh_i h b j) ∧ mh_j h' = mh_j h ∧ mh_r h' = mh_r h ∧ mh_k h' = mh_k h ∧ mh_l h' = mh_l h ∧ mh_n h' = mh_n h ∧ ∀ Q, mcall d 259 [.ref 115, .int (Int32.ofNat p)] h Q = Q none h' := by
  have J := A.j
  have e : mh_i h 118 p = 0 := by rw [(A.k p hp).2, wl_A, if_pos rfl]
  have or0 : (0 : Int32) ||| al = al := by rw [Int32.or_comm]; exact i32_or0 al
  refine ⟨_, sV_si (v := mh_i h 118 p ||| mh_i h 115 24) (b := 118) (k := p) (Or.inr (Or.inr (Or.inr (Or.inr (Or.inr (Or.inl rfl)))))), ?_, fun b j nb => by rw [hi_si, if_neg (fun z => nb z.1)], rfl, rfl, rfl, rfl, rfl, u_259 J hp z34⟩
  rw [e, hal, or0]
  have o' : ∀ b j, ¬ b = 118 → mh_i (mh_si h 118 p al) b j = mh_i h b j := fun b j hb => by rw [hi_si, if_neg (fun z => hb z.1)]
  have row : ∀ b, ¬ b = 118 → mh_i (mh_si h 118 p al) b = mh_i h b := fun b hb => funext fun j => o' b j hb
  refine RA.of ⟨RZ_same A.Z rfl rfl rfl (fun _ _ _ => rfl), EV_same A.V (o' _ _ (by omega)) (fun j _ => o' _ _ (by omega)) (fun j _ => o' _ _ (by omega)), (o' _ _ (by omega)).trans A.s, (o' _ _ (by omega)).trans A.n, (o' _ _ (by omega)).trans A.a, (o' _ _ (by omega)).trans A.f, (o' _ _ (by omega)).trans A.t, (o' _ _ (by omega)).trans A.w, (o' _ _ (by omega)).trans A.m, fun q hq => ⟨?_, ?_⟩, ?_, by rw [row 93 (by omega), row 95 (by omega), row 97 (by omega)]; exact A.X⟩
  · have k0 := (A.k q hq).1
    rw [wl_K] at k0 ⊢
    exact RK_fz (fz_si (W := fun b _ => b = 118) rfl) (fun y hy j w => by omega) k0
  · have k1 := (A.k q hq).2
    rw [wl_A] at k1 ⊢
    by_cases c : q = p
    · rw [if_pos c, c, hi_si, if_pos ⟨rfl, rfl⟩]
    · rw [if_neg c] at k1 ⊢
      rw [hi_si, if_neg (fun z => c z.2)]
      exact k1
  · obtain ⟨c, c1, c2, c3, c4, c5, c6, c7, c8⟩ := A.F
    exact ⟨c, c1, c2, c3, c4, c5, c6, c7, fun f hf => by rw [o' c f (by omega)]; exact c8 f hf⟩
theorem w_260 (A : RA h s0 E D w0) (z34 : mh_i h 115 34 = 0) {x y : Int32} : ∀ Q, mcall d 260 [.ref 115, .int x, .int y, .ref o] h Q = Q none h := fun Q => by
  have g := A.j.a.g
  have a34 := z34
  clear A
  simp (disch := omega) only [s_260_0, s_260_1, s_260_4, s_260_7, s_260_8, s_260_11, s_260_14, s_260_15, s_260_16, s_260_19, s_260_21, s_260_22, s_260_23, s_260_26, s_260_26n, s_260_26x, s_260_28, s_260_30, s_260_31, s_260_34, s_260_35, s_260_35x, s_260_36, s_260_37, s_260_40, s_260_41, s_260_41x, s_260_42, s_260_45, s_260_47, s_260_48, s_260_51, s_260_52, s_260_53, s_260_56, s_260_59, s_260_60, s_260_61, s_260_64, s_260_65, s_260_68, s_260_71, s_260_72, s_260_74, s_260_77, e_260, mv_i_1, mv_l_1, mv_a_1, mv_a_2, mv_a_3, mk2_n, mk2_i, mk2_l, mk2_a, mk2_u, mk2_x, mB_T, mB_F, mS_cons, mS_nil, mSB_T, mSB_F, mca_nil, mca_i, mca_l, mca_r, mca_u, mca_x, mcat_i, mcat_l, mcat_r, mcat_u, mcat_x, mK_some, mK_none, va_rf_s, va_rf_n, lgc_eq, lgc_lt, lgc_gt, lgc_ge, lgc_le, mrd_104, mrd_105, mrd_106, mrd_107, true_and, and_true, and_self, false_and, and_false, true_or, or_true, false_or, or_false, not_true_eq_false, not_false_eq_true, mgb, mga, mgr, mN, reduceCtorEq, ↓reduceIte, eq_self, ge_iff_le, gt_iff_lt, Nat.reduceAdd, Nat.reduceMul, Nat.reduceSub, Nat.reduceLT, Nat.reduceGT, Nat.reduceEqDiff, Nat.reduceLeDiff, Nat.left_eq_add, Nat.add_eq_left, Nat.reduceMod, Nat.reduceDiv, Nat.succ_ne_self, g, a34]
theorem sim_0 (A : RA h s0 E D w0) (l : lv h s0 o) (c : RK h o s) (a2 : mh_i h o 2 = Int32.ofNat E.ar) (al : mh_i h 115 24 = 0) (hs : s0 < 2048) {kd : Int32} (hk : k < 26000) (hkd : mh_i h 93 k = kd) {is : Int32} : ∃ h' b, rq s0 (sV o E.T) h h' ∧ SMp h' s0 o b E D w0 s ∧ (mh_i h' 93 = mh_i h 93 ∧ mh_i h' 95 = mh_i h 95 ∧ mh_i h' 97 = mh_i h 97) ∧ (∀ q, cnQ G h q → cnQ G h' q) ∧ ∀ Q, mcall (d + 3) 262 [.ref 115, .int (Int32.ofNat k), .ref o, .int is] h Q = mw (d + 3) 262 Q 25 [some (.ref 115), some (.int (Int32.ofNat k)), some (.ref o), some (.int is), some (.int (Int32.ofNat s0)), some (.ref b), none, none] [.int kd] h' := by
  have J := A.j
  obtain ⟨h1, b, x, J1, e1, e2, e3, r1, run⟩ := t_227 (d := d) J A.s hs l c
  have A1 : RA h1 (s0 + 1) E D w0 := RA_q A vF x J1 e2
  have l1 := rq_lv x l
  have ne : b ≠ o := fun z => lv_ne J1 l1 (Nat.le_refl _) e1 z.symm
  obtain ⟨t1, t2, t3⟩ := rq_tr J vF x
  refine ⟨mh_sr h1 115 23 (some b), b, rq_t (sV_F x (Nat.le_refl _)) rq_23, ?_, ⟨t1, t2, t3⟩, fun q w => cn_q A vF x w, fun Q => ?_⟩
  · have lo := sp_lo J1 (lv_sp l1)
    have lob := sp_lo J1 ⟨_, e1⟩
    refine SMp.of ⟨RA_23 A1, ?_, ?_, ne, RK_fz (fz_sr (W := fun b _ => b = 115) rfl) (fun y hy j w => by omega) (rq_K J x l (fun _ _ _ w => w) c), RK_fz (fz_sr (W := fun b _ => b = 115) rfl) (fun y hy j w => by omega) r1, by rw [hr_sr, if_pos ⟨rfl, rfl⟩], by rw [hi_sr, rq_ki J x l (fun _ w => w)]; exact a2, by rw [hi_sr, e3]; exact al⟩
    · obtain ⟨i, i1, i2⟩ := l1
      exact ⟨i, i1, by rw [hr_sr, if_neg (by omega)]; exact i2⟩
    · rw [hr_sr, if_neg (by omega)]; exact e1
  · have g := J.a.g
    have g1 := J1.a.g
    have as := A.s
    have r0 := J1.a.r0
    have gV := J1.a.F.g 93 102 26000 (by decide +kernel)
    have gV1 := gV.1
    have gV2 := gV.2
    have lV := J1.a.F.l 93 102 26000 (by decide +kernel)
    have hk1 : mh_i h1 93 k = kd := by rw [t1]; exact hkd
    clear A J A1 J1 x c a2 l l1 t1 t2 t3 r1 gV hkd
    simp (disch := omega) only [s_262_0, s_262_1, s_262_4, s_262_6, s_262_7, s_262_8, s_262_11, s_262_11n, s_262_13, s_262_14, s_262_16, s_262_16n, s_262_19, s_262_20, s_262_23, s_262_24, s_262_72, s_262_73, s_262_76, s_262_78, s_262_79, s_262_82, s_262_83, s_262_86, s_262_87, s_262_88, s_262_89, s_262_92, s_262_93, s_262_94, s_262_95, s_262_96, s_262_98, s_262_99, s_262_100, s_262_103, s_262_106, s_262_107, s_262_110, s_262_111, s_262_114, s_262_115, s_262_116, s_262_118, s_262_119, s_262_120, s_262_122, s_262_123, s_262_124, s_262_127, s_262_128, s_262_129, s_262_131, s_262_132, s_262_133, s_262_134, s_262_135, s_262_137, s_262_138, s_262_139, s_262_140, s_262_141, s_262_144, s_262_145, s_262_148, s_262_149, s_262_150, s_262_151, s_262_152, s_262_153, s_262_156, s_262_157, s_262_158, s_262_161, s_262_164, s_262_167, s_262_168, s_262_169, s_262_172, s_262_173, s_262_174, s_262_175, s_262_176, s_262_179, s_262_180, s_262_181, s_262_182, s_262_183, s_262_184, s_262_187, s_262_188, s_262_189, s_262_192, s_262_195, s_262_198, s_262_199, s_262_202, s_262_203, s_262_204, s_262_205, s_262_206, s_262_207, s_262_208, s_262_209, s_262_210, s_262_213, s_262_214, s_262_215, s_262_218, s_262_221, s_262_222, s_262_225, s_262_226, s_262_227, s_262_228, s_262_231, s_262_234, s_262_235, s_262_238, s_262_239, s_262_242, s_262_242n, s_262_244, s_262_245, s_262_246, s_262_247, s_262_248, s_262_250, s_262_251, s_262_253, s_262_256, s_262_257, s_262_258, s_262_261, s_262_263, s_262_266, s_262_269, s_262_270, s_262_273, s_262_275, s_262_276, s_262_279, s_262_282, s_262_283, s_262_286, s_262_287, s_262_290, s_262_293, s_262_294, s_262_295, s_262_296, s_262_297, s_262_298, s_262_301, s_262_302, s_262_303, s_262_306, s_262_309, s_262_310, s_262_313, s_262_314, s_262_315, s_262_316, s_262_317, s_262_318, s_262_321, s_262_324, s_262_325, s_262_328, s_262_329, s_262_332, s_262_333, s_262_335, s_262_338, e_262, mv_i_1, mv_l_1, mv_a_1, mv_a_2, mv_a_3, mk2_n, mk2_i, mk2_l, mk2_a, mk2_u, mk2_x, mB_T, mB_F, mS_cons, mS_nil, mSB_T, mSB_F, mca_nil, mca_i, mca_l, mca_r, mca_u, mca_x, mcat_i, mcat_l, mcat_r, mcat_u, mcat_x, mK_some, mK_none, va_rf_s, va_rf_n, lgc_eq, lgc_lt, lgc_gt, lgc_ge, lgc_le, mrd_104, mrd_105, mrd_106, mrd_107, true_and, and_true, and_self, false_and, and_false, true_or, or_true, false_or, or_false, not_true_eq_false, not_false_eq_true, mgb, mga, mgr, mN, reduceCtorEq, ↓reduceIte, eq_self, ge_iff_le, gt_iff_lt, hk_si, hk_sj, hk_sr, hl_si, hl_sj, hl_sr, hn_si, hn_sj, hn_sr, hs_si, hs_sj, hs_sr, hi_sj, hi_sr, hj_si, hj_sr, hr_si, hr_sj, hi_si, hj_sj, hr_sr, mg_si, mg_sj, mg_sr, Nat.reduceAdd, Nat.reduceMul, Nat.reduceSub, Nat.reduceLT, Nat.reduceGT, Nat.reduceEqDiff, Nat.reduceLeDiff, Nat.left_eq_add, Nat.add_eq_left, Nat.reduceMod, Nat.reduceDiv, Nat.succ_ne_self, g, g1, as, run, r0, gV1, gV2, lV, hk1, nn_mxT, nn_clamp]
/-- its end -/
theorem sim_9 (A : RA h s1 E D w0) {x1 x2 x3 x5 x6 x7 : Option Value} : RA (mh_si h 115 11 (Int32.ofNat s0)) s0 E D w0 ∧ ∀ Q, mw d 262 Q 332 [some (.ref 115), x1, x2, x3, some (.int (Int32.ofNat s0)), x5, x6, x7] [] h = Q none (mh_si h 115 11 (Int32.ofNat s0)) := by
  refine ⟨RA_11 A, fun Q => ?_⟩
  have g := A.j.a.g
  clear A
  simp (disch := omega) only [s_262_0, s_262_1, s_262_4, s_262_6, s_262_7, s_262_8, s_262_11, s_262_11n, s_262_13, s_262_14, s_262_16, s_262_16n, s_262_19, s_262_20, s_262_23, s_262_24, s_262_25, s_262_72, s_262_73, s_262_76, s_262_78, s_262_79, s_262_82, s_262_83, s_262_86, s_262_87, s_262_88, s_262_89, s_262_92, s_262_93, s_262_94, s_262_95, s_262_96, s_262_98, s_262_99, s_262_100, s_262_103, s_262_106, s_262_107, s_262_110, s_262_111, s_262_114, s_262_115, s_262_116, s_262_118, s_262_119, s_262_120, s_262_122, s_262_123, s_262_124, s_262_127, s_262_128, s_262_129, s_262_131, s_262_132, s_262_133, s_262_134, s_262_135, s_262_137, s_262_138, s_262_139, s_262_140, s_262_141, s_262_144, s_262_145, s_262_148, s_262_149, s_262_150, s_262_151, s_262_152, s_262_153, s_262_156, s_262_157, s_262_158, s_262_161, s_262_164, s_262_167, s_262_168, s_262_169, s_262_172, s_262_173, s_262_174, s_262_175, s_262_176, s_262_179, s_262_180, s_262_181, s_262_182, s_262_183, s_262_184, s_262_187, s_262_188, s_262_189, s_262_192, s_262_195, s_262_198, s_262_199, s_262_202, s_262_203, s_262_204, s_262_205, s_262_206, s_262_207, s_262_208, s_262_209, s_262_210, s_262_213, s_262_214, s_262_215, s_262_218, s_262_221, s_262_222, s_262_225, s_262_226, s_262_227, s_262_228, s_262_231, s_262_234, s_262_235, s_262_238, s_262_239, s_262_242, s_262_242n, s_262_244, s_262_245, s_262_246, s_262_247, s_262_248, s_262_250, s_262_251, s_262_253, s_262_256, s_262_257, s_262_258, s_262_261, s_262_263, s_262_266, s_262_269, s_262_270, s_262_273, s_262_275, s_262_276, s_262_279, s_262_282, s_262_283, s_262_286, s_262_287, s_262_290, s_262_293, s_262_294, s_262_295, s_262_296, s_262_297, s_262_298, s_262_301, s_262_302, s_262_303, s_262_306, s_262_309, s_262_310, s_262_313, s_262_314, s_262_315, s_262_316, s_262_317, s_262_318, s_262_321, s_262_324, s_262_325, s_262_328, s_262_329, s_262_332, s_262_333, s_262_335, s_262_338, e_262, mv_i_1, mv_l_1, mv_a_1, mv_a_2, mv_a_3, mk2_n, mk2_i, mk2_l, mk2_a, mk2_u, mk2_x, mB_T, mB_F, mS_cons, mS_nil, mSB_T, mSB_F, mca_nil, mca_i, mca_l, mca_r, mca_u, mca_x, mcat_i, mcat_l, mcat_r, mcat_u, mcat_x, mK_some, mK_none, va_rf_s, va_rf_n, lgc_eq, lgc_lt, lgc_gt, lgc_ge, lgc_le, mrd_104, mrd_105, mrd_106, mrd_107, true_and, and_true, and_self, false_and, and_false, true_or, or_true, false_or, or_false, not_true_eq_false, not_false_eq_true, mgb, mga, mgr, mN, reduceCtorEq, ↓reduceIte, eq_self, ge_iff_le, gt_iff_lt, Nat.reduceAdd, Nat.reduceMul, Nat.reduceSub, Nat.reduceLT, Nat.reduceGT, Nat.reduceEqDiff, Nat.reduceLeDiff, Nat.left_eq_add, Nat.add_eq_left, Nat.reduceMod, Nat.reduceDiv, Nat.succ_ne_self, g]
end SBs
