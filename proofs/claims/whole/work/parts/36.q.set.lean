set_option maxRecDepth 100000
/-! Analysis.set, whole -/
section STw
variable {d : Nat} {h X Y : mh_H} {T N H to : Nat} {sN : Int → Prop} {en : Int → Nat} {A B : ab} {PQ PS PU PF PL PH lP : Nat} {l : List (Nat × Bool × tr)} {x : Nat} {new : Bool} {lo hi : Int}
/-- the extra limits of a shift tell no more -/
theorem SO.xtra (S : SO A B (l.map (pgE en A)) x new lo hi) : a_lims (xtra (l.map (pgE en A)) x new ++ (setL A (l.map (pgE en A)) (fun i => !new && ownB (l.map (pgE en A)) x i) x (l.map (pgE en A)).length ++ [(2 * x, 2 * x, hi), (2 * x + 1, 2 * x + 1, -lo)])) (a_base A B (l.map (pgE en A)) x new) = a_lims (setL A (l.map (pgE en A)) (fun i => !new && ownB (l.map (pgE en A)) x i) x (l.map (pgE en A)).length ++ [(2 * x, 2 * x, hi), (2 * x + 1, 2 * x + 1, -lo)]) (a_base A B (l.map (pgE en A)) x new) := by
  obtain ⟨l1, l2⟩ := S.i1
  obtain ⟨h1, h2⟩ := S.i2
  refine lims_eq rfl rfl rfl rfl rfl (fun i j z => absurd rfl z) (fun c hc => ?_) (fun c hc => ⟨c, List.mem_append_right _ hc, fun _ _ m => m, Int.le_refl _⟩)
  rcases List.mem_append.mp hc with hc | hc
  · rcases xtra_m hc with e | e
    · subst e
      refine ⟨(2 * x, 2 * x, hi), List.mem_append_right _ List.mem_cons_self, fun _ _ m => m, ?_⟩
      unfold lmV
      rw [if_pos rfl, if_pos rfl]
      show 2 * hi ≤ 2 * 2147483647
      omega
    · subst e
      refine ⟨(2 * x + 1, 2 * x + 1, -lo), List.mem_append_right _ (List.mem_cons_of_mem _ (List.mem_singleton.mpr rfl)), fun _ _ m => m, ?_⟩
      unfold lmV
      rw [if_pos rfl, if_pos rfl]
      show 2 * -lo ≤ 2 * 2147483648
      omega
  · exact ⟨c, hc, fun _ _ m => m, Int.le_refl _⟩
/-- all limits leave what can be settled -/
theorem SO.fin (S : SO A B (l.map (pgE en A)) x new lo hi) : oc_C (a_base A B (l.map (pgE en A)) x new).n (a_lims (setL A (l.map (pgE en A)) (fun i => !new && ownB (l.map (pgE en A)) x i) x (l.map (pgE en A)).length ++ [(2 * x, 2 * x, hi), (2 * x + 1, 2 * x + 1, -lo)]) (a_base A B (l.map (pgE en A)) x new)).m ∧ (∀ i j, i < 2 * (a_base A B (l.map (pgE en A)) x new).n → j < 2 * (a_base A B (l.map (pgE en A)) x new).n → -34359738368 ≤ (a_lims (setL A (l.map (pgE en A)) (fun i => !new && ownB (l.map (pgE en A)) x i) x (l.map (pgE en A)).length ++ [(2 * x, 2 * x, hi), (2 * x + 1, 2 * x + 1, -lo)]) (a_base A B (l.map (pgE en A)) x new)).m i j ∧ (a_lims (setL A (l.map (pgE en A)) (fun i => !new && ownB (l.map (pgE en A)) x i) x (l.map (pgE en A)).length ++ [(2 * x, 2 * x, hi), (2 * x + 1, 2 * x + 1, -lo)]) (a_base A B (l.map (pgE en A)) x new)).m i j ≤ 300000000000000) ∧ (∀ i, i < 2 * (a_base A B (l.map (pgE en A)) x new).n → (a_lims (setL A (l.map (pgE en A)) (fun i => !new && ownB (l.map (pgE en A)) x i) x (l.map (pgE en A)).length ++ [(2 * x, 2 * x, hi), (2 * x + 1, 2 * x + 1, -lo)]) (a_base A B (l.map (pgE en A)) x new)).m (oc_b i) i ≤ 4294967296) := by
  obtain ⟨bn, -, -, -, -, bT, bb, bd⟩ := S.base
  have sl := S.lim
  obtain ⟨l1, l2⟩ := S.i1
  obtain ⟨h1, h2⟩ := S.i2
  refine ⟨lims_C _ _ bT.1 (fun c hc => ⟨(sl c hc).1, (sl c hc).2.1, (sl c hc).2.2.1⟩), fun i j hi' hj => ⟨?_, ?_⟩, fun i hi' => ?_⟩
  · rw [lims_le]
    exact ⟨by have := (bb i j hi' hj).1; omega, fun c hc _ => (sl c hc).2.2.2.1⟩
  · have := ((lims_le (i := i) (j := j) (setL A (l.map (pgE en A)) (fun i => !new && ownB (l.map (pgE en A)) x i) x (l.map (pgE en A)).length ++ [(2 * x, 2 * x, hi), (2 * x + 1, 2 * x + 1, -lo)]) (a_base A B (l.map (pgE en A)) x new) _).mp (Int.le_refl _)).1
    have := (bb i j hi' hj).2
    omega
  · have key := (lims_le (i := oc_b i) (j := i) (setL A (l.map (pgE en A)) (fun i => !new && ownB (l.map (pgE en A)) x i) x (l.map (pgE en A)).length ++ [(2 * x, 2 * x, hi), (2 * x + 1, 2 * x + 1, -lo)]) (a_base A B (l.map (pgE en A)) x new) _).mp (Int.le_refl _)
    by_cases e : i / 2 = x
    · have : i = 2 * x ∨ i = 2 * x + 1 := by omega
      rcases this with e | e
      · have q := key.2 (2 * x, 2 * x, hi) (List.mem_append_right _ List.mem_cons_self) (Or.inl ⟨by rw [e], e⟩)
        unfold lmV at q
        rw [if_pos rfl] at q
        have q : _ ≤ 2 * hi := q
        omega
      · have q := key.2 (2 * x + 1, 2 * x + 1, -lo) (List.mem_append_right _ (List.mem_cons_of_mem _ (List.mem_singleton.mpr rfl))) (Or.inl ⟨by rw [e], e⟩)
        unfold lmV at q
        rw [if_pos rfl] at q
        have q : _ ≤ 2 * -lo := q
        omega
    · have := bd i hi' e
      omega
theorem KN_si {o : Nat} {B : ab} (k : RK h o (some B)) : RK (mh_si h o 0 1) o none := by
  have k : KM h o B := k
  have s := k.s
  refine ⟨?_, by rw [hi_si, if_pos ⟨rfl, rfl⟩], ⟨B.n, k.n12, by rw [hi_si, if_neg (by omega)]; exact k.n⟩, ⟨B.a, k.a6, by rw [hi_si, if_neg (by omega)]; exact k.a⟩⟩
  exact s
end STw
/-- a SUM that stands in the rows, in order, by what is known now -/
abbrev SM (h : mh_H) (sN : Int → Prop) (en : Int → Nat) (A : ab) (t : tr) (p : Nat) : Prop := (nd (mh_i h 93) (mh_i h 95) (mh_i h 97) p t) ∧ (p + ts t ≤ 26000) ∧ (wS sN en A t false) ∧ (pz t false) ∧ (pn t false ≤ 6000)
theorem SM.n {h : mh_H} {sN : Int → Prop} {en : Int → Nat} {A : ab} {t : tr} {p : Nat} (q : SM h sN en A t p) : nd (mh_i h 93) (mh_i h 95) (mh_i h 97) p t := q.1
theorem SM.b {h : mh_H} {sN : Int → Prop} {en : Int → Nat} {A : ab} {t : tr} {p : Nat} (q : SM h sN en A t p) : p + ts t ≤ 26000 := q.2.1
theorem SM.w {h : mh_H} {sN : Int → Prop} {en : Int → Nat} {A : ab} {t : tr} {p : Nat} (q : SM h sN en A t p) : wS sN en A t false := q.2.2.1
theorem SM.z {h : mh_H} {sN : Int → Prop} {en : Int → Nat} {A : ab} {t : tr} {p : Nat} (q : SM h sN en A t p) : pz t false := q.2.2.2.1
theorem SM.m {h : mh_H} {sN : Int → Prop} {en : Int → Nat} {A : ab} {t : tr} {p : Nat} (q : SM h sN en A t p) : pn t false ≤ 6000 := q.2.2.2.2
section STy
variable {d : Nat} {h : mh_H} {T N to : Nat} {sN : Int → Prop} {en : Int → Nat} {A B : ab} {x : Nat} {new : Bool} {t : tr} {p : Nat}
theorem sk_rsF {V : Nat → Nat → Prop} {h h1 : mh_H} (x : rs (fun _ _ => False) h h1) : rs V h h1 := rs_w x (fun _ _ _ w => absurd w (fun z => z))
/-- Analysis.set -/
theorem u_247 (J : RJ h T sN en) (M : SM h sN en A t p) (s : sp h to) (sN' : sp h N) (ne : N ≠ to) (r23 : mh_r h 115 23 = some N) (kN : RK h N (some A)) (hT : ab_T A) (kt : RK h to (some B)) (hB : ab_T B) (hn : A.n ≤ B.n) (hx1 : new = true → x = B.n ∧ B.n < 12) (hx0 : new = false → x < B.n) (hd : 2 * th t + 12 ≤ d) : ∃ h', rs (fun b _ => kc to b) h h' ∧ RJ h' T sN en ∧ RK h' to (a_set en A B x new t) ∧ mh_i h' 115 24 = mh_i h 115 24 ||| (ev en A t none).2 ∧ ∀ Q, mcall d 247 [.ref 115, .int (Int32.ofNat p), .int (Int32.ofNat x), .int (kb new), .ref to] h Q = Q none h' := by
  obtain ⟨d', rfl⟩ : ∃ d', d = d' + 4 := ⟨d - 4, by omega⟩
  have g := J.a.g
  have gt : mg h to 13 := (RK_ko kt).1
  have to2 : 2644 ≤ to := by
    obtain ⟨j, hj⟩ := s
    exact (J.s j to hj).1
  obtain ⟨b, lo, hi, er, ec⟩ := u_233 (d := d' + 3) J.a r23 kN hT (t := t) (p := p) (by omega) M.n M.b M.w
  have y0 : rs (fun b _ => kc to b) h (aS h 115 (mh_i h 115 24 ||| (ev en A t none).2) lo hi) := rs_aS
  obtain ⟨PQ, PS, PU, PF, PL, PH, lP, P⟩ := J.p
  have P0 : PR (aS h 115 (mh_i h 115 24 ||| (ev en A t none).2) lo hi) PQ PS PU PF PL PH lP := PR_k J s y0 (fun _ _ _ => rfl) P
  have kt0 : RK (aS h 115 (mh_i h 115 24 ||| (ev en A t none).2) lo hi) to (some B) := RK_aS g kt
  have kN0 : RK (aS h 115 (mh_i h 115 24 ||| (ev en A t none).2) lo hi) N (some A) := RK_aS g kN
  have J0 := RJ_1 J s y0 ⟨_, _, _, _, _, _, _, P0⟩ (RK_ko kt0)
  cases b with
  | false =>
    have en' := eR_n er rfl
    have k0' : kb false = 0 := rfl
    rw [k0'] at ec
    have y1 : rs (fun b _ => kc to b) (aS h 115 (mh_i h 115 24 ||| (ev en A t none).2) lo hi) (mh_si (aS h 115 (mh_i h 115 24 ||| (ev en A t none).2) lo hi) to 0 1) := rs_of (fR_si (Or.inr (Or.inr ⟨Nat.le_refl _, by omega⟩))) (fun _ _ _ => rfl)
    have kn := KN_si kt0
    have P1 := PR_k J0 ((rs_s J (vK_1 s) y0).mpr s) y1 (fun _ _ _ => rfl) P0
    refine ⟨_, rs_t y0 y1, RJ_1 J0 ((rs_s J (vK_1 s) y0).mpr s) y1 ⟨_, _, _, _, _, _, _, P1⟩ (RK_ko kn), ?_, ?_, fun Q => ?_⟩
    · have : a_set en A B x new t = none := by unfold a_set; rw [en']
      rw [this]; exact kn
    · rw [hi_si, if_neg (by omega), aS_i, if_pos ⟨rfl, rfl⟩]
    · simp (disch := omega) only [s_247_0, s_247_1, s_247_2, s_247_5, s_247_8, s_247_10, s_247_11, s_247_14, s_247_15, s_247_16, s_247_19, s_247_21, s_247_22, s_247_25, s_247_27, s_247_28, s_247_29, s_247_32, s_247_33, s_247_34, s_247_35, s_247_38, s_247_39, s_247_42, s_247_43, s_247_45, s_247_46, s_247_48, s_247_50, s_247_51, s_247_54, s_247_57, s_247_58, s_247_61, s_247_63, s_247_64, s_247_67, s_247_68, s_247_71, s_247_73, s_247_74, s_247_75, s_247_78, s_247_79, s_247_82, s_247_84, s_247_87, s_247_89, s_247_91, s_247_94, s_247_97, s_247_98, s_247_101, s_247_103, s_247_106, s_247_109, s_247_111, s_247_114, s_247_115, s_247_117, s_247_118, s_247_121, s_247_122, s_247_125, s_247_127, s_247_128, s_247_131, s_247_133, s_247_134, s_247_137, s_247_139, s_247_140, s_247_141, s_247_144, s_247_145, s_247_148, s_247_151, s_247_154, s_247_156, s_247_157, s_247_160, s_247_161, s_247_163, s_247_165, s_247_166, s_247_169, s_247_172, s_247_173, s_247_176, s_247_178, s_247_179, s_247_182, s_247_184, s_247_186, s_247_189, s_247_190, s_247_192, s_247_193, s_247_196, s_247_197, s_247_199, s_247_202, s_247_203, s_247_204, s_247_206, s_247_208, s_247_209, s_247_210, s_247_211, s_247_213, s_247_214, s_247_217, s_247_220, s_247_222, s_247_223, s_247_224, s_247_225, s_247_226, s_247_227, s_247_229, s_247_230, s_247_231, s_247_232, s_247_235, s_247_236, s_247_239, s_247_242, s_247_245, s_247_247, s_247_248, s_247_249, s_247_250, s_247_251, s_247_252, s_247_253, s_247_255, s_247_258, s_247_260, s_247_261, s_247_262, s_247_263, s_247_264, s_247_265, s_247_266, s_247_267, s_247_268, s_247_269, s_247_270, s_247_272, s_247_273, s_247_276, s_247_278, s_247_281, e_247, mv_i_1, mv_l_1, mv_a_1, mv_a_2, mv_a_3, mk2_n, mk2_i, mk2_l, mk2_a, mk2_u, mk2_x, mB_T, mB_F, mS_cons, mS_nil, mSB_T, mSB_F, mca_nil, mca_i, mca_l, mca_r, mca_u, mca_x, mcat_i, mcat_l, mcat_r, mcat_u, mcat_x, mK_some, mK_none, va_rf_s, va_rf_n, lgc_eq, lgc_lt, lgc_gt, lgc_ge, lgc_le, mrd_104, mrd_105, mrd_106, mrd_107, true_and, and_true, and_self, false_and, and_false, true_or, or_true, false_or, or_false, not_true_eq_false, not_false_eq_true, mgb, mga, mgr, mN, reduceCtorEq, ↓reduceIte, eq_self, ge_iff_le, gt_iff_lt, Nat.reduceAdd, Nat.reduceMul, Nat.reduceSub, Nat.reduceLT, Nat.reduceGT, Nat.reduceEqDiff, Nat.reduceLeDiff, Nat.left_eq_add, Nat.add_eq_left, Nat.reduceMod, Nat.reduceDiv, Nat.succ_ne_self, g, gt, ec, aS_g, show ((0 : Int32) = 0) = True by decide, show ((1 : Int32) = 0 ∨ (1 : Int32) = 1) = True by decide]
  | true =>
    have k1' : kb true = 1 := rfl
    rw [k1'] at ec
    obtain ⟨vx, vy, hv, vl, vh⟩ := eR_s er rfl
    generalize hX0 : aS h 115 (mh_i h 115 24 ||| (ev en A t none).2) lo hi = X0 at *
    have s0 := (rs_s J (vK_1 s) y0 (o := to)).mpr s
    have sN0 := (rs_s J (vK_1 s) y0 (o := N)).mpr sN'
    obtain ⟨t1, t2, t3⟩ := rs_tr J (vK_1 s) y0
    -- no parts yet
    have y1 : rs (fun _ _ => False) X0 (mh_si X0 115 33 0) := rs_si (by omega) (by omega)
    have v0 : vK X0 (fun _ _ => False) := fun _ _ w => absurd w (fun z => z)
    have P1 : PR (mh_si X0 115 33 0) PQ PS PU PF PL PH lP := P0
    have J1 := RJ_0 J0 y1 ⟨_, _, _, _, _, _, _, P1⟩
    obtain ⟨q1, q2, q3⟩ := rs_tr J0 v0 y1
    have nd1 : nd (mh_i (mh_si X0 115 33 0) 93) (mh_i (mh_si X0 115 33 0) 95) (mh_i (mh_si X0 115 33 0) 97) p t := by rw [q1, q2, q3, t1, t2, t3]; exact M.n
    have pm := M.m
    obtain ⟨X2, PQ1, PS1, PU1, PF1, PL1, PH1, lP1, x2, e2⟩ := u_243 (T := T) (sN := sN) (en := en) (A := A) t (d' + 3) p 0 false (mh_si X0 115 33 0) PQ PS PU PF PL PH lP J1.a P1 (by rw [hi_si, if_pos ⟨rfl, rfl⟩]; rfl) (Nat.zero_le _) (by omega) nd1 M.b M.w (by omega)
    have r230 : mh_r X0 115 23 = some N := by rw [← hX0]; exact r23
    have sN1 := (rs_s J0 v0 y1 (o := N)).mpr sN0
    have s1 := (rs_s J0 v0 y1 (o := to)).mpr s0
    have kN1 := rs_K J0 y1 sN0 (fun _ _ _ w => w) kN0
    have kt1 := rs_K J0 y1 s0 (fun _ _ _ w => w) kt0
    have some' : (ev en A t none).1 ≠ none := by rw [hv]; exact Option.some_ne_none _
    have hl : ∀ e ∈ pg t false p false, pgP (mh_i (mh_si X0 115 33 0) 93) (mh_i (mh_si X0 115 33 0) 95) (mh_i (mh_si X0 115 33 0) 97) sN en A 0 26000 (th t) e ∧ (ev en A e.2.2 none).1 ≠ none := fun e he => by
      obtain ⟨p1, p2, p3, p4, p5⟩ := (pg_all (A := A) (en := en) (sN := sN) t).1 p false (th t) M.w nd1 (Nat.le_refl _) e he
      exact ⟨⟨p1, Nat.zero_le _, by have := M.b; omega, p4, p5⟩, (pg_some (A := A) (en := en) (sN := sN) t).1 p false M.w some' e he⟩
    have len := (pg_len t).1 false p false
    obtain ⟨X3, y3, J3, R3, al3, e3⟩ := wr_of (d := d' + 3) (H := th t) J1 P1 x2 r230 sN1 kN1 hT hl (by omega) (by omega)
    have v1 : vK (mh_si X0 115 33 0) (fun _ _ => False) := fun _ _ w => absurd w (fun z => z)
    have s3 := (rs_s J1 v1 y3 (o := to)).mpr s1
    have sN3 := (rs_s J1 v1 y3 (o := N)).mpr sN1
    have kt3 := rs_K J1 y3 s1 (fun _ _ _ w => w) kt1
    have ptq : (pg t false p false).map (pgE en A) = pt en A t false false := ((pg_pt (A := A) (en := en) (sN := sN) t).1 p false M.w).symm
    have LL : ((pg t false p false).map (pgE en A)).length = (pg t false p false).length := List.length_map _
    obtain ⟨ix, iy, ixy⟩ := (ev_in hT t).1 M.w vx vy hv
    obtain ⟨fb1, fb2⟩ := (form_b hT t).1 M.w M.z vx vy hv
    have S : SO A B ((pg t false p false).map (pgE en A)) x new vx vy := by
      have e1 : ∀ ps : List pa, sI (pqL ps) ps.length = lsum fL ps := fun ps => sI_lsum (f := fL) ps
      have e2 : ∀ ps : List pa, sI (pqH ps) ps.length = lsum fH ps := fun ps => sI_lsum (f := fH) ps
      refine ⟨hT, hB, LQ_PB hT R3.q R3.m, ?_, ?_, fun i hi' => ?_, fun i hi' fi => ?_, hn, hx1, hx0, ix, iy⟩
      · rw [e1, ptq]; have := ix.2; omega
      · rw [e2, ptq]; have := iy.1; omega
      · rw [LL] at hi'; exact (LQ_pq hT R3.q hi').1.2.2.2.2
      · rw [LL] at hi'
        exact ((LQ_pq hT R3.q hi').2 (of_decide_eq_true fi).1).2.1
    obtain ⟨X4, f4, k4, e4⟩ := set_mb (d := d') (k := Int32.ofNat p) (a5 := lo) (a7 := hi) (i10 := Int32.ofNat (pg t false p false).length) J3 R3 S s3 kt3
    obtain ⟨J4, P4⟩ := RJ_tW J3 s3 f4 (RK_ko k4) R3.P
    have R4 := WR_tW J3 s3 sN3 ne f4 (RK_ko k4) R3
    have y4 := tW_rs J3 s3 f4
    have s4 := (rs_s J3 (vK_1 s3) y4 (o := to)).mpr s3
    have sN4 := (rs_s J3 (vK_1 s3) y4 (o := N)).mpr sN3
    obtain ⟨X5, x11, f5, k5, e5⟩ := set_ml (d := d') (k := Int32.ofNat p) (a5 := lo) (a7 := hi) J4 R4 S s4 sN4 ne k4
    obtain ⟨J5, P5⟩ := RJ_tW J4 s4 f5 (RK_ko k5) R4.P
    have y5 := tW_rs J4 s4 f5
    have s5 := (rs_s J4 (vK_1 s4) y5 (o := to)).mpr s4
    have R5 := WR_tW J4 s4 sN4 ne f5 (RK_ko k5) R4
    obtain ⟨bn, -, -, -, -, bT, -, -⟩ := S.base
    have xn := S.xn
    have x12 := S.x12
    have sl := S.lim
    rw [← LL] at k5
    have cond : ∀ c ∈ xtra ((pg t false p false).map (pgE en A)) x new ++ setL A ((pg t false p false).map (pgE en A)) (fun i => !new && ownB ((pg t false p false).map (pgE en A)) x i) x ((pg t false p false).map (pgE en A)).length, c.1 < 2 * (a_base A B ((pg t false p false).map (pgE en A)) x new).n ∧ c.2.1 < 2 * (a_base A B ((pg t false p false).map (pgE en A)) x new).n ∧ c.1 ≠ oc_b c.2.1 := fun c hc => by
      rcases List.mem_append.mp hc with hc | hc
      · exact S.xl c hc
      · have := sl c (List.mem_append_left _ hc)
        exact ⟨this.1, this.2.1, this.2.2.1⟩
    obtain ⟨ix1, ix2⟩ := ix
    obtain ⟨iy1, iy2⟩ := iy
    obtain ⟨X6, f6, k6, e6⟩ := lim_1 (d := d' + 3) (v := 2 * x) (w := 2 * x) (c := hi) k5 bT.1 cond (by omega) (by omega) (by omega)
    have b0 := oc_b0 x
    have b1 := oc_b1 x
    obtain ⟨X7, f7, k7, e7⟩ := lim_1 (d := d' + 3) (v := 2 * x + 1) (w := 2 * x + 1) (c := -lo) k6 bT.1 (fun c hc => by
      rcases List.mem_append.mp hc with hc | hc
      · exact cond c hc
      · rcases List.mem_singleton.mp hc with rfl
        exact ⟨by dsimp only; omega, by dsimp only; omega, by dsimp only; omega⟩) (by omega) (by omega) (by rw [i64_n (by omega)]; omega)
    rw [i64_n (by omega), vl, vh, List.append_assoc, List.append_assoc] at k7
    have k7' : RK X7 to (some (a_lims (xtra ((pg t false p false).map (pgE en A)) x new ++ (setL A ((pg t false p false).map (pgE en A)) (fun i => !new && ownB ((pg t false p false).map (pgE en A)) x i) x ((pg t false p false).map (pgE en A)).length ++ [(2 * x, 2 * x, vy), (2 * x + 1, 2 * x + 1, -vx)])) (a_base A B ((pg t false p false).map (pgE en A)) x new))) := k7
    rw [S.xtra] at k7'
    obtain ⟨c1, c2, c3⟩ := S.fin
    obtain ⟨fn, -⟩ := lims_f (setL A ((pg t false p false).map (pgE en A)) (fun i => !new && ownB ((pg t false p false).map (pgE en A)) x i) x ((pg t false p false).map (pgE en A)).length ++ [(2 * x, 2 * x, vy), (2 * x + 1, 2 * x + 1, -vx)]) (a_base A B ((pg t false p false).map (pgE en A)) x new)
    obtain ⟨X8, f8, k8, e8⟩ := k_286 (d := d' + 2) k7' (by rw [fn]; exact c1) (Or.inr ⟨fun i j hi' hj => by rw [fn] at hi' hj; have := c2 i j hi' hj; omega, fun i hi' => by rw [fn] at hi'; have := c3 i hi'; omega⟩)
    have f58 : fR (tW to) X5 X8 := tW_t (tW_k f6) (tW_t (tW_k f7) (tW_k f8))
    obtain ⟨J8, P8⟩ := RJ_tW J5 s5 f58 (RK_ko k8) R5.P
    have y58 := tW_rs J5 s5 f58
    have yy : rs (fun b _ => kc to b) h X8 := rs_t y0 (rs_t (sk_rsF y1) (rs_t (sk_rsF y3) (rs_t y4 (rs_t y5 y58))))
    have nt : ∀ j, j = 24 → ¬ tW to 115 j := fun j hj w => by
      unfold tW kc at w
      omega
    have al : mh_i X8 115 24 = mh_i h 115 24 ||| (ev en A t none).2 := by
      rw [fz_i f58.1 J5.a.g (nt 24 rfl), fz_i f5.1 J4.a.g (nt 24 rfl), fz_i f4.1 J3.a.g (nt 24 rfl), al3, hi_si, if_neg (by omega), ← hX0, aS_i, if_pos ⟨rfl, rfl⟩]
    refine ⟨X8, yy, J8, ?_, al, fun Q => ?_⟩
    · have e9 : a_set en A B x new t = a_setP A B (pt en A t false false) x new vx vy := by unfold a_set; rw [hv]
      rw [e9, ← ptq]
      exact k8
    · have g0 : mg X0 115 12 := J0.a.g
      have g2 : mg X2 115 12 := fz_mg x2.f.1 J1.a.g
      have g5 := J5.a.g
      have j25 : mh_j X0 115 25 = lo := by rw [← hX0, aS_j, if_neg (by omega), if_pos ⟨rfl, rfl⟩]
      have j26 : mh_j X0 115 26 = hi := by rw [← hX0, aS_j, if_pos ⟨rfl, rfl⟩]
      have sg0 : sgn false = 1 := rfl
      rw [sg0] at e2
      have E0 : mcall (d' + 4) 247 [.ref 115, .int (Int32.ofNat p), .int (Int32.ofNat x), .int (kb new), .ref to] h Q = mw (d' + 4) 247 Q 48 [some (.ref 115), some (.int (Int32.ofNat p)), some (.int (Int32.ofNat x)), some (.int (kb new)), some (.ref to), some (.long lo), none, some (.long hi), none, some (.int (-1)), some (.int (Int32.ofNat 0)), none] [] X3 := by
        clear al yy y58 P8 J8 f58 k8 k7' k7 k6 cond sl bT R5 s5 y5 P5 J5 k5 sN4 s4 y4 R4 P4 J4 k4 S fb1 fb2 R3 J3 J1 J0 J M kt kt0 kt1 kt3 kN kN0 kN1
        simp (disch := omega) only [s_247_0, s_247_1, s_247_2, s_247_5, s_247_8, s_247_10, s_247_11, s_247_14, s_247_15, s_247_16, s_247_19, s_247_21, s_247_22, s_247_25, s_247_27, s_247_28, s_247_29, s_247_32, s_247_33, s_247_34, s_247_35, s_247_38, s_247_39, s_247_42, s_247_43, s_247_45, s_247_46, s_247_50, s_247_51, s_247_54, s_247_57, s_247_58, s_247_61, s_247_63, s_247_64, s_247_67, s_247_68, s_247_71, s_247_73, s_247_74, s_247_75, s_247_78, s_247_79, s_247_82, s_247_84, s_247_87, s_247_89, s_247_91, s_247_94, s_247_97, s_247_98, s_247_101, s_247_103, s_247_106, s_247_109, s_247_111, s_247_114, s_247_115, s_247_117, s_247_118, s_247_121, s_247_122, s_247_125, s_247_127, s_247_128, s_247_131, s_247_133, s_247_134, s_247_137, s_247_139, s_247_140, s_247_141, s_247_144, s_247_145, s_247_148, s_247_151, s_247_154, s_247_156, s_247_157, s_247_160, s_247_161, s_247_163, s_247_165, s_247_166, s_247_169, s_247_172, s_247_173, s_247_176, s_247_178, s_247_179, s_247_182, s_247_184, s_247_186, s_247_189, s_247_190, s_247_192, s_247_193, s_247_196, s_247_197, s_247_199, s_247_202, s_247_203, s_247_204, s_247_206, s_247_208, s_247_209, s_247_210, s_247_211, s_247_213, s_247_214, s_247_217, s_247_220, s_247_222, s_247_223, s_247_224, s_247_225, s_247_226, s_247_227, s_247_229, s_247_230, s_247_231, s_247_232, s_247_235, s_247_236, s_247_239, s_247_242, s_247_245, s_247_247, s_247_248, s_247_249, s_247_250, s_247_251, s_247_252, s_247_253, s_247_255, s_247_258, s_247_260, s_247_261, s_247_262, s_247_263, s_247_264, s_247_265, s_247_266, s_247_267, s_247_268, s_247_269, s_247_270, s_247_272, s_247_273, s_247_276, s_247_278, s_247_281, e_247, mv_i_1, mv_l_1, mv_a_1, mv_a_2, mv_a_3, mk2_n, mk2_i, mk2_l, mk2_a, mk2_u, mk2_x, mB_T, mB_F, mS_cons, mS_nil, mSB_T, mSB_F, mca_nil, mca_i, mca_l, mca_r, mca_u, mca_x, mcat_i, mcat_l, mcat_r, mcat_u, mcat_x, mK_some, mK_none, va_rf_s, va_rf_n, lgc_eq, lgc_lt, lgc_gt, lgc_ge, lgc_le, mrd_104, mrd_105, mrd_106, mrd_107, true_and, and_true, and_self, false_and, and_false, true_or, or_true, false_or, or_false, not_true_eq_false, not_false_eq_true, mgb, mga, mgr, mN, reduceCtorEq, ↓reduceIte, eq_self, ge_iff_le, gt_iff_lt, hk_si, hk_sj, hk_sr, hl_si, hl_sj, hl_sr, hn_si, hn_sj, hn_sr, hs_si, hs_sj, hs_sr, hi_sj, hi_sr, hj_si, hj_sr, hr_si, hr_sj, hi_si, hj_sj, hr_sr, mg_si, mg_sj, mg_sr, Nat.reduceAdd, Nat.reduceMul, Nat.reduceSub, Nat.reduceLT, Nat.reduceGT, Nat.reduceEqDiff, Nat.reduceLeDiff, Nat.left_eq_add, Nat.add_eq_left, Nat.reduceMod, Nat.reduceDiv, Nat.succ_ne_self, g, g0, g2, ec, e2, e3, j25, j26, show ((1 : Int32) = 0) = False by decide]
        rfl
      have gt5 : mg X5 to 13 := (RK_ko k5).1
      have gt6 : mg X6 to 13 := (RK_ko k6).1
      have gt7 : mg X7 to 13 := (RK_ko k7).1
      have c5 := R5.c
      have m5 := R5.m
      have hle : ((pg t false p false).length ≤ (pg t false p false).length) = True := eq_true (Nat.le_refl _)
      have ei : ∀ k, Int32.ofNat k + 1 = Int32.ofNat (k + 1) := fun k => nn_add (a := k) (b := 1)
      have e2x : ∀ k, (2 : Int32) * Int32.ofNat k = Int32.ofNat (2 * k) := fun k => nn_mul (a := 2) (b := k)
      rw [E0, set_own (d := d' + 4) R3 (by omega) Q, e4 Q]
      have E2 : ∀ ls9 ls11, mw (d' + 4) 247 Q 160 [some (.ref 115), some (.int (Int32.ofNat p)), some (.int (Int32.ofNat x)), some (.int (kb new)), some (.ref to), some (.long lo), none, some (.long hi), none, some (.int ls9), some (.int ls11), none] [] X4 = mw (d' + 4) 247 Q 163 [some (.ref 115), some (.int (Int32.ofNat p)), some (.int (Int32.ofNat x)), some (.int (kb new)), some (.ref to), some (.long lo), none, some (.long hi), none, some (.int ls9), some (.int (Int32.ofNat 0)), none] [] X4 := fun ls9 ls11 => by
        simp only [s_247_0, s_247_1, s_247_2, s_247_5, s_247_8, s_247_10, s_247_11, s_247_14, s_247_15, s_247_16, s_247_19, s_247_21, s_247_22, s_247_25, s_247_27, s_247_28, s_247_29, s_247_32, s_247_33, s_247_34, s_247_35, s_247_38, s_247_39, s_247_42, s_247_43, s_247_45, s_247_46, s_247_48, s_247_50, s_247_51, s_247_54, s_247_57, s_247_58, s_247_61, s_247_63, s_247_64, s_247_67, s_247_68, s_247_71, s_247_73, s_247_74, s_247_75, s_247_78, s_247_79, s_247_82, s_247_84, s_247_87, s_247_89, s_247_91, s_247_94, s_247_97, s_247_98, s_247_101, s_247_103, s_247_106, s_247_109, s_247_111, s_247_114, s_247_115, s_247_117, s_247_118, s_247_121, s_247_122, s_247_125, s_247_127, s_247_128, s_247_131, s_247_133, s_247_134, s_247_137, s_247_139, s_247_140, s_247_141, s_247_144, s_247_145, s_247_148, s_247_151, s_247_154, s_247_156, s_247_157, s_247_160, s_247_161, s_247_165, s_247_166, s_247_169, s_247_172, s_247_173, s_247_176, s_247_178, s_247_179, s_247_182, s_247_184, s_247_186, s_247_189, s_247_190, s_247_192, s_247_193, s_247_196, s_247_197, s_247_199, s_247_202, s_247_203, s_247_204, s_247_206, s_247_208, s_247_209, s_247_210, s_247_211, s_247_213, s_247_214, s_247_217, s_247_220, s_247_222, s_247_223, s_247_224, s_247_225, s_247_226, s_247_227, s_247_229, s_247_230, s_247_231, s_247_232, s_247_235, s_247_236, s_247_239, s_247_242, s_247_245, s_247_247, s_247_248, s_247_249, s_247_250, s_247_251, s_247_252, s_247_253, s_247_255, s_247_258, s_247_260, s_247_261, s_247_262, s_247_263, s_247_264, s_247_265, s_247_266, s_247_267, s_247_268, s_247_269, s_247_270, s_247_272, s_247_273, s_247_276, s_247_278, s_247_281, e_247, mv_i_1, mv_l_1, mv_a_1, mv_a_2, mv_a_3, mk2_n, mk2_i, mk2_l, mk2_a, mk2_u, mk2_x, mB_T, mB_F, mS_cons, mS_nil, mSB_T, mSB_F, mca_nil, mca_i, mca_l, mca_r, mca_u, mca_x, mcat_i, mcat_l, mcat_r, mcat_u, mcat_x, mK_some, mK_none, va_rf_s, va_rf_n, lgc_eq, lgc_lt, lgc_gt, lgc_ge, lgc_le, mrd_104, mrd_105, mrd_106, mrd_107, true_and, and_true, and_self, false_and, and_false, true_or, or_true, false_or, or_false, not_true_eq_false, not_false_eq_true, mgb, mga, mgr, mN, reduceCtorEq, ↓reduceIte, eq_self, ge_iff_le, gt_iff_lt]
        rfl
      rw [E2, e5 Q, s_247_163]
      clear al yy y58 P8 J8 f58 k8 k7' k7 k6 cond sl bT R5 s5 y5 P5 J5 k5 sN4 s4 y4 R4 P4 J4 k4 S fb1 fb2 R3 J3 J1 J0 J M kt kt0 kt1 kt3 kN kN0 kN1
      simp (disch := omega) only [s_247_0, s_247_1, s_247_2, s_247_5, s_247_8, s_247_10, s_247_11, s_247_14, s_247_15, s_247_16, s_247_19, s_247_21, s_247_22, s_247_25, s_247_27, s_247_28, s_247_29, s_247_32, s_247_33, s_247_34, s_247_35, s_247_38, s_247_39, s_247_42, s_247_43, s_247_45, s_247_46, s_247_48, s_247_50, s_247_51, s_247_54, s_247_57, s_247_58, s_247_61, s_247_63, s_247_64, s_247_67, s_247_68, s_247_71, s_247_73, s_247_74, s_247_75, s_247_78, s_247_79, s_247_82, s_247_84, s_247_87, s_247_89, s_247_91, s_247_94, s_247_97, s_247_98, s_247_101, s_247_103, s_247_106, s_247_109, s_247_111, s_247_114, s_247_115, s_247_117, s_247_118, s_247_121, s_247_122, s_247_125, s_247_127, s_247_128, s_247_131, s_247_133, s_247_134, s_247_137, s_247_139, s_247_140, s_247_141, s_247_144, s_247_145, s_247_148, s_247_151, s_247_154, s_247_156, s_247_157, s_247_160, s_247_161, s_247_165, s_247_166, s_247_169, s_247_172, s_247_173, s_247_176, s_247_178, s_247_179, s_247_182, s_247_184, s_247_186, s_247_189, s_247_190, s_247_192, s_247_193, s_247_196, s_247_197, s_247_199, s_247_202, s_247_203, s_247_204, s_247_206, s_247_208, s_247_209, s_247_210, s_247_211, s_247_213, s_247_214, s_247_217, s_247_220, s_247_222, s_247_223, s_247_224, s_247_225, s_247_226, s_247_227, s_247_229, s_247_230, s_247_231, s_247_232, s_247_235, s_247_236, s_247_239, s_247_242, s_247_245, s_247_247, s_247_248, s_247_249, s_247_250, s_247_251, s_247_252, s_247_253, s_247_255, s_247_258, s_247_260, s_247_261, s_247_262, s_247_263, s_247_264, s_247_265, s_247_266, s_247_267, s_247_268, s_247_269, s_247_270, s_247_272, s_247_273, s_247_276, s_247_278, s_247_281, e_247, mv_i_1, mv_l_1, mv_a_1, mv_a_2, mv_a_3, mk2_n, mk2_i, mk2_l, mk2_a, mk2_u, mk2_x, mB_T, mB_F, mS_cons, mS_nil, mSB_T, mSB_F, mca_nil, mca_i, mca_l, mca_r, mca_u, mca_x, mcat_i, mcat_l, mcat_r, mcat_u, mcat_x, mK_some, mK_none, va_rf_s, va_rf_n, lgc_eq, lgc_lt, lgc_gt, lgc_ge, lgc_le, mrd_104, mrd_105, mrd_106, mrd_107, true_and, and_true, and_self, false_and, and_false, true_or, or_true, false_or, or_false, not_true_eq_false, not_false_eq_true, mgb, mga, mgr, mN, reduceCtorEq, ↓reduceIte, eq_self, ge_iff_le, gt_iff_lt, Nat.reduceAdd, Nat.reduceMul, Nat.reduceSub, Nat.reduceLT, Nat.reduceGT, Nat.reduceEqDiff, Nat.reduceLeDiff, Nat.left_eq_add, Nat.add_eq_left, Nat.reduceMod, Nat.reduceDiv, Nat.succ_ne_self, g5, gt5, gt6, gt7, c5, nn_le, hle, e2x, ei, e6, e7, e8]
end STy
