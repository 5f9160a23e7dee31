set_option maxRecDepth 100000
/-! simple statements: var, array, set, return -/
abbrev SFi (G : pgm) (h h' : mh_H) (s0 s1 o T : Nat) (E' : nv) (D : fd) (w0 : wd) (s' : Option ab) (v : Int32) : Prop := (rq s0 (sV o T) h h') ∧ (RA h' s1 E' D w0) ∧ (RK h' o s') ∧ (mh_i h' o 2 = Int32.ofNat E'.ar) ∧ (mh_i h' 115 24 = v) ∧ (∀ q, cnQ G h q → cnQ G h' q)
theorem SFi.x {G : pgm} {h h' : mh_H} {s0 s1 o T : Nat} {E' : nv} {D : fd} {w0 : wd} {s' : Option ab} {v : Int32} (q : SFi G h h' s0 s1 o T E' D w0 s' v) : rq s0 (sV o T) h h' := q.1
theorem SFi.A {G : pgm} {h h' : mh_H} {s0 s1 o T : Nat} {E' : nv} {D : fd} {w0 : wd} {s' : Option ab} {v : Int32} (q : SFi G h h' s0 s1 o T E' D w0 s' v) : RA h' s1 E' D w0 := q.2.1
theorem SFi.k {G : pgm} {h h' : mh_H} {s0 s1 o T : Nat} {E' : nv} {D : fd} {w0 : wd} {s' : Option ab} {v : Int32} (q : SFi G h h' s0 s1 o T E' D w0 s' v) : RK h' o s' := q.2.2.1
theorem SFi.a {G : pgm} {h h' : mh_H} {s0 s1 o T : Nat} {E' : nv} {D : fd} {w0 : wd} {s' : Option ab} {v : Int32} (q : SFi G h h' s0 s1 o T E' D w0 s' v) : mh_i h' o 2 = Int32.ofNat E'.ar := q.2.2.2.1
theorem SFi.al {G : pgm} {h h' : mh_H} {s0 s1 o T : Nat} {E' : nv} {D : fd} {w0 : wd} {s' : Option ab} {v : Int32} (q : SFi G h h' s0 s1 o T E' D w0 s' v) : mh_i h' 115 24 = v := q.2.2.2.2.1
theorem SFi.c {G : pgm} {h h' : mh_H} {s0 s1 o T : Nat} {E' : nv} {D : fd} {w0 : wd} {s' : Option ab} {v : Int32} (q : SFi G h h' s0 s1 o T E' D w0 s' v) : ∀ q, cnQ G h q → cnQ G h' q := q.2.2.2.2.2
theorem RK_n {h : mh_H} {o n : Nat} {r : Option ab} (k : RK h o r) (e : ∀ A, r = some A → A.n = n) (hn : n ≤ 12) : RK (mh_si h o 1 (Int32.ofNat n)) o r := by
  cases r with
  | some A =>
    have k' : KM h o A := k
    have e1 : Int32.ofNat n = mh_i h o 1 := by rw [k'.n, e A rfl]
    rw [e1, si_id]; exact k
  | none =>
    have k' : KN h o := k
    exact ⟨k'.s, by rw [hi_si, if_neg (by omega)]; exact k'.z, ⟨n, hn, by rw [hi_si, if_pos ⟨rfl, rfl⟩]⟩, by
      obtain ⟨a, a1, a2⟩ := k'.a
      exact ⟨a, a1, by rw [hi_si, if_neg (by omega)]; exact a2⟩⟩
theorem RK_a {h : mh_H} {o n : Nat} {r : Option ab} (k : RK h o r) (e : ∀ A, r = some A → A.a = n) (hn : n ≤ 6) : RK (mh_si h o 2 (Int32.ofNat n)) o r := by
  cases r with
  | some A =>
    have k' : KM h o A := k
    have e1 : Int32.ofNat n = mh_i h o 2 := by rw [k'.a, e A rfl]
    rw [e1, si_id]; exact k
  | none =>
    have k' : KN h o := k
    exact ⟨k'.s, by rw [hi_si, if_neg (by omega)]; exact k'.z, by
      obtain ⟨a, a1, a2⟩ := k'.n
      exact ⟨a, a1, by rw [hi_si, if_neg (by omega)]; exact a2⟩, ⟨n, hn, by rw [hi_si, if_pos ⟨rfl, rfl⟩]⟩⟩
section SIs
variable {d : Nat} {h h1 : mh_H} {s0 s1 o b p k T : Nat} {E : nv} {D : fd} {w0 : wd} {s : Option ab} {G : pgm} {A : ab} {t : tr} {m : Nat} {u : Unit}
theorem ra_rs (A : RA h s1 E D w0) (s : sp h o) (x : rs (fun b _ => kc o b) h h1) (J1 : RJ h1 E.T E.sN E.en) : RA h1 s1 E D w0 ∧ rq s0 (sV o T) h h1 ∧ mh_r h1 115 23 = mh_r h 115 23 ∧ ∀ q, cnQ G h q → cnQ G h1 q := by
  have J := A.j
  have y := rq_rs (s0 := s0) J (vK_1 s) x
  have i11 := (rs_lo J (vK_1 s) x J.a.g (j := 11) (by omega) (by omega)).1
  exact ⟨RA_q A (vK_1 s) y J1 (i11.trans A.s), sV_v y (Nat.le_refl _) (fun b j w => Or.inl w), (rs_lo J (vK_1 s) x J.a.g (j := 23) (by omega) (by omega)).2.2, fun q w => cn_q A (vK_1 s) y w⟩
/-- a name is added -/
theorem ra_add (A : RA h s1 E D w0) (hT : E.T < 64) (ar : Bool) {c v : Nat} {E' : nv} (hc : c = if ar = true then 21 else 20) (hv : v = if ar = true then E.ar else E.nu) {w : Int} (hw : (mh_i h 95 k).toInt = w) (e1 : E'.T = E.T + 1) (e2 : E'.sN = fun y => y = w ∨ E.sN y) (e3 : E'.en = fun y => if y = w then v else E.en y) (e4 : E'.nu = if ar = true then E.nu else E.nu + 1) (e5 : E'.ar = if ar = true then E.ar + 1 else E.ar) (e6 : E'.fu = E.fu) (e7 : E'.ta = E.ta) (hk : k < 26000) : ∃ h', rq s0 (sV o E.T) h h' ∧ RA h' s1 E' D w0 ∧ (∀ x j, 2644 ≤ x → mh_i h' x j = mh_i h x j) ∧ (∀ x r, 2644 ≤ x → RK h x r → RK h' x r) ∧ mh_i h' 115 24 = mh_i h 115 24 ∧ mh_r h' = mh_r h ∧ mh_k h' = mh_k h ∧ mh_n h' = mh_n h ∧ (mh_i h' 95 = mh_i h 95) ∧ (∀ q, cnQ G h q → cnQ G h' q) ∧ mh_i h' 115 (if ar = true then 21 else 20) = Int32.ofNat (v + 1) ∧ ∀ Q, mcall d 230 [.ref 115, .int (Int32.ofNat k), .int (kb ar)] h Q = Q none h' := by
  have cc : c = 20 ∨ c = 21 := by rw [hc]; cases ar <;> simp
  have hv' : mh_i h 115 (if ar = true then 21 else 20) = Int32.ofNat v := by
    rw [hv]
    cases ar with
    | true => exact A.a
    | false => exact A.n
  have V' : EV (adH h E.T k c v (if ar = true then 1 else 0)) E'.T E'.sN E'.en := by
    rw [e1, e2, e3]
    exact ad_V A.V hT cc hw
  have i : ∀ j, ¬ (j = c ∨ j = 18) → mh_i (adH h E.T k c v (if ar = true then 1 else 0)) 115 j = mh_i h 115 j := fun j hj => ad_i ⟨by omega, by omega⟩
  have ic : mh_i (adH h E.T k c v (if ar = true then 1 else 0)) 115 c = Int32.ofNat (v + 1) := by
    unfold adH
    rw [hi_si, if_neg (by omega), hi_si, if_neg (by omega), hi_si, if_pos ⟨rfl, rfl⟩]
  have z : fz (fun b _ => b = 115 ∨ (121 ≤ b ∧ b ≤ 123)) h (adH h E.T k c v (if ar = true then 1 else 0)) := ⟨Nat.le_refl _, fun _ _ => ⟨rfl, rfl⟩, fun b j _ nb => ⟨ad_i ⟨by omega, by omega⟩, rfl, rfl⟩⟩
  refine ⟨adH h E.T k c v (if ar = true then 1 else 0), ?_, RA_put A rfl rfl rfl (fun _ _ _ => rfl) rfl (fun b j n1 n2 _ => ad_i ⟨by omega, by omega⟩) V' ((i 11 (by omega)).trans A.s) ?_ ?_ ((i 14 (by omega)).trans (by rw [e6]; exact A.f)) ((i 22 (by omega)).trans (by rw [e7]; exact A.t)) (i 34 (by omega)) (i 8 (by omega)) (i 9 (by omega)), fun x j hx => ad_i ⟨by omega, by omega⟩, fun x r hx kx => RK_fz z (fun y hy j w => by omega) kx, i 24 (by omega), rfl, rfl, rfl, funext fun j => ad_i ⟨by omega, by omega⟩, fun q w => cn_i w (fun b j hb => ad_i ⟨by omega, by omega⟩), by rw [← hc]; exact ic, fun Q => by rw [hc]; exact u_230 A.Z A.V hT hk ar hv' Q⟩
  · have nm : ∀ (X : mh_H) b (v : Int32), b = 121 ∨ b = 122 ∨ b = 123 → rq s0 (sV o E.T) X (mh_si X b E.T v) := fun X b v hb => sV_si (Or.inr (Or.inr (Or.inr (Or.inr (Or.inr (Or.inr (Or.inr (Or.inr (Or.inr (Or.inr ⟨hb, Nat.le_refl _⟩))))))))))
    exact rq_t (nm h 121 _ (by omega)) (rq_t (nm _ 123 _ (by omega)) (rq_t (sV_115 (by omega)) (rq_t (nm _ 122 _ (by omega)) (sV_115 (by omega)))))
  · rw [e4]
    cases ar with
    | true =>
      have : c = 21 := hc
      exact (i 20 (by omega)).trans A.n
    | false =>
      have e : c = 20 := hc
      have e' : v = E.nu := hv
      rw [e] at ic ⊢
      rw [ic, e']; rfl
  · rw [e5]
    cases ar with
    | true =>
      have e : c = 21 := hc
      have e' : v = E.ar := hv
      rw [e] at ic ⊢
      rw [ic, e']; rfl
    | false =>
      have : c = 20 := hc
      exact (i 21 (by omega)).trans A.a
/-- var: the new name, the state's field -/
theorem var_t (A : RA h s1 E D w0) (lo : sp h o) (hT : E.T < 64) (hn : E.nu < 12) {w : Int} (hw : (mh_i h 95 (k + 1)).toInt = w) (hk : k + 1 < 26000) (c : RK h o s) (cn : ∀ A, s = some A → A.n = E.nu + 1) {x3 x5 x6 x7 : Option Value} : ∃ h', rq s0 (sV o E.T) h h' ∧ RA h' s1 (E.addN w) D w0 ∧ RK h' o s ∧ mh_i h' o 2 = mh_i h o 2 ∧ mh_i h' 115 24 = mh_i h 115 24 ∧ (∀ q, cnQ G h q → cnQ G h' q) ∧ ∀ Q, mw (d + 1) 262 Q 148 [some (.ref 115), some (.int (Int32.ofNat k)), some (.ref o), x3, some (.int (Int32.ofNat s0)), x5, x6, x7] [] h = mw (d + 1) 262 Q 332 [some (.ref 115), some (.int (Int32.ofNat k)), some (.ref o), x3, some (.int (Int32.ofNat s0)), x5, x6, x7] [] h' := by
  have l44 := sp_lo A.j lo
  obtain ⟨h1, x, A1, oi, oK, a24, er, ek, en', -, cq, i20, run⟩ := ra_add (d := d) (s0 := s0) (o := o) (G := G) A hT false (c := 20) (v := E.nu) (E' := E.addN w) (k := k + 1) rfl rfl hw rfl rfl rfl rfl rfl rfl rfl hk
  have sp1 : sp h1 o := by unfold sp; rw [er]; exact lo
  have go1 : mg h1 o 13 := (RK_ko (oK o s l44 c)).1
  have kk := RK_n (n := E.nu + 1) (oK o s l44 c) cn (by omega)
  have f1 : fq (kW o) h1 (mh_si h1 o 1 (Int32.ofNat (E.nu + 1))) := fq_si kW0
  have A2 := ra_k A1 sp1 f1 (RK_ko kk)
  refine ⟨mh_si h1 o 1 (Int32.ofNat (E.nu + 1)), rq_t x (sV_k A1 sp1 f1), A2, kk, by rw [hi_si, if_neg (by omega), oi o 2 l44], by rw [hi_si, if_neg (by omega), a24], fun q z => cn_i (cq q z) (fun b j hb => by rw [hi_si, if_neg (by omega)]), fun Q => ?_⟩
  have g := A.j.a.g
  have g1 := A1.j.a.g
  have e1' : ∀ k, Int32.ofNat k + 1 = Int32.ofNat (k + 1) := fun k => nn_add (a := k) (b := 1)
  have k0 : kb false = 0 := rfl
  rw [k0] at run
  have i20' : mh_i h1 115 20 = Int32.ofNat (E.nu + 1) := i20
  clear A A1 A2 oi oK cq kk c cn x
  simp (disch := omega) only [s_262_0, s_262_1, s_262_4, s_262_6, s_262_7, s_262_8, s_262_11, s_262_11n, s_262_13, s_262_14, s_262_16, s_262_16n, s_262_19, s_262_20, s_262_23, s_262_24, s_262_25, s_262_72, s_262_73, s_262_76, s_262_78, s_262_79, s_262_82, s_262_83, s_262_86, s_262_87, s_262_88, s_262_89, s_262_92, s_262_93, s_262_94, s_262_95, s_262_96, s_262_98, s_262_99, s_262_100, s_262_103, s_262_106, s_262_107, s_262_110, s_262_111, s_262_114, s_262_115, s_262_116, s_262_118, s_262_119, s_262_120, s_262_122, s_262_123, s_262_124, s_262_127, s_262_128, s_262_129, s_262_131, s_262_132, s_262_133, s_262_134, s_262_135, s_262_137, s_262_138, s_262_139, s_262_140, s_262_141, s_262_144, s_262_145, s_262_148, s_262_149, s_262_150, s_262_151, s_262_152, s_262_153, s_262_156, s_262_157, s_262_158, s_262_161, s_262_164, s_262_167, s_262_168, s_262_169, s_262_172, s_262_173, s_262_174, s_262_175, s_262_176, s_262_179, s_262_180, s_262_181, s_262_182, s_262_183, s_262_184, s_262_187, s_262_188, s_262_189, s_262_192, s_262_195, s_262_198, s_262_199, s_262_202, s_262_203, s_262_204, s_262_205, s_262_206, s_262_207, s_262_208, s_262_209, s_262_210, s_262_213, s_262_214, s_262_215, s_262_218, s_262_221, s_262_222, s_262_225, s_262_226, s_262_227, s_262_228, s_262_231, s_262_234, s_262_235, s_262_238, s_262_239, s_262_242, s_262_242n, s_262_244, s_262_245, s_262_246, s_262_247, s_262_248, s_262_250, s_262_251, s_262_253, s_262_256, s_262_257, s_262_258, s_262_261, s_262_263, s_262_266, s_262_269, s_262_270, s_262_273, s_262_275, s_262_276, s_262_279, s_262_282, s_262_283, s_262_286, s_262_287, s_262_290, s_262_293, s_262_294, s_262_295, s_262_296, s_262_297, s_262_298, s_262_301, s_262_302, s_262_303, s_262_306, s_262_309, s_262_310, s_262_313, s_262_314, s_262_315, s_262_316, s_262_317, s_262_318, s_262_321, s_262_324, s_262_325, s_262_328, s_262_329, s_262_333, s_262_335, s_262_338, e_262, mv_i_1, mv_l_1, mv_a_1, mv_a_2, mv_a_3, mk2_n, mk2_i, mk2_l, mk2_a, mk2_u, mk2_x, mB_T, mB_F, mS_cons, mS_nil, mSB_T, mSB_F, mca_nil, mca_i, mca_l, mca_r, mca_u, mca_x, mcat_i, mcat_l, mcat_r, mcat_u, mcat_x, mK_some, mK_none, va_rf_s, va_rf_n, lgc_eq, lgc_lt, lgc_gt, lgc_ge, lgc_le, mrd_104, mrd_105, mrd_106, mrd_107, true_and, and_true, and_self, false_and, and_false, true_or, or_true, false_or, or_false, not_true_eq_false, not_false_eq_true, mgb, mga, mgr, mN, reduceCtorEq, ↓reduceIte, eq_self, ge_iff_le, gt_iff_lt, Nat.reduceAdd, Nat.reduceMul, Nat.reduceSub, Nat.reduceLT, Nat.reduceGT, Nat.reduceEqDiff, Nat.reduceLeDiff, Nat.left_eq_add, Nat.add_eq_left, Nat.reduceMod, Nat.reduceDiv, Nat.succ_ne_self, g, g1, go1, run, e1', i20']
/-- array: the new name, the state's field -/
theorem arr_t (A : RA h s1 E D w0) (lo : sp h o) (hT : E.T < 64) (hn : E.ar < 6) {w : Int} {sz : Nat} (hw : (mh_i h 95 (k + 1)).toInt = w) (hz : mh_i h 95 (k + 2) = Int32.ofNat sz) (hk : k + 2 < 26000) (c : RK h o s) (a2 : mh_i h o 2 = Int32.ofNat E.ar) (cn : ∀ A, s = some A → A.a = E.ar) {x3 x5 x6 x7 : Option Value} : ∃ h', rq s0 (sV o E.T) h h' ∧ RA h' s1 (E.addA w sz) D w0 ∧ RK h' o (o_arr sz s) ∧ mh_i h' o 2 = Int32.ofNat (E.ar + 1) ∧ mh_i h' 115 24 = mh_i h 115 24 ∧ (∀ q, cnQ G h q → cnQ G h' q) ∧ ∀ Q, mw (d + 1) 262 Q 167 [some (.ref 115), some (.int (Int32.ofNat k)), some (.ref o), x3, some (.int (Int32.ofNat s0)), x5, x6, x7] [] h = mw (d + 1) 262 Q 332 [some (.ref 115), some (.int (Int32.ofNat k)), some (.ref o), x3, some (.int (Int32.ofNat s0)), x5, x6, x7] [] h' := by
  have l44 := sp_lo A.j lo
  have J := A.j
  obtain ⟨h0, f0, k0, a20, run0⟩ := k_289x (d := d) (x := sz) c a2 hn
  have A0 := ra_k A lo f0 (RK_ko k0)
  have x0 : rq s0 (sV o E.T) h h0 := by
    obtain ⟨i, hi⟩ := lo
    exact sV_v (rq_rs (s0 := s0) J (vK_1 ⟨i, hi⟩) (rs_k f0)) (Nat.le_refl _) (fun b j w => Or.inl w)
  have sp0 : sp h0 o := by unfold sp; rw [f0.2.2.1]; exact lo
  have r95 : mh_i h0 95 = mh_i h 95 := (rs_tr J (vK_1 lo) (rs_k f0)).2.1
  obtain ⟨h1, x, A1, oi, oK, a24, er, ek, en', -, cq, i21, run⟩ := ra_add (d := d) (s0 := s0) (o := o) (G := G) A0 hT true (c := 21) (v := E.ar) (E' := E.addA w sz) (k := k + 1) rfl rfl (w := w) (by rw [r95]; exact hw) rfl rfl rfl rfl rfl rfl rfl (by omega)
  have sp1 : sp h1 o := by unfold sp; rw [er]; exact sp0
  have go1 : mg h1 o 13 := (RK_ko (oK o _ l44 k0)).1
  have kk := RK_a (n := E.ar + 1) (oK o _ l44 k0) (fun A' e => by
    cases s with
    | none => cases e
    | some A =>
      have e' : a_arr sz A = A' := by injection e
      rw [← e']
      show A.a + 1 = _
      rw [cn A rfl]) (by omega)
  have f1 : fq (kW o) h1 (mh_si h1 o 2 (Int32.ofNat (E.ar + 1))) := fq_si kW0
  have A2 := ra_k A1 sp1 f1 (RK_ko kk)
  have c0 : ∀ q, cnQ G h q → cnQ G h0 q := fun q w => cn_q A (vK_1 lo) (rq_rs (s0 := s0) J (vK_1 lo) (rs_k f0)) w
  refine ⟨mh_si h1 o 2 (Int32.ofNat (E.ar + 1)), rq_t x0 (rq_t x (sV_k A1 sp1 f1)), A2, kk, by rw [hi_si, if_pos ⟨rfl, rfl⟩], by rw [hi_si, if_neg (by omega), a24, rs_ij J lo f0], fun q z => cn_i (cq q (c0 q z)) (fun b j hb => by rw [hi_si, if_neg (by omega)]), fun Q => ?_⟩
  have g := A.j.a.g
  have g0 := A0.j.a.g
  have g1 := A1.j.a.g
  have go := (RK_ko c).1
  have r1 := J.a.r1
  have gV := J.a.F.g 95 100 26000 (by decide +kernel)
  have lV := J.a.F.l 95 100 26000 (by decide +kernel)
  have e1' : ∀ k, Int32.ofNat k + 1 = Int32.ofNat (k + 1) := fun k => nn_add (a := k) (b := 1)
  have e2' : ∀ k, Int32.ofNat k + 2 = Int32.ofNat (k + 2) := fun k => nn_add (a := k) (b := 2)
  have k1 : kb true = 1 := rfl
  rw [k1] at run
  have i21' : mh_i h1 115 21 = Int32.ofNat (E.ar + 1) := i21
  clear A A1 A2 oi oK cq kk c cn x x0 A0 J c0 k0
  simp (disch := omega) only [s_262_0, s_262_1, s_262_4, s_262_6, s_262_7, s_262_8, s_262_11, s_262_11n, s_262_13, s_262_14, s_262_16, s_262_16n, s_262_19, s_262_20, s_262_23, s_262_24, s_262_25, s_262_72, s_262_73, s_262_76, s_262_78, s_262_79, s_262_82, s_262_83, s_262_86, s_262_87, s_262_88, s_262_89, s_262_92, s_262_93, s_262_94, s_262_95, s_262_96, s_262_98, s_262_99, s_262_100, s_262_103, s_262_106, s_262_107, s_262_110, s_262_111, s_262_114, s_262_115, s_262_116, s_262_118, s_262_119, s_262_120, s_262_122, s_262_123, s_262_124, s_262_127, s_262_128, s_262_129, s_262_131, s_262_132, s_262_133, s_262_134, s_262_135, s_262_137, s_262_138, s_262_139, s_262_140, s_262_141, s_262_144, s_262_145, s_262_148, s_262_149, s_262_150, s_262_151, s_262_152, s_262_153, s_262_156, s_262_157, s_262_158, s_262_161, s_262_164, s_262_167, s_262_168, s_262_169, s_262_172, s_262_173, s_262_174, s_262_175, s_262_176, s_262_179, s_262_180, s_262_181, s_262_182, s_262_183, s_262_184, s_262_187, s_262_188, s_262_189, s_262_192, s_262_195, s_262_198, s_262_199, s_262_202, s_262_203, s_262_204, s_262_205, s_262_206, s_262_207, s_262_208, s_262_209, s_262_210, s_262_213, s_262_214, s_262_215, s_262_218, s_262_221, s_262_222, s_262_225, s_262_226, s_262_227, s_262_228, s_262_231, s_262_234, s_262_235, s_262_238, s_262_239, s_262_242, s_262_242n, s_262_244, s_262_245, s_262_246, s_262_247, s_262_248, s_262_250, s_262_251, s_262_253, s_262_256, s_262_257, s_262_258, s_262_261, s_262_263, s_262_266, s_262_269, s_262_270, s_262_273, s_262_275, s_262_276, s_262_279, s_262_282, s_262_283, s_262_286, s_262_287, s_262_290, s_262_293, s_262_294, s_262_295, s_262_296, s_262_297, s_262_298, s_262_301, s_262_302, s_262_303, s_262_306, s_262_309, s_262_310, s_262_313, s_262_314, s_262_315, s_262_316, s_262_317, s_262_318, s_262_321, s_262_324, s_262_325, s_262_328, s_262_329, s_262_333, s_262_335, s_262_338, e_262, mv_i_1, mv_l_1, mv_a_1, mv_a_2, mv_a_3, mk2_n, mk2_i, mk2_l, mk2_a, mk2_u, mk2_x, mB_T, mB_F, mS_cons, mS_nil, mSB_T, mSB_F, mca_nil, mca_i, mca_l, mca_r, mca_u, mca_x, mcat_i, mcat_l, mcat_r, mcat_u, mcat_x, mK_some, mK_none, va_rf_s, va_rf_n, lgc_eq, lgc_lt, lgc_gt, lgc_ge, lgc_le, mrd_104, mrd_105, mrd_106, mrd_107, true_and, and_true, and_self, false_and, and_false, true_or, or_true, false_or, or_false, not_true_eq_false, not_false_eq_true, mgb, mga, mgr, mN, reduceCtorEq, ↓reduceIte, eq_self, ge_iff_le, gt_iff_lt, Nat.reduceAdd, Nat.reduceMul, Nat.reduceSub, Nat.reduceLT, Nat.reduceGT, Nat.reduceEqDiff, Nat.reduceLeDiff, Nat.left_eq_add, Nat.add_eq_left, Nat.reduceMod, Nat.reduceDiv, Nat.succ_ne_self, g, g0, g1, go, go1, run0, run, r1, gV, lV, hz, e1', e2', i21', nn_mxT, nn_clamp]
end SIs
