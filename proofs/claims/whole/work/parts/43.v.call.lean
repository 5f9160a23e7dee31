set_option maxRecDepth 100000
/-! statement: call -/
section CAs
variable {d : Nat} {hs h h1 h2 : mh_H} {s0 s1 sA o b p k T f g kE : Nat} {E E1 : nv} {D : fd} {w0 w1 : wd} {s O : Option ab} {G : pgm} {J : pin} {A : ab} {nx' : Int32}
/-- names and slots as they were -/
theorem ra_back (A0 : RA hs sA E D w1) (lo : 2644 ≤ o) (x : rq s0 (sV o E.T) hs h) (A1 : RA h s1 E1 D w0) (ek : mh_k h1 = mh_k h) (el : mh_l h1 = mh_l h) (en' : mh_n h1 = mh_n h) (er : mh_r h1 = mh_r h) (ej : mh_j h1 = mh_j h) (ei : ∀ b j, ¬ b = 115 → mh_i h1 b j = mh_i h b j) (i18 : mh_i h1 115 18 = Int32.ofNat E.T) (i20 : mh_i h1 115 20 = Int32.ofNat E.nu) (i21 : mh_i h1 115 21 = Int32.ofNat E.ar) (i14 : mh_i h1 115 14 = Int32.ofNat E.fu) (i22 : mh_i h1 115 22 = tkV E.ta) (i11 : mh_i h1 115 11 = mh_i h 115 11) (i34 : mh_i h1 115 34 = mh_i h 115 34) (i8 : mh_i h1 115 8 = mh_i h 115 8) (i9 : mh_i h1 115 9 = mh_i h 115 9) : RA h1 s1 E D w0 := by
  have J0 := A0.j
  have g121 := J0.a.F.g 121 100 64 (by decide +kernel)
  have g122 := J0.a.F.g 122 100 64 (by decide +kernel)
  exact RA_put A1 ek el en' (fun b j _ => by rw [er]) ej (fun b j n1 _ _ => ei b j n1) (EV_same A0.V (i18.trans A0.V.t.symm) (fun j hj => (ei _ _ (by omega)).trans (sV_lo J0 lo x g121 (by omega) (by omega) (fun _ => hj)).1) (fun j hj => (ei _ _ (by omega)).trans (sV_lo J0 lo x g122 (by omega) (by omega) (fun _ => hj)).1)) (i11.trans A1.s) i20 i21 i14 i22 i34 i8 i9
end CAs
/-- what stands in the SUMs of a call -/
def CAi (h : mh_H) (s0 o b : Nat) (E : nv) (D : fd) (w0 : wd) (A : ab) (O : Option ab) (x : Nat) (al : Int32) : Prop := (RA h (s0 + 1) E D w0) ∧ (lv h s0 o) ∧ (mh_r h 119 s0 = some b) ∧ (b ≠ o) ∧ (mh_r h 115 23 = some b) ∧ (RK h o O) ∧ (O ≠ none → RK h b (some A) ∧ shp E.nu E.ar E.rm (some A)) ∧ (∀ B, O = some B → ab_T B ∧ B.n = x ∧ B.a = A.a ∧ B.rm = A.rm) ∧ (mh_i h o 2 = Int32.ofNat E.ar) ∧ (mh_i h 115 24 = al)
theorem CAi.of {h : mh_H} {s0 o b : Nat} {E : nv} {D : fd} {w0 : wd} {A : ab} {O : Option ab} {x : Nat} {al : Int32} (q : (RA h (s0 + 1) E D w0) ∧ (lv h s0 o) ∧ (mh_r h 119 s0 = some b) ∧ (b ≠ o) ∧ (mh_r h 115 23 = some b) ∧ (RK h o O) ∧ (O ≠ none → RK h b (some A) ∧ shp E.nu E.ar E.rm (some A)) ∧ (∀ B, O = some B → ab_T B ∧ B.n = x ∧ B.a = A.a ∧ B.rm = A.rm) ∧ (mh_i h o 2 = Int32.ofNat E.ar) ∧ (mh_i h 115 24 = al)) : CAi h s0 o b E D w0 A O x al := q
theorem CAi.R {h : mh_H} {s0 o b : Nat} {E : nv} {D : fd} {w0 : wd} {A : ab} {O : Option ab} {x : Nat} {al : Int32} (q : CAi h s0 o b E D w0 A O x al) : RA h (s0 + 1) E D w0 := q.1
theorem CAi.l {h : mh_H} {s0 o b : Nat} {E : nv} {D : fd} {w0 : wd} {A : ab} {O : Option ab} {x : Nat} {al : Int32} (q : CAi h s0 o b E D w0 A O x al) : lv h s0 o := q.2.1
theorem CAi.e {h : mh_H} {s0 o b : Nat} {E : nv} {D : fd} {w0 : wd} {A : ab} {O : Option ab} {x : Nat} {al : Int32} (q : CAi h s0 o b E D w0 A O x al) : mh_r h 119 s0 = some b := q.2.2.1
theorem CAi.ne {h : mh_H} {s0 o b : Nat} {E : nv} {D : fd} {w0 : wd} {A : ab} {O : Option ab} {x : Nat} {al : Int32} (q : CAi h s0 o b E D w0 A O x al) : b ≠ o := q.2.2.2.1
theorem CAi.r {h : mh_H} {s0 o b : Nat} {E : nv} {D : fd} {w0 : wd} {A : ab} {O : Option ab} {x : Nat} {al : Int32} (q : CAi h s0 o b E D w0 A O x al) : mh_r h 115 23 = some b := q.2.2.2.2.1
theorem CAi.k {h : mh_H} {s0 o b : Nat} {E : nv} {D : fd} {w0 : wd} {A : ab} {O : Option ab} {x : Nat} {al : Int32} (q : CAi h s0 o b E D w0 A O x al) : RK h o O := q.2.2.2.2.2.1
theorem CAi.kb {h : mh_H} {s0 o b : Nat} {E : nv} {D : fd} {w0 : wd} {A : ab} {O : Option ab} {x : Nat} {al : Int32} (q : CAi h s0 o b E D w0 A O x al) : O ≠ none → RK h b (some A) ∧ shp E.nu E.ar E.rm (some A) := q.2.2.2.2.2.2.1
theorem CAi.ok {h : mh_H} {s0 o b : Nat} {E : nv} {D : fd} {w0 : wd} {A : ab} {O : Option ab} {x : Nat} {al : Int32} (q : CAi h s0 o b E D w0 A O x al) : ∀ B, O = some B → ab_T B ∧ B.n = x ∧ B.a = A.a ∧ B.rm = A.rm := q.2.2.2.2.2.2.2.1
theorem CAi.a2 {h : mh_H} {s0 o b : Nat} {E : nv} {D : fd} {w0 : wd} {A : ab} {O : Option ab} {x : Nat} {al : Int32} (q : CAi h s0 o b E D w0 A O x al) : mh_i h o 2 = Int32.ofNat E.ar := q.2.2.2.2.2.2.2.2.1
theorem CAi.a24 {h : mh_H} {s0 o b : Nat} {E : nv} {D : fd} {w0 : wd} {A : ab} {O : Option ab} {x : Nat} {al : Int32} (q : CAi h s0 o b E D w0 A O x al) : mh_i h 115 24 = al := q.2.2.2.2.2.2.2.2.2
noncomputable def o_st (en : Int → Nat) (A : ab) (t : tr) : Option ab → Option ab
  | none => none
  | some B => a_set en A B B.n true t
noncomputable def al_st (en : Int → Nat) (A : ab) (t : tr) : Option ab → Int32
  | none => 0
  | some _ => (ev en A t none).2
section CBs
variable {d : Nat} {hs h h1 h2 : mh_H} {s0 s1 sA o b p k kN z x T f g kE : Nat} {E E1 : nv} {D : fd} {w0 w1 : wd} {s O : Option ab} {G : pgm} {J : pin} {A : ab} {nx' : Int32} {t cs r : tr} {m : Nat} {al : Int32}
theorem call_B {en : Int → Nat} : a_call en A (.branch m cs r) O = ((a_call en A r (o_st en A (.branch m cs r) O)).1, al_st en A (.branch m cs r) O ||| (a_call en A r (o_st en A (.branch m cs r) O)).2) := by
  cases O with
  | none =>
    show (none, 0) = _
    unfold o_st al_st
    dsimp only
    rw [call_n]
    rfl
  | some B => rfl
/-- one SUM -/
theorem call_1 (S : CAi h s0 o b E D w0 A O x al) (hS : eSm E (.branch m cs r)) (n : nd (mh_i h 93) (mh_i h 95) (mh_i h 97) k (.branch m cs r)) (hb : k + ts (.branch m cs r) ≤ 26000) (hkN : kN < 26000) (hz : mh_i h 97 kN = Int32.ofNat z) (hz2 : kN + z ≤ 26000) (hk : k < kN + z) (hx : x < 12) (hnu : E.nu ≤ x) (hd : 700 ≤ d) {x2 x3 x5 x6 x7 x8 x9 : Option Value} {n10 : Int32} : ∃ h', rq s0 (sV o E.T) h h' ∧ CAi h' s0 o b E D w0 A (o_st E.en A (.branch m cs r) O) (x + 1) (al ||| al_st E.en A (.branch m cs r) O) ∧ (mh_i h' 93 = mh_i h 93 ∧ mh_i h' 95 = mh_i h 95 ∧ mh_i h' 97 = mh_i h 97) ∧ (∀ q, cnQ G h q → cnQ G h' q) ∧ mh_i h' 115 35 = mh_i h 115 35 ∧ ∀ Q, mw (d + 1) 265 Q 77 [some (.ref 115), some (.int (Int32.ofNat kN)), x2, x3, some (.ref o), x5, x6, x7, x8, x9, some (.int n10), some (.int (Int32.ofNat x)), some (.int (Int32.ofNat k)), none, none, none, none, none, none] [] h = mw (d + 1) 265 Q 77 [some (.ref 115), some (.int (Int32.ofNat kN)), x2, x3, some (.ref o), x5, x6, x7, x8, x9, some (.int n10), some (.int (Int32.ofNat (x + 1))), some (.int (Int32.ofNat (k + 1 + ts cs))), none, none, none, none, none, none] [] h' := by
  have J := S.R.j
  have so := lv_sp S.l
  have lo := sp_lo J so
  have sb : sp h b := ⟨_, S.e⟩
  have lob := sp_lo J sb
  have g := J.a.g
  have n3 := n.2.2.1
  have c0 := u_228 (d := d) J.a hkN hz
  have le : (kN + z ≤ k) = False := eq_false (by omega)
  have lt : (k < kN + z) = True := eq_true hk
  have e1' : ∀ k, Int32.ofNat k + 1 = Int32.ofNat (k + 1) := fun k => nn_add (a := k) (b := 1)
  have e10 : ((1 : Int32) = 0) = False := by decide
  have e00 : ((0 : Int32) = 0) = True := by decide
  rw [ts_B] at hb
  have e3 : k + (1 + ts cs) = k + 1 + ts cs := by omega
  have fin : ∀ h1, RA h1 (s0 + 1) E D w0 → RK h1 o (o_st E.en A (.branch m cs r) O) → (∀ B, o_st E.en A (.branch m cs r) O = some B → ab_T B ∧ B.n = x + 1 ∧ B.a = A.a ∧ B.rm = A.rm) → rq s0 (sV o E.T) h h1 → mh_r h1 115 23 = some b → mh_r h1 119 s0 = some b → lv h1 s0 o → (O ≠ none → RK h1 b (some A)) → mh_i h1 o 2 = Int32.ofNat E.ar → mh_i h1 115 24 = al ||| al_st E.en A (.branch m cs r) O → (mh_i h1 93 = mh_i h 93 ∧ mh_i h1 95 = mh_i h 95 ∧ mh_i h1 97 = mh_i h 97) → (∀ q, cnQ G h q → cnQ G h1 q) → rq s0 (sV o E.T) h (mh_si h1 o 1 (Int32.ofNat (x + 1))) ∧ CAi (mh_si h1 o 1 (Int32.ofNat (x + 1))) s0 o b E D w0 A (o_st E.en A (.branch m cs r) O) (x + 1) (al ||| al_st E.en A (.branch m cs r) O) ∧ (mh_i (mh_si h1 o 1 (Int32.ofNat (x + 1))) 93 = mh_i h 93 ∧ mh_i (mh_si h1 o 1 (Int32.ofNat (x + 1))) 95 = mh_i h 95 ∧ mh_i (mh_si h1 o 1 (Int32.ofNat (x + 1))) 97 = mh_i h 97) ∧ (∀ q, cnQ G h q → cnQ G (mh_si h1 o 1 (Int32.ofNat (x + 1))) q) := fun h1 R1 k1 ok1 x1 r1 e1 l1 kb1 a1 al1 ⟨t1, t2, t3⟩ c1 => by
    have so1 := lv_sp l1
    have f1 : fq (kW o) h1 (mh_si h1 o 1 (Int32.ofNat (x + 1))) := fq_si kW0
    have k2 := RK_n (n := x + 1) k1 (fun B e => (ok1 B e).2.1) (by omega)
    have q1 : ∀ c, c ≠ o → mh_i (mh_si h1 o 1 (Int32.ofNat (x + 1))) c = mh_i h1 c := fun c nc => funext fun j => by rw [hi_si, if_neg (fun z => nc z.1)]
    refine ⟨rq_t x1 (sV_k R1 so1 f1), CAi.of ⟨ra_k R1 so1 f1 (RK_ko k2), l1, e1, S.ne, r1, k2, fun hO => ?_, ok1, by rw [hi_si, if_neg (by omega)]; exact a1, by rw [hi_si, if_neg (by omega)]; exact al1⟩, ⟨(q1 93 (by omega)).trans t1, (q1 95 (by omega)).trans t2, (q1 97 (by omega)).trans t3⟩, fun q w => cn_k R1 so1 f1 (c1 q w)⟩
    have hO' : O ≠ none := fun z => hO (by rw [z]; rfl)
    exact ⟨ra_o R1 so1 ⟨_, e1⟩ S.ne f1 (kb1 hO'), (S.kb hO').2⟩
  cases O with
  | none =>
    have or0 : al ||| al_st E.en A (.branch m cs r) none = al := i32_or0 al
    obtain ⟨o1, o2, o3, o4⟩ := fin h S.R S.k (fun B e => by cases e) rq_id S.r S.e S.l (fun z => absurd rfl z) S.a2 (by rw [or0]; exact S.a24) ⟨rfl, rfl, rfl⟩ (fun _ w => w)
    refine ⟨_, o1, o2, o3, o4, by rw [hi_si, if_neg (by omega)], fun Q => ?_⟩
    have z1 : mh_i h o 0 = 1 := KN.z S.k
    have go := (RK_ko S.k).1
    have cA := u_228 (d := d) o2.R.j.a (k := k) (z := 1 + ts cs) (by omega) (by rw [o3.2.2]; exact n3)
    rw [e3] at cA
    have g2 := o2.R.j.a.g
    clear fin S o1 o2 o3 o4 J n hS
    rw [s_265_77]
    simp (disch := omega) only [s_265_0, s_265_1, s_265_2, s_265_4, s_265_7, s_265_9, s_265_10, s_265_13, s_265_15, s_265_16, s_265_18, s_265_21, s_265_21n, s_265_23, s_265_24, s_265_26, s_265_26n, s_265_29, s_265_30, s_265_31, s_265_34, s_265_36, s_265_37, s_265_40, s_265_41, s_265_42, s_265_43, s_265_44, s_265_46, s_265_49, s_265_50, s_265_51, s_265_52, s_265_53, s_265_56, s_265_59, s_265_60, s_265_62, s_265_63, s_265_66, s_265_68, s_265_70, s_265_72, s_265_73, s_265_74, s_265_75, s_265_79, s_265_80, s_265_81, s_265_84, s_265_87, s_265_89, s_265_92, s_265_95, s_265_96, s_265_98, s_265_100, s_265_101, s_265_103, s_265_106, s_265_109, s_265_111, s_265_113, s_265_116, s_265_117, s_265_119, s_265_122, s_265_124, s_265_127, s_265_128, s_265_129, s_265_132, s_265_133, s_265_136, s_265_138, s_265_139, s_265_142, s_265_144, s_265_145, s_265_148, s_265_150, s_265_151, s_265_154, s_265_156, s_265_157, s_265_159, s_265_162, s_265_164, s_265_165, s_265_167, s_265_170, s_265_172, s_265_173, s_265_174, s_265_176, s_265_179, s_265_180, s_265_181, s_265_182, s_265_185, s_265_186, s_265_188, s_265_191, s_265_192, s_265_194, s_265_197, s_265_198, s_265_199, s_265_202, s_265_205, s_265_206, s_265_208, s_265_211, s_265_212, s_265_215, s_265_217, s_265_218, s_265_219, s_265_220, s_265_222, s_265_224, s_265_226, s_265_229, s_265_230, s_265_232, s_265_233, s_265_236, s_265_239, s_265_242, s_265_243, s_265_245, s_265_246, s_265_247, s_265_248, s_265_249, s_265_251, s_265_254, s_265_255, s_265_257, s_265_260, s_265_261, s_265_263, s_265_266, s_265_267, s_265_269, s_265_272, s_265_273, s_265_275, s_265_278, s_265_279, s_265_281, s_265_284, s_265_286, s_265_288, s_265_289, s_265_292, s_265_295, s_265_296, s_265_298, s_265_301, e_265, mv_i_1, mv_l_1, mv_a_1, mv_a_2, mv_a_3, mk2_n, mk2_i, mk2_l, mk2_a, mk2_u, mk2_x, mB_T, mB_F, mS_cons, mS_nil, mSB_T, mSB_F, mca_nil, mca_i, mca_l, mca_r, mca_u, mca_x, mcat_i, mcat_l, mcat_r, mcat_u, mcat_x, mK_some, mK_none, va_rf_s, va_rf_n, lgc_eq, lgc_lt, lgc_gt, lgc_ge, lgc_le, mrd_104, mrd_105, mrd_106, mrd_107, true_and, and_true, and_self, false_and, and_false, true_or, or_true, false_or, or_false, not_true_eq_false, not_false_eq_true, mgb, mga, mgr, mN, reduceCtorEq, ↓reduceIte, eq_self, ge_iff_le, gt_iff_lt, Nat.reduceAdd, Nat.reduceMul, Nat.reduceSub, Nat.reduceLT, Nat.reduceGT, Nat.reduceEqDiff, Nat.reduceLeDiff, Nat.left_eq_add, Nat.add_eq_left, Nat.reduceMod, Nat.reduceDiv, Nat.succ_ne_self, g, g2, go, c0, nn_le, nn_lt, le, lt, z1, e10, e1', cA]
  | some B =>
    obtain ⟨kbA, sh⟩ := S.kb (fun z => by cases z)
    obtain ⟨T', a1, a2, a3⟩ := sh A rfl
    obtain ⟨TB, b1, b2, b3⟩ := S.ok B rfl
    have hth := hS.2.2.2
    have M := eSm_M hS sh n (by rw [ts_B]; omega)
    obtain ⟨h1, y, J1, k1, al1, run⟩ := u_247 (d := d) (x := x) (new := true) J M so sb S.ne S.r kbA T' S.k TB (by omega) (fun _ => ⟨by omega, by omega⟩) (fun z => by cases z) (by omega)
    obtain ⟨R1, xx, r23, cq⟩ := ra_rs (s0 := s0) (T := E.T) (G := G) S.R so y J1
    have go := (RK_ko S.k).1
    have i2 := (cal_kf (by decide) ySet_1 (by decide) run).2.2 o go.2 go.1
    have eo : o_st E.en A (.branch m cs r) (some B) = a_set E.en A B x true (.branch m cs r) := by rw [← b1]; rfl
    obtain ⟨o1, o2, o3, o4⟩ := fin h1 R1 (by rw [eo]; exact k1) (fun D' e => by
      rw [eo] at e
      obtain ⟨q1, q2, q3, q4, -⟩ := set_ok (new := true) T' TB (hS.1 A a1 a2 a3) (fun _ => ⟨b1.symm, by omega⟩) (fun z => by cases z) e
      rw [if_pos rfl] at q2
      exact ⟨q1, by omega, q3.trans b2, q4.trans b3⟩) xx (r23.trans S.r) ((rs_sp J (vK_1 so) y s0).trans S.e) (rq_lv xx S.l) (fun _ => rs_K J y sb (fun y hy _ w => kc_no J sb so S.ne y hy w) kbA) (i2.trans S.a2) (by rw [al1, S.a24]; rfl) (rs_tr J (vK_1 so) y) cq
    refine ⟨_, o1, o2, o3, o4, by rw [hi_si, if_neg (by omega)]; exact ck_35 g (by decide) run, fun Q => ?_⟩
    have z1 : mh_i h o 0 = 0 := KM.z S.k
    have go1 : mg h1 o 13 := (RK_ko k1).1
    have cA := u_228 (d := d) o2.R.j.a (k := k) (z := 1 + ts cs) (by omega) (by rw [o3.2.2]; exact n3)
    rw [e3] at cA
    have g2 := o2.R.j.a.g
    have kt : kb true = 1 := rfl
    rw [kt] at run
    clear fin S o1 o2 o3 o4 J J1 R1 n hS M y xx cq k1 kbA sh T' TB
    rw [s_265_77]
    simp (disch := omega) only [s_265_0, s_265_1, s_265_2, s_265_4, s_265_7, s_265_9, s_265_10, s_265_13, s_265_15, s_265_16, s_265_18, s_265_21, s_265_21n, s_265_23, s_265_24, s_265_26, s_265_26n, s_265_29, s_265_30, s_265_31, s_265_34, s_265_36, s_265_37, s_265_40, s_265_41, s_265_42, s_265_43, s_265_44, s_265_46, s_265_49, s_265_50, s_265_51, s_265_52, s_265_53, s_265_56, s_265_59, s_265_60, s_265_62, s_265_63, s_265_66, s_265_68, s_265_70, s_265_72, s_265_73, s_265_74, s_265_75, s_265_79, s_265_80, s_265_81, s_265_84, s_265_87, s_265_89, s_265_92, s_265_95, s_265_96, s_265_98, s_265_100, s_265_101, s_265_103, s_265_106, s_265_109, s_265_111, s_265_113, s_265_116, s_265_117, s_265_119, s_265_122, s_265_124, s_265_127, s_265_128, s_265_129, s_265_132, s_265_133, s_265_136, s_265_138, s_265_139, s_265_142, s_265_144, s_265_145, s_265_148, s_265_150, s_265_151, s_265_154, s_265_156, s_265_157, s_265_159, s_265_162, s_265_164, s_265_165, s_265_167, s_265_170, s_265_172, s_265_173, s_265_174, s_265_176, s_265_179, s_265_180, s_265_181, s_265_182, s_265_185, s_265_186, s_265_188, s_265_191, s_265_192, s_265_194, s_265_197, s_265_198, s_265_199, s_265_202, s_265_205, s_265_206, s_265_208, s_265_211, s_265_212, s_265_215, s_265_217, s_265_218, s_265_219, s_265_220, s_265_222, s_265_224, s_265_226, s_265_229, s_265_230, s_265_232, s_265_233, s_265_236, s_265_239, s_265_242, s_265_243, s_265_245, s_265_246, s_265_247, s_265_248, s_265_249, s_265_251, s_265_254, s_265_255, s_265_257, s_265_260, s_265_261, s_265_263, s_265_266, s_265_267, s_265_269, s_265_272, s_265_273, s_265_275, s_265_278, s_265_279, s_265_281, s_265_284, s_265_286, s_265_288, s_265_289, s_265_292, s_265_295, s_265_296, s_265_298, s_265_301, e_265, mv_i_1, mv_l_1, mv_a_1, mv_a_2, mv_a_3, mk2_n, mk2_i, mk2_l, mk2_a, mk2_u, mk2_x, mB_T, mB_F, mS_cons, mS_nil, mSB_T, mSB_F, mca_nil, mca_i, mca_l, mca_r, mca_u, mca_x, mcat_i, mcat_l, mcat_r, mcat_u, mcat_x, mK_some, mK_none, va_rf_s, va_rf_n, lgc_eq, lgc_lt, lgc_gt, lgc_ge, lgc_le, mrd_104, mrd_105, mrd_106, mrd_107, true_and, and_true, and_self, false_and, and_false, true_or, or_true, false_or, or_false, not_true_eq_false, not_false_eq_true, mgb, mga, mgr, mN, reduceCtorEq, ↓reduceIte, eq_self, ge_iff_le, gt_iff_lt, Nat.reduceAdd, Nat.reduceMul, Nat.reduceSub, Nat.reduceLT, Nat.reduceGT, Nat.reduceEqDiff, Nat.reduceLeDiff, Nat.left_eq_add, Nat.add_eq_left, Nat.reduceMod, Nat.reduceDiv, Nat.succ_ne_self, g, g2, go, go1, c0, nn_le, nn_lt, le, lt, z1, e00, e1', run, cA]
/-- all SUMs -/
theorem call_l (hkN : kN < 26000) (hz2 : kN + z ≤ 26000) (hd : 700 ≤ d) {x2 x3 x5 x6 x7 x8 x9 : Option Value} {n10 : Int32} : ∀ t k O x al h, CAi h s0 o b E D w0 A O x al → eRo E t → nd (mh_i h 93) (mh_i h 95) (mh_i h 97) k t → k + ts t = kN + z → mh_i h 97 kN = Int32.ofNat z → x + tl t ≤ 12 → E.nu ≤ x → ∃ h', rq s0 (sV o E.T) h h' ∧ CAi h' s0 o b E D w0 A (a_call E.en A t O).1 (x + tl t) (al ||| (a_call E.en A t O).2) ∧ (mh_i h' 93 = mh_i h 93 ∧ mh_i h' 95 = mh_i h 95 ∧ mh_i h' 97 = mh_i h 97) ∧ (∀ q, cnQ G h q → cnQ G h' q) ∧ mh_i h' 115 35 = mh_i h 115 35 ∧ ∀ Q, mw (d + 1) 265 Q 77 [some (.ref 115), some (.int (Int32.ofNat kN)), x2, x3, some (.ref o), x5, x6, x7, x8, x9, some (.int n10), some (.int (Int32.ofNat x)), some (.int (Int32.ofNat k)), none, none, none, none, none, none] [] h = mw (d + 1) 265 Q 127 [some (.ref 115), some (.int (Int32.ofNat kN)), x2, x3, some (.ref o), x5, x6, x7, x8, x9, some (.int n10), some (.int (Int32.ofNat (x + tl t))), some (.int (Int32.ofNat (kN + z))), none, none, none, none, none, none] [] h' := by
  intro t
  induction t with
  | leaf u =>
    intro k O x al h S _ _ hk hz hx hnu
    have ek : k = kN + z := hk
    subst ek
    have or0 : al ||| (a_call E.en A (.leaf u) O).2 = al := i32_or0 al
    rw [or0]
    refine ⟨h, rq_id, S, ⟨rfl, rfl, rfl⟩, fun _ w => w, rfl, fun Q => ?_⟩
    have g := S.R.j.a.g
    have c0 := u_228 (d := d) S.R.j.a hkN hz
    have le : (kN + z ≤ kN + z) = True := eq_true (Nat.le_refl _)
    have lt : (kN + z < kN + z) = False := eq_false (by omega)
    have ex : x + tl (.leaf u : tr) = x := rfl
    rw [ex]
    clear S
    rw [s_265_77]
    simp (disch := omega) only [s_265_0, s_265_1, s_265_2, s_265_4, s_265_7, s_265_9, s_265_10, s_265_13, s_265_15, s_265_16, s_265_18, s_265_21, s_265_21n, s_265_23, s_265_24, s_265_26, s_265_26n, s_265_29, s_265_30, s_265_31, s_265_34, s_265_36, s_265_37, s_265_40, s_265_41, s_265_42, s_265_43, s_265_44, s_265_46, s_265_49, s_265_50, s_265_51, s_265_52, s_265_53, s_265_56, s_265_59, s_265_60, s_265_62, s_265_63, s_265_66, s_265_68, s_265_70, s_265_72, s_265_73, s_265_74, s_265_75, s_265_79, s_265_80, s_265_81, s_265_84, s_265_87, s_265_89, s_265_92, s_265_95, s_265_96, s_265_98, s_265_100, s_265_101, s_265_103, s_265_106, s_265_109, s_265_111, s_265_113, s_265_116, s_265_117, s_265_119, s_265_122, s_265_124, s_265_128, s_265_129, s_265_132, s_265_133, s_265_136, s_265_138, s_265_139, s_265_142, s_265_144, s_265_145, s_265_148, s_265_150, s_265_151, s_265_154, s_265_156, s_265_157, s_265_159, s_265_162, s_265_164, s_265_165, s_265_167, s_265_170, s_265_172, s_265_173, s_265_174, s_265_176, s_265_179, s_265_180, s_265_181, s_265_182, s_265_185, s_265_186, s_265_188, s_265_191, s_265_192, s_265_194, s_265_197, s_265_198, s_265_199, s_265_202, s_265_205, s_265_206, s_265_208, s_265_211, s_265_212, s_265_215, s_265_217, s_265_218, s_265_219, s_265_220, s_265_222, s_265_224, s_265_226, s_265_229, s_265_230, s_265_232, s_265_233, s_265_236, s_265_239, s_265_242, s_265_243, s_265_245, s_265_246, s_265_247, s_265_248, s_265_249, s_265_251, s_265_254, s_265_255, s_265_257, s_265_260, s_265_261, s_265_263, s_265_266, s_265_267, s_265_269, s_265_272, s_265_273, s_265_275, s_265_278, s_265_279, s_265_281, s_265_284, s_265_286, s_265_288, s_265_289, s_265_292, s_265_295, s_265_296, s_265_298, s_265_301, e_265, mv_i_1, mv_l_1, mv_a_1, mv_a_2, mv_a_3, mk2_n, mk2_i, mk2_l, mk2_a, mk2_u, mk2_x, mB_T, mB_F, mS_cons, mS_nil, mSB_T, mSB_F, mca_nil, mca_i, mca_l, mca_r, mca_u, mca_x, mcat_i, mcat_l, mcat_r, mcat_u, mcat_x, mK_some, mK_none, va_rf_s, va_rf_n, lgc_eq, lgc_lt, lgc_gt, lgc_ge, lgc_le, mrd_104, mrd_105, mrd_106, mrd_107, true_and, and_true, and_self, false_and, and_false, true_or, or_true, false_or, or_false, not_true_eq_false, not_false_eq_true, mgb, mga, mgr, mN, reduceCtorEq, ↓reduceIte, eq_self, ge_iff_le, gt_iff_lt, Nat.reduceAdd, Nat.reduceMul, Nat.reduceSub, Nat.reduceLT, Nat.reduceGT, Nat.reduceEqDiff, Nat.reduceLeDiff, Nat.left_eq_add, Nat.add_eq_left, Nat.reduceMod, Nat.reduceDiv, Nat.succ_ne_self, g, c0, nn_le, nn_lt, le, lt]
  | branch m cs r _ ih =>
    intro k O x al h S hR n hk hz hx hnu
    have htl : tl (.branch m cs r) = 1 + tl r := rfl
    rw [htl] at hx ⊢
    have hts := ts_B (n := m) (cs := cs) (r := r)
    obtain ⟨h1, x1, S1, ⟨t1, t2, t3⟩, c1, b1, run1⟩ := call_1 (d := d) (G := G) (x2 := x2) (x3 := x3) (x5 := x5) (x6 := x6) (x7 := x7) (x8 := x8) (x9 := x9) (n10 := n10) S hR.1 n (by omega) hkN hz hz2 (by omega) (by omega) hnu hd
    obtain ⟨h2, x2', S2, ⟨u1, u2, u3⟩, c2, b2, run2⟩ := ih (k + 1 + ts cs) _ (x + 1) _ h1 S1 hR.2 (by rw [t1, t2, t3]; exact n.2.2.2.2) (by omega) (by rw [t3]; exact hz) (by omega) (by omega)
    rw [call_B]
    have ex : x + 1 + tl r = x + (1 + tl r) := by omega
    rw [ex, Int32.or_assoc] at S2
    rw [ex] at run2
    exact ⟨h2, rq_t x1 x2', S2, ⟨u1.trans t1, u2.trans t2, u3.trans t3⟩, fun q w => c2 q (c1 q w), b2.trans b1, fun Q => (run1 Q).trans (run2 Q)⟩
/-- parameters -/
theorem prm_l {x1 x2 x3 x4 x5 x6 x7 x8 x9 x10 x11 x12 x13 x14 x15 : Option Value} {n17 : Int32} : ∀ (l : List Int) (k : Nat) (E : nv) (h : mh_H), RA h s1 E D w0 → (∀ i v, l[i]? = some v → (mh_i h 95 (k + i)).toInt = v) → E.T + l.length ≤ 64 → k + l.length ≤ 26000 → ∃ h', rq s0 (sV o E.T) h h' ∧ RA h' s1 (E.addL l) D w0 ∧ (∀ x j, 2644 ≤ x → mh_i h' x j = mh_i h x j) ∧ (∀ x r, 2644 ≤ x → RK h x r → RK h' x r) ∧ mh_r h' = mh_r h ∧ (∀ q, cnQ G h q → cnQ G h' q) ∧ mh_i h' 115 35 = mh_i h 115 35 ∧ ∀ Q, mw (d + 1) 265 Q 222 [some (.ref 115), x1, x2, x3, x4, x5, x6, x7, x8, x9, x10, x11, x12, x13, x14, x15, some (.int (Int32.ofNat (k + l.length))), some (.int n17), some (.int (Int32.ofNat k))] [] h = mw (d + 1) 265 Q 242 [some (.ref 115), x1, x2, x3, x4, x5, x6, x7, x8, x9, x10, x11, x12, x13, x14, x15, some (.int (Int32.ofNat (k + l.length))), some (.int n17), some (.int (Int32.ofNat (k + l.length)))] [] h' := by
  intro l
  induction l with
  | nil =>
    intro k E h R hv hT hk
    refine ⟨h, rq_id, R, fun _ _ _ => rfl, fun _ _ _ w => w, rfl, fun _ w => w, rfl, fun Q => ?_⟩
    have e0 : k + ([] : List Int).length = k := rfl
    rw [e0]
    have hk' : k ≤ 26000 := hk
    have le : (k ≤ k) = True := eq_true (Nat.le_refl _)
    have lt : (k < k) = False := eq_false (by omega)
    clear R hv
    rw [s_265_222]
    simp (disch := omega) only [s_265_0, s_265_1, s_265_2, s_265_4, s_265_7, s_265_9, s_265_10, s_265_13, s_265_15, s_265_16, s_265_18, s_265_21, s_265_21n, s_265_23, s_265_24, s_265_26, s_265_26n, s_265_29, s_265_30, s_265_31, s_265_34, s_265_36, s_265_37, s_265_40, s_265_41, s_265_42, s_265_43, s_265_44, s_265_46, s_265_49, s_265_50, s_265_51, s_265_52, s_265_53, s_265_56, s_265_59, s_265_60, s_265_62, s_265_63, s_265_66, s_265_68, s_265_70, s_265_72, s_265_73, s_265_74, s_265_75, s_265_77, s_265_79, s_265_80, s_265_81, s_265_84, s_265_87, s_265_89, s_265_92, s_265_95, s_265_96, s_265_98, s_265_100, s_265_101, s_265_103, s_265_106, s_265_109, s_265_111, s_265_113, s_265_116, s_265_117, s_265_119, s_265_122, s_265_124, s_265_127, s_265_128, s_265_129, s_265_132, s_265_133, s_265_136, s_265_138, s_265_139, s_265_142, s_265_144, s_265_145, s_265_148, s_265_150, s_265_151, s_265_154, s_265_156, s_265_157, s_265_159, s_265_162, s_265_164, s_265_165, s_265_167, s_265_170, s_265_172, s_265_173, s_265_174, s_265_176, s_265_179, s_265_180, s_265_181, s_265_182, s_265_185, s_265_186, s_265_188, s_265_191, s_265_192, s_265_194, s_265_197, s_265_198, s_265_199, s_265_202, s_265_205, s_265_206, s_265_208, s_265_211, s_265_212, s_265_215, s_265_217, s_265_218, s_265_219, s_265_220, s_265_224, s_265_226, s_265_229, s_265_230, s_265_232, s_265_233, s_265_236, s_265_239, s_265_243, s_265_245, s_265_246, s_265_247, s_265_248, s_265_249, s_265_251, s_265_254, s_265_255, s_265_257, s_265_260, s_265_261, s_265_263, s_265_266, s_265_267, s_265_269, s_265_272, s_265_273, s_265_275, s_265_278, s_265_279, s_265_281, s_265_284, s_265_286, s_265_288, s_265_289, s_265_292, s_265_295, s_265_296, s_265_298, s_265_301, e_265, mv_i_1, mv_l_1, mv_a_1, mv_a_2, mv_a_3, mk2_n, mk2_i, mk2_l, mk2_a, mk2_u, mk2_x, mB_T, mB_F, mS_cons, mS_nil, mSB_T, mSB_F, mca_nil, mca_i, mca_l, mca_r, mca_u, mca_x, mcat_i, mcat_l, mcat_r, mcat_u, mcat_x, mK_some, mK_none, va_rf_s, va_rf_n, lgc_eq, lgc_lt, lgc_gt, lgc_ge, lgc_le, mrd_104, mrd_105, mrd_106, mrd_107, true_and, and_true, and_self, false_and, and_false, true_or, or_true, false_or, or_false, not_true_eq_false, not_false_eq_true, mgb, mga, mgr, mN, reduceCtorEq, ↓reduceIte, eq_self, ge_iff_le, gt_iff_lt, Nat.reduceAdd, Nat.reduceMul, Nat.reduceSub, Nat.reduceLT, Nat.reduceGT, Nat.reduceEqDiff, Nat.reduceLeDiff, Nat.left_eq_add, Nat.add_eq_left, Nat.reduceMod, Nat.reduceDiv, Nat.succ_ne_self, nn_le, nn_lt, le, lt]
  | cons v l ih =>
    intro k E h R hv hT hk
    have hlen : (v :: l).length = l.length + 1 := rfl
    rw [hlen] at hT hk ⊢
    obtain ⟨h1, x1', R1, oi, oK, -, er, -, -, r95, cq, -, run1⟩ := ra_add (d := d) (s0 := s0) (o := o) (G := G) R (by omega) false (c := 20) (v := E.nu) (E' := E.addN v) (k := k) rfl rfl (hv 0 v rfl) rfl rfl rfl rfl rfl rfl rfl (by omega)
    obtain ⟨h2, x2', R2, oi2, oK2, er2, cq2, b2, run2⟩ := ih (k + 1) (E.addN v) h1 R1 (fun i w e => by
      have := hv (i + 1) w e
      rw [r95, show k + 1 + i = k + (i + 1) by omega]
      exact this) (by show E.T + 1 + l.length ≤ 64; omega) (by omega)
    have x2'' : rq s0 (sV o E.T) h1 h2 := sV_sp x2' (Nat.le_refl _) (by show E.T ≤ E.T + 1; omega) (Or.inl rfl)
    refine ⟨h2, rq_t x1' x2'', R2, fun x j hx => (oi2 x j hx).trans (oi x j hx), fun x r hx w => oK2 x r hx (oK x r hx w), er2.trans er, fun q w => cq2 q (cq q w), b2.trans (ck_35 R.j.a.g (by decide) run1), fun Q => ?_⟩
    have ek : k + (l.length + 1) = k + 1 + l.length := by omega
    rw [ek, ← run2]
    have g := R.j.a.g
    have le : (k + 1 + l.length ≤ k) = False := eq_false (by omega)
    have lt : (k < k + 1 + l.length) = True := eq_true (by omega)
    have k0 : kb false = 0 := rfl
    rw [k0] at run1
    have e1' : ∀ k, Int32.ofNat k + 1 = Int32.ofNat (k + 1) := fun k => nn_add (a := k) (b := 1)
    clear R R1 R2 ih run2 oi oi2 oK oK2 cq cq2 x1' x2' x2'' hv
    rw [s_265_222]
    simp (disch := omega) only [s_265_0, s_265_1, s_265_2, s_265_4, s_265_7, s_265_9, s_265_10, s_265_13, s_265_15, s_265_16, s_265_18, s_265_21, s_265_21n, s_265_23, s_265_24, s_265_26, s_265_26n, s_265_29, s_265_30, s_265_31, s_265_34, s_265_36, s_265_37, s_265_40, s_265_41, s_265_42, s_265_43, s_265_44, s_265_46, s_265_49, s_265_50, s_265_51, s_265_52, s_265_53, s_265_56, s_265_59, s_265_60, s_265_62, s_265_63, s_265_66, s_265_68, s_265_70, s_265_72, s_265_73, s_265_74, s_265_75, s_265_77, s_265_79, s_265_80, s_265_81, s_265_84, s_265_87, s_265_89, s_265_92, s_265_95, s_265_96, s_265_98, s_265_100, s_265_101, s_265_103, s_265_106, s_265_109, s_265_111, s_265_113, s_265_116, s_265_117, s_265_119, s_265_122, s_265_124, s_265_127, s_265_128, s_265_129, s_265_132, s_265_133, s_265_136, s_265_138, s_265_139, s_265_142, s_265_144, s_265_145, s_265_148, s_265_150, s_265_151, s_265_154, s_265_156, s_265_157, s_265_159, s_265_162, s_265_164, s_265_165, s_265_167, s_265_170, s_265_172, s_265_173, s_265_174, s_265_176, s_265_179, s_265_180, s_265_181, s_265_182, s_265_185, s_265_186, s_265_188, s_265_191, s_265_192, s_265_194, s_265_197, s_265_198, s_265_199, s_265_202, s_265_205, s_265_206, s_265_208, s_265_211, s_265_212, s_265_215, s_265_217, s_265_218, s_265_219, s_265_220, s_265_224, s_265_226, s_265_229, s_265_230, s_265_232, s_265_233, s_265_236, s_265_239, s_265_242, s_265_243, s_265_245, s_265_246, s_265_247, s_265_248, s_265_249, s_265_251, s_265_254, s_265_255, s_265_257, s_265_260, s_265_261, s_265_263, s_265_266, s_265_267, s_265_269, s_265_272, s_265_273, s_265_275, s_265_278, s_265_279, s_265_281, s_265_284, s_265_286, s_265_288, s_265_289, s_265_292, s_265_295, s_265_296, s_265_298, s_265_301, e_265, mv_i_1, mv_l_1, mv_a_1, mv_a_2, mv_a_3, mk2_n, mk2_i, mk2_l, mk2_a, mk2_u, mk2_x, mB_T, mB_F, mS_cons, mS_nil, mSB_T, mSB_F, mca_nil, mca_i, mca_l, mca_r, mca_u, mca_x, mcat_i, mcat_l, mcat_r, mcat_u, mcat_x, mK_some, mK_none, va_rf_s, va_rf_n, lgc_eq, lgc_lt, lgc_gt, lgc_ge, lgc_le, mrd_104, mrd_105, mrd_106, mrd_107, true_and, and_true, and_self, false_and, and_false, true_or, or_true, false_or, or_false, not_true_eq_false, not_false_eq_true, mgb, mga, mgr, mN, reduceCtorEq, ↓reduceIte, eq_self, ge_iff_le, gt_iff_lt, Nat.reduceAdd, Nat.reduceMul, Nat.reduceSub, Nat.reduceLT, Nat.reduceGT, Nat.reduceEqDiff, Nat.reduceLeDiff, Nat.left_eq_add, Nat.add_eq_left, Nat.reduceMod, Nat.reduceDiv, Nat.succ_ne_self, g, nn_le, nn_lt, le, lt, run1, e1']
end CBs
