set_option maxRecDepth 100000
/-! the class's layNames -/
/-- names at the point behind q -/
def NMv (h : mh_H) (D : lyD) (q kd sz a nn an nt su x : Nat) : Int32 := if kd = 1 then (if x = (if sz = 0 then nn else 12 + an) then Int32.ofNat (D.P a) else mh_i h 30 (18 * q + x)) else if kd = 4 then (if nn ≤ x ∧ x < nn + su then Int32.ofNat (D.P (nt + 2 + 2 * (x - nn))) else mh_i h 30 (18 * q + x)) else mh_i h 30 (18 * q + x)
/-- the statement at q, as layNames sees it -/
def NMq (h : mh_H) (D : lyD) (m q kd sz a nn an nt su : Nat) : Prop := (∃ St nb nm na nx, mh_r h 20 q = some St ∧ mg h St 9 ∧ mh_i h St 0 = Int32.ofNat kd ∧ mh_i h 21 q = Int32.ofNat nb ∧ mh_i h St 3 = Int32.ofNat nm ∧ nb + nm = nn ∧ mh_i h 22 q = Int32.ofNat na ∧ mh_i h St 4 = Int32.ofNat nx ∧ na + nx = an ∧ (kd = 1 → mh_i h St 9 = Int32.ofNat sz ∧ mh_i h St 7 = Int32.ofNat a) ∧ (kd = 4 → mh_i h St 11 = Int32.ofNat su ∧ ∃ g, mh_i h St 14 = Int32.ofNat g ∧ g < D.c ∧ D.H (6 * g) = Int32.ofNat nt)) ∧ (kd < 100 ∧ nn ≤ 12 ∧ an ≤ 6) ∧ (kd = 1 → sz < 100000 ∧ a < m ∧ (sz = 0 → nn < 12) ∧ (¬ sz = 0 → an < 6)) ∧ (kd = 4 → nn + su ≤ 12 ∧ (0 < su → nt + 2 * su < m))
theorem NMq.of {h : mh_H} {D : lyD} {m q kd sz a nn an nt su : Nat} (qZ : (∃ St nb nm na nx, mh_r h 20 q = some St ∧ mg h St 9 ∧ mh_i h St 0 = Int32.ofNat kd ∧ mh_i h 21 q = Int32.ofNat nb ∧ mh_i h St 3 = Int32.ofNat nm ∧ nb + nm = nn ∧ mh_i h 22 q = Int32.ofNat na ∧ mh_i h St 4 = Int32.ofNat nx ∧ na + nx = an ∧ (kd = 1 → mh_i h St 9 = Int32.ofNat sz ∧ mh_i h St 7 = Int32.ofNat a) ∧ (kd = 4 → mh_i h St 11 = Int32.ofNat su ∧ ∃ g, mh_i h St 14 = Int32.ofNat g ∧ g < D.c ∧ D.H (6 * g) = Int32.ofNat nt)) ∧ (kd < 100 ∧ nn ≤ 12 ∧ an ≤ 6) ∧ (kd = 1 → sz < 100000 ∧ a < m ∧ (sz = 0 → nn < 12) ∧ (¬ sz = 0 → an < 6)) ∧ (kd = 4 → nn + su ≤ 12 ∧ (0 < su → nt + 2 * su < m))) : NMq h D m q kd sz a nn an nt su := qZ
theorem NMq.s {h : mh_H} {D : lyD} {m q kd sz a nn an nt su : Nat} (qZ : NMq h D m q kd sz a nn an nt su) : ∃ St nb nm na nx, mh_r h 20 q = some St ∧ mg h St 9 ∧ mh_i h St 0 = Int32.ofNat kd ∧ mh_i h 21 q = Int32.ofNat nb ∧ mh_i h St 3 = Int32.ofNat nm ∧ nb + nm = nn ∧ mh_i h 22 q = Int32.ofNat na ∧ mh_i h St 4 = Int32.ofNat nx ∧ na + nx = an ∧ (kd = 1 → mh_i h St 9 = Int32.ofNat sz ∧ mh_i h St 7 = Int32.ofNat a) ∧ (kd = 4 → mh_i h St 11 = Int32.ofNat su ∧ ∃ g, mh_i h St 14 = Int32.ofNat g ∧ g < D.c ∧ D.H (6 * g) = Int32.ofNat nt) := qZ.1
theorem NMq.k {h : mh_H} {D : lyD} {m q kd sz a nn an nt su : Nat} (qZ : NMq h D m q kd sz a nn an nt su) : kd < 100 ∧ nn ≤ 12 ∧ an ≤ 6 := qZ.2.1
theorem NMq.v {h : mh_H} {D : lyD} {m q kd sz a nn an nt su : Nat} (qZ : NMq h D m q kd sz a nn an nt su) : kd = 1 → sz < 100000 ∧ a < m ∧ (sz = 0 → nn < 12) ∧ (¬ sz = 0 → an < 6) := qZ.2.2.1
theorem NMq.c {h : mh_H} {D : lyD} {m q kd sz a nn an nt su : Nat} (qZ : NMq h D m q kd sz a nn an nt su) : kd = 4 → nn + su ≤ 12 ∧ (0 < su → nt + 2 * su < m) := qZ.2.2.2
section NMl
variable {d : Nat} {h h1 h2 : mh_H} {B n m : Nat} {D : lyD} {Sf : cps} {q kd sz a nn an nt su : Nat}
theorem c_91z (C : CLC h B n m D Sf) : ∀ Q, mcall d 91 [.ref 2, .int (Int32.ofNat 0)] h Q = Q none h := by
  intro Q
  have z0 : (Int32.ofNat 0 = 0) = True := eq_true rfl
  clear C
  simp (disch := omega) only [s_91_0, s_91_1, s_91_4, s_91_5, s_91_7, s_91_8, s_91_9, s_91_10, s_91_11, s_91_12, s_91_13, s_91_16, s_91_17, s_91_18, s_91_21, s_91_23, s_91_24, s_91_25, s_91_27, s_91_30, s_91_31, s_91_34, s_91_35, s_91_36, s_91_37, s_91_38, s_91_38n, s_91_38x, s_91_39, s_91_40, s_91_43, s_91_44, s_91_47, s_91_48, s_91_51, s_91_54, s_91_55, s_91_56, s_91_57, s_91_58, s_91_61, s_91_64, s_91_66, s_91_67, s_91_68, s_91_69, s_91_70, s_91_73, s_91_74, s_91_76, s_91_77, s_91_80, s_91_82, s_91_83, s_91_84, s_91_86, s_91_87, s_91_88, s_91_91, s_91_94, s_91_95, s_91_98, s_91_98x, s_91_99, s_91_100, s_91_103, s_91_104, s_91_107, s_91_108, s_91_111, s_91_112, s_91_115, s_91_116, s_91_119, s_91_120, s_91_123, s_91_124, s_91_125, s_91_127, s_91_128, s_91_130, s_91_132, s_91_133, s_91_136, s_91_139, s_91_140, s_91_143, s_91_145, s_91_146, s_91_147, s_91_148, s_91_149, s_91_150, s_91_151, s_91_154, s_91_155, s_91_157, s_91_158, s_91_159, s_91_162, s_91_165, s_91_167, s_91_168, s_91_170, s_91_171, s_91_172, s_91_172x, s_91_173, s_91_174, s_91_177, s_91_180, e_91, mv_i_1, mv_l_1, mv_a_1, mv_a_2, mv_a_3, mk2_n, mk2_i, mk2_l, mk2_a, mk2_u, mk2_x, mB_T, mB_F, mS_cons, mS_nil, mSB_T, mSB_F, mca_nil, mca_i, mca_l, mca_r, mca_u, mca_x, mcat_i, mcat_l, mcat_r, mcat_u, mcat_x, mK_some, mK_none, va_rf_s, va_rf_n, lgc_eq, lgc_lt, lgc_gt, lgc_ge, lgc_le, mrd_104, mrd_105, mrd_106, mrd_107, true_and, and_true, and_self, false_and, and_false, true_or, or_true, false_or, or_false, not_true_eq_false, not_false_eq_true, mgb, mga, mgr, mN, reduceCtorEq, ↓reduceIte, eq_self, ge_iff_le, gt_iff_lt, Nat.reduceAdd, Nat.reduceMul, Nat.reduceSub, Nat.reduceLT, Nat.reduceGT, Nat.reduceEqDiff, Nat.reduceLeDiff, Nat.left_eq_add, Nat.add_eq_left, Nat.reduceMod, Nat.reduceDiv, Nat.succ_ne_self, z0]
theorem c_91 (C : CLC h B n m D Sf) (hq : q + 1 < 250) (N : NMq h D m q kd sz a nn an nt su) : ∃ h', fLy h h' ∧ mh_r h' = mh_r h ∧ (∀ b j, ¬ (b = 30 ∧ 18 * (q + 1) ≤ j ∧ j < 18 * (q + 1) + 18) → mh_i h' b j = mh_i h b j) ∧ (∀ x, x < 18 → mh_i h' 30 (18 * (q + 1) + x) = NMv h D q kd sz a nn an nt su x) ∧ ∀ Q, mcall (d + 1) 91 [.ref 2, .int (Int32.ofNat (q + 1))] h Q = Q none h' := by
  obtain ⟨St, nb, nm, na, nx, r1, gS, s0, b1, s3, e1, b2, s4, e2, w1, w4⟩ := N.s
  obtain ⟨k1, k2, k3⟩ := N.k
  have F := C.F
  have g2 := F.g 2 4 20 (by decide +kernel)
  have t3 := F.f 2 3 20 (by decide +kernel)
  have g20 := (F.g 20 105 250 (by decide +kernel)).1
  have g20b := (F.g 20 105 250 (by decide +kernel)).2
  have l20 := F.l 20 105 250 (by decide +kernel)
  have t13 := F.f 2 13 30 (by decide +kernel)
  have g30 := F.g 30 100 4500 (by decide +kernel)
  have g30a := g30.1
  have g30b := g30.2
  have l30 := F.l 30 100 4500 (by decide +kernel)
  have s1 := C.s.1
  obtain ⟨t1, t2, t3', t4, t5⟩ := C.t
  have hd := C.d
  have hB := C.B
  have gSB : St ≠ 30 := fun z => by have := gS.1; rw [z, g30a] at this; omega
  have es : Int32.ofNat (q + 1) - 1 = Int32.ofNat q := nn_sub (a := q + 1) (b := 1) (by omega)
  have m18 : ∀ j, (18 : Int32) * Int32.ofNat j = Int32.ofNat (18 * j) := fun j => nn_mul (a := 18) (b := j)
  have ne : (Int32.ofNat (q + 1) = 0) = False := (nn_eq (a := q + 1) (b := 0) (by omega) (by decide)).trans (eq_false (by omega))
  have c18 : (18 : Int32).toNatClampNeg = 18 := by decide
  have p1 : (0 : Int32) ≤ Int32.ofNat (18 * q) := by rw [nn_ge (by omega)]; trivial
  have p2 : (0 : Int32) ≤ Int32.ofNat (18 * (q + 1)) := by rw [nn_ge (by omega)]; trivial
  have p3 : (0 : Int32) ≤ 18 := by decide
  have bf : me_bf h 30 = true := bf_eq (by rw [g30a]; decide)
  have q1 : 18 * q + 18 ≤ 4500 := by omega
  have q2 : 18 * (q + 1) + 18 ≤ 4500 := by omega
  have h100 : (100 : Nat) ≤ 100 := Nat.le_refl _
  have h104 : (100 : Nat) < 104 := by decide
  -- the names of the point before
  have cpf : fLy h (mh_cp h 30 (18 * q) 30 (18 * (q + 1)) 18) := ⟨rfl, rfl, rfl, rfl, fun b j w => ⟨by rw [hi_cp, if_neg (fun z => w (by unfold cyW; omega))], by rw [hj_cp, if_neg (fun z => w (by unfold cyW; omega))]⟩, fun _ _ _ => rfl⟩
  have cpr : mh_r (mh_cp h 30 (18 * q) 30 (18 * (q + 1)) 18) = mh_r h := rfl
  have cpi : ∀ b j, ¬ (b = 30 ∧ 18 * (q + 1) ≤ j ∧ j < 18 * (q + 1) + 18) → mh_i (mh_cp h 30 (18 * q) 30 (18 * (q + 1)) 18) b j = mh_i h b j := fun b j w => by rw [hi_cp, if_neg w]
  have cpv : ∀ x, x < 18 → mh_i (mh_cp h 30 (18 * q) 30 (18 * (q + 1)) 18) 30 (18 * (q + 1) + x) = mh_i h 30 (18 * q + x) := fun x hx => by
    rw [hi_cp, if_pos ⟨rfl, by omega, by omega⟩, show 18 * q + (18 * (q + 1) + x - 18 * (q + 1)) = 18 * q + x from by omega]
  have ent : ∀ Q, mcall (d + 1) 91 [.ref 2, .int (Int32.ofNat (q + 1))] h Q = mw (d + 1) 91 Q 39 [some (.ref 2), some (.int (Int32.ofNat (q + 1))), some (.int (Int32.ofNat (18 * q))), some (.ref St), none, none] [] (mh_cp h 30 (18 * q) 30 (18 * (q + 1)) 18) := fun Q => by
    clear C F cpf cpr cpi cpv N w1 w4
    simp (disch := omega) only [s_91_0, s_91_1, s_91_4, s_91_5, s_91_7, s_91_8, s_91_9, s_91_10, s_91_11, s_91_12, s_91_13, s_91_16, s_91_17, s_91_18, s_91_21, s_91_23, s_91_24, s_91_25, s_91_27, s_91_30, s_91_31, s_91_34, s_91_35, s_91_36, s_91_37, s_91_38, s_91_38n, s_91_38x, s_91_40, s_91_43, s_91_44, s_91_47, s_91_48, s_91_51, s_91_54, s_91_55, s_91_56, s_91_57, s_91_58, s_91_61, s_91_64, s_91_66, s_91_67, s_91_68, s_91_69, s_91_70, s_91_73, s_91_74, s_91_76, s_91_77, s_91_80, s_91_82, s_91_83, s_91_84, s_91_86, s_91_87, s_91_88, s_91_91, s_91_94, s_91_95, s_91_98, s_91_98x, s_91_99, s_91_100, s_91_103, s_91_104, s_91_107, s_91_108, s_91_111, s_91_112, s_91_115, s_91_116, s_91_119, s_91_120, s_91_123, s_91_124, s_91_125, s_91_127, s_91_128, s_91_130, s_91_132, s_91_133, s_91_136, s_91_139, s_91_140, s_91_143, s_91_145, s_91_146, s_91_147, s_91_148, s_91_149, s_91_150, s_91_151, s_91_154, s_91_155, s_91_157, s_91_158, s_91_159, s_91_162, s_91_165, s_91_167, s_91_168, s_91_170, s_91_171, s_91_172, s_91_172x, s_91_173, s_91_174, s_91_177, s_91_180, e_91, mv_i_1, mv_l_1, mv_a_1, mv_a_2, mv_a_3, mk2_n, mk2_i, mk2_l, mk2_a, mk2_u, mk2_x, mB_T, mB_F, mS_cons, mS_nil, mSB_T, mSB_F, mca_nil, mca_i, mca_l, mca_r, mca_u, mca_x, mcat_i, mcat_l, mcat_r, mcat_u, mcat_x, mK_some, mK_none, va_rf_s, va_rf_n, lgc_eq, lgc_lt, lgc_gt, lgc_ge, lgc_le, mrd_104, mrd_105, mrd_106, mrd_107, true_and, and_true, and_self, false_and, and_false, true_or, or_true, false_or, or_false, not_true_eq_false, not_false_eq_true, mgb, mga, mgr, mN, reduceCtorEq, ↓reduceIte, eq_self, ge_iff_le, gt_iff_lt, hk_si, hk_sj, hk_sr, hl_si, hl_sj, hl_sr, hn_si, hn_sj, hn_sr, hs_si, hs_sj, hs_sr, hi_sj, hi_sr, hj_si, hj_sr, hr_si, hr_sj, hi_si, hj_sj, hr_sr, mg_si, mg_sj, mg_sr, Nat.reduceAdd, Nat.reduceMul, Nat.reduceSub, Nat.reduceLT, Nat.reduceGT, Nat.reduceEqDiff, Nat.reduceLeDiff, Nat.left_eq_add, Nat.add_eq_left, Nat.reduceMod, Nat.reduceDiv, Nat.succ_ne_self, hk_cp, hl_cp, hn_cp, hr_cp, mg_cp, cpok_eq, g2, ne, es, m18, t13, g30, g30a, g30b, l30, c18, p1, p2, p3, bf, q1, q2, h100, h104, nn_clamp, t3, g20, g20b, l20, r1, nn_mxT]
  have cpg : ∀ o c, mg (mh_cp h 30 (18 * q) 30 (18 * (q + 1)) 18) o c = mg h o c := fun o c => rfl
  have cpl : mh_l (mh_cp h 30 (18 * q) 30 (18 * (q + 1)) 18) = mh_l h := rfl
  generalize mh_cp h 30 (18 * q) 30 (18 * (q + 1)) 18 = hC at ent cpf cpr cpi cpv cpg cpl
  have CC := CLC_L cpf C
  have FC := CC.F
  have G2 : mg hC 2 4 := by rw [cpg]; exact g2
  have GS : mg hC St 9 := by rw [cpg]; exact gS
  have G30 : mg hC 30 100 := by rw [cpg]; exact g30
  have L30 : mh_l hC 30 = 4500 := by rw [cpl]; exact l30
  have T13 : mh_r hC 2 13 = some 30 := by rw [cpr]; exact t13
  have si : ∀ j, mh_i hC St j = mh_i h St j := fun j => cpi St j (fun z => gSB z.1)
  have S0 := (si 0).trans s0
  have B1 : mh_i hC 21 q = Int32.ofNat nb := (cpi 21 q (by omega)).trans b1
  have B2 : mh_i hC 22 q = Int32.ofNat na := (cpi 22 q (by omega)).trans b2
  have R1 : mh_r hC 20 q = some St := by rw [cpr]; exact r1
  have a80 := c_80 (d := d) (p := q) FC (by omega) B1 R1 GS ((si 3).trans s3)
  have a81 := c_81 (d := d) (p := q) FC (by omega) B2 R1 GS ((si 4).trans s4)
  rw [e1] at a80
  rw [e2] at a81
  obtain ⟨T1, T2, T3, T4, T5⟩ := CC.t
  by_cases c1 : kd = 1
  · subst c1
    obtain ⟨x9, x7⟩ := w1 rfl
    obtain ⟨v1, v2, v3, v4⟩ := N.v rfl
    have i1 : Int32.ofNat 1 = 1 := rfl
    rw [i1] at S0
    have z1 : ((1 : Int32) = 1) = True := eq_true rfl
    have S9 := (si 9).trans x9
    have S7 := (si 7).trans x7
    obtain ⟨y1, y2⟩ := CC.p a v2
    have ez : (Int32.ofNat sz = 0) = (sz = 0) := nn_eq (a := sz) (b := 0) (by omega) (by decide)
    have nv : ∀ x, NMv h D q 1 sz a nn an nt su x = if x = (if sz = 0 then nn else 12 + an) then Int32.ofNat (D.P a) else mh_i h 30 (18 * q + x) := fun x => if_pos rfl
    by_cases c0 : sz = 0
    · have c0' := ez.trans (eq_true c0)
      have ea : Int32.ofNat (18 * (q + 1)) + Int32.ofNat nn = Int32.ofNat (18 * (q + 1) + nn) := nn_add
      have := v3 c0
      refine ⟨mh_si hC 30 (18 * (q + 1) + nn) (Int32.ofNat (D.P a)), fLy_t cpf (fLy_si (Or.inl ⟨by decide, by decide⟩)), cpr, fun b j w => by rw [hi_si, if_neg (fun z => w (by omega))]; exact cpi b j w, fun x hx => ?_, fun Q => ?_⟩
      · rw [nv x, if_pos c0, hi_si]
        by_cases cx : x = nn
        · rw [if_pos cx, if_pos ⟨rfl, by omega⟩]
        · rw [if_neg cx, if_neg (by omega)]
          exact cpv x hx
      · rw [ent Q]
        clear C F CC FC cpf cpr cpi cpv N w1 w4 ent si cpg cpl
        simp (disch := omega) only [s_91_0, s_91_1, s_91_4, s_91_5, s_91_7, s_91_8, s_91_9, s_91_10, s_91_11, s_91_12, s_91_13, s_91_16, s_91_17, s_91_18, s_91_21, s_91_23, s_91_24, s_91_25, s_91_27, s_91_30, s_91_31, s_91_34, s_91_35, s_91_36, s_91_37, s_91_38, s_91_38n, s_91_38x, s_91_39, s_91_40, s_91_43, s_91_44, s_91_47, s_91_48, s_91_51, s_91_54, s_91_55, s_91_56, s_91_57, s_91_58, s_91_61, s_91_64, s_91_66, s_91_67, s_91_68, s_91_69, s_91_70, s_91_73, s_91_74, s_91_76, s_91_77, s_91_80, s_91_82, s_91_83, s_91_84, s_91_86, s_91_87, s_91_88, s_91_91, s_91_94, s_91_95, s_91_98, s_91_98x, s_91_99, s_91_100, s_91_103, s_91_104, s_91_107, s_91_108, s_91_111, s_91_112, s_91_115, s_91_116, s_91_119, s_91_120, s_91_123, s_91_124, s_91_125, s_91_127, s_91_128, s_91_130, s_91_132, s_91_133, s_91_136, s_91_139, s_91_140, s_91_143, s_91_145, s_91_146, s_91_147, s_91_148, s_91_149, s_91_150, s_91_151, s_91_154, s_91_155, s_91_157, s_91_158, s_91_159, s_91_162, s_91_165, s_91_167, s_91_168, s_91_170, s_91_171, s_91_172, s_91_172x, s_91_173, s_91_174, s_91_177, s_91_180, e_91, mv_i_1, mv_l_1, mv_a_1, mv_a_2, mv_a_3, mk2_n, mk2_i, mk2_l, mk2_a, mk2_u, mk2_x, mB_T, mB_F, mS_cons, mS_nil, mSB_T, mSB_F, mca_nil, mca_i, mca_l, mca_r, mca_u, mca_x, mcat_i, mcat_l, mcat_r, mcat_u, mcat_x, mK_some, mK_none, va_rf_s, va_rf_n, lgc_eq, lgc_lt, lgc_gt, lgc_ge, lgc_le, mrd_104, mrd_105, mrd_106, mrd_107, true_and, and_true, and_self, false_and, and_false, true_or, or_true, false_or, or_false, not_true_eq_false, not_false_eq_true, mgb, mga, mgr, mN, reduceCtorEq, ↓reduceIte, eq_self, ge_iff_le, gt_iff_lt, hk_si, hk_sj, hk_sr, hl_si, hl_sj, hl_sr, hn_si, hn_sj, hn_sr, hs_si, hs_sj, hs_sr, hi_sj, hi_sr, hj_si, hj_sr, hr_si, hr_sj, hi_si, hj_sj, hr_sr, mg_si, mg_sj, mg_sr, Nat.reduceAdd, Nat.reduceMul, Nat.reduceSub, Nat.reduceLT, Nat.reduceGT, Nat.reduceEqDiff, Nat.reduceLeDiff, Nat.left_eq_add, Nat.add_eq_left, Nat.reduceMod, Nat.reduceDiv, Nat.succ_ne_self, G2, GS, S0, z1, S9, c0', es, a80, T13, G30, L30, m18, ea, T1, T2, T3, T4, T5, S7, y1, nn_mxT, nn_clamp]
    · have c0' := ez.trans (eq_false c0)
      have e12 : (12 : Int32) + Int32.ofNat an = Int32.ofNat (12 + an) := nn_add (a := 12) (b := an)
      have ea : Int32.ofNat (18 * (q + 1)) + Int32.ofNat (12 + an) = Int32.ofNat (18 * (q + 1) + (12 + an)) := nn_add
      have := v4 c0
      refine ⟨mh_si hC 30 (18 * (q + 1) + (12 + an)) (Int32.ofNat (D.P a)), fLy_t cpf (fLy_si (Or.inl ⟨by decide, by decide⟩)), cpr, fun b j w => by rw [hi_si, if_neg (fun z => w (by omega))]; exact cpi b j w, fun x hx => ?_, fun Q => ?_⟩
      · rw [nv x, if_neg c0, hi_si]
        by_cases cx : x = 12 + an
        · rw [if_pos cx, if_pos ⟨rfl, by omega⟩]
        · rw [if_neg cx, if_neg (by omega)]
          exact cpv x hx
      · rw [ent Q]
        clear C F CC FC cpf cpr cpi cpv N w1 w4 ent si cpg cpl
        simp (disch := omega) only [s_91_0, s_91_1, s_91_4, s_91_5, s_91_7, s_91_8, s_91_9, s_91_10, s_91_11, s_91_12, s_91_13, s_91_16, s_91_17, s_91_18, s_91_21, s_91_23, s_91_24, s_91_25, s_91_27, s_91_30, s_91_31, s_91_34, s_91_35, s_91_36, s_91_37, s_91_38, s_91_38n, s_91_38x, s_91_39, s_91_40, s_91_43, s_91_44, s_91_47, s_91_48, s_91_51, s_91_54, s_91_55, s_91_56, s_91_57, s_91_58, s_91_61, s_91_64, s_91_66, s_91_67, s_91_68, s_91_69, s_91_70, s_91_73, s_91_74, s_91_76, s_91_77, s_91_80, s_91_82, s_91_83, s_91_84, s_91_86, s_91_87, s_91_88, s_91_91, s_91_94, s_91_95, s_91_98, s_91_98x, s_91_99, s_91_100, s_91_103, s_91_104, s_91_107, s_91_108, s_91_111, s_91_112, s_91_115, s_91_116, s_91_119, s_91_120, s_91_123, s_91_124, s_91_125, s_91_127, s_91_128, s_91_130, s_91_132, s_91_133, s_91_136, s_91_139, s_91_140, s_91_143, s_91_145, s_91_146, s_91_147, s_91_148, s_91_149, s_91_150, s_91_151, s_91_154, s_91_155, s_91_157, s_91_158, s_91_159, s_91_162, s_91_165, s_91_167, s_91_168, s_91_170, s_91_171, s_91_172, s_91_172x, s_91_173, s_91_174, s_91_177, s_91_180, e_91, mv_i_1, mv_l_1, mv_a_1, mv_a_2, mv_a_3, mk2_n, mk2_i, mk2_l, mk2_a, mk2_u, mk2_x, mB_T, mB_F, mS_cons, mS_nil, mSB_T, mSB_F, mca_nil, mca_i, mca_l, mca_r, mca_u, mca_x, mcat_i, mcat_l, mcat_r, mcat_u, mcat_x, mK_some, mK_none, va_rf_s, va_rf_n, lgc_eq, lgc_lt, lgc_gt, lgc_ge, lgc_le, mrd_104, mrd_105, mrd_106, mrd_107, true_and, and_true, and_self, false_and, and_false, true_or, or_true, false_or, or_false, not_true_eq_false, not_false_eq_true, mgb, mga, mgr, mN, reduceCtorEq, ↓reduceIte, eq_self, ge_iff_le, gt_iff_lt, hk_si, hk_sj, hk_sr, hl_si, hl_sj, hl_sr, hn_si, hn_sj, hn_sr, hs_si, hs_sj, hs_sr, hi_sj, hi_sr, hj_si, hj_sr, hr_si, hr_sj, hi_si, hj_sj, hr_sr, mg_si, mg_sj, mg_sr, Nat.reduceAdd, Nat.reduceMul, Nat.reduceSub, Nat.reduceLT, Nat.reduceGT, Nat.reduceEqDiff, Nat.reduceLeDiff, Nat.left_eq_add, Nat.add_eq_left, Nat.reduceMod, Nat.reduceDiv, Nat.succ_ne_self, G2, GS, S0, z1, S9, c0', es, a81, e12, T13, G30, L30, m18, ea, T1, T2, T3, T4, T5, S7, y1, nn_mxT, nn_clamp]
  · by_cases c4 : kd = 4
    · subst c4
      obtain ⟨x11, g, x14, hg, x0⟩ := w4 rfl
      obtain ⟨v1, v2⟩ := N.c rfl
      have i4 : Int32.ofNat 4 = 4 := rfl
      rw [i4] at S0
      have z4 : ((4 : Int32) = 4) = True := eq_true rfl
      have z1 : ((4 : Int32) = 1) = False := by decide
      have S14 := (si 14).trans x14
      have S11 := (si 11).trans x11
      have S1 : mh_r hC 2 1 = some (B + 5) := CC.s.1
      have S1g : mg hC (B + 5) 7 := CC.s.2.1
      have a0 := c_137L (d := d) CC (f := g) (x := 0) (x' := 0) rfl hg (by decide)
      rw [show 6 * g + 0 = 6 * g from rfl, x0] at a0
      have e2' : Int32.ofNat nt + 2 = Int32.ofNat (nt + 2) := nn_add (a := nt) (b := 2)
      have i0 : Int32.ofNat 0 = 0 := rfl
      have hnt : nt < 1000000 ∨ su = 0 := by
        rcases Nat.eq_zero_or_pos su with z | z
        · exact Or.inr z
        · exact Or.inl (by have := v2 z; omega)
      -- parameters
      have lp : ∀ f i h1, i + f = su → fLy hC h1 → mh_r h1 = mh_r h → (∀ b j, ¬ (b = 30 ∧ 18 * (q + 1) ≤ j ∧ j < 18 * (q + 1) + 18) → mh_i h1 b j = mh_i h b j) → (∀ x, x < 18 → mh_i h1 30 (18 * (q + 1) + x) = if nn ≤ x ∧ x < nn + i then Int32.ofNat (D.P (nt + 2 + 2 * (x - nn))) else mh_i h 30 (18 * q + x)) → ∃ h', fLy h h' ∧ mh_r h' = mh_r h ∧ (∀ b j, ¬ (b = 30 ∧ 18 * (q + 1) ≤ j ∧ j < 18 * (q + 1) + 18) → mh_i h' b j = mh_i h b j) ∧ (∀ x, x < 18 → mh_i h' 30 (18 * (q + 1) + x) = if nn ≤ x ∧ x < nn + su then Int32.ofNat (D.P (nt + 2 + 2 * (x - nn))) else mh_i h 30 (18 * q + x)) ∧ ∀ Q, mw (d + 1) 91 Q 130 [some (.ref 2), some (.int (Int32.ofNat (q + 1))), some (.int (Int32.ofNat (18 * q))), some (.ref St), some (.int (Int32.ofNat (nt + 2))), some (.int (Int32.ofNat i))] [] h1 = Q none h' := by
        intro f
        induction f with
        | zero =>
          intro i h1 hi x r o v
          have ei : i = su := by omega
          subst ei
          refine ⟨h1, fLy_t cpf x, r, o, v, fun Q => ?_⟩
          have GS1 : mg h1 St 9 := by rw [fLy_g x]; exact GS
          have S11' : mh_i h1 St 11 = Int32.ofNat i := (o St 11 (fun z => gSB z.1)).trans x11
          have le : (i ≤ i) = True := eq_true (Nat.le_refl _)
          clear C F CC FC cpf cpr cpi cpv N w1 w4 ent si cpg cpl x o v
          rw [s_91_130]
          simp (disch := omega) only [s_91_0, s_91_1, s_91_4, s_91_5, s_91_7, s_91_8, s_91_9, s_91_10, s_91_11, s_91_12, s_91_13, s_91_16, s_91_17, s_91_18, s_91_21, s_91_23, s_91_24, s_91_25, s_91_27, s_91_30, s_91_31, s_91_34, s_91_35, s_91_36, s_91_37, s_91_38, s_91_38n, s_91_38x, s_91_39, s_91_40, s_91_43, s_91_44, s_91_47, s_91_48, s_91_51, s_91_54, s_91_55, s_91_56, s_91_57, s_91_58, s_91_61, s_91_64, s_91_66, s_91_67, s_91_68, s_91_69, s_91_70, s_91_73, s_91_74, s_91_76, s_91_77, s_91_80, s_91_82, s_91_83, s_91_84, s_91_86, s_91_87, s_91_88, s_91_91, s_91_94, s_91_95, s_91_98, s_91_98x, s_91_99, s_91_100, s_91_103, s_91_104, s_91_107, s_91_108, s_91_111, s_91_112, s_91_115, s_91_116, s_91_119, s_91_120, s_91_123, s_91_124, s_91_125, s_91_127, s_91_128, s_91_132, s_91_133, s_91_136, s_91_139, s_91_140, s_91_143, s_91_145, s_91_146, s_91_147, s_91_148, s_91_149, s_91_150, s_91_151, s_91_154, s_91_155, s_91_157, s_91_158, s_91_159, s_91_162, s_91_165, s_91_167, s_91_168, s_91_170, s_91_171, s_91_172, s_91_172x, s_91_173, s_91_174, s_91_177, s_91_180, e_91, mv_i_1, mv_l_1, mv_a_1, mv_a_2, mv_a_3, mk2_n, mk2_i, mk2_l, mk2_a, mk2_u, mk2_x, mB_T, mB_F, mS_cons, mS_nil, mSB_T, mSB_F, mca_nil, mca_i, mca_l, mca_r, mca_u, mca_x, mcat_i, mcat_l, mcat_r, mcat_u, mcat_x, mK_some, mK_none, va_rf_s, va_rf_n, lgc_eq, lgc_lt, lgc_gt, lgc_ge, lgc_le, mrd_104, mrd_105, mrd_106, mrd_107, true_and, and_true, and_self, false_and, and_false, true_or, or_true, false_or, or_false, not_true_eq_false, not_false_eq_true, mgb, mga, mgr, mN, reduceCtorEq, ↓reduceIte, eq_self, ge_iff_le, gt_iff_lt, Nat.reduceAdd, Nat.reduceMul, Nat.reduceSub, Nat.reduceLT, Nat.reduceGT, Nat.reduceEqDiff, Nat.reduceLeDiff, Nat.left_eq_add, Nat.add_eq_left, Nat.reduceMod, Nat.reduceDiv, Nat.succ_ne_self, GS1, S11', nn_le, le]
        | succ f ih =>
          intro i h1 hi x r o v
          have hs : 0 < su := by omega
          have hm := v2 hs
          have GS1 : mg h1 St 9 := by rw [fLy_g x]; exact GS
          have S11' : mh_i h1 St 11 = Int32.ofNat su := (o St 11 (fun z => gSB z.1)).trans x11
          have C1 := CLC_L x CC
          have F1 := C1.F
          have G2' : mg h1 2 4 := by rw [fLy_g x]; exact G2
          have G30' : mg h1 30 100 := by rw [fLy_g x]; exact G30
          have L30' : mh_l h1 30 = 4500 := by rw [x.2.1]; exact L30
          have T13' : mh_r h1 2 13 = some 30 := by rw [r]; exact t13
          have a80' := c_80 (d := d) (p := q) F1 (by omega) ((o 21 q (by omega)).trans b1) (by rw [r]; exact r1) GS1 ((o St 3 (fun z => gSB z.1)).trans s3)
          rw [e1] at a80'
          obtain ⟨T1', T2', T3', T4', T5'⟩ := C1.t
          obtain ⟨y1, y2⟩ := C1.p (nt + 2 + 2 * i) (by omega)
          have le : (su ≤ i) = False := eq_false (by omega)
          have ea : Int32.ofNat (18 * (q + 1)) + Int32.ofNat nn = Int32.ofNat (18 * (q + 1) + nn) := nn_add
          have eb : Int32.ofNat (18 * (q + 1) + nn) + Int32.ofNat i = Int32.ofNat (18 * (q + 1) + nn + i) := nn_add
          have e2i : (2 : Int32) * Int32.ofNat i = Int32.ofNat (2 * i) := nn_mul (a := 2) (b := i)
          have ec : Int32.ofNat (nt + 2) + Int32.ofNat (2 * i) = Int32.ofNat (nt + 2 + 2 * i) := nn_add
          have ei : Int32.ofNat i + 1 = Int32.ofNat (i + 1) := nn_add (a := i) (b := 1)
          obtain ⟨h', z1, z2, z3, z4', z5⟩ := ih (i + 1) (mh_si h1 30 (18 * (q + 1) + nn + i) (Int32.ofNat (D.P (nt + 2 + 2 * i)))) (by omega) (fLy_t x (fLy_si (Or.inl ⟨by decide, by decide⟩))) r (fun b j w => by rw [hi_si, if_neg (fun z => w (by omega))]; exact o b j w) (fun y hy => by
            rw [hi_si]
            by_cases cy : y = nn + i
            · rw [if_pos ⟨rfl, by omega⟩, if_pos ⟨by omega, by omega⟩, show y - nn = i from by omega]
            · rw [if_neg (by omega), v y hy]
              by_cases c2 : nn ≤ y ∧ y < nn + i
              · rw [if_pos c2, if_pos ⟨c2.1, by omega⟩]
              · rw [if_neg c2, if_neg (by omega)])
          refine ⟨h', z1, z2, z3, z4', fun Q => ?_⟩
          rw [← z5 Q]
          clear C F CC FC cpf cpr cpi cpv N w1 w4 ent si cpg cpl x o v ih z1 z2 z3 z4' z5 C1 F1
          rw [s_91_130]
          simp (disch := omega) only [s_91_0, s_91_1, s_91_4, s_91_5, s_91_7, s_91_8, s_91_9, s_91_10, s_91_11, s_91_12, s_91_13, s_91_16, s_91_17, s_91_18, s_91_21, s_91_23, s_91_24, s_91_25, s_91_27, s_91_30, s_91_31, s_91_34, s_91_35, s_91_36, s_91_37, s_91_38, s_91_38n, s_91_38x, s_91_39, s_91_40, s_91_43, s_91_44, s_91_47, s_91_48, s_91_51, s_91_54, s_91_55, s_91_56, s_91_57, s_91_58, s_91_61, s_91_64, s_91_66, s_91_67, s_91_68, s_91_69, s_91_70, s_91_73, s_91_74, s_91_76, s_91_77, s_91_80, s_91_82, s_91_83, s_91_84, s_91_86, s_91_87, s_91_88, s_91_91, s_91_94, s_91_95, s_91_98, s_91_98x, s_91_99, s_91_100, s_91_103, s_91_104, s_91_107, s_91_108, s_91_111, s_91_112, s_91_115, s_91_116, s_91_119, s_91_120, s_91_123, s_91_124, s_91_125, s_91_127, s_91_128, s_91_132, s_91_133, s_91_136, s_91_139, s_91_140, s_91_143, s_91_145, s_91_146, s_91_147, s_91_148, s_91_149, s_91_150, s_91_151, s_91_154, s_91_155, s_91_157, s_91_158, s_91_159, s_91_162, s_91_165, s_91_167, s_91_168, s_91_170, s_91_171, s_91_172, s_91_172x, s_91_173, s_91_174, s_91_177, s_91_180, e_91, mv_i_1, mv_l_1, mv_a_1, mv_a_2, mv_a_3, mk2_n, mk2_i, mk2_l, mk2_a, mk2_u, mk2_x, mB_T, mB_F, mS_cons, mS_nil, mSB_T, mSB_F, mca_nil, mca_i, mca_l, mca_r, mca_u, mca_x, mcat_i, mcat_l, mcat_r, mcat_u, mcat_x, mK_some, mK_none, va_rf_s, va_rf_n, lgc_eq, lgc_lt, lgc_gt, lgc_ge, lgc_le, mrd_104, mrd_105, mrd_106, mrd_107, true_and, and_true, and_self, false_and, and_false, true_or, or_true, false_or, or_false, not_true_eq_false, not_false_eq_true, mgb, mga, mgr, mN, reduceCtorEq, ↓reduceIte, eq_self, ge_iff_le, gt_iff_lt, hk_si, hk_sj, hk_sr, hl_si, hl_sj, hl_sr, hn_si, hn_sj, hn_sr, hs_si, hs_sj, hs_sr, hi_sj, hi_sr, hj_si, hj_sr, hr_si, hr_sj, hi_si, hj_sj, hr_sr, mg_si, mg_sj, mg_sr, Nat.reduceAdd, Nat.reduceMul, Nat.reduceSub, Nat.reduceLT, Nat.reduceGT, Nat.reduceEqDiff, Nat.reduceLeDiff, Nat.left_eq_add, Nat.add_eq_left, Nat.reduceMod, Nat.reduceDiv, Nat.succ_ne_self, GS1, S11', nn_le, le, G2', T13', G30', L30', m18, es, a80', ea, eb, T1', T2', T3', T4', T5', e2i, ec, y1, ei, nn_mxT, nn_clamp]
      obtain ⟨h', z1, z2, z3, z4', z5⟩ := lp su 0 hC (by omega) fLy_id cpr cpi (fun x hx => by rw [if_neg (by omega)]; exact cpv x hx)
      refine ⟨h', z1, z2, z3, fun x hx => (z4' x hx).trans ?_, fun Q => ?_⟩
      · unfold NMv
        rw [if_neg (show ¬ (4 : Nat) = 1 by decide), if_pos (show (4 : Nat) = 4 from rfl)]
      · rw [ent Q, ← z5 Q, i0]
        clear C F CC FC cpf cpr cpi cpv N w1 w4 ent si cpg cpl lp z1 z2 z3 z4' z5
        simp (disch := omega) only [s_91_0, s_91_1, s_91_4, s_91_5, s_91_7, s_91_8, s_91_9, s_91_10, s_91_11, s_91_12, s_91_13, s_91_16, s_91_17, s_91_18, s_91_21, s_91_23, s_91_24, s_91_25, s_91_27, s_91_30, s_91_31, s_91_34, s_91_35, s_91_36, s_91_37, s_91_38, s_91_38n, s_91_38x, s_91_39, s_91_40, s_91_43, s_91_44, s_91_47, s_91_48, s_91_51, s_91_54, s_91_55, s_91_56, s_91_57, s_91_58, s_91_61, s_91_64, s_91_66, s_91_67, s_91_68, s_91_69, s_91_70, s_91_73, s_91_74, s_91_76, s_91_77, s_91_80, s_91_82, s_91_83, s_91_84, s_91_86, s_91_87, s_91_88, s_91_91, s_91_94, s_91_95, s_91_98, s_91_98x, s_91_99, s_91_100, s_91_103, s_91_104, s_91_107, s_91_108, s_91_111, s_91_112, s_91_115, s_91_116, s_91_119, s_91_120, s_91_123, s_91_124, s_91_125, s_91_127, s_91_128, s_91_132, s_91_133, s_91_136, s_91_139, s_91_140, s_91_143, s_91_145, s_91_146, s_91_147, s_91_148, s_91_149, s_91_150, s_91_151, s_91_154, s_91_155, s_91_157, s_91_158, s_91_159, s_91_162, s_91_165, s_91_167, s_91_168, s_91_170, s_91_171, s_91_172, s_91_172x, s_91_173, s_91_174, s_91_177, s_91_180, e_91, mv_i_1, mv_l_1, mv_a_1, mv_a_2, mv_a_3, mk2_n, mk2_i, mk2_l, mk2_a, mk2_u, mk2_x, mB_T, mB_F, mS_cons, mS_nil, mSB_T, mSB_F, mca_nil, mca_i, mca_l, mca_r, mca_u, mca_x, mcat_i, mcat_l, mcat_r, mcat_u, mcat_x, mK_some, mK_none, va_rf_s, va_rf_n, lgc_eq, lgc_lt, lgc_gt, lgc_ge, lgc_le, mrd_104, mrd_105, mrd_106, mrd_107, true_and, and_true, and_self, false_and, and_false, true_or, or_true, false_or, or_false, not_true_eq_false, not_false_eq_true, mgb, mga, mgr, mN, reduceCtorEq, ↓reduceIte, eq_self, ge_iff_le, gt_iff_lt, Nat.reduceAdd, Nat.reduceMul, Nat.reduceSub, Nat.reduceLT, Nat.reduceGT, Nat.reduceEqDiff, Nat.reduceLeDiff, Nat.left_eq_add, Nat.add_eq_left, Nat.reduceMod, Nat.reduceDiv, Nat.succ_ne_self, G2, GS, S0, z1, z4, S1, S1g, S14, a0, e2']
    · have z1 : (Int32.ofNat kd = 1) = False := (nn_eq (a := kd) (b := 1) (by omega) (by decide)).trans (eq_false c1)
      have z4 : (Int32.ofNat kd = 4) = False := (nn_eq (a := kd) (b := 4) (by omega) (by decide)).trans (eq_false c4)
      refine ⟨hC, cpf, cpr, cpi, fun x hx => (cpv x hx).trans ?_, fun Q => ?_⟩
      · unfold NMv
        rw [if_neg c1, if_neg c4]
      · rw [ent Q]
        clear C F CC FC cpf cpr cpi cpv N w1 w4 ent si cpg cpl
        simp (disch := omega) only [s_91_0, s_91_1, s_91_4, s_91_5, s_91_7, s_91_8, s_91_9, s_91_10, s_91_11, s_91_12, s_91_13, s_91_16, s_91_17, s_91_18, s_91_21, s_91_23, s_91_24, s_91_25, s_91_27, s_91_30, s_91_31, s_91_34, s_91_35, s_91_36, s_91_37, s_91_38, s_91_38n, s_91_38x, s_91_39, s_91_40, s_91_43, s_91_44, s_91_47, s_91_48, s_91_51, s_91_54, s_91_55, s_91_56, s_91_57, s_91_58, s_91_61, s_91_64, s_91_66, s_91_67, s_91_68, s_91_69, s_91_70, s_91_73, s_91_74, s_91_76, s_91_77, s_91_80, s_91_82, s_91_83, s_91_84, s_91_86, s_91_87, s_91_88, s_91_91, s_91_94, s_91_95, s_91_98, s_91_98x, s_91_99, s_91_100, s_91_103, s_91_104, s_91_107, s_91_108, s_91_111, s_91_112, s_91_115, s_91_116, s_91_119, s_91_120, s_91_123, s_91_124, s_91_125, s_91_127, s_91_128, s_91_130, s_91_132, s_91_133, s_91_136, s_91_139, s_91_140, s_91_143, s_91_145, s_91_146, s_91_147, s_91_148, s_91_149, s_91_150, s_91_151, s_91_154, s_91_155, s_91_157, s_91_158, s_91_159, s_91_162, s_91_165, s_91_167, s_91_168, s_91_170, s_91_171, s_91_172, s_91_172x, s_91_173, s_91_174, s_91_177, s_91_180, e_91, mv_i_1, mv_l_1, mv_a_1, mv_a_2, mv_a_3, mk2_n, mk2_i, mk2_l, mk2_a, mk2_u, mk2_x, mB_T, mB_F, mS_cons, mS_nil, mSB_T, mSB_F, mca_nil, mca_i, mca_l, mca_r, mca_u, mca_x, mcat_i, mcat_l, mcat_r, mcat_u, mcat_x, mK_some, mK_none, va_rf_s, va_rf_n, lgc_eq, lgc_lt, lgc_gt, lgc_ge, lgc_le, mrd_104, mrd_105, mrd_106, mrd_107, true_and, and_true, and_self, false_and, and_false, true_or, or_true, false_or, or_false, not_true_eq_false, not_false_eq_true, mgb, mga, mgr, mN, reduceCtorEq, ↓reduceIte, eq_self, ge_iff_le, gt_iff_lt, Nat.reduceAdd, Nat.reduceMul, Nat.reduceSub, Nat.reduceLT, Nat.reduceGT, Nat.reduceEqDiff, Nat.reduceLeDiff, Nat.left_eq_add, Nat.add_eq_left, Nat.reduceMod, Nat.reduceDiv, Nat.succ_ne_self, GS, S0, z1, z4]
end NMl
