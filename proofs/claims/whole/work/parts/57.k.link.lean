set_option maxRecDepth 100000
/-! the class's link, layEnd -/
/-- a point, as link sees it -/
def CKq (h : mh_H) (Pt : Nat → lpt) (q : Nat) : Prop := ∃ St, mh_r h 20 q = some St ∧ mg h St 9 ∧ mh_i h St 0 = Int32.ofNat (skN (Pt q).N) ∧ mh_i h 24 q = owI (Pt q).X.ow ∧ mh_i h 26 q = Int32.ofNat (Pt q).E ∧ (tK (Pt q).N = 8 → mh_i h 25 q = Int32.ofNat (Pt q).M)
def lnW (b j : Nat) : Prop := 27 ≤ b ∧ b ≤ 29
section LNl
variable {d : Nat} {h h1 h2 : mh_H} {D : lyD} {Pt : Nat → lpt} {e : Nat}
theorem skN_8 {n : Nat} (h3 : 3 ≤ tK n) : (skN n = 5 ↔ tK n = 8) ∧ (skN n = 6 ↔ tK n = 9) ∧ skN n < 100 := by
  have := tK_b (x := n)
  unfold skN
  split
  · exact ⟨⟨fun z => by omega, fun z => by omega⟩, ⟨fun z => by omega, fun z => by omega⟩, by omega⟩
  · exact ⟨⟨fun z => by omega, fun z => by omega⟩, ⟨fun z => by omega, fun z => by omega⟩, by omega⟩
/-- the loop of link -/
theorem l_93 (he : e ≤ 249) (ow : ∀ q o, q < e → (Pt q).X.ow = some o → OWq D Pt q o) (ow0 : ∀ q, q < e → (Pt q).X.ow = none → (Pt q).B = e) (bd : ∀ q, q < e → (q < (Pt q).E ∧ (Pt q).E ≤ (Pt q).B ∧ (Pt q).B ≤ e) ∧ 3 ≤ tK (Pt q).N ∧ (tK (Pt q).N = 8 → (Pt q).M ≤ (Pt q).E)) : ∀ f p h x2 x3, p + f = e → CF h → mh_i h 2 2 = Int32.ofNat (e + 1) → (∀ q, q < e → CKq h Pt q) → (∀ q, q < p → mh_i h 29 q = Int32.ofNat (bh Pt e q) ∧ mh_i h 27 q = Int32.ofNat (fstP Pt e q) ∧ mh_i h 28 q = Int32.ofNat (othP Pt e q)) → ∃ h', fG lnW h h' ∧ (∀ q, q < e → mh_i h' 29 q = Int32.ofNat (bh Pt e q) ∧ mh_i h' 27 q = Int32.ofNat (fstP Pt e q) ∧ mh_i h' 28 q = Int32.ofNat (othP Pt e q)) ∧ ∀ Q, mw (d + 1) 93 Q 2 [some (.ref 2), some (.int (Int32.ofNat p)), x2, x3] [] h = Q none h' := by
  have owl : ∀ q o, q < e → (Pt q).X.ow = some o → o < q := fun q o hq eo => (ow q o hq eo).2.1
  intro f
  induction f with
  | zero =>
    intro p h x2 x3 hf F ec P done
    refine ⟨h, fG_id, fun q hq => done q (by omega), fun Q => ?_⟩
    have g2 := F.g 2 4 20 (by decide +kernel)
    have es : Int32.ofNat (e + 1) - 1 = Int32.ofNat e := nn_sub (a := e + 1) (b := 1) (by omega)
    have le : (e ≤ p) = True := eq_true (by omega)
    clear F P done
    rw [s_93_2]
    simp (disch := omega) only [s_93_0, s_93_1, s_93_3, s_93_4, s_93_7, s_93_8, s_93_9, s_93_12, s_93_13, s_93_16, s_93_17, s_93_18, s_93_18n, s_93_18x, s_93_19, s_93_20, s_93_23, s_93_24, s_93_25, s_93_28, s_93_29, s_93_29x, s_93_30, s_93_31, s_93_32, s_93_35, s_93_38, s_93_39, s_93_42, s_93_43, s_93_43x, s_93_44, s_93_47, s_93_48, s_93_49, s_93_52, s_93_53, s_93_53x, s_93_54, s_93_57, s_93_58, s_93_59, s_93_62, s_93_63, s_93_64, s_93_67, s_93_68, s_93_68x, s_93_69, s_93_70, s_93_71, s_93_74, s_93_75, s_93_76, s_93_79, s_93_80, s_93_80x, s_93_81, s_93_82, s_93_83, s_93_86, s_93_87, s_93_90, s_93_91, s_93_94, s_93_95, s_93_96, s_93_97, s_93_98, s_93_99, s_93_100, s_93_103, s_93_104, s_93_107, s_93_108, s_93_108x, s_93_109, s_93_112, s_93_113, s_93_116, s_93_117, s_93_117x, s_93_118, s_93_121, s_93_122, s_93_125, s_93_126, s_93_127, s_93_128, s_93_129, s_93_130, s_93_133, s_93_134, s_93_137, s_93_139, s_93_142, s_93_143, s_93_146, s_93_147, s_93_148, s_93_149, s_93_150, s_93_153, s_93_154, s_93_157, s_93_158, s_93_158x, s_93_159, s_93_160, s_93_163, s_93_164, s_93_164x, s_93_165, s_93_168, s_93_169, s_93_172, s_93_173, s_93_174, s_93_177, s_93_178, s_93_178x, s_93_179, s_93_180, s_93_183, s_93_186, e_93, mv_i_1, mv_l_1, mv_a_1, mv_a_2, mv_a_3, mk2_n, mk2_i, mk2_l, mk2_a, mk2_u, mk2_x, mB_T, mB_F, mS_cons, mS_nil, mSB_T, mSB_F, mca_nil, mca_i, mca_l, mca_r, mca_u, mca_x, mcat_i, mcat_l, mcat_r, mcat_u, mcat_x, mK_some, mK_none, va_rf_s, va_rf_n, lgc_eq, lgc_lt, lgc_gt, lgc_ge, lgc_le, mrd_104, mrd_105, mrd_106, mrd_107, true_and, and_true, and_self, false_and, and_false, true_or, or_true, false_or, or_false, not_true_eq_false, not_false_eq_true, mgb, mga, mgr, mN, reduceCtorEq, ↓reduceIte, eq_self, ge_iff_le, gt_iff_lt, Nat.reduceAdd, Nat.reduceMul, Nat.reduceSub, Nat.reduceLT, Nat.reduceGT, Nat.reduceEqDiff, Nat.reduceLeDiff, Nat.left_eq_add, Nat.add_eq_left, Nat.reduceMod, Nat.reduceDiv, Nat.succ_ne_self, g2, ec, es, nn_le, le]
  | succ f ih =>
    intro p h x2 x3 hf F ec P done
    have hp : p < e := by omega
    obtain ⟨St, p1, p2, p3, p4, p5, p6⟩ := P p hp
    obtain ⟨⟨b1, b2, b3⟩, b4, b5⟩ := bd p hp
    obtain ⟨k5, k6, k7⟩ := skN_8 b4
    -- where its BLOCK ends, what comes behind that
    have key : ∃ Bd bb, Bd ≤ 1000 ∧ (∀ Q, mcall d 94 [.ref 2, .int (Int32.ofNat p)] h Q = Q (some (.int (Int32.ofNat Bd))) h) ∧ (¬ (Pt p).E < Bd → ∀ Q, mcall d 95 [.ref 2, .int (mh_i h 24 p)] h Q = Q (some (.int (Int32.ofNat bb))) h) ∧ (if (Pt p).E < Bd then (Pt p).E else bb) = bh Pt e p := by
      cases ho : (Pt p).X.ow with
      | none =>
        have eB := ow0 p hp ho
        rw [ho] at p4
        refine ⟨e + 1, e, by omega, c_94n F (by omega) p4 ec, fun z => absurd z (by omega), ?_⟩
        rw [if_pos (by omega), bh_e owl hp]
        by_cases c : (Pt p).E < (Pt p).B
        · rw [if_pos c]
        · rw [if_neg c, ho]
          show (Pt p).E = e
          omega
      | some o =>
        obtain ⟨o1, o2, o3, o4⟩ := ow p o hp ho
        obtain ⟨So, q1, q2, q3, q4, q5, q6⟩ := P o (by omega)
        obtain ⟨⟨d1, d2, d3⟩, d4, d5⟩ := bd o (by omega)
        obtain ⟨j5, j6, j7⟩ := skN_8 d4
        rw [ho] at p4
        have p4' : mh_i h 24 p = Int32.ofNat o := p4
        obtain ⟨dn1, -, -⟩ := done o o2
        have a95 := c_95s (d := d) F (show o < 250 by omega) q1 q2 q3 j7
        have eB : (if skN (Pt o).N = 5 ∧ p < (Pt o).M then (Pt o).M else (Pt o).E) = (Pt p).B := by
          rcases o4 with ⟨z1, z2, -⟩ | ⟨z1, c, cc, b1', bs1, qq, -, z2⟩ | ⟨z1, z2, -⟩
          · rw [if_neg (fun z => by have := j5.mp z.1; omega), z2]
          · rcases z2 with ⟨z2, z3, -⟩ | ⟨z2, z3, -⟩
            · rw [if_pos ⟨j5.mpr z1, z2⟩, z3]
            · rw [if_neg (fun z => by omega), z3]
          · rw [if_neg (fun z => by have := j5.mp z.1; omega), z2]
        have cM : (if tK (Pt o).N = 8 then (Pt o).M else 0) < 1000 := by
          by_cases c8 : tK (Pt o).N = 8
          · rw [if_pos c8]; have := d5 c8; omega
          · rw [if_neg c8]; decide
        have a94 := c_94s (d := d) (M := if tK (Pt o).N = 8 then (Pt o).M else 0) (E := (Pt o).E) F (show p < 250 by omega) (show o < 250 by omega) p4' q1 q2 q3 j7 (fun z => by rw [if_pos (j5.mp z)]; exact q6 (j5.mp z)) cM q5
        have eB' : (if skN (Pt o).N = 5 ∧ p < (if tK (Pt o).N = 8 then (Pt o).M else 0) then (if tK (Pt o).N = 8 then (Pt o).M else 0) else (Pt o).E) = (Pt p).B := by
          by_cases c8 : tK (Pt o).N = 8
          · rw [if_pos c8]; exact eB
          · rw [if_neg (fun z => c8 (j5.mp z.1))]
            rw [if_neg (fun z => c8 (j5.mp z.1))] at eB
            exact eB
        rw [eB'] at a94
        refine ⟨(Pt p).B, if tK (Pt o).N = 9 then o else bh Pt e o, by omega, a94, fun _ Q => ?_, ?_⟩
        · rw [p4', a95 Q]
          by_cases c9 : tK (Pt o).N = 9
          · rw [if_pos (j6.mpr c9), if_pos c9]
          · rw [if_neg (fun z => c9 (j6.mp z)), if_neg c9, dn1]
        · rw [bh_e owl hp, ho]
    obtain ⟨Bd, bb, kB, a94, a95, eb⟩ := key
    have t1 := k_93a (d := d) (x2 := x2) (x3 := x3) (cnt := e + 1) F (show p + 1 < e + 1 by omega) (by omega) ec p1 p5 (by omega) kB a94 a95
    rw [eb] at t1
    have lf : fG lnW h (lk3 h p (Int32.ofNat (bh Pt e p))) := by
      unfold lk3
      exact fG_t (fG_si ⟨by decide, by decide⟩) (fG_t (fG_si ⟨by decide, by decide⟩) (fG_si ⟨by decide, by decide⟩))
    have li : ∀ y j, ¬ (27 ≤ y ∧ y ≤ 29 ∧ j = p) → mh_i (lk3 h p (Int32.ofNat (bh Pt e p))) y j = mh_i h y j := fun y j w => by
      unfold lk3
      rw [hi_si, if_neg (by omega), hi_si, if_neg (by omega), hi_si, if_neg (by omega)]
    have lv : mh_i (lk3 h p (Int32.ofNat (bh Pt e p))) 29 p = Int32.ofNat (bh Pt e p) ∧ mh_i (lk3 h p (Int32.ofNat (bh Pt e p))) 27 p = Int32.ofNat (bh Pt e p) ∧ mh_i (lk3 h p (Int32.ofNat (bh Pt e p))) 28 p = Int32.ofNat (bh Pt e p) := by
      unfold lk3
      exact ⟨by rw [hi_si, if_neg (by omega), hi_si, if_neg (by omega), hi_si, if_pos ⟨rfl, rfl⟩], by rw [hi_si, if_neg (by omega), hi_si, if_pos ⟨rfl, rfl⟩], by rw [hi_si, if_pos ⟨rfl, rfl⟩]⟩
    generalize lk3 h p (Int32.ofNat (bh Pt e p)) = hK at t1 lf li lv
    have FK : CF hK := ⟨fun t ht => ⟨by rw [fG_me lf]; exact (F.k t ht).1, by rw [lf.2.1]; exact (F.k t ht).2⟩, fun t ht => by rw [lf.2.2.1]; exact F.r t ht⟩
    have stn : ∀ b j, mg h b 9 → mh_i hK b j = mh_i h b j := fun b j gb => fG_i lf (fun z => by
      have z' : 27 ≤ b ∧ b ≤ 29 := z
      exact st_cy F gb j (Or.inl ⟨by omega, by omega⟩))
    have cM : (if tK (Pt p).N = 8 then (Pt p).M else 0) ≤ 1000 := by
      by_cases c8 : tK (Pt p).N = 8
      · rw [if_pos c8]; have := b5 c8; omega
      · rw [if_neg c8]; decide
    obtain ⟨h', y3, w1, w2, w3, w4⟩ := k_93b (d := d + 1) (x3 := x3) (St := St) (kd := skN (Pt p).N) (M := if tK (Pt p).N = 8 then (Pt p).M else 0) (E := (Pt p).E) FK (show p < 249 by omega) (by rw [fG_me lf]; exact p2) ((stn St 0 p2).trans p3) k7 (fun z => by rw [if_pos (k5.mp z)]; exact (li 25 p (by omega)).trans (p6 (k5.mp z))) cM ((li 26 p (by omega)).trans p5) (by omega)
    have e27 : mh_i h' 27 p = Int32.ofNat (fstP Pt e p) := by
      rw [w2, lv.2.1]
      unfold fstP
      by_cases c8 : tK (Pt p).N = 8
      · have n6 : ¬ skN (Pt p).N = 6 := fun z => by have := k6.mp z; omega
        rw [if_pos (k5.mpr c8), if_pos c8, if_pos c8, if_neg n6, if_neg (show ¬ tK (Pt p).N = 9 by omega)]
        by_cases cp : p + 1 < (Pt p).M
        · rw [if_pos cp, if_pos cp]
        · rw [if_neg cp, if_neg cp]
      · have n5 : ¬ skN (Pt p).N = 5 := fun z => c8 (k5.mp z)
        rw [if_neg n5, if_neg c8]
        by_cases c9 : tK (Pt p).N = 9
        · rw [if_pos (k6.mpr c9), if_pos c9]
          by_cases cp : p + 1 < (Pt p).E
          · rw [if_pos cp, if_pos cp]
          · rw [if_neg cp, if_neg cp]
        · have n6 : ¬ skN (Pt p).N = 6 := fun z => c9 (k6.mp z)
          rw [if_neg n6, if_neg c9]
          by_cases cp : p + 1 < (Pt p).E
          · rw [if_pos cp, if_pos cp]
          · rw [if_neg cp, if_neg cp]
    have e28 : mh_i h' 28 p = Int32.ofNat (othP Pt e p) := by
      rw [w3, lv.2.2]
      unfold othP
      by_cases c8 : tK (Pt p).N = 8
      · rw [if_pos c8]
        by_cases cl : (Pt p).M < (Pt p).E
        · rw [if_pos ⟨k5.mpr c8, cl⟩, if_pos ⟨c8, cl⟩]
        · rw [if_neg (fun z => cl z.2), if_neg (fun z => cl z.2)]
      · rw [if_neg (fun z => c8 (k5.mp z.1)), if_neg (fun z => c8 z.1)]
    have wf : fG lnW hK h' := fG_w w1 (fun b j z => by unfold lkW3 at z; exact ⟨by omega, by omega⟩)
    have wi : ∀ y j, ¬ ((y = 27 ∨ y = 28) ∧ j = p) → mh_i h' y j = mh_i hK y j := fun y j w => fG_i w1 w
    have ff := fG_t lf wf
    have F' : CF h' := ⟨fun t ht => ⟨by rw [fG_me ff]; exact (F.k t ht).1, by rw [ff.2.1]; exact (F.k t ht).2⟩, fun t ht => by rw [ff.2.2.1]; exact F.r t ht⟩
    obtain ⟨h3, z1, z2, z3⟩ := ih (p + 1) h' (some (.ref St)) y3 (by omega) F' ((wi 2 2 (by omega)).trans ((li 2 2 (by omega)).trans ec)) (fun q hq => by
      obtain ⟨Sq, u1, u2, u3, u4, u5, u6⟩ := P q hq
      refine ⟨Sq, by rw [ff.2.2.1]; exact u1, by rw [fG_me ff]; exact u2, ?_, (wi 24 q (by omega)).trans ((li 24 q (by omega)).trans u4), (wi 26 q (by omega)).trans ((li 26 q (by omega)).trans u5), fun z => (wi 25 q (by omega)).trans ((li 25 q (by omega)).trans (u6 z))⟩
      exact (fG_i ff (fun z => by
        have z' : 27 ≤ Sq ∧ Sq ≤ 29 := z
        exact st_cy F u2 0 (Or.inl ⟨by omega, by omega⟩))).trans u3) (fun q hq => by
      by_cases c : q = p
      · subst c
        exact ⟨(wi 29 q (by omega)).trans lv.1, e27, e28⟩
      · obtain ⟨v1, v2, v3⟩ := done q (by omega)
        exact ⟨(wi 29 q (by omega)).trans ((li 29 q (by omega)).trans v1), (wi 27 q (by omega)).trans ((li 27 q (by omega)).trans v2), (wi 28 q (by omega)).trans ((li 28 q (by omega)).trans v3)⟩)
    exact ⟨h3, fG_t ff z1, z2, fun Q => (t1 Q).trans ((w4 Q).trans (z3 Q))⟩
end LNl
