set_option maxRecDepth 100000
/-! THE REFERENCE'S BLOCKs ARE lyQ -/
section CKl
variable {d : Nat} {h h1 h2 : mh_H} {nm : Nat → Nat} {KN : Nat → Prop} {K : Nat → Int32} {D : lyD} {FK : Nat → Nat} {T : tr} {Sc : cps} {X : lcx} {L L' : cen} {b b' id bs p p1 bk k pk n m cnt f s s1 bl N N' c : Nat} {t r cs tA : tr} {w : Nat × Nat} {q : lyq} {rl fb : Bool}
/-- the rows of a BLOCK -/
def RWf (nm : Nat → Nat) (KN : Nat → Prop) (D : lyD) (K : Nat → Int32) (m cnt : Nat) (FK : Nat → Nat) (T : tr) (Sc : cps) (f : Nat) : Prop := ∀ (fb : Bool) (t : tr) (k s p : Nat) (L : cen) (b : Nat) (X : lcx) (id bs bk : Nat) (h : mh_H) (bl N' s' c dd : Nat) (tA : tr) (x5 x6 x7 : Int32), RLC h nm KN D K m cnt FK T → RLS h nm KN X L b id bs p bk → stR D.sp Sc X.fu N' fb t s s' L b → X.fu < D.c → ts t + rkF D X.fu ≤ f → trR h nm t k (Int32.ofNat bl) → bl < k → k + ts t = bl + 1 + ts tA → trR h nm tA (bl + 1) (Int32.ofNat bl) → mh_i h 97 bl = Int32.ofNat (1 + ts tA) → bl + 1 + ts tA ≤ cnt → (0 < ts t → lsI tA (bl + 1) = lsI t k) → (tvT K m t ∧ nmK KN t ∧ syT t) → chW (mh_i h 96) c bl (FK X.fu) → 0 < bl → (fb = true → bl = D.B X.fu) → (fb = false → D.B X.fu < bl) → 3 * (250 - p) + 10 ≤ dd → ∃ h' y8, BPz h h' D nm f fb t k bl s p L b X bs bk (lyQ D f fb t p L b X) ∧ ∀ Q, mw dd 346 Q 23 [some (.ref 81), some (.int (Int32.ofNat bl)), some (.int (Int32.ofNat (FK X.fu))), some (.int (owI X.ow)), some (.int (Int32.ofNat id)), some (.int x5), some (.int x6), some (.int x7), some (.int (Int32.ofNat k))] [] h = mw dd 346 Q 62 [some (.ref 81), some (.int (Int32.ofNat bl)), some (.int (Int32.ofNat (FK X.fu))), some (.int (owI X.ow)), some (.int (Int32.ofNat id)), some (.int x5), some (.int x6), some (.int x7), some (.int y8)] [] h'
theorem BL_of (R : RWf nm KN D K m cnt FK T Sc f) : BLf nm KN D K m cnt FK T Sc f := by
  intro fb t s p L b X id bs bk h bl N' s' c dd C S st hX hf A sA hA tv cw hb fbT fbF hd
  obtain ⟨h', y8, BP, run⟩ := R fb t (bl + 1) s p L b X id bs bk h bl N' s' c dd t (mh_i h 81 42) (mh_i h 81 45) (mh_i h 81 46) C S st hX hf A (by omega) rfl A sA hA (fun _ => rfl) tv cw hb fbT fbF hd
  have F := S.R.F
  have g := F.g 81 14 70 (by decide +kernel)
  have F' := RF_G BP.f F
  have g' := F'.g 81 14 70 (by decide +kernel)
  have e1' : ∀ k, Int32.ofNat k + 1 = Int32.ofNat (k + 1) := fun k => nn_add (a := k) (b := 1)
  have o : ∀ y j, ¬ (y = 81 ∧ (j = 42 ∨ j = 45 ∨ j = 46)) → mh_i (mh_si (mh_si (mh_si h' 81 42 (mh_i h 81 42)) 81 45 (mh_i h 81 45)) 81 46 (mh_i h 81 46)) y j = mh_i h' y j := fun y j z => by
    rw [hi_si, if_neg (by omega), hi_si, if_neg (by omega), hi_si, if_neg (by omega)]
  have v : mh_i (mh_si (mh_si (mh_si h' 81 42 (mh_i h 81 42)) 81 45 (mh_i h 81 45)) 81 46 (mh_i h 81 46)) 81 42 = mh_i h 81 42 ∧ mh_i (mh_si (mh_si (mh_si h' 81 42 (mh_i h 81 42)) 81 45 (mh_i h 81 45)) 81 46 (mh_i h 81 46)) 81 45 = mh_i h 81 45 ∧ mh_i (mh_si (mh_si (mh_si h' 81 42 (mh_i h 81 42)) 81 45 (mh_i h 81 45)) 81 46 (mh_i h 81 46)) 81 46 = mh_i h 81 46 := ⟨by rw [hi_si, if_neg (by omega), hi_si, if_neg (by omega), hi_si, if_pos ⟨rfl, rfl⟩], by rw [hi_si, if_neg (by omega), hi_si, if_pos ⟨rfl, rfl⟩], by rw [hi_si, if_pos ⟨rfl, rfl⟩]⟩
  have fo : fG lyWr h' (mh_si (mh_si (mh_si h' 81 42 (mh_i h 81 42)) 81 45 (mh_i h 81 45)) 81 46 (mh_i h 81 46)) := fG_t (fG_si (Or.inr ⟨rfl, Or.inr ⟨by decide, by decide⟩⟩)) (fG_t (fG_si (Or.inr ⟨rfl, Or.inr ⟨by decide, by decide⟩⟩)) (fG_si (Or.inr ⟨rfl, Or.inr ⟨by decide, by decide⟩⟩)))
  have fin : ∀ Q, mcall dd 346 [.ref 81, .int (Int32.ofNat bl), .int (Int32.ofNat (FK X.fu)), .int (owI X.ow), .int (Int32.ofNat id)] h Q = Q none (mh_si (mh_si (mh_si h' 81 42 (mh_i h 81 42)) 81 45 (mh_i h 81 45)) 81 46 (mh_i h 81 46)) := fun Q => by
    have ent : mcall dd 346 [.ref 81, .int (Int32.ofNat bl), .int (Int32.ofNat (FK X.fu)), .int (owI X.ow), .int (Int32.ofNat id)] h Q = mw dd 346 Q 23 [some (.ref 81), some (.int (Int32.ofNat bl)), some (.int (Int32.ofNat (FK X.fu))), some (.int (owI X.ow)), some (.int (Int32.ofNat id)), some (.int (mh_i h 81 42)), some (.int (mh_i h 81 45)), some (.int (mh_i h 81 46)), some (.int (Int32.ofNat (bl + 1)))] [] h := by
      clear C S F F' BP run o v fo A cw tv
      simp (disch := omega) only [s_346_0, s_346_1, s_346_4, s_346_6, s_346_7, s_346_10, s_346_12, s_346_13, s_346_16, s_346_18, s_346_19, s_346_20, s_346_21, s_346_25, s_346_26, s_346_27, s_346_30, s_346_33, s_346_34, s_346_37, s_346_40, s_346_41, s_346_43, s_346_44, s_346_45, s_346_46, s_346_48, s_346_51, s_346_52, s_346_54, s_346_57, s_346_59, s_346_62, s_346_63, s_346_65, s_346_68, s_346_69, s_346_71, s_346_74, s_346_75, s_346_77, s_346_80, e_346, mv_i_1, mv_l_1, mv_a_1, mv_a_2, mv_a_3, mk2_n, mk2_i, mk2_l, mk2_a, mk2_u, mk2_x, mB_T, mB_F, mS_cons, mS_nil, mSB_T, mSB_F, mca_nil, mca_i, mca_l, mca_r, mca_u, mca_x, mcat_i, mcat_l, mcat_r, mcat_u, mcat_x, mK_some, mK_none, va_rf_s, va_rf_n, lgc_eq, lgc_lt, lgc_gt, lgc_ge, lgc_le, mrd_104, mrd_105, mrd_106, mrd_107, true_and, and_true, and_self, false_and, and_false, true_or, or_true, false_or, or_false, not_true_eq_false, not_false_eq_true, mgb, mga, mgr, mN, reduceCtorEq, ↓reduceIte, eq_self, ge_iff_le, gt_iff_lt, Nat.reduceAdd, Nat.reduceMul, Nat.reduceSub, Nat.reduceLT, Nat.reduceGT, Nat.reduceEqDiff, Nat.reduceLeDiff, Nat.left_eq_add, Nat.add_eq_left, Nat.reduceMod, Nat.reduceDiv, Nat.succ_ne_self, g, e1']
    refine ent.trans ((run Q).trans ?_)
    clear C S F F' BP run o v fo A cw tv ent
    simp (disch := omega) only [s_346_0, s_346_1, s_346_4, s_346_6, s_346_7, s_346_10, s_346_12, s_346_13, s_346_16, s_346_18, s_346_19, s_346_20, s_346_21, s_346_23, s_346_25, s_346_26, s_346_27, s_346_30, s_346_33, s_346_34, s_346_37, s_346_40, s_346_41, s_346_43, s_346_44, s_346_45, s_346_46, s_346_48, s_346_51, s_346_52, s_346_54, s_346_57, s_346_59, s_346_62, s_346_63, s_346_65, s_346_68, s_346_69, s_346_71, s_346_74, s_346_75, s_346_77, s_346_80, e_346, mv_i_1, mv_l_1, mv_a_1, mv_a_2, mv_a_3, mk2_n, mk2_i, mk2_l, mk2_a, mk2_u, mk2_x, mB_T, mB_F, mS_cons, mS_nil, mSB_T, mSB_F, mca_nil, mca_i, mca_l, mca_r, mca_u, mca_x, mcat_i, mcat_l, mcat_r, mcat_u, mcat_x, mK_some, mK_none, va_rf_s, va_rf_n, lgc_eq, lgc_lt, lgc_gt, lgc_ge, lgc_le, mrd_104, mrd_105, mrd_106, mrd_107, true_and, and_true, and_self, false_and, and_false, true_or, or_true, false_or, or_false, not_true_eq_false, not_false_eq_true, mgb, mga, mgr, mN, reduceCtorEq, ↓reduceIte, eq_self, ge_iff_le, gt_iff_lt, hk_si, hk_sj, hk_sr, hl_si, hl_sj, hl_sr, hn_si, hn_sj, hn_sr, hs_si, hs_sj, hs_sr, hi_sj, hi_sr, hj_si, hj_sr, hr_si, hr_sj, hi_si, hj_sj, hr_sr, mg_si, mg_sj, mg_sr, Nat.reduceAdd, Nat.reduceMul, Nat.reduceSub, Nat.reduceLT, Nat.reduceGT, Nat.reduceEqDiff, Nat.reduceLeDiff, Nat.left_eq_add, Nat.add_eq_left, Nat.reduceMod, Nat.reduceDiv, Nat.succ_ne_self, g']
  generalize mh_si (mh_si (mh_si h' 81 42 (mh_i h 81 42)) 81 45 (mh_i h 81 45)) 81 46 (mh_i h 81 46) = h3 at o v fo fin
  refine ⟨h3, BPz.of ⟨fG_t BP.f fo, kpR_t BP.k ⟨fun y j u1 u2 _ => o y j (by omega), fun y j u1 u2 _ => o y j (by omega), fun y j u1 u2 _ => o y j (by omega), fun j _ => o _ j (by omega), fun j _ => o _ j (by omega)⟩ (Nat.le_refl _) (Nat.le_refl _), fun z => ?_, fun z => ?_, fun z Pt ly r r1 r2 => ?_⟩, v, fin⟩
  · rw [o 81 47 (by omega), o 81 48 (by omega)]
    exact BP.g z
  · rw [o 81 47 (by omega), o 81 33 (by omega), o 81 43 (by omega), o 81 44 (by omega), o 81 48 (by omega)]
    exact BP.o z
  · obtain ⟨w1, w2⟩ := BP.r z Pt ly r r1 r2
    have kk : kpR 250 0 h' h3 := ⟨fun y j u1 u2 u3 => absurd u3 (Nat.not_lt_zero _), fun y j u1 u2 _ => o y j (by omega), fun y j u1 u2 _ => o y j (by omega), fun j _ => o _ j (by omega), fun j _ => o _ j (by omega)⟩
    exact ⟨RPo_k kk (by have := (BP.o z).2.2.2.2.1; omega) w1, (o 102 r (by omega)).trans w2⟩
theorem nxE_ll : L.length ≤ (nxE n cs L).length := by
  unfold nxE
  split
  · split
    · show L.length ≤ L.length + 1; omega
    · exact Nat.le_refl _
  · split
    · split
      · show L.length ≤ L.length + 1; omega
      · exact Nat.le_refl _
    · exact Nat.le_refl _
theorem RW_all (STg : ∀ g, g < D.c → ∃ k', stR D.sp Sc g N true (D.FT g) (D.S g) k' (D.FP g) (D.FP g).length) : ∀ f, RWf nm KN D K m cnt FK T Sc f := by
  -- a row without statements
  have lf : ∀ f (u : Unit) (fb : Bool) (k s p : Nat) (L : cen) (b : Nat) (X : lcx) (id bs bk : Nat) (h : mh_H) (bl dd : Nat) (tA : tr) (x5 x6 x7 : Int32), RLC h nm KN D K m cnt FK T → RLS h nm KN X L b id bs p bk → k + ts (Lean.RArray.leaf ()) = bl + 1 + ts tA → mh_i h 97 bl = Int32.ofNat (1 + ts tA) → bl + 1 + ts tA ≤ cnt → 1 ≤ dd → ∃ h' y8, BPz h h' D nm f fb (.leaf u) k bl s p L b X bs bk (lyQ D f fb (.leaf u) p L b X) ∧ ∀ Q, mw dd 346 Q 23 [some (.ref 81), some (.int (Int32.ofNat bl)), some (.int (Int32.ofNat (FK X.fu))), some (.int (owI X.ow)), some (.int (Int32.ofNat id)), some (.int x5), some (.int x6), some (.int x7), some (.int (Int32.ofNat k))] [] h = mw dd 346 Q 62 [some (.ref 81), some (.int (Int32.ofNat bl)), some (.int (Int32.ofNat (FK X.fu))), some (.int (owI X.ow)), some (.int (Int32.ofNat id)), some (.int x5), some (.int x6), some (.int x7), some (.int y8)] [] h' := by
    intro f u fb k s p L b X id bs bk h bl dd tA x5 x6 x7 C S hk sA hA hd
    have hk' : k + 0 = bl + 1 + ts tA := hk
    have e : lyQ D f fb (.leaf u) p L b X = ((0, 0), p) := by cases f <;> rfl
    rw [e]
    have q := S.q
    have hc := C.c
    have F := S.R.F
    have g := F.g 81 14 70 (by decide +kernel)
    refine ⟨h, Int32.ofNat k, BPz.of ⟨fG_id, kpR_r, fun z => absurd rfl z, fun _ => ⟨S.z, S.p, rfl, ⟨bk, Nat.le_refl _, Nat.le_refl _, S.k⟩, q.2.2, Nat.le_refl _, S.y⟩, fun _ Pt _ r r1 r2 => absurd r2 (by show ¬ r < p; omega)⟩, fun Q => ?_⟩
    obtain ⟨d, rfl⟩ : ∃ d, dd = d + 1 := ⟨dd - 1, by omega⟩
    have a0 := c_333 (d := d) (k := bl) (z := 1 + ts tA) F (by omega) sA
    have le : (bl + (1 + ts tA) ≤ k) = True := eq_true (by omega)
    clear F S C
    rw [s_346_23]
    simp (disch := omega) only [s_346_0, s_346_1, s_346_4, s_346_6, s_346_7, s_346_10, s_346_12, s_346_13, s_346_16, s_346_18, s_346_19, s_346_20, s_346_21, s_346_25, s_346_26, s_346_27, s_346_30, s_346_33, s_346_34, s_346_37, s_346_40, s_346_41, s_346_43, s_346_44, s_346_45, s_346_46, s_346_48, s_346_51, s_346_52, s_346_54, s_346_57, s_346_59, s_346_63, s_346_65, s_346_68, s_346_69, s_346_71, s_346_74, s_346_75, s_346_77, s_346_80, e_346, mv_i_1, mv_l_1, mv_a_1, mv_a_2, mv_a_3, mk2_n, mk2_i, mk2_l, mk2_a, mk2_u, mk2_x, mB_T, mB_F, mS_cons, mS_nil, mSB_T, mSB_F, mca_nil, mca_i, mca_l, mca_r, mca_u, mca_x, mcat_i, mcat_l, mcat_r, mcat_u, mcat_x, mK_some, mK_none, va_rf_s, va_rf_n, lgc_eq, lgc_lt, lgc_gt, lgc_ge, lgc_le, mrd_104, mrd_105, mrd_106, mrd_107, true_and, and_true, and_self, false_and, and_false, true_or, or_true, false_or, or_false, not_true_eq_false, not_false_eq_true, mgb, mga, mgr, mN, reduceCtorEq, ↓reduceIte, eq_self, ge_iff_le, gt_iff_lt, Nat.reduceAdd, Nat.reduceMul, Nat.reduceSub, Nat.reduceLT, Nat.reduceGT, Nat.reduceEqDiff, Nat.reduceLeDiff, Nat.left_eq_add, Nat.add_eq_left, Nat.reduceMod, Nat.reduceDiv, Nat.succ_ne_self, g, a0, nn_le, le]
  intro f
  induction f with
  | zero =>
    intro fb t k s p L b X id bs bk h bl N' s' c dd tA x5 x6 x7 C S st hX hf A hbk hk TA sA hA ls tv cw hb fbT fbF hd
    cases t with
    | leaf u => exact lf 0 u fb k s p L b X id bs bk h bl dd tA x5 x6 x7 C S hk sA hA (by omega)
    | branch n cs r => rw [ts_B] at hf; omega
  | succ f ih =>
    intro fb t k s p L b X id bs bk h bl N' s' c dd tA x5 x6 x7 C S st hX hf A hbk hk TA sA hA ls tv cw hb fbT fbF hd
    cases t with
    | leaf u => exact lf (f + 1) u fb k s p L b X id bs bk h bl dd tA x5 x6 x7 C S hk sA hA (by omega)
    | branch n cs r =>
      rw [ts_B] at hf hk ls
      cases N' with
      | zero => exact absurd st (fun z => z)
      | succ N' =>
      obtain ⟨s1, st1, st2⟩ := st
      have sL : s1 = s + stS n cs := by
        have e1 := stR_L (sp := D.sp) (s := Sc) (nf := X.fu) (N' + 1) fb (.branch n cs r) s s' L b ⟨s1, st1, st2⟩
        have e2 := stR_L _ _ _ _ _ _ _ st2
        rw [stLq_S] at e1
        omega
      obtain ⟨d, rfl⟩ : ∃ d, dd = d + 7 := ⟨dd - 7, by omega⟩
      have q := S.q
      have hc := C.c
      obtain ⟨h1, SQ, PT, run⟩ := u_347 (d := d) (f := f) (s := s) (fb := fb) (BL_of ih) STg S C A hbk (by omega) TA sA hA (ls (by omega)) tv.1 tv.2.1 tv.2.2 st1 rfl cw hb fbT fbF hX (by omega) (by omega)
      have F := S.R.F
      have g := F.g 81 14 70 (by decide +kernel)
      have F1 := RF_G SQ.f F
      have g1 := F1.g 81 14 70 (by decide +kernel)
      have o9 : ∀ y j, 93 ≤ y → y ≤ 97 → mh_i h1 y j = mh_i h y j := fun y j u1 u2 => fG_i SQ.f (fun z => by unfold lyWr at z; omega)
      have a0 : ∀ Q, mcall (d + 6) 333 [.ref 81, .int (Int32.ofNat bl)] h Q = Q (some (.int (Int32.ofNat (bl + (1 + ts tA))))) h := c_333 F (by omega) sA
      have a1 : ∀ Q, mcall (d + 6) 333 [.ref 81, .int (Int32.ofNat k)] h1 Q = Q (some (.int (Int32.ofNat (k + (1 + ts cs))))) h1 := c_333 F1 (by omega) ((o9 _ _ (by decide) (by decide)).trans A.1.2.2.2.2.2)
      have a2 : ∀ Q, mcall (d + 6) 333 [.ref 81, .int (Int32.ofNat bl)] h1 Q = Q (some (.int (Int32.ofNat (bl + (1 + ts tA))))) h1 := c_333 F1 (by omega) ((o9 _ _ (by decide) (by decide)).trans sA)
      have e47 := S.z
      have z0 : ((0 : Int32) = 0) = True := eq_true rfl
      have le : (bl + (1 + ts tA) ≤ k) = False := eq_false (by omega)
      have stp : ∀ Q, mw (d + 7) 346 Q 23 [some (.ref 81), some (.int (Int32.ofNat bl)), some (.int (Int32.ofNat (FK X.fu))), some (.int (owI X.ow)), some (.int (Int32.ofNat id)), some (.int x5), some (.int x6), some (.int x7), some (.int (Int32.ofNat k))] [] h = mw (d + 7) 346 Q 23 [some (.ref 81), some (.int (Int32.ofNat bl)), some (.int (Int32.ofNat (FK X.fu))), some (.int (owI X.ow)), some (.int (Int32.ofNat id)), some (.int x5), some (.int x6), some (.int x7), some (.int (Int32.ofNat (k + (1 + ts cs))))] [] h1 := fun Q => by
        clear S C F F1 A TA tv cw SQ PT ih lf STg st1 st2 o9 a2
        rw [s_346_23]
        simp (disch := omega) only [s_346_0, s_346_1, s_346_4, s_346_6, s_346_7, s_346_10, s_346_12, s_346_13, s_346_16, s_346_18, s_346_19, s_346_20, s_346_21, s_346_25, s_346_26, s_346_27, s_346_30, s_346_33, s_346_34, s_346_37, s_346_40, s_346_41, s_346_43, s_346_44, s_346_45, s_346_46, s_346_48, s_346_51, s_346_52, s_346_54, s_346_57, s_346_59, s_346_62, s_346_63, s_346_65, s_346_68, s_346_69, s_346_71, s_346_74, s_346_75, s_346_77, s_346_80, e_346, mv_i_1, mv_l_1, mv_a_1, mv_a_2, mv_a_3, mk2_n, mk2_i, mk2_l, mk2_a, mk2_u, mk2_x, mB_T, mB_F, mS_cons, mS_nil, mSB_T, mSB_F, mca_nil, mca_i, mca_l, mca_r, mca_u, mca_x, mcat_i, mcat_l, mcat_r, mcat_u, mcat_x, mK_some, mK_none, va_rf_s, va_rf_n, lgc_eq, lgc_lt, lgc_gt, lgc_ge, lgc_le, mrd_104, mrd_105, mrd_106, mrd_107, true_and, and_true, and_self, false_and, and_false, true_or, or_true, false_or, or_false, not_true_eq_false, not_false_eq_true, mgb, mga, mgr, mN, reduceCtorEq, ↓reduceIte, eq_self, ge_iff_le, gt_iff_lt, Nat.reduceAdd, Nat.reduceMul, Nat.reduceSub, Nat.reduceLT, Nat.reduceGT, Nat.reduceEqDiff, Nat.reduceLeDiff, Nat.left_eq_add, Nat.add_eq_left, Nat.reduceMod, Nat.reduceDiv, Nat.succ_ne_self, g, g1, a0, nn_le, le, e47, z0, run, a1]
      have fb100 := lyQ_b (D := D) (f + 1) fb (.branch n cs r) p L b X
      rw [lyQ_S] at fb100 ⊢
      generalize hQS : (lyG (lyW D n cs p L b (fb && decide (ts r = 0)) X, p) fun _ => lyU D (lyQ D f) n cs p L X) = QS at SQ PT fb100 ⊢
      by_cases z1 : QS.1.1 = 0
      · rw [lyG_y z1]
        obtain ⟨⟨bk1, b1, b2, S1⟩, RP, e102, lt⟩ := SQ.z z1
        have C1 : RLC h1 nm KN D K m cnt FK T := RLC_c o9 (fG_i SQ.f (fun z => by unfold lyWr at z; omega)) C
        have A2 : trR h1 nm r (k + (1 + ts cs)) (Int32.ofNat bl) := by
          rw [show k + (1 + ts cs) = k + 1 + ts cs from by omega]
          exact trR_c _ _ _ o9 A.2.2
        obtain ⟨h2, y8, BP, run2⟩ := ih fb r (k + (1 + ts cs)) s1 QS.2 (nxE n cs L) (b + ((nxE n cs L).length - L.length)) X id bs bk1 h1 bl N' s' c (d + 7) tA x5 x6 x7 C1 S1 st2 hX (by omega) A2 (by omega) (by omega) (trR_c _ _ _ o9 TA) ((o9 _ _ (by decide) (by decide)).trans sA) hA (fun hr => by
          rw [ls (by omega)]
          show (if ts r = 0 then some k else lsI r (k + 1 + ts cs)) = _
          rw [if_neg (by omega), show k + (1 + ts cs) = k + 1 + ts cs from by omega]) ⟨tv.1.2.2, tv.2.1.2.2, tv.2.2.2.2⟩ (chW_c (fun j => o9 96 j (by decide) (by decide)) cw) hb fbT fbF (by omega)
        have nl := nxE_ll (n := n) (cs := cs) (L := L)
        refine ⟨h2, y8, BPz.of ⟨fG_t SQ.f BP.f, kpR_t SQ.k BP.k (by omega) (by omega), BP.g, fun z => ?_, fun z Pt ly => ?_⟩, fun Q => (stp Q).trans (run2 Q)⟩
        · obtain ⟨o1, o2, o3, ⟨bk', o4, o5, o6⟩, o7, o8, o9'⟩ := BP.o z
          exact ⟨o1, o2, by rw [o3, S1.R.b, S.R.b], ⟨bk', by omega, by omega, o6⟩, o7, by omega, o9'⟩
        · obtain ⟨y1, ⟨y2, y3, y4, y5, y6, y7, y8', y9⟩, y10, y11, y12, y13⟩ := ly
          have eE : (Pt p).E = QS.2 := by
            have := (LYN_q (fun fb t k w s p e L b X u => LYR_q f fb t k w s p e L b X u) y12).2
            rw [← this, ← hQS, y11]
            rfl
          have PT1 := PT z1 Pt y12
          rw [eE] at PT1 y13
          rw [← sL, show k + 1 + ts cs = k + (1 + ts cs) from by omega] at y13
          have PT2 := BP.r z Pt y13
          have PT1' := PTz_k BP.k PT1
          intro x x1 x2
          by_cases c0 : x = p
          · subst c0
            rw [y4, y5, y7, eE]
            exact ⟨RPo_k BP.k lt RP, (BP.k.2.1 102 x (by decide) (by decide) lt).trans e102⟩
          · by_cases c1 : x < QS.2
            · exact PT1' x (by omega) c1
            · exact PT2 x (by omega) x2
      · rw [lyG_n z1] at fb100 ⊢
        obtain ⟨g1', g2'⟩ := SQ.g z1
        have n47 : (mh_i h1 81 47 = 0) = False := by
          rw [g1', show (0 : Int32) = Int32.ofNat 0 from rfl, nn_eq (by omega) (by omega)]
          exact eq_false z1
        refine ⟨h1, Int32.ofNat (k + (1 + ts cs)), BPz.of ⟨SQ.f, SQ.k, SQ.g, fun z => absurd z z1, fun z => absurd z z1⟩, fun Q => ?_⟩
        rw [stp Q]
        clear S C F F1 A TA tv cw SQ PT ih lf STg st1 st2 o9 stp run
        rw [s_346_23]
        by_cases c9 : bl + (1 + ts tA) ≤ k + (1 + ts cs)
        · have le' := eq_true c9
          simp (disch := omega) only [s_346_0, s_346_1, s_346_4, s_346_6, s_346_7, s_346_10, s_346_12, s_346_13, s_346_16, s_346_18, s_346_19, s_346_20, s_346_21, s_346_25, s_346_26, s_346_27, s_346_30, s_346_33, s_346_34, s_346_37, s_346_40, s_346_41, s_346_43, s_346_44, s_346_45, s_346_46, s_346_48, s_346_51, s_346_52, s_346_54, s_346_57, s_346_59, s_346_63, s_346_65, s_346_68, s_346_69, s_346_71, s_346_74, s_346_75, s_346_77, s_346_80, e_346, mv_i_1, mv_l_1, mv_a_1, mv_a_2, mv_a_3, mk2_n, mk2_i, mk2_l, mk2_a, mk2_u, mk2_x, mB_T, mB_F, mS_cons, mS_nil, mSB_T, mSB_F, mca_nil, mca_i, mca_l, mca_r, mca_u, mca_x, mcat_i, mcat_l, mcat_r, mcat_u, mcat_x, mK_some, mK_none, va_rf_s, va_rf_n, lgc_eq, lgc_lt, lgc_gt, lgc_ge, lgc_le, mrd_104, mrd_105, mrd_106, mrd_107, true_and, and_true, and_self, false_and, and_false, true_or, or_true, false_or, or_false, not_true_eq_false, not_false_eq_true, mgb, mga, mgr, mN, reduceCtorEq, ↓reduceIte, eq_self, ge_iff_le, gt_iff_lt, Nat.reduceAdd, Nat.reduceMul, Nat.reduceSub, Nat.reduceLT, Nat.reduceGT, Nat.reduceEqDiff, Nat.reduceLeDiff, Nat.left_eq_add, Nat.add_eq_left, Nat.reduceMod, Nat.reduceDiv, Nat.succ_ne_self, g1, a2, nn_le, le']
        · have le' := eq_false c9
          simp (disch := omega) only [s_346_0, s_346_1, s_346_4, s_346_6, s_346_7, s_346_10, s_346_12, s_346_13, s_346_16, s_346_18, s_346_19, s_346_20, s_346_21, s_346_25, s_346_26, s_346_27, s_346_30, s_346_33, s_346_34, s_346_37, s_346_40, s_346_41, s_346_43, s_346_44, s_346_45, s_346_46, s_346_48, s_346_51, s_346_52, s_346_54, s_346_57, s_346_59, s_346_63, s_346_65, s_346_68, s_346_69, s_346_71, s_346_74, s_346_75, s_346_77, s_346_80, e_346, mv_i_1, mv_l_1, mv_a_1, mv_a_2, mv_a_3, mk2_n, mk2_i, mk2_l, mk2_a, mk2_u, mk2_x, mB_T, mB_F, mS_cons, mS_nil, mSB_T, mSB_F, mca_nil, mca_i, mca_l, mca_r, mca_u, mca_x, mcat_i, mcat_l, mcat_r, mcat_u, mcat_x, mK_some, mK_none, va_rf_s, va_rf_n, lgc_eq, lgc_lt, lgc_gt, lgc_ge, lgc_le, mrd_104, mrd_105, mrd_106, mrd_107, true_and, and_true, and_self, false_and, and_false, true_or, or_true, false_or, or_false, not_true_eq_false, not_false_eq_true, mgb, mga, mgr, mN, reduceCtorEq, ↓reduceIte, eq_self, ge_iff_le, gt_iff_lt, Nat.reduceAdd, Nat.reduceMul, Nat.reduceSub, Nat.reduceLT, Nat.reduceGT, Nat.reduceEqDiff, Nat.reduceLeDiff, Nat.left_eq_add, Nat.add_eq_left, Nat.reduceMod, Nat.reduceDiv, Nat.succ_ne_self, g1, a2, nn_le, le', n47]
end CKl
