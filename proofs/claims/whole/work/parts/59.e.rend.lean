set_option maxRecDepth 100000
/-! the reference's end: nodes, tokens, functions -/
def eWr (b j : Nat) : Prop := (83 ≤ b ∧ b ≤ 99) ∨ (b = 81 ∧ (j = 3 ∨ j = 7 ∨ j = 8 ∨ j = 9 ∨ j = 10 ∨ j = 17 ∨ j = 24 ∨ j = 27))
def e1H (h : mh_H) (x : Int32) : mh_H := mh_si (mh_si (mh_si h 81 3 x) 81 24 0) 81 27 0
def e2H (h : mh_H) : mh_H := mh_si (mh_si (mh_si h 81 8 0) 81 9 0) 81 10 (-1)
theorem i3_nat (x : Int32) : ∃ k, x = Int32.ofNat k := ⟨x.toBitVec.toNat, by
  apply Int32.toBitVec_inj.mp
  have e0 : (Int32.ofNat x.toBitVec.toNat).toBitVec = BitVec.ofNat 32 x.toBitVec.toNat := rfl
  rw [e0]
  apply BitVec.eq_of_toNat_eq
  rw [BitVec.toNat_ofNat, Nat.mod_eq_of_lt x.toBitVec.isLt]⟩
section ENs
variable {d D n : Nat} {h h1 : mh_H} {Bt : Nat → Int32}
theorem tkG_len : ∀ (T : tks) lo, tkG Bt n lo T → 0 < T.length → lo + T.length ≤ n + 1 := by
  intro T
  induction T with
  | nil => exact fun lo _ z => absurd z (Nat.lt_irrefl _)
  | cons x r ih =>
    obtain ⟨k, p, w⟩ := x
    intro lo z _
    obtain ⟨⟨z1, z2, z3, -, -, -, z7⟩, z8⟩ := z
    have el : ((k, p, w) :: r).length = r.length + 1 := rfl
    rw [el]
    by_cases c : 0 < r.length
    · obtain ⟨k0, k1⟩ := z7 c
      have := (z3 k0 k1).1
      have := ih _ z8 c
      omega
    · omega
theorem toks_len : (toks Bt n).length ≤ n + 1 := by
  by_cases c : 0 < (toks Bt n).length
  · have := tkG_len (toks Bt n) 0 toks_G c
    omega
  · omega
theorem tkK_0 : ∀ (T : tks) i, ¬ i < T.length → tkK T i = 0 := by
  intro T
  induction T with
  | nil => exact fun _ _ => rfl
  | cons x r ih =>
    intro i hi
    cases i with
    | zero => exact absurd (Nat.succ_pos _) hi
    | succ i => exact ih i (fun z => hi (Nat.succ_lt_succ z))
theorem scn_pos : ∀ f i, 0 < (scn Bt n f i).length := by
  intro f i
  cases f with
  | zero => exact Nat.succ_pos _
  | succ f =>
    by_cases c : i < n
    · by_cases c1 : tkD Bt n i = 1
      · have e : scn Bt n (f + 1) i = [(1, i, tkW Bt n i)] := by show (if i < n then _ else _) = _; rw [if_pos c, if_pos c1]
        rw [e]
        exact Nat.succ_pos _
      · have e : scn Bt n (f + 1) i = (tkD Bt n i, i, tkW Bt n i) :: scn Bt n f (bl Bt n (n - (i + tkW Bt n i)) false (i + tkW Bt n i)) := by show (if i < n then _ else _) = _; rw [if_pos c, if_neg c1]
        rw [e]
        exact Nat.succ_pos _
    · have e : scn Bt n (f + 1) i = [(0, n, 0)] := by show (if i < n then _ else _) = _; rw [if_neg c]
      rw [e]
      exact Nat.succ_pos _
theorem toks_pos : 0 < (toks Bt n).length := scn_pos _ _
/-- a state of the parser out of the heap -/
theorem pH_of (e8 : mh_i h 81 8 = 0) (e9 : mh_i h 81 9 = 0) : ∃ s : pst, s.at = 0 ∧ s.bd = false ∧ pH h s = h := by
  obtain ⟨k, hk⟩ := i3_nat (mh_i h 81 17)
  refine ⟨(0, false, mh_i h 81 10, k, mh_i h 86, mh_i h 87, mh_i h 88, mh_i h 89, mh_i h 90, mh_i h 91), rfl, rfl, ?_⟩
  refine mh_xi rfl rfl (fun b j => ?_) rfl rfl rfl rfl
  rw [pH_i]
  by_cases c1 : b = 81 ∧ j = 8
  · rw [if_pos c1, c1.1, c1.2, e8]; rfl
  rw [if_neg c1]
  by_cases c2 : b = 81 ∧ j = 9
  · rw [if_pos c2, c2.1, c2.2, e9]; rfl
  rw [if_neg c2]
  by_cases c3 : b = 81 ∧ j = 10
  · rw [if_pos c3, c3.1, c3.2]; rfl
  rw [if_neg c3]
  by_cases c4 : b = 81 ∧ j = 17
  · rw [if_pos c4, c4.1, c4.2, hk]; rfl
  rw [if_neg c4]
  by_cases c5 : b = 86
  · rw [if_pos c5, c5]; rfl
  rw [if_neg c5]
  by_cases c6 : b = 87
  · rw [if_pos c6, c6]; rfl
  rw [if_neg c6]
  by_cases c7 : b = 88
  · rw [if_pos c7, c7]; rfl
  rw [if_neg c7]
  by_cases c8 : b = 89
  · rw [if_pos c8, c8]; rfl
  rw [if_neg c8]
  by_cases c9 : b = 90
  · rw [if_pos c9, c9]; rfl
  rw [if_neg c9]
  by_cases c10 : b = 91
  · rw [if_pos c10, c10]; rfl
  rw [if_neg c10]
/-- what stands behind the functions -/
def RE3 (d : Nat) (h : mh_H) (n : Nat) (Bt : Nat → Int32) (r : pqr) : Prop := match r with
  | (j, none) => ∃ h' y2, fG eWr h h' ∧ mh_i h' 81 9 = 1 ∧ mh_i h' 81 10 = Int32.ofNat (tkPl (toks Bt n) j) ∧ mh_i h' 99 0 = 0 ∧ ∀ Q, mcall d 331 [.ref 81, .int (Int32.ofNat n)] h Q = mw d 331 Q 93 [some (.ref 81), some (.int (Int32.ofNat n)), y2] [] h'
  | (_, some t) => ∃ h' NL y2, fG eWr h h' ∧ KPI h' n (toks Bt n).length Bt (tkK (toks Bt n)) (tkPl (toks Bt n)) (tkWd (toks Bt n)) NL (1 + ts t) ∧ knT (spe Bt n (tkPl (toks Bt n)) (tkWd (toks Bt n))) NL t ∧ nd (mh_i h' 93) (mh_i h' 95) (mh_i h' 97) 1 (rn (spe Bt n (tkPl (toks Bt n)) (tkWd (toks Bt n))) NL t) ∧ pw (mh_i h' 96) (mh_i h' 94) t 1 (Int32.ofNat 0) ∧ mh_i h' 81 9 = 0 ∧ ∀ Q, mcall d 331 [.ref 81, .int (Int32.ofNat n)] h Q = mw d 331 Q 93 [some (.ref 81), some (.int (Int32.ofNat n)), y2] [] h'
theorem fG_sub {V W : Nat → Nat → Prop} (x : fG V h h1) (w : ∀ b j, V b j → W b j) : fG W h h1 := ⟨x.1, x.2.1, x.2.2.1, x.2.2.2.1, x.2.2.2.2.1, fun b j hw => x.2.2.2.2.2 b j (fun z => hw (w b j z))⟩
theorem w_331 (F : RF h) {fed : Nat} (e2 : mh_i h 81 2 = Int32.ofNat fed) (hf : n ≤ fed) (hfd : fed ≤ 16400) (hn : n ≤ 12000) (eB : ∀ i, i < n → mh_i h 82 i = Bt i) (hv : ∀ i, i < n → ∃ m, m < 256 ∧ Bt i = Int32.ofNat m) (hw : ∀ k, k < 8 → me_xr (mh_i h 2643 k) = .retAddr (3 * (18 + k) + 3)) (e99 : mh_i h 99 0 = 0) {N : Nat} (hN : 8 * (toks Bt n).length + 6 ≤ N) (hD : 381 ≤ D) : RE3 (D + 6) h n Bt (pgZ (tkK (toks Bt n)) (tkPl (toks Bt n)) (fun i => nvl Bt (n - tkPl (toks Bt n) i) (tkPl (toks Bt n) i) 0) N (toks Bt n).length 0) := by
  have g0 : mg h 81 14 := F.g 81 14 70 (by decide +kernel)
  have tl := toks_len (Bt := Bt) (n := n)
  have i1 : ∀ b j, mh_i (e1H h (Int32.ofNat n)) b j = if b = 81 ∧ j = 27 then 0 else if b = 81 ∧ j = 24 then 0 else if b = 81 ∧ j = 3 then Int32.ofNat n else mh_i h b j := fun b j => by
    unfold e1H
    rw [hi_si, hi_si, hi_si]
  have f1 : fG eWr h (e1H h (Int32.ofNat n)) := by
    unfold e1H
    exact fG_t (fG_si (Or.inr ⟨rfl, by omega⟩)) (fG_t (fG_si (Or.inr ⟨rfl, by omega⟩)) (fG_si (Or.inr ⟨rfl, by omega⟩)))
  have e1d : e1H h (Int32.ofNat n) = mh_si (mh_si (mh_si h 81 3 (Int32.ofNat n)) 81 24 0) 81 27 0 := rfl
  generalize e1H h (Int32.ofNat n) = hA at i1 f1 e1d
  have FA : RF hA := RF_G f1 F
  have a300 : ∀ Q, mcall (D + 5) 300 [.ref 81, .int 0, .int 0, .int 0, .int (-1)] hA Q = Q (some (.int 0)) (addH hA 0 (Int32.ofNat 0) 0 0 (-1) []) := u_300 (d := D + 5) (c := 0) (p := 0) (v := 0) (o := -1) (l := []) (kk := 0) FA (by omega) (by rw [i1, if_neg (by omega), if_pos ⟨rfl, rfl⟩]; rfl) (by omega) rfl (by simp)
  have iB : ∀ b j, mh_i (addH hA 0 (Int32.ofNat 0) 0 0 (-1) []) b j = if b = 81 ∧ j = 24 then Int32.ofNat 1 else if b = 97 ∧ j = 0 then 1 else if b = 96 ∧ j = 0 then -1 else if b = 95 ∧ j = 0 then 0 else if b = 94 ∧ j = 0 then 0 else if b = 93 ∧ j = 0 then Int32.ofNat 0 else mh_i hA b j := fun b j => by
    show mh_i (mh_si (ndH hA 0 (Int32.ofNat 0) 0 0 (-1)) 81 24 (Int32.ofNat (0 + 1))) b j = _
    unfold ndH
    rw [hi_si, hi_si, hi_si, hi_si, hi_si, hi_si]
  have f2 : fG eWr hA (addH hA 0 (Int32.ofNat 0) 0 0 (-1) []) := by
    show fG eWr hA (mh_si (ndH hA 0 (Int32.ofNat 0) 0 0 (-1)) 81 24 (Int32.ofNat (0 + 1)))
    unfold ndH
    exact fG_t (fG_si (Or.inl (by omega))) (fG_t (fG_si (Or.inl (by omega))) (fG_t (fG_si (Or.inl (by omega))) (fG_t (fG_si (Or.inl (by omega))) (fG_t (fG_si (Or.inl (by omega))) (fG_si (Or.inr ⟨rfl, by omega⟩))))))
  generalize addH hA 0 (Int32.ofNat 0) 0 0 (-1) [] = hB at iB f2 a300
  have FB : RF hB := RF_G f2 FA
  have jB : ∀ b j, ¬ (93 ≤ b ∧ b ≤ 97) → ¬ b = 81 → mh_i hB b j = mh_i h b j := fun b j w w2 => by
    rw [iB, if_neg (by omega), if_neg (by omega), if_neg (by omega), if_neg (by omega), if_neg (by omega), if_neg (by omega), i1, if_neg (by omega), if_neg (by omega), if_neg (by omega)]
  obtain ⟨hC, f3, c7, q3, a309⟩ := u_309 (d := D) (n := n) (B := Bt) (h := hB) ⟨FB, by
    rw [iB, if_neg (by omega), if_neg (by omega), if_neg (by omega), if_neg (by omega), if_neg (by omega), if_neg (by omega), i1, if_neg (by omega), if_neg (by omega), if_pos ⟨rfl, rfl⟩], by omega, fun i hi => (jB 82 i (by omega) (by omega)).trans (eB i hi), hv, fun k hk => by rw [jB 2643 k (by omega) (by omega)]; exact hw k hk⟩
  have FC : RF hC := RF_G f3 FB
  have jC : ∀ b j, ¬ rscW b j → mh_i hC b j = mh_i hB b j := fun b j w => (f3.2.2.2.2.2 b j w).1
  have gC : mg hC 81 14 := FC.g 81 14 70 (by decide +kernel)
  have iD : ∀ b j, mh_i (e2H hC) b j = if b = 81 ∧ j = 10 then -1 else if b = 81 ∧ j = 9 then 0 else if b = 81 ∧ j = 8 then 0 else mh_i hC b j := fun b j => by
    unfold e2H
    rw [hi_si, hi_si, hi_si]
  have f4 : fG eWr hC (e2H hC) := by
    unfold e2H
    exact fG_t (fG_si (Or.inr ⟨rfl, by omega⟩)) (fG_t (fG_si (Or.inr ⟨rfl, by omega⟩)) (fG_si (Or.inr ⟨rfl, by omega⟩)))
  have ent : ∀ Q, mcall (D + 6) 331 [.ref 81, .int (Int32.ofNat n)] h Q = mw (D + 6) 331 Q 57 [some (.ref 81), some (.int (Int32.ofNat n)), none] [] (e2H hC) := fun Q => by
    have neg : (Int32.ofNat n < 0) = False := nn_neg (by omega)
    have le : (Int32.ofNat n ≤ Int32.ofNat fed) = True := (nn_le (by omega) (by omega)).trans (eq_true hf)
    have gA : mg hA 81 14 := FA.g 81 14 70 (by decide +kernel)
    have gB : mg hB 81 14 := FB.g 81 14 70 (by decide +kernel)
    unfold e2H
    clear F FA FB FC f1 f2 f3 f4 i1 iB iD jB jC q3
    simp (disch := omega) only [s_331_0, s_331_1, s_331_4, s_331_5, s_331_6, s_331_9, s_331_12, s_331_13, s_331_14, s_331_15, s_331_16, s_331_19, s_331_20, s_331_21, s_331_24, s_331_25, s_331_26, s_331_29, s_331_30, s_331_31, s_331_32, s_331_33, s_331_34, s_331_37, s_331_38, s_331_39, s_331_42, s_331_43, s_331_44, s_331_47, s_331_48, s_331_49, s_331_52, s_331_53, s_331_54, s_331_58, s_331_59, s_331_62, s_331_63, s_331_66, s_331_67, s_331_68, s_331_71, s_331_74, s_331_75, s_331_76, s_331_79, s_331_80, s_331_83, s_331_86, s_331_87, s_331_90, s_331_93, s_331_94, s_331_95, s_331_98, s_331_99, s_331_100, s_331_103, s_331_104, s_331_105, s_331_108, s_331_111, s_331_112, s_331_115, s_331_118, s_331_119, s_331_122, s_331_123, s_331_126, s_331_127, s_331_128, s_331_131, s_331_134, s_331_135, s_331_138, s_331_139, s_331_142, s_331_143, s_331_146, s_331_149, s_331_150, s_331_153, s_331_154, s_331_157, s_331_160, s_331_161, s_331_162, s_331_165, s_331_166, s_331_169, s_331_172, s_331_173, s_331_176, s_331_179, s_331_180, s_331_183, s_331_184, s_331_187, s_331_188, s_331_191, s_331_192, s_331_195, s_331_196, s_331_199, s_331_202, s_331_203, s_331_204, s_331_207, s_331_210, s_331_213, s_331_214, s_331_217, s_331_218, s_331_221, s_331_222, s_331_225, e_331, mv_i_1, mv_l_1, mv_a_1, mv_a_2, mv_a_3, mk2_n, mk2_i, mk2_l, mk2_a, mk2_u, mk2_x, mB_T, mB_F, mS_cons, mS_nil, mSB_T, mSB_F, mca_nil, mca_i, mca_l, mca_r, mca_u, mca_x, mcat_i, mcat_l, mcat_r, mcat_u, mcat_x, mK_some, mK_none, va_rf_s, va_rf_n, lgc_eq, lgc_lt, lgc_gt, lgc_ge, lgc_le, mrd_104, mrd_105, mrd_106, mrd_107, true_and, and_true, and_self, false_and, and_false, true_or, or_true, false_or, or_false, not_true_eq_false, not_false_eq_true, mgb, mga, mgr, mN, reduceCtorEq, ↓reduceIte, eq_self, ge_iff_le, gt_iff_lt, hk_si, hk_sj, hk_sr, hl_si, hl_sj, hl_sr, hn_si, hn_sj, hn_sr, hs_si, hs_sj, hs_sr, hi_sj, hi_sr, hj_si, hj_sr, hr_si, hr_sj, hi_si, hj_sj, hr_sr, mg_si, mg_sj, mg_sr, Nat.reduceAdd, Nat.reduceMul, Nat.reduceSub, Nat.reduceLT, Nat.reduceGT, Nat.reduceEqDiff, Nat.reduceLeDiff, Nat.left_eq_add, Nat.add_eq_left, Nat.reduceMod, Nat.reduceDiv, Nat.succ_ne_self, g0, gA, gB, gC, e2, neg, le, ← e1d, a300, a309]
  generalize e2H hC = hD at ent iD f4
  have FD : RF hD := RF_G f4 FC
  obtain ⟨s, s1, s2, s3⟩ := pH_of (h := hD) (by rw [iD, if_neg (by omega), if_neg (by omega), if_pos ⟨rfl, rfl⟩]) (by rw [iD, if_neg (by omega), if_pos ⟨rfl, rfl⟩])
  have fAll : fG eWr h hD := fG_t f1 (fG_t f2 (fG_t (fG_sub f3 (fun b j z => by unfold rscW at z; unfold eWr; omega)) f4))
  have j8 : ∀ b j, 83 ≤ b → b ≤ 85 → mh_i hD b j = mh_i hC b j := fun b j u1 u2 => by rw [iD, if_neg (by omega), if_neg (by omega), if_neg (by omega)]
  have row : ∀ b, 83 ≤ b → b ≤ 85 → mh_i hD b = mh_i hC b := fun b u1 u2 => funext fun j => j8 b j u1 u2
  have q4 : tkQ (mh_i hD 83) (mh_i hD 84) (mh_i hD 85) 0 (toks Bt n) := by rw [row 83 (by omega) (by omega), row 84 (by omega) (by omega), row 85 (by omega) (by omega)]; exact q3
  have jD : ∀ b j, ¬ (83 ≤ b ∧ b ≤ 85) → ¬ (93 ≤ b ∧ b ≤ 97) → ¬ b = 81 → mh_i hD b j = mh_i h b j := fun b j w1 w2 w3 => by
    rw [iD, if_neg (by omega), if_neg (by omega), if_neg (by omega), jC b j (by unfold rscW; omega), jB b j w2 w3]
  have eB' : ∀ i, i < n → mh_i hD 82 i = Bt i := fun i hi => (jD 82 i (by omega) (by omega) (by omega)).trans (eB i hi)
  have R := RTK_of (B := Bt) (n := n) FD (by omega) tl eB' q4
  have kb9 : ∀ j, ¬ (j = 7 ∨ j = 8 ∨ j = 9 ∨ j = 10) → mh_i hD 81 j = mh_i hB 81 j := fun j w => by
    rw [iD, if_neg (by omega), if_neg (by omega), if_neg (by omega), jC 81 j (by unfold rscW; omega)]
  have I : KPI hD n (toks Bt n).length Bt (tkK (toks Bt n)) (tkPl (toks Bt n)) (tkWd (toks Bt n)) [] 1 := by
    refine ⟨⟨FD, ⟨by omega, tl⟩, fun i hi => ?_, fun i hi k2 => ?_, eB', fun i hi => (tkG_i _ 0 i toks_G hi).2.1⟩, ⟨?_, fun k hk => ?_, fun k a e => ?_⟩, trivial, ?_⟩
    · have := (tkQ_g (toks Bt n) 0 i q4 hi).2.1
      rw [Nat.zero_add] at this
      exact this
    · have := (tkQ_g (toks Bt n) 0 i q4 hi).2.2 (by rw [k2]; decide)
      rw [Nat.zero_add] at this
      exact this
    · rw [kb9 27 (by omega), iB, if_neg (by omega), if_neg (by omega), if_neg (by omega), if_neg (by omega), if_neg (by omega), if_neg (by omega), i1, if_pos ⟨rfl, rfl⟩]
      rfl
    · have k0 : k = 0 := Nat.le_antisymm hk (Nat.zero_le _)
      subst k0
      rw [jD 99 0 (by omega) (by omega) (by omega)]
      exact e99
    · cases e
    · rw [kb9 24 (by omega), iB, if_pos ⟨rfl, rfl⟩]
  have w96 : mh_i hD 96 0 = -1 := by
    rw [iD, if_neg (by omega), if_neg (by omega), if_neg (by omega), jC 96 0 (by unfold rscW; omega), iB, if_neg (by omega), if_neg (by omega), if_pos ⟨rfl, rfl⟩]
  have m1 : 0 < (toks Bt n).length := toks_pos
  have Z := z_331 (D := D + 1) (x1 := Int32.ofNat n) (n := n) (m := (toks Bt n).length) (Bt := Bt) (K := tkK (toks Bt n)) (P := tkPl (toks Bt n)) (U := tkWd (toks Bt n)) (V := fun i => nvl Bt (n - tkPl (toks Bt n) i) (tkPl (toks Bt n) i) 0) (fun L hL => by
    have := nm_room hL
    omega) (fun i hi => by
    by_cases c : i < (toks Bt n).length
    · have := (tkG_i _ 0 i toks_G c).2.1
      exact ⟨c, by omega⟩
    · rw [tkK_0 _ i c] at hi
      exact absurd hi (by decide)) hN (by omega) (toks Bt n).length 0 hD s 1 [] none (by omega) R s1 s2 m1 (by rw [s3]; exact I) (by omega) (by omega) (by rw [s3]; exact w96)
  rw [s3] at Z
  generalize pgZ (tkK (toks Bt n)) (tkPl (toks Bt n)) (fun i => nvl Bt (n - tkPl (toks Bt n) i) (tkPl (toks Bt n) i) 0) N (toks Bt n).length 0 = r at Z ⊢
  have sub : ∀ b j, kzWr b j → eWr b j := fun b j z => by unfold kzWr at z; unfold eWr; omega
  rcases r with ⟨j, _ | t⟩
  · obtain ⟨h', y2, z1, z2, z3, z4, z5⟩ := Z
    exact ⟨h', y2, fG_t fAll (fG_sub z1 sub), z2, z3, z4, fun Q => (ent Q).trans (z5 Q)⟩
  · obtain ⟨h', L', y2, z1, z2, z3⟩ := Z
    exact ⟨h', L', y2, fG_t fAll (fG_sub z1.1 sub), z1.2.1, z1.2.2.2.1, z1.2.2.2.2.2.2.2.1, z1.2.2.2.2.2.2.2.2, z2, fun Q => (ent Q).trans (z3 Q)⟩
end ENs
