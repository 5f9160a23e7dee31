set_option maxRecDepth 100000
/-! the reference's statement: its first rows; a name given; what is wrong -/
def prWr (b j : Nat) : Prop := (100 ≤ b ∧ b ≤ 108) ∨ b = 113 ∨ b = 114 ∨ (b = 81 ∧ j = 33)
def gvW (E : Nat) (b j : Nat) : Prop := ((109 ≤ b ∧ b ≤ 112) ∧ E ≤ j) ∨ (b = 81 ∧ 42 ≤ j ∧ j ≤ 48 ∧ j ≠ 43 ∧ j ≠ 44)
def SM1 (h h2 : mh_H) (nm : Nat → Nat) (KN : Nat → Prop) (X : lcx) (L L' : cen) (b b' id bs p bk : Nat) (w : Nat × Nat) : Prop := (fG (gvW (bs + L.length)) h h2) ∧ (w.1 = 0 → RLS h2 nm KN X L' b' id bs p bk) ∧ (¬ w.1 = 0 → mh_i h2 81 47 = Int32.ofNat w.1 ∧ mh_i h2 81 48 = Int32.ofNat w.2)
theorem SM1.of {h h2 : mh_H} {nm : Nat → Nat} {KN : Nat → Prop} {X : lcx} {L L' : cen} {b b' id bs p bk : Nat} {w : Nat × Nat} (q : (fG (gvW (bs + L.length)) h h2) ∧ (w.1 = 0 → RLS h2 nm KN X L' b' id bs p bk) ∧ (¬ w.1 = 0 → mh_i h2 81 47 = Int32.ofNat w.1 ∧ mh_i h2 81 48 = Int32.ofNat w.2)) : SM1 h h2 nm KN X L L' b b' id bs p bk w := q
theorem SM1.f {h h2 : mh_H} {nm : Nat → Nat} {KN : Nat → Prop} {X : lcx} {L L' : cen} {b b' id bs p bk : Nat} {w : Nat × Nat} (q : SM1 h h2 nm KN X L L' b b' id bs p bk w) : fG (gvW (bs + L.length)) h h2 := q.1
theorem SM1.z {h h2 : mh_H} {nm : Nat → Nat} {KN : Nat → Prop} {X : lcx} {L L' : cen} {b b' id bs p bk : Nat} {w : Nat × Nat} (q : SM1 h h2 nm KN X L L' b b' id bs p bk w) : w.1 = 0 → RLS h2 nm KN X L' b' id bs p bk := q.2.1
theorem SM1.g {h h2 : mh_H} {nm : Nat → Nat} {KN : Nat → Prop} {X : lcx} {L L' : cen} {b b' id bs p bk : Nat} {w : Nat × Nat} (q : SM1 h h2 nm KN X L L' b b' id bs p bk w) : ¬ w.1 = 0 → mh_i h2 81 47 = Int32.ofNat w.1 ∧ mh_i h2 81 48 = Int32.ofNat w.2 := q.2.2
section PSl
variable {d : Nat} {h h1 h2 : mh_H} {nm : Nat → Nat} {KN : Nat → Prop} {X : lcx} {L L' : cen} {b b' id bs p p1 bk k : Nat} {w : Nat × Nat} {wi bl fn : Int32} {x1 x2 x3 x4 x5 x7 x8 x9 : Option Value}
theorem mnR_of : ∀ (L : cen) b, enR h nm X bs id L b → (∀ j, j < L.length → mh_i h1 106 (40 * p + j) = mh_i h 109 (bs + j) ∧ mh_i h1 107 (40 * p + j) = mh_i h 110 (bs + j) ∧ mh_i h1 108 (40 * p + j) = mh_i h 111 (bs + j)) → mnR h1 nm X p L := by
  intro L
  induction L with
  | nil => exact fun _ _ _ => trivial
  | cons e r ih =>
    obtain ⟨a, z⟩ := e
    intro b w q
    obtain ⟨⟨w1, w2, w3, w4, w5, w6⟩, w7⟩ := w
    have q' : ∀ j, j < r.length + 1 → _ := q
    obtain ⟨q1, q2, q3⟩ := q' r.length (by omega)
    exact ⟨⟨q1.trans w1, q2.trans w3, q3.trans w4⟩, ih _ w7 (fun j hj => q' j (by omega))⟩
theorem p_347b (F : RF h) {l : Nat} (hb : p < 250) (hl : bs + l ≤ 40) (e42 : mh_i h 81 42 = Int32.ofNat (bs + l)) (e43 : mh_i h 81 43 = Int32.ofNat bs) : ∀ Q, mw d 347 Q 155 [some (.ref 81), x1, x2, x3, x4, x5, some (.int (Int32.ofNat p)), x7, x8, x9] [] h = mw d 347 Q 177 [some (.ref 81), x1, x2, x3, x4, x5, some (.int (Int32.ofNat p)), some (.int (Int32.ofNat bs)), x8, x9] [] (mh_si h 105 p (Int32.ofNat l)) := by
  intro Q
  have g := F.g 81 14 70 (by decide +kernel)
  have r105 := F.f 81 34 105 (by decide +kernel)
  have g105 := F.g 105 100 251 (by decide +kernel)
  have l105 := F.l 105 100 251 (by decide +kernel)
  have es : Int32.ofNat (bs + l) - Int32.ofNat bs = Int32.ofNat l := by rw [nn_sub (by omega), show bs + l - bs = l from by omega]
  clear F
  simp (disch := omega) only [s_347_0, s_347_1, s_347_4, s_347_7, s_347_10, s_347_11, s_347_13, s_347_14, s_347_17, s_347_18, s_347_19, s_347_20, s_347_23, s_347_25, s_347_26, s_347_27, s_347_30, s_347_31, s_347_32, s_347_35, s_347_36, s_347_39, s_347_41, s_347_42, s_347_43, s_347_44, s_347_47, s_347_49, s_347_51, s_347_52, s_347_53, s_347_56, s_347_58, s_347_59, s_347_62, s_347_63, s_347_64, s_347_67, s_347_69, s_347_70, s_347_73, s_347_74, s_347_75, s_347_77, s_347_79, s_347_80, s_347_83, s_347_86, s_347_87, s_347_90, s_347_92, s_347_93, s_347_96, s_347_97, s_347_100, s_347_102, s_347_104, s_347_105, s_347_106, s_347_109, s_347_111, s_347_112, s_347_113, s_347_114, s_347_117, s_347_119, s_347_120, s_347_121, s_347_124, s_347_125, s_347_128, s_347_130, s_347_132, s_347_133, s_347_134, s_347_137, s_347_139, s_347_140, s_347_141, s_347_142, s_347_145, s_347_147, s_347_148, s_347_149, s_347_152, s_347_155, s_347_156, s_347_159, s_347_161, s_347_162, s_347_165, s_347_166, s_347_169, s_347_170, s_347_171, s_347_172, s_347_175, s_347_179, s_347_180, s_347_183, s_347_186, s_347_187, s_347_190, s_347_192, s_347_194, s_347_195, s_347_197, s_347_198, s_347_199, s_347_202, s_347_203, s_347_204, s_347_207, s_347_209, s_347_210, s_347_211, s_347_212, s_347_215, s_347_217, s_347_219, s_347_220, s_347_222, s_347_223, s_347_224, s_347_227, s_347_228, s_347_229, s_347_232, s_347_234, s_347_235, s_347_236, s_347_237, s_347_240, s_347_242, s_347_244, s_347_245, s_347_247, s_347_248, s_347_249, s_347_252, s_347_253, s_347_254, s_347_257, s_347_259, s_347_260, s_347_261, s_347_264, s_347_267, s_347_268, s_347_271, s_347_272, s_347_273, s_347_320, s_347_321, s_347_322, s_347_323, s_347_324, s_347_326, s_347_329, s_347_332, s_347_333, s_347_336, s_347_337, s_347_338, s_347_339, s_347_342, s_347_343, s_347_344, s_347_345, s_347_348, s_347_351, s_347_354, s_347_355, s_347_358, s_347_360, s_347_363, s_347_364, s_347_366, s_347_367, s_347_370, s_347_373, s_347_374, s_347_375, s_347_378, s_347_379, s_347_380, s_347_381, s_347_382, s_347_383, s_347_386, s_347_387, s_347_389, s_347_392, s_347_393, s_347_394, s_347_397, s_347_398, s_347_399, s_347_402, s_347_405, s_347_406, s_347_409, s_347_410, s_347_411, s_347_412, s_347_413, s_347_415, s_347_416, s_347_417, s_347_418, s_347_419, s_347_421, s_347_424, s_347_427, s_347_429, s_347_430, s_347_433, s_347_435, s_347_437, s_347_440, s_347_441, s_347_443, s_347_444, s_347_445, s_347_446, s_347_449, s_347_452, s_347_453, s_347_456, s_347_458, s_347_461, s_347_462, s_347_464, s_347_465, s_347_468, s_347_471, s_347_472, s_347_473, s_347_476, s_347_477, s_347_478, s_347_479, s_347_480, s_347_481, s_347_484, s_347_486, s_347_488, s_347_491, s_347_492, s_347_493, s_347_496, s_347_497, s_347_498, s_347_501, s_347_504, s_347_505, s_347_506, s_347_507, s_347_508, s_347_509, s_347_512, s_347_515, s_347_516, s_347_517, s_347_518, s_347_521, s_347_524, s_347_525, s_347_528, s_347_529, s_347_530, s_347_531, s_347_532, s_347_533, s_347_536, s_347_539, s_347_540, s_347_541, s_347_542, s_347_545, s_347_548, s_347_551, s_347_552, s_347_553, s_347_554, s_347_555, s_347_558, s_347_561, s_347_564, s_347_565, s_347_568, s_347_569, s_347_570, s_347_572, s_347_575, s_347_578, s_347_579, s_347_580, s_347_581, s_347_582, s_347_585, s_347_588, s_347_589, s_347_590, s_347_593, s_347_594, s_347_595, s_347_598, s_347_599, s_347_600, s_347_601, s_347_604, s_347_605, s_347_607, s_347_608, s_347_611, s_347_614, s_347_615, s_347_616, s_347_617, s_347_620, s_347_623, s_347_624, s_347_625, s_347_628, s_347_631, s_347_632, s_347_633, s_347_636, s_347_637, s_347_638, s_347_641, s_347_642, s_347_643, s_347_644, s_347_645, s_347_648, s_347_651, s_347_652, s_347_654, s_347_655, s_347_658, s_347_661, s_347_664, s_347_665, s_347_666, s_347_667, s_347_668, s_347_671, s_347_672, s_347_675, s_347_676, s_347_677, s_347_680, s_347_681, s_347_684, s_347_685, s_347_686, s_347_689, s_347_690, s_347_693, s_347_694, s_347_697, s_347_698, s_347_700, s_347_701, s_347_702, s_347_705, s_347_706, s_347_709, s_347_712, s_347_713, s_347_716, s_347_717, s_347_719, s_347_721, s_347_724, s_347_725, s_347_727, s_347_728, s_347_731, s_347_734, s_347_736, s_347_739, s_347_740, s_347_742, s_347_743, s_347_746, s_347_749, s_347_750, s_347_751, s_347_752, s_347_753, s_347_756, s_347_757, s_347_758, s_347_761, s_347_763, s_347_764, s_347_767, s_347_768, e_347, mv_i_1, mv_l_1, mv_a_1, mv_a_2, mv_a_3, mk2_n, mk2_i, mk2_l, mk2_a, mk2_u, mk2_x, mB_T, mB_F, mS_cons, mS_nil, mSB_T, mSB_F, mca_nil, mca_i, mca_l, mca_r, mca_u, mca_x, mcat_i, mcat_l, mcat_r, mcat_u, mcat_x, mK_some, mK_none, va_rf_s, va_rf_n, lgc_eq, lgc_lt, lgc_gt, lgc_ge, lgc_le, mrd_104, mrd_105, mrd_106, mrd_107, true_and, and_true, and_self, false_and, and_false, true_or, or_true, false_or, or_false, not_true_eq_false, not_false_eq_true, mgb, mga, mgr, mN, reduceCtorEq, ↓reduceIte, eq_self, ge_iff_le, gt_iff_lt, hk_si, hk_sj, hk_sr, hl_si, hl_sj, hl_sr, hn_si, hn_sj, hn_sr, hs_si, hs_sj, hs_sr, hi_sj, hi_sr, hj_si, hj_sr, hr_si, hr_sj, hi_si, hj_sj, hr_sr, mg_si, mg_sj, mg_sr, Nat.reduceAdd, Nat.reduceMul, Nat.reduceSub, Nat.reduceLT, Nat.reduceGT, Nat.reduceEqDiff, Nat.reduceLeDiff, Nat.left_eq_add, Nat.add_eq_left, Nat.reduceMod, Nat.reduceDiv, Nat.succ_ne_self, g, r105, g105, l105, e42, e43, es, nn_mxT, nn_clamp]
/-- the first rows of a point -/
theorem u_347p (S : RLS h nm KN X L b id bs p bk) (hp : p < 249) (ow : wi = owI X.ow) : ∃ h1 x7, fG prWr h h1 ∧ kpR p 40 h h1 ∧ mh_i h1 81 33 = Int32.ofNat (p + 1) ∧ RPo h1 nm L X k p ∧ ∀ Q, mcall d 347 [.ref 81, .int (Int32.ofNat k), .int bl, .int fn, .int wi, .int (Int32.ofNat id)] h Q = mw d 347 Q 267 [some (.ref 81), some (.int (Int32.ofNat k)), some (.int bl), some (.int fn), some (.int wi), some (.int (Int32.ofNat id)), some (.int (Int32.ofNat p)), some (.int x7), none, none] [] h1 := by
  have R := S.R
  have F := R.F
  have hl := R.l
  obtain ⟨m1, m2⟩ := S.m
  have a0 := p_347a (d := d) (p := p) (a1 := Int32.ofNat k) (a2 := bl) (a3 := fn) (a4 := wi) (a5 := Int32.ofNat id) F S.p hp S.n S.a
  have o1 : ∀ y j, ¬ (y = 81 ∧ j = 33) → ¬ (100 ≤ y ∧ y ≤ 104 ∧ j = p) → mh_i (prH h p (Int32.ofNat k) wi (Int32.ofNat (X.nb + cnZl L)) (Int32.ofNat (X.na + cnAl L))) y j = mh_i h y j := fun y j q1 q2 => by
    unfold prH
    rw [hi_si, if_neg (by omega), hi_si, if_neg (by omega), hi_si, if_neg (by omega), hi_si, if_neg (by omega), hi_si, if_neg q1]
  have v1 : mh_i (prH h p (Int32.ofNat k) wi (Int32.ofNat (X.nb + cnZl L)) (Int32.ofNat (X.na + cnAl L))) 81 33 = Int32.ofNat (p + 1) := by
    unfold prH
    rw [hi_si, if_neg (by omega), hi_si, if_neg (by omega), hi_si, if_neg (by omega), hi_si, if_neg (by omega), hi_si, if_pos ⟨rfl, rfl⟩]
  have v2 : mh_i (prH h p (Int32.ofNat k) wi (Int32.ofNat (X.nb + cnZl L)) (Int32.ofNat (X.na + cnAl L))) 100 p = Int32.ofNat k := by
    unfold prH
    rw [hi_si, if_neg (by omega), hi_si, if_neg (by omega), hi_si, if_neg (by omega), hi_si, if_pos ⟨rfl, rfl⟩]
  have v3 : mh_i (prH h p (Int32.ofNat k) wi (Int32.ofNat (X.nb + cnZl L)) (Int32.ofNat (X.na + cnAl L))) 101 p = wi := by
    unfold prH
    rw [hi_si, if_neg (by omega), hi_si, if_neg (by omega), hi_si, if_pos ⟨rfl, rfl⟩]
  have v4 : mh_i (prH h p (Int32.ofNat k) wi (Int32.ofNat (X.nb + cnZl L)) (Int32.ofNat (X.na + cnAl L))) 103 p = Int32.ofNat (X.nb + cnZl L) := by
    unfold prH
    rw [hi_si, if_neg (by omega), hi_si, if_pos ⟨rfl, rfl⟩]
  have v5 : mh_i (prH h p (Int32.ofNat k) wi (Int32.ofNat (X.nb + cnZl L)) (Int32.ofNat (X.na + cnAl L))) 104 p = Int32.ofNat (X.na + cnAl L) := by
    unfold prH
    rw [hi_si, if_pos ⟨rfl, rfl⟩]
  have fA : fG prWr h (prH h p (Int32.ofNat k) wi (Int32.ofNat (X.nb + cnZl L)) (Int32.ofNat (X.na + cnAl L))) := by
    unfold prH
    exact fG_t (fG_si (Or.inr (Or.inr (Or.inr ⟨rfl, rfl⟩)))) (fG_t (fG_si (Or.inl ⟨by decide, by decide⟩)) (fG_t (fG_si (Or.inl ⟨by decide, by decide⟩)) (fG_t (fG_si (Or.inl ⟨by decide, by decide⟩)) (fG_si (Or.inl ⟨by decide, by decide⟩)))))
  generalize prH h p (Int32.ofNat k) wi (Int32.ofNat (X.nb + cnZl L)) (Int32.ofNat (X.na + cnAl L)) = hA at a0 o1 v1 v2 v3 v4 v5 fA
  have F1 : RF hA := RF_G fA F
  have e42 : mh_i hA 81 42 = Int32.ofNat (bs + L.length) := (o1 81 42 (by omega) (by omega)).trans R.e
  have e43 : mh_i hA 81 43 = Int32.ofNat bs := (o1 81 43 (by omega) (by omega)).trans R.b
  obtain ⟨hB, y1, y2, y3, y4⟩ := l_347n (d := d) (nm := nm) (NA := X.nA L) (AA := X.aA L) (p := p) (x1 := some (.int (Int32.ofNat k))) (x2 := some (.int bl)) (x3 := some (.int fn)) (x4 := some (.int wi)) (x5 := some (.int (Int32.ofNat id))) (x8 := none) (x9 := none) (by omega) m1 m2 (E := bs + L.length) hl (bs + L.length) 0 hA (by omega) F1 e42 (EVA_c (fun y j u1 u2 u3 => o1 y j (by omega) (by omega)) S.v) (fun s _ ⟨j, hj, _⟩ => absurd hj (Nat.not_lt_zero _)) (fun s _ ⟨j, hj, _⟩ => absurd hj (Nat.not_lt_zero _))
  have iB : ∀ y j, y ≠ 113 → y ≠ 114 → mh_i hB y j = mh_i hA y j := fun y j q1 q2 => fG_i y1 (fun z => by unfold nmWq at z; omega)
  have F2 : RF hB := RF_G y1 F1
  have b0 := p_347b (d := d) (p := p) (bs := bs) (l := L.length) (x1 := some (.int (Int32.ofNat k))) (x2 := some (.int bl)) (x3 := some (.int fn)) (x4 := some (.int wi)) (x5 := some (.int (Int32.ofNat id))) (x7 := some (.int (Int32.ofNat (bs + L.length)))) (x8 := none) (x9 := none) F2 (by omega) hl (by rw [iB _ _ (by decide) (by decide)]; exact e42) (by rw [iB _ _ (by decide) (by decide)]; exact e43)
  have iC : ∀ y j, ¬ (y = 105 ∧ j = p) → mh_i (mh_si hB 105 p (Int32.ofNat L.length)) y j = mh_i hB y j := fun y j q => by rw [hi_si, if_neg q]
  have vC : mh_i (mh_si hB 105 p (Int32.ofNat L.length)) 105 p = Int32.ofNat L.length := by rw [hi_si, if_pos ⟨rfl, rfl⟩]
  have fC : fG prWr hB (mh_si hB 105 p (Int32.ofNat L.length)) := fG_si (Or.inl ⟨by decide, by decide⟩)
  generalize mh_si hB 105 p (Int32.ofNat L.length) = hC at b0 iC vC fC
  have F3 : RF hC := RF_G fC F2
  obtain ⟨hD, z1, z2, z3, z4⟩ := l_347m (d := d) (p := p) (x1 := some (.int (Int32.ofNat k))) (x2 := some (.int bl)) (x3 := some (.int fn)) (x4 := some (.int wi)) (x5 := some (.int (Int32.ofNat id))) (x8 := none) (x9 := none) (by omega) (bs := bs) (l := L.length) hl L.length 0 hC (by omega) F3 (by rw [iC _ _ (by omega), iB _ _ (by decide) (by decide)]; exact e42) (by rw [iC _ _ (by omega), iB _ _ (by decide) (by decide)]; exact e43)
  have iD : ∀ y j, ¬ (106 ≤ y ∧ y ≤ 108) → mh_i hD y j = mh_i hC y j := fun y j q => fG_i z1 (fun z => q z.1)
  -- all of it
  have all : ∀ y j, ¬ (y = 81 ∧ j = 33) → ¬ (100 ≤ y ∧ y ≤ 105 ∧ j = p) → ¬ (106 ≤ y ∧ y ≤ 108) → y ≠ 113 → y ≠ 114 → mh_i hD y j = mh_i h y j := fun y j q1 q2 q3 q4 q5 => by
    rw [iD y j q3, iC y j (by omega), iB y j q4 q5, o1 y j q1 (by omega)]
  have atp : ∀ y, 100 ≤ y → y ≤ 104 → mh_i hD y p = mh_i hA y p := fun y q1 q2 => by
    rw [iD y p (by omega), iC y p (by omega), iB y p (by omega) (by omega)]
  refine ⟨hD, Int32.ofNat (bs + L.length), fG_t fA (fG_t (fG_w y1 (fun b j z => by unfold nmWq at z; unfold prWr; omega)) (fG_t fC (fG_w z1 (fun b j z => by unfold mtWq at z; unfold prWr; omega)))), ⟨fun y j u1 u2 _ => all y j (by omega) (by omega) (by omega) (by omega) (by omega), fun y j u1 u2 u3 => all y j (by omega) (by omega) (by omega) (by omega) (by omega), fun y j u1 u2 u3 => ?_, fun j u3 => ?_, fun j u3 => ?_⟩, ?_, RPo.of ⟨(atp 100 (by decide) (by decide)).trans v2, ((atp 101 (by decide) (by decide)).trans v3).trans ow, (atp 103 (by decide) (by decide)).trans v4, (atp 104 (by decide) (by decide)).trans v5, ?_, ?_, fun s hs => ?_, fun s hs => ?_, ⟨m1, m2, by omega⟩⟩, fun Q => ?_⟩
  · rw [z3 y j u1 u2 (by omega), iC y j (by omega), iB y j (by omega) (by omega), o1 y j (by omega) (by omega)]
  · rw [iD _ _ (by omega), iC _ _ (by omega), fG_i y1 (fun z => by unfold nmWq at z; omega), o1 _ _ (by omega) (by omega)]
  · rw [iD _ _ (by omega), iC _ _ (by omega), fG_i y1 (fun z => by unfold nmWq at z; omega), o1 _ _ (by omega) (by omega)]
  · rw [iD _ _ (by omega), iC _ _ (by omega), iB _ _ (by decide) (by decide)]
    exact v1
  · rw [iD _ _ (by omega)]
    exact vC
  · refine mnR_of L b R.n (fun j hj => ?_)
    obtain ⟨a1, a2, a3⟩ := z2 j (Nat.zero_le _) hj
    have nn : ∀ y j, 109 ≤ y → y ≤ 112 → mh_i hC y j = mh_i h y j := fun y j u1 u2 => by rw [iC y j (by omega), iB y j (by omega) (by omega), o1 y j (by omega) (by omega)]
    exact ⟨a1.trans (nn 109 _ (by decide) (by decide)), a2.trans (nn 110 _ (by decide) (by decide)), a3.trans (nn 111 _ (by decide) (by decide))⟩
  · rw [iD _ _ (by omega), iC _ _ (by omega)]
    exact y2 s hs
  · rw [iD _ _ (by omega), iC _ _ (by omega)]
    exact y3 s hs
  · rw [a0 Q]
    refine (y4 Q).trans ((b0 Q).trans ?_)
    exact z4 Q
/-- the end of a statement -/
theorem z_347 (F : RF h) (hb : p < 250) {v : Int32} (e33 : mh_i h 81 33 = v) : ∀ Q, mw d 347 Q 757 [some (.ref 81), x1, x2, x3, x4, x5, some (.int (Int32.ofNat p)), x7, x8, x9] [] h = Q none (mh_si h 102 p v) := by
  intro Q
  have g := F.g 81 14 70 (by decide +kernel)
  have r102 := F.f 81 30 102 (by decide +kernel)
  have g102 := F.g 102 100 250 (by decide +kernel)
  have l102 := F.l 102 100 250 (by decide +kernel)
  clear F
  simp (disch := omega) only [s_347_0, s_347_1, s_347_4, s_347_7, s_347_10, s_347_11, s_347_13, s_347_14, s_347_17, s_347_18, s_347_19, s_347_20, s_347_23, s_347_25, s_347_26, s_347_27, s_347_30, s_347_31, s_347_32, s_347_35, s_347_36, s_347_39, s_347_41, s_347_42, s_347_43, s_347_44, s_347_47, s_347_49, s_347_51, s_347_52, s_347_53, s_347_56, s_347_58, s_347_59, s_347_62, s_347_63, s_347_64, s_347_67, s_347_69, s_347_70, s_347_73, s_347_74, s_347_75, s_347_77, s_347_79, s_347_80, s_347_83, s_347_86, s_347_87, s_347_90, s_347_92, s_347_93, s_347_96, s_347_97, s_347_100, s_347_102, s_347_104, s_347_105, s_347_106, s_347_109, s_347_111, s_347_112, s_347_113, s_347_114, s_347_117, s_347_119, s_347_120, s_347_121, s_347_124, s_347_125, s_347_128, s_347_130, s_347_132, s_347_133, s_347_134, s_347_137, s_347_139, s_347_140, s_347_141, s_347_142, s_347_145, s_347_147, s_347_148, s_347_149, s_347_152, s_347_155, s_347_156, s_347_159, s_347_161, s_347_162, s_347_165, s_347_166, s_347_169, s_347_170, s_347_171, s_347_172, s_347_175, s_347_177, s_347_179, s_347_180, s_347_183, s_347_186, s_347_187, s_347_190, s_347_192, s_347_194, s_347_195, s_347_197, s_347_198, s_347_199, s_347_202, s_347_203, s_347_204, s_347_207, s_347_209, s_347_210, s_347_211, s_347_212, s_347_215, s_347_217, s_347_219, s_347_220, s_347_222, s_347_223, s_347_224, s_347_227, s_347_228, s_347_229, s_347_232, s_347_234, s_347_235, s_347_236, s_347_237, s_347_240, s_347_242, s_347_244, s_347_245, s_347_247, s_347_248, s_347_249, s_347_252, s_347_253, s_347_254, s_347_257, s_347_259, s_347_260, s_347_261, s_347_264, s_347_267, s_347_268, s_347_271, s_347_272, s_347_273, s_347_320, s_347_321, s_347_322, s_347_323, s_347_324, s_347_326, s_347_329, s_347_332, s_347_333, s_347_336, s_347_337, s_347_338, s_347_339, s_347_342, s_347_343, s_347_344, s_347_345, s_347_348, s_347_351, s_347_354, s_347_355, s_347_358, s_347_360, s_347_363, s_347_364, s_347_366, s_347_367, s_347_370, s_347_373, s_347_374, s_347_375, s_347_378, s_347_379, s_347_380, s_347_381, s_347_382, s_347_383, s_347_386, s_347_387, s_347_389, s_347_392, s_347_393, s_347_394, s_347_397, s_347_398, s_347_399, s_347_402, s_347_405, s_347_406, s_347_409, s_347_410, s_347_411, s_347_412, s_347_413, s_347_415, s_347_416, s_347_417, s_347_418, s_347_419, s_347_421, s_347_424, s_347_427, s_347_429, s_347_430, s_347_433, s_347_435, s_347_437, s_347_440, s_347_441, s_347_443, s_347_444, s_347_445, s_347_446, s_347_449, s_347_452, s_347_453, s_347_456, s_347_458, s_347_461, s_347_462, s_347_464, s_347_465, s_347_468, s_347_471, s_347_472, s_347_473, s_347_476, s_347_477, s_347_478, s_347_479, s_347_480, s_347_481, s_347_484, s_347_486, s_347_488, s_347_491, s_347_492, s_347_493, s_347_496, s_347_497, s_347_498, s_347_501, s_347_504, s_347_505, s_347_506, s_347_507, s_347_508, s_347_509, s_347_512, s_347_515, s_347_516, s_347_517, s_347_518, s_347_521, s_347_524, s_347_525, s_347_528, s_347_529, s_347_530, s_347_531, s_347_532, s_347_533, s_347_536, s_347_539, s_347_540, s_347_541, s_347_542, s_347_545, s_347_548, s_347_551, s_347_552, s_347_553, s_347_554, s_347_555, s_347_558, s_347_561, s_347_564, s_347_565, s_347_568, s_347_569, s_347_570, s_347_572, s_347_575, s_347_578, s_347_579, s_347_580, s_347_581, s_347_582, s_347_585, s_347_588, s_347_589, s_347_590, s_347_593, s_347_594, s_347_595, s_347_598, s_347_599, s_347_600, s_347_601, s_347_604, s_347_605, s_347_607, s_347_608, s_347_611, s_347_614, s_347_615, s_347_616, s_347_617, s_347_620, s_347_623, s_347_624, s_347_625, s_347_628, s_347_631, s_347_632, s_347_633, s_347_636, s_347_637, s_347_638, s_347_641, s_347_642, s_347_643, s_347_644, s_347_645, s_347_648, s_347_651, s_347_652, s_347_654, s_347_655, s_347_658, s_347_661, s_347_664, s_347_665, s_347_666, s_347_667, s_347_668, s_347_671, s_347_672, s_347_675, s_347_676, s_347_677, s_347_680, s_347_681, s_347_684, s_347_685, s_347_686, s_347_689, s_347_690, s_347_693, s_347_694, s_347_697, s_347_698, s_347_700, s_347_701, s_347_702, s_347_705, s_347_706, s_347_709, s_347_712, s_347_713, s_347_716, s_347_717, s_347_719, s_347_721, s_347_724, s_347_725, s_347_727, s_347_728, s_347_731, s_347_734, s_347_736, s_347_739, s_347_740, s_347_742, s_347_743, s_347_746, s_347_749, s_347_750, s_347_751, s_347_752, s_347_753, s_347_756, s_347_757, s_347_758, s_347_761, s_347_763, s_347_764, s_347_767, s_347_768, e_347, mv_i_1, mv_l_1, mv_a_1, mv_a_2, mv_a_3, mk2_n, mk2_i, mk2_l, mk2_a, mk2_u, mk2_x, mB_T, mB_F, mS_cons, mS_nil, mSB_T, mSB_F, mca_nil, mca_i, mca_l, mca_r, mca_u, mca_x, mcat_i, mcat_l, mcat_r, mcat_u, mcat_x, mK_some, mK_none, va_rf_s, va_rf_n, lgc_eq, lgc_lt, lgc_gt, lgc_ge, lgc_le, mrd_104, mrd_105, mrd_106, mrd_107, true_and, and_true, and_self, false_and, and_false, true_or, or_true, false_or, or_false, not_true_eq_false, not_false_eq_true, mgb, mga, mgr, mN, reduceCtorEq, ↓reduceIte, eq_self, ge_iff_le, gt_iff_lt, hk_si, hk_sj, hk_sr, hl_si, hl_sj, hl_sr, hn_si, hn_sj, hn_sr, hs_si, hs_sj, hs_sr, hi_sj, hi_sr, hj_si, hj_sr, hr_si, hr_sj, hi_si, hj_sj, hr_sr, mg_si, mg_sj, mg_sr, Nat.reduceAdd, Nat.reduceMul, Nat.reduceSub, Nat.reduceLT, Nat.reduceGT, Nat.reduceEqDiff, Nat.reduceLeDiff, Nat.left_eq_add, Nat.add_eq_left, Nat.reduceMod, Nat.reduceDiv, Nat.succ_ne_self, g, r102, g102, l102, e33, nn_mxT, nn_clamp]
theorem fw_n {a b : Nat × Nat} (h : ¬ a.1 = 0) : fw a b = a := if_neg h
theorem fw_y {a b : Nat × Nat} (h : a.1 = 0) : fw a b = b := if_pos h
theorem SM_n (S : RLS h nm KN X L b id bs p bk) (hw : w.1 = 0) : SM1 h h nm KN X L L b b id bs p bk w := SM1.of ⟨fG_id, fun _ => S, fun z => absurd hw z⟩
theorem SM_w (hw : ¬ w.1 = 0) : SM1 h (wrH h (Int32.ofNat w.1) (Int32.ofNat w.2)) nm KN X L L' b b' id bs p bk w := SM1.of ⟨by
  unfold wrH
  exact fG_t (fG_si (Or.inr ⟨rfl, by decide, by decide, by decide, by decide⟩)) (fG_si (Or.inr ⟨rfl, by decide, by decide, by decide, by decide⟩)), fun z => absurd z hw, fun _ => by
  unfold wrH
  exact ⟨by rw [hi_si, if_neg (by omega), hi_si, if_pos ⟨rfl, rfl⟩], by rw [hi_si, if_pos ⟨rfl, rfl⟩]⟩⟩
theorem zTk_o {a z x : Nat} (h : x ≠ cnZl L) : zTk ((a, z) :: L) x = zTk L x := if_neg (fun q => h q.2.symm)
theorem aTk_o {a z x : Nat} (h : x ≠ cnAl L) : aTk ((a, z) :: L) x = aTk L x := if_neg (fun q => h q.2.symm)
theorem nA_o {a z s : Nat} (hs : s < X.nb + cnZl L) : X.nA ((a, z) :: L) s = X.nA L s := by
  unfold lcx.nA
  by_cases c : s < X.nb
  · rw [if_pos c, if_pos c]
  · rw [if_neg c, if_neg c, zTk_o (by omega)]
theorem aA_o {a z s : Nat} (hs : s < X.na + cnAl L) : X.aA ((a, z) :: L) s = X.aA L s := by
  unfold lcx.aA
  by_cases c : s < X.na
  · rw [if_pos c, if_pos c]
  · rw [if_neg c, if_neg c, aTk_o (by omega)]
theorem nA_n {a : Nat} : X.nA ((a, 0) :: L) (X.nb + cnZl L) = a := by
  unfold lcx.nA
  rw [if_neg (by omega), show X.nb + cnZl L - X.nb = cnZl L from by omega]
  exact if_pos ⟨rfl, rfl⟩
theorem aA_n {a z : Nat} (hz : ¬ z = 0) : X.aA ((a, z) :: L) (X.na + cnAl L) = a := by
  unfold lcx.aA
  rw [if_neg (by omega), show X.na + cnAl L - X.na = cnAl L from by omega]
  exact if_pos ⟨hz, rfl⟩
theorem cnZ_0 {a : Nat} : cnZl ((a, 0) :: L) = cnZl L + 1 := rfl
theorem cnZ_n {a z : Nat} (hz : ¬ z = 0) : cnZl ((a, z) :: L) = cnZl L := by
  show cnZl L + (if z = 0 then 1 else 0) = _
  rw [if_neg hz, Nat.add_zero]
theorem cnA_0 {a : Nat} : cnAl ((a, 0) :: L) = cnAl L := rfl
theorem cnA_n {a z : Nat} (hz : ¬ z = 0) : cnAl ((a, z) :: L) = cnAl L + 1 := by
  show cnAl L + (if z = 0 then 0 else 1) = _
  rw [if_neg hz]
/-- a name more -/
theorem RLS_g {W : Nat → Nat → Prop} (S : RLS h nm KN X L b id bs p bk) {a z : Nat} (ha : KN a) (hn : nm a < 100000) (hz : z < 100000) (m1 : X.nb + cnZl ((a, z) :: L) ≤ 12) (m2 : X.na + cnAl ((a, z) :: L) ≤ 6) (f : fG W h h2) (e109 : mh_i h2 109 (bs + L.length) = Int32.ofNat (nm a)) (e110 : mh_i h2 110 (bs + L.length) = Int32.ofNat (if z = 0 then X.nb + cnZl L else X.na + cnAl L)) (e111 : mh_i h2 111 (bs + L.length) = Int32.ofNat z) (e112 : mh_i h2 112 (bs + L.length) = Int32.ofNat id) (old : ∀ y j, 109 ≤ y → y ≤ 112 → j < bs + L.length → mh_i h2 y j = mh_i h y j) (e42 : mh_i h2 81 42 = Int32.ofNat (bs + L.length + 1)) (e43 : mh_i h2 81 43 = mh_i h 81 43) (e45 : mh_i h2 81 45 = Int32.ofNat (X.nb + cnZl ((a, z) :: L))) (e46 : mh_i h2 81 46 = Int32.ofNat (X.na + cnAl ((a, z) :: L))) (e47 : mh_i h2 81 47 = 0) (e33 : mh_i h2 81 33 = mh_i h 81 33) (e44 : mh_i h2 81 44 = mh_i h 81 44) (e48 : mh_i h2 81 48 = mh_i h 81 48) : RLS h2 nm KN X ((a, z) :: L) (b + 1) id bs p bk := by
  have R := S.R
  have hl := R.l
  have sl := S.l
  obtain ⟨v1, v2, v3⟩ := S.v
  have q := S.q
  have ll : ((a, z) :: L).length = L.length + 1 := rfl
  have z0 : (mh_i h2 111 (bs + L.length) = 0) = (z = 0) := by
    rw [e111, show (0 : Int32) = Int32.ofNat 0 from rfl]
    exact nn_eq (by omega) (by omega)
  have tot : X.nb + cnZl ((a, z) :: L) + (X.na + cnAl ((a, z) :: L)) = X.nb + cnZl L + (X.na + cnAl L) + 1 := by
    by_cases c : z = 0
    · subst c; rw [cnZ_0, cnA_0]; omega
    · rw [cnZ_n c, cnA_n c]; omega
  have inj : ∀ s s' : Nat, s < 100 → s' < 100 → Int32.ofNat s = Int32.ofNat s' → s = s' := fun s s' u1 u2 e => (nn_eq (a := s) (b := s') (by omega) (by omega)) ▸ e
  refine RLS.of ⟨REN.of ⟨RF_G f R.F, by rw [e42, ll, Nat.add_assoc], e43.trans R.b, by rw [ll]; omega, ⟨⟨e109, hn, e110, e111, hz, id, R.i, e112, ⟨fun _ => by omega, fun _ => rfl⟩⟩, ?_⟩, R.i⟩, e33.trans S.p, e44.trans S.k, e45, e46, e47, ⟨fun j hj => ?_, fun s hs => ?_, fun s hs => ?_⟩, fun j hj => ?_, q, ⟨m1, m2⟩, by rw [ll, tot]; omega, fun a' z' mem => ?_, e48.trans S.y⟩
  · rw [Nat.add_sub_cancel]
    exact enR_c L b (fun y j u1 u2 u3 u4 => old y j u1 u2 u4) R.n
  · rw [ll] at hj
    by_cases c : j = bs + L.length
    · subst c
      refine ⟨_, e110, ?_⟩
      by_cases cz : z = 0
      · subst cz
        refine Or.inl ⟨e111, by rw [if_pos rfl, cnZ_0]; omega, ?_⟩
        rw [if_pos rfl, nA_n]
        exact e109
      · refine Or.inr ⟨fun y => cz (z0 ▸ y), by rw [if_neg cz, cnA_n cz]; omega, ?_⟩
        rw [if_neg cz, aA_n cz]
        exact e109
    · have hj' : j < bs + L.length := by omega
      obtain ⟨s, s1, s2⟩ := v1 j hj'
      rw [old 110 j (by decide) (by decide) hj', old 111 j (by decide) (by decide) hj', old 109 j (by decide) (by decide) hj']
      refine ⟨s, s1, ?_⟩
      rcases s2 with ⟨a1, a2, a3⟩ | ⟨a1, a2, a3⟩
      · refine Or.inl ⟨a1, ?_, by rw [nA_o a2]; exact a3⟩
        by_cases cz : z = 0
        · subst cz; rw [cnZ_0]; omega
        · rw [cnZ_n cz]; exact a2
      · refine Or.inr ⟨a1, ?_, by rw [aA_o a2]; exact a3⟩
        by_cases cz : z = 0
        · subst cz; rw [cnA_0]; exact a2
        · rw [cnA_n cz]; omega
  · rw [ll]
    by_cases c : s < X.nb + cnZl L
    · obtain ⟨j, j1, j2, j3⟩ := v2 s c
      exact ⟨j, by omega, by rw [old 110 j (by decide) (by decide) j1]; exact j2, by rw [old 111 j (by decide) (by decide) j1]; exact j3⟩
    · by_cases cz : z = 0
      · subst cz
        rw [cnZ_0] at hs
        refine ⟨bs + L.length, by omega, ?_, e111⟩
        rw [e110, if_pos rfl, show s = X.nb + cnZl L from by omega]
      · rw [cnZ_n cz] at hs
        exact absurd hs c
  · rw [ll]
    by_cases c : s < X.na + cnAl L
    · obtain ⟨j, j1, j2, j3⟩ := v3 s c
      exact ⟨j, by omega, by rw [old 110 j (by decide) (by decide) j1]; exact j2, by rw [old 111 j (by decide) (by decide) j1]; exact j3⟩
    · by_cases cz : z = 0
      · subst cz
        rw [cnA_0] at hs
        exact absurd hs c
      · rw [cnA_n cz] at hs
        refine ⟨bs + L.length, by omega, ?_, fun y => cz (z0 ▸ y)⟩
        rw [e110, if_neg cz, show s = X.na + cnAl L from by omega]
  · rw [ll] at hj
    by_cases c : j = bs + L.length
    · subst c
      exact ⟨id, q.1, e112⟩
    · obtain ⟨i, i1, i2⟩ := S.i j (by omega)
      exact ⟨i, i1, by rw [old 112 j (by decide) (by decide) (by omega)]; exact i2⟩
  · rcases List.mem_cons.mp mem with e | e
    · cases e; exact ha
    · exact S.w a' z' e
end PSl
