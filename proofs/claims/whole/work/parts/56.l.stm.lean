set_option maxRecDepth 100000
/-! the reference's statement, whole -/
/-- a BLOCK's contract, by the fuel -/
def BLf (nm : Nat → Nat) (KN : Nat → Prop) (D : lyD) (K : Nat → Int32) (m cnt : Nat) (FK : Nat → Nat) (T : tr) (Sc : cps) (f : Nat) : Prop := ∀ (fb : Bool) (t : tr) (s p : Nat) (L : cen) (b : Nat) (X : lcx) (id bs bk : Nat) (h : mh_H) (bl N' s' c dd : Nat), RLC h nm KN D K m cnt FK T → RLS h nm KN X L b id bs p bk → stR D.sp Sc X.fu N' fb t s s' L b → X.fu < D.c → ts t + rkF D X.fu ≤ f → trR h nm t (bl + 1) (Int32.ofNat bl) → mh_i h 97 bl = Int32.ofNat (1 + ts t) → bl + 1 + ts t ≤ cnt → (tvT K m t ∧ nmK KN t ∧ syT t) → chW (mh_i h 96) c bl (FK X.fu) → 0 < bl → (fb = true → bl = D.B X.fu) → (fb = false → D.B X.fu < bl) → 3 * (250 - p) + 10 ≤ dd → ∃ h', BPz h h' D nm f fb t (bl + 1) bl s p L b X bs bk (lyQ D f fb t p L b X) ∧ (mh_i h' 81 42 = mh_i h 81 42 ∧ mh_i h' 81 45 = mh_i h 81 45 ∧ mh_i h' 81 46 = mh_i h 81 46) ∧ ∀ Q, mcall dd 346 [.ref 81, .int (Int32.ofNat bl), .int (Int32.ofNat (FK X.fu)), .int (owI X.ow), .int (Int32.ofNat id)] h Q = Q none h'
section CIl
variable {d : Nat} {h h1 h2 : mh_H} {nm : Nat → Nat} {KN : Nat → Prop} {K : Nat → Int32} {D : lyD} {FK : Nat → Nat} {T : tr} {Sc : cps} {X : lcx} {L L' : cen} {b b' id bs p p1 bk k pk n m cnt f s s1 bl N N' c : Nat} {t r cs tA : tr} {w : Nat × Nat} {q : lyq} {rl fb : Bool}
theorem lyW_f (hp : p ≠ 249) : lyW D n cs p L b rl X = fw (wrM D n cs L b rl X) (if tK n = 7 then (match cs with | .branch _ _ (.branch f _ t) => lyWc D n t L X (fmH D.sp D.H X.fu (tV f).toNat) | _ => (0, 0)) else if tK n = 3 then (if X.nb + cnZl L = 12 then (10, tP n) else (0, 0)) else if tK n = 4 then (if X.na + cnAl L = 6 then (13, tP n) else (0, 0)) else (0, 0)) := by
  unfold lyW fw
  rw [if_neg hp]
  by_cases c : (wrM D n cs L b rl X).1 = 0
  · rw [if_pos c, if_neg (fun z => z c)]
    rfl
  · rw [if_neg c, if_pos c]
theorem wrM_s (hn : tK n ≠ 11) : wrM D n cs L b rl X = wrS D.sp D.H X.fu L b rl n cs := if_neg (fun z => hn z.1)
theorem p_347w (S : RLS h nm KN X L b id bs 249 bk) (hk : k < 26000) (e94 : mh_i h 94 k = Int32.ofNat (tP n)) {a2 a3 a4 a5 : Int32} : ∀ Q, mcall (d + 1) 347 [.ref 81, .int (Int32.ofNat k), .int a2, .int a3, .int a4, .int a5] h Q = Q none (wrH h 11 (Int32.ofNat (tP n))) := by
  intro Q
  have F := S.R.F
  have g := F.g 81 14 70 (by decide +kernel)
  have e33 := S.p
  have i249 : (Int32.ofNat 249 = 249) = True := eq_true rfl
  have w11 : ∀ Q, mcall d 335 [.ref 81, .int 11, .int (Int32.ofNat k)] h Q = Q (some (.int 0)) (wrH h 11 (Int32.ofNat (tP n))) := fun Q => (c_335 (d := d) (k := k) (w := 11) F hk S.z Q).trans (by rw [e94])
  clear S F
  simp (disch := omega) only [s_347_0, s_347_1, s_347_4, s_347_7, s_347_10, s_347_11, s_347_13, s_347_14, s_347_17, s_347_18, s_347_19, s_347_20, s_347_23, s_347_25, s_347_26, s_347_27, s_347_30, s_347_31, s_347_32, s_347_35, s_347_36, s_347_39, s_347_41, s_347_42, s_347_43, s_347_44, s_347_47, s_347_49, s_347_51, s_347_52, s_347_53, s_347_56, s_347_58, s_347_59, s_347_62, s_347_63, s_347_64, s_347_67, s_347_69, s_347_70, s_347_73, s_347_74, s_347_75, s_347_77, s_347_79, s_347_80, s_347_83, s_347_86, s_347_87, s_347_90, s_347_92, s_347_93, s_347_96, s_347_97, s_347_100, s_347_102, s_347_104, s_347_105, s_347_106, s_347_109, s_347_111, s_347_112, s_347_113, s_347_114, s_347_117, s_347_119, s_347_120, s_347_121, s_347_124, s_347_125, s_347_128, s_347_130, s_347_132, s_347_133, s_347_134, s_347_137, s_347_139, s_347_140, s_347_141, s_347_142, s_347_145, s_347_147, s_347_148, s_347_149, s_347_152, s_347_155, s_347_156, s_347_159, s_347_161, s_347_162, s_347_165, s_347_166, s_347_169, s_347_170, s_347_171, s_347_172, s_347_175, s_347_177, s_347_179, s_347_180, s_347_183, s_347_186, s_347_187, s_347_190, s_347_192, s_347_194, s_347_195, s_347_197, s_347_198, s_347_199, s_347_202, s_347_203, s_347_204, s_347_207, s_347_209, s_347_210, s_347_211, s_347_212, s_347_215, s_347_217, s_347_219, s_347_220, s_347_222, s_347_223, s_347_224, s_347_227, s_347_228, s_347_229, s_347_232, s_347_234, s_347_235, s_347_236, s_347_237, s_347_240, s_347_242, s_347_244, s_347_245, s_347_247, s_347_248, s_347_249, s_347_252, s_347_253, s_347_254, s_347_257, s_347_259, s_347_260, s_347_261, s_347_264, s_347_267, s_347_268, s_347_271, s_347_272, s_347_273, s_347_320, s_347_321, s_347_322, s_347_323, s_347_324, s_347_326, s_347_329, s_347_332, s_347_333, s_347_336, s_347_337, s_347_338, s_347_339, s_347_342, s_347_343, s_347_344, s_347_345, s_347_348, s_347_351, s_347_354, s_347_355, s_347_358, s_347_360, s_347_363, s_347_364, s_347_366, s_347_367, s_347_370, s_347_373, s_347_374, s_347_375, s_347_378, s_347_379, s_347_380, s_347_381, s_347_382, s_347_383, s_347_386, s_347_387, s_347_389, s_347_392, s_347_393, s_347_394, s_347_397, s_347_398, s_347_399, s_347_402, s_347_405, s_347_406, s_347_409, s_347_410, s_347_411, s_347_412, s_347_413, s_347_415, s_347_416, s_347_417, s_347_418, s_347_419, s_347_421, s_347_424, s_347_427, s_347_429, s_347_430, s_347_433, s_347_435, s_347_437, s_347_440, s_347_441, s_347_443, s_347_444, s_347_445, s_347_446, s_347_449, s_347_452, s_347_453, s_347_456, s_347_458, s_347_461, s_347_462, s_347_464, s_347_465, s_347_468, s_347_471, s_347_472, s_347_473, s_347_476, s_347_477, s_347_478, s_347_479, s_347_480, s_347_481, s_347_484, s_347_486, s_347_488, s_347_491, s_347_492, s_347_493, s_347_496, s_347_497, s_347_498, s_347_501, s_347_504, s_347_505, s_347_506, s_347_507, s_347_508, s_347_509, s_347_512, s_347_515, s_347_516, s_347_517, s_347_518, s_347_521, s_347_524, s_347_525, s_347_528, s_347_529, s_347_530, s_347_531, s_347_532, s_347_533, s_347_536, s_347_539, s_347_540, s_347_541, s_347_542, s_347_545, s_347_548, s_347_551, s_347_552, s_347_553, s_347_554, s_347_555, s_347_558, s_347_561, s_347_564, s_347_565, s_347_568, s_347_569, s_347_570, s_347_572, s_347_575, s_347_578, s_347_579, s_347_580, s_347_581, s_347_582, s_347_585, s_347_588, s_347_589, s_347_590, s_347_593, s_347_594, s_347_595, s_347_598, s_347_599, s_347_600, s_347_601, s_347_604, s_347_605, s_347_607, s_347_608, s_347_611, s_347_614, s_347_615, s_347_616, s_347_617, s_347_620, s_347_623, s_347_624, s_347_625, s_347_628, s_347_631, s_347_632, s_347_633, s_347_636, s_347_637, s_347_638, s_347_641, s_347_642, s_347_643, s_347_644, s_347_645, s_347_648, s_347_651, s_347_652, s_347_654, s_347_655, s_347_658, s_347_661, s_347_664, s_347_665, s_347_666, s_347_667, s_347_668, s_347_671, s_347_672, s_347_675, s_347_676, s_347_677, s_347_680, s_347_681, s_347_684, s_347_685, s_347_686, s_347_689, s_347_690, s_347_693, s_347_694, s_347_697, s_347_698, s_347_700, s_347_701, s_347_702, s_347_705, s_347_706, s_347_709, s_347_712, s_347_713, s_347_716, s_347_717, s_347_719, s_347_721, s_347_724, s_347_725, s_347_727, s_347_728, s_347_731, s_347_734, s_347_736, s_347_739, s_347_740, s_347_742, s_347_743, s_347_746, s_347_749, s_347_750, s_347_751, s_347_752, s_347_753, s_347_756, s_347_757, s_347_758, s_347_761, s_347_763, s_347_764, s_347_767, s_347_768, e_347, mv_i_1, mv_l_1, mv_a_1, mv_a_2, mv_a_3, mk2_n, mk2_i, mk2_l, mk2_a, mk2_u, mk2_x, mB_T, mB_F, mS_cons, mS_nil, mSB_T, mSB_F, mca_nil, mca_i, mca_l, mca_r, mca_u, mca_x, mcat_i, mcat_l, mcat_r, mcat_u, mcat_x, mK_some, mK_none, va_rf_s, va_rf_n, lgc_eq, lgc_lt, lgc_gt, lgc_ge, lgc_le, mrd_104, mrd_105, mrd_106, mrd_107, true_and, and_true, and_self, false_and, and_false, true_or, or_true, false_or, or_false, not_true_eq_false, not_false_eq_true, mgb, mga, mgr, mN, reduceCtorEq, ↓reduceIte, eq_self, ge_iff_le, gt_iff_lt, Nat.reduceAdd, Nat.reduceMul, Nat.reduceSub, Nat.reduceLT, Nat.reduceGT, Nat.reduceEqDiff, Nat.reduceLeDiff, Nat.left_eq_add, Nat.add_eq_left, Nat.reduceMod, Nat.reduceDiv, Nat.succ_ne_self, g, e33, i249, w11]
theorem lwT_zz {lo : lkt} : ∀ t : tr, (lwT lo t).1 = 0 → lwT lo t = (0, 0) := by
  intro t
  induction t with
  | leaf _ => exact fun _ => rfl
  | branch n cs r _ ih =>
    intro z
    rw [lwT_B] at z ⊢
    by_cases c : (lwN lo n cs).1 = 0
    · rw [fw_y c] at z ⊢
      exact ih z
    · rw [fw_n c] at z
      exact absurd z c
theorem fw_T {lo : lkt} {t : tr} : fw (lwT lo t) (0, 0) = lwT lo t := by
  by_cases c : (lwT lo t).1 = 0
  · rw [fw_y c, lwT_zz t c]
  · rw [fw_n c]
theorem fw_as {a b c : Nat × Nat} : fw (fw a b) c = fw a (fw b c) := by
  by_cases z : a.1 = 0
  · rw [fw_y z, fw_y z]
  · rw [fw_n z, fw_n z, fw_n z]
theorem nxE_oo (h3 : tK n ≠ 3) (h4 : tK n ≠ 4) : nxE n cs L = L := by
  unfold nxE
  rw [if_neg h3, if_neg h4]
theorem lyU_o {rec : Bool → tr → Nat → cen → Nat → lcx → lyq} (n7 : tK n ≠ 7) (n8 : tK n ≠ 8) (n9 : tK n ≠ 9) : lyU D rec n cs p L X = ((0, 0), p + 1) := by
  unfold lyU
  rw [if_neg n7, if_neg n8, if_neg n9]
/-- a statement without BLOCKs or calls -/
theorem SQ_1 (hp : p < 249) (f0 : fG prWr h h1) (k0 : kpR p 40 h h1) (R : RPo h1 nm L X k p) (hl : bs + L.length ≤ 40) (S : SM1 h1 h2 nm KN X L L' b b' id bs (p + 1) bk w) (n7 : tK n ≠ 7) (n8 : tK n ≠ 8) (n9 : tK n ≠ 9) (hw : lyW D n cs p L b rl X = w) : SQz h (mh_si h2 102 p (mh_i h2 81 33)) nm KN X L L' b' id bs p bk k (lyG (lyW D n cs p L b rl X, p) fun _ => lyU D (lyQ D f) n cs p L X) ∧ ((lyG (lyW D n cs p L b rl X, p) fun _ => lyU D (lyQ D f) n cs p L X).1.1 = 0 → ∀ Pt, LYN D Pt (LYR D Pt f) n cs k s p L X → PTz (mh_si h2 102 p (mh_i h2 81 33)) nm Pt (p + 1) (Pt p).E) := by
  rw [hw, lyU_o n7 n8 n9]
  refine ⟨SQ_of hp f0 k0 R hl (ST_c (ST_1 S) ?_ ?_ ?_), fun _ Pt ly => ?_⟩
  · by_cases z : w.1 = 0
    · rw [lyG_y (q := (w, p)) z]; exact ⟨fun _ => z, fun _ => rfl⟩
    · rw [lyG_n (q := (w, p)) z]
  · intro z
    rw [lyG_n (q := (w, p)) z]
  · intro z
    rw [lyG_y (q := (w, p)) z]
  · rcases ly with ⟨y, -⟩ | ⟨y, -⟩ | ⟨y, -⟩ | ⟨-, -, -, y⟩
    · exact absurd y n7
    · exact absurd y n8
    · exact absurd y n9
    · intro r r1 r2
      rw [y] at r2
      omega
theorem chW_s (cw : chW (mh_i h 96) c bl pk) (hk : k < 26000) (hb : 0 < bl) (hb2 : bl < 26000) (e : mh_i h 96 k = Int32.ofNat bl) : chW (mh_i h 96) (c + 1) k pk := ⟨hk, Or.inr ⟨bl, e, hb, hb2, cw⟩⟩
theorem chW_c (e : ∀ j, mh_i h1 96 j = mh_i h 96 j) (cw : chW (mh_i h 96) c bl pk) : chW (mh_i h1 96) c bl pk := by
  rw [show mh_i h1 96 = mh_i h 96 from funext e]
  exact cw
end CIl
