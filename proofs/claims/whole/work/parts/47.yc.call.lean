set_option maxRecDepth 100000
/-! the reference's step: a call -/
def wr (W : Nat → Int32) (n i m : Nat) (F : Nat → Int64) : Nat → Int32 := fun j => if n + i ≤ j ∧ j < n + i + m then (F (j - n)).toInt32 else W j
def ruW (b j : Nat) : Prop := b = 2642 ∨ (b = 81 ∧ (j = 67 ∨ j = 68))
theorem ru_rd : ∀ b j, ruW b j → rdW b j := fun b j z => by unfold ruW at z; unfold rdW; omega
theorem rc_ru : ∀ b j, rcW b j → ruW b j := fun b j z => by unfold rcW at z; unfold ruW; omega
section UWs
variable {d : Nat} {h h1 : mh_H} {p gv k c n bh cnt zk E f1 : Nat} {sN : Int → Prop} {en aR : Int → Nat} {A : ab} {t : tr}
theorem ruW_i (f : fG ruW h h1) {b : Nat} (hb : b ≠ 2642 ∧ b ≠ 81) : mh_i h1 b = mh_i h b := funext fun j => (f.2.2.2.2.2 b j (by unfold ruW; omega)).1
theorem RRU_s (f : fG ruW h h1) (R : RRU h p gv sN en aR) : RRU h1 p gv sN en aR := by
  have i81 : ∀ j, j ≠ 67 ∧ j ≠ 68 → mh_i h1 81 j = mh_i h 81 j := fun j hj => (f.2.2.2.2.2 81 j (by unfold ruW; omega)).1
  refine RRU.of ⟨RF_G f R.F, by rw [i81 64 (by omega)]; exact R.p, R.b, by rw [i81 60 (by omega)]; exact R.g, R.gb, ?_⟩
  have m := R.m
  unfold MTT at m ⊢
  rw [ruW_i f (by omega : 105 ≠ 2642 ∧ 105 ≠ 81), ruW_i f (by omega : 106 ≠ 2642 ∧ 106 ≠ 81), ruW_i f (by omega : 107 ≠ 2642 ∧ 107 ≠ 81), ruW_i f (by omega : 108 ≠ 2642 ∧ 108 ≠ 81)]
  exact m
abbrev caL (p k i s : Nat) : me_L := [some (.ref 81), some (.int (Int32.ofNat p)), some (.int (Int32.ofNat k)), none, none, none, some (.int (Int32.ofNat i)), some (.int (Int32.ofNat s)), none, none]
/-- the SUMs end -/
theorem ca_e (F : RF h) (hzk : mh_i h 97 k = Int32.ofNat zk) (hk : k < 26000) (hb : k + zk ≤ 26000) {i s : Nat} (hs : s ≤ k + zk) (e : ¬ mh_i h 81 68 = 0 ∨ s = k + zk) : ∀ Q, mw (d + 1) 364 Q 259 (caL p k i s) [] h = mw (d + 1) 364 Q 303 (caL p k i s) [] h := fun Q => by
  have g := F.g 81 14 70 (by decide +kernel)
  have c333 := c_333 (d := d) F hk hzk
  clear F
  by_cases c : s = k + zk
  · have le : (k + zk ≤ s) = True := eq_true (by omega)
    simp (disch := omega) only [s_364_0, s_364_1, s_364_4, s_364_5, s_364_6, s_364_9, s_364_10, s_364_11, s_364_12, s_364_13, s_364_16, s_364_17, s_364_18, s_364_64, s_364_65, s_364_68, s_364_69, s_364_70, s_364_71, s_364_74, s_364_75, s_364_78, s_364_79, s_364_80, s_364_81, s_364_84, s_364_87, s_364_88, s_364_89, s_364_92, s_364_95, s_364_96, s_364_99, s_364_100, s_364_103, s_364_104, s_364_105, s_364_106, s_364_107, s_364_108, s_364_109, s_364_110, s_364_113, s_364_114, s_364_115, s_364_117, s_364_119, s_364_121, s_364_124, s_364_125, s_364_128, s_364_130, s_364_131, s_364_134, s_364_135, s_364_136, s_364_137, s_364_139, s_364_140, s_364_141, s_364_142, s_364_145, s_364_148, s_364_149, s_364_150, s_364_153, s_364_154, s_364_155, s_364_156, s_364_157, s_364_160, s_364_163, s_364_164, s_364_165, s_364_168, s_364_171, s_364_172, s_364_175, s_364_176, s_364_179, s_364_180, s_364_181, s_364_184, s_364_185, s_364_186, s_364_187, s_364_188, s_364_191, s_364_192, s_364_193, s_364_194, s_364_195, s_364_196, s_364_197, s_364_200, s_364_201, s_364_202, s_364_203, s_364_204, s_364_205, s_364_206, s_364_207, s_364_210, s_364_213, s_364_215, s_364_216, s_364_217, s_364_218, s_364_219, s_364_222, s_364_225, s_364_228, s_364_229, s_364_230, s_364_233, s_364_236, s_364_237, s_364_240, s_364_242, s_364_243, s_364_244, s_364_245, s_364_246, s_364_247, s_364_250, s_364_251, s_364_252, s_364_254, s_364_255, s_364_256, s_364_257, s_364_259, s_364_261, s_364_262, s_364_263, s_364_266, s_364_269, s_364_270, s_364_273, s_364_276, s_364_277, s_364_280, s_364_282, s_364_283, s_364_285, s_364_288, s_364_289, s_364_292, s_364_293, s_364_295, s_364_298, s_364_300, s_364_304, s_364_306, s_364_308, s_364_310, s_364_313, s_364_314, s_364_317, s_364_320, s_364_321, s_364_324, s_364_325, s_364_328, s_364_329, s_364_330, s_364_332, s_364_333, s_364_334, s_364_337, s_364_339, s_364_340, s_364_341, s_364_342, s_364_345, s_364_348, s_364_349, s_364_352, s_364_353, s_364_354, s_364_355, s_364_356, s_364_357, s_364_360, s_364_361, s_364_362, s_364_363, s_364_366, s_364_367, s_364_368, s_364_371, s_364_372, s_364_373, s_364_374, s_364_375, s_364_376, s_364_379, s_364_381, s_364_382, s_364_383, s_364_386, s_364_388, s_364_389, s_364_392, s_364_395, s_364_396, s_364_397, s_364_399, s_364_402, s_364_403, s_364_406, s_364_408, s_364_409, s_364_410, s_364_413, s_364_414, s_364_415, s_364_416, s_364_419, s_364_420, s_364_421, s_364_424, s_364_425, s_364_426, s_364_428, s_364_431, s_364_432, s_364_433, s_364_436, s_364_439, s_364_440, s_364_443, s_364_444, s_364_446, s_364_449, s_364_450, s_364_451, s_364_454, s_364_455, s_364_456, s_364_459, s_364_462, s_364_463, s_364_464, s_364_467, s_364_468, s_364_469, s_364_470, s_364_471, s_364_472, s_364_475, s_364_477, s_364_478, s_364_481, s_364_484, s_364_485, s_364_488, s_364_490, s_364_493, s_364_494, s_364_495, s_364_498, s_364_501, s_364_502, s_364_505, s_364_506, s_364_507, s_364_510, s_364_511, s_364_512, s_364_515, s_364_516, s_364_517, s_364_518, s_364_521, s_364_522, s_364_523, s_364_524, s_364_525, s_364_526, s_364_527, s_364_530, s_364_533, s_364_534, s_364_536, s_364_539, s_364_540, s_364_541, s_364_542, s_364_545, s_364_546, s_364_547, s_364_548, s_364_549, s_364_550, s_364_553, s_364_554, s_364_555, s_364_558, s_364_561, s_364_562, s_364_563, s_364_566, s_364_567, s_364_570, s_364_571, s_364_574, s_364_575, s_364_576, s_364_579, s_364_580, s_364_581, s_364_582, s_364_583, s_364_584, s_364_587, e_364, mv_i_1, mv_l_1, mv_a_1, mv_a_2, mv_a_3, mk2_n, mk2_i, mk2_l, mk2_a, mk2_u, mk2_x, mB_T, mB_F, mS_cons, mS_nil, mSB_T, mSB_F, mca_nil, mca_i, mca_l, mca_r, mca_u, mca_x, mcat_i, mcat_l, mcat_r, mcat_u, mcat_x, mK_some, mK_none, va_rf_s, va_rf_n, lgc_eq, lgc_lt, lgc_gt, lgc_ge, lgc_le, mrd_104, mrd_105, mrd_106, mrd_107, true_and, and_true, and_self, false_and, and_false, true_or, or_true, false_or, or_false, not_true_eq_false, not_false_eq_true, mgb, mga, mgr, mN, reduceCtorEq, ↓reduceIte, eq_self, ge_iff_le, gt_iff_lt, hk_si, hk_sj, hk_sr, hl_si, hl_sj, hl_sr, hn_si, hn_sj, hn_sr, hs_si, hs_sj, hs_sr, hi_sj, hi_sr, hj_si, hj_sr, hr_si, hr_sj, hi_si, hj_sj, hr_sr, mg_si, mg_sj, mg_sr, Nat.reduceAdd, Nat.reduceMul, Nat.reduceSub, Nat.reduceLT, Nat.reduceGT, Nat.reduceEqDiff, Nat.reduceLeDiff, Nat.left_eq_add, Nat.add_eq_left, Nat.reduceMod, Nat.reduceDiv, Nat.succ_ne_self, g, c333, nn_le, le]
  · have le : (k + zk ≤ s) = False := eq_false (by omega)
    have t0 : (mh_i h 81 68 = 0) = False := eq_false (e.resolve_right c)
    simp (disch := omega) only [s_364_0, s_364_1, s_364_4, s_364_5, s_364_6, s_364_9, s_364_10, s_364_11, s_364_12, s_364_13, s_364_16, s_364_17, s_364_18, s_364_64, s_364_65, s_364_68, s_364_69, s_364_70, s_364_71, s_364_74, s_364_75, s_364_78, s_364_79, s_364_80, s_364_81, s_364_84, s_364_87, s_364_88, s_364_89, s_364_92, s_364_95, s_364_96, s_364_99, s_364_100, s_364_103, s_364_104, s_364_105, s_364_106, s_364_107, s_364_108, s_364_109, s_364_110, s_364_113, s_364_114, s_364_115, s_364_117, s_364_119, s_364_121, s_364_124, s_364_125, s_364_128, s_364_130, s_364_131, s_364_134, s_364_135, s_364_136, s_364_137, s_364_139, s_364_140, s_364_141, s_364_142, s_364_145, s_364_148, s_364_149, s_364_150, s_364_153, s_364_154, s_364_155, s_364_156, s_364_157, s_364_160, s_364_163, s_364_164, s_364_165, s_364_168, s_364_171, s_364_172, s_364_175, s_364_176, s_364_179, s_364_180, s_364_181, s_364_184, s_364_185, s_364_186, s_364_187, s_364_188, s_364_191, s_364_192, s_364_193, s_364_194, s_364_195, s_364_196, s_364_197, s_364_200, s_364_201, s_364_202, s_364_203, s_364_204, s_364_205, s_364_206, s_364_207, s_364_210, s_364_213, s_364_215, s_364_216, s_364_217, s_364_218, s_364_219, s_364_222, s_364_225, s_364_228, s_364_229, s_364_230, s_364_233, s_364_236, s_364_237, s_364_240, s_364_242, s_364_243, s_364_244, s_364_245, s_364_246, s_364_247, s_364_250, s_364_251, s_364_252, s_364_254, s_364_255, s_364_256, s_364_257, s_364_259, s_364_261, s_364_262, s_364_263, s_364_266, s_364_269, s_364_270, s_364_273, s_364_276, s_364_277, s_364_280, s_364_282, s_364_283, s_364_285, s_364_288, s_364_289, s_364_292, s_364_293, s_364_295, s_364_298, s_364_300, s_364_304, s_364_306, s_364_308, s_364_310, s_364_313, s_364_314, s_364_317, s_364_320, s_364_321, s_364_324, s_364_325, s_364_328, s_364_329, s_364_330, s_364_332, s_364_333, s_364_334, s_364_337, s_364_339, s_364_340, s_364_341, s_364_342, s_364_345, s_364_348, s_364_349, s_364_352, s_364_353, s_364_354, s_364_355, s_364_356, s_364_357, s_364_360, s_364_361, s_364_362, s_364_363, s_364_366, s_364_367, s_364_368, s_364_371, s_364_372, s_364_373, s_364_374, s_364_375, s_364_376, s_364_379, s_364_381, s_364_382, s_364_383, s_364_386, s_364_388, s_364_389, s_364_392, s_364_395, s_364_396, s_364_397, s_364_399, s_364_402, s_364_403, s_364_406, s_364_408, s_364_409, s_364_410, s_364_413, s_364_414, s_364_415, s_364_416, s_364_419, s_364_420, s_364_421, s_364_424, s_364_425, s_364_426, s_364_428, s_364_431, s_364_432, s_364_433, s_364_436, s_364_439, s_364_440, s_364_443, s_364_444, s_364_446, s_364_449, s_364_450, s_364_451, s_364_454, s_364_455, s_364_456, s_364_459, s_364_462, s_364_463, s_364_464, s_364_467, s_364_468, s_364_469, s_364_470, s_364_471, s_364_472, s_364_475, s_364_477, s_364_478, s_364_481, s_364_484, s_364_485, s_364_488, s_364_490, s_364_493, s_364_494, s_364_495, s_364_498, s_364_501, s_364_502, s_364_505, s_364_506, s_364_507, s_364_510, s_364_511, s_364_512, s_364_515, s_364_516, s_364_517, s_364_518, s_364_521, s_364_522, s_364_523, s_364_524, s_364_525, s_364_526, s_364_527, s_364_530, s_364_533, s_364_534, s_364_536, s_364_539, s_364_540, s_364_541, s_364_542, s_364_545, s_364_546, s_364_547, s_364_548, s_364_549, s_364_550, s_364_553, s_364_554, s_364_555, s_364_558, s_364_561, s_364_562, s_364_563, s_364_566, s_364_567, s_364_570, s_364_571, s_364_574, s_364_575, s_364_576, s_364_579, s_364_580, s_364_581, s_364_582, s_364_583, s_364_584, s_364_587, e_364, mv_i_1, mv_l_1, mv_a_1, mv_a_2, mv_a_3, mk2_n, mk2_i, mk2_l, mk2_a, mk2_u, mk2_x, mB_T, mB_F, mS_cons, mS_nil, mSB_T, mSB_F, mca_nil, mca_i, mca_l, mca_r, mca_u, mca_x, mcat_i, mcat_l, mcat_r, mcat_u, mcat_x, mK_some, mK_none, va_rf_s, va_rf_n, lgc_eq, lgc_lt, lgc_gt, lgc_ge, lgc_le, mrd_104, mrd_105, mrd_106, mrd_107, true_and, and_true, and_self, false_and, and_false, true_or, or_true, false_or, or_false, not_true_eq_false, not_false_eq_true, mgb, mga, mgr, mN, reduceCtorEq, ↓reduceIte, eq_self, ge_iff_le, gt_iff_lt, hk_si, hk_sj, hk_sr, hl_si, hl_sj, hl_sr, hn_si, hn_sj, hn_sr, hs_si, hs_sj, hs_sr, hi_sj, hi_sr, hj_si, hj_sr, hr_si, hr_sj, hi_si, hj_sj, hr_sr, mg_si, mg_sj, mg_sr, Nat.reduceAdd, Nat.reduceMul, Nat.reduceSub, Nat.reduceLT, Nat.reduceGT, Nat.reduceEqDiff, Nat.reduceLeDiff, Nat.left_eq_add, Nat.add_eq_left, Nat.reduceMod, Nat.reduceDiv, Nat.succ_ne_self, g, c333, nn_le, le, t0]
theorem ca_1 (hA : A.n ≤ 12 ∧ A.a ≤ 6) {V P N : Nat → Int32} (hk : k < 26000) (hb : k + zk ≤ 26000) : ∀ t i s c (h1 : mh_H), RRU h1 p gv sN en aR → mh_i h1 2640 = V → mh_i h1 2641 = P → mh_i h1 2639 = N → mh_i h1 97 k = Int32.ofNat zk → nd (mh_i h1 93) (mh_i h1 95) (mh_i h1 97) s t → wR sN en A t → xA aR en A.rm t → s + ts t = k + zk → i + tl t ≤ 12 → 2 * th t + 2 ≤ d → mh_i h1 81 68 = 0 → mh_i h1 81 67 = Int32.ofNat c → c + ts t < 1000000000 → ∃ h' i' s', fG ruW h1 h' ∧ (∀ j, j < i → mh_j h' 2642 j = mh_j h1 2642 j) ∧ i' ≤ 13 ∧ (∀ W, mh_i h' 81 67 = Int32.ofNat (s_row en V P A.rm N gv t (n + i) c W).c ∧ mh_i h' 81 68 = (s_row en V P A.rm N gv t (n + i) c W).w ∧ ((s_row en V P A.rm N gv t (n + i) c W).w = 0 → i' = i + tl t ∧ (s_row en V P A.rm N gv t (n + i) c W).V = wr W n i (tl t) (mh_j h' 2642))) ∧ ∀ Q, mw (d + 1) 364 Q 259 (caL p k i s) [] h1 = mw (d + 1) 364 Q 303 (caL p k i' s') [] h' := by
  intro t
  induction t with
  | leaf u =>
    intro i s c h1 R hV hP hN hzk hn hw hx he hi hd e8 e7 hc
    refine ⟨h1, i, s, fG_id, fun _ _ => rfl, by have hi : i + 0 ≤ 12 := hi; omega, fun W => ⟨e7, e8, fun _ => ⟨rfl, ?_⟩⟩, ca_e R.F hzk hk hb (by have he : s + 0 = k + zk := he; omega) (Or.inr (by have he : s + 0 = k + zk := he; omega))⟩
    funext j
    show W j = wr W n i 0 _ j
    unfold wr
    rw [if_neg (by omega)]
  | branch m cs r _ ih =>
    intro i s c h1 R hV hP hN hzk hn hw hx he hi hd e8 e7 hc
    have hi : i + (1 + tl r) ≤ 12 := hi
    have htl : tl (.branch m cs r) = 1 + tl r := rfl
    obtain ⟨d', hd'⟩ : ∃ d', d = d' + 1 := ⟨d - 1, by omega⟩
    obtain ⟨h2, x, f2, o2, run2⟩ := (U_all (p := p) (gv := gv) (sN := sN) (en := en) (aR := aR) (A := A) (V := V) (P := P) (N := N) hA (.branch m cs r)).1 h1 d s c R hV hP hN hn hw.1 hx (by omega) hd e8 e7 (by omega)
    have xc := (xv_c2 (en := en) (V := V) (P := P) (rm := A.rm) (N := N) (g := gv) (.branch m cs r)).1 c
    have tT' : tT (.branch m cs r) = r := rfl
    rw [tT', ts_B] at xc
    rw [nd_B] at hn
    obtain ⟨n1, n2, n3, n4, n5⟩ := hn
    rw [ts_B] at he hc
    rw [th_B] at hd
    have xb := hx
    rw [xA_B] at xb
    have R2 := RRU_G f2 R
    have rr2 : ∀ b, b ≠ 81 → mh_i h2 b = mh_i h1 b := fun b hb => rc_r f2 hb
    have f3 : fG ruW h2 (mh_sj h2 2642 i x) := fG_sj (Or.inl rfl)
    have f13 : fG ruW h1 (mh_sj h2 2642 i x) := fG_t (fG_w f2 rc_ru) f3
    obtain ⟨h3, eh3⟩ : ∃ h3, mh_sj h2 2642 i x = h3 := ⟨_, rfl⟩
    rw [eh3] at f3 f13
    have R3 := RRU_s f3 R2
    have i3 : mh_i h3 = mh_i h2 := by rw [← eh3]; exact hi_sj
    have j3 : ∀ j, mh_j h3 2642 j = if j = i then x else mh_j h2 2642 j := fun j => by
      rw [← eh3, hj_sj]
      by_cases cj : j = i
      · rw [if_pos ⟨rfl, cj⟩, if_pos cj]
      · rw [if_neg (fun z => cj z.2), if_neg cj]
    have j2 : ∀ j, mh_j h2 2642 j = mh_j h1 2642 j := fun j => (f2.2.2.2.2.2 2642 j (by unfold rcW; omega)).2
    have z3 : mh_i h3 97 k = Int32.ofNat zk := by rw [i3, rr2 97 (by omega)]; exact hzk
    have F := R.F
    have F2 := R2.F
    have F3 := R3.F
    have g := F.g 81 14 70 (by decide +kernel)
    have g2 := F2.g 81 14 70 (by decide +kernel)
    have g3 := F3.g 81 14 70 (by decide +kernel)
    have r63 := F.f 81 63 2642 (by decide +kernel)
    have g42 := F2.g 2642 101 13 (by decide +kernel)
    have l42 := F2.l 2642 101 13 (by decide +kernel)
    have c333 := c_333 (d := d) F hk hzk
    have c333b := c_333 (d := d) F3 (by omega : s < 26000) (z := 1 + ts cs) (by rw [i3, rr2 97 (by omega)]; exact n3)
    have le : (k + zk ≤ s) = False := eq_false (by omega)
    have e00 : ((0 : Int32) = 0) = True := by decide
    have ei : Int32.ofNat i + 1 = Int32.ofNat (i + 1) := nn_add (a := i) (b := 1)
    have sq : s + (1 + ts cs) = s + 1 + ts cs := by omega
    rw [sq] at c333b
    have step : ∀ Q, mw (d + 1) 364 Q 259 (caL p k i s) [] h1 = mw (d + 1) 364 Q 259 (caL p k (i + 1) (s + 1 + ts cs)) [] h3 := fun Q => by
      rw [s_364_259]
      clear R R2 R3 F F2 F3 hw hx xb f2 f3 f13 ih o2 n4 n5 i3 j3 j2
      simp (disch := omega) only [s_364_0, s_364_1, s_364_4, s_364_5, s_364_6, s_364_9, s_364_10, s_364_11, s_364_12, s_364_13, s_364_16, s_364_17, s_364_18, s_364_64, s_364_65, s_364_68, s_364_69, s_364_70, s_364_71, s_364_74, s_364_75, s_364_78, s_364_79, s_364_80, s_364_81, s_364_84, s_364_87, s_364_88, s_364_89, s_364_92, s_364_95, s_364_96, s_364_99, s_364_100, s_364_103, s_364_104, s_364_105, s_364_106, s_364_107, s_364_108, s_364_109, s_364_110, s_364_113, s_364_114, s_364_115, s_364_117, s_364_119, s_364_121, s_364_124, s_364_125, s_364_128, s_364_130, s_364_131, s_364_134, s_364_135, s_364_136, s_364_137, s_364_139, s_364_140, s_364_141, s_364_142, s_364_145, s_364_148, s_364_149, s_364_150, s_364_153, s_364_154, s_364_155, s_364_156, s_364_157, s_364_160, s_364_163, s_364_164, s_364_165, s_364_168, s_364_171, s_364_172, s_364_175, s_364_176, s_364_179, s_364_180, s_364_181, s_364_184, s_364_185, s_364_186, s_364_187, s_364_188, s_364_191, s_364_192, s_364_193, s_364_194, s_364_195, s_364_196, s_364_197, s_364_200, s_364_201, s_364_202, s_364_203, s_364_204, s_364_205, s_364_206, s_364_207, s_364_210, s_364_213, s_364_215, s_364_216, s_364_217, s_364_218, s_364_219, s_364_222, s_364_225, s_364_228, s_364_229, s_364_230, s_364_233, s_364_236, s_364_237, s_364_240, s_364_242, s_364_243, s_364_244, s_364_245, s_364_246, s_364_247, s_364_250, s_364_251, s_364_252, s_364_254, s_364_255, s_364_256, s_364_257, s_364_261, s_364_262, s_364_263, s_364_266, s_364_269, s_364_270, s_364_273, s_364_276, s_364_277, s_364_280, s_364_282, s_364_283, s_364_285, s_364_288, s_364_289, s_364_292, s_364_293, s_364_295, s_364_298, s_364_300, s_364_303, s_364_304, s_364_306, s_364_308, s_364_310, s_364_313, s_364_314, s_364_317, s_364_320, s_364_321, s_364_324, s_364_325, s_364_328, s_364_329, s_364_330, s_364_332, s_364_333, s_364_334, s_364_337, s_364_339, s_364_340, s_364_341, s_364_342, s_364_345, s_364_348, s_364_349, s_364_352, s_364_353, s_364_354, s_364_355, s_364_356, s_364_357, s_364_360, s_364_361, s_364_362, s_364_363, s_364_366, s_364_367, s_364_368, s_364_371, s_364_372, s_364_373, s_364_374, s_364_375, s_364_376, s_364_379, s_364_381, s_364_382, s_364_383, s_364_386, s_364_388, s_364_389, s_364_392, s_364_395, s_364_396, s_364_397, s_364_399, s_364_402, s_364_403, s_364_406, s_364_408, s_364_409, s_364_410, s_364_413, s_364_414, s_364_415, s_364_416, s_364_419, s_364_420, s_364_421, s_364_424, s_364_425, s_364_426, s_364_428, s_364_431, s_364_432, s_364_433, s_364_436, s_364_439, s_364_440, s_364_443, s_364_444, s_364_446, s_364_449, s_364_450, s_364_451, s_364_454, s_364_455, s_364_456, s_364_459, s_364_462, s_364_463, s_364_464, s_364_467, s_364_468, s_364_469, s_364_470, s_364_471, s_364_472, s_364_475, s_364_477, s_364_478, s_364_481, s_364_484, s_364_485, s_364_488, s_364_490, s_364_493, s_364_494, s_364_495, s_364_498, s_364_501, s_364_502, s_364_505, s_364_506, s_364_507, s_364_510, s_364_511, s_364_512, s_364_515, s_364_516, s_364_517, s_364_518, s_364_521, s_364_522, s_364_523, s_364_524, s_364_525, s_364_526, s_364_527, s_364_530, s_364_533, s_364_534, s_364_536, s_364_539, s_364_540, s_364_541, s_364_542, s_364_545, s_364_546, s_364_547, s_364_548, s_364_549, s_364_550, s_364_553, s_364_554, s_364_555, s_364_558, s_364_561, s_364_562, s_364_563, s_364_566, s_364_567, s_364_570, s_364_571, s_364_574, s_364_575, s_364_576, s_364_579, s_364_580, s_364_581, s_364_582, s_364_583, s_364_584, s_364_587, e_364, mv_i_1, mv_l_1, mv_a_1, mv_a_2, mv_a_3, mk2_n, mk2_i, mk2_l, mk2_a, mk2_u, mk2_x, mB_T, mB_F, mS_cons, mS_nil, mSB_T, mSB_F, mca_nil, mca_i, mca_l, mca_r, mca_u, mca_x, mcat_i, mcat_l, mcat_r, mcat_u, mcat_x, mK_some, mK_none, va_rf_s, va_rf_n, lgc_eq, lgc_lt, lgc_gt, lgc_ge, lgc_le, mrd_104, mrd_105, mrd_106, mrd_107, true_and, and_true, and_self, false_and, and_false, true_or, or_true, false_or, or_false, not_true_eq_false, not_false_eq_true, mgb, mga, mgr, mN, reduceCtorEq, ↓reduceIte, eq_self, ge_iff_le, gt_iff_lt, hk_si, hk_sj, hk_sr, hl_si, hl_sj, hl_sr, hn_si, hn_sj, hn_sr, hs_si, hs_sj, hs_sr, hi_sj, hi_sr, hj_si, hj_sr, hr_si, hr_sj, hi_si, hj_sj, hr_sr, mg_si, mg_sj, mg_sr, Nat.reduceAdd, Nat.reduceMul, Nat.reduceSub, Nat.reduceLT, Nat.reduceGT, Nat.reduceEqDiff, Nat.reduceLeDiff, Nat.left_eq_add, Nat.add_eq_left, Nat.reduceMod, Nat.reduceDiv, Nat.succ_ne_self, g, c333, nn_le, le, e8, e00, r63, run2, g42, l42, eh3, ei, g3, c333b, nn_mxT, nn_clamp]
    have sr : ∀ W, s_row en V P A.rm N gv (.branch m cs r) (n + i) c W = s_z V P (xv en V P A.rm N gv (.branch m cs r) none c) (fun v c' => s_row en V P A.rm N gv r (n + i + 1) c' (s_up W (n + i) v)) := fun _ => rfl
    obtain ⟨q, eq⟩ : ∃ q, xv en V P A.rm N gv (.branch m cs r) none c = q := ⟨_, rfl⟩
    rw [eq] at o2 xc
    obtain ⟨o7, o8⟩ := o2
    cases hq : q.1 with
    | none =>
      rw [hq] at o8
      have es : ∀ W, s_row en V P A.rm N gv (.branch m cs r) (n + i) c W = (q.2.1, q.2.2, V, P, true) := fun W => by rw [sr, eq]; unfold s_z; rw [hq]
      have tn : ¬ mh_i h3 81 68 = 0 := fun z => by rw [i3, o8.2] at z; rw [z] at o8; exact absurd o8.1 (by decide)
      have fin := ca_e (d := d) (p := p) (i := i + 1) (s := s + 1 + ts cs) F3 z3 hk hb (by omega) (Or.inl tn)
      refine ⟨h3, i + 1, s + 1 + ts cs, f13, fun j hj => by rw [j3, if_neg (by omega), j2], by omega, fun W => ?_, fun Q => (step Q).trans (fin Q)⟩
      rw [es]
      exact ⟨by rw [i3]; exact o7, by rw [i3]; exact o8.2, fun z => absurd ((by rw [i3]; exact o8.2.trans z : mh_i h3 81 68 = 0)) tn⟩
    | some v =>
      rw [hq] at o8
      obtain ⟨o8, o9, o10⟩ := o8
      have es : ∀ W, s_row en V P A.rm N gv (.branch m cs r) (n + i) c W = s_row en V P A.rm N gv r (n + i + 1) q.2.2 (s_up W (n + i) v) := fun W => by rw [sr, eq]; unfold s_z; rw [hq]
      obtain ⟨h', i', s', f', k', ib, rel, run'⟩ := ih (i + 1) (s + 1 + ts cs) q.2.2 h3 R3 (by rw [i3, rr2 _ (by omega)]; exact hV) (by rw [i3, rr2 _ (by omega)]; exact hP) (by rw [i3, rr2 _ (by omega)]; exact hN) z3 (by rw [i3, rr2 93 (by omega), rr2 95 (by omega), rr2 97 (by omega)]; exact n5) hw.2 xb.2.2 (by omega) (by omega) (by omega) (by rw [i3]; exact o9) (by rw [i3]; exact o7) (by omega)
      refine ⟨h', i', s', fG_t f13 f', fun j hj => by rw [k' j (by omega), j3, if_neg (by omega), j2], ib, fun W => ?_, fun Q => (step Q).trans (run' Q)⟩
      rw [es]
      have na : n + (i + 1) = n + i + 1 := by omega
      have rl := rel (s_up W (n + i) v)
      rw [na] at rl
      obtain ⟨r1, r2, r3⟩ := rl
      refine ⟨r1, r2, fun z => ?_⟩
      obtain ⟨r4, r5⟩ := r3 z
      refine ⟨by rw [htl]; omega, ?_⟩
      rw [r5, htl]
      funext j
      unfold wr s_up
      by_cases c1 : j = n + i
      · rw [if_neg (by omega), if_pos c1, if_pos (by omega)]
        have ji : j - n = i := by omega
        rw [ji, k' i (by omega), j3, if_pos rfl]
        exact i64_oi o8 o10
      · rw [if_neg c1]
        by_cases c2 : n + (i + 1) ≤ j ∧ j < n + (i + 1) + tl r
        · rw [if_pos c2, if_pos (by omega)]
        · rw [if_neg c2, if_neg (by omega)]
end UWs
