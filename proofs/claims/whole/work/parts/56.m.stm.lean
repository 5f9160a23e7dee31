set_option maxRecDepth 100000
/-! the reference's statement, whole: every kind -/
section CJl
variable {d : Nat} {h h1 h2 : mh_H} {nm : Nat → Nat} {KN : Nat → Prop} {K : Nat → Int32} {D : lyD} {FK : Nat → Nat} {T : tr} {Sc : cps} {X : lcx} {L L' : cen} {b b' id bs p p1 bk k pk n m cnt f s s1 bl N N' c : Nat} {t r cs tA : tr} {w : Nat × Nat} {q : lyq} {rl fb : Bool}
theorem u_347 (IH : BLf nm KN D K m cnt FK T Sc f) (STg : ∀ g, g < D.c → ∃ k', stR D.sp Sc g N true (D.FT g) (D.S g) k' (D.FP g) (D.FP g).length) (S : RLS h nm KN X L b id bs p bk) (C : RLC h nm KN D K m cnt FK T) (A : trR h nm (.branch n cs r) k (Int32.ofNat bl)) (hbk : bl < k) (hk : k + 1 + ts cs + ts r ≤ cnt) (TA : trR h nm tA (bl + 1) (Int32.ofNat bl)) (sA : mh_i h 97 bl = Int32.ofNat (1 + ts tA)) (hA : bl + 1 + ts tA ≤ cnt) (ls : lsI tA (bl + 1) = lsI (.branch n cs r) k) (tv : tvT K m (.branch n cs r)) (nk : nmK KN (.branch n cs r)) (sy : syT (.branch n cs r)) (st : stN D.sp Sc X.fu (fun bs x y L' => stR D.sp Sc X.fu N' false bs x y L' 0) n cs s s1 L b rl) (hrl : rl = (fb && decide (ts r = 0))) (cw : chW (mh_i h 96) c bl (FK X.fu)) (hb0 : 0 < bl) (fbT : fb = true → bl = D.B X.fu) (fbF : fb = false → D.B X.fu < bl) (hX : X.fu < D.c) (hf : 1 + ts cs + ts r + rkF D X.fu ≤ f + 1) (hd : 3 * (250 - p) + 9 ≤ d + 6) :
    ∃ h', SQz h h' nm KN X L (nxE n cs L) (b + ((nxE n cs L).length - L.length)) id bs p bk k (lyG (lyW D n cs p L b rl X, p) fun _ => lyU D (lyQ D f) n cs p L X) ∧ ((lyG (lyW D n cs p L b rl X, p) fun _ => lyU D (lyQ D f) n cs p L X).1.1 = 0 → ∀ Pt, LYN D Pt (LYR D Pt f) n cs k s p L X → PTz h' nm Pt (p + 1) (Pt p).E) ∧ ∀ Q, mcall (d + 6) 347 [.ref 81, .int (Int32.ofNat k), .int (Int32.ofNat bl), .int (Int32.ofNat (FK X.fu)), .int (owI X.ow), .int (Int32.ofNat id)] h Q = Q none h' := by
  have hc := C.c
  have e94 := A.1.2.1
  by_cases p9 : p = 249
  · subst p9
    have w11 : lyW D n cs 249 L b rl X = (11, tP n) := if_pos rfl
    rw [w11, lyG_n (q := ((11, tP n), 249)) (by show ¬ 11 = 0; decide)]
    have Z : STz h (wrH h (Int32.ofNat 11) (Int32.ofNat (tP n))) nm KN X L (nxE n cs L) (b + ((nxE n cs L).length - L.length)) id bs 249 bk ((11, tP n), 249) := ST_w (w := (11, tP n)) fG_id kpR_r (by show ¬ 11 = 0; decide)
    exact ⟨_, SQz.of ⟨Z.f, Z.k, Z.g, fun z => absurd z (by show ¬ 11 = 0; decide)⟩, fun z => absurd z (by show ¬ 11 = 0; decide), fun Q => p_347w (d := d + 5) S (by omega) e94 Q⟩
  have hp : p < 249 := by have := S.q; omega
  have hd1 : 3 * (250 - (p + 1)) + 10 ≤ d + 4 := by omega
  have hd2 : ∀ q, p + 1 ≤ q → 3 * (250 - q) + 10 ≤ d + 5 := fun q hq => by omega
  obtain ⟨q1', q2', q3'⟩ := S.q
  have hl := S.R.l
  obtain ⟨h1, x7, f0, k0, e33, RP, pro⟩ := u_347p (d := d + 6) (k := k) (bl := Int32.ofNat bl) (fn := Int32.ofNat (FK X.fu)) S hp rfl
  have o8 : ∀ j, j ≠ 33 → mh_i h1 81 j = mh_i h 81 j := fun j hj => fG_i f0 (fun z => by unfold prWr at z; omega)
  have o9 : ∀ y j, 93 ≤ y → y ≤ 97 → mh_i h1 y j = mh_i h y j := fun y j u1 u2 => fG_i f0 (fun z => by unfold prWr at z; omega)
  have S1 : RLS h1 nm KN X L b id bs (p + 1) bk := RLS_k S f0 (fun y j u1 u2 u3 => k0.1 y j u1 u2 (by omega)) (o8 42 (by decide)) (o8 43 (by decide)) (o8 45 (by decide)) (o8 46 (by decide)) ((o8 47 (by decide)).trans S.z) e33 ((o8 44 (by decide)).trans S.k) (Nat.le_refl _) (by omega) (by omega) ((o8 48 (by decide)).trans S.y)
  have C1 : RLC h1 nm KN D K m cnt FK T := RLC_c o9 (o8 24 (by decide)) C
  have A1 : trR h1 nm (.branch n cs r) k (Int32.ofNat bl) := trR_c _ _ _ o9 A
  have hn := C.n
  have hq := C.q
  have F1 := S1.R.F
  have cw1 : chW (mh_i h1 96) c bl (FK X.fu) := chW_c (fun j => o9 96 j (by decide) (by decide)) cw
  have ck : chW (mh_i h1 96) (c + 1) k (FK X.fu) := chW_s cw1 (by omega) hb0 (by omega) A1.1.2.2.2.2.1
  -- the end
  have fin : ∀ h2 y7 y8 y9, (∀ Q, mw (d + 6) 347 Q 267 [some (.ref 81), some (.int (Int32.ofNat k)), some (.int (Int32.ofNat bl)), some (.int (Int32.ofNat (FK X.fu))), some (.int (owI X.ow)), some (.int (Int32.ofNat id)), some (.int (Int32.ofNat p)), some (.int x7), none, none] [] h1 = mw (d + 6) 347 Q 757 [some (.ref 81), some (.int (Int32.ofNat k)), some (.int (Int32.ofNat bl)), some (.int (Int32.ofNat (FK X.fu))), some (.int (owI X.ow)), some (.int (Int32.ofNat id)), some (.int (Int32.ofNat p)), y7, y8, y9] [] h2) → RF h2 → ∀ Q, mcall (d + 6) 347 [.ref 81, .int (Int32.ofNat k), .int (Int32.ofNat bl), .int (Int32.ofNat (FK X.fu)), .int (owI X.ow), .int (Int32.ofNat id)] h Q = Q none (mh_si h2 102 p (mh_i h2 81 33)) := fun h2 y7 y8 y9 run F2 Q => by
    rw [pro Q, run Q]
    exact z_347 F2 (by omega) rfl Q
  obtain ⟨⟨t13, -, -⟩, tv1, -⟩ := tv
  obtain ⟨-, nk1, -⟩ := nk
  obtain ⟨⟨sy3, sy4, sy5, sy6, sy7, sy10⟩, sy1, -⟩ := sy
  have lwf := lyW_f (D := D) (n := n) (cs := cs) (L := L) (b := b) (rl := rl) (X := X) p9
  obtain ⟨-, st⟩ := st
  have nmA : ∀ {a : Nat} {x : tr}, cs = .branch a (.leaf ()) x → tK a = 13 → KN (tV a).toNat := fun {a x} e ka => by
    rw [e] at nk1
    exact nk1.1 ka
  have tvA : ∀ {a : Nat} {x : tr}, cs = .branch a (.leaf ()) x → tK a = 13 → ∃ v : Nat, v < m ∧ tV a = (v : Int) ∧ K v = 2 := fun {a x} e ka => by
    rw [e] at tv1
    exact (tv1.1.1 ka).1
  rcases st with ⟨kk, -⟩ | ⟨kk, -⟩ | ⟨kk, -⟩ | ⟨kk, -⟩ | ⟨kk, -⟩ | ⟨kk, c0, cc, b1, bs1, qq, s2, z0, z1, ec, -, -, -, -, -, -, r1, r2⟩ | ⟨kk, c0, cc, b1, bs1, z0, z1, ec, -, -, -, -, -, r1⟩ | ⟨kk, -⟩ | ⟨kk, -⟩
  · -- var of a number
    obtain ⟨a, t, ec, ka, t1⟩ := sy3 kk
    have kn := nmA ec ka
    subst ec
    have l0 : ts (Lean.RArray.leaf ()) = 0 := rfl
    rw [ts_B, l0] at hk
    obtain ⟨h2, X1, X2⟩ := g_3 (d := d + 2) (sp := D.sp) (K := K) (m := m) (p := p) (x7 := x7) (bl := Int32.ofNat bl) (fn := Int32.ofNat (FK X.fu)) (wi := owI X.ow) S1 hn hq A1 kk ka kn tv1.2.2 t1 (by omega)
    have nx : nxE n (.branch a (.leaf ()) t) L = ((tV a).toNat, 0) :: L := by unfold nxE; rw [if_pos kk]
    have ew : lyW D n (.branch a (.leaf ()) t) p L b rl X = fw (fw (if twE D.sp b L (tV a).toNat = true then (2, tP a) else (0, 0)) (lwT (loE D.sp L) t)) (if X.nb + cnZl L = 12 then (10, tP n) else (0, 0)) := by
      rw [lwf, wrM_s (by omega), if_neg (by omega), if_pos kk]
      unfold wrS
      rw [if_pos kk]
    rw [nx, show b + ((((tV a).toNat, 0) :: L).length - L.length) = b + 1 from by show b + (L.length + 1 - L.length) = _; omega]
    obtain ⟨Y1, Y2⟩ := SQ_1 (s := s) (f := f) (k := k) hp f0 k0 RP hl X1 (by omega) (by omega) (by omega) ew
    exact ⟨_, Y1, Y2, fin h2 _ _ _ X2 (RF_G X1.f F1)⟩
  · -- var of an array
    obtain ⟨a, q0, ec, ka, kq⟩ := sy4 kk
    have kn := nmA ec ka
    subst ec
    have l3 : ts (.branch a (.leaf ()) (.branch q0 (.leaf ()) (.leaf ()))) = 2 := rfl
    rw [l3] at hk
    obtain ⟨h2, y7, X1, X2⟩ := g_4 (d := d + 2) (sp := D.sp) (p := p) (x7 := x7) (bl := Int32.ofNat bl) (fn := Int32.ofNat (FK X.fu)) (wi := owI X.ow) S1 hn hq A1 kk ka kq kn (by omega)
    have nx : nxE n (.branch a (.leaf ()) (.branch q0 (.leaf ()) (.leaf ()))) L = ((tV a).toNat, max 1 (tV q0).toNat) :: L := by unfold nxE; rw [if_neg (by omega), if_pos kk]
    have ew : lyW D n (.branch a (.leaf ()) (.branch q0 (.leaf ()) (.leaf ()))) p L b rl X = fw (fw (if twE D.sp b L (tV a).toNat = true then (2, tP a) else (0, 0)) (if tV q0 < 1 ∨ 64 < tV q0 then (9, tP q0) else (0, 0))) (if X.na + cnAl L = 6 then (13, tP n) else (0, 0)) := by
      rw [lwf, wrM_s (by omega), if_neg (by omega), if_neg (by omega), if_pos kk]
      unfold wrS
      rw [if_neg (by omega), if_pos kk]
    rw [nx, show b + ((((tV a).toNat, max 1 (tV q0).toNat) :: L).length - L.length) = b + 1 from by show b + (L.length + 1 - L.length) = _; omega]
    obtain ⟨Y1, Y2⟩ := SQ_1 (s := s) (f := f) (k := k) hp f0 k0 RP hl X1 (by omega) (by omega) (by omega) ew
    exact ⟨_, Y1, Y2, fin h2 _ _ _ X2 (RF_G X1.f F1)⟩
  · -- set
    obtain ⟨a, x, cx, ec, ka⟩ := sy5 kk
    have va := tvA ec ka
    subst ec
    have l0 : ts (Lean.RArray.leaf ()) = 0 := rfl
    rw [ts_B, l0] at hk
    obtain ⟨h2, X1, X2⟩ := g_5 (d := d + 2) (sp := D.sp) (K := K) (m := m) (p := p) (x7 := x7) (bl := Int32.ofNat bl) (fn := Int32.ofNat (FK X.fu)) (wi := owI X.ow) S1 hn hq A1 kk ka va tv1.2.2 (by omega)
    have ew : lyW D n (.branch a (.leaf ()) (tNd x cx)) p L b rl X = lwT (loE D.sp L) (.branch a (.leaf ()) (tNd x cx)) := by
      rw [lwf, wrM_s (by omega), if_neg (by omega), if_neg (by omega), if_neg (by omega)]
      unfold wrS
      rw [if_neg (by omega), if_neg (by omega), if_neg (by omega), if_neg (by omega), if_neg (by omega), if_neg (by omega), fw_T]
    rw [nxE_oo (by omega) (by omega), Nat.sub_self, Nat.add_zero]
    obtain ⟨Y1, Y2⟩ := SQ_1 (s := s) (f := f) (k := k) hp f0 k0 RP hl X1 (by omega) (by omega) (by omega) ew
    exact ⟨_, Y1, Y2, fin h2 _ _ _ X2 (RF_G X1.f F1)⟩
  · -- store
    obtain ⟨a, x, cx, y, cy, ec, ka⟩ := sy6 kk
    have va := tvA ec ka
    subst ec
    have l0 : ts (Lean.RArray.leaf ()) = 0 := rfl
    have l1 : ts (tNd y cy) = 1 + ts cy := rfl
    rw [ts_B, ts_B, l0, l1] at hk
    obtain ⟨h2, X1, X2⟩ := g_6 (d := d + 2) (sp := D.sp) (K := K) (m := m) (p := p) (x7 := x7) (bl := Int32.ofNat bl) (fn := Int32.ofNat (FK X.fu)) (wi := owI X.ow) S1 hn hq A1 kk ka va tv1.2.2 (by omega)
    have ew : lyW D n (.branch a (.leaf ()) (.branch x cx (tNd y cy))) p L b rl X = fw (lkW (loE D.sp L) (tV a) true, tP a) (lwT (loE D.sp L) (.branch x cx (tNd y cy))) := by
      rw [lwf, wrM_s (by omega), if_neg (by omega), if_neg (by omega), if_neg (by omega)]
      unfold wrS
      rw [if_neg (by omega), if_neg (by omega), if_pos kk]
      show fw (fw (lkW (loE D.sp L) (tV a) true, tP a) (lwT (loE D.sp L) (.branch x cx (tNd y cy)))) (0, 0) = _
      rw [fw_as, fw_T]
    rw [nxE_oo (by omega) (by omega), Nat.sub_self, Nat.add_zero]
    obtain ⟨Y1, Y2⟩ := SQ_1 (s := s) (f := f) (k := k) hp f0 k0 RP hl X1 (by omega) (by omega) (by omega) ew
    exact ⟨_, Y1, Y2, fin h2 _ _ _ X2 (RF_G X1.f F1)⟩
  · -- call
    obtain ⟨a, ff, t, ec, ka, kf⟩ := sy7 kk
    have va := fun z => tvA ec z
    subst ec
    have l0 : ts (Lean.RArray.leaf ()) = 0 := rfl
    rw [ts_B, ts_B, l0] at hk
    have vf := (tv1.2.2.1.1 kf).1
    obtain ⟨h2, X1, X2, X3⟩ := u_348 (d := d) (s := s) (f := f) (K := K) (m := m) S1 (by omega) C1 A1 kk ka kf va vf tv1.2.2.2.2 (by omega) ck hX (fun g gX hx Cx Sx => by
      have hg : g < D.c := by omega
      have FQ := Cx.f g hg
      obtain ⟨w1, w2, w3⟩ := FQ.w
      obtain ⟨k', Sg⟩ := STg g hg
      have rk := rkF_le (D := D) (g + 1) X.fu gX
      have rk' : rkF D (g + 1) = rkF D g + ts (D.FT g) + 1 := rfl
      have B := FQ.B
      have u := FQ.u
      exact IH true (D.FT g) (D.S g) (p + 1) (D.FP g) (D.FP g).length (lyC D X L p g a) (bk + 1) (bs + L.length) (bk + 1) hx (D.B g) N k' 2 (d + 4) Cx Sx Sg hg (by show ts (D.FT g) + rkF D g ≤ f; omega) FQ.t FQ.s (by omega) ⟨FQ.v, FQ.y⟩ ⟨by omega, Or.inr ⟨FK g, w1, w3, by omega, ⟨by omega, Or.inl ⟨w2, rfl⟩⟩⟩⟩ (by omega) (fun _ => rfl) (fun z => by cases z) hd1)
    have e0 : lyW D n (.branch a (.leaf ()) (.branch ff (.leaf ()) t)) p L b rl X = fw (wrC D.sp D.H X.fu (loE D.sp L) a ff t) (lyWc D n t L X (fmH D.sp D.H X.fu (tV ff).toNat)) := by
      rw [lwf, wrM_s (by omega), if_pos kk]
      unfold wrS
      rw [if_neg (by omega), if_neg (by omega), if_neg (by omega), if_pos kk]
    have e1 : lyU D (lyQ D f) n (.branch a (.leaf ()) (.branch ff (.leaf ()) t)) p L X = lyUc D (lyQ D f) p L X a (fmH D.sp D.H X.fu (tV ff).toNat) := by
      unfold lyU
      rw [if_pos kk]
    rw [nxE_oo (by omega) (by omega), Nat.sub_self, Nat.add_zero, e0, e1]
    obtain ⟨Y1, Y2⟩ := SQ_2 (k := k) hp f0 k0 RP hl X1 X2
    refine ⟨_, Y1, Y2, fin h2 (some (.int x7)) none none (fun Q => ?_) (RF_G X1.f F1)⟩
    have e93 : mh_i h1 93 k = 7 := by rw [A1.1.1, kk]; rfl
    have F := F1
    have g := F.g 81 14 70 (by decide +kernel)
    have r93 := F.f 81 19 93 (by decide +kernel)
    have g93 := F.g 93 102 26000 (by decide +kernel)
    have l93 := F.l 93 102 26000 (by decide +kernel)
    have g93a := g93.1
    have g93b := g93.2
    clear S S1 C C1 A A1 X1 X2 Y1 Y2 IH STg fin pro F1 F RP TA cw cw1 ck
    simp (disch := omega) only [s_347_0, s_347_1, s_347_4, s_347_7, s_347_10, s_347_11, s_347_13, s_347_14, s_347_17, s_347_18, s_347_19, s_347_20, s_347_23, s_347_25, s_347_26, s_347_27, s_347_30, s_347_31, s_347_32, s_347_35, s_347_36, s_347_39, s_347_41, s_347_42, s_347_43, s_347_44, s_347_47, s_347_49, s_347_51, s_347_52, s_347_53, s_347_56, s_347_58, s_347_59, s_347_62, s_347_63, s_347_64, s_347_67, s_347_69, s_347_70, s_347_73, s_347_74, s_347_75, s_347_77, s_347_79, s_347_80, s_347_83, s_347_86, s_347_87, s_347_90, s_347_92, s_347_93, s_347_96, s_347_97, s_347_100, s_347_102, s_347_104, s_347_105, s_347_106, s_347_109, s_347_111, s_347_112, s_347_113, s_347_114, s_347_117, s_347_119, s_347_120, s_347_121, s_347_124, s_347_125, s_347_128, s_347_130, s_347_132, s_347_133, s_347_134, s_347_137, s_347_139, s_347_140, s_347_141, s_347_142, s_347_145, s_347_147, s_347_148, s_347_149, s_347_152, s_347_155, s_347_156, s_347_159, s_347_161, s_347_162, s_347_165, s_347_166, s_347_169, s_347_170, s_347_171, s_347_172, s_347_175, s_347_177, s_347_179, s_347_180, s_347_183, s_347_186, s_347_187, s_347_190, s_347_192, s_347_194, s_347_195, s_347_197, s_347_198, s_347_199, s_347_202, s_347_203, s_347_204, s_347_207, s_347_209, s_347_210, s_347_211, s_347_212, s_347_215, s_347_217, s_347_219, s_347_220, s_347_222, s_347_223, s_347_224, s_347_227, s_347_228, s_347_229, s_347_232, s_347_234, s_347_235, s_347_236, s_347_237, s_347_240, s_347_242, s_347_244, s_347_245, s_347_247, s_347_248, s_347_249, s_347_252, s_347_253, s_347_254, s_347_257, s_347_259, s_347_260, s_347_261, s_347_264, s_347_267, s_347_268, s_347_271, s_347_272, s_347_273, s_347_320, s_347_321, s_347_322, s_347_323, s_347_324, s_347_326, s_347_329, s_347_332, s_347_333, s_347_336, s_347_337, s_347_338, s_347_339, s_347_342, s_347_343, s_347_344, s_347_345, s_347_348, s_347_351, s_347_354, s_347_355, s_347_358, s_347_360, s_347_363, s_347_364, s_347_366, s_347_367, s_347_370, s_347_373, s_347_374, s_347_375, s_347_378, s_347_379, s_347_380, s_347_381, s_347_382, s_347_383, s_347_386, s_347_387, s_347_389, s_347_392, s_347_393, s_347_394, s_347_397, s_347_398, s_347_399, s_347_402, s_347_405, s_347_406, s_347_409, s_347_410, s_347_411, s_347_412, s_347_413, s_347_415, s_347_416, s_347_417, s_347_418, s_347_419, s_347_421, s_347_424, s_347_427, s_347_429, s_347_430, s_347_433, s_347_435, s_347_437, s_347_440, s_347_441, s_347_443, s_347_444, s_347_445, s_347_446, s_347_449, s_347_452, s_347_453, s_347_456, s_347_458, s_347_461, s_347_462, s_347_464, s_347_465, s_347_468, s_347_471, s_347_472, s_347_473, s_347_476, s_347_477, s_347_478, s_347_479, s_347_480, s_347_481, s_347_484, s_347_486, s_347_488, s_347_491, s_347_492, s_347_493, s_347_496, s_347_497, s_347_498, s_347_501, s_347_504, s_347_505, s_347_506, s_347_507, s_347_508, s_347_509, s_347_512, s_347_515, s_347_516, s_347_517, s_347_518, s_347_521, s_347_524, s_347_525, s_347_528, s_347_529, s_347_530, s_347_531, s_347_532, s_347_533, s_347_536, s_347_539, s_347_540, s_347_541, s_347_542, s_347_545, s_347_548, s_347_551, s_347_552, s_347_553, s_347_554, s_347_555, s_347_558, s_347_561, s_347_564, s_347_565, s_347_568, s_347_569, s_347_570, s_347_572, s_347_575, s_347_578, s_347_579, s_347_580, s_347_581, s_347_582, s_347_585, s_347_588, s_347_589, s_347_590, s_347_593, s_347_594, s_347_595, s_347_598, s_347_599, s_347_600, s_347_601, s_347_604, s_347_605, s_347_607, s_347_608, s_347_611, s_347_614, s_347_615, s_347_616, s_347_617, s_347_620, s_347_623, s_347_624, s_347_625, s_347_628, s_347_631, s_347_632, s_347_633, s_347_636, s_347_637, s_347_638, s_347_641, s_347_642, s_347_643, s_347_644, s_347_645, s_347_648, s_347_651, s_347_652, s_347_654, s_347_655, s_347_658, s_347_661, s_347_664, s_347_665, s_347_666, s_347_667, s_347_668, s_347_671, s_347_672, s_347_675, s_347_676, s_347_677, s_347_680, s_347_681, s_347_684, s_347_685, s_347_686, s_347_689, s_347_690, s_347_693, s_347_694, s_347_697, s_347_698, s_347_700, s_347_701, s_347_702, s_347_705, s_347_706, s_347_709, s_347_712, s_347_713, s_347_716, s_347_717, s_347_719, s_347_721, s_347_724, s_347_725, s_347_727, s_347_728, s_347_731, s_347_734, s_347_736, s_347_739, s_347_740, s_347_742, s_347_743, s_347_746, s_347_749, s_347_750, s_347_751, s_347_752, s_347_753, s_347_756, s_347_758, s_347_761, s_347_763, s_347_764, s_347_767, s_347_768, e_347, mv_i_1, mv_l_1, mv_a_1, mv_a_2, mv_a_3, mk2_n, mk2_i, mk2_l, mk2_a, mk2_u, mk2_x, mB_T, mB_F, mS_cons, mS_nil, mSB_T, mSB_F, mca_nil, mca_i, mca_l, mca_r, mca_u, mca_x, mcat_i, mcat_l, mcat_r, mcat_u, mcat_x, mK_some, mK_none, va_rf_s, va_rf_n, lgc_eq, lgc_lt, lgc_gt, lgc_ge, lgc_le, mrd_104, mrd_105, mrd_106, mrd_107, true_and, and_true, and_self, false_and, and_false, true_or, or_true, false_or, or_false, not_true_eq_false, not_false_eq_true, mgb, mga, mgr, mN, reduceCtorEq, ↓reduceIte, eq_self, ge_iff_le, gt_iff_lt, Nat.reduceAdd, Nat.reduceMul, Nat.reduceSub, Nat.reduceLT, Nat.reduceGT, Nat.reduceEqDiff, Nat.reduceLeDiff, Nat.left_eq_add, Nat.add_eq_left, Nat.reduceMod, Nat.reduceDiv, Nat.succ_ne_self, g, r93, g93, l93, g93a, g93b, e93, show ((7 : Int32) = 3) = False from by decide, show ((7 : Int32) = 4) = False from by decide, show ((7 : Int32) = 5) = False from by decide, show ((7 : Int32) = 6) = False from by decide, X3, nn_mxT, nn_clamp]
  · -- if
    subst ec
    rw [ts_B, ts_B] at hk hf
    have eW : lyW D n (.branch c0 cc (.branch b1 bs1 qq)) p L b rl X = lwT (loE D.sp L) (tNd c0 cc) := by
      rw [lwf, wrM_s (by omega), if_neg (by omega), if_neg (by omega), if_neg (by omega)]
      unfold wrS
      rw [if_neg (by omega), if_neg (by omega), if_neg (by omega), if_neg (by omega), if_pos (Or.inl kk)]
      exact fw_T
    have eU : lyU D (lyQ D f) n (.branch c0 cc (.branch b1 bs1 qq)) p L X = lyG (lyQ D f false bs1 (p + 1) L 0 (lyB X p)) (lyUq (lyQ D f) p L X qq) := by
      unfold lyU
      rw [if_neg (by omega), if_pos kk]
    rw [nxE_oo (by omega) (by omega), Nat.sub_self, Nat.add_zero, eW, eU]
    have A1' := A1
    obtain ⟨A1a, ⟨A1b, A1c, ⟨v1, v2, v3, v4, v5, v6⟩, A1d, A1e⟩, A1f⟩ := A1'
    have sl := stR_L _ _ _ _ _ _ _ r1
    obtain ⟨h2, X1, X2, X3⟩ := u_89 (d := d + 2) (s := s) (f := f) (K := K) (m := m) (x7 := x7) (bl := Int32.ofNat bl) (fn := Int32.ofNat (FK X.fu)) (wi := owI X.ow) S1 (by omega) C1 A1 (Or.inl kk) ⟨tv1.1, tv1.2.1, trivial⟩ (by omega) (Or.imp (fun e => e.1) (fun ⟨b2, bs2, e, _⟩ => ⟨b2, bs2, e⟩) r2) (fun bl' t0 s0 hx p1 bk1 hp1 hcase Cx o9x Sx => by
      have e5 : mh_i h1 96 (k + 2 + ts cc) = Int32.ofNat k := by rw [show k + 2 + ts cc = k + 1 + 1 + ts cc from by omega]; exact v5
      have ckx : chW (mh_i hx 96) (c + 1) k (FK X.fu) := chW_c (fun j => o9x 96 j (by decide) (by decide)) ck
      have fbx : D.B X.fu < k := by
        cases hfb : fb with
        | true => rw [← fbT hfb]; exact hbk
        | false => have := fbF hfb; omega
      rcases hcase with ⟨e1, e2, e3⟩ | ⟨b2, e1, e2, e3⟩
      · subst e1
        subst e2
        subst e3
        exact IH false t0 (s + 1) p1 L 0 (lyB X p) bk1 bs bk1 hx (k + 2 + ts cc) N' s2 (c + 2) (d + 5) Cx Sx r1 hX (by show ts t0 + rkF D X.fu ≤ f; omega) (trR_c _ _ _ o9x (by rw [show k + 2 + ts cc = k + 1 + 1 + ts cc from by omega]; exact A1d)) (by rw [o9x _ _ (by decide) (by decide), show k + 2 + ts cc = k + 1 + 1 + ts cc from by omega]; exact v6) (by omega) ⟨tv1.2.2.2.1, nk1.2.2.2.1, sy1.2.2.2.1⟩ (chW_s ckx (by omega) (by omega) (by omega) ((o9x _ _ (by decide) (by decide)).trans e5)) (by omega) (fun z => by cases z) (fun _ => by show D.B X.fu < _; omega) (hd2 _ hp1)
      · subst e2
        subst e3
        rcases r2 with ⟨e, -⟩ | ⟨b2', bs2, e, r2⟩
        · rw [e] at e1; cases e1
        · rw [e] at e1
          cases e1
          subst e
          rw [ts_B] at hk hf
          obtain ⟨⟨y1, y2, y3, y4, y5, y6⟩, Y7, -⟩ := A1e
          have ek : k + 3 + ts cc + ts bs1 = k + 1 + 1 + ts cc + 1 + ts bs1 := by omega
          exact IH false t0 (s + 1 + stLq bs1) p1 L 0 (lyB X p) bk1 bs bk1 hx (k + 3 + ts cc + ts bs1) N' s1 (c + 2) (d + 5) Cx Sx (by rw [← sl]; exact r2) hX (by show ts t0 + rkF D X.fu ≤ f; omega) (trR_c _ _ _ o9x (by rw [ek]; exact Y7)) (by rw [o9x _ _ (by decide) (by decide), ek]; exact y6) (by omega) ⟨tv1.2.2.2.2.2.1, nk1.2.2.2.2.2.1, sy1.2.2.2.2.2.1⟩ (chW_s ckx (by omega) (by omega) (by omega) (by rw [o9x _ _ (by decide) (by decide), ek]; exact y5)) (by omega) (fun z => by cases z) (fun _ => by show D.B X.fu < _; omega) (hd2 _ hp1))
    obtain ⟨Y1, Y2⟩ := SQ_2 (k := k) hp f0 k0 RP hl X1 X2
    exact ⟨_, Y1, Y2, fin h2 (some (.int x7)) none none X3 (RF_G X1.f F1)⟩
  · -- while
    subst ec
    have l0 : ts (Lean.RArray.leaf ()) = 0 := rfl
    rw [ts_B, ts_B, l0] at hk hf
    have eW : lyW D n (.branch c0 cc (.branch b1 bs1 (.leaf ()))) p L b rl X = lwT (loE D.sp L) (tNd c0 cc) := by
      rw [lwf, wrM_s (by omega), if_neg (by omega), if_neg (by omega), if_neg (by omega)]
      unfold wrS
      rw [if_neg (by omega), if_neg (by omega), if_neg (by omega), if_neg (by omega), if_pos (Or.inr kk)]
      exact fw_T
    have eU : lyU D (lyQ D f) n (.branch c0 cc (.branch b1 bs1 (.leaf ()))) p L X = lyQ D f false bs1 (p + 1) L 0 (lyB X p) := by
      unfold lyU
      rw [if_neg (by omega), if_neg (by omega), if_pos kk]
    rw [nxE_oo (by omega) (by omega), Nat.sub_self, Nat.add_zero, eW, eU]
    have A1' := A1
    obtain ⟨A1a, ⟨A1b, A1c, ⟨v1, v2, v3, v4, v5, v6⟩, A1d, A1e⟩, A1f⟩ := A1'
    obtain ⟨h2, X1, X2, X3⟩ := u_89 (d := d + 2) (s := s) (f := f) (K := K) (m := m) (x7 := x7) (bl := Int32.ofNat bl) (fn := Int32.ofNat (FK X.fu)) (wi := owI X.ow) S1 (by omega) C1 A1 (Or.inr kk) ⟨tv1.1, tv1.2.1, trivial⟩ (by rw [l0]; omega) (Or.inl rfl) (fun bl' t0 s0 hx p1 bk1 hp1 hcase Cx o9x Sx => by
      have e5 : mh_i h1 96 (k + 2 + ts cc) = Int32.ofNat k := by rw [show k + 2 + ts cc = k + 1 + 1 + ts cc from by omega]; exact v5
      have ckx : chW (mh_i hx 96) (c + 1) k (FK X.fu) := chW_c (fun j => o9x 96 j (by decide) (by decide)) ck
      have fbx : D.B X.fu < k := by
        cases hfb : fb with
        | true => rw [← fbT hfb]; exact hbk
        | false => have := fbF hfb; omega
      rcases hcase with ⟨e1, e2, e3⟩ | ⟨b2, e1, e2, e3⟩
      · subst e1
        subst e2
        subst e3
        exact IH false t0 (s + 1) p1 L 0 (lyB X p) bk1 bs bk1 hx (k + 2 + ts cc) N' s1 (c + 2) (d + 5) Cx Sx r1 hX (by show ts t0 + rkF D X.fu ≤ f; omega) (trR_c _ _ _ o9x (by rw [show k + 2 + ts cc = k + 1 + 1 + ts cc from by omega]; exact A1d)) (by rw [o9x _ _ (by decide) (by decide), show k + 2 + ts cc = k + 1 + 1 + ts cc from by omega]; exact v6) (by omega) ⟨tv1.2.2.2.1, nk1.2.2.2.1, sy1.2.2.2.1⟩ (chW_s ckx (by omega) (by omega) (by omega) ((o9x _ _ (by decide) (by decide)).trans e5)) (by omega) (fun z => by cases z) (fun _ => by show D.B X.fu < _; omega) (hd2 _ hp1)
      · cases e1)
    have e9 : ∀ (w : Nat × Nat) (x : lyq), ((lyG (w, p) fun _ => x).1.1 = 0 ↔ (lyG (w, p) fun _ => lyG x (lyUq (lyQ D f) p L X (.leaf ()))).1.1 = 0) ∧ (¬ (lyG (w, p) fun _ => lyG x (lyUq (lyQ D f) p L X (.leaf ()))).1.1 = 0 → (lyG (w, p) fun _ => x).1 = (lyG (w, p) fun _ => lyG x (lyUq (lyQ D f) p L X (.leaf ()))).1) ∧ ((lyG (w, p) fun _ => lyG x (lyUq (lyQ D f) p L X (.leaf ()))).1.1 = 0 → (lyG (w, p) fun _ => x).2 = (lyG (w, p) fun _ => lyG x (lyUq (lyQ D f) p L X (.leaf ()))).2) := fun w x => by
      by_cases z : w.1 = 0
      · rw [lyG_y (q := (w, p)) z, lyG_y (q := (w, p)) z]
        by_cases y : x.1.1 = 0
        · rw [lyG_y y]
          exact ⟨⟨fun _ => rfl, fun _ => y⟩, fun z => absurd rfl z, fun _ => rfl⟩
        · rw [lyG_n y]
          exact ⟨Iff.rfl, fun _ => rfl, fun _ => rfl⟩
      · rw [lyG_n (q := (w, p)) z, lyG_n (q := (w, p)) z]
        exact ⟨Iff.rfl, fun _ => rfl, fun _ => rfl⟩
    obtain ⟨w1, w2, w3⟩ := e9 (lwT (loE D.sp L) (tNd c0 cc)) (lyQ D f false bs1 (p + 1) L 0 (lyB X p))
    obtain ⟨Y1, Y2⟩ := SQ_2 (k := k) hp f0 k0 RP hl (ST_c X1 w1 w2 w3) (fun z => X2 (w1.mp z))
    exact ⟨_, Y1, Y2, fin h2 (some (.int x7)) none none X3 (RF_G X1.f F1)⟩
  · -- assert
    obtain ⟨x, cx, ec⟩ := sy10 (Or.inl kk)
    subst ec
    have l1 : ts (tNd x cx) = 1 + ts cx := rfl
    rw [l1] at hk
    obtain ⟨h2, X1, X2⟩ := g_10 (d := d + 2) (sp := D.sp) (K := K) (m := m) (p := p) (x7 := x7) (bl := Int32.ofNat bl) (fn := Int32.ofNat (FK X.fu)) (wi := owI X.ow) S1 hn hq A1 kk tv1 (by omega)
    have ew : lyW D n (tNd x cx) p L b rl X = lwT (loE D.sp L) (tNd x cx) := by
      rw [lwf, wrM_s (by omega), if_neg (by omega), if_neg (by omega), if_neg (by omega)]
      unfold wrS
      rw [if_neg (by omega), if_neg (by omega), if_neg (by omega), if_neg (by omega), if_neg (by omega), if_neg (by omega), fw_T]
    rw [nxE_oo (by omega) (by omega), Nat.sub_self, Nat.add_zero]
    obtain ⟨Y1, Y2⟩ := SQ_1 (s := s) (f := f) (k := k) hp f0 k0 RP hl X1 (by omega) (by omega) (by omega) ew
    exact ⟨_, Y1, Y2, fin h2 _ _ _ X2 (RF_G X1.f F1)⟩
  · -- return
    obtain ⟨x, cx, ec⟩ := sy10 (Or.inr kk)
    subst ec
    have l1 : ts (tNd x cx) = 1 + ts cx := rfl
    rw [l1] at hk
    have FQ := C1.f X.fu hX
    have B := FQ.B
    have u := FQ.u
    have TA1 : trR h1 nm tA (bl + 1) (Int32.ofNat bl) := trR_c _ _ _ o9 TA
    have sA1 : mh_i h1 97 bl = Int32.ofNat (1 + ts tA) := (o9 _ _ (by decide) (by decide)).trans sA
    have i337 : ∀ Q, mcall (d + 5) 337 [.ref 81, .int (Int32.ofNat (FK X.fu))] h1 Q = Q (some (.int (Int32.ofNat (D.B X.fu)))) h1 := fun Q => by
      rw [c_337 (fn := FK X.fu) (q := 1 + (D.FP X.fu).length) F1 FQ.k (by rw [show FK X.fu + 1 + (1 + (D.FP X.fu).length) = D.B X.fu from by omega, FQ.n]; decide) (by omega) Q, show FK X.fu + 1 + (1 + (D.FP X.fu).length) = D.B X.fu from by omega]
    have i336 : ∀ Q, mcall (d + 5) 336 [.ref 81, .int (Int32.ofNat bl)] h1 Q = Q (some (.int (match lsI tA (bl + 1) with | none => -1 | some j => Int32.ofNat j))) h1 := c_336 (d := d + 4) (nm := nm) (o := Int32.ofNat bl) F1 (by omega) sA1 TA1
    have i333 : ∀ Q, mcall (d + 5) 333 [.ref 81, .int (Int32.ofNat (FK X.fu))] h1 Q = Q (some (.int (Int32.ofNat (D.B X.fu + 1 + ts (D.FT X.fu))))) h1 := fun Q => by
      rw [c_333 (d := d + 5) (k := FK X.fu) F1 (by omega) FQ.z Q, show FK X.fu + (D.B X.fu + 1 + ts (D.FT X.fu) - FK X.fu) = D.B X.fu + 1 + ts (D.FT X.fu) from by omega]
    have eb : (Int32.ofNat (D.B X.fu) = Int32.ofNat bl) = (D.B X.fu = bl) := nn_eq (by omega) (by omega)
    have lsr : ∀ j, lsI r (k + 1 + ts (tNd x cx)) = some j → k < j := fun j e => by
      have := (ls_g r _ A1.2.2 (by rw [l1]; omega)).2 j e
      omega
    have hr1 : rl = true ↔ Int32.ofNat (D.B X.fu) = Int32.ofNat bl ∧ (match lsI tA (bl + 1) with | none => -1 | some j => Int32.ofNat j) = Int32.ofNat k := by
      rw [ls, hrl, Bool.and_eq_true, decide_eq_true_eq, eb]
      have e : lsI (.branch n (tNd x cx) r) k = if ts r = 0 then some k else lsI r (k + 1 + ts (tNd x cx)) := rfl
      rw [e]
      constructor
      · rintro ⟨y1, y2⟩
        rw [if_pos y2]
        exact ⟨(fbT y1).symm, rfl⟩
      · rintro ⟨y1, y2⟩
        refine ⟨?_, ?_⟩
        · cases hfb : fb with
          | true => rfl
          | false => have := fbF hfb; omega
        · by_cases y3 : ts r = 0
          · exact y3
          · exfalso
            rw [if_neg y3] at y2
            cases e2 : lsI r (k + 1 + ts (tNd x cx)) with
            | none =>
              rw [e2] at y2
              have e3 : (Int32.ofNat k = -1) = False := nn_m2 (by omega)
              exact e3 ▸ y2.symm
            | some j =>
              rw [e2] at y2
              have j1 := lsr j e2
              have j2 := (ls_g r _ A1.2.2 (by rw [l1]; omega)).2 j e2
              have := (nn_eq (a := j) (b := k) (by omega) (by omega)) ▸ y2
              omega
    have hpr : decide (X.fu + 1 = D.c) = true ↔ Int32.ofNat (D.B X.fu + 1 + ts (D.FT X.fu)) = Int32.ofNat cnt := by
      rw [decide_eq_true_eq, nn_eq (by omega) (by omega)]
      exact FQ.e.symm
    obtain ⟨h2, y8, y9, X1, X2⟩ := g_11 (d := d + 2) (sp := D.sp) (K := K) (m := m) (p := p) (x7 := x7) (bl := Int32.ofNat bl) (fn := Int32.ofNat (FK X.fu)) (wi := owI X.ow) (rl := rl) (pr := decide (X.fu + 1 = D.c)) S1 hn hq A1 kk tv1 (by omega) i337 (fun _ => i336) i333 C1.c.1 hr1 hpr
    have ew : lyW D n (tNd x cx) p L b rl X = if rl = true then (if decide (X.fu + 1 = D.c) = true then (7, tP n) else lwT (loE D.sp L) (tNd x cx)) else (6, tP n) := by
      rw [lwf, if_neg (by omega), if_neg (by omega), if_neg (by omega)]
      unfold wrM wrS
      rw [if_neg (show ¬ tK n = 3 by omega), if_neg (show ¬ tK n = 4 by omega), if_neg (show ¬ tK n = 6 by omega), if_neg (show ¬ tK n = 7 by omega), if_neg (show ¬ (tK n = 8 ∨ tK n = 9) by omega), if_pos (show tK n = 11 from kk)]
      by_cases y : rl = true
      · rw [if_pos y, if_pos y]
        by_cases z : X.fu + 1 = D.c
        · rw [if_pos ⟨kk, y, z⟩, if_pos (decide_eq_true z)]
          rfl
        · rw [if_neg (fun q => z q.2.2), if_neg (fun q => z (of_decide_eq_true q))]
          exact fw_T
      · rw [if_neg (fun q => y q.2.1), if_neg y, if_neg y]
        rfl
    rw [nxE_oo (by omega) (by omega), Nat.sub_self, Nat.add_zero]
    obtain ⟨Y1, Y2⟩ := SQ_1 (s := s) (f := f) (k := k) hp f0 k0 RP hl X1 (by omega) (by omega) (by omega) ew
    exact ⟨_, Y1, Y2, fin h2 _ _ _ X2 (RF_G X1.f F1)⟩
end CJl
