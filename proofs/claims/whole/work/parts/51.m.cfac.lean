set_option maxRecDepth 100000
/-! the class's parser over a SUM: FACTORs that are one token, or any -/
theorem l2i_int {y : Int64} (h1 : -2147483648 ≤ y.toInt) (h2 : y.toInt ≤ 2147483647) : y.toInt32.toInt = y.toInt := by
  rw [Int64.toInt_toInt32]
  exact Int.bmod_eq_of_le (by omega) (by omega)
section XFs
variable {d : Nat} {h : mh_H} {B n m : Nat} {Bt : Nat → Int32} {K : Nat → Int32} {P U : Nat → Nat} {V : Nat → Int} {lo : lkt} {s : cps} {w i dp : Nat} {tu : Bool}
theorem p16 (b : CPB h B n) (t : CTK h B n m Bt K P U V) {j : Nat} (hj : j < m) : P j < 65536 := by
  have := b.n
  have := t.q j hj
  omega
theorem x_num (b : CPB h B n) (t : CTK h B n m Bt K P U V) (H : CHs Bt n m P U s lo i dp) (T : TOP s w 166 (tun tu)) (gw : w < gL n) (q : K i = 3) : RXa (d + 10) h B P lo false 11 1 s w tu i dp (i + 1, some (tL (tE 12 (P i) (V i)))) := by
  have hb := H.b
  have hN := H.N
  have hm := t.m
  have hc := H.c
  have hp := H.p
  have hP := p16 b t hb
  obtain ⟨v1, v2, v3⟩ := t.v i hb q
  have e : (u1 s 0 w).1 1 = i := H.i
  obtain ⟨y, y1, y2⟩ := c_71a (d := d + 4) (s := u1 s 0 w) b t (tu := Int32.ofNat (tun tu)) (by rw [e]; exact hb) (by rw [e]; exact q) (by show s.1 4 ≤ n; omega) (by show s.1 5 ≤ n; omega)
  rw [e] at y1 y2
  have kk : tK (tE 12 (P i) (V i)) = 12 := tE_K (by decide)
  have ec : cl (tL (tE 12 (P i) (V i))) false = 1 := cl_12 kk
  have ep : pn (tL (tE 12 (P i) (V i))) false = 1 := pn_1 (by omega) (by omega)
  refine ⟨1, u1 (ptS (emS (u1 s 0 w) 1 y.toInt32 0) (Int32.ofNat (tun tu)) (-1)) 1 (i + 1), it_71 b T gw y2, CFx_t (CFx_t (CFx_t (CFx_1 (Or.inl rfl)) CFx_em) (CFx_pt (by show s.1 5 ≤ s.1 5; omega))) (CFx_1 (by omega)), by omega, SOK.of ⟨rfl, rfl, H.d, T.f, by rw [ec]; rfl, by rw [ep]; rfl, ?_⟩, by rw [ec]; omega, by rw [ep]; omega, ?_, ?_⟩
  · repeat (first | refine (wSt_as (by exact hN)).trans ?_ | refine (wSt_em (by exact hN)).trans ?_ | refine (wSt_pt (by exact hN)).trans ?_ | refine (wSt_1 (by decide)).trans ?_)
    show wSt s = wn (wSt s) (lwT lo (.branch (tE 12 (P i) (V i)) (.leaf ()) (.leaf ())))
    rw [lwT_B, lwN_o (n := tE 12 (P i) (V i)) (by omega) (by omega) (by omega)]
    exact wn_0.symm
  · show cdx lo _ (.branch _ _ _) false _
    rw [cdx_12 kk, tE_V (by decide) hP]
    have e4 : (u1 s 0 w).1 4 = s.1 4 := rfl
    constructor
    · show (emS (u1 s 0 w) 1 y.toInt32 0).2 6 (3 * s.1 4) = 1
      rw [em_6, e4, if_neg (by omega), if_neg (by omega), if_pos rfl]
    · show ((emS (u1 s 0 w) 1 y.toInt32 0).2 6 (3 * s.1 4 + 1)).toInt = V i
      rw [em_6, e4, if_neg (by omega), if_pos rfl, l2i_int (by omega) (by omega), y1]
  · show pax lo _ _ _ (.branch _ _ _) false tu _ _
    rw [pax_1 (by omega) (by omega), if_neg (by omega), if_pos kk, ← tun_k]
    refine ⟨?_, ?_, ?_⟩
    · show (ptS (emS (u1 s 0 w) 1 y.toInt32 0) (Int32.ofNat (tun tu)) (-1)).2 7 (s.1 5) = _
      rw [pt_7, if_pos (by show s.1 5 = s.1 5; rfl)]
      congr 1
      show s.1 4 + 1 = s.1 4 + cl (tL (tE 12 (P i) (V i))) false
      rw [ec]
    · show (ptS (emS (u1 s 0 w) 1 y.toInt32 0) (Int32.ofNat (tun tu)) (-1)).2 8 (s.1 5) = _
      rw [pt_8, if_pos (by show s.1 5 = s.1 5; rfl)]
    · show (ptS (emS (u1 s 0 w) 1 y.toInt32 0) (Int32.ofNat (tun tu)) (-1)).2 9 (s.1 5) = _
      rw [pt_9, if_pos (by show s.1 5 = s.1 5; rfl)]
theorem x_nam (b : CPB h B n) (t : CTK h B n m Bt K P U V) (H : CHs Bt n m P U s lo i dp) (T : TOP s w 166 (tun tu)) (gw : w < gL n) (q : K i = 2) (q2 : ¬ K (i + 1) = 91) : RXa (d + 10) h B P lo false 11 1 s w tu i dp (i + 1, some (tL (tE 13 (P i) i))) := by
  have hb := H.b
  have hN := H.N
  have hm := t.m
  have hc := H.c
  have hp := H.p
  have hP := p16 b t hb
  have e : (u1 s 0 w).1 1 = i := H.i
  have F0 : CFx s (u1 s 0 w) w (s.1 5) := CFx_1 (Or.inl rfl)
  obtain ⟨S0, l0⟩ := CFx_S (Bt := Bt) (P := P) (U := U) F0 H.S
  have y2 := c_71b (d := d + 4) (s := u1 s 0 w) b t S0 (tu := Int32.ofNat (tun tu)) (by rw [e]; exact hb) hN (by rw [e]; exact q) (by rw [e]; exact q2) (by show s.1 4 ≤ n; omega) (by show s.1 5 ≤ n; omega)
  rw [e, nuV_lo S0] at y2
  rw [l0, H.l] at y2
  have wx := wSt_nu (Bt := Bt) (n := n) (P := P) (U := U) (s := u1 s 0 w) (i := i) (p := P i)
  rw [l0, H.l, wSt_1 (by decide)] at wx
  have F1 : CFx (u1 s 0 w) (nuS (u1 s 0 w) (fiT Bt n P U (u1 s 0 w) i) (Int32.ofNat (P i))) w (s.1 5) := CFx_nu hN
  have r1 : (nuS (u1 s 0 w) (fiT Bt n P U (u1 s 0 w) i) (Int32.ofNat (P i))).1 = (u1 s 0 w).1 := nu_1
  have rf : (nuS (u1 s 0 w) (fiT Bt n P U (u1 s 0 w) i) (Int32.ofNat (P i))).2 16 7 = -1 := (nu_2 (s := u1 s 0 w) hN (by decide)).trans T.f
  generalize nuS (u1 s 0 w) (fiT Bt n P U (u1 s 0 w) i) (Int32.ofNat (P i)) = s0 at y2 wx F1 r1 rf
  have c0 : s0.1 0 = w := by rw [r1]; rfl
  have c2 : s0.1 2 = dp := by rw [r1]; exact H.d
  have c4 : s0.1 4 = s.1 4 := by rw [r1]; rfl
  have c5 : s0.1 5 = s.1 5 := by rw [r1]; rfl
  have c8 : 0 < s0.1 8 := by rw [r1]; exact hN
  have kk : tK (tE 13 (P i) i) = 13 := tE_K (by decide)
  have vv : tV (tE 13 (P i) i) = (i : Int) := tE_V (by decide) hP
  have ec : cl (tL (tE 13 (P i) i)) false = 1 := cl_13 kk
  have ep : pn (tL (tE 13 (P i) i)) false = 1 := pn_1 (by omega) (by omega)
  refine ⟨1, u1 (ptS (emS s0 2 (Int32.ofNat (lkN lo i)) 0) (Int32.ofNat (tun tu)) (Int32.ofNat (lkN lo i))) 1 (i + 1), it_71 b T gw y2, CFx_t (CFx_t (CFx_t (CFx_t F0 F1) CFx_em) (CFx_pt (by show s.1 5 ≤ s0.1 5; omega))) (CFx_1 (by omega)), by omega, SOK.of ⟨c0, rfl, c2, rf, by rw [ec]; show s0.1 4 + 1 = _; omega, by rw [ep]; show s0.1 5 + 1 = _; omega, ?_⟩, by rw [ec]; omega, by rw [ep]; omega, ?_, ?_⟩
  · repeat (first | refine (wSt_as (by exact c8)).trans ?_ | refine (wSt_em (by exact c8)).trans ?_ | refine (wSt_pt (by exact c8)).trans ?_ | refine (wSt_1 (by decide)).trans ?_)
    rw [wx]
    show _ = wn (wSt s) (lwT lo (.branch (tE 13 (P i) i) (.leaf ()) (.leaf ())))
    rw [lwT_B, lwN_13 kk, vv, tE_P (by decide) hP]
    exact (wn_z _ _).symm
  · show cdx lo _ (.branch _ _ _) false _
    rw [cdx_13 kk, vv]
    constructor
    · show (emS s0 2 (Int32.ofNat (lkN lo i)) 0).2 6 (3 * s.1 4) = 2
      rw [em_6, c4, if_neg (by omega), if_neg (by omega), if_pos rfl]
    · show (emS s0 2 (Int32.ofNat (lkN lo i)) 0).2 6 (3 * s.1 4 + 1) = _
      rw [em_6, c4, if_neg (by omega), if_pos rfl]
  · show pax lo _ _ _ (.branch _ _ _) false tu _ _
    rw [pax_1 (by omega) (by omega), if_pos kk, ← tun_k, vv]
    refine ⟨?_, ?_, ?_⟩
    · show (ptS (emS s0 2 (Int32.ofNat (lkN lo i)) 0) (Int32.ofNat (tun tu)) (Int32.ofNat (lkN lo i))).2 7 (s.1 5) = _
      rw [pt_7, if_pos (by show s.1 5 = s0.1 5; omega)]
      congr 1
      show s0.1 4 + 1 = s.1 4 + cl (tL (tE 13 (P i) i)) false
      rw [ec, c4]
    · show (ptS (emS s0 2 (Int32.ofNat (lkN lo i)) 0) (Int32.ofNat (tun tu)) (Int32.ofNat (lkN lo i))).2 8 (s.1 5) = _
      rw [pt_8, if_pos (by show s.1 5 = s0.1 5; omega)]
    · show (ptS (emS s0 2 (Int32.ofNat (lkN lo i)) 0) (Int32.ofNat (tun tu)) (Int32.ofNat (lkN lo i))).2 9 (s.1 5) = _
      rw [pt_9, if_pos (by show s.1 5 = s0.1 5; omega)]
theorem x_any0 (b : CPB h B n) (t : CTK h B n m Bt K P U V) (H : CHs Bt n m P U s lo i dp) (T : TOP s w 166 (tun tu)) (gw : w < gL n) (q : K i = 11) (q2 : ¬ K (i + 1) = 40) : RXa (d + 10) h B P lo false 11 1 s w tu i dp (i + 1, some (tL (tE 16 (P i) 0))) := by
  have hb := H.b
  have hN := H.N
  have hm := t.m
  have hc := H.c
  have hp := H.p
  have hP := p16 b t hb
  have hi1 : i + 1 < m := tkM_s t.M hb q (by decide) (by decide)
  have e : (u1 s 0 w).1 1 = i := H.i
  have y2 := c_73n (d := d + 4) (s := u1 s 0 w) b t (tu := Int32.ofNat (tun tu)) (by rw [e]; exact hi1) (by rw [e]; exact q2) (by show s.1 4 ≤ n; omega) (by show s.1 5 ≤ n; omega)
  rw [e] at y2
  have y3 := c_71d (d := d + 4) (s := u1 s 0 w) b t (tu := Int32.ofNat (tun tu)) (by rw [e]; exact hb) (by rw [e]; exact q) y2
  obtain ⟨s0, hs0⟩ : ∃ s0, s0 = u1 (u1 s 0 w) 1 (i + 1) := ⟨_, rfl⟩
  rw [← hs0] at y3
  have F0 : CFx s s0 w (s.1 5) := by rw [hs0]; exact CFx_t (CFx_1 (Or.inl rfl)) (CFx_1 (by omega))
  have c0 : s0.1 0 = w := by rw [hs0]; rfl
  have c1 : s0.1 1 = i + 1 := by rw [hs0]; rfl
  have c2 : s0.1 2 = dp := by rw [hs0]; exact H.d
  have c4 : s0.1 4 = s.1 4 := by rw [hs0]; rfl
  have c5 : s0.1 5 = s.1 5 := by rw [hs0]; rfl
  have c8 : 0 < s0.1 8 := by rw [hs0]; exact hN
  have cf : s0.2 16 7 = -1 := by rw [hs0]; exact T.f
  have cx : wSt s0 = wSt s := by rw [hs0, wSt_1 (by decide), wSt_1 (by decide)]
  clear hs0
  have kk : tK (tE 16 (P i) 0) = 16 := tE_K (by decide)
  have ec : cl (tL (tE 16 (P i) 0)) false = 1 := cl_16 kk
  have ep : pn (tL (tE 16 (P i) 0)) false = 1 := pn_1 (by omega) (by omega)
  refine ⟨1, ptS (emS s0 4 ((-2147483648 : Int64).toInt32) ((2147483647 : Int64).toInt32)) (Int32.ofNat (tun tu)) (-2), it_71 b T gw y3, CFx_t (CFx_t F0 CFx_em) (CFx_pt (by show s.1 5 ≤ s0.1 5; omega)), by omega, SOK.of ⟨c0, c1, c2, cf, by rw [ec]; show s0.1 4 + 1 = _; omega, by rw [ep]; show s0.1 5 + 1 = _; omega, ?_⟩, by rw [ec]; omega, by rw [ep]; omega, ?_, ?_⟩
  · repeat (first | refine (wSt_as (by exact c8)).trans ?_ | refine (wSt_em (by exact c8)).trans ?_ | refine (wSt_pt (by exact c8)).trans ?_ | refine (wSt_1 (by decide)).trans ?_)
    rw [cx]
    show _ = wn (wSt s) (lwT lo (.branch (tE 16 (P i) 0) (.leaf ()) (.leaf ())))
    rw [lwT_B, lwN_16 kk]
    exact wn_0.symm
  · show cdx lo _ (.branch _ (.leaf ()) _) false _
    rw [cdx_16 kk]
    refine ⟨?_, ?_, ?_⟩
    · show (emS s0 4 ((-2147483648 : Int64).toInt32) ((2147483647 : Int64).toInt32)).2 6 (3 * s.1 4) = 4
      rw [em_6, c4, if_neg (by omega), if_neg (by omega), if_pos rfl]
    · show ((emS s0 4 ((-2147483648 : Int64).toInt32) ((2147483647 : Int64).toInt32)).2 6 (3 * s.1 4 + 1)).toInt = _
      rw [em_6, c4, if_neg (by omega), if_pos rfl]
      rfl
    · show ((emS s0 4 ((-2147483648 : Int64).toInt32) ((2147483647 : Int64).toInt32)).2 6 (3 * s.1 4 + 2)).toInt = _
      rw [em_6, c4, if_pos rfl]
      rfl
  · show pax lo _ _ _ (.branch _ _ _) false tu _ _
    rw [pax_1 (by omega) (by omega), if_neg (by omega), if_neg (by omega), ← tun_k]
    refine ⟨?_, ?_, ?_⟩
    · rw [pt_7, if_pos (by show s.1 5 = s0.1 5; omega)]
      congr 1
      show s0.1 4 + 1 = s.1 4 + cl (tL (tE 16 (P i) 0)) false
      rw [ec, c4]
    · rw [pt_8, if_pos (by show s.1 5 = s0.1 5; omega)]
    · rw [pt_9, if_pos (by show s.1 5 = s0.1 5; omega)]
/-! limits -/
theorem tq_f {k : Int32} (hf : ¬ s.2 16 7 = -1) : tkS K P s k = s := if_neg hf
theorem rq_f (hf : ¬ s.2 16 7 = -1) : rlS K P s = s := by
  unfold rlS
  split
  · rw [tq_f hf, tq_f hf]
  · exact tq_f hf
theorem tq_y {k : Int32} (hf : s.2 16 7 = -1) (hi : s.1 1 = i) (q : K i = k) : (tkS K P s k).2 16 7 = -1 ∧ (tkS K P s k).1 1 = i + 1 := by
  unfold tkS
  rw [if_pos hf, hi, if_pos q]
  exact ⟨hf, rfl⟩
theorem tq_n {k : Int32} (hf : s.2 16 7 = -1) (hi : s.1 1 = i) (q : ¬ K i = k) : (tkS K P s k).2 16 7 = Int32.ofNat (P i) := by
  unfold tkS
  rw [if_pos hf, hi, if_neg q]
  rfl
theorem lim_r (hf : s.2 16 7 = -1) (hi : s.1 1 = i) : (∀ j a, pLim K P V i = (j, some a) → (rlS K P s).2 16 7 = -1 ∧ (rlS K P s).1 1 = j ∧ a = tL (tE 12 (P i) (rlV K P V s))) ∧ (∀ j, pLim K P V i = (j, none) → (rlS K P s).2 16 7 = Int32.ofNat (P j)) := by
  unfold pLim rlS rlV tak
  rw [hi]
  by_cases c : K i = 45
  · obtain ⟨y1, y2⟩ := tq_y (P := P) hf hi c
    rw [if_pos c, if_pos c, if_pos c, y2]
    by_cases c2 : K (i + 1) = 3
    · obtain ⟨z1, z2⟩ := tq_y (P := P) y1 y2 c2
      rw [if_pos c2, if_pos c2]
      exact ⟨fun j a e => (by cases e; exact ⟨z1, z2, rfl⟩), fun j e => (by cases e)⟩
    · have z1 := tq_n (P := P) y1 y2 c2
      rw [if_neg c2]
      exact ⟨fun j a e => (by cases e), fun j e => (by cases e; exact z1)⟩
  · rw [if_neg c, if_neg c, if_neg c]
    by_cases c2 : K i = 3
    · obtain ⟨z1, z2⟩ := tq_y (P := P) hf hi c2
      rw [if_pos c2, if_pos c2]
      exact ⟨fun j a e => (by cases e; exact ⟨z1, z2, rfl⟩), fun j e => (by cases e)⟩
    · have z1 := tq_n (P := P) hf hi c2
      rw [if_neg c2]
      exact ⟨fun j a e => (by cases e), fun j e => (by cases e; exact z1)⟩
theorem ay_1 {c : Nat} (hc : c ≠ 1) : (ayS K P V s).1 c = s.1 c := by
  have f1 : (tkS K P (rlS K P (tkS K P (rlS K P (u1 s 1 (s.1 1 + 2))) 44)) 41).1 c = s.1 c := by
    rw [tq_1 hc, rl_1 hc, tq_1 hc, rl_1 hc]
    exact if_neg hc
  unfold ayS
  split
  · rw [nt_1]; exact f1
  · exact f1
theorem x_anq (b : CPB h B n) (t : CTK h B n m Bt K P U V) (H : CHs Bt n m P U s lo i dp) (T : TOP s w 166 (tun tu)) (gw : w < gL n) (q : K i = 11) (q2 : K (i + 1) = 40) : RXa (d + 10) h B P lo false 11 1 s w tu i dp (bnd (pLim K P V (i + 2)) fun a j => tak K 44 j (bnd (pLim K P V (j + 1)) fun b k => tak K 41 k (k + 1, some (tNd (tE 16 (P i) 0) (tA a b))))) := by
  have hb := H.b
  have hN := H.N
  have hm := t.m
  have hc := H.c
  have hp := H.p
  have hP := p16 b t hb
  have hi1 : i + 1 < m := tkM_s t.M hb q (by decide) (by decide)
  have hi2 : i + 2 < m := tkM_s t.M hi1 q2 (by decide) (by decide)
  have hP2 := p16 b t hi2
  have hn := b.n
  have e : (u1 s 0 w).1 1 = i := H.i
  obtain ⟨y, z, y1, z1, y2, z2, y3⟩ := c_73y (d := d + 4) (s := u1 s 0 w) b t (tu := Int32.ofNat (tun tu)) (by rw [e]; exact hi1) (by rw [e]; exact q2) (by show s.1 4 ≤ n; omega) (by show s.1 5 ≤ n; omega) hN
  have y4 := c_71d (d := d + 4) (s := u1 s 0 w) b t (tu := Int32.ofNat (tun tu)) (by rw [e]; exact hb) (by rw [e]; exact q) y3
  have PLs := it_71 b T gw y4
  have A1 : ∀ c, c ≠ 1 → (ayS K P V (u1 s 0 w)).1 c = (u1 s 0 w).1 c := fun c hc' => ay_1 hc'
  -- the states
  obtain ⟨sa, hsa⟩ : ∃ sa, sa = u1 (u1 s 0 w) 1 ((u1 s 0 w).1 1 + 2) := ⟨_, rfl⟩
  have Fa : CFx s sa w (s.1 5) := by rw [hsa]; exact CFx_t (CFx_1 (Or.inl rfl)) (CFx_1 (by omega))
  have ai : sa.1 1 = i + 2 := by rw [hsa]; show (u1 s 0 w).1 1 + 2 = i + 2; rw [e]
  have af : sa.2 16 7 = -1 := by rw [hsa]; exact T.f
  have aN : 0 < sa.1 8 := by rw [hsa]; exact hN
  have ax : wSt sa = wSt s := by rw [hsa, wSt_1 (by decide), wSt_1 (by decide)]
  have Ea : ayS K P V (u1 s 0 w) = if rlV K P V (tkS K P (rlS K P sa) 44) < rlV K P V sa then ntS (tkS K P (rlS K P (tkS K P (rlS K P sa) 44)) 41) 8 (Int32.ofNat (P (i + 2))) else tkS K P (rlS K P (tkS K P (rlS K P sa) 44)) 41 := by
    unfold ayS
    rw [← hsa, e]
  rw [← hsa] at y1 z1
  clear hsa
  have bN : 0 < (tkS K P (rlS K P (tkS K P (rlS K P sa) 44)) 41).1 8 := by rw [tq_1 (by decide), rl_1 (by decide), tq_1 (by decide), rl_1 (by decide)]; exact aN
  have Fy : CFx s (ayS K P V (u1 s 0 w)) w (s.1 5) := by
    rw [Ea]
    split
    · exact CFx_t (CFx_t (CFx_t (CFx_t (CFx_t Fa CFx_rl) CFx_tk) CFx_rl) CFx_tk) (CFx_nt bN)
    · exact CFx_t (CFx_t (CFx_t (CFx_t Fa CFx_rl) CFx_tk) CFx_rl) CFx_tk
  have Ff : (ayS K P V (u1 s 0 w)).2 16 7 = (tkS K P (rlS K P (tkS K P (rlS K P sa) 44)) 41).2 16 7 := by
    rw [Ea]
    split
    · exact nt_2 bN (by decide)
    · rfl
  have Fi : (ayS K P V (u1 s 0 w)).1 1 = (tkS K P (rlS K P (tkS K P (rlS K P sa) 44)) 41).1 1 := by
    rw [Ea]
    split
    · rw [nt_1]
    · rfl
  have nm : ∀ j, j < m → ¬ Int32.ofNat (P j) = -1 := fun j hj z => by
    have hq := t.q j hj
    have := nn_m2 (k := P j) (by omega)
    rw [this] at z
    exact z
  have fault : ∀ j, i ≤ j → (tkS K P (rlS K P (tkS K P (rlS K P sa) 44)) 41).2 16 7 = Int32.ofNat (P j) → RXn (d + 10) h B P s w (s.1 5) i j 1 := fun j hj hf => ⟨1, _, PLs, CFx_t (CFx_t Fy CFx_em) (CFx_pt (by show s.1 5 ≤ (ayS K P V (u1 s 0 w)).1 5; rw [A1 5 (by decide)]; show s.1 5 ≤ s.1 5; omega)), by omega, by show (ayS K P V (u1 s 0 w)).2 16 7 = _; rw [Ff]; exact hf⟩
  have gd1 := pLim_b (P := P) (V := V) t.M hi2
  obtain ⟨L1, L2⟩ := lim_r (P := P) (V := V) (K := K) af ai
  generalize pLim K P V (i + 2) = r1 at L1 L2 gd1 ⊢
  rcases r1 with ⟨j, _ | a⟩
  · have f1 := L2 j rfl
    have gj : i + 2 ≤ j := gd1.1
    have gm : j < m := gd1.2.1
    have fn : ¬ (rlS K P sa).2 16 7 = -1 := by rw [f1]; exact nm j gm
    refine fault j (by omega) ?_
    rw [tq_f fn, rq_f fn, tq_f fn, f1]
  obtain ⟨f1, f2, f3⟩ := L1 j a rfl
  have gj : i + 2 ≤ j := gd1.1
  have gm : j < m := gd1.2.1
  show RXa (d + 10) h B P lo false 11 1 s w tu i dp (tak K 44 j (bnd (pLim K P V (j + 1)) fun b k => tak K 41 k (k + 1, some (tNd (tE 16 (P i) 0) (tA a b)))))
  by_cases c44 : ¬ K j = 44
  · have f4 := tq_n (P := P) f1 f2 c44
    have fn : ¬ (tkS K P (rlS K P sa) 44).2 16 7 = -1 := by rw [f4]; exact nm j gm
    have e5 : tak K 44 j (bnd (pLim K P V (j + 1)) fun b k => tak K 41 k (k + 1, some (tNd (tE 16 (P i) 0) (tA a b)))) = (j, none) := if_neg c44
    rw [e5]
    refine fault j (by omega) ?_
    rw [rq_f fn, tq_f fn, f4]
  have c44 : K j = 44 := Classical.not_not.mp c44
  obtain ⟨f4, f5⟩ := tq_y (P := P) f1 f2 c44
  have gm1 : j + 1 < m := tkM_s t.M gm c44 (by decide) (by decide)
  have hP3 := p16 b t gm1
  have e5 : tak K 44 j (bnd (pLim K P V (j + 1)) fun b k => tak K 41 k (k + 1, some (tNd (tE 16 (P i) 0) (tA a b)))) = bnd (pLim K P V (j + 1)) fun b k => tak K 41 k (k + 1, some (tNd (tE 16 (P i) 0) (tA a b))) := if_pos c44
  rw [e5]
  have gd2 := pLim_b (P := P) (V := V) t.M gm1
  obtain ⟨L3, L4⟩ := lim_r (P := P) (V := V) (K := K) f4 f5
  generalize pLim K P V (j + 1) = r2 at L3 L4 gd2 ⊢
  rcases r2 with ⟨k, _ | a2⟩
  · have f6 := L4 k rfl
    have gk : j + 1 ≤ k := gd2.1
    have gk2 : k < m := gd2.2.1
    have fn : ¬ (rlS K P (tkS K P (rlS K P sa) 44)).2 16 7 = -1 := by rw [f6]; exact nm k gk2
    refine fault k (by omega) ?_
    rw [tq_f fn, f6]
  obtain ⟨f6, f7, f8⟩ := L3 k a2 rfl
  have gk : j + 1 ≤ k := gd2.1
  have gk2 : k < m := gd2.2.1
  show RXa (d + 10) h B P lo false 11 1 s w tu i dp (tak K 41 k (k + 1, some (tNd (tE 16 (P i) 0) (tA a a2))))
  by_cases c41 : ¬ K k = 41
  · have f9 := tq_n (P := P) f6 f7 c41
    have e6 : tak K 41 k (k + 1, some (tNd (tE 16 (P i) 0) (tA a a2))) = (k, none) := if_neg c41
    rw [e6]
    exact fault k (by omega) f9
  have c41 : K k = 41 := Classical.not_not.mp c41
  obtain ⟨f9, f10⟩ := tq_y (P := P) f6 f7 c41
  have e6 : tak K 41 k (k + 1, some (tNd (tE 16 (P i) 0) (tA a a2))) = (k + 1, some (tNd (tE 16 (P i) 0) (tA a a2))) := if_pos c41
  rw [e6, f3, f8]
  rw [← y1, ← z1] at *
  have wx : wSt (ayS K P V (u1 s 0 w)) = wn (wSt s) (if z.toInt < y.toInt then (8, P (i + 2)) else (0, 0)) := by
    have w1 : wSt (tkS K P (rlS K P (tkS K P (rlS K P sa) 44)) 41) = wSt s := by
      rw [wSt_tk (by rw [rl_1 (by decide), tq_1 (by decide), rl_1 (by decide)]; exact aN), wSt_rl (by rw [tq_1 (by decide), rl_1 (by decide)]; exact aN), wSt_tk (by rw [rl_1 (by decide)]; exact aN), wSt_rl aN, ax]
    rw [Ea]
    split
    · exact (wSt_nt (k := 8) (by decide)).trans (by rw [w1])
    · rw [w1]; exact wn_0.symm
  have Q4 : (ayS K P V (u1 s 0 w)).1 4 = s.1 4 := A1 4 (by decide)
  have Q5 : (ayS K P V (u1 s 0 w)).1 5 = s.1 5 := A1 5 (by decide)
  have Q0 : (ayS K P V (u1 s 0 w)).1 0 = w := A1 0 (by decide)
  have Q2 : (ayS K P V (u1 s 0 w)).1 2 = dp := (A1 2 (by decide)).trans H.d
  have Q8 : 0 < (ayS K P V (u1 s 0 w)).1 8 := by rw [A1 8 (by decide)]; exact hN
  rw [f9] at Ff
  rw [f10] at Fi
  generalize ayS K P V (u1 s 0 w) = s0 at *
  have kk : tK (tE 16 (P i) 0) = 16 := tE_K (by decide)
  have ec : cl (tNd (tE 16 (P i) 0) (tA (tL (tE 12 (P (i + 2)) y.toInt)) (tL (tE 12 (P (j + 1)) z.toInt)))) false = 1 := cl_16 kk
  have ep : pn (tNd (tE 16 (P i) 0) (tA (tL (tE 12 (P (i + 2)) y.toInt)) (tL (tE 12 (P (j + 1)) z.toInt)))) false = 1 := pn_1 (by omega) (by omega)
  refine ⟨1, ptS (emS s0 4 y.toInt32 z.toInt32) (Int32.ofNat (tun tu)) (-2), PLs, CFx_t (CFx_t Fy CFx_em) (CFx_pt (by show s.1 5 ≤ s0.1 5; omega)), by omega, SOK.of ⟨Q0, Fi, Q2, Ff, by rw [ec]; show s0.1 4 + 1 = _; omega, by rw [ep]; show s0.1 5 + 1 = _; omega, ?_⟩, by rw [ec]; omega, by rw [ep]; omega, ?_, ?_⟩
  · repeat (first | refine (wSt_as (by exact Q8)).trans ?_ | refine (wSt_em (by exact Q8)).trans ?_ | refine (wSt_pt (by exact Q8)).trans ?_ | refine (wSt_1 (by decide)).trans ?_)
    rw [wx]
    show _ = wn (wSt s) (lwT lo (.branch (tE 16 (P i) 0) (.branch (tE 12 (P (i + 2)) y.toInt) (.leaf ()) (.branch (tE 12 (P (j + 1)) z.toInt) (.leaf ()) (.leaf ()))) (.leaf ())))
    rw [lwT_B, lwN_16b kk]
    show _ = wn (wSt s) (fw (if tV (tE 12 (P (j + 1)) z.toInt) < tV (tE 12 (P (i + 2)) y.toInt) then (8, tP (tE 12 (P (i + 2)) y.toInt)) else (0, 0)) (0, 0))
    rw [wn_z, tE_V (by decide) hP3, tE_V (by decide) hP2, tE_P (by decide) hP2]
  · show cdx lo _ (.branch _ (.branch _ _ (.branch _ _ _)) _) false _
    rw [cdx_16b kk, tE_V (by decide) hP3, tE_V (by decide) hP2]
    refine ⟨?_, ?_, ?_⟩
    · show (emS s0 4 y.toInt32 z.toInt32).2 6 (3 * s.1 4) = 4
      rw [em_6, Q4, if_neg (by omega), if_neg (by omega), if_pos rfl]
    · show ((emS s0 4 y.toInt32 z.toInt32).2 6 (3 * s.1 4 + 1)).toInt = _
      rw [em_6, Q4, if_neg (by omega), if_pos rfl, l2i_int y2.1 y2.2]
    · show ((emS s0 4 y.toInt32 z.toInt32).2 6 (3 * s.1 4 + 2)).toInt = _
      rw [em_6, Q4, if_pos rfl, l2i_int z2.1 z2.2]
  · show pax lo _ _ _ (.branch _ _ _) false tu _ _
    rw [pax_1 (by omega) (by omega), if_neg (by omega), if_neg (by omega), ← tun_k]
    refine ⟨?_, ?_, ?_⟩
    · rw [pt_7, if_pos (by show s.1 5 = s0.1 5; omega)]
      congr 1
      show s0.1 4 + 1 = s.1 4 + cl (tNd (tE 16 (P i) 0) (tA (tL (tE 12 (P (i + 2)) y.toInt)) (tL (tE 12 (P (j + 1)) z.toInt)))) false
      rw [ec, Q4]
    · rw [pt_8, if_pos (by show s.1 5 = s0.1 5; omega)]
    · rw [pt_9, if_pos (by show s.1 5 = s0.1 5; omega)]
end XFs
