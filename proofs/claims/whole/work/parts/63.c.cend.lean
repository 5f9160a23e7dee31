set_option maxRecDepth 100000
/-! the class's end: a text that is read -/
section CFs2
variable {d : Nat} {h hP h0 h5 : mh_H} {Y C E TT UU SC SP nC nE nS pa cnt : Nat} {G : pgm} {J J2 : pin} {fst oth : Nat → Nat} {pl : Nat → Int32} {B n m N j f nP e : Nat} {Bt : Nat → Int32} {K : Nat → Int32} {P U : Nat → Nat} {sp : Nat → Nat → Bool} {T : tr} {Sc : cps} {NL : List Nat} {Pt : Nat → lpt} {FK : Nat → Nat}
/-- an assert has no BLOCK -/
theorem E_10 {D : lyD} {k w s : Nat} (ly : LYR D Pt f true (D.FT (D.c - 1)) k w s 0 e [] 0 (lyX0 D)) {q : Nat} (hq : q < e) (k10 : tK (Pt q).N = 10) : (Pt q).E = q + 1 := by
  obtain ⟨-, f', fb', r, b', y⟩ := LYR_at f true _ k w s 0 e [] 0 (lyX0 D) ly q (Nat.zero_le _) hq
  obtain ⟨-, -, -, -, y6, -⟩ := y
  rcases y6 with ⟨kk, -⟩ | ⟨kk, -⟩ | ⟨kk, -⟩ | ⟨-, -, -, z⟩
  · omega
  · omega
  · omega
  · exact z
theorem fo_ok {E0 : nv} (PT : ∀ q, q < e → PTp sp NL Pt E0 (lyDs sp (Sc.2 15) P T (Sc.1 9)) q) (H : PGH sp NL (lyDs sp (Sc.2 15) P T (Sc.1 9))) (ow : ∀ q o, q < e → (Pt q).X.ow = some o → o < q) {k w s : Nat} (ly : LYR (lyDs sp (Sc.2 15) P T (Sc.1 9)) Pt f true ((lyDs sp (Sc.2 15) P T (Sc.1 9)).FT ((lyDs sp (Sc.2 15) P T (Sc.1 9)).c - 1)) k w s 0 e [] 0 (lyX0 (lyDs sp (Sc.2 15) P T (Sc.1 9)))) : (∀ p, p < e → fstP Pt e p < e + 1) ∧ ∀ p, p < e → (pgG sp NL Pt E0 e).kd p = 5 ∨ (pgG sp NL Pt E0 e).kd p = 6 ∨ (pgG sp NL Pt E0 e).kd p = 7 → othP Pt e p < e + 1 := by
  have sh := SH_top H PT ow ly
  refine ⟨fun p hp => Nat.lt_succ_of_le (sh p hp).1.1, fun p hp kd => ?_⟩
  have ek : (pgG sp NL Pt E0 e).kd p = skN (Pt p).N := if_pos hp
  have k3 := PIK_k (PT p hp).k
  rw [ek] at kd
  have t3 : tK (Pt p).N = 8 ∨ tK (Pt p).N = 9 ∨ tK (Pt p).N = 10 := by
    unfold skN at kd
    by_cases c : tK (Pt p).N = 3 ∨ tK (Pt p).N = 4
    · rw [if_pos c] at kd
      omega
    · rw [if_neg c] at kd
      omega
  by_cases c : tK (Pt p).N = 8 ∨ tK (Pt p).N = 9
  · exact Nat.lt_succ_of_le ((sh p hp).2 (jC_7 c)).1
  · have k10 : tK (Pt p).N = 10 := by omega
    have eE := E_10 ly hp k10
    have a1 : othP Pt e p = bh Pt e p := if_neg (fun z => by omega)
    have a2 : fstP Pt e p = bh Pt e p := by
      unfold fstP
      rw [if_neg (show ¬ tK (Pt p).N = 8 by omega), eE, if_neg (Nat.lt_irrefl _), if_neg (by omega)]
    rw [a1, ← a2]
    exact Nat.lt_succ_of_le (sh p hp).1.1
/-- the cells of the text and of the source stand -/
theorem CSR_z (hB2 : 2644 ≤ B) (CB : CPB h5 B n) (hm : m ≤ n + 1) (FN : FNH P m Sc j) {hT : mh_H} (f0 : fz eE (cH h5 B (fiS Sc)) hT) : CSR hT B n Sc := by
  have nn : mh_n (cH h5 B (fiS Sc)) = B + (24 + Sc.1 8) := by rw [cH_n, fi_8]
  refine CSR_of hB2 CB hm FN (by have := f0.1; omega) (fun y h1 h2 => ?_)
  obtain ⟨a1, a2⟩ := f0.2.1 y (by omega)
  exact ⟨a1, a2, fun j => (f0.2.2 y j (by omega) (by unfold eE; omega)).1, fun j => (f0.2.2 y j (by omega) (by unfold eE; omega)).2.2⟩
/-- something is wrong with the program -/
theorem lay_w (Pg : CPg h Y C E TT UU SC SP nC nE nS pa G J J2 cnt fst oth pl) (hB : mh_n h = B) (hn : n ≤ 10300) (CB : CPB h5 B n) (hm : m ≤ n + 1) (FN : FNH P m Sc j) (ad : ADD (cpW B) h h5 B (cpL n)) (f1 : fz eE h h0) (f2 : fz eE (cH h5 B (fiS Sc)) h0) (n0 : mh_n h0 = B + (24 + Sc.1 8) + 1 ∧ mh_s h0 = mh_s h5 + 17 * Sc.1 8 + 17) (s8 : Sc.1 8 ≤ n / 3 + 2) (CL : CLC (enL h0 B) B n m (lyDs sp (Sc.2 15) P T (Sc.1 9)) (fiS Sc)) (FC : ∀ g, g < Sc.1 9 → FCq (lyDs sp (Sc.2 15) P T (Sc.1 9)) K m Sc (fiS Sc) N g) (hc : 0 < Sc.1 9) (hnP : P (Sc.2 15 (6 * (Sc.1 9 - 1))).toNatClampNeg = nP) (hf : ts ((lyDs sp (Sc.2 15) P T (Sc.1 9)).FT (Sc.1 9 - 1)) + rkF (lyDs sp (Sc.2 15) P T (Sc.1 9)) (Sc.1 9 - 1) ≤ f) (W : ¬ (lyT (lyDs sp (Sc.2 15) P T (Sc.1 9)) f nP).1.1 = 0) {sp' : Nat → Nat → Bool} {E0 : nv} {fst' oth' : Nat → Nat} {x1 x4 : Option Value} : ∃ h' w0, wW w0 = 0 ∧ CPg h' (B + 5) (B + 6) (B + 7) (B + 8) (B + 9) (B + 10) (B + 11) (3 * n + 3) (n + 1) (n + 2) (Sc.1 5) (pgG sp' NL Pt E0 0) (pJ sp' NL Pt E0) (pJ2 sp' NL Pt E0) 1 fst' oth' (fun _ => 0) ∧ CAZ h' (pgG sp' NL Pt E0 0) 0 1 w0 ∧ CEd h h' n ∧ (mh_i h' 0 8 = Int32.ofNat (lyT (lyDs sp (Sc.2 15) P T (Sc.1 9)) f nP).1.1 ∧ mh_i h' 0 9 = Int32.ofNat (lyT (lyDs sp (Sc.2 15) P T (Sc.1 9)) f nP).1.2) ∧ ∀ Q, mw (d + 13) 186 Q 78 [some (.ref 0), x1, some (.ref B), some (.ref (B + 5)), x4, some (.int (-1)), some (.int 0)] [] h0 = Q (some (.int 2)) h' := by
  have b := Pg.B
  have hN2 := b.N
  have F0 := CF_ee f1 hN2 b.F
  obtain ⟨h1, a1, a2, a3, a4, a5⟩ := v_85w (d := d + 9) (h := h0) (nP := nP) (F0.g 2 4 20 (by decide +kernel)) CL FC (fun i j h5 h6 => fiS_n h5 h6) rfl hc hnP hf W
  have f3 := fz_lx a1
  have F1 := a2.F
  have n1 : mh_n h1 = mh_n h0 := a1.1
  have s1 : mh_s h1 = mh_s h0 := by have := a1.2.1; omega
  have run := y_186w (d := d + 10) F0 F1 (by omega) a5 a3 a4 (x1 := x1) (x4 := x4)
  have f4 : fz eE h1 (mh_si (mh_si h1 0 8 (Int32.ofNat (lyT (lyDs sp (Sc.2 15) P T (Sc.1 9)) f nP).1.1)) 0 9 (Int32.ofNat (lyT (lyDs sp (Sc.2 15) P T (Sc.1 9)) f nP).1.2)) := fz_t (fz_si (by unfold eE; omega)) (fz_si (by unfold eE; omega))
  have j8 : mh_i (mh_si (mh_si h1 0 8 (Int32.ofNat (lyT (lyDs sp (Sc.2 15) P T (Sc.1 9)) f nP).1.1)) 0 9 (Int32.ofNat (lyT (lyDs sp (Sc.2 15) P T (Sc.1 9)) f nP).1.2)) 0 8 = Int32.ofNat (lyT (lyDs sp (Sc.2 15) P T (Sc.1 9)) f nP).1.1 := by rw [hi_si, if_neg (by omega), hi_si, if_pos ⟨rfl, rfl⟩]
  have j9 : mh_i (mh_si (mh_si h1 0 8 (Int32.ofNat (lyT (lyDs sp (Sc.2 15) P T (Sc.1 9)) f nP).1.1)) 0 9 (Int32.ofNat (lyT (lyDs sp (Sc.2 15) P T (Sc.1 9)) f nP).1.2)) 0 9 = Int32.ofNat (lyT (lyDs sp (Sc.2 15) P T (Sc.1 9)) f nP).1.2 := by rw [hi_si, if_pos ⟨rfl, rfl⟩]
  have r21 : mh_r (mh_si (mh_si h1 0 8 (Int32.ofNat (lyT (lyDs sp (Sc.2 15) P T (Sc.1 9)) f nP).1.1)) 0 9 (Int32.ofNat (lyT (lyDs sp (Sc.2 15) P T (Sc.1 9)) f nP).1.2)) 2 1 = some (B + 5) := a2.s.1
  have n2 : mh_n (mh_si (mh_si h1 0 8 (Int32.ofNat (lyT (lyDs sp (Sc.2 15) P T (Sc.1 9)) f nP).1.1)) 0 9 (Int32.ofNat (lyT (lyDs sp (Sc.2 15) P T (Sc.1 9)) f nP).1.2)) = mh_n h1 := rfl
  have s2 : mh_s (mh_si (mh_si h1 0 8 (Int32.ofNat (lyT (lyDs sp (Sc.2 15) P T (Sc.1 9)) f nP).1.1)) 0 9 (Int32.ofNat (lyT (lyDs sp (Sc.2 15) P T (Sc.1 9)) f nP).1.2)) = mh_s h1 := rfl
  revert run f4 j8 j9 r21 n2 s2
  generalize mh_si (mh_si h1 0 8 (Int32.ofNat (lyT (lyDs sp (Sc.2 15) P T (Sc.1 9)) f nP).1.1)) 0 9 (Int32.ofNat (lyT (lyDs sp (Sc.2 15) P T (Sc.1 9)) f nP).1.2) = h2
  intro run f4 j8 j9 r21 n2 s2
  obtain ⟨q1, q2, q3, q4, q5, q6⟩ := le_0 (h := h2) (by omega)
  have ml := leH_n (h := h2) (e := 0)
  have f5 : fz eE h (leH h2 0) := fz_t (fz_t (fz_t f1 f3) f4) fz_le
  have f6 : fz eE (cH h5 B (fiS Sc)) (leH h2 0) := fz_t (fz_t (fz_t f2 f3) f4) fz_le
  have R := CSR_z (by omega) CB hm FN f6
  have y2 : mh_r (leH h2 0) 2 1 = some (B + 5) := by rw [leH_r (by omega) (by omega)]; exact r21
  have B' := BS_e f5 b y2 R.q
  have g0 : mg h2 0 11 := ⟨((fz_t (fz_t f1 f3) f4).2.1 0 (by omega)).1.trans (b.F.g 0 11 15 (by decide +kernel)).1, by omega⟩
  have k8 : mh_i (leH h2 0) 0 8 = mh_i h2 0 8 := by
    unfold leH nsH
    rw [hi_si, if_neg (by omega), hi_si, if_neg (by omega), hi_si, if_neg (by omega), hi_sr]
    simp only [hi_si, hi_new]
    rw [if_neg (by omega), if_neg (by omega), if_neg (by omega), if_neg (by omega), if_neg (by omega), if_neg (by omega), if_neg (by omega)]
  have k9 : mh_i (leH h2 0) 0 9 = mh_i h2 0 9 := by
    unfold leH nsH
    rw [hi_si, if_neg (by omega), hi_si, if_neg (by omega), hi_si, if_neg (by omega), hi_sr]
    simp only [hi_si, hi_new]
    rw [if_neg (by omega), if_neg (by omega), if_neg (by omega), if_neg (by omega), if_neg (by omega), if_neg (by omega), if_neg (by omega)]
  have cy : cY (leH h2 0) ≤ n := by
    unfold cY
    rw [y2]
    dsimp only
    rw [R.p, nn_clamp (by have := R.b; omega)]
    exact R.b.2.1
  obtain ⟨eq1, eq2⟩ := cN_e f5 hN2 cy
  have s5 := ad.1.2
  have cl := cpL_s (n := n)
  have rb := R.b
  obtain ⟨h', w0, b0, b1, b2, b3, ⟨b4, b5⟩, b6⟩ := end_0 (d := d + 5) (n := n) (sp := sp') (NL := NL) (Pt := Pt) (E0 := E0) (fst' := fst') (oth' := oth') (pa' := Sc.1 5) Pg f5 B' ⟨R.p, by omega⟩ (St := mh_n h2) q1 q2 q3 q4 q5 q6 (by omega) (by omega) (x1 := x1) (x2 := some (.ref B)) (x3 := some (.ref (B + 5))) (x4 := x4) (x5 := some (.int (-1))) (v6 := 2)
  exact ⟨h', w0, b0, b1, b2, b3, ⟨by rw [b4, k8]; exact j8, by rw [b5, k9]; exact j9⟩, fun Q => (run Q).trans (b6 Q)⟩
/-- a program -/
theorem lay_s (Pg : CPg h Y C E TT UU SC SP nC nE nS pa G J J2 cnt fst oth pl) (hB : mh_n h = B) (hn : n ≤ 10300) (CB : CPB h5 B n) (hm : m ≤ n + 1) (FN : FNH P m Sc j) (ad : ADD (cpW B) h h5 B (cpL n)) (f1 : fz eE h h0) (f2 : fz eE (cH h5 B (fiS Sc)) h0) (n0 : mh_n h0 = B + (24 + Sc.1 8) + 1 ∧ mh_s h0 = mh_s h5 + 17 * Sc.1 8 + 17) (s8 : Sc.1 8 ≤ n / 3 + 2) (CL : CLC (enL h0 B) B n m (lyDs sp (Sc.2 15) P T (Sc.1 9)) (fiS Sc)) (FC : ∀ g, g < Sc.1 9 → FCq (lyDs sp (Sc.2 15) P T (Sc.1 9)) K m Sc (fiS Sc) N g) (hc : 0 < Sc.1 9) (hf : ts ((lyDs sp (Sc.2 15) P T (Sc.1 9)).FT (Sc.1 9 - 1)) + rkF (lyDs sp (Sc.2 15) P T (Sc.1 9)) (Sc.1 9 - 1) ≤ f) (W : (lyT (lyDs sp (Sc.2 15) P T (Sc.1 9)) f nP).1.1 = 0) (ee : (lyT (lyDs sp (Sc.2 15) P T (Sc.1 9)) f nP).2 = e) (ly : LYR (lyDs sp (Sc.2 15) P T (Sc.1 9)) Pt f true ((lyDs sp (Sc.2 15) P T (Sc.1 9)).FT (Sc.1 9 - 1)) ((lyDs sp (Sc.2 15) P T (Sc.1 9)).B (Sc.1 9 - 1) + 1) ((lyDs sp (Sc.2 15) P T (Sc.1 9)).B (Sc.1 9 - 1)) ((lyDs sp (Sc.2 15) P T (Sc.1 9)).S (Sc.1 9 - 1)) 0 e [] 0 (lyX0 (lyDs sp (Sc.2 15) P T (Sc.1 9)))) (H : PGH sp NL (lyDs sp (Sc.2 15) P T (Sc.1 9))) (STg : ∀ g, g < (lyDs sp (Sc.2 15) P T (Sc.1 9)).c → ∃ k', stR (lyDs sp (Sc.2 15) P T (Sc.1 9)).sp Sc g N true ((lyDs sp (Sc.2 15) P T (Sc.1 9)).FT g) ((lyDs sp (Sc.2 15) P T (Sc.1 9)).S g) k' ((lyDs sp (Sc.2 15) P T (Sc.1 9)).FP g) ((lyDs sp (Sc.2 15) P T (Sc.1 9)).FP g).length) {x1 x4 : Option Value} : ∃ h' w0, wW w0 = 0 ∧ CPg h' (B + 5) (B + 6) (B + 7) (B + 8) (B + 9) (B + 10) (B + 11) (3 * n + 3) (n + 1) (n + 2) (Sc.1 5) (pgG sp NL Pt (E00 (pD sp NL (lyDs sp (Sc.2 15) P T (Sc.1 9)) FK)) e) (pJ sp NL Pt (E00 (pD sp NL (lyDs sp (Sc.2 15) P T (Sc.1 9)) FK))) (pJ2 sp NL Pt (E00 (pD sp NL (lyDs sp (Sc.2 15) P T (Sc.1 9)) FK))) (e + 1) (fstP Pt e) (othP Pt e) (fun q => if q < e then Int32.ofNat (tP (Pt q).N) else 0) ∧ CAZ h' (pgG sp NL Pt (E00 (pD sp NL (lyDs sp (Sc.2 15) P T (Sc.1 9)) FK)) e) f (e + 1) w0 ∧ CEd h h' n ∧ (mh_i h' 0 8 = mh_i h0 0 8 ∧ mh_i h' 0 9 = mh_i h0 0 9) ∧ (e ≤ 249 ∧ (∀ r, r < e → (∀ x, x < (Pt r).X.nb + cnZl (Pt r).L → mh_i h' 30 (18 * r + x) = Int32.ofNat (P ((Pt r).X.nA (Pt r).L x))) ∧ ∀ x, x < (Pt r).X.na + cnAl (Pt r).L → mh_i h' 30 (18 * r + (12 + x)) = Int32.ofNat (P ((Pt r).X.aA (Pt r).L x))) ∧ mh_r h' 2 0 = some B ∧ (∀ b, b = B ∨ b = B + 1 → mh_k h' b = mh_k h0 b ∧ mh_l h' b = mh_l h0 b ∧ mh_i h' b = mh_i h0 b ∧ mh_r h' b = mh_r h0 b)) ∧ ∀ Q, mw (d + 13) 186 Q 78 [some (.ref 0), x1, some (.ref B), some (.ref (B + 5)), x4, some (.int (-1)), some (.int 0)] [] h0 = Q (some (.int (if 4000 < wW (DB (pgG sp NL Pt (E00 (pD sp NL (lyDs sp (Sc.2 15) P T (Sc.1 9)) FK)) e) f 0 e (some A00) w0).2.1 then 3 else 0))) h' := by
  have b := Pg.B
  have hN2 := b.N
  have F0 := CF_ee f1 hN2 b.F
  have fo : ∀ i j, j ≠ 5 → j ≠ 6 → (fiS Sc).2 (24 + i) j = Sc.2 (24 + i) j := fun i j h5 h6 => fiS_n h5 h6
  obtain ⟨h1, a1, a2, a5⟩ := v_85s (d := d + 9) (h := h0) (nP := nP) (F0.g 2 4 20 (by decide +kernel)) CL FC fo rfl hc hf W ee ly
  have f3 := fz_lx a1
  have run := y_186s (d := d + 12) F0 a5 (x1 := x1) (x4 := x4)
  have n1 : mh_n h1 = mh_n h0 + 1 := a1.1
  have s1 : mh_s h1 = mh_s h0 + 17 := by have := a1.2.1; omega
  have f5 : fz eE h h1 := fz_t f1 f3
  have f6 : fz eE (cH h5 B (fiS Sc)) h1 := fz_t f2 f3
  have R := CSR_z (by omega) CB hm FN f6
  have he : e ≤ 249 := a2.k.2
  have fp0 : ((lyDs sp (Sc.2 15) P T (Sc.1 9)).FP ((lyDs sp (Sc.2 15) P T (Sc.1 9)).c - 1)).length = 0 := by
    by_cases c : ((lyDs sp (Sc.2 15) P T (Sc.1 9)).FP ((lyDs sp (Sc.2 15) P T (Sc.1 9)).c - 1)).length = 0
    · exact c
    · have : lyT (lyDs sp (Sc.2 15) P T (Sc.1 9)) f nP = ((7, nP), 0) := if_neg c
      rw [this] at W
      exact absurd W (by show ¬ (7 : Nat) = 0; decide)
  have PT := PT_top (FK := FK) H hc ly he
  have PO := PTO_of (FK := FK) H hc fp0 ly he STg
  obtain ⟨p1, p2, p3⟩ := IC_of a2 R fo PO
  have y2 : mh_r h1 2 1 = some (B + 5) := a2.c.s.1
  have B' := BS_e f5 b y2 R.q
  obtain ⟨fo1, fo2⟩ := fo_ok PT H (ow_top ly) ly
  have wb := LW_WB (G := pgG sp NL Pt (E00 (pD sp NL (lyDs sp (Sc.2 15) P T (Sc.1 9)) FK)) e) rfl f _ 0 e _ (LW_top (FK := FK) H hc ly he)
  have cy : cY h1 ≤ n := by
    unfold cY
    rw [y2]
    dsimp only
    rw [R.p, nn_clamp (by have := R.b; omega)]
    exact R.b.2.1
  obtain ⟨eq1, eq2⟩ := cN_e f5 hN2 cy
  have s5 := ad.1.2
  have cl := cpL_s (n := n)
  have p' : ∀ q, q < e + 1 → ∀ St, mh_r h1 20 q = some St → mh_i h1 St 2 = (fun q => if q < e then Int32.ofNat (tP (Pt q).N) else 0) q := fun q hq St es => by
    by_cases c : q < e
    · obtain ⟨cp, -⟩ := a2.p q (Nat.zero_le _) c
      have r1 := cp.1
      rw [r1] at es
      cases es
      obtain ⟨-, -, i3⟩ := a2.c.q (Pt q).S (a2.s q c)
      obtain ⟨rec, x1', b', rl, st⟩ := PO.2.2.2.2.2.2.2.2 q c
      show _ = (if q < e then Int32.ofNat (tP (Pt q).N) else 0)
      rw [if_pos c, i3 2, fo _ 2 (by decide) (by decide)]
      exact st.1.2.2.1
    · have eq : q = e := by omega
      subst eq
      obtain ⟨S', u1, -, u3⟩ := a2.e
      rw [u1] at es
      cases es
      show _ = (if q < q then Int32.ofNat (tP (Pt q).N) else 0)
      rw [if_neg (Nat.lt_irrefl _), u3 2]
      rfl
  obtain ⟨h', w0, b0, b1, b2, b3, z, b4, b5⟩ := e_fin (d := d + 5) (n := n) (e := e) (fst' := fstP Pt e) (oth' := othP Pt e) Pg f5 B' p1 p2 p3 (fun p hp => ⟨(a2.l p (by omega)).1, fo1 p (by omega)⟩) (fun p hp kd => ⟨(a2.l p (by omega)).2, fo2 p (by omega) kd⟩) p' rfl wb (by omega) (by omega) (x1 := x1) (x2 := some (.ref B)) (x3 := some (.ref (B + 5))) (x4 := x4) (x5 := some (.int (-1))) (v6 := 0)
  have F1 := a2.c.F
  have g30 := F1.g 30 100 4500 (by decide +kernel)
  have g0 := F1.g 0 11 15 (by decide +kernel)
  have nc : mh_n (cH h5 B (fiS Sc)) = B + (24 + Sc.1 8) := by rw [cH_n, fi_8]
  have kB : mg h1 B 10 := a2.c.t.2.1
  have kX : mg h1 (B + 1) 102 := by
    have e1 := (f6.2.1 (B + 1) (by omega)).1
    have e2 : mh_k (cH h5 B (fiS Sc)) (B + 1) = mh_k h5 (B + 1) := cH_k (by omega)
    have e3 := (CB.k (1, 102, n) (by unfold cpK; simp)).1
    exact ⟨e1.trans (e2.trans e3), by omega⟩
  have z8 : ∀ j, j = 8 ∨ j = 9 → mh_i h1 0 j = mh_i h0 0 j := fun j hj => (a1.2.2.2.1 0 j (by omega) (by unfold cyW; omega)).1
  refine ⟨h', w0, b0, b1, b2, b3, ⟨b4.1.trans (z8 8 (by omega)), b4.2.trans (z8 9 (by omega))⟩, ⟨he, fun r hr => ?_, ?_, fun y hy => ?_⟩, fun Q => (run Q).trans (b5 Q)⟩
  · obtain ⟨cp, -⟩ := a2.p r (Nat.zero_le _) hr
    obtain ⟨-, -, -, -, -, u6, u7, -⟩ := cp
    have ii : ∀ j, mh_i h' 30 j = mh_i h1 30 j := fun j => z.ii 30 100 j g30 (by decide) (by decide) (by unfold eff; omega) (by unfold t8U; omega)
    exact ⟨fun x hx => by rw [ii]; exact u6 x hx, fun x hx => by rw [ii]; exact u7 x hx⟩
  · rw [z.rr 2 4 0 (F1.g 2 4 20 (by decide +kernel)) (by decide) (by decide) (by unfold eff; omega) (by unfold isPl; omega)]
    exact a2.c.t.1
  · have g : ∃ c, mg h1 y c ∧ c ≠ 8 ∧ c ≠ 101 := by
      rcases hy with e | e <;> subst e
      · exact ⟨10, kB, by decide, by decide⟩
      · exact ⟨102, kX, by decide, by decide⟩
    obtain ⟨c, g, g8, g1⟩ := g
    have hy2 : 2644 ≤ y ∧ y < mh_n h0 := by omega
    obtain ⟨k1, k2⟩ := z.kk y g.2
    obtain ⟨k3, k4⟩ := a1.2.2.1 y hy2.2
    exact ⟨k1.trans k3, k2.trans k4, funext fun j => (z.ii y c j g g8 g1 (by unfold eff; omega) (by unfold t8U; omega)).trans (a1.2.2.2.1 y j hy2.2 (by unfold cyW; omega)).1, funext fun j => (z.rr y c j g g8 g1 (by unfold eff; omega) (by unfold isPl; omega)).trans (a1.2.2.2.2 y j hy2.2 (by omega) (by omega))⟩
end CFs2
