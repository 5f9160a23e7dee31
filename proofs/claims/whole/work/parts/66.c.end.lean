set_option maxRecDepth 100000
/-! end, on both sides -/
section EOs
variable {R : Nat → Prop} {k : Nat} {h : mh_H} {fd : Nat × (Nat → Int32)} {td : Bool × Int32 × Int32 × Int32} {g : pgz} {cl : Nat → Option ab} {ip : Nat × (Nat → Int32)} {rz : rnz} {T : List Int32} {n N j : Nat} {Bt : Nat → Int32} {T0 : tr}
def ptN : Nat → lpt := fun _ => (0, .leaf (), [], (0, 0, 0, none, none, fun _ => 0, fun _ => 0, fun _ => 0), 0, 0, 0, 0, 0, 0)
def evN : nv := (0, fun _ => False, fun _ => 0, 0, 0, fun _ => 0, 0, none)
/-- a fault in the text -/
theorem s_endF (I : INV R k h fd td g cl ip rz T) (hk : k < 512) (hx : n ≤ fd.1) (eB : Bt = fd.2) (hN : 8 * (toks Bt n).length + 6 ≤ N + 1) (ep : pgZ (tkK (toks Bt n)) (tkPl (toks Bt n)) (fun i => nvl Bt (n - tkPl (toks Bt n) i) (tkPl (toks Bt n) i) 0) (N + 1) (toks Bt n).length 0 = (j, none)) : NXT k h 186 331 [.ref 0, .int (Int32.ofNat n)] [.ref 81, .int (Int32.ofNat n)] := by
  obtain ⟨Y, C, E, TT, UU, SC, SP, nC, nE, nS, pa, P⟩ := I.C.P
  have hn := P.B.N
  have hF := I.F
  have wf := I.w.f
  have hv : ∀ i, i < n → ∃ m, m < 256 ∧ Bt i = Int32.ofNat m := fun i hi => by rw [eB]; exact wf.2 i (by omega)
  obtain ⟨h1, w0, hw, P1, A1, ce, tc, run1⟩ := end_cF (d := 2033) (Bt := Bt) P rfl I.S.m I.C.f.1 hx wf.1 (by omega) (fun i hi => by rw [eB]; exact I.C.f.2 i (by omega)) hv hN ep (sp := fun _ _ => false) (NL := []) (Pt := ptN) (E0 := evN) (fst' := fun _ => 0) (oth' := fun _ => 0)
  obtain ⟨D1, sk⟩ := sd_c I.S (ar_0 (fun v hv o e => by subst e; simp at hv)) run1 hn
  have IR1 := IRf_x I.S sk I.R
  obtain ⟨ap1, Pr1⟩ := IR1.P
  obtain ⟨h2, B2, N2, re, ⟨t47, t48, t49⟩, run2⟩ := end_rF (N := N + 1) Pr1.b IR1.f.1 hx wf.1 (by omega) (fun i hi => by rw [eB]; exact IR1.f.2 i (by omega)) hv hN ep
  obtain ⟨D2, sk2⟩ := sd_r D1 (ar_81 (fun v hv o e => by subst e; simp at hv)) run2 (Nat.le_trans hn sk.1)
  exact ⟨_, h1, h2, _, _, _, _, _, ip, _, T, run1, run2, END_N I hx D1 sk D2 sk2 ce re P1 hw A1 tc B2 N2 (Or.inl t49) ⟨t47, t48⟩⟩
/-- a program, or what is wrong with it -/
theorem s_endP (I : INV R k h fd td g cl ip rz T) (hk : k < 512) (hx : n ≤ fd.1) (eB : Bt = fd.2) (hN : 8 * (toks Bt n).length + 6 ≤ N + 1) (ep : pgZ (tkK (toks Bt n)) (tkPl (toks Bt n)) (fun i => nvl Bt (n - tkPl (toks Bt n) i) (tkPl (toks Bt n) i) 0) (N + 1) (toks Bt n).length 0 = (j, some T0)) : NXT k h 186 331 [.ref 0, .int (Int32.ofNat n)] [.ref 81, .int (Int32.ofNat n)] := by
  obtain ⟨Y, C, E, TT, UU, SC, SP, nC, nE, nS, pa, P⟩ := I.C.P
  have hn := P.B.N
  have hF := I.F
  have wf := I.w.f
  have hn3 : n ≤ 10300 := by omega
  have hv : ∀ i, i < n → ∃ m, m < 256 ∧ Bt i = Int32.ofNat m := fun i hi => by rw [eB]; exact wf.2 i (by omega)
  obtain ⟨Sc, h5, h0, ⟨Z, hc, s8⟩, CB, FN, ad, f1, f2, n0, CL, FC, ⟨z8, z9⟩, tb, run0⟩ := end_cP (d := 2033) (Bt := Bt) P rfl I.S.m I.C.f.1 hx wf.1 hn3 (fun i hi => by rw [eB]; exact I.C.f.2 i (by omega)) hv hN ep
  have tl := toks_len (Bt := Bt) (n := n)
  obtain ⟨g1, g2, g3, g4⟩ := TX_of (f := (toks Bt n).length) hn3 ep
  have h8 : Sc.1 8 < 20000 := by omega
  have c9 : 9 * Sc.1 9 ≤ n := Nat.le_trans FN.F (tkPl_n _)
  have ST := ST_all Z g1 h8
  have hz : ∀ i, tkK (toks Bt n) i = 2 → i < (toks Bt n).length := fun i k2 => tk_2 i k2
  by_cases W : (lyT (lyDs (spe Bt n (tkPl (toks Bt n)) (tkWd (toks Bt n))) (Sc.2 15) (tkPl (toks Bt n)) T0 (Sc.1 9)) (ts ((lyDs (spe Bt n (tkPl (toks Bt n)) (tkWd (toks Bt n))) (Sc.2 15) (tkPl (toks Bt n)) T0 (Sc.1 9)).FT (Sc.1 9 - 1)) + rkF (lyDs (spe Bt n (tkPl (toks Bt n)) (tkWd (toks Bt n))) (Sc.2 15) (tkPl (toks Bt n)) T0 (Sc.1 9)) (Sc.1 9 - 1)) (tkPl (toks Bt n) (Sc.2 15 (6 * (Sc.1 9 - 1))).toNatClampNeg)).1.1 = 0
  · have fp0 : ((lyDs (spe Bt n (tkPl (toks Bt n)) (tkWd (toks Bt n))) (Sc.2 15) (tkPl (toks Bt n)) T0 (Sc.1 9)).FP (Sc.1 9 - 1)).length = 0 := by
      by_cases c : ((lyDs (spe Bt n (tkPl (toks Bt n)) (tkWd (toks Bt n))) (Sc.2 15) (tkPl (toks Bt n)) T0 (Sc.1 9)).FP (Sc.1 9 - 1)).length = 0
      · exact c
      · have : lyT (lyDs (spe Bt n (tkPl (toks Bt n)) (tkWd (toks Bt n))) (Sc.2 15) (tkPl (toks Bt n)) T0 (Sc.1 9)) (ts ((lyDs (spe Bt n (tkPl (toks Bt n)) (tkWd (toks Bt n))) (Sc.2 15) (tkPl (toks Bt n)) T0 (Sc.1 9)).FT (Sc.1 9 - 1)) + rkF (lyDs (spe Bt n (tkPl (toks Bt n)) (tkWd (toks Bt n))) (Sc.2 15) (tkPl (toks Bt n)) T0 (Sc.1 9)) (Sc.1 9 - 1)) (tkPl (toks Bt n) (Sc.2 15 (6 * (Sc.1 9 - 1))).toNatClampNeg) = ((7, (tkPl (toks Bt n) (Sc.2 15 (6 * (Sc.1 9 - 1))).toNatClampNeg)), 0) := if_neg c
        rw [this] at W
        exact absurd W (by show ¬ (7 : Nat) = 0; decide)
    have lyE : lyT (lyDs (spe Bt n (tkPl (toks Bt n)) (tkWd (toks Bt n))) (Sc.2 15) (tkPl (toks Bt n)) T0 (Sc.1 9)) (ts ((lyDs (spe Bt n (tkPl (toks Bt n)) (tkWd (toks Bt n))) (Sc.2 15) (tkPl (toks Bt n)) T0 (Sc.1 9)).FT (Sc.1 9 - 1)) + rkF (lyDs (spe Bt n (tkPl (toks Bt n)) (tkWd (toks Bt n))) (Sc.2 15) (tkPl (toks Bt n)) T0 (Sc.1 9)) (Sc.1 9 - 1)) (tkPl (toks Bt n) (Sc.2 15 (6 * (Sc.1 9 - 1))).toNatClampNeg) = lyQ (lyDs (spe Bt n (tkPl (toks Bt n)) (tkWd (toks Bt n))) (Sc.2 15) (tkPl (toks Bt n)) T0 (Sc.1 9)) (ts ((lyDs (spe Bt n (tkPl (toks Bt n)) (tkWd (toks Bt n))) (Sc.2 15) (tkPl (toks Bt n)) T0 (Sc.1 9)).FT (Sc.1 9 - 1)) + rkF (lyDs (spe Bt n (tkPl (toks Bt n)) (tkWd (toks Bt n))) (Sc.2 15) (tkPl (toks Bt n)) T0 (Sc.1 9)) (Sc.1 9 - 1)) true ((lyDs (spe Bt n (tkPl (toks Bt n)) (tkWd (toks Bt n))) (Sc.2 15) (tkPl (toks Bt n)) T0 (Sc.1 9)).FT (Sc.1 9 - 1)) 0 [] 0 (lyX0 (lyDs (spe Bt n (tkPl (toks Bt n)) (tkWd (toks Bt n))) (Sc.2 15) (tkPl (toks Bt n)) T0 (Sc.1 9))) := if_pos fp0
    have fpn : (lyDs (spe Bt n (tkPl (toks Bt n)) (tkWd (toks Bt n))) (Sc.2 15) (tkPl (toks Bt n)) T0 (Sc.1 9)).FP (Sc.1 9 - 1) = [] := List.eq_nil_of_length_eq_zero fp0
    obtain ⟨k', st⟩ := ST (Sc.1 9 - 1) (by show Sc.1 9 - 1 < Sc.1 9; omega)
    rw [fpn] at st
    obtain ⟨-, he, Pt, ly⟩ := LY_ex (D := (lyDs (spe Bt n (tkPl (toks Bt n)) (tkWd (toks Bt n))) (Sc.2 15) (tkPl (toks Bt n)) T0 (Sc.1 9))) rfl rfl ST (ts ((lyDs (spe Bt n (tkPl (toks Bt n)) (tkWd (toks Bt n))) (Sc.2 15) (tkPl (toks Bt n)) T0 (Sc.1 9)).FT (Sc.1 9 - 1)) + rkF (lyDs (spe Bt n (tkPl (toks Bt n)) (tkWd (toks Bt n))) (Sc.2 15) (tkPl (toks Bt n)) T0 (Sc.1 9)) (Sc.1 9 - 1)) true ((lyDs (spe Bt n (tkPl (toks Bt n)) (tkWd (toks Bt n))) (Sc.2 15) (tkPl (toks Bt n)) T0 (Sc.1 9)).FT (Sc.1 9 - 1)) 0 [] 0 (lyX0 (lyDs (spe Bt n (tkPl (toks Bt n)) (tkWd (toks Bt n))) (Sc.2 15) (tkPl (toks Bt n)) T0 (Sc.1 9))) N ((lyDs (spe Bt n (tkPl (toks Bt n)) (tkWd (toks Bt n))) (Sc.2 15) (tkPl (toks Bt n)) T0 (Sc.1 9)).S (Sc.1 9 - 1)) k' ((lyDs (spe Bt n (tkPl (toks Bt n)) (tkWd (toks Bt n))) (Sc.2 15) (tkPl (toks Bt n)) T0 (Sc.1 9)).B (Sc.1 9 - 1) + 1) ((lyDs (spe Bt n (tkPl (toks Bt n)) (tkWd (toks Bt n))) (Sc.2 15) (tkPl (toks Bt n)) T0 (Sc.1 9)).B (Sc.1 9 - 1)) st (by show Sc.1 9 - 1 < Sc.1 9; omega) (Nat.le_refl _) (by omega) (by rw [← lyE]; exact W)
    obtain ⟨e, ee⟩ : ∃ e, (lyQ (lyDs (spe Bt n (tkPl (toks Bt n)) (tkWd (toks Bt n))) (Sc.2 15) (tkPl (toks Bt n)) T0 (Sc.1 9)) (ts ((lyDs (spe Bt n (tkPl (toks Bt n)) (tkWd (toks Bt n))) (Sc.2 15) (tkPl (toks Bt n)) T0 (Sc.1 9)).FT (Sc.1 9 - 1)) + rkF (lyDs (spe Bt n (tkPl (toks Bt n)) (tkWd (toks Bt n))) (Sc.2 15) (tkPl (toks Bt n)) T0 (Sc.1 9)) (Sc.1 9 - 1)) true ((lyDs (spe Bt n (tkPl (toks Bt n)) (tkWd (toks Bt n))) (Sc.2 15) (tkPl (toks Bt n)) T0 (Sc.1 9)).FT (Sc.1 9 - 1)) 0 [] 0 (lyX0 (lyDs (spe Bt n (tkPl (toks Bt n)) (tkWd (toks Bt n))) (Sc.2 15) (tkPl (toks Bt n)) T0 (Sc.1 9)))).2 = e := ⟨_, rfl⟩
    rw [ee] at ly he
    have ee' : (lyT (lyDs (spe Bt n (tkPl (toks Bt n)) (tkWd (toks Bt n))) (Sc.2 15) (tkPl (toks Bt n)) T0 (Sc.1 9)) (ts ((lyDs (spe Bt n (tkPl (toks Bt n)) (tkWd (toks Bt n))) (Sc.2 15) (tkPl (toks Bt n)) T0 (Sc.1 9)).FT (Sc.1 9 - 1)) + rkF (lyDs (spe Bt n (tkPl (toks Bt n)) (tkWd (toks Bt n))) (Sc.2 15) (tkPl (toks Bt n)) T0 (Sc.1 9)) (Sc.1 9 - 1)) (tkPl (toks Bt n) (Sc.2 15 (6 * (Sc.1 9 - 1))).toNatClampNeg)).2 = e := by rw [lyE]; exact ee
    have H0 := PGH_of (m := (toks Bt n).length) rfl Z g1 g3 (kn_range (fun a => spe_r) _ g2) (by omega) hz (by omega)
    obtain ⟨h1, w1, -, -, -, -, -, -, run1⟩ := lay_s (d := 2033) (FK := poZ T0 1) P rfl hn3 CB tl FN ad f1 f2 n0 s8 CL FC hc (Nat.le_refl _) W ee' ly H0 ST
    have runA := fun Q => (run0 Q).trans (run1 Q)
    obtain ⟨D1, sk⟩ := sd_c I.S (ar_0 (fun v hv o e => by subst e; simp at hv)) runA hn
    have IR1 := IRf_x I.S sk I.R
    obtain ⟨ap1, Pr1⟩ := IR1.P
    obtain ⟨h2, NL, w2, kn, tcs, hw2, Pr2, re, ⟨t47, t48, t49, t115⟩, run2⟩ := end_rS Pr1.b IR1.f.1 hx wf.1 hn3 (fun i hi => by rw [eB]; exact IR1.f.2 i (by omega)) hv hN ep Z hc c9 h8 (Nat.le_refl _) W ee' he ly
    obtain ⟨D2, sk2⟩ := sd_r D1 (ar_81 (fun v hv o e => by subst e; simp at hv)) run2 (Nat.le_trans hn sk.1)
    have H := PGH_of (m := (toks Bt n).length) rfl Z g1 g3 kn (by omega) hz (by omega)
    obtain ⟨h3, w3, hw3, P3, A3, ce, tc, ⟨-, rows, r2, keep⟩, run3⟩ := lay_s (d := 2033) (FK := poZ T0 1) P rfl hn3 CB tl FN ad f1 f2 n0 s8 CL FC hc (Nat.le_refl _) W ee' ly H ST
    have runB := fun Q => (run0 Q).trans (run3 Q)
    have eh : h3 = h1 := cal_u runB runA
    rw [eh] at P3 A3 ce tc rows r2 keep runB
    have PT := PT_top (FK := poZ T0 1) H hc ly he
    have wb := LW_WB (G := pgG (spe Bt n (tkPl (toks Bt n)) (tkWd (toks Bt n))) NL Pt (E00 (pD (spe Bt n (tkPl (toks Bt n)) (tkWd (toks Bt n))) NL (lyDs (spe Bt n (tkPl (toks Bt n)) (tkWd (toks Bt n))) (Sc.2 15) (tkPl (toks Bt n)) T0 (Sc.1 9)) (poZ T0 1))) e) rfl (ts ((lyDs (spe Bt n (tkPl (toks Bt n)) (tkWd (toks Bt n))) (Sc.2 15) (tkPl (toks Bt n)) T0 (Sc.1 9)).FT (Sc.1 9 - 1)) + rkF (lyDs (spe Bt n (tkPl (toks Bt n)) (tkWd (toks Bt n))) (Sc.2 15) (tkPl (toks Bt n)) T0 (Sc.1 9)) (Sc.1 9 - 1)) _ 0 e _ (LW_top (FK := poZ T0 1) H hc ly he)
    obtain ⟨kf, wq⟩ := KF_u (s := some A00) (w := w3) (w' := w2) wb (by rw [hw3, hw2])
    have OM := OM_top (OM_txt Z g1 g2 H) PT hc ly
    have U' := PUR_y (w0 := w2) (nm := (fun q x => nmX Bt n (tkPl (toks Bt n) ((Pt q).X.nA (Pt q).L x)))) (am := (fun q x => nmX Bt n (tkPl (toks Bt n) ((Pt q).X.aA (Pt q).L x)))) H hc ly he tcs P3.I OM
    have N1 : CNm h1 (gYe (spe Bt n (tkPl (toks Bt n)) (tkWd (toks Bt n))) NL Pt (E00 (pD (spe Bt n (tkPl (toks Bt n)) (tkWd (toks Bt n))) NL (lyDs (spe Bt n (tkPl (toks Bt n)) (tkWd (toks Bt n))) (Sc.2 15) (tkPl (toks Bt n)) T0 (Sc.1 9)) (poZ T0 1))) e (ts ((lyDs (spe Bt n (tkPl (toks Bt n)) (tkWd (toks Bt n))) (Sc.2 15) (tkPl (toks Bt n)) T0 (Sc.1 9)).FT (Sc.1 9 - 1)) + rkF (lyDs (spe Bt n (tkPl (toks Bt n)) (tkWd (toks Bt n))) (Sc.2 15) (tkPl (toks Bt n)) T0 (Sc.1 9)) (Sc.1 9 - 1)) w2 (fun q x => nmX Bt n (tkPl (toks Bt n) ((Pt q).X.nA (Pt q).L x))) (fun q x => nmX Bt n (tkPl (toks Bt n) ((Pt q).X.aA (Pt q).L x)))) := by
      obtain ⟨s0, l, L⟩ := I.C.l
      have ls := L.g.2
      have b5 := P3.B.q.gY.2
      refine ⟨mh_n h, mh_n h + 1, n, Bt, fun q x => tkPl (toks Bt n) ((Pt q).X.nA (Pt q).L x), fun q x => tkPl (toks Bt n) ((Pt q).X.aA (Pt q).L x), fun p hp h0' => ⟨r2, ?_, ⟨hn, by omega⟩, fun s e1 => ?_⟩, fun p x hp hx' => ?_, fun p x hp hx' => ?_⟩
      · obtain ⟨k1, l1, i1, r1⟩ := keep (mh_n h) (Or.inl rfl)
        obtain ⟨k2, l2, i2, -⟩ := keep (mh_n h + 1) (Or.inr rfl)
        exact ⟨⟨k1.trans tb.g.1, by omega⟩, by rw [r1]; exact tb.r, k2.trans tb.k, by omega, l2.trans tb.l, tb.n, by rw [i2]; exact tb.b, tb.2.2.2.2.2.2.2⟩
      · rw [ce.r, L.r] at e1
        cases e1
        exact ⟨by omega, by omega⟩
      · have hp1 : p < e + 1 := hp
        by_cases c : p < e
        · have hx2 : x < (if p < e then (Pt p).X.nb + cnZl (Pt p).L else 0) := hx'
          rw [if_pos c] at hx2
          exact ⟨(rows p c).1 x hx2, tkPl_n _, (nm_X (OM_n (OM p c) hx2).1).2, rfl⟩
        · have hx2 : x < (if p < e then (Pt p).X.nb + cnZl (Pt p).L else 0) := hx'
          rw [if_neg c] at hx2
          exact absurd hx2 (Nat.not_lt_zero _)
      · have hp1 : p < e + 1 := hp
        by_cases c : p < e
        · have hx2 : x < (if p < e then (Pt p).X.na + cnAl (Pt p).L else 0) := hx'
          rw [if_pos c] at hx2
          exact ⟨(rows p c).2 x hx2, tkPl_n _, (nm_X (OM_a (OM p c) hx2).1.1).2, rfl⟩
        · have hx2 : x < (if p < e then (Pt p).X.na + cnAl (Pt p).L else 0) := hx'
          rw [if_neg c] at hx2
          exact absurd hx2 (Nat.not_lt_zero _)
    have hq1 : ∀ q, q < (gYe (spe Bt n (tkPl (toks Bt n)) (tkWd (toks Bt n))) NL Pt (E00 (pD (spe Bt n (tkPl (toks Bt n)) (tkWd (toks Bt n))) NL (lyDs (spe Bt n (tkPl (toks Bt n)) (tkWd (toks Bt n))) (Sc.2 15) (tkPl (toks Bt n)) T0 (Sc.1 9)) (poZ T0 1))) e (ts ((lyDs (spe Bt n (tkPl (toks Bt n)) (tkWd (toks Bt n))) (Sc.2 15) (tkPl (toks Bt n)) T0 (Sc.1 9)).FT (Sc.1 9 - 1)) + rkF (lyDs (spe Bt n (tkPl (toks Bt n)) (tkWd (toks Bt n))) (Sc.2 15) (tkPl (toks Bt n)) T0 (Sc.1 9)) (Sc.1 9 - 1)) w2 (fun q x => nmX Bt n (tkPl (toks Bt n) ((Pt q).X.nA (Pt q).L x))) (fun q x => nmX Bt n (tkPl (toks Bt n) ((Pt q).X.aA (Pt q).L x)))).c → q ≤ e := fun q hq => by
      have hq' : q < e + 1 := hq
      omega
    have Am : mh_i h1 53 3 = kb (decide (4000 < wW (DB (pgG (spe Bt n (tkPl (toks Bt n)) (tkWd (toks Bt n))) NL Pt (E00 (pD (spe Bt n (tkPl (toks Bt n)) (tkWd (toks Bt n))) NL (lyDs (spe Bt n (tkPl (toks Bt n)) (tkWd (toks Bt n))) (Sc.2 15) (tkPl (toks Bt n)) T0 (Sc.1 9)) (poZ T0 1))) e) (ts ((lyDs (spe Bt n (tkPl (toks Bt n)) (tkWd (toks Bt n))) (Sc.2 15) (tkPl (toks Bt n)) T0 (Sc.1 9)).FT (Sc.1 9 - 1)) + rkF (lyDs (spe Bt n (tkPl (toks Bt n)) (tkWd (toks Bt n))) (Sc.2 15) (tkPl (toks Bt n)) T0 (Sc.1 9)) (Sc.1 9 - 1)) 0 e (some A00) w2).2.1)) := by
      have := A3.m
      rw [show e + 1 - 1 = e from rfl, wq] at this
      exact this
    have Aw : mh_i h1 53 2 = (if 4000 < wW (DB (pgG (spe Bt n (tkPl (toks Bt n)) (tkWd (toks Bt n))) NL Pt (E00 (pD (spe Bt n (tkPl (toks Bt n)) (tkWd (toks Bt n))) NL (lyDs (spe Bt n (tkPl (toks Bt n)) (tkWd (toks Bt n))) (Sc.2 15) (tkPl (toks Bt n)) T0 (Sc.1 9)) (poZ T0 1))) e) (ts ((lyDs (spe Bt n (tkPl (toks Bt n)) (tkWd (toks Bt n))) (Sc.2 15) (tkPl (toks Bt n)) T0 (Sc.1 9)).FT (Sc.1 9 - 1)) + rkF (lyDs (spe Bt n (tkPl (toks Bt n)) (tkWd (toks Bt n))) (Sc.2 15) (tkPl (toks Bt n)) T0 (Sc.1 9)) (Sc.1 9 - 1)) 0 e (some A00) w2).2.1 then 0 else Int32.ofNat (wW (DB (pgG (spe Bt n (tkPl (toks Bt n)) (tkWd (toks Bt n))) NL Pt (E00 (pD (spe Bt n (tkPl (toks Bt n)) (tkWd (toks Bt n))) NL (lyDs (spe Bt n (tkPl (toks Bt n)) (tkWd (toks Bt n))) (Sc.2 15) (tkPl (toks Bt n)) T0 (Sc.1 9)) (poZ T0 1))) e) (ts ((lyDs (spe Bt n (tkPl (toks Bt n)) (tkWd (toks Bt n))) (Sc.2 15) (tkPl (toks Bt n)) T0 (Sc.1 9)).FT (Sc.1 9 - 1)) + rkF (lyDs (spe Bt n (tkPl (toks Bt n)) (tkWd (toks Bt n))) (Sc.2 15) (tkPl (toks Bt n)) T0 (Sc.1 9)) (Sc.1 9 - 1)) 0 e (some A00) w2).2.1)) := by
      have := A3.w
      rw [show e + 1 - 1 = e from rfl, wq] at this
      exact this
    rw [wq] at runB
    refine ⟨_, h1, h2, _, _, _, gYe (spe Bt n (tkPl (toks Bt n)) (tkWd (toks Bt n))) NL Pt (E00 (pD (spe Bt n (tkPl (toks Bt n)) (tkWd (toks Bt n))) NL (lyDs (spe Bt n (tkPl (toks Bt n)) (tkWd (toks Bt n))) (Sc.2 15) (tkPl (toks Bt n)) T0 (Sc.1 9)) (poZ T0 1))) e (ts ((lyDs (spe Bt n (tkPl (toks Bt n)) (tkWd (toks Bt n))) (Sc.2 15) (tkPl (toks Bt n)) T0 (Sc.1 9)).FT (Sc.1 9 - 1)) + rkF (lyDs (spe Bt n (tkPl (toks Bt n)) (tkWd (toks Bt n))) (Sc.2 15) (tkPl (toks Bt n)) T0 (Sc.1 9)) (Sc.1 9 - 1)) w2 (fun q x => nmX Bt n (tkPl (toks Bt n) ((Pt q).X.nA (Pt q).L x))) (fun q x => nmX Bt n (tkPl (toks Bt n) ((Pt q).X.aA (Pt q).L x))), _, ip, _, T, runB, run2, END_i I hx D1 sk D2 sk2 ce re U' ⟨_, _, _, _, _, _, _, _, _, _, _, P3⟩ (fun q hq => Eq.mp (congrArg (pv h1 54 q) (kf q (hq1 q hq)).1) (A3.k q hq)) (fun q hq => Eq.mp (congrArg (pv h1 73 q) (kf q (hq1 q hq)).1) (A3.c q hq)) (fun q hq => (A3.a q hq).trans (kf q (hq1 q hq)).2) Am ⟨tc.1.trans z8, tc.2.trans z9, Aw⟩ N1 ⟨_, Pr2⟩ ⟨?_, t47, t48, ?_⟩⟩
    · rw [t49]
      split <;> exact eq_false (by decide)
    · rw [t49, t115]
      by_cases c : 4000 < wW (DB (pgG (spe Bt n (tkPl (toks Bt n)) (tkWd (toks Bt n))) NL Pt (E00 (pD (spe Bt n (tkPl (toks Bt n)) (tkWd (toks Bt n))) NL (lyDs (spe Bt n (tkPl (toks Bt n)) (tkWd (toks Bt n))) (Sc.2 15) (tkPl (toks Bt n)) T0 (Sc.1 9)) (poZ T0 1))) e) (ts ((lyDs (spe Bt n (tkPl (toks Bt n)) (tkWd (toks Bt n))) (Sc.2 15) (tkPl (toks Bt n)) T0 (Sc.1 9)).FT (Sc.1 9 - 1)) + rkF (lyDs (spe Bt n (tkPl (toks Bt n)) (tkWd (toks Bt n))) (Sc.2 15) (tkPl (toks Bt n)) T0 (Sc.1 9)) (Sc.1 9 - 1)) 0 e (some A00) w2).2.1
      · rw [if_pos c, if_pos c, if_neg (by decide)]
      · rw [if_neg c, if_neg c, if_pos rfl]
  · obtain ⟨h1, w0, hw, P1, A1, ce, tc, run1⟩ := lay_w (d := 2033) P rfl hn3 CB tl FN ad f1 f2 n0 s8 CL FC hc rfl (Nat.le_refl _) W (sp' := fun _ _ => false) (NL := []) (Pt := ptN) (E0 := evN) (fst' := fun _ => 0) (oth' := fun _ => 0)
    have runA := fun Q => (run0 Q).trans (run1 Q)
    obtain ⟨D1, sk⟩ := sd_c I.S (ar_0 (fun v hv o e => by subst e; simp at hv)) runA hn
    have IR1 := IRf_x I.S sk I.R
    obtain ⟨ap1, Pr1⟩ := IR1.P
    obtain ⟨h2, B2, N2, re, ⟨t47, t48, t49⟩, run2⟩ := end_rW Pr1.b IR1.f.1 hx wf.1 hn3 (fun i hi => by rw [eB]; exact IR1.f.2 i (by omega)) hv hN ep Z hc h8 (Nat.le_refl _) W
    obtain ⟨D2, sk2⟩ := sd_r D1 (ar_81 (fun v hv o e => by subst e; simp at hv)) run2 (Nat.le_trans hn sk.1)
    exact ⟨_, h1, h2, _, _, _, _, _, ip, _, T, runA, run2, END_N I hx D1 sk D2 sk2 ce re P1 hw A1 tc B2 N2 (Or.inr t49) ⟨t47, t48⟩⟩
theorem s_end (I : INV R k h fd td g cl ip rz T) (hk : k < 512) (x : Int32) : NXT k h 186 331 [.ref 0, .int x] [.ref 81, .int x] := by
  obtain ⟨Y, C, E, TT, UU, SC, SP, nC, nE, nS, pa, P⟩ := I.C.P
  obtain ⟨ap, Pr⟩ := I.R.P
  have wf := I.w.f
  by_cases c : x < 0 ∨ ¬ x ≤ Int32.ofNat fd.1
  · exact NXT_r I ⟨_, v_186n (d := 2046) P.B.F I.C.f.1 c, u_331n (d := 2046) Pr.b.Y.F I.R.f.1 c⟩
  · obtain ⟨n, hn, en⟩ := i_le (by omega) c
    subst en
    rcases ep : pgZ (tkK (toks fd.2 n)) (tkPl (toks fd.2 n)) (fun i => nvl fd.2 (n - tkPl (toks fd.2 n) i) (tkPl (toks fd.2 n) i) 0) (8 * (toks fd.2 n).length + 5 + 1) (toks fd.2 n).length 0 with ⟨j, _ | T0⟩
    · exact s_endF I hk hn rfl (Nat.le_refl _) ep
    · exact s_endP I hk hn rfl (Nat.le_refl _) ep
end EOs
