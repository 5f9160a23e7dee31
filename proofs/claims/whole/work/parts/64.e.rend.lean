set_option maxRecDepth 100000
/-! the reference's end: a program -/
section RTs
variable {h : mh_H} {n N j f e : Nat} {Bt : Nat → Int32} {T : tr} {Sc : cps} {Pt : Nat → lpt}
theorem nmK_and {P Q : Nat → Prop} : ∀ t, nmK P t → nmK Q t → nmK (fun a => P a ∧ Q a) t := by
  intro t
  induction t with
  | leaf _ => exact fun _ _ => trivial
  | branch a cs r ih1 ih2 => exact fun x y => ⟨fun k => ⟨x.1 k, y.1 k⟩, ih1 x.2.1 y.2.1, ih2 x.2.2 y.2.2⟩
theorem tv_nmK {K : Nat → Int32} {m : Nat} : ∀ t, tvT K m t → nmK (fun a => K a = 2) t := by
  intro t
  induction t with
  | leaf _ => exact fun _ => trivial
  | branch a cs r ih1 ih2 =>
    intro w
    refine ⟨fun k => ?_, ih1 w.2.1, ih2 w.2.2⟩
    obtain ⟨⟨x, -, x2, x3⟩, -⟩ := w.1.1 k
    rw [x2, Int.toNat_natCast]
    exact x3
/-- tokens of all slots are NAMEs that are known -/
theorem OM_txt {NL : List Nat} (Z : fnZ (spe Bt n (tkPl (toks Bt n)) (tkWd (toks Bt n))) Sc N T 0 0 (Sc.1 9) (Sc.1 8)) (G : fgZ (tkK (toks Bt n)) (tkPl (toks Bt n)) T) (tv : tvT (tkK (toks Bt n)) (toks Bt n).length T) (H : PGH (spe Bt n (tkPl (toks Bt n)) (tkWd (toks Bt n))) NL (lyDs (spe Bt n (tkPl (toks Bt n)) (tkWd (toks Bt n))) (Sc.2 15) (tkPl (toks Bt n)) T (Sc.1 9))) : ∀ g, g < (lyDs (spe Bt n (tkPl (toks Bt n)) (tkWd (toks Bt n))) (Sc.2 15) (tkPl (toks Bt n)) T (Sc.1 9)).c → nmK (fun a => tkK (toks Bt n) a = 2 ∧ nix (spe Bt n (tkPl (toks Bt n)) (tkWd (toks Bt n))) NL a < NL.length) ((lyDs (spe Bt n (tkPl (toks Bt n)) (tkWd (toks Bt n))) (Sc.2 15) (tkPl (toks Bt n)) T (Sc.1 9)).FT g) ∧ ∀ a z, (a, z) ∈ (lyDs (spe Bt n (tkPl (toks Bt n)) (tkWd (toks Bt n))) (Sc.2 15) (tkPl (toks Bt n)) T (Sc.1 9)).FP g → (tkK (toks Bt n) a = 2 ∧ nix (spe Bt n (tkPl (toks Bt n)) (tkWd (toks Bt n))) NL a < NL.length) ∧ z ≤ 64 := fun g hg => by
  obtain ⟨⟨-, -, h3, -⟩, h5, -⟩ := H.f g hg
  obtain ⟨-, xs, ys, w⟩ := PF_all Z G
  obtain ⟨-, i, F⟩ := w g hg
  have tvb : tvT (tkK (toks Bt n)) (toks Bt n).length (blX (tT (fnA T g))) := sub_bl (Φ := tvT (tkK (toks Bt n)) (toks Bt n).length) (fun _ => trivial) (fun n cs r w => ⟨w.2.1, w.2.2⟩) T tv g
  exact ⟨nmK_and _ (tv_nmK _ tvb) h3, fun a z q => ⟨⟨(F.m a z q).1, (h5 a z q).1⟩, (h5 a z q).2⟩⟩
theorem sp_350 {sp : Nat → Nat → Bool} {NL : List Nat} {D : lyD} {E0 : nv} (PT : ∀ q, q < e → PTp sp NL Pt E0 D q) : ∀ p, p < e → (pgG sp NL Pt E0 e).sp p ≤ 350 := fun p hp => by
  show (if tK (Pt p).N = 8 ∨ tK (Pt p).N = 9 then cn3 (rn sp NL (Pt p).C) else if tK (Pt p).N = 10 then 2 + cn3 (rn sp NL (Pt p).C) else 1) ≤ 350
  rw [cn_rn]
  rcases (PT p hp).k with ⟨k, -⟩ | ⟨k, -⟩ | ⟨k, -⟩ | ⟨k, -⟩ | ⟨k, -⟩ | ⟨k, c, cc, q, -, g, -⟩ | ⟨k, c, cc, -, g, -⟩ | ⟨k, -⟩
  · rw [if_neg (by omega), if_neg (by omega)]; decide
  · rw [if_neg (by omega), if_neg (by omega)]; decide
  · rw [if_neg (by omega), if_neg (by omega)]; decide
  · rw [if_neg (by omega), if_neg (by omega)]; decide
  · rw [if_neg (by omega), if_neg (by omega)]; decide
  · rw [if_pos k]
    have := g.2.1
    omega
  · rw [if_neg (by omega), if_pos k]
    have := g.2.1
    omega
  · rw [if_neg (by omega), if_neg (by omega)]; decide
theorem end_rS (B : RBz h) {fed : Nat} (e2 : mh_i h 81 2 = Int32.ofNat fed) (hf : n ≤ fed) (hfd : fed ≤ 16400) (hn : n ≤ 10300) (eB : ∀ i, i < n → mh_i h 82 i = Bt i) (hv : ∀ i, i < n → ∃ m, m < 256 ∧ Bt i = Int32.ofNat m) (hN : 8 * (toks Bt n).length + 6 ≤ N + 1) (e0 : pgZ (tkK (toks Bt n)) (tkPl (toks Bt n)) (fun i => nvl Bt (n - tkPl (toks Bt n) i) (tkPl (toks Bt n) i) 0) (N + 1) (toks Bt n).length 0 = (j, some T)) (Z : fnZ (spe Bt n (tkPl (toks Bt n)) (tkWd (toks Bt n))) Sc N T 0 0 (Sc.1 9) (Sc.1 8)) (hc : 0 < Sc.1 9) (c9 : 9 * Sc.1 9 ≤ n) (h8 : Sc.1 8 < 20000) (hfu : ts ((lyDs (spe Bt n (tkPl (toks Bt n)) (tkWd (toks Bt n))) (Sc.2 15) (tkPl (toks Bt n)) T (Sc.1 9)).FT (Sc.1 9 - 1)) + rkF (lyDs (spe Bt n (tkPl (toks Bt n)) (tkWd (toks Bt n))) (Sc.2 15) (tkPl (toks Bt n)) T (Sc.1 9)) (Sc.1 9 - 1) ≤ f) (W : (lyT (lyDs (spe Bt n (tkPl (toks Bt n)) (tkWd (toks Bt n))) (Sc.2 15) (tkPl (toks Bt n)) T (Sc.1 9)) f (tkPl (toks Bt n) (Sc.2 15 (6 * (Sc.1 9 - 1))).toNatClampNeg)).1.1 = 0) (ee : (lyT (lyDs (spe Bt n (tkPl (toks Bt n)) (tkWd (toks Bt n))) (Sc.2 15) (tkPl (toks Bt n)) T (Sc.1 9)) f (tkPl (toks Bt n) (Sc.2 15 (6 * (Sc.1 9 - 1))).toNatClampNeg)).2 = e) (he : e ≤ 249) (ly : LYR (lyDs (spe Bt n (tkPl (toks Bt n)) (tkWd (toks Bt n))) (Sc.2 15) (tkPl (toks Bt n)) T (Sc.1 9)) Pt f true ((lyDs (spe Bt n (tkPl (toks Bt n)) (tkWd (toks Bt n))) (Sc.2 15) (tkPl (toks Bt n)) T (Sc.1 9)).FT (Sc.1 9 - 1)) ((lyDs (spe Bt n (tkPl (toks Bt n)) (tkWd (toks Bt n))) (Sc.2 15) (tkPl (toks Bt n)) T (Sc.1 9)).B (Sc.1 9 - 1) + 1) ((lyDs (spe Bt n (tkPl (toks Bt n)) (tkWd (toks Bt n))) (Sc.2 15) (tkPl (toks Bt n)) T (Sc.1 9)).B (Sc.1 9 - 1)) ((lyDs (spe Bt n (tkPl (toks Bt n)) (tkWd (toks Bt n))) (Sc.2 15) (tkPl (toks Bt n)) T (Sc.1 9)).S (Sc.1 9 - 1)) 0 e [] 0 (lyX0 (lyDs (spe Bt n (tkPl (toks Bt n)) (tkWd (toks Bt n))) (Sc.2 15) (tkPl (toks Bt n)) T (Sc.1 9)))) : ∃ h' NL w0, knT (spe Bt n (tkPl (toks Bt n)) (tkWd (toks Bt n))) NL T ∧ (∀ q, q < e → ts (Pt q).C ≤ 26000) ∧ wW w0 = 0 ∧ RPg h' (pgG (spe Bt n (tkPl (toks Bt n)) (tkWd (toks Bt n))) NL Pt (E00 (pD (spe Bt n (tkPl (toks Bt n)) (tkWd (toks Bt n))) NL (lyDs (spe Bt n (tkPl (toks Bt n)) (tkWd (toks Bt n))) (Sc.2 15) (tkPl (toks Bt n)) T (Sc.1 9)) (poZ T 1))) e) (pJ (spe Bt n (tkPl (toks Bt n)) (tkWd (toks Bt n))) NL Pt (E00 (pD (spe Bt n (tkPl (toks Bt n)) (tkWd (toks Bt n))) NL (lyDs (spe Bt n (tkPl (toks Bt n)) (tkWd (toks Bt n))) (Sc.2 15) (tkPl (toks Bt n)) T (Sc.1 9)) (poZ T 1)))) (pJ2 (spe Bt n (tkPl (toks Bt n)) (tkWd (toks Bt n))) NL Pt (E00 (pD (spe Bt n (tkPl (toks Bt n)) (tkWd (toks Bt n))) NL (lyDs (spe Bt n (tkPl (toks Bt n)) (tkWd (toks Bt n))) (Sc.2 15) (tkPl (toks Bt n)) T (Sc.1 9)) (poZ T 1)))) (fun p => apR (spe Bt n (tkPl (toks Bt n)) (tkWd (toks Bt n))) NL (Pt p).L) (e + 1) (KF e (DB (pgG (spe Bt n (tkPl (toks Bt n)) (tkWd (toks Bt n))) NL Pt (E00 (pD (spe Bt n (tkPl (toks Bt n)) (tkWd (toks Bt n))) NL (lyDs (spe Bt n (tkPl (toks Bt n)) (tkWd (toks Bt n))) (Sc.2 15) (tkPl (toks Bt n)) T (Sc.1 9)) (poZ T 1))) e) f 0 e (some A00) w0)) (KF e (DB (pgG (spe Bt n (tkPl (toks Bt n)) (tkWd (toks Bt n))) NL Pt (E00 (pD (spe Bt n (tkPl (toks Bt n)) (tkWd (toks Bt n))) NL (lyDs (spe Bt n (tkPl (toks Bt n)) (tkWd (toks Bt n))) (Sc.2 15) (tkPl (toks Bt n)) T (Sc.1 9)) (poZ T 1))) e) f 0 e (some A00) w0)) (fstP Pt e) (othP Pt e) (AF e (DB (pgG (spe Bt n (tkPl (toks Bt n)) (tkWd (toks Bt n))) NL Pt (E00 (pD (spe Bt n (tkPl (toks Bt n)) (tkWd (toks Bt n))) NL (lyDs (spe Bt n (tkPl (toks Bt n)) (tkWd (toks Bt n))) (Sc.2 15) (tkPl (toks Bt n)) T (Sc.1 9)) (poZ T 1))) e) f 0 e (some A00) w0)) (decide (4000 < wW (DB (pgG (spe Bt n (tkPl (toks Bt n)) (tkWd (toks Bt n))) NL Pt (E00 (pD (spe Bt n (tkPl (toks Bt n)) (tkWd (toks Bt n))) NL (lyDs (spe Bt n (tkPl (toks Bt n)) (tkWd (toks Bt n))) (Sc.2 15) (tkPl (toks Bt n)) T (Sc.1 9)) (poZ T 1))) e) f 0 e (some A00) w0).2.1)) (fun q x => nmX Bt n (tkPl (toks Bt n) ((Pt q).X.nA (Pt q).L x))) (fun q x => nmX Bt n (tkPl (toks Bt n) ((Pt q).X.aA (Pt q).L x))) (fun q => if q < e then Int32.ofNat (tP (Pt q).N) else 0) ∧ REd h h' ∧ (mh_i h' 81 47 = 0 ∧ mh_i h' 81 48 = 0 ∧ mh_i h' 81 49 = (if 4000 < wW (DB (pgG (spe Bt n (tkPl (toks Bt n)) (tkWd (toks Bt n))) NL Pt (E00 (pD (spe Bt n (tkPl (toks Bt n)) (tkWd (toks Bt n))) NL (lyDs (spe Bt n (tkPl (toks Bt n)) (tkWd (toks Bt n))) (Sc.2 15) (tkPl (toks Bt n)) T (Sc.1 9)) (poZ T 1))) e) f 0 e (some A00) w0).2.1 then 3 else 0) ∧ mh_i h' 115 8 = Int32.ofNat (wW (DB (pgG (spe Bt n (tkPl (toks Bt n)) (tkWd (toks Bt n))) NL Pt (E00 (pD (spe Bt n (tkPl (toks Bt n)) (tkWd (toks Bt n))) NL (lyDs (spe Bt n (tkPl (toks Bt n)) (tkWd (toks Bt n))) (Sc.2 15) (tkPl (toks Bt n)) T (Sc.1 9)) (poZ T 1))) e) f 0 e (some A00) w0).2.1)) ∧ ∀ Q, mcall 2046 331 [.ref 81, .int (Int32.ofNat n)] h Q = Q (some (.int (if 4000 < wW (DB (pgG (spe Bt n (tkPl (toks Bt n)) (tkWd (toks Bt n))) NL Pt (E00 (pD (spe Bt n (tkPl (toks Bt n)) (tkWd (toks Bt n))) NL (lyDs (spe Bt n (tkPl (toks Bt n)) (tkWd (toks Bt n))) (Sc.2 15) (tkPl (toks Bt n)) T (Sc.1 9)) (poZ T 1))) e) f 0 e (some A00) w0).2.1 then 3 else 0))) h' := by
  have tl := toks_len (Bt := Bt) (n := n)
  obtain ⟨g1, g2, g3, g4⟩ := TX_of (f := (toks Bt n).length) hn e0
  have R := w_331 (D := 2040) (N := N + 1) B.Y.F e2 hf hfd (by omega) eB hv B.s B.z hN (by omega)
  rw [e0] at R
  obtain ⟨h1, NL, y2, f1, I, kn, nd1, pw1, b9, run⟩ := R
  obtain ⟨nl, RL⟩ := RLT_of hn I kn nd1 pw1 g1 g2 g3 g4 Z h8 hc
  have C1 := RL h1 (fun _ _ _ _ => rfl) rfl
  have hz : ∀ i, tkK (toks Bt n) i = 2 → i < (toks Bt n).length := fun i k2 => tk_2 i k2
  have H := PGH_of rfl Z g1 g3 kn (by omega) hz (by omega)
  have X := FX_of rfl rfl C1 Z g1 hz (by omega) (by omega)
  have PT := PT_top (FK := poZ T 1) H hc ly he
  have LL := LW_top (FK := poZ T 1) H hc ly he
  have KC : ∀ q, q < 250 → (∃ x, RK h1 (132 + 10 * q) x) ∧ ∃ x, RK h1 (137 + 10 * q) x := fun q hq => by
    obtain ⟨⟨x, r⟩, y, s⟩ := B.K q hq
    exact ⟨⟨x, RK_fz (fG_z f1) (fun y hy j => by unfold eWr; omega) r⟩, y, RK_fz (fG_z f1) (fun y hy j => by unfold eWr; omega) s⟩
  have eP := nP_all (m := (toks Bt n).length) Z g1 hz (by omega) (g := Sc.1 9 - 1) (by omega) C1.T.1
  obtain ⟨tc, -⟩ := PF_all Z g1
  obtain ⟨h2, w0, q1, q2, q3, q4, q5, q6, ⟨q7, q8, q9, q10⟩, ⟨q11, q12, q13⟩, q14, ⟨q15, q16⟩, ⟨q17, q18⟩, q19⟩ := y_331c (d := 2041) (f := f) (x1 := some (.int (Int32.ofNat n))) (x2 := y2) (RYh_G f1 B.Y) KC b9 RL X hc (ST_all Z g1 h8) (ls_all Z g1 hc) eP hfu W ee ly tc (by omega) rfl rfl (fun _ _ => rfl) rfl LL (sp_350 PT) (by omega)
  have i2 : ∀ b j, b < 115 ∨ (2637 ≤ b ∧ b ≤ 2643) → ¬ yWr b j → mh_i h2 b j = mh_i h1 b j := q14
  have row : ∀ b, 93 ≤ b → b ≤ 99 → mh_i h2 b = mh_i h1 b := fun b u1 u2 => funext fun j => i2 b j (by omega) (by unfold yWr noW lyWr; omega)
  have C2 := RL h2 (fun b j u1 u2 => by rw [row b (by omega) (by omega)]) (i2 81 24 (by omega) (by unfold yWr noW lyWr; omega))
  have RH := RHp_of (FK := poZ T 1) C2 H hc ly he q5.p (by omega)
  have OM := OM_top (OM_txt Z g1 g2 H) PT hc ly
  have z0 : mh_i h1 99 0 = 0 := by
    have := I.2.1.2.1 0 (Nat.zero_le _)
    rw [List.take_zero] at this
    exact this
  have B2 : RBz h2 := RBz.of ⟨q3, q6.x, fun k hk => by rw [i2 2643 k (by omega) (by unfold yWr noW lyWr; omega), (f1.2.2.2.2.2 2643 k (by unfold eWr; omega)).1]; exact B.s k hk, by rw [row 99 (by omega) (by omega)]; exact z0⟩
  obtain ⟨m1, m2⟩ := fG_rm f1
  have tc' : ∀ q, q < e → ts (Pt q).C ≤ 26000 := fun q hq => by
    obtain ⟨r, zw, -, -, n3, n4, -⟩ := RH.N q hq
    have := RH.e.2
    omega
  refine ⟨h2, NL, w0, kn, tc', q1, RPg_s B2 q2 q4 q5 q6 q10 (by rw [row 93 (by omega) (by omega), row 95 (by omega) (by omega), row 97 (by omega) (by omega)]; exact X) RH LL (SUC_top PT (ow_top ly) ly) ⟨hc, by show Sc.1 9 ≤ 100000; omega⟩ (fun q hq => ⟨fun x hx => ?_, fun x hx => ?_⟩), REd.of ⟨fun b j hb => ?_, ⟨q7, q11, q12, q13⟩, by rw [← m1]; exact q17, by rw [← m2]; exact q18⟩, ⟨q8, q9, q10, q6.w⟩, fun Q => (run Q).trans (q19 Q)⟩
  · obtain ⟨u1, u2⟩ := OM_n (OM q hq) hx
    obtain ⟨v1, v2⟩ := NMl_of hn I (row 98 (by omega) (by omega)) (row 99 (by omega) (by omega)) u1 u2
    exact ⟨v2, v1, (nm_X u1).2⟩
  · obtain ⟨⟨u1, u2⟩, -⟩ := OM_a (OM q hq) hx
    obtain ⟨v1, v2⟩ := NMl_of hn I (row 98 (by omega) (by omega)) (row 99 (by omega) (by omega)) u1 u2
    exact ⟨v2, v1, (nm_X u1).2⟩
  · rw [i2 b j (by omega) (by unfold yWr noW lyWr; omega)]
    exact (f1.2.2.2.2.2 b j (by unfold eWr; omega)).1
end RTs
