set_option maxRecDepth 100000
/-! the class's end: from the text to the layout -/
section CHs2
variable {d : Nat} {h : mh_H} {Y C E TT UU SC SP nC nE nS pa cnt : Nat} {G : pgm} {J J2 : pin} {fst oth : Nat → Nat} {pl : Nat → Int32} {B n N j : Nat} {Bt : Nat → Int32} {T : tr}
theorem end_cP (Pg : CPg h Y C E TT UU SC SP nC nE nS pa G J J2 cnt fst oth pl) (hB : mh_n h = B) (mb : mbf h) {fed : Nat} (e1 : mh_i h 0 1 = Int32.ofNat fed) (hf : n ≤ fed) (hfd : fed ≤ 16400) (hn : n ≤ 10300) (hb : ∀ i, i < n → mh_i h 1 i &&& 255 = Bt i) (hv : ∀ i, i < n → ∃ m, m < 256 ∧ Bt i = Int32.ofNat m) (hN : 8 * (toks Bt n).length + 6 ≤ N + 1) (e : pgZ (tkK (toks Bt n)) (tkPl (toks Bt n)) (fun i => nvl Bt (n - tkPl (toks Bt n) i) (tkPl (toks Bt n) i) 0) (N + 1) (toks Bt n).length 0 = (j, some T)) : ∃ Sc h5 h0, (fnZ (spe Bt n (tkPl (toks Bt n)) (tkWd (toks Bt n))) Sc N T 0 0 (Sc.1 9) (Sc.1 8) ∧ 0 < Sc.1 9 ∧ Sc.1 8 ≤ n / 3 + 2) ∧ CPB h5 B n ∧ FNH (tkPl (toks Bt n)) (toks Bt n).length Sc j ∧ ADD (cpW B) h h5 B (cpL n) ∧ fz eE h h0 ∧ fz eE (cH h5 B (fiS Sc)) h0 ∧ (mh_n h0 = B + (24 + Sc.1 8) + 1 ∧ mh_s h0 = mh_s h5 + 17 * Sc.1 8 + 17) ∧ CLC (enL h0 B) B n (toks Bt n).length (lyDs (spe Bt n (tkPl (toks Bt n)) (tkWd (toks Bt n))) (Sc.2 15) (tkPl (toks Bt n)) T (Sc.1 9)) (fiS Sc) ∧ (∀ g, g < Sc.1 9 → FCq (lyDs (spe Bt n (tkPl (toks Bt n)) (tkWd (toks Bt n))) (Sc.2 15) (tkPl (toks Bt n)) T (Sc.1 9)) (tkK (toks Bt n)) (toks Bt n).length Sc (fiS Sc) N g) ∧ (mh_i h0 0 8 = 0 ∧ mh_i h0 0 9 = 0) ∧ TB h0 B (B + 1) n Bt ∧ ∀ Q, mcall (d + 13) 186 [.ref 0, .int (Int32.ofNat n)] h Q = mw (d + 13) 186 Q 78 [some (.ref 0), some (.int (Int32.ofNat n)), some (.ref B), some (.ref (B + 5)), some (.ref (B + 16)), some (.int (-1)), some (.int 0)] [] h0 := by
  have b := Pg.B
  have hN2 := b.N
  have tl := toks_len (Bt := Bt) (n := n)
  have R := x_186 (d := d) (n := n) (Bt := Bt) (N := N) b.F hB (by omega) mb e1 hf hfd (by omega) hb hv hN
  rw [e] at R
  obtain ⟨jl, h5, Sc, CB, r5, ad, CT, FN, c9, fgv, Z, run⟩ := R
  obtain ⟨g1, g2, g3, g4⟩ := TX_of (f := (toks Bt n).length) hn e
  have f3 := FN.2.2.2.2.2.2.2.1
  have f1 : fz eE h (cH h5 B (fiS Sc)) := fz_w (fz_cH hB ad r5 (fiS Sc)) (fun _ _ _ z => z.elim)
  have nH : mh_n (z8H (cH h5 B (fiS Sc))) = B + (24 + Sc.1 8) := by rw [z8_n, cH_n, fi_8]
  have sH : mh_s (z8H (cH h5 B (fiS Sc))) = mh_s h5 + 17 * Sc.1 8 := (z8_k (y := 0)).2.2.trans (by show mh_s h5 + 17 * (fiS Sc).1 8 = _; rw [fi_8])
  have f2 : fz eE (cH h5 B (fiS Sc)) (leH (z8H (cH h5 B (fiS Sc))) 0) := fz_t fz_z8 fz_le
  have ml := leH_n (h := z8H (cH h5 B (fiS Sc))) (e := 0)
  have nc : mh_n (cH h5 B (fiS Sc)) = B + (24 + Sc.1 8) := by rw [cH_n, fi_8]
  have CL := CLC_of (sp := spe Bt n (tkPl (toks Bt n)) (tkWd (toks Bt n))) (T := T) b.F (by omega) (by omega) CB CT (fun b hb => ⟨(ad.2.1 b (by omega)).1, (ad.2.1 b (by omega)).2.1⟩) r5 FN
  have FC := FC_of Z g1 g2 g3 (fun i k2 => tk_2 i k2) (by omega) (by omega) (by omega)
  have z89 : ∀ j, j = 8 ∨ j = 9 → mh_i (leH (z8H (cH h5 B (fiS Sc))) 0) 0 j = 0 := fun j hj => by
    unfold leH nsH
    rw [hi_si, if_neg (by omega), hi_si, if_neg (by omega), hi_si, if_neg (by omega), hi_sr]
    simp only [hi_si, hi_new]
    rw [nH, if_neg (by omega), if_neg (by omega), if_neg (by omega), if_neg (by omega), if_neg (by omega), if_neg (by omega), if_neg (by omega)]
    unfold z8H
    rcases hj with e | e <;> subst e
    · rw [hi_si, if_neg (by omega), hi_si, if_pos ⟨rfl, rfl⟩]
    · rw [hi_si, if_pos ⟨rfl, rfl⟩]
  have T5 := CT.T
  have gB : mg (cH h5 B (fiS Sc)) B 10 := ⟨(cH_k (by omega)).trans T5.g.1, by omega⟩
  have gX : mg (cH h5 B (fiS Sc)) (B + 1) 102 := ⟨(cH_k (by omega)).trans T5.k, by omega⟩
  have TBh : TB (leH (z8H (cH h5 B (fiS Sc))) 0) B (B + 1) n Bt := ⟨fz_mg f2 gB, by rw [fz_r f2 gB (by unfold eE; omega), cH_r (by omega) (by omega) (by omega)]; exact T5.r, (fz_mg f2 gX).1, (fz_mg f2 gX).2, by rw [fz_l f2 gX, cH_l (by omega)]; exact T5.l, T5.n, fun i hi => by rw [fz_i f2 gX (by unfold eE; omega), cH_i4 (by omega)]; exact T5.b i hi, T5.2.2.2.2.2.2.2⟩
  exact ⟨Sc, h5, leH (z8H (cH h5 B (fiS Sc))) 0, ⟨Z, c9, by omega⟩, CB, FN, ad, fz_t f1 f2, f2, ⟨by omega, by omega⟩, CL, FC, ⟨z89 8 (by omega), z89 9 (by omega)⟩, TBh, run⟩
end CHs2
