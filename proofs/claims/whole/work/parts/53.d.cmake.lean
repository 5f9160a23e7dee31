set_option maxRecDepth 100000
/-! what stands when the class's parser begins -/
def cpL (n : Nat) : List (Nat × Nat) := [(10, 5), (102, n), (100, n + 1), (100, n + 1), (100, n + 1), (7, 16), (100, 3 * n + 3), (100, n + 1), (100, n + 1), (100, n + 1), (100, n + 2), (100, n + 2), (100, n + 1), (100, n + 1), (105, n / 3 + 2), (100, 6 * (n / 9 + 2)), (3, 14), (100, 62), (6, 9), (100, 62), (100, n / 2 + 1), (100, n / 2 + 1), (100, n / 2 + 1), (100, gL n)]
def cpW (B : Nat) (b j : Nat) : Prop := b < B + 5 ∨ (b = B + 16 ∧ j = 7)
section AEs
variable {d : Nat} {h h' : mh_H} {W : Nat → Nat → Prop} {N Y T X S a n B : Nat}
theorem pa_r {b j : Nat} (hb : b < mh_n h) (hY : b ≠ Y) : mh_r (paH h Y T S n) b j = mh_r h b j := by
  unfold paH
  rw [sr_o hY, rn_o (by show b < mh_n h + 6; omega), sr_o hY, scH_r (by show b < mh_n h + 2; omega) (by omega)]
  unfold pa2
  rw [rn_o (by show b < mh_n h + 1; omega), sr_o hY, sr_o hY, sr_o hY, rn_o (by show b < mh_n h; omega)]
  rfl
theorem pa_f (hY : Y < mh_n h) : mh_r (paH h Y T S n) Y 0 = some T ∧ mh_r (paH h Y T S n) Y 1 = some S ∧ mh_r (paH h Y T S n) Y 2 = some (mh_n h + 1) ∧ mh_r (paH h Y T S n) Y 3 = some (mh_n h + 6) ∧ mh_r (paH h Y T S n) Y 9 = some (mh_n h) := by
  have inn : ∀ j, j ≠ 2 → j ≠ 3 → mh_r (paH h Y T S n) Y j = mh_r (pa2 h Y T S) Y j := fun j h2 h3 => by
    unfold paH
    rw [hr_sr, if_neg (by omega), rn_o (by show Y < mh_n h + 6; omega), hr_sr, if_neg (by omega), scH_r (by show Y < mh_n h + 2; omega) (by omega)]
  refine ⟨?_, ?_, ?_, ?_, ?_⟩
  · rw [inn 0 (by decide) (by decide)]
    unfold pa2
    rw [rn_o (by show Y < mh_n h + 1; omega), hr_sr, if_neg (by omega), hr_sr, if_pos ⟨rfl, rfl⟩]
  · rw [inn 1 (by decide) (by decide)]
    unfold pa2
    rw [rn_o (by show Y < mh_n h + 1; omega), hr_sr, if_pos ⟨rfl, rfl⟩]
  · unfold paH
    rw [hr_sr, if_neg (by omega), rn_o (by show Y < mh_n h + 6; omega), hr_sr, if_pos ⟨rfl, rfl⟩]
  · unfold paH
    rw [hr_sr, if_pos ⟨rfl, rfl⟩]
  · rw [inn 9 (by decide) (by decide)]
    unfold pa2
    rw [rn_o (by show Y < mh_n h + 1; omega), hr_sr, if_neg (by omega), hr_sr, if_neg (by omega), hr_sr, if_pos ⟨rfl, rfl⟩]
theorem pa_s (hY : Y < mh_n h) : mh_r (paH h Y T S n) (mh_n h + 1) 0 = some T ∧ mh_r (paH h Y T S n) (mh_n h + 1) 1 = some (mh_n h + 3) ∧ mh_r (paH h Y T S n) (mh_n h + 1) 2 = some (mh_n h + 4) ∧ mh_r (paH h Y T S n) (mh_n h + 1) 3 = some (mh_n h + 5) ∧ mh_r (paH h Y T S n) (mh_n h + 1) 5 = some (mh_n h + 2) := by
  have inn : ∀ j, mh_r (paH h Y T S n) (mh_n h + 1) j = mh_r (scH (pa2 h Y T S) (mh_n h + 1) T n) (mh_n h + 1) j := fun j => by
    unfold paH
    rw [sr_o (by omega), rn_o (by show mh_n h + 1 < mh_n h + 6; omega), sr_o (by omega)]
  have q := sc_f (h := pa2 h Y T S) (Y := mh_n h + 1) (T := T) (n := n) (by show mh_n h + 1 < mh_n h + 2; omega)
  rw [inn, inn, inn, inn, inn]
  exact q
theorem pa_i (hY : Y < mh_n h) : mh_i (paH h Y T S n) Y 7 = -1 := by
  have e1 : mh_i (paH h Y T S n) Y 7 = mh_i (scH (pa2 h Y T S) (mh_n h + 1) T n) Y 7 := by
    unfold paH
    rw [hi_sr, hi_new, if_neg (by show ¬ Y = mh_n h + 6; omega), hi_sr]
  have e2 : mh_i (scH (pa2 h Y T S) (mh_n h + 1) T n) Y 7 = mh_i (pa2 h Y T S) Y 7 := (((sc_A (W := fun _ _ => True) (Y := mh_n h + 1) (T := T) (n := n) (ADD_0 (h := pa2 h Y T S))).2.1 Y (by show Y < mh_n h + 2; omega)).2.2 7).1
  rw [e1, e2]
  unfold pa2
  rw [hi_new, if_neg (by show ¬ Y = mh_n h + 1; omega), hi_sr, hi_sr, hi_sr, hi_new, if_neg (by show ¬ Y = mh_n h; omega), hi_si, if_pos ⟨rfl, rfl⟩]
theorem cH_0 (hN : mh_n h = B + 24) (z : ∀ o k, 5 ≤ o → ct o k ≠ 99 → mh_i h (B + o) k = 0) : cH h B (fun _ => 0, fun o k => mh_i h (B + o) k) = h := by
  refine mh_xi ?_ ?_ (fun b j => ?_) ?_ ?_ ?_ ?_
  · funext b
    show (if B + 24 ≤ b ∧ b < B + (24 + 0) then 9 else mh_k h b) = mh_k h b
    rw [if_neg (by omega)]
  · funext b
    show (if B + 24 ≤ b ∧ b < B + (24 + 0) then 17 else mh_l h b) = mh_l h b
    rw [if_neg (by omega)]
  · show (if b < B + 5 then mh_i h b j else cI (fun _ => 0, fun o k => mh_i h (B + o) k) (b - B) j) = mh_i h b j
    by_cases c : b < B + 5
    · rw [if_pos c]
    · rw [if_neg c]
      have e : B + (b - B) = b := by omega
      unfold cI
      by_cases q : ct (b - B) j = 99
      · rw [if_pos q]
        show mh_i h (B + (b - B)) j = _
        rw [e]
      · rw [if_neg q]
        have y := z (b - B) j (by omega) q
        rw [e] at y
        exact y.symm
  · funext b j
    show (if B + 24 ≤ b ∧ b < B + (24 + 0) then 0 else mh_j h b j) = mh_j h b j
    rw [if_neg (by omega)]
  · funext b j
    show (if B + 24 ≤ b ∧ b < B + (24 + 0) then none else if b = B + 14 ∧ j < 0 then some (B + (24 + j)) else if b = B + 16 ∧ j = 8 ∧ 0 < 0 then some (B + (23 + 0)) else mh_r h b j) = mh_r h b j
    rw [if_neg (by omega), if_neg (by omega), if_neg (by omega)]
  · show B + (24 + 0) = mh_n h
    omega
  · show mh_s h + 17 * 0 = mh_s h
    omega
theorem tk_i {h1 : mh_H} (hY : Y + 1 = mh_n h1) (ha : a < Y) : (∀ i, i < n → mh_i (tknH h1 Y a n) (Y + 1) i = mh_i h1 a i) ∧ mh_i (tknH h1 Y a n) Y 4 = mh_i h1 Y 4 := by
  unfold tknH
  refine ⟨fun i hi => ?_, ?_⟩
  · rw [hi_sr, hi_new, if_neg (by show ¬ Y + 1 = mh_n h1 + 1 + 1 + 1; omega), hi_sr, hi_new, if_neg (by show ¬ Y + 1 = mh_n h1 + 1 + 1; omega), hi_sr, hi_new, if_neg (by show ¬ Y + 1 = mh_n h1 + 1; omega), hi_sr, hi_cp, if_pos ⟨hY, Nat.zero_le _, by omega⟩, hi_new, if_neg (by omega), Nat.zero_add, Nat.sub_zero]
  · rw [hi_sr, hi_new, if_neg (by show ¬ Y = mh_n h1 + 1 + 1 + 1; omega), hi_sr, hi_new, if_neg (by show ¬ Y = mh_n h1 + 1 + 1; omega), hi_sr, hi_new, if_neg (by show ¬ Y = mh_n h1 + 1; omega), hi_sr, hi_cp, if_neg (by omega), hi_new, if_neg (by omega)]
/-- Tokens, and the scan -/
theorem en_1 {h0 : mh_H} {Bt : Nat → Int32} (g : mg h0 a 102) (l : mh_l h0 a = 16400) (hn : n < 16400) (mb : mbf h0) (hb : ∀ i, i < n → mh_i h0 a i &&& 255 = Bt i) (hv : ∀ i, i < n → ∃ m, m < 256 ∧ Bt i = Int32.ofNat m) (hB : mh_n h0 = B) : ∃ h2 h3, (∀ Q, mcall (d + 7) 167 [.ref B, .ref a, .int (Int32.ofNat n)] (mh_new h0 10 5) Q = Q none h2) ∧ (∀ Q, mcall (d + 7) 168 [.ref B] h2 Q = Q none h3) ∧ mh_n h3 = B + 5 ∧ (mh_r h3 B 0 = some (B + 1) ∧ mh_r h3 B 1 = some (B + 2) ∧ mh_r h3 B 2 = some (B + 3) ∧ mh_r h3 B 3 = some (B + 4)) ∧ (∀ b j, b < B → mh_r h3 b j = mh_r h0 b j) ∧ ADD (cpW B) h0 h3 B [(10, 5), (102, n), (100, n + 1), (100, n + 1), (100, n + 1)] ∧ (∀ i, i < n → mh_i h3 (B + 1) i &&& 255 = Bt i) ∧ mh_i h3 B 4 = Int32.ofNat (toks Bt n).length ∧ (toks Bt n).length ≤ n + 1 ∧ tkR (mh_i h3 (B + 2)) (mh_i h3 (B + 3)) (mh_i h3 (B + 4)) 0 (toks Bt n) := by
  have ga := g.2
  have gk := g.1
  have n1 : mh_n (mh_new h0 10 5) = B + 1 := by rw [hn_new, hB]
  have gB : mg (mh_new h0 10 5) B 10 := ⟨by rw [hk_new, if_pos hB.symm], by rw [n1]; omega⟩
  have ga1 : mg (mh_new h0 10 5) a 102 := ⟨by rw [hk_new, if_neg (by omega)]; exact gk, by rw [n1]; omega⟩
  have la1 : mh_l (mh_new h0 10 5) a = 16400 := by rw [hl_new, if_neg (by omega)]; exact l
  have bf : me_bf (mh_new (mh_new h0 10 5) 102 n) a = true := mbf_bf (mbf_new (mbf_new mb)) (by show a < mh_n h0 + 1 + 1; omega) (by rw [hk_new, if_neg (by rw [n1]; omega), ga1.1]; decide)
  have e1 := c_167 (d := d + 6) gB ga1 la1 hn bf
  have A1 : ADD (cpW B) h0 (mh_new h0 10 5) B ([] ++ [(10, 5)]) := by
    have z := ADD_new (c := 10) (z := 5) (ADD_0 (W := cpW B) (h := h0))
    rw [hB] at z
    exact z
  have A2 : ADD (cpW B) h0 (tknH (mh_new h0 10 5) B a n) B [(10, 5), (102, n), (100, n + 1), (100, n + 1), (100, n + 1)] := tk_A (Y := B) (a := a) (n := n) A1 (by rw [n1]; omega) (fun j => Or.inl (by rw [n1]; omega))
  obtain ⟨f0, f1, f2, f3⟩ := tk_f (h := mh_new h0 10 5) (Y := B) (a := a) (n := n) (by rw [n1]; omega)
  rw [n1] at f0 f1 f2 f3
  obtain ⟨i0, i4⟩ := tk_i (h1 := mh_new h0 10 5) (Y := B) (a := a) (n := n) n1.symm (by omega)
  have r2 : ∀ b j, b < B → mh_r (tknH (mh_new h0 10 5) B a n) b j = mh_r h0 b j := fun b j hb' => (tk_r (by rw [n1]; omega) (by omega)).trans (rn_o (by omega))
  generalize tknH (mh_new h0 10 5) B a n = h2 at e1 A2 f0 f1 f2 f3 i0 i4 r2
  obtain ⟨⟨m2, -⟩, -, c2⟩ := id A2
  have m2' : mh_n h2 = B + 5 := m2
  have c0 := c2 0 (10, 5) rfl
  have c1 := c2 1 (102, n) rfl
  have d2 := c2 2 (100, n + 1) rfl
  have d3 := c2 3 (100, n + 1) rfl
  have d4 := c2 4 (100, n + 1) rfl
  have T2 : TB h2 B (B + 1) n Bt := ⟨⟨c0.1, by omega⟩, f0, c1.1, by omega, c1.2.1, by omega, fun i hi => by
    rw [i0 i hi, hi_new, if_neg (by omega)]
    exact hb i hi, hv⟩
  have W2 : TW h2 B (B + 1) (B + 2) (B + 3) (B + 4) n Bt := ⟨T2, f1, f2, f3, ⟨d2.1, by omega⟩, ⟨d3.1, by omega⟩, ⟨d4.1, by omega⟩, d2.2.1, d3.2.1, d4.2.1, by omega, by omega, by omega⟩
  obtain ⟨h3, F3, x4, xl, xR, e2⟩ := v_168 (d := d) W2 (by rw [i4, hi_new, if_pos hB.symm])
  have A3 := ADD_G A2 F3 (fun b j u => by
    rcases u with ⟨u, -⟩ | u | u | u
    · exact ⟨by omega, Or.inl (by omega)⟩
    · exact ⟨by omega, Or.inl (by omega)⟩
    · exact ⟨by omega, Or.inl (by omega)⟩
    · exact ⟨by omega, Or.inl (by omega)⟩)
  have r3 : mh_r h3 = mh_r h2 := F3.2.2.1
  refine ⟨h2, h3, e1, e2, by rw [F3.2.2.2.1]; exact m2', by rw [r3]; exact ⟨f0, f1, f2, f3⟩, fun b j hb' => by rw [r3]; exact r2 b j hb', A3, fun i hi => ?_, x4, xl, xR⟩
  rw [fG_i F3 (by unfold tsW; omega)]
  exact T2.b i hi
/-- Source -/
theorem en_2 {h0 h3 : mh_H} (hn : n < 16400) (m3 : mh_n h3 = B + 5) (A3 : ADD (cpW B) h0 h3 B [(10, 5), (102, n), (100, n + 1), (100, n + 1), (100, n + 1)]) : ∃ h4, (∀ Q, mcall d 125 [.ref (B + 5), .int (Int32.ofNat n)] (mh_new h3 7 16) Q = Q none h4) ∧ mh_n h4 = B + 16 ∧ ADD (cpW B) h0 h4 B [(10, 5), (102, n), (100, n + 1), (100, n + 1), (100, n + 1), (7, 16), (100, 3 * n + 3), (100, n + 1), (100, n + 1), (100, n + 1), (100, n + 2), (100, n + 2), (100, n + 1), (100, n + 1), (105, n / 3 + 2), (100, 6 * (n / 9 + 2))] ∧ (∀ b, b < B + 5 → (∀ j, mh_r h4 b j = mh_r h3 b j) ∧ ∀ j, mh_i h4 b j = mh_i h3 b j) ∧ (mh_r h4 (B + 5) 0 = some (B + 6) ∧ mh_r h4 (B + 5) 2 = some (B + 7) ∧ mh_r h4 (B + 5) 3 = some (B + 8) ∧ mh_r h4 (B + 5) 4 = some (B + 9) ∧ mh_r h4 (B + 5) 6 = some (B + 10) ∧ mh_r h4 (B + 5) 7 = some (B + 11) ∧ mh_r h4 (B + 5) 9 = some (B + 12) ∧ mh_r h4 (B + 5) 10 = some (B + 13) ∧ mh_r h4 (B + 5) 12 = some (B + 14) ∧ mh_r h4 (B + 5) 14 = some (B + 15)) := by
  have n3 : mh_n (mh_new h3 7 16) = B + 6 := by rw [hn_new, m3]
  have g5 : mg (mh_new h3 7 16) (B + 5) 7 := ⟨by rw [hk_new, if_pos m3.symm], by rw [n3]; omega⟩
  have e3 := c_125 (d := d) g5 (show n ≤ 16400 by omega)
  have A4 : ADD (cpW B) h0 (soH (mh_new h3 7 16) (B + 5) n) B [(10, 5), (102, n), (100, n + 1), (100, n + 1), (100, n + 1), (7, 16), (100, 3 * n + 3), (100, n + 1), (100, n + 1), (100, n + 1), (100, n + 2), (100, n + 2), (100, n + 1), (100, n + 1), (105, n / 3 + 2), (100, 6 * (n / 9 + 2))] := so_A (Y := B + 5) (n := n) (ADD_new (c := 7) (z := 16) A3)
  have Z4 := so_A (Y := B + 5) (n := n) (ADD_new (c := 7) (z := 16) (ADD_0 (W := fun _ _ => True) (h := h3)))
  have z4 := Z4.2.1
  rw [m3] at z4
  have s5 := so_f (h := mh_new h3 7 16) (Y := B + 5) (n := n) (by rw [n3]; omega)
  rw [n3] at s5
  exact ⟨_, e3, A4.1.1, A4, fun b hb' => ⟨fun j => (so_r (by rw [n3]; omega) (by omega)).trans (rn_o (by omega)), fun j => ((z4 b hb').2.2 j).1⟩, s5⟩
/-- Parser, Scope -/
theorem en_3 {h0 h4 : mh_H} (hn : n < 16400) (m4 : mh_n h4 = B + 16) (A4 : ADD (cpW B) h0 h4 B [(10, 5), (102, n), (100, n + 1), (100, n + 1), (100, n + 1), (7, 16), (100, 3 * n + 3), (100, n + 1), (100, n + 1), (100, n + 1), (100, n + 2), (100, n + 2), (100, n + 1), (100, n + 1), (105, n / 3 + 2), (100, 6 * (n / 9 + 2))]) (rT : mh_r h4 B 0 = some (B + 1)) : ∃ h5, (∀ Q, mcall (d + 1) 43 [.ref (B + 16), .ref B, .ref (B + 5)] (mh_new h4 3 14) Q = Q none h5) ∧ mh_n h5 = B + 24 ∧ ADD (cpW B) h0 h5 B (cpL n) ∧ (∀ b, b < B + 16 → (∀ j, mh_r h5 b j = mh_r h4 b j) ∧ ∀ j, mh_i h5 b j = mh_i h4 b j) ∧ (mh_r h5 (B + 16) 0 = some B ∧ mh_r h5 (B + 16) 1 = some (B + 5) ∧ mh_r h5 (B + 16) 2 = some (B + 18) ∧ mh_r h5 (B + 16) 3 = some (B + 23) ∧ mh_r h5 (B + 16) 9 = some (B + 17)) ∧ (mh_r h5 (B + 18) 0 = some B ∧ mh_r h5 (B + 18) 1 = some (B + 20) ∧ mh_r h5 (B + 18) 2 = some (B + 21) ∧ mh_r h5 (B + 18) 3 = some (B + 22) ∧ mh_r h5 (B + 18) 5 = some (B + 19)) ∧ mh_i h5 (B + 16) 7 = -1 := by
  have n4 : mh_n (mh_new h4 3 14) = B + 17 := by rw [hn_new, m4]
  have k4 : ∀ b, b < B + 16 → mh_k (mh_new h4 3 14) b = mh_k h4 b ∧ mh_l (mh_new h4 3 14) b = mh_l h4 b := fun b hb' => ⟨by rw [hk_new, if_neg (by omega)], by rw [hl_new, if_neg (by omega)]⟩
  have g16 : mg (mh_new h4 3 14) (B + 16) 3 := ⟨by rw [hk_new, if_pos m4.symm], by rw [n4]; omega⟩
  have c0 := A4.2.2 0 (10, 5) rfl
  have c1 := A4.2.2 1 (102, n) rfl
  have e4 := c_43 (d := d) (h := mh_new h4 3 14) (Y := B + 16) (T := B) (X := B + 1) (S := B + 5) (n := n) g16 ⟨(k4 B (by omega)).1.trans c0.1, by rw [n4]; omega⟩ ((rn_o (by omega)).trans rT) ((k4 (B + 1) (by omega)).1.trans c1.1) (by rw [n4]; omega) ((k4 (B + 1) (by omega)).2.trans c1.2.1) (by omega) (by omega)
  have A5 : ADD (cpW B) h0 (paH (mh_new h4 3 14) (B + 16) B (B + 5) n) B (cpL n) := pa_A (Y := B + 16) (T := B) (S := B + 5) (n := n) (ADD_new (c := 3) (z := 14) A4) (by omega) (Or.inr ⟨rfl, rfl⟩)
  have Z5 := pa_A (Y := B + 16) (T := B) (S := B + 5) (n := n) (ADD_new (c := 3) (z := 14) (ADD_0 (W := fun _ _ => True) (h := h4))) (by omega) trivial
  have z5 := Z5.2.1
  rw [m4] at z5
  have p16' := pa_f (h := mh_new h4 3 14) (Y := B + 16) (T := B) (S := B + 5) (n := n) (by rw [n4]; omega)
  have p18 := pa_s (h := mh_new h4 3 14) (Y := B + 16) (T := B) (S := B + 5) (n := n) (by rw [n4]; omega)
  have q7 := pa_i (h := mh_new h4 3 14) (Y := B + 16) (T := B) (S := B + 5) (n := n) (by rw [n4]; omega)
  rw [n4] at p16' p18
  exact ⟨_, e4, A5.1.1, A5, fun b hb' => ⟨fun j => (pa_r (by rw [n4]; omega) (by omega)).trans (rn_o (by omega)), fun j => ((z5 b hb').2.2 j).1⟩, p16', p18, q7⟩
theorem CPB_of' {h5 : mh_H} (hn : n ≤ 16400) (m5 : mh_n h5 = B + 24) (cA : ∀ i c, (cpL n)[i]? = some c → mh_k h5 (B + i) = c.1 ∧ mh_l h5 (B + i) = c.2) (f : mh_r h5 B 0 = some (B + 1) ∧ mh_r h5 B 1 = some (B + 2) ∧ mh_r h5 B 2 = some (B + 3) ∧ mh_r h5 B 3 = some (B + 4)) (s5 : mh_r h5 (B + 5) 0 = some (B + 6) ∧ mh_r h5 (B + 5) 2 = some (B + 7) ∧ mh_r h5 (B + 5) 3 = some (B + 8) ∧ mh_r h5 (B + 5) 4 = some (B + 9) ∧ mh_r h5 (B + 5) 6 = some (B + 10) ∧ mh_r h5 (B + 5) 7 = some (B + 11) ∧ mh_r h5 (B + 5) 9 = some (B + 12) ∧ mh_r h5 (B + 5) 10 = some (B + 13) ∧ mh_r h5 (B + 5) 12 = some (B + 14) ∧ mh_r h5 (B + 5) 14 = some (B + 15)) (p16' : mh_r h5 (B + 16) 0 = some B ∧ mh_r h5 (B + 16) 1 = some (B + 5) ∧ mh_r h5 (B + 16) 2 = some (B + 18) ∧ mh_r h5 (B + 16) 3 = some (B + 23) ∧ mh_r h5 (B + 16) 9 = some (B + 17)) (p18 : mh_r h5 (B + 18) 0 = some B ∧ mh_r h5 (B + 18) 1 = some (B + 20) ∧ mh_r h5 (B + 18) 2 = some (B + 21) ∧ mh_r h5 (B + 18) 3 = some (B + 22) ∧ mh_r h5 (B + 18) 5 = some (B + 19)) : CPB h5 B n := by
  refine CPB.of ⟨m5, hn, fun t ht => ?_, fun t ht => ?_⟩
  · unfold cpK at ht
    simp only [List.mem_cons, List.not_mem_nil, or_false] at ht
    rcases ht with rfl | rfl | rfl | rfl | rfl | rfl | rfl | rfl | rfl | rfl | rfl | rfl | rfl | rfl | rfl | rfl | rfl | rfl | rfl | rfl | rfl | rfl | rfl | rfl
    · exact cA 0 _ rfl
    · exact cA 1 _ rfl
    · exact cA 2 _ rfl
    · exact cA 3 _ rfl
    · exact cA 4 _ rfl
    · exact cA 5 _ rfl
    · exact cA 6 _ rfl
    · exact cA 7 _ rfl
    · exact cA 8 _ rfl
    · exact cA 9 _ rfl
    · exact cA 10 _ rfl
    · exact cA 11 _ rfl
    · exact cA 12 _ rfl
    · exact cA 13 _ rfl
    · exact cA 14 _ rfl
    · exact cA 15 _ rfl
    · exact cA 16 _ rfl
    · exact cA 17 _ rfl
    · exact cA 18 _ rfl
    · exact cA 19 _ rfl
    · exact cA 20 _ rfl
    · exact cA 21 _ rfl
    · exact cA 22 _ rfl
    · exact cA 23 _ rfl
  · unfold cpR at ht
    simp only [List.mem_cons, List.not_mem_nil, or_false] at ht
    rcases ht with rfl | rfl | rfl | rfl | rfl | rfl | rfl | rfl | rfl | rfl | rfl | rfl | rfl | rfl | rfl | rfl | rfl | rfl | rfl | rfl | rfl | rfl | rfl | rfl
    · exact f.1
    · exact f.2.1
    · exact f.2.2.1
    · exact f.2.2.2
    · exact s5.1
    · exact s5.2.1
    · exact s5.2.2.1
    · exact s5.2.2.2.1
    · exact s5.2.2.2.2.1
    · exact s5.2.2.2.2.2.1
    · exact s5.2.2.2.2.2.2.1
    · exact s5.2.2.2.2.2.2.2.1
    · exact s5.2.2.2.2.2.2.2.2.1
    · exact s5.2.2.2.2.2.2.2.2.2
    · exact p16'.1
    · exact p16'.2.1
    · exact p16'.2.2.1
    · exact p16'.2.2.2.1
    · exact p16'.2.2.2.2
    · exact p18.1
    · exact p18.2.1
    · exact p18.2.2.1
    · exact p18.2.2.2.1
    · exact p18.2.2.2.2
/-- all constructors, and the scan -/
theorem en_pre {h0 : mh_H} {Bt : Nat → Int32} (g : mg h0 a 102) (l : mh_l h0 a = 16400) (hn : n < 16400) (mb : mbf h0) (hb : ∀ i, i < n → mh_i h0 a i &&& 255 = Bt i) (hv : ∀ i, i < n → ∃ m, m < 256 ∧ Bt i = Int32.ofNat m) (hB : mh_n h0 = B) : ∃ h2 h3 h4 h5, (∀ Q, mcall (d + 7) 167 [.ref B, .ref a, .int (Int32.ofNat n)] (mh_new h0 10 5) Q = Q none h2) ∧ (∀ Q, mcall (d + 7) 168 [.ref B] h2 Q = Q none h3) ∧ (∀ Q, mcall (d + 7) 125 [.ref (B + 5), .int (Int32.ofNat n)] (mh_new h3 7 16) Q = Q none h4) ∧ (∀ Q, mcall (d + 7) 43 [.ref (B + 16), .ref B, .ref (B + 5)] (mh_new h4 3 14) Q = Q none h5) ∧ (mh_n h3 = B + 5 ∧ mh_n h4 = B + 16) ∧ CPB h5 B n ∧ CTK h5 B n (toks Bt n).length Bt (tkK (toks Bt n)) (tkPl (toks Bt n)) (tkWd (toks Bt n)) (fun i => nvl Bt (n - tkPl (toks Bt n) i) (tkPl (toks Bt n) i) 0) ∧ (∀ b j, b < B → mh_r h5 b j = mh_r h0 b j) ∧ ADD (cpW B) h0 h5 B (cpL n) ∧ ∃ s0, PZ0 s0 ∧ cH h5 B s0 = h5 := by
  obtain ⟨h2, h3, e1, e2, m3, ⟨f0, f1, f2, f3⟩, r3, A3, b3, x4, xl, xR⟩ := en_1 (d := d) g l hn mb hb hv hB
  obtain ⟨h4, e3, m4, A4, o4, s5⟩ := en_2 (d := d + 7) hn m3 A3
  obtain ⟨h5, e4, m5, A, o5, p16', p18, q7⟩ := en_3 (d := d + 6) hn m4 A4 (((o4 B (by omega)).1 0).trans f0)
  have rB : ∀ b j, b < B + 5 → mh_r h5 b j = mh_r h3 b j := fun b j hb' => ((o5 b (by omega)).1 j).trans ((o4 b hb').1 j)
  have iB : ∀ b j, b < B + 5 → mh_i h5 b j = mh_i h3 b j := fun b j hb' => ((o5 b (by omega)).2 j).trans ((o4 b hb').2 j)
  have r5 : ∀ j, mh_r h5 (B + 5) j = mh_r h4 (B + 5) j := fun j => (o5 (B + 5) (by omega)).1 j
  have cA := A.2.2
  have c0 := cA 0 (10, 5) rfl
  have c1 := cA 1 (102, n) rfl
  have T5 : TB h5 B (B + 1) n Bt := ⟨⟨c0.1, by omega⟩, (rB B 0 (by omega)).trans f0, c1.1, by omega, c1.2.1, by omega, fun i hi => by
    rw [iB (B + 1) i (by omega)]
    exact b3 i hi, hv⟩
  have C5 := CTK_of T5 (by rw [iB B 4 (by omega)]; exact x4) xl (by
    have z2 : mh_i h5 (B + 2) = mh_i h3 (B + 2) := funext fun j => iB _ j (by omega)
    have z3 : mh_i h5 (B + 3) = mh_i h3 (B + 3) := funext fun j => iB _ j (by omega)
    have z4 : mh_i h5 (B + 4) = mh_i h3 (B + 4) := funext fun j => iB _ j (by omega)
    rw [z2, z3, z4]
    exact xR)
  have P5 : CPB h5 B n := CPB_of' (by omega) m5 (fun i c e => ⟨(cA i c e).1, (cA i c e).2.1⟩) ⟨(rB B 0 (by omega)).trans f0, (rB B 1 (by omega)).trans f1, (rB B 2 (by omega)).trans f2, (rB B 3 (by omega)).trans f3⟩ (by rw [r5, r5, r5, r5, r5, r5, r5, r5, r5, r5]; exact s5) p16' p18
  have c16 := cA 16 (3, 14) rfl
  have c5 := cA 5 (7, 16) rfl
  have c18 := cA 18 (6, 9) rfl
  refine ⟨h2, h3, h4, h5, e1, e2, e3, e4, ⟨m3, m4⟩, P5, C5, fun b j hb' => (rB b j (by omega)).trans (r3 b j hb'), A, _, PZ0.of ⟨fun _ => rfl, q7⟩, cH_0 m5 (fun o k ho q => ?_)⟩
  by_cases d16 : o = 16
  · subst d16
    exact c16.2.2 k (fun w => by
      rcases w with w | ⟨-, w⟩
      · omega
      · subst w
        exact q rfl)
  by_cases d5 : o = 5
  · subst d5
    exact c5.2.2 k (fun w => by rcases w with w | ⟨w, -⟩ <;> omega)
  by_cases d18 : o = 18
  · subst d18
    exact c18.2.2 k (fun w => by rcases w with w | ⟨w, -⟩ <;> omega)
  · exact absurd (by unfold ct; rw [if_neg d16, if_neg d5, if_neg d18]) q
end AEs
