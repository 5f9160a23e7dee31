set_option maxRecDepth 100000
/-! the class's end: what its layout stands on -/
/-- the heap when the layout begins -/
def bgH (hP : mh_H) (B : Nat) : mh_H := enL (leH (z8H hP) 0) B
section BHs
variable {d n B m : Nat} {h h5 hP : mh_H} {s Sc : cps}
theorem fiS_o {o j : Nat} (h1 : o < 24) (h2 : o ≠ 10) (h3 : o ≠ 11) : (fiS s).2 o j = s.2 o j := by
  have a : (fiA s).2 o j = s.2 o j := by
    unfold fiA
    rw [u2_2, if_neg (by omega), u2_2, if_neg (by omega)]
  unfold fiS
  by_cases c : s.1 9 = 0 ∨ s.2 15 (6 * (s.1 9 - 1) + 5) = -1
  · rw [if_pos c]; exact a
  · rw [if_neg c, u2_2, if_neg (by omega), u2_2, if_neg (by omega)]
    exact a
theorem fiS_s : ((fiS s).2 10 (s.1 6) = Int32.ofNat (s.1 4) ∧ (fiS s).2 11 (s.1 6) = Int32.ofNat (s.1 5)) ∧ ∀ o j, o = 10 ∨ o = 11 → j < s.1 6 → (fiS s).2 o j = s.2 o j := by
  have e : ∀ o j, o < 24 → (fiS s).2 o j = (fiA s).2 o j := fun o j ho => by
    unfold fiS
    by_cases c : s.1 9 = 0 ∨ s.2 15 (6 * (s.1 9 - 1) + 5) = -1
    · rw [if_pos c]
    · rw [if_neg c, u2_2, if_neg (by omega), u2_2, if_neg (by omega)]
  refine ⟨⟨?_, ?_⟩, fun o j ho hj => ?_⟩
  · rw [e 10 _ (by omega)]
    unfold fiA
    rw [u2_2, if_neg (by omega), u2_2, if_pos ⟨rfl, rfl⟩]
  · rw [e 11 _ (by omega)]
    unfold fiA
    rw [u2_2, if_pos ⟨rfl, rfl⟩]
  · rw [e o j (by omega)]
    unfold fiA
    rw [u2_2, if_neg (by omega), u2_2, if_neg (by omega)]
theorem z8_n : mh_n (z8H hP) = mh_n hP := by
  unfold z8H
  rw [hn_si, hn_si]
theorem z8_k {y : Nat} : mh_k (z8H hP) y = mh_k hP y ∧ mh_l (z8H hP) y = mh_l hP y ∧ mh_s (z8H hP) = mh_s hP := by
  unfold z8H
  exact ⟨by rw [hk_si, hk_si], by rw [hl_si, hl_si], by rw [hs_si, hs_si]⟩
theorem z8_r {y j : Nat} : mh_r (z8H hP) y j = mh_r hP y j := by
  unfold z8H
  rw [hr_si, hr_si]
theorem enk {y : Nat} : mh_k (enL h B) y = mh_k h y ∧ mh_l (enL h B) y = mh_l h y ∧ mh_n (enL h B) = mh_n h ∧ mh_s (enL h B) = mh_s h := by
  unfold enL
  exact ⟨by simp only [hk_si, hk_sr], by simp only [hl_si, hl_sr], by simp only [hn_si, hn_sr], by simp only [hs_si, hs_sr]⟩
theorem enr {y j : Nat} : mh_r (enL h B) y j = if y = 2 ∧ j = 1 then some (B + 5) else if y = 2 ∧ j = 0 then some B else mh_r h y j := by
  unfold enL
  simp only [hr_si, hr_sr]
theorem bgk {y : Nat} (hy : y < mh_n hP) : mh_k (bgH hP B) y = mh_k hP y ∧ mh_l (bgH hP B) y = mh_l hP y := by
  obtain ⟨a, b, -, -⟩ := le_k (h := z8H hP) (e := 0) (y := y)
  rw [z8_n, if_neg (by omega)] at a b
  obtain ⟨c1, c2, -, -⟩ := enk (h := leH (z8H hP) 0) (B := B) (y := y)
  obtain ⟨d1, d2, -⟩ := z8_k (hP := hP) (y := y)
  unfold bgH
  exact ⟨c1.trans (a.trans d1), c2.trans (b.trans d2)⟩
theorem bg_n : mh_n (bgH hP B) = mh_n hP + 1 ∧ mh_s (bgH hP B) = mh_s hP + 17 := by
  obtain ⟨-, -, a, b⟩ := le_k (h := z8H hP) (e := 0) (y := 0)
  obtain ⟨-, -, c1, c2⟩ := enk (h := leH (z8H hP) 0) (B := B) (y := 0)
  obtain ⟨-, -, d2⟩ := z8_k (hP := hP) (y := 0)
  rw [z8_n] at a
  rw [d2] at b
  unfold bgH
  exact ⟨c1.trans a, c2.trans b⟩
theorem bg_r {y j : Nat} (hy : y < mh_n hP) : mh_r (bgH hP B) y j = if y = 2 ∧ j = 1 then some (B + 5) else if y = 2 ∧ j = 0 then some B else if y = 20 ∧ j = 0 then some (mh_n hP) else mh_r hP y j := by
  unfold bgH
  rw [enr, le_r (by rw [z8_n]; exact hy), z8_n, z8_r]
theorem bg_i {y j : Nat} (hy : y < mh_n hP) (h0 : y ≠ 0) (h2 : y ≠ 2) (h21 : y ≠ 21) (h22 : y ≠ 22) : mh_i (bgH hP B) y j = mh_i hP y j := by
  unfold bgH
  rw [enL_i, if_neg (by omega), if_neg (by omega), le_i (by rw [z8_n]; exact hy) (by omega) (by omega)]
  unfold z8H
  rw [hi_si, if_neg (by omega), hi_si, if_neg (by omega)]
theorem bg_g {y c : Nat} (g : mg hP y c) : mg (bgH hP B) y c := ⟨(bgk g.2).1.trans g.1, by rw [bg_n.1]; have := g.2; omega⟩
theorem CF_bg (F : CF hP) : CF (bgH hP B) := by
  have n22 : 73 < mh_n hP := (F.g 73 104 250 (by decide +kernel)).2
  obtain ⟨F1, F2⟩ := F
  have q2 : ∀ t ∈ cfR, t.1 ≤ 73 ∧ ¬ (t.1 = 2 ∧ t.2.1 ≤ 1) ∧ t.1 ≠ 20 := by decide +kernel
  refine ⟨fun t ht => ⟨bg_g (F1 t ht).1, (bgk (F1 t ht).1.2).2.trans (F1 t ht).2⟩, fun t ht => ?_⟩
  obtain ⟨a1, a2, a3⟩ := q2 t ht
  rw [bg_r (by omega), if_neg (by omega), if_neg (by omega), if_neg (by omega)]
  exact F2 t ht
theorem CLC_of {K : Nat → Int32} {P U : Nat → Nat} {V : Nat → Int} {Bt : Nat → Int32} {sp : Nat → Nat → Bool} {T : tr} {j : Nat} (F : CF h) (hB2 : 2644 ≤ B) (hB : B ≤ mh_n h) (CB : CPB h5 B n) (CT : CTK h5 B n m Bt K P U V) (kk : ∀ b, b < B → mh_k h5 b = mh_k h b ∧ mh_l h5 b = mh_l h b) (r5 : ∀ b j, b < B → mh_r h5 b j = mh_r h b j) (H : FNH P m Sc j) : CLC (bgH (cH h5 B (fiS Sc)) B) B n m (lyDs sp (Sc.2 15) P T (Sc.1 9)) (fiS Sc) := by
  have FP : CF (cH h5 B (fiS Sc)) := CF_cH F hB2 hB CB.N kk r5
  have e8 : (fiS Sc).1 = Sc.1 := fi_8
  have nP : mh_n (cH h5 B (fiS Sc)) = B + (24 + Sc.1 8) := by rw [cH_n, e8]
  have hm := CT.m
  have hn := CB.n
  have hj := H.j
  have hN := H.N
  have hF := H.F
  have hq := CT.q j hj
  have gk : ∀ o c l, (o, c, l) ∈ cpK n → o < 24 → mg (bgH (cH h5 B (fiS Sc)) B) (B + o) c ∧ mh_l (bgH (cH h5 B (fiS Sc)) B) (B + o) = l := fun o c l ho h24 => by
    obtain ⟨a, b⟩ := CB.k (o, c, l) ho
    have lt : B + o < mh_n (cH h5 B (fiS Sc)) := by omega
    obtain ⟨x1, x2⟩ := bgk (B := B) lt
    refine ⟨⟨x1.trans ((cH_k (by omega)).trans a), by rw [bg_n.1]; omega⟩, x2.trans ((cH_l (by omega)).trans b)⟩
  have rk : ∀ o k x, (o, k, x) ∈ cpR → o < 24 → o ≠ 14 → ¬ (o = 16 ∧ k = 8) → mh_r (bgH (cH h5 B (fiS Sc)) B) (B + o) k = some (B + x) := fun o k x ho h24 h14 h16 => by
    rw [bg_r (by omega), if_neg (by omega), if_neg (by omega), if_neg (by omega), cH_r (by omega) (by omega) (by omega)]
    exact CB.r (o, k, x) ho
  have ik : ∀ o k, o < 24 + Sc.1 8 → mh_i (bgH (cH h5 B (fiS Sc)) B) (B + o) k = mh_i (cH h5 B (fiS Sc)) (B + o) k := fun o k ho => bg_i (by omega) (by omega) (by omega) (by omega) (by omega)
  have c99 : ∀ o k, o ≠ 16 → o ≠ 5 → o ≠ 18 → ct o k = 99 := fun o k h1 h2 h3 => by unfold ct; rw [if_neg h1, if_neg h2, if_neg h3]
  refine CLC.of ⟨CF_bg FP, hB2, ⟨?_, ?_, ?_, ?_, ?_⟩, ⟨?_, ?_, ?_, ?_, ?_⟩, ⟨?_, ?_, ?_, ?_⟩, ⟨?_, hn, hm.2, ?_⟩, fun k => ?_, fun t ht => ⟨?_, ?_⟩, fun i hi => ⟨?_, ⟨?_, ?_⟩, fun k => ?_⟩⟩
  · rw [bg_r (by omega), if_neg (by omega), if_pos ⟨rfl, rfl⟩]
  · exact (gk 0 10 5 (by simp [cpK]) (by omega)).1
  · exact rk 0 2 3 (by simp [cpR]) (by omega) (by omega) (by omega)
  · exact (gk 3 100 (n + 1) (by simp [cpK]) (by omega)).1
  · exact (gk 3 100 (n + 1) (by simp [cpK]) (by omega)).2
  · rw [bg_r (by omega), if_pos ⟨rfl, rfl⟩]
  · exact (gk 5 7 16 (by simp [cpK]) (by omega)).1
  · exact rk 5 12 14 (by simp [cpR]) (by omega) (by omega) (by omega)
  · exact (gk 14 105 (n / 3 + 2) (by simp [cpK]) (by omega)).1
  · exact (gk 14 105 (n / 3 + 2) (by simp [cpK]) (by omega)).2
  · exact rk 5 14 15 (by simp [cpR]) (by omega) (by omega) (by omega)
  · exact (gk 15 100 (6 * (n / 9 + 2)) (by simp [cpK]) (by omega)).1
  · exact (gk 15 100 (6 * (n / 9 + 2)) (by simp [cpK]) (by omega)).2
  · rw [ik 5 15 (by omega), cH_i5 (by omega)]
    show (if ct 5 15 = 99 then (fiS Sc).2 5 15 else Int32.ofNat ((fiS Sc).1 (ct 5 15))) = _
    have e9 : ct 5 15 = 9 := rfl
    rw [e9, if_neg (by omega), e8]
    rfl
  · show 9 * Sc.1 9 ≤ n
    omega
  · rw [e8]
    omega
  · rw [ik 15 k (by omega), cH_i5 (by omega)]
    show (if ct 15 k = 99 then (fiS Sc).2 15 k else Int32.ofNat ((fiS Sc).1 (ct 15 k))) = _
    rw [c99 15 k (by omega) (by omega) (by omega), if_pos rfl, fiS_o (by omega) (by omega) (by omega)]
    rfl
  · rw [ik 3 t (by omega), cH_i4 (by omega)]
    exact CT.p t ht
  · have := CT.q t ht
    show P t < 65536
    omega
  · rw [e8] at hi
    rw [bg_r (by omega), if_neg (by omega), if_neg (by omega), if_neg (by omega)]
    show (if B + 24 ≤ B + 14 ∧ B + 14 < B + (24 + (fiS Sc).1 8) then none else if B + 14 = B + 14 ∧ i < (fiS Sc).1 8 then some (B + (24 + i)) else if B + 14 = B + 16 ∧ i = 8 ∧ 0 < (fiS Sc).1 8 then some (B + (23 + (fiS Sc).1 8)) else mh_r h5 (B + 14) i) = _
    rw [e8, if_neg (by omega), if_pos ⟨rfl, hi⟩]
  · rw [e8] at hi
    rw [(bgk (by omega)).1]
    show (if B + 24 ≤ B + (24 + i) ∧ B + (24 + i) < B + (24 + (fiS Sc).1 8) then 9 else mh_k h5 (B + (24 + i))) = 9
    rw [e8, if_pos ⟨by omega, by omega⟩]
  · rw [e8] at hi
    rw [bg_n.1]
    omega
  · rw [e8] at hi
    rw [ik (24 + i) k (by omega), cH_i5 (by omega)]
    show (if ct (24 + i) k = 99 then (fiS Sc).2 (24 + i) k else Int32.ofNat ((fiS Sc).1 (ct (24 + i) k))) = _
    rw [c99 (24 + i) k (by omega) (by omega) (by omega), if_pos rfl]
end BHs
