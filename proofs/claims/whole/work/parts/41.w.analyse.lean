set_option maxRecDepth 100000
/-! Analysis.analyse, whole -/
section AYs
variable {d : Nat} {h : mh_H} {Y C E TT UU SC SP nC nE nS : Nat} {G : pgm} {cnt : Nat} {I : mh_H → Prop}
theorem v_1 (EF : EFF Y C E TT UU SC SP nC nE nS G cnt I) (hI : hIp Y C E TT UU SC SP nC nE nS I) (B : BS h Y C E TT UU SC SP nC nE nS) (H : PH h G cnt) (i0 : I h) (nu : nul h) (n6 : mh_r h 53 6 ≠ none) (kn : ∀ i, i < 250 → mh_r h 54 i = none ∨ ∃ v, pv h 54 i v) {f : Nat} {r : Nat → Nat} (wb : WB G f 0 (cnt - 1) 0 0 r) : ∃ h' ω, wW ω = 0 ∧ zS (aV 0) (aU 0) h h' ∧ BS h' Y C E TT UU SC SP nC nE nS ∧ PH h' G cnt ∧ I h' ∧ nul h' ∧ mh_r h' 53 6 ≠ none ∧ (∀ i, i < 250 → mh_r h' 54 i = none ∨ ∃ v, pv h' 54 i v) ∧ ((wW (DB G f 0 (cnt - 1) (some A00) ω).2.1 ≤ 4000 ∧ mh_i h' 53 2 = Int32.ofNat (wW (DB G f 0 (cnt - 1) (some A00) ω).2.1) ∧ mh_i h' 53 3 = 0 ∧ (∀ q, q + 1 < cnt → pv h' 54 q (wK (DB G f 0 (cnt - 1) (some A00) ω).2.1 q) ∧ mh_i h' 55 q = wA (DB G f 0 (cnt - 1) (some A00) ω).2.1 q) ∧ pv h' 54 (cnt - 1) (o_keep 0 0 (DB G f 0 (cnt - 1) (some A00) ω).1) ∧ mh_i h' 55 (cnt - 1) = 0) ∨ (4000 < wW (DB G f 0 (cnt - 1) (some A00) ω).2.1 ∧ mh_i h' 53 2 = 0 ∧ mh_i h' 53 3 = 1 ∧ ∀ q, q < cnt → pv h' 54 q none ∧ mh_i h' 55 q = 0)) ∧ ∀ Q, mcall (d + 7) 1 [.ref 53] h Q = Q none h' := by
  have cb := H.b
  obtain ⟨h1, K, x1, N1, kn1, run1⟩ := an_0 (d := d) hI B H i0 nu n6 kn
  have sA : shp 0 0 r (some A00) := fun D hD => by
    cases hD
    exact ⟨A00_T, rfl, rfl, fun x hx => absurd hx (Nat.not_lt_zero _)⟩
  have w0 : wW (K, mh_i h1 55, 0) = 0 := rfl
  obtain ⟨h2, r2, x2, hr2, o2, g2⟩ := S_all (d := d) EF hI f 0 (cnt - 1) 0 0 r (some A00) (K, mh_i h1 55, 0) 0 h1 0 N1 (Or.inl ⟨rfl, by omega⟩) wb sA (by omega) (Nat.le_refl _) (Or.inl rfl) (by rw [w0]; omega)
  rw [w0] at hr2
  obtain ⟨x3, e3⟩ := g2 none
  have x12 : zS (aV 0) (aU 0) h h2 := zS_t (zS_w x1 (fun b j z => by unfold aV; omega) (fun b j z => by unfold aU; omega)) x2
  obtain ⟨D, hD⟩ : ∃ D, DB G f 0 (cnt - 1) (some A00) (K, mh_i h1 55, 0) = D := ⟨_, rfl⟩
  rw [hD] at hr2 o2
  have uA : ∀ b j, aU 0 b j → aI b := fun b j u => aU_I u
  rcases o2 with ⟨w2, N2⟩ | ⟨w2, T2⟩
  · obtain ⟨h3, x3', B3, q1, q2, a55, run3⟩ := en_0 (d := d) (x2 := some (.int (Int32.ofNat r2))) (x3 := x3) N2.B N2.H N2.kn (pv_n (N2.pk (cnt - 1) (by omega)))
    have g53 := N2.B.F.g 53 0 17 (by decide +kernel)
    have g55 := N2.B.F.g 55 100 250 (by decide +kernel)
    have i3 : ∀ j, mh_i h3 53 j = mh_i h2 53 j := fun j => x3'.ii 53 0 j g53 (by decide) (by decide) (by unfold eff; omega) (by omega)
    have a33 : mh_i h3 53 3 = 0 := by rw [i3]; exact N2.a3
    have x13 : zS (aV 0) (aU 0) h h3 := zS_t x12 (zS_w x3' (fun b j z => by unfold aV; omega) (fun b j z => by unfold aU; omega))
    have old : ∀ q, q < cnt → q ≠ cnt - 1 → pv h3 54 q (wK D.2.1 q) := fun q hq hn => x3'.pp 54 q _ (by unfold isPl; omega) (by omega) (N2.pk q hq)
    have al3 : ∀ q, q + 1 < cnt → mh_i h3 55 q = wA D.2.1 q := fun q hq => by
      rw [x3'.ii 55 100 q g55 (by decide) (by decide) (by unfold eff; omega) (by omega)]; exact N2.pa q (by omega)
    refine ⟨h3, _, w0, x13, B3, PH_s B x13 uA H, hI h h3 _ _ B x13 uA i0, nul_s x3' (fun b j hb z => by omega) N2.nu, pv_n q1, fun i hi => ?_, by rw [hD]; exact Or.inl ⟨w2, by rw [i3]; exact N2.a2, a33, fun q hq => ⟨old q (by omega) (by omega), al3 q hq⟩, q2, a55⟩, fun Q => ?_⟩
    · by_cases c : i < cnt
      · by_cases c2 : i = cnt - 1
        · rw [c2]; exact Or.inr ⟨_, q2⟩
        · exact Or.inr ⟨_, old i c c2⟩
      · exact pm_s x3' (fun i hi z => by omega) N2.pm i hi (by omega)
    · rw [run1 Q, e3 Q, ex_1 N2 (by omega) Q, run3 Q, en_n B3 a33 Q]
  · obtain ⟨v, kv⟩ := T2.kn
    obtain ⟨h3, x3', B3, q1, q2, a55, run3⟩ := en_0 (d := d) (x2 := some (.int (Int32.ofNat r2))) (x3 := x3) T2.B T2.H kv (T2.pk (cnt - 1) (by omega))
    have g53 := T2.B.F.g 53 0 17 (by decide +kernel)
    have a33 : mh_i h3 53 3 = 1 := by rw [x3'.ii 53 0 3 g53 (by decide) (by decide) (by unfold eff; omega) (by omega)]; exact T2.a3
    have H3 := PH_s T2.B x3' (fun b j u => by unfold aI; omega) T2.H
    obtain ⟨h4, x4, B4, n64, b2, b3, all, run4⟩ := en_t (d := d) (x2 := some (.int (Int32.ofNat r2))) (x3 := x3) B3 H3 q1 a33 (fun q hq => x3'.pn 54 q (by unfold isPl; omega) (by decide) (T2.pk q hq))
    have x14 : zS (aV 0) (aU 0) h h4 := zS_t x12 (zS_t (zS_w x3' (fun b j z => by unfold aV; omega) (fun b j z => by unfold aU; omega)) (zS_w x4 (fun b j z => by unfold aV; omega) (fun b j z => by unfold aU; omega)))
    refine ⟨h4, _, w0, x14, B4, PH_s B x14 uA H, hI h h4 _ _ B x14 uA i0, nul_s x4 (fun b j hb z => by omega) (nul_s x3' (fun b j hb z => by omega) T2.nu), n64, fun i hi => ?_, by rw [hD]; exact Or.inr ⟨w2, b2, b3, all⟩, fun Q => ?_⟩
    · by_cases c : i < cnt
      · exact Or.inr ⟨_, (all i c).1⟩
      · exact pm_s x4 (fun i hi z => by omega) (pm_s x3' (fun i hi z => by omega) T2.pm) i hi (by omega)
    · rw [run1 Q, e3 Q, ex_2 T2 (by omega) Q, run3 Q, run4 Q]
end AYs
