set_option maxRecDepth 100000
/-! Analysis.look, whole -/
def aV (k b j : Nat) : Prop := b = 34 ∨ b = 51 ∨ (b = 53 ∧ j = 6) ∨ b = 54 ∨ ((b = 61 ∨ b = 62 ∨ b = 63 ∨ b = 64) ∧ k ≤ j)
def aU (k b j : Nat) : Prop := b = 53 ∨ b = 55 ∨ ((b = 59 ∨ b = 60 ∨ b = 65 ∨ b = 66) ∧ k ≤ j)
def wp (ω : wd) : wd := (wK ω, wA ω, wW ω + 1)
section LNs
variable {V U : Nat → Nat → Prop} {d : Nat} {h h1 : mh_H} {Y C E TT UU SC SP nC nE nS : Nat} {G : pgm} {cnt k k' p p' e r0 : Nat} {I : mh_H → Prop} {s s' : Option ab} {ω : wd} {A : ab}
theorem aU_I {b j : Nat} (u : aU k b j) : aI b := by unfold aU at u; unfold aI; omega
theorem nul_s (x : zS V U h h1) (hV : ∀ b j, (b = 62 ∨ b = 63 ∨ b = 64) → ¬ V b j) (N : nul h) : nul h1 := fun i hi => by
  have P : ∀ b, (b = 62 ∨ b = 63 ∨ b = 64) → isPl b i := fun b hb => by unfold isPl; omega
  rcases N i hi with ⟨n1, n2, n3⟩ | ⟨n1, n2, n3⟩
  · exact Or.inl ⟨x.pz 62 i (P 62 (by omega)) (hV 62 i (by omega)) n1, x.pz 63 i (P 63 (by omega)) (hV 63 i (by omega)) n2, x.pz 64 i (P 64 (by omega)) (hV 64 i (by omega)) n3⟩
  · exact Or.inr ⟨x.pn 62 i (P 62 (by omega)) (by omega) n1, x.pn 63 i (P 63 (by omega)) (by omega) n2, x.pn 64 i (P 64 (by omega)) (by omega) n3⟩
theorem pm_s (x : zS V U h h1) (hV : ∀ i, cnt ≤ i → ¬ V 54 i) (n : ∀ i, i < 250 → cnt ≤ i → mh_r h 54 i = none ∨ ∃ v, pv h 54 i v) : ∀ i, i < 250 → cnt ≤ i → mh_r h1 54 i = none ∨ ∃ v, pv h1 54 i v := fun i hi hc => by
  have P : isPl 54 i := by unfold isPl; omega
  exact (n i hi hc).imp (fun z => x.pz 54 i P (hV i hc) z) (fun ⟨v, z⟩ => ⟨v, x.pp 54 i v P (hV i hc) z⟩)
/-- a step that leaves what is told as it was -/
theorem AN_mk (hI : ∀ h h1 V U, BS h Y C E TT UU SC SP nC nE nS → zS V U h h1 → (∀ b j, U b j → aI b) → I h → I h1) (N : AN h Y C E TT UU SC SP nC nE nS G cnt I p k s ω) (x : zS V U h h1) (B1 : BS h1 Y C E TT UU SC SP nC nE nS) (hU : ∀ b j, U b j → aI b) (hV : ∀ q, ¬ V 54 q) (u5 : ∀ j, ¬ U 55 j) (u2 : ¬ U 53 2) (u3 : ¬ U 53 3) (kn : pv h1 53 6 s') (a7 : mh_i h1 53 7 = Int32.ofNat p') (a9 : mh_i h1 53 9 = Int32.ofNat k') (hk : k' ≤ 250) (ha : p' < cnt) (nu : nul h1) : AN h1 Y C E TT UU SC SP nC nE nS G cnt I p' k' s' ω := by
  have g53 := N.B.F.g 53 0 17 (by decide +kernel)
  have g55 := N.B.F.g 55 100 250 (by decide +kernel)
  exact AN.of ⟨B1, PH_s N.B x hU N.H, hI h h1 V U N.B x hU N.i0, kn, a7, a9, by rw [x.ii 53 0 2 g53 (by omega) (by omega) (by unfold eff; omega) u2]; exact N.a2, by rw [x.ii 53 0 3 g53 (by omega) (by omega) (by unfold eff; omega) u3]; exact N.a3, N.hw, hk, ha, fun q hq => x.pp 54 q _ (by unfold isPl; omega) (hV q) (N.pk q hq), fun q hq => by rw [x.ii 55 100 q g55 (by omega) (by omega) (by unfold eff; omega) (u5 q)]; exact N.pa q hq, nu, pm_s x (fun i _ => hV i) N.pm⟩
/-- behind the beginning -/
theorem AN_lo0 (hI : ∀ h h1 V U, BS h Y C E TT UU SC SP nC nE nS → zS V U h h1 → (∀ b j, U b j → aI b) → I h → I h1) (N : AN h Y C E TT UU SC SP nC nE nS G cnt I p k s ω) (hw : wW ω < 4000) {St : Nat} (rS : mh_r h 20 p = some St) : ∃ h', zS (fun _ _ => False) (fun b j => b = 53 ∧ j = 2) h h' ∧ AN h' Y C E TT UU SC SP nC nE nS G cnt I p k s (wp ω) ∧ mh_r h' = mh_r h ∧ ∀ Q, mcall (d + 6) 4 [.ref 53] h Q = mw (d + 6) 4 Q 41 [some (.ref 53), some (.int (Int32.ofNat p)), some (.ref St), none] [] h' := by
  have cb := N.H.b
  have ha := N.ha
  obtain ⟨h1, x1, B1, er1, w1, run⟩ := lo_0 (d := d) N.B N.a2 hw N.a7 (by omega) rS
  have g53 := N.B.F.g 53 0 17 (by decide +kernel)
  have g55 := N.B.F.g 55 100 250 (by decide +kernel)
  have uI : ∀ b j, (b = 53 ∧ j = 2) → aI b := fun b j z => by unfold aI; omega
  refine ⟨h1, x1, AN.of ⟨B1, PH_s N.B x1 uI N.H, hI h h1 _ _ N.B x1 uI N.i0, x1.pp _ _ _ (by unfold isPl; omega) (fun z => z) N.kn, ?_, ?_, w1, ?_, (by show wW ω + 1 ≤ 4000; omega), N.hk, ha, fun q hq => x1.pp 54 q _ (by unfold isPl; omega) (fun z => z) (N.pk q hq), fun q hq => ?_, nul_s x1 (fun _ _ _ z => z) N.nu, pm_s x1 (fun _ _ z => z) N.pm⟩, er1, run⟩
  · rw [x1.ii 53 0 7 g53 (by omega) (by omega) (by unfold eff; omega) (by omega)]; exact N.a7
  · rw [x1.ii 53 0 9 g53 (by omega) (by omega) (by unfold eff; omega) (by omega)]; exact N.a9
  · rw [x1.ii 53 0 3 g53 (by omega) (by omega) (by unfold eff; omega) (by omega)]; exact N.a3
  · rw [x1.ii 55 100 q g55 (by omega) (by omega) (by unfold eff; omega) (by omega)]; exact N.pa q hq
/-- from there on: known, alarms, what comes of it; then the end, by lo_3a or lo_3b -/
theorem AN_lo2 (EF : EFF Y C E TT UU SC SP nC nE nS G cnt I) (hI : ∀ h h1 V U, BS h Y C E TT UU SC SP nC nE nS → zS V U h h1 → (∀ b j, U b j → aI b) → I h → I h1) (N : AN h Y C E TT UU SC SP nC nE nS G cnt I p k (some A) (wp ω)) (hp : p + 1 < cnt) (sA : shp (G.n p) (G.a p) (G.rm p) (some A)) {St : Nat} (gS : mg h St 9) (s0 : mh_i h St 0 = Int32.ofNat (G.kd p)) (fin : (G.kd p ≠ 5 ∧ (G.kd p = 6 → ∃ k0 ph, k = k0 + 1 ∧ mh_i h 60 k0 = Int32.ofNat ph ∧ ph < 2)) ∨ ∃ k0, k = k0 + 1 ∧ (G.kd p = 5 ∨ (G.kd p = 6 ∧ mh_i h 60 k0 = 2)) ∧ mh_r h 61 k0 ≠ none) {x3 : Option Value} : ∃ h', zS (fun b j => loV p b j ∨ (b = 61 ∧ j + 1 = k ∧ (G.kd p = 5 ∨ (G.kd p = 6 ∧ mh_i h 60 j = 2)))) (fun b j => (b = 55 ∧ j = p) ∨ (b = 53 ∧ j = 7)) h h' ∧ AN h' Y C E TT UU SC SP nC nE nS G cnt I (p + 1) k (G.fx p A).1 (wl p (some A) (G.fx p A).2.2 ω) ∧ (∀ k0, k = k0 + 1 → (G.kd p = 5 ∨ (G.kd p = 6 ∧ mh_i h 60 k0 = 2)) → pv h' 61 k0 (G.fx p A).2.1) ∧ ∀ Q, mw (d + 6) 4 Q 93 [some (.ref 53), some (.int (Int32.ofNat p)), some (.ref St), x3] [] h = Q none h' := by
  have cb := N.H.b
  have hk := N.hk
  have n54 : mh_r h 54 p ≠ none := by
    obtain ⟨o, e, -⟩ := N.pk p (by omega)
    rw [e]; exact fun z => by cases z
  obtain ⟨h1, x1, B1, q1, q2, q3, a5, run1⟩ := lo_2 (d := d) (x3 := x3) EF hI N.B N.H N.i0 hp N.kn sA n54 gS s0
  have F := N.B.F
  have F1 := B1.F
  have g53 := F.g 53 0 17 (by decide +kernel)
  have g55 := F.g 55 100 250 (by decide +kernel)
  have g60 := F.g 60 100 250 (by decide +kernel)
  have g531 := F1.g 53 0 17 (by decide +kernel)
  have g551 := F1.g 55 100 250 (by decide +kernel)
  have w := st_ne N.B gS
  have gS1 := zS_g x1 gS
  have uI : ∀ b j, (b = 55 ∧ j = p) → aI b := fun b j z => by unfold aI; omega
  have s1 : mh_i h1 St 0 = Int32.ofNat (G.kd p) := by rw [x1.ii St 9 0 gS (by omega) (by omega) w.1 (fun z => w.2 (uI _ _ z))]; exact s0
  have i53 : ∀ j, mh_i h1 53 j = mh_i h 53 j := fun j => x1.ii 53 0 j g53 (by omega) (by omega) (by unfold eff; omega) (by omega)
  have i60 : ∀ j, mh_i h1 60 j = mh_i h 60 j := fun j => x1.ii 60 100 j g60 (by omega) (by omega) (by unfold eff; omega) (by omega)
  have kd8 := (N.H.k p (by omega)).1
  -- both ends give the same
  have key : ∀ (V2 : Nat → Nat → Prop) h2, (∀ b j, V2 b j → b = 61) → zS V2 (fun b j => b = 53 ∧ j = 7) h1 h2 → BS h2 Y C E TT UU SC SP nC nE nS → mh_i h2 53 7 = Int32.ofNat (p + 1) → AN h2 Y C E TT UU SC SP nC nE nS G cnt I (p + 1) k (G.fx p A).1 (wl p (some A) (G.fx p A).2.2 ω) := fun V2 h2 hV2 x2 B2 a7 => by
    have uI2 : ∀ b j, (b = 53 ∧ j = 7) → aI b := fun b j z => by unfold aI; omega
    have j53 : ∀ j, j ≠ 7 → mh_i h2 53 j = mh_i h 53 j := fun j hj => by rw [x2.ii 53 0 j g531 (by omega) (by omega) (by unfold eff; omega) (by omega)]; exact i53 j
    refine AN.of ⟨B2, PH_s B1 x2 uI2 (PH_s N.B x1 uI N.H), hI h1 h2 _ _ B1 x2 uI2 (hI h h1 _ _ N.B x1 uI N.i0), x2.pp _ _ _ (by unfold isPl; omega) (fun z => by have := hV2 _ _ z; omega) q2, a7, ?_, ?_, ?_, N.hw, hk, hp, fun q hq => ?_, fun q hq => ?_, nul_s x2 (fun b j hb z => by have := hV2 _ _ z; omega) (nul_s x1 (fun b j hb z => by unfold loV at z; omega) N.nu), pm_s x2 (fun i _ z => by have := hV2 _ _ z; omega) (pm_s x1 (fun i hi z => by unfold loV at z; omega) N.pm)⟩
    · rw [j53 9 (by omega)]; exact N.a9
    · rw [j53 2 (by omega)]; exact N.a2
    · rw [j53 3 (by omega)]; exact N.a3
    · have P : isPl 54 q := by unfold isPl; omega
      show pv h2 54 q (if q = p then some A else wK ω q)
      by_cases c : q = p
      · rw [if_pos c, c]; exact x2.pp _ _ _ (by unfold isPl; omega) (fun z => by have := hV2 _ _ z; omega) q1
      · rw [if_neg c]; exact x2.pp _ _ _ P (fun z => by have := hV2 _ _ z; omega) (x1.pp _ _ _ P (by unfold loV; omega) (N.pk q hq))
    · show mh_i h2 55 q = (if q = p then (G.fx p A).2.2 else wA ω q)
      rw [x2.ii 55 100 q g551 (by omega) (by omega) (by unfold eff; omega) (by omega)]
      by_cases c : q = p
      · rw [if_pos c, c]; exact a5
      · rw [if_neg c, x1.ii 55 100 q g55 (by omega) (by omega) (by unfold eff; omega) (by omega)]; exact N.pa q hq
  rcases fin with ⟨c5, c6⟩ | ⟨k0, ek, cc, n61⟩
  · obtain ⟨h2, x2, B2, a7, run2⟩ := lo_3a (d := d) (x3 := x3) B1 (by omega : p < 250) gS1 s1 kd8 ⟨c5, fun z => by
      obtain ⟨k0, ph, ek, e60, hph⟩ := c6 z
      exact ⟨k0, ph, by omega, by rw [i53, N.a9, ek], by rw [i60]; exact e60, hph⟩⟩
    refine ⟨h2, zS_t (zS_w x1 (fun b j z => Or.inl z) (fun b j z => Or.inl z)) (zS_w x2 (fun _ _ z => z.elim) (fun b j z => Or.inr z)), key _ h2 (fun _ _ z => z.elim) x2 B2 a7, fun k0 ek z => ?_, fun Q => by rw [run1 Q, run2 Q]⟩
    rcases z with z | ⟨z, z'⟩
    · exact absurd z c5
    · obtain ⟨k1, ph, ek1, e60, hph⟩ := c6 z
      have : k0 = k1 := by omega
      rw [this, e60] at z'
      have e2 : (2 : Int32) = Int32.ofNat 2 := rfl
      rw [e2, nn_eq (by omega) (by omega)] at z'
      omega
  · have n61' : mh_r h1 61 k0 ≠ none := x1.pn 61 k0 (by unfold isPl; omega) (by omega) n61
    obtain ⟨h2, x2, B2, q61, a7, run2⟩ := lo_3b (d := d) (x3 := x3) (k := k0) B1 (by omega : p < 250) gS1 s1 (by omega) (by rw [i53, N.a9, ek]) (cc.elim Or.inl (fun z => Or.inr ⟨z.1, by rw [i60]; exact z.2⟩)) (q3 (cc.elim Or.inl (fun z => Or.inr z.1))) n61'
    refine ⟨h2, zS_t (zS_w x1 (fun b j z => Or.inl z) (fun b j z => Or.inl z)) (zS_w x2 (fun b j z => Or.inr ⟨z.1, by omega, by rw [z.2]; exact cc⟩) (fun b j z => Or.inr z)), key _ h2 (fun _ _ z => z.1) x2 B2 a7, fun k1 ek1 z => ?_, fun Q => by rw [run1 Q, run2 Q]⟩
    have : k1 = k0 := by omega
    rw [this]; exact q61
end LNs
