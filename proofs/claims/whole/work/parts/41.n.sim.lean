set_option maxRecDepth 100000
/-! Analysis.analyse: its loop is the pure analysis: beginnings -/
def gA (d cnt : Nat) (h : mh_H) (r0 : Nat) (h1 : mh_H) (r1 : Nat) : Prop := ∀ x3 : Option Value, ∃ x4 : Option Value, ∀ Q, mw (d + 7) 1 Q 80 [some (.ref 53), some (.int (Int32.ofNat (cnt - 1))), some (.int (Int32.ofNat r0)), x3] [] h = mw (d + 7) 1 Q 80 [some (.ref 53), some (.int (Int32.ofNat (cnt - 1))), some (.int (Int32.ofNat r1)), x4] [] h1
def TX (h : mh_H) (Y C E TT UU SC SP nC nE nS : Nat) (G : pgm) (cnt : Nat) (I : mh_H → Prop) : Prop := (BS h Y C E TT UU SC SP nC nE nS) ∧ (PH h G cnt) ∧ (I h) ∧ (∃ v, pv h 53 6 v) ∧ (mh_i h 53 3 = 1) ∧ (∀ q, q < cnt → mh_r h 54 q ≠ none) ∧ (nul h) ∧ (∀ i, i < 250 → cnt ≤ i → mh_r h 54 i = none ∨ ∃ v, pv h 54 i v)
theorem TX.of {h : mh_H} {Y C E TT UU SC SP nC nE nS : Nat} {G : pgm} {cnt : Nat} {I : mh_H → Prop} (q : (BS h Y C E TT UU SC SP nC nE nS) ∧ (PH h G cnt) ∧ (I h) ∧ (∃ v, pv h 53 6 v) ∧ (mh_i h 53 3 = 1) ∧ (∀ q, q < cnt → mh_r h 54 q ≠ none) ∧ (nul h) ∧ (∀ i, i < 250 → cnt ≤ i → mh_r h 54 i = none ∨ ∃ v, pv h 54 i v)) : TX h Y C E TT UU SC SP nC nE nS G cnt I := q
theorem TX.B {h : mh_H} {Y C E TT UU SC SP nC nE nS : Nat} {G : pgm} {cnt : Nat} {I : mh_H → Prop} (q : TX h Y C E TT UU SC SP nC nE nS G cnt I) : BS h Y C E TT UU SC SP nC nE nS := q.1
theorem TX.H {h : mh_H} {Y C E TT UU SC SP nC nE nS : Nat} {G : pgm} {cnt : Nat} {I : mh_H → Prop} (q : TX h Y C E TT UU SC SP nC nE nS G cnt I) : PH h G cnt := q.2.1
theorem TX.i0 {h : mh_H} {Y C E TT UU SC SP nC nE nS : Nat} {G : pgm} {cnt : Nat} {I : mh_H → Prop} (q : TX h Y C E TT UU SC SP nC nE nS G cnt I) : I h := q.2.2.1
theorem TX.kn {h : mh_H} {Y C E TT UU SC SP nC nE nS : Nat} {G : pgm} {cnt : Nat} {I : mh_H → Prop} (q : TX h Y C E TT UU SC SP nC nE nS G cnt I) : ∃ v, pv h 53 6 v := q.2.2.2.1
theorem TX.a3 {h : mh_H} {Y C E TT UU SC SP nC nE nS : Nat} {G : pgm} {cnt : Nat} {I : mh_H → Prop} (q : TX h Y C E TT UU SC SP nC nE nS G cnt I) : mh_i h 53 3 = 1 := q.2.2.2.2.1
theorem TX.pk {h : mh_H} {Y C E TT UU SC SP nC nE nS : Nat} {G : pgm} {cnt : Nat} {I : mh_H → Prop} (q : TX h Y C E TT UU SC SP nC nE nS G cnt I) : ∀ q, q < cnt → mh_r h 54 q ≠ none := q.2.2.2.2.2.1
theorem TX.nu {h : mh_H} {Y C E TT UU SC SP nC nE nS : Nat} {G : pgm} {cnt : Nat} {I : mh_H → Prop} (q : TX h Y C E TT UU SC SP nC nE nS G cnt I) : nul h := q.2.2.2.2.2.2.1
theorem TX.pm {h : mh_H} {Y C E TT UU SC SP nC nE nS : Nat} {G : pgm} {cnt : Nat} {I : mh_H → Prop} (q : TX h Y C E TT UU SC SP nC nE nS G cnt I) : ∀ i, i < 250 → cnt ≤ i → mh_r h 54 i = none ∨ ∃ v, pv h 54 i v := q.2.2.2.2.2.2.2
def OUT (h : mh_H) (Y C E TT UU SC SP nC nE nS : Nat) (G : pgm) (cnt : Nat) (I : mh_H → Prop) (p k : Nat) (s : Option ab) (ω : wd) : Prop := (wW ω ≤ 4000 ∧ AN h Y C E TT UU SC SP nC nE nS G cnt I p k s ω) ∨ (4000 < wW ω ∧ TX h Y C E TT UU SC SP nC nE nS G cnt I)
/-- the point isn't that of the statement in whose BLOCK it is -/
def topq (h : mh_H) (k p : Nat) : Prop := k = 0 ∨ ∃ q, q < p ∧ mh_i h 59 (k - 1) = Int32.ofNat q
/-- that steps leave it -/
def hIp (Y C E TT UU SC SP nC nE nS : Nat) (I : mh_H → Prop) : Prop := ∀ h h1 V U, BS h Y C E TT UU SC SP nC nE nS → zS V U h h1 → (∀ b j, U b j → aI b) → I h → I h1
def SIM (d Y C E TT UU SC SP nC nE nS : Nat) (G : pgm) (cnt : Nat) (I : mh_H → Prop) (f : Nat) : Prop := ∀ p e n a r s ω k h r0, AN h Y C E TT UU SC SP nC nE nS G cnt I p k s ω → lmt h G cnt k e → WB G f p e n a r → shp n a r s → e < cnt → k ≤ p → topq h k p → r0 + 5 * (4001 - wW ω) + 20 < 1000000 → ∃ h1 r1, zS (aV k) (aU k) h h1 ∧ r1 ≤ r0 + 5 * (min (wW (DB G f p e s ω).2.1) 4001 - wW ω) + 1 ∧ OUT h1 Y C E TT UU SC SP nC nE nS G cnt I e k (DB G f p e s ω).1 (DB G f p e s ω).2.1 ∧ gA d cnt h r0 h1 r1
section SIs
variable {V U : Nat → Nat → Prop} {d : Nat} {h h1 h2 : mh_H} {Y C E TT UU SC SP nC nE nS : Nat} {G : pgm} {cnt k p e r0 r1 r2 f : Nat} {I : mh_H → Prop} {s : Option ab} {ω : wd} {A : ab}
theorem gA_id : gA d cnt h r0 h r0 := fun x3 => ⟨x3, fun _ => rfl⟩
theorem gA_t (x : gA d cnt h r0 h1 r1) (y : gA d cnt h1 r1 h2 r2) : gA d cnt h r0 h2 r2 := fun x3 => by
  obtain ⟨x4, e4⟩ := x x3
  obtain ⟨x5, e5⟩ := y x4
  exact ⟨x5, fun Q => (e4 Q).trans (e5 Q)⟩
theorem lmt_s (B : BS h Y C E TT UU SC SP nC nE nS) (x : zS V U h h1) (hU : ∀ b, b = 59 ∨ b = 60 → 1 ≤ k → ¬ U b (k - 1)) (l : lmt h G cnt k e) : lmt h1 G cnt k e := by
  rcases l with l | ⟨q, k1, k2, e59, hq, w⟩
  · exact Or.inl l
  · have i9 : mh_i h1 59 (k - 1) = mh_i h 59 (k - 1) := x.ii 59 100 (k - 1) (B.F.g 59 100 250 (by decide +kernel)) (by decide) (by decide) (by unfold eff; omega) (hU 59 (Or.inl rfl) k1)
    have i0 : mh_i h1 60 (k - 1) = mh_i h 60 (k - 1) := x.ii 60 100 (k - 1) (B.F.g 60 100 250 (by decide +kernel)) (by decide) (by decide) (by unfold eff; omega) (hU 60 (Or.inr rfl) k1)
    exact Or.inr ⟨q, k1, k2, by rw [i9]; exact e59, hq, by rw [i0]; exact w⟩
theorem topq_s (B : BS h Y C E TT UU SC SP nC nE nS) (x : zS V U h h1) (hU : 1 ≤ k → ¬ U 59 (k - 1)) (l : topq h k p) : topq h1 k p := by
  by_cases k0 : k = 0
  · exact Or.inl k0
  · rcases l with l | ⟨q, hq, e59⟩
    · exact absurd l k0
    · exact Or.inr ⟨q, hq, by rw [x.ii 59 100 (k - 1) (B.F.g 59 100 250 (by decide +kernel)) (by decide) (by decide) (by unfold eff; omega) (hU (by omega))]; exact e59⟩
theorem aU_59 {b : Nat} (hb : b = 59 ∨ b = 60) (hk : 1 ≤ k) : ¬ aU k b (k - 1) := by unfold aU; omega
theorem aV_1 {b j : Nat} (w : aV (k + 1) b j) : aV k b j := by unfold aV at w ⊢; omega
theorem aU_1 {b j : Nat} (w : aU (k + 1) b j) : aU k b j := by unfold aU at w ⊢; omega
theorem go_look (N : AN h Y C E TT UU SC SP nC nE nS G cnt I p k (some A) ω) (l : lmt h G cnt k e) (hp : p < e) (he : e < cnt) (hr : r0 < 1000000) (run : ∀ Q, mcall (d + 6) 4 [.ref 53] h Q = Q none h1) : gA d cnt h r0 h1 (r0 + 1) := fun x3 => by
  have cb := N.H.b
  exact ⟨_, fun Q => (it_0 (d := d) N.B N.H N.a7 N.a9 N.a3 N.ha N.hk l (Or.inr (by omega)) hr Q).trans (it_look (d := d) N.B N.a7 hp (by omega) N.kn run Q)⟩
theorem go_skip (N : AN h Y C E TT UU SC SP nC nE nS G cnt I p k none ω) (l : lmt h G cnt k e) (hp : p < e) (he : e < cnt) (hr : r0 < 1000000) (run : ∀ Q, mcall (d + 6) 3 [.ref 53, .int (Int32.ofNat e)] h Q = Q none h1) : gA d cnt h r0 h1 (r0 + 1) := fun x3 => by
  have cb := N.H.b
  exact ⟨_, fun Q => (it_0 (d := d) N.B N.H N.a7 N.a9 N.a3 N.ha N.hk l (Or.inr (by omega)) hr Q).trans (it_skip (d := d) N.B N.a7 hp (by omega) N.kn run Q)⟩
theorem go_shut (N : AN h Y C E TT UU SC SP nC nE nS G cnt I e (k + 1) s ω) (l : lmt h G cnt (k + 1) e) (hr : r0 < 1000000) (run : ∀ Q, mcall (d + 6) 6 [.ref 53] h Q = Q none h1) : gA d cnt h r0 h1 (r0 + 1) := fun x3 => ⟨_, fun Q => (it_0 (d := d) N.B N.H N.a7 N.a9 N.a3 N.ha N.hk l (Or.inl (by omega)) hr Q).trans (it_shut (d := d) N.B N.a7 run Q)⟩
/-- nothing is known -/
theorem S_none (hI : hIp Y C E TT UU SC SP nC nE nS I) (N : AN h Y C E TT UU SC SP nC nE nS G cnt I p k none ω) (l : lmt h G cnt k e) (hp : p < e) (he : e < cnt) (hr : r0 < 1000000) : ∃ h1, zS (aV k) (aU k) h h1 ∧ AN h1 Y C E TT UU SC SP nC nE nS G cnt I e k none (wc p e ω) ∧ gA d cnt h r0 h1 (r0 + 1) := by
  have cb := N.H.b
  have sm : ∀ q, q < cnt → mh_r h 54 q ≠ none := fun q hq => by
    obtain ⟨o, eo, -⟩ := N.pk q hq
    rw [eo]; exact fun z => by cases z
  obtain ⟨h1, x1, B1, q1, q2, a7, run⟩ := c_3 (d := d + 4) N.B N.H N.a7 (by omega) (by omega : e ≤ cnt) N.kn (fun i _ hi => sm i (by omega))
  have uI : ∀ b j, skU p e b j → aI b := fun b j u => by unfold skU at u; unfold aI; omega
  have F := N.B.F
  have g53 := F.g 53 0 17 (by decide +kernel)
  have g55 := F.g 55 100 250 (by decide +kernel)
  refine ⟨h1, zS_w x1 (fun b j w => by unfold skV at w; unfold aV; omega) (fun b j w => by unfold skU at w; unfold aU; omega), AN.of ⟨B1, PH_s N.B x1 uI N.H, hI h h1 _ _ N.B x1 uI N.i0, q1, a7, ?_, ?_, ?_, N.hw, N.hk, he, fun q hq => ?_, fun q hq => ?_, nul_s x1 (fun b j hb w => by unfold skV at w; omega) N.nu, pm_s x1 (fun i hi w => by unfold skV at w; omega) N.pm⟩, go_skip N l hp he hr run⟩
  · rw [x1.ii 53 0 9 g53 (by decide) (by decide) (by unfold eff; omega) (by unfold skU; omega)]; exact N.a9
  · rw [x1.ii 53 0 2 g53 (by decide) (by decide) (by unfold eff; omega) (by unfold skU; omega)]; exact N.a2
  · rw [x1.ii 53 0 3 g53 (by decide) (by decide) (by unfold eff; omega) (by unfold skU; omega)]; exact N.a3
  · rw [wc_K]
    by_cases c : p ≤ q ∧ q < e
    · rw [if_pos c]; exact (q2 q c.1 c.2).1
    · rw [if_neg c]; exact x1.pp 54 q _ (by unfold isPl; omega) (by unfold skV; omega) (N.pk q hq)
  · rw [wc_A]
    by_cases c : p ≤ q ∧ q < e
    · rw [if_pos c]; exact (q2 q c.1 c.2).2
    · rw [if_neg c, x1.ii 55 100 q g55 (by decide) (by decide) (by unfold eff; omega) (by unfold skU; omega)]; exact N.pa q hq
/-- it is too much -/
theorem S_tm (hI : hIp Y C E TT UU SC SP nC nE nS I) (N : AN h Y C E TT UU SC SP nC nE nS G cnt I p k (some A) ω) (hw : wW ω = 4000) (l : lmt h G cnt k e) (hp : p < e) (he : e < cnt) (hr : r0 < 1000000) : ∃ h1, zS (aV k) (aU k) h h1 ∧ TX h1 Y C E TT UU SC SP nC nE nS G cnt I ∧ gA d cnt h r0 h1 (r0 + 1) := by
  have a2 := N.a2
  rw [hw] at a2
  obtain ⟨h1, x1, B1, a3, run⟩ := lo_tm (d := d + 6) N.B a2
  have uI : ∀ b j, (b = 53 ∧ (j = 2 ∨ j = 3)) → aI b := fun b j u => by unfold aI; omega
  refine ⟨h1, zS_w x1 (fun _ _ w => w.elim) (fun b j w => by unfold aU; omega), TX.of ⟨B1, PH_s N.B x1 uI N.H, hI h h1 _ _ N.B x1 uI N.i0, ⟨some A, x1.pp _ _ _ (by unfold isPl; omega) (fun z => z) N.kn⟩, a3, fun q hq => x1.pn 54 q (by unfold isPl; omega) (by decide) ?_, nul_s x1 (fun _ _ _ z => z) N.nu, pm_s x1 (fun _ _ z => z) N.pm⟩, go_look N l hp he hr run⟩
  obtain ⟨o, eo, -⟩ := N.pk q hq
  rw [eo]; exact fun z => by cases z
/-- a simple statement -/
theorem S_simple (EF : EFF Y C E TT UU SC SP nC nE nS G cnt I) (hI : hIp Y C E TT UU SC SP nC nE nS I) (N : AN h Y C E TT UU SC SP nC nE nS G cnt I p k (some A) ω) (hw : wW ω < 4000) (l : lmt h G cnt k e) (hp : p < e) (he : e < cnt) (hr : r0 < 1000000) (t : topq h k p) (sA : shp (G.n p) (G.a p) (G.rm p) (some A)) (kd : ¬ (G.kd p = 4 ∨ G.kd p = 5 ∨ G.kd p = 6)) : ∃ h1, zS (aV k) (aU k) h h1 ∧ AN h1 Y C E TT UU SC SP nC nE nS G cnt I (p + 1) k (G.fx p A).1 (wl p (some A) (G.fx p A).2.2 ω) ∧ gA d cnt h r0 h1 (r0 + 1) := by
  have cb := N.H.b
  have hk := N.hk
  obtain ⟨St, nb, nm, na, nx, q1, q2, q3, -⟩ := N.H.s p (by omega)
  obtain ⟨h0, x0, N0, er0, run0⟩ := AN_lo0 (d := d) hI N hw q1
  have gS0 := zS_g x0 q2
  have w := st_ne N.B q2
  have s0 : mh_i h0 St 0 = Int32.ofNat (G.kd p) := by rw [x0.ii St 9 0 q2 (by decide) (by decide) w.1 (fun z => w.2 (by unfold aI; omega))]; exact q3
  have t0 : topq h0 k p := topq_s N.B x0 (fun _ => by omega) t
  have run1 := lo_off (d := d) (h2 := h0) N0.B N0.a9 hk (by omega : p < 250) (t0.imp (fun z => z) (fun ⟨q, z1, z2⟩ => ⟨q, by omega, by omega, z2⟩)) gS0 s0 (N.H.k p (by omega)).1 (Or.inr ⟨kd, rfl⟩)
  obtain ⟨h1, x1, N1, -, run2⟩ := AN_lo2 (d := d) (x3 := some (.int 0)) EF hI N0 (by omega) sA gS0 s0 (Or.inl ⟨fun z => kd (Or.inr (Or.inl z)), fun z => absurd (Or.inr (Or.inr z)) kd⟩)
  refine ⟨h1, zS_t (zS_w x0 (fun _ _ z => z.elim) (fun b j z => by unfold aU; omega)) (zS_w x1 (fun b j z => ?_) (fun b j z => by unfold aU; omega)), N1, go_look N l hp he hr (fun Q => by rw [run0 Q, run1 Q, run2 Q])⟩
  rcases z with z | ⟨z1, z2, z3⟩
  · unfold loV at z; unfold aV; omega
  · exact absurd (z3.elim (fun y => Or.inr (Or.inl y)) (fun y => Or.inr (Or.inr y.1))) kd
end SIs
