set_option maxRecDepth 100000
/-! Analysis.analyse: a round of a while -/
def finD (G : pgm) (rc : rc3) (p : Nat) (S : Option ab) (t : Option ab × Option ab × wd × Nat) : rs3 := if 4000 < wW t.2.2.1 then (t.2.1, t.2.2.1, t.2.2.2) else ((rnd G rc p S t.1 t.2.2.1).2.1, (rnd G rc p S t.1 t.2.2.1).2.2.1, max t.2.2.2 (6 + (rnd G rc p S t.1 t.2.2.1).2.2.2))
noncomputable def trsD (G : pgm) (rc : rc3) (p : Nat) (S : Option ab) (g : Nat) (h n be : Option ab) (ω : wd) (mx : Nat) : rs3 := finD G rc p S (trs G rc p S g h n be ω mx)
noncomputable def clmD (G : pgm) (rc : rc3) (p : Nat) (S : Option ab) (g : Nat) (h told n be : Option ab) (ω : wd) (mx r : Nat) : rs3 := trsD G rc p S 2 (clm G rc p S g h told n be ω mx r).1 (clm G rc p S g h told n be ω mx r).2.1 (clm G rc p S g h told n be ω mx r).2.2.1 (clm G rc p S g h told n be ω mx r).2.2.2.1 (clm G rc p S g h told n be ω mx r).2.2.2.2
theorem lop_D {G : pgm} {rc : rc3} {p : Nat} {S : Option ab} {ω : wd} : lop G rc p S ω = clmD G rc p S 4001 S S (rnd G rc p S S ω).1 (rnd G rc p S S ω).2.1 (rnd G rc p S S ω).2.2.1 (4 + (rnd G rc p S S ω).2.2.2) 1 := rfl
theorem finD_w {G : pgm} {rc : rc3} {p : Nat} {S : Option ab} {t : Option ab × Option ab × wd × Nat} (R : RW rc) : wW t.2.2.1 ≤ wW (finD G rc p S t).2.1 := by
  unfold finD
  split
  · exact Nat.le_refl _
  · exact Nat.le_trans (Nat.le_add_right _ _) (rnd_w (S := S) (h := t.1) R)
theorem trsD_w {G : pgm} {rc : rc3} {p : Nat} {S : Option ab} {g mx : Nat} {h n be : Option ab} {ω : wd} (R : RW rc) : wW ω ≤ wW (trsD G rc p S g h n be ω mx).2.1 := Nat.le_trans (trs_w (G := G) (p := p) (S := S) R g h n be ω mx) (finD_w R)
theorem clmD_w {G : pgm} {rc : rc3} {p : Nat} {S : Option ab} {g mx r : Nat} {h told n be : Option ab} {ω : wd} (R : RW rc) : wW ω ≤ wW (clmD G rc p S g h told n be ω mx r).2.1 := Nat.le_trans (clm_w (G := G) (p := p) (S := S) R g h told n be ω mx r) (trsD_w R)
/-- what stays of a level -/
def FR (h h1 : mh_H) (k : Nat) : Prop := (∀ b, b = 59 ∨ b = 60 ∨ b = 65 ∨ b = 66 → mh_i h1 b k = mh_i h b k) ∧ (∀ b, b = 62 ∨ b = 63 ∨ b = 64 → ∀ v, pv h b k v → pv h1 b k v) ∧ (mh_r h 61 k ≠ none → mh_r h1 61 k ≠ none)
theorem FR.of {h h1 : mh_H} {k : Nat} (q : (∀ b, b = 59 ∨ b = 60 ∨ b = 65 ∨ b = 66 → mh_i h1 b k = mh_i h b k) ∧ (∀ b, b = 62 ∨ b = 63 ∨ b = 64 → ∀ v, pv h b k v → pv h1 b k v) ∧ (mh_r h 61 k ≠ none → mh_r h1 61 k ≠ none)) : FR h h1 k := q
theorem FR.fi {h h1 : mh_H} {k : Nat} (q : FR h h1 k) : ∀ b, b = 59 ∨ b = 60 ∨ b = 65 ∨ b = 66 → mh_i h1 b k = mh_i h b k := q.1
theorem FR.fp {h h1 : mh_H} {k : Nat} (q : FR h h1 k) : ∀ b, b = 62 ∨ b = 63 ∨ b = 64 → ∀ v, pv h b k v → pv h1 b k v := q.2.1
theorem FR.fn {h h1 : mh_H} {k : Nat} (q : FR h h1 k) : mh_r h 61 k ≠ none → mh_r h1 61 k ≠ none := q.2.2
section SWs
variable {d : Nat} {h : mh_H} {Y C E TT UU SC SP nC nE nS : Nat} {G : pgm} {cnt k p e r0 f n a : Nat} {r : Nat → Nat} {I : mh_H → Prop} {ω : wd} {A : ab}
theorem FR_t {h h1 h2 : mh_H} (x : FR h h1 k) (y : FR h1 h2 k) : FR h h2 k := FR.of ⟨fun b hb => (y.fi b hb).trans (x.fi b hb), fun b hb v q => y.fp b hb v (x.fp b hb v q), fun q => y.fn (x.fn q)⟩
theorem FR_1 {h h1 : mh_H} (B : BS h Y C E TT UU SC SP nC nE nS) (x : zS (aV (k + 1)) (aU (k + 1)) h h1) : FR h h1 k := FR.of ⟨fun b hb => lv_i B x hb, fun b hb v q => lv_p x (by omega) q, fun q => x.pn 61 k (by unfold isPl; omega) (by decide) q⟩
theorem FR_z {V U : Nat → Nat → Prop} {h h1 : mh_H} (B : BS h Y C E TT UU SC SP nC nE nS) (x : zS V U h h1) (hU : ∀ b, b = 59 ∨ b = 60 ∨ b = 65 ∨ b = 66 → ¬ U b k) (hV : ∀ b, b = 62 ∨ b = 63 ∨ b = 64 → ¬ V b k) : FR h h1 k := by
  refine FR.of ⟨fun b hb => ?_, fun b hb v q => x.pp b k v (by unfold isPl; omega) (hV b hb) q, fun q => x.pn 61 k (by unfold isPl; omega) (by decide) q⟩
  have g : mg h b 100 := by
    have F := B.F
    rcases hb with e | e | e | e <;> subst e
    · exact F.g 59 100 250 (by decide +kernel)
    · exact F.g 60 100 250 (by decide +kernel)
    · exact F.g 65 100 250 (by decide +kernel)
    · exact F.g 66 100 250 (by decide +kernel)
  exact x.ii b 100 k g (by decide) (by decide) (by unfold eff; omega) (hU b hb)
/-- what is given of a while -/
def WG (G : pgm) (f p cnt k n a : Nat) (r : Nat → Nat) : Prop := (G.kd p = 6) ∧ (G.n p = n) ∧ (G.a p = a) ∧ (∀ x, x < a → r x = G.rm p x) ∧ (p < G.E p) ∧ (G.E p < cnt) ∧ (∀ A, shp n a r (some A) → shp n a r (G.fx p A).1 ∧ shp n a r (G.fx p A).2.1) ∧ (WB G f (p + 1) (G.E p) n a r) ∧ (k ≤ p)
theorem WG.of {G : pgm} {f p cnt k n a : Nat} {r : Nat → Nat} (q : (G.kd p = 6) ∧ (G.n p = n) ∧ (G.a p = a) ∧ (∀ x, x < a → r x = G.rm p x) ∧ (p < G.E p) ∧ (G.E p < cnt) ∧ (∀ A, shp n a r (some A) → shp n a r (G.fx p A).1 ∧ shp n a r (G.fx p A).2.1) ∧ (WB G f (p + 1) (G.E p) n a r) ∧ (k ≤ p)) : WG G f p cnt k n a r := q
theorem WG.kd {G : pgm} {f p cnt k n a : Nat} {r : Nat → Nat} (q : WG G f p cnt k n a r) : G.kd p = 6 := q.1
theorem WG.e1 {G : pgm} {f p cnt k n a : Nat} {r : Nat → Nat} (q : WG G f p cnt k n a r) : G.n p = n := q.2.1
theorem WG.e2 {G : pgm} {f p cnt k n a : Nat} {r : Nat → Nat} (q : WG G f p cnt k n a r) : G.a p = a := q.2.2.1
theorem WG.e3 {G : pgm} {f p cnt k n a : Nat} {r : Nat → Nat} (q : WG G f p cnt k n a r) : ∀ x, x < a → r x = G.rm p x := q.2.2.2.1
theorem WG.hE1 {G : pgm} {f p cnt k n a : Nat} {r : Nat → Nat} (q : WG G f p cnt k n a r) : p < G.E p := q.2.2.2.2.1
theorem WG.hE2 {G : pgm} {f p cnt k n a : Nat} {r : Nat → Nat} (q : WG G f p cnt k n a r) : G.E p < cnt := q.2.2.2.2.2.1
theorem WG.hf {G : pgm} {f p cnt k n a : Nat} {r : Nat → Nat} (q : WG G f p cnt k n a r) : ∀ A, shp n a r (some A) → shp n a r (G.fx p A).1 ∧ shp n a r (G.fx p A).2.1 := q.2.2.2.2.2.2.1
theorem WG.wb {G : pgm} {f p cnt k n a : Nat} {r : Nat → Nat} (q : WG G f p cnt k n a r) : WB G f (p + 1) (G.E p) n a r := q.2.2.2.2.2.2.2.1
theorem WG.kp {G : pgm} {f p cnt k n a : Nat} {r : Nat → Nat} (q : WG G f p cnt k n a r) : k ≤ p := q.2.2.2.2.2.2.2.2
theorem WG.sh {G : pgm} {f p cnt k n a : Nat} {r : Nat → Nat} {A : ab} (w : WG G f p cnt k n a r) (sA : shp n a r (some A)) : shp (G.n p) (G.a p) (G.rm p) (some A) := fun D hD => by
  obtain ⟨u1, u2, u3, u4⟩ := sA D hD
  exact ⟨u1, u2.trans w.e1.symm, u3.trans w.e2.symm, fun x hx => by rw [w.e2] at hx; rw [u4 x hx, w.e3 x hx]⟩
/-- the BLOCK of a while, and the look at it where it is open -/
theorem S_rnd (EF : EFF Y C E TT UU SC SP nC nE nS G cnt I) (hI : hIp Y C E TT UU SC SP nC nE nS I) (ih : SIM d Y C E TT UU SC SP nC nE nS G cnt I f) (w : WG G f p cnt k n a r) (S : Option ab) (N : AN h Y C E TT UU SC SP nC nE nS G cnt I p (k + 1) (some A) ω) (sA : shp n a r (some A)) (a59 : mh_i h 59 k = Int32.ofNat p) {ph : Nat} (a60 : mh_i h 60 k = Int32.ofNat ph) (hph : ph ≤ 2) (n61 : mh_r h 61 k ≠ none) (hr : r0 + 5 * (4001 - wW ω) + 20 < 1000000) : ∃ h1 r1, zS (aV k) (aU k) h h1 ∧ r1 + 1 ≤ r0 + 5 * (min (wW (rnd G (DB G f) p S (some A) ω).2.2.1) 4001 - wW ω) ∧ gA d cnt h r0 h1 r1 ∧ ((4000 < wW (rnd G (DB G f) p S (some A) ω).2.2.1 ∧ TX h1 Y C E TT UU SC SP nC nE nS G cnt I) ∨ (∃ s1, wW ω < wW (rnd G (DB G f) p S (some A) ω).2.2.1 ∧ wW (rnd G (DB G f) p S (some A) ω).2.2.1 ≤ 4000 ∧ (rnd G (DB G f) p S (some A) ω).1 = o_join S (o_keep n a s1) ∧ shg n a r s1 ∧ AN h1 Y C E TT UU SC SP nC nE nS G cnt I (G.E p) (k + 1) s1 (rnd G (DB G f) p S (some A) ω).2.2.1 ∧ FR h h1 k ∧ (ph = 2 → pv h1 61 k (rnd G (DB G f) p S (some A) ω).2.1) ∧ (ph < 2 → ∀ v, pv h 61 k v → pv h1 61 k v))) := by
  have cb := N.H.b
  have hk := N.hk
  have kd := w.kd
  have hE1 := w.hE1
  have hE2 := w.hE2
  have kp := w.kp
  have W1 : wW (wl p (some A) (G.fx p A).2.2 ω) = wW ω + 1 := rfl
  have rn1 : (rnd G (DB G f) p S (some A) ω).1 = o_join S (o_keep n a (DB G f (p + 1) (G.E p) (G.fx p A).1 (wl p (some A) (G.fx p A).2.2 ω)).1) := by rw [← w.e1, ← w.e2]; rfl
  have rn2 : (rnd G (DB G f) p S (some A) ω).2.1 = (G.fx p A).2.1 := rfl
  have rn3 : (rnd G (DB G f) p S (some A) ω).2.2.1 = (DB G f (p + 1) (G.E p) (G.fx p A).1 (wl p (some A) (G.fx p A).2.2 ω)).2.1 := rfl
  rw [rn1, rn2, rn3]
  have wm := DB_w G f (p + 1) (G.E p) (G.fx p A).1 (wl p (some A) (G.fx p A).2.2 ω)
  rw [W1] at wm
  have nw := N.hw
  have l : lmt h G cnt (k + 1) (G.E p) := Or.inr ⟨p, by omega, by omega, a59, by omega, Or.inr ⟨Or.inr (Or.inr kd), rfl⟩⟩
  by_cases c4 : wW ω = 4000
  · obtain ⟨h1, x1, T1, g1⟩ := S_tm (d := d) (r0 := r0) hI N c4 l hE1 hE2 (by omega)
    exact ⟨h1, r0 + 1, zS_w x1 (fun b j z => aV_1 z) (fun b j z => aU_1 z), by omega, g1, Or.inl ⟨by omega, T1⟩⟩
  · obtain ⟨St, nb, nm, na, nx, q1, q2, q3, -⟩ := N.H.s p (by omega)
    obtain ⟨h0, x0, N0, er0, run0⟩ := AN_lo0 (d := d) hI N (by omega) q1
    have gS0 := zS_g x0 q2
    have ws := st_ne N.B q2
    have s0 : mh_i h0 St 0 = Int32.ofNat (G.kd p) := by rw [x0.ii St 9 0 q2 (by decide) (by decide) ws.1 (fun z => ws.2 (by unfold aI; omega))]; exact q3
    have f0 : FR h h0 k := FR_z N.B x0 (fun b hb => by omega) (fun b hb z => z)
    have b59 : mh_i h0 59 k = Int32.ofNat p := by rw [f0.fi 59 (by omega)]; exact a59
    have b60 : mh_i h0 60 k = Int32.ofNat ph := by rw [f0.fi 60 (by omega)]; exact a60
    have run1 := lo_on (d := d) (St := St) N0.B N0.a9 (by omega : k < 250) b59
    have e2i : (2 : Int32) = Int32.ofNat 2 := rfl
    obtain ⟨h1, x1, N1, q61, run2⟩ := AN_lo2 (d := d) (x3 := some (.int 1)) EF hI N0 (by omega) (w.sh sA) gS0 s0 (by
      by_cases c2 : ph = 2
      · exact Or.inr ⟨k, rfl, Or.inr ⟨kd, by rw [b60, c2]; rfl⟩, f0.fn n61⟩
      · exact Or.inl ⟨by omega, fun _ => ⟨k, ph, rfl, b60, by omega⟩⟩)
    have V1 : ∀ b j, (loV p b j ∨ (b = 61 ∧ j + 1 = k + 1 ∧ (G.kd p = 5 ∨ (G.kd p = 6 ∧ mh_i h0 60 j = 2)))) → aV k b j := fun b j z => by
      rcases z with z | ⟨z1, z2, -⟩
      · unfold loV at z; unfold aV; omega
      · unfold aV; omega
    have x01 : zS (aV k) (aU k) h h1 := zS_t (zS_w x0 (fun _ _ z => z.elim) (fun b j z => by unfold aU; omega)) (zS_w x1 V1 (fun b j z => by unfold aU; omega))
    have f1 : FR h h1 k := FR_t f0 (FR_z N0.B x1 (fun b hb => by omega) (fun b hb z => by
      rcases z with z | z
      · unfold loV at z; omega
      · omega))
    have g1 : gA d cnt h r0 h1 (r0 + 1) := go_look N l hE1 hE2 (by omega) (fun Q => by rw [run0 Q, run1 Q, run2 Q])
    have c59 : mh_i h1 59 k = Int32.ofNat p := by rw [f1.fi 59 (by omega)]; exact a59
    have l1 : lmt h1 G cnt (k + 1) (G.E p) := Or.inr ⟨p, by omega, by omega, c59, by omega, Or.inr ⟨Or.inr (Or.inr kd), rfl⟩⟩
    have sf := (w.hf A sA).1
    obtain ⟨h2, r2, x2, hr2, o2, g2⟩ := ih (p + 1) (G.E p) n a r (G.fx p A).1 (wl p (some A) (G.fx p A).2.2 ω) (k + 1) h1 (r0 + 1) N1 l1 w.wb sf hE2 (by omega) (Or.inr ⟨p, by omega, c59⟩) (by omega)
    have sg := DB_shp G f (p + 1) (G.E p) n a r _ (wl p (some A) (G.fx p A).2.2 ω) w.wb sf
    generalize DB G f (p + 1) (G.E p) (G.fx p A).1 (wl p (some A) (G.fx p A).2.2 ω) = D at *
    rw [W1] at hr2
    have x2' : zS (aV k) (aU k) h1 h2 := zS_w x2 (fun b j z => aV_1 z) (fun b j z => aU_1 z)
    refine ⟨h2, r2, zS_t x01 x2', by omega, gA_t g1 g2, ?_⟩
    rcases o2 with ⟨w2, N2⟩ | ⟨w2, T2⟩
    · refine Or.inr ⟨D.1, by omega, w2, rfl, sg, N2, FR_t f1 (FR_1 N1.B x2), fun z => lv_p x2 (by omega) (q61 k rfl (Or.inr ⟨kd, by rw [b60, z]; rfl⟩)), fun z v qv => lv_p x2 (by omega) ?_⟩
      have P : isPl 61 k := by unfold isPl; omega
      refine x1.pp 61 k v P (fun y => ?_) (x0.pp 61 k v P (fun y => y) qv)
      rcases y with y | ⟨-, -, y⟩
      · unfold loV at y; omega
      · rcases y with y | ⟨-, y⟩
        · omega
        · rw [b60, e2i, nn_eq (by omega) (by omega)] at y; omega
    · exact Or.inl ⟨w2, T2⟩
/-- the end of its BLOCK -/
theorem S_end (w : WG G f p cnt k n a r) {s1 : Option ab} (N : AN h Y C E TT UU SC SP nC nE nS G cnt I (G.E p) (k + 1) s1 ω) (sg : shg n a r s1) (a59 : mh_i h 59 k = Int32.ofNat p) : ∃ h2, zS (fun b j => b = 53 ∧ j = 6) (fun _ _ => False) h h2 ∧ BS h2 Y C E TT UU SC SP nC nE nS ∧ pv h2 53 6 (o_keep n a s1) ∧ FR h h2 k ∧ (∀ v, pv h 61 k v → pv h2 61 k v) ∧ ∀ h3 r0, r0 < 1000000 → (∀ Q, mcall (d + 5) 8 [.ref 53, .int (Int32.ofNat k)] h2 Q = Q none h3) → gA d cnt h r0 h3 (r0 + 1) := by
  have hk := N.hk
  have hE1 := w.hE1
  have hE2 := w.hE2
  obtain ⟨h2, x2, B2, er2, k2, run2⟩ := sh_0 (d := d) (r := r) N.B N.H (by omega : p < cnt) (by omega : k < 250) N.a9 a59 N.kn (by rw [w.e1, w.e2]; exact sg)
  rw [w.e1, w.e2] at k2
  rw [w.kd] at run2
  refine ⟨h2, x2, B2, k2, FR_z N.B x2 (fun b hb z => z) (fun b hb z => by omega), fun v q => x2.pp 61 k v (by unfold isPl; omega) (by omega) q, fun h3 r0 hr run => go_shut N (Or.inr ⟨p, by omega, by omega, a59, by omega, Or.inr ⟨Or.inr (Or.inr w.kd), rfl⟩⟩) hr (fun Q => by rw [run2 Q]; exact sh_6 B2 run Q)⟩
end SWs
