set_option maxRecDepth 100000
/-! Analysis.analyse: calls and ifs -/
section SJs
variable {d : Nat} {h : mh_H} {Y C E TT UU SC SP nC nE nS : Nat} {G : pgm} {cnt k p e r0 f n a : Nat} {r : Nat → Nat} {I : mh_H → Prop} {ω : wd} {A : ab}
theorem TX_o {h1 : mh_H} {p k : Nat} {s : Option ab} {ω : wd} (hw : 4000 < wW ω) (t : TX h1 Y C E TT UU SC SP nC nE nS G cnt I) : OUT h1 Y C E TT UU SC SP nC nE nS G cnt I p k s ω := Or.inr ⟨hw, t⟩
/-- a look at a statement that opens BLOCKs: up to the beginning of its first one -/
theorem S_open (EF : EFF Y C E TT UU SC SP nC nE nS G cnt I) (hI : hIp Y C E TT UU SC SP nC nE nS I) (N : AN h Y C E TT UU SC SP nC nE nS G cnt I p k (some A) ω) (hw : wW ω < 4000) (l : lmt h G cnt k e) (hp : p < e) (he : e < cnt) (hr : r0 < 1000000) (t : topq h k p) (hkp : k ≤ p) (sA : shp (G.n p) (G.a p) (G.rm p) (some A)) (kd : G.kd p = 4 ∨ G.kd p = 5 ∨ G.kd p = 6) : ∃ h1, zS (aV k) (aU k) h h1 ∧ AN h1 Y C E TT UU SC SP nC nE nS G cnt I (p + 1) (k + 1) (G.fx p A).1 (wl p (some A) (G.fx p A).2.2 ω) ∧ mh_i h1 59 k = Int32.ofNat p ∧ mh_i h1 60 k = 0 ∧ (G.kd p = 5 → pv h1 61 k (G.fx p A).2.1) ∧ (G.kd p = 6 → mh_i h1 65 k = 0 ∧ mh_i h1 66 k = 0 ∧ mh_r h1 61 k ≠ none ∧ pv h1 62 k (some A) ∧ pv h1 63 k (some A) ∧ pv h1 64 k (some A)) ∧ gA d cnt h r0 h1 (r0 + 1) := by
  have cb := N.H.b
  have hk := N.hk
  have hk2 : k < 250 := by omega
  obtain ⟨St, nb, nm, na, nx, q1, q2, q3, -⟩ := N.H.s p (by omega)
  obtain ⟨h0, x0, N0, er0, run0⟩ := AN_lo0 (d := d) hI N hw q1
  have gS0 := zS_g x0 q2
  have w := st_ne N.B q2
  have s0 : mh_i h0 St 0 = Int32.ofNat (G.kd p) := by rw [x0.ii St 9 0 q2 (by decide) (by decide) w.1 (fun z => w.2 (by unfold aI; omega))]; exact q3
  have t0 : topq h0 k p := topq_s N.B x0 (fun _ => by omega) t
  -- what is opened
  have op : ∃ h1, zS (obV k) (obU k) h0 h1 ∧ BS h1 Y C E TT UU SC SP nC nE nS ∧ mh_i h1 53 9 = Int32.ofNat (k + 1) ∧ mh_i h1 59 k = Int32.ofNat p ∧ mh_i h1 60 k = 0 ∧ nul h1 ∧ (G.kd p = 5 ∨ G.kd p = 6 → mh_r h1 61 k ≠ none) ∧ (G.kd p = 6 → mh_i h1 65 k = 0 ∧ mh_i h1 66 k = 0 ∧ pv h1 62 k (some A) ∧ pv h1 63 k (some A) ∧ pv h1 64 k (some A)) ∧ ∀ Q, mcall (d + 5) 5 [.ref 53, .int (Int32.ofNat p)] h0 Q = Q none h1 := by
    rcases kd with c | c | c
    · obtain ⟨h1, x1, B1, a1, a2, a3, er, run⟩ := c_5c (d := d + 2) N0.B N0.H (by omega) hk2 N0.a9 c
      refine ⟨h1, x1, B1, a1, a2, a3, fun i hi => ?_, fun z => by omega, fun z => by omega, run⟩
      rw [(er i).1, (er i).2.1, (er i).2.2]; exact N0.nu i hi
    · obtain ⟨h1, x1, B1, a1, a2, a3, n61, nu, run⟩ := c_5i (d := d + 2) N0.B N0.H (by omega) hk2 N0.a9 c
      exact ⟨h1, x1, B1, a1, a2, a3, nu N0.nu, fun _ => n61, fun z => by omega, run⟩
    · obtain ⟨h1, x1, B1, a1, a2, a3, a5, a6, n61, k1, k2, k3, nu, run⟩ := c_5w (d := d + 2) N0.B N0.H N0.nu (by omega) hk2 N0.a9 c N0.kn
      exact ⟨h1, x1, B1, a1, a2, a3, nu, fun _ => n61, fun _ => ⟨a5, a6, k1, k2, k3⟩, run⟩
  obtain ⟨h1, x1, B1, a1, a2, a3, nu1, n61, kw, runo⟩ := op
  have uI1 : ∀ b j, obU k b j → aI b := fun b j u => by unfold obU at u; unfold aI; omega
  have g530 := N0.B.F.g 53 0 17 (by decide +kernel)
  have N1 : AN h1 Y C E TT UU SC SP nC nE nS G cnt I p (k + 1) (some A) (wp ω) := AN_mk hI N0 x1 B1 uI1 (fun q => by unfold obV; omega) (fun j => by unfold obU; omega) (by unfold obU; omega) (by unfold obU; omega) (x1.pp _ _ _ (by unfold isPl; omega) (by unfold obV; omega) N0.kn) (by rw [x1.ii 53 0 7 g530 (by decide) (by decide) (by unfold eff; omega) (by unfold obU; omega)]; exact N0.a7) a1 (by omega) N0.ha nu1
  have run1 := lo_off (d := d) (h2 := h1) N0.B N0.a9 hk (by omega : p < 250) (t0.imp (fun z => z) (fun ⟨q, z1, z2⟩ => ⟨q, by omega, by omega, z2⟩)) gS0 s0 (N.H.k p (by omega)).1 (Or.inl ⟨kd, runo⟩)
  have w0 := st_ne N0.B gS0
  have gS1 := zS_g x1 gS0
  have s1 : mh_i h1 St 0 = Int32.ofNat (G.kd p) := by rw [x1.ii St 9 0 gS0 (by decide) (by decide) w0.1 (fun z => w0.2 (uI1 _ _ z))]; exact s0
  have e0 : (0 : Int32) = Int32.ofNat 0 := rfl
  obtain ⟨h2, x2, N2, q61, run2⟩ := AN_lo2 (d := d) (x3 := some (.int 0)) EF hI N1 (by omega) sA gS1 s1 (by
    by_cases c5 : G.kd p = 5
    · exact Or.inr ⟨k, rfl, Or.inl c5, n61 (Or.inl c5)⟩
    · exact Or.inl ⟨c5, fun _ => ⟨k, 0, rfl, by rw [a3, e0], by omega⟩⟩)
  have F1 := B1.F
  have nU : ∀ b, b = 59 ∨ b = 60 ∨ b = 65 ∨ b = 66 → ∀ j, ¬ ((b = 55 ∧ j = p) ∨ (b = 53 ∧ j = 7)) := fun b hb j => by omega
  have i2 : ∀ b, b = 59 ∨ b = 60 ∨ b = 65 ∨ b = 66 → mg h1 b 100 → mh_i h2 b k = mh_i h1 b k := fun b hb g => x2.ii b 100 k g (by decide) (by decide) (by unfold eff; omega) (nU b hb k)
  have nV : ∀ b, b = 62 ∨ b = 63 ∨ b = 64 → ¬ (loV p b k ∨ (b = 61 ∧ k + 1 = k + 1 ∧ (G.kd p = 5 ∨ (G.kd p = 6 ∧ mh_i h1 60 k = 2)))) := fun b hb z => by
    rcases z with z | z
    · unfold loV at z; omega
    · omega
  refine ⟨h2, zS_t (zS_w x0 (fun _ _ z => z.elim) (fun b j z => by unfold aU; omega)) (zS_t (zS_w x1 (fun b j z => by unfold obV at z; unfold aV; omega) (fun b j z => by unfold obU at z; unfold aU; omega)) (zS_w x2 (fun b j z => ?_) (fun b j z => by unfold aU; omega))), N2, ?_, ?_, fun z => q61 k rfl (Or.inl z), fun z => ⟨?_, ?_, x2.pn 61 k (by unfold isPl; omega) (by decide) (n61 (Or.inr z)), ?_, ?_, ?_⟩, go_look N l hp he hr (fun Q => by rw [run0 Q, run1 Q, run2 Q])⟩
  · rcases z with z | ⟨z1, z2, -⟩
    · unfold loV at z; unfold aV; omega
    · unfold aV; omega
  · rw [i2 59 (by omega) (F1.g 59 100 250 (by decide +kernel))]; exact a2
  · rw [i2 60 (by omega) (F1.g 60 100 250 (by decide +kernel))]; exact a3
  · rw [i2 65 (by omega) (F1.g 65 100 250 (by decide +kernel))]; exact (kw z).1
  · rw [i2 66 (by omega) (F1.g 66 100 250 (by decide +kernel))]; exact (kw z).2.1
  · exact x2.pp 62 k _ (by unfold isPl; omega) (nV 62 (by omega)) (kw z).2.2.1
  · exact x2.pp 63 k _ (by unfold isPl; omega) (nV 63 (by omega)) (kw z).2.2.2.1
  · exact x2.pp 64 k _ (by unfold isPl; omega) (nV 64 (by omega)) (kw z).2.2.2.2
/-- ints and places of a level below stay -/
theorem lv_i {h h1 : mh_H} (B : BS h Y C E TT UU SC SP nC nE nS) (x : zS (aV (k + 1)) (aU (k + 1)) h h1) {b : Nat} (hb : b = 59 ∨ b = 60 ∨ b = 65 ∨ b = 66) : mh_i h1 b k = mh_i h b k := by
  have g : mg h b 100 := by
    have F := B.F
    rcases hb with e | e | e | e <;> subst e
    · exact F.g 59 100 250 (by decide +kernel)
    · exact F.g 60 100 250 (by decide +kernel)
    · exact F.g 65 100 250 (by decide +kernel)
    · exact F.g 66 100 250 (by decide +kernel)
  exact x.ii b 100 k g (by decide) (by decide) (by unfold eff; omega) (by unfold aU; omega)
theorem lv_p {h h1 : mh_H} (x : zS (aV (k + 1)) (aU (k + 1)) h h1) {b : Nat} (hb : b = 61 ∨ b = 62 ∨ b = 63 ∨ b = 64) {v : Option ab} (q : pv h b k v) : pv h1 b k v := x.pp b k v (by unfold isPl; omega) (by unfold aV; omega) q
/-- f(..); -/
theorem S_call (EF : EFF Y C E TT UU SC SP nC nE nS G cnt I) (hI : hIp Y C E TT UU SC SP nC nE nS I) (ih : SIM d Y C E TT UU SC SP nC nE nS G cnt I f) (N : AN h Y C E TT UU SC SP nC nE nS G cnt I p k (some A) ω) (hw : wW ω < 4000) (l : lmt h G cnt k e) (hp : p < e) (he : e < cnt) (hr : r0 + 5 * (4001 - wW ω) + 20 < 1000000) (t : topq h k p) (hkp : k ≤ p) (sA : shp n a r (some A)) (e1 : G.n p = n) (e2 : G.a p = a) (e3 : ∀ x, x < a → r x = G.rm p x) (hE1 : p < G.E p) (hE2 : G.E p ≤ e) (kd : G.kd p = 4) {n' : Nat} (hn : n ≤ n') (hf : ∀ A, shp n a r (some A) → shp n' a r (G.fx p A).1) (wb : WB G f (p + 1) (G.E p) n' a r) : ∃ h1 r1, zS (aV k) (aU k) h h1 ∧ r1 ≤ r0 + 5 * (min (wW (DS G (DB G f) p (some A) ω).2.1) 4001 - wW ω) ∧ OUT h1 Y C E TT UU SC SP nC nE nS G cnt I (G.E p) k (DS G (DB G f) p (some A) ω).1 (DS G (DB G f) p (some A) ω).2.1 ∧ gA d cnt h r0 h1 r1 := by
  have cb := N.H.b
  have sA' : shp (G.n p) (G.a p) (G.rm p) (some A) := fun D hD => by
    obtain ⟨u1, u2, u3, u4⟩ := sA D hD
    exact ⟨u1, u2.trans e1.symm, u3.trans e2.symm, fun x hx => by rw [e2] at hx; rw [u4 x hx, e3 x hx]⟩
  obtain ⟨h1, x1, N1, a59, a60, -, -, g1⟩ := S_open (d := d) (r0 := r0) EF hI N hw l hp he (by omega) t hkp sA' (Or.inl kd)
  have W1 : wW (wl p (some A) (G.fx p A).2.2 ω) = wW ω + 1 := rfl
  have DSe : DS G (DB G f) p (some A) ω = (o_keep (G.n p) (G.a p) (DB G f (p + 1) (G.E p) (G.fx p A).1 (wl p (some A) (G.fx p A).2.2 ω)).1, (DB G f (p + 1) (G.E p) (G.fx p A).1 (wl p (some A) (G.fx p A).2.2 ω)).2.1, 1 + (DB G f (p + 1) (G.E p) (G.fx p A).1 (wl p (some A) (G.fx p A).2.2 ω)).2.2) := by
    unfold DS
    rw [if_pos kd]
    rfl
  rw [DSe]
  have l1 : lmt h1 G cnt (k + 1) (G.E p) := Or.inr ⟨p, by omega, by have := N1.hk; omega, a59, by omega, Or.inr ⟨Or.inr (Or.inl kd), rfl⟩⟩
  obtain ⟨h2, r2, x2, hr2, o2, g2⟩ := ih (p + 1) (G.E p) n' a r (G.fx p A).1 (wl p (some A) (G.fx p A).2.2 ω) (k + 1) h1 (r0 + 1) N1 l1 wb (hf A sA) (by omega) (by omega) (Or.inr ⟨p, by omega, a59⟩) (by omega)
  have sg := DB_shp G f (p + 1) (G.E p) n' a r _ (wl p (some A) (G.fx p A).2.2 ω) wb (hf A sA)
  have x2' : zS (aV k) (aU k) h1 h2 := zS_w x2 (fun b j z => aV_1 z) (fun b j z => aU_1 z)
  have wm := DB_w G f (p + 1) (G.E p) (G.fx p A).1 (wl p (some A) (G.fx p A).2.2 ω)
  generalize DB G f (p + 1) (G.E p) (G.fx p A).1 (wl p (some A) (G.fx p A).2.2 ω) = D at *
  rw [W1] at hr2 wm
  rcases o2 with ⟨w2, N2⟩ | ⟨w2, T2⟩
  · have b59 : mh_i h2 59 k = Int32.ofNat p := by rw [lv_i N1.B x2 (by omega)]; exact a59
    have l2 : lmt h2 G cnt (k + 1) (G.E p) := Or.inr ⟨p, by omega, by have := N2.hk; omega, b59, by omega, Or.inr ⟨Or.inr (Or.inl kd), rfl⟩⟩
    obtain ⟨h3, x3, B3, er3, k3, run3⟩ := sh_0 (d := d) (r := r) N2.B N2.H (by omega : p < cnt) (by omega : k < 250) N2.a9 b59 N2.kn (by rw [e1, e2]; exact shg_t hn (Nat.le_refl _) (fun _ _ => rfl) sg)
    have g53 := N2.B.F.g 53 0 17 (by decide +kernel)
    have i3 : ∀ j, mh_i h3 53 j = mh_i h2 53 j := fun j => x3.ii 53 0 j g53 (by decide) (by decide) (by unfold eff; omega) (fun z => z)
    obtain ⟨h4, x4, B4, a9, run4⟩ := sh_4 (d := d) (x2 := some (.int (Int32.ofNat p))) B3 (by rw [i3]; exact N2.a9) (by omega : k < 250)
    have x34 : zS (fun b j => b = 53 ∧ j = 6) (fun b j => b = 53 ∧ j = 9) h2 h4 := zS_t (zS_w x3 (fun _ _ z => z) (fun _ _ z => z.elim)) (zS_w x4 (fun _ _ z => z.elim) (fun _ _ z => z))
    have N4 : AN h4 Y C E TT UU SC SP nC nE nS G cnt I (G.E p) k (o_keep (G.n p) (G.a p) D.1) D.2.1 := AN_mk hI N2 x34 B4 (fun b j u => by unfold aI; omega) (fun q => by omega) (fun j => by omega) (by omega) (by omega) (x4.pp _ _ _ (by unfold isPl; omega) (fun z => z) k3) (by rw [x34.ii 53 0 7 g53 (by decide) (by decide) (by unfold eff; omega) (by omega)]; exact N2.a7) a9 N.hk N2.ha (nul_s x34 (fun b j hb z => by omega) N2.nu)
    rw [kd] at run3
    refine ⟨h4, r2 + 1, zS_t x1 (zS_t x2' (zS_w x34 (fun b j z => by unfold aV; omega) (fun b j z => by unfold aU; omega))), by show r2 + 1 ≤ r0 + 5 * (min (wW D.2.1) 4001 - wW ω); omega, Or.inl ⟨w2, N4⟩, gA_t g1 (gA_t g2 (go_shut N2 l2 (by omega) (fun Q => by rw [run3 Q, run4 Q])))⟩
  · exact ⟨h2, r2, zS_t x1 x2', by show r2 ≤ r0 + 5 * (min (wW D.2.1) 4001 - wW ω); omega, Or.inr ⟨w2, T2⟩, gA_t g1 g2⟩
/-- if -/
theorem S_if (EF : EFF Y C E TT UU SC SP nC nE nS G cnt I) (hI : hIp Y C E TT UU SC SP nC nE nS I) (ih : SIM d Y C E TT UU SC SP nC nE nS G cnt I f) (N : AN h Y C E TT UU SC SP nC nE nS G cnt I p k (some A) ω) (hw : wW ω < 4000) (l : lmt h G cnt k e) (hp : p < e) (he : e < cnt) (hr : r0 + 5 * (4001 - wW ω) + 20 < 1000000) (t : topq h k p) (hkp : k ≤ p) (sA : shp n a r (some A)) (e1 : G.n p = n) (e2 : G.a p = a) (e3 : ∀ x, x < a → r x = G.rm p x) (hM1 : p < G.M p) (hM2 : G.M p ≤ G.E p) (hE2 : G.E p ≤ e) (kd : G.kd p = 5) (hf : ∀ A, shp n a r (some A) → shp n a r (G.fx p A).1 ∧ shp n a r (G.fx p A).2.1) (wb1 : WB G f (p + 1) (G.M p) n a r) (wb2 : WB G f (G.M p) (G.E p) n a r) : ∃ h1 r1, zS (aV k) (aU k) h h1 ∧ r1 ≤ r0 + 5 * (min (wW (DS G (DB G f) p (some A) ω).2.1) 4001 - wW ω) ∧ OUT h1 Y C E TT UU SC SP nC nE nS G cnt I (G.E p) k (DS G (DB G f) p (some A) ω).1 (DS G (DB G f) p (some A) ω).2.1 ∧ gA d cnt h r0 h1 r1 := by
  have cb := N.H.b
  have hk250 : k < 250 := by omega
  have sA' : shp (G.n p) (G.a p) (G.rm p) (some A) := fun D hD => by
    obtain ⟨u1, u2, u3, u4⟩ := sA D hD
    exact ⟨u1, u2.trans e1.symm, u3.trans e2.symm, fun x hx => by rw [e2] at hx; rw [u4 x hx, e3 x hx]⟩
  obtain ⟨h1, x1, N1, a59, a60, q61, -, g1⟩ := S_open (d := d) (r0 := r0) EF hI N hw l hp he (by omega) t hkp sA' (Or.inr (Or.inl kd))
  have q61 := q61 kd
  have W1 : wW (wl p (some A) (G.fx p A).2.2 ω) = wW ω + 1 := rfl
  have DSe : (DS G (DB G f) p (some A) ω).1 = o_join (o_keep (G.n p) (G.a p) (DB G f (p + 1) (G.M p) (G.fx p A).1 (wl p (some A) (G.fx p A).2.2 ω)).1) (o_keep (G.n p) (G.a p) (DB G f (G.M p) (G.E p) (G.fx p A).2.1 (DB G f (p + 1) (G.M p) (G.fx p A).1 (wl p (some A) (G.fx p A).2.2 ω)).2.1).1) ∧ (DS G (DB G f) p (some A) ω).2.1 = (DB G f (G.M p) (G.E p) (G.fx p A).2.1 (DB G f (p + 1) (G.M p) (G.fx p A).1 (wl p (some A) (G.fx p A).2.2 ω)).2.1).2.1 := by
    unfold DS
    rw [if_neg (by omega), if_pos kd]
    exact ⟨rfl, rfl⟩
  rw [DSe.1, DSe.2]
  have l1 : lmt h1 G cnt (k + 1) (G.M p) := Or.inr ⟨p, by omega, by omega, a59, by omega, Or.inl ⟨kd, a60, rfl⟩⟩
  obtain ⟨h2, r2, x2, hr2, o2, g2⟩ := ih (p + 1) (G.M p) n a r (G.fx p A).1 (wl p (some A) (G.fx p A).2.2 ω) (k + 1) h1 (r0 + 1) N1 l1 wb1 (hf A sA).1 (by omega) (by omega) (Or.inr ⟨p, by omega, a59⟩) (by omega)
  have sg := DB_shp G f (p + 1) (G.M p) n a r _ (wl p (some A) (G.fx p A).2.2 ω) wb1 (hf A sA).1
  have x2' : zS (aV k) (aU k) h1 h2 := zS_w x2 (fun b j z => aV_1 z) (fun b j z => aU_1 z)
  have wm := DB_w G f (p + 1) (G.M p) (G.fx p A).1 (wl p (some A) (G.fx p A).2.2 ω)
  generalize DB G f (p + 1) (G.M p) (G.fx p A).1 (wl p (some A) (G.fx p A).2.2 ω) = D at *
  rw [W1] at hr2 wm
  have wm2 := DB_w G f (G.M p) (G.E p) (G.fx p A).2.1 D.2.1
  rcases o2 with ⟨w2, N2⟩ | ⟨w2, T2⟩
  · have b59 : mh_i h2 59 k = Int32.ofNat p := by rw [lv_i N1.B x2 (by omega)]; exact a59
    have b60 : mh_i h2 60 k = 0 := by rw [lv_i N1.B x2 (by omega)]; exact a60
    have l2 : lmt h2 G cnt (k + 1) (G.M p) := Or.inr ⟨p, by omega, by omega, b59, by omega, Or.inl ⟨kd, b60, rfl⟩⟩
    obtain ⟨h3, x3, B3, er3, k3, run3⟩ := sh_0 (d := d) (r := r) N2.B N2.H (by omega : p < cnt) hk250 N2.a9 b59 N2.kn (by rw [e1, e2]; exact sg)
    have g53 := N2.B.F.g 53 0 17 (by decide +kernel)
    have q613 : pv h3 61 k (G.fx p A).2.1 := x3.pp _ _ _ (by unfold isPl; omega) (by omega) (lv_p x2 (by omega) q61)
    have b603 : mh_i h3 60 k = 0 := by rw [x3.ii 60 100 k (N2.B.F.g 60 100 250 (by decide +kernel)) (by decide) (by decide) (by unfold eff; omega) (fun z => z)]; exact b60
    rw [kd] at run3
    obtain ⟨h4, x4, B4, u1, u2, u3, run4⟩ := sh_5a (d := d) (x2 := some (.int (Int32.ofNat p))) B3 hk250 q613 k3 b603
    have x34 : zS (fun b j => (b = 61 ∧ j = k) ∨ (b = 53 ∧ j = 6)) (fun b j => b = 60 ∧ j = k) h2 h4 := zS_t (zS_w x3 (fun _ _ z => Or.inr z) (fun _ _ z => z.elim)) x4
    have N4 : AN h4 Y C E TT UU SC SP nC nE nS G cnt I (G.M p) (k + 1) (G.fx p A).2.1 D.2.1 := AN_mk hI N2 x34 B4 (fun b j u => by unfold aI; omega) (fun q => by omega) (fun j => by omega) (by omega) (by omega) u2 (by rw [x34.ii 53 0 7 g53 (by decide) (by decide) (by unfold eff; omega) (by omega)]; exact N2.a7) (by rw [x34.ii 53 0 9 g53 (by decide) (by decide) (by unfold eff; omega) (by omega)]; exact N2.a9) N2.hk N2.ha (nul_s x34 (fun b j hb z => by omega) N2.nu)
    have c59 : mh_i h4 59 k = Int32.ofNat p := by rw [x34.ii 59 100 k (N2.B.F.g 59 100 250 (by decide +kernel)) (by decide) (by decide) (by unfold eff; omega) (by omega)]; exact b59
    have g4 : gA d cnt h r0 h4 (r2 + 1) := gA_t g1 (gA_t g2 (go_shut N2 l2 (by omega) (fun Q => by rw [run3 Q, run4 Q])))
    have l4 : lmt h4 G cnt (k + 1) (G.E p) := Or.inr ⟨p, by omega, by omega, c59, by omega, Or.inr ⟨Or.inl ⟨kd, u3⟩, rfl⟩⟩
    obtain ⟨h5, r5, x5, hr5, o5, g5⟩ := ih (G.M p) (G.E p) n a r (G.fx p A).2.1 D.2.1 (k + 1) h4 (r2 + 1) N4 l4 wb2 (hf A sA).2 (by omega) (by omega) (Or.inr ⟨p, by omega, c59⟩) (by omega)
    have sg5 := DB_shp G f (G.M p) (G.E p) n a r _ D.2.1 wb2 (hf A sA).2
    have x5' : zS (aV k) (aU k) h4 h5 := zS_w x5 (fun b j z => aV_1 z) (fun b j z => aU_1 z)
    have x14 : zS (aV k) (aU k) h h4 := zS_t x1 (zS_t x2' (zS_w x34 (fun b j z => by unfold aV; omega) (fun b j z => by unfold aU; omega)))
    generalize DB G f (G.M p) (G.E p) (G.fx p A).2.1 D.2.1 = D5 at *
    rcases o5 with ⟨w5, N5⟩ | ⟨w5, T5⟩
    · have d59 : mh_i h5 59 k = Int32.ofNat p := by rw [lv_i N4.B x5 (by omega)]; exact c59
      have d60 : mh_i h5 60 k = 1 := by rw [lv_i N4.B x5 (by omega)]; exact u3
      have l5 : lmt h5 G cnt (k + 1) (G.E p) := Or.inr ⟨p, by omega, by omega, d59, by omega, Or.inr ⟨Or.inl ⟨kd, d60⟩, rfl⟩⟩
      obtain ⟨h6, x6, B6, er6, k6, run6⟩ := sh_0 (d := d) (r := r) N5.B N5.H (by omega : p < cnt) hk250 N5.a9 d59 N5.kn (by rw [e1, e2]; exact sg5)
      have g535 := N5.B.F.g 53 0 17 (by decide +kernel)
      have i6 : ∀ j, mh_i h6 53 j = mh_i h5 53 j := fun j => x6.ii 53 0 j g535 (by decide) (by decide) (by unfold eff; omega) (fun z => z)
      have d606 : mh_i h6 60 k = 1 := by rw [x6.ii 60 100 k (N5.B.F.g 60 100 250 (by decide +kernel)) (by decide) (by decide) (by unfold eff; omega) (fun z => z)]; exact d60
      have q616 : pv h6 61 k (o_keep (G.n p) (G.a p) D.1) := x6.pp _ _ _ (by unfold isPl; omega) (by omega) (lv_p x5 (by omega) u1)
      rw [kd] at run6
      have s1 : shp n a r (o_keep (G.n p) (G.a p) D.1) := by rw [e1, e2]; exact keep_shp sg
      have s5 : shp n a r (o_keep (G.n p) (G.a p) D5.1) := by rw [e1, e2]; exact keep_shp sg5
      obtain ⟨h7, x7, B7, k7, a97, run7⟩ := sh_5b (d := d) (x2 := some (.int (Int32.ofNat p))) B6 hk250 (by rw [i6]; exact N5.a9) q616 k6 (shp_2 s5 s1) d606
      have x67 : zS (fun b j => b = 53 ∧ j = 6) (fun b j => b = 53 ∧ j = 9) h5 h7 := zS_t (zS_w x6 (fun _ _ z => z) (fun _ _ z => z.elim)) x7
      have N7 : AN h7 Y C E TT UU SC SP nC nE nS G cnt I (G.E p) k (o_join (o_keep (G.n p) (G.a p) D.1) (o_keep (G.n p) (G.a p) D5.1)) D5.2.1 := AN_mk hI N5 x67 B7 (fun b j u => by unfold aI; omega) (fun q => by omega) (fun j => by omega) (by omega) (by omega) k7 (by rw [x67.ii 53 0 7 g535 (by decide) (by decide) (by unfold eff; omega) (by omega)]; exact N5.a7) a97 N.hk N5.ha (nul_s x67 (fun b j hb z => by omega) N5.nu)
      exact ⟨h7, r5 + 1, zS_t x14 (zS_t x5' (zS_w x67 (fun b j z => by unfold aV; omega) (fun b j z => by unfold aU; omega))), by omega, Or.inl ⟨w5, N7⟩, gA_t g4 (gA_t g5 (go_shut N5 l5 (by omega) (fun Q => by rw [run6 Q, run7 Q])))⟩
    · exact ⟨h5, r5, zS_t x14 x5', by omega, Or.inr ⟨w5, T5⟩, gA_t g4 g5⟩
  · exact ⟨h2, r2, zS_t x1 x2', by omega, Or.inr ⟨by omega, T2⟩, gA_t g1 g2⟩
end SJs
