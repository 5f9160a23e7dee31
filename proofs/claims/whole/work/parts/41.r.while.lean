set_option maxRecDepth 100000
/-! Analysis.analyse: heads climb; all statements -/
section SYs
variable {d : Nat} {h : mh_H} {Y C E TT UU SC SP nC nE nS : Nat} {G : pgm} {cnt k p e r0 f n a : Nat} {r : Nat → Nat} {I : mh_H → Prop} {ω : wd} {A S : ab}
theorem S_clm (EF : EFF Y C E TT UU SC SP nC nE nS G cnt I) (hI : hIp Y C E TT UU SC SP nC nE nS I) (ih : SIM d Y C E TT UU SC SP nC nE nS G cnt I f) (w : WG G f p cnt k n a r) (sS : shp n a r (some S)) : ∀ g (h : mh_H) r0 (s1 : Option ab) (H D : ab) (be : Option ab) (ω : wd) (mx rr : Nat), 4001 ≤ g + wW ω → rr + g ≤ 9000 → AN h Y C E TT UU SC SP nC nE nS G cnt I (G.E p) (k + 1) s1 ω → shg n a r s1 → mh_i h 59 k = Int32.ofNat p → mh_i h 60 k = 0 → mh_r h 61 k ≠ none → pv h 62 k (some S) → pv h 63 k (some H) → pv h 64 k (some D) → mh_i h 65 k = Int32.ofNat rr → mh_i h 66 k = Int32.ofNat 0 → CI n a r S (some H) (some D) (o_join (some S) (o_keep n a s1)) be → (∀ N, shp n a r (some N) → (o_le (some N) (some D) ↔ o_le (some N) (some H))) → r0 + 5 * (4001 - wW ω) + 21 < 1000000 → CCn d Y C E TT UU SC SP nC nE nS G cnt I p k h r0 1 (wW ω) (clmD G (DB G f) p (some S) g (some H) (some D) (o_join (some S) (o_keep n a s1)) be ω mx (rr + 1)) := by
  intro g
  induction g with
  | zero =>
    intro h r0 s1 H D be ω mx rr hg hrr N
    have := N.hw
    omega
  | succ g ihg =>
    intro h r0 s1 H D be ω mx rr hg hrr N sg a59 a60 n61 q62 q63 q64 a65 a66 ci tH hr
    have hw := N.hw
    have hk := N.hk
    have kp := w.kp
    have hE1 := w.hE1
    have hE2 := w.hE2
    have sk := keep_shp sg
    obtain ⟨N1, eN⟩ : ∃ N1, o_join (some S) (o_keep n a s1) = some N1 := by cases o_keep n a s1 <;> exact ⟨_, rfl⟩
    have sN : shp n a r (some N1) := by rw [← eN]; exact join_shp sS sk
    have sH : shp n a r (some H) := by
      obtain ⟨A', e', s', -⟩ := ci.iH
      cases e'
      exact s'
    have sD : shL n a r D ∧ oc_le n S.m D.m := by
      obtain ⟨A', e', s', l'⟩ := ci.iT
      cases e'
      exact ⟨s', l'⟩
    have lb : ∀ i j, i < 2 * n → j < 2 * n → -4294967296 ≤ D.m i j := fun i j hi hj => by
      obtain ⟨T, n1, -⟩ := sS S rfl
      have b := T.lo2 (i := i) (j := j) (by rw [n1]; exact hi) (by rw [n1]; exact hj)
      have l := sD.2 i j hi hj
      omega
    obtain ⟨h2, x2, B2, k2, F2, p2, gg⟩ := S_end (d := d) w N sg a59
    have g53 := N.B.F.g 53 0 17 (by decide +kernel)
    have i2 : ∀ j, mh_i h2 53 j = mh_i h 53 j := fun j => x2.ii 53 0 j g53 (by decide) (by decide) (by unfold eff; omega) (fun z => z)
    obtain ⟨h3, x3, B3, a7, a9, o3, c3⟩ := c_8C (d := d) (p := p) (r0 := rr) (t0 := 0) B2 (by omega : k < 250) (by rw [F2.fi 59 (by omega)]; exact a59) k2 (F2.fp 62 (by omega) _ q62) (F2.fp 63 (by omega) _ q63) (F2.fp 64 (by omega) _ q64) (F2.fn n61) sS sk sH sD.1 lb (by rw [F2.fi 60 (by omega)]; exact a60) (by rw [F2.fi 65 (by omega)]; exact a65) (by omega) (by rw [F2.fi 66 (by omega)]; exact a66) (by omega)
    have g13 : gA d cnt h r0 h3 (r0 + 1) := gg h3 r0 (by omega) c3
    have a93 : mh_i h3 53 9 = Int32.ofNat (k + 1) := by rw [a9, i2]; exact N.a9
    have q623 : pv h3 62 k (some S) := x3.pp _ _ _ (by unfold isPl; omega) (by unfold kV; omega) (F2.fp 62 (by omega) _ q62)
    have a593 : mh_i h3 59 k = Int32.ofNat p := by rw [x3.ii 59 100 k (B2.F.g 59 100 250 (by decide +kernel)) (by decide) (by decide) (by unfold eff; omega) (by unfold kX kU; omega), F2.fi 59 (by omega)]; exact a59
    have n613 : mh_r h3 61 k ≠ none := x3.pn 61 k (by unfold isPl; omega) (by decide) (F2.fn n61)
    have n621 : mh_r h 62 k ≠ none := pv_n q62
    have fin : ∀ {now : Option ab}, pv h3 53 6 now → AN h3 Y C E TT UU SC SP nC nE nS G cnt I p (k + 1) now ω ∧ zS (aV k) (aU k) h h3 := fun kn => AN_er hI N x2 x3 B3 n621 kn a7 a93 hk (by omega)
    rw [eN] at o3 ci ⊢
    rcases o3 with ⟨nle, k63, kn3, k64, b65, b60, b66⟩ | ⟨le, k63, b65, o3⟩
    · -- heads climb
      obtain ⟨N3, x13⟩ := fin kn3
      have nD : ¬ o_le (some N1) (some D) := fun z => nle ((tH N1 sN).mp z)
      obtain ⟨⟨A', a1, a2, a3⟩, ⟨D', d1, d2, d3⟩⟩ := CI_next sS ci (rr + 1)
      have e1 : clmD G (DB G f) p (some S) (g + 1) (some H) (some D) (some N1) be ω mx (rr + 1) = clmD G (DB G f) p (some S) g (some A') (some D') (rnd G (DB G f) p (some S) (some A') ω).1 (rnd G (DB G f) p (some S) (some A') ω).2.1 (rnd G (DB G f) p (some S) (some A') ω).2.2.1 (max mx (4 + (rnd G (DB G f) p (some S) (some A') ω).2.2.2)) (rr + 1 + 1) := by
        have c1 : clm G (DB G f) p (some S) (g + 1) (some H) (some D) (some N1) be ω mx (rr + 1) = clm G (DB G f) p (some S) g (some A') (some D') (rnd G (DB G f) p (some S) (some A') ω).1 (rnd G (DB G f) p (some S) (some A') ω).2.1 (rnd G (DB G f) p (some S) (some A') ω).2.2.1 (max mx (4 + (rnd G (DB G f) p (some S) (some A') ω).2.2.2)) (rr + 1 + 1) := by
          rw [clm_1, if_neg (fun z => z.elim nD (fun z => by omega)), a1, d1]
        unfold clmD
        rw [c1]
      rw [a1] at k63 kn3 N3
      rw [d1] at k64
      obtain ⟨h4, r4, x4, hr4, g4, o4⟩ := S_rnd (d := d) (r0 := r0 + 1) (ph := 0) EF hI ih w (some S) N3 a2 a593 b60 (by omega) n613 (by omega)
      rw [e1]
      have cw := clmD_w (G := G) (p := p) (S := some S) (g := g) (mx := max mx (4 + (rnd G (DB G f) p (some S) (some A') ω).2.2.2)) (r := rr + 1 + 1) (h := some A') (told := some D') (n := (rnd G (DB G f) p (some S) (some A') ω).1) (be := (rnd G (DB G f) p (some S) (some A') ω).2.1) (ω := (rnd G (DB G f) p (some S) (some A') ω).2.2.1) (DB_w G f)
      rcases o4 with ⟨w4, T4⟩ | ⟨s4, w0, w4, en4, sg4, N4, F4, -, -⟩
      · exact ⟨h4, r4, zS_t x13 x4, by omega, Or.inr ⟨by omega, T4⟩, gA_t g13 g4⟩
      · have R := DB_shp G f
        obtain ⟨⟨N', q1⟩, q2, q3, q4⟩ := rnd_shp (ω := ω) R w.e1 w.e2 w.hf w.wb sS a2
        have ci4 : CI n a r S (some A') (some D') (o_join (some S) (o_keep n a s4)) (rnd G (DB G f) p (some S) (some A') ω).2.1 := by
          rw [← en4]
          exact ⟨⟨A', rfl, a2, a3⟩, ⟨D', rfl, d2, d3⟩, ⟨N', q1, by rw [← q1]; exact q2⟩, q3⟩
        have tH4 : ∀ N, shp n a r (some N) → (o_le (some N) (some D') ↔ o_le (some N) (some A')) := fun M sM => by
          by_cases c2 : rr + 1 ≤ 2
          · rw [if_pos c2] at a1 d1
            rw [a1] at d1
            cases d1
            exact Iff.rfl
          · rw [if_neg c2] at a1 d1
            rw [d1] at a1
            exact le_cl d2 a1 sM
        rw [en4] at cw ⊢
        obtain ⟨h5, r5, x5, hr5, o5, g5⟩ := ihg h4 r4 s4 A' D' (rnd G (DB G f) p (some S) (some A') ω).2.1 (rnd G (DB G f) p (some S) (some A') ω).2.2.1 (max mx (4 + (rnd G (DB G f) p (some S) (some A') ω).2.2.2)) (rr + 1) (by omega) (by omega) N4 sg4 (by rw [F4.fi 59 (by omega)]; exact a593) (by rw [F4.fi 60 (by omega)]; exact b60) (F4.fn n613) (F4.fp 62 (by omega) _ q623) (F4.fp 63 (by omega) _ k63) (F4.fp 64 (by omega) _ k64) (by rw [F4.fi 65 (by omega)]; exact b65) (by rw [F4.fi 66 (by omega)]; exact b66) ci4 tH4 (by omega)
        exact ⟨h5, r5, zS_t x13 (zS_t x4 x5), by omega, o5, gA_t g13 (gA_t g4 g5)⟩
    · have leD : o_le (some N1) (some D) := (tH N1 sN).mpr le
      have e1 : clmD G (DB G f) p (some S) (g + 1) (some H) (some D) (some N1) be ω mx (rr + 1) = trsD G (DB G f) p (some S) 2 (some H) (some N1) be ω mx := by
        unfold clmD
        rw [clm_1, if_pos (Or.inl leD)]
      rw [e1]
      rcases o3 with ⟨t2, ns2, kn3, k613, b66, b60⟩ | ⟨t2, kn3, b66, b60⟩
      · obtain ⟨N3, x13⟩ := fin kn3
        obtain ⟨h4, r4, x4, hr4, o4, g4⟩ := S_try EF hI ih w sS 2 0 h3 (r0 + 1) H N1 (some N1) be ω mx (by omega) N3 sH sN a593 n613 q623 k63 (by omega) (Or.inl ⟨t2, ns2, rfl, k613, b66, b60⟩)
        exact ⟨h4, r4, zS_t x13 x4, by omega, o4, gA_t g13 g4⟩
      · obtain ⟨N3, x13⟩ := fin kn3
        obtain ⟨h4, r4, x4, hr4, o4, g4⟩ := S_try EF hI ih w sS 2 0 h3 (r0 + 1) H N1 (some H) be ω mx (by omega) N3 sH sN a593 n613 q623 k63 (by omega) (Or.inr ⟨t2, rfl, b60⟩)
        exact ⟨h4, r4, zS_t x13 x4, by omega, o4, gA_t g13 g4⟩
/-- while -/
theorem S_while (EF : EFF Y C E TT UU SC SP nC nE nS G cnt I) (hI : hIp Y C E TT UU SC SP nC nE nS I) (ih : SIM d Y C E TT UU SC SP nC nE nS G cnt I f) (w : WG G f p cnt k n a r) (N : AN h Y C E TT UU SC SP nC nE nS G cnt I p k (some A) ω) (hw : wW ω < 4000) (l : lmt h G cnt k e) (hp : p < e) (he : e < cnt) (hr : r0 + 5 * (4001 - wW ω) + 20 < 1000000) (t : topq h k p) (sA : shp n a r (some A)) : CCn d Y C E TT UU SC SP nC nE nS G cnt I p k h r0 0 (wW ω) (lop G (DB G f) p (some A) ω) := by
  have cb := N.H.b
  have kp := w.kp
  have hE1 := w.hE1
  have hE2 := w.hE2
  obtain ⟨h1, x1, N1, a59, a60, -, kw, g1⟩ := S_open (d := d) (r0 := r0) EF hI N hw l hp he (by omega) t kp (w.sh sA) (Or.inr (Or.inr w.kd))
  obtain ⟨a65, a66, n61, q62, q63, q64⟩ := kw w.kd
  have W1 : wW (wl p (some A) (G.fx p A).2.2 ω) = wW ω + 1 := rfl
  have rn1 : (rnd G (DB G f) p (some A) (some A) ω).1 = o_join (some A) (o_keep n a (DB G f (p + 1) (G.E p) (G.fx p A).1 (wl p (some A) (G.fx p A).2.2 ω)).1) := by rw [← w.e1, ← w.e2]; rfl
  have rn3 : (rnd G (DB G f) p (some A) (some A) ω).2.2.1 = (DB G f (p + 1) (G.E p) (G.fx p A).1 (wl p (some A) (G.fx p A).2.2 ω)).2.1 := rfl
  have l1 : lmt h1 G cnt (k + 1) (G.E p) := Or.inr ⟨p, by omega, by omega, a59, by omega, Or.inr ⟨Or.inr (Or.inr w.kd), rfl⟩⟩
  have sf := (w.hf A sA).1
  obtain ⟨h2, r2, x2, hr2, o2, g2⟩ := ih (p + 1) (G.E p) n a r (G.fx p A).1 (wl p (some A) (G.fx p A).2.2 ω) (k + 1) h1 (r0 + 1) N1 l1 w.wb sf hE2 (by omega) (Or.inr ⟨p, by omega, a59⟩) (by omega)
  have sg := DB_shp G f (p + 1) (G.E p) n a r _ (wl p (some A) (G.fx p A).2.2 ω) w.wb sf
  have wm := DB_w G f (p + 1) (G.E p) (G.fx p A).1 (wl p (some A) (G.fx p A).2.2 ω)
  rw [W1] at hr2 wm
  have x2' : zS (aV k) (aU k) h1 h2 := zS_w x2 (fun b j z => aV_1 z) (fun b j z => aU_1 z)
  rw [lop_D]
  have cw := clmD_w (G := G) (p := p) (S := some A) (g := 4001) (mx := 4 + (rnd G (DB G f) p (some A) (some A) ω).2.2.2) (r := 1) (h := some A) (told := some A) (n := (rnd G (DB G f) p (some A) (some A) ω).1) (be := (rnd G (DB G f) p (some A) (some A) ω).2.1) (ω := (rnd G (DB G f) p (some A) (some A) ω).2.2.1) (DB_w G f)
  rw [← rn3] at hr2 wm o2
  rcases o2 with ⟨w2, N2⟩ | ⟨w2, T2⟩
  · have F2 := FR_1 N1.B x2
    obtain ⟨⟨N', q1⟩, q2, q3, q4⟩ := rnd_shp (ω := ω) (DB_shp G f) w.e1 w.e2 w.hf w.wb sA sA
    have ci : CI n a r A (some A) (some A) (o_join (some A) (o_keep n a (DB G f (p + 1) (G.E p) (G.fx p A).1 (wl p (some A) (G.fx p A).2.2 ω)).1)) (rnd G (DB G f) p (some A) (some A) ω).2.1 := by
      rw [← rn1]
      exact ⟨⟨A, rfl, sA, fun _ _ _ _ => Int.le_refl _⟩, ⟨A, rfl, shL_of sA, fun _ _ _ _ => Int.le_refl _⟩, ⟨N', q1, by rw [← q1]; exact q2⟩, q3⟩
    rw [rn1] at cw ⊢
    obtain ⟨h3, r3, x3, hr3, o3, g3⟩ := S_clm EF hI ih w sA 4001 h2 r2 (DB G f (p + 1) (G.E p) (G.fx p A).1 (wl p (some A) (G.fx p A).2.2 ω)).1 A A (rnd G (DB G f) p (some A) (some A) ω).2.1 (rnd G (DB G f) p (some A) (some A) ω).2.2.1 (4 + (rnd G (DB G f) p (some A) (some A) ω).2.2.2) 0 (by omega) (by omega) N2 sg (by rw [F2.fi 59 (by omega)]; exact a59) (by rw [F2.fi 60 (by omega)]; exact a60) (F2.fn n61) (F2.fp 62 (by omega) _ q62) (F2.fp 63 (by omega) _ q63) (F2.fp 64 (by omega) _ q64) (by rw [F2.fi 65 (by omega)]; exact a65) (by rw [F2.fi 66 (by omega)]; exact a66) ci (fun _ _ => Iff.rfl) (by omega)
    rw [show (0 + 1 : Nat) = 1 from rfl] at hr3 o3
    exact ⟨h3, r3, zS_t x1 (zS_t x2' x3), by omega, o3, gA_t g1 (gA_t g2 g3)⟩
  · exact ⟨h2, r2, zS_t x1 x2', by omega, Or.inr ⟨by omega, T2⟩, gA_t g1 g2⟩
end SYs
