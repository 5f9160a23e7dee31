set_option maxRecDepth 100000
/-! THE CLASS'S lay IS lyQ: every row -/
section CTl
variable {d : Nat} {h h1 h2 : mh_H} {B n m mn : Nat} {D : lyD} {K : Nat → Int32} {Sc Sf : cps} {k k' p p' s s1 se b nn N N' f r : Nat} {cs t : tr} {X X' : lcx} {L L' : cen} {rl fb : Bool} {cl : Option Nat} {x1 x2 : Option Value} {q : lyq}
theorem wrC_t {sp : Nat → Nat → Bool} {H : Nat → Int32} {nf a ff g : Nat} {lo : lkt} (h : (wrC sp H nf lo a ff t).1 = 0) (hg : fmH sp H nf (tV ff).toNat = some g) : Int32.ofNat (tlc t) = H (6 * g + 1) := by
  by_cases z : Int32.ofNat (tlc t) = H (6 * g + 1)
  · exact z
  · exfalso
    generalize hW : fw (if tK a = 13 then (lkW lo (tV a) false, tP a) else (0, 0)) (if fmH sp H nf (tV ff).toNat = none then (4, tP ff) else (0, 0)) = W at *
    by_cases cw : W.1 = 0
    · rw [wrC_s hW cw hg, if_pos z] at h
      exact absurd h (by show ¬ 5 = 0; decide)
    · rw [wrC_n hW cw] at h
      exact cw h
theorem nt_f {w q : Int32} : fLy h (ntY h w q) ∧ kpC p k h (ntY h w q) ∧ mh_i (ntY h w q) 2 18 = w ∧ mh_i (ntY h w q) 2 19 = q := by
  unfold ntY
  have o : ∀ y j, y ≠ 2 → mh_i (mh_si (mh_si h 2 18 w) 2 19 q) y j = mh_i h y j := fun y j hy => by rw [hi_si, if_neg (fun z => hy z.1), hi_si, if_neg (fun z => hy z.1)]
  exact ⟨fLy_t (fLy_si (Or.inr ⟨rfl, Or.inr ⟨by decide, by decide⟩⟩)) (fLy_si (Or.inr ⟨rfl, Or.inr ⟨by decide, by decide⟩⟩)), ⟨fun _ _ => rfl, fun y r u1 u2 _ => o y r (by omega), fun j _ => o 30 j (by decide), fun y j u1 u2 _ => o y j (by omega)⟩, by rw [hi_si, if_neg (by omega), hi_si, if_pos ⟨rfl, rfl⟩], by rw [hi_si, if_pos ⟨rfl, rfl⟩]⟩
/-- a statement -/
theorem sc_all (FC : ∀ g, g < D.c → FCq D K m Sc Sf N g) (hm : mn < D.c) (fo : ∀ i j, j ≠ 5 → j ≠ 6 → Sf.2 (24 + i) j = Sc.2 (24 + i) j) (hH : D.H = Sc.2 15) (IH : CRf d x1 x2 mn B n D K m Sc Sf f) (C : CLC h B n m D Sf) (S : CSt h X cl k p) (NM : NAM h D m p L X) (hr : r + 3 * (249 - p) + 5 ≤ 1000000) (lim : (k = 0 ∧ D.H (6 * mn + 4) = Int32.ofNat se) ∨ (0 < k ∧ LMd h D k se)) (hs1 : s1 ≤ se) (hss : s < s1) (hse : se ≤ Sf.1 8) (hX : X.fu < D.c) (st : stN D.sp Sc X.fu (fun bs x y L' => stR D.sp Sc X.fu N' false bs x y L' 0) nn cs s s1 L b rl) (wf : (Sf.2 (24 + s) 5, Sf.2 (24 + s) 6) = wn (0, 0) (wrM D nn cs L b rl X)) (wfb : ∀ c cc b1 bs1 q, cs = .branch c cc (.branch b1 bs1 q) → tK nn = 8 ∨ tK nn = 9 → wfR D Sf X.fu N' false bs1 (s + 1) L 0 ∧ ∀ b2 bs2, q = .branch b2 bs2 (.leaf ()) → wfR D Sf X.fu N' false bs2 (s + 1 + stLq bs1) L 0) (hfu : 1 + ts cs + rkF D X.fu ≤ f + 1) (hts : ts cs < 50000) (tv : tvT K m (tNd nn cs)) (sy : syT (tNd nn cs)) : ∃ h', SCz h h' B D m f nn cs s p L X cl k (lyG (lyW D nn cs p L b rl X, p) fun _ => lyU D (lyQ D f) nn cs p L X) ∧ RUNc d x1 x2 mn h h' s s1 r p (lyG (lyW D nn cs p L b rl X, p) fun _ => lyU D (lyQ D f) nn cs p L X) := by
  obtain ⟨p1, p2⟩ := S.p
  obtain ⟨b1', b2'⟩ := NM.1
  have f90 := fun Q => u_90 (d := d) C p1 p2 S.b (show s < Sf.1 8 by omega) fo st wf hH hX (by omega) NM.1 (fun g hg => ⟨_, (FC g hg).l.2.2, (FC g hg).h1⟩) (fun g hg => (FC g hg).h2) Q
  have lb := lyW_b (D := D) (n := nn) (cs := cs) (p := p) (L := L) (b := b) (rl := rl) (X := X)
  by_cases c0 : (lyW D nn cs p L b rl X).1 = 0
  · have f90' : ∀ Q, mcall (d + 1) 90 [.ref 2, .ref (B + (24 + s))] h Q = Q none h := fun Q => (f90 Q).trans (if_pos c0)
    obtain ⟨p9, wm⟩ := lyW_0 c0
    have hp : p < 249 := by omega
    have lwf := lyW_f (D := D) (n := nn) (cs := cs) (L := L) (b := b) (rl := rl) (X := X) p9
    have c0' := c0
    rw [lwf, fw_y wm] at c0'
    obtain ⟨⟨g0, g1, g2, g3, g4, -⟩, wk⟩ := st
    have fo0 := (fo s 0 (by decide) (by decide)).trans g0
    have fo1 := (fo s 1 (by decide) (by decide)).trans g1
    have fo3 := (fo s 3 (by decide) (by decide)).trans g3
    have fo4 := (fo s 4 (by decide) (by decide)).trans g4
    obtain ⟨-, tv1, -⟩ := tv
    obtain ⟨⟨sy3, sy4, sy5, sy6, sy7, sy10⟩, sy1, -⟩ := sy
    have k64 := tK_b (x := nn)
    have smp : tK nn ≠ 7 → tK nn ≠ 8 → tK nn ≠ 9 → tK nn ≤ 11 → 3 ≤ tK nn → s1 = s + 1 → (∀ h2, CLC h2 B n m D Sf → CPo h2 B D s L X p → NAM h2 D m (p + 1) (nxE nn cs L) X) → ∃ h', SCz h h' B D m f nn cs s p L X cl k (lyG (lyW D nn cs p L b rl X, p) fun _ => lyU D (lyQ D f) nn cs p L X) ∧ RUNc d x1 x2 mn h h' s s1 r p (lyG (lyW D nn cs p L b rl X, p) fun _ => lyU D (lyQ D f) nn cs p L X) := fun n7 n8 n9 u11 u3 es nam => by
      subst es
      have sk : skN nn ≤ 8 ∧ skN nn ≠ 4 ∧ skN nn ≠ 5 ∧ skN nn ≠ 6 := by
        unfold skN
        split <;> omega
      exact sc_1 (f := f) (d := d) C hm S NM (by omega) lim (by omega) hse c0 hp f90' fo0 fo1 sk.1 sk.2.1 sk.2.2.1 sk.2.2.2 n7 n8 n9 nam
    have nmo : tK nn ≠ 3 → tK nn ≠ 4 → tK nn ≠ 7 → 3 ≤ tK nn → ∀ h2, CLC h2 B n m D Sf → CPo h2 B D s L X p → NAM h2 D m (p + 1) (nxE nn cs L) X := fun n3 n4 n7 u3 h2 C2 P => by
      rw [nxE_oo n3 n4]
      have sk : skN nn < 100 ∧ skN nn ≠ 1 ∧ skN nn ≠ 4 := by
        unfold skN
        rw [if_neg (by omega)]
        omega
      exact NAM_o C2 P (by omega) fo0 fo3 fo4 sk.1 sk.2.1 sk.2.2
    rcases wk with ⟨kk, a, t, ec, es, e7, e9, -⟩ | ⟨kk, a, q0, ec, es, e7, e9⟩ | ⟨kk, a, t, x, ec, es, -⟩ | ⟨kk, a, t, x, ec, es, -⟩ | ⟨kk, a, ff, t, x, ec, es, e8, e14, e11, -⟩ | ⟨kk, c, cc, b1, bs1, qq, k2, z0, z1, ec, -, -, -, -, e15, e16, r1, r2⟩ | ⟨kk, c, cc, b1, bs1, z0, z1, ec, -, -, -, -, e16, r1⟩ | ⟨kk, z0, z1, es, -⟩ | ⟨kk, x, es, -⟩
    · obtain ⟨a', t', ec', ka, -⟩ := sy3 kk
      rw [ec] at ec'
      cases ec'
      have va := tv1
      rw [ec] at va
      obtain ⟨⟨v, v1, v2, v3⟩, -⟩ := va.1.1 ka
      have av : (tV a).toNat = v := by rw [v2]; rfl
      rw [if_neg (by omega), if_pos kk] at c0'
      have n12 : ¬ X.nb + cnZl L = 12 := fun z => by rw [if_pos z] at c0'; exact absurd c0' (by show ¬ 10 = 0; decide)
      refine smp (by omega) (by omega) (by omega) (by omega) (by omega) es (fun h2 C2 P => ?_)
      have nx : nxE nn cs L = ((tV a).toNat, 0) :: L := by rw [ec]; unfold nxE; rw [if_pos kk]
      rw [nx]
      have sk : skN nn = 1 := by unfold skN; rw [if_pos (Or.inl kk)]
      rw [sk] at fo0
      exact NAM_v C2 P (by omega) fo0 fo3 fo4 ((fo s 7 (by decide) (by decide)).trans e7) ((fo s 9 (by decide) (by decide)).trans e9) (by omega) (by decide) (fun _ => by omega) (fun z => absurd rfl z)
    · obtain ⟨a', q', ec', ka, kq⟩ := sy4 kk
      rw [ec] at ec'
      cases ec'
      have va := tv1
      rw [ec] at va
      obtain ⟨⟨v, v1, v2, v3⟩, -⟩ := va.1.1 ka
      have av : (tV a).toNat = v := by rw [v2]; rfl
      rw [if_neg (by omega), if_neg (by omega), if_pos kk] at c0'
      have n6 : ¬ X.na + cnAl L = 6 := fun z => by rw [if_pos z] at c0'; exact absurd c0' (by show ¬ 13 = 0; decide)
      have z64 : (tV q0).toNat ≤ 64 := by
        have e0 : wrM D nn cs L b rl X = fw (if twE D.sp b L (tV a).toNat = true then (2, tP a) else (0, 0)) (if tV q0 < 1 ∨ 64 < tV q0 then (9, tP q0) else (0, 0)) := by
          rw [ec]
          unfold wrM wrS
          rw [if_neg (fun z => by omega), if_neg (by omega), if_pos kk]
        rw [e0] at wm
        by_cases y : tV q0 < 1 ∨ 64 < tV q0
        · exfalso
          rw [if_pos y] at wm
          unfold fw at wm
          by_cases y2 : (if twE D.sp b L (tV a).toNat = true then (2, tP a) else ((0, 0) : Nat × Nat)).1 = 0
          · rw [if_pos y2] at wm; exact absurd wm (by show ¬ 9 = 0; decide)
          · rw [if_neg y2] at wm; exact y2 wm
        · omega
      refine smp (by omega) (by omega) (by omega) (by omega) (by omega) es (fun h2 C2 P => ?_)
      have nx : nxE nn cs L = ((tV a).toNat, max 1 (tV q0).toNat) :: L := by rw [ec]; unfold nxE; rw [if_neg (by omega), if_pos kk]
      rw [nx]
      have sk : skN nn = 1 := by unfold skN; rw [if_pos (Or.inr kk)]
      rw [sk] at fo0
      exact NAM_v C2 P (by omega) fo0 fo3 fo4 ((fo s 7 (by decide) (by decide)).trans e7) ((fo s 9 (by decide) (by decide)).trans e9) (by omega) (by omega) (fun z => by omega) (fun _ => by omega)
    · exact smp (by omega) (by omega) (by omega) (by omega) (by omega) es (nmo (by omega) (by omega) (by omega) (by omega))
    · exact smp (by omega) (by omega) (by omega) (by omega) (by omega) es (nmo (by omega) (by omega) (by omega) (by omega))
    · -- a call
      subst ec
      subst es
      have wc : wrM D nn (.branch a (.leaf ()) (.branch ff (.leaf ()) t)) L b rl X = wrC D.sp D.H X.fu (loE D.sp L) a ff t := by
        unfold wrM wrS
        rw [if_neg (fun z => by omega), if_neg (by omega), if_neg (by omega), if_neg (by omega), if_pos kk]
      rw [wc] at wm
      obtain ⟨g, hg⟩ := wrC_g0 wm
      have gX : g < X.fu := (fsr_b _ _ hg).1
      have FCg := FC g (by omega)
      have et := wrC_t wm hg
      rw [FCg.h1] at et
      rw [ts_B, ts_B] at hts hfu
      have tb := tlc_le t
      have l50 := FCg.l.2.2
      have et' := (nn_eq (a := tlc t) (b := (D.FP g).length) (by omega) (by omega)) ▸ et
      rw [if_pos kk] at c0'
      have c1' : (lyWc D nn t L X (fmH D.sp D.H X.fu (tV ff).toNat)).1 = 0 := c0'
      rw [hg] at c1'
      have eW : lyWc D nn t L X (some g) = if ¬ D.H (6 * g + 2) = -1 then (2, D.P (D.H (6 * g + 2)).toNatClampNeg) else if 12 < X.nb + cnZl L + tlc t then (10, tP nn) else (0, 0) := rfl
      rw [eW] at c1'
      have h12 : X.nb + cnZl L + tlc t ≤ 12 := by
        by_cases ct : ¬ D.H (6 * g + 2) = -1
        · rw [if_pos ct] at c1'; exact absurd c1' (by show ¬ 2 = 0; decide)
        · rw [if_neg ct] at c1'
          by_cases c12 : 12 < X.nb + cnZl L + tlc t
          · rw [if_pos c12] at c1'; exact absurd c1' (by show ¬ 10 = 0; decide)
          · omega
      have eU : lyU D (lyQ D f) nn (.branch a (.leaf ()) (.branch ff (.leaf ()) t)) p L X = lyQ D f true (D.FT g) (p + 1) (D.FP g) (D.FP g).length (lyC D X L p g a) := by
        unfold lyU
        rw [if_pos kk]
        show lyUc D (lyQ D f) p L X a (fmH D.sp D.H X.fu (tV ff).toNat) = _
        rw [hg]
        rfl
      rw [lyG_y (q := (lyW D nn (.branch a (.leaf ()) (.branch ff (.leaf ()) t)) p L b rl X, p)) c0, eU]
      have sk : skN nn = 4 := by unfold skN; rw [if_neg (by omega)]; omega
      rw [sk] at fo0
      have rk := rkF_le (D := D) (g + 1) X.fu gX
      have rk' : rkF D (g + 1) = rkF D g + ts (D.FT g) + 1 := rfl
      rw [← hH, hg] at e14
      exact sc_7 (t := t) (ff := ff) IH FCg C hm S NM hr lim (by omega) hse hp f90' kk hg gX hX et' h12 fo0 fo1 fo3 fo4 ((fo s 8 (by decide) (by decide)).trans e8) ((fo s 11 (by decide) (by decide)).trans e11) ((fo s 14 (by decide) (by decide)).trans e14) (by omega)
    · -- an if
      subst ec
      rw [ts_B, ts_B] at hts hfu
      obtain ⟨wf1, wf2⟩ := wfb c cc b1 bs1 qq rfl (Or.inl kk)
      have ek := stR_L _ _ _ _ _ _ _ r1
      have eU : lyU D (lyQ D f) nn (.branch c cc (.branch b1 bs1 qq)) p L X = lyG (lyQ D f false bs1 (p + 1) L 0 (lyB X p)) (lyUq (lyQ D f) p L X qq) := by
        unfold lyU
        rw [if_neg (by omega), if_pos kk]
      rw [lyG_y (q := (lyW D nn (.branch c cc (.branch b1 bs1 qq)) p L b rl X, p)) c0, eU]
      have sk : skN nn = 5 := by unfold skN; rw [if_neg (by omega)]; omega
      rw [sk] at fo0
      rcases r2 with ⟨eq, ek2⟩ | ⟨b2, bs2, eq, r2⟩
      · subst eq
        have eq2 : lyUq (lyQ D f) p L X (.leaf ()) = fun e => lyQ D f false (.leaf ()) e L 0 (lyB X p) := by
          funext e
          cases f <;> rfl
        rw [eq2]
        exact sc_8 (k2 := k2) (u := .leaf ()) IH C hm S NM hr lim (by omega) hse hp f90' kk hX fo0 fo1 fo3 fo4 ((fo s 15 (by decide) (by decide)).trans e15) ((fo s 16 (by decide) (by decide)).trans e16) r1 wf1 (by cases N' <;> exact ek2) (by cases N' <;> trivial) (Or.inl ⟨rfl, rfl⟩) (by omega) hs1 ek (by omega) (by omega) ⟨tv1.2.2.2.1, sy1.2.2.2.1⟩ (by show 0 + rkF D X.fu ≤ f; omega) (by show 0 < 50000; decide) ⟨trivial, trivial⟩
      · subst eq
        rw [ts_B] at hts hfu
        have ek3 := stR_L _ _ _ _ _ _ _ r2
        have eq2 : lyUq (lyQ D f) p L X (.branch b2 bs2 (.leaf ())) = fun e => lyQ D f false bs2 e L 0 (lyB X p) := rfl
        rw [eq2]
        exact sc_8 (k2 := k2) (u := bs2) IH C hm S NM hr lim (by omega) hse hp f90' kk hX fo0 fo1 fo3 fo4 ((fo s 15 (by decide) (by decide)).trans e15) ((fo s 16 (by decide) (by decide)).trans e16) r1 wf1 r2 (by rw [ek]; exact wf2 b2 bs2 rfl) (Or.inr ⟨b2, rfl⟩) (by omega) hs1 ek (by omega) (by omega) ⟨tv1.2.2.2.1, sy1.2.2.2.1⟩ (by omega) (by omega) ⟨tv1.2.2.2.2.2.1, sy1.2.2.2.2.2.1⟩
    · -- a while
      subst ec
      rw [ts_B, ts_B] at hts hfu
      obtain ⟨wf1, -⟩ := wfb c cc b1 bs1 (.leaf ()) rfl (Or.inr kk)
      have ek := stR_L _ _ _ _ _ _ _ r1
      have eU : lyU D (lyQ D f) nn (.branch c cc (.branch b1 bs1 (.leaf ()))) p L X = lyQ D f false bs1 (p + 1) L 0 (lyB X p) := by
        unfold lyU
        rw [if_neg (by omega), if_neg (by omega), if_pos kk]
      rw [lyG_y (q := (lyW D nn (.branch c cc (.branch b1 bs1 (.leaf ()))) p L b rl X, p)) c0, eU]
      have sk : skN nn = 6 := by unfold skN; rw [if_neg (by omega)]; omega
      rw [sk] at fo0
      exact sc_9 IH C hm S NM hr lim (by omega) hse hp f90' kk hX fo0 fo1 fo3 fo4 ((fo s 16 (by decide) (by decide)).trans e16) r1 wf1 hs1 (by omega) (by omega) ⟨tv1.2.2.2.1, sy1.2.2.2.1⟩
    · exact smp (by omega) (by omega) (by omega) (by omega) (by omega) es (nmo (by omega) (by omega) (by omega) (by omega))
    · exact smp (by omega) (by omega) (by omega) (by omega) (by omega) es (nmo (by omega) (by omega) (by omega) (by omega))
  · rw [lyG_n (q := (lyW D nn cs p L b rl X, p)) c0]
    have f90' : ∀ Q, mcall (d + 1) 90 [.ref 2, .ref (B + (24 + s))] h Q = Q none (ntY h (Int32.ofNat (lyW D nn cs p L b rl X).1) (Int32.ofNat (lyW D nn cs p L b rl X).2)) := fun Q => (f90 Q).trans (if_neg c0)
    have n0 : ¬ Int32.ofNat (lyW D nn cs p L b rl X).1 = 0 := by
      rw [show (0 : Int32) = Int32.ofNat 0 from rfl, nn_eq (by omega) (by omega)]
      exact c0
    have run := s_89w (d := d) C f90' n0
    have tn := tn_s (x1 := x1) (x2 := x2) C hm S (show r < 1000000 by omega) lim (show s < se by omega) hse run
    obtain ⟨o1, o2, o3, o4⟩ := nt_f (h := h) (p := p) (k := k) (w := Int32.ofNat (lyW D nn cs p L b rl X).1) (q := Int32.ofNat (lyW D nn cs p L b rl X).2)
    generalize ntY h (Int32.ofNat (lyW D nn cs p L b rl X).1) (Int32.ofNat (lyW D nn cs p L b rl X).2) = h1 at tn o1 o2 o3 o4
    refine ⟨h1, SCz.of ⟨o1, o2, fun _ => ⟨o3, o4⟩, fun z => absurd z c0, fun z => absurd z c0⟩, fun _ x6 Q => ?_, fun z => absurd z c0⟩
    obtain ⟨y6, t1⟩ := tn x6
    exact (t1 Q).trans (t_85x (d := d + 1) (CF_L o1 C.F) (by rw [o3]; exact n0) Q)
theorem CR_all (FC : ∀ g, g < D.c → FCq D K m Sc Sf N g) (hm : mn < D.c) (fo : ∀ i j, j ≠ 5 → j ≠ 6 → Sf.2 (24 + i) j = Sc.2 (24 + i) j) (hH : D.H = Sc.2 15) : ∀ f, CRf d x1 x2 mn B n D K m Sc Sf f := by
  have lf : ∀ f (u : Unit) (fb : Bool) (s p : Nat) (L : cen) (b : Nat) (X : lcx) (cl : Option Nat) (k : Nat) (h : mh_H) (r : Nat), CSt h X cl k p → NAM h D m p L X → ∃ h', CRz h h' B D m f fb (.leaf u) s p L b X cl k (lyQ D f fb (.leaf u) p L b X) ∧ RUNc d x1 x2 mn h h' s s r p (lyQ D f fb (.leaf u) p L b X) := by
    intro f u fb s p L b X cl k h r S NM
    have e : lyQ D f fb (.leaf u) p L b X = ((0, 0), p) := by cases f <;> rfl
    rw [e]
    exact ⟨h, CRz.of ⟨fLy_id, kpC_r, fun z => absurd rfl z, fun _ => ⟨S, NM, Nat.le_refl _⟩, fun _ Pt kn wn _ x x1 x2 => absurd x2 (by show ¬ x < p; omega)⟩, fun z => absurd rfl z, fun _ => ⟨r, by omega, fun x6 => ⟨x6, fun Q => rfl⟩⟩⟩
  intro f
  induction f with
  | zero =>
    intro fb t s p L b X cl k h N' se r C S NM st wf hX hfu hts tv lim hse hr
    cases t with
    | leaf u =>
      have es : se = s := by cases N' <;> exact st
      subst es
      exact lf 0 u fb se p L b X cl k h r S NM
    | branch nn cs rr => rw [ts_B] at hfu; omega
  | succ f ih =>
    intro fb t s p L b X cl k h N' se r C S NM st wf hX hfu hts tv lim hse hr
    cases t with
    | leaf u =>
      have es : se = s := by cases N' <;> exact st
      subst es
      exact lf (f + 1) u fb se p L b X cl k h r S NM
    | branch nn cs rr =>
      rw [ts_B] at hfu hts
      cases N' with
      | zero => exact absurd st (fun z => z)
      | succ N' =>
      have eT := stR_L (N' + 1) _ _ _ _ _ _ st
      obtain ⟨s1, st1, st2⟩ := st
      obtain ⟨wf1, wf2, wf3⟩ := wf
      have e2 := stR_L _ _ _ _ _ _ _ st2
      have sL : s1 = s + stS nn cs := by rw [stLq_S] at eT; omega
      have pS : 0 < stS nn cs := stLq_1 (.branch nn cs (.leaf ())) (by show 0 < 1 + ts cs + 0; omega)
      obtain ⟨h1, SC, RU⟩ := sc_all (s1 := s1) FC hm fo hH ih C S NM hr lim (by omega) (by omega) hse hX st1 wf1 wf2 (by omega) (by omega) ⟨tv.1.1, tv.1.2.1, trivial⟩ ⟨tv.2.1, tv.2.2.1, trivial⟩
      rw [lyQ_S]
      generalize hQS : (lyG (lyW D nn cs p L b (fb && decide (ts rr = 0)) X, p) fun _ => lyU D (lyQ D f) nn cs p L X) = QS at SC RU ⊢
      by_cases z1 : QS.1.1 = 0
      · rw [lyG_y z1]
        obtain ⟨S1, NM1, lt1, P1, e26⟩ := SC.o z1
        obtain ⟨r', r1, RU2⟩ := RU.2 z1
        have C1 := CLC_L SC.f C
        have pe := S1.p
        obtain ⟨ok, ok'⟩ := S.k
        have lim1 : (k = 0 ∧ D.H (6 * mn + 4) = Int32.ofNat se) ∨ (0 < k ∧ LMd h1 D k se) := by
          rcases lim with l | ⟨l1, l2⟩
          · exact Or.inl l
          · refine Or.inr ⟨l1, LMd_k C.F SC.f (kpD_of SC.k) l1 (Nat.le_refl _) (fun o eo ho => ?_) l2⟩
            rcases S.o with ⟨o1, -⟩ | ⟨-, oq, -, o3, o4⟩
            · omega
            · rw [o3] at eo
              have := (nn_eq (a := oq) (b := o) (by omega) (by omega)) ▸ eo
              have pp := S.p
              omega
        rw [← sL] at wf3
        obtain ⟨h2, CR, RV⟩ := ih fb rr s1 QS.2 (nxE nn cs L) (b + ((nxE nn cs L).length - L.length)) X cl k h1 N' se r' C1 S1 NM1 st2 wf3 hX (by omega) (by omega) ⟨tv.1.2.2, tv.2.2.2⟩ lim1 hse (by omega)
        refine ⟨h2, CRz.of ⟨fLy_t SC.f CR.f, kpC_t SC.k CR.k (by omega) (Nat.le_refl _), CR.g, fun z => ?_, fun z Pt kn wn ly => ?_⟩, fun z x6 Q => ?_, fun z => ?_⟩
        · obtain ⟨o1, o2, o3⟩ := CR.o z
          refine ⟨o1, ?_, by omega⟩
          have key : nxE nn cs L = L ∨ ∃ e, nxE nn cs L = e :: L := by
            unfold nxE
            split
            · split
              · exact Or.inr ⟨_, rfl⟩
              · exact Or.inl rfl
            · split
              · split
                · exact Or.inr ⟨_, rfl⟩
                · exact Or.inl rfl
              · exact Or.inl rfl
          generalize (lyQ D f fb rr QS.2 (nxE nn cs L) (b + ((nxE nn cs L).length - L.length)) X).2 = ee at o2 ⊢
          rcases key with e | ⟨⟨a, z⟩, e⟩
          · rw [e] at o2; exact o2
          · rw [e] at o2
            refine NAM_r o2 ?_ ?_ (fun x hx => nA_o hx) (fun x hx => aA_o hx)
            · by_cases c : z = 0
              · subst c; rw [cnZ_0]; omega
              · rw [cnZ_n c]; omega
            · by_cases c : z = 0
              · subst c; rw [cnA_0]; omega
              · rw [cnA_n c]; omega
        · obtain ⟨y1, ⟨y2, y3, y4, y5, y6, y7, y8', y9⟩, y10, y11, y12, y13⟩ := ly
          have eE : (Pt p).E = QS.2 := by
            have := (LYN_q (fun fb t k w s p e L b X u => LYR_q f fb t k w s p e L b X u) y12).2
            rw [← this, ← hQS, y11]
            rfl
          obtain ⟨PT1, PM⟩ := SC.r z1 Pt _ y12
          rw [eE, ← sL] at y13
          have PT2 := CR.r z Pt _ _ y13
          have PT1' := CPz_k C1.F CR.f CR.k PT1
          intro x x1 x2
          by_cases c0 : x = p
          · subst c0
            rw [y4, y5, y9, eE, y2]
            exact ⟨CPo_k C1.F CR.f (kpD_of CR.k) lt1 P1, (CR.k.2.1 26 x (by decide) (by decide) lt1).trans e26, fun q => (CR.k.2.1 25 x (by decide) (by decide) lt1).trans (PM q)⟩
          · by_cases c1 : x < QS.2
            · exact PT1' x (by omega) c1
            · exact PT2 x (by omega) x2
        · obtain ⟨y6, t1⟩ := RU2 x6
          exact (t1 Q).trans (RV.1 z y6 Q)
        · obtain ⟨r'', r2, RV2⟩ := RV.2 z
          have := (CR.o z).2.2
          refine ⟨r'', by omega, fun x6 => ?_⟩
          obtain ⟨y6, t1⟩ := RU2 x6
          obtain ⟨z6, t2⟩ := RV2 y6
          exact ⟨z6, fun Q => (t1 Q).trans (t2 Q)⟩
      · rw [lyG_n z1]
        exact ⟨h1, CRz.of ⟨SC.f, SC.k, SC.g, fun z => absurd z z1, fun z => absurd z z1⟩, RU.1, fun z => absurd z z1⟩
end CTl
