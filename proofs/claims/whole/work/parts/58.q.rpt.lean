set_option maxRecDepth 100000
/-! RPT: the points in the reference's rows -/
/-- all that is known of the rows -/
def RHp (h : mh_H) (sp : Nat → Nat → Bool) (NL : List Nat) (K : Nat → Int32) (m : Nat) (Pt : Nat → lpt) (E0 : nv) (D : lyD) (cnt e0 : Nat) : Prop := (e0 ≤ 249 ∧ cnt ≤ 25000) ∧ (D.sp = sp) ∧ (∀ a v, nix sp NL a < NL.length → (nix sp NL a = nix sp NL v ↔ sp a v = true)) ∧ (NL.length < 100000) ∧ (∀ q, q < e0 → NDq h (fun a => nix sp NL a) Pt cnt q) ∧ (PTz h (fun a => nix sp NL a) Pt 0 e0) ∧ (∀ q o, q < e0 → (Pt q).X.ow = some o → o < q) ∧ (∀ q, q < e0 → (q < (Pt q).E ∧ (Pt q).E ≤ (Pt q).B ∧ (Pt q).B ≤ e0) ∧ (tK (Pt q).N = 8 → q < (Pt q).M ∧ (Pt q).M ≤ (Pt q).E)) ∧ (∀ q, q < e0 → PTp sp NL Pt E0 D q) ∧ (∀ q, q < e0 → ∃ r, tvT K m (.branch (Pt q).N (Pt q).C r)) ∧ (∀ q, q < e0 → tK (Pt q).N = 11 → ∃ c a ff tt g, c < q ∧ tK (Pt c).N = 7 ∧ (Pt c).C = .branch a (.leaf ()) (.branch ff (.leaf ()) tt) ∧ (Pt q).X = lyC D (Pt c).X (Pt c).L c g a) ∧ (∀ q, q < e0 → ∃ f r b' fb, LYR D Pt (f + 1) fb (.branch (Pt q).N (Pt q).C r) (Pt q).K (Pt q).W (Pt q).S q (Pt q).B (Pt q).L b' (Pt q).X)
theorem RHp.of {h : mh_H} {sp : Nat → Nat → Bool} {NL : List Nat} {K : Nat → Int32} {m : Nat} {Pt : Nat → lpt} {E0 : nv} {D : lyD} {cnt e0 : Nat} (q : (e0 ≤ 249 ∧ cnt ≤ 25000) ∧ (D.sp = sp) ∧ (∀ a v, nix sp NL a < NL.length → (nix sp NL a = nix sp NL v ↔ sp a v = true)) ∧ (NL.length < 100000) ∧ (∀ q, q < e0 → NDq h (fun a => nix sp NL a) Pt cnt q) ∧ (PTz h (fun a => nix sp NL a) Pt 0 e0) ∧ (∀ q o, q < e0 → (Pt q).X.ow = some o → o < q) ∧ (∀ q, q < e0 → (q < (Pt q).E ∧ (Pt q).E ≤ (Pt q).B ∧ (Pt q).B ≤ e0) ∧ (tK (Pt q).N = 8 → q < (Pt q).M ∧ (Pt q).M ≤ (Pt q).E)) ∧ (∀ q, q < e0 → PTp sp NL Pt E0 D q) ∧ (∀ q, q < e0 → ∃ r, tvT K m (.branch (Pt q).N (Pt q).C r)) ∧ (∀ q, q < e0 → tK (Pt q).N = 11 → ∃ c a ff tt g, c < q ∧ tK (Pt c).N = 7 ∧ (Pt c).C = .branch a (.leaf ()) (.branch ff (.leaf ()) tt) ∧ (Pt q).X = lyC D (Pt c).X (Pt c).L c g a) ∧ (∀ q, q < e0 → ∃ f r b' fb, LYR D Pt (f + 1) fb (.branch (Pt q).N (Pt q).C r) (Pt q).K (Pt q).W (Pt q).S q (Pt q).B (Pt q).L b' (Pt q).X)) : RHp h sp NL K m Pt E0 D cnt e0 := q
theorem RHp.e {h : mh_H} {sp : Nat → Nat → Bool} {NL : List Nat} {K : Nat → Int32} {m : Nat} {Pt : Nat → lpt} {E0 : nv} {D : lyD} {cnt e0 : Nat} (q : RHp h sp NL K m Pt E0 D cnt e0) : e0 ≤ 249 ∧ cnt ≤ 25000 := q.1
theorem RHp.s {h : mh_H} {sp : Nat → Nat → Bool} {NL : List Nat} {K : Nat → Int32} {m : Nat} {Pt : Nat → lpt} {E0 : nv} {D : lyD} {cnt e0 : Nat} (q : RHp h sp NL K m Pt E0 D cnt e0) : D.sp = sp := q.2.1
theorem RHp.q {h : mh_H} {sp : Nat → Nat → Bool} {NL : List Nat} {K : Nat → Int32} {m : Nat} {Pt : Nat → lpt} {E0 : nv} {D : lyD} {cnt e0 : Nat} (q : RHp h sp NL K m Pt E0 D cnt e0) : ∀ a v, nix sp NL a < NL.length → (nix sp NL a = nix sp NL v ↔ sp a v = true) := q.2.2.1
theorem RHp.L {h : mh_H} {sp : Nat → Nat → Bool} {NL : List Nat} {K : Nat → Int32} {m : Nat} {Pt : Nat → lpt} {E0 : nv} {D : lyD} {cnt e0 : Nat} (q : RHp h sp NL K m Pt E0 D cnt e0) : NL.length < 100000 := q.2.2.2.1
theorem RHp.N {h : mh_H} {sp : Nat → Nat → Bool} {NL : List Nat} {K : Nat → Int32} {m : Nat} {Pt : Nat → lpt} {E0 : nv} {D : lyD} {cnt e0 : Nat} (q : RHp h sp NL K m Pt E0 D cnt e0) : ∀ q, q < e0 → NDq h (fun a => nix sp NL a) Pt cnt q := q.2.2.2.2.1
theorem RHp.R {h : mh_H} {sp : Nat → Nat → Bool} {NL : List Nat} {K : Nat → Int32} {m : Nat} {Pt : Nat → lpt} {E0 : nv} {D : lyD} {cnt e0 : Nat} (q : RHp h sp NL K m Pt E0 D cnt e0) : PTz h (fun a => nix sp NL a) Pt 0 e0 := q.2.2.2.2.2.1
theorem RHp.w {h : mh_H} {sp : Nat → Nat → Bool} {NL : List Nat} {K : Nat → Int32} {m : Nat} {Pt : Nat → lpt} {E0 : nv} {D : lyD} {cnt e0 : Nat} (q : RHp h sp NL K m Pt E0 D cnt e0) : ∀ q o, q < e0 → (Pt q).X.ow = some o → o < q := q.2.2.2.2.2.2.1
theorem RHp.B {h : mh_H} {sp : Nat → Nat → Bool} {NL : List Nat} {K : Nat → Int32} {m : Nat} {Pt : Nat → lpt} {E0 : nv} {D : lyD} {cnt e0 : Nat} (q : RHp h sp NL K m Pt E0 D cnt e0) : ∀ q, q < e0 → (q < (Pt q).E ∧ (Pt q).E ≤ (Pt q).B ∧ (Pt q).B ≤ e0) ∧ (tK (Pt q).N = 8 → q < (Pt q).M ∧ (Pt q).M ≤ (Pt q).E) := q.2.2.2.2.2.2.2.1
theorem RHp.P {h : mh_H} {sp : Nat → Nat → Bool} {NL : List Nat} {K : Nat → Int32} {m : Nat} {Pt : Nat → lpt} {E0 : nv} {D : lyD} {cnt e0 : Nat} (q : RHp h sp NL K m Pt E0 D cnt e0) : ∀ q, q < e0 → PTp sp NL Pt E0 D q := q.2.2.2.2.2.2.2.2.1
theorem RHp.v {h : mh_H} {sp : Nat → Nat → Bool} {NL : List Nat} {K : Nat → Int32} {m : Nat} {Pt : Nat → lpt} {E0 : nv} {D : lyD} {cnt e0 : Nat} (q : RHp h sp NL K m Pt E0 D cnt e0) : ∀ q, q < e0 → ∃ r, tvT K m (.branch (Pt q).N (Pt q).C r) := q.2.2.2.2.2.2.2.2.2.1
theorem RHp.r {h : mh_H} {sp : Nat → Nat → Bool} {NL : List Nat} {K : Nat → Int32} {m : Nat} {Pt : Nat → lpt} {E0 : nv} {D : lyD} {cnt e0 : Nat} (q : RHp h sp NL K m Pt E0 D cnt e0) : ∀ q, q < e0 → tK (Pt q).N = 11 → ∃ c a ff tt g, c < q ∧ tK (Pt c).N = 7 ∧ (Pt c).C = .branch a (.leaf ()) (.branch ff (.leaf ()) tt) ∧ (Pt q).X = lyC D (Pt c).X (Pt c).L c g a := q.2.2.2.2.2.2.2.2.2.2.1
theorem RHp.l {h : mh_H} {sp : Nat → Nat → Bool} {NL : List Nat} {K : Nat → Int32} {m : Nat} {Pt : Nat → lpt} {E0 : nv} {D : lyD} {cnt e0 : Nat} (q : RHp h sp NL K m Pt E0 D cnt e0) : ∀ q, q < e0 → ∃ f r b' fb, LYR D Pt (f + 1) fb (.branch (Pt q).N (Pt q).C r) (Pt q).K (Pt q).W (Pt q).S q (Pt q).B (Pt q).L b' (Pt q).X := q.2.2.2.2.2.2.2.2.2.2.2
section RPs
variable {h : mh_H} {sp : Nat → Nat → Bool} {NL : List Nat} {KN : Nat → Prop} {K : Nat → Int32} {D : lyD} {Pt : Nat → lpt} {E0 : nv} {m cnt e0 q : Nat}
theorem PIK_3 {n : Nat} {cs : tr} {L : cen} {X : lcx} (k : PIK D n cs L X) : 3 ≤ tK n ∧ tK n ≤ 11 := by
  rcases k with ⟨v, -⟩ | ⟨v, -⟩ | ⟨v, -⟩ | ⟨v, -⟩ | ⟨v, -⟩ | ⟨v, -⟩ | ⟨v, -⟩ | ⟨v, -⟩ <;> omega
theorem MT_of (H : RHp h sp NL K m Pt E0 D cnt e0) (hq : q < e0) : MTT h q (sN2 sp NL (Pt q).L) (jE sp NL Pt E0 q).en (apR sp NL (Pt q).L) := by
  obtain ⟨R, -⟩ := H.R q (Nat.zero_le _) hq
  have P := H.P q hq
  obtain ⟨b1, b2, b3⟩ := R.b
  exact ⟨(Pt q).L.length, b3, R.m, fun v w => mn_at H.L P.Q P.b (Pt q).L R.r v w⟩
theorem gl_of (H : RHp h sp NL K m Pt E0 D cnt e0) (hq : q < e0) (k11 : tK (Pt q).N = 11) : glF h q (Pt q).X.ta := by
  obtain ⟨he, hcn⟩ := H.e
  obtain ⟨c, a, ff, tt, g, c1, c2, c3, c4⟩ := H.r q hq k11
  obtain ⟨R, -⟩ := H.R q (Nat.zero_le _) hq
  obtain ⟨Rc, -⟩ := H.R c (Nat.zero_le _) (by omega)
  have Pc := H.P c (by omega)
  obtain ⟨r, zw, w1, w2, w3, w4, w5, w6⟩ := H.N c (by omega)
  rw [c3] at w1 w3
  obtain ⟨-, ⟨⟨u1, u2, u3, u4, u5, u6⟩, -⟩, -⟩ := w1
  have o := R.o
  have eo : (Pt q).X.ow = some c := by rw [c4]; rfl
  rw [eo] at o
  rw [ts_B, ts_B] at w3
  have hta : (Pt q).X.ta = if tK a = 13 then some ((Pt c).X.nb + lkN (loE D.sp (Pt c).L) (tV a)) else none := by rw [c4]; rfl
  rw [hta]
  have k := Pc.k
  rw [c3] at k
  have key : (tK a = 13 ∨ tK a = 33) ∧ (tK a = 13 → ∃ s, loE D.sp (Pt c).L (tV a) = some (s, 0)) := by
    rcases k with ⟨v, -⟩ | ⟨v, -⟩ | ⟨v, -⟩ | ⟨v, -⟩ | ⟨-, a', ff', t', g', ec, kf, ka, la, -⟩ | ⟨v, -⟩ | ⟨v, -⟩ | ⟨v, -⟩
    · omega
    · omega
    · omega
    · omega
    · cases ec
      exact ⟨ka, la⟩
    · omega
    · omega
    · omega
  refine ⟨c, (Pt c).K, by omega, o, Rc.k, by omega, ?_⟩
  by_cases k13 : tK a = 13
  · rw [if_pos k13]
    obtain ⟨s, l1⟩ := key.2 k13
    rw [H.s] at l1
    have O := LOQ_2 (L := (Pt c).L) H.q Pc.l Pc.Q
    obtain ⟨o1, o2, -⟩ := O _ _ _ l1
    obtain ⟨o2, o3⟩ := o2 rfl
    obtain ⟨b1, b2, b3⟩ := Rc.b
    obtain ⟨e, j1, j2, j3, j4, j5⟩ := mn_at (h := h) (p := c) H.L Pc.Q Pc.b (Pt c).L Rc.r _ o1
    have v95 := u3 k13
    have nl := nix_le (sp := sp) (t := (tV a).toNat) NL
    have hL := H.L
    have i95 : (mh_i h 95 ((Pt c).K + 1)).toInt = ((nix sp NL (tV a).toNat : Nat) : Int) := by rw [v95]; exact nn_int (show nix sp NL (tV a).toNat < 2147483648 by omega)
    have es : lkN (loE D.sp (Pt c).L) (tV a) = s := by unfold lkN; rw [H.s, l1]
    refine Or.inr ⟨by rw [u1, k13]; rfl, (Pt c).L.length, e, (Pt c).X.nb + lkN (loE D.sp (Pt c).L) (tV a), b3, Rc.m, j1, ?_, fun e' h1 h2 z => j3 e' h1 h2 ?_, ?_, rfl⟩
    · exact Int32.toInt_inj.mp (j2.trans i95.symm)
    · rw [z, i95]
    · rw [j4, es]
      exact congrArg Int32.ofNat o2
  · rw [if_neg k13]
    exact Or.inl ⟨by rw [u1, show tK a = 33 from by omega]; rfl, rfl⟩
theorem RPT_v {n k bh fst oth p : Nat} {cs : tr} {L : cen} {X : lcx} {en : Int → Nat} (sps : D.sp = sp) (hq : ∀ a v, nix sp NL a < NL.length → (nix sp NL a = nix sp NL v ↔ sp a v = true)) (hL : NL.length < 100000) (LI : LIV sp NL L) (i100 : mh_i h 100 p = Int32.ofNat k) (n93 : mh_i h 93 k = Int32.ofNat (tK n)) (z97 : mh_i h 97 k = Int32.ofNat (1 + ts cs)) (tc : trR h (fun a => nix sp NL a) cs (k + 1) (Int32.ofNat k)) (kb : k + 1 + ts cs ≤ 25000) {mm : Nat} (af : afr h cnt mm p bh) (i103 : mh_i h 103 p = Int32.ofNat (X.nb + cnZl L)) (i104 : mh_i h 104 p = Int32.ofNat (X.na + cnAl L)) (PK : PIK D n cs L X) (O : LOQ sp NL L X.nb X.na (X.nb + cnZl L) (X.na + cnAl L) (X.rA L) (sN2 sp NL L) en) (tv : tvT K m cs) (b1 : X.nb + cnZl L ≤ 12) (b2 : X.na + cnAl L ≤ 6) (ta12 : ∀ y, X.ta = some y → y < 12) (gl : tK n = 11 → glF h p X.ta) (f1 : tK n ≠ 7 → tK n ≠ 8 → tK n ≠ 9 → fst = bh) (f7 : tK n = 7 → ∃ E, mh_i h 102 p = Int32.ofNat E ∧ E ≤ 250 ∧ fst = if p + 1 < E then p + 1 else bh) (f9 : tK n = 9 → ∃ c cc b1 bs1, cs = .branch c cc (.branch b1 bs1 (.leaf ())) ∧ oth = bh ∧ fst = if 0 < ts bs1 then p + 1 else p) (f8 : tK n = 8 → ∃ c cc b1 bs1 q, cs = .branch c cc (.branch b1 bs1 q) ∧ fst = (if 0 < ts bs1 then p + 1 else bh) ∧ ((q = .leaf () ∧ oth = bh) ∨ ∃ b2 bs2, q = .branch b2 bs2 (.leaf ()) ∧ (¬ 0 < ts bs2 → oth = bh) ∧ (0 < ts bs2 → obF h p oth))) : RPT h p (sN2 sp NL L) en (apR sp NL L) (X.nb + cnZl L) (X.na + cnAl L) (X.rA L) (jC n cs) (jT2 n (rn sp NL cs)) (jX en sp NL n cs) X.ta cnt fst oth := by
  subst sps
  have tsR : ∀ t : tr, ts (rn D.sp NL t) = ts t := fun t => ts_rn t
  unfold RPT
  rcases PK with ⟨kk, a, t, ec, ka, hlt, ht⟩ | ⟨kk, a, u, ec, ka, kq, h6, q1, q2⟩ | ⟨kk, a, x, cx, ec, ka, ⟨sl, la⟩, gt, wt⟩ | ⟨kk, a, x, cx, u, cu, ec, ka, ⟨sl, z, la, lz⟩, gt, gu, wt⟩ | ⟨kk, a, ff, t, g, ec, kf, ka, la, gt, wt, hg, gX, hl, h12, -⟩ | ⟨kk, c, cc, u, ec, gc, wc⟩ | ⟨kk, c, cc, ec, gc, wc⟩ | ⟨kk, x, cx, ec, gt, wt⟩
  · subst ec
    have fb := f1 (by omega) (by omega) (by omega)
    have jt : jT2 n (rn D.sp NL (.branch a (.leaf ()) t)) = rn D.sp NL t := by unfold jT2 jT; rw [if_neg (by omega), if_pos (Or.inl kk)]; rfl
    have jc : jC n (.branch a (.leaf ()) t) = if ts t = 0 then 2 else 1 := by unfold jC; rw [if_pos kk]; rfl
    rw [kk] at n93
    obtain ⟨⟨-, -, -, -, -, u6⟩, -, ut⟩ := tc
    have ut' : trR h (fun a => nix D.sp NL a) t (k + 2) (Int32.ofNat k) := ut
    have tz : ts (.branch a (.leaf ()) t) = 1 + ts t := by rw [ts_B]; show 1 + 0 + ts t = _; omega
    rw [tz] at z97 kb
    rw [jt, jc]
    rcases ht with ht | ⟨x, cx, et, gt, wt⟩
    · have t0 : ts t = 0 := by rw [ht]; rfl
      rw [t0] at z97
      rw [if_pos t0]
      refine ⟨k, 1 + (1 + 0), bh, mm, i100, z97, by omega, by omega, af, i103, i104, by rw [ht]; trivial, fun z => absurd z (by decide), fun _ => ⟨fb, n93, z97, hlt⟩, fun z => absurd z (by decide), fun z => absurd z (by decide), fun z => absurd z (by decide), fun z => absurd z (by decide), fun z => absurd z (by decide), fun z => absurd z (by decide), fun z => absurd z (by decide)⟩
    · have tp : ¬ ts t = 0 := by rw [et, ts_N]; omega
      rw [if_neg tp]
      refine ⟨k, 1 + (1 + ts t), bh, mm, i100, z97, by omega, by omega, af, i103, i104, xA_rn hq LI O t tv.2.2 wt, fun _ => ⟨fb, n93, ?_, u6, trR_nd hL t _ _ ut', by rw [tsR]; omega, hlt⟩, fun z => absurd z (by decide), fun z => absurd z (by decide), fun z => absurd z (by decide), fun z => absurd z (by decide), fun z => absurd z (by decide), fun z => absurd z (by decide), fun z => absurd z (by decide), fun z => absurd z (by decide)⟩
      rw [z97]
      exact (nn_eq (a := 1 + (1 + ts t)) (b := 2) (by omega) (by decide)).trans (eq_false (by omega))
  · subst ec
    have fb := f1 (by omega) (by omega) (by omega)
    have jc : jC n (.branch a (.leaf ()) (.branch u (.leaf ()) (.leaf ()))) = 3 := by unfold jC; rw [if_neg (by omega), if_pos kk]
    have jt : jT2 n (rn D.sp NL (.branch a (.leaf ()) (.branch u (.leaf ()) (.leaf ())))) = rn D.sp NL (.branch a (.leaf ()) (.branch u (.leaf ()) (.leaf ()))) := by unfold jT2 jT; rw [if_neg (by omega), if_neg (by omega), if_neg (by omega)]
    rw [kk] at n93
    rw [jc, jt]
    refine ⟨k, _, bh, mm, i100, z97, by omega, by omega, af, i103, i104, ?_, fun z => absurd z (by decide), fun z => absurd z (by decide), fun _ => ⟨fb, n93, h6⟩, fun z => absurd z (by decide), fun z => absurd z (by decide), fun z => absurd z (by decide), fun z => absurd z (by decide), fun z => absurd z (by decide), fun z => absurd z (by decide)⟩
    rw [rn_B, xA_B, rn_K, rn_B, xA_B, rn_K]
    exact ⟨fun q => absurd q (by omega), trivial, fun q => absurd q (by omega), trivial, trivial⟩
  · subst ec
    have fb := f1 (by omega) (by omega) (by omega)
    have jt : jT2 n (rn D.sp NL (.branch a (.leaf ()) (tNd x cx))) = rn D.sp NL (tNd x cx) := by unfold jT2 jT; rw [if_neg (by omega), if_pos (Or.inr (Or.inl kk))]; rfl
    have jc : jC n (.branch a (.leaf ()) (tNd x cx)) = 4 := by unfold jC; rw [if_neg (by omega), if_neg (by omega), if_pos kk]
    have jx : jX en D.sp NL n (.branch a (.leaf ()) (tNd x cx)) = en (nmI D.sp NL (tV a).toNat) := if_pos (Or.inl kk)
    obtain ⟨o1, o2, -⟩ := O _ _ _ la
    obtain ⟨o3, o4⟩ := o2 rfl
    rw [kk] at n93
    obtain ⟨⟨-, -, u3, -, -, u6⟩, -, ut⟩ := tc
    have ut' : trR h (fun a => nix D.sp NL a) (tNd x cx) (k + 2) (Int32.ofNat k) := ut
    have tz : ts (.branch a (.leaf ()) (tNd x cx)) = 1 + ts (tNd x cx) := by rw [ts_B]; show 1 + 0 + _ = _; omega
    rw [tz] at z97 kb
    have nl := nix_le (sp := D.sp) (t := (tV a).toNat) NL
    have i95 : (mh_i h 95 (k + 1)).toInt = nmI D.sp NL (tV a).toNat := by rw [u3 ka]; exact nn_int (show nix D.sp NL (tV a).toNat < 2147483648 by omega)
    rw [jt, jc, jx]
    refine ⟨k, _, bh, mm, i100, z97, by omega, by omega, af, i103, i104, xA_rn hq LI O (tNd x cx) tv.2.2 wt, fun z => absurd z (by decide), fun z => absurd z (by decide), fun z => absurd z (by decide), fun _ => ⟨fb, n93, u6, by rw [i95]; exact o1, by rw [i95], ?_, trR_nd hL _ _ _ ut', by rw [tsR]; omega⟩, fun z => absurd z (by decide), fun z => absurd z (by decide), fun z => absurd z (by decide), fun z => absurd z (by decide), fun z => absurd z (by decide)⟩
    have o3' : en (nmI D.sp NL (tV a).toNat) = X.nb + sl := o3
    omega
  · subst ec
    have fb := f1 (by omega) (by omega) (by omega)
    have jt : jT2 n (rn D.sp NL (.branch a (.leaf ()) (.branch x cx (tNd u cu)))) = rn D.sp NL (.branch x cx (tNd u cu)) := by unfold jT2 jT; rw [if_neg (by omega), if_pos (Or.inr (Or.inr kk))]; rfl
    have jc : jC n (.branch a (.leaf ()) (.branch x cx (tNd u cu))) = 5 := by unfold jC; rw [if_neg (by omega), if_neg (by omega), if_neg (by omega), if_pos kk]
    have jx : jX en D.sp NL n (.branch a (.leaf ()) (.branch x cx (tNd u cu))) = en (nmI D.sp NL (tV a).toNat) := if_pos (Or.inr kk)
    obtain ⟨o1, -, o2⟩ := O _ _ _ la
    obtain ⟨o3, o4, o5, o6⟩ := o2 lz
    have o3' : en (nmI D.sp NL (tV a).toNat) = X.na + sl := o3
    have hap : apR D.sp NL L (nmI D.sp NL (tV a).toNat) = z := apR_l hq L LI sl z la
    rw [kk] at n93
    obtain ⟨⟨-, -, u3, -, -, u6⟩, -, ut⟩ := tc
    have ut' : trR h (fun a => nix D.sp NL a) (.branch x cx (tNd u cu)) (k + 2) (Int32.ofNat k) := ut
    have tz : ts (.branch a (.leaf ()) (.branch x cx (tNd u cu))) = 1 + ts (.branch x cx (tNd u cu)) := by rw [ts_B]; show 1 + 0 + _ = _; omega
    rw [tz] at z97 kb
    have nl := nix_le (sp := D.sp) (t := (tV a).toNat) NL
    have i95 : (mh_i h 95 (k + 1)).toInt = nmI D.sp NL (tV a).toNat := by rw [u3 ka]; exact nn_int (show nix D.sp NL (tV a).toNat < 2147483648 by omega)
    rw [jt, jc, jx]
    refine ⟨k, _, bh, mm, i100, z97, by omega, by omega, af, i103, i104, xA_rn hq LI O _ tv.2.2 wt, fun z => absurd z (by decide), fun z => absurd z (by decide), fun z => absurd z (by decide), fun z => absurd z (by decide), fun _ => ⟨fb, n93, u6, by rw [i95]; exact o1, by rw [i95], by omega, by rw [i95, hap, o3', o5], by rw [o3', o5]; exact o6, trR_nd hL _ _ _ ut', by rw [tsR]; omega⟩, fun z => absurd z (by decide), fun z => absurd z (by decide), fun z => absurd z (by decide), fun z => absurd z (by decide)⟩
  · subst ec
    have jt : jT2 n (rn D.sp NL (.branch a (.leaf ()) (.branch ff (.leaf ()) t))) = rn D.sp NL t := by unfold jT2 jT; rw [if_neg (by omega), if_neg (by omega), if_pos kk]; rfl
    have jc : jC n (.branch a (.leaf ()) (.branch ff (.leaf ()) t)) = 6 := by unfold jC; rw [if_neg (by omega), if_neg (by omega), if_neg (by omega), if_neg (by omega), if_pos kk]
    rw [kk] at n93
    obtain ⟨-, -, -, -, ut⟩ := tc
    have ut' : trR h (fun a => nix D.sp NL a) t (k + 3) (Int32.ofNat k) := ut
    have tz : ts (.branch a (.leaf ()) (.branch ff (.leaf ()) t)) = 2 + ts t := by rw [ts_B, ts_B]; show 1 + 0 + (1 + 0 + _) = _; omega
    rw [tz] at z97 kb
    rw [jt, jc]
    exact ⟨k, _, bh, mm, i100, z97, by omega, by omega, af, i103, i104, xA_rn hq LI O t tv.2.2.2.2 wt, fun z => absurd z (by decide), fun z => absurd z (by decide), fun z => absurd z (by decide), fun z => absurd z (by decide), fun z => absurd z (by decide), fun _ => ⟨n93, by rw [tsR]; omega, by rw [tl_rn, tl_tlc]; exact h12, trR_nd hL _ _ _ ut', f7 kk⟩, fun z => absurd z (by decide), fun z => absurd z (by decide), fun z => absurd z (by decide)⟩
  · have jc : jC n cs = 7 := by unfold jC; rw [if_neg (by omega), if_neg (by omega), if_neg (by omega), if_neg (by omega), if_neg (by omega), if_pos kk]
    have jt : jT2 n (rn D.sp NL cs) = rn D.sp NL (tNd c cc) := by unfold jT2; rw [if_pos kk, ec]; rfl
    have wt : (lwT (loE D.sp L) (tNd c cc)).1 = 0 := by
      show (lwT (loE D.sp L) (.branch c cc (.leaf ()))).1 = 0
      rw [lwT_B]
      unfold fw
      rw [if_pos wc]
      rfl
    have tv' : tvT K m (tNd c cc) := by
      rw [ec] at tv
      exact ⟨tv.1, tv.2.1, trivial⟩
    rw [jt, jc]
    have nd1 : nd (mh_i h 93) (mh_i h 95) (mh_i h 97) (k + 1) (rn D.sp NL (tNd c cc)) := by
      rw [ec] at tc
      exact trR_nd hL (tNd c cc) (k + 1) (Int32.ofNat k) ⟨tc.1, tc.2.1, trivial⟩
    refine ⟨k, _, bh, mm, i100, z97, by omega, by omega, af, i103, i104, xA_rn hq LI O (tNd c cc) tv' wt, fun z => absurd z (by decide), fun z => absurd z (by decide), fun z => absurd z (by decide), fun z => absurd z (by decide), fun z => absurd z (by decide), fun z => absurd z (by decide), fun _ => ?_, fun z => absurd z (by decide), fun z => absurd z (by decide)⟩
    rcases kk with k8 | k9
    · obtain ⟨c', cc', b1', bs1, q, ec', g1, g2⟩ := f8 k8
      rw [ec] at ec'
      cases ec'
      subst ec
      obtain ⟨⟨-, -, -, -, -, u6⟩, -, ⟨-, -, -, -, -, v6⟩, -, uq⟩ := tc
      have hz : 1 + ts (.branch c cc (.branch b1' bs1 q)) = 3 + ts cc + ts bs1 + ts q := by rw [ts_B, ts_B]; omega
      have hz2 : ts (.branch c cc (.branch b1' bs1 q)) = 2 + ts cc + ts bs1 + ts q := by rw [ts_B, ts_B]; omega
      rw [hz2] at kb
      rw [hz]
      clear hz hz2
      have e1 : k + 1 + 1 + ts cc = k + 1 + (1 + ts cc) := by omega
      rw [e1] at v6 uq
      rw [k8] at n93
      refine ⟨nd1, by rw [tsR, ts_N]; omega, 1 + ts cc, 1 + ts bs1, k + 1 + (1 + ts cc), u6, rfl, v6, by omega, by omega, Or.inr ⟨n93, by omega, ?_, ?_⟩⟩
      · rw [g1]
        by_cases c0 : 0 < ts bs1
        · rw [if_pos c0, if_pos (by omega)]
        · rw [if_neg c0, if_neg (by omega)]
      · rcases g2 with ⟨eq, g2⟩ | ⟨b2', bs2, eq, g2, g3⟩
        · subst eq
          have t0 : ts (Lean.RArray.leaf () : tr) = 0 := rfl
          rw [t0]
          exact ⟨0, fun z => absurd z (by omega), fun _ => g2, fun z => absurd z.1 (by omega)⟩
        · subst eq
          obtain ⟨⟨-, -, -, -, -, y6⟩, -⟩ := uq
          have t1 : ts (.branch b2' bs2 (.leaf ())) = 1 + ts bs2 + 0 := rfl
          rw [t1] at kb
          rw [t1]
          refine ⟨1 + ts bs2, fun _ => ⟨by rw [show k + 1 + (1 + ts cc) + (1 + ts bs1) = k + 1 + (1 + ts cc) + 1 + ts bs1 from by omega]; exact y6, by omega⟩, fun z => g2 (fun q => z ⟨by omega, by omega⟩), fun z => g3 (by omega)⟩
    · obtain ⟨c', cc', b1', bs1, ec', g1, g2⟩ := f9 k9
      rw [ec] at ec'
      cases ec'
      subst ec
      obtain ⟨⟨-, -, -, -, -, u6⟩, -, ⟨-, -, -, -, -, v6⟩, -, -⟩ := tc
      have hz2 : ts (.branch c cc (.branch b1' bs1 (.leaf ()))) = 2 + ts cc + ts bs1 := by rw [ts_B, ts_B]; show 1 + ts cc + (1 + ts bs1 + 0) = _; omega
      rw [hz2] at kb
      have e1 : k + 1 + 1 + ts cc = k + 1 + (1 + ts cc) := by omega
      rw [e1] at v6
      rw [k9] at n93
      refine ⟨nd1, by rw [tsR, ts_N]; omega, 1 + ts cc, 1 + ts bs1, k + 1 + (1 + ts cc), u6, rfl, v6, by omega, by omega, Or.inl ⟨n93, g1, ?_⟩⟩
      rw [g2]
      by_cases c0 : 0 < ts bs1
      · rw [if_pos c0, if_pos (by omega)]
      · rw [if_neg c0, if_neg (by omega)]
  · subst ec
    have fb := f1 (by omega) (by omega) (by omega)
    have jc : jC n (tNd c cc) = 8 := by unfold jC; rw [if_neg (by omega), if_neg (by omega), if_neg (by omega), if_neg (by omega), if_neg (by omega), if_neg (by omega), if_pos kk]
    have jt : jT2 n (rn D.sp NL (tNd c cc)) = rn D.sp NL (tNd c cc) := by unfold jT2 jT; rw [if_neg (by omega), if_neg (by omega), if_neg (by omega)]
    have wt : (lwT (loE D.sp L) (tNd c cc)).1 = 0 := by
      show (lwT (loE D.sp L) (.branch c cc (.leaf ()))).1 = 0
      rw [lwT_B]
      unfold fw
      rw [if_pos wc]
      rfl
    rw [kk] at n93
    rw [jt, jc]
    exact ⟨k, _, bh, mm, i100, z97, by omega, by omega, af, i103, i104, xA_rn hq LI O (tNd c cc) tv wt, fun z => absurd z (by decide), fun z => absurd z (by decide), fun z => absurd z (by decide), fun z => absurd z (by decide), fun z => absurd z (by decide), fun z => absurd z (by decide), fun z => absurd z (by decide), fun _ => ⟨fb, n93, trR_nd hL _ _ _ tc, by rw [tsR]; omega⟩, fun z => absurd z (by decide)⟩
  · subst ec
    have fb := f1 (by omega) (by omega) (by omega)
    have jc : jC n (tNd x cx) = 9 := by unfold jC; rw [if_neg (by omega), if_neg (by omega), if_neg (by omega), if_neg (by omega), if_neg (by omega), if_neg (by omega), if_neg (by omega)]
    have jt : jT2 n (rn D.sp NL (tNd x cx)) = rn D.sp NL (tNd x cx) := by unfold jT2 jT; rw [if_neg (by omega), if_neg (by omega), if_neg (by omega)]
    have g11 := gl kk
    rw [kk] at n93
    rw [jt, jc]
    exact ⟨k, _, bh, mm, i100, z97, by omega, by omega, af, i103, i104, xA_rn hq LI O (tNd x cx) tv wt, fun z => absurd z (by decide), fun z => absurd z (by decide), fun z => absurd z (by decide), fun z => absurd z (by decide), fun z => absurd z (by decide), fun z => absurd z (by decide), fun z => absurd z (by decide), fun z => absurd z (by decide), fun _ => ⟨fb, n93, g11, ta12, trR_nd hL _ _ _ tc, by rw [tsR]; omega⟩⟩
theorem LYR_t0 {f : Nat} {fb : Bool} {t : tr} {k w s p e b : Nat} {L : cen} {X : lcx} (y : LYR D Pt f fb t k w s p e L b X) : 0 < ts t ↔ p < e := by
  cases t with
  | leaf u =>
    have : p = e := by cases f <;> exact y
    exact ⟨fun z => absurd z (Nat.lt_irrefl _), fun z => by omega⟩
  | branch n cs r =>
    cases f with
    | zero => exact absurd y (fun z => z)
    | succ f => exact ⟨fun _ => y.1.1, fun _ => by rw [ts_B]; omega⟩
theorem RP_of (H : RHp h sp NL K m Pt E0 D cnt e0) (hq : q < e0) : RPT h q (sN2 sp NL (Pt q).L) (jE sp NL Pt E0 q).en (apR sp NL (Pt q).L) ((Pt q).X.nb + cnZl (Pt q).L) ((Pt q).X.na + cnAl (Pt q).L) ((Pt q).X.rA (Pt q).L) (jC (Pt q).N (Pt q).C) (jT2 (Pt q).N (rn sp NL (Pt q).C)) (jX (jE sp NL Pt E0 q).en sp NL (Pt q).N (Pt q).C) (Pt q).X.ta (e0 + 1) (fstP Pt e0 q) (othP Pt e0 q) := by
  obtain ⟨he, hcn⟩ := H.e
  obtain ⟨R, r102⟩ := H.R q (Nat.zero_le _) hq
  have P := H.P q hq
  obtain ⟨r, zw, w1, w2, w3, w4, w5, w6⟩ := H.N q hq
  obtain ⟨⟨x1, x2, x3, x4, x5, x6⟩, y1, y2⟩ := w1
  obtain ⟨⟨e1, e2, e3⟩, eM⟩ := H.B q hq
  obtain ⟨b1, b2⟩ := P.b
  have af := afr_of he hcn H.N H.R H.w (fun q hq => (H.B q hq).1.2.1) (q + 1) q (Nat.lt_succ_self _) hq (q + 1) (Nat.lt_succ_self _)
  have O := LOQ_2 (L := (Pt q).L) H.q P.l P.Q
  obtain ⟨rv, tv⟩ := H.v q hq
  obtain ⟨f', rr, bb, fb, ly⟩ := H.l q hq
  obtain ⟨-, -, -, -, LN', -⟩ := ly
  have fe : fstP Pt e0 q = if q + 1 < (if tK (Pt q).N = 8 then (Pt q).M else (Pt q).E) then q + 1 else if tK (Pt q).N = 9 then q else bh Pt e0 q := rfl
  have oe : othP Pt e0 q = if tK (Pt q).N = 8 ∧ (Pt q).M < (Pt q).E then (Pt q).M else bh Pt e0 q := rfl
  refine RPT_v H.s H.q H.L P.l R.k x1 x6 y1 (by omega) af R.n R.a P.k O tv.2.1 b1 b2 (fun y hy => by have := P.t y hy; omega) (fun z => gl_of H hq z) (fun n7 n8 n9 => ?_) (fun k7 => ?_) (fun k9 => ?_) (fun k8 => ?_)
  · have E1 : (Pt q).E = q + 1 := by
      rcases LN' with ⟨z, -⟩ | ⟨z, -⟩ | ⟨z, -⟩ | ⟨-, -, -, z⟩
      · omega
      · omega
      · omega
      · exact z
    rw [fe, if_neg n8, if_neg (by omega), if_neg n9]
  · refine ⟨(Pt q).E, r102, by omega, ?_⟩
    rw [fe, if_neg (show ¬ tK (Pt q).N = 8 by omega), if_neg (show ¬ tK (Pt q).N = 9 by omega)]
  · rcases LN' with ⟨z, -⟩ | ⟨z, -⟩ | ⟨-, c, cc, b1', bs1, ec, z⟩ | ⟨-, -, z, -⟩
    · omega
    · omega
    · refine ⟨c, cc, b1', bs1, ec, by rw [oe, if_neg (by omega)], ?_⟩
      have t0 := LYR_t0 z
      rw [fe, if_neg (show ¬ tK (Pt q).N = 8 by omega), if_pos k9]
      by_cases c0 : q + 1 < (Pt q).E
      · rw [if_pos c0, if_pos (t0.mpr c0)]
      · rw [if_neg c0, if_neg (fun z => c0 (t0.mp z))]
    · omega
  · rcases LN' with ⟨z, -⟩ | ⟨-, c, cc, b1', bs1, qq, ec, m1, m2, z3, z4⟩ | ⟨z, -⟩ | ⟨-, z, -⟩
    · omega
    · have t0 := LYR_t0 z3
      refine ⟨c, cc, b1', bs1, qq, ec, ?_, ?_⟩
      · rw [fe, if_pos k8, if_neg (show ¬ tK (Pt q).N = 9 by omega)]
        by_cases c0 : q + 1 < (Pt q).M
        · rw [if_pos c0, if_pos (t0.mpr c0)]
        · rw [if_neg c0, if_neg (fun z => c0 (t0.mp z))]
      · rcases z4 with ⟨eq, z4⟩ | ⟨b2', bs2, eq, z4⟩
        · exact Or.inl ⟨eq, by rw [oe, if_neg (by omega)]⟩
        · have t1 := LYR_t0 z4
          refine Or.inr ⟨b2', bs2, eq, fun z => ?_, fun z => ?_⟩
          · rw [oe, if_neg (fun u => z (t1.mpr u.2))]
          · have lt := t1.mp z
            rw [oe, if_pos ⟨k8, lt⟩]
            exact obF_of he hcn H.N H.R hq (by omega) ec z3 z4 m1 lt
    · omega
    · omega
end RPs
