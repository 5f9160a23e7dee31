set_option maxRecDepth 100000
/-! the class's heap at a point of the layout -/
theorem suMR_b {lo : lkt} {s : cps} : ∀ (t : tr) x, suMR lo s t x → x ≤ s.1 6 := by
  intro t
  cases t with
  | leaf _ => exact fun x w => w
  | branch a cs r => exact fun x w => Nat.le_of_lt w.1.1
/-- by which kind -/
def jX (en : Int → Nat) (sp : Nat → Nat → Bool) (NL : List Nat) (n : Nat) (cs : tr) : Nat := if tK n = 5 ∨ tK n = 6 then en (nmI sp NL (tV (hd1 cs)).toNat) else 0
/-- the first node alone -/
def tF : tr → tr
  | .leaf u => .leaf u
  | .branch n cs _ => .branch n cs (.leaf ())
def jZ (n : Nat) (cs : tr) : Nat := if tK n = 4 then (tV (hd1 (tT cs))).toNat else 0
section PTl
variable {h : mh_H} {B n m p St S s1 b fu nn : Nat} {D : lyD} {Sc Sf : cps} {sp : Nat → Nat → Bool} {NL : List Nat} {L : cen} {X : lcx} {sN : Int → Prop} {en : Int → Nat} {cs : tr} {rl : Bool} {rec : tr → Nat → Nat → cen → Prop}
theorem PT_c (R : CSR h B n Sc) (hN : 2644 ≤ mh_n h) (gS : mg h St 9) (stB : 2644 ≤ St) (si : ∀ j, j ≠ 5 → j ≠ 6 → mh_i h St j = Sc.2 (24 + S) j) (st : stN D.sp Sc fu rec nn cs S s1 L b rl) (PK : PIK D nn cs L X) (sps : D.sp = sp) (O : LOQ sp NL L X.nb X.na (X.nb + cnZl L) (X.na + cnAl L) (X.rA L) sN en) (b1 : X.nb + cnZl L ≤ 12) (b2 : X.na + cnAl L ≤ 6) (tk : tkF h p X.ta) (ta : ∀ y, X.ta = some y → y < X.nb + cnZl L) {tt : tr} (ht2 : tt = jT nn (rn sp NL cs) ∨ ((tK nn = 8 ∨ tK nn = 9) ∧ tt = tF (rn sp NL cs))) : PTC h (B + 5) (B + 6) (B + 7) (B + 8) (B + 9) (B + 10) (B + 11) (3 * n + 3) (n + 1) (n + 2) (Sc.1 5) p St X.nb X.na (cnZl L) (X.nb + cnZl L) (X.na + cnAl L) (X.rA L) sN en (jC nn cs) tt (jX en sp NL nn cs) (jZ nn cs) X.ta ∧ (jC nn cs = 7 ∨ jC nn cs = 8 → MPC h (B + 5) (B + 6) (B + 10) (3 * n + 3) (n + 2) X.nb X.na St sN en (A0 (X.nb + cnZl L) (X.na + cnAl L) (X.rA L)) tt) := by
  obtain ⟨b4, b5, b6, b7, bn⟩ := R.b
  have hB := R.B
  obtain ⟨k1, k2, k3⟩ := R.k
  obtain ⟨w1, w2, w3⟩ := R.w
  subst sps
  have kk3 := stN_3 st
  obtain ⟨-, st⟩ := st
  have hA0 : abQ (A0 (X.nb + cnZl L) (X.na + cnAl L) (X.rA L)) (X.nb + cnZl L) (X.na + cnAl L) (X.rA L) := ⟨rfl, rfl, fun _ _ => rfl⟩
  unfold PTC
  rcases PK with ⟨kk, a, t, ec, ka, hlt, ht⟩ | ⟨kk, a, q, ec, ka, kq, h6, q1, q2⟩ | ⟨kk, a, x, cx, ec, ka, ⟨sl, la⟩, gt, wt⟩ | ⟨kk, a, x, cx, u, cu, ec, ka, ⟨sl, z, la, lz⟩, gt, gu, wt⟩ | ⟨kk, a, ff, t, g, ec, kf, ka, la, gt, wt, hg, gX, hl, h12, -⟩ | ⟨kk, c, cc, q, ec, gc, wc⟩ | ⟨kk, c, cc, ec, gc, wc⟩ | ⟨kk, x, cx, ec, gt, wt⟩
  · have ht2' : tt = jT nn (rn D.sp NL cs) := by
      rcases ht2 with z | ⟨z, -⟩
      · exact z
      · omega
    subst ec
    rw [ht2']
    have jt : jT nn (rn D.sp NL (.branch a (.leaf ()) t)) = rn D.sp NL t := by unfold jT; rw [if_pos (Or.inl kk)]; rfl
    have jc : jC nn (.branch a (.leaf ()) t) = if ts t = 0 then 2 else 1 := by unfold jC; rw [if_pos kk]; rfl
    rcases st with ⟨-, a', t', e', -, -, f9, ft⟩ | ⟨v, -⟩ | ⟨v, -⟩ | ⟨v, -⟩ | ⟨v, -⟩ | ⟨v, -⟩ | ⟨v, -⟩ | ⟨v, -⟩ | ⟨v, -⟩
    · cases e'
      rw [jt, jc]
      rcases ht with ht | ⟨x, cx, et, gt, wt⟩
      · have f11 : Sc.2 (24 + S) 11 = 0 := by
          rcases ft with ⟨-, f⟩ | ⟨f, -⟩
          · exact f
          · rw [ht] at f; exact absurd f (Nat.lt_irrefl 0)
        have i2 : (if ts t = 0 then 2 else 1) = 2 := if_pos (by rw [ht]; rfl)
        rw [i2]
        exact ⟨⟨fun z => absurd z (by decide), fun _ => ⟨hlt, (si 9 (by decide) (by decide)).trans f9, (si 11 (by decide) (by decide)).trans f11⟩, fun z => absurd z (by decide), fun z => absurd z (by decide), fun z => absurd z (by decide), fun z => absurd z (by decide), fun z => absurd z (by decide), fun z => absurd z (by decide)⟩, fun z => absurd z (by decide)⟩
      · have tp : ¬ ts t = 0 := by rw [et, ts_N]; omega
        rcases ft with ⟨f, -⟩ | ⟨-, f11, y, f10, S1⟩
        · rw [f] at tp; exact absurd rfl tp
        · rw [if_neg tp]
          exact ⟨⟨fun _ => ⟨hlt, rfl, (si 9 (by decide) (by decide)).trans f9, 1, y, (si 11 (by decide) (by decide)).trans f11, by decide, by decide, (si 10 (by decide) (by decide)).trans f10, suA_of R O b1 gt wt S1⟩, fun z => absurd z (by decide), fun z => absurd z (by decide), fun z => absurd z (by decide), fun z => absurd z (by decide), fun z => absurd z (by decide), fun z => absurd z (by decide), fun z => absurd z (by decide)⟩, fun z => absurd z (by decide)⟩
    all_goals omega
  · have ht2' : tt = jT nn (rn D.sp NL cs) := by
      rcases ht2 with z | ⟨z, -⟩
      · exact z
      · omega
    subst ec
    rw [ht2']
    have jc : jC nn (.branch a (.leaf ()) (.branch q (.leaf ()) (.leaf ()))) = 3 := by unfold jC; rw [if_neg (by omega), if_pos kk]
    have jz : jZ nn (.branch a (.leaf ()) (.branch q (.leaf ()) (.leaf ()))) = (tV q).toNat := if_pos kk
    rcases st with ⟨v, -⟩ | ⟨-, a', q', e', -, -, f9⟩ | ⟨v, -⟩ | ⟨v, -⟩ | ⟨v, -⟩ | ⟨v, -⟩ | ⟨v, -⟩ | ⟨v, -⟩ | ⟨v, -⟩
    · omega
    · cases e'
      rw [jc, jz]
      have q3 : max 1 (tV q).toNat = (tV q).toNat := by omega
      rw [q3] at f9
      exact ⟨⟨fun z => absurd z (by decide), fun z => absurd z (by decide), fun _ => ⟨h6, (si 9 (by decide) (by decide)).trans f9, by omega, by omega⟩, fun z => absurd z (by decide), fun z => absurd z (by decide), fun z => absurd z (by decide), fun z => absurd z (by decide), fun z => absurd z (by decide)⟩, fun z => absurd z (by decide)⟩
    all_goals omega
  · have ht2' : tt = jT nn (rn D.sp NL cs) := by
      rcases ht2 with z | ⟨z, -⟩
      · exact z
      · omega
    subst ec
    rw [ht2']
    have jt : jT nn (rn D.sp NL (.branch a (.leaf ()) (tNd x cx))) = rn D.sp NL (tNd x cx) := by unfold jT; rw [if_pos (Or.inr (Or.inl kk))]; rfl
    have jc : jC nn (.branch a (.leaf ()) (tNd x cx)) = 4 := by unfold jC; rw [if_neg (by omega), if_neg (by omega), if_pos kk]
    have jx : jX en D.sp NL nn (.branch a (.leaf ()) (tNd x cx)) = en (nmI D.sp NL (tV a).toNat) := if_pos (Or.inl kk)
    obtain ⟨o1, o2, -⟩ := O _ _ _ la
    obtain ⟨o3, o4⟩ := o2 rfl
    have o3' : en (nmI D.sp NL (tV a).toNat) = X.nb + sl := o3
    have es : lkN (loE D.sp L) (tV a) = sl := by unfold lkN; rw [la]
    rcases st with ⟨v, -⟩ | ⟨v, -⟩ | ⟨-, a', t', y, e', -, f8, f10, S1⟩ | ⟨v, -⟩ | ⟨v, -⟩ | ⟨v, -⟩ | ⟨v, -⟩ | ⟨v, -⟩ | ⟨v, -⟩
    · omega
    · omega
    · cases e'
      rw [es] at f8
      rw [jt, jc, jx, o3']
      exact ⟨⟨fun z => absurd z (by decide), fun z => absurd z (by decide), fun z => absurd z (by decide), fun _ => ⟨o4, sl, y, rfl, (si 8 (by decide) (by decide)).trans f8, (si 10 (by decide) (by decide)).trans f10, suA_of R O b1 gt wt S1⟩, fun z => absurd z (by decide), fun z => absurd z (by decide), fun z => absurd z (by decide), fun z => absurd z (by decide)⟩, fun z => absurd z (by decide)⟩
    all_goals omega
  · have ht2' : tt = jT nn (rn D.sp NL cs) := by
      rcases ht2 with z | ⟨z, -⟩
      · exact z
      · omega
    subst ec
    rw [ht2']
    have jt : jT nn (rn D.sp NL (.branch a (.leaf ()) (.branch x cx (tNd u cu)))) = rn D.sp NL (.branch x cx (tNd u cu)) := by unfold jT; rw [if_pos (Or.inr (Or.inr kk))]; rfl
    have jc : jC nn (.branch a (.leaf ()) (.branch x cx (tNd u cu))) = 5 := by unfold jC; rw [if_neg (by omega), if_neg (by omega), if_neg (by omega), if_pos kk]
    have jx : jX en D.sp NL nn (.branch a (.leaf ()) (.branch x cx (tNd u cu))) = en (nmI D.sp NL (tV a).toNat) := if_pos (Or.inr kk)
    obtain ⟨o1, -, o2⟩ := O _ _ _ la
    obtain ⟨o3, o4, o5, o6⟩ := o2 lz
    have o3' : en (nmI D.sp NL (tV a).toNat) = X.na + sl := o3
    rcases st with ⟨v, -⟩ | ⟨v, -⟩ | ⟨v, -⟩ | ⟨-, a', t', y, e', -, f8, f10, S1, S2⟩ | ⟨v, -⟩ | ⟨v, -⟩ | ⟨v, -⟩ | ⟨v, -⟩ | ⟨v, -⟩
    · omega
    · omega
    · omega
    · cases e'
      obtain ⟨f8, f9⟩ := f8 sl z la lz
      rw [jt, jc, jx, o3', tT_rn]
      exact ⟨⟨fun z => absurd z (by decide), fun z => absurd z (by decide), fun z => absurd z (by decide), fun z => absurd z (by decide), fun _ => ⟨o4, sl, y, z, rfl, (si 8 (by decide) (by decide)).trans f8, (si 9 (by decide) (by decide)).trans f9, o5, lz, o6, (si 10 (by decide) (by decide)).trans f10, suA_of R O b1 gt wt S1, suA_of R O b1 gu (lw_0 wt).2 S2⟩, fun z => absurd z (by decide), fun z => absurd z (by decide), fun z => absurd z (by decide)⟩, fun z => absurd z (by decide)⟩
    all_goals omega
  · have ht2' : tt = jT nn (rn D.sp NL cs) := by
      rcases ht2 with z | ⟨z, -⟩
      · exact z
      · omega
    subst ec
    rw [ht2']
    have jt : jT nn (rn D.sp NL (.branch a (.leaf ()) (.branch ff (.leaf ()) t))) = rn D.sp NL t := by unfold jT; rw [if_neg (by omega), if_pos kk]; rfl
    have jc : jC nn (.branch a (.leaf ()) (.branch ff (.leaf ()) t)) = 6 := by unfold jC; rw [if_neg (by omega), if_neg (by omega), if_neg (by omega), if_neg (by omega), if_pos kk]
    rcases st with ⟨v, -⟩ | ⟨v, -⟩ | ⟨v, -⟩ | ⟨v, -⟩ | ⟨-, a', f', t', y, e', -, -, -, f11, f10, S1⟩ | ⟨v, -⟩ | ⟨v, -⟩ | ⟨v, -⟩ | ⟨v, -⟩
    · omega
    · omega
    · omega
    · omega
    · cases e'
      have yb := suMR_b t y S1
      rw [jt, jc]
      exact ⟨⟨fun z => absurd z (by decide), fun z => absurd z (by decide), fun z => absurd z (by decide), fun z => absurd z (by decide), fun z => absurd z (by decide), fun _ => ⟨rfl, tlc t, y, (si 11 (by decide) (by decide)).trans f11, by rw [tl_rn, tl_tlc], h12, by omega, (si 10 (by decide) (by decide)).trans f10, suR_of R O b1 t y gt wt S1⟩, fun z => absurd z (by decide), fun z => absurd z (by decide)⟩, fun z => absurd z (by decide)⟩
    all_goals omega
  · have jt : jT nn (rn D.sp NL cs) = rn D.sp NL cs := by unfold jT; rw [if_neg (by omega), if_neg (by omega)]
    have jc : jC nn cs = 7 := by unfold jC; rw [if_neg (by omega), if_neg (by omega), if_neg (by omega), if_neg (by omega), if_neg (by omega), if_pos kk]
    obtain ⟨q2, hq2⟩ : ∃ q2, tt = rn D.sp NL (.branch c cc q2) ∧ cn3 (.branch c cc q2) ≤ 348 := by
      rcases ht2 with z | ⟨-, z⟩
      · exact ⟨q, by rw [z, jt, ec], by rw [← ec]; exact gc.2.1⟩
      · refine ⟨.leaf (), by rw [z, ec]; rfl, ?_⟩
        have := gc.2.1
        rw [ec, cn_B] at this
        rw [cn_B]
        show max _ 0 ≤ 348
        omega
    obtain ⟨ht3, hc3⟩ := hq2
    subst ec
    obtain ⟨g1, g2, g3⟩ := gc
    have key : ∃ c0 c1, Sc.2 (24 + S) 12 = Int32.ofNat c0 ∧ Sc.2 (24 + S) 13 = Int32.ofNat c1 ∧ c1 ≤ Sc.1 7 ∧ cy (Sc.2 12) (Sc.2 13) (rlx (loE D.sp L) Sc) (.branch c cc (.leaf ())) false false c0 c1 := by
      rcases st with ⟨v, -⟩ | ⟨v, -⟩ | ⟨v, -⟩ | ⟨v, -⟩ | ⟨v, -⟩ | ⟨-, c', cc', b1', bs1', q', k2', c0, c1, e', f12, f13, f7, Y, -⟩ | ⟨-, c', cc', b1', bs1', c0, c1, e', f12, f13, f7, Y, -⟩ | ⟨v, -⟩ | ⟨v, -⟩
      · omega
      · omega
      · omega
      · omega
      · omega
      · cases e'
        exact ⟨c0, c1, f12, f13, f7, Y⟩
      · cases e'
        exact ⟨c0, c1, f12, f13, f7, Y⟩
      · omega
      · omega
    obtain ⟨c0, c1, f12, f13, f7, Y⟩ := key
    have cn := fun (A : ab) (hA : abQ A (X.nb + cnZl L) (X.na + cnAl L) (X.rA L)) => cn_of (q := q2) (A := A) R O b1 (gc_r g1) wc hA Y
    have le := (cy_le Y).1
    rw [ht3, jc]
    refine ⟨⟨fun z => absurd z (by decide), fun z => absurd z (by decide), fun z => absurd z (by decide), fun z => absurd z (by decide), fun z => absurd z (by decide), fun z => absurd z (by decide), fun _ => ⟨by rw [cn_rn]; omega, c0, c1, B + 12, B + 13, n + 1, mh_i h (B + 12), mh_i h (B + 13), (si 12 (by decide) (by decide)).trans f12, ⟨gS, (si 13 (by decide) (by decide)).trans f13, k1, k2, k3, w1, w2, w3, fun x hx => by omega, by omega, by omega, rfl, rfl, hN, fun _ _ _ _ _ _ z => z⟩, fun A a1 a2 a3 => ⟨(wC_rn O ⟨a1, a2, a3⟩ (.branch c cc q2)).1 c cc q2 rfl (gc_r g1) wc, (cn A ⟨a1, a2, a3⟩).2⟩⟩, fun z => absurd z (by decide)⟩, fun _ => ⟨c0, c1, B + 12, B + 13, n + 1, ?_, by omega, by omega, (cn _ hA0).1⟩⟩
    exact MC.of ⟨gS, (si 12 (by decide) (by decide)).trans f12, (si 13 (by decide) (by decide)).trans f13, k1, k2, k3, w1, w2, w3, ⟨by omega, by omega, le⟩, ⟨by omega, by omega, by omega, by omega, by omega, by omega⟩⟩
  · have jt : jT nn (rn D.sp NL cs) = rn D.sp NL cs := by unfold jT; rw [if_neg (by omega), if_neg (by omega)]
    have jc : jC nn cs = 8 := by unfold jC; rw [if_neg (by omega), if_neg (by omega), if_neg (by omega), if_neg (by omega), if_neg (by omega), if_neg (by omega), if_pos kk]
    have ht2' : tt = rn D.sp NL cs := by
      rcases ht2 with z | ⟨z, -⟩
      · rw [z, jt]
      · omega
    subst ec
    obtain ⟨g1, g2, g3⟩ := gc
    have key : ∃ c0 c1, Sc.2 (24 + S) 12 = Int32.ofNat c0 ∧ Sc.2 (24 + S) 13 = Int32.ofNat c1 ∧ c1 ≤ Sc.1 7 ∧ cy (Sc.2 12) (Sc.2 13) (rlx (loE D.sp L) Sc) (.branch c cc (.leaf ())) false false c0 c1 := by
      rcases st with ⟨v, -⟩ | ⟨v, -⟩ | ⟨v, -⟩ | ⟨v, -⟩ | ⟨v, -⟩ | ⟨v, -⟩ | ⟨v, -⟩ | ⟨-, c0, c1, -, f12, f13, f7, Y⟩ | ⟨v, -⟩
      · omega
      · omega
      · omega
      · omega
      · omega
      · omega
      · omega
      · exact ⟨c0, c1, f12, f13, f7, Y⟩
      · omega
    obtain ⟨c0, c1, f12, f13, f7, Y⟩ := key
    have cn := fun (A : ab) (hA : abQ A (X.nb + cnZl L) (X.na + cnAl L) (X.rA L)) => cn_of (q := .leaf ()) (A := A) R O b1 g1 wc hA Y
    have le := (cy_le Y).1
    rw [ht2', jc]
    refine ⟨⟨fun z => absurd z (by decide), fun z => absurd z (by decide), fun z => absurd z (by decide), fun z => absurd z (by decide), fun z => absurd z (by decide), fun z => absurd z (by decide), fun _ => ⟨by rw [cn_rn]; omega, c0, c1, B + 12, B + 13, n + 1, mh_i h (B + 12), mh_i h (B + 13), (si 12 (by decide) (by decide)).trans f12, ⟨gS, (si 13 (by decide) (by decide)).trans f13, k1, k2, k3, w1, w2, w3, fun x hx => by omega, by omega, by omega, rfl, rfl, hN, fun _ _ _ _ _ _ z => z⟩, fun A a1 a2 a3 => ⟨(wC_rn O ⟨a1, a2, a3⟩ (tNd c cc)).1 c cc (.leaf ()) rfl g1 wc, (cn A ⟨a1, a2, a3⟩).2⟩⟩, fun z => absurd z (by decide)⟩, fun _ => ⟨c0, c1, B + 12, B + 13, n + 1, ?_, by omega, by omega, (cn _ hA0).1⟩⟩
    exact MC.of ⟨gS, (si 12 (by decide) (by decide)).trans f12, (si 13 (by decide) (by decide)).trans f13, k1, k2, k3, w1, w2, w3, ⟨by omega, by omega, le⟩, ⟨by omega, by omega, by omega, by omega, by omega, by omega⟩⟩
  · have ht2' : tt = jT nn (rn D.sp NL cs) := by
      rcases ht2 with z | ⟨z, -⟩
      · exact z
      · omega
    subst ec
    rw [ht2']
    have jt : jT nn (rn D.sp NL (tNd x cx)) = rn D.sp NL (tNd x cx) := by unfold jT; rw [if_neg (by omega), if_neg (by omega)]
    have jc : jC nn (tNd x cx) = 9 := by unfold jC; rw [if_neg (by omega), if_neg (by omega), if_neg (by omega), if_neg (by omega), if_neg (by omega), if_neg (by omega), if_neg (by omega)]
    rcases st with ⟨v, -⟩ | ⟨v, -⟩ | ⟨v, -⟩ | ⟨v, -⟩ | ⟨v, -⟩ | ⟨v, -⟩ | ⟨v, -⟩ | ⟨v, -⟩ | ⟨-, y, -, f10, S1⟩
    · omega
    · omega
    · omega
    · omega
    · omega
    · omega
    · omega
    · omega
    · rw [jt, jc]
      exact ⟨⟨fun z => absurd z (by decide), fun z => absurd z (by decide), fun z => absurd z (by decide), fun z => absurd z (by decide), fun z => absurd z (by decide), fun z => absurd z (by decide), fun z => absurd z (by decide), fun _ => ⟨ta, tk, y, (si 10 (by decide) (by decide)).trans f10, suA_of R O b1 gt wt S1⟩⟩, fun z => absurd z (by decide)⟩
end PTl
