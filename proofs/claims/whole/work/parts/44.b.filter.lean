set_option maxRecDepth 100000
/-! THE SPARE BOUND: what a row leaves lies in what was known, or its work grew -/
/-- C lies in s, for n numbers and a arrays -/
def oL (n a : Nat) (C s : Option ab) : Prop := ∀ B, C = some B → ∃ S, s = some S ∧ (∀ i j, i < 2 * n → j < 2 * n → B.m i j ≤ S.m i j) ∧ ∀ x, x < a → S.lo x ≤ B.lo x ∧ B.hi x ≤ S.hi x
section OLs
variable {n a n' a' : Nat} {C s t x y : Option ab} {A B : ab}
theorem oL_id : oL n a s s := fun B e => ⟨B, e, fun _ _ _ _ => Int.le_refl _, fun _ _ => ⟨Int.le_refl _, Int.le_refl _⟩⟩
theorem oL_n : oL n a none s := fun B e => by cases e
theorem oL_t (h1 : oL n a C s) (h2 : oL n a s t) : oL n a C t := fun B e => by
  obtain ⟨S, e1, q1, q2⟩ := h1 B e
  obtain ⟨T, e2, q3, q4⟩ := h2 S e1
  exact ⟨T, e2, fun i j hi hj => Int.le_trans (q1 i j hi hj) (q3 i j hi hj), fun x hx => ⟨Int.le_trans (q4 x hx).1 (q2 x hx).1, Int.le_trans (q2 x hx).2 (q4 x hx).2⟩⟩
theorem oL_w (h : oL n' a' C s) (hn : n ≤ n') (ha : a ≤ a') : oL n a C s := fun B e => by
  obtain ⟨S, e1, q1, q2⟩ := h B e
  exact ⟨S, e1, fun i j hi hj => q1 i j (by omega) (by omega), fun x hx => q2 x (by omega)⟩
theorem oL_k (h : oL n a C s) : oL n a (o_keep n' a' C) s := fun B e => by
  cases C with
  | none => cases e
  | some D =>
    have e' : a_keep n' a' D = B := by injection e
    rw [← e']
    exact h D rfl
theorem oL_j (h1 : oL n a x s) (h2 : oL n a y s) : oL n a (o_join x y) s := fun B e => by
  cases y with
  | none => exact h1 B e
  | some D =>
    cases x with
    | none => exact h2 B e
    | some P =>
      have e' : a_join P D = B := by injection e
      rw [← e']
      obtain ⟨S, e1, q1, q2⟩ := h1 P rfl
      obtain ⟨S', e2, q3, q4⟩ := h2 D rfl
      rw [e1] at e2
      cases e2
      exact ⟨S, e1, fun i j hi hj => Int.max_le.mpr ⟨q1 i j hi hj, q3 i j hi hj⟩, fun x hx => ⟨Int.le_min.mpr ⟨(q2 x hx).1, (q4 x hx).1⟩, Int.max_le.mpr ⟨(q2 x hx).2, (q4 x hx).2⟩⟩⟩
/-- joined with what lies in it: the same -/
theorem oL_le (hn : A.n = n) (ha : A.a = a) (h : oL n a x (some A)) : o_le (o_join (some A) x) (some A) ∧ o_le (some A) (o_join (some A) x) := by
  subst hn ha
  cases x with
  | none => exact ⟨⟨fun _ _ _ _ => Int.le_refl _, fun _ _ => ⟨Int.le_refl _, Int.le_refl _⟩⟩, ⟨fun _ _ _ _ => Int.le_refl _, fun _ _ => ⟨Int.le_refl _, Int.le_refl _⟩⟩⟩
  | some B =>
    obtain ⟨S, e1, q1, q2⟩ := h B rfl
    cases e1
    exact ⟨⟨fun i j hi hj => Int.max_le.mpr ⟨Int.le_refl _, q1 i j hi hj⟩, fun x hx => ⟨Int.le_min.mpr ⟨Int.le_refl _, (q2 x hx).1⟩, Int.max_le.mpr ⟨Int.le_refl _, (q2 x hx).2⟩⟩⟩, ⟨fun i j _ _ => Int.le_max_left _ _, fun x _ => ⟨Int.min_le_left _ _, Int.le_max_left _ _⟩⟩⟩
end OLs
/-! what a COND leaves lies in what was known -/
def okL (A : ab) (C : Option ab) : Prop := okS A C ∧ oL A.n A.a C (some A)
section OKs
variable {en : Int → Nat} {sN : Int → Prop} {A B : ab} {n : Nat} {cs r : tr} {an : Bool} {on done C : Option ab}
theorem okL_n : okL A none := ⟨fun _ z => (by cases z), oL_n⟩
theorem okL_id (T : ab_T A) : okL A (some A) := ⟨fun B e => by cases e; exact ⟨T, rfl, rfl, rfl⟩, oL_id⟩
theorem okL_t (h1 : B.n = A.n) (h2 : B.a = A.a) (h3 : B.rm = A.rm) (l : oL A.n A.a (some B) (some A)) (h : okL B C) : okL A C := ⟨okS_t h1 h2 h3 h.1, oL_t (by have := h.2; rw [h1, h2] at this; exact this) l⟩
theorem okL_j (h1 : okL A on) (h2 : okL A done) : okL A (o_join on done) := ⟨join_ok h1.1 h2.1, oL_j h1.2 h2.2⟩
theorem cl_le (hT : ab_T A) (h : ∀ M, C = some M → lsA A M) : okL A (o_cl C) := by
  refine ⟨cl_ok hT h, fun B e => ⟨A, rfl, ?_⟩⟩
  cases C with
  | none => cases e
  | some M =>
    have l := h M rfl
    have e' : a_cl M = some B := e
    by_cases ex : ∃ t, oc_G M.n M.m t
    · obtain ⟨t, ht⟩ := ex
      obtain ⟨B', b1, b2, b3, b4, b5, b6, b7, -⟩ := a_cl_some ht
      rw [e'] at b1
      cases b1
      refine ⟨fun i j hi hj => Int.le_trans (b7.2.1 i j (by rw [l.n]; exact hi) (by rw [l.n]; exact hj)) (l.b i j hi hj).2, fun x hx => ?_⟩
      rw [b4, b5, l.lo, l.hi]
      exact ⟨Int.le_refl _, Int.le_refl _⟩
    · unfold a_cl at e'
      rw [dif_neg ex] at e'
      cases e'
theorem rel_le (hT : ab_T B) {w : Nat} {t1 t2 : tr} (w1 : wS sN en B t1 false) (w2 : wS sN en B t2 false) (m1 : pn t1 false ≤ 6000) (m2 : pn t2 false ≤ 6000) : okL B (a_rel en B w t1 t2).1 ∧ okL B (a_rel en B w t1 t2).2.1 := by
  unfold a_rel
  split
  · exact ⟨okL_n, okL_n⟩
  · exact ⟨okL_n, okL_n⟩
  · next q1 q2 e1 e2 =>
    have so1 : (ev en B t1 none).1 ≠ none := by rw [e1]; exact Option.some_ne_none _
    have so2 : (ev en B t2 none).1 ≠ none := by rw [e2]; exact Option.some_ne_none _
    have O := rel_MO hT w1 w2 m1 m2 so1 so2
    exact ⟨cl_le hT (r_ok O w), cl_le hT (r_ok O (r_op w))⟩
theorem spl_le : ∀ t, (∀ an on done, wC sN en A t false → okL A on → okL A (spl en t false an on done).1 ∧ okL A (spl en t false an on done).2.1) ∧ (∀ an on done, wC sN en A t true → okL A on → okL A done → okL A (spl en t true an on done).1 ∧ okL A (spl en t true an on done).2.1) := by
  intro t
  induction t with
  | leaf u => exact ⟨(fun _ _ _ w => by cases w), fun _ _ _ _ h1 h2 => ⟨h1, h2⟩⟩
  | branch n cs r ih1 ih2 =>
    have F : ∀ an on done, wC sN en A (.branch n cs r) false → okL A on → okL A (spl en (.branch n cs r) false an on done).1 ∧ okL A (spl en (.branch n cs r) false an on done).2.1 := fun an on done w h => by
      cases on with
      | none => exact ⟨okL_n, okL_n⟩
      | some P =>
        obtain ⟨t1, n1, a1, r1⟩ := h.1 P rfl
        by_cases k26 : tK n = 26
        · rw [spl_26 k26]
          have := ih1.1 false (some P) none (wC_26 k26 w) h
          exact ⟨this.2, this.1⟩
        · by_cases k25 : tK n = 24 ∨ tK n = 25
          · rw [spl_25 k25]
            have := ih1.2 (decide (tK n = 25)) (some P) none (wC_25 k25 w) h okL_n
            unfold s_fx
            split
            · exact this
            · exact ⟨this.2, this.1⟩
          · obtain ⟨b1, b2, m1, c1, m2, c2, r2, rfl, d1, d2, d3, d4, d5, d6⟩ := wC_27 k26 k25 w
            rw [spl_27 b1]
            have q := rel_le (w := tK n - 27) t1 ((wS_ab n1 a1 r1 _).1 d1) ((wS_ab n1 a1 r1 _).1 d4) d3 d6
            exact ⟨okL_t n1 a1 r1 h.2 q.1, okL_t n1 a1 r1 h.2 q.2⟩
    refine ⟨F, fun an on done w h1 h2 => ?_⟩
    obtain ⟨f1, f2⟩ := F an on none (wC_f w) h1
    rw [spl_L]
    cases an with
    | true =>
      rw [if_pos rfl, if_pos rfl]
      exact ih2.2 true _ _ (wC_r w) f1 (okL_j h2 f2)
    | false =>
      rw [if_neg (by decide), if_neg (by decide)]
      exact ih2.2 false _ _ (wC_r w) f2 (okL_j h2 f1)
end OKs
/-! rows: least number of whiles around an assigning point; how many assigning points -/
def dmR (G : pgm) : Nat → Nat → Nat → Nat
  | 0, _, _ => 5000
  | f + 1, p, e => if p < e then min (if G.kd p = 6 then 1 + dmR G f (p + 1) (G.E p) else if G.kd p = 5 then min (dmR G f (p + 1) (G.M p)) (dmR G f (G.M p) (G.E p)) else 0) (dmR G f (G.E p) e) else 5000
def kR (G : pgm) : Nat → Nat → Nat → Nat
  | 0, _, _ => 0
  | f + 1, p, e => if p < e then (if G.kd p = 6 then kR G f (p + 1) (G.E p) else if G.kd p = 5 then kR G f (p + 1) (G.M p) + kR G f (G.M p) (G.E p) else if G.kd p = 4 then 1 + kR G f (p + 1) (G.E p) else 1) + kR G f (G.E p) e else 0
/-- what a COND leaves lies in what was known, at all points before c0 -/
def FLT (G : pgm) (c0 : Nat) : Prop := ∀ p, p < c0 → G.kd p = 5 ∨ G.kd p = 6 → ∀ A, shp (G.n p) (G.a p) (G.rm p) (some A) → oL (G.n p) (G.a p) (G.fx p A).1 (some A) ∧ oL (G.n p) (G.a p) (G.fx p A).2.1 (some A)
section FLs
variable {G : pgm} {c0 f p e n a : Nat} {r : Nat → Nat} {s : Option ab} {ω : wd} {S : ab}
theorem fo_L (F : FLT G c0) (hp : p < c0) (hk : G.kd p = 5 ∨ G.kd p = 6) (e1 : G.n p = n) (e2 : G.a p = a) (e3 : ∀ x, x < a → r x = G.rm p x) (h : shp n a r s) : oL n a (fo G p s).1 s ∧ oL n a (fo G p s).2.1 s := by
  cases s with
  | none => exact ⟨oL_n, oL_n⟩
  | some A =>
    have q := F p hp hk A (fun B e => by
      obtain ⟨T, g1, g2, g3⟩ := h B e
      rw [e1, e2]
      exact ⟨T, g1, g2, fun x hx => (g3 x hx).trans (e3 x hx)⟩)
    rw [e1, e2] at q
    exact q
/-- the first round left nothing new: the loop ends at once -/
theorem lop_1 {rc : rc3} (h1 : o_le (rnd G rc p (some S) (some S) ω).1 (some S)) (h2 : o_le (some S) (rnd G rc p (some S) (some S) ω).1) : lop G rc p (some S) ω = finD G rc p (some S) (some S, (rnd G rc p (some S) (some S) ω).2.1, (rnd G rc p (some S) (some S) ω).2.2.1, 4 + (rnd G rc p (some S) (some S) ω).2.2.2) := by
  rw [lop_D]
  unfold clmD
  rw [clm_1, if_pos (Or.inl h1)]
  unfold trsD
  dsimp only
  rw [trs_1, if_pos (Or.inl ⟨h1, h2⟩)]
theorem lop_w0 {rc : rc3} (R : RW rc) : wW (rnd G rc p (some S) (some S) ω).2.2.1 ≤ wW (lop G rc p (some S) ω).2.1 := by
  rw [lop_D]
  unfold clmD trsD
  exact Nat.le_trans (clm_w R _ _ _ _ _ _ _ _) (Nat.le_trans (trs_w R _ _ _ _ _ _) (finD_w R))
theorem flt (F : FLT G c0) : ∀ f p e n a r s ω, e ≤ c0 → WB G f p e n a r → shp n a r s → wW (DB G f p e s ω).2.1 ≤ 4000 → oL n a (DB G f p e s ω).1 s ∨ wW ω + dmR G f p e ≤ wW (DB G f p e s ω).2.1 := by
  intro f
  induction f with
  | zero => exact fun p e n a r s ω _ _ _ _ => Or.inl oL_id
  | succ f ih =>
    intro p e n a r s ω he w hs hw
    have w0 := DB_w G (f + 1) p e s ω
    rcases w with w | ⟨w1, e1, e2, e3, w2, w3, w⟩
    · rw [DB_le w]; exact Or.inl oL_id
    · have hw0 : wW ω ≤ 4000 := by omega
      rw [DB_s w1 hw0] at hw ⊢
      dsimp only at hw ⊢
      have wm := DB_w G f (G.E p) e (DS G (DB G f) p s ω).1 (DS G (DB G f) p s ω).2.1
      have wd' : wW ω + wi s ≤ wW (DS G (DB G f) p s ω).2.1 := DS_w (DB_w G f)
      have dm : dmR G (f + 1) p e = min (if G.kd p = 6 then 1 + dmR G f (p + 1) (G.E p) else if G.kd p = 5 then min (dmR G f (p + 1) (G.M p)) (dmR G f (G.M p) (G.E p)) else 0) (dmR G f (G.E p) e) := by
        conv => lhs; unfold dmR
        rw [if_pos w1]
      by_cases k6 : G.kd p = 6
      · have k4 : ¬ G.kd p = 4 := by omega
        have k5 : ¬ G.kd p = 5 := by omega
        rw [if_neg k4, if_neg k5, if_pos k6] at w
        obtain ⟨q2, q3, q4⟩ := w
        rw [if_pos k6] at dm
        rw [dm]
        have key : oL n a (DS G (DB G f) p s ω).1 s ∨ wW ω + (1 + dmR G f (p + 1) (G.E p)) ≤ wW (DS G (DB G f) p s ω).2.1 := by
          cases s with
          | none => rw [DS_6n k6]; exact Or.inl oL_n
          | some S =>
            rw [DS_6s k6] at hw wm ⊢
            have l0 := lop_w0 (G := G) (p := p) (S := S) (ω := ω) (DB_w G f)
            obtain ⟨T, g1, g2, g3⟩ := hs S rfl
            obtain ⟨o1, o2⟩ := fo_L F (by omega) (Or.inr k6) e1 e2 e3 hs
            have f1 : shp n a r (fo G p (some S)).1 := (q2 S hs).1
            have fin : (rnd G (DB G f) p (some S) (some S) ω).2.2.1 = (DB G f (p + 1) (G.E p) (fo G p (some S)).1 (wl p (some S) (fo G p (some S)).2.2 ω)).2.1 := rfl
            rw [fin] at l0
            rcases ih (p + 1) (G.E p) n a r (fo G p (some S)).1 (wl p (some S) (fo G p (some S)).2.2 ω) (by omega) q3 f1 (by omega) with z | z
            · have z' : oL n a (o_keep n a (DB G f (p + 1) (G.E p) (fo G p (some S)).1 (wl p (some S) (fo G p (some S)).2.2 ω)).1) (some S) := oL_k (oL_t z o1)
              have er : (rnd G (DB G f) p (some S) (some S) ω).1 = o_join (some S) (o_keep n a (DB G f (p + 1) (G.E p) (fo G p (some S)).1 (wl p (some S) (fo G p (some S)).2.2 ω)).1) := by unfold rnd; rw [e1, e2]
              obtain ⟨u1, u2⟩ := oL_le g1 g2 z'
              rw [← er] at u1 u2
              rw [lop_1 u1 u2]
              refine Or.inl ?_
              unfold finD
              split
              · exact o2
              · exact o2
            · have hl : wW (wl p (some S) (fo G p (some S)).2.2 ω) = wW ω + 1 := rfl
              rw [hl] at z
              exact Or.inr (by omega)
        rcases key with z | z
        · have sh : shp n a r (DS G (DB G f) p s ω).1 := by
            cases s with
            | none => rw [DS_6n k6]; exact shp_n
            | some S => rw [DS_6s k6]; exact lop_shp (DB_shp G f) e1 e2 q2 q3 hs
          rcases ih (G.E p) e n a r _ (DS G (DB G f) p s ω).2.1 he q4 sh hw with y | y
          · exact Or.inl (oL_t y z)
          · exact Or.inr (by omega)
        · exact Or.inr (by omega)
      · by_cases k5 : G.kd p = 5
        · have k4 : ¬ G.kd p = 4 := by omega
          rw [if_neg k4, if_pos k5] at w
          obtain ⟨m1, m2, q2, q3, q4, q5⟩ := w
          rw [if_neg k6, if_pos k5] at dm
          rw [dm]
          have f1 : shp n a r (fo G p s).1 := fo_shp (fun A hA => (q2 A hA).1) hs (fun s => (fo G p s).1) rfl (fun _ => rfl)
          have f2 : shp n a r (fo G p s).2.1 := fo_shp (fun A hA => (q2 A hA).2) hs (fun s => (fo G p s).2.1) rfl (fun _ => rfl)
          obtain ⟨o1, o2⟩ := fo_L F (by omega) (Or.inl k5) e1 e2 e3 hs
          have hl : wW ω ≤ wW (wl p s (fo G p s).2.2 ω) := Nat.le_add_right _ _
          have d5 := DS_5 (rc := DB G f) (s := s) (w0 := ω) k5
          generalize eQ1 : DB G f (p + 1) (G.M p) (fo G p s).1 (wl p s (fo G p s).2.2 ω) = Q1 at d5
          generalize eQ2 : DB G f (G.M p) (G.E p) (fo G p s).2.1 Q1.2.1 = Q2 at d5
          have b1 := DB_w G f (p + 1) (G.M p) (fo G p s).1 (wl p s (fo G p s).2.2 ω)
          have b2 := DB_w G f (G.M p) (G.E p) (fo G p s).2.1 Q1.2.1
          rw [eQ1] at b1
          rw [eQ2] at b2
          have c1 : (DS G (DB G f) p s ω).1 = o_join (o_keep n a Q1.1) (o_keep n a Q2.1) := by rw [d5, e1, e2]
          have c2 : (DS G (DB G f) p s ω).2.1 = Q2.2.1 := by rw [d5]
          rw [c1, c2] at hw wm ⊢
          have i1 := ih (p + 1) (G.M p) n a r (fo G p s).1 (wl p s (fo G p s).2.2 ω) (by omega) q3 f1 (by rw [eQ1]; omega)
          have i2 := ih (G.M p) (G.E p) n a r (fo G p s).2.1 Q1.2.1 (by omega) q4 f2 (by rw [eQ2]; omega)
          rw [eQ1] at i1
          rw [eQ2] at i2
          rcases i1 with z1 | z1
          · rcases i2 with z2 | z2
            · have u1 := keep_shp (DB_shp G f (p + 1) (G.M p) n a r (fo G p s).1 (wl p s (fo G p s).2.2 ω) q3 f1)
              have u2 := keep_shp (DB_shp G f (G.M p) (G.E p) n a r (fo G p s).2.1 Q1.2.1 q4 f2)
              rw [eQ1] at u1
              rw [eQ2] at u2
              have zz : oL n a (o_join (o_keep n a Q1.1) (o_keep n a Q2.1)) s := oL_j (oL_k (oL_t z1 o1)) (oL_k (oL_t z2 o2))
              rcases ih (G.E p) e n a r _ Q2.2.1 he q5 (join_shp u1 u2) hw with y | y
              · exact Or.inl (oL_t y zz)
              · exact Or.inr (by omega)
            · exact Or.inr (by omega)
          · exact Or.inr (by omega)
        · rw [if_neg k6, if_neg k5] at dm
          rw [dm]
          exact Or.inr (by omega)
end FLs
