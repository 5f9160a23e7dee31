set_option maxRecDepth 100000
/-! what is told has its shape -/
/-- from p to e what is told has its shape -/
def PWs (G : pgm) (p e : Nat) (ω : wd) : Prop := ∀ q, p ≤ q → q < e → shp (G.n q) (G.a q) (G.rm q) (wK ω q)
def RTs (G : pgm) (f : Nat) : Prop := ∀ p e n a r s ω, WB G f p e n a r → shp n a r s → wW (DB G f p e s ω).2.1 ≤ 4000 → PWs G p e (DB G f p e s ω).2.1
section PWa
variable {G : pgm} {f p e m n a : Nat} {r : Nat → Nat} {S : ab} {h s : Option ab} {ω ω1 : wd}
theorem pw_t (x : PWs G p m ω) (o : wO m e ω ω1) (y : PWs G m e ω1) : PWs G p e ω1 := fun q q1 q2 => by
  by_cases c : q < m
  · rw [(o q (by omega)).1]; exact x q q1 c
  · exact y q (by omega) q2
theorem pw_l (e1 : G.n p = n) (e2 : G.a p = a) (e3 : ∀ x, x < a → r x = G.rm p x) (hs : shp n a r s) {al : Int32} : PWs G p (p + 1) (wl p s al ω) := fun q q1 q2 => by
  have e : q = p := by omega
  rw [wl_K, if_pos e, e, e1, e2]
  intro A hA
  obtain ⟨T, a1, a2, a3⟩ := hs A hA
  exact ⟨T, a1, a2, fun x hx => (a3 x hx).trans (e3 x hx)⟩
theorem rnd_ts (T : RTs G f) (e1 : G.n p = n) (e2 : G.a p = a) (e3 : ∀ x, x < a → r x = G.rm p x) (hf : ∀ A, shp n a r (some A) → shp n a r (G.fx p A).1 ∧ shp n a r (G.fx p A).2.1) (hpE : p < G.E p) (w : WB G f (p + 1) (G.E p) n a r) (hh : shp n a r h) {S' : Option ab} (hw : wW (rnd G (DB G f) p S' h ω).2.2.1 ≤ 4000) : PWs G p (G.E p) (rnd G (DB G f) p S' h ω).2.2.1 := by
  have e : (rnd G (DB G f) p S' h ω).2.2.1 = (DB G f (p + 1) (G.E p) (fo G p h).1 (wl p h (fo G p h).2.2 ω)).2.1 := rfl
  rw [e] at hw ⊢
  exact pw_t (pw_l e1 e2 e3 hh) (DB_o G f (p + 1) (G.E p) n a r _ _ w) (T (p + 1) (G.E p) n a r _ _ w (fo_1 hf hh) hw)
theorem clm_ts (T : RTs G f) (e1 : G.n p = n) (e2 : G.a p = a) (e3 : ∀ x, x < a → r x = G.rm p x) (hf : ∀ A, shp n a r (some A) → shp n a r (G.fx p A).1 ∧ shp n a r (G.fx p A).2.1) (hpE : p < G.E p) (w : WB G f (p + 1) (G.E p) n a r) (hS : shp n a r (some S)) : ∀ g h told n1 be ω mx k, CI n a r S h told n1 be → PWs G p (G.E p) ω → wW (clm G (DB G f) p (some S) g h told n1 be ω mx k).2.2.2.1 ≤ 4000 → PWs G p (G.E p) (clm G (DB G f) p (some S) g h told n1 be ω mx k).2.2.2.1 := by
  intro g
  induction g with
  | zero => exact fun h told n1 be ω mx k c q hw => q
  | succ g ih =>
    intro h told n1 be ω mx k c q hw
    rw [clm_1] at hw ⊢
    by_cases z : o_le n1 told ∨ 4000 < wW ω
    · rw [if_pos z]; exact q
    · rw [if_neg z] at hw ⊢
      obtain ⟨⟨A, a1, a2, a3⟩, t'⟩ := CI_next hS c k
      obtain ⟨⟨N, q1⟩, q2, q3, q4⟩ := rnd_shp (ω := ω) (DB_shp G f) e1 e2 hf w hS (h := if k ≤ 2 then o_join h n1 else o_cl (o_wid told n1)) (by rw [a1]; exact a2)
      generalize (if k ≤ 2 then o_join h n1 else o_cl (o_wid told n1)) = h' at *
      generalize (if k ≤ 2 then o_join h n1 else o_wid told n1) = told' at *
      have wc' := clm_w (G := G) (p := p) (S := some S) (DB_w G f) g h' told' (rnd G (DB G f) p (some S) h' ω).1 (rnd G (DB G f) p (some S) h' ω).2.1 (rnd G (DB G f) p (some S) h' ω).2.2.1 (max mx (4 + (rnd G (DB G f) p (some S) h' ω).2.2.2)) (k + 1)
      exact ih h' told' _ _ _ _ _ ⟨⟨A, a1, a2, a3⟩, t', ⟨N, q1, by rw [← q1]; exact q2⟩, q3⟩ (rnd_ts T e1 e2 e3 hf hpE w (by rw [a1]; exact a2) (by omega)) hw
theorem trs_ts (T : RTs G f) (e1 : G.n p = n) (e2 : G.a p = a) (e3 : ∀ x, x < a → r x = G.rm p x) (hf : ∀ A, shp n a r (some A) → shp n a r (G.fx p A).1 ∧ shp n a r (G.fx p A).2.1) (hpE : p < G.E p) (w : WB G f (p + 1) (G.E p) n a r) (hS : shp n a r (some S)) : ∀ g h n1 be ω mx, (∃ A, n1 = some A ∧ shp n a r (some A)) → PWs G p (G.E p) ω → wW (trs G (DB G f) p (some S) g h n1 be ω mx).2.2.1 ≤ 4000 → PWs G p (G.E p) (trs G (DB G f) p (some S) g h n1 be ω mx).2.2.1 := by
  intro g
  induction g with
  | zero => exact fun h n1 be ω mx c q hw => q
  | succ g ih =>
    intro h n1 be ω mx c q hw
    rw [trs_1] at hw ⊢
    by_cases z : (o_le n1 h ∧ o_le h n1) ∨ 4000 < wW ω
    · rw [if_pos z]; exact q
    · rw [if_neg z] at hw ⊢
      obtain ⟨A, a1, a2⟩ := c
      have sn : shp n a r n1 := by rw [a1]; exact a2
      obtain ⟨⟨N, q1⟩, q2, q3, q4⟩ := rnd_shp (ω := ω) (DB_shp G f) e1 e2 hf w hS sn
      by_cases l : o_le (rnd G (DB G f) p (some S) n1 ω).1 n1
      · rw [if_pos l] at hw ⊢
        have wt := trs_w (G := G) (p := p) (S := some S) (DB_w G f) g n1 (rnd G (DB G f) p (some S) n1 ω).1 (rnd G (DB G f) p (some S) n1 ω).2.1 (rnd G (DB G f) p (some S) n1 ω).2.2.1 (max mx (6 + (rnd G (DB G f) p (some S) n1 ω).2.2.2))
        exact ih n1 _ _ _ _ ⟨N, q1, by rw [← q1]; exact q2⟩ (rnd_ts T e1 e2 e3 hf hpE w sn (by omega)) hw
      · rw [if_neg l] at hw ⊢
        exact rnd_ts (S' := some S) T e1 e2 e3 hf hpE w sn hw
theorem lop_ts (T : RTs G f) (e1 : G.n p = n) (e2 : G.a p = a) (e3 : ∀ x, x < a → r x = G.rm p x) (hf : ∀ A, shp n a r (some A) → shp n a r (G.fx p A).1 ∧ shp n a r (G.fx p A).2.1) (hpE : p < G.E p) (w : WB G f (p + 1) (G.E p) n a r) (hS : shp n a r (some S)) (hw : wW (lop G (DB G f) p (some S) ω).2.1 ≤ 4000) : PWs G p (G.E p) (lop G (DB G f) p (some S) ω).2.1 := by
  rw [lop_D] at hw ⊢
  unfold clmD trsD at hw ⊢
  obtain ⟨⟨N, q1⟩, q2, q3, q4⟩ := rnd_shp (ω := ω) (DB_shp G f) e1 e2 hf w hS hS
  have c0 : CI n a r S (some S) (some S) (rnd G (DB G f) p (some S) (some S) ω).1 (rnd G (DB G f) p (some S) (some S) ω).2.1 := ⟨⟨S, rfl, hS, fun _ _ _ _ => Int.le_refl _⟩, ⟨S, rfl, shL_of hS, fun _ _ _ _ => Int.le_refl _⟩, ⟨N, q1, by rw [← q1]; exact q2⟩, q3⟩
  obtain ⟨told', c⟩ := clm_shp (DB_shp G f) e1 e2 hf w hS 4001 _ _ _ _ (rnd G (DB G f) p (some S) (some S) ω).2.2.1 (4 + (rnd G (DB G f) p (some S) (some S) ω).2.2.2) 1 c0
  have w1 := clm_w (G := G) (p := p) (S := some S) (DB_w G f) 4001 (some S) (some S) (rnd G (DB G f) p (some S) (some S) ω).1 (rnd G (DB G f) p (some S) (some S) ω).2.1 (rnd G (DB G f) p (some S) (some S) ω).2.2.1 (4 + (rnd G (DB G f) p (some S) (some S) ω).2.2.2) 1
  have t1 := clm_ts T e1 e2 e3 hf hpE w hS 4001 (some S) (some S) _ _ (rnd G (DB G f) p (some S) (some S) ω).2.2.1 (4 + (rnd G (DB G f) p (some S) (some S) ω).2.2.2) 1 c0
  have t0 : wW (rnd G (DB G f) p (some S) (some S) ω).2.2.1 ≤ 4000 → PWs G p (G.E p) (rnd G (DB G f) p (some S) (some S) ω).2.2.1 := fun z => rnd_ts T e1 e2 e3 hf hpE w hS z
  generalize clm G (DB G f) p (some S) 4001 (some S) (some S) (rnd G (DB G f) p (some S) (some S) ω).1 (rnd G (DB G f) p (some S) (some S) ω).2.1 (rnd G (DB G f) p (some S) (some S) ω).2.2.1 (4 + (rnd G (DB G f) p (some S) (some S) ω).2.2.2) 1 = C at *
  have w2 := trs_w (G := G) (p := p) (S := some S) (DB_w G f) 2 C.1 C.2.1 C.2.2.1 C.2.2.2.1 C.2.2.2.2
  have t2 := trs_ts T e1 e2 e3 hf hpE w hS 2 C.1 C.2.1 C.2.2.1 C.2.2.2.1 C.2.2.2.2 c.iQ
  obtain ⟨A, a1, a2, -⟩ := c.iH
  obtain ⟨⟨B, b1, b2⟩, b3⟩ := trs_shp (DB_shp G f) e1 e2 hf w hS 2 C.1 C.2.1 C.2.2.1 C.2.2.2.1 C.2.2.2.2 ⟨A, a1, a2⟩ c.iQ c.iB
  generalize trs G (DB G f) p (some S) 2 C.1 C.2.1 C.2.2.1 C.2.2.2.1 C.2.2.2.2 = TT at *
  have w3 := finD_w (G := G) (p := p) (S := some S) (t := TT) (DB_w G f)
  have p2 := t2 (t1 (t0 (by omega)) (by omega)) (by omega)
  unfold finD at hw ⊢
  by_cases z : 4000 < wW TT.2.2.1
  · rw [if_pos z]; exact p2
  · rw [if_neg z] at hw ⊢
    exact rnd_ts (S' := some S) T e1 e2 e3 hf hpE w (by rw [b1]; exact b2) hw
end PWa
theorem DB_ts (G : pgm) : ∀ f, RTs G f := by
  intro f
  induction f with
  | zero => exact fun p e n a r s ω w hs hw q q1 q2 => by have : p = e := w; omega
  | succ f ih =>
    intro p e n a r s ω w hs hw
    have w0 := DB_w G (f + 1) p e s ω
    rcases w with w | ⟨w1, e1, e2, e3, w2, w3, w⟩
    · exact fun q q1 q2 => by omega
    · have hw0 : wW ω ≤ 4000 := by omega
      rw [DB_s w1 hw0] at hw ⊢
      dsimp only at hw ⊢
      have wm := DB_w G f (G.E p) e (DS G (DB G f) p s ω).1 (DS G (DB G f) p s ω).2.1
      have key : PWs G p (G.E p) (DS G (DB G f) p s ω).2.1 ∧ ∃ n' a' r', WB G f (G.E p) e n' a' r' ∧ shp n' a' r' (DS G (DB G f) p s ω).1 := by
        by_cases k4 : G.kd p = 4
        · rw [if_pos k4] at w
          obtain ⟨n', q1, q2, q3, q4⟩ := w
          have fs : shp n' a r (fo G p s).1 := fo_shp q2 hs (fun s => (fo G p s).1) rfl (fun _ => rfl)
          rw [DS_4 k4] at wm ⊢
          dsimp only at wm ⊢
          refine ⟨pw_t (pw_l e1 e2 e3 hs) (DB_o G f (p + 1) (G.E p) n' a r _ _ q3) (ih (p + 1) (G.E p) n' a r _ _ q3 fs (by rw [DS_4 k4] at hw; dsimp only at hw; omega)), n, a, r, q4, ?_⟩
          rw [e1, e2]
          exact keep_shp (shg_t q1 (Nat.le_refl _) (fun _ _ => rfl) (DB_shp G f (p + 1) (G.E p) n' a r _ _ q3 fs))
        · rw [if_neg k4] at w
          by_cases k5 : G.kd p = 5
          · rw [if_pos k5] at w
            obtain ⟨m1, m2, q2, q3, q4, q5⟩ := w
            have f1 : shp n a r (fo G p s).1 := fo_shp (fun A hA => (q2 A hA).1) hs (fun s => (fo G p s).1) rfl (fun _ => rfl)
            have f2 : shp n a r (fo G p s).2.1 := fo_shp (fun A hA => (q2 A hA).2) hs (fun s => (fo G p s).2.1) rfl (fun _ => rfl)
            have d5 := DS_5 (rc := DB G f) (s := s) (w0 := ω) k5
            rw [d5] at hw wm ⊢
            dsimp only at hw wm ⊢
            have b2 := DB_w G f (G.M p) (G.E p) (fo G p s).2.1 (DB G f (p + 1) (G.M p) (fo G p s).1 (wl p s (fo G p s).2.2 ω)).2.1
            have i1 := ih (p + 1) (G.M p) n a r (fo G p s).1 (wl p s (fo G p s).2.2 ω) q3 f1 (by omega)
            have i2 := ih (G.M p) (G.E p) n a r (fo G p s).2.1 (DB G f (p + 1) (G.M p) (fo G p s).1 (wl p s (fo G p s).2.2 ω)).2.1 q4 f2 (by omega)
            refine ⟨pw_t (pw_t (pw_l e1 e2 e3 hs) (DB_o G f (p + 1) (G.M p) n a r _ _ q3) i1) (DB_o G f (G.M p) (G.E p) n a r _ _ q4) i2, n, a, r, q5, ?_⟩
            rw [e1, e2]
            exact join_shp (keep_shp (DB_shp G f (p + 1) (G.M p) n a r _ _ q3 f1)) (keep_shp (DB_shp G f (G.M p) (G.E p) n a r _ _ q4 f2))
          · rw [if_neg k5] at w
            by_cases k6 : G.kd p = 6
            · rw [if_pos k6] at w
              obtain ⟨q2, q3, q4⟩ := w
              cases s with
              | none =>
                rw [DS_6n k6] at hw wm ⊢
                dsimp only at hw wm ⊢
                exact ⟨rnd_ts (S' := none) ih e1 e2 e3 q2 w2 q3 shp_n (by omega), n, a, r, q4, shp_n⟩
              | some S =>
                rw [DS_6s k6] at hw wm ⊢
                exact ⟨lop_ts ih e1 e2 e3 q2 w2 q3 hs (by omega), n, a, r, q4, lop_shp (DB_shp G f) e1 e2 q2 q3 hs⟩
            · rw [if_neg k6] at w
              obtain ⟨ee, n', a', r', q1, q2, q3, q4, q5⟩ := w
              rw [DS_x k4 k5 k6] at hw wm ⊢
              dsimp only at hw wm ⊢
              refine ⟨?_, n', a', r', q5, fo_shp q4 hs (fun s => (fo G p s).1) rfl (fun _ => rfl)⟩
              rw [ee]
              exact pw_l e1 e2 e3 hs
      obtain ⟨k1, n', a', r', k2, k3⟩ := key
      exact pw_t k1 (DB_o G f (G.E p) e n' a' r' _ _ k2) (ih (G.E p) e n' a' r' _ _ k2 k3 hw)
