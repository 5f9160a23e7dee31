set_option maxRecDepth 100000
/-! Analysis.analyse: its loop is the pure analysis -/
section SZs
variable {d : Nat} {Y C E TT UU SC SP nC nE nS : Nat} {G : pgm} {cnt : Nat} {I : mh_H → Prop}
theorem S_all (EF : EFF Y C E TT UU SC SP nC nE nS G cnt I) (hI : hIp Y C E TT UU SC SP nC nE nS I) : ∀ f, SIM d Y C E TT UU SC SP nC nE nS G cnt I f := by
  intro f
  induction f with
  | zero =>
    intro p e n a r s ω k h r0 N l w sh he kp t hr
    have e0 : p = e := w
    subst e0
    exact ⟨h, r0, zS_id, by omega, Or.inl ⟨N.hw, N⟩, gA_id⟩
  | succ f ih =>
    intro p e n a r s ω k h r0 N l w sh he kp t hr
    have hw := N.hw
    have hk := N.hk
    rcases w with w | ⟨w1, e1, e2, e3, w2, w3, wk⟩
    · subst w
      have e0 : DB G (f + 1) p p s ω = (s, ω, 0) := by unfold DB; rw [if_neg (by omega)]
      rw [e0]
      exact ⟨h, r0, zS_id, by omega, Or.inl ⟨N.hw, N⟩, gA_id⟩
    · cases s with
      | none =>
        obtain ⟨d1, d2⟩ := DB_none G (f + 1) p e n a r ω (Or.inr ⟨w1, e1, e2, e3, w2, w3, wk⟩) hw
        rw [d1, d2]
        obtain ⟨h1, x1, N1, g1⟩ := S_none (d := d) (r0 := r0) hI N l w1 he (by omega)
        exact ⟨h1, r0 + 1, x1, by omega, Or.inl ⟨hw, N1⟩, g1⟩
      | some A =>
        have e0 : DB G (f + 1) p e (some A) ω = ((DB G f (G.E p) e (DS G (DB G f) p (some A) ω).1 (DS G (DB G f) p (some A) ω).2.1).1, (DB G f (G.E p) e (DS G (DB G f) p (some A) ω).1 (DS G (DB G f) p (some A) ω).2.1).2.1, max (DS G (DB G f) p (some A) ω).2.2 (DB G f (G.E p) e (DS G (DB G f) p (some A) ω).1 (DS G (DB G f) p (some A) ω).2.1).2.2) := by
          conv => lhs; unfold DB
          rw [if_pos ⟨w1, hw⟩]
        rw [e0]
        dsimp only
        have dw := DS_w (G := G) (p := p) (S := some A) (ω := ω) (DB_w G f)
        have wi1 : wi (some A) = 1 := rfl
        rw [wi1] at dw
        have dw2 := DB_w G f (G.E p) e (DS G (DB G f) p (some A) ω).1 (DS G (DB G f) p (some A) ω).2.1
        by_cases c4 : wW ω = 4000
        · obtain ⟨h1, x1, T1, g1⟩ := S_tm (d := d) (r0 := r0) hI N c4 l w1 he (by omega)
          exact ⟨h1, r0 + 1, x1, by omega, Or.inr ⟨by omega, T1⟩, g1⟩
        · have hw4 : wW ω < 4000 := by omega
          have sA' : shp (G.n p) (G.a p) (G.rm p) (some A) := fun D hD => by
            obtain ⟨u1, u2, u3, u4⟩ := sh D hD
            exact ⟨u1, u2.trans e1.symm, u3.trans e2.symm, fun x hx => by rw [e2] at hx; rw [u4 x hx, e3 x hx]⟩
          -- the statement, then the rest
          have key : ∃ n' a' r', shp n' a' r' (DS G (DB G f) p (some A) ω).1 ∧ WB G f (G.E p) e n' a' r' ∧ ∃ h1 r1, zS (aV k) (aU k) h h1 ∧ r1 ≤ r0 + 5 * (min (wW (DS G (DB G f) p (some A) ω).2.1) 4001 - wW ω) ∧ OUT h1 Y C E TT UU SC SP nC nE nS G cnt I (G.E p) k (DS G (DB G f) p (some A) ω).1 (DS G (DB G f) p (some A) ω).2.1 ∧ gA d cnt h r0 h1 r1 := by
            by_cases k4 : G.kd p = 4
            · rw [if_pos k4] at wk
              obtain ⟨n', q1, q2, q3, q4⟩ := wk
              refine ⟨n, a, r, ?_, q4, S_call EF hI ih N hw4 l w1 he (by omega) t kp sh e1 e2 e3 w2 w3 k4 q1 q2 q3⟩
              have sg := DB_shp G f (p + 1) (G.E p) n' a r _ (wl p (some A) (G.fx p A).2.2 ω) q3 (q2 A sh)
              unfold DS
              rw [if_pos k4, e1, e2]
              exact keep_shp (shg_t q1 (Nat.le_refl _) (fun _ _ => rfl) sg)
            · rw [if_neg k4] at wk
              by_cases k5 : G.kd p = 5
              · rw [if_pos k5] at wk
                obtain ⟨m1, m2, q2, q3, q4, q5⟩ := wk
                refine ⟨n, a, r, ?_, q5, S_if EF hI ih N hw4 l w1 he (by omega) t kp sh e1 e2 e3 m1 m2 w3 k5 q2 q3 q4⟩
                have u1 := keep_shp (DB_shp G f (p + 1) (G.M p) n a r _ (wl p (some A) (G.fx p A).2.2 ω) q3 (q2 A sh).1)
                have u2 := keep_shp (DB_shp G f (G.M p) (G.E p) n a r _ (DB G f (p + 1) (G.M p) (G.fx p A).1 (wl p (some A) (G.fx p A).2.2 ω)).2.1 q4 (q2 A sh).2)
                unfold DS
                rw [if_neg k4, if_pos k5, e1, e2]
                exact join_shp u1 u2
              · rw [if_neg k5] at wk
                by_cases k6 : G.kd p = 6
                · rw [if_pos k6] at wk
                  obtain ⟨q2, q3, q4⟩ := wk
                  have dse : DS G (DB G f) p (some A) ω = lop G (DB G f) p (some A) ω := by
                    unfold DS
                    rw [if_neg k4, if_neg k5, if_pos k6]
                  rw [dse]
                  refine ⟨n, a, r, lop_shp (DB_shp G f) e1 e2 q2 q3 sh, q4, ?_⟩
                  have W : WG G f p cnt k n a r := WG.of ⟨k6, e1, e2, e3, w2, by omega, q2, q3, kp⟩
                  obtain ⟨h1, r1, x1, hr1, o1, g1⟩ := S_while (d := d) (r0 := r0) EF hI ih W N hw4 l w1 he (by omega) t sh
                  exact ⟨h1, r1, x1, by omega, o1, g1⟩
                · rw [if_neg k6] at wk
                  obtain ⟨ee, n', a', r', q1, q2, q3, q4, q5⟩ := wk
                  have dse : DS G (DB G f) p (some A) ω = ((G.fx p A).1, wl p (some A) (G.fx p A).2.2 ω, G.sp p) := by
                    unfold DS
                    rw [if_neg k4, if_neg k5, if_neg k6]
                    rfl
                  rw [dse]
                  obtain ⟨h1, x1, N1, g1⟩ := S_simple (d := d) (r0 := r0) EF hI N hw4 l w1 he (by omega) t sA' (fun z => z.elim k4 (fun z => z.elim k5 k6))
                  rw [← ee] at N1
                  have W1 : wW (wl p (some A) (G.fx p A).2.2 ω) = wW ω + 1 := rfl
                  exact ⟨n', a', r', q4 A sh, q5, h1, r0 + 1, x1, by show r0 + 1 ≤ r0 + 5 * (min (wW (wl p (some A) (G.fx p A).2.2 ω)) 4001 - wW ω); omega, Or.inl ⟨by show wW (wl p (some A) (G.fx p A).2.2 ω) ≤ 4000; omega, N1⟩, g1⟩
          obtain ⟨n', a', r', s1, w5, h1, r1, x1, hr1, o1, g1⟩ := key
          generalize DS G (DB G f) p (some A) ω = D at *
          rcases o1 with ⟨v1, N1⟩ | ⟨v1, T1⟩
          · obtain ⟨h2, r2, x2, hr2, o2, g2⟩ := ih (G.E p) e n' a' r' D.1 D.2.1 k h1 r1 N1 (lmt_s N.B x1 (fun b hb hk1 => aU_59 hb hk1) l) w5 s1 he (by omega) (by
              have t1 := topq_s N.B x1 (fun hk1 => aU_59 (Or.inl rfl) hk1) t
              exact t1.imp (fun z => z) (fun ⟨q, z1, z2⟩ => ⟨q, by omega, z2⟩)) (by omega)
            exact ⟨h2, r2, zS_t x1 x2, by omega, o2, gA_t g1 g2⟩
          · exact ⟨h1, r1, x1, by omega, Or.inr ⟨by omega, T1⟩, g1⟩
end SZs
