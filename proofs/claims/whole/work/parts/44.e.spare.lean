set_option maxRecDepth 100000
/-! THE SPARE BOUND, whole -/
section SPb
variable {G : pgm} {c0 f p n a Nb kb' dmb : Nat} {r : Nat → Nat} {S : ab} {ω0 ω : wd} {h : Option ab}
/-- what the rows inside give -/
def RQ3 (G : pgm) (f Nb kb' dmb p n a : Nat) (r : Nat → Nat) : Prop := ∀ s ω, shp n a r s → SQ3 Nb kb' dmb (DB G f (p + 1) (G.E p) s ω).2.2 (wW ω) (wW (DB G f (p + 1) (G.E p) s ω).2.1)
/-- a round at this head was done before -/
def PRE (G : pgm) (f p : Nat) (S : Option ab) (ω0 : wd) (h : Option ab) (ω : wd) : Prop := ∃ ωe, wW ω0 ≤ wW ωe ∧ wW (rnd G (DB G f) p S h ωe).2.2.1 ≤ wW ω
theorem PRE_w {S : Option ab} {ω' : wd} (x : PRE G f p S ω0 h ω) (hw : wW ω ≤ wW ω') : PRE G f p S ω0 h ω' := by
  obtain ⟨ωe, q1, q2⟩ := x
  exact ⟨ωe, q1, by omega⟩
theorem rnd_e {S : Option ab} : (rnd G (DB G f) p S h ω).2.2.1 = (DB G f (p + 1) (G.E p) (fo G p h).1 (wl p h (fo G p h).2.2 ω)).2.1 ∧ (rnd G (DB G f) p S h ω).2.2.2 = 1 + max (G.sp p) (DB G f (p + 1) (G.E p) (fo G p h).1 (wl p h (fo G p h).2.2 ω)).2.2 := ⟨rfl, rfl⟩
/-- a round of the climb -/
theorem spr_c {S : Option ab} (Q : RQ3 G f Nb kb' dmb p n a r) (hk : kb' ≤ Nb) (hs : G.sp p ≤ 350) (sf : shp n a r (fo G p h).1) : SQ3 (1 + Nb) kb' (1 + dmb) (4 + (rnd G (DB G f) p S h ω).2.2.2) (wW ω) (wW (rnd G (DB G f) p S h ω).2.2.1) := by
  obtain ⟨e1, e2⟩ := rnd_e (G := G) (f := f) (p := p) (h := h) (ω := ω) (S := S)
  rw [e1, e2]
  have q := Q (fo G p h).1 (wl p h (fo G p h).2.2 ω) sf
  have w := DB_w G f (p + 1) (G.E p) (fo G p h).1 (wl p h (fo G p h).2.2 ω)
  rw [wl_w] at q w
  exact sq_w (sq_r q hk hs w) (Nat.le_add_right _ _) (Nat.le_refl _)
/-- a try -/
theorem spr_t {S : Option ab} (Q : RQ3 G f Nb kb' dmb p n a r) (hk : kb' ≤ Nb) (hk1 : 1 ≤ kb') (hs : G.sp p ≤ 350) (sf : shp n a r (fo G p h).1) (hh : wi h = 1) (hw : wW ω0 + 1 + dmb ≤ wW ω) : SQ3 (1 + Nb) kb' (1 + dmb) (6 + (rnd G (DB G f) p S h ω).2.2.2) (wW ω0) (wW (rnd G (DB G f) p S h ω).2.2.1) := by
  obtain ⟨e1, e2⟩ := rnd_e (G := G) (f := f) (p := p) (h := h) (ω := ω) (S := S)
  rw [e1, e2]
  have q := Q (fo G p h).1 (wl p h (fo G p h).2.2 ω) sf
  have w := DB_w G f (p + 1) (G.E p) (fo G p h).1 (wl p h (fo G p h).2.2 ω)
  rw [wl_w] at q w
  exact sq_t q hk hk1 hs (by omega) w
/-- the last round -/
theorem spr_f {S : Option ab} (Q : RQ3 G f Nb kb' dmb p n a r) (hk : kb' ≤ Nb) (hs : G.sp p ≤ 350) (sf : shp n a r (fo G p h).1) (hh : wi h = 1) (hw : wW ω ≤ 4000) (x : PRE G f p S ω0 h ω) : SQ3 (1 + Nb) kb' (1 + dmb) (6 + (rnd G (DB G f) p S h ω).2.2.2) (wW ω0) (wW (rnd G (DB G f) p S h ω).2.2.1) := by
  obtain ⟨ωe, x1, x2⟩ := x
  obtain ⟨e1, e2⟩ := rnd_e (G := G) (f := f) (p := p) (h := h) (ω := ω) (S := S)
  obtain ⟨g1, -⟩ := rnd_e (G := G) (f := f) (p := p) (h := h) (ω := ωe) (S := S)
  rw [g1] at x2
  rw [e1, e2]
  have q := Q (fo G p h).1 (wl p h (fo G p h).2.2 ω) sf
  have w := DB_w G f (p + 1) (G.E p) (fo G p h).1 (wl p h (fo G p h).2.2 ω)
  have we := DB_w G f (p + 1) (G.E p) (fo G p h).1 (wl p h (fo G p h).2.2 ωe)
  have l1 := wl_w (p := p) (s := h) (al := (fo G p h).2.2) (ω := ω)
  have l2 := wl_w (p := p) (s := h) (al := (fo G p h).2.2) (ω := ωe)
  obtain ⟨c, hc⟩ : ∃ c, wW (DB G f (p + 1) (G.E p) (fo G p h).1 (wl p h (fo G p h).2.2 ωe)).2.1 = wW (wl p h (fo G p h).2.2 ωe) + c := ⟨_, (Nat.add_sub_cancel' we).symm⟩
  have up : wW (DB G f (p + 1) (G.E p) (fo G p h).1 (wl p h (fo G p h).2.2 ω)).2.1 ≤ wW (wl p h (fo G p h).2.2 ω) + c := by
    by_cases z : wW (wl p h (fo G p h).2.2 ω) + c ≤ 4000
    · have := (DB_S G f (p + 1) (G.E p) (fo G p h).1 (wl p h (fo G p h).2.2 ωe) (wl p h (fo G p h).2.2 ω) c hc (by omega) z).2
      omega
    · have := DB_4 G f (p + 1) (G.E p) (fo G p h).1 (wl p h (fo G p h).2.2 ω) (by omega)
      omega
  rw [l1] at q w up
  rw [l2] at hc
  exact sq_f q hk hs up (by omega) w
theorem fo_1 (hf : ∀ A, shp n a r (some A) → shp n a r (G.fx p A).1 ∧ shp n a r (G.fx p A).2.1) (hh : shp n a r h) : shp n a r (fo G p h).1 := fo_shp (fun A hA => (hf A hA).1) hh (fun s => (fo G p s).1) rfl (fun _ => rfl)
/-- heads climb -/
theorem spr_m (Q : RQ3 G f Nb kb' dmb p n a r) (hk : kb' ≤ Nb) (hs : G.sp p ≤ 350) (e1 : G.n p = n) (e2 : G.a p = a) (hf : ∀ A, shp n a r (some A) → shp n a r (G.fx p A).1 ∧ shp n a r (G.fx p A).2.1) (w : WB G f (p + 1) (G.E p) n a r) (hS : shp n a r (some S)) : ∀ g h told n1 be ω mx k, CI n a r S h told n1 be → wW ω0 ≤ wW ω → SQ3 (1 + Nb) kb' (1 + dmb) mx (wW ω0) (wW ω) → PRE G f p (some S) ω0 h ω → SQ3 (1 + Nb) kb' (1 + dmb) (clm G (DB G f) p (some S) g h told n1 be ω mx k).2.2.2.2 (wW ω0) (wW (clm G (DB G f) p (some S) g h told n1 be ω mx k).2.2.2.1) ∧ PRE G f p (some S) ω0 (clm G (DB G f) p (some S) g h told n1 be ω mx k).1 (clm G (DB G f) p (some S) g h told n1 be ω mx k).2.2.2.1 := by
  intro g
  induction g with
  | zero => exact fun h told n1 be ω mx k c hw q x => ⟨q, x⟩
  | succ g ih =>
    intro h told n1 be ω mx k c hw q x
    rw [clm_1]
    by_cases z : o_le n1 told ∨ 4000 < wW ω
    · rw [if_pos z]; exact ⟨q, x⟩
    · rw [if_neg z]
      obtain ⟨⟨A, a1, a2, a3⟩, t'⟩ := CI_next hS c k
      obtain ⟨⟨N, q1⟩, q2, q3, q4⟩ := rnd_shp (ω := ω) (DB_shp G f) e1 e2 hf w hS (h := if k ≤ 2 then o_join h n1 else o_cl (o_wid told n1)) (by rw [a1]; exact a2)
      generalize (if k ≤ 2 then o_join h n1 else o_cl (o_wid told n1)) = h' at *
      generalize (if k ≤ 2 then o_join h n1 else o_wid told n1) = told' at *
      have sf : shp n a r (fo G p h').1 := fo_1 hf (by rw [a1]; exact a2)
      have wr : wW ω + wi h' ≤ wW (rnd G (DB G f) p (some S) h' ω).2.2.1 := rnd_w (DB_w G f)
      have c1 := spr_c (S := some S) (ω := ω) (h := h') Q hk hs sf
      exact ih h' told' _ _ _ _ _ ⟨⟨A, a1, a2, a3⟩, t', ⟨N, q1, by rw [← q1]; exact q2⟩, q3⟩ (by omega) (sq_x (sq_w q (Nat.le_refl _) (by omega)) (sq_w c1 hw (Nat.le_refl _))) ⟨ω, hw, Nat.le_refl _⟩
/-- tries -/
theorem spr_s (Q : RQ3 G f Nb kb' dmb p n a r) (hk : kb' ≤ Nb) (hk1 : 1 ≤ kb') (hs : G.sp p ≤ 350) (e1 : G.n p = n) (e2 : G.a p = a) (hf : ∀ A, shp n a r (some A) → shp n a r (G.fx p A).1 ∧ shp n a r (G.fx p A).2.1) (w : WB G f (p + 1) (G.E p) n a r) (hS : shp n a r (some S)) : ∀ g h n1 be ω mx, (∃ A, n1 = some A ∧ shp n a r (some A)) → (∃ A, h = some A ∧ shp n a r (some A)) → wW ω0 + 1 + dmb ≤ wW ω → SQ3 (1 + Nb) kb' (1 + dmb) mx (wW ω0) (wW ω) → PRE G f p (some S) ω0 h ω → SQ3 (1 + Nb) kb' (1 + dmb) (trs G (DB G f) p (some S) g h n1 be ω mx).2.2.2 (wW ω0) (wW (trs G (DB G f) p (some S) g h n1 be ω mx).2.2.1) ∧ PRE G f p (some S) ω0 (trs G (DB G f) p (some S) g h n1 be ω mx).1 (trs G (DB G f) p (some S) g h n1 be ω mx).2.2.1 ∧ ∃ A, (trs G (DB G f) p (some S) g h n1 be ω mx).1 = some A ∧ shp n a r (some A) := by
  intro g
  induction g with
  | zero => exact fun h n1 be ω mx c1 c2 hw q x => ⟨q, x, c2⟩
  | succ g ih =>
    intro h n1 be ω mx c1 c2 hw q x
    rw [trs_1]
    by_cases z : (o_le n1 h ∧ o_le h n1) ∨ 4000 < wW ω
    · rw [if_pos z]; exact ⟨q, x, c2⟩
    · rw [if_neg z]
      obtain ⟨A, a1, a2⟩ := c1
      have sn : shp n a r n1 := by rw [a1]; exact a2
      obtain ⟨⟨N, q1⟩, q2, q3, q4⟩ := rnd_shp (ω := ω) (DB_shp G f) e1 e2 hf w hS sn
      have wn : wi n1 = 1 := by rw [a1]; rfl
      have wr : wW ω + wi n1 ≤ wW (rnd G (DB G f) p (some S) n1 ω).2.2.1 := rnd_w (DB_w G f)
      have c1' := spr_t (S := some S) (ω0 := ω0) (ω := ω) (h := n1) Q hk hk1 hs (fo_1 hf sn) wn hw
      have qq := sq_x (sq_w q (Nat.le_refl _) (by omega : wW ω ≤ wW (rnd G (DB G f) p (some S) n1 ω).2.2.1)) c1'
      by_cases l : o_le (rnd G (DB G f) p (some S) n1 ω).1 n1
      · rw [if_pos l]
        exact ih n1 _ _ _ _ ⟨N, q1, by rw [← q1]; exact q2⟩ ⟨A, a1, a2⟩ (by omega) qq ⟨ω, by omega, Nat.le_refl _⟩
      · rw [if_neg l]
        exact ⟨qq, PRE_w x (by dsimp only; omega), c2⟩
/-- a while -/
theorem spr_l (F : FLT G c0) (hp : G.E p ≤ c0) (hpE : p < G.E p) (k6 : G.kd p = 6) (e3 : ∀ x, x < a → r x = G.rm p x) (Q : RQ3 G f Nb kb' dmb p n a r) (hk : kb' ≤ Nb) (hk0 : kb' = 0 → 5000 ≤ dmb) (hdm : dmb = dmR G f (p + 1) (G.E p)) (hs : G.sp p ≤ 350) (e1 : G.n p = n) (e2 : G.a p = a) (hf : ∀ A, shp n a r (some A) → shp n a r (G.fx p A).1 ∧ shp n a r (G.fx p A).2.1) (w : WB G f (p + 1) (G.E p) n a r) (hS : shp n a r (some S)) (hw : wW ω ≤ 4000) : SQ3 (1 + Nb) kb' (1 + dmb) (lop G (DB G f) p (some S) ω).2.2 (wW ω) (wW (lop G (DB G f) p (some S) ω).2.1) := by
  obtain ⟨T, g1, g2, g3⟩ := hS S rfl
  have sf : shp n a r (fo G p (some S)).1 := (hf S hS).1
  have c1 := spr_c (S := some S) (ω := ω) (h := some S) Q hk hs sf
  have wr : wW ω + 1 ≤ wW (rnd G (DB G f) p (some S) (some S) ω).2.2.1 := rnd_w (h := some S) (S := some S) (DB_w G f)
  have pre : PRE G f p (some S) ω (some S) (rnd G (DB G f) p (some S) (some S) ω).2.2.1 := ⟨ω, Nat.le_refl _, Nat.le_refl _⟩
  -- the end, from any head that was done before
  have fin : ∀ t : Option ab × Option ab × wd × Nat, (∃ A, t.1 = some A ∧ shp n a r (some A)) → SQ3 (1 + Nb) kb' (1 + dmb) t.2.2.2 (wW ω) (wW t.2.2.1) → PRE G f p (some S) ω t.1 t.2.2.1 → SQ3 (1 + Nb) kb' (1 + dmb) (finD G (DB G f) p (some S) t).2.2 (wW ω) (wW (finD G (DB G f) p (some S) t).2.1) := fun t ⟨A, a1, a2⟩ q x => by
    unfold finD
    by_cases z : 4000 < wW t.2.2.1
    · rw [if_pos z]; exact q
    · rw [if_neg z]
      have wt : wW t.2.2.1 + wi t.1 ≤ wW (rnd G (DB G f) p (some S) t.1 t.2.2.1).2.2.1 := rnd_w (DB_w G f)
      exact sq_x (sq_w q (Nat.le_refl _) (by dsimp only; omega)) (spr_f Q hk hs (fo_1 hf (by rw [a1]; exact a2)) (by rw [a1]; rfl) (by omega) x)
  by_cases hm : 4000 < wW (rnd G (DB G f) p (some S) (some S) ω).2.2.1
  · -- too much at once
    have e : lop G (DB G f) p (some S) ω = ((rnd G (DB G f) p (some S) (some S) ω).2.1, (rnd G (DB G f) p (some S) (some S) ω).2.2.1, 4 + (rnd G (DB G f) p (some S) (some S) ω).2.2.2) := by
      rw [lop_D]
      unfold clmD
      rw [clm_1, if_pos (Or.inr hm)]
      unfold trsD
      dsimp only
      rw [trs_1, if_pos (Or.inr hm)]
      unfold finD
      rw [if_pos hm]
    rw [e]; exact c1
  · have wb : wW (DB G f (p + 1) (G.E p) (fo G p (some S)).1 (wl p (some S) (fo G p (some S)).2.2 ω)).2.1 ≤ 4000 := by
      have : wW (rnd G (DB G f) p (some S) (some S) ω).2.2.1 = wW (DB G f (p + 1) (G.E p) (fo G p (some S)).1 (wl p (some S) (fo G p (some S)).2.2 ω)).2.1 := rfl
      omega
    rcases flt F f (p + 1) (G.E p) n a r (fo G p (some S)).1 (wl p (some S) (fo G p (some S)).2.2 ω) hp w sf wb with z | z
    · obtain ⟨o1, o2⟩ := fo_L F (by omega) (Or.inr k6) e1 e2 e3 hS
      have z' : oL n a (o_keep n a (DB G f (p + 1) (G.E p) (fo G p (some S)).1 (wl p (some S) (fo G p (some S)).2.2 ω)).1) (some S) := oL_k (oL_t z o1)
      have er : (rnd G (DB G f) p (some S) (some S) ω).1 = o_join (some S) (o_keep n a (DB G f (p + 1) (G.E p) (fo G p (some S)).1 (wl p (some S) (fo G p (some S)).2.2 ω)).1) := by unfold rnd; rw [e1, e2]
      obtain ⟨u1, u2⟩ := oL_le g1 g2 z'
      rw [← er] at u1 u2
      rw [lop_1 u1 u2]
      exact fin _ ⟨S, rfl, hS⟩ c1 pre
    · have z' : wW ω + 1 + dmb ≤ wW (rnd G (DB G f) p (some S) (some S) ω).2.2.1 := by
        have hl : wW (wl p (some S) (fo G p (some S)).2.2 ω) = wW ω + 1 := rfl
        have he : wW (rnd G (DB G f) p (some S) (some S) ω).2.2.1 = wW (DB G f (p + 1) (G.E p) (fo G p (some S)).1 (wl p (some S) (fo G p (some S)).2.2 ω)).2.1 := rfl
        rw [hl, ← hdm] at z
        omega
      have hk1 : 1 ≤ kb' := by
        by_cases c : kb' = 0
        · have := hk0 c; omega
        · omega
      rw [lop_D]
      obtain ⟨⟨N, q1⟩, q2, q3, q4⟩ := rnd_shp (ω := ω) (DB_shp G f) e1 e2 hf w hS hS
      have cc : CI n a r S (some S) (some S) (rnd G (DB G f) p (some S) (some S) ω).1 (rnd G (DB G f) p (some S) (some S) ω).2.1 := ⟨⟨S, rfl, hS, fun _ _ _ _ => Int.le_refl _⟩, ⟨S, rfl, shL_of hS, fun _ _ _ _ => Int.le_refl _⟩, ⟨N, q1, by rw [← q1]; exact q2⟩, q3⟩
      obtain ⟨m1, m2⟩ := spr_m (ω0 := ω) Q hk hs e1 e2 hf w hS 4001 (some S) (some S) _ _ (rnd G (DB G f) p (some S) (some S) ω).2.2.1 (4 + (rnd G (DB G f) p (some S) (some S) ω).2.2.2) 1 cc (by omega) c1 pre
      obtain ⟨told', cI⟩ := clm_shp (DB_shp G f) e1 e2 hf w hS 4001 (some S) (some S) _ _ (rnd G (DB G f) p (some S) (some S) ω).2.2.1 (4 + (rnd G (DB G f) p (some S) (some S) ω).2.2.2) 1 cc
      have wc' := clm_w (G := G) (p := p) (S := some S) (DB_w G f) 4001 (some S) (some S) (rnd G (DB G f) p (some S) (some S) ω).1 (rnd G (DB G f) p (some S) (some S) ω).2.1 (rnd G (DB G f) p (some S) (some S) ω).2.2.1 (4 + (rnd G (DB G f) p (some S) (some S) ω).2.2.2) 1
      unfold clmD
      generalize clm G (DB G f) p (some S) 4001 (some S) (some S) (rnd G (DB G f) p (some S) (some S) ω).1 (rnd G (DB G f) p (some S) (some S) ω).2.1 (rnd G (DB G f) p (some S) (some S) ω).2.2.1 (4 + (rnd G (DB G f) p (some S) (some S) ω).2.2.2) 1 = C at *
      obtain ⟨A, a1, a2, -⟩ := cI.iH
      obtain ⟨t1, t2, t3⟩ := spr_s (ω0 := ω) Q hk hk1 hs e1 e2 hf w hS 2 C.1 C.2.1 C.2.2.1 C.2.2.2.1 C.2.2.2.2 cI.iQ ⟨A, a1, a2⟩ (by omega) m1 m2
      unfold trsD
      exact fin _ t3 t1 t2
/-- spares are enough -/
theorem spr (F : FLT G c0) (hsp : ∀ p, p < c0 → G.sp p ≤ 350) : ∀ f p e n a r s ω, e ≤ c0 → WB G f p e n a r → shp n a r s → SQ3 (e - p) (kR G f p e) (dmR G f p e) (DB G f p e s ω).2.2 (wW ω) (wW (DB G f p e s ω).2.1) := by
  intro f
  induction f with
  | zero => exact fun p e n a r s ω _ _ _ => sq_0 (Nat.zero_le _) (Nat.zero_le _) (Nat.le_refl _) (by show 0 + 4 * 0 ≤ _; omega)
  | succ f ih =>
    intro p e n a r s ω he w0 hs
    obtain ⟨kl, kz⟩ := kR_le (f + 1) p e n a r w0
    by_cases hw : wW ω ≤ 4000
    · rcases w0 with w | ⟨w1, e1, e2, e3, w2, w3, w⟩
      · rw [DB_le w]
        exact sq_0 kl (Nat.zero_le _) (Nat.le_refl _) (by show 0 + 4 * kR G (f + 1) p e ≤ _; omega)
      · rw [DB_s w1 hw]
        dsimp only
        have hspp := hsp p (by omega)
        have wm := DB_w G f (G.E p) e (DS G (DB G f) p s ω).1 (DS G (DB G f) p s ω).2.1
        have wd' : wW ω + wi s ≤ wW (DS G (DB G f) p s ω).2.1 := DS_w (DB_w G f)
        have l1 := wl_w (p := p) (s := s) (al := (fo G p s).2.2) (ω := ω)
        have dmE : dmR G (f + 1) p e = min (if G.kd p = 6 then 1 + dmR G f (p + 1) (G.E p) else if G.kd p = 5 then min (dmR G f (p + 1) (G.M p)) (dmR G f (G.M p) (G.E p)) else 0) (dmR G f (G.E p) e) := by
          conv => lhs; unfold dmR
          rw [if_pos w1]
        have kE : kR G (f + 1) p e = (if G.kd p = 6 then kR G f (p + 1) (G.E p) else if G.kd p = 5 then kR G f (p + 1) (G.M p) + kR G f (G.M p) (G.E p) else if G.kd p = 4 then 1 + kR G f (p + 1) (G.E p) else 1) + kR G f (G.E p) e := by
          conv => lhs; unfold kR
          rw [if_pos w1]
        -- the statement and the rest
        have join : ∀ (N1 k1 d1 : Nat) n' a' r', G.E p - p = N1 → kR G (f + 1) p e = k1 + kR G f (G.E p) e → dmR G (f + 1) p e = min d1 (dmR G f (G.E p) e) → SQ3 N1 k1 d1 (DS G (DB G f) p s ω).2.2 (wW ω) (wW (DS G (DB G f) p s ω).2.1) → WB G f (G.E p) e n' a' r' → shp n' a' r' (DS G (DB G f) p s ω).1 → k1 ≤ N1 → (k1 = 0 → 32 ≤ d1) → SQ3 (e - p) (kR G (f + 1) p e) (dmR G (f + 1) p e) (max (DS G (DB G f) p s ω).2.2 (DB G f (G.E p) e (DS G (DB G f) p s ω).1 (DS G (DB G f) p s ω).2.1).2.2) (wW ω) (wW (DB G f (G.E p) e (DS G (DB G f) p s ω).1 (DS G (DB G f) p s ω).2.1).2.1) := fun N1 k1 d1 n' a' r' hN hk1 hd1 q wR sR kN k0 => by
          obtain ⟨kl2, kz2⟩ := kR_le f (G.E p) e n' a' r' wR
          have q2 := ih (G.E p) e n' a' r' (DS G (DB G f) p s ω).1 (DS G (DB G f) p s ω).2.1 he wR sR
          have eN : e - p = N1 + (e - G.E p) := by omega
          rw [hk1, hd1, eN]
          refine sq_x (sq_m q kl2 (fun z => by have := kz2 z; omega) (Nat.le_refl _) wm) ?_
          have q3 := sq_m q2 kN k0 (by omega : wW ω ≤ wW (DS G (DB G f) p s ω).2.1) (Nat.le_refl _)
          rw [Nat.add_comm (e - G.E p) N1, Nat.add_comm (kR G f (G.E p) e) k1, Nat.min_comm (dmR G f (G.E p) e) d1] at q3
          exact q3
        by_cases k4 : G.kd p = 4
        · rw [if_pos k4] at w
          obtain ⟨n', q1, q2, q3, q4⟩ := w
          have fs : shp n' a r (fo G p s).1 := fo_shp q2 hs (fun s => (fo G p s).1) rfl (fun _ => rfl)
          rw [if_neg (by omega), if_neg (by omega), if_pos k4] at kE
          rw [if_neg (by omega), if_neg (by omega)] at dmE
          obtain ⟨kl1, -⟩ := kR_le f (p + 1) (G.E p) n' a r q3
          have q := ih (p + 1) (G.E p) n' a r (fo G p s).1 (wl p s (fo G p s).2.2 ω) (by omega) q3 fs
          have sD : shp n a r (DS G (DB G f) p s ω).1 := by
            rw [DS_4 k4, e1, e2]
            exact keep_shp (shg_t q1 (Nat.le_refl _) (fun _ _ => rfl) (DB_shp G f (p + 1) (G.E p) n' a r _ _ q3 fs))
          refine join (1 + (G.E p - (p + 1))) (1 + kR G f (p + 1) (G.E p)) 0 n a r (by omega) kE dmE ?_ q4 sD (by omega) (fun z => by omega)
          rw [DS_4 k4]
          exact sq_w (sq_c q) (by rw [l1]; omega) (Nat.le_refl _)
        · rw [if_neg k4] at w
          by_cases k5 : G.kd p = 5
          · rw [if_pos k5] at w
            obtain ⟨m1, m2, q2, q3, q4, q5⟩ := w
            have f1 : shp n a r (fo G p s).1 := fo_shp (fun A hA => (q2 A hA).1) hs (fun s => (fo G p s).1) rfl (fun _ => rfl)
            have f2 : shp n a r (fo G p s).2.1 := fo_shp (fun A hA => (q2 A hA).2) hs (fun s => (fo G p s).2.1) rfl (fun _ => rfl)
            rw [if_neg (by omega), if_pos k5] at kE
            rw [if_neg (by omega), if_pos k5] at dmE
            obtain ⟨kl1, kz1⟩ := kR_le f (p + 1) (G.M p) n a r q3
            obtain ⟨kl2, kz2⟩ := kR_le f (G.M p) (G.E p) n a r q4
            have d5 := DS_5 (rc := DB G f) (s := s) (w0 := ω) k5
            generalize eQ1 : DB G f (p + 1) (G.M p) (fo G p s).1 (wl p s (fo G p s).2.2 ω) = Q1 at d5
            generalize eQ2 : DB G f (G.M p) (G.E p) (fo G p s).2.1 Q1.2.1 = Q2 at d5
            have b1 := DB_w G f (p + 1) (G.M p) (fo G p s).1 (wl p s (fo G p s).2.2 ω)
            have b2 := DB_w G f (G.M p) (G.E p) (fo G p s).2.1 Q1.2.1
            have i1 := ih (p + 1) (G.M p) n a r (fo G p s).1 (wl p s (fo G p s).2.2 ω) (by omega) q3 f1
            have i2 := ih (G.M p) (G.E p) n a r (fo G p s).2.1 Q1.2.1 (by omega) q4 f2
            have u1 := keep_shp (DB_shp G f (p + 1) (G.M p) n a r (fo G p s).1 (wl p s (fo G p s).2.2 ω) q3 f1)
            have u2 := keep_shp (DB_shp G f (G.M p) (G.E p) n a r (fo G p s).2.1 Q1.2.1 q4 f2)
            rw [eQ1] at b1 i1 u1
            rw [eQ2] at b2 i2 u2
            refine join (1 + ((G.M p - (p + 1)) + (G.E p - G.M p))) _ _ n a r (by omega) kE dmE ?_ q5 (by rw [d5, e1, e2]; exact join_shp u1 u2) (by omega) (fun z => by have a1 := kz1 (by omega); have a2 := kz2 (by omega); omega)
            rw [d5]
            dsimp only
            have j1 := sq_m (dm2 := dmR G f (G.M p) (G.E p)) i1 kl2 (fun z => by have := kz2 z; omega) (by omega : wW ω ≤ wW (wl p s (fo G p s).2.2 ω)) b2
            have j2 := sq_m (dm2 := dmR G f (p + 1) (G.M p)) i2 kl1 (fun z => by have := kz1 z; omega) (by omega : wW ω ≤ wW Q1.2.1) (Nat.le_refl _)
            rw [Nat.add_comm (G.E p - G.M p), Nat.add_comm (kR G f (G.M p) (G.E p)), Nat.min_comm (dmR G f (G.M p) (G.E p))] at j2
            rcases Nat.le_total (G.sp p) (max Q1.2.2 Q2.2.2) with c | c
            · rw [Nat.max_eq_right c]
              exact sq_i (sq_x j1 j2)
            · rw [Nat.max_eq_left c]
              exact ⟨0, 0, 0, by omega, by omega, by omega, by decide, fun _ => rfl, by omega⟩
          · rw [if_neg k5] at w
            by_cases k6 : G.kd p = 6
            · rw [if_pos k6] at w
              obtain ⟨q2, q3, q4⟩ := w
              rw [if_pos k6] at kE dmE
              obtain ⟨kl1, kz1⟩ := kR_le f (p + 1) (G.E p) n a r q3
              have Q : RQ3 G f (G.E p - (p + 1)) (kR G f (p + 1) (G.E p)) (dmR G f (p + 1) (G.E p)) p n a r := fun s ω hs => ih (p + 1) (G.E p) n a r s ω (by omega) q3 hs
              have sD : shp n a r (DS G (DB G f) p s ω).1 := by
                cases s with
                | none => rw [DS_6n k6]; exact shp_n
                | some S => rw [DS_6s k6]; exact lop_shp (DB_shp G f) e1 e2 q2 q3 hs
              refine join (1 + (G.E p - (p + 1))) (kR G f (p + 1) (G.E p)) (1 + dmR G f (p + 1) (G.E p)) n a r (by omega) kE dmE ?_ q4 sD (by omega) (fun z => by have := kz1 z; omega)
              cases s with
              | none =>
                rw [DS_6n k6]
                exact spr_c (S := none) (h := none) (ω := ω) Q kl1 hspp shp_n
              | some S =>
                rw [DS_6s k6]
                exact spr_l F (by omega) w2 k6 e3 Q kl1 kz1 rfl hspp e1 e2 q2 q3 hs hw
            · rw [if_neg k6] at w
              obtain ⟨ee, n', a', r', q1, q2, q3, q4, q5⟩ := w
              rw [if_neg k6, if_neg k5, if_neg k4] at kE
              rw [if_neg k6, if_neg k5] at dmE
              refine join 1 1 0 n' a' r' (by omega) kE dmE ?_ q5 (by rw [DS_x k4 k5 k6]; exact fo_shp q4 hs (fun s => (fo G p s).1) rfl (fun _ => rfl)) (Nat.le_refl _) (fun z => by omega)
              rw [DS_x k4 k5 k6]
              dsimp only
              exact ⟨0, 0, 0, by omega, by rw [l1]; omega, by omega, by decide, fun _ => rfl, by omega⟩
    · rw [DB_m hw]
      exact sq_0 kl (Nat.zero_le _) (Nat.le_refl _) (by show 0 + 4 * kR G (f + 1) p e ≤ _; omega)
/-- in a whole program -/
theorem spr_end (F : FLT G c0) (hsp : ∀ p, p < c0 → G.sp p ≤ 350) (hc : c0 ≤ 249) (w : WB G f 0 c0 n a r) {s : Option ab} (hs : shp n a r s) (hw : wW ω = 0) : (DB G f 0 c0 s ω).2.2 ≤ 2046 := by
  have q := spr F hsp f 0 c0 n a r s ω (Nat.le_refl _) w hs
  rw [hw] at q
  exact sq_end q (by omega) (DB_4 G f 0 c0 s ω (by omega))
end SPb
