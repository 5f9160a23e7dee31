set_option maxRecDepth 100000
/-! work grows; where nothing is known -/
section WKs
variable {G : pgm} {rc : rc3} {p : Nat} {S h : Option ab} {ω : wd}
def RW (rc : rc3) : Prop := ∀ p e s ω, wW ω ≤ wW (rc p e s ω).2.1
theorem rnd_w (R : RW rc) : wW ω + wi h ≤ wW (rnd G rc p S h ω).2.2.1 := R (p + 1) (G.E p) (fo G p h).1 (wl p h (fo G p h).2.2 ω)
theorem clm_w (R : RW rc) : ∀ g h told n be ω mx k, wW ω ≤ wW (clm G rc p S g h told n be ω mx k).2.2.2.1 := by
  intro g
  induction g with
  | zero => exact fun h told n be ω mx k => Nat.le_refl _
  | succ g ih =>
    intro h told n be ω mx k
    unfold clm
    by_cases q : o_le n told ∨ 4000 < wW ω
    · rw [if_pos q]; exact Nat.le_refl _
    · rw [if_neg q]
      exact Nat.le_trans (Nat.le_trans (Nat.le_add_right _ _) (rnd_w R)) (ih _ _ _ _ _ _ _)
theorem trs_w (R : RW rc) : ∀ g h n be ω mx, wW ω ≤ wW (trs G rc p S g h n be ω mx).2.2.1 := by
  intro g
  induction g with
  | zero => exact fun h n be ω mx => Nat.le_refl _
  | succ g ih =>
    intro h n be ω mx
    unfold trs
    by_cases q : (o_le n h ∧ o_le h n) ∨ 4000 < wW ω
    · rw [if_pos q]; exact Nat.le_refl _
    · rw [if_neg q]
      dsimp only
      have r : wW ω ≤ wW (rnd G rc p S n ω).2.2.1 := Nat.le_trans (Nat.le_add_right _ _) (rnd_w R)
      by_cases q' : o_le (rnd G rc p S n ω).1 n
      · rw [if_pos q']; exact Nat.le_trans r (ih _ _ _ _ _)
      · rw [if_neg q']; exact r
theorem lop_w (R : RW rc) : wW ω + wi S ≤ wW (lop G rc p S ω).2.1 := by
  unfold lop
  dsimp only
  have r0 : wW ω + wi S ≤ wW (rnd G rc p S S ω).2.2.1 := rnd_w R
  have r1 := clm_w (G := G) (p := p) (S := S) R 4001 S S (rnd G rc p S S ω).1 (rnd G rc p S S ω).2.1 (rnd G rc p S S ω).2.2.1 (4 + (rnd G rc p S S ω).2.2.2) 1
  generalize clm G rc p S 4001 S S (rnd G rc p S S ω).1 (rnd G rc p S S ω).2.1 (rnd G rc p S S ω).2.2.1 (4 + (rnd G rc p S S ω).2.2.2) 1 = c at *
  have r2 := trs_w (G := G) (p := p) (S := S) R 2 c.1 c.2.1 c.2.2.1 c.2.2.2.1 c.2.2.2.2
  generalize trs G rc p S 2 c.1 c.2.1 c.2.2.1 c.2.2.2.1 c.2.2.2.2 = t at *
  split
  · exact Nat.le_trans r0 (Nat.le_trans r1 r2)
  · exact Nat.le_trans r0 (Nat.le_trans r1 (Nat.le_trans r2 (Nat.le_trans (Nat.le_add_right _ _) (rnd_w (S := S) R))))
theorem DS_w (R : RW rc) : wW ω + wi S ≤ wW (DS G rc p S ω).2.1 := by
  unfold DS
  split
  · exact R (p + 1) (G.E p) (fo G p S).1 (wl p S (fo G p S).2.2 ω)
  · split
    · exact Nat.le_trans (R (p + 1) (G.M p) (fo G p S).1 (wl p S (fo G p S).2.2 ω)) (R (G.M p) (G.E p) (fo G p S).2.1 _)
    · split
      · cases S with
        | none => exact rnd_w (S := none) (h := none) R
        | some A => exact lop_w R
      · exact Nat.le_refl _
end WKs
theorem DB_w (G : pgm) : ∀ f, RW (DB G f) := by
  intro f
  induction f with
  | zero => exact fun p e s ω => Nat.le_refl _
  | succ f ih =>
    intro p e s ω
    unfold DB
    split
    · exact Nat.le_trans (Nat.le_trans (Nat.le_add_right _ _) (DS_w (S := s) ih)) (ih _ _ _ _)
    · exact Nat.le_refl _
/-! nothing is known -/
theorem wd_ext {a b : wd} (h1 : ∀ q, wK a q = wK b q) (h2 : ∀ q, wA a q = wA b q) (h3 : wW a = wW b) : a = b := by
  obtain ⟨a1, a2, a3⟩ := a
  obtain ⟨b1, b2, b3⟩ := b
  have e1 : a1 = b1 := funext h1
  have e2 : a2 = b2 := funext h2
  have e3 : a3 = b3 := h3
  rw [e1, e2, e3]
theorem wc_K {p e q : Nat} {ω : wd} : wK (wc p e ω) q = if p ≤ q ∧ q < e then none else wK ω q := rfl
theorem wc_A {p e q : Nat} {ω : wd} : wA (wc p e ω) q = if p ≤ q ∧ q < e then 0 else wA ω q := rfl
theorem wl_K {p q : Nat} {s : Option ab} {al : Int32} {ω : wd} : wK (wl p s al ω) q = if q = p then s else wK ω q := rfl
theorem wl_A {p q : Nat} {s : Option ab} {al : Int32} {ω : wd} : wA (wl p s al ω) q = if q = p then al else wA ω q := rfl
theorem wc_l {p e : Nat} {ω : wd} (h : p < e) : wc (p + 1) e (wl p none 0 ω) = wc p e ω := wd_ext (fun q => by
    rw [wc_K, wc_K, wl_K]
    by_cases c : q = p
    · rw [if_neg (by omega), if_pos c, if_pos (by omega)]
    · rw [if_neg c]
      by_cases c2 : p ≤ q ∧ q < e
      · rw [if_pos c2, if_pos (by omega)]
      · rw [if_neg c2, if_neg (by omega)]) (fun q => by
    rw [wc_A, wc_A, wl_A]
    by_cases c : q = p
    · rw [if_neg (by omega), if_pos c, if_pos (by omega)]
    · rw [if_neg c]
      by_cases c2 : p ≤ q ∧ q < e
      · rw [if_pos c2, if_pos (by omega)]
      · rw [if_neg c2, if_neg (by omega)]) rfl
theorem wc_t {p m e : Nat} {ω : wd} (h1 : p ≤ m) (h2 : m ≤ e) : wc m e (wc p m ω) = wc p e ω := wd_ext (fun q => by
    rw [wc_K, wc_K, wc_K]
    by_cases c : m ≤ q ∧ q < e
    · rw [if_pos c, if_pos (by omega)]
    · rw [if_neg c]
      by_cases c2 : p ≤ q ∧ q < m
      · rw [if_pos c2, if_pos (by omega)]
      · rw [if_neg c2, if_neg (by omega)]) (fun q => by
    rw [wc_A, wc_A, wc_A]
    by_cases c : m ≤ q ∧ q < e
    · rw [if_pos c, if_pos (by omega)]
    · rw [if_neg c]
      by_cases c2 : p ≤ q ∧ q < m
      · rw [if_pos c2, if_pos (by omega)]
      · rw [if_neg c2, if_neg (by omega)]) rfl
theorem wc_0 {p : Nat} {ω : wd} : wc p p ω = ω := wd_ext (fun q => by rw [wc_K, if_neg (by omega)]) (fun q => by rw [wc_A, if_neg (by omega)]) rfl
theorem WB_le {G : pgm} : ∀ {f p e n a : Nat} {r : Nat → Nat}, WB G f p e n a r → p ≤ e := by
  intro f
  cases f with
  | zero => exact fun {p e n a r} w => Nat.le_of_eq w
  | succ f =>
    intro p e n a r w
    rcases w with w | w
    · omega
    · have := w.1; omega
theorem DB_none (G : pgm) : ∀ f p e n a r ω, WB G f p e n a r → wW ω ≤ 4000 → (DB G f p e none ω).1 = none ∧ (DB G f p e none ω).2.1 = wc p e ω := by
  intro f
  induction f with
  | zero =>
    intro p e n a r ω w _
    have e0 : p = e := w
    subst e0
    exact ⟨rfl, wc_0.symm⟩
  | succ f ih =>
    intro p e n a r ω w hw
    unfold DB
    rcases w with w | ⟨w1, e1, e2, e3, w2, w3, w⟩
    · subst w
      rw [if_neg (by omega)]
      exact ⟨rfl, wc_0.symm⟩
    · rw [if_pos ⟨w1, hw⟩]
      dsimp only
      have hl : wW (wl p none 0 ω) ≤ 4000 := hw
      have key : (DS G (DB G f) p none ω).1 = none ∧ (DS G (DB G f) p none ω).2.1 = wc p (G.E p) ω ∧ ∃ n' a' r', WB G f (G.E p) e n' a' r' := by
        unfold DS
        by_cases k4 : G.kd p = 4
        · rw [if_pos k4] at w ⊢
          obtain ⟨n', q1, q2, q3, q4⟩ := w
          obtain ⟨o1, o2⟩ := ih (p + 1) (G.E p) n' a r (wl p none 0 ω) q3 hl
          refine ⟨?_, ?_, n, a, r, q4⟩
          · show o_keep (G.n p) (G.a p) (DB G f (p + 1) (G.E p) none (wl p none 0 ω)).1 = none
            rw [o1]; rfl
          · show (DB G f (p + 1) (G.E p) none (wl p none 0 ω)).2.1 = _
            rw [o2]; exact wc_l w2
        · rw [if_neg k4] at w ⊢
          by_cases k5 : G.kd p = 5
          · rw [if_pos k5] at w ⊢
            obtain ⟨m1, m2, q2, q3, q4, q5⟩ := w
            obtain ⟨o1, o2⟩ := ih (p + 1) (G.M p) n a r (wl p none 0 ω) q3 hl
            have hl2 : wW (DB G f (p + 1) (G.M p) none (wl p none 0 ω)).2.1 ≤ 4000 := by rw [o2]; exact hw
            obtain ⟨o3, o4⟩ := ih (G.M p) (G.E p) n a r (DB G f (p + 1) (G.M p) none (wl p none 0 ω)).2.1 q4 hl2
            refine ⟨?_, ?_, n, a, r, q5⟩
            · show o_join (o_keep (G.n p) (G.a p) (DB G f (p + 1) (G.M p) none (wl p none 0 ω)).1) (o_keep (G.n p) (G.a p) (DB G f (G.M p) (G.E p) none (DB G f (p + 1) (G.M p) none (wl p none 0 ω)).2.1).1) = none
              rw [o1, o3]; rfl
            · show (DB G f (G.M p) (G.E p) none (DB G f (p + 1) (G.M p) none (wl p none 0 ω)).2.1).2.1 = _
              rw [o4, o2, wc_l m1]; exact wc_t (by omega) m2
          · rw [if_neg k5] at w ⊢
            by_cases k6 : G.kd p = 6
            · rw [if_pos k6] at w ⊢
              obtain ⟨q2, q3, q4⟩ := w
              obtain ⟨o1, o2⟩ := ih (p + 1) (G.E p) n a r (wl p none 0 ω) q3 hl
              refine ⟨rfl, ?_, n, a, r, q4⟩
              show (DB G f (p + 1) (G.E p) none (wl p none 0 ω)).2.1 = _
              rw [o2]; exact wc_l w2
            · rw [if_neg k6] at w ⊢
              obtain ⟨ee, n', a', r', -, -, -, -, q5⟩ := w
              refine ⟨rfl, ?_, n', a', r', q5⟩
              show wl p none 0 ω = wc p (G.E p) ω
              rw [ee, ← wc_l (by omega), wc_0]
      obtain ⟨o1, o2, n', a', r', w'⟩ := key
      rw [o1, o2]
      obtain ⟨u1, u2⟩ := ih (G.E p) e n' a' r' (wc p (G.E p) ω) w' hw
      exact ⟨u1, by rw [u2]; exact wc_t (by omega) w3⟩
/-! a head made tight, and the head that is told -/
theorem le_cl {n a : Nat} {r : Nat → Nat} {D H N : ab} (s : shL n a r D) (e : a_cl D = some H) (w : shp n a r (some N)) : o_le (some N) (some D) ↔ o_le (some N) (some H) := by
  have hn := s.n
  have ha := s.a
  obtain ⟨T, n1, a1, -⟩ := w N rfl
  by_cases ex : ∃ t, oc_G D.n D.m t
  · obtain ⟨t, ht⟩ := ex
    obtain ⟨B, b1, b2, b3, b4, b5, b6, b7, -⟩ := a_cl_some ht
    rw [e] at b1
    cases b1
    have TN : oc_T D.n N.m := by rw [hn, ← n1]; exact T.t
    constructor
    · intro l
      refine ⟨fun i j hi hj => ?_, fun x hx => by rw [b4, b5]; exact l.2 x hx⟩
      have hi' : i < 2 * D.n := by rw [hn, ← n1]; exact hi
      have hj' : j < 2 * D.n := by rw [hn, ← n1]; exact hj
      exact b7.2.2 N.m TN (fun i j hi hj => l.1 i j (by rw [n1, ← hn]; exact hi) (by rw [n1, ← hn]; exact hj)) i j hi' hj'
    · intro l
      refine ⟨fun i j hi hj => ?_, fun x hx => by have := l.2 x hx; rw [b4, b5] at this; exact this⟩
      have hi' : i < 2 * D.n := by rw [hn, ← n1]; exact hi
      have hj' : j < 2 * D.n := by rw [hn, ← n1]; exact hj
      exact Int.le_trans (l.1 i j hi hj) (b7.2.1 i j hi' hj')
  · unfold a_cl at e
    rw [dif_neg ex] at e
    cases e
