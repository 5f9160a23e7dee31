set_option maxRecDepth 100000
/-! codes of CONDs, by numbers of names -/
section CYm
variable {KK WW : Nat → Int32} {rel rel1 rel2 : tr → Nat → Prop} {n : Nat} {cs r : tr} {an : Bool} {k k' : Nat} {sp : Nat → Nat → Bool} {NL : List Nat} {lo : lkt}
theorem cy_26c (h : tK n = 26) (w : ∃ b', k' = b' + 1 ∧ cy KK WW rel cs false false k b' ∧ KK b' = 33) : cy KK WW rel (.branch n cs r) false an k k' := by
  rcases cs with _ | ⟨_, _, _⟩
  all_goals
    show (if tK n = 26 then _ else _)
    rw [if_pos h]
    exact w
theorem cy_25c {m : Nat} {c' r' : tr} (h : tK n = 24 ∨ tK n = 25) (w : ∃ k1, cy KK WW rel (.branch m c' r') false false k k1 ∧ cy KK WW rel r' true (decide (tK n = 25)) k1 k') : cy KK WW rel (.branch n (.branch m c' r') r) false an k k' := by
  show (if tK n = 26 then _ else if tK n = 24 ∨ tK n = 25 then _ else _)
  rw [if_neg (by omega), if_pos h]
  exact w
theorem cy_27c (h : ¬ tK n = 26) (h2 : ¬ (tK n = 24 ∨ tK n = 25)) (w : (27 ≤ tK n ∧ tK n ≤ 32) ∧ KK k = kd (tK n - 27) ∧ rel cs k ∧ k' = k + 1) : cy KK WW rel (.branch n cs r) false an k k' := by
  rcases cs with _ | ⟨_, _, _⟩
  all_goals
    show (if tK n = 26 then _ else if tK n = 24 ∨ tK n = 25 then _ else _)
    rw [if_neg h, if_neg h2]
    exact w
theorem cy_Lc (w : ∃ k1, KK k = (if an = true then 132 else 133) ∧ WW k = Int32.ofNat (k1 + 1) ∧ cy KK WW rel (.branch n cs r) false false (k + 1) k1 ∧ KK k1 = (if an = true then 134 else 135) ∧ cy KK WW rel r true an (k1 + 1) k') : cy KK WW rel (.branch n cs r) true an k k' := by
  rcases cs with _ | ⟨_, _, _⟩
  · exact w
  · exact w
theorem cq_26c (h : tK n = 26) (w : ∃ b', k' = b' + 1 ∧ cq KK rel cs false false k b' ∧ KK b' = 33) : cq KK rel (.branch n cs r) false an k k' := by
  rcases cs with _ | ⟨_, _, _⟩
  all_goals
    show (if tK n = 26 then _ else _)
    rw [if_pos h]
    exact w
theorem cq_25c {m : Nat} {c' r' : tr} (h : tK n = 24 ∨ tK n = 25) (w : ∃ k1, cq KK rel (.branch m c' r') false false k k1 ∧ cq KK rel r' true (decide (tK n = 25)) k1 k') : cq KK rel (.branch n (.branch m c' r') r) false an k k' := by
  show (if tK n = 26 then _ else if tK n = 24 ∨ tK n = 25 then _ else _)
  rw [if_neg (by omega), if_pos h]
  exact w
theorem cq_27c (h : ¬ tK n = 26) (h2 : ¬ (tK n = 24 ∨ tK n = 25)) (w : (27 ≤ tK n ∧ tK n ≤ 32) ∧ KK k = kd (tK n - 27) ∧ rel cs k ∧ k' = k + 1) : cq KK rel (.branch n cs r) false an k k' := by
  rcases cs with _ | ⟨_, _, _⟩
  all_goals
    show (if tK n = 26 then _ else if tK n = 24 ∨ tK n = 25 then _ else _)
    rw [if_neg h, if_neg h2]
    exact w
theorem cq_Lc (w : ∃ k1, KK k = (if an = true then 132 else 133) ∧ cq KK rel (.branch n cs r) false false (k + 1) k1 ∧ KK k1 = (if an = true then 134 else 135) ∧ cq KK rel r true an (k1 + 1) k') : cq KK rel (.branch n cs r) true an k k' := by
  rcases cs with _ | ⟨_, _, _⟩
  · exact w
  · exact w
/-- a relation's SUMs are in bounds -/
def gxR (m1 : Nat) (c1 : tr) (m2 : Nat) (c2 r2 : tr) : Prop := (gxT (.branch m1 c1 (.branch m2 c2 r2)) false ∧ pz (.branch m1 c1 (.branch m2 c2 r2)) false ∧ pn (.branch m1 c1 (.branch m2 c2 r2)) false ≤ 6000 ∧ sh (.branch m1 c1 (.branch m2 c2 r2)) false ≤ 124) ∧ gxT (.branch m2 c2 r2) false ∧ pz (.branch m2 c2 r2) false ∧ pn (.branch m2 c2 r2) false ≤ 6000 ∧ sh (.branch m2 c2 r2) false ≤ 124
theorem gc_n {mo : Bool} (g : gcT (.branch n cs r) mo) : (tK n = 26 ∧ gcT cs false) ∨ ((tK n = 24 ∨ tK n = 25) ∧ gcT cs true) ∨ (¬ tK n = 26 ∧ ¬ (tK n = 24 ∨ tK n = 25) ∧ ∃ m1 c1 m2 c2 r2, cs = .branch m1 c1 (.branch m2 c2 r2) ∧ gxR m1 c1 m2 c2 r2) := by
  by_cases k26 : tK n = 26
  · refine Or.inl ⟨k26, ?_⟩
    rcases cs with _ | ⟨_, _, _ | ⟨_, _, _⟩⟩
    all_goals
      have g' : (if tK n = 26 then _ else _) := g.1
      rw [if_pos k26] at g'
      exact g'
  by_cases k25 : tK n = 24 ∨ tK n = 25
  · refine Or.inr (Or.inl ⟨k25, ?_⟩)
    rcases cs with _ | ⟨_, _, _ | ⟨_, _, _⟩⟩
    all_goals
      have g' : (if tK n = 26 then _ else if tK n = 24 ∨ tK n = 25 then _ else _) := g.1
      rw [if_neg k26, if_pos k25] at g'
      exact g'
  · refine Or.inr (Or.inr ⟨k26, k25, ?_⟩)
    rcases cs with _ | ⟨m1, c1, _ | ⟨m2, c2, r2⟩⟩
    all_goals
      have g' : (if tK n = 26 then _ else if tK n = 24 ∨ tK n = 25 then _ else _) := g.1
      rw [if_neg k26, if_neg k25] at g'
    · exact absurd g'.2.2 (fun z => z)
    · exact absurd g'.2.2 (fun z => z)
    · exact ⟨m1, c1, m2, c2, r2, rfl, g'.2.2⟩
theorem gc_t (g : gcT (.branch n cs r) true) : gcT (.branch n cs r) false ∧ gcT r true := by
  rcases cs with _ | ⟨_, _, _ | ⟨_, _, _⟩⟩ <;> exact ⟨⟨g.1, fun z => by cases z⟩, g.2 rfl⟩
theorem cy_rn (m : ∀ m1 c1 m2 c2 r2 k, gxR m1 c1 m2 c2 r2 → (lwT lo (.branch m1 c1 (.branch m2 c2 r2))).1 = 0 → rel (.branch m1 c1 (.branch m2 c2 r2)) k → rel1 (rn sp NL (.branch m1 c1 (.branch m2 c2 r2))) k ∧ rel2 (rn sp NL (.branch m1 c1 (.branch m2 c2 r2))) k) : ∀ t, (∀ n cs r, t = .branch n cs r → gcT t false → (lwN lo n cs).1 = 0 → ∀ an k k', cy KK WW rel t false an k k' → cy KK WW rel1 (rn sp NL t) false an k k' ∧ cq KK rel2 (rn sp NL t) false an k k') ∧ (gcT t true → (lwT lo t).1 = 0 → ∀ an k k', cy KK WW rel t true an k k' → cy KK WW rel1 (rn sp NL t) true an k k' ∧ cq KK rel2 (rn sp NL t) true an k k') := by
  refine tr_in2 (fun u => ⟨fun n cs r e => (by cases e), fun _ _ an k k' w => ⟨w, w⟩⟩) (fun n cs r hc hd hr => ?_)
  have node : gcT (.branch n cs r) false → (lwN lo n cs).1 = 0 → ∀ an k k', cy KK WW rel (.branch n cs r) false an k k' → cy KK WW rel1 (rn sp NL (.branch n cs r)) false an k k' ∧ cq KK rel2 (rn sp NL (.branch n cs r)) false an k k' := fun g w an k k' c => by
    rw [rn_B]
    rcases gc_n g with ⟨k26, g1⟩ | ⟨k25, g1⟩ | ⟨k26, k25, m1, c1, m2, c2, r2, ec, g1⟩
    · rw [lwN_o (by omega) (by omega) (by omega)] at w
      obtain ⟨b', e, c1, c2⟩ := cy_26 k26 c
      cases cs with
      | leaf u => exact absurd g1 (by intro z; cases z)
      | branch n2 cs2 r2 =>
        obtain ⟨i1, i2⟩ := hc.1 n2 cs2 r2 rfl g1 (lw_0 w).1 _ _ _ c1
        exact ⟨cy_26c (by rw [rn_K]; exact k26) ⟨b', e, i1, c2⟩, cq_26c (by rw [rn_K]; exact k26) ⟨b', e, i2, c2⟩⟩
    · rw [lwN_o (by omega) (by omega) (by omega)] at w
      obtain ⟨k1, c1, c2⟩ := cy_25 k25 c
      cases cs with
      | leaf u => exact absurd c1.1 (by intro z; cases z)
      | branch n2 cs2 r2 =>
        obtain ⟨g2, g3⟩ := gc_t g1
        obtain ⟨w1, w2⟩ := lw_0 w
        obtain ⟨i1, i2⟩ := hc.1 n2 cs2 r2 rfl g2 w1 _ _ _ c1
        obtain ⟨j1, j2⟩ := hd.2 g3 w2 _ _ _ c2
        refine ⟨cy_25c (by rw [rn_K]; exact k25) ⟨k1, i1, ?_⟩, cq_25c (by rw [rn_K]; exact k25) ⟨k1, i2, ?_⟩⟩
        · rw [rn_K]; exact j1
        · rw [rn_K]; exact j2
    · obtain ⟨kk, c3, c4, c5⟩ := cy_27 k26 k25 c
      rw [lwN_o (by omega) (by omega) (by omega)] at w
      subst ec
      obtain ⟨m3, m4⟩ := m _ _ _ _ _ _ g1 w c4
      exact ⟨cy_27c (by rw [rn_K]; exact k26) (by rw [rn_K]; exact k25) (by rw [rn_K]; exact ⟨kk, c3, m3, c5⟩), cq_27c (by rw [rn_K]; exact k26) (by rw [rn_K]; exact k25) (by rw [rn_K]; exact ⟨kk, c3, m4, c5⟩)⟩
  refine ⟨fun n' cs' r' e g w => ?_, fun g w an k k' c => ?_⟩
  · cases e
    exact node g w
  · obtain ⟨w1, w2⟩ := lw_0 w
    obtain ⟨g1, g2⟩ := gc_t g
    obtain ⟨k1, c1, c2, c3, c4, c5⟩ := cy_L c
    obtain ⟨i1, i2⟩ := node g1 w1 _ _ _ c3
    obtain ⟨j1, j2⟩ := hr.2 g2 w2 _ _ _ c5
    rw [rn_B] at i1 i2 ⊢
    exact ⟨cy_Lc ⟨k1, c1, c2, i1, c4, j1⟩, cq_Lc ⟨k1, c1, i2, c4, j2⟩⟩
end CYm
/-! the class's source rows -/
def CSR (h : mh_H) (B n : Nat) (Sc : cps) : Prop := (SQ h (B + 5) (B + 6) (B + 7) (B + 8) (B + 9) (B + 10) (B + 11) (3 * n + 3) (n + 1) (n + 2)) ∧ (mh_r h (B + 5) 9 = some (B + 12) ∧ mg h (B + 12) 100 ∧ mh_l h (B + 12) = n + 1) ∧ (mh_r h (B + 5) 10 = some (B + 13) ∧ mg h (B + 13) 100 ∧ mh_l h (B + 13) = n + 1) ∧ (mh_i h (B + 5) 5 = Int32.ofNat (Sc.1 5)) ∧ (∀ o j, o = 6 ∨ o = 7 ∨ o = 8 ∨ o = 9 ∨ o = 12 ∨ o = 13 → mh_i h (B + o) j = Sc.2 o j) ∧ ((∀ j, j < Sc.1 6 → mh_i h (B + 10) j = Sc.2 10 j ∧ mh_i h (B + 11) j = Sc.2 11 j) ∧ mh_i h (B + 10) (Sc.1 6) = Int32.ofNat (Sc.1 4) ∧ mh_i h (B + 11) (Sc.1 6) = Int32.ofNat (Sc.1 5)) ∧ (Sc.1 4 ≤ n ∧ Sc.1 5 ≤ n ∧ Sc.1 6 ≤ n ∧ Sc.1 7 ≤ n ∧ n ≤ 16400) ∧ (2644 ≤ B)
theorem CSR.of {h : mh_H} {B n : Nat} {Sc : cps} (q : (SQ h (B + 5) (B + 6) (B + 7) (B + 8) (B + 9) (B + 10) (B + 11) (3 * n + 3) (n + 1) (n + 2)) ∧ (mh_r h (B + 5) 9 = some (B + 12) ∧ mg h (B + 12) 100 ∧ mh_l h (B + 12) = n + 1) ∧ (mh_r h (B + 5) 10 = some (B + 13) ∧ mg h (B + 13) 100 ∧ mh_l h (B + 13) = n + 1) ∧ (mh_i h (B + 5) 5 = Int32.ofNat (Sc.1 5)) ∧ (∀ o j, o = 6 ∨ o = 7 ∨ o = 8 ∨ o = 9 ∨ o = 12 ∨ o = 13 → mh_i h (B + o) j = Sc.2 o j) ∧ ((∀ j, j < Sc.1 6 → mh_i h (B + 10) j = Sc.2 10 j ∧ mh_i h (B + 11) j = Sc.2 11 j) ∧ mh_i h (B + 10) (Sc.1 6) = Int32.ofNat (Sc.1 4) ∧ mh_i h (B + 11) (Sc.1 6) = Int32.ofNat (Sc.1 5)) ∧ (Sc.1 4 ≤ n ∧ Sc.1 5 ≤ n ∧ Sc.1 6 ≤ n ∧ Sc.1 7 ≤ n ∧ n ≤ 16400) ∧ (2644 ≤ B)) : CSR h B n Sc := q
theorem CSR.q {h : mh_H} {B n : Nat} {Sc : cps} (q : CSR h B n Sc) : SQ h (B + 5) (B + 6) (B + 7) (B + 8) (B + 9) (B + 10) (B + 11) (3 * n + 3) (n + 1) (n + 2) := q.1
theorem CSR.k {h : mh_H} {B n : Nat} {Sc : cps} (q : CSR h B n Sc) : mh_r h (B + 5) 9 = some (B + 12) ∧ mg h (B + 12) 100 ∧ mh_l h (B + 12) = n + 1 := q.2.1
theorem CSR.w {h : mh_H} {B n : Nat} {Sc : cps} (q : CSR h B n Sc) : mh_r h (B + 5) 10 = some (B + 13) ∧ mg h (B + 13) 100 ∧ mh_l h (B + 13) = n + 1 := q.2.2.1
theorem CSR.p {h : mh_H} {B n : Nat} {Sc : cps} (q : CSR h B n Sc) : mh_i h (B + 5) 5 = Int32.ofNat (Sc.1 5) := q.2.2.2.1
theorem CSR.i {h : mh_H} {B n : Nat} {Sc : cps} (q : CSR h B n Sc) : ∀ o j, o = 6 ∨ o = 7 ∨ o = 8 ∨ o = 9 ∨ o = 12 ∨ o = 13 → mh_i h (B + o) j = Sc.2 o j := q.2.2.2.2.1
theorem CSR.s {h : mh_H} {B n : Nat} {Sc : cps} (q : CSR h B n Sc) : (∀ j, j < Sc.1 6 → mh_i h (B + 10) j = Sc.2 10 j ∧ mh_i h (B + 11) j = Sc.2 11 j) ∧ mh_i h (B + 10) (Sc.1 6) = Int32.ofNat (Sc.1 4) ∧ mh_i h (B + 11) (Sc.1 6) = Int32.ofNat (Sc.1 5) := q.2.2.2.2.2.1
theorem CSR.b {h : mh_H} {B n : Nat} {Sc : cps} (q : CSR h B n Sc) : Sc.1 4 ≤ n ∧ Sc.1 5 ≤ n ∧ Sc.1 6 ≤ n ∧ Sc.1 7 ≤ n ∧ n ≤ 16400 := q.2.2.2.2.2.2.1
theorem CSR.B {h : mh_H} {B n : Nat} {Sc : cps} (q : CSR h B n Sc) : 2644 ≤ B := q.2.2.2.2.2.2.2
section SUo
variable {h : mh_H} {B n : Nat} {Sc : cps} {sp : Nat → Nat → Bool} {NL : List Nat} {L : cen} {nb na nn a : Nat} {rm : Nat → Nat} {sN : Int → Prop} {en : Int → Nat} {A : ab} {t : tr} {tu : Bool} {x lP : Nat}
theorem SU_of (R : CSR h B n Sc) (O : LOQ sp NL L nb na nn a rm sN en) (h12 : nn ≤ 12) (g1 : gxT t false) (g2 : pz t false) (g3 : pn t false ≤ 6000) (g4 : sh t false ≤ 124) (w : (lwT (loE sp L) t).1 = 0) (S : SUX (loE sp L) Sc x t tu) (hl : Sc.1 5 ≤ lP) : ∃ c0 p0, Sc.2 11 x = Int32.ofNat p0 ∧ p0 + pn t false ≤ n ∧ (x + 1 < Sc.1 6 → Sc.2 11 (x + 1) = Int32.ofNat (p0 + pn t false)) ∧ ∀ A : ab, abQ A nn a rm → SU h (B + 6) (B + 7) (B + 8) (B + 9) (B + 10) (B + 11) (3 * n + 3) (n + 1) (n + 2) lP nb na sN en A (rn sp NL t) tu x c0 p0 := by
  obtain ⟨b4, b5, b6, b7, bn⟩ := R.b
  obtain ⟨s1, s2, s3⟩ := R.s
  obtain ⟨x1, c0, p0, x2, x3, x4, x5, x6, x7, x8, x9⟩ := S
  obtain ⟨i1, i2⟩ := s1 x x1
  have ri := R.i
  have e6 : mh_i h (B + 6) = Sc.2 6 := funext fun j => ri 6 j (by decide)
  have e7 : mh_i h (B + 7) = Sc.2 7 := funext fun j => ri 7 j (by decide)
  have e8 : mh_i h (B + 8) = Sc.2 8 := funext fun j => ri 8 j (by decide)
  have e9 : mh_i h (B + 9) = Sc.2 9 := funext fun j => ri 9 j (by decide)
  refine ⟨c0, p0, x3, by omega, fun z => (x8 z).2, fun A hA => ⟨by omega, i1.trans x2, ?_, i2.trans x3, ?_, ?_, wS_rn O hA t false g1 w, by rw [pz_rn]; exact g2, by rw [pn_rn]; exact g3, ?_, ?_, by rw [cl_rn]; omega, by rw [pn_rn]; omega, by rw [pn_rn]; omega, by rw [sh_rn]; exact g4⟩⟩
  · rw [cl_rn]
    by_cases c : x + 1 < Sc.1 6
    · exact (s1 _ c).1.trans (x8 c).1
    · have e : x + 1 = Sc.1 6 := by omega
      rw [e, s2, (x9 e).1]
  · rw [pn_rn]
    by_cases c : x + 1 < Sc.1 6
    · exact (s1 _ c).2.trans (x8 c).2
    · have e : x + 1 = Sc.1 6 := by omega
      rw [e, s3, (x9 e).2]
  · rw [e6]
    exact cd_rn O hA t false c0 g1 w x6
  · rw [e7]
    exact pe_rn t false tu p0 c0 x7
  · rw [e8, e9]
    exact ptr_rn O h12 t false tu p0 c0 g1 w x7
theorem suA_of (R : CSR h B n Sc) (O : LOQ sp NL L nb na nn a rm sN en) (h12 : nn ≤ 12) (G : gSq t) (w : (lwT (loE sp L) t).1 = 0) (S : SUX (loE sp L) Sc x t false) : suA h (B + 6) (B + 7) (B + 8) (B + 9) (B + 10) (B + 11) (3 * n + 3) (n + 1) (n + 2) (Sc.1 5) nb na sN en nn a rm (rn sp NL t) x := by
  obtain ⟨g1, g2, g3, g4, -⟩ := G
  obtain ⟨c0, p0, -, -, -, su⟩ := SU_of R O h12 g1 g2 g3 g4 w S (Nat.le_refl _)
  exact ⟨c0, p0, fun A a1 a2 a3 => su A ⟨a1, a2, a3⟩⟩
theorem suR_of (R : CSR h B n Sc) (O : LOQ sp NL L nb na nn a rm sN en) (h12 : nn ≤ 12) : ∀ t x, gRq t → (lwT (loE sp L) t).1 = 0 → suMR (loE sp L) Sc t x → suR h (B + 6) (B + 7) (B + 8) (B + 9) (B + 10) (B + 11) (3 * n + 3) (n + 1) (n + 2) (Sc.1 5) nb na sN en nn a rm (rn sp NL t) x := by
  intro t
  induction t with
  | leaf u => exact fun _ _ _ _ => trivial
  | branch m cs r _ ih => exact fun x g w s => ⟨suA_of R O h12 g.1 w s.1, ih (x + 1) g.2 (lw_0 w).2 s.2⟩
/-- a COND in the class's rows -/
theorem cn_of (R : CSR h B n Sc) (O : LOQ sp NL L nb na nn a rm sN en) (h12 : nn ≤ 12) {c c0 c1 : Nat} {cc q : tr} (G : gcT (.branch c cc q) false) (w : (lwN (loE sp L) c cc).1 = 0) (hA : abQ A nn a rm) (Y : cy (Sc.2 12) (Sc.2 13) (rlx (loE sp L) Sc) (.branch c cc (.leaf ())) false false c0 c1) : cy (mh_i h (B + 12)) (mh_i h (B + 13)) (relM h (B + 6) (B + 10) (3 * n + 3) (n + 2) nb na sN en A (mh_i h (B + 13))) (rn sp NL (.branch c cc q)) false false c0 c1 ∧ ∀ lP, Sc.1 5 ≤ lP → cq (mh_i h (B + 12)) (rl h lP (B + 6) (B + 7) (B + 8) (B + 9) (B + 10) (B + 11) (3 * n + 3) (n + 1) (n + 2) nb na sN en A (mh_i h (B + 13))) (rn sp NL (.branch c cc q)) false false c0 c1 := by
  obtain ⟨b4, b5, b6, b7, bn⟩ := R.b
  have ri := R.i
  have e12 : mh_i h (B + 12) = Sc.2 12 := funext fun j => ri 12 j (by decide)
  have e13 : mh_i h (B + 13) = Sc.2 13 := funext fun j => ri 13 j (by decide)
  have Y' : cy (Sc.2 12) (Sc.2 13) (rlx (loE sp L) Sc) (.branch c cc q) false false c0 c1 := by rcases cc with _ | ⟨_, _, _⟩ <;> exact Y
  have key : ∀ lP, Sc.1 5 ≤ lP → ∀ m1 c1 m2 c2 r2 k, gxR m1 c1 m2 c2 r2 → (lwT (loE sp L) (.branch m1 c1 (.branch m2 c2 r2))).1 = 0 → rlx (loE sp L) Sc (.branch m1 c1 (.branch m2 c2 r2)) k → relM h (B + 6) (B + 10) (3 * n + 3) (n + 2) nb na sN en A (Sc.2 13) (rn sp NL (.branch m1 c1 (.branch m2 c2 r2))) k ∧ rl h lP (B + 6) (B + 7) (B + 8) (B + 9) (B + 10) (B + 11) (3 * n + 3) (n + 1) (n + 2) nb na sN en A (Sc.2 13) (rn sp NL (.branch m1 c1 (.branch m2 c2 r2))) k := by
    intro lP hl m1 c1 m2 c2 r2 k g w r
    obtain ⟨⟨g1, g2, g3, g4⟩, g5, g6, g7, g8⟩ := g
    obtain ⟨x, x1, x2, x3, x4⟩ := r
    have x4' : SUX (loE sp L) Sc (x + 1) (.branch m2 c2 r2) true := x4
    obtain ⟨d0, p0, u1, u2, u3, su⟩ := SU_of R O h12 g1 g2 g3 g4 w x3 hl
    obtain ⟨d1, p1, v1, v2, -, sv⟩ := SU_of R O h12 g5 g6 g7 g8 (lw_0 w).2 x4' hl
    have ep : p1 = p0 + pn (rn sp NL (.branch m1 c1 (.branch m2 c2 r2))) false := by
      rw [pn_rn]
      have := v1.symm.trans (u3 x4'.1)
      exact (nn_eq (a := p1) (b := p0 + pn (.branch m1 c1 (.branch m2 c2 r2)) false) (by omega) (by omega)) ▸ this
    have et : tT (rn sp NL (.branch m1 c1 (.branch m2 c2 r2))) = rn sp NL (.branch m2 c2 r2) := rfl
    refine ⟨⟨x, by omega, x1, ?_, ?_⟩, x, d0, d1, p0, x1, fun A' a1 a2 a3 => ?_⟩
    · have s := su A hA
      exact ⟨d0, s.1, s.2.1, s.2.2.1, s.2.2.2.2.2.1, s.2.2.2.2.2.2.1, s.2.2.2.2.2.2.2.2.2.2.2.1, s.2.2.2.2.2.2.2.2.2.2.2.2.2.2⟩
    · have s := sv A hA
      rw [et]
      exact ⟨d1, s.1, s.2.1, s.2.2.1, s.2.2.2.2.2.1, s.2.2.2.2.2.2.1, s.2.2.2.2.2.2.2.2.2.2.2.1, s.2.2.2.2.2.2.2.2.2.2.2.2.2.2⟩
    · have hA' : abQ A' nn a rm := ⟨a1.trans hA.1, a2.trans hA.2.1, fun x hx => by rw [a3]; exact hA.2.2 x hx⟩
      rw [et, ← ep]
      exact ⟨su A' hA', sv A' hA'⟩
  rw [e12, e13]
  exact ⟨((cy_rn (key _ (Nat.le_refl _)) (.branch c cc q)).1 c cc q rfl G w _ _ _ Y').1, fun lP hl => ((cy_rn (key lP hl) (.branch c cc q)).1 c cc q rfl G w _ _ _ Y').2⟩
end SUo
