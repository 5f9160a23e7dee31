set_option maxRecDepth 100000
/-! what is below statements: trees of the grammar -/
def PRt (Q : tr → Prop) (r : pqr) : Prop := ∀ t, r.2 = some t → Q t
/-- what syT says of a node -/
def syQ (n : Nat) (cs : tr) : Prop := (tK n = 3 → ∃ a t, cs = .branch a (.leaf ()) t ∧ tK a = 13 ∧ tlc t ≤ 1) ∧ (tK n = 4 → ∃ a q, cs = .branch a (.leaf ()) (.branch q (.leaf ()) (.leaf ())) ∧ tK a = 13 ∧ tK q = 12) ∧ (tK n = 5 → ∃ a x cx, cs = .branch a (.leaf ()) (tNd x cx) ∧ tK a = 13) ∧ (tK n = 6 → ∃ a x cx y cy, cs = .branch a (.leaf ()) (.branch x cx (tNd y cy)) ∧ tK a = 13) ∧ (tK n = 7 → ∃ a ff t, cs = .branch a (.leaf ()) (.branch ff (.leaf ()) t) ∧ (tK a = 13 ∨ tK a = 33) ∧ tK ff = 13) ∧ (tK n = 10 ∨ tK n = 11 → ∃ x cx, cs = tNd x cx)
def sy1 (t : tr) : Prop := syT t ∧ ∃ x cx, t = tNd x cx
section SYs
variable {K : Nat → Int32} {m : Nat} {P : Nat → Nat} {V : Nat → Int} {N : Nat} {i j : Nat} {Q R : tr → Prop} {r : pqr}
theorem pr_no : PRt Q (i, none) := fun t e => by cases e
theorem pr_so {t : tr} (w : Q t) : PRt Q (i, some t) := fun u e => by cases e; exact w
theorem pr_if {c : Prop} [Decidable c] {a b : pqr} (h1 : c → PRt Q a) (h2 : ¬ c → PRt Q b) : PRt Q (if c then a else b) := by
  by_cases q : c
  · rw [if_pos q]; exact h1 q
  · rw [if_neg q]; exact h2 q
theorem pr_tak {k : Int32} (h : K j = k → PRt Q r) : PRt Q (tak K k j r) := pr_if h (fun _ => pr_no)
theorem pr_bnd {g : tr → Nat → pqr} (h : PRt R r) (h2 : ∀ t j, R t → PRt Q (g t j)) : PRt Q (bnd r g) := by
  rcases r with ⟨j, _ | t⟩
  · exact pr_no
  · exact h2 t j (h t rfl)
theorem sy_q {k p : Nat} {v : Int} {cs : tr} (hk : (k ≠ 3 ∧ k ≠ 4 ∧ k ≠ 5 ∧ k ≠ 6 ∧ k ≠ 7 ∧ k ≠ 10 ∧ k ≠ 11) ∧ k < 64) : syQ (tE k p v) cs := by
  unfold syQ
  rw [tE_K hk.2]
  exact ⟨fun e => absurd e hk.1.1, fun e => absurd e hk.1.2.1, fun e => absurd e hk.1.2.2.1, fun e => absurd e hk.1.2.2.2.1, fun e => absurd e hk.1.2.2.2.2.1, fun e => by omega⟩
theorem sy_N {k p : Nat} {v : Int} {cs r : tr} (hk : (k ≠ 3 ∧ k ≠ 4 ∧ k ≠ 5 ∧ k ≠ 6 ∧ k ≠ 7 ∧ k ≠ 10 ∧ k ≠ 11) ∧ k < 64) (a : syT cs) (b : syT r) : syT (.branch (tE k p v) cs r) := ⟨sy_q hk, a, b⟩
theorem sy_A {t r : tr} (a : syT t) (b : syT r) : syT (tA t r) := by
  cases t with
  | leaf _ => exact b
  | branch n cs q => exact ⟨a.1, a.2.1, b⟩
theorem sy_C : ∀ {t r : tr}, syT t → syT r → syT (tC t r) := by
  intro t
  induction t with
  | leaf _ => exact fun _ b => b
  | branch n cs q _ i2 => exact fun a b => ⟨a.1, a.2.1, i2 a.2.2 b⟩
theorem sy_M {p : Nat} {v : Int} {r : tr} (b : syT r) : syT (.branch (tE 13 p v) (.leaf ()) r) := sy_N (by decide) trivial b
theorem s1_N {k p : Nat} {v : Int} {cs : tr} (hk : (k ≠ 3 ∧ k ≠ 4 ∧ k ≠ 5 ∧ k ≠ 6 ∧ k ≠ 7 ∧ k ≠ 10 ∧ k ≠ 11) ∧ k < 64) (a : syT cs) : sy1 (tNd (tE k p v) cs) := ⟨sy_N hk a trivial, _, _, rfl⟩
theorem lim_y : PRt syT (pLim K P V i) := fun t e => by
  obtain ⟨p, v, rfl⟩ := lim_P t e
  exact sy_N (by decide) trivial trivial
theorem pgX_y : ∀ f s d i, s < 5 → PRt (fun t => syT t ∧ (s < 3 → sy1 t)) (pgX K P V f s d i) := by
  intro f
  induction f with
  | zero => exact fun s d i _ => pr_no
  | succ f ih =>
    intro s d i hs
    have i0 := fun d i => ih 0 d i (by decide)
    have i1 := fun d i => ih 1 d i (by decide)
    have i2 := fun d i => ih 2 d i (by decide)
    have i3 := fun d i => ih 3 d i (by decide)
    have i4 := fun d i => ih 4 d i (by decide)
    have y1 : ∀ {t : tr} {c : Prop}, sy1 t → syT t ∧ (c → sy1 t) := fun w => ⟨w.1, fun _ => w⟩
    have y3 : ∀ {t : tr}, syT t → syT t ∧ (3 < 3 → sy1 t) := fun w => ⟨w, fun z => absurd z (by decide)⟩
    have y4 : ∀ {t : tr}, syT t → syT t ∧ (4 < 3 → sy1 t) := fun w => ⟨w, fun z => absurd z (by decide)⟩
    have hs' : s = 0 ∨ s = 1 ∨ s = 2 ∨ s = 3 ∨ s = 4 := by omega
    rcases hs' with e | e | e | e | e <;> subst e
    · rw [pgX_0]
      exact pr_if (fun _ => pr_no) (fun _ => pr_bnd (i1 d i) fun t j w => pr_if (fun _ => pr_bnd (i3 d j) fun r k w2 => pr_so (y1 (s1_N (by decide) (sy_A w.1 w2.1)))) (fun _ => pr_so (y1 (w.2 (by decide)))))
    · rw [pgX_1]
      exact pr_bnd (i2 d i) fun t j w => pr_if (fun _ => pr_bnd (i4 d j) fun r k w2 => pr_so (y1 (s1_N (by decide) (sy_A w.1 w2.1)))) (fun _ => pr_so (y1 (w.2 (by decide))))
    · rw [pgX_2]
      exact pr_if (fun _ => pr_so (y1 (s1_N (by decide) trivial))) (fun _ => pr_if (fun _ => pr_if (fun _ => pr_bnd (i0 (d + 1) (i + 2)) fun t j w => pr_tak fun _ => pr_so (y1 (s1_N (by decide) (sy_M w.1)))) (fun _ => pr_so (y1 (s1_N (by decide) trivial)))) (fun _ => pr_if (fun _ => pr_if (fun _ => pr_no) (fun _ => pr_bnd (i2 (d + 1) (i + 1)) fun t j w => pr_so (y1 (s1_N (by decide) w.1)))) (fun _ => pr_if (fun _ => pr_if (fun _ => pr_bnd lim_y fun a j w => pr_tak fun _ => pr_bnd lim_y fun b k w2 => pr_tak fun _ => pr_so (y1 (s1_N (by decide) (sy_A w w2)))) (fun _ => pr_so (y1 (s1_N (by decide) trivial)))) (fun _ => pr_if (fun _ => pr_bnd (i0 (d + 1) (i + 1)) fun t j w => pr_tak fun _ => pr_so (y1 (w.2 (by decide)))) (fun _ => pr_no)))))
    · rw [pgX_3]
      exact pr_if (fun _ => pr_bnd (i1 d (i + 1)) fun t j w => pr_bnd (i3 d j) fun r k w2 => pr_so (y3 (sy_N (by split <;> decide) w.1 w2.1))) (fun _ => pr_so (y3 trivial))
    · rw [pgX_4]
      exact pr_if (fun _ => pr_bnd (i2 d (i + 1)) fun t j w => pr_bnd (i4 d j) fun r k w2 => pr_so (y4 (sy_N (by split <;> first | decide | (split <;> decide)) w.1 w2.1))) (fun _ => pr_so (y4 trivial))
theorem pgX_s (f d i : Nat) : PRt sy1 (pgX K P V f 0 d i) := fun t e => (pgX_y f 0 d i (by decide) t e).2 (by decide)
theorem relK_y (k : Int32) : (relK k ≠ 3 ∧ relK k ≠ 4 ∧ relK k ≠ 5 ∧ relK k ≠ 6 ∧ relK k ≠ 7 ∧ relK k ≠ 10 ∧ relK k ≠ 11) ∧ relK k < 64 := by
  unfold relK
  repeat' split
  all_goals decide
theorem pgC_y : ∀ f s d i, s < 5 → PRt (fun t => syT t ∧ (s < 3 → sy1 t)) (pgC K P V N f s d i) := by
  intro f
  induction f with
  | zero => exact fun s d i _ => pr_no
  | succ f ih =>
    intro s d i hs
    have i0 := fun d i => ih 0 d i (by decide)
    have i1 := fun d i => ih 1 d i (by decide)
    have i2 := fun d i => ih 2 d i (by decide)
    have i3 := fun d i => ih 3 d i (by decide)
    have i4 := fun d i => ih 4 d i (by decide)
    have y1 : ∀ {t : tr} {c : Prop}, sy1 t → syT t ∧ (c → sy1 t) := fun w => ⟨w.1, fun _ => w⟩
    have y3 : ∀ {t : tr}, syT t → syT t ∧ (3 < 3 → sy1 t) := fun w => ⟨w, fun z => absurd z (by decide)⟩
    have y4 : ∀ {t : tr}, syT t → syT t ∧ (4 < 3 → sy1 t) := fun w => ⟨w, fun z => absurd z (by decide)⟩
    have hs' : s = 0 ∨ s = 1 ∨ s = 2 ∨ s = 3 ∨ s = 4 := by omega
    rcases hs' with e | e | e | e | e <;> subst e
    · rw [pgC_0]
      exact pr_if (fun _ => pr_no) (fun _ => pr_bnd (i1 d i) fun t j w => pr_if (fun _ => pr_bnd (i3 d j) fun r k w2 => pr_so (y1 (s1_N (by decide) (sy_A w.1 w2.1)))) (fun _ => pr_so (y1 (w.2 (by decide)))))
    · rw [pgC_1]
      exact pr_bnd (i2 d i) fun t j w => pr_if (fun _ => pr_bnd (i4 d j) fun r k w2 => pr_so (y1 (s1_N (by decide) (sy_A w.1 w2.1)))) (fun _ => pr_so (y1 (w.2 (by decide))))
    · rw [pgC_2]
      exact pr_if (fun _ => pr_if (fun _ => pr_no) (fun _ => pr_bnd (i2 (d + 1) (i + 1)) fun t j w => pr_so (y1 (s1_N (by decide) w.1)))) (fun _ => pr_if (fun _ => pr_bnd (i0 (d + 1) (i + 1)) fun t j w => pr_tak fun _ => pr_so (y1 (w.2 (by decide)))) (fun _ => pr_bnd (pgX_s N (d + 1) i) fun t j w => pr_if (fun _ => pr_no) (fun _ => pr_bnd (pgX_s N (d + 1) (j + 1)) fun u k w2 => pr_so (y1 (s1_N (relK_y _) (sy_A w.1 w2.1))))))
    · rw [pgC_3]
      exact pr_if (fun _ => pr_bnd (i1 d (i + 1)) fun t j w => pr_bnd (i3 d j) fun r k w2 => pr_so (y3 (sy_A w.1 w2.1))) (fun _ => pr_so (y3 trivial))
    · rw [pgC_4]
      exact pr_if (fun _ => pr_bnd (i2 d (i + 1)) fun t j w => pr_bnd (i4 d j) fun r k w2 => pr_so (y4 (sy_A w.1 w2.1))) (fun _ => pr_so (y4 trivial))
theorem pgC_s (f d i : Nat) : PRt sy1 (pgC K P V N f 0 d i) := fun t e => (pgC_y f 0 d i (by decide) t e).2 (by decide)
theorem pgA_y : ∀ f d i, PRt syT (pgA K P V N f d i) := by
  intro f
  induction f with
  | zero => exact fun d i => pr_no
  | succ f ih => exact fun d i => pr_if (fun _ => pr_bnd (pgX_s N d (i + 1)) fun t j w => pr_bnd (ih d j) fun r k w2 => pr_so (sy_A w.1 w2)) (fun _ => pr_tak fun _ => pr_so trivial)
theorem pgS_y (d i : Nat) : PRt syT (pgS K P V N d i) := pr_if (fun _ => pr_so trivial) (fun _ => pr_bnd (pgX_s N d i) fun t j w => pr_bnd (pgA_y N d j) fun r k w2 => pr_so (sy_A w.1 w2))
theorem sy_3 {p q : Nat} {u v : Int} {t : tr} (a : syT t) (h1 : tlc t ≤ 1) : sy1 (tNd (tE 3 p u) (.branch (tE 13 q v) (.leaf ()) t)) := ⟨⟨⟨fun _ => ⟨_, _, rfl, tE_K (by decide), h1⟩, fun e => (by rw [tE_K (by decide)] at e; cases e), fun e => (by rw [tE_K (by decide)] at e; cases e), fun e => (by rw [tE_K (by decide)] at e; cases e), fun e => (by rw [tE_K (by decide)] at e; cases e), fun e => (by rw [tE_K (by decide)] at e; omega)⟩, sy_M a, trivial⟩, _, _, rfl⟩
theorem sy_4 {p q x : Nat} {u v y : Int} : sy1 (tNd (tE 4 p u) (.branch (tE 13 q v) (.leaf ()) (tL (tE 12 x y)))) := ⟨⟨⟨fun e => (by rw [tE_K (by decide)] at e; cases e), fun _ => ⟨_, _, rfl, tE_K (by decide), tE_K (by decide)⟩, fun e => (by rw [tE_K (by decide)] at e; cases e), fun e => (by rw [tE_K (by decide)] at e; cases e), fun e => (by rw [tE_K (by decide)] at e; cases e), fun e => (by rw [tE_K (by decide)] at e; omega)⟩, sy_M (sy_N (by decide) trivial trivial), trivial⟩, _, _, rfl⟩
theorem sy_5 {p q : Nat} {u v : Int} {t : tr} (a : sy1 t) : sy1 (tNd (tE 5 p u) (.branch (tE 13 q v) (.leaf ()) t)) := by
  obtain ⟨a1, x, cx, e⟩ := a
  subst e
  exact ⟨⟨⟨fun e => (by rw [tE_K (by decide)] at e; cases e), fun e => (by rw [tE_K (by decide)] at e; cases e), fun _ => ⟨_, _, _, rfl, tE_K (by decide)⟩, fun e => (by rw [tE_K (by decide)] at e; cases e), fun e => (by rw [tE_K (by decide)] at e; cases e), fun e => (by rw [tE_K (by decide)] at e; omega)⟩, sy_M a1, trivial⟩, _, _, rfl⟩
theorem sy_6 {p q : Nat} {u v : Int} {t t2 : tr} (a : sy1 t) (b : sy1 t2) : sy1 (tNd (tE 6 p u) (.branch (tE 13 q v) (.leaf ()) (tA t t2))) := by
  have c := sy_A a.1 b.1
  obtain ⟨a1, x, cx, e⟩ := a
  obtain ⟨b1, y, cy, e2⟩ := b
  subst e
  subst e2
  exact ⟨⟨⟨fun e => (by rw [tE_K (by decide)] at e; cases e), fun e => (by rw [tE_K (by decide)] at e; cases e), fun e => (by rw [tE_K (by decide)] at e; cases e), fun _ => ⟨_, _, _, _, _, rfl, tE_K (by decide)⟩, fun e => (by rw [tE_K (by decide)] at e; cases e), fun e => (by rw [tE_K (by decide)] at e; omega)⟩, sy_M c, trivial⟩, _, _, rfl⟩
theorem sy_7 {k p q x : Nat} {u v y : Int} {t : tr} (hk : k = 13 ∨ k = 33) (a : syT t) : sy1 (tNd (tE 7 p u) (.branch (tE k q v) (.leaf ()) (.branch (tE 13 x y) (.leaf ()) t))) := ⟨⟨⟨fun e => (by rw [tE_K (by decide)] at e; cases e), fun e => (by rw [tE_K (by decide)] at e; cases e), fun e => (by rw [tE_K (by decide)] at e; cases e), fun e => (by rw [tE_K (by decide)] at e; cases e), fun _ => ⟨_, _, _, rfl, by rw [tE_K (by omega)]; exact hk, tE_K (by decide)⟩, fun e => (by rw [tE_K (by decide)] at e; omega)⟩, sy_N (by omega) trivial (sy_M a), trivial⟩, _, _, rfl⟩
theorem sy_10 {k p : Nat} {u : Int} {t : tr} (hk : k = 10 ∨ k = 11) (a : sy1 t) : sy1 (tNd (tE k p u) t) := by
  obtain ⟨a1, x, cx, e⟩ := a
  subst e
  have k6 : k < 64 := by omega
  exact ⟨⟨⟨fun e => (by rw [tE_K k6] at e; omega), fun e => (by rw [tE_K k6] at e; omega), fun e => (by rw [tE_K k6] at e; omega), fun e => (by rw [tE_K k6] at e; omega), fun e => (by rw [tE_K k6] at e; omega), fun _ => ⟨_, _, rfl⟩⟩, a1, trivial⟩, _, _, rfl⟩
theorem s1_l {t : tr} (a : sy1 t) : tlc t ≤ 1 := by
  obtain ⟨-, x, cx, e⟩ := a
  subst e
  exact Nat.le_refl _
theorem pgB_y : ∀ f s d i, s < 3 → PRt (fun t => syT t ∧ (0 < s → sy1 t)) (pgB K P V N f s d i) := by
  intro f
  induction f with
  | zero => exact fun s d i _ => pr_no
  | succ f ih =>
    intro s d i hs
    have i0 := fun d i => ih 0 d i (by decide)
    have i1 := fun d i => ih 1 d i (by decide)
    have i2 := fun d i => ih 2 d i (by decide)
    have y1 : ∀ {t : tr} {c : Prop}, sy1 t → syT t ∧ (c → sy1 t) := fun w => ⟨w.1, fun _ => w⟩
    have y0 : ∀ {t : tr}, syT t → syT t ∧ (0 < 0 → sy1 t) := fun w => ⟨w, fun z => absurd z (by decide)⟩
    have hs' : s = 0 ∨ s = 1 ∨ s = 2 := by omega
    rcases hs' with e | e | e <;> subst e
    · rw [pgB_0]
      exact pr_if (fun _ => pr_so (y0 trivial)) (fun _ => pr_bnd (i1 d i) fun t j w => pr_bnd (i0 d j) fun r k w2 => pr_so (y0 (sy_A w.1 w2.1)))
    · rw [pgB_1]
      refine pr_if (fun _ => pr_tak fun _ => pr_if (fun _ => pr_tak fun _ => pr_tak fun _ => pr_tak fun _ => pr_so (y1 sy_4)) (fun _ => pr_if (fun _ => pr_bnd (pgX_s N (d + 1) (i + 3)) fun t j w => pr_tak fun _ => pr_so (y1 (sy_3 w.1 (s1_l w)))) (fun _ => pr_tak fun _ => pr_so (y1 (sy_3 trivial (by decide)))))) (fun _ => ?_)
      refine pr_if (fun _ => pr_if (fun _ => pr_bnd (pgS_y (d + 1) (i + 2)) fun r j w => pr_tak fun _ => pr_so (y1 (sy_7 (Or.inr rfl) w))) (fun _ => pr_if (fun _ => pr_bnd (pgX_s N (d + 1) (i + 2)) fun t j w => pr_tak fun _ => pr_tak fun _ => pr_bnd (pgX_s N (d + 1) (j + 2)) fun u k w2 => pr_tak fun _ => pr_so (y1 (sy_6 w w2))) (fun _ => pr_tak fun _ => pr_if (fun _ => pr_bnd (pgS_y (d + 1) (i + 4)) fun r j w => pr_tak fun _ => pr_so (y1 (sy_7 (Or.inl rfl) w))) (fun _ => pr_bnd (pgX_s N (d + 1) (i + 2)) fun t j w => pr_tak fun _ => pr_so (y1 (sy_5 w)))))) (fun _ => ?_)
      refine pr_if (fun _ => pr_tak fun _ => pr_bnd (pgC_s N (d + 1) (i + 2)) fun c j w => pr_tak fun _ => pr_bnd (i2 (d + 1) (j + 1)) fun b k w2 => pr_if (fun _ => pr_bnd (i2 (d + 1) (k + 1)) fun e l w3 => pr_so (y1 (s1_N (by decide) (sy_A w.1 (sy_A w2.1 w3.1))))) (fun _ => pr_so (y1 (s1_N (by decide) (sy_A w.1 w2.1))))) (fun _ => ?_)
      refine pr_if (fun _ => pr_tak fun _ => pr_bnd (pgC_s N (d + 1) (i + 2)) fun c j w => pr_tak fun _ => pr_bnd (i2 (d + 1) (j + 1)) fun b k w2 => pr_so (y1 (s1_N (by decide) (sy_A w.1 w2.1)))) (fun _ => ?_)
      refine pr_if (fun _ => pr_tak fun _ => pr_bnd (pgC_s N (d + 1) (i + 2)) fun c j w => pr_tak fun _ => pr_tak fun _ => pr_so (y1 (sy_10 (Or.inl rfl) w))) (fun _ => ?_)
      exact pr_if (fun _ => pr_bnd (pgX_s N (d + 1) (i + 1)) fun t j w => pr_tak fun _ => pr_so (y1 (sy_10 (Or.inr rfl) w))) (fun _ => pr_no)
    · rw [pgB_2]
      exact pr_if (fun _ => pr_no) (fun _ => pr_tak fun _ => pr_bnd (i0 d (i + 1)) fun r j w => pr_so (y1 (s1_N (by decide) w.1)))
theorem pgM_y : ∀ f i, PRt syT (pgM K P f i) := by
  intro f
  induction f with
  | zero => exact fun i => pr_no
  | succ f ih => exact fun i => pr_if (fun _ => pr_tak fun _ => pr_bnd (ih (i + 2)) fun r k w => pr_so (sy_M w)) (fun _ => pr_tak fun _ => pr_so trivial)
theorem pgF_y (i : Nat) : PRt syT (pgF K P V N i) := by
  unfold pgF
  exact pr_tak fun _ => pr_tak fun _ => pr_tak fun _ => pr_bnd (R := syT) (pr_if (fun _ => pr_so trivial) (fun _ => pr_tak fun _ => pr_bnd (pgM_y N (i + 4)) fun r k w => pr_so (sy_M w))) fun r j w => pr_bnd (pgB_y N 2 1 j (by decide)) fun b k w2 => pr_so (sy_N (by decide) (sy_M (sy_C w w2.1)) trivial)
theorem pgZ_y : ∀ f i, PRt syT (pgZ K P V N f i) := by
  intro f
  induction f with
  | zero => exact fun i => pr_no
  | succ f ih => exact fun i => pr_bnd (pgF_y i) fun t j w => pr_if (fun _ => pr_so w) (fun _ => pr_bnd (ih j) fun r k w2 => pr_so (sy_A w w2))
end SYs
