set_option maxRecDepth 100000
/-! the NAMEs of the grammar's trees are tokens -/
def tvR (K : Nat → Int32) (m : Nat) (r : pqr) : Prop := ∀ t, r.2 = some t → tvT K m t
section TVs
variable {K : Nat → Int32} {P : Nat → Nat} {V : Nat → Int} {m N i j : Nat} {r : pqr}
theorem tv_no : tvR K m (i, none) := fun t e => by cases e
theorem tv_so {t : tr} (w : tvT K m t) : tvR K m (i, some t) := fun u e => by cases e; exact w
theorem tv_if {c : Prop} [Decidable c] {a b : pqr} (h1 : c → tvR K m a) (h2 : ¬ c → tvR K m b) : tvR K m (if c then a else b) := by
  by_cases q : c
  · rw [if_pos q]; exact h1 q
  · rw [if_neg q]; exact h2 q
theorem tv_tak {k : Int32} (h : K j = k → tvR K m r) : tvR K m (tak K k j r) := tv_if h (fun _ => tv_no)
theorem tv_bnd {g : tr → Nat → pqr} (h : tvR K m r) (h2 : ∀ t j, tvT K m t → tvR K m (g t j)) : tvR K m (bnd r g) := by
  rcases r with ⟨j, _ | t⟩
  · exact tv_no
  · exact h2 t j (h t rfl)
theorem tv_N {k p : Nat} {v : Int} {cs r : tr} (hk : (k ≠ 13 ∧ k ≠ 14 ∧ k ≠ 16) ∧ k < 64) (a : tvT K m cs) (b : tvT K m r) : tvT K m (.branch (tE k p v) cs r) := ⟨⟨fun e => by rw [tE_K hk.2] at e; exact absurd e hk.1.1, fun e => by rw [tE_K hk.2] at e; exact absurd e hk.1.2.1, fun e => by rw [tE_K hk.2] at e; exact absurd e hk.1.2.2⟩, a, b⟩
theorem tv_14 {p i : Nat} {u v : Int} {r : tr} (a : tvT K m (.branch (tE 13 i v) (.leaf ()) r)) : tvT K m (.branch (tE 14 p u) (.branch (tE 13 i v) (.leaf ()) r) (.leaf ())) := ⟨⟨fun e => (by rw [tE_K (by decide)] at e; cases e), fun _ => ⟨_, _, rfl, tE_K (by decide)⟩, fun e => (by rw [tE_K (by decide)] at e; cases e)⟩, a, trivial⟩
theorem tv_16 {p : Nat} : tvT K m (.branch (tE 16 p 0) (.leaf ()) (.leaf ())) := ⟨⟨fun e => (by rw [tE_K (by decide)] at e; cases e), fun e => (by rw [tE_K (by decide)] at e; cases e), fun _ => Or.inl rfl⟩, trivial, trivial⟩
theorem tv_16b {p p1 p2 : Nat} {v1 v2 : Int} : tvT K m (.branch (tE 16 p 0) (tA (tL (tE 12 p1 v1)) (tL (tE 12 p2 v2))) (.leaf ())) := ⟨⟨fun e => (by rw [tE_K (by decide)] at e; cases e), fun e => (by rw [tE_K (by decide)] at e; cases e), fun _ => Or.inr ⟨_, _, rfl, tE_K (by decide), tE_K (by decide)⟩⟩, tv_N (by decide) trivial (tv_N (by decide) trivial trivial), trivial⟩
theorem bnd_P {g : tr → Nat → pqr} {Q : tr → Prop} (h : ∀ t, r.2 = some t → Q t) (h2 : ∀ t j, Q t → tvR K m (g t j)) : tvR K m (bnd r g) := by
  rcases r with ⟨j, _ | t⟩
  · exact tv_no
  · exact h2 t j (h t rfl)
theorem lim_P : ∀ t, (pLim K P V i).2 = some t → ∃ p v, t = tL (tE 12 p v) := by
  intro t e
  unfold pLim tak at e
  by_cases c1 : K i = 45
  · rw [if_pos c1] at e
    by_cases c2 : K (i + 1) = 3
    · rw [if_pos c2] at e; cases e; exact ⟨_, _, rfl⟩
    · rw [if_neg c2] at e; cases e
  · rw [if_neg c1] at e
    by_cases c2 : K i = 3
    · rw [if_pos c2] at e; cases e; exact ⟨_, _, rfl⟩
    · rw [if_neg c2] at e; cases e
theorem tv_A {t r : tr} (a : tvT K m t) (b : tvT K m r) : tvT K m (tA t r) := by
  cases t with
  | leaf _ => exact b
  | branch n cs q => exact ⟨a.1, a.2.1, b⟩
theorem tv_C : ∀ {t r : tr}, tvT K m t → tvT K m r → tvT K m (tC t r) := by
  intro t
  induction t with
  | leaf _ => exact fun _ b => b
  | branch n cs q _ i2 => exact fun a b => ⟨a.1, a.2.1, i2 a.2.2 b⟩
theorem tv_M (hz : ∀ i, K i = 2 → i < m ∧ P i < 65536) {r : tr} (c : K i = 2) (b : tvT K m r) : tvT K m (.branch (tE 13 (P i) i) (.leaf ()) r) := ⟨⟨fun _ => ⟨⟨i, (hz i c).1, tE_V (by decide) (hz i c).2, c⟩, rfl⟩, fun e => (by rw [tE_K (by decide)] at e; cases e), fun e => (by rw [tE_K (by decide)] at e; cases e)⟩, trivial, b⟩
theorem pgX_v (hz : ∀ i, K i = 2 → i < m ∧ P i < 65536) : ∀ f s d i, s < 5 → tvR K m (pgX K P V f s d i) := by
  intro f
  induction f with
  | zero => exact fun s d i _ => tv_no
  | succ f ih =>
    intro s d i hs
    have hs' : s = 0 ∨ s = 1 ∨ s = 2 ∨ s = 3 ∨ s = 4 := by omega
    rcases hs' with e | e | e | e | e <;> subst e
    · rw [pgX_0]
      exact tv_if (fun _ => tv_no) (fun _ => tv_bnd (ih 1 d i (by decide)) fun t j w => tv_if (fun _ => tv_bnd (ih 3 d j (by decide)) fun r k w2 => tv_so (tv_N (by decide) (tv_A w w2) trivial)) (fun _ => tv_so w))
    · rw [pgX_1]
      exact tv_bnd (ih 2 d i (by decide)) fun t j w => tv_if (fun _ => tv_bnd (ih 4 d j (by decide)) fun r k w2 => tv_so (tv_N (by decide) (tv_A w w2) trivial)) (fun _ => tv_so w)
    · rw [pgX_2]
      exact tv_if (fun _ => tv_so (tv_N (by decide) trivial trivial)) (fun _ => tv_if (fun c2 => tv_if (fun _ => tv_bnd (ih 0 (d + 1) (i + 2) (by decide)) fun t j w => tv_tak fun _ => tv_so (tv_14 (tv_M hz c2 w))) (fun _ => tv_so (tv_M hz c2 trivial))) (fun _ => tv_if (fun _ => tv_if (fun _ => tv_no) (fun _ => tv_bnd (ih 2 (d + 1) (i + 1) (by decide)) fun t j w => tv_so (tv_N (by decide) w trivial))) (fun _ => tv_if (fun _ => tv_if (fun _ => bnd_P lim_P fun a j w => tv_tak fun _ => bnd_P lim_P fun b k w2 => tv_tak fun _ => tv_so (by obtain ⟨p1, v1, e1⟩ := w; obtain ⟨p2, v2, e2⟩ := w2; rw [e1, e2]; exact tv_16b)) (fun _ => tv_so tv_16)) (fun _ => tv_if (fun _ => tv_bnd (ih 0 (d + 1) (i + 1) (by decide)) fun t j w => tv_tak fun _ => tv_so w) (fun _ => tv_no)))))
    · rw [pgX_3]
      exact tv_if (fun _ => tv_bnd (ih 1 d (i + 1) (by decide)) fun t j w => tv_bnd (ih 3 d j (by decide)) fun r k w2 => tv_so (tv_N (by split <;> decide) w w2)) (fun _ => tv_so trivial)
    · rw [pgX_4]
      exact tv_if (fun _ => tv_bnd (ih 2 d (i + 1) (by decide)) fun t j w => tv_bnd (ih 4 d j (by decide)) fun r k w2 => tv_so (tv_N (by split <;> first | decide | (split <;> decide)) w w2)) (fun _ => tv_so trivial)
theorem relK_13 (k : Int32) : (relK k ≠ 13 ∧ relK k ≠ 14 ∧ relK k ≠ 16) ∧ relK k < 64 := by
  unfold relK
  repeat' split
  all_goals decide
theorem pgC_v (hz : ∀ i, K i = 2 → i < m ∧ P i < 65536) : ∀ f s d i, s < 5 → tvR K m (pgC K P V N f s d i) := by
  intro f
  induction f with
  | zero => exact fun s d i _ => tv_no
  | succ f ih =>
    intro s d i hs
    have hs' : s = 0 ∨ s = 1 ∨ s = 2 ∨ s = 3 ∨ s = 4 := by omega
    rcases hs' with e | e | e | e | e <;> subst e
    · rw [pgC_0]
      exact tv_if (fun _ => tv_no) (fun _ => tv_bnd (ih 1 d i (by decide)) fun t j w => tv_if (fun _ => tv_bnd (ih 3 d j (by decide)) fun r k w2 => tv_so (tv_N (by decide) (tv_A w w2) trivial)) (fun _ => tv_so w))
    · rw [pgC_1]
      exact tv_bnd (ih 2 d i (by decide)) fun t j w => tv_if (fun _ => tv_bnd (ih 4 d j (by decide)) fun r k w2 => tv_so (tv_N (by decide) (tv_A w w2) trivial)) (fun _ => tv_so w)
    · rw [pgC_2]
      exact tv_if (fun _ => tv_if (fun _ => tv_no) (fun _ => tv_bnd (ih 2 (d + 1) (i + 1) (by decide)) fun t j w => tv_so (tv_N (by decide) w trivial))) (fun _ => tv_if (fun _ => tv_bnd (ih 0 (d + 1) (i + 1) (by decide)) fun t j w => tv_tak fun _ => tv_so w) (fun _ => tv_bnd (pgX_v hz N 0 (d + 1) i (by decide)) fun t j w => tv_if (fun _ => tv_no) (fun _ => tv_bnd (pgX_v hz N 0 (d + 1) (j + 1) (by decide)) fun u k w2 => tv_so (tv_N (relK_13 _) (tv_A w w2) trivial))))
    · rw [pgC_3]
      exact tv_if (fun _ => tv_bnd (ih 1 d (i + 1) (by decide)) fun t j w => tv_bnd (ih 3 d j (by decide)) fun r k w2 => tv_so (tv_A w w2)) (fun _ => tv_so trivial)
    · rw [pgC_4]
      exact tv_if (fun _ => tv_bnd (ih 2 d (i + 1) (by decide)) fun t j w => tv_bnd (ih 4 d j (by decide)) fun r k w2 => tv_so (tv_A w w2)) (fun _ => tv_so trivial)
theorem pgA_v (hz : ∀ i, K i = 2 → i < m ∧ P i < 65536) : ∀ f d i, tvR K m (pgA K P V N f d i) := by
  intro f
  induction f with
  | zero => exact fun d i => tv_no
  | succ f ih => exact fun d i => tv_if (fun _ => tv_bnd (pgX_v hz N 0 d (i + 1) (by decide)) fun t j w => tv_bnd (ih d j) fun r k w2 => tv_so (tv_A w w2)) (fun _ => tv_tak fun _ => tv_so trivial)
theorem pgS_v (hz : ∀ i, K i = 2 → i < m ∧ P i < 65536) (d i : Nat) : tvR K m (pgS K P V N d i) := tv_if (fun _ => tv_so trivial) (fun _ => tv_bnd (pgX_v hz N 0 d i (by decide)) fun t j w => tv_bnd (pgA_v hz N d j) fun r k w2 => tv_so (tv_A w w2))
theorem pgB_v (hz : ∀ i, K i = 2 → i < m ∧ P i < 65536) : ∀ f s d i, s < 3 → tvR K m (pgB K P V N f s d i) := by
  intro f
  induction f with
  | zero => exact fun s d i _ => tv_no
  | succ f ih =>
    intro s d i hs
    have hs' : s = 0 ∨ s = 1 ∨ s = 2 := by omega
    rcases hs' with e | e | e <;> subst e
    · rw [pgB_0]
      exact tv_if (fun _ => tv_so trivial) (fun _ => tv_bnd (ih 1 d i (by decide)) fun t j w => tv_bnd (ih 0 d j (by decide)) fun r k w2 => tv_so (tv_A w w2))
    · rw [pgB_1]
      refine tv_if (fun _ => tv_tak fun c2 => tv_if (fun _ => tv_tak fun _ => tv_tak fun _ => tv_tak fun _ => tv_so (tv_N (by decide) (tv_M hz c2 (tv_N (by decide) trivial trivial)) trivial)) (fun _ => tv_if (fun _ => tv_bnd (pgX_v hz N 0 (d + 1) (i + 3) (by decide)) fun t j w => tv_tak fun _ => tv_so (tv_N (by decide) (tv_M hz c2 w) trivial)) (fun _ => tv_tak fun _ => tv_so (tv_N (by decide) (tv_M hz c2 trivial) trivial)))) (fun _ => ?_)
      refine tv_if (fun c2 => tv_if (fun _ => tv_bnd (pgS_v hz (d + 1) (i + 2)) fun r j w => tv_tak fun _ => tv_so (tv_N (by decide) (tv_N (by decide) trivial (tv_M hz c2 w)) trivial)) (fun _ => tv_if (fun _ => tv_bnd (pgX_v hz N 0 (d + 1) (i + 2) (by decide)) fun t j w => tv_tak fun _ => tv_tak fun _ => tv_bnd (pgX_v hz N 0 (d + 1) (j + 2) (by decide)) fun u k w2 => tv_tak fun _ => tv_so (tv_N (by decide) (tv_M hz c2 (tv_A w w2)) trivial)) (fun _ => tv_tak fun _ => tv_if (fun c3 => tv_bnd (pgS_v hz (d + 1) (i + 4)) fun r j w => tv_tak fun _ => tv_so (tv_N (by decide) (tv_M hz c2 (tv_M hz c3.1 w)) trivial)) (fun _ => tv_bnd (pgX_v hz N 0 (d + 1) (i + 2) (by decide)) fun t j w => tv_tak fun _ => tv_so (tv_N (by decide) (tv_M hz c2 w) trivial))))) (fun _ => ?_)
      refine tv_if (fun _ => tv_tak fun _ => tv_bnd (pgC_v hz N 0 (d + 1) (i + 2) (by decide)) fun c j w => tv_tak fun _ => tv_bnd (ih 2 (d + 1) (j + 1) (by decide)) fun b k w2 => tv_if (fun _ => tv_bnd (ih 2 (d + 1) (k + 1) (by decide)) fun e l w3 => tv_so (tv_N (by decide) (tv_A w (tv_A w2 w3)) trivial)) (fun _ => tv_so (tv_N (by decide) (tv_A w w2) trivial))) (fun _ => ?_)
      refine tv_if (fun _ => tv_tak fun _ => tv_bnd (pgC_v hz N 0 (d + 1) (i + 2) (by decide)) fun c j w => tv_tak fun _ => tv_bnd (ih 2 (d + 1) (j + 1) (by decide)) fun b k w2 => tv_so (tv_N (by decide) (tv_A w w2) trivial)) (fun _ => ?_)
      refine tv_if (fun _ => tv_tak fun _ => tv_bnd (pgC_v hz N 0 (d + 1) (i + 2) (by decide)) fun c j w => tv_tak fun _ => tv_tak fun _ => tv_so (tv_N (by decide) w trivial)) (fun _ => ?_)
      exact tv_if (fun _ => tv_bnd (pgX_v hz N 0 (d + 1) (i + 1) (by decide)) fun t j w => tv_tak fun _ => tv_so (tv_N (by decide) w trivial)) (fun _ => tv_no)
    · rw [pgB_2]
      exact tv_if (fun _ => tv_no) (fun _ => tv_tak fun _ => tv_bnd (ih 0 d (i + 1) (by decide)) fun r j w => tv_so (tv_N (by decide) w trivial))
theorem pgM_v (hz : ∀ i, K i = 2 → i < m ∧ P i < 65536) : ∀ f i, tvR K m (pgM K P f i) := by
  intro f
  induction f with
  | zero => exact fun i => tv_no
  | succ f ih => exact fun i => tv_if (fun _ => tv_tak fun c2 => tv_bnd (ih (i + 2)) fun r k w => tv_so (tv_M hz c2 w)) (fun _ => tv_tak fun _ => tv_so trivial)
theorem pgF_v (hz : ∀ i, K i = 2 → i < m ∧ P i < 65536) (i : Nat) : tvR K m (pgF K P V N i) := by
  unfold pgF
  exact tv_tak fun _ => tv_tak fun c2 => tv_tak fun _ => tv_bnd (tv_if (fun _ => tv_so trivial) (fun _ => tv_tak fun c3 => tv_bnd (pgM_v hz N (i + 4)) fun r k w => tv_so (tv_M hz c3 w))) fun r j w => tv_bnd (pgB_v hz N 2 1 j (by decide)) fun b k w2 => tv_so (tv_N (by decide) (tv_M hz c2 (tv_C w w2)) trivial)
end TVs
