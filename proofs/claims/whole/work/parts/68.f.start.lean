set_option maxRecDepth 100000
/-! THE START: the Knowns that the reference's loop makes -/
section LPs
variable {h h1 : mh_H} {A B : Nat}
theorem kw_n : mh_n (kn_new h) = mh_n h + 5 := by
  unfold kn_new kn_i
  simp only [hn_sr, hn_new]
theorem kw_z : fz (fun _ _ => False) h (kn_new h) := by
  have w : fz (fun b _ => mh_n h ≤ b) h (kn_new h) := by
    unfold kn_new kn_i
    exact fz_t (fz_t (fz_t (fz_t (fz_t (fz_t (fz_t (fz_t fz_new fz_new) (fz_sr (Nat.le_refl _))) fz_new) (fz_sr (Nat.le_refl _))) fz_new) (fz_sr (Nat.le_refl _))) fz_new) (fz_sr (Nat.le_refl _))
  exact fz_w w (fun b j hb z => absurd z (by omega))
theorem kw_k : RK (kn_new h) (mh_n h) (some A00) := by
  have o : ko (kn_new h) (mh_n h) := by
    unfold ko mg kn_new kn_i
    simp only [hk_sr, hl_sr, hn_sr, hr_sr, hk_new, hl_new, hn_new, hr_nw]
    refine ⟨⟨?_, ?_⟩, ?_, ⟨?_, ?_⟩, ?_, ?_, ⟨?_, ?_⟩, ?_, ?_, ⟨?_, ?_⟩, ?_, ?_, ⟨?_, ?_⟩, ?_⟩ <;> (repeat (first | rw [if_pos (by omega)] | rw [if_neg (by omega)])) <;> first | rfl | omega
  have i0 : ∀ j, mh_i (kn_new h) (mh_n h) j = 0 := fun j => by
    unfold kn_new kn_i
    simp only [hi_sr, hi_new, hn_sr, hn_new]
    simp
  exact ⟨o, i0 0, i0 1, Nat.zero_le _, i0 2, Nat.zero_le _, fun i j hi => absurd hi (Nat.not_lt_zero _), fun x hx => absurd hx (Nat.not_lt_zero _), fun x hx => absurd hx (Nat.not_lt_zero _), fun x hx => absurd hx (Nat.not_lt_zero _)⟩
/-- one turn of the loop -/
theorem lw_1 {p : Nat} (hA : A < mh_n h) (hB : B < mh_n h) (ab : A ≠ B) : mh_n (lp_b A B p h) = mh_n h + 10 ∧ fz (fun b j => (b = A ∨ b = B) ∧ j = p) h (lp_b A B p h) ∧ RK (lp_b A B p h) (mh_n h) (some A00) ∧ RK (lp_b A B p h) (mh_n h + 5) (some A00) ∧ mh_r (lp_b A B p h) A p = some (mh_n h) ∧ mh_r (lp_b A B p h) B p = some (mh_n h + 5) := by
  obtain ⟨hX, eX⟩ : ∃ x, x = mh_sr (kn_new h) A p (some (mh_n h)) := ⟨_, rfl⟩
  have nX : mh_n hX = mh_n h + 5 := by rw [eX, hn_sr, kw_n]
  have f1 : fz (fun b j => (b = A ∨ b = B) ∧ j = p) h hX := by
    rw [eX]
    exact fz_t (fz_w kw_z (fun _ _ _ z => z.elim)) (fz_sr ⟨Or.inl rfl, rfl⟩)
  have e : lp_b A B p h = mh_sr (kn_new hX) B p (some (mh_n h + 5)) := by rw [eX]; rfl
  have f2 : fz (fun b j => (b = A ∨ b = B) ∧ j = p) hX (lp_b A B p h) := by
    rw [e]
    exact fz_t (fz_w kw_z (fun _ _ _ z => z.elim)) (fz_sr ⟨Or.inr rfl, rfl⟩)
  have k1 : RK hX (mh_n h) (some A00) := by
    rw [eX]
    exact RK_fz (W := fun b _ => b = A) (fz_sr rfl) (fun y hy j z => by omega) kw_k
  have k2 : RK (lp_b A B p h) (mh_n hX) (some A00) := by
    rw [e]
    exact RK_fz (W := fun b _ => b = B) (fz_sr rfl) (fun y hy j z => by omega) kw_k
  rw [nX] at k2
  refine ⟨by rw [e, hn_sr, kw_n, nX], fz_t f1 f2, RK_fz f2 (fun y hy j z => by omega) k1, k2, ?_, by rw [e, hr_sr, if_pos ⟨rfl, rfl⟩]⟩
  have rX : mh_r hX A p = some (mh_n h) := by rw [eX, hr_sr, if_pos ⟨rfl, rfl⟩]
  rw [e, hr_sr, if_neg (fun z => ab z.1), (kw_z.2.2 A p (by omega) (fun z => z)).2.2]
  exact rX
/-- the loop -/
theorem lw_all (ab : A ≠ B) : ∀ m p (h : mh_H), A < mh_n h → B < mh_n h → A < 132 → B < 132 → mh_n h = 132 + 10 * p → mh_n (lp A B m p h) = 132 + 10 * (p + m) ∧ fz (fun b j => (b = A ∨ b = B) ∧ p ≤ j) h (lp A B m p h) ∧ ∀ q, p ≤ q → q < p + m → RK (lp A B m p h) (132 + 10 * q) (some A00) ∧ RK (lp A B m p h) (137 + 10 * q) (some A00) ∧ mh_r (lp A B m p h) A q = some (132 + 10 * q) ∧ mh_r (lp A B m p h) B q = some (137 + 10 * q) := by
  intro m
  induction m with
  | zero => exact fun p h _ _ _ _ hn => ⟨hn, fz_id, fun q h1 h2 => absurd h2 (by omega)⟩
  | succ m ih =>
    intro p h hA hB a1 b1 hn
    obtain ⟨u1, u2, u3, u4, u5, u6⟩ := lw_1 (p := p) hA hB ab
    obtain ⟨v1, v2, v3⟩ := ih (p + 1) (lp_b A B p h) (by omega) (by omega) a1 b1 (by omega)
    show mh_n (lp A B m (p + 1) (lp_b A B p h)) = _ ∧ fz _ h (lp A B m (p + 1) (lp_b A B p h)) ∧ _
    refine ⟨by rw [v1]; omega, fz_t (fz_w u2 (fun b j _ z => ⟨z.1, by omega⟩)) (fz_w v2 (fun b j _ z => ⟨z.1, by omega⟩)), fun q h1 h2 => ?_⟩
    by_cases c : q = p
    · subst c
      rw [hn] at u3 u4 u5 u6
      rw [show 132 + 10 * q + 5 = 137 + 10 * q from by omega] at u4 u6
      refine ⟨RK_fz v2 (fun y hy j z => by omega) u3, RK_fz v2 (fun y hy j z => by omega) u4, ?_, ?_⟩
      · exact (v2.2.2 A q (by omega) (fun z => by omega)).2.2.trans u5
      · exact (v2.2.2 B q (by omega) (fun z => by omega)).2.2.trans u6
    · exact v3 q (by omega) (by omega)
end LPs
