/-! cells of the start that the small machine knows: Strings, the static row -/
def mx_A (base : Nat) : Nat → Prop := fun q => base ≤ q
def mx_at (base : Nat) (xt : Nat → Option Nat) (U : State) (j : Nat) : Prop := ∃ t b : Nat, xt (3 * j + 3) = some t ∧ xt (3 * j + 4) = some b ∧ va_O "java/lang/String" t (mx_A base) U U.heap ∧ va_OF "java/lang/String" "coder" "B" (.int 0) t (mx_A base) U U.heap ∧ va_OF "java/lang/String" "value" "[B" (.ref b) t (mx_A base) U U.heap ∧ va_T .byte b (mx_len.getD j 0) (fun i => .int ((mx_byt.getD j []).getD i 0)) (mx_A base) U U.heap
def mx_ok (base : Nat) (xt : Nat → Option Nat) (U : State) : Prop := (∀ j, j < mx_len.length → mx_at base xt U j) ∧ (∀ q ∈ mx_lk, ∃ t, xt q.2.2.2 = some t ∧ vk_R q.1 q.2.1 q.2.2.1 t U) ∧ (∃ t, xt 2 = some t ∧ va_Z "InvariantDesk$State" "ROW" "[I" (.ref t) (mx_A base) U U.heap ∧ va_T .int t 24 (fun i => .int (mx_row.getD i 0)) (mx_A base) U U.heap) ∧ va_Z "java/lang/String" "COMPACT_STRINGS" "Z" (.int 1) (mx_A base) U U.heap ∧ va_Z "jdk/internal/util/Preconditions" "SIOOBE_FORMATTER" "Ljava/util/function/BiFunction;" (va_rf (xt 5)) (mx_A base) U U.heap ∧ va_Nw (.castable "[B" "java/lang/Cloneable") U
theorem mx_keep {base : Nat} {xt : Nat → Option Nat} {U U' : State} (hW : U.WarmedH U'.vm) (hq : ∀ q, q < base → U'.heap[q]? = U.heap[q]?) (h : mx_ok base xt U) : mx_ok base xt U' := by
  have hk : ∀ a : Nat, a < U.heap.size → ¬ mx_A base a → U'.heap[a]? = U.heap[a]? := fun a _ ha => hq a (Nat.not_le.mp ha)
  obtain ⟨h1, h2, ⟨t, h3, h4, h5⟩, h6, h7, h8⟩ := h
  refine ⟨fun j hj => ?_, fun q hm => ?_, ⟨t, h3, (h4.moved hW.alike).kept hk, (h5.moved hW.alike).kept hk⟩, (h6.moved hW.alike).kept hk, (h7.moved hW.alike).kept hk, va_Nw.warmC hW h8⟩
  · obtain ⟨t, b, e1, e2, e3, e4, e5, e6⟩ := h1 j hj
    exact ⟨t, b, e1, e2, (e3.moved hW.alike).kept hk, (e4.moved hW.alike).kept hk, (e5.moved hW.alike).kept hk, (e6.moved hW.alike).kept hk⟩
  · obtain ⟨t, e1, e2⟩ := h2 q hm
    exact ⟨t, e1, e2.warm hW⟩
theorem mx_S {base n : Nat} {s : State} {H : Heap} {locs : List Loc} (hz : s.heap.size ≤ base + n) (hz2 : base + n ≤ H.size) (hF : ∀ q, q < base → H[q]? = s.heap[q]?) (hL : ∀ q ∈ locs, base ≤ q.base) : va_S (mx_A base) s.heap H locs := ⟨Nat.le_trans hz hz2, fun q _ h => hF q (Nat.not_le.mp h), hL⟩
