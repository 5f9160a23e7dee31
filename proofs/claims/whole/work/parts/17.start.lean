set_option maxRecDepth 100000 in
theorem mx_inst : ∀ (ci : Nat) (q : vw_C), mt_cl[ci]? = some q → Jvm.Cond.instantiable q.1 q.2.2 ∈ ms_tb := mt_cs _ (mk_tb (mk_sub3 (List.mem_of_getElem? (i := 16) rfl) rfl)) (mk_tb (mk_sub2 (List.mem_of_getElem? (i := 109) rfl) rfl)) (mk_tb (mk_sub3 (List.mem_of_getElem? (i := 83) rfl) rfl)) (mk_tb (mk_sub5 (List.mem_of_getElem? (i := 203) rfl) rfl)) (mk_tb (mk_sub1 (List.mem_of_getElem? (i := 33) rfl) rfl)) (mk_tb (mk_sub2 (List.mem_of_getElem? (i := 115) rfl) rfl)) (mk_tb (mk_sub5 (List.mem_of_getElem? (i := 209) rfl) rfl)) (mk_tb (mk_sub1 (List.mem_of_getElem? (i := 85) rfl) rfl)) (mk_tb (mk_sub2 (List.mem_of_getElem? (i := 186) rfl) rfl)) (mk_tb (mk_sub1 (List.mem_of_getElem? (i := 167) rfl) rfl)) (mk_tb (mk_sub1 (List.mem_of_getElem? (i := 39) rfl) rfl)) (mk_tb (mk_sub1 (List.mem_of_getElem? (i := 25) rfl) rfl)) (mk_tb (mk_sub8 (List.mem_of_getElem? (i := 125) rfl) rfl)) (mk_tb (mk_sub8 (List.mem_of_getElem? (i := 132) rfl) rfl)) (mk_tb (mk_sub8 (List.mem_of_getElem? (i := 118) rfl) rfl))
theorem mx_srefs : mx_lk.map (fun q => Jvm.Cond.stringRef q.1 q.2.1 q.2.2.1) = ([1729, 1741, 1781, 1782, 1783, 1792, 1750, 1765, 1772, 1030, 1123, 1149, 1150, 1151, 1152, 1153, 1154, 1155, 1971, 1972, 1973, 1974, 1975, 1976, 1977, 1978, 2863, 2884, 2885, 2886, 2850, 2868, 2878, 2887, 2888] : List Nat).filterMap (fun i => tables_1[i]?) := by decide +kernel
theorem mx_ls1 : (Jvm.Cond.laysStatic "InvariantDesk$State" "ROW" "[I") ∈ tables_1 := List.mem_of_getElem? (i := 700) (by decide +kernel)
theorem mx_ls2 : (Jvm.Cond.laysStatic "java/lang/String" "COMPACT_STRINGS" "Z") ∈ tables_1 := List.mem_of_getElem? (i := 1044) (by decide +kernel)
theorem mx_ls3 : (Jvm.Cond.laysStatic "jdk/internal/util/Preconditions" "SIOOBE_FORMATTER" "Ljava/util/function/BiFunction;") ∈ tables_1 := List.mem_of_getElem? (i := 1085) (by decide +kernel)
theorem mx_ls4 : (Jvm.Cond.initialized "InvariantDesk$State") ∈ tables_1 := List.mem_of_getElem? (i := 11) (by decide +kernel)
theorem mx_ls5 : (Jvm.Cond.initialized "java/lang/String") ∈ tables_1 := List.mem_of_getElem? (i := 17) (by decide +kernel)
theorem mx_ls6 : (Jvm.Cond.initialized "jdk/internal/util/Preconditions") ∈ tables_1 := List.mem_of_getElem? (i := 20) (by decide +kernel)
theorem mx_ls7 : (Jvm.Cond.castable "[B" "java/lang/Cloneable") ∈ tables_1 := List.mem_of_getElem? (i := 52) (by decide +kernel)
theorem mx_nls : ms_nl = ([356, 427, 502, 928, 1813, 1968, 91, 459, 1811, 1970] : List Nat).filterMap (fun i => tables_1[i]?) := by decide +kernel
/-- what the Statement gives of the start, one by one -/
def mx_fl : List Jvm.Cond := flatC (Jvm.Cond.and given_1 narrow_1)
def mx_tm (j : Nat) : Term := match mx_lk[j]? with
  | some q => .string q.1 q.2.1
  | none => .arg 0
theorem mx_f1 : ∀ j, j < 35 → Jvm.Cond.exactly (mx_tm j) "java/lang/String" ∈ mx_fl := by decide +kernel
theorem mx_f2 : ∀ j, j < 35 → Jvm.Cond.eq (.field (mx_tm j) "java/lang/String" "coder" "B") (.int 0) ∈ mx_fl := by decide +kernel
theorem mx_f3 : ∀ j, j < 35 → Jvm.Cond.arrayOf (.field (mx_tm j) "java/lang/String" "value" "[B") .byte ∈ mx_fl := by decide +kernel
theorem mx_f4 : ∀ j, j < 35 → Jvm.Cond.eq (.length (.field (mx_tm j) "java/lang/String" "value" "[B")) (.int (Int32.ofNat (mx_len.getD j 0))) ∈ mx_fl := by decide +kernel
def mx_p5 (j i : Nat) : Jvm.Cond := Jvm.Cond.eq (.elem (.field (mx_tm j) "java/lang/String" "value" "[B") (.int (Int32.ofNat i))) (.int ((mx_byt.getD j []).getD i 0))
theorem mx_f5_0 : ∀ j, j < 5 → ∀ i, i < mx_len.getD (0 + j) 0 → mx_p5 (0 + j) i ∈ mx_fl := by decide +kernel
theorem mx_f5_1 : ∀ j, j < 5 → ∀ i, i < mx_len.getD (5 + j) 0 → mx_p5 (5 + j) i ∈ mx_fl := by decide +kernel
theorem mx_f5_2 : ∀ j, j < 5 → ∀ i, i < mx_len.getD (10 + j) 0 → mx_p5 (10 + j) i ∈ mx_fl := by decide +kernel
theorem mx_f5_3 : ∀ j, j < 5 → ∀ i, i < mx_len.getD (15 + j) 0 → mx_p5 (15 + j) i ∈ mx_fl := by decide +kernel
theorem mx_f5_4 : ∀ j, j < 5 → ∀ i, i < mx_len.getD (20 + j) 0 → mx_p5 (20 + j) i ∈ mx_fl := by decide +kernel
theorem mx_f5_5 : ∀ j, j < 5 → ∀ i, i < mx_len.getD (25 + j) 0 → mx_p5 (25 + j) i ∈ mx_fl := by decide +kernel
theorem mx_f5_6 : ∀ j, j < 5 → ∀ i, i < mx_len.getD (30 + j) 0 → mx_p5 (30 + j) i ∈ mx_fl := by decide +kernel
theorem mx_f5 : ∀ j, j < 35 → ∀ i, i < mx_len.getD j 0 → mx_p5 j i ∈ mx_fl := by
  intro j hj
  have e : j < 5 ∨ (5 ≤ j ∧ j < 10) ∨ (10 ≤ j ∧ j < 15) ∨ (15 ≤ j ∧ j < 20) ∨ (20 ≤ j ∧ j < 25) ∨ (25 ≤ j ∧ j < 30) ∨ (30 ≤ j ∧ j < 35) := by omega
  rcases e with e | e | e | e | e | e | e
  · obtain ⟨k, rfl⟩ : ∃ k, j = 0 + k := ⟨j - 0, by omega⟩
    exact mx_f5_0 k (by omega)
  · obtain ⟨k, rfl⟩ : ∃ k, j = 5 + k := ⟨j - 5, by omega⟩
    exact mx_f5_1 k (by omega)
  · obtain ⟨k, rfl⟩ : ∃ k, j = 10 + k := ⟨j - 10, by omega⟩
    exact mx_f5_2 k (by omega)
  · obtain ⟨k, rfl⟩ : ∃ k, j = 15 + k := ⟨j - 15, by omega⟩
    exact mx_f5_3 k (by omega)
  · obtain ⟨k, rfl⟩ : ∃ k, j = 20 + k := ⟨j - 20, by omega⟩
    exact mx_f5_4 k (by omega)
  · obtain ⟨k, rfl⟩ : ∃ k, j = 25 + k := ⟨j - 25, by omega⟩
    exact mx_f5_5 k (by omega)
  · obtain ⟨k, rfl⟩ : ∃ k, j = 30 + k := ⟨j - 30, by omega⟩
    exact mx_f5_6 k (by omega)
theorem mx_f6 : Jvm.Cond.arrayOf (.static "InvariantDesk$State" "ROW" "[I") .int ∈ mx_fl ∧ Jvm.Cond.eq (.length (.static "InvariantDesk$State" "ROW" "[I")) (.int (Int32.ofNat 24)) ∈ mx_fl ∧ (∀ i, i < 24 → Jvm.Cond.eq (.elem (.static "InvariantDesk$State" "ROW" "[I") (.int (Int32.ofNat i))) (.int (mx_row.getD i 0)) ∈ mx_fl) ∧ Jvm.Cond.eq (.static "java/lang/String" "COMPACT_STRINGS" "Z") (.int 1) ∈ mx_fl ∧ Jvm.Cond.isRef (.static "jdk/internal/util/Preconditions" "SIOOBE_FORMATTER" "Ljava/util/function/BiFunction;") ∈ mx_fl := by decide +kernel
theorem mx_f7 : ∀ j, j < 35 → mx_len.getD j 0 < 2 ^ 31 := by decide +kernel
theorem mx_f8 : ∀ j, j < 35 → ∀ q, mx_lk[j]? = some q → q.2.2.2 = 3 * j + 3 := by decide +kernel
/-- a String of the start -/
theorem mx_one {args : Array Value} {s : State} {base : Nat} (hg : ∀ w ∈ mx_fl, w.before args s = true) (hA : ∀ a : Nat, a < s.heap.size → ¬ mx_A base a) {j : Nat} (hj : j < 35) : ∃ q : Nat × Nat, (mx_tm j).eval args s none [] s = some (.ref q.1) ∧ va_O "java/lang/String" q.1 (mx_A base) s s.heap ∧ va_OF "java/lang/String" "coder" "B" (.int 0) q.1 (mx_A base) s s.heap ∧ va_OF "java/lang/String" "value" "[B" (.ref q.2) q.1 (mx_A base) s s.heap ∧ va_T .byte q.2 (mx_len.getD j 0) (fun i => .int ((mx_byt.getD j []).getD i 0)) (mx_A base) s s.heap := by
  obtain ⟨a, c, cA, kA, q1, q2, q3, q4, q5, q6, -⟩ := Cond.exactly_spec (args := args) (first := s) (o := none) (s := s) (idx := []) (t := mx_tm j) (cls := "java/lang/String") (hg _ (mx_f1 j hj))
  obtain ⟨t, ht, hT⟩ := va_Tof (f := fun i => .int ((mx_byt.getD j []).getD i 0)) (A := mx_A base) (mx_f7 j hj) (hg _ (mx_f3 j hj)) (va_eqt (hg _ (mx_f4 j hj))) (fun i hi => va_eqt (hg _ (mx_f5 j hj i hi))) hA
  exact ⟨(a, t), q1, ⟨cA, q3, q5, by rw [q6]; exact q2, hA a (Array.getElem?_eq_some_iff.mp q3).1⟩, vk_OFof q1 (va_eqt (hg _ (mx_f2 j hj))) hA, vk_OFof q1 ht hA, hT⟩
/-- THE START: the classes, the rows' classes, and the cells that the machine knows -/
theorem mx_start {p : Program} {s : State} {m : MethodId} {meth : Method} {c : Code} {b L : Nat} {xs : Nat → Int32} (C0 : lw_At p s m meth c b L xs) : ∃ (D : va_G) (cA : Nat → ClassId) (xt : Nat → Option Nat), (∀ w ∈ ms_nl, w.before #[Value.ref b] s = true) ∧ va_K D mt_cl (ms_ty cA) s ∧ mx_ok s.heap.size xt s ∧ xt 8 = some b := by
  obtain ⟨hx, hb, hr, hml, hown, hts, hS0, hbl, hlocks, hgv⟩ := C0
  have ht1 : ∀ w ∈ tables_1, w.before #[Value.ref b] s = true := fun w hw => hts w (List.mem_append_right _ hw)
  have hN : ∀ w ∈ ms_nl, w.before #[Value.ref b] s = true := by
    intro w hw
    rw [mx_nls] at hw
    obtain ⟨i, -, hi⟩ := List.mem_filterMap.mp hw
    exact ht1 w (List.mem_of_getElem? hi)
  have htb : ∀ w ∈ ms_tb, w.before #[Value.ref b] s = true := fun w hw => (List.mem_append.mp hw).elim (fun z => hts w (List.mem_filter.mp z).1) (hN w)
  have hg : ∀ w ∈ mx_fl, w.before #[Value.ref b] s = true := flat_of_before _ hgv
  have hA : ∀ a : Nat, a < s.heap.size → ¬ mx_A s.heap.size a := fun a ha => Nat.not_le.mpr ha
  -- classes
  have h0 : ∀ ci : Nat, ∃ q : ClassId × (Nat → Nat), ∀ r : vw_C, mt_cl[ci]? = some r → u_Kn s r.1 r.2.1 r.2.2 q.1 q.2 := by
    intro ci
    cases hc : mt_cl[ci]? with
    | none => exact ⟨(0, fun _ => 0), fun r hr => by cases hr⟩
    | some r =>
      obtain ⟨c0, iS, hk⟩ := u_known (C := r.1) (T := r.2.1) (N := r.2.2) (n := r.2.2) htb (fun w hw => ms_in hw (mt_ii ci r hc w hw)) (htb _ (mx_inst ci r hc))
      exact ⟨(c0, iS), fun r' hr' => by cases hr'; exact hk⟩
  obtain ⟨ad, had⟩ := Classical.axiomOfChoice h0
  -- rows
  have h1 : ∀ k : Nat, ∃ cI : ClassId, 100 ≤ k → k < 108 → ArrOfT s cI (ms_ety k) ∧ va_RA s cI (ms_ety k) := by
    intro k
    by_cases hk : 100 ≤ k ∧ k < 104
    · have hw : (Jvm.Cond.arrayClass (ms_ety k)).before #[Value.ref b] s = true := by
        have e : k = 100 ∨ k = 101 ∨ k = 102 ∨ k = 103 := by omega
        rcases e with rfl | rfl | rfl | rfl
        · exact htb _ mk_ac100
        · exact htb _ mk_ac101
        · exact htb _ mk_ac102
        · exact htb _ mk_ac103
      obtain ⟨c0, kA, comp, f1, f2, f3⟩ := Cond.arrayClass_spec hw
      refine ⟨c0, fun _ _ => ⟨fun n z => ⟨fun q h => (by cases h), kA, f2, comp, f3⟩, ?_⟩⟩
      have e : k = 100 ∨ k = 101 ∨ k = 102 ∨ k = 103 := by omega
      rcases e with rfl | rfl | rfl | rfl <;> exact f1
    · by_cases hk2 : 104 ≤ k ∧ k < 108
      · obtain ⟨C, hC⟩ := ms_ety_ref hk2.1
        have hw : (Jvm.Cond.arrayOver (.object C)).before #[Value.ref b] s = true := by
          refine hN _ (List.mem_append_right _ (List.mem_map.mpr ⟨C, ?_, rfl⟩))
          have e : k = 104 ∨ k = 105 ∨ k = 106 ∨ k = 107 := by omega
          rcases e with rfl | rfl | rfl | rfl <;> (cases hC; decide +kernel)
        obtain ⟨comp, c0, kA, f1, -, f3, f4, f5⟩ := Cond.arrayOver_spec hw
        refine ⟨c0, fun _ _ => ?_⟩
        rw [hC]
        exact ⟨fun n z => ⟨fun q h => (by cases h), kA, f3, comp, f4⟩, kA, comp, f3, f4, f1, f5⟩
      · exact ⟨0, fun z1 z2 => by omega⟩
  obtain ⟨cA, hcA⟩ := Classical.axiomOfChoice h1
  -- Strings
  have h2 : ∀ j : Nat, ∃ q : Nat × Nat, j < 35 → (mx_tm j).eval #[Value.ref b] s none [] s = some (.ref q.1) ∧ va_O "java/lang/String" q.1 (mx_A s.heap.size) s s.heap ∧ va_OF "java/lang/String" "coder" "B" (.int 0) q.1 (mx_A s.heap.size) s s.heap ∧ va_OF "java/lang/String" "value" "[B" (.ref q.2) q.1 (mx_A s.heap.size) s s.heap ∧ va_T .byte q.2 (mx_len.getD j 0) (fun i => .int ((mx_byt.getD j []).getD i 0)) (mx_A s.heap.size) s s.heap := by
    intro j
    by_cases hj : j < 35
    · obtain ⟨q, hq⟩ := mx_one (base := s.heap.size) hg hA hj
      exact ⟨q, fun _ => hq⟩
    · exact ⟨(0, 0), fun z => absurd z hj⟩
  obtain ⟨sd, hsd⟩ := Classical.axiomOfChoice h2
  obtain ⟨g1, g2, g3, g4, g5⟩ := mx_f6
  obtain ⟨rw0, hr1, hr2⟩ := va_Tof (N := 24) (f := fun i => .int (mx_row.getD i 0)) (A := mx_A s.heap.size) (by decide) (hg _ g1) (va_eqt (hg _ g2)) (fun i hi => va_eqt (hg _ (g3 i hi))) hA
  obtain ⟨so, hso⟩ : ∃ so : Option Nat, va_Z "jdk/internal/util/Preconditions" "SIOOBE_FORMATTER" "Ljava/util/function/BiFunction;" (va_rf so) (mx_A s.heap.size) s s.heap := by
    rcases va_Zqof (A := mx_A s.heap.size) (ht1 _ mx_ls3) (ht1 _ mx_ls6) (hg _ g5) hA with h | ⟨t, h⟩
    · exact ⟨none, h⟩
    · exact ⟨some t, h⟩
  refine ⟨(fun k => (ad k).1, fun k => (ad k).2), cA, fun x => if x = 2 then some rw0 else if x = 5 then so else if x = 8 then some b else if x % 3 = 0 then some (sd (x / 3 - 1)).1 else some (sd (x / 3 - 1)).2, hN, ⟨fun ci q hq => had ci q hq, fun k q hk => ?_⟩, ⟨fun j hj => ?_, fun q hq => ?_, ⟨rw0, rfl, va_Zof (ht1 _ mx_ls1) (ht1 _ mx_ls4) hr1 hA, hr2⟩, va_Zof (ht1 _ mx_ls2) (ht1 _ mx_ls5) (va_eqi (hg _ g4)) hA, hso, va_Nw.of rfl (ht1 _ mx_ls7)⟩, rfl⟩
  · unfold ms_ty at hk
    rw [List.getElem?_map] at hk
    cases hr9 : (List.range 8)[k]? with
    | none => rw [hr9] at hk; cases hk
    | some i =>
      have hi := List.mem_range.mp (List.mem_of_getElem? hr9)
      rw [hr9] at hk
      cases hk
      exact hcA (100 + i) (by omega) (by omega)
  · have hj : j < 35 := hj
    obtain ⟨e1, e2, e3, e4, e5⟩ := hsd j hj
    refine ⟨(sd j).1, (sd j).2, ?_, ?_, e2, e3, e4, e5⟩
    · show (if 3 * j + 3 = 2 then _ else if 3 * j + 3 = 5 then _ else if 3 * j + 3 = 8 then _ else if (3 * j + 3) % 3 = 0 then some (sd ((3 * j + 3) / 3 - 1)).1 else _) = _
      rw [if_neg (by omega), if_neg (by omega), if_neg (by omega), if_pos (by omega), show (3 * j + 3) / 3 - 1 = j by omega]
    · show (if 3 * j + 4 = 2 then _ else if 3 * j + 4 = 5 then _ else if 3 * j + 4 = 8 then _ else if (3 * j + 4) % 3 = 0 then _ else some (sd ((3 * j + 4) / 3 - 1)).2) = _
      rw [if_neg (by omega), if_neg (by omega), if_neg (by omega), if_neg (by omega), show (3 * j + 4) / 3 - 1 = j by omega]
  · obtain ⟨j, hj⟩ := List.getElem?_of_mem hq
    have hj35 : j < 35 := (List.getElem?_eq_some_iff.mp hj).1
    obtain ⟨e1, -⟩ := hsd j hj35
    have e8 := mx_f8 j hj35 q hj
    refine ⟨(sd j).1, ?_, vk_R.of (A := #[Value.ref b]) ?_ ?_⟩
    · rw [e8]
      show (if 3 * j + 3 = 2 then _ else if 3 * j + 3 = 5 then _ else if 3 * j + 3 = 8 then _ else if (3 * j + 3) % 3 = 0 then some (sd ((3 * j + 3) / 3 - 1)).1 else _) = _
      rw [if_neg (by omega), if_neg (by omega), if_neg (by omega), if_pos (by omega), show (3 * j + 3) / 3 - 1 = j by omega]
    · have hm : Jvm.Cond.stringRef q.1 q.2.1 q.2.2.1 ∈ mx_lk.map (fun q => Jvm.Cond.stringRef q.1 q.2.1 q.2.2.1) := List.mem_map.mpr ⟨q, hq, rfl⟩
      rw [mx_srefs] at hm
      obtain ⟨i, -, hi⟩ := List.mem_filterMap.mp hm
      exact ht1 _ (List.mem_of_getElem? hi)
    · have e : mx_tm j = .string q.1 q.2.1 := by
        unfold mx_tm
        rw [hj]
      rw [← e]
      exact e1
/-- THE CLAIM OUT OF PURE RUNS: what is left is ml_ends for every script -/
theorem whole_of_ends (hall : ∀ (L : Nat) (xs : Nat → Int32), L ≤ 4096 → ml_ends L xs) {p : Program} {e : Env} {s : State} {m : MethodId} {below : List Frame} {meth : Method} {c : Code} (l : Launch) {b L : Nat} {xs : Nat → Int32} (hL : L ≤ 4096) (C0 : lw_At p s m meth c b L xs) : W p l e room_1 s m #[Value.ref b] below meth c s.heap [] 0 0 (lw_Z below #[Value.ref b] s) (entryFrame m ([Value.ref b] : List Value).toArray 4) := by
  obtain ⟨D, cA, xt, h1, h2, h3, h4⟩ := mx_start C0
  exact ml_walk C0 h1 h2 h3 h4 (hall L xs hL)
