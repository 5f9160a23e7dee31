/-! a check that the kernel runs over the tables of 11, and that it says ms_fact -/
def mk_isref (rt : Option FieldType) : Bool := match rt with
  | some (.object _) => true
  | some (.array _) => true
  | _ => false
def mk_len (ins : Instr) (len : Nat) : Bool := match ins with
  | .bipush _ | .ldc _ | .iload _ | .lload _ | .aload _ | .istore _ | .lstore _ | .astore _ | .newarray _ => decide (len = 2)
  | .sipush _ | .ldc2_w _ | .ldc_w _ | .getfield _ | .putfield _ | .getstatic _ | .new _ | .anewarray _ | .checkcast _ | .goto _ | .ifCond _ _ | .if_icmp _ _ | .ifnull _ | .ifnonnull _ | .iinc _ _ | .invokevirtual _ | .invokestatic _ | .invokespecial _ => decide (len = 3)
  | .tableswitch _ _ _ _ | .lookupswitch _ _ => true
  | _ => decide (len = 1)
theorem mk_len_ok {ins : Instr} {len : Nat} (h : mk_len ins len = true) : ms_len ins len := by
  cases ins <;> first | exact (id (of_decide_eq_true h) : len = 1) | exact (id (of_decide_eq_true h) : len = 2) | exact (id (of_decide_eq_true h) : len = 3) | exact True.intro
def mk_chk (o ini : Nat) (rt : Option FieldType) (ins : Instr) (a b : Nat) (v : Int) : Bool := match ins with
  | .ldc idx => (b == 0 && mk_K.contains (o, idx, v)) || (b == 1 && mk_X.contains (o, idx, a))
  | .ldc_w idx => b == 1 && mk_X.contains (o, idx, a)
  | .getstatic idx => (b == 0 && a == 2 && mk_G2_.contains (o, idx)) || ((b == 0 && a == 5 && mk_G5_.contains (o, idx)) || (b == 1 && v == 1 && mk_G1_.contains (o, idx)))
  | .checkcast idx => mk_Z.contains (o, idx)
  | .ldc2_w idx => mk_L.contains (o, idx, v)
  | .getfield idx => (decide (a < 15) && mk_F.contains (o, idx, a, b)) || ((a == 90 && b == 0 && mk_H0_.contains (o, idx)) || (a == 90 && b == 1 && mk_H1_.contains (o, idx)))
  | .putfield idx => mk_F.contains (o, idx, a, b) && (decide (b < mt_nf a) && (!(mk_fin.contains (a, b)) || (decide (ini = a) && decide (a < 15))))
  | .new idx => mk_C.contains (o, idx, a)
  | .newarray t => decide (newarray.typeOf t = ms_ety a) && (decide (100 ≤ a) && decide (a < 104))
  | .anewarray idx => mk_A.contains (o, idx, a)
  | .ireturn => (b == 0 && decide (rt = some .int)) || ((b == 3 && decide (rt = some .boolean)) || ((b == 4 && decide (rt = some .char)) || (b == 5 && decide (rt = some .byte))))
  | .lreturn => decide (rt = some .long)
  | .areturn => mk_isref rt
  | .return_ => decide (rt = none)
  | .invokevirtual idx => (decide (b < 15) && mk_V.contains (o, idx, a, b, v.toNat)) || ((b == 90 && mk_W.contains (o, idx, a, v.toNat)) || (b == 91 && mk_Q.contains (o, idx)))
  | .invokestatic idx => (b == 9) || ((b == 0 && mk_S.contains (o, idx, a, v.toNat)) || ((b == 20 && mk_M20_.contains (o, idx)) || ((b == 21 && mk_M21_.contains (o, idx)) || ((b == 22 && mk_M22_.contains (o, idx)) || ((b == 23 && mk_M23_.contains (o, idx)) || ((b == 24 && mk_M24_.contains (o, idx)) || ((b == 25 && mk_M25_.contains (o, idx)) || (b == 30 && mk_P.contains (o, idx)))))))))
  | .invokespecial idx => (b == 1 && mk_O.contains (o, idx)) || ((b == 0 && mk_I.contains (o, idx, a, v.toNat)) || (b == 2 && mk_N.contains (o, idx, a, v.toNat)))
  | _ => true
theorem mk_fin_ok : ∀ (ci : Nat) (q : vw_C), mt_cl[ci]? = some q → ∀ k, k < q.2.2 → (mk_fin.contains (ci, k) = false → (q.2.1 k).2.2.2 = false) ∧ (mk_fin.contains (ci, k) = true → (q.2.1 k).2.2.2 = true ∧ (q.2.1 k).1 = mk_nm ci) := mt_cs _ (by decide +kernel) (by decide +kernel) (by decide +kernel) (by decide +kernel) (by decide +kernel) (by decide +kernel) (by decide +kernel) (by decide +kernel) (by decide +kernel) (by decide +kernel) (by decide +kernel) (by decide +kernel) (by decide +kernel) (by decide +kernel) (by decide +kernel)
theorem mk_chk_ok {y o ini : Nat} {rt : Option FieldType} {ins : Instr} {a b : Nat} {v : Int} (h : mk_chk o ini rt ins a b v = true) (ho : (mc_M y).1.cls = mk_nm o) (hi : ini = 99 ∨ ((mc_M y).1.name = "<init>" ∧ (mc_M y).1.cls = mk_nm ini)) (hrt : (mc_M y).2.2.2 = rt) : ms_fact mc_M y ins a b v := by
  cases ins with
  | ldc idx =>
    simp only [mk_chk, Bool.or_eq_true, Bool.and_eq_true, beq_iff_eq] at h
    show (b = 0 → _) ∧ (b = 1 → _)
    rw [ho]
    rcases h with ⟨rfl, h⟩ | ⟨rfl, h⟩
    · exact ⟨fun _ => mk_K_ok _ (List.contains_iff_mem.mp h), fun z => (by cases z)⟩
    · exact ⟨fun z => (by cases z), fun _ => mk_X_ok _ (List.contains_iff_mem.mp h)⟩
  | ldc_w idx =>
    simp only [mk_chk, Bool.and_eq_true, beq_iff_eq] at h
    show b = 1 → _
    rw [ho]
    exact fun _ => mk_X_ok _ (List.contains_iff_mem.mp h.2)
  | getstatic idx =>
    simp only [mk_chk, Bool.or_eq_true, Bool.and_eq_true, beq_iff_eq] at h
    show (b = 0 → _) ∧ (b = 1 → _)
    rw [ho]
    rcases h with ⟨⟨rfl, rfl⟩, h⟩ | ⟨⟨rfl, rfl⟩, h⟩ | ⟨⟨rfl, rfl⟩, h⟩
    · exact ⟨fun _ => Or.inl ⟨rfl, mk_G2__ok _ (List.contains_iff_mem.mp h)⟩, fun z => (by cases z)⟩
    · exact ⟨fun _ => Or.inr ⟨rfl, mk_G5__ok _ (List.contains_iff_mem.mp h)⟩, fun z => (by cases z)⟩
    · exact ⟨fun z => (by cases z), fun _ => ⟨rfl, mk_G1__ok _ (List.contains_iff_mem.mp h)⟩⟩
  | checkcast idx =>
    show a = 102 → _
    rw [ho]
    exact fun _ => mk_Z_ok _ (List.contains_iff_mem.mp h)
  | ldc2_w idx =>
    show _ ∈ ms_tb
    rw [ho]; exact mk_L_ok _ (List.contains_iff_mem.mp h)
  | getfield idx =>
    simp only [mk_chk, Bool.or_eq_true, Bool.and_eq_true, beq_iff_eq, decide_eq_true_eq] at h
    show (a < 15 → _) ∧ (a = 90 → (b = 0 → _) ∧ (b = 1 → _))
    rw [ho]
    rcases h with ⟨ha, h⟩ | ⟨⟨rfl, rfl⟩, h⟩ | ⟨⟨rfl, rfl⟩, h⟩
    · exact ⟨fun _ => mk_F_ok _ (List.contains_iff_mem.mp h), fun z => absurd ha (by omega)⟩
    · exact ⟨fun z => absurd z (by omega), fun _ => ⟨fun _ => mk_H0__ok _ (List.contains_iff_mem.mp h), fun z => (by cases z)⟩⟩
    · exact ⟨fun z => absurd z (by omega), fun _ => ⟨fun z => (by cases z), fun _ => mk_H1__ok _ (List.contains_iff_mem.mp h)⟩⟩
  | putfield idx =>
    simp only [mk_chk, Bool.and_eq_true, decide_eq_true_eq] at h
    obtain ⟨h1, h2, h3⟩ := h
    obtain ⟨q, q1, q2⟩ := mk_F_ok _ (List.contains_iff_mem.mp h1)
    show ∃ q, _ ∧ _ ∧ _
    rw [ho]
    refine ⟨q, q1, q2, ?_⟩
    obtain ⟨f1, f2⟩ := mk_fin_ok a q q1 b (by rw [← mt_len a q q1]; exact h2)
    cases hc : mk_fin.contains (a, b) with
    | false => exact Or.inl (f1 hc)
    | true =>
      rw [hc] at h3
      simp only [Bool.not_true, Bool.false_or, Bool.and_eq_true, decide_eq_true_eq] at h3
      obtain ⟨rfl, hlt⟩ := h3
      rcases hi with hi | ⟨hi1, hi2⟩
      · omega
      · exact Or.inr ⟨(f2 hc).1, hi1, by rw [(f2 hc).2, ← hi2, ho]⟩
  | new idx =>
    show ∃ q, _ ∧ _
    rw [ho]; exact mk_C_ok _ (List.contains_iff_mem.mp h)
  | newarray t =>
    simp only [mk_chk, Bool.and_eq_true, decide_eq_true_eq] at h
    refine ⟨h.1, ?_⟩
    have e : a = 100 ∨ a = 101 ∨ a = 102 ∨ a = 103 := by omega
    rcases e with rfl | rfl | rfl | rfl
    · exact mk_ac100
    · exact mk_ac101
    · exact mk_ac102
    · exact mk_ac103
  | anewarray idx =>
    show ∃ C, _ ∧ _
    rw [ho]; exact mk_A_ok _ (List.contains_iff_mem.mp h)
  | ireturn =>
    simp only [mk_chk, Bool.or_eq_true, Bool.and_eq_true, beq_iff_eq, decide_eq_true_eq] at h
    show (b = 0 → (mc_M y).2.2.2 = some .int) ∧ (b = 3 → (mc_M y).2.2.2 = some .boolean) ∧ (b = 4 → (mc_M y).2.2.2 = some .char) ∧ (b = 5 → (mc_M y).2.2.2 = some .byte)
    rw [hrt]
    rcases h with ⟨rfl, h⟩ | ⟨rfl, h⟩ | ⟨rfl, h⟩ | ⟨rfl, h⟩
    · exact ⟨fun _ => h, fun z => (by cases z), fun z => (by cases z), fun z => (by cases z)⟩
    · exact ⟨fun z => (by cases z), fun _ => h, fun z => (by cases z), fun z => (by cases z)⟩
    · exact ⟨fun z => (by cases z), fun z => (by cases z), fun _ => h, fun z => (by cases z)⟩
    · exact ⟨fun z => (by cases z), fun z => (by cases z), fun z => (by cases z), fun _ => h⟩
  | lreturn =>
    show (mc_M y).2.2.2 = some .long
    rw [hrt]; exact of_decide_eq_true h
  | areturn =>
    show ∃ rt, (mc_M y).2.2.2 = some rt ∧ _
    rw [hrt]
    match rt, h with
    | some (.object n), _ => exact ⟨_, rfl, Or.inl ⟨n, rfl⟩⟩
    | some (.array t), _ => exact ⟨_, rfl, Or.inr ⟨t, rfl⟩⟩
  | return_ =>
    show (mc_M y).2.2.2 = none
    rw [hrt]; exact of_decide_eq_true h
  | invokevirtual idx =>
    simp only [mk_chk, Bool.or_eq_true, Bool.and_eq_true, beq_iff_eq, decide_eq_true_eq] at h
    show (b < 15 → _) ∧ (b = 90 → _) ∧ (b = 91 → _)
    rw [ho]
    rcases h with ⟨hb, h⟩ | ⟨rfl, h⟩ | ⟨rfl, h⟩
    · exact ⟨fun _ => mk_V_ok _ (List.contains_iff_mem.mp h), fun z => absurd hb (by omega), fun z => absurd hb (by omega)⟩
    · exact ⟨fun z => absurd z (by omega), fun _ => mk_W_ok _ (List.contains_iff_mem.mp h), fun z => (by cases z)⟩
    · exact ⟨fun z => absurd z (by omega), fun z => (by cases z), fun _ => mk_Q_ok _ (List.contains_iff_mem.mp h)⟩
  | invokestatic idx =>
    simp only [mk_chk, Bool.or_eq_true, Bool.and_eq_true, beq_iff_eq] at h
    show (b = 0 → _) ∧ (b = 20 → _) ∧ (b = 21 → _) ∧ (b = 22 → _) ∧ (b = 23 → _) ∧ (b = 24 → _) ∧ (b = 25 → _) ∧ (b = 30 → _)
    rw [ho]
    rcases h with rfl | ⟨rfl, h⟩ | ⟨rfl, h⟩ | ⟨rfl, h⟩ | ⟨rfl, h⟩ | ⟨rfl, h⟩ | ⟨rfl, h⟩ | ⟨rfl, h⟩ | ⟨rfl, h⟩
    · exact ⟨fun z => (by cases z), fun z => (by cases z), fun z => (by cases z), fun z => (by cases z), fun z => (by cases z), fun z => (by cases z), fun z => (by cases z), fun z => (by cases z)⟩
    · exact ⟨fun _ => mk_S_ok _ (List.contains_iff_mem.mp h), fun z => (by cases z), fun z => (by cases z), fun z => (by cases z), fun z => (by cases z), fun z => (by cases z), fun z => (by cases z), fun z => (by cases z)⟩
    · exact ⟨fun z => (by cases z), fun _ => mk_M20__ok _ (List.contains_iff_mem.mp h), fun z => (by cases z), fun z => (by cases z), fun z => (by cases z), fun z => (by cases z), fun z => (by cases z), fun z => (by cases z)⟩
    · exact ⟨fun z => (by cases z), fun z => (by cases z), fun _ => mk_M21__ok _ (List.contains_iff_mem.mp h), fun z => (by cases z), fun z => (by cases z), fun z => (by cases z), fun z => (by cases z), fun z => (by cases z)⟩
    · exact ⟨fun z => (by cases z), fun z => (by cases z), fun z => (by cases z), fun _ => mk_M22__ok _ (List.contains_iff_mem.mp h), fun z => (by cases z), fun z => (by cases z), fun z => (by cases z), fun z => (by cases z)⟩
    · exact ⟨fun z => (by cases z), fun z => (by cases z), fun z => (by cases z), fun z => (by cases z), fun _ => mk_M23__ok _ (List.contains_iff_mem.mp h), fun z => (by cases z), fun z => (by cases z), fun z => (by cases z)⟩
    · exact ⟨fun z => (by cases z), fun z => (by cases z), fun z => (by cases z), fun z => (by cases z), fun z => (by cases z), fun _ => mk_M24__ok _ (List.contains_iff_mem.mp h), fun z => (by cases z), fun z => (by cases z)⟩
    · exact ⟨fun z => (by cases z), fun z => (by cases z), fun z => (by cases z), fun z => (by cases z), fun z => (by cases z), fun z => (by cases z), fun _ => mk_M25__ok _ (List.contains_iff_mem.mp h), fun z => (by cases z)⟩
    · exact ⟨fun z => (by cases z), fun z => (by cases z), fun z => (by cases z), fun z => (by cases z), fun z => (by cases z), fun z => (by cases z), fun z => (by cases z), fun _ => mk_P_ok _ (List.contains_iff_mem.mp h)⟩
  | invokespecial idx =>
    simp only [mk_chk, Bool.or_eq_true, Bool.and_eq_true, beq_iff_eq] at h
    show (b = 1 → _) ∧ (¬ b = 1 → _)
    rw [ho]
    rcases h with ⟨rfl, h⟩ | ⟨rfl, h⟩ | ⟨rfl, h⟩
    · exact ⟨fun _ => mk_O_ok _ (List.contains_iff_mem.mp h), fun z => absurd rfl z⟩
    · obtain ⟨g1, g2, g3, g4, g5⟩ := mk_I_ok _ (List.contains_iff_mem.mp h)
      exact ⟨fun z => (by cases z), fun _ => ⟨g1, g2, g3, g4, Or.inl ⟨by decide, g5⟩⟩⟩
    · obtain ⟨g1, g2, g3, g4, host, g5⟩ := mk_N_ok _ (List.contains_iff_mem.mp h)
      exact ⟨fun z => (by cases z), fun _ => ⟨g1, g2, g3, g4, Or.inr ⟨host, rfl, g5⟩⟩⟩
  | _ => exact True.intro
/-- the check of a method's table -/
def mk_all (code : ByteArray) (o ini : Nat) (rt : Option FieldType) (l : List (Nat × me_E)) : Bool := l.all fun e => decide (decode code e.1 = .ok (e.2.1, e.2.2.1)) && (mk_len e.2.1 e.2.2.1 && mk_chk o ini rt e.2.1 e.2.2.2.1 e.2.2.2.2.1 e.2.2.2.2.2)
theorem me_lk_mem {l : List (Nat × me_E)} {pc : Nat} {e : me_E} (h : me_lk l pc = some e) : (pc, e) ∈ l := by
  induction l with
  | nil => cases h
  | cons x r ih =>
    obtain ⟨q, e'⟩ := x
    unfold me_lk at h
    split at h
    next hq =>
      cases h
      rw [Nat.eq_of_beq_eq_true hq]
      exact List.mem_cons_self
    next => exact List.mem_cons_of_mem _ (ih h)
/-- what a method's check gives -/
def mk_good (y : Nat) (l : List (Nat × me_E)) : Prop := ∀ (pc : Nat) (ins : Instr) (len a b : Nat) (v : Int), me_lk l pc = some (ins, len, a, b, v) → decode (mc_M y).2.1 pc = .ok (ins, len) ∧ ms_len ins len ∧ ms_fact mc_M y ins a b v
theorem mk_good_of {y o ini : Nat} {l : List (Nat × me_E)} (h : mk_all (mc_M y).2.1 o ini (mc_M y).2.2.2 l = true) (hw : (mc_M y).1.cls = mk_nm o ∧ (ini = 99 ∨ ((mc_M y).1.name = "<init>" ∧ (mc_M y).1.cls = mk_nm ini))) : mk_good y l := by
  intro pc ins len a b v hl
  have h1 := List.all_eq_true.mp h _ (me_lk_mem hl)
  simp only [Bool.and_eq_true, decide_eq_true_eq] at h1
  exact ⟨h1.1, mk_len_ok h1.2.1, mk_chk_ok h1.2.2 hw.1 hw.2 rfl⟩
/-- all methods: a chain of what holds for each -/
def mk_ch (Pr : Nat → List (Nat × me_E) → Prop) : List (List (Nat × me_E)) → Nat → Prop
  | [], _ => True
  | l :: r, k => Pr k l ∧ mk_ch Pr r (k + 1)
theorem mk_ch_at {Pr : Nat → List (Nat × me_E) → Prop} : ∀ (ls : List (List (Nat × me_E))) (k : Nat), mk_ch Pr ls k → ∀ (y : Nat) (l : List (Nat × me_E)), ls[y]? = some l → Pr (k + y) l := by
  intro ls
  induction ls with
  | nil => intro k _ y l h; simp at h
  | cons x r ih =>
    intro k hc y l h
    cases y with
    | zero => simp at h; subst h; exact hc.1
    | succ z =>
      have := ih (k + 1) hc.2 z l (by simpa using h)
      rw [show k + (z + 1) = k + 1 + z by omega]
      exact this
