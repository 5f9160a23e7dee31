/-! Math.floorDiv(long, 2) -/
def fd_code : ByteArray := ⟨#[0x1e, 0x20, 0x6d, 0x37, 0x04, 0x1e, 0x20, 0x83, 0x09, 0x94, 0x9c, 0x00, 0x11, 0x16, 0x04, 0x20, 0x69, 0x1e, 0x94, 0x99, 0x00, 0x08, 0x16, 0x04, 0x0a, 0x65, 0xad, 0x16, 0x04, 0xad]⟩
theorem fd_0 : decode fd_code 0 = .ok (.lload_n 0, 1) := by decide +kernel
theorem fd_1 : decode fd_code 1 = .ok (.lload_n 2, 1) := by decide +kernel
theorem fd_2 : decode fd_code 2 = .ok (.ldiv, 1) := by decide +kernel
theorem fd_3 : decode fd_code 3 = .ok (.lstore 4, 2) := by decide +kernel
theorem fd_5 : decode fd_code 5 = .ok (.lload_n 0, 1) := by decide +kernel
theorem fd_6 : decode fd_code 6 = .ok (.lload_n 2, 1) := by decide +kernel
theorem fd_7 : decode fd_code 7 = .ok (.lxor, 1) := by decide +kernel
theorem fd_8 : decode fd_code 8 = .ok (.lconst 0, 1) := by decide +kernel
theorem fd_9 : decode fd_code 9 = .ok (.lcmp, 1) := by decide +kernel
theorem fd_10 : decode fd_code 10 = .ok (.ifCond .ge 17, 3) := by decide +kernel
theorem fd_13 : decode fd_code 13 = .ok (.lload 4, 2) := by decide +kernel
theorem fd_15 : decode fd_code 15 = .ok (.lload_n 2, 1) := by decide +kernel
theorem fd_16 : decode fd_code 16 = .ok (.lmul, 1) := by decide +kernel
theorem fd_17 : decode fd_code 17 = .ok (.lload_n 0, 1) := by decide +kernel
theorem fd_18 : decode fd_code 18 = .ok (.lcmp, 1) := by decide +kernel
theorem fd_19 : decode fd_code 19 = .ok (.ifCond .eq 8, 3) := by decide +kernel
theorem fd_22 : decode fd_code 22 = .ok (.lload 4, 2) := by decide +kernel
theorem fd_24 : decode fd_code 24 = .ok (.lconst 1, 1) := by decide +kernel
theorem fd_25 : decode fd_code 25 = .ok (.lsub, 1) := by decide +kernel
theorem fd_26 : decode fd_code 26 = .ok (.lreturn, 1) := by decide +kernel
theorem fd_27 : decode fd_code 27 = .ok (.lload 4, 2) := by decide +kernel
theorem fd_29 : decode fd_code 29 = .ok (.lreturn, 1) := by decide +kernel
def fd_x : MethodName := ⟨"java/lang/Math", "floorDiv", "(JJ)J"⟩
theorem fd_noRow0 : (NativeRow.find? natives fd_x.cls fd_x.name fd_x.desc).isNone = true := by decide +kernel
theorem fd_noRow (p : Program) : NativeRow.find? p.tables.natives fd_x.cls fd_x.name fd_x.desc = none := by
  cases p <;> exact Option.isNone_iff_eq_none.mp fd_noRow0
def fd_q : Term := .op2 .ldiv (.arg 0) (.arg 1)
def fd_s : Cond := .lt (.op2 .lxor (.arg 0) (.arg 1)) (.long 0)
def fd_m : Cond := .eq (.op2 .lmul fd_q (.arg 1)) (.arg 0)
def fd_spec : Spec where
  pre := .and (.code fd_x fd_code 6 (some .long)) (.and (.and (.count 2) (.and (.isLong (.arg 0)) (.isLong (.arg 1)))) (.not (.eq (.arg 1) (.long 0))))
  post := .or (.and fd_s (.or (.and fd_m (.and .returned (.eq .result fd_q))) (.and (.not fd_m) (.and .returned (.eq .result (.op2 .lsub fd_q (.long 1))))))) (.and (.not fd_s) (.and .returned (.eq .result fd_q)))
  changes := some []
theorem fd_meets (l : Launch) : MeetsLoose l fd_x fd_spec := by
  refine MeetsLoose.of_body_ov (code := fd_code) (maxLocals := 6) (ret := some .long) fd_noRow ?_ ?_
  · intro args s h
    simp only [fd_spec, Cond.before_and, Bool.and_eq_true] at h
    exact h.1
  · intro p e s m args below meth c s₁ B
    have hpre := B.pre
    simp only [fd_spec, Cond.before_and, Bool.and_eq_true] at hpre
    obtain ⟨a, b, rfl⟩ := Lib.MathLoose.two_longs hpre.2.1.1 hpre.2.1.2.1 hpre.2.1.2.2
    have hb0 : ¬ b = 0 := by
      have q := hpre.2.2
      intro z
      subst z
      simp [Cond.before, Cond.holds, Cond.value, Term.eval] at q
    have hloc : argsToLocals #[.long a, .long b] 6 = #[.val (.long a), .second, .val (.long b), .second, .unset, .unset] := rfl
    have fin : ∀ r : Int64, (∀ fs, Steps p.tables e below (s₁.setTop (entryFrame m #[.long a, .long b] 6)) (s₁.setFrames fs) ∨ handOver s₁ (some (.long r)) below ≠ some fs) →
        (fd_spec.post.after #[.long a, .long b] s (.returned (some (.long r))) = fun _ => true) →
        ∃ s₂ o, Steps p.tables e below (s₁.setTop (entryFrame m #[.long a, .long b] 6)) s₂ ∧ s₂.status = .running ∧ Ended s₂ below o ∧
          fd_spec.ensures #[.long a, .long b] s o s₂ := by
      intro r hwalk hpost
      obtain ⟨fs, hfs⟩ := handOver_isSome (s := s₁) (some (.long r)) B.hears₁
      refine ⟨s₁.setFrames fs, .returned (some (.long r)), (hwalk fs).resolve_right (fun h => h hfs), B.here.running, B.ended hfs (by intro h; cases h), ?_, State.sameBut_nil.mpr ?_⟩
      · rw [hpost]
      · rw [State.frames_setFrames _ B.cur₁, B.back]
    by_cases h1 : a ^^^ b < 0
    · have g1 : ¬ 0 < a ^^^ b := fun z => by rw [Int64.lt_iff_toInt_lt] at z h1; omega
      have g2 : ¬ a ^^^ b = 0 := fun z => by rw [z] at h1; exact absurd h1 (by decide)
      by_cases h2 : a / b * b = a
      · refine fin (a / b) (fun fs => ?_) (by funext s'; simp [fd_spec, fd_s, fd_m, fd_q, Cond.after, Cond.holds, Cond.value, Term.eval, Binary.apply, hb0, h1, h2])
        by_cases hfs : handOver s₁ (some (.long (a / b))) below = some fs
        · left
          unfold entryFrame; rw [hloc]
          refine Steps.instrAtOv (c := _) (by simpa using B.here) ?_
          simp [jvm, wpRun, exec, B.here.top, B.exec, B.bytes, fd_0]
          refine Steps.instrAtOv (c := _) (by simpa using B.here) ?_
          simp [jvm, wpRun, exec, B.here.top, B.exec, B.bytes, fd_1]
          refine Steps.instrAtOv (c := _) (by simpa using B.here) ?_
          simp [jvm, wpRun, exec, B.here.top, B.exec, B.bytes, fd_2, hb0]
          refine Steps.instrAtOv (c := _) (by simpa using B.here) ?_
          simp [jvm, wpRun, exec, B.here.top, B.exec, B.bytes, fd_3]
          refine ⟨#[.val (.long a), .second, .val (.long b), .second, .val (.long (a / b)), .second], rfl, ?_⟩
          refine Steps.instrAtOv (c := _) (by simpa using B.here) ?_
          simp [jvm, wpRun, exec, B.here.top, B.exec, B.bytes, fd_5]
          refine Steps.instrAtOv (c := _) (by simpa using B.here) ?_
          simp [jvm, wpRun, exec, B.here.top, B.exec, B.bytes, fd_6]
          refine Steps.instrAtOv (c := _) (by simpa using B.here) ?_
          simp [jvm, wpRun, exec, B.here.top, B.exec, B.bytes, fd_7]
          refine Steps.instrAtOv (c := _) (by simpa using B.here) ?_
          simp [jvm, wpRun, exec, B.here.top, B.exec, B.bytes, fd_8]
          refine Steps.instrAtOv (c := _) (by simpa using B.here) ?_
          simp [jvm, wpRun, exec, B.here.top, B.exec, B.bytes, fd_9, g1, g2]
          refine Steps.instrAtOv (c := _) (by simpa using B.here) ?_
          simp [jvm, wpRun, exec, B.here.top, B.exec, B.bytes, fd_10, ifCond.holds]
          refine Steps.instrAtOv (c := _) (by simpa using B.here) ?_
          simp [jvm, wpRun, exec, B.here.top, B.exec, B.bytes, fd_13]
          refine Steps.instrAtOv (c := _) (by simpa using B.here) ?_
          simp [jvm, wpRun, exec, B.here.top, B.exec, B.bytes, fd_15]
          refine Steps.instrAtOv (c := _) (by simpa using B.here) ?_
          simp [jvm, wpRun, exec, B.here.top, B.exec, B.bytes, fd_16]
          refine Steps.instrAtOv (c := _) (by simpa using B.here) ?_
          simp [jvm, wpRun, exec, B.here.top, B.exec, B.bytes, fd_17]
          refine Steps.instrAtOv (c := _) (by simpa using B.here) ?_
          simp [jvm, wpRun, exec, B.here.top, B.exec, B.bytes, fd_18, h2]
          refine Steps.instrAtOv (c := _) (by simpa using B.here) ?_
          simp [jvm, wpRun, exec, B.here.top, B.exec, B.bytes, fd_19, ifCond.holds]
          refine Steps.instrAtOv (c := _) (by simpa using B.here) ?_
          simp [jvm, wpRun, exec, B.here.top, B.exec, B.bytes, fd_27]
          refine Steps.instrAtOv (c := _) (by simpa using B.here) ?_
          simp [jvm, wpRun, exec, B.here.top, B.exec, B.bytes, fd_29, B.method₁, B.returns]
          intro acts
          rw [ret_to B.frames₁ B.method₁ B.notSynchronized rfl rfl hfs]
          exact Steps.refl _
        · exact Or.inr hfs
      · refine fin (a / b - 1) (fun fs => ?_) (by funext s'; simp [fd_spec, fd_s, fd_m, fd_q, Cond.after, Cond.holds, Cond.value, Term.eval, Binary.apply, hb0, h1, h2])
        by_cases h3 : a < a / b * b
        · by_cases hfs : handOver s₁ (some (.long (a / b - 1))) below = some fs
          · left
            unfold entryFrame; rw [hloc]
            refine Steps.instrAtOv (c := _) (by simpa using B.here) ?_
            simp [jvm, wpRun, exec, B.here.top, B.exec, B.bytes, fd_0]
            refine Steps.instrAtOv (c := _) (by simpa using B.here) ?_
            simp [jvm, wpRun, exec, B.here.top, B.exec, B.bytes, fd_1]
            refine Steps.instrAtOv (c := _) (by simpa using B.here) ?_
            simp [jvm, wpRun, exec, B.here.top, B.exec, B.bytes, fd_2, hb0]
            refine Steps.instrAtOv (c := _) (by simpa using B.here) ?_
            simp [jvm, wpRun, exec, B.here.top, B.exec, B.bytes, fd_3]
            refine ⟨#[.val (.long a), .second, .val (.long b), .second, .val (.long (a / b)), .second], rfl, ?_⟩
            refine Steps.instrAtOv (c := _) (by simpa using B.here) ?_
            simp [jvm, wpRun, exec, B.here.top, B.exec, B.bytes, fd_5]
            refine Steps.instrAtOv (c := _) (by simpa using B.here) ?_
            simp [jvm, wpRun, exec, B.here.top, B.exec, B.bytes, fd_6]
            refine Steps.instrAtOv (c := _) (by simpa using B.here) ?_
            simp [jvm, wpRun, exec, B.here.top, B.exec, B.bytes, fd_7]
            refine Steps.instrAtOv (c := _) (by simpa using B.here) ?_
            simp [jvm, wpRun, exec, B.here.top, B.exec, B.bytes, fd_8]
            refine Steps.instrAtOv (c := _) (by simpa using B.here) ?_
            simp [jvm, wpRun, exec, B.here.top, B.exec, B.bytes, fd_9, g1, g2]
            refine Steps.instrAtOv (c := _) (by simpa using B.here) ?_
            simp [jvm, wpRun, exec, B.here.top, B.exec, B.bytes, fd_10, ifCond.holds]
            refine Steps.instrAtOv (c := _) (by simpa using B.here) ?_
            simp [jvm, wpRun, exec, B.here.top, B.exec, B.bytes, fd_13]
            refine Steps.instrAtOv (c := _) (by simpa using B.here) ?_
            simp [jvm, wpRun, exec, B.here.top, B.exec, B.bytes, fd_15]
            refine Steps.instrAtOv (c := _) (by simpa using B.here) ?_
            simp [jvm, wpRun, exec, B.here.top, B.exec, B.bytes, fd_16]
            refine Steps.instrAtOv (c := _) (by simpa using B.here) ?_
            simp [jvm, wpRun, exec, B.here.top, B.exec, B.bytes, fd_17]
            refine Steps.instrAtOv (c := _) (by simpa using B.here) ?_
            simp [jvm, wpRun, exec, B.here.top, B.exec, B.bytes, fd_18, h2, h3]
            refine Steps.instrAtOv (c := _) (by simpa using B.here) ?_
            simp [jvm, wpRun, exec, B.here.top, B.exec, B.bytes, fd_19, ifCond.holds]
            refine Steps.instrAtOv (c := _) (by simpa using B.here) ?_
            simp [jvm, wpRun, exec, B.here.top, B.exec, B.bytes, fd_22]
            refine Steps.instrAtOv (c := _) (by simpa using B.here) ?_
            simp [jvm, wpRun, exec, B.here.top, B.exec, B.bytes, fd_24]
            refine Steps.instrAtOv (c := _) (by simpa using B.here) ?_
            simp [jvm, wpRun, exec, B.here.top, B.exec, B.bytes, fd_25]
            refine Steps.instrAtOv (c := _) (by simpa using B.here) ?_
            simp [jvm, wpRun, exec, B.here.top, B.exec, B.bytes, fd_26, B.method₁, B.returns]
            intro acts
            rw [ret_to B.frames₁ B.method₁ B.notSynchronized rfl rfl hfs]
            exact Steps.refl _
          · exact Or.inr hfs
        · by_cases hfs : handOver s₁ (some (.long (a / b - 1))) below = some fs
          · left
            unfold entryFrame; rw [hloc]
            refine Steps.instrAtOv (c := _) (by simpa using B.here) ?_
            simp [jvm, wpRun, exec, B.here.top, B.exec, B.bytes, fd_0]
            refine Steps.instrAtOv (c := _) (by simpa using B.here) ?_
            simp [jvm, wpRun, exec, B.here.top, B.exec, B.bytes, fd_1]
            refine Steps.instrAtOv (c := _) (by simpa using B.here) ?_
            simp [jvm, wpRun, exec, B.here.top, B.exec, B.bytes, fd_2, hb0]
            refine Steps.instrAtOv (c := _) (by simpa using B.here) ?_
            simp [jvm, wpRun, exec, B.here.top, B.exec, B.bytes, fd_3]
            refine ⟨#[.val (.long a), .second, .val (.long b), .second, .val (.long (a / b)), .second], rfl, ?_⟩
            refine Steps.instrAtOv (c := _) (by simpa using B.here) ?_
            simp [jvm, wpRun, exec, B.here.top, B.exec, B.bytes, fd_5]
            refine Steps.instrAtOv (c := _) (by simpa using B.here) ?_
            simp [jvm, wpRun, exec, B.here.top, B.exec, B.bytes, fd_6]
            refine Steps.instrAtOv (c := _) (by simpa using B.here) ?_
            simp [jvm, wpRun, exec, B.here.top, B.exec, B.bytes, fd_7]
            refine Steps.instrAtOv (c := _) (by simpa using B.here) ?_
            simp [jvm, wpRun, exec, B.here.top, B.exec, B.bytes, fd_8]
            refine Steps.instrAtOv (c := _) (by simpa using B.here) ?_
            simp [jvm, wpRun, exec, B.here.top, B.exec, B.bytes, fd_9, g1, g2]
            refine Steps.instrAtOv (c := _) (by simpa using B.here) ?_
            simp [jvm, wpRun, exec, B.here.top, B.exec, B.bytes, fd_10, ifCond.holds]
            refine Steps.instrAtOv (c := _) (by simpa using B.here) ?_
            simp [jvm, wpRun, exec, B.here.top, B.exec, B.bytes, fd_13]
            refine Steps.instrAtOv (c := _) (by simpa using B.here) ?_
            simp [jvm, wpRun, exec, B.here.top, B.exec, B.bytes, fd_15]
            refine Steps.instrAtOv (c := _) (by simpa using B.here) ?_
            simp [jvm, wpRun, exec, B.here.top, B.exec, B.bytes, fd_16]
            refine Steps.instrAtOv (c := _) (by simpa using B.here) ?_
            simp [jvm, wpRun, exec, B.here.top, B.exec, B.bytes, fd_17]
            refine Steps.instrAtOv (c := _) (by simpa using B.here) ?_
            simp [jvm, wpRun, exec, B.here.top, B.exec, B.bytes, fd_18, h2, h3]
            refine Steps.instrAtOv (c := _) (by simpa using B.here) ?_
            simp [jvm, wpRun, exec, B.here.top, B.exec, B.bytes, fd_19, ifCond.holds]
            refine Steps.instrAtOv (c := _) (by simpa using B.here) ?_
            simp [jvm, wpRun, exec, B.here.top, B.exec, B.bytes, fd_22]
            refine Steps.instrAtOv (c := _) (by simpa using B.here) ?_
            simp [jvm, wpRun, exec, B.here.top, B.exec, B.bytes, fd_24]
            refine Steps.instrAtOv (c := _) (by simpa using B.here) ?_
            simp [jvm, wpRun, exec, B.here.top, B.exec, B.bytes, fd_25]
            refine Steps.instrAtOv (c := _) (by simpa using B.here) ?_
            simp [jvm, wpRun, exec, B.here.top, B.exec, B.bytes, fd_26, B.method₁, B.returns]
            intro acts
            rw [ret_to B.frames₁ B.method₁ B.notSynchronized rfl rfl hfs]
            exact Steps.refl _
          · exact Or.inr hfs
    · refine fin (a / b) (fun fs => ?_) (by funext s'; simp [fd_spec, fd_s, fd_m, fd_q, Cond.after, Cond.holds, Cond.value, Term.eval, Binary.apply, hb0, h1])
      by_cases g1 : 0 < a ^^^ b
      · by_cases hfs : handOver s₁ (some (.long (a / b))) below = some fs
        · left
          unfold entryFrame; rw [hloc]
          refine Steps.instrAtOv (c := _) (by simpa using B.here) ?_
          simp [jvm, wpRun, exec, B.here.top, B.exec, B.bytes, fd_0]
          refine Steps.instrAtOv (c := _) (by simpa using B.here) ?_
          simp [jvm, wpRun, exec, B.here.top, B.exec, B.bytes, fd_1]
          refine Steps.instrAtOv (c := _) (by simpa using B.here) ?_
          simp [jvm, wpRun, exec, B.here.top, B.exec, B.bytes, fd_2, hb0]
          refine Steps.instrAtOv (c := _) (by simpa using B.here) ?_
          simp [jvm, wpRun, exec, B.here.top, B.exec, B.bytes, fd_3]
          refine ⟨#[.val (.long a), .second, .val (.long b), .second, .val (.long (a / b)), .second], rfl, ?_⟩
          refine Steps.instrAtOv (c := _) (by simpa using B.here) ?_
          simp [jvm, wpRun, exec, B.here.top, B.exec, B.bytes, fd_5]
          refine Steps.instrAtOv (c := _) (by simpa using B.here) ?_
          simp [jvm, wpRun, exec, B.here.top, B.exec, B.bytes, fd_6]
          refine Steps.instrAtOv (c := _) (by simpa using B.here) ?_
          simp [jvm, wpRun, exec, B.here.top, B.exec, B.bytes, fd_7]
          refine Steps.instrAtOv (c := _) (by simpa using B.here) ?_
          simp [jvm, wpRun, exec, B.here.top, B.exec, B.bytes, fd_8]
          refine Steps.instrAtOv (c := _) (by simpa using B.here) ?_
          simp [jvm, wpRun, exec, B.here.top, B.exec, B.bytes, fd_9, g1]
          refine Steps.instrAtOv (c := _) (by simpa using B.here) ?_
          simp [jvm, wpRun, exec, B.here.top, B.exec, B.bytes, fd_10, ifCond.holds]
          refine Steps.instrAtOv (c := _) (by simpa using B.here) ?_
          simp [jvm, wpRun, exec, B.here.top, B.exec, B.bytes, fd_27]
          refine Steps.instrAtOv (c := _) (by simpa using B.here) ?_
          simp [jvm, wpRun, exec, B.here.top, B.exec, B.bytes, fd_29, B.method₁, B.returns]
          intro acts
          rw [ret_to B.frames₁ B.method₁ B.notSynchronized rfl rfl hfs]
          exact Steps.refl _
        · exact Or.inr hfs
      · have g2 : a ^^^ b = 0 := Int64.toInt_inj.mp (by rw [Int64.lt_iff_toInt_lt] at g1 h1; have e : (0 : Int64).toInt = 0 := rfl; omega)
        by_cases hfs : handOver s₁ (some (.long (a / b))) below = some fs
        · left
          unfold entryFrame; rw [hloc]
          refine Steps.instrAtOv (c := _) (by simpa using B.here) ?_
          simp [jvm, wpRun, exec, B.here.top, B.exec, B.bytes, fd_0]
          refine Steps.instrAtOv (c := _) (by simpa using B.here) ?_
          simp [jvm, wpRun, exec, B.here.top, B.exec, B.bytes, fd_1]
          refine Steps.instrAtOv (c := _) (by simpa using B.here) ?_
          simp [jvm, wpRun, exec, B.here.top, B.exec, B.bytes, fd_2, hb0]
          refine Steps.instrAtOv (c := _) (by simpa using B.here) ?_
          simp [jvm, wpRun, exec, B.here.top, B.exec, B.bytes, fd_3]
          refine ⟨#[.val (.long a), .second, .val (.long b), .second, .val (.long (a / b)), .second], rfl, ?_⟩
          refine Steps.instrAtOv (c := _) (by simpa using B.here) ?_
          simp [jvm, wpRun, exec, B.here.top, B.exec, B.bytes, fd_5]
          refine Steps.instrAtOv (c := _) (by simpa using B.here) ?_
          simp [jvm, wpRun, exec, B.here.top, B.exec, B.bytes, fd_6]
          refine Steps.instrAtOv (c := _) (by simpa using B.here) ?_
          simp [jvm, wpRun, exec, B.here.top, B.exec, B.bytes, fd_7]
          refine Steps.instrAtOv (c := _) (by simpa using B.here) ?_
          simp [jvm, wpRun, exec, B.here.top, B.exec, B.bytes, fd_8]
          refine Steps.instrAtOv (c := _) (by simpa using B.here) ?_
          simp [jvm, wpRun, exec, B.here.top, B.exec, B.bytes, fd_9, g1, g2]
          refine Steps.instrAtOv (c := _) (by simpa using B.here) ?_
          simp [jvm, wpRun, exec, B.here.top, B.exec, B.bytes, fd_10, ifCond.holds]
          refine Steps.instrAtOv (c := _) (by simpa using B.here) ?_
          simp [jvm, wpRun, exec, B.here.top, B.exec, B.bytes, fd_27]
          refine Steps.instrAtOv (c := _) (by simpa using B.here) ?_
          simp [jvm, wpRun, exec, B.here.top, B.exec, B.bytes, fd_29, B.method₁, B.returns]
          intro acts
          rw [ret_to B.frames₁ B.method₁ B.notSynchronized rfl rfl hfs]
          exact Steps.refl _
        · exact Or.inr hfs

section FDL
variable {p : Program} {l : Launch} {e : Env} {R : Room} {s : State} {m : MethodId} {args : Array Value} {below : List Frame} {meth : Method} {c : Code} {T : State} {locs : List Loc} {cells slots : Nat}
theorem fd_stand (X : Stand p l e R s m args below meth c T locs cells slots) (hexec : p.tables.exec = Jvm.exec) {own : String} {index : Nat} (hown : s.vm.findClass own = some m.cls)
    (hlink : (Cond.methodLink own index fd_x).before args s = true) (hstat : (Cond.static fd_x).before args s = true) (hinit : (Cond.initialized "java/lang/Math").before args s = true)
    (hcode : (Cond.code fd_x fd_code 6 (some .long)).before args s = true)
    {g : JFrame} (hg : g.method = m) (hsize : g.locals.size = c.maxLocals) {a b : Int64} (hb0 : ¬ b = 0) {rest : List Value} (hstack : g.stack = .long b :: .long a :: rest) (hdg : decode c.code g.pc = .ok (.invokestatic index, 3))
    (hframes : 1 ≤ R.frames) (hlocals : 2 * g.monitorRoom + (rest.map fun v => v.category).sum + 17 ≤ R.locals) (hcells : cells ≤ R.cells) (hslots : slots ≤ R.slots) :
    ∃ vm', Stand p l e R s m args below meth c (T.setVm vm') locs cells slots ∧
      ∀ target, Steps p.tables e below ((T.setVm vm').setTop { g with pc := g.pc + 3, stack := .long (fd_v a b) :: rest }) target → Steps p.tables e below (T.setTop g) target := by
  obtain ⟨v, T', X', ⟨first, t, hpost⟩, hstep⟩ := X.staticByContractV hexec hown hlink hstat hinit hcode (by decide)
    (fd_meets l)
    rfl rfl rfl rfl
    (fun args' first o s₂ h => by
      cases o with
      | returned r => exact ⟨r, rfl⟩
      | threw y =>
        have hz : fd_spec.post.value args' first (some (.threw y)) s₂ [] = some true := by simpa [Cond.after, Cond.holds] using h
        exact absurd hz (va_nvOr (va_nvAnd (va_nvOr (va_nvAnd va_nvRet) (va_nvAnd va_nvRet))) (va_nvAnd va_nvRet)))
    hg hsize (argsL := [.long a, .long b]) (rest := rest)
    (fun sig hs => by
      have h : parseMethodDescriptor "(JJ)J" = some { parameters := [.long, .long], returnType := some .long } := by decide +kernel
      rw [show fd_x.desc = "(JJ)J" from rfl, h] at hs
      rw [← Option.some.inj hs]; rfl)
    hstack hdg
    (fun vm' hW => by
      simp only [fd_spec, Cond.before_and, Bool.and_eq_true]
      refine ⟨?_, ⟨rfl, rfl, rfl⟩, ?_⟩
      · have q := hcode
        rw [← Cond.code_setVm hW.alike] at q
        simp only [Cond.before, Cond.holds, Cond.value, State.methodNamed?, State.vm_setVm] at q ⊢
        exact q
      · simp [Cond.before, Cond.holds, Cond.value, Term.eval, hb0])
    (by show 0 + 1 ≤ R.frames; omega) (by show 2 * g.monitorRoom + (rest.map fun v => v.category).sum + (6 + 11) + 0 ≤ R.locals; omega) (by show cells + 0 ≤ R.cells; omega) (by show slots + 0 ≤ R.slots; omega)
  refine ⟨T', X', fun target h => hstep target ?_⟩
  unfold fd_v at h
  by_cases h1 : a ^^^ b < 0
  · rw [if_pos h1] at h
    by_cases h2 : a / b * b = a
    · rw [if_pos h2] at h
      obtain rfl : v = some (.long (a / b)) := by
        rcases v with _ | w
        · simp [fd_spec, fd_s, fd_m, fd_q, Cond.after, Cond.holds, Cond.value, Term.eval, Binary.apply, hb0, h1, h2] at hpost
        · cases w <;> simp [fd_spec, fd_s, fd_m, fd_q, Cond.after, Cond.holds, Cond.value, Term.eval, Binary.apply, hb0, h1, h2] at hpost
          rename_i r; by_cases hr : r = a / b <;> simp [hr] at hpost ⊢
      exact h
    · rw [if_neg h2] at h
      obtain rfl : v = some (.long (a / b - 1)) := by
        rcases v with _ | w
        · simp [fd_spec, fd_s, fd_m, fd_q, Cond.after, Cond.holds, Cond.value, Term.eval, Binary.apply, hb0, h1, h2] at hpost
        · cases w <;> simp [fd_spec, fd_s, fd_m, fd_q, Cond.after, Cond.holds, Cond.value, Term.eval, Binary.apply, hb0, h1, h2] at hpost
          rename_i r; by_cases hr : r = a / b - 1 <;> simp [hr] at hpost ⊢
      exact h
  · rw [if_neg h1] at h
    obtain rfl : v = some (.long (a / b)) := by
      rcases v with _ | w
      · simp [fd_spec, fd_s, fd_m, fd_q, Cond.after, Cond.holds, Cond.value, Term.eval, Binary.apply, hb0, h1] at hpost
      · cases w <;> simp [fd_spec, fd_s, fd_m, fd_q, Cond.after, Cond.holds, Cond.value, Term.eval, Binary.apply, hb0, h1] at hpost
        rename_i r; by_cases hr : r = a / b <;> simp [hr] at hpost ⊢
    exact h
end FDL
section FDW
variable {p : Program} {l : Launch} {e : Env} {R : Room} {s : State} {m : MethodId} {args : Array Value} {below : List Frame} {meth : Method} {c : Code} {H : Heap} {locs : List Loc} {cells slots : Nat} {Q : State → Prop}
variable {pc : Nat} {ls : Array Slot} {rest : List Value}
theorem fd_W {cc : ByteArray} (hexec : p.tables.exec = Jvm.exec) (hb : c.code = cc) (hml : c.maxLocals = ls.size) {own : String} {index : Nat} (hown : s.vm.findClass own = some m.cls) (hlink : (Cond.methodLink own index fd_x).before args s = true) (hstat : (Cond.static fd_x).before args s = true) (hini : (Cond.initialized "java/lang/Math").before args s = true) (hcode : (Cond.code fd_x fd_code 6 (some .long)).before args s = true)
    (hframes : 1 ≤ R.frames) (hlocals : (rest.map fun v => v.category).sum + 17 ≤ R.locals) (hc : cells ≤ R.cells) (hs : slots ≤ R.slots) {x y : Int64} (hy : ¬ y = 0) (hdg : decode cc pc = .ok (.invokestatic index, 3))
    (kk : W p l e R s m args below meth c H locs cells slots Q (F0 m (pc + 3) ls (.long (fd_v x y) :: rest))) : W p l e R s m args below meth c H locs cells slots Q (F0 m pc ls (.long y :: .long x :: rest)) := by
  intro T hT X
  obtain ⟨vm', X', st⟩ := fd_stand X hexec hown hlink hstat hini hcode (g := F0 m pc ls (.long y :: .long x :: rest)) rfl (by rw [hml]) (a := x) (b := y) hy (rest := rest) rfl (by rw [hb]; exact hdg) hframes (by show 2 * 0 + _ + 17 ≤ _; omega) hc hs
  obtain ⟨t, a1, b1⟩ := kk (T.setVm vm') hT X'
  exact ⟨t, st t a1, b1⟩
end FDW
