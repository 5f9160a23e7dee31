/-! rules of methods, by program (wip/whole/srule.py) -/
section SR
variable {d : Nat} {Q : Option Value → mh_H → Prop} {st : List Value} {h : mh_H}
/-! InvariantDeskModel.comma()V -/
theorem mj_386_0 : mc_P 386 0 = some (.aload_n 0, 1, 0, 0, 0) := by decide +kernel
theorem s_386_0 {w : Value} : mw d 386 Q 0 [some w] (st) h = mv_a w (mw d 386 Q 1 [some w] (w :: st) h) := (mw_at mj_386_0).trans (z_aload_n rfl)
theorem mj_386_1 : mc_P 386 1 = some (.getfield 550, 3, 14, 69, 0) := by decide +kernel
theorem s_386_1 {x0 : Option Value} {o : Nat} : mw d 386 Q 1 [x0] (.ref o :: st) h = (mg h o 14 ∧ mw d 386 Q 4 [x0] (.int (mh_i h o 69) :: st) h) := (mw_at mj_386_1).trans (z_geti (by decide) (by decide) (Or.inl rfl))
theorem mj_386_4 : mc_P 386 4 = some (.ifCond .le 10, 3, 0, 0, 0) := by decide +kernel
theorem s_386_4 {x0 : Option Value} {x : Int32} : mw d 386 Q 4 [x0] (.int x :: st) h = mB (x ≤ 0) (mw d 386 Q) 14 7 [x0] st h := (mw_at mj_386_4).trans (z_if_le (by decide) rfl)
theorem mj_386_7 : mc_P 386 7 = some (.aload_n 0, 1, 0, 0, 0) := by decide +kernel
theorem s_386_7 {w : Value} : mw d 386 Q 7 [some w] (st) h = mv_a w (mw d 386 Q 8 [some w] (w :: st) h) := (mw_at mj_386_7).trans (z_aload_n rfl)
theorem mj_386_8 : mc_P 386 8 = some (.ldc_w 553, 3, 81, 1, 0) := by decide +kernel
theorem s_386_8 {x0 : Option Value} : mw d 386 Q 8 [x0] (st) h = mw d 386 Q 11 [x0] (.retAddr 81 :: st) h := (mw_at mj_386_8).trans (z_ldcW)
theorem mj_386_11 : mc_P 386 11 = some (.invokevirtual 555, 3, 384, 14, 2) := by decide +kernel
theorem s_386_11 {x0 : Option Value} {o : Nat} {a1 : Value} : mw (d + 1) 386 Q 11 [x0] (a1 :: .ref o :: st) h = (mg h o 14 ∧ mca st 8 ∧ mca [.ref o, a1] 3 ∧ mcall d 384 [.ref o, a1] h (mK (d + 1) 386 Q 14 [x0] st)) := (mw_at mj_386_11).trans ((z_invv (As := [a1]) (by decide) rfl rfl).trans (congrArg (And _) (congrArg (And _) (mC_nl nl_384))))
theorem mj_386_14 : mc_P 386 14 = some (.return_, 1, 0, 0, 0) := by decide +kernel
theorem s_386_14 {x0 : Option Value} : mw d 386 Q 14 [x0] ([]) h = Q none h := (mw_at mj_386_14).trans (z_vret)
theorem e_386 {a0 : Nat} : mcall d 386 [.ref a0] h Q = mw d 386 Q 0 [some (.ref a0)] [] h := by
  show mw d 386 Q 0 (me_en (mc_nl 386) _) [] h = _
  rw [nl_386]; rfl

/-! InvariantDeskModel.spell(I)V -/
theorem mj_387_0 : mc_P 387 0 = some (.aload_n 0, 1, 0, 0, 0) := by decide +kernel
theorem s_387_0 {x1 x2 : Option Value} {w : Value} : mw d 387 Q 0 [some w, x1, x2] (st) h = mv_a w (mw d 387 Q 1 [some w, x1, x2] (w :: st) h) := (mw_at mj_387_0).trans (z_aload_n rfl)
theorem mj_387_1 : mc_P 387 1 = some (.getfield 67, 3, 14, 26, 0) := by decide +kernel
theorem s_387_1 {x0 x1 x2 : Option Value} {o : Nat} : mw d 387 Q 1 [x0, x1, x2] (.ref o :: st) h = (mg h o 14 ∧ mw d 387 Q 4 [x0, x1, x2] (va_rf (mh_r h o 26) :: st) h) := (mw_at mj_387_1).trans (z_getr (by decide) (by decide) rfl)
theorem mj_387_4 : mc_P 387 4 = some (.iload_n 1, 1, 0, 0, 0) := by decide +kernel
theorem s_387_4 {x0 x2 : Option Value} {w : Value} : mw d 387 Q 4 [x0, some w, x2] (st) h = mv_i w (mw d 387 Q 5 [x0, some w, x2] (w :: st) h) := (mw_at mj_387_4).trans (z_iload_n rfl)
theorem mj_387_5 : mc_P 387 5 = some (.iaload, 1, 0, 0, 0) := by decide +kernel
theorem s_387_5 {x0 x1 x2 : Option Value} {o : Nat} {i : Int32} : mw d 387 Q 5 [x0, x1, x2] (.int i :: .ref o :: st) h = (mg h o 100 ∧ mx i (mh_l h o) ∧ mw d 387 Q 6 [x0, x1, x2] (.int (mh_i h o i.toNatClampNeg) :: st) h) := (mw_at mj_387_5).trans (z_iald)
theorem mj_387_6 : mc_P 387 6 = some (.istore_n 2, 1, 0, 0, 0) := by decide +kernel
theorem s_387_6 {x0 x1 x2 : Option Value} {w : Int32} : mw d 387 Q 6 [x0, x1, x2] (.int w :: st) h = mw d 387 Q 7 [x0, mk2 x1, some (.int w)] (st) h := (mw_at mj_387_6).trans (z_istore_n (Nat.le_of_ble_eq_true rfl) (me_s1_mk (j := 1) (w := x1) rfl))
theorem mj_387_7 : mc_P 387 7 = some (.iload_n 2, 1, 0, 0, 0) := by decide +kernel
theorem s_387_7 {x0 x1 : Option Value} {w : Value} : mw d 387 Q 7 [x0, x1, some w] (st) h = mv_i w (mw d 387 Q 8 [x0, x1, some w] (w :: st) h) := (mw_at mj_387_7).trans (z_iload_n rfl)
theorem mj_387_8 : mc_P 387 8 = some (.aload_n 0, 1, 0, 0, 0) := by decide +kernel
theorem s_387_8 {x1 x2 : Option Value} {w : Value} : mw d 387 Q 8 [some w, x1, x2] (st) h = mv_a w (mw d 387 Q 9 [some w, x1, x2] (w :: st) h) := (mw_at mj_387_8).trans (z_aload_n rfl)
theorem mj_387_9 : mc_P 387 9 = some (.getfield 67, 3, 14, 26, 0) := by decide +kernel
theorem s_387_9 {x0 x1 x2 : Option Value} {o : Nat} : mw d 387 Q 9 [x0, x1, x2] (.ref o :: st) h = (mg h o 14 ∧ mw d 387 Q 12 [x0, x1, x2] (va_rf (mh_r h o 26) :: st) h) := (mw_at mj_387_9).trans (z_getr (by decide) (by decide) rfl)
theorem mj_387_12 : mc_P 387 12 = some (.iload_n 1, 1, 0, 0, 0) := by decide +kernel
theorem s_387_12 {x0 x2 : Option Value} {w : Value} : mw d 387 Q 12 [x0, some w, x2] (st) h = mv_i w (mw d 387 Q 13 [x0, some w, x2] (w :: st) h) := (mw_at mj_387_12).trans (z_iload_n rfl)
theorem mj_387_13 : mc_P 387 13 = some (.iconst 1, 1, 0, 0, 0) := by decide +kernel
theorem s_387_13 {x0 x1 x2 : Option Value} : mw d 387 Q 13 [x0, x1, x2] (st) h = mw d 387 Q 14 [x0, x1, x2] (.int 1 :: st) h := (mw_at mj_387_13).trans (z_iconst (by decide))
theorem mj_387_14 : mc_P 387 14 = some (.iadd, 1, 0, 0, 0) := by decide +kernel
theorem s_387_14 {x0 x1 x2 : Option Value} {x w : Int32} : mw d 387 Q 14 [x0, x1, x2] (.int w :: .int x :: st) h = mw d 387 Q 15 [x0, x1, x2] (.int (x + w) :: st) h := (mw_at mj_387_14).trans (z_iadd)
theorem mj_387_15 : mc_P 387 15 = some (.iaload, 1, 0, 0, 0) := by decide +kernel
theorem s_387_15 {x0 x1 x2 : Option Value} {o : Nat} {i : Int32} : mw d 387 Q 15 [x0, x1, x2] (.int i :: .ref o :: st) h = (mg h o 100 ∧ mx i (mh_l h o) ∧ mw d 387 Q 16 [x0, x1, x2] (.int (mh_i h o i.toNatClampNeg) :: st) h) := (mw_at mj_387_15).trans (z_iald)
theorem mj_387_16 : mc_P 387 16 = some (.if_icmp .ge 19, 3, 0, 0, 0) := by decide +kernel
theorem s_387_16 {x0 x1 x2 : Option Value} {x w : Int32} : mw d 387 Q 16 [x0, x1, x2] (.int w :: .int x :: st) h = mB (w ≤ x) (mw d 387 Q) 35 19 [x0, x1, x2] st h := (mw_at mj_387_16).trans (z_icmp_ge (by decide) rfl)
theorem mj_387_19 : mc_P 387 19 = some (.aload_n 0, 1, 0, 0, 0) := by decide +kernel
theorem s_387_19 {x1 x2 : Option Value} {w : Value} : mw d 387 Q 19 [some w, x1, x2] (st) h = mv_a w (mw d 387 Q 20 [some w, x1, x2] (w :: st) h) := (mw_at mj_387_19).trans (z_aload_n rfl)
theorem mj_387_20 : mc_P 387 20 = some (.aload_n 0, 1, 0, 0, 0) := by decide +kernel
theorem s_387_20 {x1 x2 : Option Value} {w : Value} : mw d 387 Q 20 [some w, x1, x2] (st) h = mv_a w (mw d 387 Q 21 [some w, x1, x2] (w :: st) h) := (mw_at mj_387_20).trans (z_aload_n rfl)
theorem mj_387_21 : mc_P 387 21 = some (.getfield 64, 3, 14, 25, 0) := by decide +kernel
theorem s_387_21 {x0 x1 x2 : Option Value} {o : Nat} : mw d 387 Q 21 [x0, x1, x2] (.ref o :: st) h = (mg h o 14 ∧ mw d 387 Q 24 [x0, x1, x2] (va_rf (mh_r h o 25) :: st) h) := (mw_at mj_387_21).trans (z_getr (by decide) (by decide) rfl)
theorem mj_387_24 : mc_P 387 24 = some (.iload_n 2, 1, 0, 0, 0) := by decide +kernel
theorem s_387_24 {x0 x1 : Option Value} {w : Value} : mw d 387 Q 24 [x0, x1, some w] (st) h = mv_i w (mw d 387 Q 25 [x0, x1, some w] (w :: st) h) := (mw_at mj_387_24).trans (z_iload_n rfl)
theorem mj_387_25 : mc_P 387 25 = some (.iaload, 1, 0, 0, 0) := by decide +kernel
theorem s_387_25 {x0 x1 x2 : Option Value} {o : Nat} {i : Int32} : mw d 387 Q 25 [x0, x1, x2] (.int i :: .ref o :: st) h = (mg h o 100 ∧ mx i (mh_l h o) ∧ mw d 387 Q 26 [x0, x1, x2] (.int (mh_i h o i.toNatClampNeg) :: st) h) := (mw_at mj_387_25).trans (z_iald)
theorem mj_387_26 : mc_P 387 26 = some (.invokevirtual 547, 3, 385, 14, 2) := by decide +kernel
theorem s_387_26 {x0 x1 x2 : Option Value} {o : Nat} {a1 : Value} : mw (d + 1) 387 Q 26 [x0, x1, x2] (a1 :: .ref o :: st) h = (mg h o 14 ∧ mca st 8 ∧ mca [.ref o, a1] 2 ∧ mcall d 385 [.ref o, a1] h (mK (d + 1) 387 Q 29 [x0, x1, x2] st)) := (mw_at mj_387_26).trans ((z_invv (As := [a1]) (by decide) rfl rfl).trans (congrArg (And _) (congrArg (And _) (mC_nl nl_385))))
theorem mj_387_29 : mc_P 387 29 = some (.iinc 2 1, 3, 0, 0, 0) := by decide +kernel
theorem s_387_29 {x0 x1 : Option Value} {w : Int32} : mw d 387 Q 29 [x0, x1, some (.int w)] (st) h = mw d 387 Q 32 [x0, mk2 x1, some (.int (w + 1))] (st) h := (mw_at mj_387_29).trans (z_iinc rfl (Nat.le_of_ble_eq_true rfl) (by decide) (me_s1_mk (j := 1) (w := x1) rfl))
theorem mj_387_32 : mc_P 387 32 = some (.goto (-25), 3, 0, 0, 0) := by decide +kernel
theorem s_387_32 {x0 x1 x2 : Option Value} : mw d 387 Q 32 [x0, x1, x2] (st) h = mw d 387 Q 7 [x0, x1, x2] (st) h := (mw_at mj_387_32).trans (z_goto (by decide))
theorem mj_387_35 : mc_P 387 35 = some (.return_, 1, 0, 0, 0) := by decide +kernel
theorem s_387_35 {x0 x1 x2 : Option Value} : mw d 387 Q 35 [x0, x1, x2] ([]) h = Q none h := (mw_at mj_387_35).trans (z_vret)
theorem e_387 {a0 : Nat} {a1 : Int32} : mcall d 387 [.ref a0, .int a1] h Q = mw d 387 Q 0 [some (.ref a0), some (.int a1), none] [] h := by
  show mw d 387 Q 0 (me_en (mc_nl 387) _) [] h = _
  rw [nl_387]; rfl

/-! InvariantDeskModel.number(J)V -/
theorem mj_388_0 : mc_P 388 0 = some (.lload_n 1, 1, 0, 0, 0) := by decide +kernel
theorem s_388_0 {x0 x2 x3 x4 x5 x6 : Option Value} {w : Value} : mw d 388 Q 0 [x0, some w, x2, x3, x4, x5, x6] (st) h = mv_l w (mw d 388 Q 1 [x0, some w, x2, x3, x4, x5, x6] (w :: st) h) := (mw_at mj_388_0).trans (z_lload_n rfl)
theorem mj_388_1 : mc_P 388 1 = some (.lconst 0, 1, 0, 0, 0) := by decide +kernel
theorem s_388_1 {x0 x1 x2 x3 x4 x5 x6 : Option Value} : mw d 388 Q 1 [x0, x1, x2, x3, x4, x5, x6] (st) h = mw d 388 Q 2 [x0, x1, x2, x3, x4, x5, x6] (.long 0 :: st) h := (mw_at mj_388_1).trans (z_lconst (by decide))
theorem mj_388_2 : mc_P 388 2 = some (.lcmp, 1, 0, 0, 0) := by decide +kernel
theorem s_388_2 {x0 x1 x2 x3 x4 x5 x6 : Option Value} {x w : Int64} : mw d 388 Q 2 [x0, x1, x2, x3, x4, x5, x6] (.long w :: .long x :: st) h = mw d 388 Q 3 [x0, x1, x2, x3, x4, x5, x6] (.int (lg_cmp x w) :: st) h := (mw_at mj_388_2).trans (z_lcmp)
theorem mj_388_3 : mc_P 388 3 = some (.ifCond .ge 9, 3, 0, 0, 0) := by decide +kernel
theorem s_388_3 {x0 x1 x2 x3 x4 x5 x6 : Option Value} {x : Int32} : mw d 388 Q 3 [x0, x1, x2, x3, x4, x5, x6] (.int x :: st) h = mB (0 ≤ x) (mw d 388 Q) 12 6 [x0, x1, x2, x3, x4, x5, x6] st h := (mw_at mj_388_3).trans (z_if_ge (by decide) rfl)
theorem mj_388_6 : mc_P 388 6 = some (.aload_n 0, 1, 0, 0, 0) := by decide +kernel
theorem s_388_6 {x1 x2 x3 x4 x5 x6 : Option Value} {w : Value} : mw d 388 Q 6 [some w, x1, x2, x3, x4, x5, x6] (st) h = mv_a w (mw d 388 Q 7 [some w, x1, x2, x3, x4, x5, x6] (w :: st) h) := (mw_at mj_388_6).trans (z_aload_n rfl)
theorem mj_388_7 : mc_P 388 7 = some (.bipush 45, 2, 0, 0, 0) := by decide +kernel
theorem s_388_7 {x0 x1 x2 x3 x4 x5 x6 : Option Value} : mw d 388 Q 7 [x0, x1, x2, x3, x4, x5, x6] (st) h = mw d 388 Q 9 [x0, x1, x2, x3, x4, x5, x6] (.int 45 :: st) h := (mw_at mj_388_7).trans (z_bipush (by decide))
theorem mj_388_9 : mc_P 388 9 = some (.invokevirtual 547, 3, 385, 14, 2) := by decide +kernel
theorem s_388_9 {x0 x1 x2 x3 x4 x5 x6 : Option Value} {o : Nat} {a1 : Value} : mw (d + 1) 388 Q 9 [x0, x1, x2, x3, x4, x5, x6] (a1 :: .ref o :: st) h = (mg h o 14 ∧ mca st 8 ∧ mca [.ref o, a1] 2 ∧ mcall d 385 [.ref o, a1] h (mK (d + 1) 388 Q 12 [x0, x1, x2, x3, x4, x5, x6] st)) := (mw_at mj_388_9).trans ((z_invv (As := [a1]) (by decide) rfl rfl).trans (congrArg (And _) (congrArg (And _) (mC_nl nl_385))))
theorem mj_388_12 : mc_P 388 12 = some (.lload_n 1, 1, 0, 0, 0) := by decide +kernel
theorem s_388_12 {x0 x2 x3 x4 x5 x6 : Option Value} {w : Value} : mw d 388 Q 12 [x0, some w, x2, x3, x4, x5, x6] (st) h = mv_l w (mw d 388 Q 13 [x0, some w, x2, x3, x4, x5, x6] (w :: st) h) := (mw_at mj_388_12).trans (z_lload_n rfl)
theorem mj_388_13 : mc_P 388 13 = some (.invokestatic 559, 3, 0, 24, 0) := by decide +kernel
theorem s_388_13 {x0 x1 x2 x3 x4 x5 x6 : Option Value} {x : Int64} : mw d 388 Q 13 [x0, x1, x2, x3, x4, x5, x6] (.long x :: st) h = (mca st 8 ∧ mw d 388 Q 16 [x0, x1, x2, x3, x4, x5, x6] (.long (if 0 < x then x else -x) :: st) h) := (mw_at mj_388_13).trans (z_labs)
theorem mj_388_16 : mc_P 388 16 = some (.lstore_n 3, 1, 0, 0, 0) := by decide +kernel
theorem s_388_16 {x0 x1 x2 x3 x4 x5 x6 : Option Value} {w : Int64} : mw d 388 Q 16 [x0, x1, x2, x3, x4, x5, x6] (.long w :: st) h = mw d 388 Q 17 [x0, x1, mk2 x2, some (.long w), none, x5, x6] (st) h := (mw_at mj_388_16).trans (z_lstore_n (Nat.le_of_ble_eq_true rfl) (me_s2_mk (j := 2) (w := x2) rfl))
theorem mj_388_17 : mc_P 388 17 = some (.lconst 1, 1, 0, 0, 0) := by decide +kernel
theorem s_388_17 {x0 x1 x2 x3 x4 x5 x6 : Option Value} : mw d 388 Q 17 [x0, x1, x2, x3, x4, x5, x6] (st) h = mw d 388 Q 18 [x0, x1, x2, x3, x4, x5, x6] (.long 1 :: st) h := (mw_at mj_388_17).trans (z_lconst (by decide))
theorem mj_388_18 : mc_P 388 18 = some (.lstore 5, 2, 0, 0, 0) := by decide +kernel
theorem s_388_18 {x0 x1 x2 x3 x4 x5 x6 : Option Value} {w : Int64} : mw d 388 Q 18 [x0, x1, x2, x3, x4, x5, x6] (.long w :: st) h = mw d 388 Q 20 [x0, x1, x2, x3, mk2 x4, some (.long w), none] (st) h := (mw_at mj_388_18).trans (z_lstore (Nat.le_of_ble_eq_true rfl) (me_s2_mk (j := 4) (w := x4) rfl))
theorem mj_388_20 : mc_P 388 20 = some (.lload_n 3, 1, 0, 0, 0) := by decide +kernel
theorem s_388_20 {x0 x1 x2 x4 x5 x6 : Option Value} {w : Value} : mw d 388 Q 20 [x0, x1, x2, some w, x4, x5, x6] (st) h = mv_l w (mw d 388 Q 21 [x0, x1, x2, some w, x4, x5, x6] (w :: st) h) := (mw_at mj_388_20).trans (z_lload_n rfl)
theorem mj_388_21 : mc_P 388 21 = some (.lload 5, 2, 0, 0, 0) := by decide +kernel
theorem s_388_21 {x0 x1 x2 x3 x4 x6 : Option Value} {w : Value} : mw d 388 Q 21 [x0, x1, x2, x3, x4, some w, x6] (st) h = mv_l w (mw d 388 Q 23 [x0, x1, x2, x3, x4, some w, x6] (w :: st) h) := (mw_at mj_388_21).trans (z_lload rfl)
theorem mj_388_23 : mc_P 388 23 = some (.ldiv, 1, 0, 0, 0) := by decide +kernel
theorem s_388_23 {x0 x1 x2 x3 x4 x5 x6 : Option Value} {x w : Int64} : mw d 388 Q 23 [x0, x1, x2, x3, x4, x5, x6] (.long w :: .long x :: st) h = (¬ w = 0 ∧ mw d 388 Q 24 [x0, x1, x2, x3, x4, x5, x6] (.long (x / w) :: st) h) := (mw_at mj_388_23).trans (z_ldiv)
theorem mj_388_24 : mc_P 388 24 = some (.ldc2_w 562, 3, 0, 0, 9) := by decide +kernel
theorem s_388_24 {x0 x1 x2 x3 x4 x5 x6 : Option Value} : mw d 388 Q 24 [x0, x1, x2, x3, x4, x5, x6] (st) h = mw d 388 Q 27 [x0, x1, x2, x3, x4, x5, x6] (.long 9 :: st) h := (mw_at mj_388_24).trans (z_ldc2 (by decide))
theorem mj_388_27 : mc_P 388 27 = some (.lcmp, 1, 0, 0, 0) := by decide +kernel
theorem s_388_27 {x0 x1 x2 x3 x4 x5 x6 : Option Value} {x w : Int64} : mw d 388 Q 27 [x0, x1, x2, x3, x4, x5, x6] (.long w :: .long x :: st) h = mw d 388 Q 28 [x0, x1, x2, x3, x4, x5, x6] (.int (lg_cmp x w) :: st) h := (mw_at mj_388_27).trans (z_lcmp)
theorem mj_388_28 : mc_P 388 28 = some (.ifCond .le 14, 3, 0, 0, 0) := by decide +kernel
theorem s_388_28 {x0 x1 x2 x3 x4 x5 x6 : Option Value} {x : Int32} : mw d 388 Q 28 [x0, x1, x2, x3, x4, x5, x6] (.int x :: st) h = mB (x ≤ 0) (mw d 388 Q) 42 31 [x0, x1, x2, x3, x4, x5, x6] st h := (mw_at mj_388_28).trans (z_if_le (by decide) rfl)
theorem mj_388_31 : mc_P 388 31 = some (.ldc2_w 220, 3, 0, 0, 10) := by decide +kernel
theorem s_388_31 {x0 x1 x2 x3 x4 x5 x6 : Option Value} : mw d 388 Q 31 [x0, x1, x2, x3, x4, x5, x6] (st) h = mw d 388 Q 34 [x0, x1, x2, x3, x4, x5, x6] (.long 10 :: st) h := (mw_at mj_388_31).trans (z_ldc2 (by decide))
theorem mj_388_34 : mc_P 388 34 = some (.lload 5, 2, 0, 0, 0) := by decide +kernel
theorem s_388_34 {x0 x1 x2 x3 x4 x6 : Option Value} {w : Value} : mw d 388 Q 34 [x0, x1, x2, x3, x4, some w, x6] (st) h = mv_l w (mw d 388 Q 36 [x0, x1, x2, x3, x4, some w, x6] (w :: st) h) := (mw_at mj_388_34).trans (z_lload rfl)
theorem mj_388_36 : mc_P 388 36 = some (.lmul, 1, 0, 0, 0) := by decide +kernel
theorem s_388_36 {x0 x1 x2 x3 x4 x5 x6 : Option Value} {x w : Int64} : mw d 388 Q 36 [x0, x1, x2, x3, x4, x5, x6] (.long w :: .long x :: st) h = mw d 388 Q 37 [x0, x1, x2, x3, x4, x5, x6] (.long (x * w) :: st) h := (mw_at mj_388_36).trans (z_lmul)
theorem mj_388_37 : mc_P 388 37 = some (.lstore 5, 2, 0, 0, 0) := by decide +kernel
theorem s_388_37 {x0 x1 x2 x3 x4 x5 x6 : Option Value} {w : Int64} : mw d 388 Q 37 [x0, x1, x2, x3, x4, x5, x6] (.long w :: st) h = mw d 388 Q 39 [x0, x1, x2, x3, mk2 x4, some (.long w), none] (st) h := (mw_at mj_388_37).trans (z_lstore (Nat.le_of_ble_eq_true rfl) (me_s2_mk (j := 4) (w := x4) rfl))
theorem mj_388_39 : mc_P 388 39 = some (.goto (-19), 3, 0, 0, 0) := by decide +kernel
theorem s_388_39 {x0 x1 x2 x3 x4 x5 x6 : Option Value} : mw d 388 Q 39 [x0, x1, x2, x3, x4, x5, x6] (st) h = mw d 388 Q 20 [x0, x1, x2, x3, x4, x5, x6] (st) h := (mw_at mj_388_39).trans (z_goto (by decide))
theorem mj_388_42 : mc_P 388 42 = some (.lload 5, 2, 0, 0, 0) := by decide +kernel
theorem s_388_42 {x0 x1 x2 x3 x4 x6 : Option Value} {w : Value} : mw d 388 Q 42 [x0, x1, x2, x3, x4, some w, x6] (st) h = mv_l w (mw d 388 Q 44 [x0, x1, x2, x3, x4, some w, x6] (w :: st) h) := (mw_at mj_388_42).trans (z_lload rfl)
theorem mj_388_44 : mc_P 388 44 = some (.lconst 0, 1, 0, 0, 0) := by decide +kernel
theorem s_388_44 {x0 x1 x2 x3 x4 x5 x6 : Option Value} : mw d 388 Q 44 [x0, x1, x2, x3, x4, x5, x6] (st) h = mw d 388 Q 45 [x0, x1, x2, x3, x4, x5, x6] (.long 0 :: st) h := (mw_at mj_388_44).trans (z_lconst (by decide))
theorem mj_388_45 : mc_P 388 45 = some (.lcmp, 1, 0, 0, 0) := by decide +kernel
theorem s_388_45 {x0 x1 x2 x3 x4 x5 x6 : Option Value} {x w : Int64} : mw d 388 Q 45 [x0, x1, x2, x3, x4, x5, x6] (.long w :: .long x :: st) h = mw d 388 Q 46 [x0, x1, x2, x3, x4, x5, x6] (.int (lg_cmp x w) :: st) h := (mw_at mj_388_45).trans (z_lcmp)
theorem mj_388_46 : mc_P 388 46 = some (.ifCond .le 31, 3, 0, 0, 0) := by decide +kernel
theorem s_388_46 {x0 x1 x2 x3 x4 x5 x6 : Option Value} {x : Int32} : mw d 388 Q 46 [x0, x1, x2, x3, x4, x5, x6] (.int x :: st) h = mB (x ≤ 0) (mw d 388 Q) 77 49 [x0, x1, x2, x3, x4, x5, x6] st h := (mw_at mj_388_46).trans (z_if_le (by decide) rfl)
theorem mj_388_49 : mc_P 388 49 = some (.aload_n 0, 1, 0, 0, 0) := by decide +kernel
theorem s_388_49 {x1 x2 x3 x4 x5 x6 : Option Value} {w : Value} : mw d 388 Q 49 [some w, x1, x2, x3, x4, x5, x6] (st) h = mv_a w (mw d 388 Q 50 [some w, x1, x2, x3, x4, x5, x6] (w :: st) h) := (mw_at mj_388_49).trans (z_aload_n rfl)
theorem mj_388_50 : mc_P 388 50 = some (.ldc2_w 222, 3, 0, 0, 48) := by decide +kernel
theorem s_388_50 {x0 x1 x2 x3 x4 x5 x6 : Option Value} : mw d 388 Q 50 [x0, x1, x2, x3, x4, x5, x6] (st) h = mw d 388 Q 53 [x0, x1, x2, x3, x4, x5, x6] (.long 48 :: st) h := (mw_at mj_388_50).trans (z_ldc2 (by decide))
theorem mj_388_53 : mc_P 388 53 = some (.lload_n 3, 1, 0, 0, 0) := by decide +kernel
theorem s_388_53 {x0 x1 x2 x4 x5 x6 : Option Value} {w : Value} : mw d 388 Q 53 [x0, x1, x2, some w, x4, x5, x6] (st) h = mv_l w (mw d 388 Q 54 [x0, x1, x2, some w, x4, x5, x6] (w :: st) h) := (mw_at mj_388_53).trans (z_lload_n rfl)
theorem mj_388_54 : mc_P 388 54 = some (.lload 5, 2, 0, 0, 0) := by decide +kernel
theorem s_388_54 {x0 x1 x2 x3 x4 x6 : Option Value} {w : Value} : mw d 388 Q 54 [x0, x1, x2, x3, x4, some w, x6] (st) h = mv_l w (mw d 388 Q 56 [x0, x1, x2, x3, x4, some w, x6] (w :: st) h) := (mw_at mj_388_54).trans (z_lload rfl)
theorem mj_388_56 : mc_P 388 56 = some (.ldiv, 1, 0, 0, 0) := by decide +kernel
theorem s_388_56 {x0 x1 x2 x3 x4 x5 x6 : Option Value} {x w : Int64} : mw d 388 Q 56 [x0, x1, x2, x3, x4, x5, x6] (.long w :: .long x :: st) h = (¬ w = 0 ∧ mw d 388 Q 57 [x0, x1, x2, x3, x4, x5, x6] (.long (x / w) :: st) h) := (mw_at mj_388_56).trans (z_ldiv)
theorem mj_388_57 : mc_P 388 57 = some (.ldc2_w 220, 3, 0, 0, 10) := by decide +kernel
theorem s_388_57 {x0 x1 x2 x3 x4 x5 x6 : Option Value} : mw d 388 Q 57 [x0, x1, x2, x3, x4, x5, x6] (st) h = mw d 388 Q 60 [x0, x1, x2, x3, x4, x5, x6] (.long 10 :: st) h := (mw_at mj_388_57).trans (z_ldc2 (by decide))
theorem mj_388_60 : mc_P 388 60 = some (.lrem, 1, 0, 0, 0) := by decide +kernel
theorem s_388_60 {x0 x1 x2 x3 x4 x5 x6 : Option Value} {x w : Int64} : mw d 388 Q 60 [x0, x1, x2, x3, x4, x5, x6] (.long w :: .long x :: st) h = (¬ w = 0 ∧ mw d 388 Q 61 [x0, x1, x2, x3, x4, x5, x6] (.long (x - x / w * w) :: st) h) := (mw_at mj_388_60).trans (z_lrem)
theorem mj_388_61 : mc_P 388 61 = some (.ladd, 1, 0, 0, 0) := by decide +kernel
theorem s_388_61 {x0 x1 x2 x3 x4 x5 x6 : Option Value} {x w : Int64} : mw d 388 Q 61 [x0, x1, x2, x3, x4, x5, x6] (.long w :: .long x :: st) h = mw d 388 Q 62 [x0, x1, x2, x3, x4, x5, x6] (.long (x + w) :: st) h := (mw_at mj_388_61).trans (z_ladd)
theorem mj_388_62 : mc_P 388 62 = some (.l2i, 1, 0, 0, 0) := by decide +kernel
theorem s_388_62 {x0 x1 x2 x3 x4 x5 x6 : Option Value} {x : Int64} : mw d 388 Q 62 [x0, x1, x2, x3, x4, x5, x6] (.long x :: st) h = mw d 388 Q 63 [x0, x1, x2, x3, x4, x5, x6] (.int x.toInt32 :: st) h := (mw_at mj_388_62).trans (z_l2i)
theorem mj_388_63 : mc_P 388 63 = some (.invokevirtual 547, 3, 385, 14, 2) := by decide +kernel
theorem s_388_63 {x0 x1 x2 x3 x4 x5 x6 : Option Value} {o : Nat} {a1 : Value} : mw (d + 1) 388 Q 63 [x0, x1, x2, x3, x4, x5, x6] (a1 :: .ref o :: st) h = (mg h o 14 ∧ mca st 8 ∧ mca [.ref o, a1] 2 ∧ mcall d 385 [.ref o, a1] h (mK (d + 1) 388 Q 66 [x0, x1, x2, x3, x4, x5, x6] st)) := (mw_at mj_388_63).trans ((z_invv (As := [a1]) (by decide) rfl rfl).trans (congrArg (And _) (congrArg (And _) (mC_nl nl_385))))
theorem mj_388_66 : mc_P 388 66 = some (.lload 5, 2, 0, 0, 0) := by decide +kernel
theorem s_388_66 {x0 x1 x2 x3 x4 x6 : Option Value} {w : Value} : mw d 388 Q 66 [x0, x1, x2, x3, x4, some w, x6] (st) h = mv_l w (mw d 388 Q 68 [x0, x1, x2, x3, x4, some w, x6] (w :: st) h) := (mw_at mj_388_66).trans (z_lload rfl)
theorem mj_388_68 : mc_P 388 68 = some (.ldc2_w 220, 3, 0, 0, 10) := by decide +kernel
theorem s_388_68 {x0 x1 x2 x3 x4 x5 x6 : Option Value} : mw d 388 Q 68 [x0, x1, x2, x3, x4, x5, x6] (st) h = mw d 388 Q 71 [x0, x1, x2, x3, x4, x5, x6] (.long 10 :: st) h := (mw_at mj_388_68).trans (z_ldc2 (by decide))
theorem mj_388_71 : mc_P 388 71 = some (.ldiv, 1, 0, 0, 0) := by decide +kernel
theorem s_388_71 {x0 x1 x2 x3 x4 x5 x6 : Option Value} {x w : Int64} : mw d 388 Q 71 [x0, x1, x2, x3, x4, x5, x6] (.long w :: .long x :: st) h = (¬ w = 0 ∧ mw d 388 Q 72 [x0, x1, x2, x3, x4, x5, x6] (.long (x / w) :: st) h) := (mw_at mj_388_71).trans (z_ldiv)
theorem mj_388_72 : mc_P 388 72 = some (.lstore 5, 2, 0, 0, 0) := by decide +kernel
theorem s_388_72 {x0 x1 x2 x3 x4 x5 x6 : Option Value} {w : Int64} : mw d 388 Q 72 [x0, x1, x2, x3, x4, x5, x6] (.long w :: st) h = mw d 388 Q 74 [x0, x1, x2, x3, mk2 x4, some (.long w), none] (st) h := (mw_at mj_388_72).trans (z_lstore (Nat.le_of_ble_eq_true rfl) (me_s2_mk (j := 4) (w := x4) rfl))
theorem mj_388_74 : mc_P 388 74 = some (.goto (-32), 3, 0, 0, 0) := by decide +kernel
theorem s_388_74 {x0 x1 x2 x3 x4 x5 x6 : Option Value} : mw d 388 Q 74 [x0, x1, x2, x3, x4, x5, x6] (st) h = mw d 388 Q 42 [x0, x1, x2, x3, x4, x5, x6] (st) h := (mw_at mj_388_74).trans (z_goto (by decide))
theorem mj_388_77 : mc_P 388 77 = some (.return_, 1, 0, 0, 0) := by decide +kernel
theorem s_388_77 {x0 x1 x2 x3 x4 x5 x6 : Option Value} : mw d 388 Q 77 [x0, x1, x2, x3, x4, x5, x6] ([]) h = Q none h := (mw_at mj_388_77).trans (z_vret)
theorem e_388 {a0 : Nat} {a1 : Int64} : mcall d 388 [.ref a0, .long a1] h Q = mw d 388 Q 0 [some (.ref a0), some (.long a1), none, none, none, none, none] [] h := by
  show mw d 388 Q 0 (me_en (mc_nl 388) _) [] h = _
  rw [nl_388]; rfl

/-! InvariantDeskModel.two(LInvariantDeskModel$Known;III)V -/
theorem mj_389_0 : mc_P 389 0 = some (.aload_n 1, 1, 0, 0, 0) := by decide +kernel
theorem s_389_0 {x0 x2 x3 x4 : Option Value} {w : Value} : mw d 389 Q 0 [x0, some w, x2, x3, x4] (st) h = mv_a w (mw d 389 Q 1 [x0, some w, x2, x3, x4] (w :: st) h) := (mw_at mj_389_0).trans (z_aload_n rfl)
theorem mj_389_1 : mc_P 389 1 = some (.iload_n 3, 1, 0, 0, 0) := by decide +kernel
theorem s_389_1 {x0 x1 x2 x4 : Option Value} {w : Value} : mw d 389 Q 1 [x0, x1, x2, some w, x4] (st) h = mv_i w (mw d 389 Q 2 [x0, x1, x2, some w, x4] (w :: st) h) := (mw_at mj_389_1).trans (z_iload_n rfl)
theorem mj_389_2 : mc_P 389 2 = some (.iload 4, 2, 0, 0, 0) := by decide +kernel
theorem s_389_2 {x0 x1 x2 x3 : Option Value} {w : Value} : mw d 389 Q 2 [x0, x1, x2, x3, some w] (st) h = mv_i w (mw d 389 Q 4 [x0, x1, x2, x3, some w] (w :: st) h) := (mw_at mj_389_2).trans (z_iload rfl)
theorem mj_389_4 : mc_P 389 4 = some (.invokevirtual 511, 3, 282, 13, 3) := by decide +kernel
theorem s_389_4 {x0 x1 x2 x3 x4 : Option Value} {o : Nat} {a1 a2 : Value} : mw (d + 1) 389 Q 4 [x0, x1, x2, x3, x4] (a2 :: a1 :: .ref o :: st) h = (mg h o 13 ∧ mca st 8 ∧ mca [.ref o, a1, a2] 5 ∧ mcall d 282 [.ref o, a1, a2] h (mK (d + 1) 389 Q 7 [x0, x1, x2, x3, x4] st)) := (mw_at mj_389_4).trans ((z_invv (As := [a1, a2]) (by decide) rfl rfl).trans (congrArg (And _) (congrArg (And _) (mC_nl nl_282))))
theorem mj_389_7 : mc_P 389 7 = some (.aload_n 1, 1, 0, 0, 0) := by decide +kernel
theorem s_389_7 {x0 x2 x3 x4 : Option Value} {w : Value} : mw d 389 Q 7 [x0, some w, x2, x3, x4] (st) h = mv_a w (mw d 389 Q 8 [x0, some w, x2, x3, x4] (w :: st) h) := (mw_at mj_389_7).trans (z_aload_n rfl)
theorem mj_389_8 : mc_P 389 8 = some (.iload_n 3, 1, 0, 0, 0) := by decide +kernel
theorem s_389_8 {x0 x1 x2 x4 : Option Value} {w : Value} : mw d 389 Q 8 [x0, x1, x2, some w, x4] (st) h = mv_i w (mw d 389 Q 9 [x0, x1, x2, some w, x4] (w :: st) h) := (mw_at mj_389_8).trans (z_iload_n rfl)
theorem mj_389_9 : mc_P 389 9 = some (.iload_n 3, 1, 0, 0, 0) := by decide +kernel
theorem s_389_9 {x0 x1 x2 x4 : Option Value} {w : Value} : mw d 389 Q 9 [x0, x1, x2, some w, x4] (st) h = mv_i w (mw d 389 Q 10 [x0, x1, x2, some w, x4] (w :: st) h) := (mw_at mj_389_9).trans (z_iload_n rfl)
theorem mj_389_10 : mc_P 389 10 = some (.invokevirtual 511, 3, 282, 13, 3) := by decide +kernel
theorem s_389_10 {x0 x1 x2 x3 x4 : Option Value} {o : Nat} {a1 a2 : Value} : mw (d + 1) 389 Q 10 [x0, x1, x2, x3, x4] (a2 :: a1 :: .ref o :: st) h = (mg h o 13 ∧ mca st 8 ∧ mca [.ref o, a1, a2] 5 ∧ mcall d 282 [.ref o, a1, a2] h (mK (d + 1) 389 Q 13 [x0, x1, x2, x3, x4] st)) := (mw_at mj_389_10).trans ((z_invv (As := [a1, a2]) (by decide) rfl rfl).trans (congrArg (And _) (congrArg (And _) (mC_nl nl_282))))
theorem mj_389_13 : mc_P 389 13 = some (.aload_n 1, 1, 0, 0, 0) := by decide +kernel
theorem s_389_13 {x0 x2 x3 x4 : Option Value} {w : Value} : mw d 389 Q 13 [x0, some w, x2, x3, x4] (st) h = mv_a w (mw d 389 Q 14 [x0, some w, x2, x3, x4] (w :: st) h) := (mw_at mj_389_13).trans (z_aload_n rfl)
theorem mj_389_14 : mc_P 389 14 = some (.iload 4, 2, 0, 0, 0) := by decide +kernel
theorem s_389_14 {x0 x1 x2 x3 : Option Value} {w : Value} : mw d 389 Q 14 [x0, x1, x2, x3, some w] (st) h = mv_i w (mw d 389 Q 16 [x0, x1, x2, x3, some w] (w :: st) h) := (mw_at mj_389_14).trans (z_iload rfl)
theorem mj_389_16 : mc_P 389 16 = some (.iload 4, 2, 0, 0, 0) := by decide +kernel
theorem s_389_16 {x0 x1 x2 x3 : Option Value} {w : Value} : mw d 389 Q 16 [x0, x1, x2, x3, some w] (st) h = mv_i w (mw d 389 Q 18 [x0, x1, x2, x3, some w] (w :: st) h) := (mw_at mj_389_16).trans (z_iload rfl)
theorem mj_389_18 : mc_P 389 18 = some (.invokevirtual 511, 3, 282, 13, 3) := by decide +kernel
theorem s_389_18 {x0 x1 x2 x3 x4 : Option Value} {o : Nat} {a1 a2 : Value} : mw (d + 1) 389 Q 18 [x0, x1, x2, x3, x4] (a2 :: a1 :: .ref o :: st) h = (mg h o 13 ∧ mca st 8 ∧ mca [.ref o, a1, a2] 5 ∧ mcall d 282 [.ref o, a1, a2] h (mK (d + 1) 389 Q 21 [x0, x1, x2, x3, x4] st)) := (mw_at mj_389_18).trans ((z_invv (As := [a1, a2]) (by decide) rfl rfl).trans (congrArg (And _) (congrArg (And _) (mC_nl nl_282))))
theorem mj_389_21 : mc_P 389 21 = some (.ladd, 1, 0, 0, 0) := by decide +kernel
theorem s_389_21 {x0 x1 x2 x3 x4 : Option Value} {x w : Int64} : mw d 389 Q 21 [x0, x1, x2, x3, x4] (.long w :: .long x :: st) h = mw d 389 Q 22 [x0, x1, x2, x3, x4] (.long (x + w) :: st) h := (mw_at mj_389_21).trans (z_ladd)
theorem mj_389_22 : mc_P 389 22 = some (.lcmp, 1, 0, 0, 0) := by decide +kernel
theorem s_389_22 {x0 x1 x2 x3 x4 : Option Value} {x w : Int64} : mw d 389 Q 22 [x0, x1, x2, x3, x4] (.long w :: .long x :: st) h = mw d 389 Q 23 [x0, x1, x2, x3, x4] (.int (lg_cmp x w) :: st) h := (mw_at mj_389_22).trans (z_lcmp)
theorem mj_389_23 : mc_P 389 23 = some (.ifCond .ge 93, 3, 0, 0, 0) := by decide +kernel
theorem s_389_23 {x0 x1 x2 x3 x4 : Option Value} {x : Int32} : mw d 389 Q 23 [x0, x1, x2, x3, x4] (.int x :: st) h = mB (0 ≤ x) (mw d 389 Q) 116 26 [x0, x1, x2, x3, x4] st h := (mw_at mj_389_23).trans (z_if_ge (by decide) rfl)
theorem mj_389_26 : mc_P 389 26 = some (.aload_n 0, 1, 0, 0, 0) := by decide +kernel
theorem s_389_26 {x1 x2 x3 x4 : Option Value} {w : Value} : mw d 389 Q 26 [some w, x1, x2, x3, x4] (st) h = mv_a w (mw d 389 Q 27 [some w, x1, x2, x3, x4] (w :: st) h) := (mw_at mj_389_26).trans (z_aload_n rfl)
theorem mj_389_27 : mc_P 389 27 = some (.invokevirtual 564, 3, 386, 14, 1) := by decide +kernel
theorem s_389_27 {x0 x1 x2 x3 x4 : Option Value} {o : Nat} : mw (d + 1) 389 Q 27 [x0, x1, x2, x3, x4] (.ref o :: st) h = (mg h o 14 ∧ mca st 8 ∧ mca [.ref o] 1 ∧ mcall d 386 [.ref o] h (mK (d + 1) 389 Q 30 [x0, x1, x2, x3, x4] st)) := (mw_at mj_389_27).trans ((z_invv (As := []) (by decide) rfl rfl).trans (congrArg (And _) (congrArg (And _) (mC_nl nl_386))))
theorem mj_389_30 : mc_P 389 30 = some (.iload_n 3, 1, 0, 0, 0) := by decide +kernel
theorem s_389_30 {x0 x1 x2 x4 : Option Value} {w : Value} : mw d 389 Q 30 [x0, x1, x2, some w, x4] (st) h = mv_i w (mw d 389 Q 31 [x0, x1, x2, some w, x4] (w :: st) h) := (mw_at mj_389_30).trans (z_iload_n rfl)
theorem mj_389_31 : mc_P 389 31 = some (.iconst 2, 1, 0, 0, 0) := by decide +kernel
theorem s_389_31 {x0 x1 x2 x3 x4 : Option Value} : mw d 389 Q 31 [x0, x1, x2, x3, x4] (st) h = mw d 389 Q 32 [x0, x1, x2, x3, x4] (.int 2 :: st) h := (mw_at mj_389_31).trans (z_iconst (by decide))
theorem mj_389_32 : mc_P 389 32 = some (.irem, 1, 0, 0, 0) := by decide +kernel
theorem s_389_32 {x0 x1 x2 x3 x4 : Option Value} {x w : Int32} : mw d 389 Q 32 [x0, x1, x2, x3, x4] (.int w :: .int x :: st) h = (¬ w = 0 ∧ mw d 389 Q 33 [x0, x1, x2, x3, x4] (.int (x - x / w * w) :: st) h) := (mw_at mj_389_32).trans (z_irem)
theorem mj_389_33 : mc_P 389 33 = some (.iconst 1, 1, 0, 0, 0) := by decide +kernel
theorem s_389_33 {x0 x1 x2 x3 x4 : Option Value} : mw d 389 Q 33 [x0, x1, x2, x3, x4] (st) h = mw d 389 Q 34 [x0, x1, x2, x3, x4] (.int 1 :: st) h := (mw_at mj_389_33).trans (z_iconst (by decide))
theorem mj_389_34 : mc_P 389 34 = some (.if_icmp .ne 9, 3, 0, 0, 0) := by decide +kernel
theorem s_389_34 {x0 x1 x2 x3 x4 : Option Value} {x w : Int32} : mw d 389 Q 34 [x0, x1, x2, x3, x4] (.int w :: .int x :: st) h = mB (¬ x = w) (mw d 389 Q) 43 37 [x0, x1, x2, x3, x4] st h := (mw_at mj_389_34).trans (z_icmp_ne (by decide) rfl)
theorem mj_389_37 : mc_P 389 37 = some (.aload_n 0, 1, 0, 0, 0) := by decide +kernel
theorem s_389_37 {x1 x2 x3 x4 : Option Value} {w : Value} : mw d 389 Q 37 [some w, x1, x2, x3, x4] (st) h = mv_a w (mw d 389 Q 38 [some w, x1, x2, x3, x4] (w :: st) h) := (mw_at mj_389_37).trans (z_aload_n rfl)
theorem mj_389_38 : mc_P 389 38 = some (.bipush 45, 2, 0, 0, 0) := by decide +kernel
theorem s_389_38 {x0 x1 x2 x3 x4 : Option Value} : mw d 389 Q 38 [x0, x1, x2, x3, x4] (st) h = mw d 389 Q 40 [x0, x1, x2, x3, x4] (.int 45 :: st) h := (mw_at mj_389_38).trans (z_bipush (by decide))
theorem mj_389_40 : mc_P 389 40 = some (.invokevirtual 547, 3, 385, 14, 2) := by decide +kernel
theorem s_389_40 {x0 x1 x2 x3 x4 : Option Value} {o : Nat} {a1 : Value} : mw (d + 1) 389 Q 40 [x0, x1, x2, x3, x4] (a1 :: .ref o :: st) h = (mg h o 14 ∧ mca st 8 ∧ mca [.ref o, a1] 2 ∧ mcall d 385 [.ref o, a1] h (mK (d + 1) 389 Q 43 [x0, x1, x2, x3, x4] st)) := (mw_at mj_389_40).trans ((z_invv (As := [a1]) (by decide) rfl rfl).trans (congrArg (And _) (congrArg (And _) (mC_nl nl_385))))
theorem mj_389_43 : mc_P 389 43 = some (.aload_n 0, 1, 0, 0, 0) := by decide +kernel
theorem s_389_43 {x1 x2 x3 x4 : Option Value} {w : Value} : mw d 389 Q 43 [some w, x1, x2, x3, x4] (st) h = mv_a w (mw d 389 Q 44 [some w, x1, x2, x3, x4] (w :: st) h) := (mw_at mj_389_43).trans (z_aload_n rfl)
theorem mj_389_44 : mc_P 389 44 = some (.aload_n 0, 1, 0, 0, 0) := by decide +kernel
theorem s_389_44 {x1 x2 x3 x4 : Option Value} {w : Value} : mw d 389 Q 44 [some w, x1, x2, x3, x4] (st) h = mv_a w (mw d 389 Q 45 [some w, x1, x2, x3, x4] (w :: st) h) := (mw_at mj_389_44).trans (z_aload_n rfl)
theorem mj_389_45 : mc_P 389 45 = some (.getfield 112, 3, 14, 50, 0) := by decide +kernel
theorem s_389_45 {x0 x1 x2 x3 x4 : Option Value} {o : Nat} : mw d 389 Q 45 [x0, x1, x2, x3, x4] (.ref o :: st) h = (mg h o 14 ∧ mw d 389 Q 48 [x0, x1, x2, x3, x4] (va_rf (mh_r h o 50) :: st) h) := (mw_at mj_389_45).trans (z_getr (by decide) (by decide) rfl)
theorem mj_389_48 : mc_P 389 48 = some (.bipush 12, 2, 0, 0, 0) := by decide +kernel
theorem s_389_48 {x0 x1 x2 x3 x4 : Option Value} : mw d 389 Q 48 [x0, x1, x2, x3, x4] (st) h = mw d 389 Q 50 [x0, x1, x2, x3, x4] (.int 12 :: st) h := (mw_at mj_389_48).trans (z_bipush (by decide))
theorem mj_389_50 : mc_P 389 50 = some (.iload_n 2, 1, 0, 0, 0) := by decide +kernel
theorem s_389_50 {x0 x1 x3 x4 : Option Value} {w : Value} : mw d 389 Q 50 [x0, x1, some w, x3, x4] (st) h = mv_i w (mw d 389 Q 51 [x0, x1, some w, x3, x4] (w :: st) h) := (mw_at mj_389_50).trans (z_iload_n rfl)
theorem mj_389_51 : mc_P 389 51 = some (.imul, 1, 0, 0, 0) := by decide +kernel
theorem s_389_51 {x0 x1 x2 x3 x4 : Option Value} {x w : Int32} : mw d 389 Q 51 [x0, x1, x2, x3, x4] (.int w :: .int x :: st) h = mw d 389 Q 52 [x0, x1, x2, x3, x4] (.int (x * w) :: st) h := (mw_at mj_389_51).trans (z_imul)
theorem mj_389_52 : mc_P 389 52 = some (.iload_n 3, 1, 0, 0, 0) := by decide +kernel
theorem s_389_52 {x0 x1 x2 x4 : Option Value} {w : Value} : mw d 389 Q 52 [x0, x1, x2, some w, x4] (st) h = mv_i w (mw d 389 Q 53 [x0, x1, x2, some w, x4] (w :: st) h) := (mw_at mj_389_52).trans (z_iload_n rfl)
theorem mj_389_53 : mc_P 389 53 = some (.iconst 2, 1, 0, 0, 0) := by decide +kernel
theorem s_389_53 {x0 x1 x2 x3 x4 : Option Value} : mw d 389 Q 53 [x0, x1, x2, x3, x4] (st) h = mw d 389 Q 54 [x0, x1, x2, x3, x4] (.int 2 :: st) h := (mw_at mj_389_53).trans (z_iconst (by decide))
theorem mj_389_54 : mc_P 389 54 = some (.idiv, 1, 0, 0, 0) := by decide +kernel
theorem s_389_54 {x0 x1 x2 x3 x4 : Option Value} {x w : Int32} : mw d 389 Q 54 [x0, x1, x2, x3, x4] (.int w :: .int x :: st) h = (¬ w = 0 ∧ mw d 389 Q 55 [x0, x1, x2, x3, x4] (.int (x / w) :: st) h) := (mw_at mj_389_54).trans (z_idiv)
theorem mj_389_55 : mc_P 389 55 = some (.iadd, 1, 0, 0, 0) := by decide +kernel
theorem s_389_55 {x0 x1 x2 x3 x4 : Option Value} {x w : Int32} : mw d 389 Q 55 [x0, x1, x2, x3, x4] (.int w :: .int x :: st) h = mw d 389 Q 56 [x0, x1, x2, x3, x4] (.int (x + w) :: st) h := (mw_at mj_389_55).trans (z_iadd)
theorem mj_389_56 : mc_P 389 56 = some (.iaload, 1, 0, 0, 0) := by decide +kernel
theorem s_389_56 {x0 x1 x2 x3 x4 : Option Value} {o : Nat} {i : Int32} : mw d 389 Q 56 [x0, x1, x2, x3, x4] (.int i :: .ref o :: st) h = (mg h o 100 ∧ mx i (mh_l h o) ∧ mw d 389 Q 57 [x0, x1, x2, x3, x4] (.int (mh_i h o i.toNatClampNeg) :: st) h) := (mw_at mj_389_56).trans (z_iald)
theorem s_389_56x {x0 x1 x2 x3 x4 : Option Value} {i : Int32} : mw d 389 Q 56 [x0, x1, x2, x3, x4] (.int i :: .retAddr 2 :: st) h = (mx i 24 ∧ mw d 389 Q 57 [x0, x1, x2, x3, x4] (.int (mx_row.getD i.toNatClampNeg 0) :: st) h) := (mw_at mj_389_56).trans (z_iaX)
theorem mj_389_57 : mc_P 389 57 = some (.invokevirtual 567, 3, 387, 14, 2) := by decide +kernel
theorem s_389_57 {x0 x1 x2 x3 x4 : Option Value} {o : Nat} {a1 : Value} : mw (d + 1) 389 Q 57 [x0, x1, x2, x3, x4] (a1 :: .ref o :: st) h = (mg h o 14 ∧ mca st 8 ∧ mca [.ref o, a1] 3 ∧ mcall d 387 [.ref o, a1] h (mK (d + 1) 389 Q 60 [x0, x1, x2, x3, x4] st)) := (mw_at mj_389_57).trans ((z_invv (As := [a1]) (by decide) rfl rfl).trans (congrArg (And _) (congrArg (And _) (mC_nl nl_387))))
theorem mj_389_60 : mc_P 389 60 = some (.aload_n 0, 1, 0, 0, 0) := by decide +kernel
theorem s_389_60 {x1 x2 x3 x4 : Option Value} {w : Value} : mw d 389 Q 60 [some w, x1, x2, x3, x4] (st) h = mv_a w (mw d 389 Q 61 [some w, x1, x2, x3, x4] (w :: st) h) := (mw_at mj_389_60).trans (z_aload_n rfl)
theorem mj_389_61 : mc_P 389 61 = some (.iload 4, 2, 0, 0, 0) := by decide +kernel
theorem s_389_61 {x0 x1 x2 x3 : Option Value} {w : Value} : mw d 389 Q 61 [x0, x1, x2, x3, some w] (st) h = mv_i w (mw d 389 Q 63 [x0, x1, x2, x3, some w] (w :: st) h) := (mw_at mj_389_61).trans (z_iload rfl)
theorem mj_389_63 : mc_P 389 63 = some (.iconst 2, 1, 0, 0, 0) := by decide +kernel
theorem s_389_63 {x0 x1 x2 x3 x4 : Option Value} : mw d 389 Q 63 [x0, x1, x2, x3, x4] (st) h = mw d 389 Q 64 [x0, x1, x2, x3, x4] (.int 2 :: st) h := (mw_at mj_389_63).trans (z_iconst (by decide))
theorem mj_389_64 : mc_P 389 64 = some (.irem, 1, 0, 0, 0) := by decide +kernel
theorem s_389_64 {x0 x1 x2 x3 x4 : Option Value} {x w : Int32} : mw d 389 Q 64 [x0, x1, x2, x3, x4] (.int w :: .int x :: st) h = (¬ w = 0 ∧ mw d 389 Q 65 [x0, x1, x2, x3, x4] (.int (x - x / w * w) :: st) h) := (mw_at mj_389_64).trans (z_irem)
theorem mj_389_65 : mc_P 389 65 = some (.ifCond .ne 9, 3, 0, 0, 0) := by decide +kernel
theorem s_389_65 {x0 x1 x2 x3 x4 : Option Value} {x : Int32} : mw d 389 Q 65 [x0, x1, x2, x3, x4] (.int x :: st) h = mB (¬ x = 0) (mw d 389 Q) 74 68 [x0, x1, x2, x3, x4] st h := (mw_at mj_389_65).trans (z_if_ne (by decide) rfl)
theorem mj_389_68 : mc_P 389 68 = some (.ldc_w 570, 3, 84, 1, 0) := by decide +kernel
theorem s_389_68 {x0 x1 x2 x3 x4 : Option Value} : mw d 389 Q 68 [x0, x1, x2, x3, x4] (st) h = mw d 389 Q 71 [x0, x1, x2, x3, x4] (.retAddr 84 :: st) h := (mw_at mj_389_68).trans (z_ldcW)
theorem mj_389_71 : mc_P 389 71 = some (.goto 6, 3, 0, 0, 0) := by decide +kernel
theorem s_389_71 {x0 x1 x2 x3 x4 : Option Value} : mw d 389 Q 71 [x0, x1, x2, x3, x4] (st) h = mw d 389 Q 77 [x0, x1, x2, x3, x4] (st) h := (mw_at mj_389_71).trans (z_goto (by decide))
theorem mj_389_74 : mc_P 389 74 = some (.ldc_w 572, 3, 87, 1, 0) := by decide +kernel
theorem s_389_74 {x0 x1 x2 x3 x4 : Option Value} : mw d 389 Q 74 [x0, x1, x2, x3, x4] (st) h = mw d 389 Q 77 [x0, x1, x2, x3, x4] (.retAddr 87 :: st) h := (mw_at mj_389_74).trans (z_ldcW)
theorem mj_389_77 : mc_P 389 77 = some (.invokevirtual 555, 3, 384, 14, 2) := by decide +kernel
theorem s_389_77 {x0 x1 x2 x3 x4 : Option Value} {o : Nat} {a1 : Value} : mw (d + 1) 389 Q 77 [x0, x1, x2, x3, x4] (a1 :: .ref o :: st) h = (mg h o 14 ∧ mca st 8 ∧ mca [.ref o, a1] 3 ∧ mcall d 384 [.ref o, a1] h (mK (d + 1) 389 Q 80 [x0, x1, x2, x3, x4] st)) := (mw_at mj_389_77).trans ((z_invv (As := [a1]) (by decide) rfl rfl).trans (congrArg (And _) (congrArg (And _) (mC_nl nl_384))))
theorem mj_389_80 : mc_P 389 80 = some (.aload_n 0, 1, 0, 0, 0) := by decide +kernel
theorem s_389_80 {x1 x2 x3 x4 : Option Value} {w : Value} : mw d 389 Q 80 [some w, x1, x2, x3, x4] (st) h = mv_a w (mw d 389 Q 81 [some w, x1, x2, x3, x4] (w :: st) h) := (mw_at mj_389_80).trans (z_aload_n rfl)
theorem mj_389_81 : mc_P 389 81 = some (.aload_n 0, 1, 0, 0, 0) := by decide +kernel
theorem s_389_81 {x1 x2 x3 x4 : Option Value} {w : Value} : mw d 389 Q 81 [some w, x1, x2, x3, x4] (st) h = mv_a w (mw d 389 Q 82 [some w, x1, x2, x3, x4] (w :: st) h) := (mw_at mj_389_81).trans (z_aload_n rfl)
theorem mj_389_82 : mc_P 389 82 = some (.getfield 112, 3, 14, 50, 0) := by decide +kernel
theorem s_389_82 {x0 x1 x2 x3 x4 : Option Value} {o : Nat} : mw d 389 Q 82 [x0, x1, x2, x3, x4] (.ref o :: st) h = (mg h o 14 ∧ mw d 389 Q 85 [x0, x1, x2, x3, x4] (va_rf (mh_r h o 50) :: st) h) := (mw_at mj_389_82).trans (z_getr (by decide) (by decide) rfl)
theorem mj_389_85 : mc_P 389 85 = some (.bipush 12, 2, 0, 0, 0) := by decide +kernel
theorem s_389_85 {x0 x1 x2 x3 x4 : Option Value} : mw d 389 Q 85 [x0, x1, x2, x3, x4] (st) h = mw d 389 Q 87 [x0, x1, x2, x3, x4] (.int 12 :: st) h := (mw_at mj_389_85).trans (z_bipush (by decide))
theorem mj_389_87 : mc_P 389 87 = some (.iload_n 2, 1, 0, 0, 0) := by decide +kernel
theorem s_389_87 {x0 x1 x3 x4 : Option Value} {w : Value} : mw d 389 Q 87 [x0, x1, some w, x3, x4] (st) h = mv_i w (mw d 389 Q 88 [x0, x1, some w, x3, x4] (w :: st) h) := (mw_at mj_389_87).trans (z_iload_n rfl)
theorem mj_389_88 : mc_P 389 88 = some (.imul, 1, 0, 0, 0) := by decide +kernel
theorem s_389_88 {x0 x1 x2 x3 x4 : Option Value} {x w : Int32} : mw d 389 Q 88 [x0, x1, x2, x3, x4] (.int w :: .int x :: st) h = mw d 389 Q 89 [x0, x1, x2, x3, x4] (.int (x * w) :: st) h := (mw_at mj_389_88).trans (z_imul)
theorem mj_389_89 : mc_P 389 89 = some (.iload 4, 2, 0, 0, 0) := by decide +kernel
theorem s_389_89 {x0 x1 x2 x3 : Option Value} {w : Value} : mw d 389 Q 89 [x0, x1, x2, x3, some w] (st) h = mv_i w (mw d 389 Q 91 [x0, x1, x2, x3, some w] (w :: st) h) := (mw_at mj_389_89).trans (z_iload rfl)
theorem mj_389_91 : mc_P 389 91 = some (.iconst 2, 1, 0, 0, 0) := by decide +kernel
theorem s_389_91 {x0 x1 x2 x3 x4 : Option Value} : mw d 389 Q 91 [x0, x1, x2, x3, x4] (st) h = mw d 389 Q 92 [x0, x1, x2, x3, x4] (.int 2 :: st) h := (mw_at mj_389_91).trans (z_iconst (by decide))
theorem mj_389_92 : mc_P 389 92 = some (.idiv, 1, 0, 0, 0) := by decide +kernel
theorem s_389_92 {x0 x1 x2 x3 x4 : Option Value} {x w : Int32} : mw d 389 Q 92 [x0, x1, x2, x3, x4] (.int w :: .int x :: st) h = (¬ w = 0 ∧ mw d 389 Q 93 [x0, x1, x2, x3, x4] (.int (x / w) :: st) h) := (mw_at mj_389_92).trans (z_idiv)
theorem mj_389_93 : mc_P 389 93 = some (.iadd, 1, 0, 0, 0) := by decide +kernel
theorem s_389_93 {x0 x1 x2 x3 x4 : Option Value} {x w : Int32} : mw d 389 Q 93 [x0, x1, x2, x3, x4] (.int w :: .int x :: st) h = mw d 389 Q 94 [x0, x1, x2, x3, x4] (.int (x + w) :: st) h := (mw_at mj_389_93).trans (z_iadd)
theorem mj_389_94 : mc_P 389 94 = some (.iaload, 1, 0, 0, 0) := by decide +kernel
theorem s_389_94 {x0 x1 x2 x3 x4 : Option Value} {o : Nat} {i : Int32} : mw d 389 Q 94 [x0, x1, x2, x3, x4] (.int i :: .ref o :: st) h = (mg h o 100 ∧ mx i (mh_l h o) ∧ mw d 389 Q 95 [x0, x1, x2, x3, x4] (.int (mh_i h o i.toNatClampNeg) :: st) h) := (mw_at mj_389_94).trans (z_iald)
theorem s_389_94x {x0 x1 x2 x3 x4 : Option Value} {i : Int32} : mw d 389 Q 94 [x0, x1, x2, x3, x4] (.int i :: .retAddr 2 :: st) h = (mx i 24 ∧ mw d 389 Q 95 [x0, x1, x2, x3, x4] (.int (mx_row.getD i.toNatClampNeg 0) :: st) h) := (mw_at mj_389_94).trans (z_iaX)
theorem mj_389_95 : mc_P 389 95 = some (.invokevirtual 567, 3, 387, 14, 2) := by decide +kernel
theorem s_389_95 {x0 x1 x2 x3 x4 : Option Value} {o : Nat} {a1 : Value} : mw (d + 1) 389 Q 95 [x0, x1, x2, x3, x4] (a1 :: .ref o :: st) h = (mg h o 14 ∧ mca st 8 ∧ mca [.ref o, a1] 3 ∧ mcall d 387 [.ref o, a1] h (mK (d + 1) 389 Q 98 [x0, x1, x2, x3, x4] st)) := (mw_at mj_389_95).trans ((z_invv (As := [a1]) (by decide) rfl rfl).trans (congrArg (And _) (congrArg (And _) (mC_nl nl_387))))
theorem mj_389_98 : mc_P 389 98 = some (.aload_n 0, 1, 0, 0, 0) := by decide +kernel
theorem s_389_98 {x1 x2 x3 x4 : Option Value} {w : Value} : mw d 389 Q 98 [some w, x1, x2, x3, x4] (st) h = mv_a w (mw d 389 Q 99 [some w, x1, x2, x3, x4] (w :: st) h) := (mw_at mj_389_98).trans (z_aload_n rfl)
theorem mj_389_99 : mc_P 389 99 = some (.ldc_w 574, 3, 90, 1, 0) := by decide +kernel
theorem s_389_99 {x0 x1 x2 x3 x4 : Option Value} : mw d 389 Q 99 [x0, x1, x2, x3, x4] (st) h = mw d 389 Q 102 [x0, x1, x2, x3, x4] (.retAddr 90 :: st) h := (mw_at mj_389_99).trans (z_ldcW)
theorem mj_389_102 : mc_P 389 102 = some (.invokevirtual 555, 3, 384, 14, 2) := by decide +kernel
theorem s_389_102 {x0 x1 x2 x3 x4 : Option Value} {o : Nat} {a1 : Value} : mw (d + 1) 389 Q 102 [x0, x1, x2, x3, x4] (a1 :: .ref o :: st) h = (mg h o 14 ∧ mca st 8 ∧ mca [.ref o, a1] 3 ∧ mcall d 384 [.ref o, a1] h (mK (d + 1) 389 Q 105 [x0, x1, x2, x3, x4] st)) := (mw_at mj_389_102).trans ((z_invv (As := [a1]) (by decide) rfl rfl).trans (congrArg (And _) (congrArg (And _) (mC_nl nl_384))))
theorem mj_389_105 : mc_P 389 105 = some (.aload_n 0, 1, 0, 0, 0) := by decide +kernel
theorem s_389_105 {x1 x2 x3 x4 : Option Value} {w : Value} : mw d 389 Q 105 [some w, x1, x2, x3, x4] (st) h = mv_a w (mw d 389 Q 106 [some w, x1, x2, x3, x4] (w :: st) h) := (mw_at mj_389_105).trans (z_aload_n rfl)
theorem mj_389_106 : mc_P 389 106 = some (.aload_n 1, 1, 0, 0, 0) := by decide +kernel
theorem s_389_106 {x0 x2 x3 x4 : Option Value} {w : Value} : mw d 389 Q 106 [x0, some w, x2, x3, x4] (st) h = mv_a w (mw d 389 Q 107 [x0, some w, x2, x3, x4] (w :: st) h) := (mw_at mj_389_106).trans (z_aload_n rfl)
theorem mj_389_107 : mc_P 389 107 = some (.iload_n 3, 1, 0, 0, 0) := by decide +kernel
theorem s_389_107 {x0 x1 x2 x4 : Option Value} {w : Value} : mw d 389 Q 107 [x0, x1, x2, some w, x4] (st) h = mv_i w (mw d 389 Q 108 [x0, x1, x2, some w, x4] (w :: st) h) := (mw_at mj_389_107).trans (z_iload_n rfl)
theorem mj_389_108 : mc_P 389 108 = some (.iload 4, 2, 0, 0, 0) := by decide +kernel
theorem s_389_108 {x0 x1 x2 x3 : Option Value} {w : Value} : mw d 389 Q 108 [x0, x1, x2, x3, some w] (st) h = mv_i w (mw d 389 Q 110 [x0, x1, x2, x3, some w] (w :: st) h) := (mw_at mj_389_108).trans (z_iload rfl)
theorem mj_389_110 : mc_P 389 110 = some (.invokevirtual 511, 3, 282, 13, 3) := by decide +kernel
theorem s_389_110 {x0 x1 x2 x3 x4 : Option Value} {o : Nat} {a1 a2 : Value} : mw (d + 1) 389 Q 110 [x0, x1, x2, x3, x4] (a2 :: a1 :: .ref o :: st) h = (mg h o 13 ∧ mca st 8 ∧ mca [.ref o, a1, a2] 5 ∧ mcall d 282 [.ref o, a1, a2] h (mK (d + 1) 389 Q 113 [x0, x1, x2, x3, x4] st)) := (mw_at mj_389_110).trans ((z_invv (As := [a1, a2]) (by decide) rfl rfl).trans (congrArg (And _) (congrArg (And _) (mC_nl nl_282))))
theorem mj_389_113 : mc_P 389 113 = some (.invokevirtual 576, 3, 388, 14, 2) := by decide +kernel
theorem s_389_113 {x0 x1 x2 x3 x4 : Option Value} {o : Nat} {a1 : Value} : mw (d + 1) 389 Q 113 [x0, x1, x2, x3, x4] (a1 :: .ref o :: st) h = (mg h o 14 ∧ mca st 8 ∧ mca [.ref o, a1] 7 ∧ mcall d 388 [.ref o, a1] h (mK (d + 1) 389 Q 116 [x0, x1, x2, x3, x4] st)) := (mw_at mj_389_113).trans ((z_invv (As := [a1]) (by decide) rfl rfl).trans (congrArg (And _) (congrArg (And _) (mC_nl nl_388))))
theorem mj_389_116 : mc_P 389 116 = some (.return_, 1, 0, 0, 0) := by decide +kernel
theorem s_389_116 {x0 x1 x2 x3 x4 : Option Value} : mw d 389 Q 116 [x0, x1, x2, x3, x4] ([]) h = Q none h := (mw_at mj_389_116).trans (z_vret)
theorem e_389 {a0 : Nat} {a1 : Nat} {a2 : Int32} {a3 : Int32} {a4 : Int32} : mcall d 389 [.ref a0, .ref a1, .int a2, .int a3, .int a4] h Q = mw d 389 Q 0 [some (.ref a0), some (.ref a1), some (.int a2), some (.int a3), some (.int a4)] [] h := by
  show mw d 389 Q 0 (me_en (mc_nl 389) _) [] h = _
  rw [nl_389]; rfl

end SR
