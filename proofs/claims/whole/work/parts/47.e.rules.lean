/-! rules of methods, by program (wip/whole/srule.py) -/
section SR
variable {d : Nat} {Q : Option Value → mh_H → Prop} {st : List Value} {h : mh_H}
/-! InvariantDeskModel.behind(I)I -/
theorem mj_333_0 : mc_P 333 0 = some (.iload_n 1, 1, 0, 0, 0) := by decide +kernel
theorem s_333_0 {x0 : Option Value} {w : Value} : mw d 333 Q 0 [x0, some w] (st) h = mv_i w (mw d 333 Q 1 [x0, some w] (w :: st) h) := (mw_at mj_333_0).trans (z_iload_n rfl)
theorem mj_333_1 : mc_P 333 1 = some (.aload_n 0, 1, 0, 0, 0) := by decide +kernel
theorem s_333_1 {x1 : Option Value} {w : Value} : mw d 333 Q 1 [some w, x1] (st) h = mv_a w (mw d 333 Q 2 [some w, x1] (w :: st) h) := (mw_at mj_333_1).trans (z_aload_n rfl)
theorem mj_333_2 : mc_P 333 2 = some (.getfield 61, 3, 14, 23, 0) := by decide +kernel
theorem s_333_2 {x0 x1 : Option Value} {o : Nat} : mw d 333 Q 2 [x0, x1] (.ref o :: st) h = (mg h o 14 ∧ mw d 333 Q 5 [x0, x1] (va_rf (mh_r h o 23) :: st) h) := (mw_at mj_333_2).trans (z_getr (by decide) (by decide) rfl)
theorem mj_333_5 : mc_P 333 5 = some (.iload_n 1, 1, 0, 0, 0) := by decide +kernel
theorem s_333_5 {x0 : Option Value} {w : Value} : mw d 333 Q 5 [x0, some w] (st) h = mv_i w (mw d 333 Q 6 [x0, some w] (w :: st) h) := (mw_at mj_333_5).trans (z_iload_n rfl)
theorem mj_333_6 : mc_P 333 6 = some (.iaload, 1, 0, 0, 0) := by decide +kernel
theorem s_333_6 {x0 x1 : Option Value} {o : Nat} {i : Int32} : mw d 333 Q 6 [x0, x1] (.int i :: .ref o :: st) h = (mg h o 100 ∧ mx i (mh_l h o) ∧ mw d 333 Q 7 [x0, x1] (.int (mh_i h o i.toNatClampNeg) :: st) h) := (mw_at mj_333_6).trans (z_iald)
theorem mj_333_7 : mc_P 333 7 = some (.iadd, 1, 0, 0, 0) := by decide +kernel
theorem s_333_7 {x0 x1 : Option Value} {x w : Int32} : mw d 333 Q 7 [x0, x1] (.int w :: .int x :: st) h = mw d 333 Q 8 [x0, x1] (.int (x + w) :: st) h := (mw_at mj_333_7).trans (z_iadd)
theorem mj_333_8 : mc_P 333 8 = some (.ireturn, 1, 0, 0, 0) := by decide +kernel
theorem s_333_8 {x0 x1 : Option Value} {x : Int32} : mw d 333 Q 8 [x0, x1] ([.int x]) h = (Q (some (.int x)) h) := (mw_at mj_333_8).trans (z_iret)
theorem e_333 {a0 : Nat} {a1 : Int32} : mcall d 333 [.ref a0, .int a1] h Q = mw d 333 Q 0 [some (.ref a0), some (.int a1)] [] h := by
  show mw d 333 Q 0 (me_en (mc_nl 333) _) [] h = _
  rw [nl_333]; rfl

/-! InvariantDeskModel.second(I)I -/
theorem mj_334_0 : mc_P 334 0 = some (.aload_n 0, 1, 0, 0, 0) := by decide +kernel
theorem s_334_0 {x1 : Option Value} {w : Value} : mw d 334 Q 0 [some w, x1] (st) h = mv_a w (mw d 334 Q 1 [some w, x1] (w :: st) h) := (mw_at mj_334_0).trans (z_aload_n rfl)
theorem mj_334_1 : mc_P 334 1 = some (.iload_n 1, 1, 0, 0, 0) := by decide +kernel
theorem s_334_1 {x0 : Option Value} {w : Value} : mw d 334 Q 1 [x0, some w] (st) h = mv_i w (mw d 334 Q 2 [x0, some w] (w :: st) h) := (mw_at mj_334_1).trans (z_iload_n rfl)
theorem mj_334_2 : mc_P 334 2 = some (.iconst 1, 1, 0, 0, 0) := by decide +kernel
theorem s_334_2 {x0 x1 : Option Value} : mw d 334 Q 2 [x0, x1] (st) h = mw d 334 Q 3 [x0, x1] (.int 1 :: st) h := (mw_at mj_334_2).trans (z_iconst (by decide))
theorem mj_334_3 : mc_P 334 3 = some (.iadd, 1, 0, 0, 0) := by decide +kernel
theorem s_334_3 {x0 x1 : Option Value} {x w : Int32} : mw d 334 Q 3 [x0, x1] (.int w :: .int x :: st) h = mw d 334 Q 4 [x0, x1] (.int (x + w) :: st) h := (mw_at mj_334_3).trans (z_iadd)
theorem mj_334_4 : mc_P 334 4 = some (.invokevirtual 348, 3, 333, 14, 2) := by decide +kernel
theorem s_334_4 {x0 x1 : Option Value} {o : Nat} {a1 : Value} : mw (d + 1) 334 Q 4 [x0, x1] (a1 :: .ref o :: st) h = (mg h o 14 ∧ mca st 8 ∧ mca [.ref o, a1] 2 ∧ mcall d 333 [.ref o, a1] h (mK (d + 1) 334 Q 7 [x0, x1] st)) := (mw_at mj_334_4).trans ((z_invv (As := [a1]) (by decide) rfl rfl).trans (congrArg (And _) (congrArg (And _) (mC_nl nl_333))))
theorem mj_334_7 : mc_P 334 7 = some (.ireturn, 1, 0, 0, 0) := by decide +kernel
theorem s_334_7 {x0 x1 : Option Value} {x : Int32} : mw d 334 Q 7 [x0, x1] ([.int x]) h = (Q (some (.int x)) h) := (mw_at mj_334_7).trans (z_iret)
theorem e_334 {a0 : Nat} {a1 : Int32} : mcall d 334 [.ref a0, .int a1] h Q = mw d 334 Q 0 [some (.ref a0), some (.int a1)] [] h := by
  show mw d 334 Q 0 (me_en (mc_nl 334) _) [] h = _
  rw [nl_334]; rfl

/-! InvariantDeskModel.after(I)I -/
theorem mj_351_0 : mc_P 351 0 = some (.iload_n 1, 1, 0, 0, 0) := by decide +kernel
theorem s_351_0 {x0 x2 x3 : Option Value} {w : Value} : mw d 351 Q 0 [x0, some w, x2, x3] (st) h = mv_i w (mw d 351 Q 1 [x0, some w, x2, x3] (w :: st) h) := (mw_at mj_351_0).trans (z_iload_n rfl)
theorem mj_351_1 : mc_P 351 1 = some (.istore_n 2, 1, 0, 0, 0) := by decide +kernel
theorem s_351_1 {x0 x1 x2 x3 : Option Value} {w : Int32} : mw d 351 Q 1 [x0, x1, x2, x3] (.int w :: st) h = mw d 351 Q 2 [x0, mk2 x1, some (.int w), x3] (st) h := (mw_at mj_351_1).trans (z_istore_n (Nat.le_of_ble_eq_true rfl) (me_s1_mk (j := 1) (w := x1) rfl))
theorem mj_351_2 : mc_P 351 2 = some (.aload_n 0, 1, 0, 0, 0) := by decide +kernel
theorem s_351_2 {x1 x2 x3 : Option Value} {w : Value} : mw d 351 Q 2 [some w, x1, x2, x3] (st) h = mv_a w (mw d 351 Q 3 [some w, x1, x2, x3] (w :: st) h) := (mw_at mj_351_2).trans (z_aload_n rfl)
theorem mj_351_3 : mc_P 351 3 = some (.getfield 70, 3, 14, 28, 0) := by decide +kernel
theorem s_351_3 {x0 x1 x2 x3 : Option Value} {o : Nat} : mw d 351 Q 3 [x0, x1, x2, x3] (.ref o :: st) h = (mg h o 14 ∧ mw d 351 Q 6 [x0, x1, x2, x3] (va_rf (mh_r h o 28) :: st) h) := (mw_at mj_351_3).trans (z_getr (by decide) (by decide) rfl)
theorem mj_351_6 : mc_P 351 6 = some (.iload_n 2, 1, 0, 0, 0) := by decide +kernel
theorem s_351_6 {x0 x1 x3 : Option Value} {w : Value} : mw d 351 Q 6 [x0, x1, some w, x3] (st) h = mv_i w (mw d 351 Q 7 [x0, x1, some w, x3] (w :: st) h) := (mw_at mj_351_6).trans (z_iload_n rfl)
theorem mj_351_7 : mc_P 351 7 = some (.iaload, 1, 0, 0, 0) := by decide +kernel
theorem s_351_7 {x0 x1 x2 x3 : Option Value} {o : Nat} {i : Int32} : mw d 351 Q 7 [x0, x1, x2, x3] (.int i :: .ref o :: st) h = (mg h o 100 ∧ mx i (mh_l h o) ∧ mw d 351 Q 8 [x0, x1, x2, x3] (.int (mh_i h o i.toNatClampNeg) :: st) h) := (mw_at mj_351_7).trans (z_iald)
theorem mj_351_8 : mc_P 351 8 = some (.iconst (-1), 1, 0, 0, 0) := by decide +kernel
theorem s_351_8 {x0 x1 x2 x3 : Option Value} : mw d 351 Q 8 [x0, x1, x2, x3] (st) h = mw d 351 Q 9 [x0, x1, x2, x3] (.int (-1) :: st) h := (mw_at mj_351_8).trans (z_iconst (by decide))
theorem mj_351_9 : mc_P 351 9 = some (.if_icmp .eq 80, 3, 0, 0, 0) := by decide +kernel
theorem s_351_9 {x0 x1 x2 x3 : Option Value} {x w : Int32} : mw d 351 Q 9 [x0, x1, x2, x3] (.int w :: .int x :: st) h = mB (x = w) (mw d 351 Q) 89 12 [x0, x1, x2, x3] st h := (mw_at mj_351_9).trans (z_icmp_eq (by decide) rfl)
theorem mj_351_12 : mc_P 351 12 = some (.aload_n 0, 1, 0, 0, 0) := by decide +kernel
theorem s_351_12 {x1 x2 x3 : Option Value} {w : Value} : mw d 351 Q 12 [some w, x1, x2, x3] (st) h = mv_a w (mw d 351 Q 13 [some w, x1, x2, x3] (w :: st) h) := (mw_at mj_351_12).trans (z_aload_n rfl)
theorem mj_351_13 : mc_P 351 13 = some (.getfield 70, 3, 14, 28, 0) := by decide +kernel
theorem s_351_13 {x0 x1 x2 x3 : Option Value} {o : Nat} : mw d 351 Q 13 [x0, x1, x2, x3] (.ref o :: st) h = (mg h o 14 ∧ mw d 351 Q 16 [x0, x1, x2, x3] (va_rf (mh_r h o 28) :: st) h) := (mw_at mj_351_13).trans (z_getr (by decide) (by decide) rfl)
theorem mj_351_16 : mc_P 351 16 = some (.iload_n 2, 1, 0, 0, 0) := by decide +kernel
theorem s_351_16 {x0 x1 x3 : Option Value} {w : Value} : mw d 351 Q 16 [x0, x1, some w, x3] (st) h = mv_i w (mw d 351 Q 17 [x0, x1, some w, x3] (w :: st) h) := (mw_at mj_351_16).trans (z_iload_n rfl)
theorem mj_351_17 : mc_P 351 17 = some (.iaload, 1, 0, 0, 0) := by decide +kernel
theorem s_351_17 {x0 x1 x2 x3 : Option Value} {o : Nat} {i : Int32} : mw d 351 Q 17 [x0, x1, x2, x3] (.int i :: .ref o :: st) h = (mg h o 100 ∧ mx i (mh_l h o) ∧ mw d 351 Q 18 [x0, x1, x2, x3] (.int (mh_i h o i.toNatClampNeg) :: st) h) := (mw_at mj_351_17).trans (z_iald)
theorem mj_351_18 : mc_P 351 18 = some (.istore_n 3, 1, 0, 0, 0) := by decide +kernel
theorem s_351_18 {x0 x1 x2 x3 : Option Value} {w : Int32} : mw d 351 Q 18 [x0, x1, x2, x3] (.int w :: st) h = mw d 351 Q 19 [x0, x1, mk2 x2, some (.int w)] (st) h := (mw_at mj_351_18).trans (z_istore_n (Nat.le_of_ble_eq_true rfl) (me_s1_mk (j := 2) (w := x2) rfl))
theorem mj_351_19 : mc_P 351 19 = some (.aload_n 0, 1, 0, 0, 0) := by decide +kernel
theorem s_351_19 {x1 x2 x3 : Option Value} {w : Value} : mw d 351 Q 19 [some w, x1, x2, x3] (st) h = mv_a w (mw d 351 Q 20 [some w, x1, x2, x3] (w :: st) h) := (mw_at mj_351_19).trans (z_aload_n rfl)
theorem mj_351_20 : mc_P 351 20 = some (.iload_n 3, 1, 0, 0, 0) := by decide +kernel
theorem s_351_20 {x0 x1 x2 : Option Value} {w : Value} : mw d 351 Q 20 [x0, x1, x2, some w] (st) h = mv_i w (mw d 351 Q 21 [x0, x1, x2, some w] (w :: st) h) := (mw_at mj_351_20).trans (z_iload_n rfl)
theorem mj_351_21 : mc_P 351 21 = some (.invokevirtual 348, 3, 333, 14, 2) := by decide +kernel
theorem s_351_21 {x0 x1 x2 x3 : Option Value} {o : Nat} {a1 : Value} : mw (d + 1) 351 Q 21 [x0, x1, x2, x3] (a1 :: .ref o :: st) h = (mg h o 14 ∧ mca st 8 ∧ mca [.ref o, a1] 2 ∧ mcall d 333 [.ref o, a1] h (mK (d + 1) 351 Q 24 [x0, x1, x2, x3] st)) := (mw_at mj_351_21).trans ((z_invv (As := [a1]) (by decide) rfl rfl).trans (congrArg (And _) (congrArg (And _) (mC_nl nl_333))))
theorem mj_351_24 : mc_P 351 24 = some (.aload_n 0, 1, 0, 0, 0) := by decide +kernel
theorem s_351_24 {x1 x2 x3 : Option Value} {w : Value} : mw d 351 Q 24 [some w, x1, x2, x3] (st) h = mv_a w (mw d 351 Q 25 [some w, x1, x2, x3] (w :: st) h) := (mw_at mj_351_24).trans (z_aload_n rfl)
theorem mj_351_25 : mc_P 351 25 = some (.aload_n 0, 1, 0, 0, 0) := by decide +kernel
theorem s_351_25 {x1 x2 x3 : Option Value} {w : Value} : mw d 351 Q 25 [some w, x1, x2, x3] (st) h = mv_a w (mw d 351 Q 26 [some w, x1, x2, x3] (w :: st) h) := (mw_at mj_351_25).trans (z_aload_n rfl)
theorem mj_351_26 : mc_P 351 26 = some (.getfield 58, 3, 14, 22, 0) := by decide +kernel
theorem s_351_26 {x0 x1 x2 x3 : Option Value} {o : Nat} : mw d 351 Q 26 [x0, x1, x2, x3] (.ref o :: st) h = (mg h o 14 ∧ mw d 351 Q 29 [x0, x1, x2, x3] (va_rf (mh_r h o 22) :: st) h) := (mw_at mj_351_26).trans (z_getr (by decide) (by decide) rfl)
theorem mj_351_29 : mc_P 351 29 = some (.iload_n 3, 1, 0, 0, 0) := by decide +kernel
theorem s_351_29 {x0 x1 x2 : Option Value} {w : Value} : mw d 351 Q 29 [x0, x1, x2, some w] (st) h = mv_i w (mw d 351 Q 30 [x0, x1, x2, some w] (w :: st) h) := (mw_at mj_351_29).trans (z_iload_n rfl)
theorem mj_351_30 : mc_P 351 30 = some (.iaload, 1, 0, 0, 0) := by decide +kernel
theorem s_351_30 {x0 x1 x2 x3 : Option Value} {o : Nat} {i : Int32} : mw d 351 Q 30 [x0, x1, x2, x3] (.int i :: .ref o :: st) h = (mg h o 100 ∧ mx i (mh_l h o) ∧ mw d 351 Q 31 [x0, x1, x2, x3] (.int (mh_i h o i.toNatClampNeg) :: st) h) := (mw_at mj_351_30).trans (z_iald)
theorem mj_351_31 : mc_P 351 31 = some (.invokevirtual 348, 3, 333, 14, 2) := by decide +kernel
theorem s_351_31 {x0 x1 x2 x3 : Option Value} {o : Nat} {a1 : Value} : mw (d + 1) 351 Q 31 [x0, x1, x2, x3] (a1 :: .ref o :: st) h = (mg h o 14 ∧ mca st 8 ∧ mca [.ref o, a1] 2 ∧ mcall d 333 [.ref o, a1] h (mK (d + 1) 351 Q 34 [x0, x1, x2, x3] st)) := (mw_at mj_351_31).trans ((z_invv (As := [a1]) (by decide) rfl rfl).trans (congrArg (And _) (congrArg (And _) (mC_nl nl_333))))
theorem mj_351_34 : mc_P 351 34 = some (.if_icmp .ge 10, 3, 0, 0, 0) := by decide +kernel
theorem s_351_34 {x0 x1 x2 x3 : Option Value} {x w : Int32} : mw d 351 Q 34 [x0, x1, x2, x3] (.int w :: .int x :: st) h = mB (w ≤ x) (mw d 351 Q) 44 37 [x0, x1, x2, x3] st h := (mw_at mj_351_34).trans (z_icmp_ge (by decide) rfl)
theorem mj_351_37 : mc_P 351 37 = some (.aload_n 0, 1, 0, 0, 0) := by decide +kernel
theorem s_351_37 {x1 x2 x3 : Option Value} {w : Value} : mw d 351 Q 37 [some w, x1, x2, x3] (st) h = mv_a w (mw d 351 Q 38 [some w, x1, x2, x3] (w :: st) h) := (mw_at mj_351_37).trans (z_aload_n rfl)
theorem mj_351_38 : mc_P 351 38 = some (.getfield 76, 3, 14, 30, 0) := by decide +kernel
theorem s_351_38 {x0 x1 x2 x3 : Option Value} {o : Nat} : mw d 351 Q 38 [x0, x1, x2, x3] (.ref o :: st) h = (mg h o 14 ∧ mw d 351 Q 41 [x0, x1, x2, x3] (va_rf (mh_r h o 30) :: st) h) := (mw_at mj_351_38).trans (z_getr (by decide) (by decide) rfl)
theorem mj_351_41 : mc_P 351 41 = some (.iload_n 2, 1, 0, 0, 0) := by decide +kernel
theorem s_351_41 {x0 x1 x3 : Option Value} {w : Value} : mw d 351 Q 41 [x0, x1, some w, x3] (st) h = mv_i w (mw d 351 Q 42 [x0, x1, some w, x3] (w :: st) h) := (mw_at mj_351_41).trans (z_iload_n rfl)
theorem mj_351_42 : mc_P 351 42 = some (.iaload, 1, 0, 0, 0) := by decide +kernel
theorem s_351_42 {x0 x1 x2 x3 : Option Value} {o : Nat} {i : Int32} : mw d 351 Q 42 [x0, x1, x2, x3] (.int i :: .ref o :: st) h = (mg h o 100 ∧ mx i (mh_l h o) ∧ mw d 351 Q 43 [x0, x1, x2, x3] (.int (mh_i h o i.toNatClampNeg) :: st) h) := (mw_at mj_351_42).trans (z_iald)
theorem mj_351_43 : mc_P 351 43 = some (.ireturn, 1, 0, 0, 0) := by decide +kernel
theorem s_351_43 {x0 x1 x2 x3 : Option Value} {x : Int32} : mw d 351 Q 43 [x0, x1, x2, x3] ([.int x]) h = (Q (some (.int x)) h) := (mw_at mj_351_43).trans (z_iret)
theorem mj_351_44 : mc_P 351 44 = some (.aload_n 0, 1, 0, 0, 0) := by decide +kernel
theorem s_351_44 {x1 x2 x3 : Option Value} {w : Value} : mw d 351 Q 44 [some w, x1, x2, x3] (st) h = mv_a w (mw d 351 Q 45 [some w, x1, x2, x3] (w :: st) h) := (mw_at mj_351_44).trans (z_aload_n rfl)
theorem mj_351_45 : mc_P 351 45 = some (.getfield 73, 3, 14, 29, 0) := by decide +kernel
theorem s_351_45 {x0 x1 x2 x3 : Option Value} {o : Nat} : mw d 351 Q 45 [x0, x1, x2, x3] (.ref o :: st) h = (mg h o 14 ∧ mw d 351 Q 48 [x0, x1, x2, x3] (va_rf (mh_r h o 29) :: st) h) := (mw_at mj_351_45).trans (z_getr (by decide) (by decide) rfl)
theorem mj_351_48 : mc_P 351 48 = some (.iload_n 2, 1, 0, 0, 0) := by decide +kernel
theorem s_351_48 {x0 x1 x3 : Option Value} {w : Value} : mw d 351 Q 48 [x0, x1, some w, x3] (st) h = mv_i w (mw d 351 Q 49 [x0, x1, some w, x3] (w :: st) h) := (mw_at mj_351_48).trans (z_iload_n rfl)
theorem mj_351_49 : mc_P 351 49 = some (.iaload, 1, 0, 0, 0) := by decide +kernel
theorem s_351_49 {x0 x1 x2 x3 : Option Value} {o : Nat} {i : Int32} : mw d 351 Q 49 [x0, x1, x2, x3] (.int i :: .ref o :: st) h = (mg h o 100 ∧ mx i (mh_l h o) ∧ mw d 351 Q 50 [x0, x1, x2, x3] (.int (mh_i h o i.toNatClampNeg) :: st) h) := (mw_at mj_351_49).trans (z_iald)
theorem mj_351_50 : mc_P 351 50 = some (.iconst (-1), 1, 0, 0, 0) := by decide +kernel
theorem s_351_50 {x0 x1 x2 x3 : Option Value} : mw d 351 Q 50 [x0, x1, x2, x3] (st) h = mw d 351 Q 51 [x0, x1, x2, x3] (.int (-1) :: st) h := (mw_at mj_351_50).trans (z_iconst (by decide))
theorem mj_351_51 : mc_P 351 51 = some (.if_icmp .ne 10, 3, 0, 0, 0) := by decide +kernel
theorem s_351_51 {x0 x1 x2 x3 : Option Value} {x w : Int32} : mw d 351 Q 51 [x0, x1, x2, x3] (.int w :: .int x :: st) h = mB (¬ x = w) (mw d 351 Q) 61 54 [x0, x1, x2, x3] st h := (mw_at mj_351_51).trans (z_icmp_ne (by decide) rfl)
theorem mj_351_54 : mc_P 351 54 = some (.aload_n 0, 1, 0, 0, 0) := by decide +kernel
theorem s_351_54 {x1 x2 x3 : Option Value} {w : Value} : mw d 351 Q 54 [some w, x1, x2, x3] (st) h = mv_a w (mw d 351 Q 55 [some w, x1, x2, x3] (w :: st) h) := (mw_at mj_351_54).trans (z_aload_n rfl)
theorem mj_351_55 : mc_P 351 55 = some (.getfield 176, 3, 14, 33, 0) := by decide +kernel
theorem s_351_55 {x0 x1 x2 x3 : Option Value} {o : Nat} : mw d 351 Q 55 [x0, x1, x2, x3] (.ref o :: st) h = (mg h o 14 ∧ mw d 351 Q 58 [x0, x1, x2, x3] (.int (mh_i h o 33) :: st) h) := (mw_at mj_351_55).trans (z_geti (by decide) (by decide) (Or.inl rfl))
theorem mj_351_58 : mc_P 351 58 = some (.iconst 1, 1, 0, 0, 0) := by decide +kernel
theorem s_351_58 {x0 x1 x2 x3 : Option Value} : mw d 351 Q 58 [x0, x1, x2, x3] (st) h = mw d 351 Q 59 [x0, x1, x2, x3] (.int 1 :: st) h := (mw_at mj_351_58).trans (z_iconst (by decide))
theorem mj_351_59 : mc_P 351 59 = some (.isub, 1, 0, 0, 0) := by decide +kernel
theorem s_351_59 {x0 x1 x2 x3 : Option Value} {x w : Int32} : mw d 351 Q 59 [x0, x1, x2, x3] (.int w :: .int x :: st) h = mw d 351 Q 60 [x0, x1, x2, x3] (.int (x - w) :: st) h := (mw_at mj_351_59).trans (z_isub)
theorem mj_351_60 : mc_P 351 60 = some (.ireturn, 1, 0, 0, 0) := by decide +kernel
theorem s_351_60 {x0 x1 x2 x3 : Option Value} {x : Int32} : mw d 351 Q 60 [x0, x1, x2, x3] ([.int x]) h = (Q (some (.int x)) h) := (mw_at mj_351_60).trans (z_iret)
theorem mj_351_61 : mc_P 351 61 = some (.aload_n 0, 1, 0, 0, 0) := by decide +kernel
theorem s_351_61 {x1 x2 x3 : Option Value} {w : Value} : mw d 351 Q 61 [some w, x1, x2, x3] (st) h = mv_a w (mw d 351 Q 62 [some w, x1, x2, x3] (w :: st) h) := (mw_at mj_351_61).trans (z_aload_n rfl)
theorem mj_351_62 : mc_P 351 62 = some (.getfield 73, 3, 14, 29, 0) := by decide +kernel
theorem s_351_62 {x0 x1 x2 x3 : Option Value} {o : Nat} : mw d 351 Q 62 [x0, x1, x2, x3] (.ref o :: st) h = (mg h o 14 ∧ mw d 351 Q 65 [x0, x1, x2, x3] (va_rf (mh_r h o 29) :: st) h) := (mw_at mj_351_62).trans (z_getr (by decide) (by decide) rfl)
theorem mj_351_65 : mc_P 351 65 = some (.iload_n 2, 1, 0, 0, 0) := by decide +kernel
theorem s_351_65 {x0 x1 x3 : Option Value} {w : Value} : mw d 351 Q 65 [x0, x1, some w, x3] (st) h = mv_i w (mw d 351 Q 66 [x0, x1, some w, x3] (w :: st) h) := (mw_at mj_351_65).trans (z_iload_n rfl)
theorem mj_351_66 : mc_P 351 66 = some (.iaload, 1, 0, 0, 0) := by decide +kernel
theorem s_351_66 {x0 x1 x2 x3 : Option Value} {o : Nat} {i : Int32} : mw d 351 Q 66 [x0, x1, x2, x3] (.int i :: .ref o :: st) h = (mg h o 100 ∧ mx i (mh_l h o) ∧ mw d 351 Q 67 [x0, x1, x2, x3] (.int (mh_i h o i.toNatClampNeg) :: st) h) := (mw_at mj_351_66).trans (z_iald)
theorem mj_351_67 : mc_P 351 67 = some (.istore_n 2, 1, 0, 0, 0) := by decide +kernel
theorem s_351_67 {x0 x1 x2 x3 : Option Value} {w : Int32} : mw d 351 Q 67 [x0, x1, x2, x3] (.int w :: st) h = mw d 351 Q 68 [x0, mk2 x1, some (.int w), x3] (st) h := (mw_at mj_351_67).trans (z_istore_n (Nat.le_of_ble_eq_true rfl) (me_s1_mk (j := 1) (w := x1) rfl))
theorem mj_351_68 : mc_P 351 68 = some (.aload_n 0, 1, 0, 0, 0) := by decide +kernel
theorem s_351_68 {x1 x2 x3 : Option Value} {w : Value} : mw d 351 Q 68 [some w, x1, x2, x3] (st) h = mv_a w (mw d 351 Q 69 [some w, x1, x2, x3] (w :: st) h) := (mw_at mj_351_68).trans (z_aload_n rfl)
theorem mj_351_69 : mc_P 351 69 = some (.getfield 48, 3, 14, 19, 0) := by decide +kernel
theorem s_351_69 {x0 x1 x2 x3 : Option Value} {o : Nat} : mw d 351 Q 69 [x0, x1, x2, x3] (.ref o :: st) h = (mg h o 14 ∧ mw d 351 Q 72 [x0, x1, x2, x3] (va_rf (mh_r h o 19) :: st) h) := (mw_at mj_351_69).trans (z_getr (by decide) (by decide) rfl)
theorem mj_351_72 : mc_P 351 72 = some (.aload_n 0, 1, 0, 0, 0) := by decide +kernel
theorem s_351_72 {x1 x2 x3 : Option Value} {w : Value} : mw d 351 Q 72 [some w, x1, x2, x3] (st) h = mv_a w (mw d 351 Q 73 [some w, x1, x2, x3] (w :: st) h) := (mw_at mj_351_72).trans (z_aload_n rfl)
theorem mj_351_73 : mc_P 351 73 = some (.getfield 70, 3, 14, 28, 0) := by decide +kernel
theorem s_351_73 {x0 x1 x2 x3 : Option Value} {o : Nat} : mw d 351 Q 73 [x0, x1, x2, x3] (.ref o :: st) h = (mg h o 14 ∧ mw d 351 Q 76 [x0, x1, x2, x3] (va_rf (mh_r h o 28) :: st) h) := (mw_at mj_351_73).trans (z_getr (by decide) (by decide) rfl)
theorem mj_351_76 : mc_P 351 76 = some (.iload_n 2, 1, 0, 0, 0) := by decide +kernel
theorem s_351_76 {x0 x1 x3 : Option Value} {w : Value} : mw d 351 Q 76 [x0, x1, some w, x3] (st) h = mv_i w (mw d 351 Q 77 [x0, x1, some w, x3] (w :: st) h) := (mw_at mj_351_76).trans (z_iload_n rfl)
theorem mj_351_77 : mc_P 351 77 = some (.iaload, 1, 0, 0, 0) := by decide +kernel
theorem s_351_77 {x0 x1 x2 x3 : Option Value} {o : Nat} {i : Int32} : mw d 351 Q 77 [x0, x1, x2, x3] (.int i :: .ref o :: st) h = (mg h o 100 ∧ mx i (mh_l h o) ∧ mw d 351 Q 78 [x0, x1, x2, x3] (.int (mh_i h o i.toNatClampNeg) :: st) h) := (mw_at mj_351_77).trans (z_iald)
theorem mj_351_78 : mc_P 351 78 = some (.baload, 1, 0, 0, 0) := by decide +kernel
theorem s_351_78 {x0 x1 x2 x3 : Option Value} {o : Nat} {i : Int32} : mw d 351 Q 78 [x0, x1, x2, x3] (.int i :: .ref o :: st) h = (mgb h o ∧ mx i (mh_l h o) ∧ mw d 351 Q 79 [x0, x1, x2, x3] (.int (mh_i h o i.toNatClampNeg) :: st) h) := (mw_at mj_351_78).trans (z_bald)
theorem mj_351_79 : mc_P 351 79 = some (.bipush 9, 2, 0, 0, 0) := by decide +kernel
theorem s_351_79 {x0 x1 x2 x3 : Option Value} : mw d 351 Q 79 [x0, x1, x2, x3] (st) h = mw d 351 Q 81 [x0, x1, x2, x3] (.int 9 :: st) h := (mw_at mj_351_79).trans (z_bipush (by decide))
theorem mj_351_81 : mc_P 351 81 = some (.if_icmp .ne 5, 3, 0, 0, 0) := by decide +kernel
theorem s_351_81 {x0 x1 x2 x3 : Option Value} {x w : Int32} : mw d 351 Q 81 [x0, x1, x2, x3] (.int w :: .int x :: st) h = mB (¬ x = w) (mw d 351 Q) 86 84 [x0, x1, x2, x3] st h := (mw_at mj_351_81).trans (z_icmp_ne (by decide) rfl)
theorem mj_351_84 : mc_P 351 84 = some (.iload_n 2, 1, 0, 0, 0) := by decide +kernel
theorem s_351_84 {x0 x1 x3 : Option Value} {w : Value} : mw d 351 Q 84 [x0, x1, some w, x3] (st) h = mv_i w (mw d 351 Q 85 [x0, x1, some w, x3] (w :: st) h) := (mw_at mj_351_84).trans (z_iload_n rfl)
theorem mj_351_85 : mc_P 351 85 = some (.ireturn, 1, 0, 0, 0) := by decide +kernel
theorem s_351_85 {x0 x1 x2 x3 : Option Value} {x : Int32} : mw d 351 Q 85 [x0, x1, x2, x3] ([.int x]) h = (Q (some (.int x)) h) := (mw_at mj_351_85).trans (z_iret)
theorem mj_351_86 : mc_P 351 86 = some (.goto (-84), 3, 0, 0, 0) := by decide +kernel
theorem s_351_86 {x0 x1 x2 x3 : Option Value} : mw d 351 Q 86 [x0, x1, x2, x3] (st) h = mw d 351 Q 2 [x0, x1, x2, x3] (st) h := (mw_at mj_351_86).trans (z_goto (by decide))
theorem mj_351_89 : mc_P 351 89 = some (.iload_n 2, 1, 0, 0, 0) := by decide +kernel
theorem s_351_89 {x0 x1 x3 : Option Value} {w : Value} : mw d 351 Q 89 [x0, x1, some w, x3] (st) h = mv_i w (mw d 351 Q 90 [x0, x1, some w, x3] (w :: st) h) := (mw_at mj_351_89).trans (z_iload_n rfl)
theorem mj_351_90 : mc_P 351 90 = some (.ireturn, 1, 0, 0, 0) := by decide +kernel
theorem s_351_90 {x0 x1 x2 x3 : Option Value} {x : Int32} : mw d 351 Q 90 [x0, x1, x2, x3] ([.int x]) h = (Q (some (.int x)) h) := (mw_at mj_351_90).trans (z_iret)
theorem e_351 {a0 : Nat} {a1 : Int32} : mcall d 351 [.ref a0, .int a1] h Q = mw d 351 Q 0 [some (.ref a0), some (.int a1), none, none] [] h := by
  show mw d 351 Q 0 (me_en (mc_nl 351) _) [] h = _
  rw [nl_351]; rfl

/-! InvariantDeskModel.meantAt(I)I -/
theorem mj_355_0 : mc_P 355 0 = some (.aload_n 0, 1, 0, 0, 0) := by decide +kernel
theorem s_355_0 {x1 x2 : Option Value} {w : Value} : mw d 355 Q 0 [some w, x1, x2] (st) h = mv_a w (mw d 355 Q 1 [some w, x1, x2] (w :: st) h) := (mw_at mj_355_0).trans (z_aload_n rfl)
theorem mj_355_1 : mc_P 355 1 = some (.getfield 85, 3, 14, 34, 0) := by decide +kernel
theorem s_355_1 {x0 x1 x2 : Option Value} {o : Nat} : mw d 355 Q 1 [x0, x1, x2] (.ref o :: st) h = (mg h o 14 ∧ mw d 355 Q 4 [x0, x1, x2] (va_rf (mh_r h o 34) :: st) h) := (mw_at mj_355_1).trans (z_getr (by decide) (by decide) rfl)
theorem mj_355_4 : mc_P 355 4 = some (.aload_n 0, 1, 0, 0, 0) := by decide +kernel
theorem s_355_4 {x1 x2 : Option Value} {w : Value} : mw d 355 Q 4 [some w, x1, x2] (st) h = mv_a w (mw d 355 Q 5 [some w, x1, x2] (w :: st) h) := (mw_at mj_355_4).trans (z_aload_n rfl)
theorem mj_355_5 : mc_P 355 5 = some (.getfield 179, 3, 14, 64, 0) := by decide +kernel
theorem s_355_5 {x0 x1 x2 : Option Value} {o : Nat} : mw d 355 Q 5 [x0, x1, x2] (.ref o :: st) h = (mg h o 14 ∧ mw d 355 Q 8 [x0, x1, x2] (.int (mh_i h o 64) :: st) h) := (mw_at mj_355_5).trans (z_geti (by decide) (by decide) (Or.inl rfl))
theorem mj_355_8 : mc_P 355 8 = some (.iaload, 1, 0, 0, 0) := by decide +kernel
theorem s_355_8 {x0 x1 x2 : Option Value} {o : Nat} {i : Int32} : mw d 355 Q 8 [x0, x1, x2] (.int i :: .ref o :: st) h = (mg h o 100 ∧ mx i (mh_l h o) ∧ mw d 355 Q 9 [x0, x1, x2] (.int (mh_i h o i.toNatClampNeg) :: st) h) := (mw_at mj_355_8).trans (z_iald)
theorem mj_355_9 : mc_P 355 9 = some (.iconst 1, 1, 0, 0, 0) := by decide +kernel
theorem s_355_9 {x0 x1 x2 : Option Value} : mw d 355 Q 9 [x0, x1, x2] (st) h = mw d 355 Q 10 [x0, x1, x2] (.int 1 :: st) h := (mw_at mj_355_9).trans (z_iconst (by decide))
theorem mj_355_10 : mc_P 355 10 = some (.isub, 1, 0, 0, 0) := by decide +kernel
theorem s_355_10 {x0 x1 x2 : Option Value} {x w : Int32} : mw d 355 Q 10 [x0, x1, x2] (.int w :: .int x :: st) h = mw d 355 Q 11 [x0, x1, x2] (.int (x - w) :: st) h := (mw_at mj_355_10).trans (z_isub)
theorem mj_355_11 : mc_P 355 11 = some (.istore_n 2, 1, 0, 0, 0) := by decide +kernel
theorem s_355_11 {x0 x1 x2 : Option Value} {w : Int32} : mw d 355 Q 11 [x0, x1, x2] (.int w :: st) h = mw d 355 Q 12 [x0, mk2 x1, some (.int w)] (st) h := (mw_at mj_355_11).trans (z_istore_n (Nat.le_of_ble_eq_true rfl) (me_s1_mk (j := 1) (w := x1) rfl))
theorem mj_355_12 : mc_P 355 12 = some (.iload_n 2, 1, 0, 0, 0) := by decide +kernel
theorem s_355_12 {x0 x1 : Option Value} {w : Value} : mw d 355 Q 12 [x0, x1, some w] (st) h = mv_i w (mw d 355 Q 13 [x0, x1, some w] (w :: st) h) := (mw_at mj_355_12).trans (z_iload_n rfl)
theorem mj_355_13 : mc_P 355 13 = some (.ifCond .lt 37, 3, 0, 0, 0) := by decide +kernel
theorem s_355_13 {x0 x1 x2 : Option Value} {x : Int32} : mw d 355 Q 13 [x0, x1, x2] (.int x :: st) h = mB (x < 0) (mw d 355 Q) 50 16 [x0, x1, x2] st h := (mw_at mj_355_13).trans (z_if_lt (by decide) rfl)
theorem mj_355_16 : mc_P 355 16 = some (.aload_n 0, 1, 0, 0, 0) := by decide +kernel
theorem s_355_16 {x1 x2 : Option Value} {w : Value} : mw d 355 Q 16 [some w, x1, x2] (st) h = mv_a w (mw d 355 Q 17 [some w, x1, x2] (w :: st) h) := (mw_at mj_355_16).trans (z_aload_n rfl)
theorem mj_355_17 : mc_P 355 17 = some (.getfield 88, 3, 14, 35, 0) := by decide +kernel
theorem s_355_17 {x0 x1 x2 : Option Value} {o : Nat} : mw d 355 Q 17 [x0, x1, x2] (.ref o :: st) h = (mg h o 14 ∧ mw d 355 Q 20 [x0, x1, x2] (va_rf (mh_r h o 35) :: st) h) := (mw_at mj_355_17).trans (z_getr (by decide) (by decide) rfl)
theorem mj_355_20 : mc_P 355 20 = some (.bipush 40, 2, 0, 0, 0) := by decide +kernel
theorem s_355_20 {x0 x1 x2 : Option Value} : mw d 355 Q 20 [x0, x1, x2] (st) h = mw d 355 Q 22 [x0, x1, x2] (.int 40 :: st) h := (mw_at mj_355_20).trans (z_bipush (by decide))
theorem mj_355_22 : mc_P 355 22 = some (.aload_n 0, 1, 0, 0, 0) := by decide +kernel
theorem s_355_22 {x1 x2 : Option Value} {w : Value} : mw d 355 Q 22 [some w, x1, x2] (st) h = mv_a w (mw d 355 Q 23 [some w, x1, x2] (w :: st) h) := (mw_at mj_355_22).trans (z_aload_n rfl)
theorem mj_355_23 : mc_P 355 23 = some (.getfield 179, 3, 14, 64, 0) := by decide +kernel
theorem s_355_23 {x0 x1 x2 : Option Value} {o : Nat} : mw d 355 Q 23 [x0, x1, x2] (.ref o :: st) h = (mg h o 14 ∧ mw d 355 Q 26 [x0, x1, x2] (.int (mh_i h o 64) :: st) h) := (mw_at mj_355_23).trans (z_geti (by decide) (by decide) (Or.inl rfl))
theorem mj_355_26 : mc_P 355 26 = some (.imul, 1, 0, 0, 0) := by decide +kernel
theorem s_355_26 {x0 x1 x2 : Option Value} {x w : Int32} : mw d 355 Q 26 [x0, x1, x2] (.int w :: .int x :: st) h = mw d 355 Q 27 [x0, x1, x2] (.int (x * w) :: st) h := (mw_at mj_355_26).trans (z_imul)
theorem mj_355_27 : mc_P 355 27 = some (.iload_n 2, 1, 0, 0, 0) := by decide +kernel
theorem s_355_27 {x0 x1 : Option Value} {w : Value} : mw d 355 Q 27 [x0, x1, some w] (st) h = mv_i w (mw d 355 Q 28 [x0, x1, some w] (w :: st) h) := (mw_at mj_355_27).trans (z_iload_n rfl)
theorem mj_355_28 : mc_P 355 28 = some (.iadd, 1, 0, 0, 0) := by decide +kernel
theorem s_355_28 {x0 x1 x2 : Option Value} {x w : Int32} : mw d 355 Q 28 [x0, x1, x2] (.int w :: .int x :: st) h = mw d 355 Q 29 [x0, x1, x2] (.int (x + w) :: st) h := (mw_at mj_355_28).trans (z_iadd)
theorem mj_355_29 : mc_P 355 29 = some (.iaload, 1, 0, 0, 0) := by decide +kernel
theorem s_355_29 {x0 x1 x2 : Option Value} {o : Nat} {i : Int32} : mw d 355 Q 29 [x0, x1, x2] (.int i :: .ref o :: st) h = (mg h o 100 ∧ mx i (mh_l h o) ∧ mw d 355 Q 30 [x0, x1, x2] (.int (mh_i h o i.toNatClampNeg) :: st) h) := (mw_at mj_355_29).trans (z_iald)
theorem mj_355_30 : mc_P 355 30 = some (.iload_n 1, 1, 0, 0, 0) := by decide +kernel
theorem s_355_30 {x0 x2 : Option Value} {w : Value} : mw d 355 Q 30 [x0, some w, x2] (st) h = mv_i w (mw d 355 Q 31 [x0, some w, x2] (w :: st) h) := (mw_at mj_355_30).trans (z_iload_n rfl)
theorem mj_355_31 : mc_P 355 31 = some (.if_icmp .ne 13, 3, 0, 0, 0) := by decide +kernel
theorem s_355_31 {x0 x1 x2 : Option Value} {x w : Int32} : mw d 355 Q 31 [x0, x1, x2] (.int w :: .int x :: st) h = mB (¬ x = w) (mw d 355 Q) 44 34 [x0, x1, x2] st h := (mw_at mj_355_31).trans (z_icmp_ne (by decide) rfl)
theorem mj_355_34 : mc_P 355 34 = some (.bipush 40, 2, 0, 0, 0) := by decide +kernel
theorem s_355_34 {x0 x1 x2 : Option Value} : mw d 355 Q 34 [x0, x1, x2] (st) h = mw d 355 Q 36 [x0, x1, x2] (.int 40 :: st) h := (mw_at mj_355_34).trans (z_bipush (by decide))
theorem mj_355_36 : mc_P 355 36 = some (.aload_n 0, 1, 0, 0, 0) := by decide +kernel
theorem s_355_36 {x1 x2 : Option Value} {w : Value} : mw d 355 Q 36 [some w, x1, x2] (st) h = mv_a w (mw d 355 Q 37 [some w, x1, x2] (w :: st) h) := (mw_at mj_355_36).trans (z_aload_n rfl)
theorem mj_355_37 : mc_P 355 37 = some (.getfield 179, 3, 14, 64, 0) := by decide +kernel
theorem s_355_37 {x0 x1 x2 : Option Value} {o : Nat} : mw d 355 Q 37 [x0, x1, x2] (.ref o :: st) h = (mg h o 14 ∧ mw d 355 Q 40 [x0, x1, x2] (.int (mh_i h o 64) :: st) h) := (mw_at mj_355_37).trans (z_geti (by decide) (by decide) (Or.inl rfl))
theorem mj_355_40 : mc_P 355 40 = some (.imul, 1, 0, 0, 0) := by decide +kernel
theorem s_355_40 {x0 x1 x2 : Option Value} {x w : Int32} : mw d 355 Q 40 [x0, x1, x2] (.int w :: .int x :: st) h = mw d 355 Q 41 [x0, x1, x2] (.int (x * w) :: st) h := (mw_at mj_355_40).trans (z_imul)
theorem mj_355_41 : mc_P 355 41 = some (.iload_n 2, 1, 0, 0, 0) := by decide +kernel
theorem s_355_41 {x0 x1 : Option Value} {w : Value} : mw d 355 Q 41 [x0, x1, some w] (st) h = mv_i w (mw d 355 Q 42 [x0, x1, some w] (w :: st) h) := (mw_at mj_355_41).trans (z_iload_n rfl)
theorem mj_355_42 : mc_P 355 42 = some (.iadd, 1, 0, 0, 0) := by decide +kernel
theorem s_355_42 {x0 x1 x2 : Option Value} {x w : Int32} : mw d 355 Q 42 [x0, x1, x2] (.int w :: .int x :: st) h = mw d 355 Q 43 [x0, x1, x2] (.int (x + w) :: st) h := (mw_at mj_355_42).trans (z_iadd)
theorem mj_355_43 : mc_P 355 43 = some (.ireturn, 1, 0, 0, 0) := by decide +kernel
theorem s_355_43 {x0 x1 x2 : Option Value} {x : Int32} : mw d 355 Q 43 [x0, x1, x2] ([.int x]) h = (Q (some (.int x)) h) := (mw_at mj_355_43).trans (z_iret)
theorem mj_355_44 : mc_P 355 44 = some (.iinc 2 (-1), 3, 0, 0, 0) := by decide +kernel
theorem s_355_44 {x0 x1 : Option Value} {w : Int32} : mw d 355 Q 44 [x0, x1, some (.int w)] (st) h = mw d 355 Q 47 [x0, mk2 x1, some (.int (w + (-1)))] (st) h := (mw_at mj_355_44).trans (z_iinc rfl (Nat.le_of_ble_eq_true rfl) (by decide) (me_s1_mk (j := 1) (w := x1) rfl))
theorem mj_355_47 : mc_P 355 47 = some (.goto (-35), 3, 0, 0, 0) := by decide +kernel
theorem s_355_47 {x0 x1 x2 : Option Value} : mw d 355 Q 47 [x0, x1, x2] (st) h = mw d 355 Q 12 [x0, x1, x2] (st) h := (mw_at mj_355_47).trans (z_goto (by decide))
theorem mj_355_50 : mc_P 355 50 = some (.iconst (-1), 1, 0, 0, 0) := by decide +kernel
theorem s_355_50 {x0 x1 x2 : Option Value} : mw d 355 Q 50 [x0, x1, x2] (st) h = mw d 355 Q 51 [x0, x1, x2] (.int (-1) :: st) h := (mw_at mj_355_50).trans (z_iconst (by decide))
theorem mj_355_51 : mc_P 355 51 = some (.ireturn, 1, 0, 0, 0) := by decide +kernel
theorem s_355_51 {x0 x1 x2 : Option Value} {x : Int32} : mw d 355 Q 51 [x0, x1, x2] ([.int x]) h = (Q (some (.int x)) h) := (mw_at mj_355_51).trans (z_iret)
theorem e_355 {a0 : Nat} {a1 : Int32} : mcall d 355 [.ref a0, .int a1] h Q = mw d 355 Q 0 [some (.ref a0), some (.int a1), none] [] h := by
  show mw d 355 Q 0 (me_en (mc_nl 355) _) [] h = _
  rw [nl_355]; rfl

/-! InvariantDeskModel.trapped(I)J -/
theorem mj_356_0 : mc_P 356 0 = some (.aload_n 0, 1, 0, 0, 0) := by decide +kernel
theorem s_356_0 {x1 : Option Value} {w : Value} : mw d 356 Q 0 [some w, x1] (st) h = mv_a w (mw d 356 Q 1 [some w, x1] (w :: st) h) := (mw_at mj_356_0).trans (z_aload_n rfl)
theorem mj_356_1 : mc_P 356 1 = some (.aload_n 0, 1, 0, 0, 0) := by decide +kernel
theorem s_356_1 {x1 : Option Value} {w : Value} : mw d 356 Q 1 [some w, x1] (st) h = mv_a w (mw d 356 Q 2 [some w, x1] (w :: st) h) := (mw_at mj_356_1).trans (z_aload_n rfl)
theorem mj_356_2 : mc_P 356 2 = some (.getfield 427, 3, 14, 68, 0) := by decide +kernel
theorem s_356_2 {x0 x1 : Option Value} {o : Nat} : mw d 356 Q 2 [x0, x1] (.ref o :: st) h = (mg h o 14 ∧ mw d 356 Q 5 [x0, x1] (.int (mh_i h o 68) :: st) h) := (mw_at mj_356_2).trans (z_geti (by decide) (by decide) (Or.inl rfl))
theorem mj_356_5 : mc_P 356 5 = some (.ifCond .ne 7, 3, 0, 0, 0) := by decide +kernel
theorem s_356_5 {x0 x1 : Option Value} {x : Int32} : mw d 356 Q 5 [x0, x1] (.int x :: st) h = mB (¬ x = 0) (mw d 356 Q) 12 8 [x0, x1] st h := (mw_at mj_356_5).trans (z_if_ne (by decide) rfl)
theorem mj_356_8 : mc_P 356 8 = some (.iload_n 1, 1, 0, 0, 0) := by decide +kernel
theorem s_356_8 {x0 : Option Value} {w : Value} : mw d 356 Q 8 [x0, some w] (st) h = mv_i w (mw d 356 Q 9 [x0, some w] (w :: st) h) := (mw_at mj_356_8).trans (z_iload_n rfl)
theorem mj_356_9 : mc_P 356 9 = some (.goto 7, 3, 0, 0, 0) := by decide +kernel
theorem s_356_9 {x0 x1 : Option Value} : mw d 356 Q 9 [x0, x1] (st) h = mw d 356 Q 16 [x0, x1] (st) h := (mw_at mj_356_9).trans (z_goto (by decide))
theorem mj_356_12 : mc_P 356 12 = some (.aload_n 0, 1, 0, 0, 0) := by decide +kernel
theorem s_356_12 {x1 : Option Value} {w : Value} : mw d 356 Q 12 [some w, x1] (st) h = mv_a w (mw d 356 Q 13 [some w, x1] (w :: st) h) := (mw_at mj_356_12).trans (z_aload_n rfl)
theorem mj_356_13 : mc_P 356 13 = some (.getfield 427, 3, 14, 68, 0) := by decide +kernel
theorem s_356_13 {x0 x1 : Option Value} {o : Nat} : mw d 356 Q 13 [x0, x1] (.ref o :: st) h = (mg h o 14 ∧ mw d 356 Q 16 [x0, x1] (.int (mh_i h o 68) :: st) h) := (mw_at mj_356_13).trans (z_geti (by decide) (by decide) (Or.inl rfl))
theorem mj_356_16 : mc_P 356 16 = some (.putfield 427, 3, 14, 68, 0) := by decide +kernel
theorem s_356_16 {x0 x1 : Option Value} {o : Nat} {w : Int32} : mw d 356 Q 16 [x0, x1] (.int w :: .ref o :: st) h = (mg h o 14 ∧ mw d 356 Q 19 [x0, x1] (st) (mh_si h o 68 w)) := (mw_at mj_356_16).trans (z_puti (by decide) (by decide) rfl)
theorem mj_356_19 : mc_P 356 19 = some (.lconst 0, 1, 0, 0, 0) := by decide +kernel
theorem s_356_19 {x0 x1 : Option Value} : mw d 356 Q 19 [x0, x1] (st) h = mw d 356 Q 20 [x0, x1] (.long 0 :: st) h := (mw_at mj_356_19).trans (z_lconst (by decide))
theorem mj_356_20 : mc_P 356 20 = some (.lreturn, 1, 0, 0, 0) := by decide +kernel
theorem s_356_20 {x0 x1 : Option Value} {x : Int64} : mw d 356 Q 20 [x0, x1] ([.long x]) h = Q (some (.long x)) h := (mw_at mj_356_20).trans (z_lret)
theorem e_356 {a0 : Nat} {a1 : Int32} : mcall d 356 [.ref a0, .int a1] h Q = mw d 356 Q 0 [some (.ref a0), some (.int a1)] [] h := by
  show mw d 356 Q 0 (me_en (mc_nl 356) _) [] h = _
  rw [nl_356]; rfl

/-! InvariantDeskModel.whole(J)J -/
theorem mj_357_0 : mc_P 357 0 = some (.lload_n 1, 1, 0, 0, 0) := by decide +kernel
theorem s_357_0 {x0 x2 : Option Value} {w : Value} : mw d 357 Q 0 [x0, some w, x2] (st) h = mv_l w (mw d 357 Q 1 [x0, some w, x2] (w :: st) h) := (mw_at mj_357_0).trans (z_lload_n rfl)
theorem mj_357_1 : mc_P 357 1 = some (.ldc2_w 430, 3, 0, 0, (-2147483648)) := by decide +kernel
theorem s_357_1 {x0 x1 x2 : Option Value} : mw d 357 Q 1 [x0, x1, x2] (st) h = mw d 357 Q 4 [x0, x1, x2] (.long (-2147483648) :: st) h := (mw_at mj_357_1).trans (z_ldc2 (by decide))
theorem mj_357_4 : mc_P 357 4 = some (.lcmp, 1, 0, 0, 0) := by decide +kernel
theorem s_357_4 {x0 x1 x2 : Option Value} {x w : Int64} : mw d 357 Q 4 [x0, x1, x2] (.long w :: .long x :: st) h = mw d 357 Q 5 [x0, x1, x2] (.int (lg_cmp x w) :: st) h := (mw_at mj_357_4).trans (z_lcmp)
theorem mj_357_5 : mc_P 357 5 = some (.ifCond .lt 11, 3, 0, 0, 0) := by decide +kernel
theorem s_357_5 {x0 x1 x2 : Option Value} {x : Int32} : mw d 357 Q 5 [x0, x1, x2] (.int x :: st) h = mB (x < 0) (mw d 357 Q) 16 8 [x0, x1, x2] st h := (mw_at mj_357_5).trans (z_if_lt (by decide) rfl)
theorem mj_357_8 : mc_P 357 8 = some (.lload_n 1, 1, 0, 0, 0) := by decide +kernel
theorem s_357_8 {x0 x2 : Option Value} {w : Value} : mw d 357 Q 8 [x0, some w, x2] (st) h = mv_l w (mw d 357 Q 9 [x0, some w, x2] (w :: st) h) := (mw_at mj_357_8).trans (z_lload_n rfl)
theorem mj_357_9 : mc_P 357 9 = some (.ldc2_w 218, 3, 0, 0, 2147483647) := by decide +kernel
theorem s_357_9 {x0 x1 x2 : Option Value} : mw d 357 Q 9 [x0, x1, x2] (st) h = mw d 357 Q 12 [x0, x1, x2] (.long 2147483647 :: st) h := (mw_at mj_357_9).trans (z_ldc2 (by decide))
theorem mj_357_12 : mc_P 357 12 = some (.lcmp, 1, 0, 0, 0) := by decide +kernel
theorem s_357_12 {x0 x1 x2 : Option Value} {x w : Int64} : mw d 357 Q 12 [x0, x1, x2] (.long w :: .long x :: st) h = mw d 357 Q 13 [x0, x1, x2] (.int (lg_cmp x w) :: st) h := (mw_at mj_357_12).trans (z_lcmp)
theorem mj_357_13 : mc_P 357 13 = some (.ifCond .le 11, 3, 0, 0, 0) := by decide +kernel
theorem s_357_13 {x0 x1 x2 : Option Value} {x : Int32} : mw d 357 Q 13 [x0, x1, x2] (.int x :: st) h = mB (x ≤ 0) (mw d 357 Q) 24 16 [x0, x1, x2] st h := (mw_at mj_357_13).trans (z_if_le (by decide) rfl)
theorem mj_357_16 : mc_P 357 16 = some (.aload_n 0, 1, 0, 0, 0) := by decide +kernel
theorem s_357_16 {x1 x2 : Option Value} {w : Value} : mw d 357 Q 16 [some w, x1, x2] (st) h = mv_a w (mw d 357 Q 17 [some w, x1, x2] (w :: st) h) := (mw_at mj_357_16).trans (z_aload_n rfl)
theorem mj_357_17 : mc_P 357 17 = some (.iconst 1, 1, 0, 0, 0) := by decide +kernel
theorem s_357_17 {x0 x1 x2 : Option Value} : mw d 357 Q 17 [x0, x1, x2] (st) h = mw d 357 Q 18 [x0, x1, x2] (.int 1 :: st) h := (mw_at mj_357_17).trans (z_iconst (by decide))
theorem mj_357_18 : mc_P 357 18 = some (.invokevirtual 432, 3, 356, 14, 2) := by decide +kernel
theorem s_357_18 {x0 x1 x2 : Option Value} {o : Nat} {a1 : Value} : mw (d + 1) 357 Q 18 [x0, x1, x2] (a1 :: .ref o :: st) h = (mg h o 14 ∧ mca st 8 ∧ mca [.ref o, a1] 2 ∧ mcall d 356 [.ref o, a1] h (mK (d + 1) 357 Q 21 [x0, x1, x2] st)) := (mw_at mj_357_18).trans ((z_invv (As := [a1]) (by decide) rfl rfl).trans (congrArg (And _) (congrArg (And _) (mC_nl nl_356))))
theorem mj_357_21 : mc_P 357 21 = some (.goto 4, 3, 0, 0, 0) := by decide +kernel
theorem s_357_21 {x0 x1 x2 : Option Value} : mw d 357 Q 21 [x0, x1, x2] (st) h = mw d 357 Q 25 [x0, x1, x2] (st) h := (mw_at mj_357_21).trans (z_goto (by decide))
theorem mj_357_24 : mc_P 357 24 = some (.lload_n 1, 1, 0, 0, 0) := by decide +kernel
theorem s_357_24 {x0 x2 : Option Value} {w : Value} : mw d 357 Q 24 [x0, some w, x2] (st) h = mv_l w (mw d 357 Q 25 [x0, some w, x2] (w :: st) h) := (mw_at mj_357_24).trans (z_lload_n rfl)
theorem mj_357_25 : mc_P 357 25 = some (.lreturn, 1, 0, 0, 0) := by decide +kernel
theorem s_357_25 {x0 x1 x2 : Option Value} {x : Int64} : mw d 357 Q 25 [x0, x1, x2] ([.long x]) h = Q (some (.long x)) h := (mw_at mj_357_25).trans (z_lret)
theorem e_357 {a0 : Nat} {a1 : Int64} : mcall d 357 [.ref a0, .long a1] h Q = mw d 357 Q 0 [some (.ref a0), some (.long a1), none] [] h := by
  show mw d 357 Q 0 (me_en (mc_nl 357) _) [] h = _
  rw [nl_357]; rfl

/-! InvariantDeskModel.next()I -/
theorem mj_358_0 : mc_P 358 0 = some (.aload_n 0, 1, 0, 0, 0) := by decide +kernel
theorem s_358_0 {w : Value} : mw d 358 Q 0 [some w] (st) h = mv_a w (mw d 358 Q 1 [some w] (w :: st) h) := (mw_at mj_358_0).trans (z_aload_n rfl)
theorem mj_358_1 : mc_P 358 1 = some (.dup, 1, 0, 0, 0) := by decide +kernel
theorem s_358_1 {x0 : Option Value} {w : Value} : mw d 358 Q 1 [x0] (w :: st) h = (w.category = 1 ∧ mw d 358 Q 2 [x0] (w :: w :: st) h) := (mw_at mj_358_1).trans (z_dup)
theorem mj_358_2 : mc_P 358 2 = some (.getfield 436, 3, 14, 67, 0) := by decide +kernel
theorem s_358_2 {x0 : Option Value} {o : Nat} : mw d 358 Q 2 [x0] (.ref o :: st) h = (mg h o 14 ∧ mw d 358 Q 5 [x0] (.int (mh_i h o 67) :: st) h) := (mw_at mj_358_2).trans (z_geti (by decide) (by decide) (Or.inl rfl))
theorem mj_358_5 : mc_P 358 5 = some (.iconst 1, 1, 0, 0, 0) := by decide +kernel
theorem s_358_5 {x0 : Option Value} : mw d 358 Q 5 [x0] (st) h = mw d 358 Q 6 [x0] (.int 1 :: st) h := (mw_at mj_358_5).trans (z_iconst (by decide))
theorem mj_358_6 : mc_P 358 6 = some (.iadd, 1, 0, 0, 0) := by decide +kernel
theorem s_358_6 {x0 : Option Value} {x w : Int32} : mw d 358 Q 6 [x0] (.int w :: .int x :: st) h = mw d 358 Q 7 [x0] (.int (x + w) :: st) h := (mw_at mj_358_6).trans (z_iadd)
theorem mj_358_7 : mc_P 358 7 = some (.putfield 436, 3, 14, 67, 0) := by decide +kernel
theorem s_358_7 {x0 : Option Value} {o : Nat} {w : Int32} : mw d 358 Q 7 [x0] (.int w :: .ref o :: st) h = (mg h o 14 ∧ mw d 358 Q 10 [x0] (st) (mh_si h o 67 w)) := (mw_at mj_358_7).trans (z_puti (by decide) (by decide) rfl)
theorem mj_358_10 : mc_P 358 10 = some (.aload_n 0, 1, 0, 0, 0) := by decide +kernel
theorem s_358_10 {w : Value} : mw d 358 Q 10 [some w] (st) h = mv_a w (mw d 358 Q 11 [some w] (w :: st) h) := (mw_at mj_358_10).trans (z_aload_n rfl)
theorem mj_358_11 : mc_P 358 11 = some (.getfield 436, 3, 14, 67, 0) := by decide +kernel
theorem s_358_11 {x0 : Option Value} {o : Nat} : mw d 358 Q 11 [x0] (.ref o :: st) h = (mg h o 14 ∧ mw d 358 Q 14 [x0] (.int (mh_i h o 67) :: st) h) := (mw_at mj_358_11).trans (z_geti (by decide) (by decide) (Or.inl rfl))
theorem mj_358_14 : mc_P 358 14 = some (.aload_n 0, 1, 0, 0, 0) := by decide +kernel
theorem s_358_14 {w : Value} : mw d 358 Q 14 [some w] (st) h = mv_a w (mw d 358 Q 15 [some w] (w :: st) h) := (mw_at mj_358_14).trans (z_aload_n rfl)
theorem mj_358_15 : mc_P 358 15 = some (.getfield 424, 3, 14, 60, 0) := by decide +kernel
theorem s_358_15 {x0 : Option Value} {o : Nat} : mw d 358 Q 15 [x0] (.ref o :: st) h = (mg h o 14 ∧ mw d 358 Q 18 [x0] (.int (mh_i h o 60) :: st) h) := (mw_at mj_358_15).trans (z_geti (by decide) (by decide) (Or.inl rfl))
theorem mj_358_18 : mc_P 358 18 = some (.if_icmp .gt 17, 3, 0, 0, 0) := by decide +kernel
theorem s_358_18 {x0 : Option Value} {x w : Int32} : mw d 358 Q 18 [x0] (.int w :: .int x :: st) h = mB (w < x) (mw d 358 Q) 35 21 [x0] st h := (mw_at mj_358_18).trans (z_icmp_gt (by decide) rfl)
theorem mj_358_21 : mc_P 358 21 = some (.aload_n 0, 1, 0, 0, 0) := by decide +kernel
theorem s_358_21 {w : Value} : mw d 358 Q 21 [some w] (st) h = mv_a w (mw d 358 Q 22 [some w] (w :: st) h) := (mw_at mj_358_21).trans (z_aload_n rfl)
theorem mj_358_22 : mc_P 358 22 = some (.getfield 138, 3, 14, 59, 0) := by decide +kernel
theorem s_358_22 {x0 : Option Value} {o : Nat} : mw d 358 Q 22 [x0] (.ref o :: st) h = (mg h o 14 ∧ mw d 358 Q 25 [x0] (va_rf (mh_r h o 59) :: st) h) := (mw_at mj_358_22).trans (z_getr (by decide) (by decide) rfl)
theorem mj_358_25 : mc_P 358 25 = some (.aload_n 0, 1, 0, 0, 0) := by decide +kernel
theorem s_358_25 {w : Value} : mw d 358 Q 25 [some w] (st) h = mv_a w (mw d 358 Q 26 [some w] (w :: st) h) := (mw_at mj_358_25).trans (z_aload_n rfl)
theorem mj_358_26 : mc_P 358 26 = some (.getfield 436, 3, 14, 67, 0) := by decide +kernel
theorem s_358_26 {x0 : Option Value} {o : Nat} : mw d 358 Q 26 [x0] (.ref o :: st) h = (mg h o 14 ∧ mw d 358 Q 29 [x0] (.int (mh_i h o 67) :: st) h) := (mw_at mj_358_26).trans (z_geti (by decide) (by decide) (Or.inl rfl))
theorem mj_358_29 : mc_P 358 29 = some (.iconst 1, 1, 0, 0, 0) := by decide +kernel
theorem s_358_29 {x0 : Option Value} : mw d 358 Q 29 [x0] (st) h = mw d 358 Q 30 [x0] (.int 1 :: st) h := (mw_at mj_358_29).trans (z_iconst (by decide))
theorem mj_358_30 : mc_P 358 30 = some (.isub, 1, 0, 0, 0) := by decide +kernel
theorem s_358_30 {x0 : Option Value} {x w : Int32} : mw d 358 Q 30 [x0] (.int w :: .int x :: st) h = mw d 358 Q 31 [x0] (.int (x - w) :: st) h := (mw_at mj_358_30).trans (z_isub)
theorem mj_358_31 : mc_P 358 31 = some (.iaload, 1, 0, 0, 0) := by decide +kernel
theorem s_358_31 {x0 : Option Value} {o : Nat} {i : Int32} : mw d 358 Q 31 [x0] (.int i :: .ref o :: st) h = (mg h o 100 ∧ mx i (mh_l h o) ∧ mw d 358 Q 32 [x0] (.int (mh_i h o i.toNatClampNeg) :: st) h) := (mw_at mj_358_31).trans (z_iald)
theorem mj_358_32 : mc_P 358 32 = some (.goto 4, 3, 0, 0, 0) := by decide +kernel
theorem s_358_32 {x0 : Option Value} : mw d 358 Q 32 [x0] (st) h = mw d 358 Q 36 [x0] (st) h := (mw_at mj_358_32).trans (z_goto (by decide))
theorem mj_358_35 : mc_P 358 35 = some (.iconst 0, 1, 0, 0, 0) := by decide +kernel
theorem s_358_35 {x0 : Option Value} : mw d 358 Q 35 [x0] (st) h = mw d 358 Q 36 [x0] (.int 0 :: st) h := (mw_at mj_358_35).trans (z_iconst (by decide))
theorem mj_358_36 : mc_P 358 36 = some (.ireturn, 1, 0, 0, 0) := by decide +kernel
theorem s_358_36 {x0 : Option Value} {x : Int32} : mw d 358 Q 36 [x0] ([.int x]) h = (Q (some (.int x)) h) := (mw_at mj_358_36).trans (z_iret)
theorem e_358 {a0 : Nat} : mcall d 358 [.ref a0] h Q = mw d 358 Q 0 [some (.ref a0)] [] h := by
  show mw d 358 Q 0 (me_en (mc_nl 358) _) [] h = _
  rw [nl_358]; rfl

/-! InvariantDeskModel.placeOf(II)I -/
theorem mj_359_0 : mc_P 359 0 = some (.aload_n 0, 1, 0, 0, 0) := by decide +kernel
theorem s_359_0 {x1 x2 x3 x4 x5 : Option Value} {w : Value} : mw d 359 Q 0 [some w, x1, x2, x3, x4, x5] (st) h = mv_a w (mw d 359 Q 1 [some w, x1, x2, x3, x4, x5] (w :: st) h) := (mw_at mj_359_0).trans (z_aload_n rfl)
theorem mj_359_1 : mc_P 359 1 = some (.iload_n 2, 1, 0, 0, 0) := by decide +kernel
theorem s_359_1 {x0 x1 x3 x4 x5 : Option Value} {w : Value} : mw d 359 Q 1 [x0, x1, some w, x3, x4, x5] (st) h = mv_i w (mw d 359 Q 2 [x0, x1, some w, x3, x4, x5] (w :: st) h) := (mw_at mj_359_1).trans (z_iload_n rfl)
theorem mj_359_2 : mc_P 359 2 = some (.invokevirtual 439, 3, 360, 14, 2) := by decide +kernel
theorem s_359_2 {x0 x1 x2 x3 x4 x5 : Option Value} {o : Nat} {a1 : Value} : mw (d + 1) 359 Q 2 [x0, x1, x2, x3, x4, x5] (a1 :: .ref o :: st) h = (mg h o 14 ∧ mca st 8 ∧ mca [.ref o, a1] 7 ∧ mcall d 360 [.ref o, a1] h (mK (d + 1) 359 Q 5 [x0, x1, x2, x3, x4, x5] st)) := (mw_at mj_359_2).trans ((z_invv (As := [a1]) (by decide) rfl rfl).trans (congrArg (And _) (congrArg (And _) (mC_nl nl_360))))
theorem mj_359_5 : mc_P 359 5 = some (.lstore_n 3, 1, 0, 0, 0) := by decide +kernel
theorem s_359_5 {x0 x1 x2 x3 x4 x5 : Option Value} {w : Int64} : mw d 359 Q 5 [x0, x1, x2, x3, x4, x5] (.long w :: st) h = mw d 359 Q 6 [x0, x1, mk2 x2, some (.long w), none, x5] (st) h := (mw_at mj_359_5).trans (z_lstore_n (Nat.le_of_ble_eq_true rfl) (me_s2_mk (j := 2) (w := x2) rfl))
theorem mj_359_6 : mc_P 359 6 = some (.aload_n 0, 1, 0, 0, 0) := by decide +kernel
theorem s_359_6 {x1 x2 x3 x4 x5 : Option Value} {w : Value} : mw d 359 Q 6 [some w, x1, x2, x3, x4, x5] (st) h = mv_a w (mw d 359 Q 7 [some w, x1, x2, x3, x4, x5] (w :: st) h) := (mw_at mj_359_6).trans (z_aload_n rfl)
theorem mj_359_7 : mc_P 359 7 = some (.aload_n 0, 1, 0, 0, 0) := by decide +kernel
theorem s_359_7 {x1 x2 x3 x4 x5 : Option Value} {w : Value} : mw d 359 Q 7 [some w, x1, x2, x3, x4, x5] (st) h = mv_a w (mw d 359 Q 8 [some w, x1, x2, x3, x4, x5] (w :: st) h) := (mw_at mj_359_7).trans (z_aload_n rfl)
theorem mj_359_8 : mc_P 359 8 = some (.getfield 55, 3, 14, 21, 0) := by decide +kernel
theorem s_359_8 {x0 x1 x2 x3 x4 x5 : Option Value} {o : Nat} : mw d 359 Q 8 [x0, x1, x2, x3, x4, x5] (.ref o :: st) h = (mg h o 14 ∧ mw d 359 Q 11 [x0, x1, x2, x3, x4, x5] (va_rf (mh_r h o 21) :: st) h) := (mw_at mj_359_8).trans (z_getr (by decide) (by decide) rfl)
theorem mj_359_11 : mc_P 359 11 = some (.iload_n 1, 1, 0, 0, 0) := by decide +kernel
theorem s_359_11 {x0 x2 x3 x4 x5 : Option Value} {w : Value} : mw d 359 Q 11 [x0, some w, x2, x3, x4, x5] (st) h = mv_i w (mw d 359 Q 12 [x0, some w, x2, x3, x4, x5] (w :: st) h) := (mw_at mj_359_11).trans (z_iload_n rfl)
theorem mj_359_12 : mc_P 359 12 = some (.iaload, 1, 0, 0, 0) := by decide +kernel
theorem s_359_12 {x0 x1 x2 x3 x4 x5 : Option Value} {o : Nat} {i : Int32} : mw d 359 Q 12 [x0, x1, x2, x3, x4, x5] (.int i :: .ref o :: st) h = (mg h o 100 ∧ mx i (mh_l h o) ∧ mw d 359 Q 13 [x0, x1, x2, x3, x4, x5] (.int (mh_i h o i.toNatClampNeg) :: st) h) := (mw_at mj_359_12).trans (z_iald)
theorem mj_359_13 : mc_P 359 13 = some (.invokevirtual 442, 3, 355, 14, 2) := by decide +kernel
theorem s_359_13 {x0 x1 x2 x3 x4 x5 : Option Value} {o : Nat} {a1 : Value} : mw (d + 1) 359 Q 13 [x0, x1, x2, x3, x4, x5] (a1 :: .ref o :: st) h = (mg h o 14 ∧ mca st 8 ∧ mca [.ref o, a1] 3 ∧ mcall d 355 [.ref o, a1] h (mK (d + 1) 359 Q 16 [x0, x1, x2, x3, x4, x5] st)) := (mw_at mj_359_13).trans ((z_invv (As := [a1]) (by decide) rfl rfl).trans (congrArg (And _) (congrArg (And _) (mC_nl nl_355))))
theorem mj_359_16 : mc_P 359 16 = some (.istore 5, 2, 0, 0, 0) := by decide +kernel
theorem s_359_16 {x0 x1 x2 x3 x4 x5 : Option Value} {w : Int32} : mw d 359 Q 16 [x0, x1, x2, x3, x4, x5] (.int w :: st) h = mw d 359 Q 18 [x0, x1, x2, x3, mk2 x4, some (.int w)] (st) h := (mw_at mj_359_16).trans (z_istore (Nat.le_of_ble_eq_true rfl) (me_s1_mk (j := 4) (w := x4) rfl))
theorem mj_359_18 : mc_P 359 18 = some (.aload_n 0, 1, 0, 0, 0) := by decide +kernel
theorem s_359_18 {x1 x2 x3 x4 x5 : Option Value} {w : Value} : mw d 359 Q 18 [some w, x1, x2, x3, x4, x5] (st) h = mv_a w (mw d 359 Q 19 [some w, x1, x2, x3, x4, x5] (w :: st) h) := (mw_at mj_359_18).trans (z_aload_n rfl)
theorem mj_359_19 : mc_P 359 19 = some (.getfield 427, 3, 14, 68, 0) := by decide +kernel
theorem s_359_19 {x0 x1 x2 x3 x4 x5 : Option Value} {o : Nat} : mw d 359 Q 19 [x0, x1, x2, x3, x4, x5] (.ref o :: st) h = (mg h o 14 ∧ mw d 359 Q 22 [x0, x1, x2, x3, x4, x5] (.int (mh_i h o 68) :: st) h) := (mw_at mj_359_19).trans (z_geti (by decide) (by decide) (Or.inl rfl))
theorem mj_359_22 : mc_P 359 22 = some (.ifCond .ne 28, 3, 0, 0, 0) := by decide +kernel
theorem s_359_22 {x0 x1 x2 x3 x4 x5 : Option Value} {x : Int32} : mw d 359 Q 22 [x0, x1, x2, x3, x4, x5] (.int x :: st) h = mB (¬ x = 0) (mw d 359 Q) 50 25 [x0, x1, x2, x3, x4, x5] st h := (mw_at mj_359_22).trans (z_if_ne (by decide) rfl)
theorem mj_359_25 : mc_P 359 25 = some (.lload_n 3, 1, 0, 0, 0) := by decide +kernel
theorem s_359_25 {x0 x1 x2 x4 x5 : Option Value} {w : Value} : mw d 359 Q 25 [x0, x1, x2, some w, x4, x5] (st) h = mv_l w (mw d 359 Q 26 [x0, x1, x2, some w, x4, x5] (w :: st) h) := (mw_at mj_359_25).trans (z_lload_n rfl)
theorem mj_359_26 : mc_P 359 26 = some (.lconst 0, 1, 0, 0, 0) := by decide +kernel
theorem s_359_26 {x0 x1 x2 x3 x4 x5 : Option Value} : mw d 359 Q 26 [x0, x1, x2, x3, x4, x5] (st) h = mw d 359 Q 27 [x0, x1, x2, x3, x4, x5] (.long 0 :: st) h := (mw_at mj_359_26).trans (z_lconst (by decide))
theorem mj_359_27 : mc_P 359 27 = some (.lcmp, 1, 0, 0, 0) := by decide +kernel
theorem s_359_27 {x0 x1 x2 x3 x4 x5 : Option Value} {x w : Int64} : mw d 359 Q 27 [x0, x1, x2, x3, x4, x5] (.long w :: .long x :: st) h = mw d 359 Q 28 [x0, x1, x2, x3, x4, x5] (.int (lg_cmp x w) :: st) h := (mw_at mj_359_27).trans (z_lcmp)
theorem mj_359_28 : mc_P 359 28 = some (.ifCond .lt 16, 3, 0, 0, 0) := by decide +kernel
theorem s_359_28 {x0 x1 x2 x3 x4 x5 : Option Value} {x : Int32} : mw d 359 Q 28 [x0, x1, x2, x3, x4, x5] (.int x :: st) h = mB (x < 0) (mw d 359 Q) 44 31 [x0, x1, x2, x3, x4, x5] st h := (mw_at mj_359_28).trans (z_if_lt (by decide) rfl)
theorem mj_359_31 : mc_P 359 31 = some (.lload_n 3, 1, 0, 0, 0) := by decide +kernel
theorem s_359_31 {x0 x1 x2 x4 x5 : Option Value} {w : Value} : mw d 359 Q 31 [x0, x1, x2, some w, x4, x5] (st) h = mv_l w (mw d 359 Q 32 [x0, x1, x2, some w, x4, x5] (w :: st) h) := (mw_at mj_359_31).trans (z_lload_n rfl)
theorem mj_359_32 : mc_P 359 32 = some (.aload_n 0, 1, 0, 0, 0) := by decide +kernel
theorem s_359_32 {x1 x2 x3 x4 x5 : Option Value} {w : Value} : mw d 359 Q 32 [some w, x1, x2, x3, x4, x5] (st) h = mv_a w (mw d 359 Q 33 [some w, x1, x2, x3, x4, x5] (w :: st) h) := (mw_at mj_359_32).trans (z_aload_n rfl)
theorem mj_359_33 : mc_P 359 33 = some (.getfield 94, 3, 14, 37, 0) := by decide +kernel
theorem s_359_33 {x0 x1 x2 x3 x4 x5 : Option Value} {o : Nat} : mw d 359 Q 33 [x0, x1, x2, x3, x4, x5] (.ref o :: st) h = (mg h o 14 ∧ mw d 359 Q 36 [x0, x1, x2, x3, x4, x5] (va_rf (mh_r h o 37) :: st) h) := (mw_at mj_359_33).trans (z_getr (by decide) (by decide) rfl)
theorem mj_359_36 : mc_P 359 36 = some (.iload 5, 2, 0, 0, 0) := by decide +kernel
theorem s_359_36 {x0 x1 x2 x3 x4 : Option Value} {w : Value} : mw d 359 Q 36 [x0, x1, x2, x3, x4, some w] (st) h = mv_i w (mw d 359 Q 38 [x0, x1, x2, x3, x4, some w] (w :: st) h) := (mw_at mj_359_36).trans (z_iload rfl)
theorem mj_359_38 : mc_P 359 38 = some (.iaload, 1, 0, 0, 0) := by decide +kernel
theorem s_359_38 {x0 x1 x2 x3 x4 x5 : Option Value} {o : Nat} {i : Int32} : mw d 359 Q 38 [x0, x1, x2, x3, x4, x5] (.int i :: .ref o :: st) h = (mg h o 100 ∧ mx i (mh_l h o) ∧ mw d 359 Q 39 [x0, x1, x2, x3, x4, x5] (.int (mh_i h o i.toNatClampNeg) :: st) h) := (mw_at mj_359_38).trans (z_iald)
theorem mj_359_39 : mc_P 359 39 = some (.i2l, 1, 0, 0, 0) := by decide +kernel
theorem s_359_39 {x0 x1 x2 x3 x4 x5 : Option Value} {x : Int32} : mw d 359 Q 39 [x0, x1, x2, x3, x4, x5] (.int x :: st) h = mw d 359 Q 40 [x0, x1, x2, x3, x4, x5] (.long x.toInt64 :: st) h := (mw_at mj_359_39).trans (z_i2l)
theorem mj_359_40 : mc_P 359 40 = some (.lcmp, 1, 0, 0, 0) := by decide +kernel
theorem s_359_40 {x0 x1 x2 x3 x4 x5 : Option Value} {x w : Int64} : mw d 359 Q 40 [x0, x1, x2, x3, x4, x5] (.long w :: .long x :: st) h = mw d 359 Q 41 [x0, x1, x2, x3, x4, x5] (.int (lg_cmp x w) :: st) h := (mw_at mj_359_40).trans (z_lcmp)
theorem mj_359_41 : mc_P 359 41 = some (.ifCond .lt 9, 3, 0, 0, 0) := by decide +kernel
theorem s_359_41 {x0 x1 x2 x3 x4 x5 : Option Value} {x : Int32} : mw d 359 Q 41 [x0, x1, x2, x3, x4, x5] (.int x :: st) h = mB (x < 0) (mw d 359 Q) 50 44 [x0, x1, x2, x3, x4, x5] st h := (mw_at mj_359_41).trans (z_if_lt (by decide) rfl)
theorem mj_359_44 : mc_P 359 44 = some (.aload_n 0, 1, 0, 0, 0) := by decide +kernel
theorem s_359_44 {x1 x2 x3 x4 x5 : Option Value} {w : Value} : mw d 359 Q 44 [some w, x1, x2, x3, x4, x5] (st) h = mv_a w (mw d 359 Q 45 [some w, x1, x2, x3, x4, x5] (w :: st) h) := (mw_at mj_359_44).trans (z_aload_n rfl)
theorem mj_359_45 : mc_P 359 45 = some (.iconst 4, 1, 0, 0, 0) := by decide +kernel
theorem s_359_45 {x0 x1 x2 x3 x4 x5 : Option Value} : mw d 359 Q 45 [x0, x1, x2, x3, x4, x5] (st) h = mw d 359 Q 46 [x0, x1, x2, x3, x4, x5] (.int 4 :: st) h := (mw_at mj_359_45).trans (z_iconst (by decide))
theorem mj_359_46 : mc_P 359 46 = some (.invokevirtual 432, 3, 356, 14, 2) := by decide +kernel
theorem s_359_46 {x0 x1 x2 x3 x4 x5 : Option Value} {o : Nat} {a1 : Value} : mw (d + 1) 359 Q 46 [x0, x1, x2, x3, x4, x5] (a1 :: .ref o :: st) h = (mg h o 14 ∧ mca st 8 ∧ mca [.ref o, a1] 2 ∧ mcall d 356 [.ref o, a1] h (mK (d + 1) 359 Q 49 [x0, x1, x2, x3, x4, x5] st)) := (mw_at mj_359_46).trans ((z_invv (As := [a1]) (by decide) rfl rfl).trans (congrArg (And _) (congrArg (And _) (mC_nl nl_356))))
theorem mj_359_49 : mc_P 359 49 = some (.pop2, 1, 0, 0, 0) := by decide +kernel
theorem s_359_49 {x0 x1 x2 x3 x4 x5 : Option Value} {w : Value} : mw d 359 Q 49 [x0, x1, x2, x3, x4, x5] (w :: st) h = (w.category = 2 ∧ mw d 359 Q 50 [x0, x1, x2, x3, x4, x5] (st) h) := (mw_at mj_359_49).trans (z_pop2)
theorem mj_359_50 : mc_P 359 50 = some (.aload_n 0, 1, 0, 0, 0) := by decide +kernel
theorem s_359_50 {x1 x2 x3 x4 x5 : Option Value} {w : Value} : mw d 359 Q 50 [some w, x1, x2, x3, x4, x5] (st) h = mv_a w (mw d 359 Q 51 [some w, x1, x2, x3, x4, x5] (w :: st) h) := (mw_at mj_359_50).trans (z_aload_n rfl)
theorem mj_359_51 : mc_P 359 51 = some (.getfield 427, 3, 14, 68, 0) := by decide +kernel
theorem s_359_51 {x0 x1 x2 x3 x4 x5 : Option Value} {o : Nat} : mw d 359 Q 51 [x0, x1, x2, x3, x4, x5] (.ref o :: st) h = (mg h o 14 ∧ mw d 359 Q 54 [x0, x1, x2, x3, x4, x5] (.int (mh_i h o 68) :: st) h) := (mw_at mj_359_51).trans (z_geti (by decide) (by decide) (Or.inl rfl))
theorem mj_359_54 : mc_P 359 54 = some (.ifCond .le 7, 3, 0, 0, 0) := by decide +kernel
theorem s_359_54 {x0 x1 x2 x3 x4 x5 : Option Value} {x : Int32} : mw d 359 Q 54 [x0, x1, x2, x3, x4, x5] (.int x :: st) h = mB (x ≤ 0) (mw d 359 Q) 61 57 [x0, x1, x2, x3, x4, x5] st h := (mw_at mj_359_54).trans (z_if_le (by decide) rfl)
theorem mj_359_57 : mc_P 359 57 = some (.iconst 0, 1, 0, 0, 0) := by decide +kernel
theorem s_359_57 {x0 x1 x2 x3 x4 x5 : Option Value} : mw d 359 Q 57 [x0, x1, x2, x3, x4, x5] (st) h = mw d 359 Q 58 [x0, x1, x2, x3, x4, x5] (.int 0 :: st) h := (mw_at mj_359_57).trans (z_iconst (by decide))
theorem mj_359_58 : mc_P 359 58 = some (.goto 16, 3, 0, 0, 0) := by decide +kernel
theorem s_359_58 {x0 x1 x2 x3 x4 x5 : Option Value} : mw d 359 Q 58 [x0, x1, x2, x3, x4, x5] (st) h = mw d 359 Q 74 [x0, x1, x2, x3, x4, x5] (st) h := (mw_at mj_359_58).trans (z_goto (by decide))
theorem mj_359_61 : mc_P 359 61 = some (.bipush 64, 2, 0, 0, 0) := by decide +kernel
theorem s_359_61 {x0 x1 x2 x3 x4 x5 : Option Value} : mw d 359 Q 61 [x0, x1, x2, x3, x4, x5] (st) h = mw d 359 Q 63 [x0, x1, x2, x3, x4, x5] (.int 64 :: st) h := (mw_at mj_359_61).trans (z_bipush (by decide))
theorem mj_359_63 : mc_P 359 63 = some (.aload_n 0, 1, 0, 0, 0) := by decide +kernel
theorem s_359_63 {x1 x2 x3 x4 x5 : Option Value} {w : Value} : mw d 359 Q 63 [some w, x1, x2, x3, x4, x5] (st) h = mv_a w (mw d 359 Q 64 [some w, x1, x2, x3, x4, x5] (w :: st) h) := (mw_at mj_359_63).trans (z_aload_n rfl)
theorem mj_359_64 : mc_P 359 64 = some (.getfield 91, 3, 14, 36, 0) := by decide +kernel
theorem s_359_64 {x0 x1 x2 x3 x4 x5 : Option Value} {o : Nat} : mw d 359 Q 64 [x0, x1, x2, x3, x4, x5] (.ref o :: st) h = (mg h o 14 ∧ mw d 359 Q 67 [x0, x1, x2, x3, x4, x5] (va_rf (mh_r h o 36) :: st) h) := (mw_at mj_359_64).trans (z_getr (by decide) (by decide) rfl)
theorem mj_359_67 : mc_P 359 67 = some (.iload 5, 2, 0, 0, 0) := by decide +kernel
theorem s_359_67 {x0 x1 x2 x3 x4 : Option Value} {w : Value} : mw d 359 Q 67 [x0, x1, x2, x3, x4, some w] (st) h = mv_i w (mw d 359 Q 69 [x0, x1, x2, x3, x4, some w] (w :: st) h) := (mw_at mj_359_67).trans (z_iload rfl)
theorem mj_359_69 : mc_P 359 69 = some (.iaload, 1, 0, 0, 0) := by decide +kernel
theorem s_359_69 {x0 x1 x2 x3 x4 x5 : Option Value} {o : Nat} {i : Int32} : mw d 359 Q 69 [x0, x1, x2, x3, x4, x5] (.int i :: .ref o :: st) h = (mg h o 100 ∧ mx i (mh_l h o) ∧ mw d 359 Q 70 [x0, x1, x2, x3, x4, x5] (.int (mh_i h o i.toNatClampNeg) :: st) h) := (mw_at mj_359_69).trans (z_iald)
theorem mj_359_70 : mc_P 359 70 = some (.imul, 1, 0, 0, 0) := by decide +kernel
theorem s_359_70 {x0 x1 x2 x3 x4 x5 : Option Value} {x w : Int32} : mw d 359 Q 70 [x0, x1, x2, x3, x4, x5] (.int w :: .int x :: st) h = mw d 359 Q 71 [x0, x1, x2, x3, x4, x5] (.int (x * w) :: st) h := (mw_at mj_359_70).trans (z_imul)
theorem mj_359_71 : mc_P 359 71 = some (.lload_n 3, 1, 0, 0, 0) := by decide +kernel
theorem s_359_71 {x0 x1 x2 x4 x5 : Option Value} {w : Value} : mw d 359 Q 71 [x0, x1, x2, some w, x4, x5] (st) h = mv_l w (mw d 359 Q 72 [x0, x1, x2, some w, x4, x5] (w :: st) h) := (mw_at mj_359_71).trans (z_lload_n rfl)
theorem mj_359_72 : mc_P 359 72 = some (.l2i, 1, 0, 0, 0) := by decide +kernel
theorem s_359_72 {x0 x1 x2 x3 x4 x5 : Option Value} {x : Int64} : mw d 359 Q 72 [x0, x1, x2, x3, x4, x5] (.long x :: st) h = mw d 359 Q 73 [x0, x1, x2, x3, x4, x5] (.int x.toInt32 :: st) h := (mw_at mj_359_72).trans (z_l2i)
theorem mj_359_73 : mc_P 359 73 = some (.iadd, 1, 0, 0, 0) := by decide +kernel
theorem s_359_73 {x0 x1 x2 x3 x4 x5 : Option Value} {x w : Int32} : mw d 359 Q 73 [x0, x1, x2, x3, x4, x5] (.int w :: .int x :: st) h = mw d 359 Q 74 [x0, x1, x2, x3, x4, x5] (.int (x + w) :: st) h := (mw_at mj_359_73).trans (z_iadd)
theorem mj_359_74 : mc_P 359 74 = some (.ireturn, 1, 0, 0, 0) := by decide +kernel
theorem s_359_74 {x0 x1 x2 x3 x4 x5 : Option Value} {x : Int32} : mw d 359 Q 74 [x0, x1, x2, x3, x4, x5] ([.int x]) h = (Q (some (.int x)) h) := (mw_at mj_359_74).trans (z_iret)
theorem e_359 {a0 : Nat} {a1 : Int32} {a2 : Int32} : mcall d 359 [.ref a0, .int a1, .int a2] h Q = mw d 359 Q 0 [some (.ref a0), some (.int a1), some (.int a2), none, none, none] [] h := by
  show mw d 359 Q 0 (me_en (mc_nl 359) _) [] h = _
  rw [nl_359]; rfl

/-! InvariantDeskModel.reckon(I)J -/
theorem mj_360_0 : mc_P 360 0 = some (.aload_n 0, 1, 0, 0, 0) := by decide +kernel
theorem s_360_0 {x1 x2 x3 x4 x5 x6 : Option Value} {w : Value} : mw d 360 Q 0 [some w, x1, x2, x3, x4, x5, x6] (st) h = mv_a w (mw d 360 Q 1 [some w, x1, x2, x3, x4, x5, x6] (w :: st) h) := (mw_at mj_360_0).trans (z_aload_n rfl)
theorem mj_360_1 : mc_P 360 1 = some (.getfield 427, 3, 14, 68, 0) := by decide +kernel
theorem s_360_1 {x0 x1 x2 x3 x4 x5 x6 : Option Value} {o : Nat} : mw d 360 Q 1 [x0, x1, x2, x3, x4, x5, x6] (.ref o :: st) h = (mg h o 14 ∧ mw d 360 Q 4 [x0, x1, x2, x3, x4, x5, x6] (.int (mh_i h o 68) :: st) h) := (mw_at mj_360_1).trans (z_geti (by decide) (by decide) (Or.inl rfl))
theorem mj_360_4 : mc_P 360 4 = some (.ifCond .le 5, 3, 0, 0, 0) := by decide +kernel
theorem s_360_4 {x0 x1 x2 x3 x4 x5 x6 : Option Value} {x : Int32} : mw d 360 Q 4 [x0, x1, x2, x3, x4, x5, x6] (.int x :: st) h = mB (x ≤ 0) (mw d 360 Q) 9 7 [x0, x1, x2, x3, x4, x5, x6] st h := (mw_at mj_360_4).trans (z_if_le (by decide) rfl)
theorem mj_360_7 : mc_P 360 7 = some (.lconst 0, 1, 0, 0, 0) := by decide +kernel
theorem s_360_7 {x0 x1 x2 x3 x4 x5 x6 : Option Value} : mw d 360 Q 7 [x0, x1, x2, x3, x4, x5, x6] (st) h = mw d 360 Q 8 [x0, x1, x2, x3, x4, x5, x6] (.long 0 :: st) h := (mw_at mj_360_7).trans (z_lconst (by decide))
theorem mj_360_8 : mc_P 360 8 = some (.lreturn, 1, 0, 0, 0) := by decide +kernel
theorem s_360_8 {x0 x1 x2 x3 x4 x5 x6 : Option Value} {x : Int64} : mw d 360 Q 8 [x0, x1, x2, x3, x4, x5, x6] ([.long x]) h = Q (some (.long x)) h := (mw_at mj_360_8).trans (z_lret)
theorem mj_360_9 : mc_P 360 9 = some (.aload_n 0, 1, 0, 0, 0) := by decide +kernel
theorem s_360_9 {x1 x2 x3 x4 x5 x6 : Option Value} {w : Value} : mw d 360 Q 9 [some w, x1, x2, x3, x4, x5, x6] (st) h = mv_a w (mw d 360 Q 10 [some w, x1, x2, x3, x4, x5, x6] (w :: st) h) := (mw_at mj_360_9).trans (z_aload_n rfl)
theorem mj_360_10 : mc_P 360 10 = some (.getfield 48, 3, 14, 19, 0) := by decide +kernel
theorem s_360_10 {x0 x1 x2 x3 x4 x5 x6 : Option Value} {o : Nat} : mw d 360 Q 10 [x0, x1, x2, x3, x4, x5, x6] (.ref o :: st) h = (mg h o 14 ∧ mw d 360 Q 13 [x0, x1, x2, x3, x4, x5, x6] (va_rf (mh_r h o 19) :: st) h) := (mw_at mj_360_10).trans (z_getr (by decide) (by decide) rfl)
theorem mj_360_13 : mc_P 360 13 = some (.iload_n 1, 1, 0, 0, 0) := by decide +kernel
theorem s_360_13 {x0 x2 x3 x4 x5 x6 : Option Value} {w : Value} : mw d 360 Q 13 [x0, some w, x2, x3, x4, x5, x6] (st) h = mv_i w (mw d 360 Q 14 [x0, some w, x2, x3, x4, x5, x6] (w :: st) h) := (mw_at mj_360_13).trans (z_iload_n rfl)
theorem mj_360_14 : mc_P 360 14 = some (.baload, 1, 0, 0, 0) := by decide +kernel
theorem s_360_14 {x0 x1 x2 x3 x4 x5 x6 : Option Value} {o : Nat} {i : Int32} : mw d 360 Q 14 [x0, x1, x2, x3, x4, x5, x6] (.int i :: .ref o :: st) h = (mgb h o ∧ mx i (mh_l h o) ∧ mw d 360 Q 15 [x0, x1, x2, x3, x4, x5, x6] (.int (mh_i h o i.toNatClampNeg) :: st) h) := (mw_at mj_360_14).trans (z_bald)
theorem mj_360_15 : mc_P 360 15 = some (.tableswitch 162 12 16 #[33, 41, 63, 95, 108], 33, 0, 0, 0) := by decide +kernel
theorem s_360_15 {x0 x1 x2 x3 x4 x5 x6 : Option Value} {x : Int32} : mw d 360 Q 15 [x0, x1, x2, x3, x4, x5, x6] (.int x :: st) h = mS x (mw d 360 Q) 177 [x0, x1, x2, x3, x4, x5, x6] st h [(12, 48), (13, 56), (14, 78), (15, 110), (16, 123)] := (mw_at mj_360_15).trans (z_tab (by decide) (by decide) (by decide +kernel))
theorem mj_360_48 : mc_P 360 48 = some (.aload_n 0, 1, 0, 0, 0) := by decide +kernel
theorem s_360_48 {x1 x2 x3 x4 x5 x6 : Option Value} {w : Value} : mw d 360 Q 48 [some w, x1, x2, x3, x4, x5, x6] (st) h = mv_a w (mw d 360 Q 49 [some w, x1, x2, x3, x4, x5, x6] (w :: st) h) := (mw_at mj_360_48).trans (z_aload_n rfl)
theorem mj_360_49 : mc_P 360 49 = some (.getfield 55, 3, 14, 21, 0) := by decide +kernel
theorem s_360_49 {x0 x1 x2 x3 x4 x5 x6 : Option Value} {o : Nat} : mw d 360 Q 49 [x0, x1, x2, x3, x4, x5, x6] (.ref o :: st) h = (mg h o 14 ∧ mw d 360 Q 52 [x0, x1, x2, x3, x4, x5, x6] (va_rf (mh_r h o 21) :: st) h) := (mw_at mj_360_49).trans (z_getr (by decide) (by decide) rfl)
theorem mj_360_52 : mc_P 360 52 = some (.iload_n 1, 1, 0, 0, 0) := by decide +kernel
theorem s_360_52 {x0 x2 x3 x4 x5 x6 : Option Value} {w : Value} : mw d 360 Q 52 [x0, some w, x2, x3, x4, x5, x6] (st) h = mv_i w (mw d 360 Q 53 [x0, some w, x2, x3, x4, x5, x6] (w :: st) h) := (mw_at mj_360_52).trans (z_iload_n rfl)
theorem mj_360_53 : mc_P 360 53 = some (.iaload, 1, 0, 0, 0) := by decide +kernel
theorem s_360_53 {x0 x1 x2 x3 x4 x5 x6 : Option Value} {o : Nat} {i : Int32} : mw d 360 Q 53 [x0, x1, x2, x3, x4, x5, x6] (.int i :: .ref o :: st) h = (mg h o 100 ∧ mx i (mh_l h o) ∧ mw d 360 Q 54 [x0, x1, x2, x3, x4, x5, x6] (.int (mh_i h o i.toNatClampNeg) :: st) h) := (mw_at mj_360_53).trans (z_iald)
theorem mj_360_54 : mc_P 360 54 = some (.i2l, 1, 0, 0, 0) := by decide +kernel
theorem s_360_54 {x0 x1 x2 x3 x4 x5 x6 : Option Value} {x : Int32} : mw d 360 Q 54 [x0, x1, x2, x3, x4, x5, x6] (.int x :: st) h = mw d 360 Q 55 [x0, x1, x2, x3, x4, x5, x6] (.long x.toInt64 :: st) h := (mw_at mj_360_54).trans (z_i2l)
theorem mj_360_55 : mc_P 360 55 = some (.lreturn, 1, 0, 0, 0) := by decide +kernel
theorem s_360_55 {x0 x1 x2 x3 x4 x5 x6 : Option Value} {x : Int64} : mw d 360 Q 55 [x0, x1, x2, x3, x4, x5, x6] ([.long x]) h = Q (some (.long x)) h := (mw_at mj_360_55).trans (z_lret)
theorem mj_360_56 : mc_P 360 56 = some (.aload_n 0, 1, 0, 0, 0) := by decide +kernel
theorem s_360_56 {x1 x2 x3 x4 x5 x6 : Option Value} {w : Value} : mw d 360 Q 56 [some w, x1, x2, x3, x4, x5, x6] (st) h = mv_a w (mw d 360 Q 57 [some w, x1, x2, x3, x4, x5, x6] (w :: st) h) := (mw_at mj_360_56).trans (z_aload_n rfl)
theorem mj_360_57 : mc_P 360 57 = some (.getfield 141, 3, 14, 61, 0) := by decide +kernel
theorem s_360_57 {x0 x1 x2 x3 x4 x5 x6 : Option Value} {o : Nat} : mw d 360 Q 57 [x0, x1, x2, x3, x4, x5, x6] (.ref o :: st) h = (mg h o 14 ∧ mw d 360 Q 60 [x0, x1, x2, x3, x4, x5, x6] (va_rf (mh_r h o 61) :: st) h) := (mw_at mj_360_57).trans (z_getr (by decide) (by decide) rfl)
theorem mj_360_60 : mc_P 360 60 = some (.aload_n 0, 1, 0, 0, 0) := by decide +kernel
theorem s_360_60 {x1 x2 x3 x4 x5 x6 : Option Value} {w : Value} : mw d 360 Q 60 [some w, x1, x2, x3, x4, x5, x6] (st) h = mv_a w (mw d 360 Q 61 [some w, x1, x2, x3, x4, x5, x6] (w :: st) h) := (mw_at mj_360_60).trans (z_aload_n rfl)
theorem mj_360_61 : mc_P 360 61 = some (.getfield 91, 3, 14, 36, 0) := by decide +kernel
theorem s_360_61 {x0 x1 x2 x3 x4 x5 x6 : Option Value} {o : Nat} : mw d 360 Q 61 [x0, x1, x2, x3, x4, x5, x6] (.ref o :: st) h = (mg h o 14 ∧ mw d 360 Q 64 [x0, x1, x2, x3, x4, x5, x6] (va_rf (mh_r h o 36) :: st) h) := (mw_at mj_360_61).trans (z_getr (by decide) (by decide) rfl)
theorem mj_360_64 : mc_P 360 64 = some (.aload_n 0, 1, 0, 0, 0) := by decide +kernel
theorem s_360_64 {x1 x2 x3 x4 x5 x6 : Option Value} {w : Value} : mw d 360 Q 64 [some w, x1, x2, x3, x4, x5, x6] (st) h = mv_a w (mw d 360 Q 65 [some w, x1, x2, x3, x4, x5, x6] (w :: st) h) := (mw_at mj_360_64).trans (z_aload_n rfl)
theorem mj_360_65 : mc_P 360 65 = some (.aload_n 0, 1, 0, 0, 0) := by decide +kernel
theorem s_360_65 {x1 x2 x3 x4 x5 x6 : Option Value} {w : Value} : mw d 360 Q 65 [some w, x1, x2, x3, x4, x5, x6] (st) h = mv_a w (mw d 360 Q 66 [some w, x1, x2, x3, x4, x5, x6] (w :: st) h) := (mw_at mj_360_65).trans (z_aload_n rfl)
theorem mj_360_66 : mc_P 360 66 = some (.getfield 55, 3, 14, 21, 0) := by decide +kernel
theorem s_360_66 {x0 x1 x2 x3 x4 x5 x6 : Option Value} {o : Nat} : mw d 360 Q 66 [x0, x1, x2, x3, x4, x5, x6] (.ref o :: st) h = (mg h o 14 ∧ mw d 360 Q 69 [x0, x1, x2, x3, x4, x5, x6] (va_rf (mh_r h o 21) :: st) h) := (mw_at mj_360_66).trans (z_getr (by decide) (by decide) rfl)
theorem mj_360_69 : mc_P 360 69 = some (.iload_n 1, 1, 0, 0, 0) := by decide +kernel
theorem s_360_69 {x0 x2 x3 x4 x5 x6 : Option Value} {w : Value} : mw d 360 Q 69 [x0, some w, x2, x3, x4, x5, x6] (st) h = mv_i w (mw d 360 Q 70 [x0, some w, x2, x3, x4, x5, x6] (w :: st) h) := (mw_at mj_360_69).trans (z_iload_n rfl)
theorem mj_360_70 : mc_P 360 70 = some (.iaload, 1, 0, 0, 0) := by decide +kernel
theorem s_360_70 {x0 x1 x2 x3 x4 x5 x6 : Option Value} {o : Nat} {i : Int32} : mw d 360 Q 70 [x0, x1, x2, x3, x4, x5, x6] (.int i :: .ref o :: st) h = (mg h o 100 ∧ mx i (mh_l h o) ∧ mw d 360 Q 71 [x0, x1, x2, x3, x4, x5, x6] (.int (mh_i h o i.toNatClampNeg) :: st) h) := (mw_at mj_360_70).trans (z_iald)
theorem mj_360_71 : mc_P 360 71 = some (.invokevirtual 442, 3, 355, 14, 2) := by decide +kernel
theorem s_360_71 {x0 x1 x2 x3 x4 x5 x6 : Option Value} {o : Nat} {a1 : Value} : mw (d + 1) 360 Q 71 [x0, x1, x2, x3, x4, x5, x6] (a1 :: .ref o :: st) h = (mg h o 14 ∧ mca st 8 ∧ mca [.ref o, a1] 3 ∧ mcall d 355 [.ref o, a1] h (mK (d + 1) 360 Q 74 [x0, x1, x2, x3, x4, x5, x6] st)) := (mw_at mj_360_71).trans ((z_invv (As := [a1]) (by decide) rfl rfl).trans (congrArg (And _) (congrArg (And _) (mC_nl nl_355))))
theorem mj_360_74 : mc_P 360 74 = some (.iaload, 1, 0, 0, 0) := by decide +kernel
theorem s_360_74 {x0 x1 x2 x3 x4 x5 x6 : Option Value} {o : Nat} {i : Int32} : mw d 360 Q 74 [x0, x1, x2, x3, x4, x5, x6] (.int i :: .ref o :: st) h = (mg h o 100 ∧ mx i (mh_l h o) ∧ mw d 360 Q 75 [x0, x1, x2, x3, x4, x5, x6] (.int (mh_i h o i.toNatClampNeg) :: st) h) := (mw_at mj_360_74).trans (z_iald)
theorem mj_360_75 : mc_P 360 75 = some (.iaload, 1, 0, 0, 0) := by decide +kernel
theorem s_360_75 {x0 x1 x2 x3 x4 x5 x6 : Option Value} {o : Nat} {i : Int32} : mw d 360 Q 75 [x0, x1, x2, x3, x4, x5, x6] (.int i :: .ref o :: st) h = (mg h o 100 ∧ mx i (mh_l h o) ∧ mw d 360 Q 76 [x0, x1, x2, x3, x4, x5, x6] (.int (mh_i h o i.toNatClampNeg) :: st) h) := (mw_at mj_360_75).trans (z_iald)
theorem mj_360_76 : mc_P 360 76 = some (.i2l, 1, 0, 0, 0) := by decide +kernel
theorem s_360_76 {x0 x1 x2 x3 x4 x5 x6 : Option Value} {x : Int32} : mw d 360 Q 76 [x0, x1, x2, x3, x4, x5, x6] (.int x :: st) h = mw d 360 Q 77 [x0, x1, x2, x3, x4, x5, x6] (.long x.toInt64 :: st) h := (mw_at mj_360_76).trans (z_i2l)
theorem mj_360_77 : mc_P 360 77 = some (.lreturn, 1, 0, 0, 0) := by decide +kernel
theorem s_360_77 {x0 x1 x2 x3 x4 x5 x6 : Option Value} {x : Int64} : mw d 360 Q 77 [x0, x1, x2, x3, x4, x5, x6] ([.long x]) h = Q (some (.long x)) h := (mw_at mj_360_77).trans (z_lret)
theorem mj_360_78 : mc_P 360 78 = some (.aload_n 0, 1, 0, 0, 0) := by decide +kernel
theorem s_360_78 {x1 x2 x3 x4 x5 x6 : Option Value} {w : Value} : mw d 360 Q 78 [some w, x1, x2, x3, x4, x5, x6] (st) h = mv_a w (mw d 360 Q 79 [some w, x1, x2, x3, x4, x5, x6] (w :: st) h) := (mw_at mj_360_78).trans (z_aload_n rfl)
theorem mj_360_79 : mc_P 360 79 = some (.iload_n 1, 1, 0, 0, 0) := by decide +kernel
theorem s_360_79 {x0 x2 x3 x4 x5 x6 : Option Value} {w : Value} : mw d 360 Q 79 [x0, some w, x2, x3, x4, x5, x6] (st) h = mv_i w (mw d 360 Q 80 [x0, some w, x2, x3, x4, x5, x6] (w :: st) h) := (mw_at mj_360_79).trans (z_iload_n rfl)
theorem mj_360_80 : mc_P 360 80 = some (.iconst 1, 1, 0, 0, 0) := by decide +kernel
theorem s_360_80 {x0 x1 x2 x3 x4 x5 x6 : Option Value} : mw d 360 Q 80 [x0, x1, x2, x3, x4, x5, x6] (st) h = mw d 360 Q 81 [x0, x1, x2, x3, x4, x5, x6] (.int 1 :: st) h := (mw_at mj_360_80).trans (z_iconst (by decide))
theorem mj_360_81 : mc_P 360 81 = some (.iadd, 1, 0, 0, 0) := by decide +kernel
theorem s_360_81 {x0 x1 x2 x3 x4 x5 x6 : Option Value} {x w : Int32} : mw d 360 Q 81 [x0, x1, x2, x3, x4, x5, x6] (.int w :: .int x :: st) h = mw d 360 Q 82 [x0, x1, x2, x3, x4, x5, x6] (.int (x + w) :: st) h := (mw_at mj_360_81).trans (z_iadd)
theorem mj_360_82 : mc_P 360 82 = some (.aload_n 0, 1, 0, 0, 0) := by decide +kernel
theorem s_360_82 {x1 x2 x3 x4 x5 x6 : Option Value} {w : Value} : mw d 360 Q 82 [some w, x1, x2, x3, x4, x5, x6] (st) h = mv_a w (mw d 360 Q 83 [some w, x1, x2, x3, x4, x5, x6] (w :: st) h) := (mw_at mj_360_82).trans (z_aload_n rfl)
theorem mj_360_83 : mc_P 360 83 = some (.iload_n 1, 1, 0, 0, 0) := by decide +kernel
theorem s_360_83 {x0 x2 x3 x4 x5 x6 : Option Value} {w : Value} : mw d 360 Q 83 [x0, some w, x2, x3, x4, x5, x6] (st) h = mv_i w (mw d 360 Q 84 [x0, some w, x2, x3, x4, x5, x6] (w :: st) h) := (mw_at mj_360_83).trans (z_iload_n rfl)
theorem mj_360_84 : mc_P 360 84 = some (.invokevirtual 391, 3, 334, 14, 2) := by decide +kernel
theorem s_360_84 {x0 x1 x2 x3 x4 x5 x6 : Option Value} {o : Nat} {a1 : Value} : mw (d + 1) 360 Q 84 [x0, x1, x2, x3, x4, x5, x6] (a1 :: .ref o :: st) h = (mg h o 14 ∧ mca st 8 ∧ mca [.ref o, a1] 2 ∧ mcall d 334 [.ref o, a1] h (mK (d + 1) 360 Q 87 [x0, x1, x2, x3, x4, x5, x6] st)) := (mw_at mj_360_84).trans ((z_invv (As := [a1]) (by decide) rfl rfl).trans (congrArg (And _) (congrArg (And _) (mC_nl nl_334))))
theorem mj_360_87 : mc_P 360 87 = some (.invokevirtual 445, 3, 359, 14, 3) := by decide +kernel
theorem s_360_87 {x0 x1 x2 x3 x4 x5 x6 : Option Value} {o : Nat} {a1 a2 : Value} : mw (d + 1) 360 Q 87 [x0, x1, x2, x3, x4, x5, x6] (a2 :: a1 :: .ref o :: st) h = (mg h o 14 ∧ mca st 8 ∧ mca [.ref o, a1, a2] 6 ∧ mcall d 359 [.ref o, a1, a2] h (mK (d + 1) 360 Q 90 [x0, x1, x2, x3, x4, x5, x6] st)) := (mw_at mj_360_87).trans ((z_invv (As := [a1, a2]) (by decide) rfl rfl).trans (congrArg (And _) (congrArg (And _) (mC_nl nl_359))))
theorem mj_360_90 : mc_P 360 90 = some (.istore_n 2, 1, 0, 0, 0) := by decide +kernel
theorem s_360_90 {x0 x1 x2 x3 x4 x5 x6 : Option Value} {w : Int32} : mw d 360 Q 90 [x0, x1, x2, x3, x4, x5, x6] (.int w :: st) h = mw d 360 Q 91 [x0, mk2 x1, some (.int w), x3, x4, x5, x6] (st) h := (mw_at mj_360_90).trans (z_istore_n (Nat.le_of_ble_eq_true rfl) (me_s1_mk (j := 1) (w := x1) rfl))
theorem mj_360_91 : mc_P 360 91 = some (.aload_n 0, 1, 0, 0, 0) := by decide +kernel
theorem s_360_91 {x1 x2 x3 x4 x5 x6 : Option Value} {w : Value} : mw d 360 Q 91 [some w, x1, x2, x3, x4, x5, x6] (st) h = mv_a w (mw d 360 Q 92 [some w, x1, x2, x3, x4, x5, x6] (w :: st) h) := (mw_at mj_360_91).trans (z_aload_n rfl)
theorem mj_360_92 : mc_P 360 92 = some (.getfield 427, 3, 14, 68, 0) := by decide +kernel
theorem s_360_92 {x0 x1 x2 x3 x4 x5 x6 : Option Value} {o : Nat} : mw d 360 Q 92 [x0, x1, x2, x3, x4, x5, x6] (.ref o :: st) h = (mg h o 14 ∧ mw d 360 Q 95 [x0, x1, x2, x3, x4, x5, x6] (.int (mh_i h o 68) :: st) h) := (mw_at mj_360_92).trans (z_geti (by decide) (by decide) (Or.inl rfl))
theorem mj_360_95 : mc_P 360 95 = some (.ifCond .le 7, 3, 0, 0, 0) := by decide +kernel
theorem s_360_95 {x0 x1 x2 x3 x4 x5 x6 : Option Value} {x : Int32} : mw d 360 Q 95 [x0, x1, x2, x3, x4, x5, x6] (.int x :: st) h = mB (x ≤ 0) (mw d 360 Q) 102 98 [x0, x1, x2, x3, x4, x5, x6] st h := (mw_at mj_360_95).trans (z_if_le (by decide) rfl)
theorem mj_360_98 : mc_P 360 98 = some (.lconst 0, 1, 0, 0, 0) := by decide +kernel
theorem s_360_98 {x0 x1 x2 x3 x4 x5 x6 : Option Value} : mw d 360 Q 98 [x0, x1, x2, x3, x4, x5, x6] (st) h = mw d 360 Q 99 [x0, x1, x2, x3, x4, x5, x6] (.long 0 :: st) h := (mw_at mj_360_98).trans (z_lconst (by decide))
theorem mj_360_99 : mc_P 360 99 = some (.goto 10, 3, 0, 0, 0) := by decide +kernel
theorem s_360_99 {x0 x1 x2 x3 x4 x5 x6 : Option Value} : mw d 360 Q 99 [x0, x1, x2, x3, x4, x5, x6] (st) h = mw d 360 Q 109 [x0, x1, x2, x3, x4, x5, x6] (st) h := (mw_at mj_360_99).trans (z_goto (by decide))
theorem mj_360_102 : mc_P 360 102 = some (.aload_n 0, 1, 0, 0, 0) := by decide +kernel
theorem s_360_102 {x1 x2 x3 x4 x5 x6 : Option Value} {w : Value} : mw d 360 Q 102 [some w, x1, x2, x3, x4, x5, x6] (st) h = mv_a w (mw d 360 Q 103 [some w, x1, x2, x3, x4, x5, x6] (w :: st) h) := (mw_at mj_360_102).trans (z_aload_n rfl)
theorem mj_360_103 : mc_P 360 103 = some (.getfield 144, 3, 14, 62, 0) := by decide +kernel
theorem s_360_103 {x0 x1 x2 x3 x4 x5 x6 : Option Value} {o : Nat} : mw d 360 Q 103 [x0, x1, x2, x3, x4, x5, x6] (.ref o :: st) h = (mg h o 14 ∧ mw d 360 Q 106 [x0, x1, x2, x3, x4, x5, x6] (va_rf (mh_r h o 62) :: st) h) := (mw_at mj_360_103).trans (z_getr (by decide) (by decide) rfl)
theorem mj_360_106 : mc_P 360 106 = some (.iload_n 2, 1, 0, 0, 0) := by decide +kernel
theorem s_360_106 {x0 x1 x3 x4 x5 x6 : Option Value} {w : Value} : mw d 360 Q 106 [x0, x1, some w, x3, x4, x5, x6] (st) h = mv_i w (mw d 360 Q 107 [x0, x1, some w, x3, x4, x5, x6] (w :: st) h) := (mw_at mj_360_106).trans (z_iload_n rfl)
theorem mj_360_107 : mc_P 360 107 = some (.iaload, 1, 0, 0, 0) := by decide +kernel
theorem s_360_107 {x0 x1 x2 x3 x4 x5 x6 : Option Value} {o : Nat} {i : Int32} : mw d 360 Q 107 [x0, x1, x2, x3, x4, x5, x6] (.int i :: .ref o :: st) h = (mg h o 100 ∧ mx i (mh_l h o) ∧ mw d 360 Q 108 [x0, x1, x2, x3, x4, x5, x6] (.int (mh_i h o i.toNatClampNeg) :: st) h) := (mw_at mj_360_107).trans (z_iald)
theorem mj_360_108 : mc_P 360 108 = some (.i2l, 1, 0, 0, 0) := by decide +kernel
theorem s_360_108 {x0 x1 x2 x3 x4 x5 x6 : Option Value} {x : Int32} : mw d 360 Q 108 [x0, x1, x2, x3, x4, x5, x6] (.int x :: st) h = mw d 360 Q 109 [x0, x1, x2, x3, x4, x5, x6] (.long x.toInt64 :: st) h := (mw_at mj_360_108).trans (z_i2l)
theorem mj_360_109 : mc_P 360 109 = some (.lreturn, 1, 0, 0, 0) := by decide +kernel
theorem s_360_109 {x0 x1 x2 x3 x4 x5 x6 : Option Value} {x : Int64} : mw d 360 Q 109 [x0, x1, x2, x3, x4, x5, x6] ([.long x]) h = Q (some (.long x)) h := (mw_at mj_360_109).trans (z_lret)
theorem mj_360_110 : mc_P 360 110 = some (.aload_n 0, 1, 0, 0, 0) := by decide +kernel
theorem s_360_110 {x1 x2 x3 x4 x5 x6 : Option Value} {w : Value} : mw d 360 Q 110 [some w, x1, x2, x3, x4, x5, x6] (st) h = mv_a w (mw d 360 Q 111 [some w, x1, x2, x3, x4, x5, x6] (w :: st) h) := (mw_at mj_360_110).trans (z_aload_n rfl)
theorem mj_360_111 : mc_P 360 111 = some (.aload_n 0, 1, 0, 0, 0) := by decide +kernel
theorem s_360_111 {x1 x2 x3 x4 x5 x6 : Option Value} {w : Value} : mw d 360 Q 111 [some w, x1, x2, x3, x4, x5, x6] (st) h = mv_a w (mw d 360 Q 112 [some w, x1, x2, x3, x4, x5, x6] (w :: st) h) := (mw_at mj_360_111).trans (z_aload_n rfl)
theorem mj_360_112 : mc_P 360 112 = some (.iload_n 1, 1, 0, 0, 0) := by decide +kernel
theorem s_360_112 {x0 x2 x3 x4 x5 x6 : Option Value} {w : Value} : mw d 360 Q 112 [x0, some w, x2, x3, x4, x5, x6] (st) h = mv_i w (mw d 360 Q 113 [x0, some w, x2, x3, x4, x5, x6] (w :: st) h) := (mw_at mj_360_112).trans (z_iload_n rfl)
theorem mj_360_113 : mc_P 360 113 = some (.iconst 1, 1, 0, 0, 0) := by decide +kernel
theorem s_360_113 {x0 x1 x2 x3 x4 x5 x6 : Option Value} : mw d 360 Q 113 [x0, x1, x2, x3, x4, x5, x6] (st) h = mw d 360 Q 114 [x0, x1, x2, x3, x4, x5, x6] (.int 1 :: st) h := (mw_at mj_360_113).trans (z_iconst (by decide))
theorem mj_360_114 : mc_P 360 114 = some (.iadd, 1, 0, 0, 0) := by decide +kernel
theorem s_360_114 {x0 x1 x2 x3 x4 x5 x6 : Option Value} {x w : Int32} : mw d 360 Q 114 [x0, x1, x2, x3, x4, x5, x6] (.int w :: .int x :: st) h = mw d 360 Q 115 [x0, x1, x2, x3, x4, x5, x6] (.int (x + w) :: st) h := (mw_at mj_360_114).trans (z_iadd)
theorem mj_360_115 : mc_P 360 115 = some (.invokevirtual 439, 3, 360, 14, 2) := by decide +kernel
theorem s_360_115 {x0 x1 x2 x3 x4 x5 x6 : Option Value} {o : Nat} {a1 : Value} : mw (d + 1) 360 Q 115 [x0, x1, x2, x3, x4, x5, x6] (a1 :: .ref o :: st) h = (mg h o 14 ∧ mca st 8 ∧ mca [.ref o, a1] 7 ∧ mcall d 360 [.ref o, a1] h (mK (d + 1) 360 Q 118 [x0, x1, x2, x3, x4, x5, x6] st)) := (mw_at mj_360_115).trans ((z_invv (As := [a1]) (by decide) rfl rfl).trans (congrArg (And _) (congrArg (And _) (mC_nl nl_360))))
theorem mj_360_118 : mc_P 360 118 = some (.lneg, 1, 0, 0, 0) := by decide +kernel
theorem s_360_118 {x0 x1 x2 x3 x4 x5 x6 : Option Value} {x : Int64} : mw d 360 Q 118 [x0, x1, x2, x3, x4, x5, x6] (.long x :: st) h = mw d 360 Q 119 [x0, x1, x2, x3, x4, x5, x6] (.long (-x) :: st) h := (mw_at mj_360_118).trans (z_lneg)
theorem mj_360_119 : mc_P 360 119 = some (.invokevirtual 447, 3, 357, 14, 2) := by decide +kernel
theorem s_360_119 {x0 x1 x2 x3 x4 x5 x6 : Option Value} {o : Nat} {a1 : Value} : mw (d + 1) 360 Q 119 [x0, x1, x2, x3, x4, x5, x6] (a1 :: .ref o :: st) h = (mg h o 14 ∧ mca st 8 ∧ mca [.ref o, a1] 3 ∧ mcall d 357 [.ref o, a1] h (mK (d + 1) 360 Q 122 [x0, x1, x2, x3, x4, x5, x6] st)) := (mw_at mj_360_119).trans ((z_invv (As := [a1]) (by decide) rfl rfl).trans (congrArg (And _) (congrArg (And _) (mC_nl nl_357))))
theorem mj_360_122 : mc_P 360 122 = some (.lreturn, 1, 0, 0, 0) := by decide +kernel
theorem s_360_122 {x0 x1 x2 x3 x4 x5 x6 : Option Value} {x : Int64} : mw d 360 Q 122 [x0, x1, x2, x3, x4, x5, x6] ([.long x]) h = Q (some (.long x)) h := (mw_at mj_360_122).trans (z_lret)
theorem mj_360_123 : mc_P 360 123 = some (.aload_n 0, 1, 0, 0, 0) := by decide +kernel
theorem s_360_123 {x1 x2 x3 x4 x5 x6 : Option Value} {w : Value} : mw d 360 Q 123 [some w, x1, x2, x3, x4, x5, x6] (st) h = mv_a w (mw d 360 Q 124 [some w, x1, x2, x3, x4, x5, x6] (w :: st) h) := (mw_at mj_360_123).trans (z_aload_n rfl)
theorem mj_360_124 : mc_P 360 124 = some (.invokevirtual 450, 3, 358, 14, 1) := by decide +kernel
theorem s_360_124 {x0 x1 x2 x3 x4 x5 x6 : Option Value} {o : Nat} : mw (d + 1) 360 Q 124 [x0, x1, x2, x3, x4, x5, x6] (.ref o :: st) h = (mg h o 14 ∧ mca st 8 ∧ mca [.ref o] 1 ∧ mcall d 358 [.ref o] h (mK (d + 1) 360 Q 127 [x0, x1, x2, x3, x4, x5, x6] st)) := (mw_at mj_360_124).trans ((z_invv (As := []) (by decide) rfl rfl).trans (congrArg (And _) (congrArg (And _) (mC_nl nl_358))))
theorem mj_360_127 : mc_P 360 127 = some (.istore_n 3, 1, 0, 0, 0) := by decide +kernel
theorem s_360_127 {x0 x1 x2 x3 x4 x5 x6 : Option Value} {w : Int32} : mw d 360 Q 127 [x0, x1, x2, x3, x4, x5, x6] (.int w :: st) h = mw d 360 Q 128 [x0, x1, mk2 x2, some (.int w), x4, x5, x6] (st) h := (mw_at mj_360_127).trans (z_istore_n (Nat.le_of_ble_eq_true rfl) (me_s1_mk (j := 2) (w := x2) rfl))
theorem mj_360_128 : mc_P 360 128 = some (.aload_n 0, 1, 0, 0, 0) := by decide +kernel
theorem s_360_128 {x1 x2 x3 x4 x5 x6 : Option Value} {w : Value} : mw d 360 Q 128 [some w, x1, x2, x3, x4, x5, x6] (st) h = mv_a w (mw d 360 Q 129 [some w, x1, x2, x3, x4, x5, x6] (w :: st) h) := (mw_at mj_360_128).trans (z_aload_n rfl)
theorem mj_360_129 : mc_P 360 129 = some (.getfield 61, 3, 14, 23, 0) := by decide +kernel
theorem s_360_129 {x0 x1 x2 x3 x4 x5 x6 : Option Value} {o : Nat} : mw d 360 Q 129 [x0, x1, x2, x3, x4, x5, x6] (.ref o :: st) h = (mg h o 14 ∧ mw d 360 Q 132 [x0, x1, x2, x3, x4, x5, x6] (va_rf (mh_r h o 23) :: st) h) := (mw_at mj_360_129).trans (z_getr (by decide) (by decide) rfl)
theorem mj_360_132 : mc_P 360 132 = some (.iload_n 1, 1, 0, 0, 0) := by decide +kernel
theorem s_360_132 {x0 x2 x3 x4 x5 x6 : Option Value} {w : Value} : mw d 360 Q 132 [x0, some w, x2, x3, x4, x5, x6] (st) h = mv_i w (mw d 360 Q 133 [x0, some w, x2, x3, x4, x5, x6] (w :: st) h) := (mw_at mj_360_132).trans (z_iload_n rfl)
theorem mj_360_133 : mc_P 360 133 = some (.iaload, 1, 0, 0, 0) := by decide +kernel
theorem s_360_133 {x0 x1 x2 x3 x4 x5 x6 : Option Value} {o : Nat} {i : Int32} : mw d 360 Q 133 [x0, x1, x2, x3, x4, x5, x6] (.int i :: .ref o :: st) h = (mg h o 100 ∧ mx i (mh_l h o) ∧ mw d 360 Q 134 [x0, x1, x2, x3, x4, x5, x6] (.int (mh_i h o i.toNatClampNeg) :: st) h) := (mw_at mj_360_133).trans (z_iald)
theorem mj_360_134 : mc_P 360 134 = some (.iconst 1, 1, 0, 0, 0) := by decide +kernel
theorem s_360_134 {x0 x1 x2 x3 x4 x5 x6 : Option Value} : mw d 360 Q 134 [x0, x1, x2, x3, x4, x5, x6] (st) h = mw d 360 Q 135 [x0, x1, x2, x3, x4, x5, x6] (.int 1 :: st) h := (mw_at mj_360_134).trans (z_iconst (by decide))
theorem mj_360_135 : mc_P 360 135 = some (.if_icmp .eq 27, 3, 0, 0, 0) := by decide +kernel
theorem s_360_135 {x0 x1 x2 x3 x4 x5 x6 : Option Value} {x w : Int32} : mw d 360 Q 135 [x0, x1, x2, x3, x4, x5, x6] (.int w :: .int x :: st) h = mB (x = w) (mw d 360 Q) 162 138 [x0, x1, x2, x3, x4, x5, x6] st h := (mw_at mj_360_135).trans (z_icmp_eq (by decide) rfl)
theorem mj_360_138 : mc_P 360 138 = some (.iload_n 3, 1, 0, 0, 0) := by decide +kernel
theorem s_360_138 {x0 x1 x2 x4 x5 x6 : Option Value} {w : Value} : mw d 360 Q 138 [x0, x1, x2, some w, x4, x5, x6] (st) h = mv_i w (mw d 360 Q 139 [x0, x1, x2, some w, x4, x5, x6] (w :: st) h) := (mw_at mj_360_138).trans (z_iload_n rfl)
theorem mj_360_139 : mc_P 360 139 = some (.aload_n 0, 1, 0, 0, 0) := by decide +kernel
theorem s_360_139 {x1 x2 x3 x4 x5 x6 : Option Value} {w : Value} : mw d 360 Q 139 [some w, x1, x2, x3, x4, x5, x6] (st) h = mv_a w (mw d 360 Q 140 [some w, x1, x2, x3, x4, x5, x6] (w :: st) h) := (mw_at mj_360_139).trans (z_aload_n rfl)
theorem mj_360_140 : mc_P 360 140 = some (.getfield 55, 3, 14, 21, 0) := by decide +kernel
theorem s_360_140 {x0 x1 x2 x3 x4 x5 x6 : Option Value} {o : Nat} : mw d 360 Q 140 [x0, x1, x2, x3, x4, x5, x6] (.ref o :: st) h = (mg h o 14 ∧ mw d 360 Q 143 [x0, x1, x2, x3, x4, x5, x6] (va_rf (mh_r h o 21) :: st) h) := (mw_at mj_360_140).trans (z_getr (by decide) (by decide) rfl)
theorem mj_360_143 : mc_P 360 143 = some (.iload_n 1, 1, 0, 0, 0) := by decide +kernel
theorem s_360_143 {x0 x2 x3 x4 x5 x6 : Option Value} {w : Value} : mw d 360 Q 143 [x0, some w, x2, x3, x4, x5, x6] (st) h = mv_i w (mw d 360 Q 144 [x0, some w, x2, x3, x4, x5, x6] (w :: st) h) := (mw_at mj_360_143).trans (z_iload_n rfl)
theorem mj_360_144 : mc_P 360 144 = some (.iconst 1, 1, 0, 0, 0) := by decide +kernel
theorem s_360_144 {x0 x1 x2 x3 x4 x5 x6 : Option Value} : mw d 360 Q 144 [x0, x1, x2, x3, x4, x5, x6] (st) h = mw d 360 Q 145 [x0, x1, x2, x3, x4, x5, x6] (.int 1 :: st) h := (mw_at mj_360_144).trans (z_iconst (by decide))
theorem mj_360_145 : mc_P 360 145 = some (.iadd, 1, 0, 0, 0) := by decide +kernel
theorem s_360_145 {x0 x1 x2 x3 x4 x5 x6 : Option Value} {x w : Int32} : mw d 360 Q 145 [x0, x1, x2, x3, x4, x5, x6] (.int w :: .int x :: st) h = mw d 360 Q 146 [x0, x1, x2, x3, x4, x5, x6] (.int (x + w) :: st) h := (mw_at mj_360_145).trans (z_iadd)
theorem mj_360_146 : mc_P 360 146 = some (.iaload, 1, 0, 0, 0) := by decide +kernel
theorem s_360_146 {x0 x1 x2 x3 x4 x5 x6 : Option Value} {o : Nat} {i : Int32} : mw d 360 Q 146 [x0, x1, x2, x3, x4, x5, x6] (.int i :: .ref o :: st) h = (mg h o 100 ∧ mx i (mh_l h o) ∧ mw d 360 Q 147 [x0, x1, x2, x3, x4, x5, x6] (.int (mh_i h o i.toNatClampNeg) :: st) h) := (mw_at mj_360_146).trans (z_iald)
theorem mj_360_147 : mc_P 360 147 = some (.if_icmp .lt 20, 3, 0, 0, 0) := by decide +kernel
theorem s_360_147 {x0 x1 x2 x3 x4 x5 x6 : Option Value} {x w : Int32} : mw d 360 Q 147 [x0, x1, x2, x3, x4, x5, x6] (.int w :: .int x :: st) h = mB (x < w) (mw d 360 Q) 167 150 [x0, x1, x2, x3, x4, x5, x6] st h := (mw_at mj_360_147).trans (z_icmp_lt (by decide) rfl)
theorem mj_360_150 : mc_P 360 150 = some (.iload_n 3, 1, 0, 0, 0) := by decide +kernel
theorem s_360_150 {x0 x1 x2 x4 x5 x6 : Option Value} {w : Value} : mw d 360 Q 150 [x0, x1, x2, some w, x4, x5, x6] (st) h = mv_i w (mw d 360 Q 151 [x0, x1, x2, some w, x4, x5, x6] (w :: st) h) := (mw_at mj_360_150).trans (z_iload_n rfl)
theorem mj_360_151 : mc_P 360 151 = some (.aload_n 0, 1, 0, 0, 0) := by decide +kernel
theorem s_360_151 {x1 x2 x3 x4 x5 x6 : Option Value} {w : Value} : mw d 360 Q 151 [some w, x1, x2, x3, x4, x5, x6] (st) h = mv_a w (mw d 360 Q 152 [some w, x1, x2, x3, x4, x5, x6] (w :: st) h) := (mw_at mj_360_151).trans (z_aload_n rfl)
theorem mj_360_152 : mc_P 360 152 = some (.getfield 55, 3, 14, 21, 0) := by decide +kernel
theorem s_360_152 {x0 x1 x2 x3 x4 x5 x6 : Option Value} {o : Nat} : mw d 360 Q 152 [x0, x1, x2, x3, x4, x5, x6] (.ref o :: st) h = (mg h o 14 ∧ mw d 360 Q 155 [x0, x1, x2, x3, x4, x5, x6] (va_rf (mh_r h o 21) :: st) h) := (mw_at mj_360_152).trans (z_getr (by decide) (by decide) rfl)
theorem mj_360_155 : mc_P 360 155 = some (.iload_n 1, 1, 0, 0, 0) := by decide +kernel
theorem s_360_155 {x0 x2 x3 x4 x5 x6 : Option Value} {w : Value} : mw d 360 Q 155 [x0, some w, x2, x3, x4, x5, x6] (st) h = mv_i w (mw d 360 Q 156 [x0, some w, x2, x3, x4, x5, x6] (w :: st) h) := (mw_at mj_360_155).trans (z_iload_n rfl)
theorem mj_360_156 : mc_P 360 156 = some (.iconst 2, 1, 0, 0, 0) := by decide +kernel
theorem s_360_156 {x0 x1 x2 x3 x4 x5 x6 : Option Value} : mw d 360 Q 156 [x0, x1, x2, x3, x4, x5, x6] (st) h = mw d 360 Q 157 [x0, x1, x2, x3, x4, x5, x6] (.int 2 :: st) h := (mw_at mj_360_156).trans (z_iconst (by decide))
theorem mj_360_157 : mc_P 360 157 = some (.iadd, 1, 0, 0, 0) := by decide +kernel
theorem s_360_157 {x0 x1 x2 x3 x4 x5 x6 : Option Value} {x w : Int32} : mw d 360 Q 157 [x0, x1, x2, x3, x4, x5, x6] (.int w :: .int x :: st) h = mw d 360 Q 158 [x0, x1, x2, x3, x4, x5, x6] (.int (x + w) :: st) h := (mw_at mj_360_157).trans (z_iadd)
theorem mj_360_158 : mc_P 360 158 = some (.iaload, 1, 0, 0, 0) := by decide +kernel
theorem s_360_158 {x0 x1 x2 x3 x4 x5 x6 : Option Value} {o : Nat} {i : Int32} : mw d 360 Q 158 [x0, x1, x2, x3, x4, x5, x6] (.int i :: .ref o :: st) h = (mg h o 100 ∧ mx i (mh_l h o) ∧ mw d 360 Q 159 [x0, x1, x2, x3, x4, x5, x6] (.int (mh_i h o i.toNatClampNeg) :: st) h) := (mw_at mj_360_158).trans (z_iald)
theorem mj_360_159 : mc_P 360 159 = some (.if_icmp .gt 8, 3, 0, 0, 0) := by decide +kernel
theorem s_360_159 {x0 x1 x2 x3 x4 x5 x6 : Option Value} {x w : Int32} : mw d 360 Q 159 [x0, x1, x2, x3, x4, x5, x6] (.int w :: .int x :: st) h = mB (w < x) (mw d 360 Q) 167 162 [x0, x1, x2, x3, x4, x5, x6] st h := (mw_at mj_360_159).trans (z_icmp_gt (by decide) rfl)
theorem mj_360_162 : mc_P 360 162 = some (.iload_n 3, 1, 0, 0, 0) := by decide +kernel
theorem s_360_162 {x0 x1 x2 x4 x5 x6 : Option Value} {w : Value} : mw d 360 Q 162 [x0, x1, x2, some w, x4, x5, x6] (st) h = mv_i w (mw d 360 Q 163 [x0, x1, x2, some w, x4, x5, x6] (w :: st) h) := (mw_at mj_360_162).trans (z_iload_n rfl)
theorem mj_360_163 : mc_P 360 163 = some (.i2l, 1, 0, 0, 0) := by decide +kernel
theorem s_360_163 {x0 x1 x2 x3 x4 x5 x6 : Option Value} {x : Int32} : mw d 360 Q 163 [x0, x1, x2, x3, x4, x5, x6] (.int x :: st) h = mw d 360 Q 164 [x0, x1, x2, x3, x4, x5, x6] (.long x.toInt64 :: st) h := (mw_at mj_360_163).trans (z_i2l)
theorem mj_360_164 : mc_P 360 164 = some (.goto 12, 3, 0, 0, 0) := by decide +kernel
theorem s_360_164 {x0 x1 x2 x3 x4 x5 x6 : Option Value} : mw d 360 Q 164 [x0, x1, x2, x3, x4, x5, x6] (st) h = mw d 360 Q 176 [x0, x1, x2, x3, x4, x5, x6] (st) h := (mw_at mj_360_164).trans (z_goto (by decide))
theorem mj_360_167 : mc_P 360 167 = some (.aload_n 0, 1, 0, 0, 0) := by decide +kernel
theorem s_360_167 {x1 x2 x3 x4 x5 x6 : Option Value} {w : Value} : mw d 360 Q 167 [some w, x1, x2, x3, x4, x5, x6] (st) h = mv_a w (mw d 360 Q 168 [some w, x1, x2, x3, x4, x5, x6] (w :: st) h) := (mw_at mj_360_167).trans (z_aload_n rfl)
theorem mj_360_168 : mc_P 360 168 = some (.getfield 55, 3, 14, 21, 0) := by decide +kernel
theorem s_360_168 {x0 x1 x2 x3 x4 x5 x6 : Option Value} {o : Nat} : mw d 360 Q 168 [x0, x1, x2, x3, x4, x5, x6] (.ref o :: st) h = (mg h o 14 ∧ mw d 360 Q 171 [x0, x1, x2, x3, x4, x5, x6] (va_rf (mh_r h o 21) :: st) h) := (mw_at mj_360_168).trans (z_getr (by decide) (by decide) rfl)
theorem mj_360_171 : mc_P 360 171 = some (.iload_n 1, 1, 0, 0, 0) := by decide +kernel
theorem s_360_171 {x0 x2 x3 x4 x5 x6 : Option Value} {w : Value} : mw d 360 Q 171 [x0, some w, x2, x3, x4, x5, x6] (st) h = mv_i w (mw d 360 Q 172 [x0, some w, x2, x3, x4, x5, x6] (w :: st) h) := (mw_at mj_360_171).trans (z_iload_n rfl)
theorem mj_360_172 : mc_P 360 172 = some (.iconst 1, 1, 0, 0, 0) := by decide +kernel
theorem s_360_172 {x0 x1 x2 x3 x4 x5 x6 : Option Value} : mw d 360 Q 172 [x0, x1, x2, x3, x4, x5, x6] (st) h = mw d 360 Q 173 [x0, x1, x2, x3, x4, x5, x6] (.int 1 :: st) h := (mw_at mj_360_172).trans (z_iconst (by decide))
theorem mj_360_173 : mc_P 360 173 = some (.iadd, 1, 0, 0, 0) := by decide +kernel
theorem s_360_173 {x0 x1 x2 x3 x4 x5 x6 : Option Value} {x w : Int32} : mw d 360 Q 173 [x0, x1, x2, x3, x4, x5, x6] (.int w :: .int x :: st) h = mw d 360 Q 174 [x0, x1, x2, x3, x4, x5, x6] (.int (x + w) :: st) h := (mw_at mj_360_173).trans (z_iadd)
theorem mj_360_174 : mc_P 360 174 = some (.iaload, 1, 0, 0, 0) := by decide +kernel
theorem s_360_174 {x0 x1 x2 x3 x4 x5 x6 : Option Value} {o : Nat} {i : Int32} : mw d 360 Q 174 [x0, x1, x2, x3, x4, x5, x6] (.int i :: .ref o :: st) h = (mg h o 100 ∧ mx i (mh_l h o) ∧ mw d 360 Q 175 [x0, x1, x2, x3, x4, x5, x6] (.int (mh_i h o i.toNatClampNeg) :: st) h) := (mw_at mj_360_174).trans (z_iald)
theorem mj_360_175 : mc_P 360 175 = some (.i2l, 1, 0, 0, 0) := by decide +kernel
theorem s_360_175 {x0 x1 x2 x3 x4 x5 x6 : Option Value} {x : Int32} : mw d 360 Q 175 [x0, x1, x2, x3, x4, x5, x6] (.int x :: st) h = mw d 360 Q 176 [x0, x1, x2, x3, x4, x5, x6] (.long x.toInt64 :: st) h := (mw_at mj_360_175).trans (z_i2l)
theorem mj_360_176 : mc_P 360 176 = some (.lreturn, 1, 0, 0, 0) := by decide +kernel
theorem s_360_176 {x0 x1 x2 x3 x4 x5 x6 : Option Value} {x : Int64} : mw d 360 Q 176 [x0, x1, x2, x3, x4, x5, x6] ([.long x]) h = Q (some (.long x)) h := (mw_at mj_360_176).trans (z_lret)
theorem mj_360_177 : mc_P 360 177 = some (.aload_n 0, 1, 0, 0, 0) := by decide +kernel
theorem s_360_177 {x1 x2 x3 x4 x5 x6 : Option Value} {w : Value} : mw d 360 Q 177 [some w, x1, x2, x3, x4, x5, x6] (st) h = mv_a w (mw d 360 Q 178 [some w, x1, x2, x3, x4, x5, x6] (w :: st) h) := (mw_at mj_360_177).trans (z_aload_n rfl)
theorem mj_360_178 : mc_P 360 178 = some (.iload_n 1, 1, 0, 0, 0) := by decide +kernel
theorem s_360_178 {x0 x2 x3 x4 x5 x6 : Option Value} {w : Value} : mw d 360 Q 178 [x0, some w, x2, x3, x4, x5, x6] (st) h = mv_i w (mw d 360 Q 179 [x0, some w, x2, x3, x4, x5, x6] (w :: st) h) := (mw_at mj_360_178).trans (z_iload_n rfl)
theorem mj_360_179 : mc_P 360 179 = some (.iconst 1, 1, 0, 0, 0) := by decide +kernel
theorem s_360_179 {x0 x1 x2 x3 x4 x5 x6 : Option Value} : mw d 360 Q 179 [x0, x1, x2, x3, x4, x5, x6] (st) h = mw d 360 Q 180 [x0, x1, x2, x3, x4, x5, x6] (.int 1 :: st) h := (mw_at mj_360_179).trans (z_iconst (by decide))
theorem mj_360_180 : mc_P 360 180 = some (.iadd, 1, 0, 0, 0) := by decide +kernel
theorem s_360_180 {x0 x1 x2 x3 x4 x5 x6 : Option Value} {x w : Int32} : mw d 360 Q 180 [x0, x1, x2, x3, x4, x5, x6] (.int w :: .int x :: st) h = mw d 360 Q 181 [x0, x1, x2, x3, x4, x5, x6] (.int (x + w) :: st) h := (mw_at mj_360_180).trans (z_iadd)
theorem mj_360_181 : mc_P 360 181 = some (.invokevirtual 439, 3, 360, 14, 2) := by decide +kernel
theorem s_360_181 {x0 x1 x2 x3 x4 x5 x6 : Option Value} {o : Nat} {a1 : Value} : mw (d + 1) 360 Q 181 [x0, x1, x2, x3, x4, x5, x6] (a1 :: .ref o :: st) h = (mg h o 14 ∧ mca st 8 ∧ mca [.ref o, a1] 7 ∧ mcall d 360 [.ref o, a1] h (mK (d + 1) 360 Q 184 [x0, x1, x2, x3, x4, x5, x6] st)) := (mw_at mj_360_181).trans ((z_invv (As := [a1]) (by decide) rfl rfl).trans (congrArg (And _) (congrArg (And _) (mC_nl nl_360))))
theorem mj_360_184 : mc_P 360 184 = some (.lstore_n 2, 1, 0, 0, 0) := by decide +kernel
theorem s_360_184 {x0 x1 x2 x3 x4 x5 x6 : Option Value} {w : Int64} : mw d 360 Q 184 [x0, x1, x2, x3, x4, x5, x6] (.long w :: st) h = mw d 360 Q 185 [x0, mk2 x1, some (.long w), none, x4, x5, x6] (st) h := (mw_at mj_360_184).trans (z_lstore_n (Nat.le_of_ble_eq_true rfl) (me_s2_mk (j := 1) (w := x1) rfl))
theorem mj_360_185 : mc_P 360 185 = some (.aload_n 0, 1, 0, 0, 0) := by decide +kernel
theorem s_360_185 {x1 x2 x3 x4 x5 x6 : Option Value} {w : Value} : mw d 360 Q 185 [some w, x1, x2, x3, x4, x5, x6] (st) h = mv_a w (mw d 360 Q 186 [some w, x1, x2, x3, x4, x5, x6] (w :: st) h) := (mw_at mj_360_185).trans (z_aload_n rfl)
theorem mj_360_186 : mc_P 360 186 = some (.iload_n 1, 1, 0, 0, 0) := by decide +kernel
theorem s_360_186 {x0 x2 x3 x4 x5 x6 : Option Value} {w : Value} : mw d 360 Q 186 [x0, some w, x2, x3, x4, x5, x6] (st) h = mv_i w (mw d 360 Q 187 [x0, some w, x2, x3, x4, x5, x6] (w :: st) h) := (mw_at mj_360_186).trans (z_iload_n rfl)
theorem mj_360_187 : mc_P 360 187 = some (.invokevirtual 391, 3, 334, 14, 2) := by decide +kernel
theorem s_360_187 {x0 x1 x2 x3 x4 x5 x6 : Option Value} {o : Nat} {a1 : Value} : mw (d + 1) 360 Q 187 [x0, x1, x2, x3, x4, x5, x6] (a1 :: .ref o :: st) h = (mg h o 14 ∧ mca st 8 ∧ mca [.ref o, a1] 2 ∧ mcall d 334 [.ref o, a1] h (mK (d + 1) 360 Q 190 [x0, x1, x2, x3, x4, x5, x6] st)) := (mw_at mj_360_187).trans ((z_invv (As := [a1]) (by decide) rfl rfl).trans (congrArg (And _) (congrArg (And _) (mC_nl nl_334))))
theorem mj_360_190 : mc_P 360 190 = some (.istore 4, 2, 0, 0, 0) := by decide +kernel
theorem s_360_190 {x0 x1 x2 x3 x4 x5 x6 : Option Value} {w : Int32} : mw d 360 Q 190 [x0, x1, x2, x3, x4, x5, x6] (.int w :: st) h = mw d 360 Q 192 [x0, x1, x2, mk2 x3, some (.int w), x5, x6] (st) h := (mw_at mj_360_190).trans (z_istore (Nat.le_of_ble_eq_true rfl) (me_s1_mk (j := 3) (w := x3) rfl))
theorem mj_360_192 : mc_P 360 192 = some (.iload 4, 2, 0, 0, 0) := by decide +kernel
theorem s_360_192 {x0 x1 x2 x3 x5 x6 : Option Value} {w : Value} : mw d 360 Q 192 [x0, x1, x2, x3, some w, x5, x6] (st) h = mv_i w (mw d 360 Q 194 [x0, x1, x2, x3, some w, x5, x6] (w :: st) h) := (mw_at mj_360_192).trans (z_iload rfl)
theorem mj_360_194 : mc_P 360 194 = some (.aload_n 0, 1, 0, 0, 0) := by decide +kernel
theorem s_360_194 {x1 x2 x3 x4 x5 x6 : Option Value} {w : Value} : mw d 360 Q 194 [some w, x1, x2, x3, x4, x5, x6] (st) h = mv_a w (mw d 360 Q 195 [some w, x1, x2, x3, x4, x5, x6] (w :: st) h) := (mw_at mj_360_194).trans (z_aload_n rfl)
theorem mj_360_195 : mc_P 360 195 = some (.iload_n 1, 1, 0, 0, 0) := by decide +kernel
theorem s_360_195 {x0 x2 x3 x4 x5 x6 : Option Value} {w : Value} : mw d 360 Q 195 [x0, some w, x2, x3, x4, x5, x6] (st) h = mv_i w (mw d 360 Q 196 [x0, some w, x2, x3, x4, x5, x6] (w :: st) h) := (mw_at mj_360_195).trans (z_iload_n rfl)
theorem mj_360_196 : mc_P 360 196 = some (.invokevirtual 348, 3, 333, 14, 2) := by decide +kernel
theorem s_360_196 {x0 x1 x2 x3 x4 x5 x6 : Option Value} {o : Nat} {a1 : Value} : mw (d + 1) 360 Q 196 [x0, x1, x2, x3, x4, x5, x6] (a1 :: .ref o :: st) h = (mg h o 14 ∧ mca st 8 ∧ mca [.ref o, a1] 2 ∧ mcall d 333 [.ref o, a1] h (mK (d + 1) 360 Q 199 [x0, x1, x2, x3, x4, x5, x6] st)) := (mw_at mj_360_196).trans ((z_invv (As := [a1]) (by decide) rfl rfl).trans (congrArg (And _) (congrArg (And _) (mC_nl nl_333))))
theorem mj_360_199 : mc_P 360 199 = some (.if_icmp .ge 53, 3, 0, 0, 0) := by decide +kernel
theorem s_360_199 {x0 x1 x2 x3 x4 x5 x6 : Option Value} {x w : Int32} : mw d 360 Q 199 [x0, x1, x2, x3, x4, x5, x6] (.int w :: .int x :: st) h = mB (w ≤ x) (mw d 360 Q) 252 202 [x0, x1, x2, x3, x4, x5, x6] st h := (mw_at mj_360_199).trans (z_icmp_ge (by decide) rfl)
theorem mj_360_202 : mc_P 360 202 = some (.aload_n 0, 1, 0, 0, 0) := by decide +kernel
theorem s_360_202 {x1 x2 x3 x4 x5 x6 : Option Value} {w : Value} : mw d 360 Q 202 [some w, x1, x2, x3, x4, x5, x6] (st) h = mv_a w (mw d 360 Q 203 [some w, x1, x2, x3, x4, x5, x6] (w :: st) h) := (mw_at mj_360_202).trans (z_aload_n rfl)
theorem mj_360_203 : mc_P 360 203 = some (.getfield 427, 3, 14, 68, 0) := by decide +kernel
theorem s_360_203 {x0 x1 x2 x3 x4 x5 x6 : Option Value} {o : Nat} : mw d 360 Q 203 [x0, x1, x2, x3, x4, x5, x6] (.ref o :: st) h = (mg h o 14 ∧ mw d 360 Q 206 [x0, x1, x2, x3, x4, x5, x6] (.int (mh_i h o 68) :: st) h) := (mw_at mj_360_203).trans (z_geti (by decide) (by decide) (Or.inl rfl))
theorem mj_360_206 : mc_P 360 206 = some (.ifCond .ne 46, 3, 0, 0, 0) := by decide +kernel
theorem s_360_206 {x0 x1 x2 x3 x4 x5 x6 : Option Value} {x : Int32} : mw d 360 Q 206 [x0, x1, x2, x3, x4, x5, x6] (.int x :: st) h = mB (¬ x = 0) (mw d 360 Q) 252 209 [x0, x1, x2, x3, x4, x5, x6] st h := (mw_at mj_360_206).trans (z_if_ne (by decide) rfl)
theorem mj_360_209 : mc_P 360 209 = some (.aload_n 0, 1, 0, 0, 0) := by decide +kernel
theorem s_360_209 {x1 x2 x3 x4 x5 x6 : Option Value} {w : Value} : mw d 360 Q 209 [some w, x1, x2, x3, x4, x5, x6] (st) h = mv_a w (mw d 360 Q 210 [some w, x1, x2, x3, x4, x5, x6] (w :: st) h) := (mw_at mj_360_209).trans (z_aload_n rfl)
theorem mj_360_210 : mc_P 360 210 = some (.iload 4, 2, 0, 0, 0) := by decide +kernel
theorem s_360_210 {x0 x1 x2 x3 x5 x6 : Option Value} {w : Value} : mw d 360 Q 210 [x0, x1, x2, x3, some w, x5, x6] (st) h = mv_i w (mw d 360 Q 212 [x0, x1, x2, x3, some w, x5, x6] (w :: st) h) := (mw_at mj_360_210).trans (z_iload rfl)
theorem mj_360_212 : mc_P 360 212 = some (.iconst 1, 1, 0, 0, 0) := by decide +kernel
theorem s_360_212 {x0 x1 x2 x3 x4 x5 x6 : Option Value} : mw d 360 Q 212 [x0, x1, x2, x3, x4, x5, x6] (st) h = mw d 360 Q 213 [x0, x1, x2, x3, x4, x5, x6] (.int 1 :: st) h := (mw_at mj_360_212).trans (z_iconst (by decide))
theorem mj_360_213 : mc_P 360 213 = some (.iadd, 1, 0, 0, 0) := by decide +kernel
theorem s_360_213 {x0 x1 x2 x3 x4 x5 x6 : Option Value} {x w : Int32} : mw d 360 Q 213 [x0, x1, x2, x3, x4, x5, x6] (.int w :: .int x :: st) h = mw d 360 Q 214 [x0, x1, x2, x3, x4, x5, x6] (.int (x + w) :: st) h := (mw_at mj_360_213).trans (z_iadd)
theorem mj_360_214 : mc_P 360 214 = some (.invokevirtual 439, 3, 360, 14, 2) := by decide +kernel
theorem s_360_214 {x0 x1 x2 x3 x4 x5 x6 : Option Value} {o : Nat} {a1 : Value} : mw (d + 1) 360 Q 214 [x0, x1, x2, x3, x4, x5, x6] (a1 :: .ref o :: st) h = (mg h o 14 ∧ mca st 8 ∧ mca [.ref o, a1] 7 ∧ mcall d 360 [.ref o, a1] h (mK (d + 1) 360 Q 217 [x0, x1, x2, x3, x4, x5, x6] st)) := (mw_at mj_360_214).trans ((z_invv (As := [a1]) (by decide) rfl rfl).trans (congrArg (And _) (congrArg (And _) (mC_nl nl_360))))
theorem mj_360_217 : mc_P 360 217 = some (.lstore 5, 2, 0, 0, 0) := by decide +kernel
theorem s_360_217 {x0 x1 x2 x3 x4 x5 x6 : Option Value} {w : Int64} : mw d 360 Q 217 [x0, x1, x2, x3, x4, x5, x6] (.long w :: st) h = mw d 360 Q 219 [x0, x1, x2, x3, mk2 x4, some (.long w), none] (st) h := (mw_at mj_360_217).trans (z_lstore (Nat.le_of_ble_eq_true rfl) (me_s2_mk (j := 4) (w := x4) rfl))
theorem mj_360_219 : mc_P 360 219 = some (.aload_n 0, 1, 0, 0, 0) := by decide +kernel
theorem s_360_219 {x1 x2 x3 x4 x5 x6 : Option Value} {w : Value} : mw d 360 Q 219 [some w, x1, x2, x3, x4, x5, x6] (st) h = mv_a w (mw d 360 Q 220 [some w, x1, x2, x3, x4, x5, x6] (w :: st) h) := (mw_at mj_360_219).trans (z_aload_n rfl)
theorem mj_360_220 : mc_P 360 220 = some (.getfield 427, 3, 14, 68, 0) := by decide +kernel
theorem s_360_220 {x0 x1 x2 x3 x4 x5 x6 : Option Value} {o : Nat} : mw d 360 Q 220 [x0, x1, x2, x3, x4, x5, x6] (.ref o :: st) h = (mg h o 14 ∧ mw d 360 Q 223 [x0, x1, x2, x3, x4, x5, x6] (.int (mh_i h o 68) :: st) h) := (mw_at mj_360_220).trans (z_geti (by decide) (by decide) (Or.inl rfl))
theorem mj_360_223 : mc_P 360 223 = some (.ifCond .ne 18, 3, 0, 0, 0) := by decide +kernel
theorem s_360_223 {x0 x1 x2 x3 x4 x5 x6 : Option Value} {x : Int32} : mw d 360 Q 223 [x0, x1, x2, x3, x4, x5, x6] (.int x :: st) h = mB (¬ x = 0) (mw d 360 Q) 241 226 [x0, x1, x2, x3, x4, x5, x6] st h := (mw_at mj_360_223).trans (z_if_ne (by decide) rfl)
theorem mj_360_226 : mc_P 360 226 = some (.aload_n 0, 1, 0, 0, 0) := by decide +kernel
theorem s_360_226 {x1 x2 x3 x4 x5 x6 : Option Value} {w : Value} : mw d 360 Q 226 [some w, x1, x2, x3, x4, x5, x6] (st) h = mv_a w (mw d 360 Q 227 [some w, x1, x2, x3, x4, x5, x6] (w :: st) h) := (mw_at mj_360_226).trans (z_aload_n rfl)
theorem mj_360_227 : mc_P 360 227 = some (.aload_n 0, 1, 0, 0, 0) := by decide +kernel
theorem s_360_227 {x1 x2 x3 x4 x5 x6 : Option Value} {w : Value} : mw d 360 Q 227 [some w, x1, x2, x3, x4, x5, x6] (st) h = mv_a w (mw d 360 Q 228 [some w, x1, x2, x3, x4, x5, x6] (w :: st) h) := (mw_at mj_360_227).trans (z_aload_n rfl)
theorem mj_360_228 : mc_P 360 228 = some (.getfield 48, 3, 14, 19, 0) := by decide +kernel
theorem s_360_228 {x0 x1 x2 x3 x4 x5 x6 : Option Value} {o : Nat} : mw d 360 Q 228 [x0, x1, x2, x3, x4, x5, x6] (.ref o :: st) h = (mg h o 14 ∧ mw d 360 Q 231 [x0, x1, x2, x3, x4, x5, x6] (va_rf (mh_r h o 19) :: st) h) := (mw_at mj_360_228).trans (z_getr (by decide) (by decide) rfl)
theorem mj_360_231 : mc_P 360 231 = some (.iload 4, 2, 0, 0, 0) := by decide +kernel
theorem s_360_231 {x0 x1 x2 x3 x5 x6 : Option Value} {w : Value} : mw d 360 Q 231 [x0, x1, x2, x3, some w, x5, x6] (st) h = mv_i w (mw d 360 Q 233 [x0, x1, x2, x3, some w, x5, x6] (w :: st) h) := (mw_at mj_360_231).trans (z_iload rfl)
theorem mj_360_233 : mc_P 360 233 = some (.baload, 1, 0, 0, 0) := by decide +kernel
theorem s_360_233 {x0 x1 x2 x3 x4 x5 x6 : Option Value} {o : Nat} {i : Int32} : mw d 360 Q 233 [x0, x1, x2, x3, x4, x5, x6] (.int i :: .ref o :: st) h = (mgb h o ∧ mx i (mh_l h o) ∧ mw d 360 Q 234 [x0, x1, x2, x3, x4, x5, x6] (.int (mh_i h o i.toNatClampNeg) :: st) h) := (mw_at mj_360_233).trans (z_bald)
theorem mj_360_234 : mc_P 360 234 = some (.lload_n 2, 1, 0, 0, 0) := by decide +kernel
theorem s_360_234 {x0 x1 x3 x4 x5 x6 : Option Value} {w : Value} : mw d 360 Q 234 [x0, x1, some w, x3, x4, x5, x6] (st) h = mv_l w (mw d 360 Q 235 [x0, x1, some w, x3, x4, x5, x6] (w :: st) h) := (mw_at mj_360_234).trans (z_lload_n rfl)
theorem mj_360_235 : mc_P 360 235 = some (.lload 5, 2, 0, 0, 0) := by decide +kernel
theorem s_360_235 {x0 x1 x2 x3 x4 x6 : Option Value} {w : Value} : mw d 360 Q 235 [x0, x1, x2, x3, x4, some w, x6] (st) h = mv_l w (mw d 360 Q 237 [x0, x1, x2, x3, x4, some w, x6] (w :: st) h) := (mw_at mj_360_235).trans (z_lload rfl)
theorem mj_360_237 : mc_P 360 237 = some (.invokevirtual 453, 3, 361, 14, 4) := by decide +kernel
theorem s_360_237 {x0 x1 x2 x3 x4 x5 x6 : Option Value} {o : Nat} {a1 a2 a3 : Value} : mw (d + 1) 360 Q 237 [x0, x1, x2, x3, x4, x5, x6] (a3 :: a2 :: a1 :: .ref o :: st) h = (mg h o 14 ∧ mca st 8 ∧ mca [.ref o, a1, a2, a3] 6 ∧ mcall d 361 [.ref o, a1, a2, a3] h (mK (d + 1) 360 Q 240 [x0, x1, x2, x3, x4, x5, x6] st)) := (mw_at mj_360_237).trans ((z_invv (As := [a1, a2, a3]) (by decide) rfl rfl).trans (congrArg (And _) (congrArg (And _) (mC_nl nl_361))))
theorem mj_360_240 : mc_P 360 240 = some (.lstore_n 2, 1, 0, 0, 0) := by decide +kernel
theorem s_360_240 {x0 x1 x2 x3 x4 x5 x6 : Option Value} {w : Int64} : mw d 360 Q 240 [x0, x1, x2, x3, x4, x5, x6] (.long w :: st) h = mw d 360 Q 241 [x0, mk2 x1, some (.long w), none, x4, x5, x6] (st) h := (mw_at mj_360_240).trans (z_lstore_n (Nat.le_of_ble_eq_true rfl) (me_s2_mk (j := 1) (w := x1) rfl))
theorem mj_360_241 : mc_P 360 241 = some (.aload_n 0, 1, 0, 0, 0) := by decide +kernel
theorem s_360_241 {x1 x2 x3 x4 x5 x6 : Option Value} {w : Value} : mw d 360 Q 241 [some w, x1, x2, x3, x4, x5, x6] (st) h = mv_a w (mw d 360 Q 242 [some w, x1, x2, x3, x4, x5, x6] (w :: st) h) := (mw_at mj_360_241).trans (z_aload_n rfl)
theorem mj_360_242 : mc_P 360 242 = some (.iload 4, 2, 0, 0, 0) := by decide +kernel
theorem s_360_242 {x0 x1 x2 x3 x5 x6 : Option Value} {w : Value} : mw d 360 Q 242 [x0, x1, x2, x3, some w, x5, x6] (st) h = mv_i w (mw d 360 Q 244 [x0, x1, x2, x3, some w, x5, x6] (w :: st) h) := (mw_at mj_360_242).trans (z_iload rfl)
theorem mj_360_244 : mc_P 360 244 = some (.invokevirtual 348, 3, 333, 14, 2) := by decide +kernel
theorem s_360_244 {x0 x1 x2 x3 x4 x5 x6 : Option Value} {o : Nat} {a1 : Value} : mw (d + 1) 360 Q 244 [x0, x1, x2, x3, x4, x5, x6] (a1 :: .ref o :: st) h = (mg h o 14 ∧ mca st 8 ∧ mca [.ref o, a1] 2 ∧ mcall d 333 [.ref o, a1] h (mK (d + 1) 360 Q 247 [x0, x1, x2, x3, x4, x5, x6] st)) := (mw_at mj_360_244).trans ((z_invv (As := [a1]) (by decide) rfl rfl).trans (congrArg (And _) (congrArg (And _) (mC_nl nl_333))))
theorem mj_360_247 : mc_P 360 247 = some (.istore 4, 2, 0, 0, 0) := by decide +kernel
theorem s_360_247 {x0 x1 x2 x3 x4 x5 x6 : Option Value} {w : Int32} : mw d 360 Q 247 [x0, x1, x2, x3, x4, x5, x6] (.int w :: st) h = mw d 360 Q 249 [x0, x1, x2, mk2 x3, some (.int w), x5, x6] (st) h := (mw_at mj_360_247).trans (z_istore (Nat.le_of_ble_eq_true rfl) (me_s1_mk (j := 3) (w := x3) rfl))
theorem mj_360_249 : mc_P 360 249 = some (.goto (-57), 3, 0, 0, 0) := by decide +kernel
theorem s_360_249 {x0 x1 x2 x3 x4 x5 x6 : Option Value} : mw d 360 Q 249 [x0, x1, x2, x3, x4, x5, x6] (st) h = mw d 360 Q 192 [x0, x1, x2, x3, x4, x5, x6] (st) h := (mw_at mj_360_249).trans (z_goto (by decide))
theorem mj_360_252 : mc_P 360 252 = some (.lload_n 2, 1, 0, 0, 0) := by decide +kernel
theorem s_360_252 {x0 x1 x3 x4 x5 x6 : Option Value} {w : Value} : mw d 360 Q 252 [x0, x1, some w, x3, x4, x5, x6] (st) h = mv_l w (mw d 360 Q 253 [x0, x1, some w, x3, x4, x5, x6] (w :: st) h) := (mw_at mj_360_252).trans (z_lload_n rfl)
theorem mj_360_253 : mc_P 360 253 = some (.lreturn, 1, 0, 0, 0) := by decide +kernel
theorem s_360_253 {x0 x1 x2 x3 x4 x5 x6 : Option Value} {x : Int64} : mw d 360 Q 253 [x0, x1, x2, x3, x4, x5, x6] ([.long x]) h = Q (some (.long x)) h := (mw_at mj_360_253).trans (z_lret)
theorem e_360 {a0 : Nat} {a1 : Int32} : mcall d 360 [.ref a0, .int a1] h Q = mw d 360 Q 0 [some (.ref a0), some (.int a1), none, none, none, none, none] [] h := by
  show mw d 360 Q 0 (me_en (mc_nl 360) _) [] h = _
  rw [nl_360]; rfl

/-! InvariantDeskModel.operated(IJJ)J -/
theorem mj_361_0 : mc_P 361 0 = some (.iload_n 1, 1, 0, 0, 0) := by decide +kernel
theorem s_361_0 {x0 x2 x3 x4 x5 : Option Value} {w : Value} : mw d 361 Q 0 [x0, some w, x2, x3, x4, x5] (st) h = mv_i w (mw d 361 Q 1 [x0, some w, x2, x3, x4, x5] (w :: st) h) := (mw_at mj_361_0).trans (z_iload_n rfl)
theorem mj_361_1 : mc_P 361 1 = some (.bipush 21, 2, 0, 0, 0) := by decide +kernel
theorem s_361_1 {x0 x1 x2 x3 x4 x5 : Option Value} : mw d 361 Q 1 [x0, x1, x2, x3, x4, x5] (st) h = mw d 361 Q 3 [x0, x1, x2, x3, x4, x5] (.int 21 :: st) h := (mw_at mj_361_1).trans (z_bipush (by decide))
theorem mj_361_3 : mc_P 361 3 = some (.if_icmp .le 16, 3, 0, 0, 0) := by decide +kernel
theorem s_361_3 {x0 x1 x2 x3 x4 x5 : Option Value} {x w : Int32} : mw d 361 Q 3 [x0, x1, x2, x3, x4, x5] (.int w :: .int x :: st) h = mB (x ≤ w) (mw d 361 Q) 19 6 [x0, x1, x2, x3, x4, x5] st h := (mw_at mj_361_3).trans (z_icmp_le (by decide) rfl)
theorem mj_361_6 : mc_P 361 6 = some (.lload 4, 2, 0, 0, 0) := by decide +kernel
theorem s_361_6 {x0 x1 x2 x3 x5 : Option Value} {w : Value} : mw d 361 Q 6 [x0, x1, x2, x3, some w, x5] (st) h = mv_l w (mw d 361 Q 8 [x0, x1, x2, x3, some w, x5] (w :: st) h) := (mw_at mj_361_6).trans (z_lload rfl)
theorem mj_361_8 : mc_P 361 8 = some (.lconst 0, 1, 0, 0, 0) := by decide +kernel
theorem s_361_8 {x0 x1 x2 x3 x4 x5 : Option Value} : mw d 361 Q 8 [x0, x1, x2, x3, x4, x5] (st) h = mw d 361 Q 9 [x0, x1, x2, x3, x4, x5] (.long 0 :: st) h := (mw_at mj_361_8).trans (z_lconst (by decide))
theorem mj_361_9 : mc_P 361 9 = some (.lcmp, 1, 0, 0, 0) := by decide +kernel
theorem s_361_9 {x0 x1 x2 x3 x4 x5 : Option Value} {x w : Int64} : mw d 361 Q 9 [x0, x1, x2, x3, x4, x5] (.long w :: .long x :: st) h = mw d 361 Q 10 [x0, x1, x2, x3, x4, x5] (.int (lg_cmp x w) :: st) h := (mw_at mj_361_9).trans (z_lcmp)
theorem mj_361_10 : mc_P 361 10 = some (.ifCond .ne 9, 3, 0, 0, 0) := by decide +kernel
theorem s_361_10 {x0 x1 x2 x3 x4 x5 : Option Value} {x : Int32} : mw d 361 Q 10 [x0, x1, x2, x3, x4, x5] (.int x :: st) h = mB (¬ x = 0) (mw d 361 Q) 19 13 [x0, x1, x2, x3, x4, x5] st h := (mw_at mj_361_10).trans (z_if_ne (by decide) rfl)
theorem mj_361_13 : mc_P 361 13 = some (.aload_n 0, 1, 0, 0, 0) := by decide +kernel
theorem s_361_13 {x1 x2 x3 x4 x5 : Option Value} {w : Value} : mw d 361 Q 13 [some w, x1, x2, x3, x4, x5] (st) h = mv_a w (mw d 361 Q 14 [some w, x1, x2, x3, x4, x5] (w :: st) h) := (mw_at mj_361_13).trans (z_aload_n rfl)
theorem mj_361_14 : mc_P 361 14 = some (.iconst 2, 1, 0, 0, 0) := by decide +kernel
theorem s_361_14 {x0 x1 x2 x3 x4 x5 : Option Value} : mw d 361 Q 14 [x0, x1, x2, x3, x4, x5] (st) h = mw d 361 Q 15 [x0, x1, x2, x3, x4, x5] (.int 2 :: st) h := (mw_at mj_361_14).trans (z_iconst (by decide))
theorem mj_361_15 : mc_P 361 15 = some (.invokevirtual 432, 3, 356, 14, 2) := by decide +kernel
theorem s_361_15 {x0 x1 x2 x3 x4 x5 : Option Value} {o : Nat} {a1 : Value} : mw (d + 1) 361 Q 15 [x0, x1, x2, x3, x4, x5] (a1 :: .ref o :: st) h = (mg h o 14 ∧ mca st 8 ∧ mca [.ref o, a1] 2 ∧ mcall d 356 [.ref o, a1] h (mK (d + 1) 361 Q 18 [x0, x1, x2, x3, x4, x5] st)) := (mw_at mj_361_15).trans ((z_invv (As := [a1]) (by decide) rfl rfl).trans (congrArg (And _) (congrArg (And _) (mC_nl nl_356))))
theorem mj_361_18 : mc_P 361 18 = some (.lreturn, 1, 0, 0, 0) := by decide +kernel
theorem s_361_18 {x0 x1 x2 x3 x4 x5 : Option Value} {x : Int64} : mw d 361 Q 18 [x0, x1, x2, x3, x4, x5] ([.long x]) h = Q (some (.long x)) h := (mw_at mj_361_18).trans (z_lret)
theorem mj_361_19 : mc_P 361 19 = some (.aload_n 0, 1, 0, 0, 0) := by decide +kernel
theorem s_361_19 {x1 x2 x3 x4 x5 : Option Value} {w : Value} : mw d 361 Q 19 [some w, x1, x2, x3, x4, x5] (st) h = mv_a w (mw d 361 Q 20 [some w, x1, x2, x3, x4, x5] (w :: st) h) := (mw_at mj_361_19).trans (z_aload_n rfl)
theorem mj_361_20 : mc_P 361 20 = some (.iload_n 1, 1, 0, 0, 0) := by decide +kernel
theorem s_361_20 {x0 x2 x3 x4 x5 : Option Value} {w : Value} : mw d 361 Q 20 [x0, some w, x2, x3, x4, x5] (st) h = mv_i w (mw d 361 Q 21 [x0, some w, x2, x3, x4, x5] (w :: st) h) := (mw_at mj_361_20).trans (z_iload_n rfl)
theorem mj_361_21 : mc_P 361 21 = some (.bipush 18, 2, 0, 0, 0) := by decide +kernel
theorem s_361_21 {x0 x1 x2 x3 x4 x5 : Option Value} : mw d 361 Q 21 [x0, x1, x2, x3, x4, x5] (st) h = mw d 361 Q 23 [x0, x1, x2, x3, x4, x5] (.int 18 :: st) h := (mw_at mj_361_21).trans (z_bipush (by decide))
theorem mj_361_23 : mc_P 361 23 = some (.if_icmp .ne 10, 3, 0, 0, 0) := by decide +kernel
theorem s_361_23 {x0 x1 x2 x3 x4 x5 : Option Value} {x w : Int32} : mw d 361 Q 23 [x0, x1, x2, x3, x4, x5] (.int w :: .int x :: st) h = mB (¬ x = w) (mw d 361 Q) 33 26 [x0, x1, x2, x3, x4, x5] st h := (mw_at mj_361_23).trans (z_icmp_ne (by decide) rfl)
theorem mj_361_26 : mc_P 361 26 = some (.lload_n 2, 1, 0, 0, 0) := by decide +kernel
theorem s_361_26 {x0 x1 x3 x4 x5 : Option Value} {w : Value} : mw d 361 Q 26 [x0, x1, some w, x3, x4, x5] (st) h = mv_l w (mw d 361 Q 27 [x0, x1, some w, x3, x4, x5] (w :: st) h) := (mw_at mj_361_26).trans (z_lload_n rfl)
theorem mj_361_27 : mc_P 361 27 = some (.lload 4, 2, 0, 0, 0) := by decide +kernel
theorem s_361_27 {x0 x1 x2 x3 x5 : Option Value} {w : Value} : mw d 361 Q 27 [x0, x1, x2, x3, some w, x5] (st) h = mv_l w (mw d 361 Q 29 [x0, x1, x2, x3, some w, x5] (w :: st) h) := (mw_at mj_361_27).trans (z_lload rfl)
theorem mj_361_29 : mc_P 361 29 = some (.ladd, 1, 0, 0, 0) := by decide +kernel
theorem s_361_29 {x0 x1 x2 x3 x4 x5 : Option Value} {x w : Int64} : mw d 361 Q 29 [x0, x1, x2, x3, x4, x5] (.long w :: .long x :: st) h = mw d 361 Q 30 [x0, x1, x2, x3, x4, x5] (.long (x + w) :: st) h := (mw_at mj_361_29).trans (z_ladd)
theorem mj_361_30 : mc_P 361 30 = some (.goto 46, 3, 0, 0, 0) := by decide +kernel
theorem s_361_30 {x0 x1 x2 x3 x4 x5 : Option Value} : mw d 361 Q 30 [x0, x1, x2, x3, x4, x5] (st) h = mw d 361 Q 76 [x0, x1, x2, x3, x4, x5] (st) h := (mw_at mj_361_30).trans (z_goto (by decide))
theorem mj_361_33 : mc_P 361 33 = some (.iload_n 1, 1, 0, 0, 0) := by decide +kernel
theorem s_361_33 {x0 x2 x3 x4 x5 : Option Value} {w : Value} : mw d 361 Q 33 [x0, some w, x2, x3, x4, x5] (st) h = mv_i w (mw d 361 Q 34 [x0, some w, x2, x3, x4, x5] (w :: st) h) := (mw_at mj_361_33).trans (z_iload_n rfl)
theorem mj_361_34 : mc_P 361 34 = some (.bipush 19, 2, 0, 0, 0) := by decide +kernel
theorem s_361_34 {x0 x1 x2 x3 x4 x5 : Option Value} : mw d 361 Q 34 [x0, x1, x2, x3, x4, x5] (st) h = mw d 361 Q 36 [x0, x1, x2, x3, x4, x5] (.int 19 :: st) h := (mw_at mj_361_34).trans (z_bipush (by decide))
theorem mj_361_36 : mc_P 361 36 = some (.if_icmp .ne 10, 3, 0, 0, 0) := by decide +kernel
theorem s_361_36 {x0 x1 x2 x3 x4 x5 : Option Value} {x w : Int32} : mw d 361 Q 36 [x0, x1, x2, x3, x4, x5] (.int w :: .int x :: st) h = mB (¬ x = w) (mw d 361 Q) 46 39 [x0, x1, x2, x3, x4, x5] st h := (mw_at mj_361_36).trans (z_icmp_ne (by decide) rfl)
theorem mj_361_39 : mc_P 361 39 = some (.lload_n 2, 1, 0, 0, 0) := by decide +kernel
theorem s_361_39 {x0 x1 x3 x4 x5 : Option Value} {w : Value} : mw d 361 Q 39 [x0, x1, some w, x3, x4, x5] (st) h = mv_l w (mw d 361 Q 40 [x0, x1, some w, x3, x4, x5] (w :: st) h) := (mw_at mj_361_39).trans (z_lload_n rfl)
theorem mj_361_40 : mc_P 361 40 = some (.lload 4, 2, 0, 0, 0) := by decide +kernel
theorem s_361_40 {x0 x1 x2 x3 x5 : Option Value} {w : Value} : mw d 361 Q 40 [x0, x1, x2, x3, some w, x5] (st) h = mv_l w (mw d 361 Q 42 [x0, x1, x2, x3, some w, x5] (w :: st) h) := (mw_at mj_361_40).trans (z_lload rfl)
theorem mj_361_42 : mc_P 361 42 = some (.lsub, 1, 0, 0, 0) := by decide +kernel
theorem s_361_42 {x0 x1 x2 x3 x4 x5 : Option Value} {x w : Int64} : mw d 361 Q 42 [x0, x1, x2, x3, x4, x5] (.long w :: .long x :: st) h = mw d 361 Q 43 [x0, x1, x2, x3, x4, x5] (.long (x - w) :: st) h := (mw_at mj_361_42).trans (z_lsub)
theorem mj_361_43 : mc_P 361 43 = some (.goto 33, 3, 0, 0, 0) := by decide +kernel
theorem s_361_43 {x0 x1 x2 x3 x4 x5 : Option Value} : mw d 361 Q 43 [x0, x1, x2, x3, x4, x5] (st) h = mw d 361 Q 76 [x0, x1, x2, x3, x4, x5] (st) h := (mw_at mj_361_43).trans (z_goto (by decide))
theorem mj_361_46 : mc_P 361 46 = some (.iload_n 1, 1, 0, 0, 0) := by decide +kernel
theorem s_361_46 {x0 x2 x3 x4 x5 : Option Value} {w : Value} : mw d 361 Q 46 [x0, some w, x2, x3, x4, x5] (st) h = mv_i w (mw d 361 Q 47 [x0, some w, x2, x3, x4, x5] (w :: st) h) := (mw_at mj_361_46).trans (z_iload_n rfl)
theorem mj_361_47 : mc_P 361 47 = some (.bipush 21, 2, 0, 0, 0) := by decide +kernel
theorem s_361_47 {x0 x1 x2 x3 x4 x5 : Option Value} : mw d 361 Q 47 [x0, x1, x2, x3, x4, x5] (st) h = mw d 361 Q 49 [x0, x1, x2, x3, x4, x5] (.int 21 :: st) h := (mw_at mj_361_47).trans (z_bipush (by decide))
theorem mj_361_49 : mc_P 361 49 = some (.if_icmp .ne 10, 3, 0, 0, 0) := by decide +kernel
theorem s_361_49 {x0 x1 x2 x3 x4 x5 : Option Value} {x w : Int32} : mw d 361 Q 49 [x0, x1, x2, x3, x4, x5] (.int w :: .int x :: st) h = mB (¬ x = w) (mw d 361 Q) 59 52 [x0, x1, x2, x3, x4, x5] st h := (mw_at mj_361_49).trans (z_icmp_ne (by decide) rfl)
theorem mj_361_52 : mc_P 361 52 = some (.lload_n 2, 1, 0, 0, 0) := by decide +kernel
theorem s_361_52 {x0 x1 x3 x4 x5 : Option Value} {w : Value} : mw d 361 Q 52 [x0, x1, some w, x3, x4, x5] (st) h = mv_l w (mw d 361 Q 53 [x0, x1, some w, x3, x4, x5] (w :: st) h) := (mw_at mj_361_52).trans (z_lload_n rfl)
theorem mj_361_53 : mc_P 361 53 = some (.lload 4, 2, 0, 0, 0) := by decide +kernel
theorem s_361_53 {x0 x1 x2 x3 x5 : Option Value} {w : Value} : mw d 361 Q 53 [x0, x1, x2, x3, some w, x5] (st) h = mv_l w (mw d 361 Q 55 [x0, x1, x2, x3, some w, x5] (w :: st) h) := (mw_at mj_361_53).trans (z_lload rfl)
theorem mj_361_55 : mc_P 361 55 = some (.lmul, 1, 0, 0, 0) := by decide +kernel
theorem s_361_55 {x0 x1 x2 x3 x4 x5 : Option Value} {x w : Int64} : mw d 361 Q 55 [x0, x1, x2, x3, x4, x5] (.long w :: .long x :: st) h = mw d 361 Q 56 [x0, x1, x2, x3, x4, x5] (.long (x * w) :: st) h := (mw_at mj_361_55).trans (z_lmul)
theorem mj_361_56 : mc_P 361 56 = some (.goto 20, 3, 0, 0, 0) := by decide +kernel
theorem s_361_56 {x0 x1 x2 x3 x4 x5 : Option Value} : mw d 361 Q 56 [x0, x1, x2, x3, x4, x5] (st) h = mw d 361 Q 76 [x0, x1, x2, x3, x4, x5] (st) h := (mw_at mj_361_56).trans (z_goto (by decide))
theorem mj_361_59 : mc_P 361 59 = some (.iload_n 1, 1, 0, 0, 0) := by decide +kernel
theorem s_361_59 {x0 x2 x3 x4 x5 : Option Value} {w : Value} : mw d 361 Q 59 [x0, some w, x2, x3, x4, x5] (st) h = mv_i w (mw d 361 Q 60 [x0, some w, x2, x3, x4, x5] (w :: st) h) := (mw_at mj_361_59).trans (z_iload_n rfl)
theorem mj_361_60 : mc_P 361 60 = some (.bipush 22, 2, 0, 0, 0) := by decide +kernel
theorem s_361_60 {x0 x1 x2 x3 x4 x5 : Option Value} : mw d 361 Q 60 [x0, x1, x2, x3, x4, x5] (st) h = mw d 361 Q 62 [x0, x1, x2, x3, x4, x5] (.int 22 :: st) h := (mw_at mj_361_60).trans (z_bipush (by decide))
theorem mj_361_62 : mc_P 361 62 = some (.if_icmp .ne 10, 3, 0, 0, 0) := by decide +kernel
theorem s_361_62 {x0 x1 x2 x3 x4 x5 : Option Value} {x w : Int32} : mw d 361 Q 62 [x0, x1, x2, x3, x4, x5] (.int w :: .int x :: st) h = mB (¬ x = w) (mw d 361 Q) 72 65 [x0, x1, x2, x3, x4, x5] st h := (mw_at mj_361_62).trans (z_icmp_ne (by decide) rfl)
theorem mj_361_65 : mc_P 361 65 = some (.lload_n 2, 1, 0, 0, 0) := by decide +kernel
theorem s_361_65 {x0 x1 x3 x4 x5 : Option Value} {w : Value} : mw d 361 Q 65 [x0, x1, some w, x3, x4, x5] (st) h = mv_l w (mw d 361 Q 66 [x0, x1, some w, x3, x4, x5] (w :: st) h) := (mw_at mj_361_65).trans (z_lload_n rfl)
theorem mj_361_66 : mc_P 361 66 = some (.lload 4, 2, 0, 0, 0) := by decide +kernel
theorem s_361_66 {x0 x1 x2 x3 x5 : Option Value} {w : Value} : mw d 361 Q 66 [x0, x1, x2, x3, some w, x5] (st) h = mv_l w (mw d 361 Q 68 [x0, x1, x2, x3, some w, x5] (w :: st) h) := (mw_at mj_361_66).trans (z_lload rfl)
theorem mj_361_68 : mc_P 361 68 = some (.ldiv, 1, 0, 0, 0) := by decide +kernel
theorem s_361_68 {x0 x1 x2 x3 x4 x5 : Option Value} {x w : Int64} : mw d 361 Q 68 [x0, x1, x2, x3, x4, x5] (.long w :: .long x :: st) h = (¬ w = 0 ∧ mw d 361 Q 69 [x0, x1, x2, x3, x4, x5] (.long (x / w) :: st) h) := (mw_at mj_361_68).trans (z_ldiv)
theorem mj_361_69 : mc_P 361 69 = some (.goto 7, 3, 0, 0, 0) := by decide +kernel
theorem s_361_69 {x0 x1 x2 x3 x4 x5 : Option Value} : mw d 361 Q 69 [x0, x1, x2, x3, x4, x5] (st) h = mw d 361 Q 76 [x0, x1, x2, x3, x4, x5] (st) h := (mw_at mj_361_69).trans (z_goto (by decide))
theorem mj_361_72 : mc_P 361 72 = some (.lload_n 2, 1, 0, 0, 0) := by decide +kernel
theorem s_361_72 {x0 x1 x3 x4 x5 : Option Value} {w : Value} : mw d 361 Q 72 [x0, x1, some w, x3, x4, x5] (st) h = mv_l w (mw d 361 Q 73 [x0, x1, some w, x3, x4, x5] (w :: st) h) := (mw_at mj_361_72).trans (z_lload_n rfl)
theorem mj_361_73 : mc_P 361 73 = some (.lload 4, 2, 0, 0, 0) := by decide +kernel
theorem s_361_73 {x0 x1 x2 x3 x5 : Option Value} {w : Value} : mw d 361 Q 73 [x0, x1, x2, x3, some w, x5] (st) h = mv_l w (mw d 361 Q 75 [x0, x1, x2, x3, some w, x5] (w :: st) h) := (mw_at mj_361_73).trans (z_lload rfl)
theorem mj_361_75 : mc_P 361 75 = some (.lrem, 1, 0, 0, 0) := by decide +kernel
theorem s_361_75 {x0 x1 x2 x3 x4 x5 : Option Value} {x w : Int64} : mw d 361 Q 75 [x0, x1, x2, x3, x4, x5] (.long w :: .long x :: st) h = (¬ w = 0 ∧ mw d 361 Q 76 [x0, x1, x2, x3, x4, x5] (.long (x - x / w * w) :: st) h) := (mw_at mj_361_75).trans (z_lrem)
theorem mj_361_76 : mc_P 361 76 = some (.invokevirtual 447, 3, 357, 14, 2) := by decide +kernel
theorem s_361_76 {x0 x1 x2 x3 x4 x5 : Option Value} {o : Nat} {a1 : Value} : mw (d + 1) 361 Q 76 [x0, x1, x2, x3, x4, x5] (a1 :: .ref o :: st) h = (mg h o 14 ∧ mca st 8 ∧ mca [.ref o, a1] 3 ∧ mcall d 357 [.ref o, a1] h (mK (d + 1) 361 Q 79 [x0, x1, x2, x3, x4, x5] st)) := (mw_at mj_361_76).trans ((z_invv (As := [a1]) (by decide) rfl rfl).trans (congrArg (And _) (congrArg (And _) (mC_nl nl_357))))
theorem mj_361_79 : mc_P 361 79 = some (.lreturn, 1, 0, 0, 0) := by decide +kernel
theorem s_361_79 {x0 x1 x2 x3 x4 x5 : Option Value} {x : Int64} : mw d 361 Q 79 [x0, x1, x2, x3, x4, x5] ([.long x]) h = Q (some (.long x)) h := (mw_at mj_361_79).trans (z_lret)
theorem e_361 {a0 : Nat} {a1 : Int32} {a2 : Int64} {a3 : Int64} : mcall d 361 [.ref a0, .int a1, .long a2, .long a3] h Q = mw d 361 Q 0 [some (.ref a0), some (.int a1), some (.long a2), none, some (.long a3), none] [] h := by
  show mw d 361 Q 0 (me_en (mc_nl 361) _) [] h = _
  rw [nl_361]; rfl

/-! InvariantDeskModel.holds(I)Z -/
theorem mj_362_0 : mc_P 362 0 = some (.aload_n 0, 1, 0, 0, 0) := by decide +kernel
theorem s_362_0 {x1 x2 x3 x4 x5 x6 : Option Value} {w : Value} : mw d 362 Q 0 [some w, x1, x2, x3, x4, x5, x6] (st) h = mv_a w (mw d 362 Q 1 [some w, x1, x2, x3, x4, x5, x6] (w :: st) h) := (mw_at mj_362_0).trans (z_aload_n rfl)
theorem mj_362_1 : mc_P 362 1 = some (.getfield 427, 3, 14, 68, 0) := by decide +kernel
theorem s_362_1 {x0 x1 x2 x3 x4 x5 x6 : Option Value} {o : Nat} : mw d 362 Q 1 [x0, x1, x2, x3, x4, x5, x6] (.ref o :: st) h = (mg h o 14 ∧ mw d 362 Q 4 [x0, x1, x2, x3, x4, x5, x6] (.int (mh_i h o 68) :: st) h) := (mw_at mj_362_1).trans (z_geti (by decide) (by decide) (Or.inl rfl))
theorem mj_362_4 : mc_P 362 4 = some (.ifCond .le 5, 3, 0, 0, 0) := by decide +kernel
theorem s_362_4 {x0 x1 x2 x3 x4 x5 x6 : Option Value} {x : Int32} : mw d 362 Q 4 [x0, x1, x2, x3, x4, x5, x6] (.int x :: st) h = mB (x ≤ 0) (mw d 362 Q) 9 7 [x0, x1, x2, x3, x4, x5, x6] st h := (mw_at mj_362_4).trans (z_if_le (by decide) rfl)
theorem mj_362_7 : mc_P 362 7 = some (.iconst 0, 1, 0, 0, 0) := by decide +kernel
theorem s_362_7 {x0 x1 x2 x3 x4 x5 x6 : Option Value} : mw d 362 Q 7 [x0, x1, x2, x3, x4, x5, x6] (st) h = mw d 362 Q 8 [x0, x1, x2, x3, x4, x5, x6] (.int 0 :: st) h := (mw_at mj_362_7).trans (z_iconst (by decide))
theorem mj_362_8 : mc_P 362 8 = some (.ireturn, 1, 0, 3, 0) := by decide +kernel
theorem s_362_8 {x0 x1 x2 x3 x4 x5 x6 : Option Value} {x : Int32} : mw d 362 Q 8 [x0, x1, x2, x3, x4, x5, x6] ([.int x]) h = ((x = 0 ∨ x = 1) ∧ Q (some (.int x)) h) := (mw_at mj_362_8).trans (z_zret)
theorem mj_362_9 : mc_P 362 9 = some (.aload_n 0, 1, 0, 0, 0) := by decide +kernel
theorem s_362_9 {x1 x2 x3 x4 x5 x6 : Option Value} {w : Value} : mw d 362 Q 9 [some w, x1, x2, x3, x4, x5, x6] (st) h = mv_a w (mw d 362 Q 10 [some w, x1, x2, x3, x4, x5, x6] (w :: st) h) := (mw_at mj_362_9).trans (z_aload_n rfl)
theorem mj_362_10 : mc_P 362 10 = some (.getfield 48, 3, 14, 19, 0) := by decide +kernel
theorem s_362_10 {x0 x1 x2 x3 x4 x5 x6 : Option Value} {o : Nat} : mw d 362 Q 10 [x0, x1, x2, x3, x4, x5, x6] (.ref o :: st) h = (mg h o 14 ∧ mw d 362 Q 13 [x0, x1, x2, x3, x4, x5, x6] (va_rf (mh_r h o 19) :: st) h) := (mw_at mj_362_10).trans (z_getr (by decide) (by decide) rfl)
theorem mj_362_13 : mc_P 362 13 = some (.iload_n 1, 1, 0, 0, 0) := by decide +kernel
theorem s_362_13 {x0 x2 x3 x4 x5 x6 : Option Value} {w : Value} : mw d 362 Q 13 [x0, some w, x2, x3, x4, x5, x6] (st) h = mv_i w (mw d 362 Q 14 [x0, some w, x2, x3, x4, x5, x6] (w :: st) h) := (mw_at mj_362_13).trans (z_iload_n rfl)
theorem mj_362_14 : mc_P 362 14 = some (.baload, 1, 0, 0, 0) := by decide +kernel
theorem s_362_14 {x0 x1 x2 x3 x4 x5 x6 : Option Value} {o : Nat} {i : Int32} : mw d 362 Q 14 [x0, x1, x2, x3, x4, x5, x6] (.int i :: .ref o :: st) h = (mgb h o ∧ mx i (mh_l h o) ∧ mw d 362 Q 15 [x0, x1, x2, x3, x4, x5, x6] (.int (mh_i h o i.toNatClampNeg) :: st) h) := (mw_at mj_362_14).trans (z_bald)
theorem mj_362_15 : mc_P 362 15 = some (.bipush 26, 2, 0, 0, 0) := by decide +kernel
theorem s_362_15 {x0 x1 x2 x3 x4 x5 x6 : Option Value} : mw d 362 Q 15 [x0, x1, x2, x3, x4, x5, x6] (st) h = mw d 362 Q 17 [x0, x1, x2, x3, x4, x5, x6] (.int 26 :: st) h := (mw_at mj_362_15).trans (z_bipush (by decide))
theorem mj_362_17 : mc_P 362 17 = some (.if_icmp .ne 19, 3, 0, 0, 0) := by decide +kernel
theorem s_362_17 {x0 x1 x2 x3 x4 x5 x6 : Option Value} {x w : Int32} : mw d 362 Q 17 [x0, x1, x2, x3, x4, x5, x6] (.int w :: .int x :: st) h = mB (¬ x = w) (mw d 362 Q) 36 20 [x0, x1, x2, x3, x4, x5, x6] st h := (mw_at mj_362_17).trans (z_icmp_ne (by decide) rfl)
theorem mj_362_20 : mc_P 362 20 = some (.aload_n 0, 1, 0, 0, 0) := by decide +kernel
theorem s_362_20 {x1 x2 x3 x4 x5 x6 : Option Value} {w : Value} : mw d 362 Q 20 [some w, x1, x2, x3, x4, x5, x6] (st) h = mv_a w (mw d 362 Q 21 [some w, x1, x2, x3, x4, x5, x6] (w :: st) h) := (mw_at mj_362_20).trans (z_aload_n rfl)
theorem mj_362_21 : mc_P 362 21 = some (.iload_n 1, 1, 0, 0, 0) := by decide +kernel
theorem s_362_21 {x0 x2 x3 x4 x5 x6 : Option Value} {w : Value} : mw d 362 Q 21 [x0, some w, x2, x3, x4, x5, x6] (st) h = mv_i w (mw d 362 Q 22 [x0, some w, x2, x3, x4, x5, x6] (w :: st) h) := (mw_at mj_362_21).trans (z_iload_n rfl)
theorem mj_362_22 : mc_P 362 22 = some (.iconst 1, 1, 0, 0, 0) := by decide +kernel
theorem s_362_22 {x0 x1 x2 x3 x4 x5 x6 : Option Value} : mw d 362 Q 22 [x0, x1, x2, x3, x4, x5, x6] (st) h = mw d 362 Q 23 [x0, x1, x2, x3, x4, x5, x6] (.int 1 :: st) h := (mw_at mj_362_22).trans (z_iconst (by decide))
theorem mj_362_23 : mc_P 362 23 = some (.iadd, 1, 0, 0, 0) := by decide +kernel
theorem s_362_23 {x0 x1 x2 x3 x4 x5 x6 : Option Value} {x w : Int32} : mw d 362 Q 23 [x0, x1, x2, x3, x4, x5, x6] (.int w :: .int x :: st) h = mw d 362 Q 24 [x0, x1, x2, x3, x4, x5, x6] (.int (x + w) :: st) h := (mw_at mj_362_23).trans (z_iadd)
theorem mj_362_24 : mc_P 362 24 = some (.invokevirtual 457, 3, 362, 14, 2) := by decide +kernel
theorem s_362_24 {x0 x1 x2 x3 x4 x5 x6 : Option Value} {o : Nat} {a1 : Value} : mw (d + 1) 362 Q 24 [x0, x1, x2, x3, x4, x5, x6] (a1 :: .ref o :: st) h = (mg h o 14 ∧ mca st 8 ∧ mca [.ref o, a1] 7 ∧ mcall d 362 [.ref o, a1] h (mK (d + 1) 362 Q 27 [x0, x1, x2, x3, x4, x5, x6] st)) := (mw_at mj_362_24).trans ((z_invv (As := [a1]) (by decide) rfl rfl).trans (congrArg (And _) (congrArg (And _) (mC_nl nl_362))))
theorem mj_362_27 : mc_P 362 27 = some (.ifCond .ne 7, 3, 0, 0, 0) := by decide +kernel
theorem s_362_27 {x0 x1 x2 x3 x4 x5 x6 : Option Value} {x : Int32} : mw d 362 Q 27 [x0, x1, x2, x3, x4, x5, x6] (.int x :: st) h = mB (¬ x = 0) (mw d 362 Q) 34 30 [x0, x1, x2, x3, x4, x5, x6] st h := (mw_at mj_362_27).trans (z_if_ne (by decide) rfl)
theorem mj_362_30 : mc_P 362 30 = some (.iconst 1, 1, 0, 0, 0) := by decide +kernel
theorem s_362_30 {x0 x1 x2 x3 x4 x5 x6 : Option Value} : mw d 362 Q 30 [x0, x1, x2, x3, x4, x5, x6] (st) h = mw d 362 Q 31 [x0, x1, x2, x3, x4, x5, x6] (.int 1 :: st) h := (mw_at mj_362_30).trans (z_iconst (by decide))
theorem mj_362_31 : mc_P 362 31 = some (.goto 4, 3, 0, 0, 0) := by decide +kernel
theorem s_362_31 {x0 x1 x2 x3 x4 x5 x6 : Option Value} : mw d 362 Q 31 [x0, x1, x2, x3, x4, x5, x6] (st) h = mw d 362 Q 35 [x0, x1, x2, x3, x4, x5, x6] (st) h := (mw_at mj_362_31).trans (z_goto (by decide))
theorem mj_362_34 : mc_P 362 34 = some (.iconst 0, 1, 0, 0, 0) := by decide +kernel
theorem s_362_34 {x0 x1 x2 x3 x4 x5 x6 : Option Value} : mw d 362 Q 34 [x0, x1, x2, x3, x4, x5, x6] (st) h = mw d 362 Q 35 [x0, x1, x2, x3, x4, x5, x6] (.int 0 :: st) h := (mw_at mj_362_34).trans (z_iconst (by decide))
theorem mj_362_35 : mc_P 362 35 = some (.ireturn, 1, 0, 3, 0) := by decide +kernel
theorem s_362_35 {x0 x1 x2 x3 x4 x5 x6 : Option Value} {x : Int32} : mw d 362 Q 35 [x0, x1, x2, x3, x4, x5, x6] ([.int x]) h = ((x = 0 ∨ x = 1) ∧ Q (some (.int x)) h) := (mw_at mj_362_35).trans (z_zret)
theorem mj_362_36 : mc_P 362 36 = some (.aload_n 0, 1, 0, 0, 0) := by decide +kernel
theorem s_362_36 {x1 x2 x3 x4 x5 x6 : Option Value} {w : Value} : mw d 362 Q 36 [some w, x1, x2, x3, x4, x5, x6] (st) h = mv_a w (mw d 362 Q 37 [some w, x1, x2, x3, x4, x5, x6] (w :: st) h) := (mw_at mj_362_36).trans (z_aload_n rfl)
theorem mj_362_37 : mc_P 362 37 = some (.getfield 48, 3, 14, 19, 0) := by decide +kernel
theorem s_362_37 {x0 x1 x2 x3 x4 x5 x6 : Option Value} {o : Nat} : mw d 362 Q 37 [x0, x1, x2, x3, x4, x5, x6] (.ref o :: st) h = (mg h o 14 ∧ mw d 362 Q 40 [x0, x1, x2, x3, x4, x5, x6] (va_rf (mh_r h o 19) :: st) h) := (mw_at mj_362_37).trans (z_getr (by decide) (by decide) rfl)
theorem mj_362_40 : mc_P 362 40 = some (.iload_n 1, 1, 0, 0, 0) := by decide +kernel
theorem s_362_40 {x0 x2 x3 x4 x5 x6 : Option Value} {w : Value} : mw d 362 Q 40 [x0, some w, x2, x3, x4, x5, x6] (st) h = mv_i w (mw d 362 Q 41 [x0, some w, x2, x3, x4, x5, x6] (w :: st) h) := (mw_at mj_362_40).trans (z_iload_n rfl)
theorem mj_362_41 : mc_P 362 41 = some (.baload, 1, 0, 0, 0) := by decide +kernel
theorem s_362_41 {x0 x1 x2 x3 x4 x5 x6 : Option Value} {o : Nat} {i : Int32} : mw d 362 Q 41 [x0, x1, x2, x3, x4, x5, x6] (.int i :: .ref o :: st) h = (mgb h o ∧ mx i (mh_l h o) ∧ mw d 362 Q 42 [x0, x1, x2, x3, x4, x5, x6] (.int (mh_i h o i.toNatClampNeg) :: st) h) := (mw_at mj_362_41).trans (z_bald)
theorem mj_362_42 : mc_P 362 42 = some (.bipush 24, 2, 0, 0, 0) := by decide +kernel
theorem s_362_42 {x0 x1 x2 x3 x4 x5 x6 : Option Value} : mw d 362 Q 42 [x0, x1, x2, x3, x4, x5, x6] (st) h = mw d 362 Q 44 [x0, x1, x2, x3, x4, x5, x6] (.int 24 :: st) h := (mw_at mj_362_42).trans (z_bipush (by decide))
theorem mj_362_44 : mc_P 362 44 = some (.if_icmp .eq 14, 3, 0, 0, 0) := by decide +kernel
theorem s_362_44 {x0 x1 x2 x3 x4 x5 x6 : Option Value} {x w : Int32} : mw d 362 Q 44 [x0, x1, x2, x3, x4, x5, x6] (.int w :: .int x :: st) h = mB (x = w) (mw d 362 Q) 58 47 [x0, x1, x2, x3, x4, x5, x6] st h := (mw_at mj_362_44).trans (z_icmp_eq (by decide) rfl)
theorem mj_362_47 : mc_P 362 47 = some (.aload_n 0, 1, 0, 0, 0) := by decide +kernel
theorem s_362_47 {x1 x2 x3 x4 x5 x6 : Option Value} {w : Value} : mw d 362 Q 47 [some w, x1, x2, x3, x4, x5, x6] (st) h = mv_a w (mw d 362 Q 48 [some w, x1, x2, x3, x4, x5, x6] (w :: st) h) := (mw_at mj_362_47).trans (z_aload_n rfl)
theorem mj_362_48 : mc_P 362 48 = some (.getfield 48, 3, 14, 19, 0) := by decide +kernel
theorem s_362_48 {x0 x1 x2 x3 x4 x5 x6 : Option Value} {o : Nat} : mw d 362 Q 48 [x0, x1, x2, x3, x4, x5, x6] (.ref o :: st) h = (mg h o 14 ∧ mw d 362 Q 51 [x0, x1, x2, x3, x4, x5, x6] (va_rf (mh_r h o 19) :: st) h) := (mw_at mj_362_48).trans (z_getr (by decide) (by decide) rfl)
theorem mj_362_51 : mc_P 362 51 = some (.iload_n 1, 1, 0, 0, 0) := by decide +kernel
theorem s_362_51 {x0 x2 x3 x4 x5 x6 : Option Value} {w : Value} : mw d 362 Q 51 [x0, some w, x2, x3, x4, x5, x6] (st) h = mv_i w (mw d 362 Q 52 [x0, some w, x2, x3, x4, x5, x6] (w :: st) h) := (mw_at mj_362_51).trans (z_iload_n rfl)
theorem mj_362_52 : mc_P 362 52 = some (.baload, 1, 0, 0, 0) := by decide +kernel
theorem s_362_52 {x0 x1 x2 x3 x4 x5 x6 : Option Value} {o : Nat} {i : Int32} : mw d 362 Q 52 [x0, x1, x2, x3, x4, x5, x6] (.int i :: .ref o :: st) h = (mgb h o ∧ mx i (mh_l h o) ∧ mw d 362 Q 53 [x0, x1, x2, x3, x4, x5, x6] (.int (mh_i h o i.toNatClampNeg) :: st) h) := (mw_at mj_362_52).trans (z_bald)
theorem mj_362_53 : mc_P 362 53 = some (.bipush 25, 2, 0, 0, 0) := by decide +kernel
theorem s_362_53 {x0 x1 x2 x3 x4 x5 x6 : Option Value} : mw d 362 Q 53 [x0, x1, x2, x3, x4, x5, x6] (st) h = mw d 362 Q 55 [x0, x1, x2, x3, x4, x5, x6] (.int 25 :: st) h := (mw_at mj_362_53).trans (z_bipush (by decide))
theorem mj_362_55 : mc_P 362 55 = some (.if_icmp .ne 70, 3, 0, 0, 0) := by decide +kernel
theorem s_362_55 {x0 x1 x2 x3 x4 x5 x6 : Option Value} {x w : Int32} : mw d 362 Q 55 [x0, x1, x2, x3, x4, x5, x6] (.int w :: .int x :: st) h = mB (¬ x = w) (mw d 362 Q) 125 58 [x0, x1, x2, x3, x4, x5, x6] st h := (mw_at mj_362_55).trans (z_icmp_ne (by decide) rfl)
theorem mj_362_58 : mc_P 362 58 = some (.aload_n 0, 1, 0, 0, 0) := by decide +kernel
theorem s_362_58 {x1 x2 x3 x4 x5 x6 : Option Value} {w : Value} : mw d 362 Q 58 [some w, x1, x2, x3, x4, x5, x6] (st) h = mv_a w (mw d 362 Q 59 [some w, x1, x2, x3, x4, x5, x6] (w :: st) h) := (mw_at mj_362_58).trans (z_aload_n rfl)
theorem mj_362_59 : mc_P 362 59 = some (.getfield 48, 3, 14, 19, 0) := by decide +kernel
theorem s_362_59 {x0 x1 x2 x3 x4 x5 x6 : Option Value} {o : Nat} : mw d 362 Q 59 [x0, x1, x2, x3, x4, x5, x6] (.ref o :: st) h = (mg h o 14 ∧ mw d 362 Q 62 [x0, x1, x2, x3, x4, x5, x6] (va_rf (mh_r h o 19) :: st) h) := (mw_at mj_362_59).trans (z_getr (by decide) (by decide) rfl)
theorem mj_362_62 : mc_P 362 62 = some (.iload_n 1, 1, 0, 0, 0) := by decide +kernel
theorem s_362_62 {x0 x2 x3 x4 x5 x6 : Option Value} {w : Value} : mw d 362 Q 62 [x0, some w, x2, x3, x4, x5, x6] (st) h = mv_i w (mw d 362 Q 63 [x0, some w, x2, x3, x4, x5, x6] (w :: st) h) := (mw_at mj_362_62).trans (z_iload_n rfl)
theorem mj_362_63 : mc_P 362 63 = some (.baload, 1, 0, 0, 0) := by decide +kernel
theorem s_362_63 {x0 x1 x2 x3 x4 x5 x6 : Option Value} {o : Nat} {i : Int32} : mw d 362 Q 63 [x0, x1, x2, x3, x4, x5, x6] (.int i :: .ref o :: st) h = (mgb h o ∧ mx i (mh_l h o) ∧ mw d 362 Q 64 [x0, x1, x2, x3, x4, x5, x6] (.int (mh_i h o i.toNatClampNeg) :: st) h) := (mw_at mj_362_63).trans (z_bald)
theorem mj_362_64 : mc_P 362 64 = some (.bipush 25, 2, 0, 0, 0) := by decide +kernel
theorem s_362_64 {x0 x1 x2 x3 x4 x5 x6 : Option Value} : mw d 362 Q 64 [x0, x1, x2, x3, x4, x5, x6] (st) h = mw d 362 Q 66 [x0, x1, x2, x3, x4, x5, x6] (.int 25 :: st) h := (mw_at mj_362_64).trans (z_bipush (by decide))
theorem mj_362_66 : mc_P 362 66 = some (.if_icmp .ne 7, 3, 0, 0, 0) := by decide +kernel
theorem s_362_66 {x0 x1 x2 x3 x4 x5 x6 : Option Value} {x w : Int32} : mw d 362 Q 66 [x0, x1, x2, x3, x4, x5, x6] (.int w :: .int x :: st) h = mB (¬ x = w) (mw d 362 Q) 73 69 [x0, x1, x2, x3, x4, x5, x6] st h := (mw_at mj_362_66).trans (z_icmp_ne (by decide) rfl)
theorem mj_362_69 : mc_P 362 69 = some (.iconst 1, 1, 0, 0, 0) := by decide +kernel
theorem s_362_69 {x0 x1 x2 x3 x4 x5 x6 : Option Value} : mw d 362 Q 69 [x0, x1, x2, x3, x4, x5, x6] (st) h = mw d 362 Q 70 [x0, x1, x2, x3, x4, x5, x6] (.int 1 :: st) h := (mw_at mj_362_69).trans (z_iconst (by decide))
theorem mj_362_70 : mc_P 362 70 = some (.goto 4, 3, 0, 0, 0) := by decide +kernel
theorem s_362_70 {x0 x1 x2 x3 x4 x5 x6 : Option Value} : mw d 362 Q 70 [x0, x1, x2, x3, x4, x5, x6] (st) h = mw d 362 Q 74 [x0, x1, x2, x3, x4, x5, x6] (st) h := (mw_at mj_362_70).trans (z_goto (by decide))
theorem mj_362_73 : mc_P 362 73 = some (.iconst 0, 1, 0, 0, 0) := by decide +kernel
theorem s_362_73 {x0 x1 x2 x3 x4 x5 x6 : Option Value} : mw d 362 Q 73 [x0, x1, x2, x3, x4, x5, x6] (st) h = mw d 362 Q 74 [x0, x1, x2, x3, x4, x5, x6] (.int 0 :: st) h := (mw_at mj_362_73).trans (z_iconst (by decide))
theorem mj_362_74 : mc_P 362 74 = some (.istore_n 2, 1, 0, 0, 0) := by decide +kernel
theorem s_362_74 {x0 x1 x2 x3 x4 x5 x6 : Option Value} {w : Int32} : mw d 362 Q 74 [x0, x1, x2, x3, x4, x5, x6] (.int w :: st) h = mw d 362 Q 75 [x0, mk2 x1, some (.int w), x3, x4, x5, x6] (st) h := (mw_at mj_362_74).trans (z_istore_n (Nat.le_of_ble_eq_true rfl) (me_s1_mk (j := 1) (w := x1) rfl))
theorem mj_362_75 : mc_P 362 75 = some (.iload_n 1, 1, 0, 0, 0) := by decide +kernel
theorem s_362_75 {x0 x2 x3 x4 x5 x6 : Option Value} {w : Value} : mw d 362 Q 75 [x0, some w, x2, x3, x4, x5, x6] (st) h = mv_i w (mw d 362 Q 76 [x0, some w, x2, x3, x4, x5, x6] (w :: st) h) := (mw_at mj_362_75).trans (z_iload_n rfl)
theorem mj_362_76 : mc_P 362 76 = some (.iconst 1, 1, 0, 0, 0) := by decide +kernel
theorem s_362_76 {x0 x1 x2 x3 x4 x5 x6 : Option Value} : mw d 362 Q 76 [x0, x1, x2, x3, x4, x5, x6] (st) h = mw d 362 Q 77 [x0, x1, x2, x3, x4, x5, x6] (.int 1 :: st) h := (mw_at mj_362_76).trans (z_iconst (by decide))
theorem mj_362_77 : mc_P 362 77 = some (.iadd, 1, 0, 0, 0) := by decide +kernel
theorem s_362_77 {x0 x1 x2 x3 x4 x5 x6 : Option Value} {x w : Int32} : mw d 362 Q 77 [x0, x1, x2, x3, x4, x5, x6] (.int w :: .int x :: st) h = mw d 362 Q 78 [x0, x1, x2, x3, x4, x5, x6] (.int (x + w) :: st) h := (mw_at mj_362_77).trans (z_iadd)
theorem mj_362_78 : mc_P 362 78 = some (.istore_n 3, 1, 0, 0, 0) := by decide +kernel
theorem s_362_78 {x0 x1 x2 x3 x4 x5 x6 : Option Value} {w : Int32} : mw d 362 Q 78 [x0, x1, x2, x3, x4, x5, x6] (.int w :: st) h = mw d 362 Q 79 [x0, x1, mk2 x2, some (.int w), x4, x5, x6] (st) h := (mw_at mj_362_78).trans (z_istore_n (Nat.le_of_ble_eq_true rfl) (me_s1_mk (j := 2) (w := x2) rfl))
theorem mj_362_79 : mc_P 362 79 = some (.iload_n 3, 1, 0, 0, 0) := by decide +kernel
theorem s_362_79 {x0 x1 x2 x4 x5 x6 : Option Value} {w : Value} : mw d 362 Q 79 [x0, x1, x2, some w, x4, x5, x6] (st) h = mv_i w (mw d 362 Q 80 [x0, x1, x2, some w, x4, x5, x6] (w :: st) h) := (mw_at mj_362_79).trans (z_iload_n rfl)
theorem mj_362_80 : mc_P 362 80 = some (.aload_n 0, 1, 0, 0, 0) := by decide +kernel
theorem s_362_80 {x1 x2 x3 x4 x5 x6 : Option Value} {w : Value} : mw d 362 Q 80 [some w, x1, x2, x3, x4, x5, x6] (st) h = mv_a w (mw d 362 Q 81 [some w, x1, x2, x3, x4, x5, x6] (w :: st) h) := (mw_at mj_362_80).trans (z_aload_n rfl)
theorem mj_362_81 : mc_P 362 81 = some (.iload_n 1, 1, 0, 0, 0) := by decide +kernel
theorem s_362_81 {x0 x2 x3 x4 x5 x6 : Option Value} {w : Value} : mw d 362 Q 81 [x0, some w, x2, x3, x4, x5, x6] (st) h = mv_i w (mw d 362 Q 82 [x0, some w, x2, x3, x4, x5, x6] (w :: st) h) := (mw_at mj_362_81).trans (z_iload_n rfl)
theorem mj_362_82 : mc_P 362 82 = some (.invokevirtual 348, 3, 333, 14, 2) := by decide +kernel
theorem s_362_82 {x0 x1 x2 x3 x4 x5 x6 : Option Value} {o : Nat} {a1 : Value} : mw (d + 1) 362 Q 82 [x0, x1, x2, x3, x4, x5, x6] (a1 :: .ref o :: st) h = (mg h o 14 ∧ mca st 8 ∧ mca [.ref o, a1] 2 ∧ mcall d 333 [.ref o, a1] h (mK (d + 1) 362 Q 85 [x0, x1, x2, x3, x4, x5, x6] st)) := (mw_at mj_362_82).trans ((z_invv (As := [a1]) (by decide) rfl rfl).trans (congrArg (And _) (congrArg (And _) (mC_nl nl_333))))
theorem mj_362_85 : mc_P 362 85 = some (.if_icmp .ge 38, 3, 0, 0, 0) := by decide +kernel
theorem s_362_85 {x0 x1 x2 x3 x4 x5 x6 : Option Value} {x w : Int32} : mw d 362 Q 85 [x0, x1, x2, x3, x4, x5, x6] (.int w :: .int x :: st) h = mB (w ≤ x) (mw d 362 Q) 123 88 [x0, x1, x2, x3, x4, x5, x6] st h := (mw_at mj_362_85).trans (z_icmp_ge (by decide) rfl)
theorem mj_362_88 : mc_P 362 88 = some (.aload_n 0, 1, 0, 0, 0) := by decide +kernel
theorem s_362_88 {x1 x2 x3 x4 x5 x6 : Option Value} {w : Value} : mw d 362 Q 88 [some w, x1, x2, x3, x4, x5, x6] (st) h = mv_a w (mw d 362 Q 89 [some w, x1, x2, x3, x4, x5, x6] (w :: st) h) := (mw_at mj_362_88).trans (z_aload_n rfl)
theorem mj_362_89 : mc_P 362 89 = some (.getfield 427, 3, 14, 68, 0) := by decide +kernel
theorem s_362_89 {x0 x1 x2 x3 x4 x5 x6 : Option Value} {o : Nat} : mw d 362 Q 89 [x0, x1, x2, x3, x4, x5, x6] (.ref o :: st) h = (mg h o 14 ∧ mw d 362 Q 92 [x0, x1, x2, x3, x4, x5, x6] (.int (mh_i h o 68) :: st) h) := (mw_at mj_362_89).trans (z_geti (by decide) (by decide) (Or.inl rfl))
theorem mj_362_92 : mc_P 362 92 = some (.ifCond .ne 31, 3, 0, 0, 0) := by decide +kernel
theorem s_362_92 {x0 x1 x2 x3 x4 x5 x6 : Option Value} {x : Int32} : mw d 362 Q 92 [x0, x1, x2, x3, x4, x5, x6] (.int x :: st) h = mB (¬ x = 0) (mw d 362 Q) 123 95 [x0, x1, x2, x3, x4, x5, x6] st h := (mw_at mj_362_92).trans (z_if_ne (by decide) rfl)
theorem mj_362_95 : mc_P 362 95 = some (.aload_n 0, 1, 0, 0, 0) := by decide +kernel
theorem s_362_95 {x1 x2 x3 x4 x5 x6 : Option Value} {w : Value} : mw d 362 Q 95 [some w, x1, x2, x3, x4, x5, x6] (st) h = mv_a w (mw d 362 Q 96 [some w, x1, x2, x3, x4, x5, x6] (w :: st) h) := (mw_at mj_362_95).trans (z_aload_n rfl)
theorem mj_362_96 : mc_P 362 96 = some (.iload_n 3, 1, 0, 0, 0) := by decide +kernel
theorem s_362_96 {x0 x1 x2 x4 x5 x6 : Option Value} {w : Value} : mw d 362 Q 96 [x0, x1, x2, some w, x4, x5, x6] (st) h = mv_i w (mw d 362 Q 97 [x0, x1, x2, some w, x4, x5, x6] (w :: st) h) := (mw_at mj_362_96).trans (z_iload_n rfl)
theorem mj_362_97 : mc_P 362 97 = some (.invokevirtual 457, 3, 362, 14, 2) := by decide +kernel
theorem s_362_97 {x0 x1 x2 x3 x4 x5 x6 : Option Value} {o : Nat} {a1 : Value} : mw (d + 1) 362 Q 97 [x0, x1, x2, x3, x4, x5, x6] (a1 :: .ref o :: st) h = (mg h o 14 ∧ mca st 8 ∧ mca [.ref o, a1] 7 ∧ mcall d 362 [.ref o, a1] h (mK (d + 1) 362 Q 100 [x0, x1, x2, x3, x4, x5, x6] st)) := (mw_at mj_362_97).trans ((z_invv (As := [a1]) (by decide) rfl rfl).trans (congrArg (And _) (congrArg (And _) (mC_nl nl_362))))
theorem mj_362_100 : mc_P 362 100 = some (.iload_n 2, 1, 0, 0, 0) := by decide +kernel
theorem s_362_100 {x0 x1 x3 x4 x5 x6 : Option Value} {w : Value} : mw d 362 Q 100 [x0, x1, some w, x3, x4, x5, x6] (st) h = mv_i w (mw d 362 Q 101 [x0, x1, some w, x3, x4, x5, x6] (w :: st) h) := (mw_at mj_362_100).trans (z_iload_n rfl)
theorem mj_362_101 : mc_P 362 101 = some (.if_icmp .eq 13, 3, 0, 0, 0) := by decide +kernel
theorem s_362_101 {x0 x1 x2 x3 x4 x5 x6 : Option Value} {x w : Int32} : mw d 362 Q 101 [x0, x1, x2, x3, x4, x5, x6] (.int w :: .int x :: st) h = mB (x = w) (mw d 362 Q) 114 104 [x0, x1, x2, x3, x4, x5, x6] st h := (mw_at mj_362_101).trans (z_icmp_eq (by decide) rfl)
theorem mj_362_104 : mc_P 362 104 = some (.iload_n 2, 1, 0, 0, 0) := by decide +kernel
theorem s_362_104 {x0 x1 x3 x4 x5 x6 : Option Value} {w : Value} : mw d 362 Q 104 [x0, x1, some w, x3, x4, x5, x6] (st) h = mv_i w (mw d 362 Q 105 [x0, x1, some w, x3, x4, x5, x6] (w :: st) h) := (mw_at mj_362_104).trans (z_iload_n rfl)
theorem mj_362_105 : mc_P 362 105 = some (.ifCond .ne 7, 3, 0, 0, 0) := by decide +kernel
theorem s_362_105 {x0 x1 x2 x3 x4 x5 x6 : Option Value} {x : Int32} : mw d 362 Q 105 [x0, x1, x2, x3, x4, x5, x6] (.int x :: st) h = mB (¬ x = 0) (mw d 362 Q) 112 108 [x0, x1, x2, x3, x4, x5, x6] st h := (mw_at mj_362_105).trans (z_if_ne (by decide) rfl)
theorem mj_362_108 : mc_P 362 108 = some (.iconst 1, 1, 0, 0, 0) := by decide +kernel
theorem s_362_108 {x0 x1 x2 x3 x4 x5 x6 : Option Value} : mw d 362 Q 108 [x0, x1, x2, x3, x4, x5, x6] (st) h = mw d 362 Q 109 [x0, x1, x2, x3, x4, x5, x6] (.int 1 :: st) h := (mw_at mj_362_108).trans (z_iconst (by decide))
theorem mj_362_109 : mc_P 362 109 = some (.goto 4, 3, 0, 0, 0) := by decide +kernel
theorem s_362_109 {x0 x1 x2 x3 x4 x5 x6 : Option Value} : mw d 362 Q 109 [x0, x1, x2, x3, x4, x5, x6] (st) h = mw d 362 Q 113 [x0, x1, x2, x3, x4, x5, x6] (st) h := (mw_at mj_362_109).trans (z_goto (by decide))
theorem mj_362_112 : mc_P 362 112 = some (.iconst 0, 1, 0, 0, 0) := by decide +kernel
theorem s_362_112 {x0 x1 x2 x3 x4 x5 x6 : Option Value} : mw d 362 Q 112 [x0, x1, x2, x3, x4, x5, x6] (st) h = mw d 362 Q 113 [x0, x1, x2, x3, x4, x5, x6] (.int 0 :: st) h := (mw_at mj_362_112).trans (z_iconst (by decide))
theorem mj_362_113 : mc_P 362 113 = some (.ireturn, 1, 0, 3, 0) := by decide +kernel
theorem s_362_113 {x0 x1 x2 x3 x4 x5 x6 : Option Value} {x : Int32} : mw d 362 Q 113 [x0, x1, x2, x3, x4, x5, x6] ([.int x]) h = ((x = 0 ∨ x = 1) ∧ Q (some (.int x)) h) := (mw_at mj_362_113).trans (z_zret)
theorem mj_362_114 : mc_P 362 114 = some (.aload_n 0, 1, 0, 0, 0) := by decide +kernel
theorem s_362_114 {x1 x2 x3 x4 x5 x6 : Option Value} {w : Value} : mw d 362 Q 114 [some w, x1, x2, x3, x4, x5, x6] (st) h = mv_a w (mw d 362 Q 115 [some w, x1, x2, x3, x4, x5, x6] (w :: st) h) := (mw_at mj_362_114).trans (z_aload_n rfl)
theorem mj_362_115 : mc_P 362 115 = some (.iload_n 3, 1, 0, 0, 0) := by decide +kernel
theorem s_362_115 {x0 x1 x2 x4 x5 x6 : Option Value} {w : Value} : mw d 362 Q 115 [x0, x1, x2, some w, x4, x5, x6] (st) h = mv_i w (mw d 362 Q 116 [x0, x1, x2, some w, x4, x5, x6] (w :: st) h) := (mw_at mj_362_115).trans (z_iload_n rfl)
theorem mj_362_116 : mc_P 362 116 = some (.invokevirtual 348, 3, 333, 14, 2) := by decide +kernel
theorem s_362_116 {x0 x1 x2 x3 x4 x5 x6 : Option Value} {o : Nat} {a1 : Value} : mw (d + 1) 362 Q 116 [x0, x1, x2, x3, x4, x5, x6] (a1 :: .ref o :: st) h = (mg h o 14 ∧ mca st 8 ∧ mca [.ref o, a1] 2 ∧ mcall d 333 [.ref o, a1] h (mK (d + 1) 362 Q 119 [x0, x1, x2, x3, x4, x5, x6] st)) := (mw_at mj_362_116).trans ((z_invv (As := [a1]) (by decide) rfl rfl).trans (congrArg (And _) (congrArg (And _) (mC_nl nl_333))))
theorem mj_362_119 : mc_P 362 119 = some (.istore_n 3, 1, 0, 0, 0) := by decide +kernel
theorem s_362_119 {x0 x1 x2 x3 x4 x5 x6 : Option Value} {w : Int32} : mw d 362 Q 119 [x0, x1, x2, x3, x4, x5, x6] (.int w :: st) h = mw d 362 Q 120 [x0, x1, mk2 x2, some (.int w), x4, x5, x6] (st) h := (mw_at mj_362_119).trans (z_istore_n (Nat.le_of_ble_eq_true rfl) (me_s1_mk (j := 2) (w := x2) rfl))
theorem mj_362_120 : mc_P 362 120 = some (.goto (-41), 3, 0, 0, 0) := by decide +kernel
theorem s_362_120 {x0 x1 x2 x3 x4 x5 x6 : Option Value} : mw d 362 Q 120 [x0, x1, x2, x3, x4, x5, x6] (st) h = mw d 362 Q 79 [x0, x1, x2, x3, x4, x5, x6] (st) h := (mw_at mj_362_120).trans (z_goto (by decide))
theorem mj_362_123 : mc_P 362 123 = some (.iload_n 2, 1, 0, 0, 0) := by decide +kernel
theorem s_362_123 {x0 x1 x3 x4 x5 x6 : Option Value} {w : Value} : mw d 362 Q 123 [x0, x1, some w, x3, x4, x5, x6] (st) h = mv_i w (mw d 362 Q 124 [x0, x1, some w, x3, x4, x5, x6] (w :: st) h) := (mw_at mj_362_123).trans (z_iload_n rfl)
theorem mj_362_124 : mc_P 362 124 = some (.ireturn, 1, 0, 3, 0) := by decide +kernel
theorem s_362_124 {x0 x1 x2 x3 x4 x5 x6 : Option Value} {x : Int32} : mw d 362 Q 124 [x0, x1, x2, x3, x4, x5, x6] ([.int x]) h = ((x = 0 ∨ x = 1) ∧ Q (some (.int x)) h) := (mw_at mj_362_124).trans (z_zret)
theorem mj_362_125 : mc_P 362 125 = some (.aload_n 0, 1, 0, 0, 0) := by decide +kernel
theorem s_362_125 {x1 x2 x3 x4 x5 x6 : Option Value} {w : Value} : mw d 362 Q 125 [some w, x1, x2, x3, x4, x5, x6] (st) h = mv_a w (mw d 362 Q 126 [some w, x1, x2, x3, x4, x5, x6] (w :: st) h) := (mw_at mj_362_125).trans (z_aload_n rfl)
theorem mj_362_126 : mc_P 362 126 = some (.iload_n 1, 1, 0, 0, 0) := by decide +kernel
theorem s_362_126 {x0 x2 x3 x4 x5 x6 : Option Value} {w : Value} : mw d 362 Q 126 [x0, some w, x2, x3, x4, x5, x6] (st) h = mv_i w (mw d 362 Q 127 [x0, some w, x2, x3, x4, x5, x6] (w :: st) h) := (mw_at mj_362_126).trans (z_iload_n rfl)
theorem mj_362_127 : mc_P 362 127 = some (.iconst 1, 1, 0, 0, 0) := by decide +kernel
theorem s_362_127 {x0 x1 x2 x3 x4 x5 x6 : Option Value} : mw d 362 Q 127 [x0, x1, x2, x3, x4, x5, x6] (st) h = mw d 362 Q 128 [x0, x1, x2, x3, x4, x5, x6] (.int 1 :: st) h := (mw_at mj_362_127).trans (z_iconst (by decide))
theorem mj_362_128 : mc_P 362 128 = some (.iadd, 1, 0, 0, 0) := by decide +kernel
theorem s_362_128 {x0 x1 x2 x3 x4 x5 x6 : Option Value} {x w : Int32} : mw d 362 Q 128 [x0, x1, x2, x3, x4, x5, x6] (.int w :: .int x :: st) h = mw d 362 Q 129 [x0, x1, x2, x3, x4, x5, x6] (.int (x + w) :: st) h := (mw_at mj_362_128).trans (z_iadd)
theorem mj_362_129 : mc_P 362 129 = some (.invokevirtual 439, 3, 360, 14, 2) := by decide +kernel
theorem s_362_129 {x0 x1 x2 x3 x4 x5 x6 : Option Value} {o : Nat} {a1 : Value} : mw (d + 1) 362 Q 129 [x0, x1, x2, x3, x4, x5, x6] (a1 :: .ref o :: st) h = (mg h o 14 ∧ mca st 8 ∧ mca [.ref o, a1] 7 ∧ mcall d 360 [.ref o, a1] h (mK (d + 1) 362 Q 132 [x0, x1, x2, x3, x4, x5, x6] st)) := (mw_at mj_362_129).trans ((z_invv (As := [a1]) (by decide) rfl rfl).trans (congrArg (And _) (congrArg (And _) (mC_nl nl_360))))
theorem mj_362_132 : mc_P 362 132 = some (.lstore_n 2, 1, 0, 0, 0) := by decide +kernel
theorem s_362_132 {x0 x1 x2 x3 x4 x5 x6 : Option Value} {w : Int64} : mw d 362 Q 132 [x0, x1, x2, x3, x4, x5, x6] (.long w :: st) h = mw d 362 Q 133 [x0, mk2 x1, some (.long w), none, x4, x5, x6] (st) h := (mw_at mj_362_132).trans (z_lstore_n (Nat.le_of_ble_eq_true rfl) (me_s2_mk (j := 1) (w := x1) rfl))
theorem mj_362_133 : mc_P 362 133 = some (.aload_n 0, 1, 0, 0, 0) := by decide +kernel
theorem s_362_133 {x1 x2 x3 x4 x5 x6 : Option Value} {w : Value} : mw d 362 Q 133 [some w, x1, x2, x3, x4, x5, x6] (st) h = mv_a w (mw d 362 Q 134 [some w, x1, x2, x3, x4, x5, x6] (w :: st) h) := (mw_at mj_362_133).trans (z_aload_n rfl)
theorem mj_362_134 : mc_P 362 134 = some (.aload_n 0, 1, 0, 0, 0) := by decide +kernel
theorem s_362_134 {x1 x2 x3 x4 x5 x6 : Option Value} {w : Value} : mw d 362 Q 134 [some w, x1, x2, x3, x4, x5, x6] (st) h = mv_a w (mw d 362 Q 135 [some w, x1, x2, x3, x4, x5, x6] (w :: st) h) := (mw_at mj_362_134).trans (z_aload_n rfl)
theorem mj_362_135 : mc_P 362 135 = some (.iload_n 1, 1, 0, 0, 0) := by decide +kernel
theorem s_362_135 {x0 x2 x3 x4 x5 x6 : Option Value} {w : Value} : mw d 362 Q 135 [x0, some w, x2, x3, x4, x5, x6] (st) h = mv_i w (mw d 362 Q 136 [x0, some w, x2, x3, x4, x5, x6] (w :: st) h) := (mw_at mj_362_135).trans (z_iload_n rfl)
theorem mj_362_136 : mc_P 362 136 = some (.invokevirtual 391, 3, 334, 14, 2) := by decide +kernel
theorem s_362_136 {x0 x1 x2 x3 x4 x5 x6 : Option Value} {o : Nat} {a1 : Value} : mw (d + 1) 362 Q 136 [x0, x1, x2, x3, x4, x5, x6] (a1 :: .ref o :: st) h = (mg h o 14 ∧ mca st 8 ∧ mca [.ref o, a1] 2 ∧ mcall d 334 [.ref o, a1] h (mK (d + 1) 362 Q 139 [x0, x1, x2, x3, x4, x5, x6] st)) := (mw_at mj_362_136).trans ((z_invv (As := [a1]) (by decide) rfl rfl).trans (congrArg (And _) (congrArg (And _) (mC_nl nl_334))))
theorem mj_362_139 : mc_P 362 139 = some (.invokevirtual 439, 3, 360, 14, 2) := by decide +kernel
theorem s_362_139 {x0 x1 x2 x3 x4 x5 x6 : Option Value} {o : Nat} {a1 : Value} : mw (d + 1) 362 Q 139 [x0, x1, x2, x3, x4, x5, x6] (a1 :: .ref o :: st) h = (mg h o 14 ∧ mca st 8 ∧ mca [.ref o, a1] 7 ∧ mcall d 360 [.ref o, a1] h (mK (d + 1) 362 Q 142 [x0, x1, x2, x3, x4, x5, x6] st)) := (mw_at mj_362_139).trans ((z_invv (As := [a1]) (by decide) rfl rfl).trans (congrArg (And _) (congrArg (And _) (mC_nl nl_360))))
theorem mj_362_142 : mc_P 362 142 = some (.lstore 4, 2, 0, 0, 0) := by decide +kernel
theorem s_362_142 {x0 x1 x2 x3 x4 x5 x6 : Option Value} {w : Int64} : mw d 362 Q 142 [x0, x1, x2, x3, x4, x5, x6] (.long w :: st) h = mw d 362 Q 144 [x0, x1, x2, mk2 x3, some (.long w), none, x6] (st) h := (mw_at mj_362_142).trans (z_lstore (Nat.le_of_ble_eq_true rfl) (me_s2_mk (j := 3) (w := x3) rfl))
theorem mj_362_144 : mc_P 362 144 = some (.aload_n 0, 1, 0, 0, 0) := by decide +kernel
theorem s_362_144 {x1 x2 x3 x4 x5 x6 : Option Value} {w : Value} : mw d 362 Q 144 [some w, x1, x2, x3, x4, x5, x6] (st) h = mv_a w (mw d 362 Q 145 [some w, x1, x2, x3, x4, x5, x6] (w :: st) h) := (mw_at mj_362_144).trans (z_aload_n rfl)
theorem mj_362_145 : mc_P 362 145 = some (.getfield 48, 3, 14, 19, 0) := by decide +kernel
theorem s_362_145 {x0 x1 x2 x3 x4 x5 x6 : Option Value} {o : Nat} : mw d 362 Q 145 [x0, x1, x2, x3, x4, x5, x6] (.ref o :: st) h = (mg h o 14 ∧ mw d 362 Q 148 [x0, x1, x2, x3, x4, x5, x6] (va_rf (mh_r h o 19) :: st) h) := (mw_at mj_362_145).trans (z_getr (by decide) (by decide) rfl)
theorem mj_362_148 : mc_P 362 148 = some (.iload_n 1, 1, 0, 0, 0) := by decide +kernel
theorem s_362_148 {x0 x2 x3 x4 x5 x6 : Option Value} {w : Value} : mw d 362 Q 148 [x0, some w, x2, x3, x4, x5, x6] (st) h = mv_i w (mw d 362 Q 149 [x0, some w, x2, x3, x4, x5, x6] (w :: st) h) := (mw_at mj_362_148).trans (z_iload_n rfl)
theorem mj_362_149 : mc_P 362 149 = some (.baload, 1, 0, 0, 0) := by decide +kernel
theorem s_362_149 {x0 x1 x2 x3 x4 x5 x6 : Option Value} {o : Nat} {i : Int32} : mw d 362 Q 149 [x0, x1, x2, x3, x4, x5, x6] (.int i :: .ref o :: st) h = (mgb h o ∧ mx i (mh_l h o) ∧ mw d 362 Q 150 [x0, x1, x2, x3, x4, x5, x6] (.int (mh_i h o i.toNatClampNeg) :: st) h) := (mw_at mj_362_149).trans (z_bald)
theorem mj_362_150 : mc_P 362 150 = some (.istore 6, 2, 0, 0, 0) := by decide +kernel
theorem s_362_150 {x0 x1 x2 x3 x4 x5 x6 : Option Value} {w : Int32} : mw d 362 Q 150 [x0, x1, x2, x3, x4, x5, x6] (.int w :: st) h = mw d 362 Q 152 [x0, x1, x2, x3, x4, mk2 x5, some (.int w)] (st) h := (mw_at mj_362_150).trans (z_istore (Nat.le_of_ble_eq_true rfl) (me_s1_mk (j := 5) (w := x5) rfl))
theorem mj_362_152 : mc_P 362 152 = some (.iload 6, 2, 0, 0, 0) := by decide +kernel
theorem s_362_152 {x0 x1 x2 x3 x4 x5 : Option Value} {w : Value} : mw d 362 Q 152 [x0, x1, x2, x3, x4, x5, some w] (st) h = mv_i w (mw d 362 Q 154 [x0, x1, x2, x3, x4, x5, some w] (w :: st) h) := (mw_at mj_362_152).trans (z_iload rfl)
theorem mj_362_154 : mc_P 362 154 = some (.bipush 27, 2, 0, 0, 0) := by decide +kernel
theorem s_362_154 {x0 x1 x2 x3 x4 x5 x6 : Option Value} : mw d 362 Q 154 [x0, x1, x2, x3, x4, x5, x6] (st) h = mw d 362 Q 156 [x0, x1, x2, x3, x4, x5, x6] (.int 27 :: st) h := (mw_at mj_362_154).trans (z_bipush (by decide))
theorem mj_362_156 : mc_P 362 156 = some (.if_icmp .ne 18, 3, 0, 0, 0) := by decide +kernel
theorem s_362_156 {x0 x1 x2 x3 x4 x5 x6 : Option Value} {x w : Int32} : mw d 362 Q 156 [x0, x1, x2, x3, x4, x5, x6] (.int w :: .int x :: st) h = mB (¬ x = w) (mw d 362 Q) 174 159 [x0, x1, x2, x3, x4, x5, x6] st h := (mw_at mj_362_156).trans (z_icmp_ne (by decide) rfl)
theorem mj_362_159 : mc_P 362 159 = some (.lload_n 2, 1, 0, 0, 0) := by decide +kernel
theorem s_362_159 {x0 x1 x3 x4 x5 x6 : Option Value} {w : Value} : mw d 362 Q 159 [x0, x1, some w, x3, x4, x5, x6] (st) h = mv_l w (mw d 362 Q 160 [x0, x1, some w, x3, x4, x5, x6] (w :: st) h) := (mw_at mj_362_159).trans (z_lload_n rfl)
theorem mj_362_160 : mc_P 362 160 = some (.lload 4, 2, 0, 0, 0) := by decide +kernel
theorem s_362_160 {x0 x1 x2 x3 x5 x6 : Option Value} {w : Value} : mw d 362 Q 160 [x0, x1, x2, x3, some w, x5, x6] (st) h = mv_l w (mw d 362 Q 162 [x0, x1, x2, x3, some w, x5, x6] (w :: st) h) := (mw_at mj_362_160).trans (z_lload rfl)
theorem mj_362_162 : mc_P 362 162 = some (.lcmp, 1, 0, 0, 0) := by decide +kernel
theorem s_362_162 {x0 x1 x2 x3 x4 x5 x6 : Option Value} {x w : Int64} : mw d 362 Q 162 [x0, x1, x2, x3, x4, x5, x6] (.long w :: .long x :: st) h = mw d 362 Q 163 [x0, x1, x2, x3, x4, x5, x6] (.int (lg_cmp x w) :: st) h := (mw_at mj_362_162).trans (z_lcmp)
theorem mj_362_163 : mc_P 362 163 = some (.ifCond .ge 7, 3, 0, 0, 0) := by decide +kernel
theorem s_362_163 {x0 x1 x2 x3 x4 x5 x6 : Option Value} {x : Int32} : mw d 362 Q 163 [x0, x1, x2, x3, x4, x5, x6] (.int x :: st) h = mB (0 ≤ x) (mw d 362 Q) 170 166 [x0, x1, x2, x3, x4, x5, x6] st h := (mw_at mj_362_163).trans (z_if_ge (by decide) rfl)
theorem mj_362_166 : mc_P 362 166 = some (.iconst 1, 1, 0, 0, 0) := by decide +kernel
theorem s_362_166 {x0 x1 x2 x3 x4 x5 x6 : Option Value} : mw d 362 Q 166 [x0, x1, x2, x3, x4, x5, x6] (st) h = mw d 362 Q 167 [x0, x1, x2, x3, x4, x5, x6] (.int 1 :: st) h := (mw_at mj_362_166).trans (z_iconst (by decide))
theorem mj_362_167 : mc_P 362 167 = some (.goto 107, 3, 0, 0, 0) := by decide +kernel
theorem s_362_167 {x0 x1 x2 x3 x4 x5 x6 : Option Value} : mw d 362 Q 167 [x0, x1, x2, x3, x4, x5, x6] (st) h = mw d 362 Q 274 [x0, x1, x2, x3, x4, x5, x6] (st) h := (mw_at mj_362_167).trans (z_goto (by decide))
theorem mj_362_170 : mc_P 362 170 = some (.iconst 0, 1, 0, 0, 0) := by decide +kernel
theorem s_362_170 {x0 x1 x2 x3 x4 x5 x6 : Option Value} : mw d 362 Q 170 [x0, x1, x2, x3, x4, x5, x6] (st) h = mw d 362 Q 171 [x0, x1, x2, x3, x4, x5, x6] (.int 0 :: st) h := (mw_at mj_362_170).trans (z_iconst (by decide))
theorem mj_362_171 : mc_P 362 171 = some (.goto 103, 3, 0, 0, 0) := by decide +kernel
theorem s_362_171 {x0 x1 x2 x3 x4 x5 x6 : Option Value} : mw d 362 Q 171 [x0, x1, x2, x3, x4, x5, x6] (st) h = mw d 362 Q 274 [x0, x1, x2, x3, x4, x5, x6] (st) h := (mw_at mj_362_171).trans (z_goto (by decide))
theorem mj_362_174 : mc_P 362 174 = some (.iload 6, 2, 0, 0, 0) := by decide +kernel
theorem s_362_174 {x0 x1 x2 x3 x4 x5 : Option Value} {w : Value} : mw d 362 Q 174 [x0, x1, x2, x3, x4, x5, some w] (st) h = mv_i w (mw d 362 Q 176 [x0, x1, x2, x3, x4, x5, some w] (w :: st) h) := (mw_at mj_362_174).trans (z_iload rfl)
theorem mj_362_176 : mc_P 362 176 = some (.bipush 28, 2, 0, 0, 0) := by decide +kernel
theorem s_362_176 {x0 x1 x2 x3 x4 x5 x6 : Option Value} : mw d 362 Q 176 [x0, x1, x2, x3, x4, x5, x6] (st) h = mw d 362 Q 178 [x0, x1, x2, x3, x4, x5, x6] (.int 28 :: st) h := (mw_at mj_362_176).trans (z_bipush (by decide))
theorem mj_362_178 : mc_P 362 178 = some (.if_icmp .ne 18, 3, 0, 0, 0) := by decide +kernel
theorem s_362_178 {x0 x1 x2 x3 x4 x5 x6 : Option Value} {x w : Int32} : mw d 362 Q 178 [x0, x1, x2, x3, x4, x5, x6] (.int w :: .int x :: st) h = mB (¬ x = w) (mw d 362 Q) 196 181 [x0, x1, x2, x3, x4, x5, x6] st h := (mw_at mj_362_178).trans (z_icmp_ne (by decide) rfl)
theorem mj_362_181 : mc_P 362 181 = some (.lload_n 2, 1, 0, 0, 0) := by decide +kernel
theorem s_362_181 {x0 x1 x3 x4 x5 x6 : Option Value} {w : Value} : mw d 362 Q 181 [x0, x1, some w, x3, x4, x5, x6] (st) h = mv_l w (mw d 362 Q 182 [x0, x1, some w, x3, x4, x5, x6] (w :: st) h) := (mw_at mj_362_181).trans (z_lload_n rfl)
theorem mj_362_182 : mc_P 362 182 = some (.lload 4, 2, 0, 0, 0) := by decide +kernel
theorem s_362_182 {x0 x1 x2 x3 x5 x6 : Option Value} {w : Value} : mw d 362 Q 182 [x0, x1, x2, x3, some w, x5, x6] (st) h = mv_l w (mw d 362 Q 184 [x0, x1, x2, x3, some w, x5, x6] (w :: st) h) := (mw_at mj_362_182).trans (z_lload rfl)
theorem mj_362_184 : mc_P 362 184 = some (.lcmp, 1, 0, 0, 0) := by decide +kernel
theorem s_362_184 {x0 x1 x2 x3 x4 x5 x6 : Option Value} {x w : Int64} : mw d 362 Q 184 [x0, x1, x2, x3, x4, x5, x6] (.long w :: .long x :: st) h = mw d 362 Q 185 [x0, x1, x2, x3, x4, x5, x6] (.int (lg_cmp x w) :: st) h := (mw_at mj_362_184).trans (z_lcmp)
theorem mj_362_185 : mc_P 362 185 = some (.ifCond .gt 7, 3, 0, 0, 0) := by decide +kernel
theorem s_362_185 {x0 x1 x2 x3 x4 x5 x6 : Option Value} {x : Int32} : mw d 362 Q 185 [x0, x1, x2, x3, x4, x5, x6] (.int x :: st) h = mB (0 < x) (mw d 362 Q) 192 188 [x0, x1, x2, x3, x4, x5, x6] st h := (mw_at mj_362_185).trans (z_if_gt (by decide) rfl)
theorem mj_362_188 : mc_P 362 188 = some (.iconst 1, 1, 0, 0, 0) := by decide +kernel
theorem s_362_188 {x0 x1 x2 x3 x4 x5 x6 : Option Value} : mw d 362 Q 188 [x0, x1, x2, x3, x4, x5, x6] (st) h = mw d 362 Q 189 [x0, x1, x2, x3, x4, x5, x6] (.int 1 :: st) h := (mw_at mj_362_188).trans (z_iconst (by decide))
theorem mj_362_189 : mc_P 362 189 = some (.goto 85, 3, 0, 0, 0) := by decide +kernel
theorem s_362_189 {x0 x1 x2 x3 x4 x5 x6 : Option Value} : mw d 362 Q 189 [x0, x1, x2, x3, x4, x5, x6] (st) h = mw d 362 Q 274 [x0, x1, x2, x3, x4, x5, x6] (st) h := (mw_at mj_362_189).trans (z_goto (by decide))
theorem mj_362_192 : mc_P 362 192 = some (.iconst 0, 1, 0, 0, 0) := by decide +kernel
theorem s_362_192 {x0 x1 x2 x3 x4 x5 x6 : Option Value} : mw d 362 Q 192 [x0, x1, x2, x3, x4, x5, x6] (st) h = mw d 362 Q 193 [x0, x1, x2, x3, x4, x5, x6] (.int 0 :: st) h := (mw_at mj_362_192).trans (z_iconst (by decide))
theorem mj_362_193 : mc_P 362 193 = some (.goto 81, 3, 0, 0, 0) := by decide +kernel
theorem s_362_193 {x0 x1 x2 x3 x4 x5 x6 : Option Value} : mw d 362 Q 193 [x0, x1, x2, x3, x4, x5, x6] (st) h = mw d 362 Q 274 [x0, x1, x2, x3, x4, x5, x6] (st) h := (mw_at mj_362_193).trans (z_goto (by decide))
theorem mj_362_196 : mc_P 362 196 = some (.iload 6, 2, 0, 0, 0) := by decide +kernel
theorem s_362_196 {x0 x1 x2 x3 x4 x5 : Option Value} {w : Value} : mw d 362 Q 196 [x0, x1, x2, x3, x4, x5, some w] (st) h = mv_i w (mw d 362 Q 198 [x0, x1, x2, x3, x4, x5, some w] (w :: st) h) := (mw_at mj_362_196).trans (z_iload rfl)
theorem mj_362_198 : mc_P 362 198 = some (.bipush 29, 2, 0, 0, 0) := by decide +kernel
theorem s_362_198 {x0 x1 x2 x3 x4 x5 x6 : Option Value} : mw d 362 Q 198 [x0, x1, x2, x3, x4, x5, x6] (st) h = mw d 362 Q 200 [x0, x1, x2, x3, x4, x5, x6] (.int 29 :: st) h := (mw_at mj_362_198).trans (z_bipush (by decide))
theorem mj_362_200 : mc_P 362 200 = some (.if_icmp .ne 18, 3, 0, 0, 0) := by decide +kernel
theorem s_362_200 {x0 x1 x2 x3 x4 x5 x6 : Option Value} {x w : Int32} : mw d 362 Q 200 [x0, x1, x2, x3, x4, x5, x6] (.int w :: .int x :: st) h = mB (¬ x = w) (mw d 362 Q) 218 203 [x0, x1, x2, x3, x4, x5, x6] st h := (mw_at mj_362_200).trans (z_icmp_ne (by decide) rfl)
theorem mj_362_203 : mc_P 362 203 = some (.lload_n 2, 1, 0, 0, 0) := by decide +kernel
theorem s_362_203 {x0 x1 x3 x4 x5 x6 : Option Value} {w : Value} : mw d 362 Q 203 [x0, x1, some w, x3, x4, x5, x6] (st) h = mv_l w (mw d 362 Q 204 [x0, x1, some w, x3, x4, x5, x6] (w :: st) h) := (mw_at mj_362_203).trans (z_lload_n rfl)
theorem mj_362_204 : mc_P 362 204 = some (.lload 4, 2, 0, 0, 0) := by decide +kernel
theorem s_362_204 {x0 x1 x2 x3 x5 x6 : Option Value} {w : Value} : mw d 362 Q 204 [x0, x1, x2, x3, some w, x5, x6] (st) h = mv_l w (mw d 362 Q 206 [x0, x1, x2, x3, some w, x5, x6] (w :: st) h) := (mw_at mj_362_204).trans (z_lload rfl)
theorem mj_362_206 : mc_P 362 206 = some (.lcmp, 1, 0, 0, 0) := by decide +kernel
theorem s_362_206 {x0 x1 x2 x3 x4 x5 x6 : Option Value} {x w : Int64} : mw d 362 Q 206 [x0, x1, x2, x3, x4, x5, x6] (.long w :: .long x :: st) h = mw d 362 Q 207 [x0, x1, x2, x3, x4, x5, x6] (.int (lg_cmp x w) :: st) h := (mw_at mj_362_206).trans (z_lcmp)
theorem mj_362_207 : mc_P 362 207 = some (.ifCond .le 7, 3, 0, 0, 0) := by decide +kernel
theorem s_362_207 {x0 x1 x2 x3 x4 x5 x6 : Option Value} {x : Int32} : mw d 362 Q 207 [x0, x1, x2, x3, x4, x5, x6] (.int x :: st) h = mB (x ≤ 0) (mw d 362 Q) 214 210 [x0, x1, x2, x3, x4, x5, x6] st h := (mw_at mj_362_207).trans (z_if_le (by decide) rfl)
theorem mj_362_210 : mc_P 362 210 = some (.iconst 1, 1, 0, 0, 0) := by decide +kernel
theorem s_362_210 {x0 x1 x2 x3 x4 x5 x6 : Option Value} : mw d 362 Q 210 [x0, x1, x2, x3, x4, x5, x6] (st) h = mw d 362 Q 211 [x0, x1, x2, x3, x4, x5, x6] (.int 1 :: st) h := (mw_at mj_362_210).trans (z_iconst (by decide))
theorem mj_362_211 : mc_P 362 211 = some (.goto 63, 3, 0, 0, 0) := by decide +kernel
theorem s_362_211 {x0 x1 x2 x3 x4 x5 x6 : Option Value} : mw d 362 Q 211 [x0, x1, x2, x3, x4, x5, x6] (st) h = mw d 362 Q 274 [x0, x1, x2, x3, x4, x5, x6] (st) h := (mw_at mj_362_211).trans (z_goto (by decide))
theorem mj_362_214 : mc_P 362 214 = some (.iconst 0, 1, 0, 0, 0) := by decide +kernel
theorem s_362_214 {x0 x1 x2 x3 x4 x5 x6 : Option Value} : mw d 362 Q 214 [x0, x1, x2, x3, x4, x5, x6] (st) h = mw d 362 Q 215 [x0, x1, x2, x3, x4, x5, x6] (.int 0 :: st) h := (mw_at mj_362_214).trans (z_iconst (by decide))
theorem mj_362_215 : mc_P 362 215 = some (.goto 59, 3, 0, 0, 0) := by decide +kernel
theorem s_362_215 {x0 x1 x2 x3 x4 x5 x6 : Option Value} : mw d 362 Q 215 [x0, x1, x2, x3, x4, x5, x6] (st) h = mw d 362 Q 274 [x0, x1, x2, x3, x4, x5, x6] (st) h := (mw_at mj_362_215).trans (z_goto (by decide))
theorem mj_362_218 : mc_P 362 218 = some (.iload 6, 2, 0, 0, 0) := by decide +kernel
theorem s_362_218 {x0 x1 x2 x3 x4 x5 : Option Value} {w : Value} : mw d 362 Q 218 [x0, x1, x2, x3, x4, x5, some w] (st) h = mv_i w (mw d 362 Q 220 [x0, x1, x2, x3, x4, x5, some w] (w :: st) h) := (mw_at mj_362_218).trans (z_iload rfl)
theorem mj_362_220 : mc_P 362 220 = some (.bipush 30, 2, 0, 0, 0) := by decide +kernel
theorem s_362_220 {x0 x1 x2 x3 x4 x5 x6 : Option Value} : mw d 362 Q 220 [x0, x1, x2, x3, x4, x5, x6] (st) h = mw d 362 Q 222 [x0, x1, x2, x3, x4, x5, x6] (.int 30 :: st) h := (mw_at mj_362_220).trans (z_bipush (by decide))
theorem mj_362_222 : mc_P 362 222 = some (.if_icmp .ne 18, 3, 0, 0, 0) := by decide +kernel
theorem s_362_222 {x0 x1 x2 x3 x4 x5 x6 : Option Value} {x w : Int32} : mw d 362 Q 222 [x0, x1, x2, x3, x4, x5, x6] (.int w :: .int x :: st) h = mB (¬ x = w) (mw d 362 Q) 240 225 [x0, x1, x2, x3, x4, x5, x6] st h := (mw_at mj_362_222).trans (z_icmp_ne (by decide) rfl)
theorem mj_362_225 : mc_P 362 225 = some (.lload_n 2, 1, 0, 0, 0) := by decide +kernel
theorem s_362_225 {x0 x1 x3 x4 x5 x6 : Option Value} {w : Value} : mw d 362 Q 225 [x0, x1, some w, x3, x4, x5, x6] (st) h = mv_l w (mw d 362 Q 226 [x0, x1, some w, x3, x4, x5, x6] (w :: st) h) := (mw_at mj_362_225).trans (z_lload_n rfl)
theorem mj_362_226 : mc_P 362 226 = some (.lload 4, 2, 0, 0, 0) := by decide +kernel
theorem s_362_226 {x0 x1 x2 x3 x5 x6 : Option Value} {w : Value} : mw d 362 Q 226 [x0, x1, x2, x3, some w, x5, x6] (st) h = mv_l w (mw d 362 Q 228 [x0, x1, x2, x3, some w, x5, x6] (w :: st) h) := (mw_at mj_362_226).trans (z_lload rfl)
theorem mj_362_228 : mc_P 362 228 = some (.lcmp, 1, 0, 0, 0) := by decide +kernel
theorem s_362_228 {x0 x1 x2 x3 x4 x5 x6 : Option Value} {x w : Int64} : mw d 362 Q 228 [x0, x1, x2, x3, x4, x5, x6] (.long w :: .long x :: st) h = mw d 362 Q 229 [x0, x1, x2, x3, x4, x5, x6] (.int (lg_cmp x w) :: st) h := (mw_at mj_362_228).trans (z_lcmp)
theorem mj_362_229 : mc_P 362 229 = some (.ifCond .lt 7, 3, 0, 0, 0) := by decide +kernel
theorem s_362_229 {x0 x1 x2 x3 x4 x5 x6 : Option Value} {x : Int32} : mw d 362 Q 229 [x0, x1, x2, x3, x4, x5, x6] (.int x :: st) h = mB (x < 0) (mw d 362 Q) 236 232 [x0, x1, x2, x3, x4, x5, x6] st h := (mw_at mj_362_229).trans (z_if_lt (by decide) rfl)
theorem mj_362_232 : mc_P 362 232 = some (.iconst 1, 1, 0, 0, 0) := by decide +kernel
theorem s_362_232 {x0 x1 x2 x3 x4 x5 x6 : Option Value} : mw d 362 Q 232 [x0, x1, x2, x3, x4, x5, x6] (st) h = mw d 362 Q 233 [x0, x1, x2, x3, x4, x5, x6] (.int 1 :: st) h := (mw_at mj_362_232).trans (z_iconst (by decide))
theorem mj_362_233 : mc_P 362 233 = some (.goto 41, 3, 0, 0, 0) := by decide +kernel
theorem s_362_233 {x0 x1 x2 x3 x4 x5 x6 : Option Value} : mw d 362 Q 233 [x0, x1, x2, x3, x4, x5, x6] (st) h = mw d 362 Q 274 [x0, x1, x2, x3, x4, x5, x6] (st) h := (mw_at mj_362_233).trans (z_goto (by decide))
theorem mj_362_236 : mc_P 362 236 = some (.iconst 0, 1, 0, 0, 0) := by decide +kernel
theorem s_362_236 {x0 x1 x2 x3 x4 x5 x6 : Option Value} : mw d 362 Q 236 [x0, x1, x2, x3, x4, x5, x6] (st) h = mw d 362 Q 237 [x0, x1, x2, x3, x4, x5, x6] (.int 0 :: st) h := (mw_at mj_362_236).trans (z_iconst (by decide))
theorem mj_362_237 : mc_P 362 237 = some (.goto 37, 3, 0, 0, 0) := by decide +kernel
theorem s_362_237 {x0 x1 x2 x3 x4 x5 x6 : Option Value} : mw d 362 Q 237 [x0, x1, x2, x3, x4, x5, x6] (st) h = mw d 362 Q 274 [x0, x1, x2, x3, x4, x5, x6] (st) h := (mw_at mj_362_237).trans (z_goto (by decide))
theorem mj_362_240 : mc_P 362 240 = some (.iload 6, 2, 0, 0, 0) := by decide +kernel
theorem s_362_240 {x0 x1 x2 x3 x4 x5 : Option Value} {w : Value} : mw d 362 Q 240 [x0, x1, x2, x3, x4, x5, some w] (st) h = mv_i w (mw d 362 Q 242 [x0, x1, x2, x3, x4, x5, some w] (w :: st) h) := (mw_at mj_362_240).trans (z_iload rfl)
theorem mj_362_242 : mc_P 362 242 = some (.bipush 31, 2, 0, 0, 0) := by decide +kernel
theorem s_362_242 {x0 x1 x2 x3 x4 x5 x6 : Option Value} : mw d 362 Q 242 [x0, x1, x2, x3, x4, x5, x6] (st) h = mw d 362 Q 244 [x0, x1, x2, x3, x4, x5, x6] (.int 31 :: st) h := (mw_at mj_362_242).trans (z_bipush (by decide))
theorem mj_362_244 : mc_P 362 244 = some (.if_icmp .ne 18, 3, 0, 0, 0) := by decide +kernel
theorem s_362_244 {x0 x1 x2 x3 x4 x5 x6 : Option Value} {x w : Int32} : mw d 362 Q 244 [x0, x1, x2, x3, x4, x5, x6] (.int w :: .int x :: st) h = mB (¬ x = w) (mw d 362 Q) 262 247 [x0, x1, x2, x3, x4, x5, x6] st h := (mw_at mj_362_244).trans (z_icmp_ne (by decide) rfl)
theorem mj_362_247 : mc_P 362 247 = some (.lload_n 2, 1, 0, 0, 0) := by decide +kernel
theorem s_362_247 {x0 x1 x3 x4 x5 x6 : Option Value} {w : Value} : mw d 362 Q 247 [x0, x1, some w, x3, x4, x5, x6] (st) h = mv_l w (mw d 362 Q 248 [x0, x1, some w, x3, x4, x5, x6] (w :: st) h) := (mw_at mj_362_247).trans (z_lload_n rfl)
theorem mj_362_248 : mc_P 362 248 = some (.lload 4, 2, 0, 0, 0) := by decide +kernel
theorem s_362_248 {x0 x1 x2 x3 x5 x6 : Option Value} {w : Value} : mw d 362 Q 248 [x0, x1, x2, x3, some w, x5, x6] (st) h = mv_l w (mw d 362 Q 250 [x0, x1, x2, x3, some w, x5, x6] (w :: st) h) := (mw_at mj_362_248).trans (z_lload rfl)
theorem mj_362_250 : mc_P 362 250 = some (.lcmp, 1, 0, 0, 0) := by decide +kernel
theorem s_362_250 {x0 x1 x2 x3 x4 x5 x6 : Option Value} {x w : Int64} : mw d 362 Q 250 [x0, x1, x2, x3, x4, x5, x6] (.long w :: .long x :: st) h = mw d 362 Q 251 [x0, x1, x2, x3, x4, x5, x6] (.int (lg_cmp x w) :: st) h := (mw_at mj_362_250).trans (z_lcmp)
theorem mj_362_251 : mc_P 362 251 = some (.ifCond .ne 7, 3, 0, 0, 0) := by decide +kernel
theorem s_362_251 {x0 x1 x2 x3 x4 x5 x6 : Option Value} {x : Int32} : mw d 362 Q 251 [x0, x1, x2, x3, x4, x5, x6] (.int x :: st) h = mB (¬ x = 0) (mw d 362 Q) 258 254 [x0, x1, x2, x3, x4, x5, x6] st h := (mw_at mj_362_251).trans (z_if_ne (by decide) rfl)
theorem mj_362_254 : mc_P 362 254 = some (.iconst 1, 1, 0, 0, 0) := by decide +kernel
theorem s_362_254 {x0 x1 x2 x3 x4 x5 x6 : Option Value} : mw d 362 Q 254 [x0, x1, x2, x3, x4, x5, x6] (st) h = mw d 362 Q 255 [x0, x1, x2, x3, x4, x5, x6] (.int 1 :: st) h := (mw_at mj_362_254).trans (z_iconst (by decide))
theorem mj_362_255 : mc_P 362 255 = some (.goto 19, 3, 0, 0, 0) := by decide +kernel
theorem s_362_255 {x0 x1 x2 x3 x4 x5 x6 : Option Value} : mw d 362 Q 255 [x0, x1, x2, x3, x4, x5, x6] (st) h = mw d 362 Q 274 [x0, x1, x2, x3, x4, x5, x6] (st) h := (mw_at mj_362_255).trans (z_goto (by decide))
theorem mj_362_258 : mc_P 362 258 = some (.iconst 0, 1, 0, 0, 0) := by decide +kernel
theorem s_362_258 {x0 x1 x2 x3 x4 x5 x6 : Option Value} : mw d 362 Q 258 [x0, x1, x2, x3, x4, x5, x6] (st) h = mw d 362 Q 259 [x0, x1, x2, x3, x4, x5, x6] (.int 0 :: st) h := (mw_at mj_362_258).trans (z_iconst (by decide))
theorem mj_362_259 : mc_P 362 259 = some (.goto 15, 3, 0, 0, 0) := by decide +kernel
theorem s_362_259 {x0 x1 x2 x3 x4 x5 x6 : Option Value} : mw d 362 Q 259 [x0, x1, x2, x3, x4, x5, x6] (st) h = mw d 362 Q 274 [x0, x1, x2, x3, x4, x5, x6] (st) h := (mw_at mj_362_259).trans (z_goto (by decide))
theorem mj_362_262 : mc_P 362 262 = some (.lload_n 2, 1, 0, 0, 0) := by decide +kernel
theorem s_362_262 {x0 x1 x3 x4 x5 x6 : Option Value} {w : Value} : mw d 362 Q 262 [x0, x1, some w, x3, x4, x5, x6] (st) h = mv_l w (mw d 362 Q 263 [x0, x1, some w, x3, x4, x5, x6] (w :: st) h) := (mw_at mj_362_262).trans (z_lload_n rfl)
theorem mj_362_263 : mc_P 362 263 = some (.lload 4, 2, 0, 0, 0) := by decide +kernel
theorem s_362_263 {x0 x1 x2 x3 x5 x6 : Option Value} {w : Value} : mw d 362 Q 263 [x0, x1, x2, x3, some w, x5, x6] (st) h = mv_l w (mw d 362 Q 265 [x0, x1, x2, x3, some w, x5, x6] (w :: st) h) := (mw_at mj_362_263).trans (z_lload rfl)
theorem mj_362_265 : mc_P 362 265 = some (.lcmp, 1, 0, 0, 0) := by decide +kernel
theorem s_362_265 {x0 x1 x2 x3 x4 x5 x6 : Option Value} {x w : Int64} : mw d 362 Q 265 [x0, x1, x2, x3, x4, x5, x6] (.long w :: .long x :: st) h = mw d 362 Q 266 [x0, x1, x2, x3, x4, x5, x6] (.int (lg_cmp x w) :: st) h := (mw_at mj_362_265).trans (z_lcmp)
theorem mj_362_266 : mc_P 362 266 = some (.ifCond .eq 7, 3, 0, 0, 0) := by decide +kernel
theorem s_362_266 {x0 x1 x2 x3 x4 x5 x6 : Option Value} {x : Int32} : mw d 362 Q 266 [x0, x1, x2, x3, x4, x5, x6] (.int x :: st) h = mB (x = 0) (mw d 362 Q) 273 269 [x0, x1, x2, x3, x4, x5, x6] st h := (mw_at mj_362_266).trans (z_if_eq (by decide) rfl)
theorem mj_362_269 : mc_P 362 269 = some (.iconst 1, 1, 0, 0, 0) := by decide +kernel
theorem s_362_269 {x0 x1 x2 x3 x4 x5 x6 : Option Value} : mw d 362 Q 269 [x0, x1, x2, x3, x4, x5, x6] (st) h = mw d 362 Q 270 [x0, x1, x2, x3, x4, x5, x6] (.int 1 :: st) h := (mw_at mj_362_269).trans (z_iconst (by decide))
theorem mj_362_270 : mc_P 362 270 = some (.goto 4, 3, 0, 0, 0) := by decide +kernel
theorem s_362_270 {x0 x1 x2 x3 x4 x5 x6 : Option Value} : mw d 362 Q 270 [x0, x1, x2, x3, x4, x5, x6] (st) h = mw d 362 Q 274 [x0, x1, x2, x3, x4, x5, x6] (st) h := (mw_at mj_362_270).trans (z_goto (by decide))
theorem mj_362_273 : mc_P 362 273 = some (.iconst 0, 1, 0, 0, 0) := by decide +kernel
theorem s_362_273 {x0 x1 x2 x3 x4 x5 x6 : Option Value} : mw d 362 Q 273 [x0, x1, x2, x3, x4, x5, x6] (st) h = mw d 362 Q 274 [x0, x1, x2, x3, x4, x5, x6] (.int 0 :: st) h := (mw_at mj_362_273).trans (z_iconst (by decide))
theorem mj_362_274 : mc_P 362 274 = some (.ireturn, 1, 0, 3, 0) := by decide +kernel
theorem s_362_274 {x0 x1 x2 x3 x4 x5 x6 : Option Value} {x : Int32} : mw d 362 Q 274 [x0, x1, x2, x3, x4, x5, x6] ([.int x]) h = ((x = 0 ∨ x = 1) ∧ Q (some (.int x)) h) := (mw_at mj_362_274).trans (z_zret)
theorem e_362 {a0 : Nat} {a1 : Int32} : mcall d 362 [.ref a0, .int a1] h Q = mw d 362 Q 0 [some (.ref a0), some (.int a1), none, none, none, none, none] [] h := by
  show mw d 362 Q 0 (me_en (mc_nl 362) _) [] h = _
  rw [nl_362]; rfl

/-! InvariantDeskModel.goal(I)I -/
theorem mj_363_0 : mc_P 363 0 = some (.aload_n 0, 1, 0, 0, 0) := by decide +kernel
theorem s_363_0 {x1 x2 x3 x4 : Option Value} {w : Value} : mw d 363 Q 0 [some w, x1, x2, x3, x4] (st) h = mv_a w (mw d 363 Q 1 [some w, x1, x2, x3, x4] (w :: st) h) := (mw_at mj_363_0).trans (z_aload_n rfl)
theorem mj_363_1 : mc_P 363 1 = some (.getfield 73, 3, 14, 29, 0) := by decide +kernel
theorem s_363_1 {x0 x1 x2 x3 x4 : Option Value} {o : Nat} : mw d 363 Q 1 [x0, x1, x2, x3, x4] (.ref o :: st) h = (mg h o 14 ∧ mw d 363 Q 4 [x0, x1, x2, x3, x4] (va_rf (mh_r h o 29) :: st) h) := (mw_at mj_363_1).trans (z_getr (by decide) (by decide) rfl)
theorem mj_363_4 : mc_P 363 4 = some (.iload_n 1, 1, 0, 0, 0) := by decide +kernel
theorem s_363_4 {x0 x2 x3 x4 : Option Value} {w : Value} : mw d 363 Q 4 [x0, some w, x2, x3, x4] (st) h = mv_i w (mw d 363 Q 5 [x0, some w, x2, x3, x4] (w :: st) h) := (mw_at mj_363_4).trans (z_iload_n rfl)
theorem mj_363_5 : mc_P 363 5 = some (.iaload, 1, 0, 0, 0) := by decide +kernel
theorem s_363_5 {x0 x1 x2 x3 x4 : Option Value} {o : Nat} {i : Int32} : mw d 363 Q 5 [x0, x1, x2, x3, x4] (.int i :: .ref o :: st) h = (mg h o 100 ∧ mx i (mh_l h o) ∧ mw d 363 Q 6 [x0, x1, x2, x3, x4] (.int (mh_i h o i.toNatClampNeg) :: st) h) := (mw_at mj_363_5).trans (z_iald)
theorem mj_363_6 : mc_P 363 6 = some (.istore_n 2, 1, 0, 0, 0) := by decide +kernel
theorem s_363_6 {x0 x1 x2 x3 x4 : Option Value} {w : Int32} : mw d 363 Q 6 [x0, x1, x2, x3, x4] (.int w :: st) h = mw d 363 Q 7 [x0, mk2 x1, some (.int w), x3, x4] (st) h := (mw_at mj_363_6).trans (z_istore_n (Nat.le_of_ble_eq_true rfl) (me_s1_mk (j := 1) (w := x1) rfl))
theorem mj_363_7 : mc_P 363 7 = some (.aload_n 0, 1, 0, 0, 0) := by decide +kernel
theorem s_363_7 {x1 x2 x3 x4 : Option Value} {w : Value} : mw d 363 Q 7 [some w, x1, x2, x3, x4] (st) h = mv_a w (mw d 363 Q 8 [some w, x1, x2, x3, x4] (w :: st) h) := (mw_at mj_363_7).trans (z_aload_n rfl)
theorem mj_363_8 : mc_P 363 8 = some (.getfield 70, 3, 14, 28, 0) := by decide +kernel
theorem s_363_8 {x0 x1 x2 x3 x4 : Option Value} {o : Nat} : mw d 363 Q 8 [x0, x1, x2, x3, x4] (.ref o :: st) h = (mg h o 14 ∧ mw d 363 Q 11 [x0, x1, x2, x3, x4] (va_rf (mh_r h o 28) :: st) h) := (mw_at mj_363_8).trans (z_getr (by decide) (by decide) rfl)
theorem mj_363_11 : mc_P 363 11 = some (.iload_n 2, 1, 0, 0, 0) := by decide +kernel
theorem s_363_11 {x0 x1 x3 x4 : Option Value} {w : Value} : mw d 363 Q 11 [x0, x1, some w, x3, x4] (st) h = mv_i w (mw d 363 Q 12 [x0, x1, some w, x3, x4] (w :: st) h) := (mw_at mj_363_11).trans (z_iload_n rfl)
theorem mj_363_12 : mc_P 363 12 = some (.iaload, 1, 0, 0, 0) := by decide +kernel
theorem s_363_12 {x0 x1 x2 x3 x4 : Option Value} {o : Nat} {i : Int32} : mw d 363 Q 12 [x0, x1, x2, x3, x4] (.int i :: .ref o :: st) h = (mg h o 100 ∧ mx i (mh_l h o) ∧ mw d 363 Q 13 [x0, x1, x2, x3, x4] (.int (mh_i h o i.toNatClampNeg) :: st) h) := (mw_at mj_363_12).trans (z_iald)
theorem mj_363_13 : mc_P 363 13 = some (.istore_n 3, 1, 0, 0, 0) := by decide +kernel
theorem s_363_13 {x0 x1 x2 x3 x4 : Option Value} {w : Int32} : mw d 363 Q 13 [x0, x1, x2, x3, x4] (.int w :: st) h = mw d 363 Q 14 [x0, x1, mk2 x2, some (.int w), x4] (st) h := (mw_at mj_363_13).trans (z_istore_n (Nat.le_of_ble_eq_true rfl) (me_s1_mk (j := 2) (w := x2) rfl))
theorem mj_363_14 : mc_P 363 14 = some (.aload_n 0, 1, 0, 0, 0) := by decide +kernel
theorem s_363_14 {x1 x2 x3 x4 : Option Value} {w : Value} : mw d 363 Q 14 [some w, x1, x2, x3, x4] (st) h = mv_a w (mw d 363 Q 15 [some w, x1, x2, x3, x4] (w :: st) h) := (mw_at mj_363_14).trans (z_aload_n rfl)
theorem mj_363_15 : mc_P 363 15 = some (.getfield 48, 3, 14, 19, 0) := by decide +kernel
theorem s_363_15 {x0 x1 x2 x3 x4 : Option Value} {o : Nat} : mw d 363 Q 15 [x0, x1, x2, x3, x4] (.ref o :: st) h = (mg h o 14 ∧ mw d 363 Q 18 [x0, x1, x2, x3, x4] (va_rf (mh_r h o 19) :: st) h) := (mw_at mj_363_15).trans (z_getr (by decide) (by decide) rfl)
theorem mj_363_18 : mc_P 363 18 = some (.iload_n 3, 1, 0, 0, 0) := by decide +kernel
theorem s_363_18 {x0 x1 x2 x4 : Option Value} {w : Value} : mw d 363 Q 18 [x0, x1, x2, some w, x4] (st) h = mv_i w (mw d 363 Q 19 [x0, x1, x2, some w, x4] (w :: st) h) := (mw_at mj_363_18).trans (z_iload_n rfl)
theorem mj_363_19 : mc_P 363 19 = some (.iconst 1, 1, 0, 0, 0) := by decide +kernel
theorem s_363_19 {x0 x1 x2 x3 x4 : Option Value} : mw d 363 Q 19 [x0, x1, x2, x3, x4] (st) h = mw d 363 Q 20 [x0, x1, x2, x3, x4] (.int 1 :: st) h := (mw_at mj_363_19).trans (z_iconst (by decide))
theorem mj_363_20 : mc_P 363 20 = some (.iadd, 1, 0, 0, 0) := by decide +kernel
theorem s_363_20 {x0 x1 x2 x3 x4 : Option Value} {x w : Int32} : mw d 363 Q 20 [x0, x1, x2, x3, x4] (.int w :: .int x :: st) h = mw d 363 Q 21 [x0, x1, x2, x3, x4] (.int (x + w) :: st) h := (mw_at mj_363_20).trans (z_iadd)
theorem mj_363_21 : mc_P 363 21 = some (.baload, 1, 0, 0, 0) := by decide +kernel
theorem s_363_21 {x0 x1 x2 x3 x4 : Option Value} {o : Nat} {i : Int32} : mw d 363 Q 21 [x0, x1, x2, x3, x4] (.int i :: .ref o :: st) h = (mgb h o ∧ mx i (mh_l h o) ∧ mw d 363 Q 22 [x0, x1, x2, x3, x4] (.int (mh_i h o i.toNatClampNeg) :: st) h) := (mw_at mj_363_21).trans (z_bald)
theorem mj_363_22 : mc_P 363 22 = some (.bipush 33, 2, 0, 0, 0) := by decide +kernel
theorem s_363_22 {x0 x1 x2 x3 x4 : Option Value} : mw d 363 Q 22 [x0, x1, x2, x3, x4] (st) h = mw d 363 Q 24 [x0, x1, x2, x3, x4] (.int 33 :: st) h := (mw_at mj_363_22).trans (z_bipush (by decide))
theorem mj_363_24 : mc_P 363 24 = some (.if_icmp .ne 5, 3, 0, 0, 0) := by decide +kernel
theorem s_363_24 {x0 x1 x2 x3 x4 : Option Value} {x w : Int32} : mw d 363 Q 24 [x0, x1, x2, x3, x4] (.int w :: .int x :: st) h = mB (¬ x = w) (mw d 363 Q) 29 27 [x0, x1, x2, x3, x4] st h := (mw_at mj_363_24).trans (z_icmp_ne (by decide) rfl)
theorem mj_363_27 : mc_P 363 27 = some (.iconst (-1), 1, 0, 0, 0) := by decide +kernel
theorem s_363_27 {x0 x1 x2 x3 x4 : Option Value} : mw d 363 Q 27 [x0, x1, x2, x3, x4] (st) h = mw d 363 Q 28 [x0, x1, x2, x3, x4] (.int (-1) :: st) h := (mw_at mj_363_27).trans (z_iconst (by decide))
theorem mj_363_28 : mc_P 363 28 = some (.ireturn, 1, 0, 0, 0) := by decide +kernel
theorem s_363_28 {x0 x1 x2 x3 x4 : Option Value} {x : Int32} : mw d 363 Q 28 [x0, x1, x2, x3, x4] ([.int x]) h = (Q (some (.int x)) h) := (mw_at mj_363_28).trans (z_iret)
theorem mj_363_29 : mc_P 363 29 = some (.aload_n 0, 1, 0, 0, 0) := by decide +kernel
theorem s_363_29 {x1 x2 x3 x4 : Option Value} {w : Value} : mw d 363 Q 29 [some w, x1, x2, x3, x4] (st) h = mv_a w (mw d 363 Q 30 [some w, x1, x2, x3, x4] (w :: st) h) := (mw_at mj_363_29).trans (z_aload_n rfl)
theorem mj_363_30 : mc_P 363 30 = some (.getfield 85, 3, 14, 34, 0) := by decide +kernel
theorem s_363_30 {x0 x1 x2 x3 x4 : Option Value} {o : Nat} : mw d 363 Q 30 [x0, x1, x2, x3, x4] (.ref o :: st) h = (mg h o 14 ∧ mw d 363 Q 33 [x0, x1, x2, x3, x4] (va_rf (mh_r h o 34) :: st) h) := (mw_at mj_363_30).trans (z_getr (by decide) (by decide) rfl)
theorem mj_363_33 : mc_P 363 33 = some (.iload_n 2, 1, 0, 0, 0) := by decide +kernel
theorem s_363_33 {x0 x1 x3 x4 : Option Value} {w : Value} : mw d 363 Q 33 [x0, x1, some w, x3, x4] (st) h = mv_i w (mw d 363 Q 34 [x0, x1, some w, x3, x4] (w :: st) h) := (mw_at mj_363_33).trans (z_iload_n rfl)
theorem mj_363_34 : mc_P 363 34 = some (.iaload, 1, 0, 0, 0) := by decide +kernel
theorem s_363_34 {x0 x1 x2 x3 x4 : Option Value} {o : Nat} {i : Int32} : mw d 363 Q 34 [x0, x1, x2, x3, x4] (.int i :: .ref o :: st) h = (mg h o 100 ∧ mx i (mh_l h o) ∧ mw d 363 Q 35 [x0, x1, x2, x3, x4] (.int (mh_i h o i.toNatClampNeg) :: st) h) := (mw_at mj_363_34).trans (z_iald)
theorem mj_363_35 : mc_P 363 35 = some (.iconst 1, 1, 0, 0, 0) := by decide +kernel
theorem s_363_35 {x0 x1 x2 x3 x4 : Option Value} : mw d 363 Q 35 [x0, x1, x2, x3, x4] (st) h = mw d 363 Q 36 [x0, x1, x2, x3, x4] (.int 1 :: st) h := (mw_at mj_363_35).trans (z_iconst (by decide))
theorem mj_363_36 : mc_P 363 36 = some (.isub, 1, 0, 0, 0) := by decide +kernel
theorem s_363_36 {x0 x1 x2 x3 x4 : Option Value} {x w : Int32} : mw d 363 Q 36 [x0, x1, x2, x3, x4] (.int w :: .int x :: st) h = mw d 363 Q 37 [x0, x1, x2, x3, x4] (.int (x - w) :: st) h := (mw_at mj_363_36).trans (z_isub)
theorem mj_363_37 : mc_P 363 37 = some (.istore 4, 2, 0, 0, 0) := by decide +kernel
theorem s_363_37 {x0 x1 x2 x3 x4 : Option Value} {w : Int32} : mw d 363 Q 37 [x0, x1, x2, x3, x4] (.int w :: st) h = mw d 363 Q 39 [x0, x1, x2, mk2 x3, some (.int w)] (st) h := (mw_at mj_363_37).trans (z_istore (Nat.le_of_ble_eq_true rfl) (me_s1_mk (j := 3) (w := x3) rfl))
theorem mj_363_39 : mc_P 363 39 = some (.iload 4, 2, 0, 0, 0) := by decide +kernel
theorem s_363_39 {x0 x1 x2 x3 : Option Value} {w : Value} : mw d 363 Q 39 [x0, x1, x2, x3, some w] (st) h = mv_i w (mw d 363 Q 41 [x0, x1, x2, x3, some w] (w :: st) h) := (mw_at mj_363_39).trans (z_iload rfl)
theorem mj_363_41 : mc_P 363 41 = some (.ifCond .lt 45, 3, 0, 0, 0) := by decide +kernel
theorem s_363_41 {x0 x1 x2 x3 x4 : Option Value} {x : Int32} : mw d 363 Q 41 [x0, x1, x2, x3, x4] (.int x :: st) h = mB (x < 0) (mw d 363 Q) 86 44 [x0, x1, x2, x3, x4] st h := (mw_at mj_363_41).trans (z_if_lt (by decide) rfl)
theorem mj_363_44 : mc_P 363 44 = some (.aload_n 0, 1, 0, 0, 0) := by decide +kernel
theorem s_363_44 {x1 x2 x3 x4 : Option Value} {w : Value} : mw d 363 Q 44 [some w, x1, x2, x3, x4] (st) h = mv_a w (mw d 363 Q 45 [some w, x1, x2, x3, x4] (w :: st) h) := (mw_at mj_363_44).trans (z_aload_n rfl)
theorem mj_363_45 : mc_P 363 45 = some (.getfield 88, 3, 14, 35, 0) := by decide +kernel
theorem s_363_45 {x0 x1 x2 x3 x4 : Option Value} {o : Nat} : mw d 363 Q 45 [x0, x1, x2, x3, x4] (.ref o :: st) h = (mg h o 14 ∧ mw d 363 Q 48 [x0, x1, x2, x3, x4] (va_rf (mh_r h o 35) :: st) h) := (mw_at mj_363_45).trans (z_getr (by decide) (by decide) rfl)
theorem mj_363_48 : mc_P 363 48 = some (.bipush 40, 2, 0, 0, 0) := by decide +kernel
theorem s_363_48 {x0 x1 x2 x3 x4 : Option Value} : mw d 363 Q 48 [x0, x1, x2, x3, x4] (st) h = mw d 363 Q 50 [x0, x1, x2, x3, x4] (.int 40 :: st) h := (mw_at mj_363_48).trans (z_bipush (by decide))
theorem mj_363_50 : mc_P 363 50 = some (.iload_n 2, 1, 0, 0, 0) := by decide +kernel
theorem s_363_50 {x0 x1 x3 x4 : Option Value} {w : Value} : mw d 363 Q 50 [x0, x1, some w, x3, x4] (st) h = mv_i w (mw d 363 Q 51 [x0, x1, some w, x3, x4] (w :: st) h) := (mw_at mj_363_50).trans (z_iload_n rfl)
theorem mj_363_51 : mc_P 363 51 = some (.imul, 1, 0, 0, 0) := by decide +kernel
theorem s_363_51 {x0 x1 x2 x3 x4 : Option Value} {x w : Int32} : mw d 363 Q 51 [x0, x1, x2, x3, x4] (.int w :: .int x :: st) h = mw d 363 Q 52 [x0, x1, x2, x3, x4] (.int (x * w) :: st) h := (mw_at mj_363_51).trans (z_imul)
theorem mj_363_52 : mc_P 363 52 = some (.iload 4, 2, 0, 0, 0) := by decide +kernel
theorem s_363_52 {x0 x1 x2 x3 : Option Value} {w : Value} : mw d 363 Q 52 [x0, x1, x2, x3, some w] (st) h = mv_i w (mw d 363 Q 54 [x0, x1, x2, x3, some w] (w :: st) h) := (mw_at mj_363_52).trans (z_iload rfl)
theorem mj_363_54 : mc_P 363 54 = some (.iadd, 1, 0, 0, 0) := by decide +kernel
theorem s_363_54 {x0 x1 x2 x3 x4 : Option Value} {x w : Int32} : mw d 363 Q 54 [x0, x1, x2, x3, x4] (.int w :: .int x :: st) h = mw d 363 Q 55 [x0, x1, x2, x3, x4] (.int (x + w) :: st) h := (mw_at mj_363_54).trans (z_iadd)
theorem mj_363_55 : mc_P 363 55 = some (.iaload, 1, 0, 0, 0) := by decide +kernel
theorem s_363_55 {x0 x1 x2 x3 x4 : Option Value} {o : Nat} {i : Int32} : mw d 363 Q 55 [x0, x1, x2, x3, x4] (.int i :: .ref o :: st) h = (mg h o 100 ∧ mx i (mh_l h o) ∧ mw d 363 Q 56 [x0, x1, x2, x3, x4] (.int (mh_i h o i.toNatClampNeg) :: st) h) := (mw_at mj_363_55).trans (z_iald)
theorem mj_363_56 : mc_P 363 56 = some (.aload_n 0, 1, 0, 0, 0) := by decide +kernel
theorem s_363_56 {x1 x2 x3 x4 : Option Value} {w : Value} : mw d 363 Q 56 [some w, x1, x2, x3, x4] (st) h = mv_a w (mw d 363 Q 57 [some w, x1, x2, x3, x4] (w :: st) h) := (mw_at mj_363_56).trans (z_aload_n rfl)
theorem mj_363_57 : mc_P 363 57 = some (.getfield 55, 3, 14, 21, 0) := by decide +kernel
theorem s_363_57 {x0 x1 x2 x3 x4 : Option Value} {o : Nat} : mw d 363 Q 57 [x0, x1, x2, x3, x4] (.ref o :: st) h = (mg h o 14 ∧ mw d 363 Q 60 [x0, x1, x2, x3, x4] (va_rf (mh_r h o 21) :: st) h) := (mw_at mj_363_57).trans (z_getr (by decide) (by decide) rfl)
theorem mj_363_60 : mc_P 363 60 = some (.iload_n 3, 1, 0, 0, 0) := by decide +kernel
theorem s_363_60 {x0 x1 x2 x4 : Option Value} {w : Value} : mw d 363 Q 60 [x0, x1, x2, some w, x4] (st) h = mv_i w (mw d 363 Q 61 [x0, x1, x2, some w, x4] (w :: st) h) := (mw_at mj_363_60).trans (z_iload_n rfl)
theorem mj_363_61 : mc_P 363 61 = some (.iconst 1, 1, 0, 0, 0) := by decide +kernel
theorem s_363_61 {x0 x1 x2 x3 x4 : Option Value} : mw d 363 Q 61 [x0, x1, x2, x3, x4] (st) h = mw d 363 Q 62 [x0, x1, x2, x3, x4] (.int 1 :: st) h := (mw_at mj_363_61).trans (z_iconst (by decide))
theorem mj_363_62 : mc_P 363 62 = some (.iadd, 1, 0, 0, 0) := by decide +kernel
theorem s_363_62 {x0 x1 x2 x3 x4 : Option Value} {x w : Int32} : mw d 363 Q 62 [x0, x1, x2, x3, x4] (.int w :: .int x :: st) h = mw d 363 Q 63 [x0, x1, x2, x3, x4] (.int (x + w) :: st) h := (mw_at mj_363_62).trans (z_iadd)
theorem mj_363_63 : mc_P 363 63 = some (.iaload, 1, 0, 0, 0) := by decide +kernel
theorem s_363_63 {x0 x1 x2 x3 x4 : Option Value} {o : Nat} {i : Int32} : mw d 363 Q 63 [x0, x1, x2, x3, x4] (.int i :: .ref o :: st) h = (mg h o 100 ∧ mx i (mh_l h o) ∧ mw d 363 Q 64 [x0, x1, x2, x3, x4] (.int (mh_i h o i.toNatClampNeg) :: st) h) := (mw_at mj_363_63).trans (z_iald)
theorem mj_363_64 : mc_P 363 64 = some (.if_icmp .ne 16, 3, 0, 0, 0) := by decide +kernel
theorem s_363_64 {x0 x1 x2 x3 x4 : Option Value} {x w : Int32} : mw d 363 Q 64 [x0, x1, x2, x3, x4] (.int w :: .int x :: st) h = mB (¬ x = w) (mw d 363 Q) 80 67 [x0, x1, x2, x3, x4] st h := (mw_at mj_363_64).trans (z_icmp_ne (by decide) rfl)
theorem mj_363_67 : mc_P 363 67 = some (.aload_n 0, 1, 0, 0, 0) := by decide +kernel
theorem s_363_67 {x1 x2 x3 x4 : Option Value} {w : Value} : mw d 363 Q 67 [some w, x1, x2, x3, x4] (st) h = mv_a w (mw d 363 Q 68 [some w, x1, x2, x3, x4] (w :: st) h) := (mw_at mj_363_67).trans (z_aload_n rfl)
theorem mj_363_68 : mc_P 363 68 = some (.getfield 91, 3, 14, 36, 0) := by decide +kernel
theorem s_363_68 {x0 x1 x2 x3 x4 : Option Value} {o : Nat} : mw d 363 Q 68 [x0, x1, x2, x3, x4] (.ref o :: st) h = (mg h o 14 ∧ mw d 363 Q 71 [x0, x1, x2, x3, x4] (va_rf (mh_r h o 36) :: st) h) := (mw_at mj_363_68).trans (z_getr (by decide) (by decide) rfl)
theorem mj_363_71 : mc_P 363 71 = some (.bipush 40, 2, 0, 0, 0) := by decide +kernel
theorem s_363_71 {x0 x1 x2 x3 x4 : Option Value} : mw d 363 Q 71 [x0, x1, x2, x3, x4] (st) h = mw d 363 Q 73 [x0, x1, x2, x3, x4] (.int 40 :: st) h := (mw_at mj_363_71).trans (z_bipush (by decide))
theorem mj_363_73 : mc_P 363 73 = some (.iload_n 2, 1, 0, 0, 0) := by decide +kernel
theorem s_363_73 {x0 x1 x3 x4 : Option Value} {w : Value} : mw d 363 Q 73 [x0, x1, some w, x3, x4] (st) h = mv_i w (mw d 363 Q 74 [x0, x1, some w, x3, x4] (w :: st) h) := (mw_at mj_363_73).trans (z_iload_n rfl)
theorem mj_363_74 : mc_P 363 74 = some (.imul, 1, 0, 0, 0) := by decide +kernel
theorem s_363_74 {x0 x1 x2 x3 x4 : Option Value} {x w : Int32} : mw d 363 Q 74 [x0, x1, x2, x3, x4] (.int w :: .int x :: st) h = mw d 363 Q 75 [x0, x1, x2, x3, x4] (.int (x * w) :: st) h := (mw_at mj_363_74).trans (z_imul)
theorem mj_363_75 : mc_P 363 75 = some (.iload 4, 2, 0, 0, 0) := by decide +kernel
theorem s_363_75 {x0 x1 x2 x3 : Option Value} {w : Value} : mw d 363 Q 75 [x0, x1, x2, x3, some w] (st) h = mv_i w (mw d 363 Q 77 [x0, x1, x2, x3, some w] (w :: st) h) := (mw_at mj_363_75).trans (z_iload rfl)
theorem mj_363_77 : mc_P 363 77 = some (.iadd, 1, 0, 0, 0) := by decide +kernel
theorem s_363_77 {x0 x1 x2 x3 x4 : Option Value} {x w : Int32} : mw d 363 Q 77 [x0, x1, x2, x3, x4] (.int w :: .int x :: st) h = mw d 363 Q 78 [x0, x1, x2, x3, x4] (.int (x + w) :: st) h := (mw_at mj_363_77).trans (z_iadd)
theorem mj_363_78 : mc_P 363 78 = some (.iaload, 1, 0, 0, 0) := by decide +kernel
theorem s_363_78 {x0 x1 x2 x3 x4 : Option Value} {o : Nat} {i : Int32} : mw d 363 Q 78 [x0, x1, x2, x3, x4] (.int i :: .ref o :: st) h = (mg h o 100 ∧ mx i (mh_l h o) ∧ mw d 363 Q 79 [x0, x1, x2, x3, x4] (.int (mh_i h o i.toNatClampNeg) :: st) h) := (mw_at mj_363_78).trans (z_iald)
theorem mj_363_79 : mc_P 363 79 = some (.ireturn, 1, 0, 0, 0) := by decide +kernel
theorem s_363_79 {x0 x1 x2 x3 x4 : Option Value} {x : Int32} : mw d 363 Q 79 [x0, x1, x2, x3, x4] ([.int x]) h = (Q (some (.int x)) h) := (mw_at mj_363_79).trans (z_iret)
theorem mj_363_80 : mc_P 363 80 = some (.iinc 4 (-1), 3, 0, 0, 0) := by decide +kernel
theorem s_363_80 {x0 x1 x2 x3 : Option Value} {w : Int32} : mw d 363 Q 80 [x0, x1, x2, x3, some (.int w)] (st) h = mw d 363 Q 83 [x0, x1, x2, mk2 x3, some (.int (w + (-1)))] (st) h := (mw_at mj_363_80).trans (z_iinc rfl (Nat.le_of_ble_eq_true rfl) (by decide) (me_s1_mk (j := 3) (w := x3) rfl))
theorem mj_363_83 : mc_P 363 83 = some (.goto (-44), 3, 0, 0, 0) := by decide +kernel
theorem s_363_83 {x0 x1 x2 x3 x4 : Option Value} : mw d 363 Q 83 [x0, x1, x2, x3, x4] (st) h = mw d 363 Q 39 [x0, x1, x2, x3, x4] (st) h := (mw_at mj_363_83).trans (z_goto (by decide))
theorem mj_363_86 : mc_P 363 86 = some (.iconst (-1), 1, 0, 0, 0) := by decide +kernel
theorem s_363_86 {x0 x1 x2 x3 x4 : Option Value} : mw d 363 Q 86 [x0, x1, x2, x3, x4] (st) h = mw d 363 Q 87 [x0, x1, x2, x3, x4] (.int (-1) :: st) h := (mw_at mj_363_86).trans (z_iconst (by decide))
theorem mj_363_87 : mc_P 363 87 = some (.ireturn, 1, 0, 0, 0) := by decide +kernel
theorem s_363_87 {x0 x1 x2 x3 x4 : Option Value} {x : Int32} : mw d 363 Q 87 [x0, x1, x2, x3, x4] ([.int x]) h = (Q (some (.int x)) h) := (mw_at mj_363_87).trans (z_iret)
theorem e_363 {a0 : Nat} {a1 : Int32} : mcall d 363 [.ref a0, .int a1] h Q = mw d 363 Q 0 [some (.ref a0), some (.int a1), none, none, none] [] h := by
  show mw d 363 Q 0 (me_en (mc_nl 363) _) [] h = _
  rw [nl_363]; rfl

/-! InvariantDeskModel.otherBlock(I)I -/
theorem mj_365_0 : mc_P 365 0 = some (.aload_n 0, 1, 0, 0, 0) := by decide +kernel
theorem s_365_0 {x1 x2 x3 : Option Value} {w : Value} : mw d 365 Q 0 [some w, x1, x2, x3] (st) h = mv_a w (mw d 365 Q 1 [some w, x1, x2, x3] (w :: st) h) := (mw_at mj_365_0).trans (z_aload_n rfl)
theorem mj_365_1 : mc_P 365 1 = some (.aload_n 0, 1, 0, 0, 0) := by decide +kernel
theorem s_365_1 {x1 x2 x3 : Option Value} {w : Value} : mw d 365 Q 1 [some w, x1, x2, x3] (st) h = mv_a w (mw d 365 Q 2 [some w, x1, x2, x3] (w :: st) h) := (mw_at mj_365_1).trans (z_aload_n rfl)
theorem mj_365_2 : mc_P 365 2 = some (.aload_n 0, 1, 0, 0, 0) := by decide +kernel
theorem s_365_2 {x1 x2 x3 : Option Value} {w : Value} : mw d 365 Q 2 [some w, x1, x2, x3] (st) h = mv_a w (mw d 365 Q 3 [some w, x1, x2, x3] (w :: st) h) := (mw_at mj_365_2).trans (z_aload_n rfl)
theorem mj_365_3 : mc_P 365 3 = some (.getfield 70, 3, 14, 28, 0) := by decide +kernel
theorem s_365_3 {x0 x1 x2 x3 : Option Value} {o : Nat} : mw d 365 Q 3 [x0, x1, x2, x3] (.ref o :: st) h = (mg h o 14 ∧ mw d 365 Q 6 [x0, x1, x2, x3] (va_rf (mh_r h o 28) :: st) h) := (mw_at mj_365_3).trans (z_getr (by decide) (by decide) rfl)
theorem mj_365_6 : mc_P 365 6 = some (.iload_n 1, 1, 0, 0, 0) := by decide +kernel
theorem s_365_6 {x0 x2 x3 : Option Value} {w : Value} : mw d 365 Q 6 [x0, some w, x2, x3] (st) h = mv_i w (mw d 365 Q 7 [x0, some w, x2, x3] (w :: st) h) := (mw_at mj_365_6).trans (z_iload_n rfl)
theorem mj_365_7 : mc_P 365 7 = some (.iaload, 1, 0, 0, 0) := by decide +kernel
theorem s_365_7 {x0 x1 x2 x3 : Option Value} {o : Nat} {i : Int32} : mw d 365 Q 7 [x0, x1, x2, x3] (.int i :: .ref o :: st) h = (mg h o 100 ∧ mx i (mh_l h o) ∧ mw d 365 Q 8 [x0, x1, x2, x3] (.int (mh_i h o i.toNatClampNeg) :: st) h) := (mw_at mj_365_7).trans (z_iald)
theorem mj_365_8 : mc_P 365 8 = some (.invokevirtual 391, 3, 334, 14, 2) := by decide +kernel
theorem s_365_8 {x0 x1 x2 x3 : Option Value} {o : Nat} {a1 : Value} : mw (d + 1) 365 Q 8 [x0, x1, x2, x3] (a1 :: .ref o :: st) h = (mg h o 14 ∧ mca st 8 ∧ mca [.ref o, a1] 2 ∧ mcall d 334 [.ref o, a1] h (mK (d + 1) 365 Q 11 [x0, x1, x2, x3] st)) := (mw_at mj_365_8).trans ((z_invv (As := [a1]) (by decide) rfl rfl).trans (congrArg (And _) (congrArg (And _) (mC_nl nl_334))))
theorem mj_365_11 : mc_P 365 11 = some (.invokevirtual 348, 3, 333, 14, 2) := by decide +kernel
theorem s_365_11 {x0 x1 x2 x3 : Option Value} {o : Nat} {a1 : Value} : mw (d + 1) 365 Q 11 [x0, x1, x2, x3] (a1 :: .ref o :: st) h = (mg h o 14 ∧ mca st 8 ∧ mca [.ref o, a1] 2 ∧ mcall d 333 [.ref o, a1] h (mK (d + 1) 365 Q 14 [x0, x1, x2, x3] st)) := (mw_at mj_365_11).trans ((z_invv (As := [a1]) (by decide) rfl rfl).trans (congrArg (And _) (congrArg (And _) (mC_nl nl_333))))
theorem mj_365_14 : mc_P 365 14 = some (.istore_n 2, 1, 0, 0, 0) := by decide +kernel
theorem s_365_14 {x0 x1 x2 x3 : Option Value} {w : Int32} : mw d 365 Q 14 [x0, x1, x2, x3] (.int w :: st) h = mw d 365 Q 15 [x0, mk2 x1, some (.int w), x3] (st) h := (mw_at mj_365_14).trans (z_istore_n (Nat.le_of_ble_eq_true rfl) (me_s1_mk (j := 1) (w := x1) rfl))
theorem mj_365_15 : mc_P 365 15 = some (.iload_n 1, 1, 0, 0, 0) := by decide +kernel
theorem s_365_15 {x0 x2 x3 : Option Value} {w : Value} : mw d 365 Q 15 [x0, some w, x2, x3] (st) h = mv_i w (mw d 365 Q 16 [x0, some w, x2, x3] (w :: st) h) := (mw_at mj_365_15).trans (z_iload_n rfl)
theorem mj_365_16 : mc_P 365 16 = some (.iconst 1, 1, 0, 0, 0) := by decide +kernel
theorem s_365_16 {x0 x1 x2 x3 : Option Value} : mw d 365 Q 16 [x0, x1, x2, x3] (st) h = mw d 365 Q 17 [x0, x1, x2, x3] (.int 1 :: st) h := (mw_at mj_365_16).trans (z_iconst (by decide))
theorem mj_365_17 : mc_P 365 17 = some (.iadd, 1, 0, 0, 0) := by decide +kernel
theorem s_365_17 {x0 x1 x2 x3 : Option Value} {x w : Int32} : mw d 365 Q 17 [x0, x1, x2, x3] (.int w :: .int x :: st) h = mw d 365 Q 18 [x0, x1, x2, x3] (.int (x + w) :: st) h := (mw_at mj_365_17).trans (z_iadd)
theorem mj_365_18 : mc_P 365 18 = some (.istore_n 3, 1, 0, 0, 0) := by decide +kernel
theorem s_365_18 {x0 x1 x2 x3 : Option Value} {w : Int32} : mw d 365 Q 18 [x0, x1, x2, x3] (.int w :: st) h = mw d 365 Q 19 [x0, x1, mk2 x2, some (.int w)] (st) h := (mw_at mj_365_18).trans (z_istore_n (Nat.le_of_ble_eq_true rfl) (me_s1_mk (j := 2) (w := x2) rfl))
theorem mj_365_19 : mc_P 365 19 = some (.aload_n 0, 1, 0, 0, 0) := by decide +kernel
theorem s_365_19 {x1 x2 x3 : Option Value} {w : Value} : mw d 365 Q 19 [some w, x1, x2, x3] (st) h = mv_a w (mw d 365 Q 20 [some w, x1, x2, x3] (w :: st) h) := (mw_at mj_365_19).trans (z_aload_n rfl)
theorem mj_365_20 : mc_P 365 20 = some (.getfield 73, 3, 14, 29, 0) := by decide +kernel
theorem s_365_20 {x0 x1 x2 x3 : Option Value} {o : Nat} : mw d 365 Q 20 [x0, x1, x2, x3] (.ref o :: st) h = (mg h o 14 ∧ mw d 365 Q 23 [x0, x1, x2, x3] (va_rf (mh_r h o 29) :: st) h) := (mw_at mj_365_20).trans (z_getr (by decide) (by decide) rfl)
theorem mj_365_23 : mc_P 365 23 = some (.iload_n 3, 1, 0, 0, 0) := by decide +kernel
theorem s_365_23 {x0 x1 x2 : Option Value} {w : Value} : mw d 365 Q 23 [x0, x1, x2, some w] (st) h = mv_i w (mw d 365 Q 24 [x0, x1, x2, some w] (w :: st) h) := (mw_at mj_365_23).trans (z_iload_n rfl)
theorem mj_365_24 : mc_P 365 24 = some (.iaload, 1, 0, 0, 0) := by decide +kernel
theorem s_365_24 {x0 x1 x2 x3 : Option Value} {o : Nat} {i : Int32} : mw d 365 Q 24 [x0, x1, x2, x3] (.int i :: .ref o :: st) h = (mg h o 100 ∧ mx i (mh_l h o) ∧ mw d 365 Q 25 [x0, x1, x2, x3] (.int (mh_i h o i.toNatClampNeg) :: st) h) := (mw_at mj_365_24).trans (z_iald)
theorem mj_365_25 : mc_P 365 25 = some (.iload_n 1, 1, 0, 0, 0) := by decide +kernel
theorem s_365_25 {x0 x2 x3 : Option Value} {w : Value} : mw d 365 Q 25 [x0, some w, x2, x3] (st) h = mv_i w (mw d 365 Q 26 [x0, some w, x2, x3] (w :: st) h) := (mw_at mj_365_25).trans (z_iload_n rfl)
theorem mj_365_26 : mc_P 365 26 = some (.if_icmp .ne 18, 3, 0, 0, 0) := by decide +kernel
theorem s_365_26 {x0 x1 x2 x3 : Option Value} {x w : Int32} : mw d 365 Q 26 [x0, x1, x2, x3] (.int w :: .int x :: st) h = mB (¬ x = w) (mw d 365 Q) 44 29 [x0, x1, x2, x3] st h := (mw_at mj_365_26).trans (z_icmp_ne (by decide) rfl)
theorem mj_365_29 : mc_P 365 29 = some (.aload_n 0, 1, 0, 0, 0) := by decide +kernel
theorem s_365_29 {x1 x2 x3 : Option Value} {w : Value} : mw d 365 Q 29 [some w, x1, x2, x3] (st) h = mv_a w (mw d 365 Q 30 [some w, x1, x2, x3] (w :: st) h) := (mw_at mj_365_29).trans (z_aload_n rfl)
theorem mj_365_30 : mc_P 365 30 = some (.getfield 58, 3, 14, 22, 0) := by decide +kernel
theorem s_365_30 {x0 x1 x2 x3 : Option Value} {o : Nat} : mw d 365 Q 30 [x0, x1, x2, x3] (.ref o :: st) h = (mg h o 14 ∧ mw d 365 Q 33 [x0, x1, x2, x3] (va_rf (mh_r h o 22) :: st) h) := (mw_at mj_365_30).trans (z_getr (by decide) (by decide) rfl)
theorem mj_365_33 : mc_P 365 33 = some (.aload_n 0, 1, 0, 0, 0) := by decide +kernel
theorem s_365_33 {x1 x2 x3 : Option Value} {w : Value} : mw d 365 Q 33 [some w, x1, x2, x3] (st) h = mv_a w (mw d 365 Q 34 [some w, x1, x2, x3] (w :: st) h) := (mw_at mj_365_33).trans (z_aload_n rfl)
theorem mj_365_34 : mc_P 365 34 = some (.getfield 70, 3, 14, 28, 0) := by decide +kernel
theorem s_365_34 {x0 x1 x2 x3 : Option Value} {o : Nat} : mw d 365 Q 34 [x0, x1, x2, x3] (.ref o :: st) h = (mg h o 14 ∧ mw d 365 Q 37 [x0, x1, x2, x3] (va_rf (mh_r h o 28) :: st) h) := (mw_at mj_365_34).trans (z_getr (by decide) (by decide) rfl)
theorem mj_365_37 : mc_P 365 37 = some (.iload_n 3, 1, 0, 0, 0) := by decide +kernel
theorem s_365_37 {x0 x1 x2 : Option Value} {w : Value} : mw d 365 Q 37 [x0, x1, x2, some w] (st) h = mv_i w (mw d 365 Q 38 [x0, x1, x2, some w] (w :: st) h) := (mw_at mj_365_37).trans (z_iload_n rfl)
theorem mj_365_38 : mc_P 365 38 = some (.iaload, 1, 0, 0, 0) := by decide +kernel
theorem s_365_38 {x0 x1 x2 x3 : Option Value} {o : Nat} {i : Int32} : mw d 365 Q 38 [x0, x1, x2, x3] (.int i :: .ref o :: st) h = (mg h o 100 ∧ mx i (mh_l h o) ∧ mw d 365 Q 39 [x0, x1, x2, x3] (.int (mh_i h o i.toNatClampNeg) :: st) h) := (mw_at mj_365_38).trans (z_iald)
theorem mj_365_39 : mc_P 365 39 = some (.iaload, 1, 0, 0, 0) := by decide +kernel
theorem s_365_39 {x0 x1 x2 x3 : Option Value} {o : Nat} {i : Int32} : mw d 365 Q 39 [x0, x1, x2, x3] (.int i :: .ref o :: st) h = (mg h o 100 ∧ mx i (mh_l h o) ∧ mw d 365 Q 40 [x0, x1, x2, x3] (.int (mh_i h o i.toNatClampNeg) :: st) h) := (mw_at mj_365_39).trans (z_iald)
theorem mj_365_40 : mc_P 365 40 = some (.iload_n 2, 1, 0, 0, 0) := by decide +kernel
theorem s_365_40 {x0 x1 x3 : Option Value} {w : Value} : mw d 365 Q 40 [x0, x1, some w, x3] (st) h = mv_i w (mw d 365 Q 41 [x0, x1, some w, x3] (w :: st) h) := (mw_at mj_365_40).trans (z_iload_n rfl)
theorem mj_365_41 : mc_P 365 41 = some (.if_icmp .eq 9, 3, 0, 0, 0) := by decide +kernel
theorem s_365_41 {x0 x1 x2 x3 : Option Value} {x w : Int32} : mw d 365 Q 41 [x0, x1, x2, x3] (.int w :: .int x :: st) h = mB (x = w) (mw d 365 Q) 50 44 [x0, x1, x2, x3] st h := (mw_at mj_365_41).trans (z_icmp_eq (by decide) rfl)
theorem mj_365_44 : mc_P 365 44 = some (.iinc 3 1, 3, 0, 0, 0) := by decide +kernel
theorem s_365_44 {x0 x1 x2 : Option Value} {w : Int32} : mw d 365 Q 44 [x0, x1, x2, some (.int w)] (st) h = mw d 365 Q 47 [x0, x1, mk2 x2, some (.int (w + 1))] (st) h := (mw_at mj_365_44).trans (z_iinc rfl (Nat.le_of_ble_eq_true rfl) (by decide) (me_s1_mk (j := 2) (w := x2) rfl))
theorem mj_365_47 : mc_P 365 47 = some (.goto (-28), 3, 0, 0, 0) := by decide +kernel
theorem s_365_47 {x0 x1 x2 x3 : Option Value} : mw d 365 Q 47 [x0, x1, x2, x3] (st) h = mw d 365 Q 19 [x0, x1, x2, x3] (st) h := (mw_at mj_365_47).trans (z_goto (by decide))
theorem mj_365_50 : mc_P 365 50 = some (.iload_n 3, 1, 0, 0, 0) := by decide +kernel
theorem s_365_50 {x0 x1 x2 : Option Value} {w : Value} : mw d 365 Q 50 [x0, x1, x2, some w] (st) h = mv_i w (mw d 365 Q 51 [x0, x1, x2, some w] (w :: st) h) := (mw_at mj_365_50).trans (z_iload_n rfl)
theorem mj_365_51 : mc_P 365 51 = some (.ireturn, 1, 0, 0, 0) := by decide +kernel
theorem s_365_51 {x0 x1 x2 x3 : Option Value} {x : Int32} : mw d 365 Q 51 [x0, x1, x2, x3] ([.int x]) h = (Q (some (.int x)) h) := (mw_at mj_365_51).trans (z_iret)
theorem e_365 {a0 : Nat} {a1 : Int32} : mcall d 365 [.ref a0, .int a1] h Q = mw d 365 Q 0 [some (.ref a0), some (.int a1), none, none] [] h := by
  show mw d 365 Q 0 (me_en (mc_nl 365) _) [] h = _
  rw [nl_365]; rfl

end SR
