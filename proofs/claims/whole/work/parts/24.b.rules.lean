/-! rules of methods, by program (wip/whole/srule.py) -/
section SR
variable {d : Nat} {Q : Option Value → mh_H → Prop} {st : List Value} {h : mh_H}
/-! InvariantDesk$Tokens.scan()V -/
theorem mj_168_0 : mc_P 168 0 = some (.aload_n 0, 1, 0, 0, 0) := by decide +kernel
theorem s_168_0 {x1 x2 x3 x4 : Option Value} {w : Value} : mw d 168 Q 0 [some w, x1, x2, x3, x4] (st) h = mv_a w (mw d 168 Q 1 [some w, x1, x2, x3, x4] (w :: st) h) := (mw_at mj_168_0).trans (z_aload_n rfl)
theorem mj_168_1 : mc_P 168 1 = some (.iconst 0, 1, 0, 0, 0) := by decide +kernel
theorem s_168_1 {x0 x1 x2 x3 x4 : Option Value} : mw d 168 Q 1 [x0, x1, x2, x3, x4] (st) h = mw d 168 Q 2 [x0, x1, x2, x3, x4] (.int 0 :: st) h := (mw_at mj_168_1).trans (z_iconst (by decide))
theorem mj_168_2 : mc_P 168 2 = some (.invokevirtual 31, 3, 171, 10, 2) := by decide +kernel
theorem s_168_2 {x0 x1 x2 x3 x4 : Option Value} {o : Nat} {a1 : Value} : mw (d + 1) 168 Q 2 [x0, x1, x2, x3, x4] (a1 :: .ref o :: st) h = (mg h o 10 ∧ mca st 8 ∧ mca [.ref o, a1] 5 ∧ mcall d 171 [.ref o, a1] h (mK (d + 1) 168 Q 5 [x0, x1, x2, x3, x4] st)) := (mw_at mj_168_2).trans ((z_invv (As := [a1]) (by decide) rfl rfl).trans (congrArg (And _) (congrArg (And _) (mC_nl nl_171))))
theorem mj_168_5 : mc_P 168 5 = some (.istore_n 1, 1, 0, 0, 0) := by decide +kernel
theorem s_168_5 {x0 x1 x2 x3 x4 : Option Value} {w : Int32} : mw d 168 Q 5 [x0, x1, x2, x3, x4] (.int w :: st) h = mw d 168 Q 6 [mk2 x0, some (.int w), x2, x3, x4] (st) h := (mw_at mj_168_5).trans (z_istore_n (Nat.le_of_ble_eq_true rfl) (me_s1_mk (j := 0) (w := x0) rfl))
theorem mj_168_6 : mc_P 168 6 = some (.iconst 0, 1, 0, 0, 0) := by decide +kernel
theorem s_168_6 {x0 x1 x2 x3 x4 : Option Value} : mw d 168 Q 6 [x0, x1, x2, x3, x4] (st) h = mw d 168 Q 7 [x0, x1, x2, x3, x4] (.int 0 :: st) h := (mw_at mj_168_6).trans (z_iconst (by decide))
theorem mj_168_7 : mc_P 168 7 = some (.istore_n 2, 1, 0, 0, 0) := by decide +kernel
theorem s_168_7 {x0 x1 x2 x3 x4 : Option Value} {w : Int32} : mw d 168 Q 7 [x0, x1, x2, x3, x4] (.int w :: st) h = mw d 168 Q 8 [x0, mk2 x1, some (.int w), x3, x4] (st) h := (mw_at mj_168_7).trans (z_istore_n (Nat.le_of_ble_eq_true rfl) (me_s1_mk (j := 1) (w := x1) rfl))
theorem mj_168_8 : mc_P 168 8 = some (.iload_n 2, 1, 0, 0, 0) := by decide +kernel
theorem s_168_8 {x0 x1 x3 x4 : Option Value} {w : Value} : mw d 168 Q 8 [x0, x1, some w, x3, x4] (st) h = mv_i w (mw d 168 Q 9 [x0, x1, some w, x3, x4] (w :: st) h) := (mw_at mj_168_8).trans (z_iload_n rfl)
theorem mj_168_9 : mc_P 168 9 = some (.aload_n 0, 1, 0, 0, 0) := by decide +kernel
theorem s_168_9 {x1 x2 x3 x4 : Option Value} {w : Value} : mw d 168 Q 9 [some w, x1, x2, x3, x4] (st) h = mv_a w (mw d 168 Q 10 [some w, x1, x2, x3, x4] (w :: st) h) := (mw_at mj_168_9).trans (z_aload_n rfl)
theorem mj_168_10 : mc_P 168 10 = some (.getfield 15, 3, 10, 0, 0) := by decide +kernel
theorem s_168_10 {x0 x1 x2 x3 x4 : Option Value} {o : Nat} : mw d 168 Q 10 [x0, x1, x2, x3, x4] (.ref o :: st) h = (mg h o 10 ∧ mw d 168 Q 13 [x0, x1, x2, x3, x4] (va_rf (mh_r h o 0) :: st) h) := (mw_at mj_168_10).trans (z_getr (by decide) (by decide) rfl)
theorem mj_168_13 : mc_P 168 13 = some (.arraylength, 1, 0, 0, 0) := by decide +kernel
theorem s_168_13 {x0 x1 x2 x3 x4 : Option Value} {o : Nat} : mw d 168 Q 13 [x0, x1, x2, x3, x4] (.ref o :: st) h = (mga h o ∧ mw d 168 Q 14 [x0, x1, x2, x3, x4] (.int (Int32.ofNat (mh_l h o)) :: st) h) := (mw_at mj_168_13).trans (z_alen)
theorem mj_168_14 : mc_P 168 14 = some (.if_icmp .ge 63, 3, 0, 0, 0) := by decide +kernel
theorem s_168_14 {x0 x1 x2 x3 x4 : Option Value} {x w : Int32} : mw d 168 Q 14 [x0, x1, x2, x3, x4] (.int w :: .int x :: st) h = mB (w ≤ x) (mw d 168 Q) 77 17 [x0, x1, x2, x3, x4] st h := (mw_at mj_168_14).trans (z_icmp_ge (by decide) rfl)
theorem mj_168_17 : mc_P 168 17 = some (.iload_n 1, 1, 0, 0, 0) := by decide +kernel
theorem s_168_17 {x0 x2 x3 x4 : Option Value} {w : Value} : mw d 168 Q 17 [x0, some w, x2, x3, x4] (st) h = mv_i w (mw d 168 Q 18 [x0, some w, x2, x3, x4] (w :: st) h) := (mw_at mj_168_17).trans (z_iload_n rfl)
theorem mj_168_18 : mc_P 168 18 = some (.aload_n 0, 1, 0, 0, 0) := by decide +kernel
theorem s_168_18 {x1 x2 x3 x4 : Option Value} {w : Value} : mw d 168 Q 18 [some w, x1, x2, x3, x4] (st) h = mv_a w (mw d 168 Q 19 [some w, x1, x2, x3, x4] (w :: st) h) := (mw_at mj_168_18).trans (z_aload_n rfl)
theorem mj_168_19 : mc_P 168 19 = some (.getfield 15, 3, 10, 0, 0) := by decide +kernel
theorem s_168_19 {x0 x1 x2 x3 x4 : Option Value} {o : Nat} : mw d 168 Q 19 [x0, x1, x2, x3, x4] (.ref o :: st) h = (mg h o 10 ∧ mw d 168 Q 22 [x0, x1, x2, x3, x4] (va_rf (mh_r h o 0) :: st) h) := (mw_at mj_168_19).trans (z_getr (by decide) (by decide) rfl)
theorem mj_168_22 : mc_P 168 22 = some (.arraylength, 1, 0, 0, 0) := by decide +kernel
theorem s_168_22 {x0 x1 x2 x3 x4 : Option Value} {o : Nat} : mw d 168 Q 22 [x0, x1, x2, x3, x4] (.ref o :: st) h = (mga h o ∧ mw d 168 Q 23 [x0, x1, x2, x3, x4] (.int (Int32.ofNat (mh_l h o)) :: st) h) := (mw_at mj_168_22).trans (z_alen)
theorem mj_168_23 : mc_P 168 23 = some (.if_icmp .ge 54, 3, 0, 0, 0) := by decide +kernel
theorem s_168_23 {x0 x1 x2 x3 x4 : Option Value} {x w : Int32} : mw d 168 Q 23 [x0, x1, x2, x3, x4] (.int w :: .int x :: st) h = mB (w ≤ x) (mw d 168 Q) 77 26 [x0, x1, x2, x3, x4] st h := (mw_at mj_168_23).trans (z_icmp_ge (by decide) rfl)
theorem mj_168_26 : mc_P 168 26 = some (.aload_n 0, 1, 0, 0, 0) := by decide +kernel
theorem s_168_26 {x1 x2 x3 x4 : Option Value} {w : Value} : mw d 168 Q 26 [some w, x1, x2, x3, x4] (st) h = mv_a w (mw d 168 Q 27 [some w, x1, x2, x3, x4] (w :: st) h) := (mw_at mj_168_26).trans (z_aload_n rfl)
theorem mj_168_27 : mc_P 168 27 = some (.iload_n 1, 1, 0, 0, 0) := by decide +kernel
theorem s_168_27 {x0 x2 x3 x4 : Option Value} {w : Value} : mw d 168 Q 27 [x0, some w, x2, x3, x4] (st) h = mv_i w (mw d 168 Q 28 [x0, some w, x2, x3, x4] (w :: st) h) := (mw_at mj_168_27).trans (z_iload_n rfl)
theorem mj_168_28 : mc_P 168 28 = some (.invokevirtual 35, 3, 174, 10, 2) := by decide +kernel
theorem s_168_28 {x0 x1 x2 x3 x4 : Option Value} {o : Nat} {a1 : Value} : mw (d + 1) 168 Q 28 [x0, x1, x2, x3, x4] (a1 :: .ref o :: st) h = (mg h o 10 ∧ mca st 8 ∧ mca [.ref o, a1] 4 ∧ mcall d 174 [.ref o, a1] h (mK (d + 1) 168 Q 31 [x0, x1, x2, x3, x4] st)) := (mw_at mj_168_28).trans ((z_invv (As := [a1]) (by decide) rfl rfl).trans (congrArg (And _) (congrArg (And _) (mC_nl nl_174))))
theorem mj_168_31 : mc_P 168 31 = some (.istore_n 3, 1, 0, 0, 0) := by decide +kernel
theorem s_168_31 {x0 x1 x2 x3 x4 : Option Value} {w : Int32} : mw d 168 Q 31 [x0, x1, x2, x3, x4] (.int w :: st) h = mw d 168 Q 32 [x0, x1, mk2 x2, some (.int w), x4] (st) h := (mw_at mj_168_31).trans (z_istore_n (Nat.le_of_ble_eq_true rfl) (me_s1_mk (j := 2) (w := x2) rfl))
theorem mj_168_32 : mc_P 168 32 = some (.iload_n 3, 1, 0, 0, 0) := by decide +kernel
theorem s_168_32 {x0 x1 x2 x4 : Option Value} {w : Value} : mw d 168 Q 32 [x0, x1, x2, some w, x4] (st) h = mv_i w (mw d 168 Q 33 [x0, x1, x2, some w, x4] (w :: st) h) := (mw_at mj_168_32).trans (z_iload_n rfl)
theorem mj_168_33 : mc_P 168 33 = some (.ifCond .ne 7, 3, 0, 0, 0) := by decide +kernel
theorem s_168_33 {x0 x1 x2 x3 x4 : Option Value} {x : Int32} : mw d 168 Q 33 [x0, x1, x2, x3, x4] (.int x :: st) h = mB (¬ x = 0) (mw d 168 Q) 40 36 [x0, x1, x2, x3, x4] st h := (mw_at mj_168_33).trans (z_if_ne (by decide) rfl)
theorem mj_168_36 : mc_P 168 36 = some (.iconst 1, 1, 0, 0, 0) := by decide +kernel
theorem s_168_36 {x0 x1 x2 x3 x4 : Option Value} : mw d 168 Q 36 [x0, x1, x2, x3, x4] (st) h = mw d 168 Q 37 [x0, x1, x2, x3, x4] (.int 1 :: st) h := (mw_at mj_168_36).trans (z_iconst (by decide))
theorem mj_168_37 : mc_P 168 37 = some (.goto 9, 3, 0, 0, 0) := by decide +kernel
theorem s_168_37 {x0 x1 x2 x3 x4 : Option Value} : mw d 168 Q 37 [x0, x1, x2, x3, x4] (st) h = mw d 168 Q 46 [x0, x1, x2, x3, x4] (st) h := (mw_at mj_168_37).trans (z_goto (by decide))
theorem mj_168_40 : mc_P 168 40 = some (.aload_n 0, 1, 0, 0, 0) := by decide +kernel
theorem s_168_40 {x1 x2 x3 x4 : Option Value} {w : Value} : mw d 168 Q 40 [some w, x1, x2, x3, x4] (st) h = mv_a w (mw d 168 Q 41 [some w, x1, x2, x3, x4] (w :: st) h) := (mw_at mj_168_40).trans (z_aload_n rfl)
theorem mj_168_41 : mc_P 168 41 = some (.iload_n 1, 1, 0, 0, 0) := by decide +kernel
theorem s_168_41 {x0 x2 x3 x4 : Option Value} {w : Value} : mw d 168 Q 41 [x0, some w, x2, x3, x4] (st) h = mv_i w (mw d 168 Q 42 [x0, some w, x2, x3, x4] (w :: st) h) := (mw_at mj_168_41).trans (z_iload_n rfl)
theorem mj_168_42 : mc_P 168 42 = some (.iload_n 3, 1, 0, 0, 0) := by decide +kernel
theorem s_168_42 {x0 x1 x2 x4 : Option Value} {w : Value} : mw d 168 Q 42 [x0, x1, x2, some w, x4] (st) h = mv_i w (mw d 168 Q 43 [x0, x1, x2, some w, x4] (w :: st) h) := (mw_at mj_168_42).trans (z_iload_n rfl)
theorem mj_168_43 : mc_P 168 43 = some (.invokevirtual 38, 3, 178, 10, 3) := by decide +kernel
theorem s_168_43 {x0 x1 x2 x3 x4 : Option Value} {o : Nat} {a1 a2 : Value} : mw (d + 1) 168 Q 43 [x0, x1, x2, x3, x4] (a2 :: a1 :: .ref o :: st) h = (mg h o 10 ∧ mca st 8 ∧ mca [.ref o, a1, a2] 4 ∧ mcall d 178 [.ref o, a1, a2] h (mK (d + 1) 168 Q 46 [x0, x1, x2, x3, x4] st)) := (mw_at mj_168_43).trans ((z_invv (As := [a1, a2]) (by decide) rfl rfl).trans (congrArg (And _) (congrArg (And _) (mC_nl nl_178))))
theorem mj_168_46 : mc_P 168 46 = some (.istore 4, 2, 0, 0, 0) := by decide +kernel
theorem s_168_46 {x0 x1 x2 x3 x4 : Option Value} {w : Int32} : mw d 168 Q 46 [x0, x1, x2, x3, x4] (.int w :: st) h = mw d 168 Q 48 [x0, x1, x2, mk2 x3, some (.int w)] (st) h := (mw_at mj_168_46).trans (z_istore (Nat.le_of_ble_eq_true rfl) (me_s1_mk (j := 3) (w := x3) rfl))
theorem mj_168_48 : mc_P 168 48 = some (.aload_n 0, 1, 0, 0, 0) := by decide +kernel
theorem s_168_48 {x1 x2 x3 x4 : Option Value} {w : Value} : mw d 168 Q 48 [some w, x1, x2, x3, x4] (st) h = mv_a w (mw d 168 Q 49 [some w, x1, x2, x3, x4] (w :: st) h) := (mw_at mj_168_48).trans (z_aload_n rfl)
theorem mj_168_49 : mc_P 168 49 = some (.iload 4, 2, 0, 0, 0) := by decide +kernel
theorem s_168_49 {x0 x1 x2 x3 : Option Value} {w : Value} : mw d 168 Q 49 [x0, x1, x2, x3, some w] (st) h = mv_i w (mw d 168 Q 51 [x0, x1, x2, x3, some w] (w :: st) h) := (mw_at mj_168_49).trans (z_iload rfl)
theorem mj_168_51 : mc_P 168 51 = some (.iload_n 1, 1, 0, 0, 0) := by decide +kernel
theorem s_168_51 {x0 x2 x3 x4 : Option Value} {w : Value} : mw d 168 Q 51 [x0, some w, x2, x3, x4] (st) h = mv_i w (mw d 168 Q 52 [x0, some w, x2, x3, x4] (w :: st) h) := (mw_at mj_168_51).trans (z_iload_n rfl)
theorem mj_168_52 : mc_P 168 52 = some (.iload_n 3, 1, 0, 0, 0) := by decide +kernel
theorem s_168_52 {x0 x1 x2 x4 : Option Value} {w : Value} : mw d 168 Q 52 [x0, x1, x2, some w, x4] (st) h = mv_i w (mw d 168 Q 53 [x0, x1, x2, some w, x4] (w :: st) h) := (mw_at mj_168_52).trans (z_iload_n rfl)
theorem mj_168_53 : mc_P 168 53 = some (.invokevirtual 42, 3, 169, 10, 4) := by decide +kernel
theorem s_168_53 {x0 x1 x2 x3 x4 : Option Value} {o : Nat} {a1 a2 a3 : Value} : mw (d + 1) 168 Q 53 [x0, x1, x2, x3, x4] (a3 :: a2 :: a1 :: .ref o :: st) h = (mg h o 10 ∧ mca st 8 ∧ mca [.ref o, a1, a2, a3] 4 ∧ mcall d 169 [.ref o, a1, a2, a3] h (mK (d + 1) 168 Q 56 [x0, x1, x2, x3, x4] st)) := (mw_at mj_168_53).trans ((z_invv (As := [a1, a2, a3]) (by decide) rfl rfl).trans (congrArg (And _) (congrArg (And _) (mC_nl nl_169))))
theorem mj_168_56 : mc_P 168 56 = some (.iload 4, 2, 0, 0, 0) := by decide +kernel
theorem s_168_56 {x0 x1 x2 x3 : Option Value} {w : Value} : mw d 168 Q 56 [x0, x1, x2, x3, some w] (st) h = mv_i w (mw d 168 Q 58 [x0, x1, x2, x3, some w] (w :: st) h) := (mw_at mj_168_56).trans (z_iload rfl)
theorem mj_168_58 : mc_P 168 58 = some (.iconst 1, 1, 0, 0, 0) := by decide +kernel
theorem s_168_58 {x0 x1 x2 x3 x4 : Option Value} : mw d 168 Q 58 [x0, x1, x2, x3, x4] (st) h = mw d 168 Q 59 [x0, x1, x2, x3, x4] (.int 1 :: st) h := (mw_at mj_168_58).trans (z_iconst (by decide))
theorem mj_168_59 : mc_P 168 59 = some (.if_icmp .ne 4, 3, 0, 0, 0) := by decide +kernel
theorem s_168_59 {x0 x1 x2 x3 x4 : Option Value} {x w : Int32} : mw d 168 Q 59 [x0, x1, x2, x3, x4] (.int w :: .int x :: st) h = mB (¬ x = w) (mw d 168 Q) 63 62 [x0, x1, x2, x3, x4] st h := (mw_at mj_168_59).trans (z_icmp_ne (by decide) rfl)
theorem mj_168_62 : mc_P 168 62 = some (.return_, 1, 0, 0, 0) := by decide +kernel
theorem s_168_62 {x0 x1 x2 x3 x4 : Option Value} : mw d 168 Q 62 [x0, x1, x2, x3, x4] ([]) h = Q none h := (mw_at mj_168_62).trans (z_vret)
theorem mj_168_63 : mc_P 168 63 = some (.aload_n 0, 1, 0, 0, 0) := by decide +kernel
theorem s_168_63 {x1 x2 x3 x4 : Option Value} {w : Value} : mw d 168 Q 63 [some w, x1, x2, x3, x4] (st) h = mv_a w (mw d 168 Q 64 [some w, x1, x2, x3, x4] (w :: st) h) := (mw_at mj_168_63).trans (z_aload_n rfl)
theorem mj_168_64 : mc_P 168 64 = some (.iload_n 1, 1, 0, 0, 0) := by decide +kernel
theorem s_168_64 {x0 x2 x3 x4 : Option Value} {w : Value} : mw d 168 Q 64 [x0, some w, x2, x3, x4] (st) h = mv_i w (mw d 168 Q 65 [x0, some w, x2, x3, x4] (w :: st) h) := (mw_at mj_168_64).trans (z_iload_n rfl)
theorem mj_168_65 : mc_P 168 65 = some (.iload_n 3, 1, 0, 0, 0) := by decide +kernel
theorem s_168_65 {x0 x1 x2 x4 : Option Value} {w : Value} : mw d 168 Q 65 [x0, x1, x2, some w, x4] (st) h = mv_i w (mw d 168 Q 66 [x0, x1, x2, some w, x4] (w :: st) h) := (mw_at mj_168_65).trans (z_iload_n rfl)
theorem mj_168_66 : mc_P 168 66 = some (.iadd, 1, 0, 0, 0) := by decide +kernel
theorem s_168_66 {x0 x1 x2 x3 x4 : Option Value} {x w : Int32} : mw d 168 Q 66 [x0, x1, x2, x3, x4] (.int w :: .int x :: st) h = mw d 168 Q 67 [x0, x1, x2, x3, x4] (.int (x + w) :: st) h := (mw_at mj_168_66).trans (z_iadd)
theorem mj_168_67 : mc_P 168 67 = some (.invokevirtual 31, 3, 171, 10, 2) := by decide +kernel
theorem s_168_67 {x0 x1 x2 x3 x4 : Option Value} {o : Nat} {a1 : Value} : mw (d + 1) 168 Q 67 [x0, x1, x2, x3, x4] (a1 :: .ref o :: st) h = (mg h o 10 ∧ mca st 8 ∧ mca [.ref o, a1] 5 ∧ mcall d 171 [.ref o, a1] h (mK (d + 1) 168 Q 70 [x0, x1, x2, x3, x4] st)) := (mw_at mj_168_67).trans ((z_invv (As := [a1]) (by decide) rfl rfl).trans (congrArg (And _) (congrArg (And _) (mC_nl nl_171))))
theorem mj_168_70 : mc_P 168 70 = some (.istore_n 1, 1, 0, 0, 0) := by decide +kernel
theorem s_168_70 {x0 x1 x2 x3 x4 : Option Value} {w : Int32} : mw d 168 Q 70 [x0, x1, x2, x3, x4] (.int w :: st) h = mw d 168 Q 71 [mk2 x0, some (.int w), x2, x3, x4] (st) h := (mw_at mj_168_70).trans (z_istore_n (Nat.le_of_ble_eq_true rfl) (me_s1_mk (j := 0) (w := x0) rfl))
theorem mj_168_71 : mc_P 168 71 = some (.iinc 2 1, 3, 0, 0, 0) := by decide +kernel
theorem s_168_71 {x0 x1 x3 x4 : Option Value} {w : Int32} : mw d 168 Q 71 [x0, x1, some (.int w), x3, x4] (st) h = mw d 168 Q 74 [x0, mk2 x1, some (.int (w + 1)), x3, x4] (st) h := (mw_at mj_168_71).trans (z_iinc rfl (Nat.le_of_ble_eq_true rfl) (by decide) (me_s1_mk (j := 1) (w := x1) rfl))
theorem mj_168_74 : mc_P 168 74 = some (.goto (-66), 3, 0, 0, 0) := by decide +kernel
theorem s_168_74 {x0 x1 x2 x3 x4 : Option Value} : mw d 168 Q 74 [x0, x1, x2, x3, x4] (st) h = mw d 168 Q 8 [x0, x1, x2, x3, x4] (st) h := (mw_at mj_168_74).trans (z_goto (by decide))
theorem mj_168_77 : mc_P 168 77 = some (.aload_n 0, 1, 0, 0, 0) := by decide +kernel
theorem s_168_77 {x1 x2 x3 x4 : Option Value} {w : Value} : mw d 168 Q 77 [some w, x1, x2, x3, x4] (st) h = mv_a w (mw d 168 Q 78 [some w, x1, x2, x3, x4] (w :: st) h) := (mw_at mj_168_77).trans (z_aload_n rfl)
theorem mj_168_78 : mc_P 168 78 = some (.iconst 0, 1, 0, 0, 0) := by decide +kernel
theorem s_168_78 {x0 x1 x2 x3 x4 : Option Value} : mw d 168 Q 78 [x0, x1, x2, x3, x4] (st) h = mw d 168 Q 79 [x0, x1, x2, x3, x4] (.int 0 :: st) h := (mw_at mj_168_78).trans (z_iconst (by decide))
theorem mj_168_79 : mc_P 168 79 = some (.aload_n 0, 1, 0, 0, 0) := by decide +kernel
theorem s_168_79 {x1 x2 x3 x4 : Option Value} {w : Value} : mw d 168 Q 79 [some w, x1, x2, x3, x4] (st) h = mv_a w (mw d 168 Q 80 [some w, x1, x2, x3, x4] (w :: st) h) := (mw_at mj_168_79).trans (z_aload_n rfl)
theorem mj_168_80 : mc_P 168 80 = some (.getfield 15, 3, 10, 0, 0) := by decide +kernel
theorem s_168_80 {x0 x1 x2 x3 x4 : Option Value} {o : Nat} : mw d 168 Q 80 [x0, x1, x2, x3, x4] (.ref o :: st) h = (mg h o 10 ∧ mw d 168 Q 83 [x0, x1, x2, x3, x4] (va_rf (mh_r h o 0) :: st) h) := (mw_at mj_168_80).trans (z_getr (by decide) (by decide) rfl)
theorem mj_168_83 : mc_P 168 83 = some (.arraylength, 1, 0, 0, 0) := by decide +kernel
theorem s_168_83 {x0 x1 x2 x3 x4 : Option Value} {o : Nat} : mw d 168 Q 83 [x0, x1, x2, x3, x4] (.ref o :: st) h = (mga h o ∧ mw d 168 Q 84 [x0, x1, x2, x3, x4] (.int (Int32.ofNat (mh_l h o)) :: st) h) := (mw_at mj_168_83).trans (z_alen)
theorem mj_168_84 : mc_P 168 84 = some (.iconst 0, 1, 0, 0, 0) := by decide +kernel
theorem s_168_84 {x0 x1 x2 x3 x4 : Option Value} : mw d 168 Q 84 [x0, x1, x2, x3, x4] (st) h = mw d 168 Q 85 [x0, x1, x2, x3, x4] (.int 0 :: st) h := (mw_at mj_168_84).trans (z_iconst (by decide))
theorem mj_168_85 : mc_P 168 85 = some (.invokevirtual 42, 3, 169, 10, 4) := by decide +kernel
theorem s_168_85 {x0 x1 x2 x3 x4 : Option Value} {o : Nat} {a1 a2 a3 : Value} : mw (d + 1) 168 Q 85 [x0, x1, x2, x3, x4] (a3 :: a2 :: a1 :: .ref o :: st) h = (mg h o 10 ∧ mca st 8 ∧ mca [.ref o, a1, a2, a3] 4 ∧ mcall d 169 [.ref o, a1, a2, a3] h (mK (d + 1) 168 Q 88 [x0, x1, x2, x3, x4] st)) := (mw_at mj_168_85).trans ((z_invv (As := [a1, a2, a3]) (by decide) rfl rfl).trans (congrArg (And _) (congrArg (And _) (mC_nl nl_169))))
theorem mj_168_88 : mc_P 168 88 = some (.return_, 1, 0, 0, 0) := by decide +kernel
theorem s_168_88 {x0 x1 x2 x3 x4 : Option Value} : mw d 168 Q 88 [x0, x1, x2, x3, x4] ([]) h = Q none h := (mw_at mj_168_88).trans (z_vret)
theorem e_168 {a0 : Nat} : mcall d 168 [.ref a0] h Q = mw d 168 Q 0 [some (.ref a0), none, none, none, none] [] h := by
  show mw d 168 Q 0 (me_en (mc_nl 168) _) [] h = _
  rw [nl_168]; rfl

/-! InvariantDesk$Tokens.add(III)V -/
theorem mj_169_0 : mc_P 169 0 = some (.aload_n 0, 1, 0, 0, 0) := by decide +kernel
theorem s_169_0 {x1 x2 x3 : Option Value} {w : Value} : mw d 169 Q 0 [some w, x1, x2, x3] (st) h = mv_a w (mw d 169 Q 1 [some w, x1, x2, x3] (w :: st) h) := (mw_at mj_169_0).trans (z_aload_n rfl)
theorem mj_169_1 : mc_P 169 1 = some (.getfield 21, 3, 10, 1, 0) := by decide +kernel
theorem s_169_1 {x0 x1 x2 x3 : Option Value} {o : Nat} : mw d 169 Q 1 [x0, x1, x2, x3] (.ref o :: st) h = (mg h o 10 ∧ mw d 169 Q 4 [x0, x1, x2, x3] (va_rf (mh_r h o 1) :: st) h) := (mw_at mj_169_1).trans (z_getr (by decide) (by decide) rfl)
theorem mj_169_4 : mc_P 169 4 = some (.aload_n 0, 1, 0, 0, 0) := by decide +kernel
theorem s_169_4 {x1 x2 x3 : Option Value} {w : Value} : mw d 169 Q 4 [some w, x1, x2, x3] (st) h = mv_a w (mw d 169 Q 5 [some w, x1, x2, x3] (w :: st) h) := (mw_at mj_169_4).trans (z_aload_n rfl)
theorem mj_169_5 : mc_P 169 5 = some (.getfield 46, 3, 10, 4, 0) := by decide +kernel
theorem s_169_5 {x0 x1 x2 x3 : Option Value} {o : Nat} : mw d 169 Q 5 [x0, x1, x2, x3] (.ref o :: st) h = (mg h o 10 ∧ mw d 169 Q 8 [x0, x1, x2, x3] (.int (mh_i h o 4) :: st) h) := (mw_at mj_169_5).trans (z_geti (by decide) (by decide) (Or.inl rfl))
theorem mj_169_8 : mc_P 169 8 = some (.iload_n 1, 1, 0, 0, 0) := by decide +kernel
theorem s_169_8 {x0 x2 x3 : Option Value} {w : Value} : mw d 169 Q 8 [x0, some w, x2, x3] (st) h = mv_i w (mw d 169 Q 9 [x0, some w, x2, x3] (w :: st) h) := (mw_at mj_169_8).trans (z_iload_n rfl)
theorem mj_169_9 : mc_P 169 9 = some (.iastore, 1, 0, 0, 0) := by decide +kernel
theorem s_169_9 {x0 x1 x2 x3 : Option Value} {o : Nat} {i w : Int32} : mw d 169 Q 9 [x0, x1, x2, x3] (.int w :: .int i :: .ref o :: st) h = (mg h o 100 ∧ mx i (mh_l h o) ∧ mw d 169 Q 10 [x0, x1, x2, x3] (st) (mh_si h o i.toNatClampNeg w)) := (mw_at mj_169_9).trans (z_iast)
theorem mj_169_10 : mc_P 169 10 = some (.aload_n 0, 1, 0, 0, 0) := by decide +kernel
theorem s_169_10 {x1 x2 x3 : Option Value} {w : Value} : mw d 169 Q 10 [some w, x1, x2, x3] (st) h = mv_a w (mw d 169 Q 11 [some w, x1, x2, x3] (w :: st) h) := (mw_at mj_169_10).trans (z_aload_n rfl)
theorem mj_169_11 : mc_P 169 11 = some (.getfield 25, 3, 10, 2, 0) := by decide +kernel
theorem s_169_11 {x0 x1 x2 x3 : Option Value} {o : Nat} : mw d 169 Q 11 [x0, x1, x2, x3] (.ref o :: st) h = (mg h o 10 ∧ mw d 169 Q 14 [x0, x1, x2, x3] (va_rf (mh_r h o 2) :: st) h) := (mw_at mj_169_11).trans (z_getr (by decide) (by decide) rfl)
theorem mj_169_14 : mc_P 169 14 = some (.aload_n 0, 1, 0, 0, 0) := by decide +kernel
theorem s_169_14 {x1 x2 x3 : Option Value} {w : Value} : mw d 169 Q 14 [some w, x1, x2, x3] (st) h = mv_a w (mw d 169 Q 15 [some w, x1, x2, x3] (w :: st) h) := (mw_at mj_169_14).trans (z_aload_n rfl)
theorem mj_169_15 : mc_P 169 15 = some (.getfield 46, 3, 10, 4, 0) := by decide +kernel
theorem s_169_15 {x0 x1 x2 x3 : Option Value} {o : Nat} : mw d 169 Q 15 [x0, x1, x2, x3] (.ref o :: st) h = (mg h o 10 ∧ mw d 169 Q 18 [x0, x1, x2, x3] (.int (mh_i h o 4) :: st) h) := (mw_at mj_169_15).trans (z_geti (by decide) (by decide) (Or.inl rfl))
theorem mj_169_18 : mc_P 169 18 = some (.iload_n 2, 1, 0, 0, 0) := by decide +kernel
theorem s_169_18 {x0 x1 x3 : Option Value} {w : Value} : mw d 169 Q 18 [x0, x1, some w, x3] (st) h = mv_i w (mw d 169 Q 19 [x0, x1, some w, x3] (w :: st) h) := (mw_at mj_169_18).trans (z_iload_n rfl)
theorem mj_169_19 : mc_P 169 19 = some (.iastore, 1, 0, 0, 0) := by decide +kernel
theorem s_169_19 {x0 x1 x2 x3 : Option Value} {o : Nat} {i w : Int32} : mw d 169 Q 19 [x0, x1, x2, x3] (.int w :: .int i :: .ref o :: st) h = (mg h o 100 ∧ mx i (mh_l h o) ∧ mw d 169 Q 20 [x0, x1, x2, x3] (st) (mh_si h o i.toNatClampNeg w)) := (mw_at mj_169_19).trans (z_iast)
theorem mj_169_20 : mc_P 169 20 = some (.aload_n 0, 1, 0, 0, 0) := by decide +kernel
theorem s_169_20 {x1 x2 x3 : Option Value} {w : Value} : mw d 169 Q 20 [some w, x1, x2, x3] (st) h = mv_a w (mw d 169 Q 21 [some w, x1, x2, x3] (w :: st) h) := (mw_at mj_169_20).trans (z_aload_n rfl)
theorem mj_169_21 : mc_P 169 21 = some (.getfield 28, 3, 10, 3, 0) := by decide +kernel
theorem s_169_21 {x0 x1 x2 x3 : Option Value} {o : Nat} : mw d 169 Q 21 [x0, x1, x2, x3] (.ref o :: st) h = (mg h o 10 ∧ mw d 169 Q 24 [x0, x1, x2, x3] (va_rf (mh_r h o 3) :: st) h) := (mw_at mj_169_21).trans (z_getr (by decide) (by decide) rfl)
theorem mj_169_24 : mc_P 169 24 = some (.aload_n 0, 1, 0, 0, 0) := by decide +kernel
theorem s_169_24 {x1 x2 x3 : Option Value} {w : Value} : mw d 169 Q 24 [some w, x1, x2, x3] (st) h = mv_a w (mw d 169 Q 25 [some w, x1, x2, x3] (w :: st) h) := (mw_at mj_169_24).trans (z_aload_n rfl)
theorem mj_169_25 : mc_P 169 25 = some (.getfield 46, 3, 10, 4, 0) := by decide +kernel
theorem s_169_25 {x0 x1 x2 x3 : Option Value} {o : Nat} : mw d 169 Q 25 [x0, x1, x2, x3] (.ref o :: st) h = (mg h o 10 ∧ mw d 169 Q 28 [x0, x1, x2, x3] (.int (mh_i h o 4) :: st) h) := (mw_at mj_169_25).trans (z_geti (by decide) (by decide) (Or.inl rfl))
theorem mj_169_28 : mc_P 169 28 = some (.iload_n 3, 1, 0, 0, 0) := by decide +kernel
theorem s_169_28 {x0 x1 x2 : Option Value} {w : Value} : mw d 169 Q 28 [x0, x1, x2, some w] (st) h = mv_i w (mw d 169 Q 29 [x0, x1, x2, some w] (w :: st) h) := (mw_at mj_169_28).trans (z_iload_n rfl)
theorem mj_169_29 : mc_P 169 29 = some (.iastore, 1, 0, 0, 0) := by decide +kernel
theorem s_169_29 {x0 x1 x2 x3 : Option Value} {o : Nat} {i w : Int32} : mw d 169 Q 29 [x0, x1, x2, x3] (.int w :: .int i :: .ref o :: st) h = (mg h o 100 ∧ mx i (mh_l h o) ∧ mw d 169 Q 30 [x0, x1, x2, x3] (st) (mh_si h o i.toNatClampNeg w)) := (mw_at mj_169_29).trans (z_iast)
theorem mj_169_30 : mc_P 169 30 = some (.aload_n 0, 1, 0, 0, 0) := by decide +kernel
theorem s_169_30 {x1 x2 x3 : Option Value} {w : Value} : mw d 169 Q 30 [some w, x1, x2, x3] (st) h = mv_a w (mw d 169 Q 31 [some w, x1, x2, x3] (w :: st) h) := (mw_at mj_169_30).trans (z_aload_n rfl)
theorem mj_169_31 : mc_P 169 31 = some (.dup, 1, 0, 0, 0) := by decide +kernel
theorem s_169_31 {x0 x1 x2 x3 : Option Value} {w : Value} : mw d 169 Q 31 [x0, x1, x2, x3] (w :: st) h = (w.category = 1 ∧ mw d 169 Q 32 [x0, x1, x2, x3] (w :: w :: st) h) := (mw_at mj_169_31).trans (z_dup)
theorem mj_169_32 : mc_P 169 32 = some (.getfield 46, 3, 10, 4, 0) := by decide +kernel
theorem s_169_32 {x0 x1 x2 x3 : Option Value} {o : Nat} : mw d 169 Q 32 [x0, x1, x2, x3] (.ref o :: st) h = (mg h o 10 ∧ mw d 169 Q 35 [x0, x1, x2, x3] (.int (mh_i h o 4) :: st) h) := (mw_at mj_169_32).trans (z_geti (by decide) (by decide) (Or.inl rfl))
theorem mj_169_35 : mc_P 169 35 = some (.iconst 1, 1, 0, 0, 0) := by decide +kernel
theorem s_169_35 {x0 x1 x2 x3 : Option Value} : mw d 169 Q 35 [x0, x1, x2, x3] (st) h = mw d 169 Q 36 [x0, x1, x2, x3] (.int 1 :: st) h := (mw_at mj_169_35).trans (z_iconst (by decide))
theorem mj_169_36 : mc_P 169 36 = some (.iadd, 1, 0, 0, 0) := by decide +kernel
theorem s_169_36 {x0 x1 x2 x3 : Option Value} {x w : Int32} : mw d 169 Q 36 [x0, x1, x2, x3] (.int w :: .int x :: st) h = mw d 169 Q 37 [x0, x1, x2, x3] (.int (x + w) :: st) h := (mw_at mj_169_36).trans (z_iadd)
theorem mj_169_37 : mc_P 169 37 = some (.putfield 46, 3, 10, 4, 0) := by decide +kernel
theorem s_169_37 {x0 x1 x2 x3 : Option Value} {o : Nat} {w : Int32} : mw d 169 Q 37 [x0, x1, x2, x3] (.int w :: .ref o :: st) h = (mg h o 10 ∧ mw d 169 Q 40 [x0, x1, x2, x3] (st) (mh_si h o 4 w)) := (mw_at mj_169_37).trans (z_puti (by decide) (by decide) rfl)
theorem mj_169_40 : mc_P 169 40 = some (.return_, 1, 0, 0, 0) := by decide +kernel
theorem s_169_40 {x0 x1 x2 x3 : Option Value} : mw d 169 Q 40 [x0, x1, x2, x3] ([]) h = Q none h := (mw_at mj_169_40).trans (z_vret)
theorem e_169 {a0 : Nat} {a1 : Int32} {a2 : Int32} {a3 : Int32} : mcall d 169 [.ref a0, .int a1, .int a2, .int a3] h Q = mw d 169 Q 0 [some (.ref a0), some (.int a1), some (.int a2), some (.int a3)] [] h := by
  show mw d 169 Q 0 (me_en (mc_nl 169) _) [] h = _
  rw [nl_169]; rfl

/-! InvariantDesk$Tokens.behindBlanks(I)I -/
theorem mj_171_0 : mc_P 171 0 = some (.iconst 0, 1, 0, 0, 0) := by decide +kernel
theorem s_171_0 {x0 x1 x2 x3 x4 : Option Value} : mw d 171 Q 0 [x0, x1, x2, x3, x4] (st) h = mw d 171 Q 1 [x0, x1, x2, x3, x4] (.int 0 :: st) h := (mw_at mj_171_0).trans (z_iconst (by decide))
theorem mj_171_1 : mc_P 171 1 = some (.istore_n 2, 1, 0, 0, 0) := by decide +kernel
theorem s_171_1 {x0 x1 x2 x3 x4 : Option Value} {w : Int32} : mw d 171 Q 1 [x0, x1, x2, x3, x4] (.int w :: st) h = mw d 171 Q 2 [x0, mk2 x1, some (.int w), x3, x4] (st) h := (mw_at mj_171_1).trans (z_istore_n (Nat.le_of_ble_eq_true rfl) (me_s1_mk (j := 1) (w := x1) rfl))
theorem mj_171_2 : mc_P 171 2 = some (.iload_n 1, 1, 0, 0, 0) := by decide +kernel
theorem s_171_2 {x0 x2 x3 x4 : Option Value} {w : Value} : mw d 171 Q 2 [x0, some w, x2, x3, x4] (st) h = mv_i w (mw d 171 Q 3 [x0, some w, x2, x3, x4] (w :: st) h) := (mw_at mj_171_2).trans (z_iload_n rfl)
theorem mj_171_3 : mc_P 171 3 = some (.istore_n 3, 1, 0, 0, 0) := by decide +kernel
theorem s_171_3 {x0 x1 x2 x3 x4 : Option Value} {w : Int32} : mw d 171 Q 3 [x0, x1, x2, x3, x4] (.int w :: st) h = mw d 171 Q 4 [x0, x1, mk2 x2, some (.int w), x4] (st) h := (mw_at mj_171_3).trans (z_istore_n (Nat.le_of_ble_eq_true rfl) (me_s1_mk (j := 2) (w := x2) rfl))
theorem mj_171_4 : mc_P 171 4 = some (.iload_n 3, 1, 0, 0, 0) := by decide +kernel
theorem s_171_4 {x0 x1 x2 x4 : Option Value} {w : Value} : mw d 171 Q 4 [x0, x1, x2, some w, x4] (st) h = mv_i w (mw d 171 Q 5 [x0, x1, x2, some w, x4] (w :: st) h) := (mw_at mj_171_4).trans (z_iload_n rfl)
theorem mj_171_5 : mc_P 171 5 = some (.aload_n 0, 1, 0, 0, 0) := by decide +kernel
theorem s_171_5 {x1 x2 x3 x4 : Option Value} {w : Value} : mw d 171 Q 5 [some w, x1, x2, x3, x4] (st) h = mv_a w (mw d 171 Q 6 [some w, x1, x2, x3, x4] (w :: st) h) := (mw_at mj_171_5).trans (z_aload_n rfl)
theorem mj_171_6 : mc_P 171 6 = some (.getfield 15, 3, 10, 0, 0) := by decide +kernel
theorem s_171_6 {x0 x1 x2 x3 x4 : Option Value} {o : Nat} : mw d 171 Q 6 [x0, x1, x2, x3, x4] (.ref o :: st) h = (mg h o 10 ∧ mw d 171 Q 9 [x0, x1, x2, x3, x4] (va_rf (mh_r h o 0) :: st) h) := (mw_at mj_171_6).trans (z_getr (by decide) (by decide) rfl)
theorem mj_171_9 : mc_P 171 9 = some (.arraylength, 1, 0, 0, 0) := by decide +kernel
theorem s_171_9 {x0 x1 x2 x3 x4 : Option Value} {o : Nat} : mw d 171 Q 9 [x0, x1, x2, x3, x4] (.ref o :: st) h = (mga h o ∧ mw d 171 Q 10 [x0, x1, x2, x3, x4] (.int (Int32.ofNat (mh_l h o)) :: st) h) := (mw_at mj_171_9).trans (z_alen)
theorem mj_171_10 : mc_P 171 10 = some (.if_icmp .ge 90, 3, 0, 0, 0) := by decide +kernel
theorem s_171_10 {x0 x1 x2 x3 x4 : Option Value} {x w : Int32} : mw d 171 Q 10 [x0, x1, x2, x3, x4] (.int w :: .int x :: st) h = mB (w ≤ x) (mw d 171 Q) 100 13 [x0, x1, x2, x3, x4] st h := (mw_at mj_171_10).trans (z_icmp_ge (by decide) rfl)
theorem mj_171_13 : mc_P 171 13 = some (.aload_n 0, 1, 0, 0, 0) := by decide +kernel
theorem s_171_13 {x1 x2 x3 x4 : Option Value} {w : Value} : mw d 171 Q 13 [some w, x1, x2, x3, x4] (st) h = mv_a w (mw d 171 Q 14 [some w, x1, x2, x3, x4] (w :: st) h) := (mw_at mj_171_13).trans (z_aload_n rfl)
theorem mj_171_14 : mc_P 171 14 = some (.iload_n 3, 1, 0, 0, 0) := by decide +kernel
theorem s_171_14 {x0 x1 x2 x4 : Option Value} {w : Value} : mw d 171 Q 14 [x0, x1, x2, some w, x4] (st) h = mv_i w (mw d 171 Q 15 [x0, x1, x2, some w, x4] (w :: st) h) := (mw_at mj_171_14).trans (z_iload_n rfl)
theorem mj_171_15 : mc_P 171 15 = some (.invokevirtual 50, 3, 170, 10, 2) := by decide +kernel
theorem s_171_15 {x0 x1 x2 x3 x4 : Option Value} {o : Nat} {a1 : Value} : mw (d + 1) 171 Q 15 [x0, x1, x2, x3, x4] (a1 :: .ref o :: st) h = (mg h o 10 ∧ mca st 8 ∧ mca [.ref o, a1] 2 ∧ mcall d 170 [.ref o, a1] h (mK (d + 1) 171 Q 18 [x0, x1, x2, x3, x4] st)) := (mw_at mj_171_15).trans ((z_invv (As := [a1]) (by decide) rfl rfl).trans (congrArg (And _) (congrArg (And _) (mC_nl nl_170))))
theorem mj_171_18 : mc_P 171 18 = some (.istore 4, 2, 0, 0, 0) := by decide +kernel
theorem s_171_18 {x0 x1 x2 x3 x4 : Option Value} {w : Int32} : mw d 171 Q 18 [x0, x1, x2, x3, x4] (.int w :: st) h = mw d 171 Q 20 [x0, x1, x2, mk2 x3, some (.int w)] (st) h := (mw_at mj_171_18).trans (z_istore (Nat.le_of_ble_eq_true rfl) (me_s1_mk (j := 3) (w := x3) rfl))
theorem mj_171_20 : mc_P 171 20 = some (.iload_n 2, 1, 0, 0, 0) := by decide +kernel
theorem s_171_20 {x0 x1 x3 x4 : Option Value} {w : Value} : mw d 171 Q 20 [x0, x1, some w, x3, x4] (st) h = mv_i w (mw d 171 Q 21 [x0, x1, some w, x3, x4] (w :: st) h) := (mw_at mj_171_20).trans (z_iload_n rfl)
theorem mj_171_21 : mc_P 171 21 = some (.ifCond .eq 19, 3, 0, 0, 0) := by decide +kernel
theorem s_171_21 {x0 x1 x2 x3 x4 : Option Value} {x : Int32} : mw d 171 Q 21 [x0, x1, x2, x3, x4] (.int x :: st) h = mB (x = 0) (mw d 171 Q) 40 24 [x0, x1, x2, x3, x4] st h := (mw_at mj_171_21).trans (z_if_eq (by decide) rfl)
theorem mj_171_24 : mc_P 171 24 = some (.iload 4, 2, 0, 0, 0) := by decide +kernel
theorem s_171_24 {x0 x1 x2 x3 : Option Value} {w : Value} : mw d 171 Q 24 [x0, x1, x2, x3, some w] (st) h = mv_i w (mw d 171 Q 26 [x0, x1, x2, x3, some w] (w :: st) h) := (mw_at mj_171_24).trans (z_iload rfl)
theorem mj_171_26 : mc_P 171 26 = some (.bipush 10, 2, 0, 0, 0) := by decide +kernel
theorem s_171_26 {x0 x1 x2 x3 x4 : Option Value} : mw d 171 Q 26 [x0, x1, x2, x3, x4] (st) h = mw d 171 Q 28 [x0, x1, x2, x3, x4] (.int 10 :: st) h := (mw_at mj_171_26).trans (z_bipush (by decide))
theorem mj_171_28 : mc_P 171 28 = some (.if_icmp .eq 7, 3, 0, 0, 0) := by decide +kernel
theorem s_171_28 {x0 x1 x2 x3 x4 : Option Value} {x w : Int32} : mw d 171 Q 28 [x0, x1, x2, x3, x4] (.int w :: .int x :: st) h = mB (x = w) (mw d 171 Q) 35 31 [x0, x1, x2, x3, x4] st h := (mw_at mj_171_28).trans (z_icmp_eq (by decide) rfl)
theorem mj_171_31 : mc_P 171 31 = some (.iconst 1, 1, 0, 0, 0) := by decide +kernel
theorem s_171_31 {x0 x1 x2 x3 x4 : Option Value} : mw d 171 Q 31 [x0, x1, x2, x3, x4] (st) h = mw d 171 Q 32 [x0, x1, x2, x3, x4] (.int 1 :: st) h := (mw_at mj_171_31).trans (z_iconst (by decide))
theorem mj_171_32 : mc_P 171 32 = some (.goto 4, 3, 0, 0, 0) := by decide +kernel
theorem s_171_32 {x0 x1 x2 x3 x4 : Option Value} : mw d 171 Q 32 [x0, x1, x2, x3, x4] (st) h = mw d 171 Q 36 [x0, x1, x2, x3, x4] (st) h := (mw_at mj_171_32).trans (z_goto (by decide))
theorem mj_171_35 : mc_P 171 35 = some (.iconst 0, 1, 0, 0, 0) := by decide +kernel
theorem s_171_35 {x0 x1 x2 x3 x4 : Option Value} : mw d 171 Q 35 [x0, x1, x2, x3, x4] (st) h = mw d 171 Q 36 [x0, x1, x2, x3, x4] (.int 0 :: st) h := (mw_at mj_171_35).trans (z_iconst (by decide))
theorem mj_171_36 : mc_P 171 36 = some (.istore_n 2, 1, 0, 0, 0) := by decide +kernel
theorem s_171_36 {x0 x1 x2 x3 x4 : Option Value} {w : Int32} : mw d 171 Q 36 [x0, x1, x2, x3, x4] (.int w :: st) h = mw d 171 Q 37 [x0, mk2 x1, some (.int w), x3, x4] (st) h := (mw_at mj_171_36).trans (z_istore_n (Nat.le_of_ble_eq_true rfl) (me_s1_mk (j := 1) (w := x1) rfl))
theorem mj_171_37 : mc_P 171 37 = some (.goto 57, 3, 0, 0, 0) := by decide +kernel
theorem s_171_37 {x0 x1 x2 x3 x4 : Option Value} : mw d 171 Q 37 [x0, x1, x2, x3, x4] (st) h = mw d 171 Q 94 [x0, x1, x2, x3, x4] (st) h := (mw_at mj_171_37).trans (z_goto (by decide))
theorem mj_171_40 : mc_P 171 40 = some (.iload 4, 2, 0, 0, 0) := by decide +kernel
theorem s_171_40 {x0 x1 x2 x3 : Option Value} {w : Value} : mw d 171 Q 40 [x0, x1, x2, x3, some w] (st) h = mv_i w (mw d 171 Q 42 [x0, x1, x2, x3, some w] (w :: st) h) := (mw_at mj_171_40).trans (z_iload rfl)
theorem mj_171_42 : mc_P 171 42 = some (.bipush 47, 2, 0, 0, 0) := by decide +kernel
theorem s_171_42 {x0 x1 x2 x3 x4 : Option Value} : mw d 171 Q 42 [x0, x1, x2, x3, x4] (st) h = mw d 171 Q 44 [x0, x1, x2, x3, x4] (.int 47 :: st) h := (mw_at mj_171_42).trans (z_bipush (by decide))
theorem mj_171_44 : mc_P 171 44 = some (.if_icmp .ne 20, 3, 0, 0, 0) := by decide +kernel
theorem s_171_44 {x0 x1 x2 x3 x4 : Option Value} {x w : Int32} : mw d 171 Q 44 [x0, x1, x2, x3, x4] (.int w :: .int x :: st) h = mB (¬ x = w) (mw d 171 Q) 64 47 [x0, x1, x2, x3, x4] st h := (mw_at mj_171_44).trans (z_icmp_ne (by decide) rfl)
theorem mj_171_47 : mc_P 171 47 = some (.aload_n 0, 1, 0, 0, 0) := by decide +kernel
theorem s_171_47 {x1 x2 x3 x4 : Option Value} {w : Value} : mw d 171 Q 47 [some w, x1, x2, x3, x4] (st) h = mv_a w (mw d 171 Q 48 [some w, x1, x2, x3, x4] (w :: st) h) := (mw_at mj_171_47).trans (z_aload_n rfl)
theorem mj_171_48 : mc_P 171 48 = some (.iload_n 3, 1, 0, 0, 0) := by decide +kernel
theorem s_171_48 {x0 x1 x2 x4 : Option Value} {w : Value} : mw d 171 Q 48 [x0, x1, x2, some w, x4] (st) h = mv_i w (mw d 171 Q 49 [x0, x1, x2, some w, x4] (w :: st) h) := (mw_at mj_171_48).trans (z_iload_n rfl)
theorem mj_171_49 : mc_P 171 49 = some (.iconst 1, 1, 0, 0, 0) := by decide +kernel
theorem s_171_49 {x0 x1 x2 x3 x4 : Option Value} : mw d 171 Q 49 [x0, x1, x2, x3, x4] (st) h = mw d 171 Q 50 [x0, x1, x2, x3, x4] (.int 1 :: st) h := (mw_at mj_171_49).trans (z_iconst (by decide))
theorem mj_171_50 : mc_P 171 50 = some (.iadd, 1, 0, 0, 0) := by decide +kernel
theorem s_171_50 {x0 x1 x2 x3 x4 : Option Value} {x w : Int32} : mw d 171 Q 50 [x0, x1, x2, x3, x4] (.int w :: .int x :: st) h = mw d 171 Q 51 [x0, x1, x2, x3, x4] (.int (x + w) :: st) h := (mw_at mj_171_50).trans (z_iadd)
theorem mj_171_51 : mc_P 171 51 = some (.invokevirtual 50, 3, 170, 10, 2) := by decide +kernel
theorem s_171_51 {x0 x1 x2 x3 x4 : Option Value} {o : Nat} {a1 : Value} : mw (d + 1) 171 Q 51 [x0, x1, x2, x3, x4] (a1 :: .ref o :: st) h = (mg h o 10 ∧ mca st 8 ∧ mca [.ref o, a1] 2 ∧ mcall d 170 [.ref o, a1] h (mK (d + 1) 171 Q 54 [x0, x1, x2, x3, x4] st)) := (mw_at mj_171_51).trans ((z_invv (As := [a1]) (by decide) rfl rfl).trans (congrArg (And _) (congrArg (And _) (mC_nl nl_170))))
theorem mj_171_54 : mc_P 171 54 = some (.bipush 47, 2, 0, 0, 0) := by decide +kernel
theorem s_171_54 {x0 x1 x2 x3 x4 : Option Value} : mw d 171 Q 54 [x0, x1, x2, x3, x4] (st) h = mw d 171 Q 56 [x0, x1, x2, x3, x4] (.int 47 :: st) h := (mw_at mj_171_54).trans (z_bipush (by decide))
theorem mj_171_56 : mc_P 171 56 = some (.if_icmp .ne 8, 3, 0, 0, 0) := by decide +kernel
theorem s_171_56 {x0 x1 x2 x3 x4 : Option Value} {x w : Int32} : mw d 171 Q 56 [x0, x1, x2, x3, x4] (.int w :: .int x :: st) h = mB (¬ x = w) (mw d 171 Q) 64 59 [x0, x1, x2, x3, x4] st h := (mw_at mj_171_56).trans (z_icmp_ne (by decide) rfl)
theorem mj_171_59 : mc_P 171 59 = some (.iconst 1, 1, 0, 0, 0) := by decide +kernel
theorem s_171_59 {x0 x1 x2 x3 x4 : Option Value} : mw d 171 Q 59 [x0, x1, x2, x3, x4] (st) h = mw d 171 Q 60 [x0, x1, x2, x3, x4] (.int 1 :: st) h := (mw_at mj_171_59).trans (z_iconst (by decide))
theorem mj_171_60 : mc_P 171 60 = some (.istore_n 2, 1, 0, 0, 0) := by decide +kernel
theorem s_171_60 {x0 x1 x2 x3 x4 : Option Value} {w : Int32} : mw d 171 Q 60 [x0, x1, x2, x3, x4] (.int w :: st) h = mw d 171 Q 61 [x0, mk2 x1, some (.int w), x3, x4] (st) h := (mw_at mj_171_60).trans (z_istore_n (Nat.le_of_ble_eq_true rfl) (me_s1_mk (j := 1) (w := x1) rfl))
theorem mj_171_61 : mc_P 171 61 = some (.goto 33, 3, 0, 0, 0) := by decide +kernel
theorem s_171_61 {x0 x1 x2 x3 x4 : Option Value} : mw d 171 Q 61 [x0, x1, x2, x3, x4] (st) h = mw d 171 Q 94 [x0, x1, x2, x3, x4] (st) h := (mw_at mj_171_61).trans (z_goto (by decide))
theorem mj_171_64 : mc_P 171 64 = some (.iload 4, 2, 0, 0, 0) := by decide +kernel
theorem s_171_64 {x0 x1 x2 x3 : Option Value} {w : Value} : mw d 171 Q 64 [x0, x1, x2, x3, some w] (st) h = mv_i w (mw d 171 Q 66 [x0, x1, x2, x3, some w] (w :: st) h) := (mw_at mj_171_64).trans (z_iload rfl)
theorem mj_171_66 : mc_P 171 66 = some (.bipush 9, 2, 0, 0, 0) := by decide +kernel
theorem s_171_66 {x0 x1 x2 x3 x4 : Option Value} : mw d 171 Q 66 [x0, x1, x2, x3, x4] (st) h = mw d 171 Q 68 [x0, x1, x2, x3, x4] (.int 9 :: st) h := (mw_at mj_171_66).trans (z_bipush (by decide))
theorem mj_171_68 : mc_P 171 68 = some (.if_icmp .eq 26, 3, 0, 0, 0) := by decide +kernel
theorem s_171_68 {x0 x1 x2 x3 x4 : Option Value} {x w : Int32} : mw d 171 Q 68 [x0, x1, x2, x3, x4] (.int w :: .int x :: st) h = mB (x = w) (mw d 171 Q) 94 71 [x0, x1, x2, x3, x4] st h := (mw_at mj_171_68).trans (z_icmp_eq (by decide) rfl)
theorem mj_171_71 : mc_P 171 71 = some (.iload 4, 2, 0, 0, 0) := by decide +kernel
theorem s_171_71 {x0 x1 x2 x3 : Option Value} {w : Value} : mw d 171 Q 71 [x0, x1, x2, x3, some w] (st) h = mv_i w (mw d 171 Q 73 [x0, x1, x2, x3, some w] (w :: st) h) := (mw_at mj_171_71).trans (z_iload rfl)
theorem mj_171_73 : mc_P 171 73 = some (.bipush 10, 2, 0, 0, 0) := by decide +kernel
theorem s_171_73 {x0 x1 x2 x3 x4 : Option Value} : mw d 171 Q 73 [x0, x1, x2, x3, x4] (st) h = mw d 171 Q 75 [x0, x1, x2, x3, x4] (.int 10 :: st) h := (mw_at mj_171_73).trans (z_bipush (by decide))
theorem mj_171_75 : mc_P 171 75 = some (.if_icmp .eq 19, 3, 0, 0, 0) := by decide +kernel
theorem s_171_75 {x0 x1 x2 x3 x4 : Option Value} {x w : Int32} : mw d 171 Q 75 [x0, x1, x2, x3, x4] (.int w :: .int x :: st) h = mB (x = w) (mw d 171 Q) 94 78 [x0, x1, x2, x3, x4] st h := (mw_at mj_171_75).trans (z_icmp_eq (by decide) rfl)
theorem mj_171_78 : mc_P 171 78 = some (.iload 4, 2, 0, 0, 0) := by decide +kernel
theorem s_171_78 {x0 x1 x2 x3 : Option Value} {w : Value} : mw d 171 Q 78 [x0, x1, x2, x3, some w] (st) h = mv_i w (mw d 171 Q 80 [x0, x1, x2, x3, some w] (w :: st) h) := (mw_at mj_171_78).trans (z_iload rfl)
theorem mj_171_80 : mc_P 171 80 = some (.bipush 13, 2, 0, 0, 0) := by decide +kernel
theorem s_171_80 {x0 x1 x2 x3 x4 : Option Value} : mw d 171 Q 80 [x0, x1, x2, x3, x4] (st) h = mw d 171 Q 82 [x0, x1, x2, x3, x4] (.int 13 :: st) h := (mw_at mj_171_80).trans (z_bipush (by decide))
theorem mj_171_82 : mc_P 171 82 = some (.if_icmp .eq 12, 3, 0, 0, 0) := by decide +kernel
theorem s_171_82 {x0 x1 x2 x3 x4 : Option Value} {x w : Int32} : mw d 171 Q 82 [x0, x1, x2, x3, x4] (.int w :: .int x :: st) h = mB (x = w) (mw d 171 Q) 94 85 [x0, x1, x2, x3, x4] st h := (mw_at mj_171_82).trans (z_icmp_eq (by decide) rfl)
theorem mj_171_85 : mc_P 171 85 = some (.iload 4, 2, 0, 0, 0) := by decide +kernel
theorem s_171_85 {x0 x1 x2 x3 : Option Value} {w : Value} : mw d 171 Q 85 [x0, x1, x2, x3, some w] (st) h = mv_i w (mw d 171 Q 87 [x0, x1, x2, x3, some w] (w :: st) h) := (mw_at mj_171_85).trans (z_iload rfl)
theorem mj_171_87 : mc_P 171 87 = some (.bipush 32, 2, 0, 0, 0) := by decide +kernel
theorem s_171_87 {x0 x1 x2 x3 x4 : Option Value} : mw d 171 Q 87 [x0, x1, x2, x3, x4] (st) h = mw d 171 Q 89 [x0, x1, x2, x3, x4] (.int 32 :: st) h := (mw_at mj_171_87).trans (z_bipush (by decide))
theorem mj_171_89 : mc_P 171 89 = some (.if_icmp .eq 5, 3, 0, 0, 0) := by decide +kernel
theorem s_171_89 {x0 x1 x2 x3 x4 : Option Value} {x w : Int32} : mw d 171 Q 89 [x0, x1, x2, x3, x4] (.int w :: .int x :: st) h = mB (x = w) (mw d 171 Q) 94 92 [x0, x1, x2, x3, x4] st h := (mw_at mj_171_89).trans (z_icmp_eq (by decide) rfl)
theorem mj_171_92 : mc_P 171 92 = some (.iload_n 3, 1, 0, 0, 0) := by decide +kernel
theorem s_171_92 {x0 x1 x2 x4 : Option Value} {w : Value} : mw d 171 Q 92 [x0, x1, x2, some w, x4] (st) h = mv_i w (mw d 171 Q 93 [x0, x1, x2, some w, x4] (w :: st) h) := (mw_at mj_171_92).trans (z_iload_n rfl)
theorem mj_171_93 : mc_P 171 93 = some (.ireturn, 1, 0, 0, 0) := by decide +kernel
theorem s_171_93 {x0 x1 x2 x3 x4 : Option Value} {x : Int32} : mw d 171 Q 93 [x0, x1, x2, x3, x4] ([.int x]) h = (Q (some (.int x)) h) := (mw_at mj_171_93).trans (z_iret)
theorem mj_171_94 : mc_P 171 94 = some (.iinc 3 1, 3, 0, 0, 0) := by decide +kernel
theorem s_171_94 {x0 x1 x2 x4 : Option Value} {w : Int32} : mw d 171 Q 94 [x0, x1, x2, some (.int w), x4] (st) h = mw d 171 Q 97 [x0, x1, mk2 x2, some (.int (w + 1)), x4] (st) h := (mw_at mj_171_94).trans (z_iinc rfl (Nat.le_of_ble_eq_true rfl) (by decide) (me_s1_mk (j := 2) (w := x2) rfl))
theorem mj_171_97 : mc_P 171 97 = some (.goto (-93), 3, 0, 0, 0) := by decide +kernel
theorem s_171_97 {x0 x1 x2 x3 x4 : Option Value} : mw d 171 Q 97 [x0, x1, x2, x3, x4] (st) h = mw d 171 Q 4 [x0, x1, x2, x3, x4] (st) h := (mw_at mj_171_97).trans (z_goto (by decide))
theorem mj_171_100 : mc_P 171 100 = some (.aload_n 0, 1, 0, 0, 0) := by decide +kernel
theorem s_171_100 {x1 x2 x3 x4 : Option Value} {w : Value} : mw d 171 Q 100 [some w, x1, x2, x3, x4] (st) h = mv_a w (mw d 171 Q 101 [some w, x1, x2, x3, x4] (w :: st) h) := (mw_at mj_171_100).trans (z_aload_n rfl)
theorem mj_171_101 : mc_P 171 101 = some (.getfield 15, 3, 10, 0, 0) := by decide +kernel
theorem s_171_101 {x0 x1 x2 x3 x4 : Option Value} {o : Nat} : mw d 171 Q 101 [x0, x1, x2, x3, x4] (.ref o :: st) h = (mg h o 10 ∧ mw d 171 Q 104 [x0, x1, x2, x3, x4] (va_rf (mh_r h o 0) :: st) h) := (mw_at mj_171_101).trans (z_getr (by decide) (by decide) rfl)
theorem mj_171_104 : mc_P 171 104 = some (.arraylength, 1, 0, 0, 0) := by decide +kernel
theorem s_171_104 {x0 x1 x2 x3 x4 : Option Value} {o : Nat} : mw d 171 Q 104 [x0, x1, x2, x3, x4] (.ref o :: st) h = (mga h o ∧ mw d 171 Q 105 [x0, x1, x2, x3, x4] (.int (Int32.ofNat (mh_l h o)) :: st) h) := (mw_at mj_171_104).trans (z_alen)
theorem mj_171_105 : mc_P 171 105 = some (.ireturn, 1, 0, 0, 0) := by decide +kernel
theorem s_171_105 {x0 x1 x2 x3 x4 : Option Value} {x : Int32} : mw d 171 Q 105 [x0, x1, x2, x3, x4] ([.int x]) h = (Q (some (.int x)) h) := (mw_at mj_171_105).trans (z_iret)
theorem e_171 {a0 : Nat} {a1 : Int32} : mcall d 171 [.ref a0, .int a1] h Q = mw d 171 Q 0 [some (.ref a0), some (.int a1), none, none, none] [] h := by
  show mw d 171 Q 0 (me_en (mc_nl 171) _) [] h = _
  rw [nl_171]; rfl

/-! InvariantDesk.feed(IIIII)I -/
theorem mj_184_0 : mc_P 184 0 = some (.aload_n 0, 1, 0, 0, 0) := by decide +kernel
theorem s_184_0 {x1 x2 x3 x4 x5 : Option Value} {w : Value} : mw d 184 Q 0 [some w, x1, x2, x3, x4, x5] (st) h = mv_a w (mw d 184 Q 1 [some w, x1, x2, x3, x4, x5] (w :: st) h) := (mw_at mj_184_0).trans (z_aload_n rfl)
theorem mj_184_1 : mc_P 184 1 = some (.getfield 60, 3, 11, 1, 0) := by decide +kernel
theorem s_184_1 {x0 x1 x2 x3 x4 x5 : Option Value} {o : Nat} : mw d 184 Q 1 [x0, x1, x2, x3, x4, x5] (.ref o :: st) h = (mg h o 11 ∧ mw d 184 Q 4 [x0, x1, x2, x3, x4, x5] (.int (mh_i h o 1) :: st) h) := (mw_at mj_184_1).trans (z_geti (by decide) (by decide) (Or.inl rfl))
theorem mj_184_4 : mc_P 184 4 = some (.bipush 20, 2, 0, 0, 0) := by decide +kernel
theorem s_184_4 {x0 x1 x2 x3 x4 x5 : Option Value} : mw d 184 Q 4 [x0, x1, x2, x3, x4, x5] (st) h = mw d 184 Q 6 [x0, x1, x2, x3, x4, x5] (.int 20 :: st) h := (mw_at mj_184_4).trans (z_bipush (by decide))
theorem mj_184_6 : mc_P 184 6 = some (.iadd, 1, 0, 0, 0) := by decide +kernel
theorem s_184_6 {x0 x1 x2 x3 x4 x5 : Option Value} {x w : Int32} : mw d 184 Q 6 [x0, x1, x2, x3, x4, x5] (.int w :: .int x :: st) h = mw d 184 Q 7 [x0, x1, x2, x3, x4, x5] (.int (x + w) :: st) h := (mw_at mj_184_6).trans (z_iadd)
theorem mj_184_7 : mc_P 184 7 = some (.sipush 16400, 3, 0, 0, 0) := by decide +kernel
theorem s_184_7 {x0 x1 x2 x3 x4 x5 : Option Value} : mw d 184 Q 7 [x0, x1, x2, x3, x4, x5] (st) h = mw d 184 Q 10 [x0, x1, x2, x3, x4, x5] (.int 16400 :: st) h := (mw_at mj_184_7).trans (z_sipush (by decide))
theorem mj_184_10 : mc_P 184 10 = some (.if_icmp .le 5, 3, 0, 0, 0) := by decide +kernel
theorem s_184_10 {x0 x1 x2 x3 x4 x5 : Option Value} {x w : Int32} : mw d 184 Q 10 [x0, x1, x2, x3, x4, x5] (.int w :: .int x :: st) h = mB (x ≤ w) (mw d 184 Q) 15 13 [x0, x1, x2, x3, x4, x5] st h := (mw_at mj_184_10).trans (z_icmp_le (by decide) rfl)
theorem mj_184_13 : mc_P 184 13 = some (.iconst (-1), 1, 0, 0, 0) := by decide +kernel
theorem s_184_13 {x0 x1 x2 x3 x4 x5 : Option Value} : mw d 184 Q 13 [x0, x1, x2, x3, x4, x5] (st) h = mw d 184 Q 14 [x0, x1, x2, x3, x4, x5] (.int (-1) :: st) h := (mw_at mj_184_13).trans (z_iconst (by decide))
theorem mj_184_14 : mc_P 184 14 = some (.ireturn, 1, 0, 0, 0) := by decide +kernel
theorem s_184_14 {x0 x1 x2 x3 x4 x5 : Option Value} {x : Int32} : mw d 184 Q 14 [x0, x1, x2, x3, x4, x5] ([.int x]) h = (Q (some (.int x)) h) := (mw_at mj_184_14).trans (z_iret)
theorem mj_184_15 : mc_P 184 15 = some (.aload_n 0, 1, 0, 0, 0) := by decide +kernel
theorem s_184_15 {x1 x2 x3 x4 x5 : Option Value} {w : Value} : mw d 184 Q 15 [some w, x1, x2, x3, x4, x5] (st) h = mv_a w (mw d 184 Q 16 [some w, x1, x2, x3, x4, x5] (w :: st) h) := (mw_at mj_184_15).trans (z_aload_n rfl)
theorem mj_184_16 : mc_P 184 16 = some (.iload_n 1, 1, 0, 0, 0) := by decide +kernel
theorem s_184_16 {x0 x2 x3 x4 x5 : Option Value} {w : Value} : mw d 184 Q 16 [x0, some w, x2, x3, x4, x5] (st) h = mv_i w (mw d 184 Q 17 [x0, some w, x2, x3, x4, x5] (w :: st) h) := (mw_at mj_184_16).trans (z_iload_n rfl)
theorem mj_184_17 : mc_P 184 17 = some (.invokevirtual 64, 3, 185, 11, 2) := by decide +kernel
theorem s_184_17 {x0 x1 x2 x3 x4 x5 : Option Value} {o : Nat} {a1 : Value} : mw (d + 1) 184 Q 17 [x0, x1, x2, x3, x4, x5] (a1 :: .ref o :: st) h = (mg h o 11 ∧ mca st 8 ∧ mca [.ref o, a1] 3 ∧ mcall d 185 [.ref o, a1] h (mK (d + 1) 184 Q 20 [x0, x1, x2, x3, x4, x5] st)) := (mw_at mj_184_17).trans ((z_invv (As := [a1]) (by decide) rfl rfl).trans (congrArg (And _) (congrArg (And _) (mC_nl nl_185))))
theorem mj_184_20 : mc_P 184 20 = some (.aload_n 0, 1, 0, 0, 0) := by decide +kernel
theorem s_184_20 {x1 x2 x3 x4 x5 : Option Value} {w : Value} : mw d 184 Q 20 [some w, x1, x2, x3, x4, x5] (st) h = mv_a w (mw d 184 Q 21 [some w, x1, x2, x3, x4, x5] (w :: st) h) := (mw_at mj_184_20).trans (z_aload_n rfl)
theorem mj_184_21 : mc_P 184 21 = some (.iload_n 2, 1, 0, 0, 0) := by decide +kernel
theorem s_184_21 {x0 x1 x3 x4 x5 : Option Value} {w : Value} : mw d 184 Q 21 [x0, x1, some w, x3, x4, x5] (st) h = mv_i w (mw d 184 Q 22 [x0, x1, some w, x3, x4, x5] (w :: st) h) := (mw_at mj_184_21).trans (z_iload_n rfl)
theorem mj_184_22 : mc_P 184 22 = some (.invokevirtual 64, 3, 185, 11, 2) := by decide +kernel
theorem s_184_22 {x0 x1 x2 x3 x4 x5 : Option Value} {o : Nat} {a1 : Value} : mw (d + 1) 184 Q 22 [x0, x1, x2, x3, x4, x5] (a1 :: .ref o :: st) h = (mg h o 11 ∧ mca st 8 ∧ mca [.ref o, a1] 3 ∧ mcall d 185 [.ref o, a1] h (mK (d + 1) 184 Q 25 [x0, x1, x2, x3, x4, x5] st)) := (mw_at mj_184_22).trans ((z_invv (As := [a1]) (by decide) rfl rfl).trans (congrArg (And _) (congrArg (And _) (mC_nl nl_185))))
theorem mj_184_25 : mc_P 184 25 = some (.aload_n 0, 1, 0, 0, 0) := by decide +kernel
theorem s_184_25 {x1 x2 x3 x4 x5 : Option Value} {w : Value} : mw d 184 Q 25 [some w, x1, x2, x3, x4, x5] (st) h = mv_a w (mw d 184 Q 26 [some w, x1, x2, x3, x4, x5] (w :: st) h) := (mw_at mj_184_25).trans (z_aload_n rfl)
theorem mj_184_26 : mc_P 184 26 = some (.iload_n 3, 1, 0, 0, 0) := by decide +kernel
theorem s_184_26 {x0 x1 x2 x4 x5 : Option Value} {w : Value} : mw d 184 Q 26 [x0, x1, x2, some w, x4, x5] (st) h = mv_i w (mw d 184 Q 27 [x0, x1, x2, some w, x4, x5] (w :: st) h) := (mw_at mj_184_26).trans (z_iload_n rfl)
theorem mj_184_27 : mc_P 184 27 = some (.invokevirtual 64, 3, 185, 11, 2) := by decide +kernel
theorem s_184_27 {x0 x1 x2 x3 x4 x5 : Option Value} {o : Nat} {a1 : Value} : mw (d + 1) 184 Q 27 [x0, x1, x2, x3, x4, x5] (a1 :: .ref o :: st) h = (mg h o 11 ∧ mca st 8 ∧ mca [.ref o, a1] 3 ∧ mcall d 185 [.ref o, a1] h (mK (d + 1) 184 Q 30 [x0, x1, x2, x3, x4, x5] st)) := (mw_at mj_184_27).trans ((z_invv (As := [a1]) (by decide) rfl rfl).trans (congrArg (And _) (congrArg (And _) (mC_nl nl_185))))
theorem mj_184_30 : mc_P 184 30 = some (.aload_n 0, 1, 0, 0, 0) := by decide +kernel
theorem s_184_30 {x1 x2 x3 x4 x5 : Option Value} {w : Value} : mw d 184 Q 30 [some w, x1, x2, x3, x4, x5] (st) h = mv_a w (mw d 184 Q 31 [some w, x1, x2, x3, x4, x5] (w :: st) h) := (mw_at mj_184_30).trans (z_aload_n rfl)
theorem mj_184_31 : mc_P 184 31 = some (.iload 4, 2, 0, 0, 0) := by decide +kernel
theorem s_184_31 {x0 x1 x2 x3 x5 : Option Value} {w : Value} : mw d 184 Q 31 [x0, x1, x2, x3, some w, x5] (st) h = mv_i w (mw d 184 Q 33 [x0, x1, x2, x3, some w, x5] (w :: st) h) := (mw_at mj_184_31).trans (z_iload rfl)
theorem mj_184_33 : mc_P 184 33 = some (.invokevirtual 64, 3, 185, 11, 2) := by decide +kernel
theorem s_184_33 {x0 x1 x2 x3 x4 x5 : Option Value} {o : Nat} {a1 : Value} : mw (d + 1) 184 Q 33 [x0, x1, x2, x3, x4, x5] (a1 :: .ref o :: st) h = (mg h o 11 ∧ mca st 8 ∧ mca [.ref o, a1] 3 ∧ mcall d 185 [.ref o, a1] h (mK (d + 1) 184 Q 36 [x0, x1, x2, x3, x4, x5] st)) := (mw_at mj_184_33).trans ((z_invv (As := [a1]) (by decide) rfl rfl).trans (congrArg (And _) (congrArg (And _) (mC_nl nl_185))))
theorem mj_184_36 : mc_P 184 36 = some (.aload_n 0, 1, 0, 0, 0) := by decide +kernel
theorem s_184_36 {x1 x2 x3 x4 x5 : Option Value} {w : Value} : mw d 184 Q 36 [some w, x1, x2, x3, x4, x5] (st) h = mv_a w (mw d 184 Q 37 [some w, x1, x2, x3, x4, x5] (w :: st) h) := (mw_at mj_184_36).trans (z_aload_n rfl)
theorem mj_184_37 : mc_P 184 37 = some (.iload 5, 2, 0, 0, 0) := by decide +kernel
theorem s_184_37 {x0 x1 x2 x3 x4 : Option Value} {w : Value} : mw d 184 Q 37 [x0, x1, x2, x3, x4, some w] (st) h = mv_i w (mw d 184 Q 39 [x0, x1, x2, x3, x4, some w] (w :: st) h) := (mw_at mj_184_37).trans (z_iload rfl)
theorem mj_184_39 : mc_P 184 39 = some (.invokevirtual 64, 3, 185, 11, 2) := by decide +kernel
theorem s_184_39 {x0 x1 x2 x3 x4 x5 : Option Value} {o : Nat} {a1 : Value} : mw (d + 1) 184 Q 39 [x0, x1, x2, x3, x4, x5] (a1 :: .ref o :: st) h = (mg h o 11 ∧ mca st 8 ∧ mca [.ref o, a1] 3 ∧ mcall d 185 [.ref o, a1] h (mK (d + 1) 184 Q 42 [x0, x1, x2, x3, x4, x5] st)) := (mw_at mj_184_39).trans ((z_invv (As := [a1]) (by decide) rfl rfl).trans (congrArg (And _) (congrArg (And _) (mC_nl nl_185))))
theorem mj_184_42 : mc_P 184 42 = some (.aload_n 0, 1, 0, 0, 0) := by decide +kernel
theorem s_184_42 {x1 x2 x3 x4 x5 : Option Value} {w : Value} : mw d 184 Q 42 [some w, x1, x2, x3, x4, x5] (st) h = mv_a w (mw d 184 Q 43 [some w, x1, x2, x3, x4, x5] (w :: st) h) := (mw_at mj_184_42).trans (z_aload_n rfl)
theorem mj_184_43 : mc_P 184 43 = some (.getfield 60, 3, 11, 1, 0) := by decide +kernel
theorem s_184_43 {x0 x1 x2 x3 x4 x5 : Option Value} {o : Nat} : mw d 184 Q 43 [x0, x1, x2, x3, x4, x5] (.ref o :: st) h = (mg h o 11 ∧ mw d 184 Q 46 [x0, x1, x2, x3, x4, x5] (.int (mh_i h o 1) :: st) h) := (mw_at mj_184_43).trans (z_geti (by decide) (by decide) (Or.inl rfl))
theorem mj_184_46 : mc_P 184 46 = some (.ireturn, 1, 0, 0, 0) := by decide +kernel
theorem s_184_46 {x0 x1 x2 x3 x4 x5 : Option Value} {x : Int32} : mw d 184 Q 46 [x0, x1, x2, x3, x4, x5] ([.int x]) h = (Q (some (.int x)) h) := (mw_at mj_184_46).trans (z_iret)
theorem e_184 {a0 : Nat} {a1 : Int32} {a2 : Int32} {a3 : Int32} {a4 : Int32} {a5 : Int32} : mcall d 184 [.ref a0, .int a1, .int a2, .int a3, .int a4, .int a5] h Q = mw d 184 Q 0 [some (.ref a0), some (.int a1), some (.int a2), some (.int a3), some (.int a4), some (.int a5)] [] h := by
  show mw d 184 Q 0 (me_en (mc_nl 184) _) [] h = _
  rw [nl_184]; rfl

/-! InvariantDesk.feedWord(I)V -/
theorem mj_185_0 : mc_P 185 0 = some (.bipush 24, 2, 0, 0, 0) := by decide +kernel
theorem s_185_0 {x0 x1 x2 : Option Value} : mw d 185 Q 0 [x0, x1, x2] (st) h = mw d 185 Q 2 [x0, x1, x2] (.int 24 :: st) h := (mw_at mj_185_0).trans (z_bipush (by decide))
theorem mj_185_2 : mc_P 185 2 = some (.istore_n 2, 1, 0, 0, 0) := by decide +kernel
theorem s_185_2 {x0 x1 x2 : Option Value} {w : Int32} : mw d 185 Q 2 [x0, x1, x2] (.int w :: st) h = mw d 185 Q 3 [x0, mk2 x1, some (.int w)] (st) h := (mw_at mj_185_2).trans (z_istore_n (Nat.le_of_ble_eq_true rfl) (me_s1_mk (j := 1) (w := x1) rfl))
theorem mj_185_3 : mc_P 185 3 = some (.iload_n 2, 1, 0, 0, 0) := by decide +kernel
theorem s_185_3 {x0 x1 : Option Value} {w : Value} : mw d 185 Q 3 [x0, x1, some w] (st) h = mv_i w (mw d 185 Q 4 [x0, x1, some w] (w :: st) h) := (mw_at mj_185_3).trans (z_iload_n rfl)
theorem mj_185_4 : mc_P 185 4 = some (.ifCond .lt 32, 3, 0, 0, 0) := by decide +kernel
theorem s_185_4 {x0 x1 x2 : Option Value} {x : Int32} : mw d 185 Q 4 [x0, x1, x2] (.int x :: st) h = mB (x < 0) (mw d 185 Q) 36 7 [x0, x1, x2] st h := (mw_at mj_185_4).trans (z_if_lt (by decide) rfl)
theorem mj_185_7 : mc_P 185 7 = some (.aload_n 0, 1, 0, 0, 0) := by decide +kernel
theorem s_185_7 {x1 x2 : Option Value} {w : Value} : mw d 185 Q 7 [some w, x1, x2] (st) h = mv_a w (mw d 185 Q 8 [some w, x1, x2] (w :: st) h) := (mw_at mj_185_7).trans (z_aload_n rfl)
theorem mj_185_8 : mc_P 185 8 = some (.getfield 9, 3, 11, 0, 0) := by decide +kernel
theorem s_185_8 {x0 x1 x2 : Option Value} {o : Nat} : mw d 185 Q 8 [x0, x1, x2] (.ref o :: st) h = (mg h o 11 ∧ mw d 185 Q 11 [x0, x1, x2] (va_rf (mh_r h o 0) :: st) h) := (mw_at mj_185_8).trans (z_getr (by decide) (by decide) rfl)
theorem mj_185_11 : mc_P 185 11 = some (.aload_n 0, 1, 0, 0, 0) := by decide +kernel
theorem s_185_11 {x1 x2 : Option Value} {w : Value} : mw d 185 Q 11 [some w, x1, x2] (st) h = mv_a w (mw d 185 Q 12 [some w, x1, x2] (w :: st) h) := (mw_at mj_185_11).trans (z_aload_n rfl)
theorem mj_185_12 : mc_P 185 12 = some (.getfield 60, 3, 11, 1, 0) := by decide +kernel
theorem s_185_12 {x0 x1 x2 : Option Value} {o : Nat} : mw d 185 Q 12 [x0, x1, x2] (.ref o :: st) h = (mg h o 11 ∧ mw d 185 Q 15 [x0, x1, x2] (.int (mh_i h o 1) :: st) h) := (mw_at mj_185_12).trans (z_geti (by decide) (by decide) (Or.inl rfl))
theorem mj_185_15 : mc_P 185 15 = some (.iload_n 1, 1, 0, 0, 0) := by decide +kernel
theorem s_185_15 {x0 x2 : Option Value} {w : Value} : mw d 185 Q 15 [x0, some w, x2] (st) h = mv_i w (mw d 185 Q 16 [x0, some w, x2] (w :: st) h) := (mw_at mj_185_15).trans (z_iload_n rfl)
theorem mj_185_16 : mc_P 185 16 = some (.iload_n 2, 1, 0, 0, 0) := by decide +kernel
theorem s_185_16 {x0 x1 : Option Value} {w : Value} : mw d 185 Q 16 [x0, x1, some w] (st) h = mv_i w (mw d 185 Q 17 [x0, x1, some w] (w :: st) h) := (mw_at mj_185_16).trans (z_iload_n rfl)
theorem mj_185_17 : mc_P 185 17 = some (.iushr, 1, 0, 0, 0) := by decide +kernel
theorem s_185_17 {x0 x1 x2 : Option Value} {x w : Int32} : mw d 185 Q 17 [x0, x1, x2] (.int w :: .int x :: st) h = mw d 185 Q 18 [x0, x1, x2] (.int ((x.toUInt32 >>> (w.toUInt32 &&& Int32.toUInt32 31)).toInt32) :: st) h := (mw_at mj_185_17).trans (z_iushr)
theorem mj_185_18 : mc_P 185 18 = some (.i2b, 1, 0, 0, 0) := by decide +kernel
theorem s_185_18 {x0 x1 x2 : Option Value} {x : Int32} : mw d 185 Q 18 [x0, x1, x2] (.int x :: st) h = mw d 185 Q 19 [x0, x1, x2] (.int x.toInt8.toInt32 :: st) h := (mw_at mj_185_18).trans (z_i2b)
theorem mj_185_19 : mc_P 185 19 = some (.bastore, 1, 0, 0, 0) := by decide +kernel
theorem s_185_19 {x0 x1 x2 : Option Value} {o : Nat} {i w : Int32} : mw d 185 Q 19 [x0, x1, x2] (.int w :: .int i :: .ref o :: st) h = (mgb h o ∧ mx i (mh_l h o) ∧ mw d 185 Q 20 [x0, x1, x2] (st) (mh_si h o i.toNatClampNeg (mna h o w))) := (mw_at mj_185_19).trans (z_bast)
theorem mj_185_20 : mc_P 185 20 = some (.aload_n 0, 1, 0, 0, 0) := by decide +kernel
theorem s_185_20 {x1 x2 : Option Value} {w : Value} : mw d 185 Q 20 [some w, x1, x2] (st) h = mv_a w (mw d 185 Q 21 [some w, x1, x2] (w :: st) h) := (mw_at mj_185_20).trans (z_aload_n rfl)
theorem mj_185_21 : mc_P 185 21 = some (.dup, 1, 0, 0, 0) := by decide +kernel
theorem s_185_21 {x0 x1 x2 : Option Value} {w : Value} : mw d 185 Q 21 [x0, x1, x2] (w :: st) h = (w.category = 1 ∧ mw d 185 Q 22 [x0, x1, x2] (w :: w :: st) h) := (mw_at mj_185_21).trans (z_dup)
theorem mj_185_22 : mc_P 185 22 = some (.getfield 60, 3, 11, 1, 0) := by decide +kernel
theorem s_185_22 {x0 x1 x2 : Option Value} {o : Nat} : mw d 185 Q 22 [x0, x1, x2] (.ref o :: st) h = (mg h o 11 ∧ mw d 185 Q 25 [x0, x1, x2] (.int (mh_i h o 1) :: st) h) := (mw_at mj_185_22).trans (z_geti (by decide) (by decide) (Or.inl rfl))
theorem mj_185_25 : mc_P 185 25 = some (.iconst 1, 1, 0, 0, 0) := by decide +kernel
theorem s_185_25 {x0 x1 x2 : Option Value} : mw d 185 Q 25 [x0, x1, x2] (st) h = mw d 185 Q 26 [x0, x1, x2] (.int 1 :: st) h := (mw_at mj_185_25).trans (z_iconst (by decide))
theorem mj_185_26 : mc_P 185 26 = some (.iadd, 1, 0, 0, 0) := by decide +kernel
theorem s_185_26 {x0 x1 x2 : Option Value} {x w : Int32} : mw d 185 Q 26 [x0, x1, x2] (.int w :: .int x :: st) h = mw d 185 Q 27 [x0, x1, x2] (.int (x + w) :: st) h := (mw_at mj_185_26).trans (z_iadd)
theorem mj_185_27 : mc_P 185 27 = some (.putfield 60, 3, 11, 1, 0) := by decide +kernel
theorem s_185_27 {x0 x1 x2 : Option Value} {o : Nat} {w : Int32} : mw d 185 Q 27 [x0, x1, x2] (.int w :: .ref o :: st) h = (mg h o 11 ∧ mw d 185 Q 30 [x0, x1, x2] (st) (mh_si h o 1 w)) := (mw_at mj_185_27).trans (z_puti (by decide) (by decide) rfl)
theorem mj_185_30 : mc_P 185 30 = some (.iinc 2 (-8), 3, 0, 0, 0) := by decide +kernel
theorem s_185_30 {x0 x1 : Option Value} {w : Int32} : mw d 185 Q 30 [x0, x1, some (.int w)] (st) h = mw d 185 Q 33 [x0, mk2 x1, some (.int (w + (-8)))] (st) h := (mw_at mj_185_30).trans (z_iinc rfl (Nat.le_of_ble_eq_true rfl) (by decide) (me_s1_mk (j := 1) (w := x1) rfl))
theorem mj_185_33 : mc_P 185 33 = some (.goto (-30), 3, 0, 0, 0) := by decide +kernel
theorem s_185_33 {x0 x1 x2 : Option Value} : mw d 185 Q 33 [x0, x1, x2] (st) h = mw d 185 Q 3 [x0, x1, x2] (st) h := (mw_at mj_185_33).trans (z_goto (by decide))
theorem mj_185_36 : mc_P 185 36 = some (.return_, 1, 0, 0, 0) := by decide +kernel
theorem s_185_36 {x0 x1 x2 : Option Value} : mw d 185 Q 36 [x0, x1, x2] ([]) h = Q none h := (mw_at mj_185_36).trans (z_vret)
theorem e_185 {a0 : Nat} {a1 : Int32} : mcall d 185 [.ref a0, .int a1] h Q = mw d 185 Q 0 [some (.ref a0), some (.int a1), none] [] h := by
  show mw d 185 Q 0 (me_en (mc_nl 185) _) [] h = _
  rw [nl_185]; rfl

/-! InvariantDesk.end(I)I -/
theorem mj_186_0 : mc_P 186 0 = some (.iload_n 1, 1, 0, 0, 0) := by decide +kernel
theorem s_186_0 {x0 x2 x3 x4 x5 x6 : Option Value} {w : Value} : mw d 186 Q 0 [x0, some w, x2, x3, x4, x5, x6] (st) h = mv_i w (mw d 186 Q 1 [x0, some w, x2, x3, x4, x5, x6] (w :: st) h) := (mw_at mj_186_0).trans (z_iload_n rfl)
theorem mj_186_1 : mc_P 186 1 = some (.ifCond .lt 11, 3, 0, 0, 0) := by decide +kernel
theorem s_186_1 {x0 x1 x2 x3 x4 x5 x6 : Option Value} {x : Int32} : mw d 186 Q 1 [x0, x1, x2, x3, x4, x5, x6] (.int x :: st) h = mB (x < 0) (mw d 186 Q) 12 4 [x0, x1, x2, x3, x4, x5, x6] st h := (mw_at mj_186_1).trans (z_if_lt (by decide) rfl)
theorem mj_186_4 : mc_P 186 4 = some (.iload_n 1, 1, 0, 0, 0) := by decide +kernel
theorem s_186_4 {x0 x2 x3 x4 x5 x6 : Option Value} {w : Value} : mw d 186 Q 4 [x0, some w, x2, x3, x4, x5, x6] (st) h = mv_i w (mw d 186 Q 5 [x0, some w, x2, x3, x4, x5, x6] (w :: st) h) := (mw_at mj_186_4).trans (z_iload_n rfl)
theorem mj_186_5 : mc_P 186 5 = some (.aload_n 0, 1, 0, 0, 0) := by decide +kernel
theorem s_186_5 {x1 x2 x3 x4 x5 x6 : Option Value} {w : Value} : mw d 186 Q 5 [some w, x1, x2, x3, x4, x5, x6] (st) h = mv_a w (mw d 186 Q 6 [some w, x1, x2, x3, x4, x5, x6] (w :: st) h) := (mw_at mj_186_5).trans (z_aload_n rfl)
theorem mj_186_6 : mc_P 186 6 = some (.getfield 60, 3, 11, 1, 0) := by decide +kernel
theorem s_186_6 {x0 x1 x2 x3 x4 x5 x6 : Option Value} {o : Nat} : mw d 186 Q 6 [x0, x1, x2, x3, x4, x5, x6] (.ref o :: st) h = (mg h o 11 ∧ mw d 186 Q 9 [x0, x1, x2, x3, x4, x5, x6] (.int (mh_i h o 1) :: st) h) := (mw_at mj_186_6).trans (z_geti (by decide) (by decide) (Or.inl rfl))
theorem mj_186_9 : mc_P 186 9 = some (.if_icmp .le 5, 3, 0, 0, 0) := by decide +kernel
theorem s_186_9 {x0 x1 x2 x3 x4 x5 x6 : Option Value} {x w : Int32} : mw d 186 Q 9 [x0, x1, x2, x3, x4, x5, x6] (.int w :: .int x :: st) h = mB (x ≤ w) (mw d 186 Q) 14 12 [x0, x1, x2, x3, x4, x5, x6] st h := (mw_at mj_186_9).trans (z_icmp_le (by decide) rfl)
theorem mj_186_12 : mc_P 186 12 = some (.iconst (-1), 1, 0, 0, 0) := by decide +kernel
theorem s_186_12 {x0 x1 x2 x3 x4 x5 x6 : Option Value} : mw d 186 Q 12 [x0, x1, x2, x3, x4, x5, x6] (st) h = mw d 186 Q 13 [x0, x1, x2, x3, x4, x5, x6] (.int (-1) :: st) h := (mw_at mj_186_12).trans (z_iconst (by decide))
theorem mj_186_13 : mc_P 186 13 = some (.ireturn, 1, 0, 0, 0) := by decide +kernel
theorem s_186_13 {x0 x1 x2 x3 x4 x5 x6 : Option Value} {x : Int32} : mw d 186 Q 13 [x0, x1, x2, x3, x4, x5, x6] ([.int x]) h = (Q (some (.int x)) h) := (mw_at mj_186_13).trans (z_iret)
theorem mj_186_14 : mc_P 186 14 = some (.new 68, 3, 10, 0, 0) := by decide +kernel
theorem s_186_14 {x0 x1 x2 x3 x4 x5 x6 : Option Value} : mw d 186 Q 14 [x0, x1, x2, x3, x4, x5, x6] (st) h = mw d 186 Q 17 [x0, x1, x2, x3, x4, x5, x6] (.ref (mh_n h) :: st) (mh_new h 10 5) := (mw_at mj_186_14).trans (z_new (by decide) rfl)
theorem mj_186_17 : mc_P 186 17 = some (.dup, 1, 0, 0, 0) := by decide +kernel
theorem s_186_17 {x0 x1 x2 x3 x4 x5 x6 : Option Value} {w : Value} : mw d 186 Q 17 [x0, x1, x2, x3, x4, x5, x6] (w :: st) h = (w.category = 1 ∧ mw d 186 Q 18 [x0, x1, x2, x3, x4, x5, x6] (w :: w :: st) h) := (mw_at mj_186_17).trans (z_dup)
theorem mj_186_18 : mc_P 186 18 = some (.aload_n 0, 1, 0, 0, 0) := by decide +kernel
theorem s_186_18 {x1 x2 x3 x4 x5 x6 : Option Value} {w : Value} : mw d 186 Q 18 [some w, x1, x2, x3, x4, x5, x6] (st) h = mv_a w (mw d 186 Q 19 [some w, x1, x2, x3, x4, x5, x6] (w :: st) h) := (mw_at mj_186_18).trans (z_aload_n rfl)
theorem mj_186_19 : mc_P 186 19 = some (.getfield 9, 3, 11, 0, 0) := by decide +kernel
theorem s_186_19 {x0 x1 x2 x3 x4 x5 x6 : Option Value} {o : Nat} : mw d 186 Q 19 [x0, x1, x2, x3, x4, x5, x6] (.ref o :: st) h = (mg h o 11 ∧ mw d 186 Q 22 [x0, x1, x2, x3, x4, x5, x6] (va_rf (mh_r h o 0) :: st) h) := (mw_at mj_186_19).trans (z_getr (by decide) (by decide) rfl)
theorem mj_186_22 : mc_P 186 22 = some (.iload_n 1, 1, 0, 0, 0) := by decide +kernel
theorem s_186_22 {x0 x2 x3 x4 x5 x6 : Option Value} {w : Value} : mw d 186 Q 22 [x0, some w, x2, x3, x4, x5, x6] (st) h = mv_i w (mw d 186 Q 23 [x0, some w, x2, x3, x4, x5, x6] (w :: st) h) := (mw_at mj_186_22).trans (z_iload_n rfl)
theorem mj_186_23 : mc_P 186 23 = some (.invokespecial 70, 3, 167, 0, 3) := by decide +kernel
theorem s_186_23 {x0 x1 x2 x3 x4 x5 x6 : Option Value} {o : Nat} {a1 a2 : Value} : mw (d + 1) 186 Q 23 [x0, x1, x2, x3, x4, x5, x6] (a2 :: a1 :: .ref o :: st) h = (mca st 8 ∧ mca [.ref o, a1, a2] 3 ∧ mcall d 167 [.ref o, a1, a2] h (mK (d + 1) 186 Q 26 [x0, x1, x2, x3, x4, x5, x6] st)) := (mw_at mj_186_23).trans ((z_invsp (As := [a1, a2]) (by decide) rfl rfl).trans (congrArg (And _) (mC_nl nl_167)))
theorem mj_186_26 : mc_P 186 26 = some (.astore_n 2, 1, 0, 0, 0) := by decide +kernel
theorem s_186_26 {x0 x1 x2 x3 x4 x5 x6 : Option Value} {w : Nat} : mw d 186 Q 26 [x0, x1, x2, x3, x4, x5, x6] (.ref w :: st) h = mw d 186 Q 27 [x0, mk2 x1, some (.ref w), x3, x4, x5, x6] (st) h := (mw_at mj_186_26).trans (z_astore_n (Nat.le_of_ble_eq_true rfl) (me_s1_mk (j := 1) (w := x1) rfl))
theorem s_186_26n {x0 x1 x2 x3 x4 x5 x6 : Option Value} : mw d 186 Q 26 [x0, x1, x2, x3, x4, x5, x6] (.null :: st) h = mw d 186 Q 27 [x0, mk2 x1, some (.null), x3, x4, x5, x6] (st) h := (mw_at mj_186_26).trans (z_astoreN_n (Nat.le_of_ble_eq_true rfl) (me_s1_mk (j := 1) (w := x1) rfl))
theorem mj_186_27 : mc_P 186 27 = some (.aload_n 2, 1, 0, 0, 0) := by decide +kernel
theorem s_186_27 {x0 x1 x3 x4 x5 x6 : Option Value} {w : Value} : mw d 186 Q 27 [x0, x1, some w, x3, x4, x5, x6] (st) h = mv_a w (mw d 186 Q 28 [x0, x1, some w, x3, x4, x5, x6] (w :: st) h) := (mw_at mj_186_27).trans (z_aload_n rfl)
theorem mj_186_28 : mc_P 186 28 = some (.invokevirtual 73, 3, 168, 10, 1) := by decide +kernel
theorem s_186_28 {x0 x1 x2 x3 x4 x5 x6 : Option Value} {o : Nat} : mw (d + 1) 186 Q 28 [x0, x1, x2, x3, x4, x5, x6] (.ref o :: st) h = (mg h o 10 ∧ mca st 8 ∧ mca [.ref o] 5 ∧ mcall d 168 [.ref o] h (mK (d + 1) 186 Q 31 [x0, x1, x2, x3, x4, x5, x6] st)) := (mw_at mj_186_28).trans ((z_invv (As := []) (by decide) rfl rfl).trans (congrArg (And _) (congrArg (And _) (mC_nl nl_168))))
theorem mj_186_31 : mc_P 186 31 = some (.new 76, 3, 7, 0, 0) := by decide +kernel
theorem s_186_31 {x0 x1 x2 x3 x4 x5 x6 : Option Value} : mw d 186 Q 31 [x0, x1, x2, x3, x4, x5, x6] (st) h = mw d 186 Q 34 [x0, x1, x2, x3, x4, x5, x6] (.ref (mh_n h) :: st) (mh_new h 7 16) := (mw_at mj_186_31).trans (z_new (by decide) rfl)
theorem mj_186_34 : mc_P 186 34 = some (.dup, 1, 0, 0, 0) := by decide +kernel
theorem s_186_34 {x0 x1 x2 x3 x4 x5 x6 : Option Value} {w : Value} : mw d 186 Q 34 [x0, x1, x2, x3, x4, x5, x6] (w :: st) h = (w.category = 1 ∧ mw d 186 Q 35 [x0, x1, x2, x3, x4, x5, x6] (w :: w :: st) h) := (mw_at mj_186_34).trans (z_dup)
theorem mj_186_35 : mc_P 186 35 = some (.iload_n 1, 1, 0, 0, 0) := by decide +kernel
theorem s_186_35 {x0 x2 x3 x4 x5 x6 : Option Value} {w : Value} : mw d 186 Q 35 [x0, some w, x2, x3, x4, x5, x6] (st) h = mv_i w (mw d 186 Q 36 [x0, some w, x2, x3, x4, x5, x6] (w :: st) h) := (mw_at mj_186_35).trans (z_iload_n rfl)
theorem mj_186_36 : mc_P 186 36 = some (.invokespecial 78, 3, 125, 0, 2) := by decide +kernel
theorem s_186_36 {x0 x1 x2 x3 x4 x5 x6 : Option Value} {o : Nat} {a1 : Value} : mw (d + 1) 186 Q 36 [x0, x1, x2, x3, x4, x5, x6] (a1 :: .ref o :: st) h = (mca st 8 ∧ mca [.ref o, a1] 2 ∧ mcall d 125 [.ref o, a1] h (mK (d + 1) 186 Q 39 [x0, x1, x2, x3, x4, x5, x6] st)) := (mw_at mj_186_36).trans ((z_invsp (As := [a1]) (by decide) rfl rfl).trans (congrArg (And _) (mC_nl nl_125)))
theorem mj_186_39 : mc_P 186 39 = some (.astore_n 3, 1, 0, 0, 0) := by decide +kernel
theorem s_186_39 {x0 x1 x2 x3 x4 x5 x6 : Option Value} {w : Nat} : mw d 186 Q 39 [x0, x1, x2, x3, x4, x5, x6] (.ref w :: st) h = mw d 186 Q 40 [x0, x1, mk2 x2, some (.ref w), x4, x5, x6] (st) h := (mw_at mj_186_39).trans (z_astore_n (Nat.le_of_ble_eq_true rfl) (me_s1_mk (j := 2) (w := x2) rfl))
theorem s_186_39n {x0 x1 x2 x3 x4 x5 x6 : Option Value} : mw d 186 Q 39 [x0, x1, x2, x3, x4, x5, x6] (.null :: st) h = mw d 186 Q 40 [x0, x1, mk2 x2, some (.null), x4, x5, x6] (st) h := (mw_at mj_186_39).trans (z_astoreN_n (Nat.le_of_ble_eq_true rfl) (me_s1_mk (j := 2) (w := x2) rfl))
theorem mj_186_40 : mc_P 186 40 = some (.new 80, 3, 3, 0, 0) := by decide +kernel
theorem s_186_40 {x0 x1 x2 x3 x4 x5 x6 : Option Value} : mw d 186 Q 40 [x0, x1, x2, x3, x4, x5, x6] (st) h = mw d 186 Q 43 [x0, x1, x2, x3, x4, x5, x6] (.ref (mh_n h) :: st) (mh_new h 3 14) := (mw_at mj_186_40).trans (z_new (by decide) rfl)
theorem mj_186_43 : mc_P 186 43 = some (.dup, 1, 0, 0, 0) := by decide +kernel
theorem s_186_43 {x0 x1 x2 x3 x4 x5 x6 : Option Value} {w : Value} : mw d 186 Q 43 [x0, x1, x2, x3, x4, x5, x6] (w :: st) h = (w.category = 1 ∧ mw d 186 Q 44 [x0, x1, x2, x3, x4, x5, x6] (w :: w :: st) h) := (mw_at mj_186_43).trans (z_dup)
theorem mj_186_44 : mc_P 186 44 = some (.aload_n 2, 1, 0, 0, 0) := by decide +kernel
theorem s_186_44 {x0 x1 x3 x4 x5 x6 : Option Value} {w : Value} : mw d 186 Q 44 [x0, x1, some w, x3, x4, x5, x6] (st) h = mv_a w (mw d 186 Q 45 [x0, x1, some w, x3, x4, x5, x6] (w :: st) h) := (mw_at mj_186_44).trans (z_aload_n rfl)
theorem mj_186_45 : mc_P 186 45 = some (.aload_n 3, 1, 0, 0, 0) := by decide +kernel
theorem s_186_45 {x0 x1 x2 x4 x5 x6 : Option Value} {w : Value} : mw d 186 Q 45 [x0, x1, x2, some w, x4, x5, x6] (st) h = mv_a w (mw d 186 Q 46 [x0, x1, x2, some w, x4, x5, x6] (w :: st) h) := (mw_at mj_186_45).trans (z_aload_n rfl)
theorem mj_186_46 : mc_P 186 46 = some (.invokespecial 82, 3, 43, 0, 3) := by decide +kernel
theorem s_186_46 {x0 x1 x2 x3 x4 x5 x6 : Option Value} {o : Nat} {a1 a2 : Value} : mw (d + 1) 186 Q 46 [x0, x1, x2, x3, x4, x5, x6] (a2 :: a1 :: .ref o :: st) h = (mca st 8 ∧ mca [.ref o, a1, a2] 3 ∧ mcall d 43 [.ref o, a1, a2] h (mK (d + 1) 186 Q 49 [x0, x1, x2, x3, x4, x5, x6] st)) := (mw_at mj_186_46).trans ((z_invsp (As := [a1, a2]) (by decide) rfl rfl).trans (congrArg (And _) (mC_nl nl_43)))
theorem mj_186_49 : mc_P 186 49 = some (.astore 4, 2, 0, 0, 0) := by decide +kernel
theorem s_186_49 {x0 x1 x2 x3 x4 x5 x6 : Option Value} {w : Nat} : mw d 186 Q 49 [x0, x1, x2, x3, x4, x5, x6] (.ref w :: st) h = mw d 186 Q 51 [x0, x1, x2, mk2 x3, some (.ref w), x5, x6] (st) h := (mw_at mj_186_49).trans (z_astore (Nat.le_of_ble_eq_true rfl) (me_s1_mk (j := 3) (w := x3) rfl))
theorem s_186_49n {x0 x1 x2 x3 x4 x5 x6 : Option Value} : mw d 186 Q 49 [x0, x1, x2, x3, x4, x5, x6] (.null :: st) h = mw d 186 Q 51 [x0, x1, x2, mk2 x3, some (.null), x5, x6] (st) h := (mw_at mj_186_49).trans (z_astoreN (Nat.le_of_ble_eq_true rfl) (me_s1_mk (j := 3) (w := x3) rfl))
theorem mj_186_51 : mc_P 186 51 = some (.aload 4, 2, 0, 0, 0) := by decide +kernel
theorem s_186_51 {x0 x1 x2 x3 x5 x6 : Option Value} {w : Value} : mw d 186 Q 51 [x0, x1, x2, x3, some w, x5, x6] (st) h = mv_a w (mw d 186 Q 53 [x0, x1, x2, x3, some w, x5, x6] (w :: st) h) := (mw_at mj_186_51).trans (z_aload rfl)
theorem mj_186_53 : mc_P 186 53 = some (.invokevirtual 85, 3, 44, 3, 1) := by decide +kernel
theorem s_186_53 {x0 x1 x2 x3 x4 x5 x6 : Option Value} {o : Nat} : mw (d + 1) 186 Q 53 [x0, x1, x2, x3, x4, x5, x6] (.ref o :: st) h = (mg h o 3 ∧ mca st 8 ∧ mca [.ref o] 4 ∧ mcall d 44 [.ref o] h (mK (d + 1) 186 Q 56 [x0, x1, x2, x3, x4, x5, x6] st)) := (mw_at mj_186_53).trans ((z_invv (As := []) (by decide) rfl rfl).trans (congrArg (And _) (congrArg (And _) (mC_nl nl_44))))
theorem mj_186_56 : mc_P 186 56 = some (.istore 5, 2, 0, 0, 0) := by decide +kernel
theorem s_186_56 {x0 x1 x2 x3 x4 x5 x6 : Option Value} {w : Int32} : mw d 186 Q 56 [x0, x1, x2, x3, x4, x5, x6] (.int w :: st) h = mw d 186 Q 58 [x0, x1, x2, x3, mk2 x4, some (.int w), x6] (st) h := (mw_at mj_186_56).trans (z_istore (Nat.le_of_ble_eq_true rfl) (me_s1_mk (j := 4) (w := x4) rfl))
theorem mj_186_58 : mc_P 186 58 = some (.aload_n 0, 1, 0, 0, 0) := by decide +kernel
theorem s_186_58 {x1 x2 x3 x4 x5 x6 : Option Value} {w : Value} : mw d 186 Q 58 [some w, x1, x2, x3, x4, x5, x6] (st) h = mv_a w (mw d 186 Q 59 [some w, x1, x2, x3, x4, x5, x6] (w :: st) h) := (mw_at mj_186_58).trans (z_aload_n rfl)
theorem mj_186_59 : mc_P 186 59 = some (.iconst 0, 1, 0, 0, 0) := by decide +kernel
theorem s_186_59 {x0 x1 x2 x3 x4 x5 x6 : Option Value} : mw d 186 Q 59 [x0, x1, x2, x3, x4, x5, x6] (st) h = mw d 186 Q 60 [x0, x1, x2, x3, x4, x5, x6] (.int 0 :: st) h := (mw_at mj_186_59).trans (z_iconst (by decide))
theorem mj_186_60 : mc_P 186 60 = some (.putfield 89, 3, 11, 8, 0) := by decide +kernel
theorem s_186_60 {x0 x1 x2 x3 x4 x5 x6 : Option Value} {o : Nat} {w : Int32} : mw d 186 Q 60 [x0, x1, x2, x3, x4, x5, x6] (.int w :: .ref o :: st) h = (mg h o 11 ∧ mw d 186 Q 63 [x0, x1, x2, x3, x4, x5, x6] (st) (mh_si h o 8 w)) := (mw_at mj_186_60).trans (z_puti (by decide) (by decide) rfl)
theorem mj_186_63 : mc_P 186 63 = some (.aload_n 0, 1, 0, 0, 0) := by decide +kernel
theorem s_186_63 {x1 x2 x3 x4 x5 x6 : Option Value} {w : Value} : mw d 186 Q 63 [some w, x1, x2, x3, x4, x5, x6] (st) h = mv_a w (mw d 186 Q 64 [some w, x1, x2, x3, x4, x5, x6] (w :: st) h) := (mw_at mj_186_63).trans (z_aload_n rfl)
theorem mj_186_64 : mc_P 186 64 = some (.iconst 0, 1, 0, 0, 0) := by decide +kernel
theorem s_186_64 {x0 x1 x2 x3 x4 x5 x6 : Option Value} : mw d 186 Q 64 [x0, x1, x2, x3, x4, x5, x6] (st) h = mw d 186 Q 65 [x0, x1, x2, x3, x4, x5, x6] (.int 0 :: st) h := (mw_at mj_186_64).trans (z_iconst (by decide))
theorem mj_186_65 : mc_P 186 65 = some (.putfield 92, 3, 11, 9, 0) := by decide +kernel
theorem s_186_65 {x0 x1 x2 x3 x4 x5 x6 : Option Value} {o : Nat} {w : Int32} : mw d 186 Q 65 [x0, x1, x2, x3, x4, x5, x6] (.int w :: .ref o :: st) h = (mg h o 11 ∧ mw d 186 Q 68 [x0, x1, x2, x3, x4, x5, x6] (st) (mh_si h o 9 w)) := (mw_at mj_186_65).trans (z_puti (by decide) (by decide) rfl)
theorem mj_186_68 : mc_P 186 68 = some (.iconst 0, 1, 0, 0, 0) := by decide +kernel
theorem s_186_68 {x0 x1 x2 x3 x4 x5 x6 : Option Value} : mw d 186 Q 68 [x0, x1, x2, x3, x4, x5, x6] (st) h = mw d 186 Q 69 [x0, x1, x2, x3, x4, x5, x6] (.int 0 :: st) h := (mw_at mj_186_68).trans (z_iconst (by decide))
theorem mj_186_69 : mc_P 186 69 = some (.istore 6, 2, 0, 0, 0) := by decide +kernel
theorem s_186_69 {x0 x1 x2 x3 x4 x5 x6 : Option Value} {w : Int32} : mw d 186 Q 69 [x0, x1, x2, x3, x4, x5, x6] (.int w :: st) h = mw d 186 Q 71 [x0, x1, x2, x3, x4, mk2 x5, some (.int w)] (st) h := (mw_at mj_186_69).trans (z_istore (Nat.le_of_ble_eq_true rfl) (me_s1_mk (j := 5) (w := x5) rfl))
theorem mj_186_71 : mc_P 186 71 = some (.aload_n 0, 1, 0, 0, 0) := by decide +kernel
theorem s_186_71 {x1 x2 x3 x4 x5 x6 : Option Value} {w : Value} : mw d 186 Q 71 [some w, x1, x2, x3, x4, x5, x6] (st) h = mv_a w (mw d 186 Q 72 [some w, x1, x2, x3, x4, x5, x6] (w :: st) h) := (mw_at mj_186_71).trans (z_aload_n rfl)
theorem mj_186_72 : mc_P 186 72 = some (.getfield 16, 3, 11, 2, 0) := by decide +kernel
theorem s_186_72 {x0 x1 x2 x3 x4 x5 x6 : Option Value} {o : Nat} : mw d 186 Q 72 [x0, x1, x2, x3, x4, x5, x6] (.ref o :: st) h = (mg h o 11 ∧ mw d 186 Q 75 [x0, x1, x2, x3, x4, x5, x6] (va_rf (mh_r h o 2) :: st) h) := (mw_at mj_186_72).trans (z_getr (by decide) (by decide) rfl)
theorem mj_186_75 : mc_P 186 75 = some (.invokevirtual 95, 3, 79, 4, 1) := by decide +kernel
theorem s_186_75 {x0 x1 x2 x3 x4 x5 x6 : Option Value} {o : Nat} : mw (d + 1) 186 Q 75 [x0, x1, x2, x3, x4, x5, x6] (.ref o :: st) h = (mg h o 4 ∧ mca st 8 ∧ mca [.ref o] 1 ∧ mcall d 79 [.ref o] h (mK (d + 1) 186 Q 78 [x0, x1, x2, x3, x4, x5, x6] st)) := (mw_at mj_186_75).trans ((z_invv (As := []) (by decide) rfl rfl).trans (congrArg (And _) (congrArg (And _) (mC_nl nl_79))))
theorem mj_186_78 : mc_P 186 78 = some (.iload 5, 2, 0, 0, 0) := by decide +kernel
theorem s_186_78 {x0 x1 x2 x3 x4 x6 : Option Value} {w : Value} : mw d 186 Q 78 [x0, x1, x2, x3, x4, some w, x6] (st) h = mv_i w (mw d 186 Q 80 [x0, x1, x2, x3, x4, some w, x6] (w :: st) h) := (mw_at mj_186_78).trans (z_iload rfl)
theorem mj_186_80 : mc_P 186 80 = some (.iconst (-1), 1, 0, 0, 0) := by decide +kernel
theorem s_186_80 {x0 x1 x2 x3 x4 x5 x6 : Option Value} : mw d 186 Q 80 [x0, x1, x2, x3, x4, x5, x6] (st) h = mw d 186 Q 81 [x0, x1, x2, x3, x4, x5, x6] (.int (-1) :: st) h := (mw_at mj_186_80).trans (z_iconst (by decide))
theorem mj_186_81 : mc_P 186 81 = some (.if_icmp .eq 15, 3, 0, 0, 0) := by decide +kernel
theorem s_186_81 {x0 x1 x2 x3 x4 x5 x6 : Option Value} {x w : Int32} : mw d 186 Q 81 [x0, x1, x2, x3, x4, x5, x6] (.int w :: .int x :: st) h = mB (x = w) (mw d 186 Q) 96 84 [x0, x1, x2, x3, x4, x5, x6] st h := (mw_at mj_186_81).trans (z_icmp_eq (by decide) rfl)
theorem mj_186_84 : mc_P 186 84 = some (.iconst 1, 1, 0, 0, 0) := by decide +kernel
theorem s_186_84 {x0 x1 x2 x3 x4 x5 x6 : Option Value} : mw d 186 Q 84 [x0, x1, x2, x3, x4, x5, x6] (st) h = mw d 186 Q 85 [x0, x1, x2, x3, x4, x5, x6] (.int 1 :: st) h := (mw_at mj_186_84).trans (z_iconst (by decide))
theorem mj_186_85 : mc_P 186 85 = some (.istore 6, 2, 0, 0, 0) := by decide +kernel
theorem s_186_85 {x0 x1 x2 x3 x4 x5 x6 : Option Value} {w : Int32} : mw d 186 Q 85 [x0, x1, x2, x3, x4, x5, x6] (.int w :: st) h = mw d 186 Q 87 [x0, x1, x2, x3, x4, mk2 x5, some (.int w)] (st) h := (mw_at mj_186_85).trans (z_istore (Nat.le_of_ble_eq_true rfl) (me_s1_mk (j := 5) (w := x5) rfl))
theorem mj_186_87 : mc_P 186 87 = some (.aload_n 0, 1, 0, 0, 0) := by decide +kernel
theorem s_186_87 {x1 x2 x3 x4 x5 x6 : Option Value} {w : Value} : mw d 186 Q 87 [some w, x1, x2, x3, x4, x5, x6] (st) h = mv_a w (mw d 186 Q 88 [some w, x1, x2, x3, x4, x5, x6] (w :: st) h) := (mw_at mj_186_87).trans (z_aload_n rfl)
theorem mj_186_88 : mc_P 186 88 = some (.iload 5, 2, 0, 0, 0) := by decide +kernel
theorem s_186_88 {x0 x1 x2 x3 x4 x6 : Option Value} {w : Value} : mw d 186 Q 88 [x0, x1, x2, x3, x4, some w, x6] (st) h = mv_i w (mw d 186 Q 90 [x0, x1, x2, x3, x4, some w, x6] (w :: st) h) := (mw_at mj_186_88).trans (z_iload rfl)
theorem mj_186_90 : mc_P 186 90 = some (.putfield 92, 3, 11, 9, 0) := by decide +kernel
theorem s_186_90 {x0 x1 x2 x3 x4 x5 x6 : Option Value} {o : Nat} {w : Int32} : mw d 186 Q 90 [x0, x1, x2, x3, x4, x5, x6] (.int w :: .ref o :: st) h = (mg h o 11 ∧ mw d 186 Q 93 [x0, x1, x2, x3, x4, x5, x6] (st) (mh_si h o 9 w)) := (mw_at mj_186_90).trans (z_puti (by decide) (by decide) rfl)
theorem mj_186_93 : mc_P 186 93 = some (.goto 47, 3, 0, 0, 0) := by decide +kernel
theorem s_186_93 {x0 x1 x2 x3 x4 x5 x6 : Option Value} : mw d 186 Q 93 [x0, x1, x2, x3, x4, x5, x6] (st) h = mw d 186 Q 140 [x0, x1, x2, x3, x4, x5, x6] (st) h := (mw_at mj_186_93).trans (z_goto (by decide))
theorem mj_186_96 : mc_P 186 96 = some (.aload_n 0, 1, 0, 0, 0) := by decide +kernel
theorem s_186_96 {x1 x2 x3 x4 x5 x6 : Option Value} {w : Value} : mw d 186 Q 96 [some w, x1, x2, x3, x4, x5, x6] (st) h = mv_a w (mw d 186 Q 97 [some w, x1, x2, x3, x4, x5, x6] (w :: st) h) := (mw_at mj_186_96).trans (z_aload_n rfl)
theorem mj_186_97 : mc_P 186 97 = some (.getfield 16, 3, 11, 2, 0) := by decide +kernel
theorem s_186_97 {x0 x1 x2 x3 x4 x5 x6 : Option Value} {o : Nat} : mw d 186 Q 97 [x0, x1, x2, x3, x4, x5, x6] (.ref o :: st) h = (mg h o 11 ∧ mw d 186 Q 100 [x0, x1, x2, x3, x4, x5, x6] (va_rf (mh_r h o 2) :: st) h) := (mw_at mj_186_97).trans (z_getr (by decide) (by decide) rfl)
theorem mj_186_100 : mc_P 186 100 = some (.aload_n 2, 1, 0, 0, 0) := by decide +kernel
theorem s_186_100 {x0 x1 x3 x4 x5 x6 : Option Value} {w : Value} : mw d 186 Q 100 [x0, x1, some w, x3, x4, x5, x6] (st) h = mv_a w (mw d 186 Q 101 [x0, x1, some w, x3, x4, x5, x6] (w :: st) h) := (mw_at mj_186_100).trans (z_aload_n rfl)
theorem mj_186_101 : mc_P 186 101 = some (.aload_n 3, 1, 0, 0, 0) := by decide +kernel
theorem s_186_101 {x0 x1 x2 x4 x5 x6 : Option Value} {w : Value} : mw d 186 Q 101 [x0, x1, x2, some w, x4, x5, x6] (st) h = mv_a w (mw d 186 Q 102 [x0, x1, x2, some w, x4, x5, x6] (w :: st) h) := (mw_at mj_186_101).trans (z_aload_n rfl)
theorem mj_186_102 : mc_P 186 102 = some (.invokevirtual 98, 3, 85, 4, 3) := by decide +kernel
theorem s_186_102 {x0 x1 x2 x3 x4 x5 x6 : Option Value} {o : Nat} {a1 a2 : Value} : mw (d + 1) 186 Q 102 [x0, x1, x2, x3, x4, x5, x6] (a2 :: a1 :: .ref o :: st) h = (mg h o 4 ∧ mca st 8 ∧ mca [.ref o, a1, a2] 7 ∧ mcall d 85 [.ref o, a1, a2] h (mK (d + 1) 186 Q 105 [x0, x1, x2, x3, x4, x5, x6] st)) := (mw_at mj_186_102).trans ((z_invv (As := [a1, a2]) (by decide) rfl rfl).trans (congrArg (And _) (congrArg (And _) (mC_nl nl_85))))
theorem mj_186_105 : mc_P 186 105 = some (.ifCond .ne 35, 3, 0, 0, 0) := by decide +kernel
theorem s_186_105 {x0 x1 x2 x3 x4 x5 x6 : Option Value} {x : Int32} : mw d 186 Q 105 [x0, x1, x2, x3, x4, x5, x6] (.int x :: st) h = mB (¬ x = 0) (mw d 186 Q) 140 108 [x0, x1, x2, x3, x4, x5, x6] st h := (mw_at mj_186_105).trans (z_if_ne (by decide) rfl)
theorem mj_186_108 : mc_P 186 108 = some (.iconst 2, 1, 0, 0, 0) := by decide +kernel
theorem s_186_108 {x0 x1 x2 x3 x4 x5 x6 : Option Value} : mw d 186 Q 108 [x0, x1, x2, x3, x4, x5, x6] (st) h = mw d 186 Q 109 [x0, x1, x2, x3, x4, x5, x6] (.int 2 :: st) h := (mw_at mj_186_108).trans (z_iconst (by decide))
theorem mj_186_109 : mc_P 186 109 = some (.istore 6, 2, 0, 0, 0) := by decide +kernel
theorem s_186_109 {x0 x1 x2 x3 x4 x5 x6 : Option Value} {w : Int32} : mw d 186 Q 109 [x0, x1, x2, x3, x4, x5, x6] (.int w :: st) h = mw d 186 Q 111 [x0, x1, x2, x3, x4, mk2 x5, some (.int w)] (st) h := (mw_at mj_186_109).trans (z_istore (Nat.le_of_ble_eq_true rfl) (me_s1_mk (j := 5) (w := x5) rfl))
theorem mj_186_111 : mc_P 186 111 = some (.aload_n 0, 1, 0, 0, 0) := by decide +kernel
theorem s_186_111 {x1 x2 x3 x4 x5 x6 : Option Value} {w : Value} : mw d 186 Q 111 [some w, x1, x2, x3, x4, x5, x6] (st) h = mv_a w (mw d 186 Q 112 [some w, x1, x2, x3, x4, x5, x6] (w :: st) h) := (mw_at mj_186_111).trans (z_aload_n rfl)
theorem mj_186_112 : mc_P 186 112 = some (.aload_n 0, 1, 0, 0, 0) := by decide +kernel
theorem s_186_112 {x1 x2 x3 x4 x5 x6 : Option Value} {w : Value} : mw d 186 Q 112 [some w, x1, x2, x3, x4, x5, x6] (st) h = mv_a w (mw d 186 Q 113 [some w, x1, x2, x3, x4, x5, x6] (w :: st) h) := (mw_at mj_186_112).trans (z_aload_n rfl)
theorem mj_186_113 : mc_P 186 113 = some (.getfield 16, 3, 11, 2, 0) := by decide +kernel
theorem s_186_113 {x0 x1 x2 x3 x4 x5 x6 : Option Value} {o : Nat} : mw d 186 Q 113 [x0, x1, x2, x3, x4, x5, x6] (.ref o :: st) h = (mg h o 11 ∧ mw d 186 Q 116 [x0, x1, x2, x3, x4, x5, x6] (va_rf (mh_r h o 2) :: st) h) := (mw_at mj_186_113).trans (z_getr (by decide) (by decide) rfl)
theorem mj_186_116 : mc_P 186 116 = some (.getfield 102, 3, 4, 18, 0) := by decide +kernel
theorem s_186_116 {x0 x1 x2 x3 x4 x5 x6 : Option Value} {o : Nat} : mw d 186 Q 116 [x0, x1, x2, x3, x4, x5, x6] (.ref o :: st) h = (mg h o 4 ∧ mw d 186 Q 119 [x0, x1, x2, x3, x4, x5, x6] (.int (mh_i h o 18) :: st) h) := (mw_at mj_186_116).trans (z_geti (by decide) (by decide) (Or.inl rfl))
theorem mj_186_119 : mc_P 186 119 = some (.putfield 89, 3, 11, 8, 0) := by decide +kernel
theorem s_186_119 {x0 x1 x2 x3 x4 x5 x6 : Option Value} {o : Nat} {w : Int32} : mw d 186 Q 119 [x0, x1, x2, x3, x4, x5, x6] (.int w :: .ref o :: st) h = (mg h o 11 ∧ mw d 186 Q 122 [x0, x1, x2, x3, x4, x5, x6] (st) (mh_si h o 8 w)) := (mw_at mj_186_119).trans (z_puti (by decide) (by decide) rfl)
theorem mj_186_122 : mc_P 186 122 = some (.aload_n 0, 1, 0, 0, 0) := by decide +kernel
theorem s_186_122 {x1 x2 x3 x4 x5 x6 : Option Value} {w : Value} : mw d 186 Q 122 [some w, x1, x2, x3, x4, x5, x6] (st) h = mv_a w (mw d 186 Q 123 [some w, x1, x2, x3, x4, x5, x6] (w :: st) h) := (mw_at mj_186_122).trans (z_aload_n rfl)
theorem mj_186_123 : mc_P 186 123 = some (.aload_n 0, 1, 0, 0, 0) := by decide +kernel
theorem s_186_123 {x1 x2 x3 x4 x5 x6 : Option Value} {w : Value} : mw d 186 Q 123 [some w, x1, x2, x3, x4, x5, x6] (st) h = mv_a w (mw d 186 Q 124 [some w, x1, x2, x3, x4, x5, x6] (w :: st) h) := (mw_at mj_186_123).trans (z_aload_n rfl)
theorem mj_186_124 : mc_P 186 124 = some (.getfield 16, 3, 11, 2, 0) := by decide +kernel
theorem s_186_124 {x0 x1 x2 x3 x4 x5 x6 : Option Value} {o : Nat} : mw d 186 Q 124 [x0, x1, x2, x3, x4, x5, x6] (.ref o :: st) h = (mg h o 11 ∧ mw d 186 Q 127 [x0, x1, x2, x3, x4, x5, x6] (va_rf (mh_r h o 2) :: st) h) := (mw_at mj_186_124).trans (z_getr (by decide) (by decide) rfl)
theorem mj_186_127 : mc_P 186 127 = some (.getfield 103, 3, 4, 19, 0) := by decide +kernel
theorem s_186_127 {x0 x1 x2 x3 x4 x5 x6 : Option Value} {o : Nat} : mw d 186 Q 127 [x0, x1, x2, x3, x4, x5, x6] (.ref o :: st) h = (mg h o 4 ∧ mw d 186 Q 130 [x0, x1, x2, x3, x4, x5, x6] (.int (mh_i h o 19) :: st) h) := (mw_at mj_186_127).trans (z_geti (by decide) (by decide) (Or.inl rfl))
theorem mj_186_130 : mc_P 186 130 = some (.putfield 92, 3, 11, 9, 0) := by decide +kernel
theorem s_186_130 {x0 x1 x2 x3 x4 x5 x6 : Option Value} {o : Nat} {w : Int32} : mw d 186 Q 130 [x0, x1, x2, x3, x4, x5, x6] (.int w :: .ref o :: st) h = (mg h o 11 ∧ mw d 186 Q 133 [x0, x1, x2, x3, x4, x5, x6] (st) (mh_si h o 9 w)) := (mw_at mj_186_130).trans (z_puti (by decide) (by decide) rfl)
theorem mj_186_133 : mc_P 186 133 = some (.aload_n 0, 1, 0, 0, 0) := by decide +kernel
theorem s_186_133 {x1 x2 x3 x4 x5 x6 : Option Value} {w : Value} : mw d 186 Q 133 [some w, x1, x2, x3, x4, x5, x6] (st) h = mv_a w (mw d 186 Q 134 [some w, x1, x2, x3, x4, x5, x6] (w :: st) h) := (mw_at mj_186_133).trans (z_aload_n rfl)
theorem mj_186_134 : mc_P 186 134 = some (.getfield 16, 3, 11, 2, 0) := by decide +kernel
theorem s_186_134 {x0 x1 x2 x3 x4 x5 x6 : Option Value} {o : Nat} : mw d 186 Q 134 [x0, x1, x2, x3, x4, x5, x6] (.ref o :: st) h = (mg h o 11 ∧ mw d 186 Q 137 [x0, x1, x2, x3, x4, x5, x6] (va_rf (mh_r h o 2) :: st) h) := (mw_at mj_186_134).trans (z_getr (by decide) (by decide) rfl)
theorem mj_186_137 : mc_P 186 137 = some (.invokevirtual 95, 3, 79, 4, 1) := by decide +kernel
theorem s_186_137 {x0 x1 x2 x3 x4 x5 x6 : Option Value} {o : Nat} : mw (d + 1) 186 Q 137 [x0, x1, x2, x3, x4, x5, x6] (.ref o :: st) h = (mg h o 4 ∧ mca st 8 ∧ mca [.ref o] 1 ∧ mcall d 79 [.ref o] h (mK (d + 1) 186 Q 140 [x0, x1, x2, x3, x4, x5, x6] st)) := (mw_at mj_186_137).trans ((z_invv (As := []) (by decide) rfl rfl).trans (congrArg (And _) (congrArg (And _) (mC_nl nl_79))))
theorem mj_186_140 : mc_P 186 140 = some (.aload_n 0, 1, 0, 0, 0) := by decide +kernel
theorem s_186_140 {x1 x2 x3 x4 x5 x6 : Option Value} {w : Value} : mw d 186 Q 140 [some w, x1, x2, x3, x4, x5, x6] (st) h = mv_a w (mw d 186 Q 141 [some w, x1, x2, x3, x4, x5, x6] (w :: st) h) := (mw_at mj_186_140).trans (z_aload_n rfl)
theorem mj_186_141 : mc_P 186 141 = some (.getfield 34, 3, 11, 4, 0) := by decide +kernel
theorem s_186_141 {x0 x1 x2 x3 x4 x5 x6 : Option Value} {o : Nat} : mw d 186 Q 141 [x0, x1, x2, x3, x4, x5, x6] (.ref o :: st) h = (mg h o 11 ∧ mw d 186 Q 144 [x0, x1, x2, x3, x4, x5, x6] (va_rf (mh_r h o 4) :: st) h) := (mw_at mj_186_141).trans (z_getr (by decide) (by decide) rfl)
theorem mj_186_144 : mc_P 186 144 = some (.invokevirtual 54, 3, 1, 0, 1) := by decide +kernel
theorem s_186_144 {x0 x1 x2 x3 x4 x5 x6 : Option Value} {o : Nat} : mw (d + 1) 186 Q 144 [x0, x1, x2, x3, x4, x5, x6] (.ref o :: st) h = (mg h o 0 ∧ mca st 8 ∧ mca [.ref o] 4 ∧ mcall d 1 [.ref o] h (mK (d + 1) 186 Q 147 [x0, x1, x2, x3, x4, x5, x6] st)) := (mw_at mj_186_144).trans ((z_invv (As := []) (by decide) rfl rfl).trans (congrArg (And _) (congrArg (And _) (mC_nl nl_1))))
theorem mj_186_147 : mc_P 186 147 = some (.aload_n 0, 1, 0, 0, 0) := by decide +kernel
theorem s_186_147 {x1 x2 x3 x4 x5 x6 : Option Value} {w : Value} : mw d 186 Q 147 [some w, x1, x2, x3, x4, x5, x6] (st) h = mv_a w (mw d 186 Q 148 [some w, x1, x2, x3, x4, x5, x6] (w :: st) h) := (mw_at mj_186_147).trans (z_aload_n rfl)
theorem mj_186_148 : mc_P 186 148 = some (.invokevirtual 57, 3, 187, 11, 1) := by decide +kernel
theorem s_186_148 {x0 x1 x2 x3 x4 x5 x6 : Option Value} {o : Nat} : mw (d + 1) 186 Q 148 [x0, x1, x2, x3, x4, x5, x6] (.ref o :: st) h = (mg h o 11 ∧ mca st 8 ∧ mca [.ref o] 2 ∧ mcall d 187 [.ref o] h (mK (d + 1) 186 Q 151 [x0, x1, x2, x3, x4, x5, x6] st)) := (mw_at mj_186_148).trans ((z_invv (As := []) (by decide) rfl rfl).trans (congrArg (And _) (congrArg (And _) (mC_nl nl_187))))
theorem mj_186_151 : mc_P 186 151 = some (.aload_n 0, 1, 0, 0, 0) := by decide +kernel
theorem s_186_151 {x1 x2 x3 x4 x5 x6 : Option Value} {w : Value} : mw d 186 Q 151 [some w, x1, x2, x3, x4, x5, x6] (st) h = mv_a w (mw d 186 Q 152 [some w, x1, x2, x3, x4, x5, x6] (w :: st) h) := (mw_at mj_186_151).trans (z_aload_n rfl)
theorem mj_186_152 : mc_P 186 152 = some (.getfield 41, 3, 11, 5, 0) := by decide +kernel
theorem s_186_152 {x0 x1 x2 x3 x4 x5 x6 : Option Value} {o : Nat} : mw d 186 Q 152 [x0, x1, x2, x3, x4, x5, x6] (.ref o :: st) h = (mg h o 11 ∧ mw d 186 Q 155 [x0, x1, x2, x3, x4, x5, x6] (va_rf (mh_r h o 5) :: st) h) := (mw_at mj_186_152).trans (z_getr (by decide) (by decide) rfl)
theorem mj_186_155 : mc_P 186 155 = some (.invokevirtual 104, 3, 27, 2, 1) := by decide +kernel
theorem s_186_155 {x0 x1 x2 x3 x4 x5 x6 : Option Value} {o : Nat} : mw (d + 1) 186 Q 155 [x0, x1, x2, x3, x4, x5, x6] (.ref o :: st) h = (mg h o 2 ∧ mca st 8 ∧ mca [.ref o] 1 ∧ mcall d 27 [.ref o] h (mK (d + 1) 186 Q 158 [x0, x1, x2, x3, x4, x5, x6] st)) := (mw_at mj_186_155).trans ((z_invv (As := []) (by decide) rfl rfl).trans (congrArg (And _) (congrArg (And _) (mC_nl nl_27))))
theorem mj_186_158 : mc_P 186 158 = some (.aload_n 0, 1, 0, 0, 0) := by decide +kernel
theorem s_186_158 {x1 x2 x3 x4 x5 x6 : Option Value} {w : Value} : mw d 186 Q 158 [some w, x1, x2, x3, x4, x5, x6] (st) h = mv_a w (mw d 186 Q 159 [some w, x1, x2, x3, x4, x5, x6] (w :: st) h) := (mw_at mj_186_158).trans (z_aload_n rfl)
theorem mj_186_159 : mc_P 186 159 = some (.iconst 0, 1, 0, 0, 0) := by decide +kernel
theorem s_186_159 {x0 x1 x2 x3 x4 x5 x6 : Option Value} : mw d 186 Q 159 [x0, x1, x2, x3, x4, x5, x6] (st) h = mw d 186 Q 160 [x0, x1, x2, x3, x4, x5, x6] (.int 0 :: st) h := (mw_at mj_186_159).trans (z_iconst (by decide))
theorem mj_186_160 : mc_P 186 160 = some (.putfield 60, 3, 11, 1, 0) := by decide +kernel
theorem s_186_160 {x0 x1 x2 x3 x4 x5 x6 : Option Value} {o : Nat} {w : Int32} : mw d 186 Q 160 [x0, x1, x2, x3, x4, x5, x6] (.int w :: .ref o :: st) h = (mg h o 11 ∧ mw d 186 Q 163 [x0, x1, x2, x3, x4, x5, x6] (st) (mh_si h o 1 w)) := (mw_at mj_186_160).trans (z_puti (by decide) (by decide) rfl)
theorem mj_186_163 : mc_P 186 163 = some (.aload_n 0, 1, 0, 0, 0) := by decide +kernel
theorem s_186_163 {x1 x2 x3 x4 x5 x6 : Option Value} {w : Value} : mw d 186 Q 163 [some w, x1, x2, x3, x4, x5, x6] (st) h = mv_a w (mw d 186 Q 164 [some w, x1, x2, x3, x4, x5, x6] (w :: st) h) := (mw_at mj_186_163).trans (z_aload_n rfl)
theorem mj_186_164 : mc_P 186 164 = some (.iconst 1, 1, 0, 0, 0) := by decide +kernel
theorem s_186_164 {x0 x1 x2 x3 x4 x5 x6 : Option Value} : mw d 186 Q 164 [x0, x1, x2, x3, x4, x5, x6] (st) h = mw d 186 Q 165 [x0, x1, x2, x3, x4, x5, x6] (.int 1 :: st) h := (mw_at mj_186_164).trans (z_iconst (by decide))
theorem mj_186_165 : mc_P 186 165 = some (.putfield 107, 3, 11, 7, 0) := by decide +kernel
theorem s_186_165 {x0 x1 x2 x3 x4 x5 x6 : Option Value} {o : Nat} {w : Int32} : mw d 186 Q 165 [x0, x1, x2, x3, x4, x5, x6] (.int w :: .ref o :: st) h = (mg h o 11 ∧ (w = 0 ∨ w = 1) ∧ mw d 186 Q 168 [x0, x1, x2, x3, x4, x5, x6] (st) (mh_si h o 7 w)) := (mw_at mj_186_165).trans (z_putz (by decide) (by decide) rfl)
theorem mj_186_168 : mc_P 186 168 = some (.aload_n 0, 1, 0, 0, 0) := by decide +kernel
theorem s_186_168 {x1 x2 x3 x4 x5 x6 : Option Value} {w : Value} : mw d 186 Q 168 [some w, x1, x2, x3, x4, x5, x6] (st) h = mv_a w (mw d 186 Q 169 [some w, x1, x2, x3, x4, x5, x6] (w :: st) h) := (mw_at mj_186_168).trans (z_aload_n rfl)
theorem mj_186_169 : mc_P 186 169 = some (.getfield 34, 3, 11, 4, 0) := by decide +kernel
theorem s_186_169 {x0 x1 x2 x3 x4 x5 x6 : Option Value} {o : Nat} : mw d 186 Q 169 [x0, x1, x2, x3, x4, x5, x6] (.ref o :: st) h = (mg h o 11 ∧ mw d 186 Q 172 [x0, x1, x2, x3, x4, x5, x6] (va_rf (mh_r h o 4) :: st) h) := (mw_at mj_186_169).trans (z_getr (by decide) (by decide) rfl)
theorem mj_186_172 : mc_P 186 172 = some (.getfield 111, 3, 0, 3, 0) := by decide +kernel
theorem s_186_172 {x0 x1 x2 x3 x4 x5 x6 : Option Value} {o : Nat} : mw d 186 Q 172 [x0, x1, x2, x3, x4, x5, x6] (.ref o :: st) h = (mg h o 0 ∧ mw d 186 Q 175 [x0, x1, x2, x3, x4, x5, x6] (.int (mh_i h o 3) :: st) h) := (mw_at mj_186_172).trans (z_geti (by decide) (by decide) (Or.inr rfl))
theorem mj_186_175 : mc_P 186 175 = some (.ifCond .eq 7, 3, 0, 0, 0) := by decide +kernel
theorem s_186_175 {x0 x1 x2 x3 x4 x5 x6 : Option Value} {x : Int32} : mw d 186 Q 175 [x0, x1, x2, x3, x4, x5, x6] (.int x :: st) h = mB (x = 0) (mw d 186 Q) 182 178 [x0, x1, x2, x3, x4, x5, x6] st h := (mw_at mj_186_175).trans (z_if_eq (by decide) rfl)
theorem mj_186_178 : mc_P 186 178 = some (.iconst 3, 1, 0, 0, 0) := by decide +kernel
theorem s_186_178 {x0 x1 x2 x3 x4 x5 x6 : Option Value} : mw d 186 Q 178 [x0, x1, x2, x3, x4, x5, x6] (st) h = mw d 186 Q 179 [x0, x1, x2, x3, x4, x5, x6] (.int 3 :: st) h := (mw_at mj_186_178).trans (z_iconst (by decide))
theorem mj_186_179 : mc_P 186 179 = some (.goto 5, 3, 0, 0, 0) := by decide +kernel
theorem s_186_179 {x0 x1 x2 x3 x4 x5 x6 : Option Value} : mw d 186 Q 179 [x0, x1, x2, x3, x4, x5, x6] (st) h = mw d 186 Q 184 [x0, x1, x2, x3, x4, x5, x6] (st) h := (mw_at mj_186_179).trans (z_goto (by decide))
theorem mj_186_182 : mc_P 186 182 = some (.iload 6, 2, 0, 0, 0) := by decide +kernel
theorem s_186_182 {x0 x1 x2 x3 x4 x5 : Option Value} {w : Value} : mw d 186 Q 182 [x0, x1, x2, x3, x4, x5, some w] (st) h = mv_i w (mw d 186 Q 184 [x0, x1, x2, x3, x4, x5, some w] (w :: st) h) := (mw_at mj_186_182).trans (z_iload rfl)
theorem mj_186_184 : mc_P 186 184 = some (.ireturn, 1, 0, 0, 0) := by decide +kernel
theorem s_186_184 {x0 x1 x2 x3 x4 x5 x6 : Option Value} {x : Int32} : mw d 186 Q 184 [x0, x1, x2, x3, x4, x5, x6] ([.int x]) h = (Q (some (.int x)) h) := (mw_at mj_186_184).trans (z_iret)
theorem e_186 {a0 : Nat} {a1 : Int32} : mcall d 186 [.ref a0, .int a1] h Q = mw d 186 Q 0 [some (.ref a0), some (.int a1), none, none, none, none, none] [] h := by
  show mw d 186 Q 0 (me_en (mc_nl 186) _) [] h = _
  rw [nl_186]; rfl

/-! InvariantDesk.claimAsAnalysed()V -/
theorem mj_187_0 : mc_P 187 0 = some (.iconst 0, 1, 0, 0, 0) := by decide +kernel
theorem s_187_0 {x0 x1 : Option Value} : mw d 187 Q 0 [x0, x1] (st) h = mw d 187 Q 1 [x0, x1] (.int 0 :: st) h := (mw_at mj_187_0).trans (z_iconst (by decide))
theorem mj_187_1 : mc_P 187 1 = some (.istore_n 1, 1, 0, 0, 0) := by decide +kernel
theorem s_187_1 {x0 x1 : Option Value} {w : Int32} : mw d 187 Q 1 [x0, x1] (.int w :: st) h = mw d 187 Q 2 [mk2 x0, some (.int w)] (st) h := (mw_at mj_187_1).trans (z_istore_n (Nat.le_of_ble_eq_true rfl) (me_s1_mk (j := 0) (w := x0) rfl))
theorem mj_187_2 : mc_P 187 2 = some (.iload_n 1, 1, 0, 0, 0) := by decide +kernel
theorem s_187_2 {x0 : Option Value} {w : Value} : mw d 187 Q 2 [x0, some w] (st) h = mv_i w (mw d 187 Q 3 [x0, some w] (w :: st) h) := (mw_at mj_187_2).trans (z_iload_n rfl)
theorem mj_187_3 : mc_P 187 3 = some (.aload_n 0, 1, 0, 0, 0) := by decide +kernel
theorem s_187_3 {x1 : Option Value} {w : Value} : mw d 187 Q 3 [some w, x1] (st) h = mv_a w (mw d 187 Q 4 [some w, x1] (w :: st) h) := (mw_at mj_187_3).trans (z_aload_n rfl)
theorem mj_187_4 : mc_P 187 4 = some (.getfield 16, 3, 11, 2, 0) := by decide +kernel
theorem s_187_4 {x0 x1 : Option Value} {o : Nat} : mw d 187 Q 4 [x0, x1] (.ref o :: st) h = (mg h o 11 ∧ mw d 187 Q 7 [x0, x1] (va_rf (mh_r h o 2) :: st) h) := (mw_at mj_187_4).trans (z_getr (by decide) (by decide) rfl)
theorem mj_187_7 : mc_P 187 7 = some (.getfield 114, 3, 4, 2, 0) := by decide +kernel
theorem s_187_7 {x0 x1 : Option Value} {o : Nat} : mw d 187 Q 7 [x0, x1] (.ref o :: st) h = (mg h o 4 ∧ mw d 187 Q 10 [x0, x1] (.int (mh_i h o 2) :: st) h) := (mw_at mj_187_7).trans (z_geti (by decide) (by decide) (Or.inl rfl))
theorem mj_187_10 : mc_P 187 10 = some (.if_icmp .ge 49, 3, 0, 0, 0) := by decide +kernel
theorem s_187_10 {x0 x1 : Option Value} {x w : Int32} : mw d 187 Q 10 [x0, x1] (.int w :: .int x :: st) h = mB (w ≤ x) (mw d 187 Q) 59 13 [x0, x1] st h := (mw_at mj_187_10).trans (z_icmp_ge (by decide) rfl)
theorem mj_187_13 : mc_P 187 13 = some (.aload_n 0, 1, 0, 0, 0) := by decide +kernel
theorem s_187_13 {x1 : Option Value} {w : Value} : mw d 187 Q 13 [some w, x1] (st) h = mv_a w (mw d 187 Q 14 [some w, x1] (w :: st) h) := (mw_at mj_187_13).trans (z_aload_n rfl)
theorem mj_187_14 : mc_P 187 14 = some (.getfield 47, 3, 11, 6, 0) := by decide +kernel
theorem s_187_14 {x0 x1 : Option Value} {o : Nat} : mw d 187 Q 14 [x0, x1] (.ref o :: st) h = (mg h o 11 ∧ mw d 187 Q 17 [x0, x1] (va_rf (mh_r h o 6) :: st) h) := (mw_at mj_187_14).trans (z_getr (by decide) (by decide) rfl)
theorem mj_187_17 : mc_P 187 17 = some (.iload_n 1, 1, 0, 0, 0) := by decide +kernel
theorem s_187_17 {x0 : Option Value} {w : Value} : mw d 187 Q 17 [x0, some w] (st) h = mv_i w (mw d 187 Q 18 [x0, some w] (w :: st) h) := (mw_at mj_187_17).trans (z_iload_n rfl)
theorem mj_187_18 : mc_P 187 18 = some (.aaload, 1, 0, 0, 0) := by decide +kernel
theorem s_187_18 {x0 x1 : Option Value} {o : Nat} {i : Int32} : mw d 187 Q 18 [x0, x1] (.int i :: .ref o :: st) h = (mgr h o ∧ mx i (mh_l h o) ∧ mw d 187 Q 19 [x0, x1] (mrd (mh_k h o) h o i.toNatClampNeg :: st) h) := (mw_at mj_187_18).trans (z_aald)
theorem mj_187_19 : mc_P 187 19 = some (.ifnonnull 16, 3, 0, 0, 0) := by decide +kernel
theorem s_187_19n {x0 x1 : Option Value} : mw d 187 Q 19 [x0, x1] (.null :: st) h = mw d 187 Q 22 [x0, x1] (st) h := (mw_at mj_187_19).trans (z_nnullF)
theorem s_187_19 {x0 x1 : Option Value} {w : Nat} : mw d 187 Q 19 [x0, x1] (.ref w :: st) h = mw d 187 Q 35 [x0, x1] (st) h := (mw_at mj_187_19).trans (z_nnullT (by decide))
theorem mj_187_22 : mc_P 187 22 = some (.aload_n 0, 1, 0, 0, 0) := by decide +kernel
theorem s_187_22 {x1 : Option Value} {w : Value} : mw d 187 Q 22 [some w, x1] (st) h = mv_a w (mw d 187 Q 23 [some w, x1] (w :: st) h) := (mw_at mj_187_22).trans (z_aload_n rfl)
theorem mj_187_23 : mc_P 187 23 = some (.getfield 47, 3, 11, 6, 0) := by decide +kernel
theorem s_187_23 {x0 x1 : Option Value} {o : Nat} : mw d 187 Q 23 [x0, x1] (.ref o :: st) h = (mg h o 11 ∧ mw d 187 Q 26 [x0, x1] (va_rf (mh_r h o 6) :: st) h) := (mw_at mj_187_23).trans (z_getr (by decide) (by decide) rfl)
theorem mj_187_26 : mc_P 187 26 = some (.iload_n 1, 1, 0, 0, 0) := by decide +kernel
theorem s_187_26 {x0 : Option Value} {w : Value} : mw d 187 Q 26 [x0, some w] (st) h = mv_i w (mw d 187 Q 27 [x0, some w] (w :: st) h) := (mw_at mj_187_26).trans (z_iload_n rfl)
theorem mj_187_27 : mc_P 187 27 = some (.new 45, 3, 8, 0, 0) := by decide +kernel
theorem s_187_27 {x0 x1 : Option Value} : mw d 187 Q 27 [x0, x1] (st) h = mw d 187 Q 30 [x0, x1] (.ref (mh_n h) :: st) (mh_new h 8 6) := (mw_at mj_187_27).trans (z_new (by decide) rfl)
theorem mj_187_30 : mc_P 187 30 = some (.dup, 1, 0, 0, 0) := by decide +kernel
theorem s_187_30 {x0 x1 : Option Value} {w : Value} : mw d 187 Q 30 [x0, x1] (w :: st) h = (w.category = 1 ∧ mw d 187 Q 31 [x0, x1] (w :: w :: st) h) := (mw_at mj_187_30).trans (z_dup)
theorem mj_187_31 : mc_P 187 31 = some (.invokespecial 117, 3, 139, 2, 1) := by decide +kernel
theorem s_187_31 {x0 x1 : Option Value} {o : Nat} : mw (d + 1) 187 Q 31 [x0, x1] (.ref o :: st) h = (mca st 8 ∧ mca [.ref o] 1 ∧ mcall d 139 [.ref o] h (mK (d + 1) 187 Q 34 [x0, x1] st)) := (mw_at mj_187_31).trans ((z_invsp (As := []) (by decide) rfl rfl).trans (congrArg (And _) (mC_nl nl_139)))
theorem mj_187_34 : mc_P 187 34 = some (.aastore, 1, 0, 0, 0) := by decide +kernel
theorem s_187_34 {x0 x1 : Option Value} {o w : Nat} {i : Int32} : mw d 187 Q 34 [x0, x1] (.ref w :: .int i :: .ref o :: st) h = (mgr h o ∧ mx i (mh_l h o) ∧ mh_k h o < 107 ∧ mg h w (me_ac (mh_k h o)) ∧ mw d 187 Q 35 [x0, x1] (st) (mh_sr h o i.toNatClampNeg (some w))) := (mw_at mj_187_34).trans (z_aast)
theorem s_187_34n {x0 x1 : Option Value} {o : Nat} {i : Int32} : mw d 187 Q 34 [x0, x1] (.null :: .int i :: .ref o :: st) h = (mgr h o ∧ mx i (mh_l h o) ∧ mh_k h o < 107 ∧ mw d 187 Q 35 [x0, x1] (st) (mh_sr h o i.toNatClampNeg none)) := (mw_at mj_187_34).trans (z_aastN)
theorem s_187_34x {x0 x1 : Option Value} {o x : Nat} {i : Int32} : mw d 187 Q 34 [x0, x1] (.retAddr x :: .int i :: .ref o :: st) h = (mg h o 107 ∧ mx i (mh_l h o) ∧ me_xs x = true ∧ mw d 187 Q 35 [x0, x1] (st) (mh_si h o i.toNatClampNeg (Int32.ofNat x))) := (mw_at mj_187_34).trans (z_aastS)
theorem mj_187_35 : mc_P 187 35 = some (.aload_n 0, 1, 0, 0, 0) := by decide +kernel
theorem s_187_35 {x1 : Option Value} {w : Value} : mw d 187 Q 35 [some w, x1] (st) h = mv_a w (mw d 187 Q 36 [some w, x1] (w :: st) h) := (mw_at mj_187_35).trans (z_aload_n rfl)
theorem mj_187_36 : mc_P 187 36 = some (.getfield 47, 3, 11, 6, 0) := by decide +kernel
theorem s_187_36 {x0 x1 : Option Value} {o : Nat} : mw d 187 Q 36 [x0, x1] (.ref o :: st) h = (mg h o 11 ∧ mw d 187 Q 39 [x0, x1] (va_rf (mh_r h o 6) :: st) h) := (mw_at mj_187_36).trans (z_getr (by decide) (by decide) rfl)
theorem mj_187_39 : mc_P 187 39 = some (.iload_n 1, 1, 0, 0, 0) := by decide +kernel
theorem s_187_39 {x0 : Option Value} {w : Value} : mw d 187 Q 39 [x0, some w] (st) h = mv_i w (mw d 187 Q 40 [x0, some w] (w :: st) h) := (mw_at mj_187_39).trans (z_iload_n rfl)
theorem mj_187_40 : mc_P 187 40 = some (.aaload, 1, 0, 0, 0) := by decide +kernel
theorem s_187_40 {x0 x1 : Option Value} {o : Nat} {i : Int32} : mw d 187 Q 40 [x0, x1] (.int i :: .ref o :: st) h = (mgr h o ∧ mx i (mh_l h o) ∧ mw d 187 Q 41 [x0, x1] (mrd (mh_k h o) h o i.toNatClampNeg :: st) h) := (mw_at mj_187_40).trans (z_aald)
theorem mj_187_41 : mc_P 187 41 = some (.aload_n 0, 1, 0, 0, 0) := by decide +kernel
theorem s_187_41 {x1 : Option Value} {w : Value} : mw d 187 Q 41 [some w, x1] (st) h = mv_a w (mw d 187 Q 42 [some w, x1] (w :: st) h) := (mw_at mj_187_41).trans (z_aload_n rfl)
theorem mj_187_42 : mc_P 187 42 = some (.getfield 34, 3, 11, 4, 0) := by decide +kernel
theorem s_187_42 {x0 x1 : Option Value} {o : Nat} : mw d 187 Q 42 [x0, x1] (.ref o :: st) h = (mg h o 11 ∧ mw d 187 Q 45 [x0, x1] (va_rf (mh_r h o 4) :: st) h) := (mw_at mj_187_42).trans (z_getr (by decide) (by decide) rfl)
theorem mj_187_45 : mc_P 187 45 = some (.getfield 118, 3, 0, 0, 0) := by decide +kernel
theorem s_187_45 {x0 x1 : Option Value} {o : Nat} : mw d 187 Q 45 [x0, x1] (.ref o :: st) h = (mg h o 0 ∧ mw d 187 Q 48 [x0, x1] (va_rf (mh_r h o 0) :: st) h) := (mw_at mj_187_45).trans (z_getr (by decide) (by decide) rfl)
theorem mj_187_48 : mc_P 187 48 = some (.iload_n 1, 1, 0, 0, 0) := by decide +kernel
theorem s_187_48 {x0 : Option Value} {w : Value} : mw d 187 Q 48 [x0, some w] (st) h = mv_i w (mw d 187 Q 49 [x0, some w] (w :: st) h) := (mw_at mj_187_48).trans (z_iload_n rfl)
theorem mj_187_49 : mc_P 187 49 = some (.aaload, 1, 0, 0, 0) := by decide +kernel
theorem s_187_49 {x0 x1 : Option Value} {o : Nat} {i : Int32} : mw d 187 Q 49 [x0, x1] (.int i :: .ref o :: st) h = (mgr h o ∧ mx i (mh_l h o) ∧ mw d 187 Q 50 [x0, x1] (mrd (mh_k h o) h o i.toNatClampNeg :: st) h) := (mw_at mj_187_49).trans (z_aald)
theorem mj_187_50 : mc_P 187 50 = some (.invokevirtual 121, 3, 144, 8, 2) := by decide +kernel
theorem s_187_50 {x0 x1 : Option Value} {o : Nat} {a1 : Value} : mw (d + 1) 187 Q 50 [x0, x1] (a1 :: .ref o :: st) h = (mg h o 8 ∧ mca st 8 ∧ mca [.ref o, a1] 2 ∧ mcall d 144 [.ref o, a1] h (mK (d + 1) 187 Q 53 [x0, x1] st)) := (mw_at mj_187_50).trans ((z_invv (As := [a1]) (by decide) rfl rfl).trans (congrArg (And _) (congrArg (And _) (mC_nl nl_144))))
theorem mj_187_53 : mc_P 187 53 = some (.iinc 1 1, 3, 0, 0, 0) := by decide +kernel
theorem s_187_53 {x0 : Option Value} {w : Int32} : mw d 187 Q 53 [x0, some (.int w)] (st) h = mw d 187 Q 56 [mk2 x0, some (.int (w + 1))] (st) h := (mw_at mj_187_53).trans (z_iinc rfl (Nat.le_of_ble_eq_true rfl) (by decide) (me_s1_mk (j := 0) (w := x0) rfl))
theorem mj_187_56 : mc_P 187 56 = some (.goto (-54), 3, 0, 0, 0) := by decide +kernel
theorem s_187_56 {x0 x1 : Option Value} : mw d 187 Q 56 [x0, x1] (st) h = mw d 187 Q 2 [x0, x1] (st) h := (mw_at mj_187_56).trans (z_goto (by decide))
theorem mj_187_59 : mc_P 187 59 = some (.aload_n 0, 1, 0, 0, 0) := by decide +kernel
theorem s_187_59 {x1 : Option Value} {w : Value} : mw d 187 Q 59 [some w, x1] (st) h = mv_a w (mw d 187 Q 60 [some w, x1] (w :: st) h) := (mw_at mj_187_59).trans (z_aload_n rfl)
theorem mj_187_60 : mc_P 187 60 = some (.iconst 0, 1, 0, 0, 0) := by decide +kernel
theorem s_187_60 {x0 x1 : Option Value} : mw d 187 Q 60 [x0, x1] (st) h = mw d 187 Q 61 [x0, x1] (.int 0 :: st) h := (mw_at mj_187_60).trans (z_iconst (by decide))
theorem mj_187_61 : mc_P 187 61 = some (.putfield 125, 3, 11, 10, 0) := by decide +kernel
theorem s_187_61 {x0 x1 : Option Value} {o : Nat} {w : Int32} : mw d 187 Q 61 [x0, x1] (.int w :: .ref o :: st) h = (mg h o 11 ∧ (w = 0 ∨ w = 1) ∧ mw d 187 Q 64 [x0, x1] (st) (mh_si h o 10 w)) := (mw_at mj_187_61).trans (z_putz (by decide) (by decide) rfl)
theorem mj_187_64 : mc_P 187 64 = some (.aload_n 0, 1, 0, 0, 0) := by decide +kernel
theorem s_187_64 {x1 : Option Value} {w : Value} : mw d 187 Q 64 [some w, x1] (st) h = mv_a w (mw d 187 Q 65 [some w, x1] (w :: st) h) := (mw_at mj_187_64).trans (z_aload_n rfl)
theorem mj_187_65 : mc_P 187 65 = some (.iconst 0, 1, 0, 0, 0) := by decide +kernel
theorem s_187_65 {x0 x1 : Option Value} : mw d 187 Q 65 [x0, x1] (st) h = mw d 187 Q 66 [x0, x1] (.int 0 :: st) h := (mw_at mj_187_65).trans (z_iconst (by decide))
theorem mj_187_66 : mc_P 187 66 = some (.putfield 128, 3, 11, 11, 0) := by decide +kernel
theorem s_187_66 {x0 x1 : Option Value} {o : Nat} {w : Int32} : mw d 187 Q 66 [x0, x1] (.int w :: .ref o :: st) h = (mg h o 11 ∧ (w = 0 ∨ w = 1) ∧ mw d 187 Q 69 [x0, x1] (st) (mh_si h o 11 w)) := (mw_at mj_187_66).trans (z_putz (by decide) (by decide) rfl)
theorem mj_187_69 : mc_P 187 69 = some (.return_, 1, 0, 0, 0) := by decide +kernel
theorem s_187_69 {x0 x1 : Option Value} : mw d 187 Q 69 [x0, x1] ([]) h = Q none h := (mw_at mj_187_69).trans (z_vret)
theorem e_187 {a0 : Nat} : mcall d 187 [.ref a0] h Q = mw d 187 Q 0 [some (.ref a0), none] [] h := by
  show mw d 187 Q 0 (me_en (mc_nl 187) _) [] h = _
  rw [nl_187]; rfl

/-! InvariantDesk.noteClaim()V -/
theorem mj_188_0 : mc_P 188 0 = some (.aload_n 0, 1, 0, 0, 0) := by decide +kernel
theorem s_188_0 {w : Value} : mw d 188 Q 0 [some w] (st) h = mv_a w (mw d 188 Q 1 [some w] (w :: st) h) := (mw_at mj_188_0).trans (z_aload_n rfl)
theorem mj_188_1 : mc_P 188 1 = some (.iconst 1, 1, 0, 0, 0) := by decide +kernel
theorem s_188_1 {x0 : Option Value} : mw d 188 Q 1 [x0] (st) h = mw d 188 Q 2 [x0] (.int 1 :: st) h := (mw_at mj_188_1).trans (z_iconst (by decide))
theorem mj_188_2 : mc_P 188 2 = some (.putfield 125, 3, 11, 10, 0) := by decide +kernel
theorem s_188_2 {x0 : Option Value} {o : Nat} {w : Int32} : mw d 188 Q 2 [x0] (.int w :: .ref o :: st) h = (mg h o 11 ∧ (w = 0 ∨ w = 1) ∧ mw d 188 Q 5 [x0] (st) (mh_si h o 10 w)) := (mw_at mj_188_2).trans (z_putz (by decide) (by decide) rfl)
theorem mj_188_5 : mc_P 188 5 = some (.aload_n 0, 1, 0, 0, 0) := by decide +kernel
theorem s_188_5 {w : Value} : mw d 188 Q 5 [some w] (st) h = mv_a w (mw d 188 Q 6 [some w] (w :: st) h) := (mw_at mj_188_5).trans (z_aload_n rfl)
theorem mj_188_6 : mc_P 188 6 = some (.iconst 0, 1, 0, 0, 0) := by decide +kernel
theorem s_188_6 {x0 : Option Value} : mw d 188 Q 6 [x0] (st) h = mw d 188 Q 7 [x0] (.int 0 :: st) h := (mw_at mj_188_6).trans (z_iconst (by decide))
theorem mj_188_7 : mc_P 188 7 = some (.putfield 128, 3, 11, 11, 0) := by decide +kernel
theorem s_188_7 {x0 : Option Value} {o : Nat} {w : Int32} : mw d 188 Q 7 [x0] (.int w :: .ref o :: st) h = (mg h o 11 ∧ (w = 0 ∨ w = 1) ∧ mw d 188 Q 10 [x0] (st) (mh_si h o 11 w)) := (mw_at mj_188_7).trans (z_putz (by decide) (by decide) rfl)
theorem mj_188_10 : mc_P 188 10 = some (.return_, 1, 0, 0, 0) := by decide +kernel
theorem s_188_10 {x0 : Option Value} : mw d 188 Q 10 [x0] ([]) h = Q none h := (mw_at mj_188_10).trans (z_vret)
theorem e_188 {a0 : Nat} : mcall d 188 [.ref a0] h Q = mw d 188 Q 0 [some (.ref a0)] [] h := by
  show mw d 188 Q 0 (me_en (mc_nl 188) _) [] h = _
  rw [nl_188]; rfl

/-! InvariantDesk.told(I)I -/
theorem mj_189_0 : mc_P 189 0 = some (.aload_n 0, 1, 0, 0, 0) := by decide +kernel
theorem s_189_0 {x1 : Option Value} {w : Value} : mw d 189 Q 0 [some w, x1] (st) h = mv_a w (mw d 189 Q 1 [some w, x1] (w :: st) h) := (mw_at mj_189_0).trans (z_aload_n rfl)
theorem mj_189_1 : mc_P 189 1 = some (.getfield 107, 3, 11, 7, 0) := by decide +kernel
theorem s_189_1 {x0 x1 : Option Value} {o : Nat} : mw d 189 Q 1 [x0, x1] (.ref o :: st) h = (mg h o 11 ∧ mw d 189 Q 4 [x0, x1] (.int (mh_i h o 7) :: st) h) := (mw_at mj_189_1).trans (z_geti (by decide) (by decide) (Or.inr rfl))
theorem mj_189_4 : mc_P 189 4 = some (.ifCond .ne 5, 3, 0, 0, 0) := by decide +kernel
theorem s_189_4 {x0 x1 : Option Value} {x : Int32} : mw d 189 Q 4 [x0, x1] (.int x :: st) h = mB (¬ x = 0) (mw d 189 Q) 9 7 [x0, x1] st h := (mw_at mj_189_4).trans (z_if_ne (by decide) rfl)
theorem mj_189_7 : mc_P 189 7 = some (.iconst (-1), 1, 0, 0, 0) := by decide +kernel
theorem s_189_7 {x0 x1 : Option Value} : mw d 189 Q 7 [x0, x1] (st) h = mw d 189 Q 8 [x0, x1] (.int (-1) :: st) h := (mw_at mj_189_7).trans (z_iconst (by decide))
theorem mj_189_8 : mc_P 189 8 = some (.ireturn, 1, 0, 0, 0) := by decide +kernel
theorem s_189_8 {x0 x1 : Option Value} {x : Int32} : mw d 189 Q 8 [x0, x1] ([.int x]) h = (Q (some (.int x)) h) := (mw_at mj_189_8).trans (z_iret)
theorem mj_189_9 : mc_P 189 9 = some (.iload_n 1, 1, 0, 0, 0) := by decide +kernel
theorem s_189_9 {x0 : Option Value} {w : Value} : mw d 189 Q 9 [x0, some w] (st) h = mv_i w (mw d 189 Q 10 [x0, some w] (w :: st) h) := (mw_at mj_189_9).trans (z_iload_n rfl)
theorem mj_189_10 : mc_P 189 10 = some (.tableswitch 44 0 2 #[26, 31, 36], 26, 0, 0, 0) := by decide +kernel
theorem s_189_10 {x0 x1 : Option Value} {x : Int32} : mw d 189 Q 10 [x0, x1] (.int x :: st) h = mS x (mw d 189 Q) 54 [x0, x1] st h [(0, 36), (1, 41), (2, 46)] := (mw_at mj_189_10).trans (z_tab (by decide) (by decide) (by decide +kernel))
theorem mj_189_36 : mc_P 189 36 = some (.aload_n 0, 1, 0, 0, 0) := by decide +kernel
theorem s_189_36 {x1 : Option Value} {w : Value} : mw d 189 Q 36 [some w, x1] (st) h = mv_a w (mw d 189 Q 37 [some w, x1] (w :: st) h) := (mw_at mj_189_36).trans (z_aload_n rfl)
theorem mj_189_37 : mc_P 189 37 = some (.getfield 89, 3, 11, 8, 0) := by decide +kernel
theorem s_189_37 {x0 x1 : Option Value} {o : Nat} : mw d 189 Q 37 [x0, x1] (.ref o :: st) h = (mg h o 11 ∧ mw d 189 Q 40 [x0, x1] (.int (mh_i h o 8) :: st) h) := (mw_at mj_189_37).trans (z_geti (by decide) (by decide) (Or.inl rfl))
theorem mj_189_40 : mc_P 189 40 = some (.ireturn, 1, 0, 0, 0) := by decide +kernel
theorem s_189_40 {x0 x1 : Option Value} {x : Int32} : mw d 189 Q 40 [x0, x1] ([.int x]) h = (Q (some (.int x)) h) := (mw_at mj_189_40).trans (z_iret)
theorem mj_189_41 : mc_P 189 41 = some (.aload_n 0, 1, 0, 0, 0) := by decide +kernel
theorem s_189_41 {x1 : Option Value} {w : Value} : mw d 189 Q 41 [some w, x1] (st) h = mv_a w (mw d 189 Q 42 [some w, x1] (w :: st) h) := (mw_at mj_189_41).trans (z_aload_n rfl)
theorem mj_189_42 : mc_P 189 42 = some (.getfield 92, 3, 11, 9, 0) := by decide +kernel
theorem s_189_42 {x0 x1 : Option Value} {o : Nat} : mw d 189 Q 42 [x0, x1] (.ref o :: st) h = (mg h o 11 ∧ mw d 189 Q 45 [x0, x1] (.int (mh_i h o 9) :: st) h) := (mw_at mj_189_42).trans (z_geti (by decide) (by decide) (Or.inl rfl))
theorem mj_189_45 : mc_P 189 45 = some (.ireturn, 1, 0, 0, 0) := by decide +kernel
theorem s_189_45 {x0 x1 : Option Value} {x : Int32} : mw d 189 Q 45 [x0, x1] ([.int x]) h = (Q (some (.int x)) h) := (mw_at mj_189_45).trans (z_iret)
theorem mj_189_46 : mc_P 189 46 = some (.aload_n 0, 1, 0, 0, 0) := by decide +kernel
theorem s_189_46 {x1 : Option Value} {w : Value} : mw d 189 Q 46 [some w, x1] (st) h = mv_a w (mw d 189 Q 47 [some w, x1] (w :: st) h) := (mw_at mj_189_46).trans (z_aload_n rfl)
theorem mj_189_47 : mc_P 189 47 = some (.getfield 34, 3, 11, 4, 0) := by decide +kernel
theorem s_189_47 {x0 x1 : Option Value} {o : Nat} : mw d 189 Q 47 [x0, x1] (.ref o :: st) h = (mg h o 11 ∧ mw d 189 Q 50 [x0, x1] (va_rf (mh_r h o 4) :: st) h) := (mw_at mj_189_47).trans (z_getr (by decide) (by decide) rfl)
theorem mj_189_50 : mc_P 189 50 = some (.getfield 131, 3, 0, 2, 0) := by decide +kernel
theorem s_189_50 {x0 x1 : Option Value} {o : Nat} : mw d 189 Q 50 [x0, x1] (.ref o :: st) h = (mg h o 0 ∧ mw d 189 Q 53 [x0, x1] (.int (mh_i h o 2) :: st) h) := (mw_at mj_189_50).trans (z_geti (by decide) (by decide) (Or.inl rfl))
theorem mj_189_53 : mc_P 189 53 = some (.ireturn, 1, 0, 0, 0) := by decide +kernel
theorem s_189_53 {x0 x1 : Option Value} {x : Int32} : mw d 189 Q 53 [x0, x1] ([.int x]) h = (Q (some (.int x)) h) := (mw_at mj_189_53).trans (z_iret)
theorem mj_189_54 : mc_P 189 54 = some (.iconst (-1), 1, 0, 0, 0) := by decide +kernel
theorem s_189_54 {x0 x1 : Option Value} : mw d 189 Q 54 [x0, x1] (st) h = mw d 189 Q 55 [x0, x1] (.int (-1) :: st) h := (mw_at mj_189_54).trans (z_iconst (by decide))
theorem mj_189_55 : mc_P 189 55 = some (.ireturn, 1, 0, 0, 0) := by decide +kernel
theorem s_189_55 {x0 x1 : Option Value} {x : Int32} : mw d 189 Q 55 [x0, x1] ([.int x]) h = (Q (some (.int x)) h) := (mw_at mj_189_55).trans (z_iret)
theorem e_189 {a0 : Nat} {a1 : Int32} : mcall d 189 [.ref a0, .int a1] h Q = mw d 189 Q 0 [some (.ref a0), some (.int a1)] [] h := by
  show mw d 189 Q 0 (me_en (mc_nl 189) _) [] h = _
  rw [nl_189]; rfl

/-! InvariantDesk.points()I -/
theorem mj_190_0 : mc_P 190 0 = some (.aload_n 0, 1, 0, 0, 0) := by decide +kernel
theorem s_190_0 {w : Value} : mw d 190 Q 0 [some w] (st) h = mv_a w (mw d 190 Q 1 [some w] (w :: st) h) := (mw_at mj_190_0).trans (z_aload_n rfl)
theorem mj_190_1 : mc_P 190 1 = some (.getfield 16, 3, 11, 2, 0) := by decide +kernel
theorem s_190_1 {x0 : Option Value} {o : Nat} : mw d 190 Q 1 [x0] (.ref o :: st) h = (mg h o 11 ∧ mw d 190 Q 4 [x0] (va_rf (mh_r h o 2) :: st) h) := (mw_at mj_190_1).trans (z_getr (by decide) (by decide) rfl)
theorem mj_190_4 : mc_P 190 4 = some (.getfield 114, 3, 4, 2, 0) := by decide +kernel
theorem s_190_4 {x0 : Option Value} {o : Nat} : mw d 190 Q 4 [x0] (.ref o :: st) h = (mg h o 4 ∧ mw d 190 Q 7 [x0] (.int (mh_i h o 2) :: st) h) := (mw_at mj_190_4).trans (z_geti (by decide) (by decide) (Or.inl rfl))
theorem mj_190_7 : mc_P 190 7 = some (.ireturn, 1, 0, 0, 0) := by decide +kernel
theorem s_190_7 {x0 : Option Value} {x : Int32} : mw d 190 Q 7 [x0] ([.int x]) h = (Q (some (.int x)) h) := (mw_at mj_190_7).trans (z_iret)
theorem e_190 {a0 : Nat} : mcall d 190 [.ref a0] h Q = mw d 190 Q 0 [some (.ref a0)] [] h := by
  show mw d 190 Q 0 (me_en (mc_nl 190) _) [] h = _
  rw [nl_190]; rfl

/-! InvariantDesk.point(II)I -/
theorem mj_191_0 : mc_P 191 0 = some (.aload_n 0, 1, 0, 0, 0) := by decide +kernel
theorem s_191_0 {x1 x2 : Option Value} {w : Value} : mw d 191 Q 0 [some w, x1, x2] (st) h = mv_a w (mw d 191 Q 1 [some w, x1, x2] (w :: st) h) := (mw_at mj_191_0).trans (z_aload_n rfl)
theorem mj_191_1 : mc_P 191 1 = some (.iload_n 1, 1, 0, 0, 0) := by decide +kernel
theorem s_191_1 {x0 x2 : Option Value} {w : Value} : mw d 191 Q 1 [x0, some w, x2] (st) h = mv_i w (mw d 191 Q 2 [x0, some w, x2] (w :: st) h) := (mw_at mj_191_1).trans (z_iload_n rfl)
theorem mj_191_2 : mc_P 191 2 = some (.invokevirtual 134, 3, 192, 11, 2) := by decide +kernel
theorem s_191_2 {x0 x1 x2 : Option Value} {o : Nat} {a1 : Value} : mw (d + 1) 191 Q 2 [x0, x1, x2] (a1 :: .ref o :: st) h = (mg h o 11 ∧ mca st 8 ∧ mca [.ref o, a1] 2 ∧ mcall d 192 [.ref o, a1] h (mK (d + 1) 191 Q 5 [x0, x1, x2] st)) := (mw_at mj_191_2).trans ((z_invv (As := [a1]) (by decide) rfl rfl).trans (congrArg (And _) (congrArg (And _) (mC_nl nl_192))))
theorem mj_191_5 : mc_P 191 5 = some (.ifCond .ne 5, 3, 0, 0, 0) := by decide +kernel
theorem s_191_5 {x0 x1 x2 : Option Value} {x : Int32} : mw d 191 Q 5 [x0, x1, x2] (.int x :: st) h = mB (¬ x = 0) (mw d 191 Q) 10 8 [x0, x1, x2] st h := (mw_at mj_191_5).trans (z_if_ne (by decide) rfl)
theorem mj_191_8 : mc_P 191 8 = some (.iconst (-1), 1, 0, 0, 0) := by decide +kernel
theorem s_191_8 {x0 x1 x2 : Option Value} : mw d 191 Q 8 [x0, x1, x2] (st) h = mw d 191 Q 9 [x0, x1, x2] (.int (-1) :: st) h := (mw_at mj_191_8).trans (z_iconst (by decide))
theorem mj_191_9 : mc_P 191 9 = some (.ireturn, 1, 0, 0, 0) := by decide +kernel
theorem s_191_9 {x0 x1 x2 : Option Value} {x : Int32} : mw d 191 Q 9 [x0, x1, x2] ([.int x]) h = (Q (some (.int x)) h) := (mw_at mj_191_9).trans (z_iret)
theorem mj_191_10 : mc_P 191 10 = some (.iload_n 2, 1, 0, 0, 0) := by decide +kernel
theorem s_191_10 {x0 x1 : Option Value} {w : Value} : mw d 191 Q 10 [x0, x1, some w] (st) h = mv_i w (mw d 191 Q 11 [x0, x1, some w] (w :: st) h) := (mw_at mj_191_10).trans (z_iload_n rfl)
theorem mj_191_11 : mc_P 191 11 = some (.tableswitch 134 0 6 #[41, 54, 67, 77, 86, 95, 116], 41, 0, 0, 0) := by decide +kernel
theorem s_191_11 {x0 x1 x2 : Option Value} {x : Int32} : mw d 191 Q 11 [x0, x1, x2] (.int x :: st) h = mS x (mw d 191 Q) 145 [x0, x1, x2] st h [(0, 52), (1, 65), (2, 78), (3, 88), (4, 97), (5, 106), (6, 127)] := (mw_at mj_191_11).trans (z_tab (by decide) (by decide) (by decide +kernel))
theorem mj_191_52 : mc_P 191 52 = some (.aload_n 0, 1, 0, 0, 0) := by decide +kernel
theorem s_191_52 {x1 x2 : Option Value} {w : Value} : mw d 191 Q 52 [some w, x1, x2] (st) h = mv_a w (mw d 191 Q 53 [some w, x1, x2] (w :: st) h) := (mw_at mj_191_52).trans (z_aload_n rfl)
theorem mj_191_53 : mc_P 191 53 = some (.getfield 16, 3, 11, 2, 0) := by decide +kernel
theorem s_191_53 {x0 x1 x2 : Option Value} {o : Nat} : mw d 191 Q 53 [x0, x1, x2] (.ref o :: st) h = (mg h o 11 ∧ mw d 191 Q 56 [x0, x1, x2] (va_rf (mh_r h o 2) :: st) h) := (mw_at mj_191_53).trans (z_getr (by decide) (by decide) rfl)
theorem mj_191_56 : mc_P 191 56 = some (.getfield 138, 3, 4, 3, 0) := by decide +kernel
theorem s_191_56 {x0 x1 x2 : Option Value} {o : Nat} : mw d 191 Q 56 [x0, x1, x2] (.ref o :: st) h = (mg h o 4 ∧ mw d 191 Q 59 [x0, x1, x2] (va_rf (mh_r h o 3) :: st) h) := (mw_at mj_191_56).trans (z_getr (by decide) (by decide) rfl)
theorem mj_191_59 : mc_P 191 59 = some (.iload_n 1, 1, 0, 0, 0) := by decide +kernel
theorem s_191_59 {x0 x2 : Option Value} {w : Value} : mw d 191 Q 59 [x0, some w, x2] (st) h = mv_i w (mw d 191 Q 60 [x0, some w, x2] (w :: st) h) := (mw_at mj_191_59).trans (z_iload_n rfl)
theorem mj_191_60 : mc_P 191 60 = some (.aaload, 1, 0, 0, 0) := by decide +kernel
theorem s_191_60 {x0 x1 x2 : Option Value} {o : Nat} {i : Int32} : mw d 191 Q 60 [x0, x1, x2] (.int i :: .ref o :: st) h = (mgr h o ∧ mx i (mh_l h o) ∧ mw d 191 Q 61 [x0, x1, x2] (mrd (mh_k h o) h o i.toNatClampNeg :: st) h) := (mw_at mj_191_60).trans (z_aald)
theorem mj_191_61 : mc_P 191 61 = some (.getfield 142, 3, 9, 0, 0) := by decide +kernel
theorem s_191_61 {x0 x1 x2 : Option Value} {o : Nat} : mw d 191 Q 61 [x0, x1, x2] (.ref o :: st) h = (mg h o 9 ∧ mw d 191 Q 64 [x0, x1, x2] (.int (mh_i h o 0) :: st) h) := (mw_at mj_191_61).trans (z_geti (by decide) (by decide) (Or.inl rfl))
theorem mj_191_64 : mc_P 191 64 = some (.ireturn, 1, 0, 0, 0) := by decide +kernel
theorem s_191_64 {x0 x1 x2 : Option Value} {x : Int32} : mw d 191 Q 64 [x0, x1, x2] ([.int x]) h = (Q (some (.int x)) h) := (mw_at mj_191_64).trans (z_iret)
theorem mj_191_65 : mc_P 191 65 = some (.aload_n 0, 1, 0, 0, 0) := by decide +kernel
theorem s_191_65 {x1 x2 : Option Value} {w : Value} : mw d 191 Q 65 [some w, x1, x2] (st) h = mv_a w (mw d 191 Q 66 [some w, x1, x2] (w :: st) h) := (mw_at mj_191_65).trans (z_aload_n rfl)
theorem mj_191_66 : mc_P 191 66 = some (.getfield 16, 3, 11, 2, 0) := by decide +kernel
theorem s_191_66 {x0 x1 x2 : Option Value} {o : Nat} : mw d 191 Q 66 [x0, x1, x2] (.ref o :: st) h = (mg h o 11 ∧ mw d 191 Q 69 [x0, x1, x2] (va_rf (mh_r h o 2) :: st) h) := (mw_at mj_191_66).trans (z_getr (by decide) (by decide) rfl)
theorem mj_191_69 : mc_P 191 69 = some (.getfield 138, 3, 4, 3, 0) := by decide +kernel
theorem s_191_69 {x0 x1 x2 : Option Value} {o : Nat} : mw d 191 Q 69 [x0, x1, x2] (.ref o :: st) h = (mg h o 4 ∧ mw d 191 Q 72 [x0, x1, x2] (va_rf (mh_r h o 3) :: st) h) := (mw_at mj_191_69).trans (z_getr (by decide) (by decide) rfl)
theorem mj_191_72 : mc_P 191 72 = some (.iload_n 1, 1, 0, 0, 0) := by decide +kernel
theorem s_191_72 {x0 x2 : Option Value} {w : Value} : mw d 191 Q 72 [x0, some w, x2] (st) h = mv_i w (mw d 191 Q 73 [x0, some w, x2] (w :: st) h) := (mw_at mj_191_72).trans (z_iload_n rfl)
theorem mj_191_73 : mc_P 191 73 = some (.aaload, 1, 0, 0, 0) := by decide +kernel
theorem s_191_73 {x0 x1 x2 : Option Value} {o : Nat} {i : Int32} : mw d 191 Q 73 [x0, x1, x2] (.int i :: .ref o :: st) h = (mgr h o ∧ mx i (mh_l h o) ∧ mw d 191 Q 74 [x0, x1, x2] (mrd (mh_k h o) h o i.toNatClampNeg :: st) h) := (mw_at mj_191_73).trans (z_aald)
theorem mj_191_74 : mc_P 191 74 = some (.getfield 147, 3, 9, 2, 0) := by decide +kernel
theorem s_191_74 {x0 x1 x2 : Option Value} {o : Nat} : mw d 191 Q 74 [x0, x1, x2] (.ref o :: st) h = (mg h o 9 ∧ mw d 191 Q 77 [x0, x1, x2] (.int (mh_i h o 2) :: st) h) := (mw_at mj_191_74).trans (z_geti (by decide) (by decide) (Or.inl rfl))
theorem mj_191_77 : mc_P 191 77 = some (.ireturn, 1, 0, 0, 0) := by decide +kernel
theorem s_191_77 {x0 x1 x2 : Option Value} {x : Int32} : mw d 191 Q 77 [x0, x1, x2] ([.int x]) h = (Q (some (.int x)) h) := (mw_at mj_191_77).trans (z_iret)
theorem mj_191_78 : mc_P 191 78 = some (.aload_n 0, 1, 0, 0, 0) := by decide +kernel
theorem s_191_78 {x1 x2 : Option Value} {w : Value} : mw d 191 Q 78 [some w, x1, x2] (st) h = mv_a w (mw d 191 Q 79 [some w, x1, x2] (w :: st) h) := (mw_at mj_191_78).trans (z_aload_n rfl)
theorem mj_191_79 : mc_P 191 79 = some (.getfield 34, 3, 11, 4, 0) := by decide +kernel
theorem s_191_79 {x0 x1 x2 : Option Value} {o : Nat} : mw d 191 Q 79 [x0, x1, x2] (.ref o :: st) h = (mg h o 11 ∧ mw d 191 Q 82 [x0, x1, x2] (va_rf (mh_r h o 4) :: st) h) := (mw_at mj_191_79).trans (z_getr (by decide) (by decide) rfl)
theorem mj_191_82 : mc_P 191 82 = some (.getfield 150, 3, 0, 1, 0) := by decide +kernel
theorem s_191_82 {x0 x1 x2 : Option Value} {o : Nat} : mw d 191 Q 82 [x0, x1, x2] (.ref o :: st) h = (mg h o 0 ∧ mw d 191 Q 85 [x0, x1, x2] (va_rf (mh_r h o 1) :: st) h) := (mw_at mj_191_82).trans (z_getr (by decide) (by decide) rfl)
theorem mj_191_85 : mc_P 191 85 = some (.iload_n 1, 1, 0, 0, 0) := by decide +kernel
theorem s_191_85 {x0 x2 : Option Value} {w : Value} : mw d 191 Q 85 [x0, some w, x2] (st) h = mv_i w (mw d 191 Q 86 [x0, some w, x2] (w :: st) h) := (mw_at mj_191_85).trans (z_iload_n rfl)
theorem mj_191_86 : mc_P 191 86 = some (.iaload, 1, 0, 0, 0) := by decide +kernel
theorem s_191_86 {x0 x1 x2 : Option Value} {o : Nat} {i : Int32} : mw d 191 Q 86 [x0, x1, x2] (.int i :: .ref o :: st) h = (mg h o 100 ∧ mx i (mh_l h o) ∧ mw d 191 Q 87 [x0, x1, x2] (.int (mh_i h o i.toNatClampNeg) :: st) h) := (mw_at mj_191_86).trans (z_iald)
theorem s_191_86x {x0 x1 x2 : Option Value} {i : Int32} : mw d 191 Q 86 [x0, x1, x2] (.int i :: .retAddr 2 :: st) h = (mx i 24 ∧ mw d 191 Q 87 [x0, x1, x2] (.int (mx_row.getD i.toNatClampNeg 0) :: st) h) := (mw_at mj_191_86).trans (z_iaX)
theorem mj_191_87 : mc_P 191 87 = some (.ireturn, 1, 0, 0, 0) := by decide +kernel
theorem s_191_87 {x0 x1 x2 : Option Value} {x : Int32} : mw d 191 Q 87 [x0, x1, x2] ([.int x]) h = (Q (some (.int x)) h) := (mw_at mj_191_87).trans (z_iret)
theorem mj_191_88 : mc_P 191 88 = some (.aload_n 0, 1, 0, 0, 0) := by decide +kernel
theorem s_191_88 {x1 x2 : Option Value} {w : Value} : mw d 191 Q 88 [some w, x1, x2] (st) h = mv_a w (mw d 191 Q 89 [some w, x1, x2] (w :: st) h) := (mw_at mj_191_88).trans (z_aload_n rfl)
theorem mj_191_89 : mc_P 191 89 = some (.getfield 16, 3, 11, 2, 0) := by decide +kernel
theorem s_191_89 {x0 x1 x2 : Option Value} {o : Nat} : mw d 191 Q 89 [x0, x1, x2] (.ref o :: st) h = (mg h o 11 ∧ mw d 191 Q 92 [x0, x1, x2] (va_rf (mh_r h o 2) :: st) h) := (mw_at mj_191_89).trans (z_getr (by decide) (by decide) rfl)
theorem mj_191_92 : mc_P 191 92 = some (.iload_n 1, 1, 0, 0, 0) := by decide +kernel
theorem s_191_92 {x0 x2 : Option Value} {w : Value} : mw d 191 Q 92 [x0, some w, x2] (st) h = mv_i w (mw d 191 Q 93 [x0, some w, x2] (w :: st) h) := (mw_at mj_191_92).trans (z_iload_n rfl)
theorem mj_191_93 : mc_P 191 93 = some (.invokevirtual 154, 3, 80, 4, 2) := by decide +kernel
theorem s_191_93 {x0 x1 x2 : Option Value} {o : Nat} {a1 : Value} : mw (d + 1) 191 Q 93 [x0, x1, x2] (a1 :: .ref o :: st) h = (mg h o 4 ∧ mca st 8 ∧ mca [.ref o, a1] 2 ∧ mcall d 80 [.ref o, a1] h (mK (d + 1) 191 Q 96 [x0, x1, x2] st)) := (mw_at mj_191_93).trans ((z_invv (As := [a1]) (by decide) rfl rfl).trans (congrArg (And _) (congrArg (And _) (mC_nl nl_80))))
theorem mj_191_96 : mc_P 191 96 = some (.ireturn, 1, 0, 0, 0) := by decide +kernel
theorem s_191_96 {x0 x1 x2 : Option Value} {x : Int32} : mw d 191 Q 96 [x0, x1, x2] ([.int x]) h = (Q (some (.int x)) h) := (mw_at mj_191_96).trans (z_iret)
theorem mj_191_97 : mc_P 191 97 = some (.aload_n 0, 1, 0, 0, 0) := by decide +kernel
theorem s_191_97 {x1 x2 : Option Value} {w : Value} : mw d 191 Q 97 [some w, x1, x2] (st) h = mv_a w (mw d 191 Q 98 [some w, x1, x2] (w :: st) h) := (mw_at mj_191_97).trans (z_aload_n rfl)
theorem mj_191_98 : mc_P 191 98 = some (.getfield 16, 3, 11, 2, 0) := by decide +kernel
theorem s_191_98 {x0 x1 x2 : Option Value} {o : Nat} : mw d 191 Q 98 [x0, x1, x2] (.ref o :: st) h = (mg h o 11 ∧ mw d 191 Q 101 [x0, x1, x2] (va_rf (mh_r h o 2) :: st) h) := (mw_at mj_191_98).trans (z_getr (by decide) (by decide) rfl)
theorem mj_191_101 : mc_P 191 101 = some (.iload_n 1, 1, 0, 0, 0) := by decide +kernel
theorem s_191_101 {x0 x2 : Option Value} {w : Value} : mw d 191 Q 101 [x0, some w, x2] (st) h = mv_i w (mw d 191 Q 102 [x0, some w, x2] (w :: st) h) := (mw_at mj_191_101).trans (z_iload_n rfl)
theorem mj_191_102 : mc_P 191 102 = some (.invokevirtual 158, 3, 81, 4, 2) := by decide +kernel
theorem s_191_102 {x0 x1 x2 : Option Value} {o : Nat} {a1 : Value} : mw (d + 1) 191 Q 102 [x0, x1, x2] (a1 :: .ref o :: st) h = (mg h o 4 ∧ mca st 8 ∧ mca [.ref o, a1] 2 ∧ mcall d 81 [.ref o, a1] h (mK (d + 1) 191 Q 105 [x0, x1, x2] st)) := (mw_at mj_191_102).trans ((z_invv (As := [a1]) (by decide) rfl rfl).trans (congrArg (And _) (congrArg (And _) (mC_nl nl_81))))
theorem mj_191_105 : mc_P 191 105 = some (.ireturn, 1, 0, 0, 0) := by decide +kernel
theorem s_191_105 {x0 x1 x2 : Option Value} {x : Int32} : mw d 191 Q 105 [x0, x1, x2] ([.int x]) h = (Q (some (.int x)) h) := (mw_at mj_191_105).trans (z_iret)
theorem mj_191_106 : mc_P 191 106 = some (.aload_n 0, 1, 0, 0, 0) := by decide +kernel
theorem s_191_106 {x1 x2 : Option Value} {w : Value} : mw d 191 Q 106 [some w, x1, x2] (st) h = mv_a w (mw d 191 Q 107 [some w, x1, x2] (w :: st) h) := (mw_at mj_191_106).trans (z_aload_n rfl)
theorem mj_191_107 : mc_P 191 107 = some (.getfield 34, 3, 11, 4, 0) := by decide +kernel
theorem s_191_107 {x0 x1 x2 : Option Value} {o : Nat} : mw d 191 Q 107 [x0, x1, x2] (.ref o :: st) h = (mg h o 11 ∧ mw d 191 Q 110 [x0, x1, x2] (va_rf (mh_r h o 4) :: st) h) := (mw_at mj_191_107).trans (z_getr (by decide) (by decide) rfl)
theorem mj_191_110 : mc_P 191 110 = some (.getfield 118, 3, 0, 0, 0) := by decide +kernel
theorem s_191_110 {x0 x1 x2 : Option Value} {o : Nat} : mw d 191 Q 110 [x0, x1, x2] (.ref o :: st) h = (mg h o 0 ∧ mw d 191 Q 113 [x0, x1, x2] (va_rf (mh_r h o 0) :: st) h) := (mw_at mj_191_110).trans (z_getr (by decide) (by decide) rfl)
theorem mj_191_113 : mc_P 191 113 = some (.iload_n 1, 1, 0, 0, 0) := by decide +kernel
theorem s_191_113 {x0 x2 : Option Value} {w : Value} : mw d 191 Q 113 [x0, some w, x2] (st) h = mv_i w (mw d 191 Q 114 [x0, some w, x2] (w :: st) h) := (mw_at mj_191_113).trans (z_iload_n rfl)
theorem mj_191_114 : mc_P 191 114 = some (.aaload, 1, 0, 0, 0) := by decide +kernel
theorem s_191_114 {x0 x1 x2 : Option Value} {o : Nat} {i : Int32} : mw d 191 Q 114 [x0, x1, x2] (.int i :: .ref o :: st) h = (mgr h o ∧ mx i (mh_l h o) ∧ mw d 191 Q 115 [x0, x1, x2] (mrd (mh_k h o) h o i.toNatClampNeg :: st) h) := (mw_at mj_191_114).trans (z_aald)
theorem mj_191_115 : mc_P 191 115 = some (.getfield 161, 3, 8, 0, 0) := by decide +kernel
theorem s_191_115 {x0 x1 x2 : Option Value} {o : Nat} : mw d 191 Q 115 [x0, x1, x2] (.ref o :: st) h = (mg h o 8 ∧ mw d 191 Q 118 [x0, x1, x2] (.int (mh_i h o 0) :: st) h) := (mw_at mj_191_115).trans (z_geti (by decide) (by decide) (Or.inr rfl))
theorem mj_191_118 : mc_P 191 118 = some (.ifCond .eq 7, 3, 0, 0, 0) := by decide +kernel
theorem s_191_118 {x0 x1 x2 : Option Value} {x : Int32} : mw d 191 Q 118 [x0, x1, x2] (.int x :: st) h = mB (x = 0) (mw d 191 Q) 125 121 [x0, x1, x2] st h := (mw_at mj_191_118).trans (z_if_eq (by decide) rfl)
theorem mj_191_121 : mc_P 191 121 = some (.iconst 0, 1, 0, 0, 0) := by decide +kernel
theorem s_191_121 {x0 x1 x2 : Option Value} : mw d 191 Q 121 [x0, x1, x2] (st) h = mw d 191 Q 122 [x0, x1, x2] (.int 0 :: st) h := (mw_at mj_191_121).trans (z_iconst (by decide))
theorem mj_191_122 : mc_P 191 122 = some (.goto 4, 3, 0, 0, 0) := by decide +kernel
theorem s_191_122 {x0 x1 x2 : Option Value} : mw d 191 Q 122 [x0, x1, x2] (st) h = mw d 191 Q 126 [x0, x1, x2] (st) h := (mw_at mj_191_122).trans (z_goto (by decide))
theorem mj_191_125 : mc_P 191 125 = some (.iconst 1, 1, 0, 0, 0) := by decide +kernel
theorem s_191_125 {x0 x1 x2 : Option Value} : mw d 191 Q 125 [x0, x1, x2] (st) h = mw d 191 Q 126 [x0, x1, x2] (.int 1 :: st) h := (mw_at mj_191_125).trans (z_iconst (by decide))
theorem mj_191_126 : mc_P 191 126 = some (.ireturn, 1, 0, 0, 0) := by decide +kernel
theorem s_191_126 {x0 x1 x2 : Option Value} {x : Int32} : mw d 191 Q 126 [x0, x1, x2] ([.int x]) h = (Q (some (.int x)) h) := (mw_at mj_191_126).trans (z_iret)
theorem mj_191_127 : mc_P 191 127 = some (.aload_n 0, 1, 0, 0, 0) := by decide +kernel
theorem s_191_127 {x1 x2 : Option Value} {w : Value} : mw d 191 Q 127 [some w, x1, x2] (st) h = mv_a w (mw d 191 Q 128 [some w, x1, x2] (w :: st) h) := (mw_at mj_191_127).trans (z_aload_n rfl)
theorem mj_191_128 : mc_P 191 128 = some (.getfield 47, 3, 11, 6, 0) := by decide +kernel
theorem s_191_128 {x0 x1 x2 : Option Value} {o : Nat} : mw d 191 Q 128 [x0, x1, x2] (.ref o :: st) h = (mg h o 11 ∧ mw d 191 Q 131 [x0, x1, x2] (va_rf (mh_r h o 6) :: st) h) := (mw_at mj_191_128).trans (z_getr (by decide) (by decide) rfl)
theorem mj_191_131 : mc_P 191 131 = some (.iload_n 1, 1, 0, 0, 0) := by decide +kernel
theorem s_191_131 {x0 x2 : Option Value} {w : Value} : mw d 191 Q 131 [x0, some w, x2] (st) h = mv_i w (mw d 191 Q 132 [x0, some w, x2] (w :: st) h) := (mw_at mj_191_131).trans (z_iload_n rfl)
theorem mj_191_132 : mc_P 191 132 = some (.aaload, 1, 0, 0, 0) := by decide +kernel
theorem s_191_132 {x0 x1 x2 : Option Value} {o : Nat} {i : Int32} : mw d 191 Q 132 [x0, x1, x2] (.int i :: .ref o :: st) h = (mgr h o ∧ mx i (mh_l h o) ∧ mw d 191 Q 133 [x0, x1, x2] (mrd (mh_k h o) h o i.toNatClampNeg :: st) h) := (mw_at mj_191_132).trans (z_aald)
theorem mj_191_133 : mc_P 191 133 = some (.getfield 161, 3, 8, 0, 0) := by decide +kernel
theorem s_191_133 {x0 x1 x2 : Option Value} {o : Nat} : mw d 191 Q 133 [x0, x1, x2] (.ref o :: st) h = (mg h o 8 ∧ mw d 191 Q 136 [x0, x1, x2] (.int (mh_i h o 0) :: st) h) := (mw_at mj_191_133).trans (z_geti (by decide) (by decide) (Or.inr rfl))
theorem mj_191_136 : mc_P 191 136 = some (.ifCond .eq 7, 3, 0, 0, 0) := by decide +kernel
theorem s_191_136 {x0 x1 x2 : Option Value} {x : Int32} : mw d 191 Q 136 [x0, x1, x2] (.int x :: st) h = mB (x = 0) (mw d 191 Q) 143 139 [x0, x1, x2] st h := (mw_at mj_191_136).trans (z_if_eq (by decide) rfl)
theorem mj_191_139 : mc_P 191 139 = some (.iconst 0, 1, 0, 0, 0) := by decide +kernel
theorem s_191_139 {x0 x1 x2 : Option Value} : mw d 191 Q 139 [x0, x1, x2] (st) h = mw d 191 Q 140 [x0, x1, x2] (.int 0 :: st) h := (mw_at mj_191_139).trans (z_iconst (by decide))
theorem mj_191_140 : mc_P 191 140 = some (.goto 4, 3, 0, 0, 0) := by decide +kernel
theorem s_191_140 {x0 x1 x2 : Option Value} : mw d 191 Q 140 [x0, x1, x2] (st) h = mw d 191 Q 144 [x0, x1, x2] (st) h := (mw_at mj_191_140).trans (z_goto (by decide))
theorem mj_191_143 : mc_P 191 143 = some (.iconst 1, 1, 0, 0, 0) := by decide +kernel
theorem s_191_143 {x0 x1 x2 : Option Value} : mw d 191 Q 143 [x0, x1, x2] (st) h = mw d 191 Q 144 [x0, x1, x2] (.int 1 :: st) h := (mw_at mj_191_143).trans (z_iconst (by decide))
theorem mj_191_144 : mc_P 191 144 = some (.ireturn, 1, 0, 0, 0) := by decide +kernel
theorem s_191_144 {x0 x1 x2 : Option Value} {x : Int32} : mw d 191 Q 144 [x0, x1, x2] ([.int x]) h = (Q (some (.int x)) h) := (mw_at mj_191_144).trans (z_iret)
theorem mj_191_145 : mc_P 191 145 = some (.iconst (-1), 1, 0, 0, 0) := by decide +kernel
theorem s_191_145 {x0 x1 x2 : Option Value} : mw d 191 Q 145 [x0, x1, x2] (st) h = mw d 191 Q 146 [x0, x1, x2] (.int (-1) :: st) h := (mw_at mj_191_145).trans (z_iconst (by decide))
theorem mj_191_146 : mc_P 191 146 = some (.ireturn, 1, 0, 0, 0) := by decide +kernel
theorem s_191_146 {x0 x1 x2 : Option Value} {x : Int32} : mw d 191 Q 146 [x0, x1, x2] ([.int x]) h = (Q (some (.int x)) h) := (mw_at mj_191_146).trans (z_iret)
theorem e_191 {a0 : Nat} {a1 : Int32} {a2 : Int32} : mcall d 191 [.ref a0, .int a1, .int a2] h Q = mw d 191 Q 0 [some (.ref a0), some (.int a1), some (.int a2)] [] h := by
  show mw d 191 Q 0 (me_en (mc_nl 191) _) [] h = _
  rw [nl_191]; rfl

/-! InvariantDesk.isPoint(I)Z -/
theorem mj_192_0 : mc_P 192 0 = some (.iload_n 1, 1, 0, 0, 0) := by decide +kernel
theorem s_192_0 {x0 : Option Value} {w : Value} : mw d 192 Q 0 [x0, some w] (st) h = mv_i w (mw d 192 Q 1 [x0, some w] (w :: st) h) := (mw_at mj_192_0).trans (z_iload_n rfl)
theorem mj_192_1 : mc_P 192 1 = some (.ifCond .lt 18, 3, 0, 0, 0) := by decide +kernel
theorem s_192_1 {x0 x1 : Option Value} {x : Int32} : mw d 192 Q 1 [x0, x1] (.int x :: st) h = mB (x < 0) (mw d 192 Q) 19 4 [x0, x1] st h := (mw_at mj_192_1).trans (z_if_lt (by decide) rfl)
theorem mj_192_4 : mc_P 192 4 = some (.iload_n 1, 1, 0, 0, 0) := by decide +kernel
theorem s_192_4 {x0 : Option Value} {w : Value} : mw d 192 Q 4 [x0, some w] (st) h = mv_i w (mw d 192 Q 5 [x0, some w] (w :: st) h) := (mw_at mj_192_4).trans (z_iload_n rfl)
theorem mj_192_5 : mc_P 192 5 = some (.aload_n 0, 1, 0, 0, 0) := by decide +kernel
theorem s_192_5 {x1 : Option Value} {w : Value} : mw d 192 Q 5 [some w, x1] (st) h = mv_a w (mw d 192 Q 6 [some w, x1] (w :: st) h) := (mw_at mj_192_5).trans (z_aload_n rfl)
theorem mj_192_6 : mc_P 192 6 = some (.getfield 16, 3, 11, 2, 0) := by decide +kernel
theorem s_192_6 {x0 x1 : Option Value} {o : Nat} : mw d 192 Q 6 [x0, x1] (.ref o :: st) h = (mg h o 11 ∧ mw d 192 Q 9 [x0, x1] (va_rf (mh_r h o 2) :: st) h) := (mw_at mj_192_6).trans (z_getr (by decide) (by decide) rfl)
theorem mj_192_9 : mc_P 192 9 = some (.getfield 114, 3, 4, 2, 0) := by decide +kernel
theorem s_192_9 {x0 x1 : Option Value} {o : Nat} : mw d 192 Q 9 [x0, x1] (.ref o :: st) h = (mg h o 4 ∧ mw d 192 Q 12 [x0, x1] (.int (mh_i h o 2) :: st) h) := (mw_at mj_192_9).trans (z_geti (by decide) (by decide) (Or.inl rfl))
theorem mj_192_12 : mc_P 192 12 = some (.if_icmp .ge 7, 3, 0, 0, 0) := by decide +kernel
theorem s_192_12 {x0 x1 : Option Value} {x w : Int32} : mw d 192 Q 12 [x0, x1] (.int w :: .int x :: st) h = mB (w ≤ x) (mw d 192 Q) 19 15 [x0, x1] st h := (mw_at mj_192_12).trans (z_icmp_ge (by decide) rfl)
theorem mj_192_15 : mc_P 192 15 = some (.iconst 1, 1, 0, 0, 0) := by decide +kernel
theorem s_192_15 {x0 x1 : Option Value} : mw d 192 Q 15 [x0, x1] (st) h = mw d 192 Q 16 [x0, x1] (.int 1 :: st) h := (mw_at mj_192_15).trans (z_iconst (by decide))
theorem mj_192_16 : mc_P 192 16 = some (.goto 4, 3, 0, 0, 0) := by decide +kernel
theorem s_192_16 {x0 x1 : Option Value} : mw d 192 Q 16 [x0, x1] (st) h = mw d 192 Q 20 [x0, x1] (st) h := (mw_at mj_192_16).trans (z_goto (by decide))
theorem mj_192_19 : mc_P 192 19 = some (.iconst 0, 1, 0, 0, 0) := by decide +kernel
theorem s_192_19 {x0 x1 : Option Value} : mw d 192 Q 19 [x0, x1] (st) h = mw d 192 Q 20 [x0, x1] (.int 0 :: st) h := (mw_at mj_192_19).trans (z_iconst (by decide))
theorem mj_192_20 : mc_P 192 20 = some (.ireturn, 1, 0, 3, 0) := by decide +kernel
theorem s_192_20 {x0 x1 : Option Value} {x : Int32} : mw d 192 Q 20 [x0, x1] ([.int x]) h = ((x = 0 ∨ x = 1) ∧ Q (some (.int x)) h) := (mw_at mj_192_20).trans (z_zret)
theorem e_192 {a0 : Nat} {a1 : Int32} : mcall d 192 [.ref a0, .int a1] h Q = mw d 192 Q 0 [some (.ref a0), some (.int a1)] [] h := by
  show mw d 192 Q 0 (me_en (mc_nl 192) _) [] h = _
  rw [nl_192]; rfl

/-! InvariantDesk.isBound(IIIII)Z -/
theorem mj_193_0 : mc_P 193 0 = some (.aload_n 0, 1, 0, 0, 0) := by decide +kernel
theorem s_193_0 {x1 x2 x3 x4 x5 x6 x7 x8 : Option Value} {w : Value} : mw d 193 Q 0 [some w, x1, x2, x3, x4, x5, x6, x7, x8] (st) h = mv_a w (mw d 193 Q 1 [some w, x1, x2, x3, x4, x5, x6, x7, x8] (w :: st) h) := (mw_at mj_193_0).trans (z_aload_n rfl)
theorem mj_193_1 : mc_P 193 1 = some (.iload_n 1, 1, 0, 0, 0) := by decide +kernel
theorem s_193_1 {x0 x2 x3 x4 x5 x6 x7 x8 : Option Value} {w : Value} : mw d 193 Q 1 [x0, some w, x2, x3, x4, x5, x6, x7, x8] (st) h = mv_i w (mw d 193 Q 2 [x0, some w, x2, x3, x4, x5, x6, x7, x8] (w :: st) h) := (mw_at mj_193_1).trans (z_iload_n rfl)
theorem mj_193_2 : mc_P 193 2 = some (.invokevirtual 134, 3, 192, 11, 2) := by decide +kernel
theorem s_193_2 {x0 x1 x2 x3 x4 x5 x6 x7 x8 : Option Value} {o : Nat} {a1 : Value} : mw (d + 1) 193 Q 2 [x0, x1, x2, x3, x4, x5, x6, x7, x8] (a1 :: .ref o :: st) h = (mg h o 11 ∧ mca st 8 ∧ mca [.ref o, a1] 2 ∧ mcall d 192 [.ref o, a1] h (mK (d + 1) 193 Q 5 [x0, x1, x2, x3, x4, x5, x6, x7, x8] st)) := (mw_at mj_193_2).trans ((z_invv (As := [a1]) (by decide) rfl rfl).trans (congrArg (And _) (congrArg (And _) (mC_nl nl_192))))
theorem mj_193_5 : mc_P 193 5 = some (.ifCond .ne 5, 3, 0, 0, 0) := by decide +kernel
theorem s_193_5 {x0 x1 x2 x3 x4 x5 x6 x7 x8 : Option Value} {x : Int32} : mw d 193 Q 5 [x0, x1, x2, x3, x4, x5, x6, x7, x8] (.int x :: st) h = mB (¬ x = 0) (mw d 193 Q) 10 8 [x0, x1, x2, x3, x4, x5, x6, x7, x8] st h := (mw_at mj_193_5).trans (z_if_ne (by decide) rfl)
theorem mj_193_8 : mc_P 193 8 = some (.iconst 0, 1, 0, 0, 0) := by decide +kernel
theorem s_193_8 {x0 x1 x2 x3 x4 x5 x6 x7 x8 : Option Value} : mw d 193 Q 8 [x0, x1, x2, x3, x4, x5, x6, x7, x8] (st) h = mw d 193 Q 9 [x0, x1, x2, x3, x4, x5, x6, x7, x8] (.int 0 :: st) h := (mw_at mj_193_8).trans (z_iconst (by decide))
theorem mj_193_9 : mc_P 193 9 = some (.ireturn, 1, 0, 3, 0) := by decide +kernel
theorem s_193_9 {x0 x1 x2 x3 x4 x5 x6 x7 x8 : Option Value} {x : Int32} : mw d 193 Q 9 [x0, x1, x2, x3, x4, x5, x6, x7, x8] ([.int x]) h = ((x = 0 ∨ x = 1) ∧ Q (some (.int x)) h) := (mw_at mj_193_9).trans (z_zret)
theorem mj_193_10 : mc_P 193 10 = some (.aload_n 0, 1, 0, 0, 0) := by decide +kernel
theorem s_193_10 {x1 x2 x3 x4 x5 x6 x7 x8 : Option Value} {w : Value} : mw d 193 Q 10 [some w, x1, x2, x3, x4, x5, x6, x7, x8] (st) h = mv_a w (mw d 193 Q 11 [some w, x1, x2, x3, x4, x5, x6, x7, x8] (w :: st) h) := (mw_at mj_193_10).trans (z_aload_n rfl)
theorem mj_193_11 : mc_P 193 11 = some (.getfield 16, 3, 11, 2, 0) := by decide +kernel
theorem s_193_11 {x0 x1 x2 x3 x4 x5 x6 x7 x8 : Option Value} {o : Nat} : mw d 193 Q 11 [x0, x1, x2, x3, x4, x5, x6, x7, x8] (.ref o :: st) h = (mg h o 11 ∧ mw d 193 Q 14 [x0, x1, x2, x3, x4, x5, x6, x7, x8] (va_rf (mh_r h o 2) :: st) h) := (mw_at mj_193_11).trans (z_getr (by decide) (by decide) rfl)
theorem mj_193_14 : mc_P 193 14 = some (.iload_n 1, 1, 0, 0, 0) := by decide +kernel
theorem s_193_14 {x0 x2 x3 x4 x5 x6 x7 x8 : Option Value} {w : Value} : mw d 193 Q 14 [x0, some w, x2, x3, x4, x5, x6, x7, x8] (st) h = mv_i w (mw d 193 Q 15 [x0, some w, x2, x3, x4, x5, x6, x7, x8] (w :: st) h) := (mw_at mj_193_14).trans (z_iload_n rfl)
theorem mj_193_15 : mc_P 193 15 = some (.invokevirtual 154, 3, 80, 4, 2) := by decide +kernel
theorem s_193_15 {x0 x1 x2 x3 x4 x5 x6 x7 x8 : Option Value} {o : Nat} {a1 : Value} : mw (d + 1) 193 Q 15 [x0, x1, x2, x3, x4, x5, x6, x7, x8] (a1 :: .ref o :: st) h = (mg h o 4 ∧ mca st 8 ∧ mca [.ref o, a1] 2 ∧ mcall d 80 [.ref o, a1] h (mK (d + 1) 193 Q 18 [x0, x1, x2, x3, x4, x5, x6, x7, x8] st)) := (mw_at mj_193_15).trans ((z_invv (As := [a1]) (by decide) rfl rfl).trans (congrArg (And _) (congrArg (And _) (mC_nl nl_80))))
theorem mj_193_18 : mc_P 193 18 = some (.istore 6, 2, 0, 0, 0) := by decide +kernel
theorem s_193_18 {x0 x1 x2 x3 x4 x5 x6 x7 x8 : Option Value} {w : Int32} : mw d 193 Q 18 [x0, x1, x2, x3, x4, x5, x6, x7, x8] (.int w :: st) h = mw d 193 Q 20 [x0, x1, x2, x3, x4, mk2 x5, some (.int w), x7, x8] (st) h := (mw_at mj_193_18).trans (z_istore (Nat.le_of_ble_eq_true rfl) (me_s1_mk (j := 5) (w := x5) rfl))
theorem mj_193_20 : mc_P 193 20 = some (.iload_n 2, 1, 0, 0, 0) := by decide +kernel
theorem s_193_20 {x0 x1 x3 x4 x5 x6 x7 x8 : Option Value} {w : Value} : mw d 193 Q 20 [x0, x1, some w, x3, x4, x5, x6, x7, x8] (st) h = mv_i w (mw d 193 Q 21 [x0, x1, some w, x3, x4, x5, x6, x7, x8] (w :: st) h) := (mw_at mj_193_20).trans (z_iload_n rfl)
theorem mj_193_21 : mc_P 193 21 = some (.ifCond .lt 25, 3, 0, 0, 0) := by decide +kernel
theorem s_193_21 {x0 x1 x2 x3 x4 x5 x6 x7 x8 : Option Value} {x : Int32} : mw d 193 Q 21 [x0, x1, x2, x3, x4, x5, x6, x7, x8] (.int x :: st) h = mB (x < 0) (mw d 193 Q) 46 24 [x0, x1, x2, x3, x4, x5, x6, x7, x8] st h := (mw_at mj_193_21).trans (z_if_lt (by decide) rfl)
theorem mj_193_24 : mc_P 193 24 = some (.iload_n 2, 1, 0, 0, 0) := by decide +kernel
theorem s_193_24 {x0 x1 x3 x4 x5 x6 x7 x8 : Option Value} {w : Value} : mw d 193 Q 24 [x0, x1, some w, x3, x4, x5, x6, x7, x8] (st) h = mv_i w (mw d 193 Q 25 [x0, x1, some w, x3, x4, x5, x6, x7, x8] (w :: st) h) := (mw_at mj_193_24).trans (z_iload_n rfl)
theorem mj_193_25 : mc_P 193 25 = some (.iload 6, 2, 0, 0, 0) := by decide +kernel
theorem s_193_25 {x0 x1 x2 x3 x4 x5 x7 x8 : Option Value} {w : Value} : mw d 193 Q 25 [x0, x1, x2, x3, x4, x5, some w, x7, x8] (st) h = mv_i w (mw d 193 Q 27 [x0, x1, x2, x3, x4, x5, some w, x7, x8] (w :: st) h) := (mw_at mj_193_25).trans (z_iload rfl)
theorem mj_193_27 : mc_P 193 27 = some (.if_icmp .ge 19, 3, 0, 0, 0) := by decide +kernel
theorem s_193_27 {x0 x1 x2 x3 x4 x5 x6 x7 x8 : Option Value} {x w : Int32} : mw d 193 Q 27 [x0, x1, x2, x3, x4, x5, x6, x7, x8] (.int w :: .int x :: st) h = mB (w ≤ x) (mw d 193 Q) 46 30 [x0, x1, x2, x3, x4, x5, x6, x7, x8] st h := (mw_at mj_193_27).trans (z_icmp_ge (by decide) rfl)
theorem mj_193_30 : mc_P 193 30 = some (.iload 4, 2, 0, 0, 0) := by decide +kernel
theorem s_193_30 {x0 x1 x2 x3 x5 x6 x7 x8 : Option Value} {w : Value} : mw d 193 Q 30 [x0, x1, x2, x3, some w, x5, x6, x7, x8] (st) h = mv_i w (mw d 193 Q 32 [x0, x1, x2, x3, some w, x5, x6, x7, x8] (w :: st) h) := (mw_at mj_193_30).trans (z_iload rfl)
theorem mj_193_32 : mc_P 193 32 = some (.ifCond .lt 14, 3, 0, 0, 0) := by decide +kernel
theorem s_193_32 {x0 x1 x2 x3 x4 x5 x6 x7 x8 : Option Value} {x : Int32} : mw d 193 Q 32 [x0, x1, x2, x3, x4, x5, x6, x7, x8] (.int x :: st) h = mB (x < 0) (mw d 193 Q) 46 35 [x0, x1, x2, x3, x4, x5, x6, x7, x8] st h := (mw_at mj_193_32).trans (z_if_lt (by decide) rfl)
theorem mj_193_35 : mc_P 193 35 = some (.iload 4, 2, 0, 0, 0) := by decide +kernel
theorem s_193_35 {x0 x1 x2 x3 x5 x6 x7 x8 : Option Value} {w : Value} : mw d 193 Q 35 [x0, x1, x2, x3, some w, x5, x6, x7, x8] (st) h = mv_i w (mw d 193 Q 37 [x0, x1, x2, x3, some w, x5, x6, x7, x8] (w :: st) h) := (mw_at mj_193_35).trans (z_iload rfl)
theorem mj_193_37 : mc_P 193 37 = some (.iload 6, 2, 0, 0, 0) := by decide +kernel
theorem s_193_37 {x0 x1 x2 x3 x4 x5 x7 x8 : Option Value} {w : Value} : mw d 193 Q 37 [x0, x1, x2, x3, x4, x5, some w, x7, x8] (st) h = mv_i w (mw d 193 Q 39 [x0, x1, x2, x3, x4, x5, some w, x7, x8] (w :: st) h) := (mw_at mj_193_37).trans (z_iload rfl)
theorem mj_193_39 : mc_P 193 39 = some (.if_icmp .ge 7, 3, 0, 0, 0) := by decide +kernel
theorem s_193_39 {x0 x1 x2 x3 x4 x5 x6 x7 x8 : Option Value} {x w : Int32} : mw d 193 Q 39 [x0, x1, x2, x3, x4, x5, x6, x7, x8] (.int w :: .int x :: st) h = mB (w ≤ x) (mw d 193 Q) 46 42 [x0, x1, x2, x3, x4, x5, x6, x7, x8] st h := (mw_at mj_193_39).trans (z_icmp_ge (by decide) rfl)
theorem mj_193_42 : mc_P 193 42 = some (.iconst 1, 1, 0, 0, 0) := by decide +kernel
theorem s_193_42 {x0 x1 x2 x3 x4 x5 x6 x7 x8 : Option Value} : mw d 193 Q 42 [x0, x1, x2, x3, x4, x5, x6, x7, x8] (st) h = mw d 193 Q 43 [x0, x1, x2, x3, x4, x5, x6, x7, x8] (.int 1 :: st) h := (mw_at mj_193_42).trans (z_iconst (by decide))
theorem mj_193_43 : mc_P 193 43 = some (.goto 4, 3, 0, 0, 0) := by decide +kernel
theorem s_193_43 {x0 x1 x2 x3 x4 x5 x6 x7 x8 : Option Value} : mw d 193 Q 43 [x0, x1, x2, x3, x4, x5, x6, x7, x8] (st) h = mw d 193 Q 47 [x0, x1, x2, x3, x4, x5, x6, x7, x8] (st) h := (mw_at mj_193_43).trans (z_goto (by decide))
theorem mj_193_46 : mc_P 193 46 = some (.iconst 0, 1, 0, 0, 0) := by decide +kernel
theorem s_193_46 {x0 x1 x2 x3 x4 x5 x6 x7 x8 : Option Value} : mw d 193 Q 46 [x0, x1, x2, x3, x4, x5, x6, x7, x8] (st) h = mw d 193 Q 47 [x0, x1, x2, x3, x4, x5, x6, x7, x8] (.int 0 :: st) h := (mw_at mj_193_46).trans (z_iconst (by decide))
theorem mj_193_47 : mc_P 193 47 = some (.istore 7, 2, 0, 0, 0) := by decide +kernel
theorem s_193_47 {x0 x1 x2 x3 x4 x5 x6 x7 x8 : Option Value} {w : Int32} : mw d 193 Q 47 [x0, x1, x2, x3, x4, x5, x6, x7, x8] (.int w :: st) h = mw d 193 Q 49 [x0, x1, x2, x3, x4, x5, mk2 x6, some (.int w), x8] (st) h := (mw_at mj_193_47).trans (z_istore (Nat.le_of_ble_eq_true rfl) (me_s1_mk (j := 6) (w := x6) rfl))
theorem mj_193_49 : mc_P 193 49 = some (.iload_n 3, 1, 0, 0, 0) := by decide +kernel
theorem s_193_49 {x0 x1 x2 x4 x5 x6 x7 x8 : Option Value} {w : Value} : mw d 193 Q 49 [x0, x1, x2, some w, x4, x5, x6, x7, x8] (st) h = mv_i w (mw d 193 Q 50 [x0, x1, x2, some w, x4, x5, x6, x7, x8] (w :: st) h) := (mw_at mj_193_49).trans (z_iload_n rfl)
theorem mj_193_50 : mc_P 193 50 = some (.iconst 1, 1, 0, 0, 0) := by decide +kernel
theorem s_193_50 {x0 x1 x2 x3 x4 x5 x6 x7 x8 : Option Value} : mw d 193 Q 50 [x0, x1, x2, x3, x4, x5, x6, x7, x8] (st) h = mw d 193 Q 51 [x0, x1, x2, x3, x4, x5, x6, x7, x8] (.int 1 :: st) h := (mw_at mj_193_50).trans (z_iconst (by decide))
theorem mj_193_51 : mc_P 193 51 = some (.if_icmp .eq 8, 3, 0, 0, 0) := by decide +kernel
theorem s_193_51 {x0 x1 x2 x3 x4 x5 x6 x7 x8 : Option Value} {x w : Int32} : mw d 193 Q 51 [x0, x1, x2, x3, x4, x5, x6, x7, x8] (.int w :: .int x :: st) h = mB (x = w) (mw d 193 Q) 59 54 [x0, x1, x2, x3, x4, x5, x6, x7, x8] st h := (mw_at mj_193_51).trans (z_icmp_eq (by decide) rfl)
theorem mj_193_54 : mc_P 193 54 = some (.iload_n 3, 1, 0, 0, 0) := by decide +kernel
theorem s_193_54 {x0 x1 x2 x4 x5 x6 x7 x8 : Option Value} {w : Value} : mw d 193 Q 54 [x0, x1, x2, some w, x4, x5, x6, x7, x8] (st) h = mv_i w (mw d 193 Q 55 [x0, x1, x2, some w, x4, x5, x6, x7, x8] (w :: st) h) := (mw_at mj_193_54).trans (z_iload_n rfl)
theorem mj_193_55 : mc_P 193 55 = some (.iconst (-1), 1, 0, 0, 0) := by decide +kernel
theorem s_193_55 {x0 x1 x2 x3 x4 x5 x6 x7 x8 : Option Value} : mw d 193 Q 55 [x0, x1, x2, x3, x4, x5, x6, x7, x8] (st) h = mw d 193 Q 56 [x0, x1, x2, x3, x4, x5, x6, x7, x8] (.int (-1) :: st) h := (mw_at mj_193_55).trans (z_iconst (by decide))
theorem mj_193_56 : mc_P 193 56 = some (.if_icmp .ne 19, 3, 0, 0, 0) := by decide +kernel
theorem s_193_56 {x0 x1 x2 x3 x4 x5 x6 x7 x8 : Option Value} {x w : Int32} : mw d 193 Q 56 [x0, x1, x2, x3, x4, x5, x6, x7, x8] (.int w :: .int x :: st) h = mB (¬ x = w) (mw d 193 Q) 75 59 [x0, x1, x2, x3, x4, x5, x6, x7, x8] st h := (mw_at mj_193_56).trans (z_icmp_ne (by decide) rfl)
theorem mj_193_59 : mc_P 193 59 = some (.iload 5, 2, 0, 0, 0) := by decide +kernel
theorem s_193_59 {x0 x1 x2 x3 x4 x6 x7 x8 : Option Value} {w : Value} : mw d 193 Q 59 [x0, x1, x2, x3, x4, some w, x6, x7, x8] (st) h = mv_i w (mw d 193 Q 61 [x0, x1, x2, x3, x4, some w, x6, x7, x8] (w :: st) h) := (mw_at mj_193_59).trans (z_iload rfl)
theorem mj_193_61 : mc_P 193 61 = some (.iconst 1, 1, 0, 0, 0) := by decide +kernel
theorem s_193_61 {x0 x1 x2 x3 x4 x5 x6 x7 x8 : Option Value} : mw d 193 Q 61 [x0, x1, x2, x3, x4, x5, x6, x7, x8] (st) h = mw d 193 Q 62 [x0, x1, x2, x3, x4, x5, x6, x7, x8] (.int 1 :: st) h := (mw_at mj_193_61).trans (z_iconst (by decide))
theorem mj_193_62 : mc_P 193 62 = some (.if_icmp .eq 9, 3, 0, 0, 0) := by decide +kernel
theorem s_193_62 {x0 x1 x2 x3 x4 x5 x6 x7 x8 : Option Value} {x w : Int32} : mw d 193 Q 62 [x0, x1, x2, x3, x4, x5, x6, x7, x8] (.int w :: .int x :: st) h = mB (x = w) (mw d 193 Q) 71 65 [x0, x1, x2, x3, x4, x5, x6, x7, x8] st h := (mw_at mj_193_62).trans (z_icmp_eq (by decide) rfl)
theorem mj_193_65 : mc_P 193 65 = some (.iload 5, 2, 0, 0, 0) := by decide +kernel
theorem s_193_65 {x0 x1 x2 x3 x4 x6 x7 x8 : Option Value} {w : Value} : mw d 193 Q 65 [x0, x1, x2, x3, x4, some w, x6, x7, x8] (st) h = mv_i w (mw d 193 Q 67 [x0, x1, x2, x3, x4, some w, x6, x7, x8] (w :: st) h) := (mw_at mj_193_65).trans (z_iload rfl)
theorem mj_193_67 : mc_P 193 67 = some (.iconst (-1), 1, 0, 0, 0) := by decide +kernel
theorem s_193_67 {x0 x1 x2 x3 x4 x5 x6 x7 x8 : Option Value} : mw d 193 Q 67 [x0, x1, x2, x3, x4, x5, x6, x7, x8] (st) h = mw d 193 Q 68 [x0, x1, x2, x3, x4, x5, x6, x7, x8] (.int (-1) :: st) h := (mw_at mj_193_67).trans (z_iconst (by decide))
theorem mj_193_68 : mc_P 193 68 = some (.if_icmp .ne 7, 3, 0, 0, 0) := by decide +kernel
theorem s_193_68 {x0 x1 x2 x3 x4 x5 x6 x7 x8 : Option Value} {x w : Int32} : mw d 193 Q 68 [x0, x1, x2, x3, x4, x5, x6, x7, x8] (.int w :: .int x :: st) h = mB (¬ x = w) (mw d 193 Q) 75 71 [x0, x1, x2, x3, x4, x5, x6, x7, x8] st h := (mw_at mj_193_68).trans (z_icmp_ne (by decide) rfl)
theorem mj_193_71 : mc_P 193 71 = some (.iconst 1, 1, 0, 0, 0) := by decide +kernel
theorem s_193_71 {x0 x1 x2 x3 x4 x5 x6 x7 x8 : Option Value} : mw d 193 Q 71 [x0, x1, x2, x3, x4, x5, x6, x7, x8] (st) h = mw d 193 Q 72 [x0, x1, x2, x3, x4, x5, x6, x7, x8] (.int 1 :: st) h := (mw_at mj_193_71).trans (z_iconst (by decide))
theorem mj_193_72 : mc_P 193 72 = some (.goto 4, 3, 0, 0, 0) := by decide +kernel
theorem s_193_72 {x0 x1 x2 x3 x4 x5 x6 x7 x8 : Option Value} : mw d 193 Q 72 [x0, x1, x2, x3, x4, x5, x6, x7, x8] (st) h = mw d 193 Q 76 [x0, x1, x2, x3, x4, x5, x6, x7, x8] (st) h := (mw_at mj_193_72).trans (z_goto (by decide))
theorem mj_193_75 : mc_P 193 75 = some (.iconst 0, 1, 0, 0, 0) := by decide +kernel
theorem s_193_75 {x0 x1 x2 x3 x4 x5 x6 x7 x8 : Option Value} : mw d 193 Q 75 [x0, x1, x2, x3, x4, x5, x6, x7, x8] (st) h = mw d 193 Q 76 [x0, x1, x2, x3, x4, x5, x6, x7, x8] (.int 0 :: st) h := (mw_at mj_193_75).trans (z_iconst (by decide))
theorem mj_193_76 : mc_P 193 76 = some (.istore 8, 2, 0, 0, 0) := by decide +kernel
theorem s_193_76 {x0 x1 x2 x3 x4 x5 x6 x7 x8 : Option Value} {w : Int32} : mw d 193 Q 76 [x0, x1, x2, x3, x4, x5, x6, x7, x8] (.int w :: st) h = mw d 193 Q 78 [x0, x1, x2, x3, x4, x5, x6, mk2 x7, some (.int w)] (st) h := (mw_at mj_193_76).trans (z_istore (Nat.le_of_ble_eq_true rfl) (me_s1_mk (j := 7) (w := x7) rfl))
theorem mj_193_78 : mc_P 193 78 = some (.iload 7, 2, 0, 0, 0) := by decide +kernel
theorem s_193_78 {x0 x1 x2 x3 x4 x5 x6 x8 : Option Value} {w : Value} : mw d 193 Q 78 [x0, x1, x2, x3, x4, x5, x6, some w, x8] (st) h = mv_i w (mw d 193 Q 80 [x0, x1, x2, x3, x4, x5, x6, some w, x8] (w :: st) h) := (mw_at mj_193_78).trans (z_iload rfl)
theorem mj_193_80 : mc_P 193 80 = some (.ifCond .eq 24, 3, 0, 0, 0) := by decide +kernel
theorem s_193_80 {x0 x1 x2 x3 x4 x5 x6 x7 x8 : Option Value} {x : Int32} : mw d 193 Q 80 [x0, x1, x2, x3, x4, x5, x6, x7, x8] (.int x :: st) h = mB (x = 0) (mw d 193 Q) 104 83 [x0, x1, x2, x3, x4, x5, x6, x7, x8] st h := (mw_at mj_193_80).trans (z_if_eq (by decide) rfl)
theorem mj_193_83 : mc_P 193 83 = some (.iload 8, 2, 0, 0, 0) := by decide +kernel
theorem s_193_83 {x0 x1 x2 x3 x4 x5 x6 x7 : Option Value} {w : Value} : mw d 193 Q 83 [x0, x1, x2, x3, x4, x5, x6, x7, some w] (st) h = mv_i w (mw d 193 Q 85 [x0, x1, x2, x3, x4, x5, x6, x7, some w] (w :: st) h) := (mw_at mj_193_83).trans (z_iload rfl)
theorem mj_193_85 : mc_P 193 85 = some (.ifCond .eq 19, 3, 0, 0, 0) := by decide +kernel
theorem s_193_85 {x0 x1 x2 x3 x4 x5 x6 x7 x8 : Option Value} {x : Int32} : mw d 193 Q 85 [x0, x1, x2, x3, x4, x5, x6, x7, x8] (.int x :: st) h = mB (x = 0) (mw d 193 Q) 104 88 [x0, x1, x2, x3, x4, x5, x6, x7, x8] st h := (mw_at mj_193_85).trans (z_if_eq (by decide) rfl)
theorem mj_193_88 : mc_P 193 88 = some (.iload_n 2, 1, 0, 0, 0) := by decide +kernel
theorem s_193_88 {x0 x1 x3 x4 x5 x6 x7 x8 : Option Value} {w : Value} : mw d 193 Q 88 [x0, x1, some w, x3, x4, x5, x6, x7, x8] (st) h = mv_i w (mw d 193 Q 89 [x0, x1, some w, x3, x4, x5, x6, x7, x8] (w :: st) h) := (mw_at mj_193_88).trans (z_iload_n rfl)
theorem mj_193_89 : mc_P 193 89 = some (.iload 4, 2, 0, 0, 0) := by decide +kernel
theorem s_193_89 {x0 x1 x2 x3 x5 x6 x7 x8 : Option Value} {w : Value} : mw d 193 Q 89 [x0, x1, x2, x3, some w, x5, x6, x7, x8] (st) h = mv_i w (mw d 193 Q 91 [x0, x1, x2, x3, some w, x5, x6, x7, x8] (w :: st) h) := (mw_at mj_193_89).trans (z_iload rfl)
theorem mj_193_91 : mc_P 193 91 = some (.if_icmp .ne 9, 3, 0, 0, 0) := by decide +kernel
theorem s_193_91 {x0 x1 x2 x3 x4 x5 x6 x7 x8 : Option Value} {x w : Int32} : mw d 193 Q 91 [x0, x1, x2, x3, x4, x5, x6, x7, x8] (.int w :: .int x :: st) h = mB (¬ x = w) (mw d 193 Q) 100 94 [x0, x1, x2, x3, x4, x5, x6, x7, x8] st h := (mw_at mj_193_91).trans (z_icmp_ne (by decide) rfl)
theorem mj_193_94 : mc_P 193 94 = some (.iload_n 3, 1, 0, 0, 0) := by decide +kernel
theorem s_193_94 {x0 x1 x2 x4 x5 x6 x7 x8 : Option Value} {w : Value} : mw d 193 Q 94 [x0, x1, x2, some w, x4, x5, x6, x7, x8] (st) h = mv_i w (mw d 193 Q 95 [x0, x1, x2, some w, x4, x5, x6, x7, x8] (w :: st) h) := (mw_at mj_193_94).trans (z_iload_n rfl)
theorem mj_193_95 : mc_P 193 95 = some (.iload 5, 2, 0, 0, 0) := by decide +kernel
theorem s_193_95 {x0 x1 x2 x3 x4 x6 x7 x8 : Option Value} {w : Value} : mw d 193 Q 95 [x0, x1, x2, x3, x4, some w, x6, x7, x8] (st) h = mv_i w (mw d 193 Q 97 [x0, x1, x2, x3, x4, some w, x6, x7, x8] (w :: st) h) := (mw_at mj_193_95).trans (z_iload rfl)
theorem mj_193_97 : mc_P 193 97 = some (.if_icmp .ne 7, 3, 0, 0, 0) := by decide +kernel
theorem s_193_97 {x0 x1 x2 x3 x4 x5 x6 x7 x8 : Option Value} {x w : Int32} : mw d 193 Q 97 [x0, x1, x2, x3, x4, x5, x6, x7, x8] (.int w :: .int x :: st) h = mB (¬ x = w) (mw d 193 Q) 104 100 [x0, x1, x2, x3, x4, x5, x6, x7, x8] st h := (mw_at mj_193_97).trans (z_icmp_ne (by decide) rfl)
theorem mj_193_100 : mc_P 193 100 = some (.iconst 1, 1, 0, 0, 0) := by decide +kernel
theorem s_193_100 {x0 x1 x2 x3 x4 x5 x6 x7 x8 : Option Value} : mw d 193 Q 100 [x0, x1, x2, x3, x4, x5, x6, x7, x8] (st) h = mw d 193 Q 101 [x0, x1, x2, x3, x4, x5, x6, x7, x8] (.int 1 :: st) h := (mw_at mj_193_100).trans (z_iconst (by decide))
theorem mj_193_101 : mc_P 193 101 = some (.goto 4, 3, 0, 0, 0) := by decide +kernel
theorem s_193_101 {x0 x1 x2 x3 x4 x5 x6 x7 x8 : Option Value} : mw d 193 Q 101 [x0, x1, x2, x3, x4, x5, x6, x7, x8] (st) h = mw d 193 Q 105 [x0, x1, x2, x3, x4, x5, x6, x7, x8] (st) h := (mw_at mj_193_101).trans (z_goto (by decide))
theorem mj_193_104 : mc_P 193 104 = some (.iconst 0, 1, 0, 0, 0) := by decide +kernel
theorem s_193_104 {x0 x1 x2 x3 x4 x5 x6 x7 x8 : Option Value} : mw d 193 Q 104 [x0, x1, x2, x3, x4, x5, x6, x7, x8] (st) h = mw d 193 Q 105 [x0, x1, x2, x3, x4, x5, x6, x7, x8] (.int 0 :: st) h := (mw_at mj_193_104).trans (z_iconst (by decide))
theorem mj_193_105 : mc_P 193 105 = some (.ireturn, 1, 0, 3, 0) := by decide +kernel
theorem s_193_105 {x0 x1 x2 x3 x4 x5 x6 x7 x8 : Option Value} {x : Int32} : mw d 193 Q 105 [x0, x1, x2, x3, x4, x5, x6, x7, x8] ([.int x]) h = ((x = 0 ∨ x = 1) ∧ Q (some (.int x)) h) := (mw_at mj_193_105).trans (z_zret)
theorem e_193 {a0 : Nat} {a1 : Int32} {a2 : Int32} {a3 : Int32} {a4 : Int32} {a5 : Int32} : mcall d 193 [.ref a0, .int a1, .int a2, .int a3, .int a4, .int a5] h Q = mw d 193 Q 0 [some (.ref a0), some (.int a1), some (.int a2), some (.int a3), some (.int a4), some (.int a5), none, none, none] [] h := by
  show mw d 193 Q 0 (me_en (mc_nl 193) _) [] h = _
  rw [nl_193]; rfl

/-! InvariantDesk.isArray(II)Z -/
theorem mj_194_0 : mc_P 194 0 = some (.aload_n 0, 1, 0, 0, 0) := by decide +kernel
theorem s_194_0 {x1 x2 : Option Value} {w : Value} : mw d 194 Q 0 [some w, x1, x2] (st) h = mv_a w (mw d 194 Q 1 [some w, x1, x2] (w :: st) h) := (mw_at mj_194_0).trans (z_aload_n rfl)
theorem mj_194_1 : mc_P 194 1 = some (.iload_n 1, 1, 0, 0, 0) := by decide +kernel
theorem s_194_1 {x0 x2 : Option Value} {w : Value} : mw d 194 Q 1 [x0, some w, x2] (st) h = mv_i w (mw d 194 Q 2 [x0, some w, x2] (w :: st) h) := (mw_at mj_194_1).trans (z_iload_n rfl)
theorem mj_194_2 : mc_P 194 2 = some (.invokevirtual 134, 3, 192, 11, 2) := by decide +kernel
theorem s_194_2 {x0 x1 x2 : Option Value} {o : Nat} {a1 : Value} : mw (d + 1) 194 Q 2 [x0, x1, x2] (a1 :: .ref o :: st) h = (mg h o 11 ∧ mca st 8 ∧ mca [.ref o, a1] 2 ∧ mcall d 192 [.ref o, a1] h (mK (d + 1) 194 Q 5 [x0, x1, x2] st)) := (mw_at mj_194_2).trans ((z_invv (As := [a1]) (by decide) rfl rfl).trans (congrArg (And _) (congrArg (And _) (mC_nl nl_192))))
theorem mj_194_5 : mc_P 194 5 = some (.ifCond .eq 23, 3, 0, 0, 0) := by decide +kernel
theorem s_194_5 {x0 x1 x2 : Option Value} {x : Int32} : mw d 194 Q 5 [x0, x1, x2] (.int x :: st) h = mB (x = 0) (mw d 194 Q) 28 8 [x0, x1, x2] st h := (mw_at mj_194_5).trans (z_if_eq (by decide) rfl)
theorem mj_194_8 : mc_P 194 8 = some (.iload_n 2, 1, 0, 0, 0) := by decide +kernel
theorem s_194_8 {x0 x1 : Option Value} {w : Value} : mw d 194 Q 8 [x0, x1, some w] (st) h = mv_i w (mw d 194 Q 9 [x0, x1, some w] (w :: st) h) := (mw_at mj_194_8).trans (z_iload_n rfl)
theorem mj_194_9 : mc_P 194 9 = some (.ifCond .lt 19, 3, 0, 0, 0) := by decide +kernel
theorem s_194_9 {x0 x1 x2 : Option Value} {x : Int32} : mw d 194 Q 9 [x0, x1, x2] (.int x :: st) h = mB (x < 0) (mw d 194 Q) 28 12 [x0, x1, x2] st h := (mw_at mj_194_9).trans (z_if_lt (by decide) rfl)
theorem mj_194_12 : mc_P 194 12 = some (.iload_n 2, 1, 0, 0, 0) := by decide +kernel
theorem s_194_12 {x0 x1 : Option Value} {w : Value} : mw d 194 Q 12 [x0, x1, some w] (st) h = mv_i w (mw d 194 Q 13 [x0, x1, some w] (w :: st) h) := (mw_at mj_194_12).trans (z_iload_n rfl)
theorem mj_194_13 : mc_P 194 13 = some (.aload_n 0, 1, 0, 0, 0) := by decide +kernel
theorem s_194_13 {x1 x2 : Option Value} {w : Value} : mw d 194 Q 13 [some w, x1, x2] (st) h = mv_a w (mw d 194 Q 14 [some w, x1, x2] (w :: st) h) := (mw_at mj_194_13).trans (z_aload_n rfl)
theorem mj_194_14 : mc_P 194 14 = some (.getfield 16, 3, 11, 2, 0) := by decide +kernel
theorem s_194_14 {x0 x1 x2 : Option Value} {o : Nat} : mw d 194 Q 14 [x0, x1, x2] (.ref o :: st) h = (mg h o 11 ∧ mw d 194 Q 17 [x0, x1, x2] (va_rf (mh_r h o 2) :: st) h) := (mw_at mj_194_14).trans (z_getr (by decide) (by decide) rfl)
theorem mj_194_17 : mc_P 194 17 = some (.iload_n 1, 1, 0, 0, 0) := by decide +kernel
theorem s_194_17 {x0 x2 : Option Value} {w : Value} : mw d 194 Q 17 [x0, some w, x2] (st) h = mv_i w (mw d 194 Q 18 [x0, some w, x2] (w :: st) h) := (mw_at mj_194_17).trans (z_iload_n rfl)
theorem mj_194_18 : mc_P 194 18 = some (.invokevirtual 158, 3, 81, 4, 2) := by decide +kernel
theorem s_194_18 {x0 x1 x2 : Option Value} {o : Nat} {a1 : Value} : mw (d + 1) 194 Q 18 [x0, x1, x2] (a1 :: .ref o :: st) h = (mg h o 4 ∧ mca st 8 ∧ mca [.ref o, a1] 2 ∧ mcall d 81 [.ref o, a1] h (mK (d + 1) 194 Q 21 [x0, x1, x2] st)) := (mw_at mj_194_18).trans ((z_invv (As := [a1]) (by decide) rfl rfl).trans (congrArg (And _) (congrArg (And _) (mC_nl nl_81))))
theorem mj_194_21 : mc_P 194 21 = some (.if_icmp .ge 7, 3, 0, 0, 0) := by decide +kernel
theorem s_194_21 {x0 x1 x2 : Option Value} {x w : Int32} : mw d 194 Q 21 [x0, x1, x2] (.int w :: .int x :: st) h = mB (w ≤ x) (mw d 194 Q) 28 24 [x0, x1, x2] st h := (mw_at mj_194_21).trans (z_icmp_ge (by decide) rfl)
theorem mj_194_24 : mc_P 194 24 = some (.iconst 1, 1, 0, 0, 0) := by decide +kernel
theorem s_194_24 {x0 x1 x2 : Option Value} : mw d 194 Q 24 [x0, x1, x2] (st) h = mw d 194 Q 25 [x0, x1, x2] (.int 1 :: st) h := (mw_at mj_194_24).trans (z_iconst (by decide))
theorem mj_194_25 : mc_P 194 25 = some (.goto 4, 3, 0, 0, 0) := by decide +kernel
theorem s_194_25 {x0 x1 x2 : Option Value} : mw d 194 Q 25 [x0, x1, x2] (st) h = mw d 194 Q 29 [x0, x1, x2] (st) h := (mw_at mj_194_25).trans (z_goto (by decide))
theorem mj_194_28 : mc_P 194 28 = some (.iconst 0, 1, 0, 0, 0) := by decide +kernel
theorem s_194_28 {x0 x1 x2 : Option Value} : mw d 194 Q 28 [x0, x1, x2] (st) h = mw d 194 Q 29 [x0, x1, x2] (.int 0 :: st) h := (mw_at mj_194_28).trans (z_iconst (by decide))
theorem mj_194_29 : mc_P 194 29 = some (.ireturn, 1, 0, 3, 0) := by decide +kernel
theorem s_194_29 {x0 x1 x2 : Option Value} {x : Int32} : mw d 194 Q 29 [x0, x1, x2] ([.int x]) h = ((x = 0 ∨ x = 1) ∧ Q (some (.int x)) h) := (mw_at mj_194_29).trans (z_zret)
theorem e_194 {a0 : Nat} {a1 : Int32} {a2 : Int32} : mcall d 194 [.ref a0, .int a1, .int a2] h Q = mw d 194 Q 0 [some (.ref a0), some (.int a1), some (.int a2)] [] h := by
  show mw d 194 Q 0 (me_en (mc_nl 194) _) [] h = _
  rw [nl_194]; rfl

/-! InvariantDesk.bound(ZIIIII)J -/
theorem mj_196_0 : mc_P 196 0 = some (.aload_n 0, 1, 0, 0, 0) := by decide +kernel
theorem s_196_0 {x1 x2 x3 x4 x5 x6 x7 : Option Value} {w : Value} : mw d 196 Q 0 [some w, x1, x2, x3, x4, x5, x6, x7] (st) h = mv_a w (mw d 196 Q 1 [some w, x1, x2, x3, x4, x5, x6, x7] (w :: st) h) := (mw_at mj_196_0).trans (z_aload_n rfl)
theorem mj_196_1 : mc_P 196 1 = some (.iload_n 2, 1, 0, 0, 0) := by decide +kernel
theorem s_196_1 {x0 x1 x3 x4 x5 x6 x7 : Option Value} {w : Value} : mw d 196 Q 1 [x0, x1, some w, x3, x4, x5, x6, x7] (st) h = mv_i w (mw d 196 Q 2 [x0, x1, some w, x3, x4, x5, x6, x7] (w :: st) h) := (mw_at mj_196_1).trans (z_iload_n rfl)
theorem mj_196_2 : mc_P 196 2 = some (.iload_n 3, 1, 0, 0, 0) := by decide +kernel
theorem s_196_2 {x0 x1 x2 x4 x5 x6 x7 : Option Value} {w : Value} : mw d 196 Q 2 [x0, x1, x2, some w, x4, x5, x6, x7] (st) h = mv_i w (mw d 196 Q 3 [x0, x1, x2, some w, x4, x5, x6, x7] (w :: st) h) := (mw_at mj_196_2).trans (z_iload_n rfl)
theorem mj_196_3 : mc_P 196 3 = some (.iload 4, 2, 0, 0, 0) := by decide +kernel
theorem s_196_3 {x0 x1 x2 x3 x5 x6 x7 : Option Value} {w : Value} : mw d 196 Q 3 [x0, x1, x2, x3, some w, x5, x6, x7] (st) h = mv_i w (mw d 196 Q 5 [x0, x1, x2, x3, some w, x5, x6, x7] (w :: st) h) := (mw_at mj_196_3).trans (z_iload rfl)
theorem mj_196_5 : mc_P 196 5 = some (.iload 5, 2, 0, 0, 0) := by decide +kernel
theorem s_196_5 {x0 x1 x2 x3 x4 x6 x7 : Option Value} {w : Value} : mw d 196 Q 5 [x0, x1, x2, x3, x4, some w, x6, x7] (st) h = mv_i w (mw d 196 Q 7 [x0, x1, x2, x3, x4, some w, x6, x7] (w :: st) h) := (mw_at mj_196_5).trans (z_iload rfl)
theorem mj_196_7 : mc_P 196 7 = some (.iload 6, 2, 0, 0, 0) := by decide +kernel
theorem s_196_7 {x0 x1 x2 x3 x4 x5 x7 : Option Value} {w : Value} : mw d 196 Q 7 [x0, x1, x2, x3, x4, x5, some w, x7] (st) h = mv_i w (mw d 196 Q 9 [x0, x1, x2, x3, x4, x5, some w, x7] (w :: st) h) := (mw_at mj_196_7).trans (z_iload rfl)
theorem mj_196_9 : mc_P 196 9 = some (.invokevirtual 164, 3, 193, 11, 6) := by decide +kernel
theorem s_196_9 {x0 x1 x2 x3 x4 x5 x6 x7 : Option Value} {o : Nat} {a1 a2 a3 a4 a5 : Value} : mw (d + 1) 196 Q 9 [x0, x1, x2, x3, x4, x5, x6, x7] (a5 :: a4 :: a3 :: a2 :: a1 :: .ref o :: st) h = (mg h o 11 ∧ mca st 8 ∧ mca [.ref o, a1, a2, a3, a4, a5] 9 ∧ mcall d 193 [.ref o, a1, a2, a3, a4, a5] h (mK (d + 1) 196 Q 12 [x0, x1, x2, x3, x4, x5, x6, x7] st)) := (mw_at mj_196_9).trans ((z_invv (As := [a1, a2, a3, a4, a5]) (by decide) rfl rfl).trans (congrArg (And _) (congrArg (And _) (mC_nl nl_193))))
theorem mj_196_12 : mc_P 196 12 = some (.ifCond .ne 7, 3, 0, 0, 0) := by decide +kernel
theorem s_196_12 {x0 x1 x2 x3 x4 x5 x6 x7 : Option Value} {x : Int32} : mw d 196 Q 12 [x0, x1, x2, x3, x4, x5, x6, x7] (.int x :: st) h = mB (¬ x = 0) (mw d 196 Q) 19 15 [x0, x1, x2, x3, x4, x5, x6, x7] st h := (mw_at mj_196_12).trans (z_if_ne (by decide) rfl)
theorem mj_196_15 : mc_P 196 15 = some (.ldc2_w 168, 3, 0, 0, (-1099511627776)) := by decide +kernel
theorem s_196_15 {x0 x1 x2 x3 x4 x5 x6 x7 : Option Value} : mw d 196 Q 15 [x0, x1, x2, x3, x4, x5, x6, x7] (st) h = mw d 196 Q 18 [x0, x1, x2, x3, x4, x5, x6, x7] (.long (-1099511627776) :: st) h := (mw_at mj_196_15).trans (z_ldc2 (by decide))
theorem mj_196_18 : mc_P 196 18 = some (.lreturn, 1, 0, 0, 0) := by decide +kernel
theorem s_196_18 {x0 x1 x2 x3 x4 x5 x6 x7 : Option Value} {x : Int64} : mw d 196 Q 18 [x0, x1, x2, x3, x4, x5, x6, x7] ([.long x]) h = Q (some (.long x)) h := (mw_at mj_196_18).trans (z_lret)
theorem mj_196_19 : mc_P 196 19 = some (.aload_n 0, 1, 0, 0, 0) := by decide +kernel
theorem s_196_19 {x1 x2 x3 x4 x5 x6 x7 : Option Value} {w : Value} : mw d 196 Q 19 [some w, x1, x2, x3, x4, x5, x6, x7] (st) h = mv_a w (mw d 196 Q 20 [some w, x1, x2, x3, x4, x5, x6, x7] (w :: st) h) := (mw_at mj_196_19).trans (z_aload_n rfl)
theorem mj_196_20 : mc_P 196 20 = some (.iload_n 1, 1, 0, 0, 0) := by decide +kernel
theorem s_196_20 {x0 x2 x3 x4 x5 x6 x7 : Option Value} {w : Value} : mw d 196 Q 20 [x0, some w, x2, x3, x4, x5, x6, x7] (st) h = mv_i w (mw d 196 Q 21 [x0, some w, x2, x3, x4, x5, x6, x7] (w :: st) h) := (mw_at mj_196_20).trans (z_iload_n rfl)
theorem mj_196_21 : mc_P 196 21 = some (.iload_n 2, 1, 0, 0, 0) := by decide +kernel
theorem s_196_21 {x0 x1 x3 x4 x5 x6 x7 : Option Value} {w : Value} : mw d 196 Q 21 [x0, x1, some w, x3, x4, x5, x6, x7] (st) h = mv_i w (mw d 196 Q 22 [x0, x1, some w, x3, x4, x5, x6, x7] (w :: st) h) := (mw_at mj_196_21).trans (z_iload_n rfl)
theorem mj_196_22 : mc_P 196 22 = some (.invokevirtual 170, 3, 197, 11, 3) := by decide +kernel
theorem s_196_22 {x0 x1 x2 x3 x4 x5 x6 x7 : Option Value} {o : Nat} {a1 a2 : Value} : mw (d + 1) 196 Q 22 [x0, x1, x2, x3, x4, x5, x6, x7] (a2 :: a1 :: .ref o :: st) h = (mg h o 11 ∧ mca st 8 ∧ mca [.ref o, a1, a2] 3 ∧ mcall d 197 [.ref o, a1, a2] h (mK (d + 1) 196 Q 25 [x0, x1, x2, x3, x4, x5, x6, x7] st)) := (mw_at mj_196_22).trans ((z_invv (As := [a1, a2]) (by decide) rfl rfl).trans (congrArg (And _) (congrArg (And _) (mC_nl nl_197))))
theorem mj_196_25 : mc_P 196 25 = some (.astore 7, 2, 0, 0, 0) := by decide +kernel
theorem s_196_25 {x0 x1 x2 x3 x4 x5 x6 x7 : Option Value} {w : Nat} : mw d 196 Q 25 [x0, x1, x2, x3, x4, x5, x6, x7] (.ref w :: st) h = mw d 196 Q 27 [x0, x1, x2, x3, x4, x5, mk2 x6, some (.ref w)] (st) h := (mw_at mj_196_25).trans (z_astore (Nat.le_of_ble_eq_true rfl) (me_s1_mk (j := 6) (w := x6) rfl))
theorem s_196_25n {x0 x1 x2 x3 x4 x5 x6 x7 : Option Value} : mw d 196 Q 25 [x0, x1, x2, x3, x4, x5, x6, x7] (.null :: st) h = mw d 196 Q 27 [x0, x1, x2, x3, x4, x5, mk2 x6, some (.null)] (st) h := (mw_at mj_196_25).trans (z_astoreN (Nat.le_of_ble_eq_true rfl) (me_s1_mk (j := 6) (w := x6) rfl))
theorem mj_196_27 : mc_P 196 27 = some (.aload 7, 2, 0, 0, 0) := by decide +kernel
theorem s_196_27 {x0 x1 x2 x3 x4 x5 x6 : Option Value} {w : Value} : mw d 196 Q 27 [x0, x1, x2, x3, x4, x5, x6, some w] (st) h = mv_a w (mw d 196 Q 29 [x0, x1, x2, x3, x4, x5, x6, some w] (w :: st) h) := (mw_at mj_196_27).trans (z_aload rfl)
theorem mj_196_29 : mc_P 196 29 = some (.getfield 161, 3, 8, 0, 0) := by decide +kernel
theorem s_196_29 {x0 x1 x2 x3 x4 x5 x6 x7 : Option Value} {o : Nat} : mw d 196 Q 29 [x0, x1, x2, x3, x4, x5, x6, x7] (.ref o :: st) h = (mg h o 8 ∧ mw d 196 Q 32 [x0, x1, x2, x3, x4, x5, x6, x7] (.int (mh_i h o 0) :: st) h) := (mw_at mj_196_29).trans (z_geti (by decide) (by decide) (Or.inr rfl))
theorem mj_196_32 : mc_P 196 32 = some (.ifCond .eq 9, 3, 0, 0, 0) := by decide +kernel
theorem s_196_32 {x0 x1 x2 x3 x4 x5 x6 x7 : Option Value} {x : Int32} : mw d 196 Q 32 [x0, x1, x2, x3, x4, x5, x6, x7] (.int x :: st) h = mB (x = 0) (mw d 196 Q) 41 35 [x0, x1, x2, x3, x4, x5, x6, x7] st h := (mw_at mj_196_32).trans (z_if_eq (by decide) rfl)
theorem mj_196_35 : mc_P 196 35 = some (.ldc2_w 168, 3, 0, 0, (-1099511627776)) := by decide +kernel
theorem s_196_35 {x0 x1 x2 x3 x4 x5 x6 x7 : Option Value} : mw d 196 Q 35 [x0, x1, x2, x3, x4, x5, x6, x7] (st) h = mw d 196 Q 38 [x0, x1, x2, x3, x4, x5, x6, x7] (.long (-1099511627776) :: st) h := (mw_at mj_196_35).trans (z_ldc2 (by decide))
theorem mj_196_38 : mc_P 196 38 = some (.goto 21, 3, 0, 0, 0) := by decide +kernel
theorem s_196_38 {x0 x1 x2 x3 x4 x5 x6 x7 : Option Value} : mw d 196 Q 38 [x0, x1, x2, x3, x4, x5, x6, x7] (st) h = mw d 196 Q 59 [x0, x1, x2, x3, x4, x5, x6, x7] (st) h := (mw_at mj_196_38).trans (z_goto (by decide))
theorem mj_196_41 : mc_P 196 41 = some (.aload 7, 2, 0, 0, 0) := by decide +kernel
theorem s_196_41 {x0 x1 x2 x3 x4 x5 x6 : Option Value} {w : Value} : mw d 196 Q 41 [x0, x1, x2, x3, x4, x5, x6, some w] (st) h = mv_a w (mw d 196 Q 43 [x0, x1, x2, x3, x4, x5, x6, some w] (w :: st) h) := (mw_at mj_196_41).trans (z_aload rfl)
theorem mj_196_43 : mc_P 196 43 = some (.iload_n 3, 1, 0, 0, 0) := by decide +kernel
theorem s_196_43 {x0 x1 x2 x4 x5 x6 x7 : Option Value} {w : Value} : mw d 196 Q 43 [x0, x1, x2, some w, x4, x5, x6, x7] (st) h = mv_i w (mw d 196 Q 44 [x0, x1, x2, some w, x4, x5, x6, x7] (w :: st) h) := (mw_at mj_196_43).trans (z_iload_n rfl)
theorem mj_196_44 : mc_P 196 44 = some (.iload 4, 2, 0, 0, 0) := by decide +kernel
theorem s_196_44 {x0 x1 x2 x3 x5 x6 x7 : Option Value} {w : Value} : mw d 196 Q 44 [x0, x1, x2, x3, some w, x5, x6, x7] (st) h = mv_i w (mw d 196 Q 46 [x0, x1, x2, x3, some w, x5, x6, x7] (w :: st) h) := (mw_at mj_196_44).trans (z_iload rfl)
theorem mj_196_46 : mc_P 196 46 = some (.invokestatic 174, 3, 195, 0, 2) := by decide +kernel
theorem s_196_46 {x0 x1 x2 x3 x4 x5 x6 x7 : Option Value} {a0 a1 : Value} : mw (d + 1) 196 Q 46 [x0, x1, x2, x3, x4, x5, x6, x7] (a1 :: a0 :: st) h = (mca st 8 ∧ mca [a0, a1] 2 ∧ mcall d 195 [a0, a1] h (mK (d + 1) 196 Q 49 [x0, x1, x2, x3, x4, x5, x6, x7] st)) := (mw_at mj_196_46).trans ((z_invs (As := [a0, a1]) rfl rfl).trans (congrArg (And _) (mC_nl nl_195)))
theorem mj_196_49 : mc_P 196 49 = some (.iload 5, 2, 0, 0, 0) := by decide +kernel
theorem s_196_49 {x0 x1 x2 x3 x4 x6 x7 : Option Value} {w : Value} : mw d 196 Q 49 [x0, x1, x2, x3, x4, some w, x6, x7] (st) h = mv_i w (mw d 196 Q 51 [x0, x1, x2, x3, x4, some w, x6, x7] (w :: st) h) := (mw_at mj_196_49).trans (z_iload rfl)
theorem mj_196_51 : mc_P 196 51 = some (.iload 6, 2, 0, 0, 0) := by decide +kernel
theorem s_196_51 {x0 x1 x2 x3 x4 x5 x7 : Option Value} {w : Value} : mw d 196 Q 51 [x0, x1, x2, x3, x4, x5, some w, x7] (st) h = mv_i w (mw d 196 Q 53 [x0, x1, x2, x3, x4, x5, some w, x7] (w :: st) h) := (mw_at mj_196_51).trans (z_iload rfl)
theorem mj_196_53 : mc_P 196 53 = some (.invokestatic 174, 3, 195, 0, 2) := by decide +kernel
theorem s_196_53 {x0 x1 x2 x3 x4 x5 x6 x7 : Option Value} {a0 a1 : Value} : mw (d + 1) 196 Q 53 [x0, x1, x2, x3, x4, x5, x6, x7] (a1 :: a0 :: st) h = (mca st 8 ∧ mca [a0, a1] 2 ∧ mcall d 195 [a0, a1] h (mK (d + 1) 196 Q 56 [x0, x1, x2, x3, x4, x5, x6, x7] st)) := (mw_at mj_196_53).trans ((z_invs (As := [a0, a1]) rfl rfl).trans (congrArg (And _) (mC_nl nl_195)))
theorem mj_196_56 : mc_P 196 56 = some (.invokevirtual 178, 3, 146, 8, 3) := by decide +kernel
theorem s_196_56 {x0 x1 x2 x3 x4 x5 x6 x7 : Option Value} {o : Nat} {a1 a2 : Value} : mw (d + 1) 196 Q 56 [x0, x1, x2, x3, x4, x5, x6, x7] (a2 :: a1 :: .ref o :: st) h = (mg h o 8 ∧ mca st 8 ∧ mca [.ref o, a1, a2] 5 ∧ mcall d 146 [.ref o, a1, a2] h (mK (d + 1) 196 Q 59 [x0, x1, x2, x3, x4, x5, x6, x7] st)) := (mw_at mj_196_56).trans ((z_invv (As := [a1, a2]) (by decide) rfl rfl).trans (congrArg (And _) (congrArg (And _) (mC_nl nl_146))))
theorem mj_196_59 : mc_P 196 59 = some (.lreturn, 1, 0, 0, 0) := by decide +kernel
theorem s_196_59 {x0 x1 x2 x3 x4 x5 x6 x7 : Option Value} {x : Int64} : mw d 196 Q 59 [x0, x1, x2, x3, x4, x5, x6, x7] ([.long x]) h = Q (some (.long x)) h := (mw_at mj_196_59).trans (z_lret)
theorem e_196 {a0 : Nat} {a1 : Int32} {a2 : Int32} {a3 : Int32} {a4 : Int32} {a5 : Int32} {a6 : Int32} : mcall d 196 [.ref a0, .int a1, .int a2, .int a3, .int a4, .int a5, .int a6] h Q = mw d 196 Q 0 [some (.ref a0), some (.int a1), some (.int a2), some (.int a3), some (.int a4), some (.int a5), some (.int a6), none] [] h := by
  show mw d 196 Q 0 (me_en (mc_nl 196) _) [] h = _
  rw [nl_196]; rfl

/-! InvariantDesk.stateAt(ZI)LInvariantDesk$State; -/
theorem mj_197_0 : mc_P 197 0 = some (.iload_n 1, 1, 0, 0, 0) := by decide +kernel
theorem s_197_0 {x0 x2 : Option Value} {w : Value} : mw d 197 Q 0 [x0, some w, x2] (st) h = mv_i w (mw d 197 Q 1 [x0, some w, x2] (w :: st) h) := (mw_at mj_197_0).trans (z_iload_n rfl)
theorem mj_197_1 : mc_P 197 1 = some (.ifCond .eq 12, 3, 0, 0, 0) := by decide +kernel
theorem s_197_1 {x0 x1 x2 : Option Value} {x : Int32} : mw d 197 Q 1 [x0, x1, x2] (.int x :: st) h = mB (x = 0) (mw d 197 Q) 13 4 [x0, x1, x2] st h := (mw_at mj_197_1).trans (z_if_eq (by decide) rfl)
theorem mj_197_4 : mc_P 197 4 = some (.aload_n 0, 1, 0, 0, 0) := by decide +kernel
theorem s_197_4 {x1 x2 : Option Value} {w : Value} : mw d 197 Q 4 [some w, x1, x2] (st) h = mv_a w (mw d 197 Q 5 [some w, x1, x2] (w :: st) h) := (mw_at mj_197_4).trans (z_aload_n rfl)
theorem mj_197_5 : mc_P 197 5 = some (.getfield 47, 3, 11, 6, 0) := by decide +kernel
theorem s_197_5 {x0 x1 x2 : Option Value} {o : Nat} : mw d 197 Q 5 [x0, x1, x2] (.ref o :: st) h = (mg h o 11 ∧ mw d 197 Q 8 [x0, x1, x2] (va_rf (mh_r h o 6) :: st) h) := (mw_at mj_197_5).trans (z_getr (by decide) (by decide) rfl)
theorem mj_197_8 : mc_P 197 8 = some (.iload_n 2, 1, 0, 0, 0) := by decide +kernel
theorem s_197_8 {x0 x1 : Option Value} {w : Value} : mw d 197 Q 8 [x0, x1, some w] (st) h = mv_i w (mw d 197 Q 9 [x0, x1, some w] (w :: st) h) := (mw_at mj_197_8).trans (z_iload_n rfl)
theorem mj_197_9 : mc_P 197 9 = some (.aaload, 1, 0, 0, 0) := by decide +kernel
theorem s_197_9 {x0 x1 x2 : Option Value} {o : Nat} {i : Int32} : mw d 197 Q 9 [x0, x1, x2] (.int i :: .ref o :: st) h = (mgr h o ∧ mx i (mh_l h o) ∧ mw d 197 Q 10 [x0, x1, x2] (mrd (mh_k h o) h o i.toNatClampNeg :: st) h) := (mw_at mj_197_9).trans (z_aald)
theorem mj_197_10 : mc_P 197 10 = some (.goto 12, 3, 0, 0, 0) := by decide +kernel
theorem s_197_10 {x0 x1 x2 : Option Value} : mw d 197 Q 10 [x0, x1, x2] (st) h = mw d 197 Q 22 [x0, x1, x2] (st) h := (mw_at mj_197_10).trans (z_goto (by decide))
theorem mj_197_13 : mc_P 197 13 = some (.aload_n 0, 1, 0, 0, 0) := by decide +kernel
theorem s_197_13 {x1 x2 : Option Value} {w : Value} : mw d 197 Q 13 [some w, x1, x2] (st) h = mv_a w (mw d 197 Q 14 [some w, x1, x2] (w :: st) h) := (mw_at mj_197_13).trans (z_aload_n rfl)
theorem mj_197_14 : mc_P 197 14 = some (.getfield 34, 3, 11, 4, 0) := by decide +kernel
theorem s_197_14 {x0 x1 x2 : Option Value} {o : Nat} : mw d 197 Q 14 [x0, x1, x2] (.ref o :: st) h = (mg h o 11 ∧ mw d 197 Q 17 [x0, x1, x2] (va_rf (mh_r h o 4) :: st) h) := (mw_at mj_197_14).trans (z_getr (by decide) (by decide) rfl)
theorem mj_197_17 : mc_P 197 17 = some (.getfield 118, 3, 0, 0, 0) := by decide +kernel
theorem s_197_17 {x0 x1 x2 : Option Value} {o : Nat} : mw d 197 Q 17 [x0, x1, x2] (.ref o :: st) h = (mg h o 0 ∧ mw d 197 Q 20 [x0, x1, x2] (va_rf (mh_r h o 0) :: st) h) := (mw_at mj_197_17).trans (z_getr (by decide) (by decide) rfl)
theorem mj_197_20 : mc_P 197 20 = some (.iload_n 2, 1, 0, 0, 0) := by decide +kernel
theorem s_197_20 {x0 x1 : Option Value} {w : Value} : mw d 197 Q 20 [x0, x1, some w] (st) h = mv_i w (mw d 197 Q 21 [x0, x1, some w] (w :: st) h) := (mw_at mj_197_20).trans (z_iload_n rfl)
theorem mj_197_21 : mc_P 197 21 = some (.aaload, 1, 0, 0, 0) := by decide +kernel
theorem s_197_21 {x0 x1 x2 : Option Value} {o : Nat} {i : Int32} : mw d 197 Q 21 [x0, x1, x2] (.int i :: .ref o :: st) h = (mgr h o ∧ mx i (mh_l h o) ∧ mw d 197 Q 22 [x0, x1, x2] (mrd (mh_k h o) h o i.toNatClampNeg :: st) h) := (mw_at mj_197_21).trans (z_aald)
theorem mj_197_22 : mc_P 197 22 = some (.areturn, 1, 0, 0, 0) := by decide +kernel
theorem s_197_22 {x0 x1 x2 : Option Value} {x : Nat} : mw d 197 Q 22 [x0, x1, x2] ([.ref x]) h = Q (some (.ref x)) h := (mw_at mj_197_22).trans (z_aret)
theorem s_197_22n {x0 x1 x2 : Option Value} : mw d 197 Q 22 [x0, x1, x2] ([.null]) h = Q (some .null) h := (mw_at mj_197_22).trans (z_aretN)
theorem e_197 {a0 : Nat} {a1 : Int32} {a2 : Int32} : mcall d 197 [.ref a0, .int a1, .int a2] h Q = mw d 197 Q 0 [some (.ref a0), some (.int a1), some (.int a2)] [] h := by
  show mw d 197 Q 0 (me_en (mc_nl 197) _) [] h = _
  rw [nl_197]; rfl

/-! InvariantDesk.range(ZIIZ)J -/
theorem mj_198_0 : mc_P 198 0 = some (.aload_n 0, 1, 0, 0, 0) := by decide +kernel
theorem s_198_0 {x1 x2 x3 x4 x5 : Option Value} {w : Value} : mw d 198 Q 0 [some w, x1, x2, x3, x4, x5] (st) h = mv_a w (mw d 198 Q 1 [some w, x1, x2, x3, x4, x5] (w :: st) h) := (mw_at mj_198_0).trans (z_aload_n rfl)
theorem mj_198_1 : mc_P 198 1 = some (.iload_n 2, 1, 0, 0, 0) := by decide +kernel
theorem s_198_1 {x0 x1 x3 x4 x5 : Option Value} {w : Value} : mw d 198 Q 1 [x0, x1, some w, x3, x4, x5] (st) h = mv_i w (mw d 198 Q 2 [x0, x1, some w, x3, x4, x5] (w :: st) h) := (mw_at mj_198_1).trans (z_iload_n rfl)
theorem mj_198_2 : mc_P 198 2 = some (.iload_n 3, 1, 0, 0, 0) := by decide +kernel
theorem s_198_2 {x0 x1 x2 x4 x5 : Option Value} {w : Value} : mw d 198 Q 2 [x0, x1, x2, some w, x4, x5] (st) h = mv_i w (mw d 198 Q 3 [x0, x1, x2, some w, x4, x5] (w :: st) h) := (mw_at mj_198_2).trans (z_iload_n rfl)
theorem mj_198_3 : mc_P 198 3 = some (.invokevirtual 182, 3, 194, 11, 3) := by decide +kernel
theorem s_198_3 {x0 x1 x2 x3 x4 x5 : Option Value} {o : Nat} {a1 a2 : Value} : mw (d + 1) 198 Q 3 [x0, x1, x2, x3, x4, x5] (a2 :: a1 :: .ref o :: st) h = (mg h o 11 ∧ mca st 8 ∧ mca [.ref o, a1, a2] 3 ∧ mcall d 194 [.ref o, a1, a2] h (mK (d + 1) 198 Q 6 [x0, x1, x2, x3, x4, x5] st)) := (mw_at mj_198_3).trans ((z_invv (As := [a1, a2]) (by decide) rfl rfl).trans (congrArg (And _) (congrArg (And _) (mC_nl nl_194))))
theorem mj_198_6 : mc_P 198 6 = some (.ifCond .ne 7, 3, 0, 0, 0) := by decide +kernel
theorem s_198_6 {x0 x1 x2 x3 x4 x5 : Option Value} {x : Int32} : mw d 198 Q 6 [x0, x1, x2, x3, x4, x5] (.int x :: st) h = mB (¬ x = 0) (mw d 198 Q) 13 9 [x0, x1, x2, x3, x4, x5] st h := (mw_at mj_198_6).trans (z_if_ne (by decide) rfl)
theorem mj_198_9 : mc_P 198 9 = some (.ldc2_w 168, 3, 0, 0, (-1099511627776)) := by decide +kernel
theorem s_198_9 {x0 x1 x2 x3 x4 x5 : Option Value} : mw d 198 Q 9 [x0, x1, x2, x3, x4, x5] (st) h = mw d 198 Q 12 [x0, x1, x2, x3, x4, x5] (.long (-1099511627776) :: st) h := (mw_at mj_198_9).trans (z_ldc2 (by decide))
theorem mj_198_12 : mc_P 198 12 = some (.lreturn, 1, 0, 0, 0) := by decide +kernel
theorem s_198_12 {x0 x1 x2 x3 x4 x5 : Option Value} {x : Int64} : mw d 198 Q 12 [x0, x1, x2, x3, x4, x5] ([.long x]) h = Q (some (.long x)) h := (mw_at mj_198_12).trans (z_lret)
theorem mj_198_13 : mc_P 198 13 = some (.aload_n 0, 1, 0, 0, 0) := by decide +kernel
theorem s_198_13 {x1 x2 x3 x4 x5 : Option Value} {w : Value} : mw d 198 Q 13 [some w, x1, x2, x3, x4, x5] (st) h = mv_a w (mw d 198 Q 14 [some w, x1, x2, x3, x4, x5] (w :: st) h) := (mw_at mj_198_13).trans (z_aload_n rfl)
theorem mj_198_14 : mc_P 198 14 = some (.iload_n 1, 1, 0, 0, 0) := by decide +kernel
theorem s_198_14 {x0 x2 x3 x4 x5 : Option Value} {w : Value} : mw d 198 Q 14 [x0, some w, x2, x3, x4, x5] (st) h = mv_i w (mw d 198 Q 15 [x0, some w, x2, x3, x4, x5] (w :: st) h) := (mw_at mj_198_14).trans (z_iload_n rfl)
theorem mj_198_15 : mc_P 198 15 = some (.iload_n 2, 1, 0, 0, 0) := by decide +kernel
theorem s_198_15 {x0 x1 x3 x4 x5 : Option Value} {w : Value} : mw d 198 Q 15 [x0, x1, some w, x3, x4, x5] (st) h = mv_i w (mw d 198 Q 16 [x0, x1, some w, x3, x4, x5] (w :: st) h) := (mw_at mj_198_15).trans (z_iload_n rfl)
theorem mj_198_16 : mc_P 198 16 = some (.invokevirtual 170, 3, 197, 11, 3) := by decide +kernel
theorem s_198_16 {x0 x1 x2 x3 x4 x5 : Option Value} {o : Nat} {a1 a2 : Value} : mw (d + 1) 198 Q 16 [x0, x1, x2, x3, x4, x5] (a2 :: a1 :: .ref o :: st) h = (mg h o 11 ∧ mca st 8 ∧ mca [.ref o, a1, a2] 3 ∧ mcall d 197 [.ref o, a1, a2] h (mK (d + 1) 198 Q 19 [x0, x1, x2, x3, x4, x5] st)) := (mw_at mj_198_16).trans ((z_invv (As := [a1, a2]) (by decide) rfl rfl).trans (congrArg (And _) (congrArg (And _) (mC_nl nl_197))))
theorem mj_198_19 : mc_P 198 19 = some (.astore 5, 2, 0, 0, 0) := by decide +kernel
theorem s_198_19 {x0 x1 x2 x3 x4 x5 : Option Value} {w : Nat} : mw d 198 Q 19 [x0, x1, x2, x3, x4, x5] (.ref w :: st) h = mw d 198 Q 21 [x0, x1, x2, x3, mk2 x4, some (.ref w)] (st) h := (mw_at mj_198_19).trans (z_astore (Nat.le_of_ble_eq_true rfl) (me_s1_mk (j := 4) (w := x4) rfl))
theorem s_198_19n {x0 x1 x2 x3 x4 x5 : Option Value} : mw d 198 Q 19 [x0, x1, x2, x3, x4, x5] (.null :: st) h = mw d 198 Q 21 [x0, x1, x2, x3, mk2 x4, some (.null)] (st) h := (mw_at mj_198_19).trans (z_astoreN (Nat.le_of_ble_eq_true rfl) (me_s1_mk (j := 4) (w := x4) rfl))
theorem mj_198_21 : mc_P 198 21 = some (.aload 5, 2, 0, 0, 0) := by decide +kernel
theorem s_198_21 {x0 x1 x2 x3 x4 : Option Value} {w : Value} : mw d 198 Q 21 [x0, x1, x2, x3, x4, some w] (st) h = mv_a w (mw d 198 Q 23 [x0, x1, x2, x3, x4, some w] (w :: st) h) := (mw_at mj_198_21).trans (z_aload rfl)
theorem mj_198_23 : mc_P 198 23 = some (.getfield 161, 3, 8, 0, 0) := by decide +kernel
theorem s_198_23 {x0 x1 x2 x3 x4 x5 : Option Value} {o : Nat} : mw d 198 Q 23 [x0, x1, x2, x3, x4, x5] (.ref o :: st) h = (mg h o 8 ∧ mw d 198 Q 26 [x0, x1, x2, x3, x4, x5] (.int (mh_i h o 0) :: st) h) := (mw_at mj_198_23).trans (z_geti (by decide) (by decide) (Or.inr rfl))
theorem mj_198_26 : mc_P 198 26 = some (.ifCond .eq 9, 3, 0, 0, 0) := by decide +kernel
theorem s_198_26 {x0 x1 x2 x3 x4 x5 : Option Value} {x : Int32} : mw d 198 Q 26 [x0, x1, x2, x3, x4, x5] (.int x :: st) h = mB (x = 0) (mw d 198 Q) 35 29 [x0, x1, x2, x3, x4, x5] st h := (mw_at mj_198_26).trans (z_if_eq (by decide) rfl)
theorem mj_198_29 : mc_P 198 29 = some (.ldc2_w 168, 3, 0, 0, (-1099511627776)) := by decide +kernel
theorem s_198_29 {x0 x1 x2 x3 x4 x5 : Option Value} : mw d 198 Q 29 [x0, x1, x2, x3, x4, x5] (st) h = mw d 198 Q 32 [x0, x1, x2, x3, x4, x5] (.long (-1099511627776) :: st) h := (mw_at mj_198_29).trans (z_ldc2 (by decide))
theorem mj_198_32 : mc_P 198 32 = some (.goto 25, 3, 0, 0, 0) := by decide +kernel
theorem s_198_32 {x0 x1 x2 x3 x4 x5 : Option Value} : mw d 198 Q 32 [x0, x1, x2, x3, x4, x5] (st) h = mw d 198 Q 57 [x0, x1, x2, x3, x4, x5] (st) h := (mw_at mj_198_32).trans (z_goto (by decide))
theorem mj_198_35 : mc_P 198 35 = some (.aload 5, 2, 0, 0, 0) := by decide +kernel
theorem s_198_35 {x0 x1 x2 x3 x4 : Option Value} {w : Value} : mw d 198 Q 35 [x0, x1, x2, x3, x4, some w] (st) h = mv_a w (mw d 198 Q 37 [x0, x1, x2, x3, x4, some w] (w :: st) h) := (mw_at mj_198_35).trans (z_aload rfl)
theorem mj_198_37 : mc_P 198 37 = some (.getfield 186, 3, 8, 4, 0) := by decide +kernel
theorem s_198_37 {x0 x1 x2 x3 x4 x5 : Option Value} {o : Nat} : mw d 198 Q 37 [x0, x1, x2, x3, x4, x5] (.ref o :: st) h = (mg h o 8 ∧ mw d 198 Q 40 [x0, x1, x2, x3, x4, x5] (va_rf (mh_r h o 4) :: st) h) := (mw_at mj_198_37).trans (z_getr (by decide) (by decide) rfl)
theorem mj_198_40 : mc_P 198 40 = some (.iload 4, 2, 0, 0, 0) := by decide +kernel
theorem s_198_40 {x0 x1 x2 x3 x5 : Option Value} {w : Value} : mw d 198 Q 40 [x0, x1, x2, x3, some w, x5] (st) h = mv_i w (mw d 198 Q 42 [x0, x1, x2, x3, some w, x5] (w :: st) h) := (mw_at mj_198_40).trans (z_iload rfl)
theorem mj_198_42 : mc_P 198 42 = some (.ifCond .eq 11, 3, 0, 0, 0) := by decide +kernel
theorem s_198_42 {x0 x1 x2 x3 x4 x5 : Option Value} {x : Int32} : mw d 198 Q 42 [x0, x1, x2, x3, x4, x5] (.int x :: st) h = mB (x = 0) (mw d 198 Q) 53 45 [x0, x1, x2, x3, x4, x5] st h := (mw_at mj_198_42).trans (z_if_eq (by decide) rfl)
theorem mj_198_45 : mc_P 198 45 = some (.iconst 2, 1, 0, 0, 0) := by decide +kernel
theorem s_198_45 {x0 x1 x2 x3 x4 x5 : Option Value} : mw d 198 Q 45 [x0, x1, x2, x3, x4, x5] (st) h = mw d 198 Q 46 [x0, x1, x2, x3, x4, x5] (.int 2 :: st) h := (mw_at mj_198_45).trans (z_iconst (by decide))
theorem mj_198_46 : mc_P 198 46 = some (.iload_n 3, 1, 0, 0, 0) := by decide +kernel
theorem s_198_46 {x0 x1 x2 x4 x5 : Option Value} {w : Value} : mw d 198 Q 46 [x0, x1, x2, some w, x4, x5] (st) h = mv_i w (mw d 198 Q 47 [x0, x1, x2, some w, x4, x5] (w :: st) h) := (mw_at mj_198_46).trans (z_iload_n rfl)
theorem mj_198_47 : mc_P 198 47 = some (.imul, 1, 0, 0, 0) := by decide +kernel
theorem s_198_47 {x0 x1 x2 x3 x4 x5 : Option Value} {x w : Int32} : mw d 198 Q 47 [x0, x1, x2, x3, x4, x5] (.int w :: .int x :: st) h = mw d 198 Q 48 [x0, x1, x2, x3, x4, x5] (.int (x * w) :: st) h := (mw_at mj_198_47).trans (z_imul)
theorem mj_198_48 : mc_P 198 48 = some (.iconst 1, 1, 0, 0, 0) := by decide +kernel
theorem s_198_48 {x0 x1 x2 x3 x4 x5 : Option Value} : mw d 198 Q 48 [x0, x1, x2, x3, x4, x5] (st) h = mw d 198 Q 49 [x0, x1, x2, x3, x4, x5] (.int 1 :: st) h := (mw_at mj_198_48).trans (z_iconst (by decide))
theorem mj_198_49 : mc_P 198 49 = some (.iadd, 1, 0, 0, 0) := by decide +kernel
theorem s_198_49 {x0 x1 x2 x3 x4 x5 : Option Value} {x w : Int32} : mw d 198 Q 49 [x0, x1, x2, x3, x4, x5] (.int w :: .int x :: st) h = mw d 198 Q 50 [x0, x1, x2, x3, x4, x5] (.int (x + w) :: st) h := (mw_at mj_198_49).trans (z_iadd)
theorem mj_198_50 : mc_P 198 50 = some (.goto 6, 3, 0, 0, 0) := by decide +kernel
theorem s_198_50 {x0 x1 x2 x3 x4 x5 : Option Value} : mw d 198 Q 50 [x0, x1, x2, x3, x4, x5] (st) h = mw d 198 Q 56 [x0, x1, x2, x3, x4, x5] (st) h := (mw_at mj_198_50).trans (z_goto (by decide))
theorem mj_198_53 : mc_P 198 53 = some (.iconst 2, 1, 0, 0, 0) := by decide +kernel
theorem s_198_53 {x0 x1 x2 x3 x4 x5 : Option Value} : mw d 198 Q 53 [x0, x1, x2, x3, x4, x5] (st) h = mw d 198 Q 54 [x0, x1, x2, x3, x4, x5] (.int 2 :: st) h := (mw_at mj_198_53).trans (z_iconst (by decide))
theorem mj_198_54 : mc_P 198 54 = some (.iload_n 3, 1, 0, 0, 0) := by decide +kernel
theorem s_198_54 {x0 x1 x2 x4 x5 : Option Value} {w : Value} : mw d 198 Q 54 [x0, x1, x2, some w, x4, x5] (st) h = mv_i w (mw d 198 Q 55 [x0, x1, x2, some w, x4, x5] (w :: st) h) := (mw_at mj_198_54).trans (z_iload_n rfl)
theorem mj_198_55 : mc_P 198 55 = some (.imul, 1, 0, 0, 0) := by decide +kernel
theorem s_198_55 {x0 x1 x2 x3 x4 x5 : Option Value} {x w : Int32} : mw d 198 Q 55 [x0, x1, x2, x3, x4, x5] (.int w :: .int x :: st) h = mw d 198 Q 56 [x0, x1, x2, x3, x4, x5] (.int (x * w) :: st) h := (mw_at mj_198_55).trans (z_imul)
theorem mj_198_56 : mc_P 198 56 = some (.laload, 1, 0, 0, 0) := by decide +kernel
theorem s_198_56 {x0 x1 x2 x3 x4 x5 : Option Value} {o : Nat} {i : Int32} : mw d 198 Q 56 [x0, x1, x2, x3, x4, x5] (.int i :: .ref o :: st) h = (mg h o 101 ∧ mx i (mh_l h o) ∧ mw d 198 Q 57 [x0, x1, x2, x3, x4, x5] (.long (mh_j h o i.toNatClampNeg) :: st) h) := (mw_at mj_198_56).trans (z_lald)
theorem mj_198_57 : mc_P 198 57 = some (.lreturn, 1, 0, 0, 0) := by decide +kernel
theorem s_198_57 {x0 x1 x2 x3 x4 x5 : Option Value} {x : Int64} : mw d 198 Q 57 [x0, x1, x2, x3, x4, x5] ([.long x]) h = Q (some (.long x)) h := (mw_at mj_198_57).trans (z_lret)
theorem e_198 {a0 : Nat} {a1 : Int32} {a2 : Int32} {a3 : Int32} {a4 : Int32} : mcall d 198 [.ref a0, .int a1, .int a2, .int a3, .int a4] h Q = mw d 198 Q 0 [some (.ref a0), some (.int a1), some (.int a2), some (.int a3), some (.int a4), none] [] h := by
  show mw d 198 Q 0 (me_en (mc_nl 198) _) [] h = _
  rw [nl_198]; rfl

/-! InvariantDesk.claim(IIIIIJ)I -/
theorem mj_199_0 : mc_P 199 0 = some (.aload_n 0, 1, 0, 0, 0) := by decide +kernel
theorem s_199_0 {x1 x2 x3 x4 x5 x6 x7 x8 x9 x10 : Option Value} {w : Value} : mw d 199 Q 0 [some w, x1, x2, x3, x4, x5, x6, x7, x8, x9, x10] (st) h = mv_a w (mw d 199 Q 1 [some w, x1, x2, x3, x4, x5, x6, x7, x8, x9, x10] (w :: st) h) := (mw_at mj_199_0).trans (z_aload_n rfl)
theorem mj_199_1 : mc_P 199 1 = some (.iload_n 1, 1, 0, 0, 0) := by decide +kernel
theorem s_199_1 {x0 x2 x3 x4 x5 x6 x7 x8 x9 x10 : Option Value} {w : Value} : mw d 199 Q 1 [x0, some w, x2, x3, x4, x5, x6, x7, x8, x9, x10] (st) h = mv_i w (mw d 199 Q 2 [x0, some w, x2, x3, x4, x5, x6, x7, x8, x9, x10] (w :: st) h) := (mw_at mj_199_1).trans (z_iload_n rfl)
theorem mj_199_2 : mc_P 199 2 = some (.iload_n 2, 1, 0, 0, 0) := by decide +kernel
theorem s_199_2 {x0 x1 x3 x4 x5 x6 x7 x8 x9 x10 : Option Value} {w : Value} : mw d 199 Q 2 [x0, x1, some w, x3, x4, x5, x6, x7, x8, x9, x10] (st) h = mv_i w (mw d 199 Q 3 [x0, x1, some w, x3, x4, x5, x6, x7, x8, x9, x10] (w :: st) h) := (mw_at mj_199_2).trans (z_iload_n rfl)
theorem mj_199_3 : mc_P 199 3 = some (.iload_n 3, 1, 0, 0, 0) := by decide +kernel
theorem s_199_3 {x0 x1 x2 x4 x5 x6 x7 x8 x9 x10 : Option Value} {w : Value} : mw d 199 Q 3 [x0, x1, x2, some w, x4, x5, x6, x7, x8, x9, x10] (st) h = mv_i w (mw d 199 Q 4 [x0, x1, x2, some w, x4, x5, x6, x7, x8, x9, x10] (w :: st) h) := (mw_at mj_199_3).trans (z_iload_n rfl)
theorem mj_199_4 : mc_P 199 4 = some (.iload 4, 2, 0, 0, 0) := by decide +kernel
theorem s_199_4 {x0 x1 x2 x3 x5 x6 x7 x8 x9 x10 : Option Value} {w : Value} : mw d 199 Q 4 [x0, x1, x2, x3, some w, x5, x6, x7, x8, x9, x10] (st) h = mv_i w (mw d 199 Q 6 [x0, x1, x2, x3, some w, x5, x6, x7, x8, x9, x10] (w :: st) h) := (mw_at mj_199_4).trans (z_iload rfl)
theorem mj_199_6 : mc_P 199 6 = some (.iload 5, 2, 0, 0, 0) := by decide +kernel
theorem s_199_6 {x0 x1 x2 x3 x4 x6 x7 x8 x9 x10 : Option Value} {w : Value} : mw d 199 Q 6 [x0, x1, x2, x3, x4, some w, x6, x7, x8, x9, x10] (st) h = mv_i w (mw d 199 Q 8 [x0, x1, x2, x3, x4, some w, x6, x7, x8, x9, x10] (w :: st) h) := (mw_at mj_199_6).trans (z_iload rfl)
theorem mj_199_8 : mc_P 199 8 = some (.invokevirtual 164, 3, 193, 11, 6) := by decide +kernel
theorem s_199_8 {x0 x1 x2 x3 x4 x5 x6 x7 x8 x9 x10 : Option Value} {o : Nat} {a1 a2 a3 a4 a5 : Value} : mw (d + 1) 199 Q 8 [x0, x1, x2, x3, x4, x5, x6, x7, x8, x9, x10] (a5 :: a4 :: a3 :: a2 :: a1 :: .ref o :: st) h = (mg h o 11 ∧ mca st 8 ∧ mca [.ref o, a1, a2, a3, a4, a5] 9 ∧ mcall d 193 [.ref o, a1, a2, a3, a4, a5] h (mK (d + 1) 199 Q 11 [x0, x1, x2, x3, x4, x5, x6, x7, x8, x9, x10] st)) := (mw_at mj_199_8).trans ((z_invv (As := [a1, a2, a3, a4, a5]) (by decide) rfl rfl).trans (congrArg (And _) (congrArg (And _) (mC_nl nl_193))))
theorem mj_199_11 : mc_P 199 11 = some (.ifCond .ne 5, 3, 0, 0, 0) := by decide +kernel
theorem s_199_11 {x0 x1 x2 x3 x4 x5 x6 x7 x8 x9 x10 : Option Value} {x : Int32} : mw d 199 Q 11 [x0, x1, x2, x3, x4, x5, x6, x7, x8, x9, x10] (.int x :: st) h = mB (¬ x = 0) (mw d 199 Q) 16 14 [x0, x1, x2, x3, x4, x5, x6, x7, x8, x9, x10] st h := (mw_at mj_199_11).trans (z_if_ne (by decide) rfl)
theorem mj_199_14 : mc_P 199 14 = some (.iconst (-1), 1, 0, 0, 0) := by decide +kernel
theorem s_199_14 {x0 x1 x2 x3 x4 x5 x6 x7 x8 x9 x10 : Option Value} : mw d 199 Q 14 [x0, x1, x2, x3, x4, x5, x6, x7, x8, x9, x10] (st) h = mw d 199 Q 15 [x0, x1, x2, x3, x4, x5, x6, x7, x8, x9, x10] (.int (-1) :: st) h := (mw_at mj_199_14).trans (z_iconst (by decide))
theorem mj_199_15 : mc_P 199 15 = some (.ireturn, 1, 0, 0, 0) := by decide +kernel
theorem s_199_15 {x0 x1 x2 x3 x4 x5 x6 x7 x8 x9 x10 : Option Value} {x : Int32} : mw d 199 Q 15 [x0, x1, x2, x3, x4, x5, x6, x7, x8, x9, x10] ([.int x]) h = (Q (some (.int x)) h) := (mw_at mj_199_15).trans (z_iret)
theorem mj_199_16 : mc_P 199 16 = some (.aload_n 0, 1, 0, 0, 0) := by decide +kernel
theorem s_199_16 {x1 x2 x3 x4 x5 x6 x7 x8 x9 x10 : Option Value} {w : Value} : mw d 199 Q 16 [some w, x1, x2, x3, x4, x5, x6, x7, x8, x9, x10] (st) h = mv_a w (mw d 199 Q 17 [some w, x1, x2, x3, x4, x5, x6, x7, x8, x9, x10] (w :: st) h) := (mw_at mj_199_16).trans (z_aload_n rfl)
theorem mj_199_17 : mc_P 199 17 = some (.getfield 47, 3, 11, 6, 0) := by decide +kernel
theorem s_199_17 {x0 x1 x2 x3 x4 x5 x6 x7 x8 x9 x10 : Option Value} {o : Nat} : mw d 199 Q 17 [x0, x1, x2, x3, x4, x5, x6, x7, x8, x9, x10] (.ref o :: st) h = (mg h o 11 ∧ mw d 199 Q 20 [x0, x1, x2, x3, x4, x5, x6, x7, x8, x9, x10] (va_rf (mh_r h o 6) :: st) h) := (mw_at mj_199_17).trans (z_getr (by decide) (by decide) rfl)
theorem mj_199_20 : mc_P 199 20 = some (.iload_n 1, 1, 0, 0, 0) := by decide +kernel
theorem s_199_20 {x0 x2 x3 x4 x5 x6 x7 x8 x9 x10 : Option Value} {w : Value} : mw d 199 Q 20 [x0, some w, x2, x3, x4, x5, x6, x7, x8, x9, x10] (st) h = mv_i w (mw d 199 Q 21 [x0, some w, x2, x3, x4, x5, x6, x7, x8, x9, x10] (w :: st) h) := (mw_at mj_199_20).trans (z_iload_n rfl)
theorem mj_199_21 : mc_P 199 21 = some (.aaload, 1, 0, 0, 0) := by decide +kernel
theorem s_199_21 {x0 x1 x2 x3 x4 x5 x6 x7 x8 x9 x10 : Option Value} {o : Nat} {i : Int32} : mw d 199 Q 21 [x0, x1, x2, x3, x4, x5, x6, x7, x8, x9, x10] (.int i :: .ref o :: st) h = (mgr h o ∧ mx i (mh_l h o) ∧ mw d 199 Q 22 [x0, x1, x2, x3, x4, x5, x6, x7, x8, x9, x10] (mrd (mh_k h o) h o i.toNatClampNeg :: st) h) := (mw_at mj_199_21).trans (z_aald)
theorem mj_199_22 : mc_P 199 22 = some (.astore 8, 2, 0, 0, 0) := by decide +kernel
theorem s_199_22 {x0 x1 x2 x3 x4 x5 x6 x7 x8 x9 x10 : Option Value} {w : Nat} : mw d 199 Q 22 [x0, x1, x2, x3, x4, x5, x6, x7, x8, x9, x10] (.ref w :: st) h = mw d 199 Q 24 [x0, x1, x2, x3, x4, x5, x6, mk2 x7, some (.ref w), x9, x10] (st) h := (mw_at mj_199_22).trans (z_astore (Nat.le_of_ble_eq_true rfl) (me_s1_mk (j := 7) (w := x7) rfl))
theorem s_199_22n {x0 x1 x2 x3 x4 x5 x6 x7 x8 x9 x10 : Option Value} : mw d 199 Q 22 [x0, x1, x2, x3, x4, x5, x6, x7, x8, x9, x10] (.null :: st) h = mw d 199 Q 24 [x0, x1, x2, x3, x4, x5, x6, mk2 x7, some (.null), x9, x10] (st) h := (mw_at mj_199_22).trans (z_astoreN (Nat.le_of_ble_eq_true rfl) (me_s1_mk (j := 7) (w := x7) rfl))
theorem s_199_22x {x0 x1 x2 x3 x4 x5 x6 x7 x8 x9 x10 : Option Value} {w : Nat} : mw d 199 Q 22 [x0, x1, x2, x3, x4, x5, x6, x7, x8, x9, x10] (.retAddr w :: st) h = mw d 199 Q 24 [x0, x1, x2, x3, x4, x5, x6, mk2 x7, some (.retAddr w), x9, x10] (st) h := (mw_at mj_199_22).trans (z_astoreX (Nat.le_of_ble_eq_true rfl) (me_s1_mk (j := 7) (w := x7) rfl))
theorem mj_199_24 : mc_P 199 24 = some (.iload_n 2, 1, 0, 0, 0) := by decide +kernel
theorem s_199_24 {x0 x1 x3 x4 x5 x6 x7 x8 x9 x10 : Option Value} {w : Value} : mw d 199 Q 24 [x0, x1, some w, x3, x4, x5, x6, x7, x8, x9, x10] (st) h = mv_i w (mw d 199 Q 25 [x0, x1, some w, x3, x4, x5, x6, x7, x8, x9, x10] (w :: st) h) := (mw_at mj_199_24).trans (z_iload_n rfl)
theorem mj_199_25 : mc_P 199 25 = some (.iload_n 3, 1, 0, 0, 0) := by decide +kernel
theorem s_199_25 {x0 x1 x2 x4 x5 x6 x7 x8 x9 x10 : Option Value} {w : Value} : mw d 199 Q 25 [x0, x1, x2, some w, x4, x5, x6, x7, x8, x9, x10] (st) h = mv_i w (mw d 199 Q 26 [x0, x1, x2, some w, x4, x5, x6, x7, x8, x9, x10] (w :: st) h) := (mw_at mj_199_25).trans (z_iload_n rfl)
theorem mj_199_26 : mc_P 199 26 = some (.invokestatic 174, 3, 195, 0, 2) := by decide +kernel
theorem s_199_26 {x0 x1 x2 x3 x4 x5 x6 x7 x8 x9 x10 : Option Value} {a0 a1 : Value} : mw (d + 1) 199 Q 26 [x0, x1, x2, x3, x4, x5, x6, x7, x8, x9, x10] (a1 :: a0 :: st) h = (mca st 8 ∧ mca [a0, a1] 2 ∧ mcall d 195 [a0, a1] h (mK (d + 1) 199 Q 29 [x0, x1, x2, x3, x4, x5, x6, x7, x8, x9, x10] st)) := (mw_at mj_199_26).trans ((z_invs (As := [a0, a1]) rfl rfl).trans (congrArg (And _) (mC_nl nl_195)))
theorem mj_199_29 : mc_P 199 29 = some (.istore 9, 2, 0, 0, 0) := by decide +kernel
theorem s_199_29 {x0 x1 x2 x3 x4 x5 x6 x7 x8 x9 x10 : Option Value} {w : Int32} : mw d 199 Q 29 [x0, x1, x2, x3, x4, x5, x6, x7, x8, x9, x10] (.int w :: st) h = mw d 199 Q 31 [x0, x1, x2, x3, x4, x5, x6, x7, mk2 x8, some (.int w), x10] (st) h := (mw_at mj_199_29).trans (z_istore (Nat.le_of_ble_eq_true rfl) (me_s1_mk (j := 8) (w := x8) rfl))
theorem mj_199_31 : mc_P 199 31 = some (.iload 4, 2, 0, 0, 0) := by decide +kernel
theorem s_199_31 {x0 x1 x2 x3 x5 x6 x7 x8 x9 x10 : Option Value} {w : Value} : mw d 199 Q 31 [x0, x1, x2, x3, some w, x5, x6, x7, x8, x9, x10] (st) h = mv_i w (mw d 199 Q 33 [x0, x1, x2, x3, some w, x5, x6, x7, x8, x9, x10] (w :: st) h) := (mw_at mj_199_31).trans (z_iload rfl)
theorem mj_199_33 : mc_P 199 33 = some (.iload 5, 2, 0, 0, 0) := by decide +kernel
theorem s_199_33 {x0 x1 x2 x3 x4 x6 x7 x8 x9 x10 : Option Value} {w : Value} : mw d 199 Q 33 [x0, x1, x2, x3, x4, some w, x6, x7, x8, x9, x10] (st) h = mv_i w (mw d 199 Q 35 [x0, x1, x2, x3, x4, some w, x6, x7, x8, x9, x10] (w :: st) h) := (mw_at mj_199_33).trans (z_iload rfl)
theorem mj_199_35 : mc_P 199 35 = some (.invokestatic 174, 3, 195, 0, 2) := by decide +kernel
theorem s_199_35 {x0 x1 x2 x3 x4 x5 x6 x7 x8 x9 x10 : Option Value} {a0 a1 : Value} : mw (d + 1) 199 Q 35 [x0, x1, x2, x3, x4, x5, x6, x7, x8, x9, x10] (a1 :: a0 :: st) h = (mca st 8 ∧ mca [a0, a1] 2 ∧ mcall d 195 [a0, a1] h (mK (d + 1) 199 Q 38 [x0, x1, x2, x3, x4, x5, x6, x7, x8, x9, x10] st)) := (mw_at mj_199_35).trans ((z_invs (As := [a0, a1]) rfl rfl).trans (congrArg (And _) (mC_nl nl_195)))
theorem mj_199_38 : mc_P 199 38 = some (.istore 10, 2, 0, 0, 0) := by decide +kernel
theorem s_199_38 {x0 x1 x2 x3 x4 x5 x6 x7 x8 x9 x10 : Option Value} {w : Int32} : mw d 199 Q 38 [x0, x1, x2, x3, x4, x5, x6, x7, x8, x9, x10] (.int w :: st) h = mw d 199 Q 40 [x0, x1, x2, x3, x4, x5, x6, x7, x8, mk2 x9, some (.int w)] (st) h := (mw_at mj_199_38).trans (z_istore (Nat.le_of_ble_eq_true rfl) (me_s1_mk (j := 9) (w := x9) rfl))
theorem mj_199_40 : mc_P 199 40 = some (.aload 8, 2, 0, 0, 0) := by decide +kernel
theorem s_199_40 {x0 x1 x2 x3 x4 x5 x6 x7 x9 x10 : Option Value} {w : Value} : mw d 199 Q 40 [x0, x1, x2, x3, x4, x5, x6, x7, some w, x9, x10] (st) h = mv_a w (mw d 199 Q 42 [x0, x1, x2, x3, x4, x5, x6, x7, some w, x9, x10] (w :: st) h) := (mw_at mj_199_40).trans (z_aload rfl)
theorem mj_199_42 : mc_P 199 42 = some (.getfield 161, 3, 8, 0, 0) := by decide +kernel
theorem s_199_42 {x0 x1 x2 x3 x4 x5 x6 x7 x8 x9 x10 : Option Value} {o : Nat} : mw d 199 Q 42 [x0, x1, x2, x3, x4, x5, x6, x7, x8, x9, x10] (.ref o :: st) h = (mg h o 8 ∧ mw d 199 Q 45 [x0, x1, x2, x3, x4, x5, x6, x7, x8, x9, x10] (.int (mh_i h o 0) :: st) h) := (mw_at mj_199_42).trans (z_geti (by decide) (by decide) (Or.inr rfl))
theorem mj_199_45 : mc_P 199 45 = some (.ifCond .ne 18, 3, 0, 0, 0) := by decide +kernel
theorem s_199_45 {x0 x1 x2 x3 x4 x5 x6 x7 x8 x9 x10 : Option Value} {x : Int32} : mw d 199 Q 45 [x0, x1, x2, x3, x4, x5, x6, x7, x8, x9, x10] (.int x :: st) h = mB (¬ x = 0) (mw d 199 Q) 63 48 [x0, x1, x2, x3, x4, x5, x6, x7, x8, x9, x10] st h := (mw_at mj_199_45).trans (z_if_ne (by decide) rfl)
theorem mj_199_48 : mc_P 199 48 = some (.lload 6, 2, 0, 0, 0) := by decide +kernel
theorem s_199_48 {x0 x1 x2 x3 x4 x5 x7 x8 x9 x10 : Option Value} {w : Value} : mw d 199 Q 48 [x0, x1, x2, x3, x4, x5, some w, x7, x8, x9, x10] (st) h = mv_l w (mw d 199 Q 50 [x0, x1, x2, x3, x4, x5, some w, x7, x8, x9, x10] (w :: st) h) := (mw_at mj_199_48).trans (z_lload rfl)
theorem mj_199_50 : mc_P 199 50 = some (.aload 8, 2, 0, 0, 0) := by decide +kernel
theorem s_199_50 {x0 x1 x2 x3 x4 x5 x6 x7 x9 x10 : Option Value} {w : Value} : mw d 199 Q 50 [x0, x1, x2, x3, x4, x5, x6, x7, some w, x9, x10] (st) h = mv_a w (mw d 199 Q 52 [x0, x1, x2, x3, x4, x5, x6, x7, some w, x9, x10] (w :: st) h) := (mw_at mj_199_50).trans (z_aload rfl)
theorem mj_199_52 : mc_P 199 52 = some (.iload 9, 2, 0, 0, 0) := by decide +kernel
theorem s_199_52 {x0 x1 x2 x3 x4 x5 x6 x7 x8 x10 : Option Value} {w : Value} : mw d 199 Q 52 [x0, x1, x2, x3, x4, x5, x6, x7, x8, some w, x10] (st) h = mv_i w (mw d 199 Q 54 [x0, x1, x2, x3, x4, x5, x6, x7, x8, some w, x10] (w :: st) h) := (mw_at mj_199_52).trans (z_iload rfl)
theorem mj_199_54 : mc_P 199 54 = some (.iload 10, 2, 0, 0, 0) := by decide +kernel
theorem s_199_54 {x0 x1 x2 x3 x4 x5 x6 x7 x8 x9 : Option Value} {w : Value} : mw d 199 Q 54 [x0, x1, x2, x3, x4, x5, x6, x7, x8, x9, some w] (st) h = mv_i w (mw d 199 Q 56 [x0, x1, x2, x3, x4, x5, x6, x7, x8, x9, some w] (w :: st) h) := (mw_at mj_199_54).trans (z_iload rfl)
theorem mj_199_56 : mc_P 199 56 = some (.invokevirtual 178, 3, 146, 8, 3) := by decide +kernel
theorem s_199_56 {x0 x1 x2 x3 x4 x5 x6 x7 x8 x9 x10 : Option Value} {o : Nat} {a1 a2 : Value} : mw (d + 1) 199 Q 56 [x0, x1, x2, x3, x4, x5, x6, x7, x8, x9, x10] (a2 :: a1 :: .ref o :: st) h = (mg h o 8 ∧ mca st 8 ∧ mca [.ref o, a1, a2] 5 ∧ mcall d 146 [.ref o, a1, a2] h (mK (d + 1) 199 Q 59 [x0, x1, x2, x3, x4, x5, x6, x7, x8, x9, x10] st)) := (mw_at mj_199_56).trans ((z_invv (As := [a1, a2]) (by decide) rfl rfl).trans (congrArg (And _) (congrArg (And _) (mC_nl nl_146))))
theorem mj_199_59 : mc_P 199 59 = some (.lcmp, 1, 0, 0, 0) := by decide +kernel
theorem s_199_59 {x0 x1 x2 x3 x4 x5 x6 x7 x8 x9 x10 : Option Value} {x w : Int64} : mw d 199 Q 59 [x0, x1, x2, x3, x4, x5, x6, x7, x8, x9, x10] (.long w :: .long x :: st) h = mw d 199 Q 60 [x0, x1, x2, x3, x4, x5, x6, x7, x8, x9, x10] (.int (lg_cmp x w) :: st) h := (mw_at mj_199_59).trans (z_lcmp)
theorem mj_199_60 : mc_P 199 60 = some (.ifCond .lt 5, 3, 0, 0, 0) := by decide +kernel
theorem s_199_60 {x0 x1 x2 x3 x4 x5 x6 x7 x8 x9 x10 : Option Value} {x : Int32} : mw d 199 Q 60 [x0, x1, x2, x3, x4, x5, x6, x7, x8, x9, x10] (.int x :: st) h = mB (x < 0) (mw d 199 Q) 65 63 [x0, x1, x2, x3, x4, x5, x6, x7, x8, x9, x10] st h := (mw_at mj_199_60).trans (z_if_lt (by decide) rfl)
theorem mj_199_63 : mc_P 199 63 = some (.iconst 0, 1, 0, 0, 0) := by decide +kernel
theorem s_199_63 {x0 x1 x2 x3 x4 x5 x6 x7 x8 x9 x10 : Option Value} : mw d 199 Q 63 [x0, x1, x2, x3, x4, x5, x6, x7, x8, x9, x10] (st) h = mw d 199 Q 64 [x0, x1, x2, x3, x4, x5, x6, x7, x8, x9, x10] (.int 0 :: st) h := (mw_at mj_199_63).trans (z_iconst (by decide))
theorem mj_199_64 : mc_P 199 64 = some (.ireturn, 1, 0, 0, 0) := by decide +kernel
theorem s_199_64 {x0 x1 x2 x3 x4 x5 x6 x7 x8 x9 x10 : Option Value} {x : Int32} : mw d 199 Q 64 [x0, x1, x2, x3, x4, x5, x6, x7, x8, x9, x10] ([.int x]) h = (Q (some (.int x)) h) := (mw_at mj_199_64).trans (z_iret)
theorem mj_199_65 : mc_P 199 65 = some (.lload 6, 2, 0, 0, 0) := by decide +kernel
theorem s_199_65 {x0 x1 x2 x3 x4 x5 x7 x8 x9 x10 : Option Value} {w : Value} : mw d 199 Q 65 [x0, x1, x2, x3, x4, x5, some w, x7, x8, x9, x10] (st) h = mv_l w (mw d 199 Q 67 [x0, x1, x2, x3, x4, x5, some w, x7, x8, x9, x10] (w :: st) h) := (mw_at mj_199_65).trans (z_lload rfl)
theorem mj_199_67 : mc_P 199 67 = some (.aload 8, 2, 0, 0, 0) := by decide +kernel
theorem s_199_67 {x0 x1 x2 x3 x4 x5 x6 x7 x9 x10 : Option Value} {w : Value} : mw d 199 Q 67 [x0, x1, x2, x3, x4, x5, x6, x7, some w, x9, x10] (st) h = mv_a w (mw d 199 Q 69 [x0, x1, x2, x3, x4, x5, x6, x7, some w, x9, x10] (w :: st) h) := (mw_at mj_199_67).trans (z_aload rfl)
theorem mj_199_69 : mc_P 199 69 = some (.iload 9, 2, 0, 0, 0) := by decide +kernel
theorem s_199_69 {x0 x1 x2 x3 x4 x5 x6 x7 x8 x10 : Option Value} {w : Value} : mw d 199 Q 69 [x0, x1, x2, x3, x4, x5, x6, x7, x8, some w, x10] (st) h = mv_i w (mw d 199 Q 71 [x0, x1, x2, x3, x4, x5, x6, x7, x8, some w, x10] (w :: st) h) := (mw_at mj_199_69).trans (z_iload rfl)
theorem mj_199_71 : mc_P 199 71 = some (.iconst 1, 1, 0, 0, 0) := by decide +kernel
theorem s_199_71 {x0 x1 x2 x3 x4 x5 x6 x7 x8 x9 x10 : Option Value} : mw d 199 Q 71 [x0, x1, x2, x3, x4, x5, x6, x7, x8, x9, x10] (st) h = mw d 199 Q 72 [x0, x1, x2, x3, x4, x5, x6, x7, x8, x9, x10] (.int 1 :: st) h := (mw_at mj_199_71).trans (z_iconst (by decide))
theorem mj_199_72 : mc_P 199 72 = some (.ixor, 1, 0, 0, 0) := by decide +kernel
theorem s_199_72 {x0 x1 x2 x3 x4 x5 x6 x7 x8 x9 x10 : Option Value} {x w : Int32} : mw d 199 Q 72 [x0, x1, x2, x3, x4, x5, x6, x7, x8, x9, x10] (.int w :: .int x :: st) h = mw d 199 Q 73 [x0, x1, x2, x3, x4, x5, x6, x7, x8, x9, x10] (.int (x ^^^ w) :: st) h := (mw_at mj_199_72).trans (z_ixor)
theorem mj_199_73 : mc_P 199 73 = some (.iload 10, 2, 0, 0, 0) := by decide +kernel
theorem s_199_73 {x0 x1 x2 x3 x4 x5 x6 x7 x8 x9 : Option Value} {w : Value} : mw d 199 Q 73 [x0, x1, x2, x3, x4, x5, x6, x7, x8, x9, some w] (st) h = mv_i w (mw d 199 Q 75 [x0, x1, x2, x3, x4, x5, x6, x7, x8, x9, some w] (w :: st) h) := (mw_at mj_199_73).trans (z_iload rfl)
theorem mj_199_75 : mc_P 199 75 = some (.iconst 1, 1, 0, 0, 0) := by decide +kernel
theorem s_199_75 {x0 x1 x2 x3 x4 x5 x6 x7 x8 x9 x10 : Option Value} : mw d 199 Q 75 [x0, x1, x2, x3, x4, x5, x6, x7, x8, x9, x10] (st) h = mw d 199 Q 76 [x0, x1, x2, x3, x4, x5, x6, x7, x8, x9, x10] (.int 1 :: st) h := (mw_at mj_199_75).trans (z_iconst (by decide))
theorem mj_199_76 : mc_P 199 76 = some (.ixor, 1, 0, 0, 0) := by decide +kernel
theorem s_199_76 {x0 x1 x2 x3 x4 x5 x6 x7 x8 x9 x10 : Option Value} {x w : Int32} : mw d 199 Q 76 [x0, x1, x2, x3, x4, x5, x6, x7, x8, x9, x10] (.int w :: .int x :: st) h = mw d 199 Q 77 [x0, x1, x2, x3, x4, x5, x6, x7, x8, x9, x10] (.int (x ^^^ w) :: st) h := (mw_at mj_199_76).trans (z_ixor)
theorem mj_199_77 : mc_P 199 77 = some (.invokevirtual 178, 3, 146, 8, 3) := by decide +kernel
theorem s_199_77 {x0 x1 x2 x3 x4 x5 x6 x7 x8 x9 x10 : Option Value} {o : Nat} {a1 a2 : Value} : mw (d + 1) 199 Q 77 [x0, x1, x2, x3, x4, x5, x6, x7, x8, x9, x10] (a2 :: a1 :: .ref o :: st) h = (mg h o 8 ∧ mca st 8 ∧ mca [.ref o, a1, a2] 5 ∧ mcall d 146 [.ref o, a1, a2] h (mK (d + 1) 199 Q 80 [x0, x1, x2, x3, x4, x5, x6, x7, x8, x9, x10] st)) := (mw_at mj_199_77).trans ((z_invv (As := [a1, a2]) (by decide) rfl rfl).trans (congrArg (And _) (congrArg (And _) (mC_nl nl_146))))
theorem mj_199_80 : mc_P 199 80 = some (.lneg, 1, 0, 0, 0) := by decide +kernel
theorem s_199_80 {x0 x1 x2 x3 x4 x5 x6 x7 x8 x9 x10 : Option Value} {x : Int64} : mw d 199 Q 80 [x0, x1, x2, x3, x4, x5, x6, x7, x8, x9, x10] (.long x :: st) h = mw d 199 Q 81 [x0, x1, x2, x3, x4, x5, x6, x7, x8, x9, x10] (.long (-x) :: st) h := (mw_at mj_199_80).trans (z_lneg)
theorem mj_199_81 : mc_P 199 81 = some (.lcmp, 1, 0, 0, 0) := by decide +kernel
theorem s_199_81 {x0 x1 x2 x3 x4 x5 x6 x7 x8 x9 x10 : Option Value} {x w : Int64} : mw d 199 Q 81 [x0, x1, x2, x3, x4, x5, x6, x7, x8, x9, x10] (.long w :: .long x :: st) h = mw d 199 Q 82 [x0, x1, x2, x3, x4, x5, x6, x7, x8, x9, x10] (.int (lg_cmp x w) :: st) h := (mw_at mj_199_81).trans (z_lcmp)
theorem mj_199_82 : mc_P 199 82 = some (.ifCond .ge 12, 3, 0, 0, 0) := by decide +kernel
theorem s_199_82 {x0 x1 x2 x3 x4 x5 x6 x7 x8 x9 x10 : Option Value} {x : Int32} : mw d 199 Q 82 [x0, x1, x2, x3, x4, x5, x6, x7, x8, x9, x10] (.int x :: st) h = mB (0 ≤ x) (mw d 199 Q) 94 85 [x0, x1, x2, x3, x4, x5, x6, x7, x8, x9, x10] st h := (mw_at mj_199_82).trans (z_if_ge (by decide) rfl)
theorem mj_199_85 : mc_P 199 85 = some (.aload 8, 2, 0, 0, 0) := by decide +kernel
theorem s_199_85 {x0 x1 x2 x3 x4 x5 x6 x7 x9 x10 : Option Value} {w : Value} : mw d 199 Q 85 [x0, x1, x2, x3, x4, x5, x6, x7, some w, x9, x10] (st) h = mv_a w (mw d 199 Q 87 [x0, x1, x2, x3, x4, x5, x6, x7, some w, x9, x10] (w :: st) h) := (mw_at mj_199_85).trans (z_aload rfl)
theorem mj_199_87 : mc_P 199 87 = some (.iconst 1, 1, 0, 0, 0) := by decide +kernel
theorem s_199_87 {x0 x1 x2 x3 x4 x5 x6 x7 x8 x9 x10 : Option Value} : mw d 199 Q 87 [x0, x1, x2, x3, x4, x5, x6, x7, x8, x9, x10] (st) h = mw d 199 Q 88 [x0, x1, x2, x3, x4, x5, x6, x7, x8, x9, x10] (.int 1 :: st) h := (mw_at mj_199_87).trans (z_iconst (by decide))
theorem mj_199_88 : mc_P 199 88 = some (.putfield 161, 3, 8, 0, 0) := by decide +kernel
theorem s_199_88 {x0 x1 x2 x3 x4 x5 x6 x7 x8 x9 x10 : Option Value} {o : Nat} {w : Int32} : mw d 199 Q 88 [x0, x1, x2, x3, x4, x5, x6, x7, x8, x9, x10] (.int w :: .ref o :: st) h = (mg h o 8 ∧ (w = 0 ∨ w = 1) ∧ mw d 199 Q 91 [x0, x1, x2, x3, x4, x5, x6, x7, x8, x9, x10] (st) (mh_si h o 0 w)) := (mw_at mj_199_88).trans (z_putz (by decide) (by decide) rfl)
theorem mj_199_91 : mc_P 199 91 = some (.goto 26, 3, 0, 0, 0) := by decide +kernel
theorem s_199_91 {x0 x1 x2 x3 x4 x5 x6 x7 x8 x9 x10 : Option Value} : mw d 199 Q 91 [x0, x1, x2, x3, x4, x5, x6, x7, x8, x9, x10] (st) h = mw d 199 Q 117 [x0, x1, x2, x3, x4, x5, x6, x7, x8, x9, x10] (st) h := (mw_at mj_199_91).trans (z_goto (by decide))
theorem mj_199_94 : mc_P 199 94 = some (.aload 8, 2, 0, 0, 0) := by decide +kernel
theorem s_199_94 {x0 x1 x2 x3 x4 x5 x6 x7 x9 x10 : Option Value} {w : Value} : mw d 199 Q 94 [x0, x1, x2, x3, x4, x5, x6, x7, some w, x9, x10] (st) h = mv_a w (mw d 199 Q 96 [x0, x1, x2, x3, x4, x5, x6, x7, some w, x9, x10] (w :: st) h) := (mw_at mj_199_94).trans (z_aload rfl)
theorem mj_199_96 : mc_P 199 96 = some (.iload 9, 2, 0, 0, 0) := by decide +kernel
theorem s_199_96 {x0 x1 x2 x3 x4 x5 x6 x7 x8 x10 : Option Value} {w : Value} : mw d 199 Q 96 [x0, x1, x2, x3, x4, x5, x6, x7, x8, some w, x10] (st) h = mv_i w (mw d 199 Q 98 [x0, x1, x2, x3, x4, x5, x6, x7, x8, some w, x10] (w :: st) h) := (mw_at mj_199_96).trans (z_iload rfl)
theorem mj_199_98 : mc_P 199 98 = some (.iload 10, 2, 0, 0, 0) := by decide +kernel
theorem s_199_98 {x0 x1 x2 x3 x4 x5 x6 x7 x8 x9 : Option Value} {w : Value} : mw d 199 Q 98 [x0, x1, x2, x3, x4, x5, x6, x7, x8, x9, some w] (st) h = mv_i w (mw d 199 Q 100 [x0, x1, x2, x3, x4, x5, x6, x7, x8, x9, some w] (w :: st) h) := (mw_at mj_199_98).trans (z_iload rfl)
theorem mj_199_100 : mc_P 199 100 = some (.lload 6, 2, 0, 0, 0) := by decide +kernel
theorem s_199_100 {x0 x1 x2 x3 x4 x5 x7 x8 x9 x10 : Option Value} {w : Value} : mw d 199 Q 100 [x0, x1, x2, x3, x4, x5, some w, x7, x8, x9, x10] (st) h = mv_l w (mw d 199 Q 102 [x0, x1, x2, x3, x4, x5, some w, x7, x8, x9, x10] (w :: st) h) := (mw_at mj_199_100).trans (z_lload rfl)
theorem mj_199_102 : mc_P 199 102 = some (.invokevirtual 190, 3, 147, 8, 4) := by decide +kernel
theorem s_199_102 {x0 x1 x2 x3 x4 x5 x6 x7 x8 x9 x10 : Option Value} {o : Nat} {a1 a2 a3 : Value} : mw (d + 1) 199 Q 102 [x0, x1, x2, x3, x4, x5, x6, x7, x8, x9, x10] (a3 :: a2 :: a1 :: .ref o :: st) h = (mg h o 8 ∧ mca st 8 ∧ mca [.ref o, a1, a2, a3] 8 ∧ mcall d 147 [.ref o, a1, a2, a3] h (mK (d + 1) 199 Q 105 [x0, x1, x2, x3, x4, x5, x6, x7, x8, x9, x10] st)) := (mw_at mj_199_102).trans ((z_invv (As := [a1, a2, a3]) (by decide) rfl rfl).trans (congrArg (And _) (congrArg (And _) (mC_nl nl_147))))
theorem mj_199_105 : mc_P 199 105 = some (.aload 8, 2, 0, 0, 0) := by decide +kernel
theorem s_199_105 {x0 x1 x2 x3 x4 x5 x6 x7 x9 x10 : Option Value} {w : Value} : mw d 199 Q 105 [x0, x1, x2, x3, x4, x5, x6, x7, some w, x9, x10] (st) h = mv_a w (mw d 199 Q 107 [x0, x1, x2, x3, x4, x5, x6, x7, some w, x9, x10] (w :: st) h) := (mw_at mj_199_105).trans (z_aload rfl)
theorem mj_199_107 : mc_P 199 107 = some (.aload_n 0, 1, 0, 0, 0) := by decide +kernel
theorem s_199_107 {x1 x2 x3 x4 x5 x6 x7 x8 x9 x10 : Option Value} {w : Value} : mw d 199 Q 107 [some w, x1, x2, x3, x4, x5, x6, x7, x8, x9, x10] (st) h = mv_a w (mw d 199 Q 108 [some w, x1, x2, x3, x4, x5, x6, x7, x8, x9, x10] (w :: st) h) := (mw_at mj_199_107).trans (z_aload_n rfl)
theorem mj_199_108 : mc_P 199 108 = some (.getfield 25, 3, 11, 3, 0) := by decide +kernel
theorem s_199_108 {x0 x1 x2 x3 x4 x5 x6 x7 x8 x9 x10 : Option Value} {o : Nat} : mw d 199 Q 108 [x0, x1, x2, x3, x4, x5, x6, x7, x8, x9, x10] (.ref o :: st) h = (mg h o 11 ∧ mw d 199 Q 111 [x0, x1, x2, x3, x4, x5, x6, x7, x8, x9, x10] (va_rf (mh_r h o 3) :: st) h) := (mw_at mj_199_108).trans (z_getr (by decide) (by decide) rfl)
theorem mj_199_111 : mc_P 199 111 = some (.getfield 194, 3, 1, 7, 0) := by decide +kernel
theorem s_199_111 {x0 x1 x2 x3 x4 x5 x6 x7 x8 x9 x10 : Option Value} {o : Nat} : mw d 199 Q 111 [x0, x1, x2, x3, x4, x5, x6, x7, x8, x9, x10] (.ref o :: st) h = (mg h o 1 ∧ mw d 199 Q 114 [x0, x1, x2, x3, x4, x5, x6, x7, x8, x9, x10] (va_rf (mh_r h o 7) :: st) h) := (mw_at mj_199_111).trans (z_getr (by decide) (by decide) rfl)
theorem mj_199_114 : mc_P 199 114 = some (.invokevirtual 197, 3, 159, 8, 2) := by decide +kernel
theorem s_199_114 {x0 x1 x2 x3 x4 x5 x6 x7 x8 x9 x10 : Option Value} {o : Nat} {a1 : Value} : mw (d + 1) 199 Q 114 [x0, x1, x2, x3, x4, x5, x6, x7, x8, x9, x10] (a1 :: .ref o :: st) h = (mg h o 8 ∧ mca st 8 ∧ mca [.ref o, a1] 3 ∧ mcall d 159 [.ref o, a1] h (mK (d + 1) 199 Q 117 [x0, x1, x2, x3, x4, x5, x6, x7, x8, x9, x10] st)) := (mw_at mj_199_114).trans ((z_invv (As := [a1]) (by decide) rfl rfl).trans (congrArg (And _) (congrArg (And _) (mC_nl nl_159))))
theorem mj_199_117 : mc_P 199 117 = some (.aload_n 0, 1, 0, 0, 0) := by decide +kernel
theorem s_199_117 {x1 x2 x3 x4 x5 x6 x7 x8 x9 x10 : Option Value} {w : Value} : mw d 199 Q 117 [some w, x1, x2, x3, x4, x5, x6, x7, x8, x9, x10] (st) h = mv_a w (mw d 199 Q 118 [some w, x1, x2, x3, x4, x5, x6, x7, x8, x9, x10] (w :: st) h) := (mw_at mj_199_117).trans (z_aload_n rfl)
theorem mj_199_118 : mc_P 199 118 = some (.invokevirtual 201, 3, 188, 11, 1) := by decide +kernel
theorem s_199_118 {x0 x1 x2 x3 x4 x5 x6 x7 x8 x9 x10 : Option Value} {o : Nat} : mw (d + 1) 199 Q 118 [x0, x1, x2, x3, x4, x5, x6, x7, x8, x9, x10] (.ref o :: st) h = (mg h o 11 ∧ mca st 8 ∧ mca [.ref o] 1 ∧ mcall d 188 [.ref o] h (mK (d + 1) 199 Q 121 [x0, x1, x2, x3, x4, x5, x6, x7, x8, x9, x10] st)) := (mw_at mj_199_118).trans ((z_invv (As := []) (by decide) rfl rfl).trans (congrArg (And _) (congrArg (And _) (mC_nl nl_188))))
theorem mj_199_121 : mc_P 199 121 = some (.iconst 1, 1, 0, 0, 0) := by decide +kernel
theorem s_199_121 {x0 x1 x2 x3 x4 x5 x6 x7 x8 x9 x10 : Option Value} : mw d 199 Q 121 [x0, x1, x2, x3, x4, x5, x6, x7, x8, x9, x10] (st) h = mw d 199 Q 122 [x0, x1, x2, x3, x4, x5, x6, x7, x8, x9, x10] (.int 1 :: st) h := (mw_at mj_199_121).trans (z_iconst (by decide))
theorem mj_199_122 : mc_P 199 122 = some (.ireturn, 1, 0, 0, 0) := by decide +kernel
theorem s_199_122 {x0 x1 x2 x3 x4 x5 x6 x7 x8 x9 x10 : Option Value} {x : Int32} : mw d 199 Q 122 [x0, x1, x2, x3, x4, x5, x6, x7, x8, x9, x10] ([.int x]) h = (Q (some (.int x)) h) := (mw_at mj_199_122).trans (z_iret)
theorem e_199 {a0 : Nat} {a1 : Int32} {a2 : Int32} {a3 : Int32} {a4 : Int32} {a5 : Int32} {a6 : Int64} : mcall d 199 [.ref a0, .int a1, .int a2, .int a3, .int a4, .int a5, .long a6] h Q = mw d 199 Q 0 [some (.ref a0), some (.int a1), some (.int a2), some (.int a3), some (.int a4), some (.int a5), some (.long a6), none, none, none, none] [] h := by
  show mw d 199 Q 0 (me_en (mc_nl 199) _) [] h = _
  rw [nl_199]; rfl

/-! InvariantDesk.claimRange(IIZI)I -/
theorem mj_200_0 : mc_P 200 0 = some (.aload_n 0, 1, 0, 0, 0) := by decide +kernel
theorem s_200_0 {x1 x2 x3 x4 x5 x6 : Option Value} {w : Value} : mw d 200 Q 0 [some w, x1, x2, x3, x4, x5, x6] (st) h = mv_a w (mw d 200 Q 1 [some w, x1, x2, x3, x4, x5, x6] (w :: st) h) := (mw_at mj_200_0).trans (z_aload_n rfl)
theorem mj_200_1 : mc_P 200 1 = some (.iload_n 1, 1, 0, 0, 0) := by decide +kernel
theorem s_200_1 {x0 x2 x3 x4 x5 x6 : Option Value} {w : Value} : mw d 200 Q 1 [x0, some w, x2, x3, x4, x5, x6] (st) h = mv_i w (mw d 200 Q 2 [x0, some w, x2, x3, x4, x5, x6] (w :: st) h) := (mw_at mj_200_1).trans (z_iload_n rfl)
theorem mj_200_2 : mc_P 200 2 = some (.iload_n 2, 1, 0, 0, 0) := by decide +kernel
theorem s_200_2 {x0 x1 x3 x4 x5 x6 : Option Value} {w : Value} : mw d 200 Q 2 [x0, x1, some w, x3, x4, x5, x6] (st) h = mv_i w (mw d 200 Q 3 [x0, x1, some w, x3, x4, x5, x6] (w :: st) h) := (mw_at mj_200_2).trans (z_iload_n rfl)
theorem mj_200_3 : mc_P 200 3 = some (.invokevirtual 182, 3, 194, 11, 3) := by decide +kernel
theorem s_200_3 {x0 x1 x2 x3 x4 x5 x6 : Option Value} {o : Nat} {a1 a2 : Value} : mw (d + 1) 200 Q 3 [x0, x1, x2, x3, x4, x5, x6] (a2 :: a1 :: .ref o :: st) h = (mg h o 11 ∧ mca st 8 ∧ mca [.ref o, a1, a2] 3 ∧ mcall d 194 [.ref o, a1, a2] h (mK (d + 1) 200 Q 6 [x0, x1, x2, x3, x4, x5, x6] st)) := (mw_at mj_200_3).trans ((z_invv (As := [a1, a2]) (by decide) rfl rfl).trans (congrArg (And _) (congrArg (And _) (mC_nl nl_194))))
theorem mj_200_6 : mc_P 200 6 = some (.ifCond .ne 5, 3, 0, 0, 0) := by decide +kernel
theorem s_200_6 {x0 x1 x2 x3 x4 x5 x6 : Option Value} {x : Int32} : mw d 200 Q 6 [x0, x1, x2, x3, x4, x5, x6] (.int x :: st) h = mB (¬ x = 0) (mw d 200 Q) 11 9 [x0, x1, x2, x3, x4, x5, x6] st h := (mw_at mj_200_6).trans (z_if_ne (by decide) rfl)
theorem mj_200_9 : mc_P 200 9 = some (.iconst (-1), 1, 0, 0, 0) := by decide +kernel
theorem s_200_9 {x0 x1 x2 x3 x4 x5 x6 : Option Value} : mw d 200 Q 9 [x0, x1, x2, x3, x4, x5, x6] (st) h = mw d 200 Q 10 [x0, x1, x2, x3, x4, x5, x6] (.int (-1) :: st) h := (mw_at mj_200_9).trans (z_iconst (by decide))
theorem mj_200_10 : mc_P 200 10 = some (.ireturn, 1, 0, 0, 0) := by decide +kernel
theorem s_200_10 {x0 x1 x2 x3 x4 x5 x6 : Option Value} {x : Int32} : mw d 200 Q 10 [x0, x1, x2, x3, x4, x5, x6] ([.int x]) h = (Q (some (.int x)) h) := (mw_at mj_200_10).trans (z_iret)
theorem mj_200_11 : mc_P 200 11 = some (.aload_n 0, 1, 0, 0, 0) := by decide +kernel
theorem s_200_11 {x1 x2 x3 x4 x5 x6 : Option Value} {w : Value} : mw d 200 Q 11 [some w, x1, x2, x3, x4, x5, x6] (st) h = mv_a w (mw d 200 Q 12 [some w, x1, x2, x3, x4, x5, x6] (w :: st) h) := (mw_at mj_200_11).trans (z_aload_n rfl)
theorem mj_200_12 : mc_P 200 12 = some (.getfield 47, 3, 11, 6, 0) := by decide +kernel
theorem s_200_12 {x0 x1 x2 x3 x4 x5 x6 : Option Value} {o : Nat} : mw d 200 Q 12 [x0, x1, x2, x3, x4, x5, x6] (.ref o :: st) h = (mg h o 11 ∧ mw d 200 Q 15 [x0, x1, x2, x3, x4, x5, x6] (va_rf (mh_r h o 6) :: st) h) := (mw_at mj_200_12).trans (z_getr (by decide) (by decide) rfl)
theorem mj_200_15 : mc_P 200 15 = some (.iload_n 1, 1, 0, 0, 0) := by decide +kernel
theorem s_200_15 {x0 x2 x3 x4 x5 x6 : Option Value} {w : Value} : mw d 200 Q 15 [x0, some w, x2, x3, x4, x5, x6] (st) h = mv_i w (mw d 200 Q 16 [x0, some w, x2, x3, x4, x5, x6] (w :: st) h) := (mw_at mj_200_15).trans (z_iload_n rfl)
theorem mj_200_16 : mc_P 200 16 = some (.aaload, 1, 0, 0, 0) := by decide +kernel
theorem s_200_16 {x0 x1 x2 x3 x4 x5 x6 : Option Value} {o : Nat} {i : Int32} : mw d 200 Q 16 [x0, x1, x2, x3, x4, x5, x6] (.int i :: .ref o :: st) h = (mgr h o ∧ mx i (mh_l h o) ∧ mw d 200 Q 17 [x0, x1, x2, x3, x4, x5, x6] (mrd (mh_k h o) h o i.toNatClampNeg :: st) h) := (mw_at mj_200_16).trans (z_aald)
theorem mj_200_17 : mc_P 200 17 = some (.astore 5, 2, 0, 0, 0) := by decide +kernel
theorem s_200_17 {x0 x1 x2 x3 x4 x5 x6 : Option Value} {w : Nat} : mw d 200 Q 17 [x0, x1, x2, x3, x4, x5, x6] (.ref w :: st) h = mw d 200 Q 19 [x0, x1, x2, x3, mk2 x4, some (.ref w), x6] (st) h := (mw_at mj_200_17).trans (z_astore (Nat.le_of_ble_eq_true rfl) (me_s1_mk (j := 4) (w := x4) rfl))
theorem s_200_17n {x0 x1 x2 x3 x4 x5 x6 : Option Value} : mw d 200 Q 17 [x0, x1, x2, x3, x4, x5, x6] (.null :: st) h = mw d 200 Q 19 [x0, x1, x2, x3, mk2 x4, some (.null), x6] (st) h := (mw_at mj_200_17).trans (z_astoreN (Nat.le_of_ble_eq_true rfl) (me_s1_mk (j := 4) (w := x4) rfl))
theorem s_200_17x {x0 x1 x2 x3 x4 x5 x6 : Option Value} {w : Nat} : mw d 200 Q 17 [x0, x1, x2, x3, x4, x5, x6] (.retAddr w :: st) h = mw d 200 Q 19 [x0, x1, x2, x3, mk2 x4, some (.retAddr w), x6] (st) h := (mw_at mj_200_17).trans (z_astoreX (Nat.le_of_ble_eq_true rfl) (me_s1_mk (j := 4) (w := x4) rfl))
theorem mj_200_19 : mc_P 200 19 = some (.iload_n 3, 1, 0, 0, 0) := by decide +kernel
theorem s_200_19 {x0 x1 x2 x4 x5 x6 : Option Value} {w : Value} : mw d 200 Q 19 [x0, x1, x2, some w, x4, x5, x6] (st) h = mv_i w (mw d 200 Q 20 [x0, x1, x2, some w, x4, x5, x6] (w :: st) h) := (mw_at mj_200_19).trans (z_iload_n rfl)
theorem mj_200_20 : mc_P 200 20 = some (.ifCond .eq 11, 3, 0, 0, 0) := by decide +kernel
theorem s_200_20 {x0 x1 x2 x3 x4 x5 x6 : Option Value} {x : Int32} : mw d 200 Q 20 [x0, x1, x2, x3, x4, x5, x6] (.int x :: st) h = mB (x = 0) (mw d 200 Q) 31 23 [x0, x1, x2, x3, x4, x5, x6] st h := (mw_at mj_200_20).trans (z_if_eq (by decide) rfl)
theorem mj_200_23 : mc_P 200 23 = some (.iconst 2, 1, 0, 0, 0) := by decide +kernel
theorem s_200_23 {x0 x1 x2 x3 x4 x5 x6 : Option Value} : mw d 200 Q 23 [x0, x1, x2, x3, x4, x5, x6] (st) h = mw d 200 Q 24 [x0, x1, x2, x3, x4, x5, x6] (.int 2 :: st) h := (mw_at mj_200_23).trans (z_iconst (by decide))
theorem mj_200_24 : mc_P 200 24 = some (.iload_n 2, 1, 0, 0, 0) := by decide +kernel
theorem s_200_24 {x0 x1 x3 x4 x5 x6 : Option Value} {w : Value} : mw d 200 Q 24 [x0, x1, some w, x3, x4, x5, x6] (st) h = mv_i w (mw d 200 Q 25 [x0, x1, some w, x3, x4, x5, x6] (w :: st) h) := (mw_at mj_200_24).trans (z_iload_n rfl)
theorem mj_200_25 : mc_P 200 25 = some (.imul, 1, 0, 0, 0) := by decide +kernel
theorem s_200_25 {x0 x1 x2 x3 x4 x5 x6 : Option Value} {x w : Int32} : mw d 200 Q 25 [x0, x1, x2, x3, x4, x5, x6] (.int w :: .int x :: st) h = mw d 200 Q 26 [x0, x1, x2, x3, x4, x5, x6] (.int (x * w) :: st) h := (mw_at mj_200_25).trans (z_imul)
theorem mj_200_26 : mc_P 200 26 = some (.iconst 1, 1, 0, 0, 0) := by decide +kernel
theorem s_200_26 {x0 x1 x2 x3 x4 x5 x6 : Option Value} : mw d 200 Q 26 [x0, x1, x2, x3, x4, x5, x6] (st) h = mw d 200 Q 27 [x0, x1, x2, x3, x4, x5, x6] (.int 1 :: st) h := (mw_at mj_200_26).trans (z_iconst (by decide))
theorem mj_200_27 : mc_P 200 27 = some (.iadd, 1, 0, 0, 0) := by decide +kernel
theorem s_200_27 {x0 x1 x2 x3 x4 x5 x6 : Option Value} {x w : Int32} : mw d 200 Q 27 [x0, x1, x2, x3, x4, x5, x6] (.int w :: .int x :: st) h = mw d 200 Q 28 [x0, x1, x2, x3, x4, x5, x6] (.int (x + w) :: st) h := (mw_at mj_200_27).trans (z_iadd)
theorem mj_200_28 : mc_P 200 28 = some (.goto 6, 3, 0, 0, 0) := by decide +kernel
theorem s_200_28 {x0 x1 x2 x3 x4 x5 x6 : Option Value} : mw d 200 Q 28 [x0, x1, x2, x3, x4, x5, x6] (st) h = mw d 200 Q 34 [x0, x1, x2, x3, x4, x5, x6] (st) h := (mw_at mj_200_28).trans (z_goto (by decide))
theorem mj_200_31 : mc_P 200 31 = some (.iconst 2, 1, 0, 0, 0) := by decide +kernel
theorem s_200_31 {x0 x1 x2 x3 x4 x5 x6 : Option Value} : mw d 200 Q 31 [x0, x1, x2, x3, x4, x5, x6] (st) h = mw d 200 Q 32 [x0, x1, x2, x3, x4, x5, x6] (.int 2 :: st) h := (mw_at mj_200_31).trans (z_iconst (by decide))
theorem mj_200_32 : mc_P 200 32 = some (.iload_n 2, 1, 0, 0, 0) := by decide +kernel
theorem s_200_32 {x0 x1 x3 x4 x5 x6 : Option Value} {w : Value} : mw d 200 Q 32 [x0, x1, some w, x3, x4, x5, x6] (st) h = mv_i w (mw d 200 Q 33 [x0, x1, some w, x3, x4, x5, x6] (w :: st) h) := (mw_at mj_200_32).trans (z_iload_n rfl)
theorem mj_200_33 : mc_P 200 33 = some (.imul, 1, 0, 0, 0) := by decide +kernel
theorem s_200_33 {x0 x1 x2 x3 x4 x5 x6 : Option Value} {x w : Int32} : mw d 200 Q 33 [x0, x1, x2, x3, x4, x5, x6] (.int w :: .int x :: st) h = mw d 200 Q 34 [x0, x1, x2, x3, x4, x5, x6] (.int (x * w) :: st) h := (mw_at mj_200_33).trans (z_imul)
theorem mj_200_34 : mc_P 200 34 = some (.istore 6, 2, 0, 0, 0) := by decide +kernel
theorem s_200_34 {x0 x1 x2 x3 x4 x5 x6 : Option Value} {w : Int32} : mw d 200 Q 34 [x0, x1, x2, x3, x4, x5, x6] (.int w :: st) h = mw d 200 Q 36 [x0, x1, x2, x3, x4, mk2 x5, some (.int w)] (st) h := (mw_at mj_200_34).trans (z_istore (Nat.le_of_ble_eq_true rfl) (me_s1_mk (j := 5) (w := x5) rfl))
theorem mj_200_36 : mc_P 200 36 = some (.aload 5, 2, 0, 0, 0) := by decide +kernel
theorem s_200_36 {x0 x1 x2 x3 x4 x6 : Option Value} {w : Value} : mw d 200 Q 36 [x0, x1, x2, x3, x4, some w, x6] (st) h = mv_a w (mw d 200 Q 38 [x0, x1, x2, x3, x4, some w, x6] (w :: st) h) := (mw_at mj_200_36).trans (z_aload rfl)
theorem mj_200_38 : mc_P 200 38 = some (.getfield 161, 3, 8, 0, 0) := by decide +kernel
theorem s_200_38 {x0 x1 x2 x3 x4 x5 x6 : Option Value} {o : Nat} : mw d 200 Q 38 [x0, x1, x2, x3, x4, x5, x6] (.ref o :: st) h = (mg h o 8 ∧ mw d 200 Q 41 [x0, x1, x2, x3, x4, x5, x6] (.int (mh_i h o 0) :: st) h) := (mw_at mj_200_38).trans (z_geti (by decide) (by decide) (Or.inr rfl))
theorem mj_200_41 : mc_P 200 41 = some (.ifCond .ne 40, 3, 0, 0, 0) := by decide +kernel
theorem s_200_41 {x0 x1 x2 x3 x4 x5 x6 : Option Value} {x : Int32} : mw d 200 Q 41 [x0, x1, x2, x3, x4, x5, x6] (.int x :: st) h = mB (¬ x = 0) (mw d 200 Q) 81 44 [x0, x1, x2, x3, x4, x5, x6] st h := (mw_at mj_200_41).trans (z_if_ne (by decide) rfl)
theorem mj_200_44 : mc_P 200 44 = some (.iload_n 3, 1, 0, 0, 0) := by decide +kernel
theorem s_200_44 {x0 x1 x2 x4 x5 x6 : Option Value} {w : Value} : mw d 200 Q 44 [x0, x1, x2, some w, x4, x5, x6] (st) h = mv_i w (mw d 200 Q 45 [x0, x1, x2, some w, x4, x5, x6] (w :: st) h) := (mw_at mj_200_44).trans (z_iload_n rfl)
theorem mj_200_45 : mc_P 200 45 = some (.ifCond .eq 21, 3, 0, 0, 0) := by decide +kernel
theorem s_200_45 {x0 x1 x2 x3 x4 x5 x6 : Option Value} {x : Int32} : mw d 200 Q 45 [x0, x1, x2, x3, x4, x5, x6] (.int x :: st) h = mB (x = 0) (mw d 200 Q) 66 48 [x0, x1, x2, x3, x4, x5, x6] st h := (mw_at mj_200_45).trans (z_if_eq (by decide) rfl)
theorem mj_200_48 : mc_P 200 48 = some (.iload 4, 2, 0, 0, 0) := by decide +kernel
theorem s_200_48 {x0 x1 x2 x3 x5 x6 : Option Value} {w : Value} : mw d 200 Q 48 [x0, x1, x2, x3, some w, x5, x6] (st) h = mv_i w (mw d 200 Q 50 [x0, x1, x2, x3, some w, x5, x6] (w :: st) h) := (mw_at mj_200_48).trans (z_iload rfl)
theorem mj_200_50 : mc_P 200 50 = some (.i2l, 1, 0, 0, 0) := by decide +kernel
theorem s_200_50 {x0 x1 x2 x3 x4 x5 x6 : Option Value} {x : Int32} : mw d 200 Q 50 [x0, x1, x2, x3, x4, x5, x6] (.int x :: st) h = mw d 200 Q 51 [x0, x1, x2, x3, x4, x5, x6] (.long x.toInt64 :: st) h := (mw_at mj_200_50).trans (z_i2l)
theorem mj_200_51 : mc_P 200 51 = some (.aload 5, 2, 0, 0, 0) := by decide +kernel
theorem s_200_51 {x0 x1 x2 x3 x4 x6 : Option Value} {w : Value} : mw d 200 Q 51 [x0, x1, x2, x3, x4, some w, x6] (st) h = mv_a w (mw d 200 Q 53 [x0, x1, x2, x3, x4, some w, x6] (w :: st) h) := (mw_at mj_200_51).trans (z_aload rfl)
theorem mj_200_53 : mc_P 200 53 = some (.getfield 186, 3, 8, 4, 0) := by decide +kernel
theorem s_200_53 {x0 x1 x2 x3 x4 x5 x6 : Option Value} {o : Nat} : mw d 200 Q 53 [x0, x1, x2, x3, x4, x5, x6] (.ref o :: st) h = (mg h o 8 ∧ mw d 200 Q 56 [x0, x1, x2, x3, x4, x5, x6] (va_rf (mh_r h o 4) :: st) h) := (mw_at mj_200_53).trans (z_getr (by decide) (by decide) rfl)
theorem mj_200_56 : mc_P 200 56 = some (.iload 6, 2, 0, 0, 0) := by decide +kernel
theorem s_200_56 {x0 x1 x2 x3 x4 x5 : Option Value} {w : Value} : mw d 200 Q 56 [x0, x1, x2, x3, x4, x5, some w] (st) h = mv_i w (mw d 200 Q 58 [x0, x1, x2, x3, x4, x5, some w] (w :: st) h) := (mw_at mj_200_56).trans (z_iload rfl)
theorem mj_200_58 : mc_P 200 58 = some (.laload, 1, 0, 0, 0) := by decide +kernel
theorem s_200_58 {x0 x1 x2 x3 x4 x5 x6 : Option Value} {o : Nat} {i : Int32} : mw d 200 Q 58 [x0, x1, x2, x3, x4, x5, x6] (.int i :: .ref o :: st) h = (mg h o 101 ∧ mx i (mh_l h o) ∧ mw d 200 Q 59 [x0, x1, x2, x3, x4, x5, x6] (.long (mh_j h o i.toNatClampNeg) :: st) h) := (mw_at mj_200_58).trans (z_lald)
theorem mj_200_59 : mc_P 200 59 = some (.lcmp, 1, 0, 0, 0) := by decide +kernel
theorem s_200_59 {x0 x1 x2 x3 x4 x5 x6 : Option Value} {x w : Int64} : mw d 200 Q 59 [x0, x1, x2, x3, x4, x5, x6] (.long w :: .long x :: st) h = mw d 200 Q 60 [x0, x1, x2, x3, x4, x5, x6] (.int (lg_cmp x w) :: st) h := (mw_at mj_200_59).trans (z_lcmp)
theorem mj_200_60 : mc_P 200 60 = some (.ifCond .lt 23, 3, 0, 0, 0) := by decide +kernel
theorem s_200_60 {x0 x1 x2 x3 x4 x5 x6 : Option Value} {x : Int32} : mw d 200 Q 60 [x0, x1, x2, x3, x4, x5, x6] (.int x :: st) h = mB (x < 0) (mw d 200 Q) 83 63 [x0, x1, x2, x3, x4, x5, x6] st h := (mw_at mj_200_60).trans (z_if_lt (by decide) rfl)
theorem mj_200_63 : mc_P 200 63 = some (.goto 18, 3, 0, 0, 0) := by decide +kernel
theorem s_200_63 {x0 x1 x2 x3 x4 x5 x6 : Option Value} : mw d 200 Q 63 [x0, x1, x2, x3, x4, x5, x6] (st) h = mw d 200 Q 81 [x0, x1, x2, x3, x4, x5, x6] (st) h := (mw_at mj_200_63).trans (z_goto (by decide))
theorem mj_200_66 : mc_P 200 66 = some (.iload 4, 2, 0, 0, 0) := by decide +kernel
theorem s_200_66 {x0 x1 x2 x3 x5 x6 : Option Value} {w : Value} : mw d 200 Q 66 [x0, x1, x2, x3, some w, x5, x6] (st) h = mv_i w (mw d 200 Q 68 [x0, x1, x2, x3, some w, x5, x6] (w :: st) h) := (mw_at mj_200_66).trans (z_iload rfl)
theorem mj_200_68 : mc_P 200 68 = some (.i2l, 1, 0, 0, 0) := by decide +kernel
theorem s_200_68 {x0 x1 x2 x3 x4 x5 x6 : Option Value} {x : Int32} : mw d 200 Q 68 [x0, x1, x2, x3, x4, x5, x6] (.int x :: st) h = mw d 200 Q 69 [x0, x1, x2, x3, x4, x5, x6] (.long x.toInt64 :: st) h := (mw_at mj_200_68).trans (z_i2l)
theorem mj_200_69 : mc_P 200 69 = some (.aload 5, 2, 0, 0, 0) := by decide +kernel
theorem s_200_69 {x0 x1 x2 x3 x4 x6 : Option Value} {w : Value} : mw d 200 Q 69 [x0, x1, x2, x3, x4, some w, x6] (st) h = mv_a w (mw d 200 Q 71 [x0, x1, x2, x3, x4, some w, x6] (w :: st) h) := (mw_at mj_200_69).trans (z_aload rfl)
theorem mj_200_71 : mc_P 200 71 = some (.getfield 186, 3, 8, 4, 0) := by decide +kernel
theorem s_200_71 {x0 x1 x2 x3 x4 x5 x6 : Option Value} {o : Nat} : mw d 200 Q 71 [x0, x1, x2, x3, x4, x5, x6] (.ref o :: st) h = (mg h o 8 ∧ mw d 200 Q 74 [x0, x1, x2, x3, x4, x5, x6] (va_rf (mh_r h o 4) :: st) h) := (mw_at mj_200_71).trans (z_getr (by decide) (by decide) rfl)
theorem mj_200_74 : mc_P 200 74 = some (.iload 6, 2, 0, 0, 0) := by decide +kernel
theorem s_200_74 {x0 x1 x2 x3 x4 x5 : Option Value} {w : Value} : mw d 200 Q 74 [x0, x1, x2, x3, x4, x5, some w] (st) h = mv_i w (mw d 200 Q 76 [x0, x1, x2, x3, x4, x5, some w] (w :: st) h) := (mw_at mj_200_74).trans (z_iload rfl)
theorem mj_200_76 : mc_P 200 76 = some (.laload, 1, 0, 0, 0) := by decide +kernel
theorem s_200_76 {x0 x1 x2 x3 x4 x5 x6 : Option Value} {o : Nat} {i : Int32} : mw d 200 Q 76 [x0, x1, x2, x3, x4, x5, x6] (.int i :: .ref o :: st) h = (mg h o 101 ∧ mx i (mh_l h o) ∧ mw d 200 Q 77 [x0, x1, x2, x3, x4, x5, x6] (.long (mh_j h o i.toNatClampNeg) :: st) h) := (mw_at mj_200_76).trans (z_lald)
theorem mj_200_77 : mc_P 200 77 = some (.lcmp, 1, 0, 0, 0) := by decide +kernel
theorem s_200_77 {x0 x1 x2 x3 x4 x5 x6 : Option Value} {x w : Int64} : mw d 200 Q 77 [x0, x1, x2, x3, x4, x5, x6] (.long w :: .long x :: st) h = mw d 200 Q 78 [x0, x1, x2, x3, x4, x5, x6] (.int (lg_cmp x w) :: st) h := (mw_at mj_200_77).trans (z_lcmp)
theorem mj_200_78 : mc_P 200 78 = some (.ifCond .gt 5, 3, 0, 0, 0) := by decide +kernel
theorem s_200_78 {x0 x1 x2 x3 x4 x5 x6 : Option Value} {x : Int32} : mw d 200 Q 78 [x0, x1, x2, x3, x4, x5, x6] (.int x :: st) h = mB (0 < x) (mw d 200 Q) 83 81 [x0, x1, x2, x3, x4, x5, x6] st h := (mw_at mj_200_78).trans (z_if_gt (by decide) rfl)
theorem mj_200_81 : mc_P 200 81 = some (.iconst 0, 1, 0, 0, 0) := by decide +kernel
theorem s_200_81 {x0 x1 x2 x3 x4 x5 x6 : Option Value} : mw d 200 Q 81 [x0, x1, x2, x3, x4, x5, x6] (st) h = mw d 200 Q 82 [x0, x1, x2, x3, x4, x5, x6] (.int 0 :: st) h := (mw_at mj_200_81).trans (z_iconst (by decide))
theorem mj_200_82 : mc_P 200 82 = some (.ireturn, 1, 0, 0, 0) := by decide +kernel
theorem s_200_82 {x0 x1 x2 x3 x4 x5 x6 : Option Value} {x : Int32} : mw d 200 Q 82 [x0, x1, x2, x3, x4, x5, x6] ([.int x]) h = (Q (some (.int x)) h) := (mw_at mj_200_82).trans (z_iret)
theorem mj_200_83 : mc_P 200 83 = some (.aload 5, 2, 0, 0, 0) := by decide +kernel
theorem s_200_83 {x0 x1 x2 x3 x4 x6 : Option Value} {w : Value} : mw d 200 Q 83 [x0, x1, x2, x3, x4, some w, x6] (st) h = mv_a w (mw d 200 Q 85 [x0, x1, x2, x3, x4, some w, x6] (w :: st) h) := (mw_at mj_200_83).trans (z_aload rfl)
theorem mj_200_85 : mc_P 200 85 = some (.getfield 186, 3, 8, 4, 0) := by decide +kernel
theorem s_200_85 {x0 x1 x2 x3 x4 x5 x6 : Option Value} {o : Nat} : mw d 200 Q 85 [x0, x1, x2, x3, x4, x5, x6] (.ref o :: st) h = (mg h o 8 ∧ mw d 200 Q 88 [x0, x1, x2, x3, x4, x5, x6] (va_rf (mh_r h o 4) :: st) h) := (mw_at mj_200_85).trans (z_getr (by decide) (by decide) rfl)
theorem mj_200_88 : mc_P 200 88 = some (.iload 6, 2, 0, 0, 0) := by decide +kernel
theorem s_200_88 {x0 x1 x2 x3 x4 x5 : Option Value} {w : Value} : mw d 200 Q 88 [x0, x1, x2, x3, x4, x5, some w] (st) h = mv_i w (mw d 200 Q 90 [x0, x1, x2, x3, x4, x5, some w] (w :: st) h) := (mw_at mj_200_88).trans (z_iload rfl)
theorem mj_200_90 : mc_P 200 90 = some (.iload 4, 2, 0, 0, 0) := by decide +kernel
theorem s_200_90 {x0 x1 x2 x3 x5 x6 : Option Value} {w : Value} : mw d 200 Q 90 [x0, x1, x2, x3, some w, x5, x6] (st) h = mv_i w (mw d 200 Q 92 [x0, x1, x2, x3, some w, x5, x6] (w :: st) h) := (mw_at mj_200_90).trans (z_iload rfl)
theorem mj_200_92 : mc_P 200 92 = some (.i2l, 1, 0, 0, 0) := by decide +kernel
theorem s_200_92 {x0 x1 x2 x3 x4 x5 x6 : Option Value} {x : Int32} : mw d 200 Q 92 [x0, x1, x2, x3, x4, x5, x6] (.int x :: st) h = mw d 200 Q 93 [x0, x1, x2, x3, x4, x5, x6] (.long x.toInt64 :: st) h := (mw_at mj_200_92).trans (z_i2l)
theorem mj_200_93 : mc_P 200 93 = some (.lastore, 1, 0, 0, 0) := by decide +kernel
theorem s_200_93 {x0 x1 x2 x3 x4 x5 x6 : Option Value} {o : Nat} {i : Int32} {w : Int64} : mw d 200 Q 93 [x0, x1, x2, x3, x4, x5, x6] (.long w :: .int i :: .ref o :: st) h = (mg h o 101 ∧ mx i (mh_l h o) ∧ mw d 200 Q 94 [x0, x1, x2, x3, x4, x5, x6] (st) (mh_sj h o i.toNatClampNeg w)) := (mw_at mj_200_93).trans (z_last)
theorem mj_200_94 : mc_P 200 94 = some (.aload 5, 2, 0, 0, 0) := by decide +kernel
theorem s_200_94 {x0 x1 x2 x3 x4 x6 : Option Value} {w : Value} : mw d 200 Q 94 [x0, x1, x2, x3, x4, some w, x6] (st) h = mv_a w (mw d 200 Q 96 [x0, x1, x2, x3, x4, some w, x6] (w :: st) h) := (mw_at mj_200_94).trans (z_aload rfl)
theorem mj_200_96 : mc_P 200 96 = some (.aload 5, 2, 0, 0, 0) := by decide +kernel
theorem s_200_96 {x0 x1 x2 x3 x4 x6 : Option Value} {w : Value} : mw d 200 Q 96 [x0, x1, x2, x3, x4, some w, x6] (st) h = mv_a w (mw d 200 Q 98 [x0, x1, x2, x3, x4, some w, x6] (w :: st) h) := (mw_at mj_200_96).trans (z_aload rfl)
theorem mj_200_98 : mc_P 200 98 = some (.getfield 186, 3, 8, 4, 0) := by decide +kernel
theorem s_200_98 {x0 x1 x2 x3 x4 x5 x6 : Option Value} {o : Nat} : mw d 200 Q 98 [x0, x1, x2, x3, x4, x5, x6] (.ref o :: st) h = (mg h o 8 ∧ mw d 200 Q 101 [x0, x1, x2, x3, x4, x5, x6] (va_rf (mh_r h o 4) :: st) h) := (mw_at mj_200_98).trans (z_getr (by decide) (by decide) rfl)
theorem mj_200_101 : mc_P 200 101 = some (.iconst 2, 1, 0, 0, 0) := by decide +kernel
theorem s_200_101 {x0 x1 x2 x3 x4 x5 x6 : Option Value} : mw d 200 Q 101 [x0, x1, x2, x3, x4, x5, x6] (st) h = mw d 200 Q 102 [x0, x1, x2, x3, x4, x5, x6] (.int 2 :: st) h := (mw_at mj_200_101).trans (z_iconst (by decide))
theorem mj_200_102 : mc_P 200 102 = some (.iload_n 2, 1, 0, 0, 0) := by decide +kernel
theorem s_200_102 {x0 x1 x3 x4 x5 x6 : Option Value} {w : Value} : mw d 200 Q 102 [x0, x1, some w, x3, x4, x5, x6] (st) h = mv_i w (mw d 200 Q 103 [x0, x1, some w, x3, x4, x5, x6] (w :: st) h) := (mw_at mj_200_102).trans (z_iload_n rfl)
theorem mj_200_103 : mc_P 200 103 = some (.imul, 1, 0, 0, 0) := by decide +kernel
theorem s_200_103 {x0 x1 x2 x3 x4 x5 x6 : Option Value} {x w : Int32} : mw d 200 Q 103 [x0, x1, x2, x3, x4, x5, x6] (.int w :: .int x :: st) h = mw d 200 Q 104 [x0, x1, x2, x3, x4, x5, x6] (.int (x * w) :: st) h := (mw_at mj_200_103).trans (z_imul)
theorem mj_200_104 : mc_P 200 104 = some (.laload, 1, 0, 0, 0) := by decide +kernel
theorem s_200_104 {x0 x1 x2 x3 x4 x5 x6 : Option Value} {o : Nat} {i : Int32} : mw d 200 Q 104 [x0, x1, x2, x3, x4, x5, x6] (.int i :: .ref o :: st) h = (mg h o 101 ∧ mx i (mh_l h o) ∧ mw d 200 Q 105 [x0, x1, x2, x3, x4, x5, x6] (.long (mh_j h o i.toNatClampNeg) :: st) h) := (mw_at mj_200_104).trans (z_lald)
theorem mj_200_105 : mc_P 200 105 = some (.aload 5, 2, 0, 0, 0) := by decide +kernel
theorem s_200_105 {x0 x1 x2 x3 x4 x6 : Option Value} {w : Value} : mw d 200 Q 105 [x0, x1, x2, x3, x4, some w, x6] (st) h = mv_a w (mw d 200 Q 107 [x0, x1, x2, x3, x4, some w, x6] (w :: st) h) := (mw_at mj_200_105).trans (z_aload rfl)
theorem mj_200_107 : mc_P 200 107 = some (.getfield 186, 3, 8, 4, 0) := by decide +kernel
theorem s_200_107 {x0 x1 x2 x3 x4 x5 x6 : Option Value} {o : Nat} : mw d 200 Q 107 [x0, x1, x2, x3, x4, x5, x6] (.ref o :: st) h = (mg h o 8 ∧ mw d 200 Q 110 [x0, x1, x2, x3, x4, x5, x6] (va_rf (mh_r h o 4) :: st) h) := (mw_at mj_200_107).trans (z_getr (by decide) (by decide) rfl)
theorem mj_200_110 : mc_P 200 110 = some (.iconst 2, 1, 0, 0, 0) := by decide +kernel
theorem s_200_110 {x0 x1 x2 x3 x4 x5 x6 : Option Value} : mw d 200 Q 110 [x0, x1, x2, x3, x4, x5, x6] (st) h = mw d 200 Q 111 [x0, x1, x2, x3, x4, x5, x6] (.int 2 :: st) h := (mw_at mj_200_110).trans (z_iconst (by decide))
theorem mj_200_111 : mc_P 200 111 = some (.iload_n 2, 1, 0, 0, 0) := by decide +kernel
theorem s_200_111 {x0 x1 x3 x4 x5 x6 : Option Value} {w : Value} : mw d 200 Q 111 [x0, x1, some w, x3, x4, x5, x6] (st) h = mv_i w (mw d 200 Q 112 [x0, x1, some w, x3, x4, x5, x6] (w :: st) h) := (mw_at mj_200_111).trans (z_iload_n rfl)
theorem mj_200_112 : mc_P 200 112 = some (.imul, 1, 0, 0, 0) := by decide +kernel
theorem s_200_112 {x0 x1 x2 x3 x4 x5 x6 : Option Value} {x w : Int32} : mw d 200 Q 112 [x0, x1, x2, x3, x4, x5, x6] (.int w :: .int x :: st) h = mw d 200 Q 113 [x0, x1, x2, x3, x4, x5, x6] (.int (x * w) :: st) h := (mw_at mj_200_112).trans (z_imul)
theorem mj_200_113 : mc_P 200 113 = some (.iconst 1, 1, 0, 0, 0) := by decide +kernel
theorem s_200_113 {x0 x1 x2 x3 x4 x5 x6 : Option Value} : mw d 200 Q 113 [x0, x1, x2, x3, x4, x5, x6] (st) h = mw d 200 Q 114 [x0, x1, x2, x3, x4, x5, x6] (.int 1 :: st) h := (mw_at mj_200_113).trans (z_iconst (by decide))
theorem mj_200_114 : mc_P 200 114 = some (.iadd, 1, 0, 0, 0) := by decide +kernel
theorem s_200_114 {x0 x1 x2 x3 x4 x5 x6 : Option Value} {x w : Int32} : mw d 200 Q 114 [x0, x1, x2, x3, x4, x5, x6] (.int w :: .int x :: st) h = mw d 200 Q 115 [x0, x1, x2, x3, x4, x5, x6] (.int (x + w) :: st) h := (mw_at mj_200_114).trans (z_iadd)
theorem mj_200_115 : mc_P 200 115 = some (.laload, 1, 0, 0, 0) := by decide +kernel
theorem s_200_115 {x0 x1 x2 x3 x4 x5 x6 : Option Value} {o : Nat} {i : Int32} : mw d 200 Q 115 [x0, x1, x2, x3, x4, x5, x6] (.int i :: .ref o :: st) h = (mg h o 101 ∧ mx i (mh_l h o) ∧ mw d 200 Q 116 [x0, x1, x2, x3, x4, x5, x6] (.long (mh_j h o i.toNatClampNeg) :: st) h) := (mw_at mj_200_115).trans (z_lald)
theorem mj_200_116 : mc_P 200 116 = some (.lcmp, 1, 0, 0, 0) := by decide +kernel
theorem s_200_116 {x0 x1 x2 x3 x4 x5 x6 : Option Value} {x w : Int64} : mw d 200 Q 116 [x0, x1, x2, x3, x4, x5, x6] (.long w :: .long x :: st) h = mw d 200 Q 117 [x0, x1, x2, x3, x4, x5, x6] (.int (lg_cmp x w) :: st) h := (mw_at mj_200_116).trans (z_lcmp)
theorem mj_200_117 : mc_P 200 117 = some (.ifCond .le 7, 3, 0, 0, 0) := by decide +kernel
theorem s_200_117 {x0 x1 x2 x3 x4 x5 x6 : Option Value} {x : Int32} : mw d 200 Q 117 [x0, x1, x2, x3, x4, x5, x6] (.int x :: st) h = mB (x ≤ 0) (mw d 200 Q) 124 120 [x0, x1, x2, x3, x4, x5, x6] st h := (mw_at mj_200_117).trans (z_if_le (by decide) rfl)
theorem mj_200_120 : mc_P 200 120 = some (.iconst 1, 1, 0, 0, 0) := by decide +kernel
theorem s_200_120 {x0 x1 x2 x3 x4 x5 x6 : Option Value} : mw d 200 Q 120 [x0, x1, x2, x3, x4, x5, x6] (st) h = mw d 200 Q 121 [x0, x1, x2, x3, x4, x5, x6] (.int 1 :: st) h := (mw_at mj_200_120).trans (z_iconst (by decide))
theorem mj_200_121 : mc_P 200 121 = some (.goto 4, 3, 0, 0, 0) := by decide +kernel
theorem s_200_121 {x0 x1 x2 x3 x4 x5 x6 : Option Value} : mw d 200 Q 121 [x0, x1, x2, x3, x4, x5, x6] (st) h = mw d 200 Q 125 [x0, x1, x2, x3, x4, x5, x6] (st) h := (mw_at mj_200_121).trans (z_goto (by decide))
theorem mj_200_124 : mc_P 200 124 = some (.iconst 0, 1, 0, 0, 0) := by decide +kernel
theorem s_200_124 {x0 x1 x2 x3 x4 x5 x6 : Option Value} : mw d 200 Q 124 [x0, x1, x2, x3, x4, x5, x6] (st) h = mw d 200 Q 125 [x0, x1, x2, x3, x4, x5, x6] (.int 0 :: st) h := (mw_at mj_200_124).trans (z_iconst (by decide))
theorem mj_200_125 : mc_P 200 125 = some (.putfield 161, 3, 8, 0, 0) := by decide +kernel
theorem s_200_125 {x0 x1 x2 x3 x4 x5 x6 : Option Value} {o : Nat} {w : Int32} : mw d 200 Q 125 [x0, x1, x2, x3, x4, x5, x6] (.int w :: .ref o :: st) h = (mg h o 8 ∧ (w = 0 ∨ w = 1) ∧ mw d 200 Q 128 [x0, x1, x2, x3, x4, x5, x6] (st) (mh_si h o 0 w)) := (mw_at mj_200_125).trans (z_putz (by decide) (by decide) rfl)
theorem mj_200_128 : mc_P 200 128 = some (.aload_n 0, 1, 0, 0, 0) := by decide +kernel
theorem s_200_128 {x1 x2 x3 x4 x5 x6 : Option Value} {w : Value} : mw d 200 Q 128 [some w, x1, x2, x3, x4, x5, x6] (st) h = mv_a w (mw d 200 Q 129 [some w, x1, x2, x3, x4, x5, x6] (w :: st) h) := (mw_at mj_200_128).trans (z_aload_n rfl)
theorem mj_200_129 : mc_P 200 129 = some (.invokevirtual 201, 3, 188, 11, 1) := by decide +kernel
theorem s_200_129 {x0 x1 x2 x3 x4 x5 x6 : Option Value} {o : Nat} : mw (d + 1) 200 Q 129 [x0, x1, x2, x3, x4, x5, x6] (.ref o :: st) h = (mg h o 11 ∧ mca st 8 ∧ mca [.ref o] 1 ∧ mcall d 188 [.ref o] h (mK (d + 1) 200 Q 132 [x0, x1, x2, x3, x4, x5, x6] st)) := (mw_at mj_200_129).trans ((z_invv (As := []) (by decide) rfl rfl).trans (congrArg (And _) (congrArg (And _) (mC_nl nl_188))))
theorem mj_200_132 : mc_P 200 132 = some (.iconst 1, 1, 0, 0, 0) := by decide +kernel
theorem s_200_132 {x0 x1 x2 x3 x4 x5 x6 : Option Value} : mw d 200 Q 132 [x0, x1, x2, x3, x4, x5, x6] (st) h = mw d 200 Q 133 [x0, x1, x2, x3, x4, x5, x6] (.int 1 :: st) h := (mw_at mj_200_132).trans (z_iconst (by decide))
theorem mj_200_133 : mc_P 200 133 = some (.ireturn, 1, 0, 0, 0) := by decide +kernel
theorem s_200_133 {x0 x1 x2 x3 x4 x5 x6 : Option Value} {x : Int32} : mw d 200 Q 133 [x0, x1, x2, x3, x4, x5, x6] ([.int x]) h = (Q (some (.int x)) h) := (mw_at mj_200_133).trans (z_iret)
theorem e_200 {a0 : Nat} {a1 : Int32} {a2 : Int32} {a3 : Int32} {a4 : Int32} : mcall d 200 [.ref a0, .int a1, .int a2, .int a3, .int a4] h Q = mw d 200 Q 0 [some (.ref a0), some (.int a1), some (.int a2), some (.int a3), some (.int a4), none, none] [] h := by
  show mw d 200 Q 0 (me_en (mc_nl 200) _) [] h = _
  rw [nl_200]; rfl

/-! InvariantDesk.claimNothing(I)I -/
theorem mj_201_0 : mc_P 201 0 = some (.aload_n 0, 1, 0, 0, 0) := by decide +kernel
theorem s_201_0 {x1 : Option Value} {w : Value} : mw d 201 Q 0 [some w, x1] (st) h = mv_a w (mw d 201 Q 1 [some w, x1] (w :: st) h) := (mw_at mj_201_0).trans (z_aload_n rfl)
theorem mj_201_1 : mc_P 201 1 = some (.iload_n 1, 1, 0, 0, 0) := by decide +kernel
theorem s_201_1 {x0 : Option Value} {w : Value} : mw d 201 Q 1 [x0, some w] (st) h = mv_i w (mw d 201 Q 2 [x0, some w] (w :: st) h) := (mw_at mj_201_1).trans (z_iload_n rfl)
theorem mj_201_2 : mc_P 201 2 = some (.invokevirtual 134, 3, 192, 11, 2) := by decide +kernel
theorem s_201_2 {x0 x1 : Option Value} {o : Nat} {a1 : Value} : mw (d + 1) 201 Q 2 [x0, x1] (a1 :: .ref o :: st) h = (mg h o 11 ∧ mca st 8 ∧ mca [.ref o, a1] 2 ∧ mcall d 192 [.ref o, a1] h (mK (d + 1) 201 Q 5 [x0, x1] st)) := (mw_at mj_201_2).trans ((z_invv (As := [a1]) (by decide) rfl rfl).trans (congrArg (And _) (congrArg (And _) (mC_nl nl_192))))
theorem mj_201_5 : mc_P 201 5 = some (.ifCond .ne 5, 3, 0, 0, 0) := by decide +kernel
theorem s_201_5 {x0 x1 : Option Value} {x : Int32} : mw d 201 Q 5 [x0, x1] (.int x :: st) h = mB (¬ x = 0) (mw d 201 Q) 10 8 [x0, x1] st h := (mw_at mj_201_5).trans (z_if_ne (by decide) rfl)
theorem mj_201_8 : mc_P 201 8 = some (.iconst (-1), 1, 0, 0, 0) := by decide +kernel
theorem s_201_8 {x0 x1 : Option Value} : mw d 201 Q 8 [x0, x1] (st) h = mw d 201 Q 9 [x0, x1] (.int (-1) :: st) h := (mw_at mj_201_8).trans (z_iconst (by decide))
theorem mj_201_9 : mc_P 201 9 = some (.ireturn, 1, 0, 0, 0) := by decide +kernel
theorem s_201_9 {x0 x1 : Option Value} {x : Int32} : mw d 201 Q 9 [x0, x1] ([.int x]) h = (Q (some (.int x)) h) := (mw_at mj_201_9).trans (z_iret)
theorem mj_201_10 : mc_P 201 10 = some (.aload_n 0, 1, 0, 0, 0) := by decide +kernel
theorem s_201_10 {x1 : Option Value} {w : Value} : mw d 201 Q 10 [some w, x1] (st) h = mv_a w (mw d 201 Q 11 [some w, x1] (w :: st) h) := (mw_at mj_201_10).trans (z_aload_n rfl)
theorem mj_201_11 : mc_P 201 11 = some (.getfield 47, 3, 11, 6, 0) := by decide +kernel
theorem s_201_11 {x0 x1 : Option Value} {o : Nat} : mw d 201 Q 11 [x0, x1] (.ref o :: st) h = (mg h o 11 ∧ mw d 201 Q 14 [x0, x1] (va_rf (mh_r h o 6) :: st) h) := (mw_at mj_201_11).trans (z_getr (by decide) (by decide) rfl)
theorem mj_201_14 : mc_P 201 14 = some (.iload_n 1, 1, 0, 0, 0) := by decide +kernel
theorem s_201_14 {x0 : Option Value} {w : Value} : mw d 201 Q 14 [x0, some w] (st) h = mv_i w (mw d 201 Q 15 [x0, some w] (w :: st) h) := (mw_at mj_201_14).trans (z_iload_n rfl)
theorem mj_201_15 : mc_P 201 15 = some (.aaload, 1, 0, 0, 0) := by decide +kernel
theorem s_201_15 {x0 x1 : Option Value} {o : Nat} {i : Int32} : mw d 201 Q 15 [x0, x1] (.int i :: .ref o :: st) h = (mgr h o ∧ mx i (mh_l h o) ∧ mw d 201 Q 16 [x0, x1] (mrd (mh_k h o) h o i.toNatClampNeg :: st) h) := (mw_at mj_201_15).trans (z_aald)
theorem mj_201_16 : mc_P 201 16 = some (.getfield 161, 3, 8, 0, 0) := by decide +kernel
theorem s_201_16 {x0 x1 : Option Value} {o : Nat} : mw d 201 Q 16 [x0, x1] (.ref o :: st) h = (mg h o 8 ∧ mw d 201 Q 19 [x0, x1] (.int (mh_i h o 0) :: st) h) := (mw_at mj_201_16).trans (z_geti (by decide) (by decide) (Or.inr rfl))
theorem mj_201_19 : mc_P 201 19 = some (.ifCond .eq 5, 3, 0, 0, 0) := by decide +kernel
theorem s_201_19 {x0 x1 : Option Value} {x : Int32} : mw d 201 Q 19 [x0, x1] (.int x :: st) h = mB (x = 0) (mw d 201 Q) 24 22 [x0, x1] st h := (mw_at mj_201_19).trans (z_if_eq (by decide) rfl)
theorem mj_201_22 : mc_P 201 22 = some (.iconst 0, 1, 0, 0, 0) := by decide +kernel
theorem s_201_22 {x0 x1 : Option Value} : mw d 201 Q 22 [x0, x1] (st) h = mw d 201 Q 23 [x0, x1] (.int 0 :: st) h := (mw_at mj_201_22).trans (z_iconst (by decide))
theorem mj_201_23 : mc_P 201 23 = some (.ireturn, 1, 0, 0, 0) := by decide +kernel
theorem s_201_23 {x0 x1 : Option Value} {x : Int32} : mw d 201 Q 23 [x0, x1] ([.int x]) h = (Q (some (.int x)) h) := (mw_at mj_201_23).trans (z_iret)
theorem mj_201_24 : mc_P 201 24 = some (.aload_n 0, 1, 0, 0, 0) := by decide +kernel
theorem s_201_24 {x1 : Option Value} {w : Value} : mw d 201 Q 24 [some w, x1] (st) h = mv_a w (mw d 201 Q 25 [some w, x1] (w :: st) h) := (mw_at mj_201_24).trans (z_aload_n rfl)
theorem mj_201_25 : mc_P 201 25 = some (.getfield 47, 3, 11, 6, 0) := by decide +kernel
theorem s_201_25 {x0 x1 : Option Value} {o : Nat} : mw d 201 Q 25 [x0, x1] (.ref o :: st) h = (mg h o 11 ∧ mw d 201 Q 28 [x0, x1] (va_rf (mh_r h o 6) :: st) h) := (mw_at mj_201_25).trans (z_getr (by decide) (by decide) rfl)
theorem mj_201_28 : mc_P 201 28 = some (.iload_n 1, 1, 0, 0, 0) := by decide +kernel
theorem s_201_28 {x0 : Option Value} {w : Value} : mw d 201 Q 28 [x0, some w] (st) h = mv_i w (mw d 201 Q 29 [x0, some w] (w :: st) h) := (mw_at mj_201_28).trans (z_iload_n rfl)
theorem mj_201_29 : mc_P 201 29 = some (.aaload, 1, 0, 0, 0) := by decide +kernel
theorem s_201_29 {x0 x1 : Option Value} {o : Nat} {i : Int32} : mw d 201 Q 29 [x0, x1] (.int i :: .ref o :: st) h = (mgr h o ∧ mx i (mh_l h o) ∧ mw d 201 Q 30 [x0, x1] (mrd (mh_k h o) h o i.toNatClampNeg :: st) h) := (mw_at mj_201_29).trans (z_aald)
theorem mj_201_30 : mc_P 201 30 = some (.iconst 1, 1, 0, 0, 0) := by decide +kernel
theorem s_201_30 {x0 x1 : Option Value} : mw d 201 Q 30 [x0, x1] (st) h = mw d 201 Q 31 [x0, x1] (.int 1 :: st) h := (mw_at mj_201_30).trans (z_iconst (by decide))
theorem mj_201_31 : mc_P 201 31 = some (.putfield 161, 3, 8, 0, 0) := by decide +kernel
theorem s_201_31 {x0 x1 : Option Value} {o : Nat} {w : Int32} : mw d 201 Q 31 [x0, x1] (.int w :: .ref o :: st) h = (mg h o 8 ∧ (w = 0 ∨ w = 1) ∧ mw d 201 Q 34 [x0, x1] (st) (mh_si h o 0 w)) := (mw_at mj_201_31).trans (z_putz (by decide) (by decide) rfl)
theorem mj_201_34 : mc_P 201 34 = some (.aload_n 0, 1, 0, 0, 0) := by decide +kernel
theorem s_201_34 {x1 : Option Value} {w : Value} : mw d 201 Q 34 [some w, x1] (st) h = mv_a w (mw d 201 Q 35 [some w, x1] (w :: st) h) := (mw_at mj_201_34).trans (z_aload_n rfl)
theorem mj_201_35 : mc_P 201 35 = some (.invokevirtual 201, 3, 188, 11, 1) := by decide +kernel
theorem s_201_35 {x0 x1 : Option Value} {o : Nat} : mw (d + 1) 201 Q 35 [x0, x1] (.ref o :: st) h = (mg h o 11 ∧ mca st 8 ∧ mca [.ref o] 1 ∧ mcall d 188 [.ref o] h (mK (d + 1) 201 Q 38 [x0, x1] st)) := (mw_at mj_201_35).trans ((z_invv (As := []) (by decide) rfl rfl).trans (congrArg (And _) (congrArg (And _) (mC_nl nl_188))))
theorem mj_201_38 : mc_P 201 38 = some (.iconst 1, 1, 0, 0, 0) := by decide +kernel
theorem s_201_38 {x0 x1 : Option Value} : mw d 201 Q 38 [x0, x1] (st) h = mw d 201 Q 39 [x0, x1] (.int 1 :: st) h := (mw_at mj_201_38).trans (z_iconst (by decide))
theorem mj_201_39 : mc_P 201 39 = some (.ireturn, 1, 0, 0, 0) := by decide +kernel
theorem s_201_39 {x0 x1 : Option Value} {x : Int32} : mw d 201 Q 39 [x0, x1] ([.int x]) h = (Q (some (.int x)) h) := (mw_at mj_201_39).trans (z_iret)
theorem e_201 {a0 : Nat} {a1 : Int32} : mcall d 201 [.ref a0, .int a1] h Q = mw d 201 Q 0 [some (.ref a0), some (.int a1)] [] h := by
  show mw d 201 Q 0 (me_en (mc_nl 201) _) [] h = _
  rw [nl_201]; rfl

/-! InvariantDesk.unclaim()I -/
theorem mj_202_0 : mc_P 202 0 = some (.iconst 0, 1, 0, 0, 0) := by decide +kernel
theorem s_202_0 {x0 x1 x2 : Option Value} : mw d 202 Q 0 [x0, x1, x2] (st) h = mw d 202 Q 1 [x0, x1, x2] (.int 0 :: st) h := (mw_at mj_202_0).trans (z_iconst (by decide))
theorem mj_202_1 : mc_P 202 1 = some (.istore_n 1, 1, 0, 0, 0) := by decide +kernel
theorem s_202_1 {x0 x1 x2 : Option Value} {w : Int32} : mw d 202 Q 1 [x0, x1, x2] (.int w :: st) h = mw d 202 Q 2 [mk2 x0, some (.int w), x2] (st) h := (mw_at mj_202_1).trans (z_istore_n (Nat.le_of_ble_eq_true rfl) (me_s1_mk (j := 0) (w := x0) rfl))
theorem mj_202_2 : mc_P 202 2 = some (.iconst 0, 1, 0, 0, 0) := by decide +kernel
theorem s_202_2 {x0 x1 x2 : Option Value} : mw d 202 Q 2 [x0, x1, x2] (st) h = mw d 202 Q 3 [x0, x1, x2] (.int 0 :: st) h := (mw_at mj_202_2).trans (z_iconst (by decide))
theorem mj_202_3 : mc_P 202 3 = some (.istore_n 2, 1, 0, 0, 0) := by decide +kernel
theorem s_202_3 {x0 x1 x2 : Option Value} {w : Int32} : mw d 202 Q 3 [x0, x1, x2] (.int w :: st) h = mw d 202 Q 4 [x0, mk2 x1, some (.int w)] (st) h := (mw_at mj_202_3).trans (z_istore_n (Nat.le_of_ble_eq_true rfl) (me_s1_mk (j := 1) (w := x1) rfl))
theorem mj_202_4 : mc_P 202 4 = some (.iload_n 2, 1, 0, 0, 0) := by decide +kernel
theorem s_202_4 {x0 x1 : Option Value} {w : Value} : mw d 202 Q 4 [x0, x1, some w] (st) h = mv_i w (mw d 202 Q 5 [x0, x1, some w] (w :: st) h) := (mw_at mj_202_4).trans (z_iload_n rfl)
theorem mj_202_5 : mc_P 202 5 = some (.aload_n 0, 1, 0, 0, 0) := by decide +kernel
theorem s_202_5 {x1 x2 : Option Value} {w : Value} : mw d 202 Q 5 [some w, x1, x2] (st) h = mv_a w (mw d 202 Q 6 [some w, x1, x2] (w :: st) h) := (mw_at mj_202_5).trans (z_aload_n rfl)
theorem mj_202_6 : mc_P 202 6 = some (.getfield 16, 3, 11, 2, 0) := by decide +kernel
theorem s_202_6 {x0 x1 x2 : Option Value} {o : Nat} : mw d 202 Q 6 [x0, x1, x2] (.ref o :: st) h = (mg h o 11 ∧ mw d 202 Q 9 [x0, x1, x2] (va_rf (mh_r h o 2) :: st) h) := (mw_at mj_202_6).trans (z_getr (by decide) (by decide) rfl)
theorem mj_202_9 : mc_P 202 9 = some (.getfield 114, 3, 4, 2, 0) := by decide +kernel
theorem s_202_9 {x0 x1 x2 : Option Value} {o : Nat} : mw d 202 Q 9 [x0, x1, x2] (.ref o :: st) h = (mg h o 4 ∧ mw d 202 Q 12 [x0, x1, x2] (.int (mh_i h o 2) :: st) h) := (mw_at mj_202_9).trans (z_geti (by decide) (by decide) (Or.inl rfl))
theorem mj_202_12 : mc_P 202 12 = some (.if_icmp .ge 33, 3, 0, 0, 0) := by decide +kernel
theorem s_202_12 {x0 x1 x2 : Option Value} {x w : Int32} : mw d 202 Q 12 [x0, x1, x2] (.int w :: .int x :: st) h = mB (w ≤ x) (mw d 202 Q) 45 15 [x0, x1, x2] st h := (mw_at mj_202_12).trans (z_icmp_ge (by decide) rfl)
theorem mj_202_15 : mc_P 202 15 = some (.aload_n 0, 1, 0, 0, 0) := by decide +kernel
theorem s_202_15 {x1 x2 : Option Value} {w : Value} : mw d 202 Q 15 [some w, x1, x2] (st) h = mv_a w (mw d 202 Q 16 [some w, x1, x2] (w :: st) h) := (mw_at mj_202_15).trans (z_aload_n rfl)
theorem mj_202_16 : mc_P 202 16 = some (.getfield 47, 3, 11, 6, 0) := by decide +kernel
theorem s_202_16 {x0 x1 x2 : Option Value} {o : Nat} : mw d 202 Q 16 [x0, x1, x2] (.ref o :: st) h = (mg h o 11 ∧ mw d 202 Q 19 [x0, x1, x2] (va_rf (mh_r h o 6) :: st) h) := (mw_at mj_202_16).trans (z_getr (by decide) (by decide) rfl)
theorem mj_202_19 : mc_P 202 19 = some (.iload_n 2, 1, 0, 0, 0) := by decide +kernel
theorem s_202_19 {x0 x1 : Option Value} {w : Value} : mw d 202 Q 19 [x0, x1, some w] (st) h = mv_i w (mw d 202 Q 20 [x0, x1, some w] (w :: st) h) := (mw_at mj_202_19).trans (z_iload_n rfl)
theorem mj_202_20 : mc_P 202 20 = some (.aaload, 1, 0, 0, 0) := by decide +kernel
theorem s_202_20 {x0 x1 x2 : Option Value} {o : Nat} {i : Int32} : mw d 202 Q 20 [x0, x1, x2] (.int i :: .ref o :: st) h = (mgr h o ∧ mx i (mh_l h o) ∧ mw d 202 Q 21 [x0, x1, x2] (mrd (mh_k h o) h o i.toNatClampNeg :: st) h) := (mw_at mj_202_20).trans (z_aald)
theorem mj_202_21 : mc_P 202 21 = some (.aload_n 0, 1, 0, 0, 0) := by decide +kernel
theorem s_202_21 {x1 x2 : Option Value} {w : Value} : mw d 202 Q 21 [some w, x1, x2] (st) h = mv_a w (mw d 202 Q 22 [some w, x1, x2] (w :: st) h) := (mw_at mj_202_21).trans (z_aload_n rfl)
theorem mj_202_22 : mc_P 202 22 = some (.getfield 34, 3, 11, 4, 0) := by decide +kernel
theorem s_202_22 {x0 x1 x2 : Option Value} {o : Nat} : mw d 202 Q 22 [x0, x1, x2] (.ref o :: st) h = (mg h o 11 ∧ mw d 202 Q 25 [x0, x1, x2] (va_rf (mh_r h o 4) :: st) h) := (mw_at mj_202_22).trans (z_getr (by decide) (by decide) rfl)
theorem mj_202_25 : mc_P 202 25 = some (.getfield 118, 3, 0, 0, 0) := by decide +kernel
theorem s_202_25 {x0 x1 x2 : Option Value} {o : Nat} : mw d 202 Q 25 [x0, x1, x2] (.ref o :: st) h = (mg h o 0 ∧ mw d 202 Q 28 [x0, x1, x2] (va_rf (mh_r h o 0) :: st) h) := (mw_at mj_202_25).trans (z_getr (by decide) (by decide) rfl)
theorem mj_202_28 : mc_P 202 28 = some (.iload_n 2, 1, 0, 0, 0) := by decide +kernel
theorem s_202_28 {x0 x1 : Option Value} {w : Value} : mw d 202 Q 28 [x0, x1, some w] (st) h = mv_i w (mw d 202 Q 29 [x0, x1, some w] (w :: st) h) := (mw_at mj_202_28).trans (z_iload_n rfl)
theorem mj_202_29 : mc_P 202 29 = some (.aaload, 1, 0, 0, 0) := by decide +kernel
theorem s_202_29 {x0 x1 x2 : Option Value} {o : Nat} {i : Int32} : mw d 202 Q 29 [x0, x1, x2] (.int i :: .ref o :: st) h = (mgr h o ∧ mx i (mh_l h o) ∧ mw d 202 Q 30 [x0, x1, x2] (mrd (mh_k h o) h o i.toNatClampNeg :: st) h) := (mw_at mj_202_29).trans (z_aald)
theorem mj_202_30 : mc_P 202 30 = some (.invokevirtual 204, 3, 150, 8, 2) := by decide +kernel
theorem s_202_30 {x0 x1 x2 : Option Value} {o : Nat} {a1 : Value} : mw (d + 1) 202 Q 30 [x0, x1, x2] (a1 :: .ref o :: st) h = (mg h o 8 ∧ mca st 8 ∧ mca [.ref o, a1] 2 ∧ mcall d 150 [.ref o, a1] h (mK (d + 1) 202 Q 33 [x0, x1, x2] st)) := (mw_at mj_202_30).trans ((z_invv (As := [a1]) (by decide) rfl rfl).trans (congrArg (And _) (congrArg (And _) (mC_nl nl_150))))
theorem mj_202_33 : mc_P 202 33 = some (.ifCond .ne 6, 3, 0, 0, 0) := by decide +kernel
theorem s_202_33 {x0 x1 x2 : Option Value} {x : Int32} : mw d 202 Q 33 [x0, x1, x2] (.int x :: st) h = mB (¬ x = 0) (mw d 202 Q) 39 36 [x0, x1, x2] st h := (mw_at mj_202_33).trans (z_if_ne (by decide) rfl)
theorem mj_202_36 : mc_P 202 36 = some (.iinc 1 1, 3, 0, 0, 0) := by decide +kernel
theorem s_202_36 {x0 x2 : Option Value} {w : Int32} : mw d 202 Q 36 [x0, some (.int w), x2] (st) h = mw d 202 Q 39 [mk2 x0, some (.int (w + 1)), x2] (st) h := (mw_at mj_202_36).trans (z_iinc rfl (Nat.le_of_ble_eq_true rfl) (by decide) (me_s1_mk (j := 0) (w := x0) rfl))
theorem mj_202_39 : mc_P 202 39 = some (.iinc 2 1, 3, 0, 0, 0) := by decide +kernel
theorem s_202_39 {x0 x1 : Option Value} {w : Int32} : mw d 202 Q 39 [x0, x1, some (.int w)] (st) h = mw d 202 Q 42 [x0, mk2 x1, some (.int (w + 1))] (st) h := (mw_at mj_202_39).trans (z_iinc rfl (Nat.le_of_ble_eq_true rfl) (by decide) (me_s1_mk (j := 1) (w := x1) rfl))
theorem mj_202_42 : mc_P 202 42 = some (.goto (-38), 3, 0, 0, 0) := by decide +kernel
theorem s_202_42 {x0 x1 x2 : Option Value} : mw d 202 Q 42 [x0, x1, x2] (st) h = mw d 202 Q 4 [x0, x1, x2] (st) h := (mw_at mj_202_42).trans (z_goto (by decide))
theorem mj_202_45 : mc_P 202 45 = some (.aload_n 0, 1, 0, 0, 0) := by decide +kernel
theorem s_202_45 {x1 x2 : Option Value} {w : Value} : mw d 202 Q 45 [some w, x1, x2] (st) h = mv_a w (mw d 202 Q 46 [some w, x1, x2] (w :: st) h) := (mw_at mj_202_45).trans (z_aload_n rfl)
theorem mj_202_46 : mc_P 202 46 = some (.invokevirtual 57, 3, 187, 11, 1) := by decide +kernel
theorem s_202_46 {x0 x1 x2 : Option Value} {o : Nat} : mw (d + 1) 202 Q 46 [x0, x1, x2] (.ref o :: st) h = (mg h o 11 ∧ mca st 8 ∧ mca [.ref o] 2 ∧ mcall d 187 [.ref o] h (mK (d + 1) 202 Q 49 [x0, x1, x2] st)) := (mw_at mj_202_46).trans ((z_invv (As := []) (by decide) rfl rfl).trans (congrArg (And _) (congrArg (And _) (mC_nl nl_187))))
theorem mj_202_49 : mc_P 202 49 = some (.iload_n 1, 1, 0, 0, 0) := by decide +kernel
theorem s_202_49 {x0 x2 : Option Value} {w : Value} : mw d 202 Q 49 [x0, some w, x2] (st) h = mv_i w (mw d 202 Q 50 [x0, some w, x2] (w :: st) h) := (mw_at mj_202_49).trans (z_iload_n rfl)
theorem mj_202_50 : mc_P 202 50 = some (.ireturn, 1, 0, 0, 0) := by decide +kernel
theorem s_202_50 {x0 x1 x2 : Option Value} {x : Int32} : mw d 202 Q 50 [x0, x1, x2] ([.int x]) h = (Q (some (.int x)) h) := (mw_at mj_202_50).trans (z_iret)
theorem e_202 {a0 : Nat} : mcall d 202 [.ref a0] h Q = mw d 202 Q 0 [some (.ref a0), none, none] [] h := by
  show mw d 202 Q 0 (me_en (mc_nl 202) _) [] h = _
  rw [nl_202]; rfl

/-! InvariantDesk.inductive()I -/
theorem mj_203_0 : mc_P 203 0 = some (.aload_n 0, 1, 0, 0, 0) := by decide +kernel
theorem s_203_0 {w : Value} : mw d 203 Q 0 [some w] (st) h = mv_a w (mw d 203 Q 1 [some w] (w :: st) h) := (mw_at mj_203_0).trans (z_aload_n rfl)
theorem mj_203_1 : mc_P 203 1 = some (.invokevirtual 208, 3, 204, 11, 1) := by decide +kernel
theorem s_203_1 {x0 : Option Value} {o : Nat} : mw (d + 1) 203 Q 1 [x0] (.ref o :: st) h = (mg h o 11 ∧ mca st 8 ∧ mca [.ref o] 2 ∧ mcall d 204 [.ref o] h (mK (d + 1) 203 Q 4 [x0] st)) := (mw_at mj_203_1).trans ((z_invv (As := []) (by decide) rfl rfl).trans (congrArg (And _) (congrArg (And _) (mC_nl nl_204))))
theorem mj_203_4 : mc_P 203 4 = some (.ireturn, 1, 0, 0, 0) := by decide +kernel
theorem s_203_4 {x0 : Option Value} {x : Int32} : mw d 203 Q 4 [x0] ([.int x]) h = (Q (some (.int x)) h) := (mw_at mj_203_4).trans (z_iret)
theorem e_203 {a0 : Nat} : mcall d 203 [.ref a0] h Q = mw d 203 Q 0 [some (.ref a0)] [] h := by
  show mw d 203 Q 0 (me_en (mc_nl 203) _) [] h = _
  rw [nl_203]; rfl

/-! InvariantDesk.judge()I -/
theorem mj_204_0 : mc_P 204 0 = some (.aload_n 0, 1, 0, 0, 0) := by decide +kernel
theorem s_204_0 {x1 : Option Value} {w : Value} : mw d 204 Q 0 [some w, x1] (st) h = mv_a w (mw d 204 Q 1 [some w, x1] (w :: st) h) := (mw_at mj_204_0).trans (z_aload_n rfl)
theorem mj_204_1 : mc_P 204 1 = some (.getfield 128, 3, 11, 11, 0) := by decide +kernel
theorem s_204_1 {x0 x1 : Option Value} {o : Nat} : mw d 204 Q 1 [x0, x1] (.ref o :: st) h = (mg h o 11 ∧ mw d 204 Q 4 [x0, x1] (.int (mh_i h o 11) :: st) h) := (mw_at mj_204_1).trans (z_geti (by decide) (by decide) (Or.inr rfl))
theorem mj_204_4 : mc_P 204 4 = some (.ifCond .eq 8, 3, 0, 0, 0) := by decide +kernel
theorem s_204_4 {x0 x1 : Option Value} {x : Int32} : mw d 204 Q 4 [x0, x1] (.int x :: st) h = mB (x = 0) (mw d 204 Q) 12 7 [x0, x1] st h := (mw_at mj_204_4).trans (z_if_eq (by decide) rfl)
theorem mj_204_7 : mc_P 204 7 = some (.aload_n 0, 1, 0, 0, 0) := by decide +kernel
theorem s_204_7 {x1 : Option Value} {w : Value} : mw d 204 Q 7 [some w, x1] (st) h = mv_a w (mw d 204 Q 8 [some w, x1] (w :: st) h) := (mw_at mj_204_7).trans (z_aload_n rfl)
theorem mj_204_8 : mc_P 204 8 = some (.getfield 211, 3, 11, 12, 0) := by decide +kernel
theorem s_204_8 {x0 x1 : Option Value} {o : Nat} : mw d 204 Q 8 [x0, x1] (.ref o :: st) h = (mg h o 11 ∧ mw d 204 Q 11 [x0, x1] (.int (mh_i h o 12) :: st) h) := (mw_at mj_204_8).trans (z_geti (by decide) (by decide) (Or.inl rfl))
theorem mj_204_11 : mc_P 204 11 = some (.ireturn, 1, 0, 0, 0) := by decide +kernel
theorem s_204_11 {x0 x1 : Option Value} {x : Int32} : mw d 204 Q 11 [x0, x1] ([.int x]) h = (Q (some (.int x)) h) := (mw_at mj_204_11).trans (z_iret)
theorem mj_204_12 : mc_P 204 12 = some (.aload_n 0, 1, 0, 0, 0) := by decide +kernel
theorem s_204_12 {x1 : Option Value} {w : Value} : mw d 204 Q 12 [some w, x1] (st) h = mv_a w (mw d 204 Q 13 [some w, x1] (w :: st) h) := (mw_at mj_204_12).trans (z_aload_n rfl)
theorem mj_204_13 : mc_P 204 13 = some (.iconst 1, 1, 0, 0, 0) := by decide +kernel
theorem s_204_13 {x0 x1 : Option Value} : mw d 204 Q 13 [x0, x1] (st) h = mw d 204 Q 14 [x0, x1] (.int 1 :: st) h := (mw_at mj_204_13).trans (z_iconst (by decide))
theorem mj_204_14 : mc_P 204 14 = some (.putfield 128, 3, 11, 11, 0) := by decide +kernel
theorem s_204_14 {x0 x1 : Option Value} {o : Nat} {w : Int32} : mw d 204 Q 14 [x0, x1] (.int w :: .ref o :: st) h = (mg h o 11 ∧ (w = 0 ∨ w = 1) ∧ mw d 204 Q 17 [x0, x1] (st) (mh_si h o 11 w)) := (mw_at mj_204_14).trans (z_putz (by decide) (by decide) rfl)
theorem mj_204_17 : mc_P 204 17 = some (.aload_n 0, 1, 0, 0, 0) := by decide +kernel
theorem s_204_17 {x1 : Option Value} {w : Value} : mw d 204 Q 17 [some w, x1] (st) h = mv_a w (mw d 204 Q 18 [some w, x1] (w :: st) h) := (mw_at mj_204_17).trans (z_aload_n rfl)
theorem mj_204_18 : mc_P 204 18 = some (.iconst (-1), 1, 0, 0, 0) := by decide +kernel
theorem s_204_18 {x0 x1 : Option Value} : mw d 204 Q 18 [x0, x1] (st) h = mw d 204 Q 19 [x0, x1] (.int (-1) :: st) h := (mw_at mj_204_18).trans (z_iconst (by decide))
theorem mj_204_19 : mc_P 204 19 = some (.putfield 211, 3, 11, 12, 0) := by decide +kernel
theorem s_204_19 {x0 x1 : Option Value} {o : Nat} {w : Int32} : mw d 204 Q 19 [x0, x1] (.int w :: .ref o :: st) h = (mg h o 11 ∧ mw d 204 Q 22 [x0, x1] (st) (mh_si h o 12 w)) := (mw_at mj_204_19).trans (z_puti (by decide) (by decide) rfl)
theorem mj_204_22 : mc_P 204 22 = some (.aload_n 0, 1, 0, 0, 0) := by decide +kernel
theorem s_204_22 {x1 : Option Value} {w : Value} : mw d 204 Q 22 [some w, x1] (st) h = mv_a w (mw d 204 Q 23 [some w, x1] (w :: st) h) := (mw_at mj_204_22).trans (z_aload_n rfl)
theorem mj_204_23 : mc_P 204 23 = some (.getfield 34, 3, 11, 4, 0) := by decide +kernel
theorem s_204_23 {x0 x1 : Option Value} {o : Nat} : mw d 204 Q 23 [x0, x1] (.ref o :: st) h = (mg h o 11 ∧ mw d 204 Q 26 [x0, x1] (va_rf (mh_r h o 4) :: st) h) := (mw_at mj_204_23).trans (z_getr (by decide) (by decide) rfl)
theorem mj_204_26 : mc_P 204 26 = some (.getfield 111, 3, 0, 3, 0) := by decide +kernel
theorem s_204_26 {x0 x1 : Option Value} {o : Nat} : mw d 204 Q 26 [x0, x1] (.ref o :: st) h = (mg h o 0 ∧ mw d 204 Q 29 [x0, x1] (.int (mh_i h o 3) :: st) h) := (mw_at mj_204_26).trans (z_geti (by decide) (by decide) (Or.inr rfl))
theorem mj_204_29 : mc_P 204 29 = some (.ifCond .eq 12, 3, 0, 0, 0) := by decide +kernel
theorem s_204_29 {x0 x1 : Option Value} {x : Int32} : mw d 204 Q 29 [x0, x1] (.int x :: st) h = mB (x = 0) (mw d 204 Q) 41 32 [x0, x1] st h := (mw_at mj_204_29).trans (z_if_eq (by decide) rfl)
theorem mj_204_32 : mc_P 204 32 = some (.aload_n 0, 1, 0, 0, 0) := by decide +kernel
theorem s_204_32 {x1 : Option Value} {w : Value} : mw d 204 Q 32 [some w, x1] (st) h = mv_a w (mw d 204 Q 33 [some w, x1] (w :: st) h) := (mw_at mj_204_32).trans (z_aload_n rfl)
theorem mj_204_33 : mc_P 204 33 = some (.bipush (-3), 2, 0, 0, 0) := by decide +kernel
theorem s_204_33 {x0 x1 : Option Value} : mw d 204 Q 33 [x0, x1] (st) h = mw d 204 Q 35 [x0, x1] (.int (-3) :: st) h := (mw_at mj_204_33).trans (z_bipush (by decide))
theorem mj_204_35 : mc_P 204 35 = some (.putfield 211, 3, 11, 12, 0) := by decide +kernel
theorem s_204_35 {x0 x1 : Option Value} {o : Nat} {w : Int32} : mw d 204 Q 35 [x0, x1] (.int w :: .ref o :: st) h = (mg h o 11 ∧ mw d 204 Q 38 [x0, x1] (st) (mh_si h o 12 w)) := (mw_at mj_204_35).trans (z_puti (by decide) (by decide) rfl)
theorem mj_204_38 : mc_P 204 38 = some (.goto 21, 3, 0, 0, 0) := by decide +kernel
theorem s_204_38 {x0 x1 : Option Value} : mw d 204 Q 38 [x0, x1] (st) h = mw d 204 Q 59 [x0, x1] (st) h := (mw_at mj_204_38).trans (z_goto (by decide))
theorem mj_204_41 : mc_P 204 41 = some (.aload_n 0, 1, 0, 0, 0) := by decide +kernel
theorem s_204_41 {x1 : Option Value} {w : Value} : mw d 204 Q 41 [some w, x1] (st) h = mv_a w (mw d 204 Q 42 [some w, x1] (w :: st) h) := (mw_at mj_204_41).trans (z_aload_n rfl)
theorem mj_204_42 : mc_P 204 42 = some (.getfield 47, 3, 11, 6, 0) := by decide +kernel
theorem s_204_42 {x0 x1 : Option Value} {o : Nat} : mw d 204 Q 42 [x0, x1] (.ref o :: st) h = (mg h o 11 ∧ mw d 204 Q 45 [x0, x1] (va_rf (mh_r h o 6) :: st) h) := (mw_at mj_204_42).trans (z_getr (by decide) (by decide) rfl)
theorem mj_204_45 : mc_P 204 45 = some (.iconst 0, 1, 0, 0, 0) := by decide +kernel
theorem s_204_45 {x0 x1 : Option Value} : mw d 204 Q 45 [x0, x1] (st) h = mw d 204 Q 46 [x0, x1] (.int 0 :: st) h := (mw_at mj_204_45).trans (z_iconst (by decide))
theorem mj_204_46 : mc_P 204 46 = some (.aaload, 1, 0, 0, 0) := by decide +kernel
theorem s_204_46 {x0 x1 : Option Value} {o : Nat} {i : Int32} : mw d 204 Q 46 [x0, x1] (.int i :: .ref o :: st) h = (mgr h o ∧ mx i (mh_l h o) ∧ mw d 204 Q 47 [x0, x1] (mrd (mh_k h o) h o i.toNatClampNeg :: st) h) := (mw_at mj_204_46).trans (z_aald)
theorem mj_204_47 : mc_P 204 47 = some (.getfield 161, 3, 8, 0, 0) := by decide +kernel
theorem s_204_47 {x0 x1 : Option Value} {o : Nat} : mw d 204 Q 47 [x0, x1] (.ref o :: st) h = (mg h o 8 ∧ mw d 204 Q 50 [x0, x1] (.int (mh_i h o 0) :: st) h) := (mw_at mj_204_47).trans (z_geti (by decide) (by decide) (Or.inr rfl))
theorem mj_204_50 : mc_P 204 50 = some (.ifCond .eq 9, 3, 0, 0, 0) := by decide +kernel
theorem s_204_50 {x0 x1 : Option Value} {x : Int32} : mw d 204 Q 50 [x0, x1] (.int x :: st) h = mB (x = 0) (mw d 204 Q) 59 53 [x0, x1] st h := (mw_at mj_204_50).trans (z_if_eq (by decide) rfl)
theorem mj_204_53 : mc_P 204 53 = some (.aload_n 0, 1, 0, 0, 0) := by decide +kernel
theorem s_204_53 {x1 : Option Value} {w : Value} : mw d 204 Q 53 [some w, x1] (st) h = mv_a w (mw d 204 Q 54 [some w, x1] (w :: st) h) := (mw_at mj_204_53).trans (z_aload_n rfl)
theorem mj_204_54 : mc_P 204 54 = some (.bipush (-2), 2, 0, 0, 0) := by decide +kernel
theorem s_204_54 {x0 x1 : Option Value} : mw d 204 Q 54 [x0, x1] (st) h = mw d 204 Q 56 [x0, x1] (.int (-2) :: st) h := (mw_at mj_204_54).trans (z_bipush (by decide))
theorem mj_204_56 : mc_P 204 56 = some (.putfield 211, 3, 11, 12, 0) := by decide +kernel
theorem s_204_56 {x0 x1 : Option Value} {o : Nat} {w : Int32} : mw d 204 Q 56 [x0, x1] (.int w :: .ref o :: st) h = (mg h o 11 ∧ mw d 204 Q 59 [x0, x1] (st) (mh_si h o 12 w)) := (mw_at mj_204_56).trans (z_puti (by decide) (by decide) rfl)
theorem mj_204_59 : mc_P 204 59 = some (.iconst 0, 1, 0, 0, 0) := by decide +kernel
theorem s_204_59 {x0 x1 : Option Value} : mw d 204 Q 59 [x0, x1] (st) h = mw d 204 Q 60 [x0, x1] (.int 0 :: st) h := (mw_at mj_204_59).trans (z_iconst (by decide))
theorem mj_204_60 : mc_P 204 60 = some (.istore_n 1, 1, 0, 0, 0) := by decide +kernel
theorem s_204_60 {x0 x1 : Option Value} {w : Int32} : mw d 204 Q 60 [x0, x1] (.int w :: st) h = mw d 204 Q 61 [mk2 x0, some (.int w)] (st) h := (mw_at mj_204_60).trans (z_istore_n (Nat.le_of_ble_eq_true rfl) (me_s1_mk (j := 0) (w := x0) rfl))
theorem mj_204_61 : mc_P 204 61 = some (.iload_n 1, 1, 0, 0, 0) := by decide +kernel
theorem s_204_61 {x0 : Option Value} {w : Value} : mw d 204 Q 61 [x0, some w] (st) h = mv_i w (mw d 204 Q 62 [x0, some w] (w :: st) h) := (mw_at mj_204_61).trans (z_iload_n rfl)
theorem mj_204_62 : mc_P 204 62 = some (.aload_n 0, 1, 0, 0, 0) := by decide +kernel
theorem s_204_62 {x1 : Option Value} {w : Value} : mw d 204 Q 62 [some w, x1] (st) h = mv_a w (mw d 204 Q 63 [some w, x1] (w :: st) h) := (mw_at mj_204_62).trans (z_aload_n rfl)
theorem mj_204_63 : mc_P 204 63 = some (.getfield 16, 3, 11, 2, 0) := by decide +kernel
theorem s_204_63 {x0 x1 : Option Value} {o : Nat} : mw d 204 Q 63 [x0, x1] (.ref o :: st) h = (mg h o 11 ∧ mw d 204 Q 66 [x0, x1] (va_rf (mh_r h o 2) :: st) h) := (mw_at mj_204_63).trans (z_getr (by decide) (by decide) rfl)
theorem mj_204_66 : mc_P 204 66 = some (.getfield 114, 3, 4, 2, 0) := by decide +kernel
theorem s_204_66 {x0 x1 : Option Value} {o : Nat} : mw d 204 Q 66 [x0, x1] (.ref o :: st) h = (mg h o 4 ∧ mw d 204 Q 69 [x0, x1] (.int (mh_i h o 2) :: st) h) := (mw_at mj_204_66).trans (z_geti (by decide) (by decide) (Or.inl rfl))
theorem mj_204_69 : mc_P 204 69 = some (.iconst 1, 1, 0, 0, 0) := by decide +kernel
theorem s_204_69 {x0 x1 : Option Value} : mw d 204 Q 69 [x0, x1] (st) h = mw d 204 Q 70 [x0, x1] (.int 1 :: st) h := (mw_at mj_204_69).trans (z_iconst (by decide))
theorem mj_204_70 : mc_P 204 70 = some (.isub, 1, 0, 0, 0) := by decide +kernel
theorem s_204_70 {x0 x1 : Option Value} {x w : Int32} : mw d 204 Q 70 [x0, x1] (.int w :: .int x :: st) h = mw d 204 Q 71 [x0, x1] (.int (x - w) :: st) h := (mw_at mj_204_70).trans (z_isub)
theorem mj_204_71 : mc_P 204 71 = some (.if_icmp .ge 42, 3, 0, 0, 0) := by decide +kernel
theorem s_204_71 {x0 x1 : Option Value} {x w : Int32} : mw d 204 Q 71 [x0, x1] (.int w :: .int x :: st) h = mB (w ≤ x) (mw d 204 Q) 113 74 [x0, x1] st h := (mw_at mj_204_71).trans (z_icmp_ge (by decide) rfl)
theorem mj_204_74 : mc_P 204 74 = some (.aload_n 0, 1, 0, 0, 0) := by decide +kernel
theorem s_204_74 {x1 : Option Value} {w : Value} : mw d 204 Q 74 [some w, x1] (st) h = mv_a w (mw d 204 Q 75 [some w, x1] (w :: st) h) := (mw_at mj_204_74).trans (z_aload_n rfl)
theorem mj_204_75 : mc_P 204 75 = some (.getfield 211, 3, 11, 12, 0) := by decide +kernel
theorem s_204_75 {x0 x1 : Option Value} {o : Nat} : mw d 204 Q 75 [x0, x1] (.ref o :: st) h = (mg h o 11 ∧ mw d 204 Q 78 [x0, x1] (.int (mh_i h o 12) :: st) h) := (mw_at mj_204_75).trans (z_geti (by decide) (by decide) (Or.inl rfl))
theorem mj_204_78 : mc_P 204 78 = some (.iconst (-1), 1, 0, 0, 0) := by decide +kernel
theorem s_204_78 {x0 x1 : Option Value} : mw d 204 Q 78 [x0, x1] (st) h = mw d 204 Q 79 [x0, x1] (.int (-1) :: st) h := (mw_at mj_204_78).trans (z_iconst (by decide))
theorem mj_204_79 : mc_P 204 79 = some (.if_icmp .ne 34, 3, 0, 0, 0) := by decide +kernel
theorem s_204_79 {x0 x1 : Option Value} {x w : Int32} : mw d 204 Q 79 [x0, x1] (.int w :: .int x :: st) h = mB (¬ x = w) (mw d 204 Q) 113 82 [x0, x1] st h := (mw_at mj_204_79).trans (z_icmp_ne (by decide) rfl)
theorem mj_204_82 : mc_P 204 82 = some (.aload_n 0, 1, 0, 0, 0) := by decide +kernel
theorem s_204_82 {x1 : Option Value} {w : Value} : mw d 204 Q 82 [some w, x1] (st) h = mv_a w (mw d 204 Q 83 [some w, x1] (w :: st) h) := (mw_at mj_204_82).trans (z_aload_n rfl)
theorem mj_204_83 : mc_P 204 83 = some (.getfield 47, 3, 11, 6, 0) := by decide +kernel
theorem s_204_83 {x0 x1 : Option Value} {o : Nat} : mw d 204 Q 83 [x0, x1] (.ref o :: st) h = (mg h o 11 ∧ mw d 204 Q 86 [x0, x1] (va_rf (mh_r h o 6) :: st) h) := (mw_at mj_204_83).trans (z_getr (by decide) (by decide) rfl)
theorem mj_204_86 : mc_P 204 86 = some (.iload_n 1, 1, 0, 0, 0) := by decide +kernel
theorem s_204_86 {x0 : Option Value} {w : Value} : mw d 204 Q 86 [x0, some w] (st) h = mv_i w (mw d 204 Q 87 [x0, some w] (w :: st) h) := (mw_at mj_204_86).trans (z_iload_n rfl)
theorem mj_204_87 : mc_P 204 87 = some (.aaload, 1, 0, 0, 0) := by decide +kernel
theorem s_204_87 {x0 x1 : Option Value} {o : Nat} {i : Int32} : mw d 204 Q 87 [x0, x1] (.int i :: .ref o :: st) h = (mgr h o ∧ mx i (mh_l h o) ∧ mw d 204 Q 88 [x0, x1] (mrd (mh_k h o) h o i.toNatClampNeg :: st) h) := (mw_at mj_204_87).trans (z_aald)
theorem mj_204_88 : mc_P 204 88 = some (.getfield 161, 3, 8, 0, 0) := by decide +kernel
theorem s_204_88 {x0 x1 : Option Value} {o : Nat} : mw d 204 Q 88 [x0, x1] (.ref o :: st) h = (mg h o 8 ∧ mw d 204 Q 91 [x0, x1] (.int (mh_i h o 0) :: st) h) := (mw_at mj_204_88).trans (z_geti (by decide) (by decide) (Or.inr rfl))
theorem mj_204_91 : mc_P 204 91 = some (.ifCond .ne 16, 3, 0, 0, 0) := by decide +kernel
theorem s_204_91 {x0 x1 : Option Value} {x : Int32} : mw d 204 Q 91 [x0, x1] (.int x :: st) h = mB (¬ x = 0) (mw d 204 Q) 107 94 [x0, x1] st h := (mw_at mj_204_91).trans (z_if_ne (by decide) rfl)
theorem mj_204_94 : mc_P 204 94 = some (.aload_n 0, 1, 0, 0, 0) := by decide +kernel
theorem s_204_94 {x1 : Option Value} {w : Value} : mw d 204 Q 94 [some w, x1] (st) h = mv_a w (mw d 204 Q 95 [some w, x1] (w :: st) h) := (mw_at mj_204_94).trans (z_aload_n rfl)
theorem mj_204_95 : mc_P 204 95 = some (.iload_n 1, 1, 0, 0, 0) := by decide +kernel
theorem s_204_95 {x0 : Option Value} {w : Value} : mw d 204 Q 95 [x0, some w] (st) h = mv_i w (mw d 204 Q 96 [x0, some w] (w :: st) h) := (mw_at mj_204_95).trans (z_iload_n rfl)
theorem mj_204_96 : mc_P 204 96 = some (.invokevirtual 214, 3, 205, 11, 2) := by decide +kernel
theorem s_204_96 {x0 x1 : Option Value} {o : Nat} {a1 : Value} : mw (d + 1) 204 Q 96 [x0, x1] (a1 :: .ref o :: st) h = (mg h o 11 ∧ mca st 8 ∧ mca [.ref o, a1] 4 ∧ mcall d 205 [.ref o, a1] h (mK (d + 1) 204 Q 99 [x0, x1] st)) := (mw_at mj_204_96).trans ((z_invv (As := [a1]) (by decide) rfl rfl).trans (congrArg (And _) (congrArg (And _) (mC_nl nl_205))))
theorem mj_204_99 : mc_P 204 99 = some (.ifCond .ne 8, 3, 0, 0, 0) := by decide +kernel
theorem s_204_99 {x0 x1 : Option Value} {x : Int32} : mw d 204 Q 99 [x0, x1] (.int x :: st) h = mB (¬ x = 0) (mw d 204 Q) 107 102 [x0, x1] st h := (mw_at mj_204_99).trans (z_if_ne (by decide) rfl)
theorem mj_204_102 : mc_P 204 102 = some (.aload_n 0, 1, 0, 0, 0) := by decide +kernel
theorem s_204_102 {x1 : Option Value} {w : Value} : mw d 204 Q 102 [some w, x1] (st) h = mv_a w (mw d 204 Q 103 [some w, x1] (w :: st) h) := (mw_at mj_204_102).trans (z_aload_n rfl)
theorem mj_204_103 : mc_P 204 103 = some (.iload_n 1, 1, 0, 0, 0) := by decide +kernel
theorem s_204_103 {x0 : Option Value} {w : Value} : mw d 204 Q 103 [x0, some w] (st) h = mv_i w (mw d 204 Q 104 [x0, some w] (w :: st) h) := (mw_at mj_204_103).trans (z_iload_n rfl)
theorem mj_204_104 : mc_P 204 104 = some (.putfield 211, 3, 11, 12, 0) := by decide +kernel
theorem s_204_104 {x0 x1 : Option Value} {o : Nat} {w : Int32} : mw d 204 Q 104 [x0, x1] (.int w :: .ref o :: st) h = (mg h o 11 ∧ mw d 204 Q 107 [x0, x1] (st) (mh_si h o 12 w)) := (mw_at mj_204_104).trans (z_puti (by decide) (by decide) rfl)
theorem mj_204_107 : mc_P 204 107 = some (.iinc 1 1, 3, 0, 0, 0) := by decide +kernel
theorem s_204_107 {x0 : Option Value} {w : Int32} : mw d 204 Q 107 [x0, some (.int w)] (st) h = mw d 204 Q 110 [mk2 x0, some (.int (w + 1))] (st) h := (mw_at mj_204_107).trans (z_iinc rfl (Nat.le_of_ble_eq_true rfl) (by decide) (me_s1_mk (j := 0) (w := x0) rfl))
theorem mj_204_110 : mc_P 204 110 = some (.goto (-49), 3, 0, 0, 0) := by decide +kernel
theorem s_204_110 {x0 x1 : Option Value} : mw d 204 Q 110 [x0, x1] (st) h = mw d 204 Q 61 [x0, x1] (st) h := (mw_at mj_204_110).trans (z_goto (by decide))
theorem mj_204_113 : mc_P 204 113 = some (.aload_n 0, 1, 0, 0, 0) := by decide +kernel
theorem s_204_113 {x1 : Option Value} {w : Value} : mw d 204 Q 113 [some w, x1] (st) h = mv_a w (mw d 204 Q 114 [some w, x1] (w :: st) h) := (mw_at mj_204_113).trans (z_aload_n rfl)
theorem mj_204_114 : mc_P 204 114 = some (.getfield 211, 3, 11, 12, 0) := by decide +kernel
theorem s_204_114 {x0 x1 : Option Value} {o : Nat} : mw d 204 Q 114 [x0, x1] (.ref o :: st) h = (mg h o 11 ∧ mw d 204 Q 117 [x0, x1] (.int (mh_i h o 12) :: st) h) := (mw_at mj_204_114).trans (z_geti (by decide) (by decide) (Or.inl rfl))
theorem mj_204_117 : mc_P 204 117 = some (.ireturn, 1, 0, 0, 0) := by decide +kernel
theorem s_204_117 {x0 x1 : Option Value} {x : Int32} : mw d 204 Q 117 [x0, x1] ([.int x]) h = (Q (some (.int x)) h) := (mw_at mj_204_117).trans (z_iret)
theorem e_204 {a0 : Nat} : mcall d 204 [.ref a0] h Q = mw d 204 Q 0 [some (.ref a0), none] [] h := by
  show mw d 204 Q 0 (me_en (mc_nl 204) _) [] h = _
  rw [nl_204]; rfl

/-! InvariantDesk.input(I)I -/
theorem mj_206_0 : mc_P 206 0 = some (.aload_n 0, 1, 0, 0, 0) := by decide +kernel
theorem s_206_0 {x1 : Option Value} {w : Value} : mw d 206 Q 0 [some w, x1] (st) h = mv_a w (mw d 206 Q 1 [some w, x1] (w :: st) h) := (mw_at mj_206_0).trans (z_aload_n rfl)
theorem mj_206_1 : mc_P 206 1 = some (.getfield 41, 3, 11, 5, 0) := by decide +kernel
theorem s_206_1 {x0 x1 : Option Value} {o : Nat} : mw d 206 Q 1 [x0, x1] (.ref o :: st) h = (mg h o 11 ∧ mw d 206 Q 4 [x0, x1] (va_rf (mh_r h o 5) :: st) h) := (mw_at mj_206_1).trans (z_getr (by decide) (by decide) rfl)
theorem mj_206_4 : mc_P 206 4 = some (.iload_n 1, 1, 0, 0, 0) := by decide +kernel
theorem s_206_4 {x0 : Option Value} {w : Value} : mw d 206 Q 4 [x0, some w] (st) h = mv_i w (mw d 206 Q 5 [x0, some w] (w :: st) h) := (mw_at mj_206_4).trans (z_iload_n rfl)
theorem mj_206_5 : mc_P 206 5 = some (.invokevirtual 251, 3, 26, 2, 2) := by decide +kernel
theorem s_206_5 {x0 x1 : Option Value} {o : Nat} {a1 : Value} : mw (d + 1) 206 Q 5 [x0, x1] (a1 :: .ref o :: st) h = (mg h o 2 ∧ mca st 8 ∧ mca [.ref o, a1] 2 ∧ mcall d 26 [.ref o, a1] h (mK (d + 1) 206 Q 8 [x0, x1] st)) := (mw_at mj_206_5).trans ((z_invv (As := [a1]) (by decide) rfl rfl).trans (congrArg (And _) (congrArg (And _) (mC_nl nl_26))))
theorem mj_206_8 : mc_P 206 8 = some (.ireturn, 1, 0, 0, 0) := by decide +kernel
theorem s_206_8 {x0 x1 : Option Value} {x : Int32} : mw d 206 Q 8 [x0, x1] ([.int x]) h = (Q (some (.int x)) h) := (mw_at mj_206_8).trans (z_iret)
theorem e_206 {a0 : Nat} {a1 : Int32} : mcall d 206 [.ref a0, .int a1] h Q = mw d 206 Q 0 [some (.ref a0), some (.int a1)] [] h := by
  show mw d 206 Q 0 (me_en (mc_nl 206) _) [] h = _
  rw [nl_206]; rfl

/-! InvariantDesk.drop()I -/
theorem mj_207_0 : mc_P 207 0 = some (.aload_n 0, 1, 0, 0, 0) := by decide +kernel
theorem s_207_0 {x1 : Option Value} {w : Value} : mw d 207 Q 0 [some w, x1] (st) h = mv_a w (mw d 207 Q 1 [some w, x1] (w :: st) h) := (mw_at mj_207_0).trans (z_aload_n rfl)
theorem mj_207_1 : mc_P 207 1 = some (.getfield 41, 3, 11, 5, 0) := by decide +kernel
theorem s_207_1 {x0 x1 : Option Value} {o : Nat} : mw d 207 Q 1 [x0, x1] (.ref o :: st) h = (mg h o 11 ∧ mw d 207 Q 4 [x0, x1] (va_rf (mh_r h o 5) :: st) h) := (mw_at mj_207_1).trans (z_getr (by decide) (by decide) rfl)
theorem mj_207_4 : mc_P 207 4 = some (.getfield 254, 3, 2, 2, 0) := by decide +kernel
theorem s_207_4 {x0 x1 : Option Value} {o : Nat} : mw d 207 Q 4 [x0, x1] (.ref o :: st) h = (mg h o 2 ∧ mw d 207 Q 7 [x0, x1] (.int (mh_i h o 2) :: st) h) := (mw_at mj_207_4).trans (z_geti (by decide) (by decide) (Or.inl rfl))
theorem mj_207_7 : mc_P 207 7 = some (.istore_n 1, 1, 0, 0, 0) := by decide +kernel
theorem s_207_7 {x0 x1 : Option Value} {w : Int32} : mw d 207 Q 7 [x0, x1] (.int w :: st) h = mw d 207 Q 8 [mk2 x0, some (.int w)] (st) h := (mw_at mj_207_7).trans (z_istore_n (Nat.le_of_ble_eq_true rfl) (me_s1_mk (j := 0) (w := x0) rfl))
theorem mj_207_8 : mc_P 207 8 = some (.aload_n 0, 1, 0, 0, 0) := by decide +kernel
theorem s_207_8 {x1 : Option Value} {w : Value} : mw d 207 Q 8 [some w, x1] (st) h = mv_a w (mw d 207 Q 9 [some w, x1] (w :: st) h) := (mw_at mj_207_8).trans (z_aload_n rfl)
theorem mj_207_9 : mc_P 207 9 = some (.getfield 41, 3, 11, 5, 0) := by decide +kernel
theorem s_207_9 {x0 x1 : Option Value} {o : Nat} : mw d 207 Q 9 [x0, x1] (.ref o :: st) h = (mg h o 11 ∧ mw d 207 Q 12 [x0, x1] (va_rf (mh_r h o 5) :: st) h) := (mw_at mj_207_9).trans (z_getr (by decide) (by decide) rfl)
theorem mj_207_12 : mc_P 207 12 = some (.iconst 0, 1, 0, 0, 0) := by decide +kernel
theorem s_207_12 {x0 x1 : Option Value} : mw d 207 Q 12 [x0, x1] (st) h = mw d 207 Q 13 [x0, x1] (.int 0 :: st) h := (mw_at mj_207_12).trans (z_iconst (by decide))
theorem mj_207_13 : mc_P 207 13 = some (.putfield 254, 3, 2, 2, 0) := by decide +kernel
theorem s_207_13 {x0 x1 : Option Value} {o : Nat} {w : Int32} : mw d 207 Q 13 [x0, x1] (.int w :: .ref o :: st) h = (mg h o 2 ∧ mw d 207 Q 16 [x0, x1] (st) (mh_si h o 2 w)) := (mw_at mj_207_13).trans (z_puti (by decide) (by decide) rfl)
theorem mj_207_16 : mc_P 207 16 = some (.iload_n 1, 1, 0, 0, 0) := by decide +kernel
theorem s_207_16 {x0 : Option Value} {w : Value} : mw d 207 Q 16 [x0, some w] (st) h = mv_i w (mw d 207 Q 17 [x0, some w] (w :: st) h) := (mw_at mj_207_16).trans (z_iload_n rfl)
theorem mj_207_17 : mc_P 207 17 = some (.ireturn, 1, 0, 0, 0) := by decide +kernel
theorem s_207_17 {x0 x1 : Option Value} {x : Int32} : mw d 207 Q 17 [x0, x1] ([.int x]) h = (Q (some (.int x)) h) := (mw_at mj_207_17).trans (z_iret)
theorem e_207 {a0 : Nat} : mcall d 207 [.ref a0] h Q = mw d 207 Q 0 [some (.ref a0), none] [] h := by
  show mw d 207 Q 0 (me_en (mc_nl 207) _) [] h = _
  rw [nl_207]; rfl

/-! InvariantDesk.run(I)I -/
theorem mj_208_0 : mc_P 208 0 = some (.iload_n 1, 1, 0, 0, 0) := by decide +kernel
theorem s_208_0 {x0 x2 : Option Value} {w : Value} : mw d 208 Q 0 [x0, some w, x2] (st) h = mv_i w (mw d 208 Q 1 [x0, some w, x2] (w :: st) h) := (mw_at mj_208_0).trans (z_iload_n rfl)
theorem mj_208_1 : mc_P 208 1 = some (.ifCond .lt 10, 3, 0, 0, 0) := by decide +kernel
theorem s_208_1 {x0 x1 x2 : Option Value} {x : Int32} : mw d 208 Q 1 [x0, x1, x2] (.int x :: st) h = mB (x < 0) (mw d 208 Q) 11 4 [x0, x1, x2] st h := (mw_at mj_208_1).trans (z_if_lt (by decide) rfl)
theorem mj_208_4 : mc_P 208 4 = some (.iload_n 1, 1, 0, 0, 0) := by decide +kernel
theorem s_208_4 {x0 x2 : Option Value} {w : Value} : mw d 208 Q 4 [x0, some w, x2] (st) h = mv_i w (mw d 208 Q 5 [x0, some w, x2] (w :: st) h) := (mw_at mj_208_4).trans (z_iload_n rfl)
theorem mj_208_5 : mc_P 208 5 = some (.sipush 2000, 3, 0, 0, 0) := by decide +kernel
theorem s_208_5 {x0 x1 x2 : Option Value} : mw d 208 Q 5 [x0, x1, x2] (st) h = mw d 208 Q 8 [x0, x1, x2] (.int 2000 :: st) h := (mw_at mj_208_5).trans (z_sipush (by decide))
theorem mj_208_8 : mc_P 208 8 = some (.if_icmp .le 5, 3, 0, 0, 0) := by decide +kernel
theorem s_208_8 {x0 x1 x2 : Option Value} {x w : Int32} : mw d 208 Q 8 [x0, x1, x2] (.int w :: .int x :: st) h = mB (x ≤ w) (mw d 208 Q) 13 11 [x0, x1, x2] st h := (mw_at mj_208_8).trans (z_icmp_le (by decide) rfl)
theorem mj_208_11 : mc_P 208 11 = some (.iconst (-1), 1, 0, 0, 0) := by decide +kernel
theorem s_208_11 {x0 x1 x2 : Option Value} : mw d 208 Q 11 [x0, x1, x2] (st) h = mw d 208 Q 12 [x0, x1, x2] (.int (-1) :: st) h := (mw_at mj_208_11).trans (z_iconst (by decide))
theorem mj_208_12 : mc_P 208 12 = some (.ireturn, 1, 0, 0, 0) := by decide +kernel
theorem s_208_12 {x0 x1 x2 : Option Value} {x : Int32} : mw d 208 Q 12 [x0, x1, x2] ([.int x]) h = (Q (some (.int x)) h) := (mw_at mj_208_12).trans (z_iret)
theorem mj_208_13 : mc_P 208 13 = some (.aload_n 0, 1, 0, 0, 0) := by decide +kernel
theorem s_208_13 {x1 x2 : Option Value} {w : Value} : mw d 208 Q 13 [some w, x1, x2] (st) h = mv_a w (mw d 208 Q 14 [some w, x1, x2] (w :: st) h) := (mw_at mj_208_13).trans (z_aload_n rfl)
theorem mj_208_14 : mc_P 208 14 = some (.getfield 125, 3, 11, 10, 0) := by decide +kernel
theorem s_208_14 {x0 x1 x2 : Option Value} {o : Nat} : mw d 208 Q 14 [x0, x1, x2] (.ref o :: st) h = (mg h o 11 ∧ mw d 208 Q 17 [x0, x1, x2] (.int (mh_i h o 10) :: st) h) := (mw_at mj_208_14).trans (z_geti (by decide) (by decide) (Or.inr rfl))
theorem mj_208_17 : mc_P 208 17 = some (.ifCond .eq 15, 3, 0, 0, 0) := by decide +kernel
theorem s_208_17 {x0 x1 x2 : Option Value} {x : Int32} : mw d 208 Q 17 [x0, x1, x2] (.int x :: st) h = mB (x = 0) (mw d 208 Q) 32 20 [x0, x1, x2] st h := (mw_at mj_208_17).trans (z_if_eq (by decide) rfl)
theorem mj_208_20 : mc_P 208 20 = some (.aload_n 0, 1, 0, 0, 0) := by decide +kernel
theorem s_208_20 {x1 x2 : Option Value} {w : Value} : mw d 208 Q 20 [some w, x1, x2] (st) h = mv_a w (mw d 208 Q 21 [some w, x1, x2] (w :: st) h) := (mw_at mj_208_20).trans (z_aload_n rfl)
theorem mj_208_21 : mc_P 208 21 = some (.invokevirtual 208, 3, 204, 11, 1) := by decide +kernel
theorem s_208_21 {x0 x1 x2 : Option Value} {o : Nat} : mw (d + 1) 208 Q 21 [x0, x1, x2] (.ref o :: st) h = (mg h o 11 ∧ mca st 8 ∧ mca [.ref o] 2 ∧ mcall d 204 [.ref o] h (mK (d + 1) 208 Q 24 [x0, x1, x2] st)) := (mw_at mj_208_21).trans ((z_invv (As := []) (by decide) rfl rfl).trans (congrArg (And _) (congrArg (And _) (mC_nl nl_204))))
theorem mj_208_24 : mc_P 208 24 = some (.iconst (-1), 1, 0, 0, 0) := by decide +kernel
theorem s_208_24 {x0 x1 x2 : Option Value} : mw d 208 Q 24 [x0, x1, x2] (st) h = mw d 208 Q 25 [x0, x1, x2] (.int (-1) :: st) h := (mw_at mj_208_24).trans (z_iconst (by decide))
theorem mj_208_25 : mc_P 208 25 = some (.if_icmp .ne 7, 3, 0, 0, 0) := by decide +kernel
theorem s_208_25 {x0 x1 x2 : Option Value} {x w : Int32} : mw d 208 Q 25 [x0, x1, x2] (.int w :: .int x :: st) h = mB (¬ x = w) (mw d 208 Q) 32 28 [x0, x1, x2] st h := (mw_at mj_208_25).trans (z_icmp_ne (by decide) rfl)
theorem mj_208_28 : mc_P 208 28 = some (.iconst 1, 1, 0, 0, 0) := by decide +kernel
theorem s_208_28 {x0 x1 x2 : Option Value} : mw d 208 Q 28 [x0, x1, x2] (st) h = mw d 208 Q 29 [x0, x1, x2] (.int 1 :: st) h := (mw_at mj_208_28).trans (z_iconst (by decide))
theorem mj_208_29 : mc_P 208 29 = some (.goto 4, 3, 0, 0, 0) := by decide +kernel
theorem s_208_29 {x0 x1 x2 : Option Value} : mw d 208 Q 29 [x0, x1, x2] (st) h = mw d 208 Q 33 [x0, x1, x2] (st) h := (mw_at mj_208_29).trans (z_goto (by decide))
theorem mj_208_32 : mc_P 208 32 = some (.iconst 0, 1, 0, 0, 0) := by decide +kernel
theorem s_208_32 {x0 x1 x2 : Option Value} : mw d 208 Q 32 [x0, x1, x2] (st) h = mw d 208 Q 33 [x0, x1, x2] (.int 0 :: st) h := (mw_at mj_208_32).trans (z_iconst (by decide))
theorem mj_208_33 : mc_P 208 33 = some (.istore_n 2, 1, 0, 0, 0) := by decide +kernel
theorem s_208_33 {x0 x1 x2 : Option Value} {w : Int32} : mw d 208 Q 33 [x0, x1, x2] (.int w :: st) h = mw d 208 Q 34 [x0, mk2 x1, some (.int w)] (st) h := (mw_at mj_208_33).trans (z_istore_n (Nat.le_of_ble_eq_true rfl) (me_s1_mk (j := 1) (w := x1) rfl))
theorem mj_208_34 : mc_P 208 34 = some (.aload_n 0, 1, 0, 0, 0) := by decide +kernel
theorem s_208_34 {x1 x2 : Option Value} {w : Value} : mw d 208 Q 34 [some w, x1, x2] (st) h = mv_a w (mw d 208 Q 35 [some w, x1, x2] (w :: st) h) := (mw_at mj_208_34).trans (z_aload_n rfl)
theorem mj_208_35 : mc_P 208 35 = some (.getfield 41, 3, 11, 5, 0) := by decide +kernel
theorem s_208_35 {x0 x1 x2 : Option Value} {o : Nat} : mw d 208 Q 35 [x0, x1, x2] (.ref o :: st) h = (mg h o 11 ∧ mw d 208 Q 38 [x0, x1, x2] (va_rf (mh_r h o 5) :: st) h) := (mw_at mj_208_35).trans (z_getr (by decide) (by decide) rfl)
theorem mj_208_38 : mc_P 208 38 = some (.iload_n 1, 1, 0, 0, 0) := by decide +kernel
theorem s_208_38 {x0 x2 : Option Value} {w : Value} : mw d 208 Q 38 [x0, some w, x2] (st) h = mv_i w (mw d 208 Q 39 [x0, some w, x2] (w :: st) h) := (mw_at mj_208_38).trans (z_iload_n rfl)
theorem mj_208_39 : mc_P 208 39 = some (.aload_n 0, 1, 0, 0, 0) := by decide +kernel
theorem s_208_39 {x1 x2 : Option Value} {w : Value} : mw d 208 Q 39 [some w, x1, x2] (st) h = mv_a w (mw d 208 Q 40 [some w, x1, x2] (w :: st) h) := (mw_at mj_208_39).trans (z_aload_n rfl)
theorem mj_208_40 : mc_P 208 40 = some (.getfield 34, 3, 11, 4, 0) := by decide +kernel
theorem s_208_40 {x0 x1 x2 : Option Value} {o : Nat} : mw d 208 Q 40 [x0, x1, x2] (.ref o :: st) h = (mg h o 11 ∧ mw d 208 Q 43 [x0, x1, x2] (va_rf (mh_r h o 4) :: st) h) := (mw_at mj_208_40).trans (z_getr (by decide) (by decide) rfl)
theorem mj_208_43 : mc_P 208 43 = some (.iload_n 2, 1, 0, 0, 0) := by decide +kernel
theorem s_208_43 {x0 x1 : Option Value} {w : Value} : mw d 208 Q 43 [x0, x1, some w] (st) h = mv_i w (mw d 208 Q 44 [x0, x1, some w] (w :: st) h) := (mw_at mj_208_43).trans (z_iload_n rfl)
theorem mj_208_44 : mc_P 208 44 = some (.ifCond .eq 10, 3, 0, 0, 0) := by decide +kernel
theorem s_208_44 {x0 x1 x2 : Option Value} {x : Int32} : mw d 208 Q 44 [x0, x1, x2] (.int x :: st) h = mB (x = 0) (mw d 208 Q) 54 47 [x0, x1, x2] st h := (mw_at mj_208_44).trans (z_if_eq (by decide) rfl)
theorem mj_208_47 : mc_P 208 47 = some (.aload_n 0, 1, 0, 0, 0) := by decide +kernel
theorem s_208_47 {x1 x2 : Option Value} {w : Value} : mw d 208 Q 47 [some w, x1, x2] (st) h = mv_a w (mw d 208 Q 48 [some w, x1, x2] (w :: st) h) := (mw_at mj_208_47).trans (z_aload_n rfl)
theorem mj_208_48 : mc_P 208 48 = some (.getfield 47, 3, 11, 6, 0) := by decide +kernel
theorem s_208_48 {x0 x1 x2 : Option Value} {o : Nat} : mw d 208 Q 48 [x0, x1, x2] (.ref o :: st) h = (mg h o 11 ∧ mw d 208 Q 51 [x0, x1, x2] (va_rf (mh_r h o 6) :: st) h) := (mw_at mj_208_48).trans (z_getr (by decide) (by decide) rfl)
theorem mj_208_51 : mc_P 208 51 = some (.goto 4, 3, 0, 0, 0) := by decide +kernel
theorem s_208_51 {x0 x1 x2 : Option Value} : mw d 208 Q 51 [x0, x1, x2] (st) h = mw d 208 Q 55 [x0, x1, x2] (st) h := (mw_at mj_208_51).trans (z_goto (by decide))
theorem mj_208_54 : mc_P 208 54 = some (.aconst_null, 1, 0, 0, 0) := by decide +kernel
theorem s_208_54 {x0 x1 x2 : Option Value} : mw d 208 Q 54 [x0, x1, x2] (st) h = mw d 208 Q 55 [x0, x1, x2] (.null :: st) h := (mw_at mj_208_54).trans (z_null)
theorem mj_208_55 : mc_P 208 55 = some (.invokevirtual 257, 3, 28, 2, 4) := by decide +kernel
theorem s_208_55 {x0 x1 x2 : Option Value} {o : Nat} {a1 a2 a3 : Value} : mw (d + 1) 208 Q 55 [x0, x1, x2] (a3 :: a2 :: a1 :: .ref o :: st) h = (mg h o 2 ∧ mca st 8 ∧ mca [.ref o, a1, a2, a3] 6 ∧ mcall d 28 [.ref o, a1, a2, a3] h (mK (d + 1) 208 Q 58 [x0, x1, x2] st)) := (mw_at mj_208_55).trans ((z_invv (As := [a1, a2, a3]) (by decide) rfl rfl).trans (congrArg (And _) (congrArg (And _) (mC_nl nl_28))))
theorem mj_208_58 : mc_P 208 58 = some (.ireturn, 1, 0, 0, 0) := by decide +kernel
theorem s_208_58 {x0 x1 x2 : Option Value} {x : Int32} : mw d 208 Q 58 [x0, x1, x2] ([.int x]) h = (Q (some (.int x)) h) := (mw_at mj_208_58).trans (z_iret)
theorem e_208 {a0 : Nat} {a1 : Int32} : mcall d 208 [.ref a0, .int a1] h Q = mw d 208 Q 0 [some (.ref a0), some (.int a1), none] [] h := by
  show mw d 208 Q 0 (me_en (mc_nl 208) _) [] h = _
  rw [nl_208]; rfl

/-! InvariantDesk.ran(I)I -/
theorem mj_209_0 : mc_P 209 0 = some (.iload_n 1, 1, 0, 0, 0) := by decide +kernel
theorem s_209_0 {x0 : Option Value} {w : Value} : mw d 209 Q 0 [x0, some w] (st) h = mv_i w (mw d 209 Q 1 [x0, some w] (w :: st) h) := (mw_at mj_209_0).trans (z_iload_n rfl)
theorem mj_209_1 : mc_P 209 1 = some (.tableswitch 51 0 2 #[27, 35, 43], 27, 0, 0, 0) := by decide +kernel
theorem s_209_1 {x0 x1 : Option Value} {x : Int32} : mw d 209 Q 1 [x0, x1] (.int x :: st) h = mS x (mw d 209 Q) 52 [x0, x1] st h [(0, 28), (1, 36), (2, 44)] := (mw_at mj_209_1).trans (z_tab (by decide) (by decide) (by decide +kernel))
theorem mj_209_28 : mc_P 209 28 = some (.aload_n 0, 1, 0, 0, 0) := by decide +kernel
theorem s_209_28 {x1 : Option Value} {w : Value} : mw d 209 Q 28 [some w, x1] (st) h = mv_a w (mw d 209 Q 29 [some w, x1] (w :: st) h) := (mw_at mj_209_28).trans (z_aload_n rfl)
theorem mj_209_29 : mc_P 209 29 = some (.getfield 41, 3, 11, 5, 0) := by decide +kernel
theorem s_209_29 {x0 x1 : Option Value} {o : Nat} : mw d 209 Q 29 [x0, x1] (.ref o :: st) h = (mg h o 11 ∧ mw d 209 Q 32 [x0, x1] (va_rf (mh_r h o 5) :: st) h) := (mw_at mj_209_29).trans (z_getr (by decide) (by decide) rfl)
theorem mj_209_32 : mc_P 209 32 = some (.getfield 261, 3, 2, 4, 0) := by decide +kernel
theorem s_209_32 {x0 x1 : Option Value} {o : Nat} : mw d 209 Q 32 [x0, x1] (.ref o :: st) h = (mg h o 2 ∧ mw d 209 Q 35 [x0, x1] (.int (mh_i h o 4) :: st) h) := (mw_at mj_209_32).trans (z_geti (by decide) (by decide) (Or.inl rfl))
theorem mj_209_35 : mc_P 209 35 = some (.ireturn, 1, 0, 0, 0) := by decide +kernel
theorem s_209_35 {x0 x1 : Option Value} {x : Int32} : mw d 209 Q 35 [x0, x1] ([.int x]) h = (Q (some (.int x)) h) := (mw_at mj_209_35).trans (z_iret)
theorem mj_209_36 : mc_P 209 36 = some (.aload_n 0, 1, 0, 0, 0) := by decide +kernel
theorem s_209_36 {x1 : Option Value} {w : Value} : mw d 209 Q 36 [some w, x1] (st) h = mv_a w (mw d 209 Q 37 [some w, x1] (w :: st) h) := (mw_at mj_209_36).trans (z_aload_n rfl)
theorem mj_209_37 : mc_P 209 37 = some (.getfield 41, 3, 11, 5, 0) := by decide +kernel
theorem s_209_37 {x0 x1 : Option Value} {o : Nat} : mw d 209 Q 37 [x0, x1] (.ref o :: st) h = (mg h o 11 ∧ mw d 209 Q 40 [x0, x1] (va_rf (mh_r h o 5) :: st) h) := (mw_at mj_209_37).trans (z_getr (by decide) (by decide) rfl)
theorem mj_209_40 : mc_P 209 40 = some (.getfield 264, 3, 2, 5, 0) := by decide +kernel
theorem s_209_40 {x0 x1 : Option Value} {o : Nat} : mw d 209 Q 40 [x0, x1] (.ref o :: st) h = (mg h o 2 ∧ mw d 209 Q 43 [x0, x1] (.int (mh_i h o 5) :: st) h) := (mw_at mj_209_40).trans (z_geti (by decide) (by decide) (Or.inl rfl))
theorem mj_209_43 : mc_P 209 43 = some (.ireturn, 1, 0, 0, 0) := by decide +kernel
theorem s_209_43 {x0 x1 : Option Value} {x : Int32} : mw d 209 Q 43 [x0, x1] ([.int x]) h = (Q (some (.int x)) h) := (mw_at mj_209_43).trans (z_iret)
theorem mj_209_44 : mc_P 209 44 = some (.aload_n 0, 1, 0, 0, 0) := by decide +kernel
theorem s_209_44 {x1 : Option Value} {w : Value} : mw d 209 Q 44 [some w, x1] (st) h = mv_a w (mw d 209 Q 45 [some w, x1] (w :: st) h) := (mw_at mj_209_44).trans (z_aload_n rfl)
theorem mj_209_45 : mc_P 209 45 = some (.getfield 41, 3, 11, 5, 0) := by decide +kernel
theorem s_209_45 {x0 x1 : Option Value} {o : Nat} : mw d 209 Q 45 [x0, x1] (.ref o :: st) h = (mg h o 11 ∧ mw d 209 Q 48 [x0, x1] (va_rf (mh_r h o 5) :: st) h) := (mw_at mj_209_45).trans (z_getr (by decide) (by decide) rfl)
theorem mj_209_48 : mc_P 209 48 = some (.getfield 267, 3, 2, 3, 0) := by decide +kernel
theorem s_209_48 {x0 x1 : Option Value} {o : Nat} : mw d 209 Q 48 [x0, x1] (.ref o :: st) h = (mg h o 2 ∧ mw d 209 Q 51 [x0, x1] (.int (mh_i h o 3) :: st) h) := (mw_at mj_209_48).trans (z_geti (by decide) (by decide) (Or.inl rfl))
theorem mj_209_51 : mc_P 209 51 = some (.ireturn, 1, 0, 0, 0) := by decide +kernel
theorem s_209_51 {x0 x1 : Option Value} {x : Int32} : mw d 209 Q 51 [x0, x1] ([.int x]) h = (Q (some (.int x)) h) := (mw_at mj_209_51).trans (z_iret)
theorem mj_209_52 : mc_P 209 52 = some (.iconst (-1), 1, 0, 0, 0) := by decide +kernel
theorem s_209_52 {x0 x1 : Option Value} : mw d 209 Q 52 [x0, x1] (st) h = mw d 209 Q 53 [x0, x1] (.int (-1) :: st) h := (mw_at mj_209_52).trans (z_iconst (by decide))
theorem mj_209_53 : mc_P 209 53 = some (.ireturn, 1, 0, 0, 0) := by decide +kernel
theorem s_209_53 {x0 x1 : Option Value} {x : Int32} : mw d 209 Q 53 [x0, x1] ([.int x]) h = (Q (some (.int x)) h) := (mw_at mj_209_53).trans (z_iret)
theorem e_209 {a0 : Nat} {a1 : Int32} : mcall d 209 [.ref a0, .int a1] h Q = mw d 209 Q 0 [some (.ref a0), some (.int a1)] [] h := by
  show mw d 209 Q 0 (me_en (mc_nl 209) _) [] h = _
  rw [nl_209]; rfl

/-! InvariantDesk.value(I)I -/
theorem mj_210_0 : mc_P 210 0 = some (.iload_n 1, 1, 0, 0, 0) := by decide +kernel
theorem s_210_0 {x0 x2 : Option Value} {w : Value} : mw d 210 Q 0 [x0, some w, x2] (st) h = mv_i w (mw d 210 Q 1 [x0, some w, x2] (w :: st) h) := (mw_at mj_210_0).trans (z_iload_n rfl)
theorem mj_210_1 : mc_P 210 1 = some (.ifCond .lt 25, 3, 0, 0, 0) := by decide +kernel
theorem s_210_1 {x0 x1 x2 : Option Value} {x : Int32} : mw d 210 Q 1 [x0, x1, x2] (.int x :: st) h = mB (x < 0) (mw d 210 Q) 26 4 [x0, x1, x2] st h := (mw_at mj_210_1).trans (z_if_lt (by decide) rfl)
theorem mj_210_4 : mc_P 210 4 = some (.iload_n 1, 1, 0, 0, 0) := by decide +kernel
theorem s_210_4 {x0 x2 : Option Value} {w : Value} : mw d 210 Q 4 [x0, some w, x2] (st) h = mv_i w (mw d 210 Q 5 [x0, some w, x2] (w :: st) h) := (mw_at mj_210_4).trans (z_iload_n rfl)
theorem mj_210_5 : mc_P 210 5 = some (.aload_n 0, 1, 0, 0, 0) := by decide +kernel
theorem s_210_5 {x1 x2 : Option Value} {w : Value} : mw d 210 Q 5 [some w, x1, x2] (st) h = mv_a w (mw d 210 Q 6 [some w, x1, x2] (w :: st) h) := (mw_at mj_210_5).trans (z_aload_n rfl)
theorem mj_210_6 : mc_P 210 6 = some (.getfield 16, 3, 11, 2, 0) := by decide +kernel
theorem s_210_6 {x0 x1 x2 : Option Value} {o : Nat} : mw d 210 Q 6 [x0, x1, x2] (.ref o :: st) h = (mg h o 11 ∧ mw d 210 Q 9 [x0, x1, x2] (va_rf (mh_r h o 2) :: st) h) := (mw_at mj_210_6).trans (z_getr (by decide) (by decide) rfl)
theorem mj_210_9 : mc_P 210 9 = some (.aload_n 0, 1, 0, 0, 0) := by decide +kernel
theorem s_210_9 {x1 x2 : Option Value} {w : Value} : mw d 210 Q 9 [some w, x1, x2] (st) h = mv_a w (mw d 210 Q 10 [some w, x1, x2] (w :: st) h) := (mw_at mj_210_9).trans (z_aload_n rfl)
theorem mj_210_10 : mc_P 210 10 = some (.getfield 41, 3, 11, 5, 0) := by decide +kernel
theorem s_210_10 {x0 x1 x2 : Option Value} {o : Nat} : mw d 210 Q 10 [x0, x1, x2] (.ref o :: st) h = (mg h o 11 ∧ mw d 210 Q 13 [x0, x1, x2] (va_rf (mh_r h o 5) :: st) h) := (mw_at mj_210_10).trans (z_getr (by decide) (by decide) rfl)
theorem mj_210_13 : mc_P 210 13 = some (.getfield 261, 3, 2, 4, 0) := by decide +kernel
theorem s_210_13 {x0 x1 x2 : Option Value} {o : Nat} : mw d 210 Q 13 [x0, x1, x2] (.ref o :: st) h = (mg h o 2 ∧ mw d 210 Q 16 [x0, x1, x2] (.int (mh_i h o 4) :: st) h) := (mw_at mj_210_13).trans (z_geti (by decide) (by decide) (Or.inl rfl))
theorem mj_210_16 : mc_P 210 16 = some (.invokevirtual 154, 3, 80, 4, 2) := by decide +kernel
theorem s_210_16 {x0 x1 x2 : Option Value} {o : Nat} {a1 : Value} : mw (d + 1) 210 Q 16 [x0, x1, x2] (a1 :: .ref o :: st) h = (mg h o 4 ∧ mca st 8 ∧ mca [.ref o, a1] 2 ∧ mcall d 80 [.ref o, a1] h (mK (d + 1) 210 Q 19 [x0, x1, x2] st)) := (mw_at mj_210_16).trans ((z_invv (As := [a1]) (by decide) rfl rfl).trans (congrArg (And _) (congrArg (And _) (mC_nl nl_80))))
theorem mj_210_19 : mc_P 210 19 = some (.if_icmp .ge 7, 3, 0, 0, 0) := by decide +kernel
theorem s_210_19 {x0 x1 x2 : Option Value} {x w : Int32} : mw d 210 Q 19 [x0, x1, x2] (.int w :: .int x :: st) h = mB (w ≤ x) (mw d 210 Q) 26 22 [x0, x1, x2] st h := (mw_at mj_210_19).trans (z_icmp_ge (by decide) rfl)
theorem mj_210_22 : mc_P 210 22 = some (.iconst 1, 1, 0, 0, 0) := by decide +kernel
theorem s_210_22 {x0 x1 x2 : Option Value} : mw d 210 Q 22 [x0, x1, x2] (st) h = mw d 210 Q 23 [x0, x1, x2] (.int 1 :: st) h := (mw_at mj_210_22).trans (z_iconst (by decide))
theorem mj_210_23 : mc_P 210 23 = some (.goto 4, 3, 0, 0, 0) := by decide +kernel
theorem s_210_23 {x0 x1 x2 : Option Value} : mw d 210 Q 23 [x0, x1, x2] (st) h = mw d 210 Q 27 [x0, x1, x2] (st) h := (mw_at mj_210_23).trans (z_goto (by decide))
theorem mj_210_26 : mc_P 210 26 = some (.iconst 0, 1, 0, 0, 0) := by decide +kernel
theorem s_210_26 {x0 x1 x2 : Option Value} : mw d 210 Q 26 [x0, x1, x2] (st) h = mw d 210 Q 27 [x0, x1, x2] (.int 0 :: st) h := (mw_at mj_210_26).trans (z_iconst (by decide))
theorem mj_210_27 : mc_P 210 27 = some (.istore_n 2, 1, 0, 0, 0) := by decide +kernel
theorem s_210_27 {x0 x1 x2 : Option Value} {w : Int32} : mw d 210 Q 27 [x0, x1, x2] (.int w :: st) h = mw d 210 Q 28 [x0, mk2 x1, some (.int w)] (st) h := (mw_at mj_210_27).trans (z_istore_n (Nat.le_of_ble_eq_true rfl) (me_s1_mk (j := 1) (w := x1) rfl))
theorem mj_210_28 : mc_P 210 28 = some (.iload_n 2, 1, 0, 0, 0) := by decide +kernel
theorem s_210_28 {x0 x1 : Option Value} {w : Value} : mw d 210 Q 28 [x0, x1, some w] (st) h = mv_i w (mw d 210 Q 29 [x0, x1, some w] (w :: st) h) := (mw_at mj_210_28).trans (z_iload_n rfl)
theorem mj_210_29 : mc_P 210 29 = some (.ifCond .eq 15, 3, 0, 0, 0) := by decide +kernel
theorem s_210_29 {x0 x1 x2 : Option Value} {x : Int32} : mw d 210 Q 29 [x0, x1, x2] (.int x :: st) h = mB (x = 0) (mw d 210 Q) 44 32 [x0, x1, x2] st h := (mw_at mj_210_29).trans (z_if_eq (by decide) rfl)
theorem mj_210_32 : mc_P 210 32 = some (.aload_n 0, 1, 0, 0, 0) := by decide +kernel
theorem s_210_32 {x1 x2 : Option Value} {w : Value} : mw d 210 Q 32 [some w, x1, x2] (st) h = mv_a w (mw d 210 Q 33 [some w, x1, x2] (w :: st) h) := (mw_at mj_210_32).trans (z_aload_n rfl)
theorem mj_210_33 : mc_P 210 33 = some (.getfield 41, 3, 11, 5, 0) := by decide +kernel
theorem s_210_33 {x0 x1 x2 : Option Value} {o : Nat} : mw d 210 Q 33 [x0, x1, x2] (.ref o :: st) h = (mg h o 11 ∧ mw d 210 Q 36 [x0, x1, x2] (va_rf (mh_r h o 5) :: st) h) := (mw_at mj_210_33).trans (z_getr (by decide) (by decide) rfl)
theorem mj_210_36 : mc_P 210 36 = some (.getfield 270, 3, 2, 6, 0) := by decide +kernel
theorem s_210_36 {x0 x1 x2 : Option Value} {o : Nat} : mw d 210 Q 36 [x0, x1, x2] (.ref o :: st) h = (mg h o 2 ∧ mw d 210 Q 39 [x0, x1, x2] (va_rf (mh_r h o 6) :: st) h) := (mw_at mj_210_36).trans (z_getr (by decide) (by decide) rfl)
theorem mj_210_39 : mc_P 210 39 = some (.iload_n 1, 1, 0, 0, 0) := by decide +kernel
theorem s_210_39 {x0 x2 : Option Value} {w : Value} : mw d 210 Q 39 [x0, some w, x2] (st) h = mv_i w (mw d 210 Q 40 [x0, some w, x2] (w :: st) h) := (mw_at mj_210_39).trans (z_iload_n rfl)
theorem mj_210_40 : mc_P 210 40 = some (.iaload, 1, 0, 0, 0) := by decide +kernel
theorem s_210_40 {x0 x1 x2 : Option Value} {o : Nat} {i : Int32} : mw d 210 Q 40 [x0, x1, x2] (.int i :: .ref o :: st) h = (mg h o 100 ∧ mx i (mh_l h o) ∧ mw d 210 Q 41 [x0, x1, x2] (.int (mh_i h o i.toNatClampNeg) :: st) h) := (mw_at mj_210_40).trans (z_iald)
theorem mj_210_41 : mc_P 210 41 = some (.goto 4, 3, 0, 0, 0) := by decide +kernel
theorem s_210_41 {x0 x1 x2 : Option Value} : mw d 210 Q 41 [x0, x1, x2] (st) h = mw d 210 Q 45 [x0, x1, x2] (st) h := (mw_at mj_210_41).trans (z_goto (by decide))
theorem mj_210_44 : mc_P 210 44 = some (.iconst 0, 1, 0, 0, 0) := by decide +kernel
theorem s_210_44 {x0 x1 x2 : Option Value} : mw d 210 Q 44 [x0, x1, x2] (st) h = mw d 210 Q 45 [x0, x1, x2] (.int 0 :: st) h := (mw_at mj_210_44).trans (z_iconst (by decide))
theorem mj_210_45 : mc_P 210 45 = some (.ireturn, 1, 0, 0, 0) := by decide +kernel
theorem s_210_45 {x0 x1 x2 : Option Value} {x : Int32} : mw d 210 Q 45 [x0, x1, x2] ([.int x]) h = (Q (some (.int x)) h) := (mw_at mj_210_45).trans (z_iret)
theorem e_210 {a0 : Nat} {a1 : Int32} : mcall d 210 [.ref a0, .int a1] h Q = mw d 210 Q 0 [some (.ref a0), some (.int a1), none] [] h := by
  show mw d 210 Q 0 (me_en (mc_nl 210) _) [] h = _
  rw [nl_210]; rfl

/-! InvariantDesk.place(II)I -/
theorem mj_211_0 : mc_P 211 0 = some (.iload_n 1, 1, 0, 0, 0) := by decide +kernel
theorem s_211_0 {x0 x2 x3 : Option Value} {w : Value} : mw d 211 Q 0 [x0, some w, x2, x3] (st) h = mv_i w (mw d 211 Q 1 [x0, some w, x2, x3] (w :: st) h) := (mw_at mj_211_0).trans (z_iload_n rfl)
theorem mj_211_1 : mc_P 211 1 = some (.ifCond .lt 25, 3, 0, 0, 0) := by decide +kernel
theorem s_211_1 {x0 x1 x2 x3 : Option Value} {x : Int32} : mw d 211 Q 1 [x0, x1, x2, x3] (.int x :: st) h = mB (x < 0) (mw d 211 Q) 26 4 [x0, x1, x2, x3] st h := (mw_at mj_211_1).trans (z_if_lt (by decide) rfl)
theorem mj_211_4 : mc_P 211 4 = some (.iload_n 1, 1, 0, 0, 0) := by decide +kernel
theorem s_211_4 {x0 x2 x3 : Option Value} {w : Value} : mw d 211 Q 4 [x0, some w, x2, x3] (st) h = mv_i w (mw d 211 Q 5 [x0, some w, x2, x3] (w :: st) h) := (mw_at mj_211_4).trans (z_iload_n rfl)
theorem mj_211_5 : mc_P 211 5 = some (.aload_n 0, 1, 0, 0, 0) := by decide +kernel
theorem s_211_5 {x1 x2 x3 : Option Value} {w : Value} : mw d 211 Q 5 [some w, x1, x2, x3] (st) h = mv_a w (mw d 211 Q 6 [some w, x1, x2, x3] (w :: st) h) := (mw_at mj_211_5).trans (z_aload_n rfl)
theorem mj_211_6 : mc_P 211 6 = some (.getfield 16, 3, 11, 2, 0) := by decide +kernel
theorem s_211_6 {x0 x1 x2 x3 : Option Value} {o : Nat} : mw d 211 Q 6 [x0, x1, x2, x3] (.ref o :: st) h = (mg h o 11 ∧ mw d 211 Q 9 [x0, x1, x2, x3] (va_rf (mh_r h o 2) :: st) h) := (mw_at mj_211_6).trans (z_getr (by decide) (by decide) rfl)
theorem mj_211_9 : mc_P 211 9 = some (.aload_n 0, 1, 0, 0, 0) := by decide +kernel
theorem s_211_9 {x1 x2 x3 : Option Value} {w : Value} : mw d 211 Q 9 [some w, x1, x2, x3] (st) h = mv_a w (mw d 211 Q 10 [some w, x1, x2, x3] (w :: st) h) := (mw_at mj_211_9).trans (z_aload_n rfl)
theorem mj_211_10 : mc_P 211 10 = some (.getfield 41, 3, 11, 5, 0) := by decide +kernel
theorem s_211_10 {x0 x1 x2 x3 : Option Value} {o : Nat} : mw d 211 Q 10 [x0, x1, x2, x3] (.ref o :: st) h = (mg h o 11 ∧ mw d 211 Q 13 [x0, x1, x2, x3] (va_rf (mh_r h o 5) :: st) h) := (mw_at mj_211_10).trans (z_getr (by decide) (by decide) rfl)
theorem mj_211_13 : mc_P 211 13 = some (.getfield 261, 3, 2, 4, 0) := by decide +kernel
theorem s_211_13 {x0 x1 x2 x3 : Option Value} {o : Nat} : mw d 211 Q 13 [x0, x1, x2, x3] (.ref o :: st) h = (mg h o 2 ∧ mw d 211 Q 16 [x0, x1, x2, x3] (.int (mh_i h o 4) :: st) h) := (mw_at mj_211_13).trans (z_geti (by decide) (by decide) (Or.inl rfl))
theorem mj_211_16 : mc_P 211 16 = some (.invokevirtual 158, 3, 81, 4, 2) := by decide +kernel
theorem s_211_16 {x0 x1 x2 x3 : Option Value} {o : Nat} {a1 : Value} : mw (d + 1) 211 Q 16 [x0, x1, x2, x3] (a1 :: .ref o :: st) h = (mg h o 4 ∧ mca st 8 ∧ mca [.ref o, a1] 2 ∧ mcall d 81 [.ref o, a1] h (mK (d + 1) 211 Q 19 [x0, x1, x2, x3] st)) := (mw_at mj_211_16).trans ((z_invv (As := [a1]) (by decide) rfl rfl).trans (congrArg (And _) (congrArg (And _) (mC_nl nl_81))))
theorem mj_211_19 : mc_P 211 19 = some (.if_icmp .ge 7, 3, 0, 0, 0) := by decide +kernel
theorem s_211_19 {x0 x1 x2 x3 : Option Value} {x w : Int32} : mw d 211 Q 19 [x0, x1, x2, x3] (.int w :: .int x :: st) h = mB (w ≤ x) (mw d 211 Q) 26 22 [x0, x1, x2, x3] st h := (mw_at mj_211_19).trans (z_icmp_ge (by decide) rfl)
theorem mj_211_22 : mc_P 211 22 = some (.iconst 1, 1, 0, 0, 0) := by decide +kernel
theorem s_211_22 {x0 x1 x2 x3 : Option Value} : mw d 211 Q 22 [x0, x1, x2, x3] (st) h = mw d 211 Q 23 [x0, x1, x2, x3] (.int 1 :: st) h := (mw_at mj_211_22).trans (z_iconst (by decide))
theorem mj_211_23 : mc_P 211 23 = some (.goto 4, 3, 0, 0, 0) := by decide +kernel
theorem s_211_23 {x0 x1 x2 x3 : Option Value} : mw d 211 Q 23 [x0, x1, x2, x3] (st) h = mw d 211 Q 27 [x0, x1, x2, x3] (st) h := (mw_at mj_211_23).trans (z_goto (by decide))
theorem mj_211_26 : mc_P 211 26 = some (.iconst 0, 1, 0, 0, 0) := by decide +kernel
theorem s_211_26 {x0 x1 x2 x3 : Option Value} : mw d 211 Q 26 [x0, x1, x2, x3] (st) h = mw d 211 Q 27 [x0, x1, x2, x3] (.int 0 :: st) h := (mw_at mj_211_26).trans (z_iconst (by decide))
theorem mj_211_27 : mc_P 211 27 = some (.istore_n 3, 1, 0, 0, 0) := by decide +kernel
theorem s_211_27 {x0 x1 x2 x3 : Option Value} {w : Int32} : mw d 211 Q 27 [x0, x1, x2, x3] (.int w :: st) h = mw d 211 Q 28 [x0, x1, mk2 x2, some (.int w)] (st) h := (mw_at mj_211_27).trans (z_istore_n (Nat.le_of_ble_eq_true rfl) (me_s1_mk (j := 2) (w := x2) rfl))
theorem mj_211_28 : mc_P 211 28 = some (.iload_n 3, 1, 0, 0, 0) := by decide +kernel
theorem s_211_28 {x0 x1 x2 : Option Value} {w : Value} : mw d 211 Q 28 [x0, x1, x2, some w] (st) h = mv_i w (mw d 211 Q 29 [x0, x1, x2, some w] (w :: st) h) := (mw_at mj_211_28).trans (z_iload_n rfl)
theorem mj_211_29 : mc_P 211 29 = some (.ifCond .eq 37, 3, 0, 0, 0) := by decide +kernel
theorem s_211_29 {x0 x1 x2 x3 : Option Value} {x : Int32} : mw d 211 Q 29 [x0, x1, x2, x3] (.int x :: st) h = mB (x = 0) (mw d 211 Q) 66 32 [x0, x1, x2, x3] st h := (mw_at mj_211_29).trans (z_if_eq (by decide) rfl)
theorem mj_211_32 : mc_P 211 32 = some (.iload_n 2, 1, 0, 0, 0) := by decide +kernel
theorem s_211_32 {x0 x1 x3 : Option Value} {w : Value} : mw d 211 Q 32 [x0, x1, some w, x3] (st) h = mv_i w (mw d 211 Q 33 [x0, x1, some w, x3] (w :: st) h) := (mw_at mj_211_32).trans (z_iload_n rfl)
theorem mj_211_33 : mc_P 211 33 = some (.ifCond .lt 33, 3, 0, 0, 0) := by decide +kernel
theorem s_211_33 {x0 x1 x2 x3 : Option Value} {x : Int32} : mw d 211 Q 33 [x0, x1, x2, x3] (.int x :: st) h = mB (x < 0) (mw d 211 Q) 66 36 [x0, x1, x2, x3] st h := (mw_at mj_211_33).trans (z_if_lt (by decide) rfl)
theorem mj_211_36 : mc_P 211 36 = some (.iload_n 2, 1, 0, 0, 0) := by decide +kernel
theorem s_211_36 {x0 x1 x3 : Option Value} {w : Value} : mw d 211 Q 36 [x0, x1, some w, x3] (st) h = mv_i w (mw d 211 Q 37 [x0, x1, some w, x3] (w :: st) h) := (mw_at mj_211_36).trans (z_iload_n rfl)
theorem mj_211_37 : mc_P 211 37 = some (.aload_n 0, 1, 0, 0, 0) := by decide +kernel
theorem s_211_37 {x1 x2 x3 : Option Value} {w : Value} : mw d 211 Q 37 [some w, x1, x2, x3] (st) h = mv_a w (mw d 211 Q 38 [some w, x1, x2, x3] (w :: st) h) := (mw_at mj_211_37).trans (z_aload_n rfl)
theorem mj_211_38 : mc_P 211 38 = some (.getfield 41, 3, 11, 5, 0) := by decide +kernel
theorem s_211_38 {x0 x1 x2 x3 : Option Value} {o : Nat} : mw d 211 Q 38 [x0, x1, x2, x3] (.ref o :: st) h = (mg h o 11 ∧ mw d 211 Q 41 [x0, x1, x2, x3] (va_rf (mh_r h o 5) :: st) h) := (mw_at mj_211_38).trans (z_getr (by decide) (by decide) rfl)
theorem mj_211_41 : mc_P 211 41 = some (.getfield 273, 3, 2, 8, 0) := by decide +kernel
theorem s_211_41 {x0 x1 x2 x3 : Option Value} {o : Nat} : mw d 211 Q 41 [x0, x1, x2, x3] (.ref o :: st) h = (mg h o 2 ∧ mw d 211 Q 44 [x0, x1, x2, x3] (va_rf (mh_r h o 8) :: st) h) := (mw_at mj_211_41).trans (z_getr (by decide) (by decide) rfl)
theorem mj_211_44 : mc_P 211 44 = some (.iload_n 1, 1, 0, 0, 0) := by decide +kernel
theorem s_211_44 {x0 x2 x3 : Option Value} {w : Value} : mw d 211 Q 44 [x0, some w, x2, x3] (st) h = mv_i w (mw d 211 Q 45 [x0, some w, x2, x3] (w :: st) h) := (mw_at mj_211_44).trans (z_iload_n rfl)
theorem mj_211_45 : mc_P 211 45 = some (.iaload, 1, 0, 0, 0) := by decide +kernel
theorem s_211_45 {x0 x1 x2 x3 : Option Value} {o : Nat} {i : Int32} : mw d 211 Q 45 [x0, x1, x2, x3] (.int i :: .ref o :: st) h = (mg h o 100 ∧ mx i (mh_l h o) ∧ mw d 211 Q 46 [x0, x1, x2, x3] (.int (mh_i h o i.toNatClampNeg) :: st) h) := (mw_at mj_211_45).trans (z_iald)
theorem mj_211_46 : mc_P 211 46 = some (.if_icmp .ge 20, 3, 0, 0, 0) := by decide +kernel
theorem s_211_46 {x0 x1 x2 x3 : Option Value} {x w : Int32} : mw d 211 Q 46 [x0, x1, x2, x3] (.int w :: .int x :: st) h = mB (w ≤ x) (mw d 211 Q) 66 49 [x0, x1, x2, x3] st h := (mw_at mj_211_46).trans (z_icmp_ge (by decide) rfl)
theorem mj_211_49 : mc_P 211 49 = some (.aload_n 0, 1, 0, 0, 0) := by decide +kernel
theorem s_211_49 {x1 x2 x3 : Option Value} {w : Value} : mw d 211 Q 49 [some w, x1, x2, x3] (st) h = mv_a w (mw d 211 Q 50 [some w, x1, x2, x3] (w :: st) h) := (mw_at mj_211_49).trans (z_aload_n rfl)
theorem mj_211_50 : mc_P 211 50 = some (.getfield 41, 3, 11, 5, 0) := by decide +kernel
theorem s_211_50 {x0 x1 x2 x3 : Option Value} {o : Nat} : mw d 211 Q 50 [x0, x1, x2, x3] (.ref o :: st) h = (mg h o 11 ∧ mw d 211 Q 53 [x0, x1, x2, x3] (va_rf (mh_r h o 5) :: st) h) := (mw_at mj_211_50).trans (z_getr (by decide) (by decide) rfl)
theorem mj_211_53 : mc_P 211 53 = some (.getfield 276, 3, 2, 7, 0) := by decide +kernel
theorem s_211_53 {x0 x1 x2 x3 : Option Value} {o : Nat} : mw d 211 Q 53 [x0, x1, x2, x3] (.ref o :: st) h = (mg h o 2 ∧ mw d 211 Q 56 [x0, x1, x2, x3] (va_rf (mh_r h o 7) :: st) h) := (mw_at mj_211_53).trans (z_getr (by decide) (by decide) rfl)
theorem mj_211_56 : mc_P 211 56 = some (.iload_n 1, 1, 0, 0, 0) := by decide +kernel
theorem s_211_56 {x0 x2 x3 : Option Value} {w : Value} : mw d 211 Q 56 [x0, some w, x2, x3] (st) h = mv_i w (mw d 211 Q 57 [x0, some w, x2, x3] (w :: st) h) := (mw_at mj_211_56).trans (z_iload_n rfl)
theorem mj_211_57 : mc_P 211 57 = some (.bipush 64, 2, 0, 0, 0) := by decide +kernel
theorem s_211_57 {x0 x1 x2 x3 : Option Value} : mw d 211 Q 57 [x0, x1, x2, x3] (st) h = mw d 211 Q 59 [x0, x1, x2, x3] (.int 64 :: st) h := (mw_at mj_211_57).trans (z_bipush (by decide))
theorem mj_211_59 : mc_P 211 59 = some (.imul, 1, 0, 0, 0) := by decide +kernel
theorem s_211_59 {x0 x1 x2 x3 : Option Value} {x w : Int32} : mw d 211 Q 59 [x0, x1, x2, x3] (.int w :: .int x :: st) h = mw d 211 Q 60 [x0, x1, x2, x3] (.int (x * w) :: st) h := (mw_at mj_211_59).trans (z_imul)
theorem mj_211_60 : mc_P 211 60 = some (.iload_n 2, 1, 0, 0, 0) := by decide +kernel
theorem s_211_60 {x0 x1 x3 : Option Value} {w : Value} : mw d 211 Q 60 [x0, x1, some w, x3] (st) h = mv_i w (mw d 211 Q 61 [x0, x1, some w, x3] (w :: st) h) := (mw_at mj_211_60).trans (z_iload_n rfl)
theorem mj_211_61 : mc_P 211 61 = some (.iadd, 1, 0, 0, 0) := by decide +kernel
theorem s_211_61 {x0 x1 x2 x3 : Option Value} {x w : Int32} : mw d 211 Q 61 [x0, x1, x2, x3] (.int w :: .int x :: st) h = mw d 211 Q 62 [x0, x1, x2, x3] (.int (x + w) :: st) h := (mw_at mj_211_61).trans (z_iadd)
theorem mj_211_62 : mc_P 211 62 = some (.iaload, 1, 0, 0, 0) := by decide +kernel
theorem s_211_62 {x0 x1 x2 x3 : Option Value} {o : Nat} {i : Int32} : mw d 211 Q 62 [x0, x1, x2, x3] (.int i :: .ref o :: st) h = (mg h o 100 ∧ mx i (mh_l h o) ∧ mw d 211 Q 63 [x0, x1, x2, x3] (.int (mh_i h o i.toNatClampNeg) :: st) h) := (mw_at mj_211_62).trans (z_iald)
theorem mj_211_63 : mc_P 211 63 = some (.goto 4, 3, 0, 0, 0) := by decide +kernel
theorem s_211_63 {x0 x1 x2 x3 : Option Value} : mw d 211 Q 63 [x0, x1, x2, x3] (st) h = mw d 211 Q 67 [x0, x1, x2, x3] (st) h := (mw_at mj_211_63).trans (z_goto (by decide))
theorem mj_211_66 : mc_P 211 66 = some (.iconst 0, 1, 0, 0, 0) := by decide +kernel
theorem s_211_66 {x0 x1 x2 x3 : Option Value} : mw d 211 Q 66 [x0, x1, x2, x3] (st) h = mw d 211 Q 67 [x0, x1, x2, x3] (.int 0 :: st) h := (mw_at mj_211_66).trans (z_iconst (by decide))
theorem mj_211_67 : mc_P 211 67 = some (.ireturn, 1, 0, 0, 0) := by decide +kernel
theorem s_211_67 {x0 x1 x2 x3 : Option Value} {x : Int32} : mw d 211 Q 67 [x0, x1, x2, x3] ([.int x]) h = (Q (some (.int x)) h) := (mw_at mj_211_67).trans (z_iret)
theorem e_211 {a0 : Nat} {a1 : Int32} {a2 : Int32} : mcall d 211 [.ref a0, .int a1, .int a2] h Q = mw d 211 Q 0 [some (.ref a0), some (.int a1), some (.int a2), none] [] h := by
  show mw d 211 Q 0 (me_en (mc_nl 211) _) [] h = _
  rw [nl_211]; rfl

/-! InvariantDesk.outside()I -/
theorem mj_212_0 : mc_P 212 0 = some (.aload_n 0, 1, 0, 0, 0) := by decide +kernel
theorem s_212_0 {w : Value} : mw d 212 Q 0 [some w] (st) h = mv_a w (mw d 212 Q 1 [some w] (w :: st) h) := (mw_at mj_212_0).trans (z_aload_n rfl)
theorem mj_212_1 : mc_P 212 1 = some (.getfield 41, 3, 11, 5, 0) := by decide +kernel
theorem s_212_1 {x0 : Option Value} {o : Nat} : mw d 212 Q 1 [x0] (.ref o :: st) h = (mg h o 11 ∧ mw d 212 Q 4 [x0] (va_rf (mh_r h o 5) :: st) h) := (mw_at mj_212_1).trans (z_getr (by decide) (by decide) rfl)
theorem mj_212_4 : mc_P 212 4 = some (.getfield 279, 3, 2, 9, 0) := by decide +kernel
theorem s_212_4 {x0 : Option Value} {o : Nat} : mw d 212 Q 4 [x0] (.ref o :: st) h = (mg h o 2 ∧ mw d 212 Q 7 [x0] (.int (mh_i h o 9) :: st) h) := (mw_at mj_212_4).trans (z_geti (by decide) (by decide) (Or.inl rfl))
theorem mj_212_7 : mc_P 212 7 = some (.ireturn, 1, 0, 0, 0) := by decide +kernel
theorem s_212_7 {x0 : Option Value} {x : Int32} : mw d 212 Q 7 [x0] ([.int x]) h = (Q (some (.int x)) h) := (mw_at mj_212_7).trans (z_iret)
theorem e_212 {a0 : Nat} : mcall d 212 [.ref a0] h Q = mw d 212 Q 0 [some (.ref a0)] [] h := by
  show mw d 212 Q 0 (me_en (mc_nl 212) _) [] h = _
  rw [nl_212]; rfl

/-! InvariantDesk.show(ZI)I -/
theorem mj_213_0 : mc_P 213 0 = some (.aload_n 0, 1, 0, 0, 0) := by decide +kernel
theorem s_213_0 {x1 x2 x3 : Option Value} {w : Value} : mw d 213 Q 0 [some w, x1, x2, x3] (st) h = mv_a w (mw d 213 Q 1 [some w, x1, x2, x3] (w :: st) h) := (mw_at mj_213_0).trans (z_aload_n rfl)
theorem mj_213_1 : mc_P 213 1 = some (.iload_n 2, 1, 0, 0, 0) := by decide +kernel
theorem s_213_1 {x0 x1 x3 : Option Value} {w : Value} : mw d 213 Q 1 [x0, x1, some w, x3] (st) h = mv_i w (mw d 213 Q 2 [x0, x1, some w, x3] (w :: st) h) := (mw_at mj_213_1).trans (z_iload_n rfl)
theorem mj_213_2 : mc_P 213 2 = some (.invokevirtual 134, 3, 192, 11, 2) := by decide +kernel
theorem s_213_2 {x0 x1 x2 x3 : Option Value} {o : Nat} {a1 : Value} : mw (d + 1) 213 Q 2 [x0, x1, x2, x3] (a1 :: .ref o :: st) h = (mg h o 11 ∧ mca st 8 ∧ mca [.ref o, a1] 2 ∧ mcall d 192 [.ref o, a1] h (mK (d + 1) 213 Q 5 [x0, x1, x2, x3] st)) := (mw_at mj_213_2).trans ((z_invv (As := [a1]) (by decide) rfl rfl).trans (congrArg (And _) (congrArg (And _) (mC_nl nl_192))))
theorem mj_213_5 : mc_P 213 5 = some (.ifCond .ne 5, 3, 0, 0, 0) := by decide +kernel
theorem s_213_5 {x0 x1 x2 x3 : Option Value} {x : Int32} : mw d 213 Q 5 [x0, x1, x2, x3] (.int x :: st) h = mB (¬ x = 0) (mw d 213 Q) 10 8 [x0, x1, x2, x3] st h := (mw_at mj_213_5).trans (z_if_ne (by decide) rfl)
theorem mj_213_8 : mc_P 213 8 = some (.iconst (-1), 1, 0, 0, 0) := by decide +kernel
theorem s_213_8 {x0 x1 x2 x3 : Option Value} : mw d 213 Q 8 [x0, x1, x2, x3] (st) h = mw d 213 Q 9 [x0, x1, x2, x3] (.int (-1) :: st) h := (mw_at mj_213_8).trans (z_iconst (by decide))
theorem mj_213_9 : mc_P 213 9 = some (.ireturn, 1, 0, 0, 0) := by decide +kernel
theorem s_213_9 {x0 x1 x2 x3 : Option Value} {x : Int32} : mw d 213 Q 9 [x0, x1, x2, x3] ([.int x]) h = (Q (some (.int x)) h) := (mw_at mj_213_9).trans (z_iret)
theorem mj_213_10 : mc_P 213 10 = some (.aload_n 0, 1, 0, 0, 0) := by decide +kernel
theorem s_213_10 {x1 x2 x3 : Option Value} {w : Value} : mw d 213 Q 10 [some w, x1, x2, x3] (st) h = mv_a w (mw d 213 Q 11 [some w, x1, x2, x3] (w :: st) h) := (mw_at mj_213_10).trans (z_aload_n rfl)
theorem mj_213_11 : mc_P 213 11 = some (.iload_n 1, 1, 0, 0, 0) := by decide +kernel
theorem s_213_11 {x0 x2 x3 : Option Value} {w : Value} : mw d 213 Q 11 [x0, some w, x2, x3] (st) h = mv_i w (mw d 213 Q 12 [x0, some w, x2, x3] (w :: st) h) := (mw_at mj_213_11).trans (z_iload_n rfl)
theorem mj_213_12 : mc_P 213 12 = some (.iload_n 2, 1, 0, 0, 0) := by decide +kernel
theorem s_213_12 {x0 x1 x3 : Option Value} {w : Value} : mw d 213 Q 12 [x0, x1, some w, x3] (st) h = mv_i w (mw d 213 Q 13 [x0, x1, some w, x3] (w :: st) h) := (mw_at mj_213_12).trans (z_iload_n rfl)
theorem mj_213_13 : mc_P 213 13 = some (.invokevirtual 170, 3, 197, 11, 3) := by decide +kernel
theorem s_213_13 {x0 x1 x2 x3 : Option Value} {o : Nat} {a1 a2 : Value} : mw (d + 1) 213 Q 13 [x0, x1, x2, x3] (a2 :: a1 :: .ref o :: st) h = (mg h o 11 ∧ mca st 8 ∧ mca [.ref o, a1, a2] 3 ∧ mcall d 197 [.ref o, a1, a2] h (mK (d + 1) 213 Q 16 [x0, x1, x2, x3] st)) := (mw_at mj_213_13).trans ((z_invv (As := [a1, a2]) (by decide) rfl rfl).trans (congrArg (And _) (congrArg (And _) (mC_nl nl_197))))
theorem mj_213_16 : mc_P 213 16 = some (.astore_n 3, 1, 0, 0, 0) := by decide +kernel
theorem s_213_16 {x0 x1 x2 x3 : Option Value} {w : Nat} : mw d 213 Q 16 [x0, x1, x2, x3] (.ref w :: st) h = mw d 213 Q 17 [x0, x1, mk2 x2, some (.ref w)] (st) h := (mw_at mj_213_16).trans (z_astore_n (Nat.le_of_ble_eq_true rfl) (me_s1_mk (j := 2) (w := x2) rfl))
theorem s_213_16n {x0 x1 x2 x3 : Option Value} : mw d 213 Q 16 [x0, x1, x2, x3] (.null :: st) h = mw d 213 Q 17 [x0, x1, mk2 x2, some (.null)] (st) h := (mw_at mj_213_16).trans (z_astoreN_n (Nat.le_of_ble_eq_true rfl) (me_s1_mk (j := 2) (w := x2) rfl))
theorem s_213_16x {x0 x1 x2 x3 : Option Value} {w : Nat} : mw d 213 Q 16 [x0, x1, x2, x3] (.retAddr w :: st) h = mw d 213 Q 17 [x0, x1, mk2 x2, some (.retAddr w)] (st) h := (mw_at mj_213_16).trans (z_astoreX_n (Nat.le_of_ble_eq_true rfl) (me_s1_mk (j := 2) (w := x2) rfl))
theorem mj_213_17 : mc_P 213 17 = some (.aload_n 0, 1, 0, 0, 0) := by decide +kernel
theorem s_213_17 {x1 x2 x3 : Option Value} {w : Value} : mw d 213 Q 17 [some w, x1, x2, x3] (st) h = mv_a w (mw d 213 Q 18 [some w, x1, x2, x3] (w :: st) h) := (mw_at mj_213_17).trans (z_aload_n rfl)
theorem mj_213_18 : mc_P 213 18 = some (.iconst 0, 1, 0, 0, 0) := by decide +kernel
theorem s_213_18 {x0 x1 x2 x3 : Option Value} : mw d 213 Q 18 [x0, x1, x2, x3] (st) h = mw d 213 Q 19 [x0, x1, x2, x3] (.int 0 :: st) h := (mw_at mj_213_18).trans (z_iconst (by decide))
theorem mj_213_19 : mc_P 213 19 = some (.putfield 282, 3, 11, 14, 0) := by decide +kernel
theorem s_213_19 {x0 x1 x2 x3 : Option Value} {o : Nat} {w : Int32} : mw d 213 Q 19 [x0, x1, x2, x3] (.int w :: .ref o :: st) h = (mg h o 11 ∧ mw d 213 Q 22 [x0, x1, x2, x3] (st) (mh_si h o 14 w)) := (mw_at mj_213_19).trans (z_puti (by decide) (by decide) rfl)
theorem mj_213_22 : mc_P 213 22 = some (.aload_n 3, 1, 0, 0, 0) := by decide +kernel
theorem s_213_22 {x0 x1 x2 : Option Value} {w : Value} : mw d 213 Q 22 [x0, x1, x2, some w] (st) h = mv_a w (mw d 213 Q 23 [x0, x1, x2, some w] (w :: st) h) := (mw_at mj_213_22).trans (z_aload_n rfl)
theorem mj_213_23 : mc_P 213 23 = some (.getfield 161, 3, 8, 0, 0) := by decide +kernel
theorem s_213_23 {x0 x1 x2 x3 : Option Value} {o : Nat} : mw d 213 Q 23 [x0, x1, x2, x3] (.ref o :: st) h = (mg h o 8 ∧ mw d 213 Q 26 [x0, x1, x2, x3] (.int (mh_i h o 0) :: st) h) := (mw_at mj_213_23).trans (z_geti (by decide) (by decide) (Or.inr rfl))
theorem mj_213_26 : mc_P 213 26 = some (.ifCond .eq 13, 3, 0, 0, 0) := by decide +kernel
theorem s_213_26 {x0 x1 x2 x3 : Option Value} {x : Int32} : mw d 213 Q 26 [x0, x1, x2, x3] (.int x :: st) h = mB (x = 0) (mw d 213 Q) 39 29 [x0, x1, x2, x3] st h := (mw_at mj_213_26).trans (z_if_eq (by decide) rfl)
theorem mj_213_29 : mc_P 213 29 = some (.aload_n 0, 1, 0, 0, 0) := by decide +kernel
theorem s_213_29 {x1 x2 x3 : Option Value} {w : Value} : mw d 213 Q 29 [some w, x1, x2, x3] (st) h = mv_a w (mw d 213 Q 30 [some w, x1, x2, x3] (w :: st) h) := (mw_at mj_213_29).trans (z_aload_n rfl)
theorem mj_213_30 : mc_P 213 30 = some (.ldc_w 285, 3, 3, 1, 0) := by decide +kernel
theorem s_213_30 {x0 x1 x2 x3 : Option Value} : mw d 213 Q 30 [x0, x1, x2, x3] (st) h = mw d 213 Q 33 [x0, x1, x2, x3] (.retAddr 3 :: st) h := (mw_at mj_213_30).trans (z_ldcW)
theorem mj_213_33 : mc_P 213 33 = some (.invokevirtual 286, 3, 222, 11, 2) := by decide +kernel
theorem s_213_33 {x0 x1 x2 x3 : Option Value} {o : Nat} {a1 : Value} : mw (d + 1) 213 Q 33 [x0, x1, x2, x3] (a1 :: .ref o :: st) h = (mg h o 11 ∧ mca st 8 ∧ mca [.ref o, a1] 3 ∧ mcall d 222 [.ref o, a1] h (mK (d + 1) 213 Q 36 [x0, x1, x2, x3] st)) := (mw_at mj_213_33).trans ((z_invv (As := [a1]) (by decide) rfl rfl).trans (congrArg (And _) (congrArg (And _) (mC_nl nl_222))))
theorem mj_213_36 : mc_P 213 36 = some (.goto 43, 3, 0, 0, 0) := by decide +kernel
theorem s_213_36 {x0 x1 x2 x3 : Option Value} : mw d 213 Q 36 [x0, x1, x2, x3] (st) h = mw d 213 Q 79 [x0, x1, x2, x3] (st) h := (mw_at mj_213_36).trans (z_goto (by decide))
theorem mj_213_39 : mc_P 213 39 = some (.aload_n 3, 1, 0, 0, 0) := by decide +kernel
theorem s_213_39 {x0 x1 x2 : Option Value} {w : Value} : mw d 213 Q 39 [x0, x1, x2, some w] (st) h = mv_a w (mw d 213 Q 40 [x0, x1, x2, some w] (w :: st) h) := (mw_at mj_213_39).trans (z_aload_n rfl)
theorem mj_213_40 : mc_P 213 40 = some (.getfield 290, 3, 8, 1, 0) := by decide +kernel
theorem s_213_40 {x0 x1 x2 x3 : Option Value} {o : Nat} : mw d 213 Q 40 [x0, x1, x2, x3] (.ref o :: st) h = (mg h o 8 ∧ mw d 213 Q 43 [x0, x1, x2, x3] (.int (mh_i h o 1) :: st) h) := (mw_at mj_213_40).trans (z_geti (by decide) (by decide) (Or.inl rfl))
theorem mj_213_43 : mc_P 213 43 = some (.aload_n 3, 1, 0, 0, 0) := by decide +kernel
theorem s_213_43 {x0 x1 x2 : Option Value} {w : Value} : mw d 213 Q 43 [x0, x1, x2, some w] (st) h = mv_a w (mw d 213 Q 44 [x0, x1, x2, some w] (w :: st) h) := (mw_at mj_213_43).trans (z_aload_n rfl)
theorem mj_213_44 : mc_P 213 44 = some (.getfield 293, 3, 8, 2, 0) := by decide +kernel
theorem s_213_44 {x0 x1 x2 x3 : Option Value} {o : Nat} : mw d 213 Q 44 [x0, x1, x2, x3] (.ref o :: st) h = (mg h o 8 ∧ mw d 213 Q 47 [x0, x1, x2, x3] (.int (mh_i h o 2) :: st) h) := (mw_at mj_213_44).trans (z_geti (by decide) (by decide) (Or.inl rfl))
theorem mj_213_47 : mc_P 213 47 = some (.iadd, 1, 0, 0, 0) := by decide +kernel
theorem s_213_47 {x0 x1 x2 x3 : Option Value} {x w : Int32} : mw d 213 Q 47 [x0, x1, x2, x3] (.int w :: .int x :: st) h = mw d 213 Q 48 [x0, x1, x2, x3] (.int (x + w) :: st) h := (mw_at mj_213_47).trans (z_iadd)
theorem mj_213_48 : mc_P 213 48 = some (.ifCond .ne 13, 3, 0, 0, 0) := by decide +kernel
theorem s_213_48 {x0 x1 x2 x3 : Option Value} {x : Int32} : mw d 213 Q 48 [x0, x1, x2, x3] (.int x :: st) h = mB (¬ x = 0) (mw d 213 Q) 61 51 [x0, x1, x2, x3] st h := (mw_at mj_213_48).trans (z_if_ne (by decide) rfl)
theorem mj_213_51 : mc_P 213 51 = some (.aload_n 0, 1, 0, 0, 0) := by decide +kernel
theorem s_213_51 {x1 x2 x3 : Option Value} {w : Value} : mw d 213 Q 51 [some w, x1, x2, x3] (st) h = mv_a w (mw d 213 Q 52 [some w, x1, x2, x3] (w :: st) h) := (mw_at mj_213_51).trans (z_aload_n rfl)
theorem mj_213_52 : mc_P 213 52 = some (.ldc_w 296, 3, 6, 1, 0) := by decide +kernel
theorem s_213_52 {x0 x1 x2 x3 : Option Value} : mw d 213 Q 52 [x0, x1, x2, x3] (st) h = mw d 213 Q 55 [x0, x1, x2, x3] (.retAddr 6 :: st) h := (mw_at mj_213_52).trans (z_ldcW)
theorem mj_213_55 : mc_P 213 55 = some (.invokevirtual 286, 3, 222, 11, 2) := by decide +kernel
theorem s_213_55 {x0 x1 x2 x3 : Option Value} {o : Nat} {a1 : Value} : mw (d + 1) 213 Q 55 [x0, x1, x2, x3] (a1 :: .ref o :: st) h = (mg h o 11 ∧ mca st 8 ∧ mca [.ref o, a1] 3 ∧ mcall d 222 [.ref o, a1] h (mK (d + 1) 213 Q 58 [x0, x1, x2, x3] st)) := (mw_at mj_213_55).trans ((z_invv (As := [a1]) (by decide) rfl rfl).trans (congrArg (And _) (congrArg (And _) (mC_nl nl_222))))
theorem mj_213_58 : mc_P 213 58 = some (.goto 21, 3, 0, 0, 0) := by decide +kernel
theorem s_213_58 {x0 x1 x2 x3 : Option Value} : mw d 213 Q 58 [x0, x1, x2, x3] (st) h = mw d 213 Q 79 [x0, x1, x2, x3] (st) h := (mw_at mj_213_58).trans (z_goto (by decide))
theorem mj_213_61 : mc_P 213 61 = some (.aload_n 0, 1, 0, 0, 0) := by decide +kernel
theorem s_213_61 {x1 x2 x3 : Option Value} {w : Value} : mw d 213 Q 61 [some w, x1, x2, x3] (st) h = mv_a w (mw d 213 Q 62 [some w, x1, x2, x3] (w :: st) h) := (mw_at mj_213_61).trans (z_aload_n rfl)
theorem mj_213_62 : mc_P 213 62 = some (.iload_n 2, 1, 0, 0, 0) := by decide +kernel
theorem s_213_62 {x0 x1 x3 : Option Value} {w : Value} : mw d 213 Q 62 [x0, x1, some w, x3] (st) h = mv_i w (mw d 213 Q 63 [x0, x1, some w, x3] (w :: st) h) := (mw_at mj_213_62).trans (z_iload_n rfl)
theorem mj_213_63 : mc_P 213 63 = some (.aload_n 3, 1, 0, 0, 0) := by decide +kernel
theorem s_213_63 {x0 x1 x2 : Option Value} {w : Value} : mw d 213 Q 63 [x0, x1, x2, some w] (st) h = mv_a w (mw d 213 Q 64 [x0, x1, x2, some w] (w :: st) h) := (mw_at mj_213_63).trans (z_aload_n rfl)
theorem mj_213_64 : mc_P 213 64 = some (.invokevirtual 298, 3, 215, 11, 3) := by decide +kernel
theorem s_213_64 {x0 x1 x2 x3 : Option Value} {o : Nat} {a1 a2 : Value} : mw (d + 1) 213 Q 64 [x0, x1, x2, x3] (a2 :: a1 :: .ref o :: st) h = (mg h o 11 ∧ mca st 8 ∧ mca [.ref o, a1, a2] 4 ∧ mcall d 215 [.ref o, a1, a2] h (mK (d + 1) 213 Q 67 [x0, x1, x2, x3] st)) := (mw_at mj_213_64).trans ((z_invv (As := [a1, a2]) (by decide) rfl rfl).trans (congrArg (And _) (congrArg (And _) (mC_nl nl_215))))
theorem mj_213_67 : mc_P 213 67 = some (.aload_n 0, 1, 0, 0, 0) := by decide +kernel
theorem s_213_67 {x1 x2 x3 : Option Value} {w : Value} : mw d 213 Q 67 [some w, x1, x2, x3] (st) h = mv_a w (mw d 213 Q 68 [some w, x1, x2, x3] (w :: st) h) := (mw_at mj_213_67).trans (z_aload_n rfl)
theorem mj_213_68 : mc_P 213 68 = some (.iload_n 2, 1, 0, 0, 0) := by decide +kernel
theorem s_213_68 {x0 x1 x3 : Option Value} {w : Value} : mw d 213 Q 68 [x0, x1, some w, x3] (st) h = mv_i w (mw d 213 Q 69 [x0, x1, some w, x3] (w :: st) h) := (mw_at mj_213_68).trans (z_iload_n rfl)
theorem mj_213_69 : mc_P 213 69 = some (.aload_n 3, 1, 0, 0, 0) := by decide +kernel
theorem s_213_69 {x0 x1 x2 : Option Value} {w : Value} : mw d 213 Q 69 [x0, x1, x2, some w] (st) h = mv_a w (mw d 213 Q 70 [x0, x1, x2, some w] (w :: st) h) := (mw_at mj_213_69).trans (z_aload_n rfl)
theorem mj_213_70 : mc_P 213 70 = some (.invokevirtual 301, 3, 216, 11, 3) := by decide +kernel
theorem s_213_70 {x0 x1 x2 x3 : Option Value} {o : Nat} {a1 a2 : Value} : mw (d + 1) 213 Q 70 [x0, x1, x2, x3] (a2 :: a1 :: .ref o :: st) h = (mg h o 11 ∧ mca st 8 ∧ mca [.ref o, a1, a2] 6 ∧ mcall d 216 [.ref o, a1, a2] h (mK (d + 1) 213 Q 73 [x0, x1, x2, x3] st)) := (mw_at mj_213_70).trans ((z_invv (As := [a1, a2]) (by decide) rfl rfl).trans (congrArg (And _) (congrArg (And _) (mC_nl nl_216))))
theorem mj_213_73 : mc_P 213 73 = some (.aload_n 0, 1, 0, 0, 0) := by decide +kernel
theorem s_213_73 {x1 x2 x3 : Option Value} {w : Value} : mw d 213 Q 73 [some w, x1, x2, x3] (st) h = mv_a w (mw d 213 Q 74 [some w, x1, x2, x3] (w :: st) h) := (mw_at mj_213_73).trans (z_aload_n rfl)
theorem mj_213_74 : mc_P 213 74 = some (.iload_n 2, 1, 0, 0, 0) := by decide +kernel
theorem s_213_74 {x0 x1 x3 : Option Value} {w : Value} : mw d 213 Q 74 [x0, x1, some w, x3] (st) h = mv_i w (mw d 213 Q 75 [x0, x1, some w, x3] (w :: st) h) := (mw_at mj_213_74).trans (z_iload_n rfl)
theorem mj_213_75 : mc_P 213 75 = some (.aload_n 3, 1, 0, 0, 0) := by decide +kernel
theorem s_213_75 {x0 x1 x2 : Option Value} {w : Value} : mw d 213 Q 75 [x0, x1, x2, some w] (st) h = mv_a w (mw d 213 Q 76 [x0, x1, x2, some w] (w :: st) h) := (mw_at mj_213_75).trans (z_aload_n rfl)
theorem mj_213_76 : mc_P 213 76 = some (.invokevirtual 304, 3, 218, 11, 3) := by decide +kernel
theorem s_213_76 {x0 x1 x2 x3 : Option Value} {o : Nat} {a1 a2 : Value} : mw (d + 1) 213 Q 76 [x0, x1, x2, x3] (a2 :: a1 :: .ref o :: st) h = (mg h o 11 ∧ mca st 8 ∧ mca [.ref o, a1, a2] 4 ∧ mcall d 218 [.ref o, a1, a2] h (mK (d + 1) 213 Q 79 [x0, x1, x2, x3] st)) := (mw_at mj_213_76).trans ((z_invv (As := [a1, a2]) (by decide) rfl rfl).trans (congrArg (And _) (congrArg (And _) (mC_nl nl_218))))
theorem mj_213_79 : mc_P 213 79 = some (.aload_n 0, 1, 0, 0, 0) := by decide +kernel
theorem s_213_79 {x1 x2 x3 : Option Value} {w : Value} : mw d 213 Q 79 [some w, x1, x2, x3] (st) h = mv_a w (mw d 213 Q 80 [some w, x1, x2, x3] (w :: st) h) := (mw_at mj_213_79).trans (z_aload_n rfl)
theorem mj_213_80 : mc_P 213 80 = some (.getfield 282, 3, 11, 14, 0) := by decide +kernel
theorem s_213_80 {x0 x1 x2 x3 : Option Value} {o : Nat} : mw d 213 Q 80 [x0, x1, x2, x3] (.ref o :: st) h = (mg h o 11 ∧ mw d 213 Q 83 [x0, x1, x2, x3] (.int (mh_i h o 14) :: st) h) := (mw_at mj_213_80).trans (z_geti (by decide) (by decide) (Or.inl rfl))
theorem mj_213_83 : mc_P 213 83 = some (.ireturn, 1, 0, 0, 0) := by decide +kernel
theorem s_213_83 {x0 x1 x2 x3 : Option Value} {x : Int32} : mw d 213 Q 83 [x0, x1, x2, x3] ([.int x]) h = (Q (some (.int x)) h) := (mw_at mj_213_83).trans (z_iret)
theorem e_213 {a0 : Nat} {a1 : Int32} {a2 : Int32} : mcall d 213 [.ref a0, .int a1, .int a2] h Q = mw d 213 Q 0 [some (.ref a0), some (.int a1), some (.int a2), none] [] h := by
  show mw d 213 Q 0 (me_en (mc_nl 213) _) [] h = _
  rw [nl_213]; rfl

/-! InvariantDesk.shown(I)I -/
theorem mj_214_0 : mc_P 214 0 = some (.iload_n 1, 1, 0, 0, 0) := by decide +kernel
theorem s_214_0 {x0 : Option Value} {w : Value} : mw d 214 Q 0 [x0, some w] (st) h = mv_i w (mw d 214 Q 1 [x0, some w] (w :: st) h) := (mw_at mj_214_0).trans (z_iload_n rfl)
theorem mj_214_1 : mc_P 214 1 = some (.ifCond .lt 24, 3, 0, 0, 0) := by decide +kernel
theorem s_214_1 {x0 x1 : Option Value} {x : Int32} : mw d 214 Q 1 [x0, x1] (.int x :: st) h = mB (x < 0) (mw d 214 Q) 25 4 [x0, x1] st h := (mw_at mj_214_1).trans (z_if_lt (by decide) rfl)
theorem mj_214_4 : mc_P 214 4 = some (.iload_n 1, 1, 0, 0, 0) := by decide +kernel
theorem s_214_4 {x0 : Option Value} {w : Value} : mw d 214 Q 4 [x0, some w] (st) h = mv_i w (mw d 214 Q 5 [x0, some w] (w :: st) h) := (mw_at mj_214_4).trans (z_iload_n rfl)
theorem mj_214_5 : mc_P 214 5 = some (.aload_n 0, 1, 0, 0, 0) := by decide +kernel
theorem s_214_5 {x1 : Option Value} {w : Value} : mw d 214 Q 5 [some w, x1] (st) h = mv_a w (mw d 214 Q 6 [some w, x1] (w :: st) h) := (mw_at mj_214_5).trans (z_aload_n rfl)
theorem mj_214_6 : mc_P 214 6 = some (.getfield 282, 3, 11, 14, 0) := by decide +kernel
theorem s_214_6 {x0 x1 : Option Value} {o : Nat} : mw d 214 Q 6 [x0, x1] (.ref o :: st) h = (mg h o 11 ∧ mw d 214 Q 9 [x0, x1] (.int (mh_i h o 14) :: st) h) := (mw_at mj_214_6).trans (z_geti (by decide) (by decide) (Or.inl rfl))
theorem mj_214_9 : mc_P 214 9 = some (.if_icmp .ge 16, 3, 0, 0, 0) := by decide +kernel
theorem s_214_9 {x0 x1 : Option Value} {x w : Int32} : mw d 214 Q 9 [x0, x1] (.int w :: .int x :: st) h = mB (w ≤ x) (mw d 214 Q) 25 12 [x0, x1] st h := (mw_at mj_214_9).trans (z_icmp_ge (by decide) rfl)
theorem mj_214_12 : mc_P 214 12 = some (.aload_n 0, 1, 0, 0, 0) := by decide +kernel
theorem s_214_12 {x1 : Option Value} {w : Value} : mw d 214 Q 12 [some w, x1] (st) h = mv_a w (mw d 214 Q 13 [some w, x1] (w :: st) h) := (mw_at mj_214_12).trans (z_aload_n rfl)
theorem mj_214_13 : mc_P 214 13 = some (.getfield 51, 3, 11, 13, 0) := by decide +kernel
theorem s_214_13 {x0 x1 : Option Value} {o : Nat} : mw d 214 Q 13 [x0, x1] (.ref o :: st) h = (mg h o 11 ∧ mw d 214 Q 16 [x0, x1] (va_rf (mh_r h o 13) :: st) h) := (mw_at mj_214_13).trans (z_getr (by decide) (by decide) rfl)
theorem mj_214_16 : mc_P 214 16 = some (.iload_n 1, 1, 0, 0, 0) := by decide +kernel
theorem s_214_16 {x0 : Option Value} {w : Value} : mw d 214 Q 16 [x0, some w] (st) h = mv_i w (mw d 214 Q 17 [x0, some w] (w :: st) h) := (mw_at mj_214_16).trans (z_iload_n rfl)
theorem mj_214_17 : mc_P 214 17 = some (.baload, 1, 0, 0, 0) := by decide +kernel
theorem s_214_17 {x0 x1 : Option Value} {o : Nat} {i : Int32} : mw d 214 Q 17 [x0, x1] (.int i :: .ref o :: st) h = (mgb h o ∧ mx i (mh_l h o) ∧ mw d 214 Q 18 [x0, x1] (.int (mh_i h o i.toNatClampNeg) :: st) h) := (mw_at mj_214_17).trans (z_bald)
theorem mj_214_18 : mc_P 214 18 = some (.sipush 255, 3, 0, 0, 0) := by decide +kernel
theorem s_214_18 {x0 x1 : Option Value} : mw d 214 Q 18 [x0, x1] (st) h = mw d 214 Q 21 [x0, x1] (.int 255 :: st) h := (mw_at mj_214_18).trans (z_sipush (by decide))
theorem mj_214_21 : mc_P 214 21 = some (.iand, 1, 0, 0, 0) := by decide +kernel
theorem s_214_21 {x0 x1 : Option Value} {x w : Int32} : mw d 214 Q 21 [x0, x1] (.int w :: .int x :: st) h = mw d 214 Q 22 [x0, x1] (.int (x &&& w) :: st) h := (mw_at mj_214_21).trans (z_iand)
theorem mj_214_22 : mc_P 214 22 = some (.goto 4, 3, 0, 0, 0) := by decide +kernel
theorem s_214_22 {x0 x1 : Option Value} : mw d 214 Q 22 [x0, x1] (st) h = mw d 214 Q 26 [x0, x1] (st) h := (mw_at mj_214_22).trans (z_goto (by decide))
theorem mj_214_25 : mc_P 214 25 = some (.iconst (-1), 1, 0, 0, 0) := by decide +kernel
theorem s_214_25 {x0 x1 : Option Value} : mw d 214 Q 25 [x0, x1] (st) h = mw d 214 Q 26 [x0, x1] (.int (-1) :: st) h := (mw_at mj_214_25).trans (z_iconst (by decide))
theorem mj_214_26 : mc_P 214 26 = some (.ireturn, 1, 0, 0, 0) := by decide +kernel
theorem s_214_26 {x0 x1 : Option Value} {x : Int32} : mw d 214 Q 26 [x0, x1] ([.int x]) h = (Q (some (.int x)) h) := (mw_at mj_214_26).trans (z_iret)
theorem e_214 {a0 : Nat} {a1 : Int32} : mcall d 214 [.ref a0, .int a1] h Q = mw d 214 Q 0 [some (.ref a0), some (.int a1)] [] h := by
  show mw d 214 Q 0 (me_en (mc_nl 214) _) [] h = _
  rw [nl_214]; rfl

/-! InvariantDesk.writeText(Ljava/lang/String;)V -/
theorem mj_222_0 : mc_P 222 0 = some (.iconst 0, 1, 0, 0, 0) := by decide +kernel
theorem s_222_0 {x0 x1 x2 : Option Value} : mw d 222 Q 0 [x0, x1, x2] (st) h = mw d 222 Q 1 [x0, x1, x2] (.int 0 :: st) h := (mw_at mj_222_0).trans (z_iconst (by decide))
theorem mj_222_1 : mc_P 222 1 = some (.istore_n 2, 1, 0, 0, 0) := by decide +kernel
theorem s_222_1 {x0 x1 x2 : Option Value} {w : Int32} : mw d 222 Q 1 [x0, x1, x2] (.int w :: st) h = mw d 222 Q 2 [x0, mk2 x1, some (.int w)] (st) h := (mw_at mj_222_1).trans (z_istore_n (Nat.le_of_ble_eq_true rfl) (me_s1_mk (j := 1) (w := x1) rfl))
theorem mj_222_2 : mc_P 222 2 = some (.iload_n 2, 1, 0, 0, 0) := by decide +kernel
theorem s_222_2 {x0 x1 : Option Value} {w : Value} : mw d 222 Q 2 [x0, x1, some w] (st) h = mv_i w (mw d 222 Q 3 [x0, x1, some w] (w :: st) h) := (mw_at mj_222_2).trans (z_iload_n rfl)
theorem mj_222_3 : mc_P 222 3 = some (.aload_n 1, 1, 0, 0, 0) := by decide +kernel
theorem s_222_3 {x0 x2 : Option Value} {w : Value} : mw d 222 Q 3 [x0, some w, x2] (st) h = mv_a w (mw d 222 Q 4 [x0, some w, x2] (w :: st) h) := (mw_at mj_222_3).trans (z_aload_n rfl)
theorem mj_222_4 : mc_P 222 4 = some (.invokevirtual 358, 3, 394, 90, 1) := by decide +kernel
theorem s_222_4 {x0 x1 x2 : Option Value} {o : Nat} : mw (d + 1) 222 Q 4 [x0, x1, x2] (.retAddr o :: st) h = (me_xs o = true ∧ mca st 8 ∧ mca [.retAddr o] 1 ∧ mcall d 394 [.retAddr o] h (mK (d + 1) 222 Q 7 [x0, x1, x2] st)) := (mw_at mj_222_4).trans ((z_invx (As := []) rfl rfl).trans (congrArg (And _) (congrArg (And _) (mC_nl nl_394))))
theorem mj_222_7 : mc_P 222 7 = some (.if_icmp .ge 18, 3, 0, 0, 0) := by decide +kernel
theorem s_222_7 {x0 x1 x2 : Option Value} {x w : Int32} : mw d 222 Q 7 [x0, x1, x2] (.int w :: .int x :: st) h = mB (w ≤ x) (mw d 222 Q) 25 10 [x0, x1, x2] st h := (mw_at mj_222_7).trans (z_icmp_ge (by decide) rfl)
theorem mj_222_10 : mc_P 222 10 = some (.aload_n 0, 1, 0, 0, 0) := by decide +kernel
theorem s_222_10 {x1 x2 : Option Value} {w : Value} : mw d 222 Q 10 [some w, x1, x2] (st) h = mv_a w (mw d 222 Q 11 [some w, x1, x2] (w :: st) h) := (mw_at mj_222_10).trans (z_aload_n rfl)
theorem mj_222_11 : mc_P 222 11 = some (.aload_n 1, 1, 0, 0, 0) := by decide +kernel
theorem s_222_11 {x0 x2 : Option Value} {w : Value} : mw d 222 Q 11 [x0, some w, x2] (st) h = mv_a w (mw d 222 Q 12 [x0, some w, x2] (w :: st) h) := (mw_at mj_222_11).trans (z_aload_n rfl)
theorem mj_222_12 : mc_P 222 12 = some (.iload_n 2, 1, 0, 0, 0) := by decide +kernel
theorem s_222_12 {x0 x1 : Option Value} {w : Value} : mw d 222 Q 12 [x0, x1, some w] (st) h = mv_i w (mw d 222 Q 13 [x0, x1, some w] (w :: st) h) := (mw_at mj_222_12).trans (z_iload_n rfl)
theorem mj_222_13 : mc_P 222 13 = some (.invokevirtual 363, 3, 397, 90, 2) := by decide +kernel
theorem s_222_13 {x0 x1 x2 : Option Value} {o : Nat} {a1 : Value} : mw (d + 1) 222 Q 13 [x0, x1, x2] (a1 :: .retAddr o :: st) h = (me_xs o = true ∧ mca st 8 ∧ mca [.retAddr o, a1] 2 ∧ mcall d 397 [.retAddr o, a1] h (mK (d + 1) 222 Q 16 [x0, x1, x2] st)) := (mw_at mj_222_13).trans ((z_invx (As := [a1]) rfl rfl).trans (congrArg (And _) (congrArg (And _) (mC_nl nl_397))))
theorem mj_222_16 : mc_P 222 16 = some (.invokevirtual 324, 3, 224, 11, 2) := by decide +kernel
theorem s_222_16 {x0 x1 x2 : Option Value} {o : Nat} {a1 : Value} : mw (d + 1) 222 Q 16 [x0, x1, x2] (a1 :: .ref o :: st) h = (mg h o 11 ∧ mca st 8 ∧ mca [.ref o, a1] 2 ∧ mcall d 224 [.ref o, a1] h (mK (d + 1) 222 Q 19 [x0, x1, x2] st)) := (mw_at mj_222_16).trans ((z_invv (As := [a1]) (by decide) rfl rfl).trans (congrArg (And _) (congrArg (And _) (mC_nl nl_224))))
theorem mj_222_19 : mc_P 222 19 = some (.iinc 2 1, 3, 0, 0, 0) := by decide +kernel
theorem s_222_19 {x0 x1 : Option Value} {w : Int32} : mw d 222 Q 19 [x0, x1, some (.int w)] (st) h = mw d 222 Q 22 [x0, mk2 x1, some (.int (w + 1))] (st) h := (mw_at mj_222_19).trans (z_iinc rfl (Nat.le_of_ble_eq_true rfl) (by decide) (me_s1_mk (j := 1) (w := x1) rfl))
theorem mj_222_22 : mc_P 222 22 = some (.goto (-20), 3, 0, 0, 0) := by decide +kernel
theorem s_222_22 {x0 x1 x2 : Option Value} : mw d 222 Q 22 [x0, x1, x2] (st) h = mw d 222 Q 2 [x0, x1, x2] (st) h := (mw_at mj_222_22).trans (z_goto (by decide))
theorem mj_222_25 : mc_P 222 25 = some (.return_, 1, 0, 0, 0) := by decide +kernel
theorem s_222_25 {x0 x1 x2 : Option Value} : mw d 222 Q 25 [x0, x1, x2] ([]) h = Q none h := (mw_at mj_222_25).trans (z_vret)
theorem e_222 {a0 : Nat} {a1 : Nat} : mcall d 222 [.ref a0, .retAddr a1] h Q = mw d 222 Q 0 [some (.ref a0), some (.retAddr a1), none] [] h := by
  show mw d 222 Q 0 (me_en (mc_nl 222) _) [] h = _
  rw [nl_222]; rfl

/-! InvariantDesk.writeByte(I)V -/
theorem mj_224_0 : mc_P 224 0 = some (.aload_n 0, 1, 0, 0, 0) := by decide +kernel
theorem s_224_0 {x1 : Option Value} {w : Value} : mw d 224 Q 0 [some w, x1] (st) h = mv_a w (mw d 224 Q 1 [some w, x1] (w :: st) h) := (mw_at mj_224_0).trans (z_aload_n rfl)
theorem mj_224_1 : mc_P 224 1 = some (.getfield 282, 3, 11, 14, 0) := by decide +kernel
theorem s_224_1 {x0 x1 : Option Value} {o : Nat} : mw d 224 Q 1 [x0, x1] (.ref o :: st) h = (mg h o 11 ∧ mw d 224 Q 4 [x0, x1] (.int (mh_i h o 14) :: st) h) := (mw_at mj_224_1).trans (z_geti (by decide) (by decide) (Or.inl rfl))
theorem mj_224_4 : mc_P 224 4 = some (.aload_n 0, 1, 0, 0, 0) := by decide +kernel
theorem s_224_4 {x1 : Option Value} {w : Value} : mw d 224 Q 4 [some w, x1] (st) h = mv_a w (mw d 224 Q 5 [some w, x1] (w :: st) h) := (mw_at mj_224_4).trans (z_aload_n rfl)
theorem mj_224_5 : mc_P 224 5 = some (.getfield 51, 3, 11, 13, 0) := by decide +kernel
theorem s_224_5 {x0 x1 : Option Value} {o : Nat} : mw d 224 Q 5 [x0, x1] (.ref o :: st) h = (mg h o 11 ∧ mw d 224 Q 8 [x0, x1] (va_rf (mh_r h o 13) :: st) h) := (mw_at mj_224_5).trans (z_getr (by decide) (by decide) rfl)
theorem mj_224_8 : mc_P 224 8 = some (.arraylength, 1, 0, 0, 0) := by decide +kernel
theorem s_224_8 {x0 x1 : Option Value} {o : Nat} : mw d 224 Q 8 [x0, x1] (.ref o :: st) h = (mga h o ∧ mw d 224 Q 9 [x0, x1] (.int (Int32.ofNat (mh_l h o)) :: st) h) := (mw_at mj_224_8).trans (z_alen)
theorem mj_224_9 : mc_P 224 9 = some (.if_icmp .ne 20, 3, 0, 0, 0) := by decide +kernel
theorem s_224_9 {x0 x1 : Option Value} {x w : Int32} : mw d 224 Q 9 [x0, x1] (.int w :: .int x :: st) h = mB (¬ x = w) (mw d 224 Q) 29 12 [x0, x1] st h := (mw_at mj_224_9).trans (z_icmp_ne (by decide) rfl)
theorem mj_224_12 : mc_P 224 12 = some (.aload_n 0, 1, 0, 0, 0) := by decide +kernel
theorem s_224_12 {x1 : Option Value} {w : Value} : mw d 224 Q 12 [some w, x1] (st) h = mv_a w (mw d 224 Q 13 [some w, x1] (w :: st) h) := (mw_at mj_224_12).trans (z_aload_n rfl)
theorem mj_224_13 : mc_P 224 13 = some (.aload_n 0, 1, 0, 0, 0) := by decide +kernel
theorem s_224_13 {x1 : Option Value} {w : Value} : mw d 224 Q 13 [some w, x1] (st) h = mv_a w (mw d 224 Q 14 [some w, x1] (w :: st) h) := (mw_at mj_224_13).trans (z_aload_n rfl)
theorem mj_224_14 : mc_P 224 14 = some (.getfield 51, 3, 11, 13, 0) := by decide +kernel
theorem s_224_14 {x0 x1 : Option Value} {o : Nat} : mw d 224 Q 14 [x0, x1] (.ref o :: st) h = (mg h o 11 ∧ mw d 224 Q 17 [x0, x1] (va_rf (mh_r h o 13) :: st) h) := (mw_at mj_224_14).trans (z_getr (by decide) (by decide) rfl)
theorem mj_224_17 : mc_P 224 17 = some (.iconst 2, 1, 0, 0, 0) := by decide +kernel
theorem s_224_17 {x0 x1 : Option Value} : mw d 224 Q 17 [x0, x1] (st) h = mw d 224 Q 18 [x0, x1] (.int 2 :: st) h := (mw_at mj_224_17).trans (z_iconst (by decide))
theorem mj_224_18 : mc_P 224 18 = some (.aload_n 0, 1, 0, 0, 0) := by decide +kernel
theorem s_224_18 {x1 : Option Value} {w : Value} : mw d 224 Q 18 [some w, x1] (st) h = mv_a w (mw d 224 Q 19 [some w, x1] (w :: st) h) := (mw_at mj_224_18).trans (z_aload_n rfl)
theorem mj_224_19 : mc_P 224 19 = some (.getfield 282, 3, 11, 14, 0) := by decide +kernel
theorem s_224_19 {x0 x1 : Option Value} {o : Nat} : mw d 224 Q 19 [x0, x1] (.ref o :: st) h = (mg h o 11 ∧ mw d 224 Q 22 [x0, x1] (.int (mh_i h o 14) :: st) h) := (mw_at mj_224_19).trans (z_geti (by decide) (by decide) (Or.inl rfl))
theorem mj_224_22 : mc_P 224 22 = some (.imul, 1, 0, 0, 0) := by decide +kernel
theorem s_224_22 {x0 x1 : Option Value} {x w : Int32} : mw d 224 Q 22 [x0, x1] (.int w :: .int x :: st) h = mw d 224 Q 23 [x0, x1] (.int (x * w) :: st) h := (mw_at mj_224_22).trans (z_imul)
theorem mj_224_23 : mc_P 224 23 = some (.invokestatic 371, 3, 392, 0, 2) := by decide +kernel
theorem s_224_23 {x0 x1 : Option Value} {a0 a1 : Value} : mw (d + 1) 224 Q 23 [x0, x1] (a1 :: a0 :: st) h = (mca st 8 ∧ mca [a0, a1] 3 ∧ mcall d 392 [a0, a1] h (mK (d + 1) 224 Q 26 [x0, x1] st)) := (mw_at mj_224_23).trans ((z_invs (As := [a0, a1]) rfl rfl).trans (congrArg (And _) (mC_nl nl_392)))
theorem mj_224_26 : mc_P 224 26 = some (.putfield 51, 3, 11, 13, 0) := by decide +kernel
theorem s_224_26 {x0 x1 : Option Value} {o w : Nat} : mw d 224 Q 26 [x0, x1] (.ref w :: .ref o :: st) h = (mg h o 11 ∧ mw d 224 Q 29 [x0, x1] (st) (mh_sr h o 13 (some w))) := (mw_at mj_224_26).trans (z_putr (by decide) (by decide) rfl)
theorem s_224_26n {x0 x1 : Option Value} {o : Nat} : mw d 224 Q 26 [x0, x1] (.null :: .ref o :: st) h = (mg h o 11 ∧ mw d 224 Q 29 [x0, x1] (st) (mh_sr h o 13 none)) := (mw_at mj_224_26).trans (z_putn (by decide) (by decide) rfl)
theorem mj_224_29 : mc_P 224 29 = some (.aload_n 0, 1, 0, 0, 0) := by decide +kernel
theorem s_224_29 {x1 : Option Value} {w : Value} : mw d 224 Q 29 [some w, x1] (st) h = mv_a w (mw d 224 Q 30 [some w, x1] (w :: st) h) := (mw_at mj_224_29).trans (z_aload_n rfl)
theorem mj_224_30 : mc_P 224 30 = some (.getfield 51, 3, 11, 13, 0) := by decide +kernel
theorem s_224_30 {x0 x1 : Option Value} {o : Nat} : mw d 224 Q 30 [x0, x1] (.ref o :: st) h = (mg h o 11 ∧ mw d 224 Q 33 [x0, x1] (va_rf (mh_r h o 13) :: st) h) := (mw_at mj_224_30).trans (z_getr (by decide) (by decide) rfl)
theorem mj_224_33 : mc_P 224 33 = some (.aload_n 0, 1, 0, 0, 0) := by decide +kernel
theorem s_224_33 {x1 : Option Value} {w : Value} : mw d 224 Q 33 [some w, x1] (st) h = mv_a w (mw d 224 Q 34 [some w, x1] (w :: st) h) := (mw_at mj_224_33).trans (z_aload_n rfl)
theorem mj_224_34 : mc_P 224 34 = some (.getfield 282, 3, 11, 14, 0) := by decide +kernel
theorem s_224_34 {x0 x1 : Option Value} {o : Nat} : mw d 224 Q 34 [x0, x1] (.ref o :: st) h = (mg h o 11 ∧ mw d 224 Q 37 [x0, x1] (.int (mh_i h o 14) :: st) h) := (mw_at mj_224_34).trans (z_geti (by decide) (by decide) (Or.inl rfl))
theorem mj_224_37 : mc_P 224 37 = some (.iload_n 1, 1, 0, 0, 0) := by decide +kernel
theorem s_224_37 {x0 : Option Value} {w : Value} : mw d 224 Q 37 [x0, some w] (st) h = mv_i w (mw d 224 Q 38 [x0, some w] (w :: st) h) := (mw_at mj_224_37).trans (z_iload_n rfl)
theorem mj_224_38 : mc_P 224 38 = some (.i2b, 1, 0, 0, 0) := by decide +kernel
theorem s_224_38 {x0 x1 : Option Value} {x : Int32} : mw d 224 Q 38 [x0, x1] (.int x :: st) h = mw d 224 Q 39 [x0, x1] (.int x.toInt8.toInt32 :: st) h := (mw_at mj_224_38).trans (z_i2b)
theorem mj_224_39 : mc_P 224 39 = some (.bastore, 1, 0, 0, 0) := by decide +kernel
theorem s_224_39 {x0 x1 : Option Value} {o : Nat} {i w : Int32} : mw d 224 Q 39 [x0, x1] (.int w :: .int i :: .ref o :: st) h = (mgb h o ∧ mx i (mh_l h o) ∧ mw d 224 Q 40 [x0, x1] (st) (mh_si h o i.toNatClampNeg (mna h o w))) := (mw_at mj_224_39).trans (z_bast)
theorem mj_224_40 : mc_P 224 40 = some (.aload_n 0, 1, 0, 0, 0) := by decide +kernel
theorem s_224_40 {x1 : Option Value} {w : Value} : mw d 224 Q 40 [some w, x1] (st) h = mv_a w (mw d 224 Q 41 [some w, x1] (w :: st) h) := (mw_at mj_224_40).trans (z_aload_n rfl)
theorem mj_224_41 : mc_P 224 41 = some (.dup, 1, 0, 0, 0) := by decide +kernel
theorem s_224_41 {x0 x1 : Option Value} {w : Value} : mw d 224 Q 41 [x0, x1] (w :: st) h = (w.category = 1 ∧ mw d 224 Q 42 [x0, x1] (w :: w :: st) h) := (mw_at mj_224_41).trans (z_dup)
theorem mj_224_42 : mc_P 224 42 = some (.getfield 282, 3, 11, 14, 0) := by decide +kernel
theorem s_224_42 {x0 x1 : Option Value} {o : Nat} : mw d 224 Q 42 [x0, x1] (.ref o :: st) h = (mg h o 11 ∧ mw d 224 Q 45 [x0, x1] (.int (mh_i h o 14) :: st) h) := (mw_at mj_224_42).trans (z_geti (by decide) (by decide) (Or.inl rfl))
theorem mj_224_45 : mc_P 224 45 = some (.iconst 1, 1, 0, 0, 0) := by decide +kernel
theorem s_224_45 {x0 x1 : Option Value} : mw d 224 Q 45 [x0, x1] (st) h = mw d 224 Q 46 [x0, x1] (.int 1 :: st) h := (mw_at mj_224_45).trans (z_iconst (by decide))
theorem mj_224_46 : mc_P 224 46 = some (.iadd, 1, 0, 0, 0) := by decide +kernel
theorem s_224_46 {x0 x1 : Option Value} {x w : Int32} : mw d 224 Q 46 [x0, x1] (.int w :: .int x :: st) h = mw d 224 Q 47 [x0, x1] (.int (x + w) :: st) h := (mw_at mj_224_46).trans (z_iadd)
theorem mj_224_47 : mc_P 224 47 = some (.putfield 282, 3, 11, 14, 0) := by decide +kernel
theorem s_224_47 {x0 x1 : Option Value} {o : Nat} {w : Int32} : mw d 224 Q 47 [x0, x1] (.int w :: .ref o :: st) h = (mg h o 11 ∧ mw d 224 Q 50 [x0, x1] (st) (mh_si h o 14 w)) := (mw_at mj_224_47).trans (z_puti (by decide) (by decide) rfl)
theorem mj_224_50 : mc_P 224 50 = some (.return_, 1, 0, 0, 0) := by decide +kernel
theorem s_224_50 {x0 x1 : Option Value} : mw d 224 Q 50 [x0, x1] ([]) h = Q none h := (mw_at mj_224_50).trans (z_vret)
theorem e_224 {a0 : Nat} {a1 : Int32} : mcall d 224 [.ref a0, .int a1] h Q = mw d 224 Q 0 [some (.ref a0), some (.int a1)] [] h := by
  show mw d 224 Q 0 (me_en (mc_nl 224) _) [] h = _
  rw [nl_224]; rfl

/-! InvariantDeskModel$Analysis.none()V -/
theorem mj_272_0 : mc_P 272 0 = some (.aload_n 0, 1, 0, 0, 0) := by decide +kernel
theorem s_272_0 {w : Value} : mw d 272 Q 0 [some w] (st) h = mv_a w (mw d 272 Q 1 [some w] (w :: st) h) := (mw_at mj_272_0).trans (z_aload_n rfl)
theorem mj_272_1 : mc_P 272 1 = some (.iconst 1, 1, 0, 0, 0) := by decide +kernel
theorem s_272_1 {x0 : Option Value} : mw d 272 Q 1 [x0] (st) h = mw d 272 Q 2 [x0] (.int 1 :: st) h := (mw_at mj_272_1).trans (z_iconst (by decide))
theorem mj_272_2 : mc_P 272 2 = some (.putfield 384, 3, 12, 7, 0) := by decide +kernel
theorem s_272_2 {x0 : Option Value} {o : Nat} {w : Int32} : mw d 272 Q 2 [x0] (.int w :: .ref o :: st) h = (mg h o 12 ∧ mw d 272 Q 5 [x0] (st) (mh_si h o 7 w)) := (mw_at mj_272_2).trans (z_puti (by decide) (by decide) rfl)
theorem mj_272_5 : mc_P 272 5 = some (.aload_n 0, 1, 0, 0, 0) := by decide +kernel
theorem s_272_5 {w : Value} : mw d 272 Q 5 [some w] (st) h = mv_a w (mw d 272 Q 6 [some w] (w :: st) h) := (mw_at mj_272_5).trans (z_aload_n rfl)
theorem mj_272_6 : mc_P 272 6 = some (.iconst 0, 1, 0, 0, 0) := by decide +kernel
theorem s_272_6 {x0 : Option Value} : mw d 272 Q 6 [x0] (st) h = mw d 272 Q 7 [x0] (.int 0 :: st) h := (mw_at mj_272_6).trans (z_iconst (by decide))
theorem mj_272_7 : mc_P 272 7 = some (.putfield 302, 3, 12, 8, 0) := by decide +kernel
theorem s_272_7 {x0 : Option Value} {o : Nat} {w : Int32} : mw d 272 Q 7 [x0] (.int w :: .ref o :: st) h = (mg h o 12 ∧ mw d 272 Q 10 [x0] (st) (mh_si h o 8 w)) := (mw_at mj_272_7).trans (z_puti (by decide) (by decide) rfl)
theorem mj_272_10 : mc_P 272 10 = some (.aload_n 0, 1, 0, 0, 0) := by decide +kernel
theorem s_272_10 {w : Value} : mw d 272 Q 10 [some w] (st) h = mv_a w (mw d 272 Q 11 [some w] (w :: st) h) := (mw_at mj_272_10).trans (z_aload_n rfl)
theorem mj_272_11 : mc_P 272 11 = some (.iconst 0, 1, 0, 0, 0) := by decide +kernel
theorem s_272_11 {x0 : Option Value} : mw d 272 Q 11 [x0] (st) h = mw d 272 Q 12 [x0] (.int 0 :: st) h := (mw_at mj_272_11).trans (z_iconst (by decide))
theorem mj_272_12 : mc_P 272 12 = some (.putfield 289, 3, 12, 9, 0) := by decide +kernel
theorem s_272_12 {x0 : Option Value} {o : Nat} {w : Int32} : mw d 272 Q 12 [x0] (.int w :: .ref o :: st) h = (mg h o 12 ∧ (w = 0 ∨ w = 1) ∧ mw d 272 Q 15 [x0] (st) (mh_si h o 9 w)) := (mw_at mj_272_12).trans (z_putz (by decide) (by decide) rfl)
theorem mj_272_15 : mc_P 272 15 = some (.aload_n 0, 1, 0, 0, 0) := by decide +kernel
theorem s_272_15 {w : Value} : mw d 272 Q 15 [some w] (st) h = mv_a w (mw d 272 Q 16 [some w] (w :: st) h) := (mw_at mj_272_15).trans (z_aload_n rfl)
theorem mj_272_16 : mc_P 272 16 = some (.iconst 0, 1, 0, 0, 0) := by decide +kernel
theorem s_272_16 {x0 : Option Value} : mw d 272 Q 16 [x0] (st) h = mw d 272 Q 17 [x0] (.int 0 :: st) h := (mw_at mj_272_16).trans (z_iconst (by decide))
theorem mj_272_17 : mc_P 272 17 = some (.putfield 381, 3, 12, 13, 0) := by decide +kernel
theorem s_272_17 {x0 : Option Value} {o : Nat} {w : Int32} : mw d 272 Q 17 [x0] (.int w :: .ref o :: st) h = (mg h o 12 ∧ mw d 272 Q 20 [x0] (st) (mh_si h o 13 w)) := (mw_at mj_272_17).trans (z_puti (by decide) (by decide) rfl)
theorem mj_272_20 : mc_P 272 20 = some (.aload_n 0, 1, 0, 0, 0) := by decide +kernel
theorem s_272_20 {w : Value} : mw d 272 Q 20 [some w] (st) h = mv_a w (mw d 272 Q 21 [some w] (w :: st) h) := (mw_at mj_272_20).trans (z_aload_n rfl)
theorem mj_272_21 : mc_P 272 21 = some (.getfield 11, 3, 12, 4, 0) := by decide +kernel
theorem s_272_21 {x0 : Option Value} {o : Nat} : mw d 272 Q 21 [x0] (.ref o :: st) h = (mg h o 12 ∧ mw d 272 Q 24 [x0] (va_rf (mh_r h o 4) :: st) h) := (mw_at mj_272_21).trans (z_getr (by decide) (by decide) rfl)
theorem mj_272_24 : mc_P 272 24 = some (.iconst 0, 1, 0, 0, 0) := by decide +kernel
theorem s_272_24 {x0 : Option Value} : mw d 272 Q 24 [x0] (st) h = mw d 272 Q 25 [x0] (.int 0 :: st) h := (mw_at mj_272_24).trans (z_iconst (by decide))
theorem mj_272_25 : mc_P 272 25 = some (.aaload, 1, 0, 0, 0) := by decide +kernel
theorem s_272_25 {x0 : Option Value} {o : Nat} {i : Int32} : mw d 272 Q 25 [x0] (.int i :: .ref o :: st) h = (mgr h o ∧ mx i (mh_l h o) ∧ mw d 272 Q 26 [x0] (mrd (mh_k h o) h o i.toNatClampNeg :: st) h) := (mw_at mj_272_25).trans (z_aald)
theorem mj_272_26 : mc_P 272 26 = some (.invokevirtual 387, 3, 280, 13, 1) := by decide +kernel
theorem s_272_26 {x0 : Option Value} {o : Nat} : mw (d + 1) 272 Q 26 [x0] (.ref o :: st) h = (mg h o 13 ∧ mca st 8 ∧ mca [.ref o] 1 ∧ mcall d 280 [.ref o] h (mK (d + 1) 272 Q 29 [x0] st)) := (mw_at mj_272_26).trans ((z_invv (As := []) (by decide) rfl rfl).trans (congrArg (And _) (congrArg (And _) (mC_nl nl_280))))
theorem mj_272_29 : mc_P 272 29 = some (.aload_n 0, 1, 0, 0, 0) := by decide +kernel
theorem s_272_29 {w : Value} : mw d 272 Q 29 [some w] (st) h = mv_a w (mw d 272 Q 30 [some w] (w :: st) h) := (mw_at mj_272_29).trans (z_aload_n rfl)
theorem mj_272_30 : mc_P 272 30 = some (.getfield 18, 3, 12, 6, 0) := by decide +kernel
theorem s_272_30 {x0 : Option Value} {o : Nat} : mw d 272 Q 30 [x0] (.ref o :: st) h = (mg h o 12 ∧ mw d 272 Q 33 [x0] (va_rf (mh_r h o 6) :: st) h) := (mw_at mj_272_30).trans (z_getr (by decide) (by decide) rfl)
theorem mj_272_33 : mc_P 272 33 = some (.iconst 0, 1, 0, 0, 0) := by decide +kernel
theorem s_272_33 {x0 : Option Value} : mw d 272 Q 33 [x0] (st) h = mw d 272 Q 34 [x0] (.int 0 :: st) h := (mw_at mj_272_33).trans (z_iconst (by decide))
theorem mj_272_34 : mc_P 272 34 = some (.iconst 0, 1, 0, 0, 0) := by decide +kernel
theorem s_272_34 {x0 : Option Value} : mw d 272 Q 34 [x0] (st) h = mw d 272 Q 35 [x0] (.int 0 :: st) h := (mw_at mj_272_34).trans (z_iconst (by decide))
theorem mj_272_35 : mc_P 272 35 = some (.iastore, 1, 0, 0, 0) := by decide +kernel
theorem s_272_35 {x0 : Option Value} {o : Nat} {i w : Int32} : mw d 272 Q 35 [x0] (.int w :: .int i :: .ref o :: st) h = (mg h o 100 ∧ mx i (mh_l h o) ∧ mw d 272 Q 36 [x0] (st) (mh_si h o i.toNatClampNeg w)) := (mw_at mj_272_35).trans (z_iast)
theorem mj_272_36 : mc_P 272 36 = some (.aload_n 0, 1, 0, 0, 0) := by decide +kernel
theorem s_272_36 {w : Value} : mw d 272 Q 36 [some w] (st) h = mv_a w (mw d 272 Q 37 [some w] (w :: st) h) := (mw_at mj_272_36).trans (z_aload_n rfl)
theorem mj_272_37 : mc_P 272 37 = some (.getfield 57, 3, 12, 36, 0) := by decide +kernel
theorem s_272_37 {x0 : Option Value} {o : Nat} : mw d 272 Q 37 [x0] (.ref o :: st) h = (mg h o 12 ∧ mw d 272 Q 40 [x0] (va_rf (mh_r h o 36) :: st) h) := (mw_at mj_272_37).trans (z_getr (by decide) (by decide) rfl)
theorem mj_272_40 : mc_P 272 40 = some (.iconst 0, 1, 0, 0, 0) := by decide +kernel
theorem s_272_40 {x0 : Option Value} : mw d 272 Q 40 [x0] (st) h = mw d 272 Q 41 [x0] (.int 0 :: st) h := (mw_at mj_272_40).trans (z_iconst (by decide))
theorem mj_272_41 : mc_P 272 41 = some (.iconst 0, 1, 0, 0, 0) := by decide +kernel
theorem s_272_41 {x0 : Option Value} : mw d 272 Q 41 [x0] (st) h = mw d 272 Q 42 [x0] (.int 0 :: st) h := (mw_at mj_272_41).trans (z_iconst (by decide))
theorem mj_272_42 : mc_P 272 42 = some (.iastore, 1, 0, 0, 0) := by decide +kernel
theorem s_272_42 {x0 : Option Value} {o : Nat} {i w : Int32} : mw d 272 Q 42 [x0] (.int w :: .int i :: .ref o :: st) h = (mg h o 100 ∧ mx i (mh_l h o) ∧ mw d 272 Q 43 [x0] (st) (mh_si h o i.toNatClampNeg w)) := (mw_at mj_272_42).trans (z_iast)
theorem mj_272_43 : mc_P 272 43 = some (.aload_n 0, 1, 0, 0, 0) := by decide +kernel
theorem s_272_43 {w : Value} : mw d 272 Q 43 [some w] (st) h = mv_a w (mw d 272 Q 44 [some w] (w :: st) h) := (mw_at mj_272_43).trans (z_aload_n rfl)
theorem mj_272_44 : mc_P 272 44 = some (.getfield 60, 3, 12, 37, 0) := by decide +kernel
theorem s_272_44 {x0 : Option Value} {o : Nat} : mw d 272 Q 44 [x0] (.ref o :: st) h = (mg h o 12 ∧ mw d 272 Q 47 [x0] (va_rf (mh_r h o 37) :: st) h) := (mw_at mj_272_44).trans (z_getr (by decide) (by decide) rfl)
theorem mj_272_47 : mc_P 272 47 = some (.iconst 0, 1, 0, 0, 0) := by decide +kernel
theorem s_272_47 {x0 : Option Value} : mw d 272 Q 47 [x0] (st) h = mw d 272 Q 48 [x0] (.int 0 :: st) h := (mw_at mj_272_47).trans (z_iconst (by decide))
theorem mj_272_48 : mc_P 272 48 = some (.iconst 0, 1, 0, 0, 0) := by decide +kernel
theorem s_272_48 {x0 : Option Value} : mw d 272 Q 48 [x0] (st) h = mw d 272 Q 49 [x0] (.int 0 :: st) h := (mw_at mj_272_48).trans (z_iconst (by decide))
theorem mj_272_49 : mc_P 272 49 = some (.iastore, 1, 0, 0, 0) := by decide +kernel
theorem s_272_49 {x0 : Option Value} {o : Nat} {i w : Int32} : mw d 272 Q 49 [x0] (.int w :: .int i :: .ref o :: st) h = (mg h o 100 ∧ mx i (mh_l h o) ∧ mw d 272 Q 50 [x0] (st) (mh_si h o i.toNatClampNeg w)) := (mw_at mj_272_49).trans (z_iast)
theorem mj_272_50 : mc_P 272 50 = some (.aload_n 0, 1, 0, 0, 0) := by decide +kernel
theorem s_272_50 {w : Value} : mw d 272 Q 50 [some w] (st) h = mv_a w (mw d 272 Q 51 [some w] (w :: st) h) := (mw_at mj_272_50).trans (z_aload_n rfl)
theorem mj_272_51 : mc_P 272 51 = some (.invokevirtual 390, 3, 274, 12, 1) := by decide +kernel
theorem s_272_51 {x0 : Option Value} {o : Nat} : mw (d + 1) 272 Q 51 [x0] (.ref o :: st) h = (mg h o 12 ∧ mca st 8 ∧ mca [.ref o] 3 ∧ mcall d 274 [.ref o] h (mK (d + 1) 272 Q 54 [x0] st)) := (mw_at mj_272_51).trans ((z_invv (As := []) (by decide) rfl rfl).trans (congrArg (And _) (congrArg (And _) (mC_nl nl_274))))
theorem mj_272_54 : mc_P 272 54 = some (.pop, 1, 0, 0, 0) := by decide +kernel
theorem s_272_54 {x0 : Option Value} {w : Value} : mw d 272 Q 54 [x0] (w :: st) h = (w.category = 1 ∧ mw d 272 Q 55 [x0] (st) h) := (mw_at mj_272_54).trans (z_pop)
theorem mj_272_55 : mc_P 272 55 = some (.return_, 1, 0, 0, 0) := by decide +kernel
theorem s_272_55 {x0 : Option Value} : mw d 272 Q 55 [x0] ([]) h = Q none h := (mw_at mj_272_55).trans (z_vret)
theorem e_272 {a0 : Nat} : mcall d 272 [.ref a0] h Q = mw d 272 Q 0 [some (.ref a0)] [] h := by
  show mw d 272 Q 0 (me_en (mc_nl 272) _) [] h = _
  rw [nl_272]; rfl

/-! InvariantDeskModel$Analysis.unclaim()I -/
theorem mj_274_0 : mc_P 274 0 = some (.iconst 0, 1, 0, 0, 0) := by decide +kernel
theorem s_274_0 {x0 x1 x2 : Option Value} : mw d 274 Q 0 [x0, x1, x2] (st) h = mw d 274 Q 1 [x0, x1, x2] (.int 0 :: st) h := (mw_at mj_274_0).trans (z_iconst (by decide))
theorem mj_274_1 : mc_P 274 1 = some (.istore_n 1, 1, 0, 0, 0) := by decide +kernel
theorem s_274_1 {x0 x1 x2 : Option Value} {w : Int32} : mw d 274 Q 1 [x0, x1, x2] (.int w :: st) h = mw d 274 Q 2 [mk2 x0, some (.int w), x2] (st) h := (mw_at mj_274_1).trans (z_istore_n (Nat.le_of_ble_eq_true rfl) (me_s1_mk (j := 0) (w := x0) rfl))
theorem mj_274_2 : mc_P 274 2 = some (.iconst 0, 1, 0, 0, 0) := by decide +kernel
theorem s_274_2 {x0 x1 x2 : Option Value} : mw d 274 Q 2 [x0, x1, x2] (st) h = mw d 274 Q 3 [x0, x1, x2] (.int 0 :: st) h := (mw_at mj_274_2).trans (z_iconst (by decide))
theorem mj_274_3 : mc_P 274 3 = some (.istore_n 2, 1, 0, 0, 0) := by decide +kernel
theorem s_274_3 {x0 x1 x2 : Option Value} {w : Int32} : mw d 274 Q 3 [x0, x1, x2] (.int w :: st) h = mw d 274 Q 4 [x0, mk2 x1, some (.int w)] (st) h := (mw_at mj_274_3).trans (z_istore_n (Nat.le_of_ble_eq_true rfl) (me_s1_mk (j := 1) (w := x1) rfl))
theorem mj_274_4 : mc_P 274 4 = some (.iload_n 2, 1, 0, 0, 0) := by decide +kernel
theorem s_274_4 {x0 x1 : Option Value} {w : Value} : mw d 274 Q 4 [x0, x1, some w] (st) h = mv_i w (mw d 274 Q 5 [x0, x1, some w] (w :: st) h) := (mw_at mj_274_4).trans (z_iload_n rfl)
theorem mj_274_5 : mc_P 274 5 = some (.aload_n 0, 1, 0, 0, 0) := by decide +kernel
theorem s_274_5 {x1 x2 : Option Value} {w : Value} : mw d 274 Q 5 [some w, x1, x2] (st) h = mv_a w (mw d 274 Q 6 [some w, x1, x2] (w :: st) h) := (mw_at mj_274_5).trans (z_aload_n rfl)
theorem mj_274_6 : mc_P 274 6 = some (.getfield 384, 3, 12, 7, 0) := by decide +kernel
theorem s_274_6 {x0 x1 x2 : Option Value} {o : Nat} : mw d 274 Q 6 [x0, x1, x2] (.ref o :: st) h = (mg h o 12 ∧ mw d 274 Q 9 [x0, x1, x2] (.int (mh_i h o 7) :: st) h) := (mw_at mj_274_6).trans (z_geti (by decide) (by decide) (Or.inl rfl))
theorem mj_274_9 : mc_P 274 9 = some (.if_icmp .ge 50, 3, 0, 0, 0) := by decide +kernel
theorem s_274_9 {x0 x1 x2 : Option Value} {x w : Int32} : mw d 274 Q 9 [x0, x1, x2] (.int w :: .int x :: st) h = mB (w ≤ x) (mw d 274 Q) 59 12 [x0, x1, x2] st h := (mw_at mj_274_9).trans (z_icmp_ge (by decide) rfl)
theorem mj_274_12 : mc_P 274 12 = some (.iload_n 1, 1, 0, 0, 0) := by decide +kernel
theorem s_274_12 {x0 x2 : Option Value} {w : Value} : mw d 274 Q 12 [x0, some w, x2] (st) h = mv_i w (mw d 274 Q 13 [x0, some w, x2] (w :: st) h) := (mw_at mj_274_12).trans (z_iload_n rfl)
theorem mj_274_13 : mc_P 274 13 = some (.aload_n 0, 1, 0, 0, 0) := by decide +kernel
theorem s_274_13 {x1 x2 : Option Value} {w : Value} : mw d 274 Q 13 [some w, x1, x2] (st) h = mv_a w (mw d 274 Q 14 [some w, x1, x2] (w :: st) h) := (mw_at mj_274_13).trans (z_aload_n rfl)
theorem mj_274_14 : mc_P 274 14 = some (.getfield 11, 3, 12, 4, 0) := by decide +kernel
theorem s_274_14 {x0 x1 x2 : Option Value} {o : Nat} : mw d 274 Q 14 [x0, x1, x2] (.ref o :: st) h = (mg h o 12 ∧ mw d 274 Q 17 [x0, x1, x2] (va_rf (mh_r h o 4) :: st) h) := (mw_at mj_274_14).trans (z_getr (by decide) (by decide) rfl)
theorem mj_274_17 : mc_P 274 17 = some (.iload_n 2, 1, 0, 0, 0) := by decide +kernel
theorem s_274_17 {x0 x1 : Option Value} {w : Value} : mw d 274 Q 17 [x0, x1, some w] (st) h = mv_i w (mw d 274 Q 18 [x0, x1, some w] (w :: st) h) := (mw_at mj_274_17).trans (z_iload_n rfl)
theorem mj_274_18 : mc_P 274 18 = some (.aaload, 1, 0, 0, 0) := by decide +kernel
theorem s_274_18 {x0 x1 x2 : Option Value} {o : Nat} {i : Int32} : mw d 274 Q 18 [x0, x1, x2] (.int i :: .ref o :: st) h = (mgr h o ∧ mx i (mh_l h o) ∧ mw d 274 Q 19 [x0, x1, x2] (mrd (mh_k h o) h o i.toNatClampNeg :: st) h) := (mw_at mj_274_18).trans (z_aald)
theorem mj_274_19 : mc_P 274 19 = some (.aload_n 0, 1, 0, 0, 0) := by decide +kernel
theorem s_274_19 {x1 x2 : Option Value} {w : Value} : mw d 274 Q 19 [some w, x1, x2] (st) h = mv_a w (mw d 274 Q 20 [some w, x1, x2] (w :: st) h) := (mw_at mj_274_19).trans (z_aload_n rfl)
theorem mj_274_20 : mc_P 274 20 = some (.getfield 15, 3, 12, 5, 0) := by decide +kernel
theorem s_274_20 {x0 x1 x2 : Option Value} {o : Nat} : mw d 274 Q 20 [x0, x1, x2] (.ref o :: st) h = (mg h o 12 ∧ mw d 274 Q 23 [x0, x1, x2] (va_rf (mh_r h o 5) :: st) h) := (mw_at mj_274_20).trans (z_getr (by decide) (by decide) rfl)
theorem mj_274_23 : mc_P 274 23 = some (.iload_n 2, 1, 0, 0, 0) := by decide +kernel
theorem s_274_23 {x0 x1 : Option Value} {w : Value} : mw d 274 Q 23 [x0, x1, some w] (st) h = mv_i w (mw d 274 Q 24 [x0, x1, some w] (w :: st) h) := (mw_at mj_274_23).trans (z_iload_n rfl)
theorem mj_274_24 : mc_P 274 24 = some (.aaload, 1, 0, 0, 0) := by decide +kernel
theorem s_274_24 {x0 x1 x2 : Option Value} {o : Nat} {i : Int32} : mw d 274 Q 24 [x0, x1, x2] (.int i :: .ref o :: st) h = (mgr h o ∧ mx i (mh_l h o) ∧ mw d 274 Q 25 [x0, x1, x2] (mrd (mh_k h o) h o i.toNatClampNeg :: st) h) := (mw_at mj_274_24).trans (z_aald)
theorem mj_274_25 : mc_P 274 25 = some (.invokevirtual 305, 3, 294, 13, 2) := by decide +kernel
theorem s_274_25 {x0 x1 x2 : Option Value} {o : Nat} {a1 : Value} : mw (d + 1) 274 Q 25 [x0, x1, x2] (a1 :: .ref o :: st) h = (mg h o 13 ∧ mca st 8 ∧ mca [.ref o, a1] 5 ∧ mcall d 294 [.ref o, a1] h (mK (d + 1) 274 Q 28 [x0, x1, x2] st)) := (mw_at mj_274_25).trans ((z_invv (As := [a1]) (by decide) rfl rfl).trans (congrArg (And _) (congrArg (And _) (mC_nl nl_294))))
theorem mj_274_28 : mc_P 274 28 = some (.ifCond .eq 7, 3, 0, 0, 0) := by decide +kernel
theorem s_274_28 {x0 x1 x2 : Option Value} {x : Int32} : mw d 274 Q 28 [x0, x1, x2] (.int x :: st) h = mB (x = 0) (mw d 274 Q) 35 31 [x0, x1, x2] st h := (mw_at mj_274_28).trans (z_if_eq (by decide) rfl)
theorem mj_274_31 : mc_P 274 31 = some (.iconst 0, 1, 0, 0, 0) := by decide +kernel
theorem s_274_31 {x0 x1 x2 : Option Value} : mw d 274 Q 31 [x0, x1, x2] (st) h = mw d 274 Q 32 [x0, x1, x2] (.int 0 :: st) h := (mw_at mj_274_31).trans (z_iconst (by decide))
theorem mj_274_32 : mc_P 274 32 = some (.goto 4, 3, 0, 0, 0) := by decide +kernel
theorem s_274_32 {x0 x1 x2 : Option Value} : mw d 274 Q 32 [x0, x1, x2] (st) h = mw d 274 Q 36 [x0, x1, x2] (st) h := (mw_at mj_274_32).trans (z_goto (by decide))
theorem mj_274_35 : mc_P 274 35 = some (.iconst 1, 1, 0, 0, 0) := by decide +kernel
theorem s_274_35 {x0 x1 x2 : Option Value} : mw d 274 Q 35 [x0, x1, x2] (st) h = mw d 274 Q 36 [x0, x1, x2] (.int 1 :: st) h := (mw_at mj_274_35).trans (z_iconst (by decide))
theorem mj_274_36 : mc_P 274 36 = some (.iadd, 1, 0, 0, 0) := by decide +kernel
theorem s_274_36 {x0 x1 x2 : Option Value} {x w : Int32} : mw d 274 Q 36 [x0, x1, x2] (.int w :: .int x :: st) h = mw d 274 Q 37 [x0, x1, x2] (.int (x + w) :: st) h := (mw_at mj_274_36).trans (z_iadd)
theorem mj_274_37 : mc_P 274 37 = some (.istore_n 1, 1, 0, 0, 0) := by decide +kernel
theorem s_274_37 {x0 x1 x2 : Option Value} {w : Int32} : mw d 274 Q 37 [x0, x1, x2] (.int w :: st) h = mw d 274 Q 38 [mk2 x0, some (.int w), x2] (st) h := (mw_at mj_274_37).trans (z_istore_n (Nat.le_of_ble_eq_true rfl) (me_s1_mk (j := 0) (w := x0) rfl))
theorem mj_274_38 : mc_P 274 38 = some (.aload_n 0, 1, 0, 0, 0) := by decide +kernel
theorem s_274_38 {x1 x2 : Option Value} {w : Value} : mw d 274 Q 38 [some w, x1, x2] (st) h = mv_a w (mw d 274 Q 39 [some w, x1, x2] (w :: st) h) := (mw_at mj_274_38).trans (z_aload_n rfl)
theorem mj_274_39 : mc_P 274 39 = some (.getfield 15, 3, 12, 5, 0) := by decide +kernel
theorem s_274_39 {x0 x1 x2 : Option Value} {o : Nat} : mw d 274 Q 39 [x0, x1, x2] (.ref o :: st) h = (mg h o 12 ∧ mw d 274 Q 42 [x0, x1, x2] (va_rf (mh_r h o 5) :: st) h) := (mw_at mj_274_39).trans (z_getr (by decide) (by decide) rfl)
theorem mj_274_42 : mc_P 274 42 = some (.iload_n 2, 1, 0, 0, 0) := by decide +kernel
theorem s_274_42 {x0 x1 : Option Value} {w : Value} : mw d 274 Q 42 [x0, x1, some w] (st) h = mv_i w (mw d 274 Q 43 [x0, x1, some w] (w :: st) h) := (mw_at mj_274_42).trans (z_iload_n rfl)
theorem mj_274_43 : mc_P 274 43 = some (.aaload, 1, 0, 0, 0) := by decide +kernel
theorem s_274_43 {x0 x1 x2 : Option Value} {o : Nat} {i : Int32} : mw d 274 Q 43 [x0, x1, x2] (.int i :: .ref o :: st) h = (mgr h o ∧ mx i (mh_l h o) ∧ mw d 274 Q 44 [x0, x1, x2] (mrd (mh_k h o) h o i.toNatClampNeg :: st) h) := (mw_at mj_274_43).trans (z_aald)
theorem mj_274_44 : mc_P 274 44 = some (.aload_n 0, 1, 0, 0, 0) := by decide +kernel
theorem s_274_44 {x1 x2 : Option Value} {w : Value} : mw d 274 Q 44 [some w, x1, x2] (st) h = mv_a w (mw d 274 Q 45 [some w, x1, x2] (w :: st) h) := (mw_at mj_274_44).trans (z_aload_n rfl)
theorem mj_274_45 : mc_P 274 45 = some (.getfield 11, 3, 12, 4, 0) := by decide +kernel
theorem s_274_45 {x0 x1 x2 : Option Value} {o : Nat} : mw d 274 Q 45 [x0, x1, x2] (.ref o :: st) h = (mg h o 12 ∧ mw d 274 Q 48 [x0, x1, x2] (va_rf (mh_r h o 4) :: st) h) := (mw_at mj_274_45).trans (z_getr (by decide) (by decide) rfl)
theorem mj_274_48 : mc_P 274 48 = some (.iload_n 2, 1, 0, 0, 0) := by decide +kernel
theorem s_274_48 {x0 x1 : Option Value} {w : Value} : mw d 274 Q 48 [x0, x1, some w] (st) h = mv_i w (mw d 274 Q 49 [x0, x1, some w] (w :: st) h) := (mw_at mj_274_48).trans (z_iload_n rfl)
theorem mj_274_49 : mc_P 274 49 = some (.aaload, 1, 0, 0, 0) := by decide +kernel
theorem s_274_49 {x0 x1 x2 : Option Value} {o : Nat} {i : Int32} : mw d 274 Q 49 [x0, x1, x2] (.int i :: .ref o :: st) h = (mgr h o ∧ mx i (mh_l h o) ∧ mw d 274 Q 50 [x0, x1, x2] (mrd (mh_k h o) h o i.toNatClampNeg :: st) h) := (mw_at mj_274_49).trans (z_aald)
theorem mj_274_50 : mc_P 274 50 = some (.invokevirtual 72, 3, 281, 13, 2) := by decide +kernel
theorem s_274_50 {x0 x1 x2 : Option Value} {o : Nat} {a1 : Value} : mw (d + 1) 274 Q 50 [x0, x1, x2] (a1 :: .ref o :: st) h = (mg h o 13 ∧ mca st 8 ∧ mca [.ref o, a1] 2 ∧ mcall d 281 [.ref o, a1] h (mK (d + 1) 274 Q 53 [x0, x1, x2] st)) := (mw_at mj_274_50).trans ((z_invv (As := [a1]) (by decide) rfl rfl).trans (congrArg (And _) (congrArg (And _) (mC_nl nl_281))))
theorem mj_274_53 : mc_P 274 53 = some (.iinc 2 1, 3, 0, 0, 0) := by decide +kernel
theorem s_274_53 {x0 x1 : Option Value} {w : Int32} : mw d 274 Q 53 [x0, x1, some (.int w)] (st) h = mw d 274 Q 56 [x0, mk2 x1, some (.int (w + 1))] (st) h := (mw_at mj_274_53).trans (z_iinc rfl (Nat.le_of_ble_eq_true rfl) (by decide) (me_s1_mk (j := 1) (w := x1) rfl))
theorem mj_274_56 : mc_P 274 56 = some (.goto (-52), 3, 0, 0, 0) := by decide +kernel
theorem s_274_56 {x0 x1 x2 : Option Value} : mw d 274 Q 56 [x0, x1, x2] (st) h = mw d 274 Q 4 [x0, x1, x2] (st) h := (mw_at mj_274_56).trans (z_goto (by decide))
theorem mj_274_59 : mc_P 274 59 = some (.iload_n 1, 1, 0, 0, 0) := by decide +kernel
theorem s_274_59 {x0 x2 : Option Value} {w : Value} : mw d 274 Q 59 [x0, some w, x2] (st) h = mv_i w (mw d 274 Q 60 [x0, some w, x2] (w :: st) h) := (mw_at mj_274_59).trans (z_iload_n rfl)
theorem mj_274_60 : mc_P 274 60 = some (.ireturn, 1, 0, 0, 0) := by decide +kernel
theorem s_274_60 {x0 x1 x2 : Option Value} {x : Int32} : mw d 274 Q 60 [x0, x1, x2] ([.int x]) h = (Q (some (.int x)) h) := (mw_at mj_274_60).trans (z_iret)
theorem e_274 {a0 : Nat} : mcall d 274 [.ref a0] h Q = mw d 274 Q 0 [some (.ref a0), none, none] [] h := by
  show mw d 274 Q 0 (me_en (mc_nl 274) _) [] h = _
  rw [nl_274]; rfl

end SR
