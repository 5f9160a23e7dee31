/-! rules of methods, by program (wip/whole/srule.py) -/
section SR
variable {d : Nat} {Q : Option Value → mh_H → Prop} {st : List Value} {h : mh_H}
/-! InvariantDeskModel.number(Z)I -/
theorem mj_316_0 : mc_P 316 0 = some (.aload_n 0, 1, 0, 0, 0) := by decide +kernel
theorem s_316_0 {x1 x2 x3 x4 x5 : Option Value} {w : Value} : mw d 316 Q 0 [some w, x1, x2, x3, x4, x5] (st) h = mv_a w (mw d 316 Q 1 [some w, x1, x2, x3, x4, x5] (w :: st) h) := (mw_at mj_316_0).trans (z_aload_n rfl)
theorem mj_316_1 : mc_P 316 1 = some (.getfield 16, 3, 14, 5, 0) := by decide +kernel
theorem s_316_1 {x0 x1 x2 x3 x4 x5 : Option Value} {o : Nat} : mw d 316 Q 1 [x0, x1, x2, x3, x4, x5] (.ref o :: st) h = (mg h o 14 ∧ mw d 316 Q 4 [x0, x1, x2, x3, x4, x5] (va_rf (mh_r h o 5) :: st) h) := (mw_at mj_316_1).trans (z_getr (by decide) (by decide) rfl)
theorem mj_316_4 : mc_P 316 4 = some (.aload_n 0, 1, 0, 0, 0) := by decide +kernel
theorem s_316_4 {x1 x2 x3 x4 x5 : Option Value} {w : Value} : mw d 316 Q 4 [some w, x1, x2, x3, x4, x5] (st) h = mv_a w (mw d 316 Q 5 [some w, x1, x2, x3, x4, x5] (w :: st) h) := (mw_at mj_316_4).trans (z_aload_n rfl)
theorem mj_316_5 : mc_P 316 5 = some (.getfield 246, 3, 14, 8, 0) := by decide +kernel
theorem s_316_5 {x0 x1 x2 x3 x4 x5 : Option Value} {o : Nat} : mw d 316 Q 5 [x0, x1, x2, x3, x4, x5] (.ref o :: st) h = (mg h o 14 ∧ mw d 316 Q 8 [x0, x1, x2, x3, x4, x5] (.int (mh_i h o 8) :: st) h) := (mw_at mj_316_5).trans (z_geti (by decide) (by decide) (Or.inl rfl))
theorem mj_316_8 : mc_P 316 8 = some (.iaload, 1, 0, 0, 0) := by decide +kernel
theorem s_316_8 {x0 x1 x2 x3 x4 x5 : Option Value} {o : Nat} {i : Int32} : mw d 316 Q 8 [x0, x1, x2, x3, x4, x5] (.int i :: .ref o :: st) h = (mg h o 100 ∧ mx i (mh_l h o) ∧ mw d 316 Q 9 [x0, x1, x2, x3, x4, x5] (.int (mh_i h o i.toNatClampNeg) :: st) h) := (mw_at mj_316_8).trans (z_iald)
theorem mj_316_9 : mc_P 316 9 = some (.istore_n 2, 1, 0, 0, 0) := by decide +kernel
theorem s_316_9 {x0 x1 x2 x3 x4 x5 : Option Value} {w : Int32} : mw d 316 Q 9 [x0, x1, x2, x3, x4, x5] (.int w :: st) h = mw d 316 Q 10 [x0, mk2 x1, some (.int w), x3, x4, x5] (st) h := (mw_at mj_316_9).trans (z_istore_n (Nat.le_of_ble_eq_true rfl) (me_s1_mk (j := 1) (w := x1) rfl))
theorem mj_316_10 : mc_P 316 10 = some (.iconst 1, 1, 0, 0, 0) := by decide +kernel
theorem s_316_10 {x0 x1 x2 x3 x4 x5 : Option Value} : mw d 316 Q 10 [x0, x1, x2, x3, x4, x5] (st) h = mw d 316 Q 11 [x0, x1, x2, x3, x4, x5] (.int 1 :: st) h := (mw_at mj_316_10).trans (z_iconst (by decide))
theorem mj_316_11 : mc_P 316 11 = some (.istore_n 3, 1, 0, 0, 0) := by decide +kernel
theorem s_316_11 {x0 x1 x2 x3 x4 x5 : Option Value} {w : Int32} : mw d 316 Q 11 [x0, x1, x2, x3, x4, x5] (.int w :: st) h = mw d 316 Q 12 [x0, x1, mk2 x2, some (.int w), x4, x5] (st) h := (mw_at mj_316_11).trans (z_istore_n (Nat.le_of_ble_eq_true rfl) (me_s1_mk (j := 2) (w := x2) rfl))
theorem mj_316_12 : mc_P 316 12 = some (.iload_n 1, 1, 0, 0, 0) := by decide +kernel
theorem s_316_12 {x0 x2 x3 x4 x5 : Option Value} {w : Value} : mw d 316 Q 12 [x0, some w, x2, x3, x4, x5] (st) h = mv_i w (mw d 316 Q 13 [x0, some w, x2, x3, x4, x5] (w :: st) h) := (mw_at mj_316_12).trans (z_iload_n rfl)
theorem mj_316_13 : mc_P 316 13 = some (.ifCond .eq 20, 3, 0, 0, 0) := by decide +kernel
theorem s_316_13 {x0 x1 x2 x3 x4 x5 : Option Value} {x : Int32} : mw d 316 Q 13 [x0, x1, x2, x3, x4, x5] (.int x :: st) h = mB (x = 0) (mw d 316 Q) 33 16 [x0, x1, x2, x3, x4, x5] st h := (mw_at mj_316_13).trans (z_if_eq (by decide) rfl)
theorem mj_316_16 : mc_P 316 16 = some (.aload_n 0, 1, 0, 0, 0) := by decide +kernel
theorem s_316_16 {x1 x2 x3 x4 x5 : Option Value} {w : Value} : mw d 316 Q 16 [some w, x1, x2, x3, x4, x5] (st) h = mv_a w (mw d 316 Q 17 [some w, x1, x2, x3, x4, x5] (w :: st) h) := (mw_at mj_316_16).trans (z_aload_n rfl)
theorem mj_316_17 : mc_P 316 17 = some (.invokevirtual 249, 3, 310, 14, 1) := by decide +kernel
theorem s_316_17 {x0 x1 x2 x3 x4 x5 : Option Value} {o : Nat} : mw (d + 1) 316 Q 17 [x0, x1, x2, x3, x4, x5] (.ref o :: st) h = (mg h o 14 ∧ mca st 8 ∧ mca [.ref o] 1 ∧ mcall d 310 [.ref o] h (mK (d + 1) 316 Q 20 [x0, x1, x2, x3, x4, x5] st)) := (mw_at mj_316_17).trans ((z_invv (As := []) (by decide) rfl rfl).trans (congrArg (And _) (congrArg (And _) (mC_nl nl_310))))
theorem mj_316_20 : mc_P 316 20 = some (.bipush 45, 2, 0, 0, 0) := by decide +kernel
theorem s_316_20 {x0 x1 x2 x3 x4 x5 : Option Value} : mw d 316 Q 20 [x0, x1, x2, x3, x4, x5] (st) h = mw d 316 Q 22 [x0, x1, x2, x3, x4, x5] (.int 45 :: st) h := (mw_at mj_316_20).trans (z_bipush (by decide))
theorem mj_316_22 : mc_P 316 22 = some (.if_icmp .ne 11, 3, 0, 0, 0) := by decide +kernel
theorem s_316_22 {x0 x1 x2 x3 x4 x5 : Option Value} {x w : Int32} : mw d 316 Q 22 [x0, x1, x2, x3, x4, x5] (.int w :: .int x :: st) h = mB (¬ x = w) (mw d 316 Q) 33 25 [x0, x1, x2, x3, x4, x5] st h := (mw_at mj_316_22).trans (z_icmp_ne (by decide) rfl)
theorem mj_316_25 : mc_P 316 25 = some (.aload_n 0, 1, 0, 0, 0) := by decide +kernel
theorem s_316_25 {x1 x2 x3 x4 x5 : Option Value} {w : Value} : mw d 316 Q 25 [some w, x1, x2, x3, x4, x5] (st) h = mv_a w (mw d 316 Q 26 [some w, x1, x2, x3, x4, x5] (w :: st) h) := (mw_at mj_316_25).trans (z_aload_n rfl)
theorem mj_316_26 : mc_P 316 26 = some (.bipush 45, 2, 0, 0, 0) := by decide +kernel
theorem s_316_26 {x0 x1 x2 x3 x4 x5 : Option Value} : mw d 316 Q 26 [x0, x1, x2, x3, x4, x5] (st) h = mw d 316 Q 28 [x0, x1, x2, x3, x4, x5] (.int 45 :: st) h := (mw_at mj_316_26).trans (z_bipush (by decide))
theorem mj_316_28 : mc_P 316 28 = some (.invokevirtual 262, 3, 312, 14, 2) := by decide +kernel
theorem s_316_28 {x0 x1 x2 x3 x4 x5 : Option Value} {o : Nat} {a1 : Value} : mw (d + 1) 316 Q 28 [x0, x1, x2, x3, x4, x5] (a1 :: .ref o :: st) h = (mg h o 14 ∧ mca st 8 ∧ mca [.ref o, a1] 2 ∧ mcall d 312 [.ref o, a1] h (mK (d + 1) 316 Q 31 [x0, x1, x2, x3, x4, x5] st)) := (mw_at mj_316_28).trans ((z_invv (As := [a1]) (by decide) rfl rfl).trans (congrArg (And _) (congrArg (And _) (mC_nl nl_312))))
theorem mj_316_31 : mc_P 316 31 = some (.iconst (-1), 1, 0, 0, 0) := by decide +kernel
theorem s_316_31 {x0 x1 x2 x3 x4 x5 : Option Value} : mw d 316 Q 31 [x0, x1, x2, x3, x4, x5] (st) h = mw d 316 Q 32 [x0, x1, x2, x3, x4, x5] (.int (-1) :: st) h := (mw_at mj_316_31).trans (z_iconst (by decide))
theorem mj_316_32 : mc_P 316 32 = some (.istore_n 3, 1, 0, 0, 0) := by decide +kernel
theorem s_316_32 {x0 x1 x2 x3 x4 x5 : Option Value} {w : Int32} : mw d 316 Q 32 [x0, x1, x2, x3, x4, x5] (.int w :: st) h = mw d 316 Q 33 [x0, x1, mk2 x2, some (.int w), x4, x5] (st) h := (mw_at mj_316_32).trans (z_istore_n (Nat.le_of_ble_eq_true rfl) (me_s1_mk (j := 2) (w := x2) rfl))
theorem mj_316_33 : mc_P 316 33 = some (.iconst 0, 1, 0, 0, 0) := by decide +kernel
theorem s_316_33 {x0 x1 x2 x3 x4 x5 : Option Value} : mw d 316 Q 33 [x0, x1, x2, x3, x4, x5] (st) h = mw d 316 Q 34 [x0, x1, x2, x3, x4, x5] (.int 0 :: st) h := (mw_at mj_316_33).trans (z_iconst (by decide))
theorem mj_316_34 : mc_P 316 34 = some (.istore 4, 2, 0, 0, 0) := by decide +kernel
theorem s_316_34 {x0 x1 x2 x3 x4 x5 : Option Value} {w : Int32} : mw d 316 Q 34 [x0, x1, x2, x3, x4, x5] (.int w :: st) h = mw d 316 Q 36 [x0, x1, x2, mk2 x3, some (.int w), x5] (st) h := (mw_at mj_316_34).trans (z_istore (Nat.le_of_ble_eq_true rfl) (me_s1_mk (j := 3) (w := x3) rfl))
theorem mj_316_36 : mc_P 316 36 = some (.aload_n 0, 1, 0, 0, 0) := by decide +kernel
theorem s_316_36 {x1 x2 x3 x4 x5 : Option Value} {w : Value} : mw d 316 Q 36 [some w, x1, x2, x3, x4, x5] (st) h = mv_a w (mw d 316 Q 37 [some w, x1, x2, x3, x4, x5] (w :: st) h) := (mw_at mj_316_36).trans (z_aload_n rfl)
theorem mj_316_37 : mc_P 316 37 = some (.invokevirtual 249, 3, 310, 14, 1) := by decide +kernel
theorem s_316_37 {x0 x1 x2 x3 x4 x5 : Option Value} {o : Nat} : mw (d + 1) 316 Q 37 [x0, x1, x2, x3, x4, x5] (.ref o :: st) h = (mg h o 14 ∧ mca st 8 ∧ mca [.ref o] 1 ∧ mcall d 310 [.ref o] h (mK (d + 1) 316 Q 40 [x0, x1, x2, x3, x4, x5] st)) := (mw_at mj_316_37).trans ((z_invv (As := []) (by decide) rfl rfl).trans (congrArg (And _) (congrArg (And _) (mC_nl nl_310))))
theorem mj_316_40 : mc_P 316 40 = some (.iconst 3, 1, 0, 0, 0) := by decide +kernel
theorem s_316_40 {x0 x1 x2 x3 x4 x5 : Option Value} : mw d 316 Q 40 [x0, x1, x2, x3, x4, x5] (st) h = mw d 316 Q 41 [x0, x1, x2, x3, x4, x5] (.int 3 :: st) h := (mw_at mj_316_40).trans (z_iconst (by decide))
theorem mj_316_41 : mc_P 316 41 = some (.if_icmp .ne 54, 3, 0, 0, 0) := by decide +kernel
theorem s_316_41 {x0 x1 x2 x3 x4 x5 : Option Value} {x w : Int32} : mw d 316 Q 41 [x0, x1, x2, x3, x4, x5] (.int w :: .int x :: st) h = mB (¬ x = w) (mw d 316 Q) 95 44 [x0, x1, x2, x3, x4, x5] st h := (mw_at mj_316_41).trans (z_icmp_ne (by decide) rfl)
theorem mj_316_44 : mc_P 316 44 = some (.iconst 0, 1, 0, 0, 0) := by decide +kernel
theorem s_316_44 {x0 x1 x2 x3 x4 x5 : Option Value} : mw d 316 Q 44 [x0, x1, x2, x3, x4, x5] (st) h = mw d 316 Q 45 [x0, x1, x2, x3, x4, x5] (.int 0 :: st) h := (mw_at mj_316_44).trans (z_iconst (by decide))
theorem mj_316_45 : mc_P 316 45 = some (.istore 5, 2, 0, 0, 0) := by decide +kernel
theorem s_316_45 {x0 x1 x2 x3 x4 x5 : Option Value} {w : Int32} : mw d 316 Q 45 [x0, x1, x2, x3, x4, x5] (.int w :: st) h = mw d 316 Q 47 [x0, x1, x2, x3, mk2 x4, some (.int w)] (st) h := (mw_at mj_316_45).trans (z_istore (Nat.le_of_ble_eq_true rfl) (me_s1_mk (j := 4) (w := x4) rfl))
theorem mj_316_47 : mc_P 316 47 = some (.iload 5, 2, 0, 0, 0) := by decide +kernel
theorem s_316_47 {x0 x1 x2 x3 x4 : Option Value} {w : Value} : mw d 316 Q 47 [x0, x1, x2, x3, x4, some w] (st) h = mv_i w (mw d 316 Q 49 [x0, x1, x2, x3, x4, some w] (w :: st) h) := (mw_at mj_316_47).trans (z_iload rfl)
theorem mj_316_49 : mc_P 316 49 = some (.aload_n 0, 1, 0, 0, 0) := by decide +kernel
theorem s_316_49 {x1 x2 x3 x4 x5 : Option Value} {w : Value} : mw d 316 Q 49 [some w, x1, x2, x3, x4, x5] (st) h = mv_a w (mw d 316 Q 50 [some w, x1, x2, x3, x4, x5] (w :: st) h) := (mw_at mj_316_49).trans (z_aload_n rfl)
theorem mj_316_50 : mc_P 316 50 = some (.getfield 19, 3, 14, 6, 0) := by decide +kernel
theorem s_316_50 {x0 x1 x2 x3 x4 x5 : Option Value} {o : Nat} : mw d 316 Q 50 [x0, x1, x2, x3, x4, x5] (.ref o :: st) h = (mg h o 14 ∧ mw d 316 Q 53 [x0, x1, x2, x3, x4, x5] (va_rf (mh_r h o 6) :: st) h) := (mw_at mj_316_50).trans (z_getr (by decide) (by decide) rfl)
theorem mj_316_53 : mc_P 316 53 = some (.aload_n 0, 1, 0, 0, 0) := by decide +kernel
theorem s_316_53 {x1 x2 x3 x4 x5 : Option Value} {w : Value} : mw d 316 Q 53 [some w, x1, x2, x3, x4, x5] (st) h = mv_a w (mw d 316 Q 54 [some w, x1, x2, x3, x4, x5] (w :: st) h) := (mw_at mj_316_53).trans (z_aload_n rfl)
theorem mj_316_54 : mc_P 316 54 = some (.getfield 246, 3, 14, 8, 0) := by decide +kernel
theorem s_316_54 {x0 x1 x2 x3 x4 x5 : Option Value} {o : Nat} : mw d 316 Q 54 [x0, x1, x2, x3, x4, x5] (.ref o :: st) h = (mg h o 14 ∧ mw d 316 Q 57 [x0, x1, x2, x3, x4, x5] (.int (mh_i h o 8) :: st) h) := (mw_at mj_316_54).trans (z_geti (by decide) (by decide) (Or.inl rfl))
theorem mj_316_57 : mc_P 316 57 = some (.iaload, 1, 0, 0, 0) := by decide +kernel
theorem s_316_57 {x0 x1 x2 x3 x4 x5 : Option Value} {o : Nat} {i : Int32} : mw d 316 Q 57 [x0, x1, x2, x3, x4, x5] (.int i :: .ref o :: st) h = (mg h o 100 ∧ mx i (mh_l h o) ∧ mw d 316 Q 58 [x0, x1, x2, x3, x4, x5] (.int (mh_i h o i.toNatClampNeg) :: st) h) := (mw_at mj_316_57).trans (z_iald)
theorem mj_316_58 : mc_P 316 58 = some (.if_icmp .ge 37, 3, 0, 0, 0) := by decide +kernel
theorem s_316_58 {x0 x1 x2 x3 x4 x5 : Option Value} {x w : Int32} : mw d 316 Q 58 [x0, x1, x2, x3, x4, x5] (.int w :: .int x :: st) h = mB (w ≤ x) (mw d 316 Q) 95 61 [x0, x1, x2, x3, x4, x5] st h := (mw_at mj_316_58).trans (z_icmp_ge (by decide) rfl)
theorem mj_316_61 : mc_P 316 61 = some (.bipush 10, 2, 0, 0, 0) := by decide +kernel
theorem s_316_61 {x0 x1 x2 x3 x4 x5 : Option Value} : mw d 316 Q 61 [x0, x1, x2, x3, x4, x5] (st) h = mw d 316 Q 63 [x0, x1, x2, x3, x4, x5] (.int 10 :: st) h := (mw_at mj_316_61).trans (z_bipush (by decide))
theorem mj_316_63 : mc_P 316 63 = some (.iload 4, 2, 0, 0, 0) := by decide +kernel
theorem s_316_63 {x0 x1 x2 x3 x5 : Option Value} {w : Value} : mw d 316 Q 63 [x0, x1, x2, x3, some w, x5] (st) h = mv_i w (mw d 316 Q 65 [x0, x1, x2, x3, some w, x5] (w :: st) h) := (mw_at mj_316_63).trans (z_iload rfl)
theorem mj_316_65 : mc_P 316 65 = some (.imul, 1, 0, 0, 0) := by decide +kernel
theorem s_316_65 {x0 x1 x2 x3 x4 x5 : Option Value} {x w : Int32} : mw d 316 Q 65 [x0, x1, x2, x3, x4, x5] (.int w :: .int x :: st) h = mw d 316 Q 66 [x0, x1, x2, x3, x4, x5] (.int (x * w) :: st) h := (mw_at mj_316_65).trans (z_imul)
theorem mj_316_66 : mc_P 316 66 = some (.aload_n 0, 1, 0, 0, 0) := by decide +kernel
theorem s_316_66 {x1 x2 x3 x4 x5 : Option Value} {w : Value} : mw d 316 Q 66 [some w, x1, x2, x3, x4, x5] (st) h = mv_a w (mw d 316 Q 67 [some w, x1, x2, x3, x4, x5] (w :: st) h) := (mw_at mj_316_66).trans (z_aload_n rfl)
theorem mj_316_67 : mc_P 316 67 = some (.getfield 9, 3, 14, 1, 0) := by decide +kernel
theorem s_316_67 {x0 x1 x2 x3 x4 x5 : Option Value} {o : Nat} : mw d 316 Q 67 [x0, x1, x2, x3, x4, x5] (.ref o :: st) h = (mg h o 14 ∧ mw d 316 Q 70 [x0, x1, x2, x3, x4, x5] (va_rf (mh_r h o 1) :: st) h) := (mw_at mj_316_67).trans (z_getr (by decide) (by decide) rfl)
theorem mj_316_70 : mc_P 316 70 = some (.aload_n 0, 1, 0, 0, 0) := by decide +kernel
theorem s_316_70 {x1 x2 x3 x4 x5 : Option Value} {w : Value} : mw d 316 Q 70 [some w, x1, x2, x3, x4, x5] (st) h = mv_a w (mw d 316 Q 71 [some w, x1, x2, x3, x4, x5] (w :: st) h) := (mw_at mj_316_70).trans (z_aload_n rfl)
theorem mj_316_71 : mc_P 316 71 = some (.getfield 16, 3, 14, 5, 0) := by decide +kernel
theorem s_316_71 {x0 x1 x2 x3 x4 x5 : Option Value} {o : Nat} : mw d 316 Q 71 [x0, x1, x2, x3, x4, x5] (.ref o :: st) h = (mg h o 14 ∧ mw d 316 Q 74 [x0, x1, x2, x3, x4, x5] (va_rf (mh_r h o 5) :: st) h) := (mw_at mj_316_71).trans (z_getr (by decide) (by decide) rfl)
theorem mj_316_74 : mc_P 316 74 = some (.aload_n 0, 1, 0, 0, 0) := by decide +kernel
theorem s_316_74 {x1 x2 x3 x4 x5 : Option Value} {w : Value} : mw d 316 Q 74 [some w, x1, x2, x3, x4, x5] (st) h = mv_a w (mw d 316 Q 75 [some w, x1, x2, x3, x4, x5] (w :: st) h) := (mw_at mj_316_74).trans (z_aload_n rfl)
theorem mj_316_75 : mc_P 316 75 = some (.getfield 246, 3, 14, 8, 0) := by decide +kernel
theorem s_316_75 {x0 x1 x2 x3 x4 x5 : Option Value} {o : Nat} : mw d 316 Q 75 [x0, x1, x2, x3, x4, x5] (.ref o :: st) h = (mg h o 14 ∧ mw d 316 Q 78 [x0, x1, x2, x3, x4, x5] (.int (mh_i h o 8) :: st) h) := (mw_at mj_316_75).trans (z_geti (by decide) (by decide) (Or.inl rfl))
theorem mj_316_78 : mc_P 316 78 = some (.iaload, 1, 0, 0, 0) := by decide +kernel
theorem s_316_78 {x0 x1 x2 x3 x4 x5 : Option Value} {o : Nat} {i : Int32} : mw d 316 Q 78 [x0, x1, x2, x3, x4, x5] (.int i :: .ref o :: st) h = (mg h o 100 ∧ mx i (mh_l h o) ∧ mw d 316 Q 79 [x0, x1, x2, x3, x4, x5] (.int (mh_i h o i.toNatClampNeg) :: st) h) := (mw_at mj_316_78).trans (z_iald)
theorem mj_316_79 : mc_P 316 79 = some (.iload 5, 2, 0, 0, 0) := by decide +kernel
theorem s_316_79 {x0 x1 x2 x3 x4 : Option Value} {w : Value} : mw d 316 Q 79 [x0, x1, x2, x3, x4, some w] (st) h = mv_i w (mw d 316 Q 81 [x0, x1, x2, x3, x4, some w] (w :: st) h) := (mw_at mj_316_79).trans (z_iload rfl)
theorem mj_316_81 : mc_P 316 81 = some (.iadd, 1, 0, 0, 0) := by decide +kernel
theorem s_316_81 {x0 x1 x2 x3 x4 x5 : Option Value} {x w : Int32} : mw d 316 Q 81 [x0, x1, x2, x3, x4, x5] (.int w :: .int x :: st) h = mw d 316 Q 82 [x0, x1, x2, x3, x4, x5] (.int (x + w) :: st) h := (mw_at mj_316_81).trans (z_iadd)
theorem mj_316_82 : mc_P 316 82 = some (.iaload, 1, 0, 0, 0) := by decide +kernel
theorem s_316_82 {x0 x1 x2 x3 x4 x5 : Option Value} {o : Nat} {i : Int32} : mw d 316 Q 82 [x0, x1, x2, x3, x4, x5] (.int i :: .ref o :: st) h = (mg h o 100 ∧ mx i (mh_l h o) ∧ mw d 316 Q 83 [x0, x1, x2, x3, x4, x5] (.int (mh_i h o i.toNatClampNeg) :: st) h) := (mw_at mj_316_82).trans (z_iald)
theorem mj_316_83 : mc_P 316 83 = some (.iadd, 1, 0, 0, 0) := by decide +kernel
theorem s_316_83 {x0 x1 x2 x3 x4 x5 : Option Value} {x w : Int32} : mw d 316 Q 83 [x0, x1, x2, x3, x4, x5] (.int w :: .int x :: st) h = mw d 316 Q 84 [x0, x1, x2, x3, x4, x5] (.int (x + w) :: st) h := (mw_at mj_316_83).trans (z_iadd)
theorem mj_316_84 : mc_P 316 84 = some (.bipush 48, 2, 0, 0, 0) := by decide +kernel
theorem s_316_84 {x0 x1 x2 x3 x4 x5 : Option Value} : mw d 316 Q 84 [x0, x1, x2, x3, x4, x5] (st) h = mw d 316 Q 86 [x0, x1, x2, x3, x4, x5] (.int 48 :: st) h := (mw_at mj_316_84).trans (z_bipush (by decide))
theorem mj_316_86 : mc_P 316 86 = some (.isub, 1, 0, 0, 0) := by decide +kernel
theorem s_316_86 {x0 x1 x2 x3 x4 x5 : Option Value} {x w : Int32} : mw d 316 Q 86 [x0, x1, x2, x3, x4, x5] (.int w :: .int x :: st) h = mw d 316 Q 87 [x0, x1, x2, x3, x4, x5] (.int (x - w) :: st) h := (mw_at mj_316_86).trans (z_isub)
theorem mj_316_87 : mc_P 316 87 = some (.istore 4, 2, 0, 0, 0) := by decide +kernel
theorem s_316_87 {x0 x1 x2 x3 x4 x5 : Option Value} {w : Int32} : mw d 316 Q 87 [x0, x1, x2, x3, x4, x5] (.int w :: st) h = mw d 316 Q 89 [x0, x1, x2, mk2 x3, some (.int w), x5] (st) h := (mw_at mj_316_87).trans (z_istore (Nat.le_of_ble_eq_true rfl) (me_s1_mk (j := 3) (w := x3) rfl))
theorem mj_316_89 : mc_P 316 89 = some (.iinc 5 1, 3, 0, 0, 0) := by decide +kernel
theorem s_316_89 {x0 x1 x2 x3 x4 : Option Value} {w : Int32} : mw d 316 Q 89 [x0, x1, x2, x3, x4, some (.int w)] (st) h = mw d 316 Q 92 [x0, x1, x2, x3, mk2 x4, some (.int (w + 1))] (st) h := (mw_at mj_316_89).trans (z_iinc rfl (Nat.le_of_ble_eq_true rfl) (by decide) (me_s1_mk (j := 4) (w := x4) rfl))
theorem mj_316_92 : mc_P 316 92 = some (.goto (-45), 3, 0, 0, 0) := by decide +kernel
theorem s_316_92 {x0 x1 x2 x3 x4 x5 : Option Value} : mw d 316 Q 92 [x0, x1, x2, x3, x4, x5] (st) h = mw d 316 Q 47 [x0, x1, x2, x3, x4, x5] (st) h := (mw_at mj_316_92).trans (z_goto (by decide))
theorem mj_316_95 : mc_P 316 95 = some (.aload_n 0, 1, 0, 0, 0) := by decide +kernel
theorem s_316_95 {x1 x2 x3 x4 x5 : Option Value} {w : Value} : mw d 316 Q 95 [some w, x1, x2, x3, x4, x5] (st) h = mv_a w (mw d 316 Q 96 [some w, x1, x2, x3, x4, x5] (w :: st) h) := (mw_at mj_316_95).trans (z_aload_n rfl)
theorem mj_316_96 : mc_P 316 96 = some (.iconst 3, 1, 0, 0, 0) := by decide +kernel
theorem s_316_96 {x0 x1 x2 x3 x4 x5 : Option Value} : mw d 316 Q 96 [x0, x1, x2, x3, x4, x5] (st) h = mw d 316 Q 97 [x0, x1, x2, x3, x4, x5] (.int 3 :: st) h := (mw_at mj_316_96).trans (z_iconst (by decide))
theorem mj_316_97 : mc_P 316 97 = some (.invokevirtual 262, 3, 312, 14, 2) := by decide +kernel
theorem s_316_97 {x0 x1 x2 x3 x4 x5 : Option Value} {o : Nat} {a1 : Value} : mw (d + 1) 316 Q 97 [x0, x1, x2, x3, x4, x5] (a1 :: .ref o :: st) h = (mg h o 14 ∧ mca st 8 ∧ mca [.ref o, a1] 2 ∧ mcall d 312 [.ref o, a1] h (mK (d + 1) 316 Q 100 [x0, x1, x2, x3, x4, x5] st)) := (mw_at mj_316_97).trans ((z_invv (As := [a1]) (by decide) rfl rfl).trans (congrArg (And _) (congrArg (And _) (mC_nl nl_312))))
theorem mj_316_100 : mc_P 316 100 = some (.aload_n 0, 1, 0, 0, 0) := by decide +kernel
theorem s_316_100 {x1 x2 x3 x4 x5 : Option Value} {w : Value} : mw d 316 Q 100 [some w, x1, x2, x3, x4, x5] (st) h = mv_a w (mw d 316 Q 101 [some w, x1, x2, x3, x4, x5] (w :: st) h) := (mw_at mj_316_100).trans (z_aload_n rfl)
theorem mj_316_101 : mc_P 316 101 = some (.bipush 12, 2, 0, 0, 0) := by decide +kernel
theorem s_316_101 {x0 x1 x2 x3 x4 x5 : Option Value} : mw d 316 Q 101 [x0, x1, x2, x3, x4, x5] (st) h = mw d 316 Q 103 [x0, x1, x2, x3, x4, x5] (.int 12 :: st) h := (mw_at mj_316_101).trans (z_bipush (by decide))
theorem mj_316_103 : mc_P 316 103 = some (.iload_n 2, 1, 0, 0, 0) := by decide +kernel
theorem s_316_103 {x0 x1 x3 x4 x5 : Option Value} {w : Value} : mw d 316 Q 103 [x0, x1, some w, x3, x4, x5] (st) h = mv_i w (mw d 316 Q 104 [x0, x1, some w, x3, x4, x5] (w :: st) h) := (mw_at mj_316_103).trans (z_iload_n rfl)
theorem mj_316_104 : mc_P 316 104 = some (.iload_n 3, 1, 0, 0, 0) := by decide +kernel
theorem s_316_104 {x0 x1 x2 x4 x5 : Option Value} {w : Value} : mw d 316 Q 104 [x0, x1, x2, some w, x4, x5] (st) h = mv_i w (mw d 316 Q 105 [x0, x1, x2, some w, x4, x5] (w :: st) h) := (mw_at mj_316_104).trans (z_iload_n rfl)
theorem mj_316_105 : mc_P 316 105 = some (.iload 4, 2, 0, 0, 0) := by decide +kernel
theorem s_316_105 {x0 x1 x2 x3 x5 : Option Value} {w : Value} : mw d 316 Q 105 [x0, x1, x2, x3, some w, x5] (st) h = mv_i w (mw d 316 Q 107 [x0, x1, x2, x3, some w, x5] (w :: st) h) := (mw_at mj_316_105).trans (z_iload rfl)
theorem mj_316_107 : mc_P 316 107 = some (.imul, 1, 0, 0, 0) := by decide +kernel
theorem s_316_107 {x0 x1 x2 x3 x4 x5 : Option Value} {x w : Int32} : mw d 316 Q 107 [x0, x1, x2, x3, x4, x5] (.int w :: .int x :: st) h = mw d 316 Q 108 [x0, x1, x2, x3, x4, x5] (.int (x * w) :: st) h := (mw_at mj_316_107).trans (z_imul)
theorem mj_316_108 : mc_P 316 108 = some (.invokevirtual 259, 3, 313, 14, 4) := by decide +kernel
theorem s_316_108 {x0 x1 x2 x3 x4 x5 : Option Value} {o : Nat} {a1 a2 a3 : Value} : mw (d + 1) 316 Q 108 [x0, x1, x2, x3, x4, x5] (a3 :: a2 :: a1 :: .ref o :: st) h = (mg h o 14 ∧ mca st 8 ∧ mca [.ref o, a1, a2, a3] 4 ∧ mcall d 313 [.ref o, a1, a2, a3] h (mK (d + 1) 316 Q 111 [x0, x1, x2, x3, x4, x5] st)) := (mw_at mj_316_108).trans ((z_invv (As := [a1, a2, a3]) (by decide) rfl rfl).trans (congrArg (And _) (congrArg (And _) (mC_nl nl_313))))
theorem mj_316_111 : mc_P 316 111 = some (.ireturn, 1, 0, 0, 0) := by decide +kernel
theorem s_316_111 {x0 x1 x2 x3 x4 x5 : Option Value} {x : Int32} : mw d 316 Q 111 [x0, x1, x2, x3, x4, x5] ([.int x]) h = (Q (some (.int x)) h) := (mw_at mj_316_111).trans (z_iret)
theorem e_316 {a0 : Nat} {a1 : Int32} : mcall d 316 [.ref a0, .int a1] h Q = mw d 316 Q 0 [some (.ref a0), some (.int a1), none, none, none, none] [] h := by
  show mw d 316 Q 0 (me_en (mc_nl 316) _) [] h = _
  rw [nl_316]; rfl

/-! InvariantDeskModel.deep(I)V -/
theorem mj_317_0 : mc_P 317 0 = some (.aload_n 0, 1, 0, 0, 0) := by decide +kernel
theorem s_317_0 {x1 : Option Value} {w : Value} : mw d 317 Q 0 [some w, x1] (st) h = mv_a w (mw d 317 Q 1 [some w, x1] (w :: st) h) := (mw_at mj_317_0).trans (z_aload_n rfl)
theorem mj_317_1 : mc_P 317 1 = some (.iload_n 1, 1, 0, 0, 0) := by decide +kernel
theorem s_317_1 {x0 : Option Value} {w : Value} : mw d 317 Q 1 [x0, some w] (st) h = mv_i w (mw d 317 Q 2 [x0, some w] (w :: st) h) := (mw_at mj_317_1).trans (z_iload_n rfl)
theorem mj_317_2 : mc_P 317 2 = some (.bipush 60, 2, 0, 0, 0) := by decide +kernel
theorem s_317_2 {x0 x1 : Option Value} : mw d 317 Q 2 [x0, x1] (st) h = mw d 317 Q 4 [x0, x1] (.int 60 :: st) h := (mw_at mj_317_2).trans (z_bipush (by decide))
theorem mj_317_4 : mc_P 317 4 = some (.if_icmp .gt 7, 3, 0, 0, 0) := by decide +kernel
theorem s_317_4 {x0 x1 : Option Value} {x w : Int32} : mw d 317 Q 4 [x0, x1] (.int w :: .int x :: st) h = mB (w < x) (mw d 317 Q) 11 7 [x0, x1] st h := (mw_at mj_317_4).trans (z_icmp_gt (by decide) rfl)
theorem mj_317_7 : mc_P 317 7 = some (.iconst 1, 1, 0, 0, 0) := by decide +kernel
theorem s_317_7 {x0 x1 : Option Value} : mw d 317 Q 7 [x0, x1] (st) h = mw d 317 Q 8 [x0, x1] (.int 1 :: st) h := (mw_at mj_317_7).trans (z_iconst (by decide))
theorem mj_317_8 : mc_P 317 8 = some (.goto 4, 3, 0, 0, 0) := by decide +kernel
theorem s_317_8 {x0 x1 : Option Value} : mw d 317 Q 8 [x0, x1] (st) h = mw d 317 Q 12 [x0, x1] (st) h := (mw_at mj_317_8).trans (z_goto (by decide))
theorem mj_317_11 : mc_P 317 11 = some (.iconst 0, 1, 0, 0, 0) := by decide +kernel
theorem s_317_11 {x0 x1 : Option Value} : mw d 317 Q 11 [x0, x1] (st) h = mw d 317 Q 12 [x0, x1] (.int 0 :: st) h := (mw_at mj_317_11).trans (z_iconst (by decide))
theorem mj_317_12 : mc_P 317 12 = some (.invokevirtual 252, 3, 311, 14, 2) := by decide +kernel
theorem s_317_12 {x0 x1 : Option Value} {o : Nat} {a1 : Value} : mw (d + 1) 317 Q 12 [x0, x1] (a1 :: .ref o :: st) h = (mg h o 14 ∧ mca st 8 ∧ mca [.ref o, a1] 2 ∧ mcall d 311 [.ref o, a1] h (mK (d + 1) 317 Q 15 [x0, x1] st)) := (mw_at mj_317_12).trans ((z_invv (As := [a1]) (by decide) rfl rfl).trans (congrArg (And _) (congrArg (And _) (mC_nl nl_311))))
theorem mj_317_15 : mc_P 317 15 = some (.return_, 1, 0, 0, 0) := by decide +kernel
theorem s_317_15 {x0 x1 : Option Value} : mw d 317 Q 15 [x0, x1] ([]) h = Q none h := (mw_at mj_317_15).trans (z_vret)
theorem e_317 {a0 : Nat} {a1 : Int32} : mcall d 317 [.ref a0, .int a1] h Q = mw d 317 Q 0 [some (.ref a0), some (.int a1)] [] h := by
  show mw d 317 Q 0 (me_en (mc_nl 317) _) [] h = _
  rw [nl_317]; rfl

/-! InvariantDeskModel.sum(I)I -/
theorem mj_318_0 : mc_P 318 0 = some (.aload_n 0, 1, 0, 0, 0) := by decide +kernel
theorem s_318_0 {x1 x2 x3 x4 : Option Value} {w : Value} : mw d 318 Q 0 [some w, x1, x2, x3, x4] (st) h = mv_a w (mw d 318 Q 1 [some w, x1, x2, x3, x4] (w :: st) h) := (mw_at mj_318_0).trans (z_aload_n rfl)
theorem mj_318_1 : mc_P 318 1 = some (.iload_n 1, 1, 0, 0, 0) := by decide +kernel
theorem s_318_1 {x0 x2 x3 x4 : Option Value} {w : Value} : mw d 318 Q 1 [x0, some w, x2, x3, x4] (st) h = mv_i w (mw d 318 Q 2 [x0, some w, x2, x3, x4] (w :: st) h) := (mw_at mj_318_1).trans (z_iload_n rfl)
theorem mj_318_2 : mc_P 318 2 = some (.invokevirtual 266, 3, 317, 14, 2) := by decide +kernel
theorem s_318_2 {x0 x1 x2 x3 x4 : Option Value} {o : Nat} {a1 : Value} : mw (d + 1) 318 Q 2 [x0, x1, x2, x3, x4] (a1 :: .ref o :: st) h = (mg h o 14 ∧ mca st 8 ∧ mca [.ref o, a1] 2 ∧ mcall d 317 [.ref o, a1] h (mK (d + 1) 318 Q 5 [x0, x1, x2, x3, x4] st)) := (mw_at mj_318_2).trans ((z_invv (As := [a1]) (by decide) rfl rfl).trans (congrArg (And _) (congrArg (And _) (mC_nl nl_317))))
theorem mj_318_5 : mc_P 318 5 = some (.aload_n 0, 1, 0, 0, 0) := by decide +kernel
theorem s_318_5 {x1 x2 x3 x4 : Option Value} {w : Value} : mw d 318 Q 5 [some w, x1, x2, x3, x4] (st) h = mv_a w (mw d 318 Q 6 [some w, x1, x2, x3, x4] (w :: st) h) := (mw_at mj_318_5).trans (z_aload_n rfl)
theorem mj_318_6 : mc_P 318 6 = some (.getfield 242, 3, 14, 9, 0) := by decide +kernel
theorem s_318_6 {x0 x1 x2 x3 x4 : Option Value} {o : Nat} : mw d 318 Q 6 [x0, x1, x2, x3, x4] (.ref o :: st) h = (mg h o 14 ∧ mw d 318 Q 9 [x0, x1, x2, x3, x4] (.int (mh_i h o 9) :: st) h) := (mw_at mj_318_6).trans (z_geti (by decide) (by decide) (Or.inr rfl))
theorem mj_318_9 : mc_P 318 9 = some (.ifCond .eq 7, 3, 0, 0, 0) := by decide +kernel
theorem s_318_9 {x0 x1 x2 x3 x4 : Option Value} {x : Int32} : mw d 318 Q 9 [x0, x1, x2, x3, x4] (.int x :: st) h = mB (x = 0) (mw d 318 Q) 16 12 [x0, x1, x2, x3, x4] st h := (mw_at mj_318_9).trans (z_if_eq (by decide) rfl)
theorem mj_318_12 : mc_P 318 12 = some (.iconst (-1), 1, 0, 0, 0) := by decide +kernel
theorem s_318_12 {x0 x1 x2 x3 x4 : Option Value} : mw d 318 Q 12 [x0, x1, x2, x3, x4] (st) h = mw d 318 Q 13 [x0, x1, x2, x3, x4] (.int (-1) :: st) h := (mw_at mj_318_12).trans (z_iconst (by decide))
theorem mj_318_13 : mc_P 318 13 = some (.goto 8, 3, 0, 0, 0) := by decide +kernel
theorem s_318_13 {x0 x1 x2 x3 x4 : Option Value} : mw d 318 Q 13 [x0, x1, x2, x3, x4] (st) h = mw d 318 Q 21 [x0, x1, x2, x3, x4] (st) h := (mw_at mj_318_13).trans (z_goto (by decide))
theorem mj_318_16 : mc_P 318 16 = some (.aload_n 0, 1, 0, 0, 0) := by decide +kernel
theorem s_318_16 {x1 x2 x3 x4 : Option Value} {w : Value} : mw d 318 Q 16 [some w, x1, x2, x3, x4] (st) h = mv_a w (mw d 318 Q 17 [some w, x1, x2, x3, x4] (w :: st) h) := (mw_at mj_318_16).trans (z_aload_n rfl)
theorem mj_318_17 : mc_P 318 17 = some (.iload_n 1, 1, 0, 0, 0) := by decide +kernel
theorem s_318_17 {x0 x2 x3 x4 : Option Value} {w : Value} : mw d 318 Q 17 [x0, some w, x2, x3, x4] (st) h = mv_i w (mw d 318 Q 18 [x0, some w, x2, x3, x4] (w :: st) h) := (mw_at mj_318_17).trans (z_iload_n rfl)
theorem mj_318_18 : mc_P 318 18 = some (.invokevirtual 269, 3, 319, 14, 2) := by decide +kernel
theorem s_318_18 {x0 x1 x2 x3 x4 : Option Value} {o : Nat} {a1 : Value} : mw (d + 1) 318 Q 18 [x0, x1, x2, x3, x4] (a1 :: .ref o :: st) h = (mg h o 14 ∧ mca st 8 ∧ mca [.ref o, a1] 5 ∧ mcall d 319 [.ref o, a1] h (mK (d + 1) 318 Q 21 [x0, x1, x2, x3, x4] st)) := (mw_at mj_318_18).trans ((z_invv (As := [a1]) (by decide) rfl rfl).trans (congrArg (And _) (congrArg (And _) (mC_nl nl_319))))
theorem mj_318_21 : mc_P 318 21 = some (.istore_n 2, 1, 0, 0, 0) := by decide +kernel
theorem s_318_21 {x0 x1 x2 x3 x4 : Option Value} {w : Int32} : mw d 318 Q 21 [x0, x1, x2, x3, x4] (.int w :: st) h = mw d 318 Q 22 [x0, mk2 x1, some (.int w), x3, x4] (st) h := (mw_at mj_318_21).trans (z_istore_n (Nat.le_of_ble_eq_true rfl) (me_s1_mk (j := 1) (w := x1) rfl))
theorem mj_318_22 : mc_P 318 22 = some (.aload_n 0, 1, 0, 0, 0) := by decide +kernel
theorem s_318_22 {x1 x2 x3 x4 : Option Value} {w : Value} : mw d 318 Q 22 [some w, x1, x2, x3, x4] (st) h = mv_a w (mw d 318 Q 23 [some w, x1, x2, x3, x4] (w :: st) h) := (mw_at mj_318_22).trans (z_aload_n rfl)
theorem mj_318_23 : mc_P 318 23 = some (.invokevirtual 249, 3, 310, 14, 1) := by decide +kernel
theorem s_318_23 {x0 x1 x2 x3 x4 : Option Value} {o : Nat} : mw (d + 1) 318 Q 23 [x0, x1, x2, x3, x4] (.ref o :: st) h = (mg h o 14 ∧ mca st 8 ∧ mca [.ref o] 1 ∧ mcall d 310 [.ref o] h (mK (d + 1) 318 Q 26 [x0, x1, x2, x3, x4] st)) := (mw_at mj_318_23).trans ((z_invv (As := []) (by decide) rfl rfl).trans (congrArg (And _) (congrArg (And _) (mC_nl nl_310))))
theorem mj_318_26 : mc_P 318 26 = some (.bipush 43, 2, 0, 0, 0) := by decide +kernel
theorem s_318_26 {x0 x1 x2 x3 x4 : Option Value} : mw d 318 Q 26 [x0, x1, x2, x3, x4] (st) h = mw d 318 Q 28 [x0, x1, x2, x3, x4] (.int 43 :: st) h := (mw_at mj_318_26).trans (z_bipush (by decide))
theorem mj_318_28 : mc_P 318 28 = some (.if_icmp .eq 14, 3, 0, 0, 0) := by decide +kernel
theorem s_318_28 {x0 x1 x2 x3 x4 : Option Value} {x w : Int32} : mw d 318 Q 28 [x0, x1, x2, x3, x4] (.int w :: .int x :: st) h = mB (x = w) (mw d 318 Q) 42 31 [x0, x1, x2, x3, x4] st h := (mw_at mj_318_28).trans (z_icmp_eq (by decide) rfl)
theorem mj_318_31 : mc_P 318 31 = some (.aload_n 0, 1, 0, 0, 0) := by decide +kernel
theorem s_318_31 {x1 x2 x3 x4 : Option Value} {w : Value} : mw d 318 Q 31 [some w, x1, x2, x3, x4] (st) h = mv_a w (mw d 318 Q 32 [some w, x1, x2, x3, x4] (w :: st) h) := (mw_at mj_318_31).trans (z_aload_n rfl)
theorem mj_318_32 : mc_P 318 32 = some (.invokevirtual 249, 3, 310, 14, 1) := by decide +kernel
theorem s_318_32 {x0 x1 x2 x3 x4 : Option Value} {o : Nat} : mw (d + 1) 318 Q 32 [x0, x1, x2, x3, x4] (.ref o :: st) h = (mg h o 14 ∧ mca st 8 ∧ mca [.ref o] 1 ∧ mcall d 310 [.ref o] h (mK (d + 1) 318 Q 35 [x0, x1, x2, x3, x4] st)) := (mw_at mj_318_32).trans ((z_invv (As := []) (by decide) rfl rfl).trans (congrArg (And _) (congrArg (And _) (mC_nl nl_310))))
theorem mj_318_35 : mc_P 318 35 = some (.bipush 45, 2, 0, 0, 0) := by decide +kernel
theorem s_318_35 {x0 x1 x2 x3 x4 : Option Value} : mw d 318 Q 35 [x0, x1, x2, x3, x4] (st) h = mw d 318 Q 37 [x0, x1, x2, x3, x4] (.int 45 :: st) h := (mw_at mj_318_35).trans (z_bipush (by decide))
theorem mj_318_37 : mc_P 318 37 = some (.if_icmp .eq 5, 3, 0, 0, 0) := by decide +kernel
theorem s_318_37 {x0 x1 x2 x3 x4 : Option Value} {x w : Int32} : mw d 318 Q 37 [x0, x1, x2, x3, x4] (.int w :: .int x :: st) h = mB (x = w) (mw d 318 Q) 42 40 [x0, x1, x2, x3, x4] st h := (mw_at mj_318_37).trans (z_icmp_eq (by decide) rfl)
theorem mj_318_40 : mc_P 318 40 = some (.iload_n 2, 1, 0, 0, 0) := by decide +kernel
theorem s_318_40 {x0 x1 x3 x4 : Option Value} {w : Value} : mw d 318 Q 40 [x0, x1, some w, x3, x4] (st) h = mv_i w (mw d 318 Q 41 [x0, x1, some w, x3, x4] (w :: st) h) := (mw_at mj_318_40).trans (z_iload_n rfl)
theorem mj_318_41 : mc_P 318 41 = some (.ireturn, 1, 0, 0, 0) := by decide +kernel
theorem s_318_41 {x0 x1 x2 x3 x4 : Option Value} {x : Int32} : mw d 318 Q 41 [x0, x1, x2, x3, x4] ([.int x]) h = (Q (some (.int x)) h) := (mw_at mj_318_41).trans (z_iret)
theorem mj_318_42 : mc_P 318 42 = some (.aload_n 0, 1, 0, 0, 0) := by decide +kernel
theorem s_318_42 {x1 x2 x3 x4 : Option Value} {w : Value} : mw d 318 Q 42 [some w, x1, x2, x3, x4] (st) h = mv_a w (mw d 318 Q 43 [some w, x1, x2, x3, x4] (w :: st) h) := (mw_at mj_318_42).trans (z_aload_n rfl)
theorem mj_318_43 : mc_P 318 43 = some (.bipush 17, 2, 0, 0, 0) := by decide +kernel
theorem s_318_43 {x0 x1 x2 x3 x4 : Option Value} : mw d 318 Q 43 [x0, x1, x2, x3, x4] (st) h = mw d 318 Q 45 [x0, x1, x2, x3, x4] (.int 17 :: st) h := (mw_at mj_318_43).trans (z_bipush (by decide))
theorem mj_318_45 : mc_P 318 45 = some (.aload_n 0, 1, 0, 0, 0) := by decide +kernel
theorem s_318_45 {x1 x2 x3 x4 : Option Value} {w : Value} : mw d 318 Q 45 [some w, x1, x2, x3, x4] (st) h = mv_a w (mw d 318 Q 46 [some w, x1, x2, x3, x4] (w :: st) h) := (mw_at mj_318_45).trans (z_aload_n rfl)
theorem mj_318_46 : mc_P 318 46 = some (.getfield 30, 3, 14, 12, 0) := by decide +kernel
theorem s_318_46 {x0 x1 x2 x3 x4 : Option Value} {o : Nat} : mw d 318 Q 46 [x0, x1, x2, x3, x4] (.ref o :: st) h = (mg h o 14 ∧ mw d 318 Q 49 [x0, x1, x2, x3, x4] (va_rf (mh_r h o 12) :: st) h) := (mw_at mj_318_46).trans (z_getr (by decide) (by decide) rfl)
theorem mj_318_49 : mc_P 318 49 = some (.iload_n 2, 1, 0, 0, 0) := by decide +kernel
theorem s_318_49 {x0 x1 x3 x4 : Option Value} {w : Value} : mw d 318 Q 49 [x0, x1, some w, x3, x4] (st) h = mv_i w (mw d 318 Q 50 [x0, x1, some w, x3, x4] (w :: st) h) := (mw_at mj_318_49).trans (z_iload_n rfl)
theorem mj_318_50 : mc_P 318 50 = some (.iaload, 1, 0, 0, 0) := by decide +kernel
theorem s_318_50 {x0 x1 x2 x3 x4 : Option Value} {o : Nat} {i : Int32} : mw d 318 Q 50 [x0, x1, x2, x3, x4] (.int i :: .ref o :: st) h = (mg h o 100 ∧ mx i (mh_l h o) ∧ mw d 318 Q 51 [x0, x1, x2, x3, x4] (.int (mh_i h o i.toNatClampNeg) :: st) h) := (mw_at mj_318_50).trans (z_iald)
theorem mj_318_51 : mc_P 318 51 = some (.iconst 0, 1, 0, 0, 0) := by decide +kernel
theorem s_318_51 {x0 x1 x2 x3 x4 : Option Value} : mw d 318 Q 51 [x0, x1, x2, x3, x4] (st) h = mw d 318 Q 52 [x0, x1, x2, x3, x4] (.int 0 :: st) h := (mw_at mj_318_51).trans (z_iconst (by decide))
theorem mj_318_52 : mc_P 318 52 = some (.invokevirtual 259, 3, 313, 14, 4) := by decide +kernel
theorem s_318_52 {x0 x1 x2 x3 x4 : Option Value} {o : Nat} {a1 a2 a3 : Value} : mw (d + 1) 318 Q 52 [x0, x1, x2, x3, x4] (a3 :: a2 :: a1 :: .ref o :: st) h = (mg h o 14 ∧ mca st 8 ∧ mca [.ref o, a1, a2, a3] 4 ∧ mcall d 313 [.ref o, a1, a2, a3] h (mK (d + 1) 318 Q 55 [x0, x1, x2, x3, x4] st)) := (mw_at mj_318_52).trans ((z_invv (As := [a1, a2, a3]) (by decide) rfl rfl).trans (congrArg (And _) (congrArg (And _) (mC_nl nl_313))))
theorem mj_318_55 : mc_P 318 55 = some (.istore_n 3, 1, 0, 0, 0) := by decide +kernel
theorem s_318_55 {x0 x1 x2 x3 x4 : Option Value} {w : Int32} : mw d 318 Q 55 [x0, x1, x2, x3, x4] (.int w :: st) h = mw d 318 Q 56 [x0, x1, mk2 x2, some (.int w), x4] (st) h := (mw_at mj_318_55).trans (z_istore_n (Nat.le_of_ble_eq_true rfl) (me_s1_mk (j := 2) (w := x2) rfl))
theorem mj_318_56 : mc_P 318 56 = some (.aload_n 0, 1, 0, 0, 0) := by decide +kernel
theorem s_318_56 {x1 x2 x3 x4 : Option Value} {w : Value} : mw d 318 Q 56 [some w, x1, x2, x3, x4] (st) h = mv_a w (mw d 318 Q 57 [some w, x1, x2, x3, x4] (w :: st) h) := (mw_at mj_318_56).trans (z_aload_n rfl)
theorem mj_318_57 : mc_P 318 57 = some (.iload_n 3, 1, 0, 0, 0) := by decide +kernel
theorem s_318_57 {x0 x1 x2 x4 : Option Value} {w : Value} : mw d 318 Q 57 [x0, x1, x2, some w, x4] (st) h = mv_i w (mw d 318 Q 58 [x0, x1, x2, some w, x4] (w :: st) h) := (mw_at mj_318_57).trans (z_iload_n rfl)
theorem mj_318_58 : mc_P 318 58 = some (.iload_n 2, 1, 0, 0, 0) := by decide +kernel
theorem s_318_58 {x0 x1 x3 x4 : Option Value} {w : Value} : mw d 318 Q 58 [x0, x1, some w, x3, x4] (st) h = mv_i w (mw d 318 Q 59 [x0, x1, some w, x3, x4] (w :: st) h) := (mw_at mj_318_58).trans (z_iload_n rfl)
theorem mj_318_59 : mc_P 318 59 = some (.invokevirtual 272, 3, 314, 14, 3) := by decide +kernel
theorem s_318_59 {x0 x1 x2 x3 x4 : Option Value} {o : Nat} {a1 a2 : Value} : mw (d + 1) 318 Q 59 [x0, x1, x2, x3, x4] (a2 :: a1 :: .ref o :: st) h = (mg h o 14 ∧ mca st 8 ∧ mca [.ref o, a1, a2] 3 ∧ mcall d 314 [.ref o, a1, a2] h (mK (d + 1) 318 Q 62 [x0, x1, x2, x3, x4] st)) := (mw_at mj_318_59).trans ((z_invv (As := [a1, a2]) (by decide) rfl rfl).trans (congrArg (And _) (congrArg (And _) (mC_nl nl_314))))
theorem mj_318_62 : mc_P 318 62 = some (.aload_n 0, 1, 0, 0, 0) := by decide +kernel
theorem s_318_62 {x1 x2 x3 x4 : Option Value} {w : Value} : mw d 318 Q 62 [some w, x1, x2, x3, x4] (st) h = mv_a w (mw d 318 Q 63 [some w, x1, x2, x3, x4] (w :: st) h) := (mw_at mj_318_62).trans (z_aload_n rfl)
theorem mj_318_63 : mc_P 318 63 = some (.invokevirtual 249, 3, 310, 14, 1) := by decide +kernel
theorem s_318_63 {x0 x1 x2 x3 x4 : Option Value} {o : Nat} : mw (d + 1) 318 Q 63 [x0, x1, x2, x3, x4] (.ref o :: st) h = (mg h o 14 ∧ mca st 8 ∧ mca [.ref o] 1 ∧ mcall d 310 [.ref o] h (mK (d + 1) 318 Q 66 [x0, x1, x2, x3, x4] st)) := (mw_at mj_318_63).trans ((z_invv (As := []) (by decide) rfl rfl).trans (congrArg (And _) (congrArg (And _) (mC_nl nl_310))))
theorem mj_318_66 : mc_P 318 66 = some (.bipush 43, 2, 0, 0, 0) := by decide +kernel
theorem s_318_66 {x0 x1 x2 x3 x4 : Option Value} : mw d 318 Q 66 [x0, x1, x2, x3, x4] (st) h = mw d 318 Q 68 [x0, x1, x2, x3, x4] (.int 43 :: st) h := (mw_at mj_318_66).trans (z_bipush (by decide))
theorem mj_318_68 : mc_P 318 68 = some (.if_icmp .eq 12, 3, 0, 0, 0) := by decide +kernel
theorem s_318_68 {x0 x1 x2 x3 x4 : Option Value} {x w : Int32} : mw d 318 Q 68 [x0, x1, x2, x3, x4] (.int w :: .int x :: st) h = mB (x = w) (mw d 318 Q) 80 71 [x0, x1, x2, x3, x4] st h := (mw_at mj_318_68).trans (z_icmp_eq (by decide) rfl)
theorem mj_318_71 : mc_P 318 71 = some (.aload_n 0, 1, 0, 0, 0) := by decide +kernel
theorem s_318_71 {x1 x2 x3 x4 : Option Value} {w : Value} : mw d 318 Q 71 [some w, x1, x2, x3, x4] (st) h = mv_a w (mw d 318 Q 72 [some w, x1, x2, x3, x4] (w :: st) h) := (mw_at mj_318_71).trans (z_aload_n rfl)
theorem mj_318_72 : mc_P 318 72 = some (.invokevirtual 249, 3, 310, 14, 1) := by decide +kernel
theorem s_318_72 {x0 x1 x2 x3 x4 : Option Value} {o : Nat} : mw (d + 1) 318 Q 72 [x0, x1, x2, x3, x4] (.ref o :: st) h = (mg h o 14 ∧ mca st 8 ∧ mca [.ref o] 1 ∧ mcall d 310 [.ref o] h (mK (d + 1) 318 Q 75 [x0, x1, x2, x3, x4] st)) := (mw_at mj_318_72).trans ((z_invv (As := []) (by decide) rfl rfl).trans (congrArg (And _) (congrArg (And _) (mC_nl nl_310))))
theorem mj_318_75 : mc_P 318 75 = some (.bipush 45, 2, 0, 0, 0) := by decide +kernel
theorem s_318_75 {x0 x1 x2 x3 x4 : Option Value} : mw d 318 Q 75 [x0, x1, x2, x3, x4] (st) h = mw d 318 Q 77 [x0, x1, x2, x3, x4] (.int 45 :: st) h := (mw_at mj_318_75).trans (z_bipush (by decide))
theorem mj_318_77 : mc_P 318 77 = some (.if_icmp .ne 75, 3, 0, 0, 0) := by decide +kernel
theorem s_318_77 {x0 x1 x2 x3 x4 : Option Value} {x w : Int32} : mw d 318 Q 77 [x0, x1, x2, x3, x4] (.int w :: .int x :: st) h = mB (¬ x = w) (mw d 318 Q) 152 80 [x0, x1, x2, x3, x4] st h := (mw_at mj_318_77).trans (z_icmp_ne (by decide) rfl)
theorem mj_318_80 : mc_P 318 80 = some (.aload_n 0, 1, 0, 0, 0) := by decide +kernel
theorem s_318_80 {x1 x2 x3 x4 : Option Value} {w : Value} : mw d 318 Q 80 [some w, x1, x2, x3, x4] (st) h = mv_a w (mw d 318 Q 81 [some w, x1, x2, x3, x4] (w :: st) h) := (mw_at mj_318_80).trans (z_aload_n rfl)
theorem mj_318_81 : mc_P 318 81 = some (.aload_n 0, 1, 0, 0, 0) := by decide +kernel
theorem s_318_81 {x1 x2 x3 x4 : Option Value} {w : Value} : mw d 318 Q 81 [some w, x1, x2, x3, x4] (st) h = mv_a w (mw d 318 Q 82 [some w, x1, x2, x3, x4] (w :: st) h) := (mw_at mj_318_81).trans (z_aload_n rfl)
theorem mj_318_82 : mc_P 318 82 = some (.invokevirtual 249, 3, 310, 14, 1) := by decide +kernel
theorem s_318_82 {x0 x1 x2 x3 x4 : Option Value} {o : Nat} : mw (d + 1) 318 Q 82 [x0, x1, x2, x3, x4] (.ref o :: st) h = (mg h o 14 ∧ mca st 8 ∧ mca [.ref o] 1 ∧ mcall d 310 [.ref o] h (mK (d + 1) 318 Q 85 [x0, x1, x2, x3, x4] st)) := (mw_at mj_318_82).trans ((z_invv (As := []) (by decide) rfl rfl).trans (congrArg (And _) (congrArg (And _) (mC_nl nl_310))))
theorem mj_318_85 : mc_P 318 85 = some (.bipush 43, 2, 0, 0, 0) := by decide +kernel
theorem s_318_85 {x0 x1 x2 x3 x4 : Option Value} : mw d 318 Q 85 [x0, x1, x2, x3, x4] (st) h = mw d 318 Q 87 [x0, x1, x2, x3, x4] (.int 43 :: st) h := (mw_at mj_318_85).trans (z_bipush (by decide))
theorem mj_318_87 : mc_P 318 87 = some (.if_icmp .ne 8, 3, 0, 0, 0) := by decide +kernel
theorem s_318_87 {x0 x1 x2 x3 x4 : Option Value} {x w : Int32} : mw d 318 Q 87 [x0, x1, x2, x3, x4] (.int w :: .int x :: st) h = mB (¬ x = w) (mw d 318 Q) 95 90 [x0, x1, x2, x3, x4] st h := (mw_at mj_318_87).trans (z_icmp_ne (by decide) rfl)
theorem mj_318_90 : mc_P 318 90 = some (.bipush 18, 2, 0, 0, 0) := by decide +kernel
theorem s_318_90 {x0 x1 x2 x3 x4 : Option Value} : mw d 318 Q 90 [x0, x1, x2, x3, x4] (st) h = mw d 318 Q 92 [x0, x1, x2, x3, x4] (.int 18 :: st) h := (mw_at mj_318_90).trans (z_bipush (by decide))
theorem mj_318_92 : mc_P 318 92 = some (.goto 5, 3, 0, 0, 0) := by decide +kernel
theorem s_318_92 {x0 x1 x2 x3 x4 : Option Value} : mw d 318 Q 92 [x0, x1, x2, x3, x4] (st) h = mw d 318 Q 97 [x0, x1, x2, x3, x4] (st) h := (mw_at mj_318_92).trans (z_goto (by decide))
theorem mj_318_95 : mc_P 318 95 = some (.bipush 19, 2, 0, 0, 0) := by decide +kernel
theorem s_318_95 {x0 x1 x2 x3 x4 : Option Value} : mw d 318 Q 95 [x0, x1, x2, x3, x4] (st) h = mw d 318 Q 97 [x0, x1, x2, x3, x4] (.int 19 :: st) h := (mw_at mj_318_95).trans (z_bipush (by decide))
theorem mj_318_97 : mc_P 318 97 = some (.aload_n 0, 1, 0, 0, 0) := by decide +kernel
theorem s_318_97 {x1 x2 x3 x4 : Option Value} {w : Value} : mw d 318 Q 97 [some w, x1, x2, x3, x4] (st) h = mv_a w (mw d 318 Q 98 [some w, x1, x2, x3, x4] (w :: st) h) := (mw_at mj_318_97).trans (z_aload_n rfl)
theorem mj_318_98 : mc_P 318 98 = some (.getfield 16, 3, 14, 5, 0) := by decide +kernel
theorem s_318_98 {x0 x1 x2 x3 x4 : Option Value} {o : Nat} : mw d 318 Q 98 [x0, x1, x2, x3, x4] (.ref o :: st) h = (mg h o 14 ∧ mw d 318 Q 101 [x0, x1, x2, x3, x4] (va_rf (mh_r h o 5) :: st) h) := (mw_at mj_318_98).trans (z_getr (by decide) (by decide) rfl)
theorem mj_318_101 : mc_P 318 101 = some (.aload_n 0, 1, 0, 0, 0) := by decide +kernel
theorem s_318_101 {x1 x2 x3 x4 : Option Value} {w : Value} : mw d 318 Q 101 [some w, x1, x2, x3, x4] (st) h = mv_a w (mw d 318 Q 102 [some w, x1, x2, x3, x4] (w :: st) h) := (mw_at mj_318_101).trans (z_aload_n rfl)
theorem mj_318_102 : mc_P 318 102 = some (.getfield 246, 3, 14, 8, 0) := by decide +kernel
theorem s_318_102 {x0 x1 x2 x3 x4 : Option Value} {o : Nat} : mw d 318 Q 102 [x0, x1, x2, x3, x4] (.ref o :: st) h = (mg h o 14 ∧ mw d 318 Q 105 [x0, x1, x2, x3, x4] (.int (mh_i h o 8) :: st) h) := (mw_at mj_318_102).trans (z_geti (by decide) (by decide) (Or.inl rfl))
theorem mj_318_105 : mc_P 318 105 = some (.iaload, 1, 0, 0, 0) := by decide +kernel
theorem s_318_105 {x0 x1 x2 x3 x4 : Option Value} {o : Nat} {i : Int32} : mw d 318 Q 105 [x0, x1, x2, x3, x4] (.int i :: .ref o :: st) h = (mg h o 100 ∧ mx i (mh_l h o) ∧ mw d 318 Q 106 [x0, x1, x2, x3, x4] (.int (mh_i h o i.toNatClampNeg) :: st) h) := (mw_at mj_318_105).trans (z_iald)
theorem mj_318_106 : mc_P 318 106 = some (.iconst 0, 1, 0, 0, 0) := by decide +kernel
theorem s_318_106 {x0 x1 x2 x3 x4 : Option Value} : mw d 318 Q 106 [x0, x1, x2, x3, x4] (st) h = mw d 318 Q 107 [x0, x1, x2, x3, x4] (.int 0 :: st) h := (mw_at mj_318_106).trans (z_iconst (by decide))
theorem mj_318_107 : mc_P 318 107 = some (.invokevirtual 259, 3, 313, 14, 4) := by decide +kernel
theorem s_318_107 {x0 x1 x2 x3 x4 : Option Value} {o : Nat} {a1 a2 a3 : Value} : mw (d + 1) 318 Q 107 [x0, x1, x2, x3, x4] (a3 :: a2 :: a1 :: .ref o :: st) h = (mg h o 14 ∧ mca st 8 ∧ mca [.ref o, a1, a2, a3] 4 ∧ mcall d 313 [.ref o, a1, a2, a3] h (mK (d + 1) 318 Q 110 [x0, x1, x2, x3, x4] st)) := (mw_at mj_318_107).trans ((z_invv (As := [a1, a2, a3]) (by decide) rfl rfl).trans (congrArg (And _) (congrArg (And _) (mC_nl nl_313))))
theorem mj_318_110 : mc_P 318 110 = some (.istore 4, 2, 0, 0, 0) := by decide +kernel
theorem s_318_110 {x0 x1 x2 x3 x4 : Option Value} {w : Int32} : mw d 318 Q 110 [x0, x1, x2, x3, x4] (.int w :: st) h = mw d 318 Q 112 [x0, x1, x2, mk2 x3, some (.int w)] (st) h := (mw_at mj_318_110).trans (z_istore (Nat.le_of_ble_eq_true rfl) (me_s1_mk (j := 3) (w := x3) rfl))
theorem mj_318_112 : mc_P 318 112 = some (.aload_n 0, 1, 0, 0, 0) := by decide +kernel
theorem s_318_112 {x1 x2 x3 x4 : Option Value} {w : Value} : mw d 318 Q 112 [some w, x1, x2, x3, x4] (st) h = mv_a w (mw d 318 Q 113 [some w, x1, x2, x3, x4] (w :: st) h) := (mw_at mj_318_112).trans (z_aload_n rfl)
theorem mj_318_113 : mc_P 318 113 = some (.aload_n 0, 1, 0, 0, 0) := by decide +kernel
theorem s_318_113 {x1 x2 x3 x4 : Option Value} {w : Value} : mw d 318 Q 113 [some w, x1, x2, x3, x4] (st) h = mv_a w (mw d 318 Q 114 [some w, x1, x2, x3, x4] (w :: st) h) := (mw_at mj_318_113).trans (z_aload_n rfl)
theorem mj_318_114 : mc_P 318 114 = some (.invokevirtual 249, 3, 310, 14, 1) := by decide +kernel
theorem s_318_114 {x0 x1 x2 x3 x4 : Option Value} {o : Nat} : mw (d + 1) 318 Q 114 [x0, x1, x2, x3, x4] (.ref o :: st) h = (mg h o 14 ∧ mca st 8 ∧ mca [.ref o] 1 ∧ mcall d 310 [.ref o] h (mK (d + 1) 318 Q 117 [x0, x1, x2, x3, x4] st)) := (mw_at mj_318_114).trans ((z_invv (As := []) (by decide) rfl rfl).trans (congrArg (And _) (congrArg (And _) (mC_nl nl_310))))
theorem mj_318_117 : mc_P 318 117 = some (.invokevirtual 262, 3, 312, 14, 2) := by decide +kernel
theorem s_318_117 {x0 x1 x2 x3 x4 : Option Value} {o : Nat} {a1 : Value} : mw (d + 1) 318 Q 117 [x0, x1, x2, x3, x4] (a1 :: .ref o :: st) h = (mg h o 14 ∧ mca st 8 ∧ mca [.ref o, a1] 2 ∧ mcall d 312 [.ref o, a1] h (mK (d + 1) 318 Q 120 [x0, x1, x2, x3, x4] st)) := (mw_at mj_318_117).trans ((z_invv (As := [a1]) (by decide) rfl rfl).trans (congrArg (And _) (congrArg (And _) (mC_nl nl_312))))
theorem mj_318_120 : mc_P 318 120 = some (.aload_n 0, 1, 0, 0, 0) := by decide +kernel
theorem s_318_120 {x1 x2 x3 x4 : Option Value} {w : Value} : mw d 318 Q 120 [some w, x1, x2, x3, x4] (st) h = mv_a w (mw d 318 Q 121 [some w, x1, x2, x3, x4] (w :: st) h) := (mw_at mj_318_120).trans (z_aload_n rfl)
theorem mj_318_121 : mc_P 318 121 = some (.iload 4, 2, 0, 0, 0) := by decide +kernel
theorem s_318_121 {x0 x1 x2 x3 : Option Value} {w : Value} : mw d 318 Q 121 [x0, x1, x2, x3, some w] (st) h = mv_i w (mw d 318 Q 123 [x0, x1, x2, x3, some w] (w :: st) h) := (mw_at mj_318_121).trans (z_iload rfl)
theorem mj_318_123 : mc_P 318 123 = some (.aload_n 0, 1, 0, 0, 0) := by decide +kernel
theorem s_318_123 {x1 x2 x3 x4 : Option Value} {w : Value} : mw d 318 Q 123 [some w, x1, x2, x3, x4] (st) h = mv_a w (mw d 318 Q 124 [some w, x1, x2, x3, x4] (w :: st) h) := (mw_at mj_318_123).trans (z_aload_n rfl)
theorem mj_318_124 : mc_P 318 124 = some (.getfield 242, 3, 14, 9, 0) := by decide +kernel
theorem s_318_124 {x0 x1 x2 x3 x4 : Option Value} {o : Nat} : mw d 318 Q 124 [x0, x1, x2, x3, x4] (.ref o :: st) h = (mg h o 14 ∧ mw d 318 Q 127 [x0, x1, x2, x3, x4] (.int (mh_i h o 9) :: st) h) := (mw_at mj_318_124).trans (z_geti (by decide) (by decide) (Or.inr rfl))
theorem mj_318_127 : mc_P 318 127 = some (.ifCond .eq 7, 3, 0, 0, 0) := by decide +kernel
theorem s_318_127 {x0 x1 x2 x3 x4 : Option Value} {x : Int32} : mw d 318 Q 127 [x0, x1, x2, x3, x4] (.int x :: st) h = mB (x = 0) (mw d 318 Q) 134 130 [x0, x1, x2, x3, x4] st h := (mw_at mj_318_127).trans (z_if_eq (by decide) rfl)
theorem mj_318_130 : mc_P 318 130 = some (.iconst (-1), 1, 0, 0, 0) := by decide +kernel
theorem s_318_130 {x0 x1 x2 x3 x4 : Option Value} : mw d 318 Q 130 [x0, x1, x2, x3, x4] (st) h = mw d 318 Q 131 [x0, x1, x2, x3, x4] (.int (-1) :: st) h := (mw_at mj_318_130).trans (z_iconst (by decide))
theorem mj_318_131 : mc_P 318 131 = some (.goto 8, 3, 0, 0, 0) := by decide +kernel
theorem s_318_131 {x0 x1 x2 x3 x4 : Option Value} : mw d 318 Q 131 [x0, x1, x2, x3, x4] (st) h = mw d 318 Q 139 [x0, x1, x2, x3, x4] (st) h := (mw_at mj_318_131).trans (z_goto (by decide))
theorem mj_318_134 : mc_P 318 134 = some (.aload_n 0, 1, 0, 0, 0) := by decide +kernel
theorem s_318_134 {x1 x2 x3 x4 : Option Value} {w : Value} : mw d 318 Q 134 [some w, x1, x2, x3, x4] (st) h = mv_a w (mw d 318 Q 135 [some w, x1, x2, x3, x4] (w :: st) h) := (mw_at mj_318_134).trans (z_aload_n rfl)
theorem mj_318_135 : mc_P 318 135 = some (.iload_n 1, 1, 0, 0, 0) := by decide +kernel
theorem s_318_135 {x0 x2 x3 x4 : Option Value} {w : Value} : mw d 318 Q 135 [x0, some w, x2, x3, x4] (st) h = mv_i w (mw d 318 Q 136 [x0, some w, x2, x3, x4] (w :: st) h) := (mw_at mj_318_135).trans (z_iload_n rfl)
theorem mj_318_136 : mc_P 318 136 = some (.invokevirtual 269, 3, 319, 14, 2) := by decide +kernel
theorem s_318_136 {x0 x1 x2 x3 x4 : Option Value} {o : Nat} {a1 : Value} : mw (d + 1) 318 Q 136 [x0, x1, x2, x3, x4] (a1 :: .ref o :: st) h = (mg h o 14 ∧ mca st 8 ∧ mca [.ref o, a1] 5 ∧ mcall d 319 [.ref o, a1] h (mK (d + 1) 318 Q 139 [x0, x1, x2, x3, x4] st)) := (mw_at mj_318_136).trans ((z_invv (As := [a1]) (by decide) rfl rfl).trans (congrArg (And _) (congrArg (And _) (mC_nl nl_319))))
theorem mj_318_139 : mc_P 318 139 = some (.invokevirtual 272, 3, 314, 14, 3) := by decide +kernel
theorem s_318_139 {x0 x1 x2 x3 x4 : Option Value} {o : Nat} {a1 a2 : Value} : mw (d + 1) 318 Q 139 [x0, x1, x2, x3, x4] (a2 :: a1 :: .ref o :: st) h = (mg h o 14 ∧ mca st 8 ∧ mca [.ref o, a1, a2] 3 ∧ mcall d 314 [.ref o, a1, a2] h (mK (d + 1) 318 Q 142 [x0, x1, x2, x3, x4] st)) := (mw_at mj_318_139).trans ((z_invv (As := [a1, a2]) (by decide) rfl rfl).trans (congrArg (And _) (congrArg (And _) (mC_nl nl_314))))
theorem mj_318_142 : mc_P 318 142 = some (.aload_n 0, 1, 0, 0, 0) := by decide +kernel
theorem s_318_142 {x1 x2 x3 x4 : Option Value} {w : Value} : mw d 318 Q 142 [some w, x1, x2, x3, x4] (st) h = mv_a w (mw d 318 Q 143 [some w, x1, x2, x3, x4] (w :: st) h) := (mw_at mj_318_142).trans (z_aload_n rfl)
theorem mj_318_143 : mc_P 318 143 = some (.iload_n 3, 1, 0, 0, 0) := by decide +kernel
theorem s_318_143 {x0 x1 x2 x4 : Option Value} {w : Value} : mw d 318 Q 143 [x0, x1, x2, some w, x4] (st) h = mv_i w (mw d 318 Q 144 [x0, x1, x2, some w, x4] (w :: st) h) := (mw_at mj_318_143).trans (z_iload_n rfl)
theorem mj_318_144 : mc_P 318 144 = some (.iload 4, 2, 0, 0, 0) := by decide +kernel
theorem s_318_144 {x0 x1 x2 x3 : Option Value} {w : Value} : mw d 318 Q 144 [x0, x1, x2, x3, some w] (st) h = mv_i w (mw d 318 Q 146 [x0, x1, x2, x3, some w] (w :: st) h) := (mw_at mj_318_144).trans (z_iload rfl)
theorem mj_318_146 : mc_P 318 146 = some (.invokevirtual 272, 3, 314, 14, 3) := by decide +kernel
theorem s_318_146 {x0 x1 x2 x3 x4 : Option Value} {o : Nat} {a1 a2 : Value} : mw (d + 1) 318 Q 146 [x0, x1, x2, x3, x4] (a2 :: a1 :: .ref o :: st) h = (mg h o 14 ∧ mca st 8 ∧ mca [.ref o, a1, a2] 3 ∧ mcall d 314 [.ref o, a1, a2] h (mK (d + 1) 318 Q 149 [x0, x1, x2, x3, x4] st)) := (mw_at mj_318_146).trans ((z_invv (As := [a1, a2]) (by decide) rfl rfl).trans (congrArg (And _) (congrArg (And _) (mC_nl nl_314))))
theorem mj_318_149 : mc_P 318 149 = some (.goto (-87), 3, 0, 0, 0) := by decide +kernel
theorem s_318_149 {x0 x1 x2 x3 x4 : Option Value} : mw d 318 Q 149 [x0, x1, x2, x3, x4] (st) h = mw d 318 Q 62 [x0, x1, x2, x3, x4] (st) h := (mw_at mj_318_149).trans (z_goto (by decide))
theorem mj_318_152 : mc_P 318 152 = some (.iload_n 3, 1, 0, 0, 0) := by decide +kernel
theorem s_318_152 {x0 x1 x2 x4 : Option Value} {w : Value} : mw d 318 Q 152 [x0, x1, x2, some w, x4] (st) h = mv_i w (mw d 318 Q 153 [x0, x1, x2, some w, x4] (w :: st) h) := (mw_at mj_318_152).trans (z_iload_n rfl)
theorem mj_318_153 : mc_P 318 153 = some (.ireturn, 1, 0, 0, 0) := by decide +kernel
theorem s_318_153 {x0 x1 x2 x3 x4 : Option Value} {x : Int32} : mw d 318 Q 153 [x0, x1, x2, x3, x4] ([.int x]) h = (Q (some (.int x)) h) := (mw_at mj_318_153).trans (z_iret)
theorem e_318 {a0 : Nat} {a1 : Int32} : mcall d 318 [.ref a0, .int a1] h Q = mw d 318 Q 0 [some (.ref a0), some (.int a1), none, none, none] [] h := by
  show mw d 318 Q 0 (me_en (mc_nl 318) _) [] h = _
  rw [nl_318]; rfl

/-! InvariantDeskModel.term(I)I -/
theorem mj_319_0 : mc_P 319 0 = some (.aload_n 0, 1, 0, 0, 0) := by decide +kernel
theorem s_319_0 {x1 x2 x3 x4 : Option Value} {w : Value} : mw d 319 Q 0 [some w, x1, x2, x3, x4] (st) h = mv_a w (mw d 319 Q 1 [some w, x1, x2, x3, x4] (w :: st) h) := (mw_at mj_319_0).trans (z_aload_n rfl)
theorem mj_319_1 : mc_P 319 1 = some (.iload_n 1, 1, 0, 0, 0) := by decide +kernel
theorem s_319_1 {x0 x2 x3 x4 : Option Value} {w : Value} : mw d 319 Q 1 [x0, some w, x2, x3, x4] (st) h = mv_i w (mw d 319 Q 2 [x0, some w, x2, x3, x4] (w :: st) h) := (mw_at mj_319_1).trans (z_iload_n rfl)
theorem mj_319_2 : mc_P 319 2 = some (.invokevirtual 276, 3, 320, 14, 2) := by decide +kernel
theorem s_319_2 {x0 x1 x2 x3 x4 : Option Value} {o : Nat} {a1 : Value} : mw (d + 1) 319 Q 2 [x0, x1, x2, x3, x4] (a1 :: .ref o :: st) h = (mg h o 14 ∧ mca st 8 ∧ mca [.ref o, a1] 6 ∧ mcall d 320 [.ref o, a1] h (mK (d + 1) 319 Q 5 [x0, x1, x2, x3, x4] st)) := (mw_at mj_319_2).trans ((z_invv (As := [a1]) (by decide) rfl rfl).trans (congrArg (And _) (congrArg (And _) (mC_nl nl_320))))
theorem mj_319_5 : mc_P 319 5 = some (.istore_n 2, 1, 0, 0, 0) := by decide +kernel
theorem s_319_5 {x0 x1 x2 x3 x4 : Option Value} {w : Int32} : mw d 319 Q 5 [x0, x1, x2, x3, x4] (.int w :: st) h = mw d 319 Q 6 [x0, mk2 x1, some (.int w), x3, x4] (st) h := (mw_at mj_319_5).trans (z_istore_n (Nat.le_of_ble_eq_true rfl) (me_s1_mk (j := 1) (w := x1) rfl))
theorem mj_319_6 : mc_P 319 6 = some (.aload_n 0, 1, 0, 0, 0) := by decide +kernel
theorem s_319_6 {x1 x2 x3 x4 : Option Value} {w : Value} : mw d 319 Q 6 [some w, x1, x2, x3, x4] (st) h = mv_a w (mw d 319 Q 7 [some w, x1, x2, x3, x4] (w :: st) h) := (mw_at mj_319_6).trans (z_aload_n rfl)
theorem mj_319_7 : mc_P 319 7 = some (.invokevirtual 249, 3, 310, 14, 1) := by decide +kernel
theorem s_319_7 {x0 x1 x2 x3 x4 : Option Value} {o : Nat} : mw (d + 1) 319 Q 7 [x0, x1, x2, x3, x4] (.ref o :: st) h = (mg h o 14 ∧ mca st 8 ∧ mca [.ref o] 1 ∧ mcall d 310 [.ref o] h (mK (d + 1) 319 Q 10 [x0, x1, x2, x3, x4] st)) := (mw_at mj_319_7).trans ((z_invv (As := []) (by decide) rfl rfl).trans (congrArg (And _) (congrArg (And _) (mC_nl nl_310))))
theorem mj_319_10 : mc_P 319 10 = some (.bipush 42, 2, 0, 0, 0) := by decide +kernel
theorem s_319_10 {x0 x1 x2 x3 x4 : Option Value} : mw d 319 Q 10 [x0, x1, x2, x3, x4] (st) h = mw d 319 Q 12 [x0, x1, x2, x3, x4] (.int 42 :: st) h := (mw_at mj_319_10).trans (z_bipush (by decide))
theorem mj_319_12 : mc_P 319 12 = some (.if_icmp .eq 23, 3, 0, 0, 0) := by decide +kernel
theorem s_319_12 {x0 x1 x2 x3 x4 : Option Value} {x w : Int32} : mw d 319 Q 12 [x0, x1, x2, x3, x4] (.int w :: .int x :: st) h = mB (x = w) (mw d 319 Q) 35 15 [x0, x1, x2, x3, x4] st h := (mw_at mj_319_12).trans (z_icmp_eq (by decide) rfl)
theorem mj_319_15 : mc_P 319 15 = some (.aload_n 0, 1, 0, 0, 0) := by decide +kernel
theorem s_319_15 {x1 x2 x3 x4 : Option Value} {w : Value} : mw d 319 Q 15 [some w, x1, x2, x3, x4] (st) h = mv_a w (mw d 319 Q 16 [some w, x1, x2, x3, x4] (w :: st) h) := (mw_at mj_319_15).trans (z_aload_n rfl)
theorem mj_319_16 : mc_P 319 16 = some (.invokevirtual 249, 3, 310, 14, 1) := by decide +kernel
theorem s_319_16 {x0 x1 x2 x3 x4 : Option Value} {o : Nat} : mw (d + 1) 319 Q 16 [x0, x1, x2, x3, x4] (.ref o :: st) h = (mg h o 14 ∧ mca st 8 ∧ mca [.ref o] 1 ∧ mcall d 310 [.ref o] h (mK (d + 1) 319 Q 19 [x0, x1, x2, x3, x4] st)) := (mw_at mj_319_16).trans ((z_invv (As := []) (by decide) rfl rfl).trans (congrArg (And _) (congrArg (And _) (mC_nl nl_310))))
theorem mj_319_19 : mc_P 319 19 = some (.bipush 47, 2, 0, 0, 0) := by decide +kernel
theorem s_319_19 {x0 x1 x2 x3 x4 : Option Value} : mw d 319 Q 19 [x0, x1, x2, x3, x4] (st) h = mw d 319 Q 21 [x0, x1, x2, x3, x4] (.int 47 :: st) h := (mw_at mj_319_19).trans (z_bipush (by decide))
theorem mj_319_21 : mc_P 319 21 = some (.if_icmp .eq 14, 3, 0, 0, 0) := by decide +kernel
theorem s_319_21 {x0 x1 x2 x3 x4 : Option Value} {x w : Int32} : mw d 319 Q 21 [x0, x1, x2, x3, x4] (.int w :: .int x :: st) h = mB (x = w) (mw d 319 Q) 35 24 [x0, x1, x2, x3, x4] st h := (mw_at mj_319_21).trans (z_icmp_eq (by decide) rfl)
theorem mj_319_24 : mc_P 319 24 = some (.aload_n 0, 1, 0, 0, 0) := by decide +kernel
theorem s_319_24 {x1 x2 x3 x4 : Option Value} {w : Value} : mw d 319 Q 24 [some w, x1, x2, x3, x4] (st) h = mv_a w (mw d 319 Q 25 [some w, x1, x2, x3, x4] (w :: st) h) := (mw_at mj_319_24).trans (z_aload_n rfl)
theorem mj_319_25 : mc_P 319 25 = some (.invokevirtual 249, 3, 310, 14, 1) := by decide +kernel
theorem s_319_25 {x0 x1 x2 x3 x4 : Option Value} {o : Nat} : mw (d + 1) 319 Q 25 [x0, x1, x2, x3, x4] (.ref o :: st) h = (mg h o 14 ∧ mca st 8 ∧ mca [.ref o] 1 ∧ mcall d 310 [.ref o] h (mK (d + 1) 319 Q 28 [x0, x1, x2, x3, x4] st)) := (mw_at mj_319_25).trans ((z_invv (As := []) (by decide) rfl rfl).trans (congrArg (And _) (congrArg (And _) (mC_nl nl_310))))
theorem mj_319_28 : mc_P 319 28 = some (.bipush 37, 2, 0, 0, 0) := by decide +kernel
theorem s_319_28 {x0 x1 x2 x3 x4 : Option Value} : mw d 319 Q 28 [x0, x1, x2, x3, x4] (st) h = mw d 319 Q 30 [x0, x1, x2, x3, x4] (.int 37 :: st) h := (mw_at mj_319_28).trans (z_bipush (by decide))
theorem mj_319_30 : mc_P 319 30 = some (.if_icmp .eq 5, 3, 0, 0, 0) := by decide +kernel
theorem s_319_30 {x0 x1 x2 x3 x4 : Option Value} {x w : Int32} : mw d 319 Q 30 [x0, x1, x2, x3, x4] (.int w :: .int x :: st) h = mB (x = w) (mw d 319 Q) 35 33 [x0, x1, x2, x3, x4] st h := (mw_at mj_319_30).trans (z_icmp_eq (by decide) rfl)
theorem mj_319_33 : mc_P 319 33 = some (.iload_n 2, 1, 0, 0, 0) := by decide +kernel
theorem s_319_33 {x0 x1 x3 x4 : Option Value} {w : Value} : mw d 319 Q 33 [x0, x1, some w, x3, x4] (st) h = mv_i w (mw d 319 Q 34 [x0, x1, some w, x3, x4] (w :: st) h) := (mw_at mj_319_33).trans (z_iload_n rfl)
theorem mj_319_34 : mc_P 319 34 = some (.ireturn, 1, 0, 0, 0) := by decide +kernel
theorem s_319_34 {x0 x1 x2 x3 x4 : Option Value} {x : Int32} : mw d 319 Q 34 [x0, x1, x2, x3, x4] ([.int x]) h = (Q (some (.int x)) h) := (mw_at mj_319_34).trans (z_iret)
theorem mj_319_35 : mc_P 319 35 = some (.aload_n 0, 1, 0, 0, 0) := by decide +kernel
theorem s_319_35 {x1 x2 x3 x4 : Option Value} {w : Value} : mw d 319 Q 35 [some w, x1, x2, x3, x4] (st) h = mv_a w (mw d 319 Q 36 [some w, x1, x2, x3, x4] (w :: st) h) := (mw_at mj_319_35).trans (z_aload_n rfl)
theorem mj_319_36 : mc_P 319 36 = some (.bipush 20, 2, 0, 0, 0) := by decide +kernel
theorem s_319_36 {x0 x1 x2 x3 x4 : Option Value} : mw d 319 Q 36 [x0, x1, x2, x3, x4] (st) h = mw d 319 Q 38 [x0, x1, x2, x3, x4] (.int 20 :: st) h := (mw_at mj_319_36).trans (z_bipush (by decide))
theorem mj_319_38 : mc_P 319 38 = some (.aload_n 0, 1, 0, 0, 0) := by decide +kernel
theorem s_319_38 {x1 x2 x3 x4 : Option Value} {w : Value} : mw d 319 Q 38 [some w, x1, x2, x3, x4] (st) h = mv_a w (mw d 319 Q 39 [some w, x1, x2, x3, x4] (w :: st) h) := (mw_at mj_319_38).trans (z_aload_n rfl)
theorem mj_319_39 : mc_P 319 39 = some (.getfield 30, 3, 14, 12, 0) := by decide +kernel
theorem s_319_39 {x0 x1 x2 x3 x4 : Option Value} {o : Nat} : mw d 319 Q 39 [x0, x1, x2, x3, x4] (.ref o :: st) h = (mg h o 14 ∧ mw d 319 Q 42 [x0, x1, x2, x3, x4] (va_rf (mh_r h o 12) :: st) h) := (mw_at mj_319_39).trans (z_getr (by decide) (by decide) rfl)
theorem mj_319_42 : mc_P 319 42 = some (.iload_n 2, 1, 0, 0, 0) := by decide +kernel
theorem s_319_42 {x0 x1 x3 x4 : Option Value} {w : Value} : mw d 319 Q 42 [x0, x1, some w, x3, x4] (st) h = mv_i w (mw d 319 Q 43 [x0, x1, some w, x3, x4] (w :: st) h) := (mw_at mj_319_42).trans (z_iload_n rfl)
theorem mj_319_43 : mc_P 319 43 = some (.iaload, 1, 0, 0, 0) := by decide +kernel
theorem s_319_43 {x0 x1 x2 x3 x4 : Option Value} {o : Nat} {i : Int32} : mw d 319 Q 43 [x0, x1, x2, x3, x4] (.int i :: .ref o :: st) h = (mg h o 100 ∧ mx i (mh_l h o) ∧ mw d 319 Q 44 [x0, x1, x2, x3, x4] (.int (mh_i h o i.toNatClampNeg) :: st) h) := (mw_at mj_319_43).trans (z_iald)
theorem mj_319_44 : mc_P 319 44 = some (.iconst 0, 1, 0, 0, 0) := by decide +kernel
theorem s_319_44 {x0 x1 x2 x3 x4 : Option Value} : mw d 319 Q 44 [x0, x1, x2, x3, x4] (st) h = mw d 319 Q 45 [x0, x1, x2, x3, x4] (.int 0 :: st) h := (mw_at mj_319_44).trans (z_iconst (by decide))
theorem mj_319_45 : mc_P 319 45 = some (.invokevirtual 259, 3, 313, 14, 4) := by decide +kernel
theorem s_319_45 {x0 x1 x2 x3 x4 : Option Value} {o : Nat} {a1 a2 a3 : Value} : mw (d + 1) 319 Q 45 [x0, x1, x2, x3, x4] (a3 :: a2 :: a1 :: .ref o :: st) h = (mg h o 14 ∧ mca st 8 ∧ mca [.ref o, a1, a2, a3] 4 ∧ mcall d 313 [.ref o, a1, a2, a3] h (mK (d + 1) 319 Q 48 [x0, x1, x2, x3, x4] st)) := (mw_at mj_319_45).trans ((z_invv (As := [a1, a2, a3]) (by decide) rfl rfl).trans (congrArg (And _) (congrArg (And _) (mC_nl nl_313))))
theorem mj_319_48 : mc_P 319 48 = some (.istore_n 3, 1, 0, 0, 0) := by decide +kernel
theorem s_319_48 {x0 x1 x2 x3 x4 : Option Value} {w : Int32} : mw d 319 Q 48 [x0, x1, x2, x3, x4] (.int w :: st) h = mw d 319 Q 49 [x0, x1, mk2 x2, some (.int w), x4] (st) h := (mw_at mj_319_48).trans (z_istore_n (Nat.le_of_ble_eq_true rfl) (me_s1_mk (j := 2) (w := x2) rfl))
theorem mj_319_49 : mc_P 319 49 = some (.aload_n 0, 1, 0, 0, 0) := by decide +kernel
theorem s_319_49 {x1 x2 x3 x4 : Option Value} {w : Value} : mw d 319 Q 49 [some w, x1, x2, x3, x4] (st) h = mv_a w (mw d 319 Q 50 [some w, x1, x2, x3, x4] (w :: st) h) := (mw_at mj_319_49).trans (z_aload_n rfl)
theorem mj_319_50 : mc_P 319 50 = some (.iload_n 3, 1, 0, 0, 0) := by decide +kernel
theorem s_319_50 {x0 x1 x2 x4 : Option Value} {w : Value} : mw d 319 Q 50 [x0, x1, x2, some w, x4] (st) h = mv_i w (mw d 319 Q 51 [x0, x1, x2, some w, x4] (w :: st) h) := (mw_at mj_319_50).trans (z_iload_n rfl)
theorem mj_319_51 : mc_P 319 51 = some (.iload_n 2, 1, 0, 0, 0) := by decide +kernel
theorem s_319_51 {x0 x1 x3 x4 : Option Value} {w : Value} : mw d 319 Q 51 [x0, x1, some w, x3, x4] (st) h = mv_i w (mw d 319 Q 52 [x0, x1, some w, x3, x4] (w :: st) h) := (mw_at mj_319_51).trans (z_iload_n rfl)
theorem mj_319_52 : mc_P 319 52 = some (.invokevirtual 272, 3, 314, 14, 3) := by decide +kernel
theorem s_319_52 {x0 x1 x2 x3 x4 : Option Value} {o : Nat} {a1 a2 : Value} : mw (d + 1) 319 Q 52 [x0, x1, x2, x3, x4] (a2 :: a1 :: .ref o :: st) h = (mg h o 14 ∧ mca st 8 ∧ mca [.ref o, a1, a2] 3 ∧ mcall d 314 [.ref o, a1, a2] h (mK (d + 1) 319 Q 55 [x0, x1, x2, x3, x4] st)) := (mw_at mj_319_52).trans ((z_invv (As := [a1, a2]) (by decide) rfl rfl).trans (congrArg (And _) (congrArg (And _) (mC_nl nl_314))))
theorem mj_319_55 : mc_P 319 55 = some (.aload_n 0, 1, 0, 0, 0) := by decide +kernel
theorem s_319_55 {x1 x2 x3 x4 : Option Value} {w : Value} : mw d 319 Q 55 [some w, x1, x2, x3, x4] (st) h = mv_a w (mw d 319 Q 56 [some w, x1, x2, x3, x4] (w :: st) h) := (mw_at mj_319_55).trans (z_aload_n rfl)
theorem mj_319_56 : mc_P 319 56 = some (.invokevirtual 249, 3, 310, 14, 1) := by decide +kernel
theorem s_319_56 {x0 x1 x2 x3 x4 : Option Value} {o : Nat} : mw (d + 1) 319 Q 56 [x0, x1, x2, x3, x4] (.ref o :: st) h = (mg h o 14 ∧ mca st 8 ∧ mca [.ref o] 1 ∧ mcall d 310 [.ref o] h (mK (d + 1) 319 Q 59 [x0, x1, x2, x3, x4] st)) := (mw_at mj_319_56).trans ((z_invv (As := []) (by decide) rfl rfl).trans (congrArg (And _) (congrArg (And _) (mC_nl nl_310))))
theorem mj_319_59 : mc_P 319 59 = some (.bipush 42, 2, 0, 0, 0) := by decide +kernel
theorem s_319_59 {x0 x1 x2 x3 x4 : Option Value} : mw d 319 Q 59 [x0, x1, x2, x3, x4] (st) h = mw d 319 Q 61 [x0, x1, x2, x3, x4] (.int 42 :: st) h := (mw_at mj_319_59).trans (z_bipush (by decide))
theorem mj_319_61 : mc_P 319 61 = some (.if_icmp .eq 21, 3, 0, 0, 0) := by decide +kernel
theorem s_319_61 {x0 x1 x2 x3 x4 : Option Value} {x w : Int32} : mw d 319 Q 61 [x0, x1, x2, x3, x4] (.int w :: .int x :: st) h = mB (x = w) (mw d 319 Q) 82 64 [x0, x1, x2, x3, x4] st h := (mw_at mj_319_61).trans (z_icmp_eq (by decide) rfl)
theorem mj_319_64 : mc_P 319 64 = some (.aload_n 0, 1, 0, 0, 0) := by decide +kernel
theorem s_319_64 {x1 x2 x3 x4 : Option Value} {w : Value} : mw d 319 Q 64 [some w, x1, x2, x3, x4] (st) h = mv_a w (mw d 319 Q 65 [some w, x1, x2, x3, x4] (w :: st) h) := (mw_at mj_319_64).trans (z_aload_n rfl)
theorem mj_319_65 : mc_P 319 65 = some (.invokevirtual 249, 3, 310, 14, 1) := by decide +kernel
theorem s_319_65 {x0 x1 x2 x3 x4 : Option Value} {o : Nat} : mw (d + 1) 319 Q 65 [x0, x1, x2, x3, x4] (.ref o :: st) h = (mg h o 14 ∧ mca st 8 ∧ mca [.ref o] 1 ∧ mcall d 310 [.ref o] h (mK (d + 1) 319 Q 68 [x0, x1, x2, x3, x4] st)) := (mw_at mj_319_65).trans ((z_invv (As := []) (by decide) rfl rfl).trans (congrArg (And _) (congrArg (And _) (mC_nl nl_310))))
theorem mj_319_68 : mc_P 319 68 = some (.bipush 47, 2, 0, 0, 0) := by decide +kernel
theorem s_319_68 {x0 x1 x2 x3 x4 : Option Value} : mw d 319 Q 68 [x0, x1, x2, x3, x4] (st) h = mw d 319 Q 70 [x0, x1, x2, x3, x4] (.int 47 :: st) h := (mw_at mj_319_68).trans (z_bipush (by decide))
theorem mj_319_70 : mc_P 319 70 = some (.if_icmp .eq 12, 3, 0, 0, 0) := by decide +kernel
theorem s_319_70 {x0 x1 x2 x3 x4 : Option Value} {x w : Int32} : mw d 319 Q 70 [x0, x1, x2, x3, x4] (.int w :: .int x :: st) h = mB (x = w) (mw d 319 Q) 82 73 [x0, x1, x2, x3, x4] st h := (mw_at mj_319_70).trans (z_icmp_eq (by decide) rfl)
theorem mj_319_73 : mc_P 319 73 = some (.aload_n 0, 1, 0, 0, 0) := by decide +kernel
theorem s_319_73 {x1 x2 x3 x4 : Option Value} {w : Value} : mw d 319 Q 73 [some w, x1, x2, x3, x4] (st) h = mv_a w (mw d 319 Q 74 [some w, x1, x2, x3, x4] (w :: st) h) := (mw_at mj_319_73).trans (z_aload_n rfl)
theorem mj_319_74 : mc_P 319 74 = some (.invokevirtual 249, 3, 310, 14, 1) := by decide +kernel
theorem s_319_74 {x0 x1 x2 x3 x4 : Option Value} {o : Nat} : mw (d + 1) 319 Q 74 [x0, x1, x2, x3, x4] (.ref o :: st) h = (mg h o 14 ∧ mca st 8 ∧ mca [.ref o] 1 ∧ mcall d 310 [.ref o] h (mK (d + 1) 319 Q 77 [x0, x1, x2, x3, x4] st)) := (mw_at mj_319_74).trans ((z_invv (As := []) (by decide) rfl rfl).trans (congrArg (And _) (congrArg (And _) (mC_nl nl_310))))
theorem mj_319_77 : mc_P 319 77 = some (.bipush 37, 2, 0, 0, 0) := by decide +kernel
theorem s_319_77 {x0 x1 x2 x3 x4 : Option Value} : mw d 319 Q 77 [x0, x1, x2, x3, x4] (st) h = mw d 319 Q 79 [x0, x1, x2, x3, x4] (.int 37 :: st) h := (mw_at mj_319_77).trans (z_bipush (by decide))
theorem mj_319_79 : mc_P 319 79 = some (.if_icmp .ne 89, 3, 0, 0, 0) := by decide +kernel
theorem s_319_79 {x0 x1 x2 x3 x4 : Option Value} {x w : Int32} : mw d 319 Q 79 [x0, x1, x2, x3, x4] (.int w :: .int x :: st) h = mB (¬ x = w) (mw d 319 Q) 168 82 [x0, x1, x2, x3, x4] st h := (mw_at mj_319_79).trans (z_icmp_ne (by decide) rfl)
theorem mj_319_82 : mc_P 319 82 = some (.aload_n 0, 1, 0, 0, 0) := by decide +kernel
theorem s_319_82 {x1 x2 x3 x4 : Option Value} {w : Value} : mw d 319 Q 82 [some w, x1, x2, x3, x4] (st) h = mv_a w (mw d 319 Q 83 [some w, x1, x2, x3, x4] (w :: st) h) := (mw_at mj_319_82).trans (z_aload_n rfl)
theorem mj_319_83 : mc_P 319 83 = some (.aload_n 0, 1, 0, 0, 0) := by decide +kernel
theorem s_319_83 {x1 x2 x3 x4 : Option Value} {w : Value} : mw d 319 Q 83 [some w, x1, x2, x3, x4] (st) h = mv_a w (mw d 319 Q 84 [some w, x1, x2, x3, x4] (w :: st) h) := (mw_at mj_319_83).trans (z_aload_n rfl)
theorem mj_319_84 : mc_P 319 84 = some (.invokevirtual 249, 3, 310, 14, 1) := by decide +kernel
theorem s_319_84 {x0 x1 x2 x3 x4 : Option Value} {o : Nat} : mw (d + 1) 319 Q 84 [x0, x1, x2, x3, x4] (.ref o :: st) h = (mg h o 14 ∧ mca st 8 ∧ mca [.ref o] 1 ∧ mcall d 310 [.ref o] h (mK (d + 1) 319 Q 87 [x0, x1, x2, x3, x4] st)) := (mw_at mj_319_84).trans ((z_invv (As := []) (by decide) rfl rfl).trans (congrArg (And _) (congrArg (And _) (mC_nl nl_310))))
theorem mj_319_87 : mc_P 319 87 = some (.bipush 42, 2, 0, 0, 0) := by decide +kernel
theorem s_319_87 {x0 x1 x2 x3 x4 : Option Value} : mw d 319 Q 87 [x0, x1, x2, x3, x4] (st) h = mw d 319 Q 89 [x0, x1, x2, x3, x4] (.int 42 :: st) h := (mw_at mj_319_87).trans (z_bipush (by decide))
theorem mj_319_89 : mc_P 319 89 = some (.if_icmp .ne 8, 3, 0, 0, 0) := by decide +kernel
theorem s_319_89 {x0 x1 x2 x3 x4 : Option Value} {x w : Int32} : mw d 319 Q 89 [x0, x1, x2, x3, x4] (.int w :: .int x :: st) h = mB (¬ x = w) (mw d 319 Q) 97 92 [x0, x1, x2, x3, x4] st h := (mw_at mj_319_89).trans (z_icmp_ne (by decide) rfl)
theorem mj_319_92 : mc_P 319 92 = some (.bipush 21, 2, 0, 0, 0) := by decide +kernel
theorem s_319_92 {x0 x1 x2 x3 x4 : Option Value} : mw d 319 Q 92 [x0, x1, x2, x3, x4] (st) h = mw d 319 Q 94 [x0, x1, x2, x3, x4] (.int 21 :: st) h := (mw_at mj_319_92).trans (z_bipush (by decide))
theorem mj_319_94 : mc_P 319 94 = some (.goto 19, 3, 0, 0, 0) := by decide +kernel
theorem s_319_94 {x0 x1 x2 x3 x4 : Option Value} : mw d 319 Q 94 [x0, x1, x2, x3, x4] (st) h = mw d 319 Q 113 [x0, x1, x2, x3, x4] (st) h := (mw_at mj_319_94).trans (z_goto (by decide))
theorem mj_319_97 : mc_P 319 97 = some (.aload_n 0, 1, 0, 0, 0) := by decide +kernel
theorem s_319_97 {x1 x2 x3 x4 : Option Value} {w : Value} : mw d 319 Q 97 [some w, x1, x2, x3, x4] (st) h = mv_a w (mw d 319 Q 98 [some w, x1, x2, x3, x4] (w :: st) h) := (mw_at mj_319_97).trans (z_aload_n rfl)
theorem mj_319_98 : mc_P 319 98 = some (.invokevirtual 249, 3, 310, 14, 1) := by decide +kernel
theorem s_319_98 {x0 x1 x2 x3 x4 : Option Value} {o : Nat} : mw (d + 1) 319 Q 98 [x0, x1, x2, x3, x4] (.ref o :: st) h = (mg h o 14 ∧ mca st 8 ∧ mca [.ref o] 1 ∧ mcall d 310 [.ref o] h (mK (d + 1) 319 Q 101 [x0, x1, x2, x3, x4] st)) := (mw_at mj_319_98).trans ((z_invv (As := []) (by decide) rfl rfl).trans (congrArg (And _) (congrArg (And _) (mC_nl nl_310))))
theorem mj_319_101 : mc_P 319 101 = some (.bipush 47, 2, 0, 0, 0) := by decide +kernel
theorem s_319_101 {x0 x1 x2 x3 x4 : Option Value} : mw d 319 Q 101 [x0, x1, x2, x3, x4] (st) h = mw d 319 Q 103 [x0, x1, x2, x3, x4] (.int 47 :: st) h := (mw_at mj_319_101).trans (z_bipush (by decide))
theorem mj_319_103 : mc_P 319 103 = some (.if_icmp .ne 8, 3, 0, 0, 0) := by decide +kernel
theorem s_319_103 {x0 x1 x2 x3 x4 : Option Value} {x w : Int32} : mw d 319 Q 103 [x0, x1, x2, x3, x4] (.int w :: .int x :: st) h = mB (¬ x = w) (mw d 319 Q) 111 106 [x0, x1, x2, x3, x4] st h := (mw_at mj_319_103).trans (z_icmp_ne (by decide) rfl)
theorem mj_319_106 : mc_P 319 106 = some (.bipush 22, 2, 0, 0, 0) := by decide +kernel
theorem s_319_106 {x0 x1 x2 x3 x4 : Option Value} : mw d 319 Q 106 [x0, x1, x2, x3, x4] (st) h = mw d 319 Q 108 [x0, x1, x2, x3, x4] (.int 22 :: st) h := (mw_at mj_319_106).trans (z_bipush (by decide))
theorem mj_319_108 : mc_P 319 108 = some (.goto 5, 3, 0, 0, 0) := by decide +kernel
theorem s_319_108 {x0 x1 x2 x3 x4 : Option Value} : mw d 319 Q 108 [x0, x1, x2, x3, x4] (st) h = mw d 319 Q 113 [x0, x1, x2, x3, x4] (st) h := (mw_at mj_319_108).trans (z_goto (by decide))
theorem mj_319_111 : mc_P 319 111 = some (.bipush 23, 2, 0, 0, 0) := by decide +kernel
theorem s_319_111 {x0 x1 x2 x3 x4 : Option Value} : mw d 319 Q 111 [x0, x1, x2, x3, x4] (st) h = mw d 319 Q 113 [x0, x1, x2, x3, x4] (.int 23 :: st) h := (mw_at mj_319_111).trans (z_bipush (by decide))
theorem mj_319_113 : mc_P 319 113 = some (.aload_n 0, 1, 0, 0, 0) := by decide +kernel
theorem s_319_113 {x1 x2 x3 x4 : Option Value} {w : Value} : mw d 319 Q 113 [some w, x1, x2, x3, x4] (st) h = mv_a w (mw d 319 Q 114 [some w, x1, x2, x3, x4] (w :: st) h) := (mw_at mj_319_113).trans (z_aload_n rfl)
theorem mj_319_114 : mc_P 319 114 = some (.getfield 16, 3, 14, 5, 0) := by decide +kernel
theorem s_319_114 {x0 x1 x2 x3 x4 : Option Value} {o : Nat} : mw d 319 Q 114 [x0, x1, x2, x3, x4] (.ref o :: st) h = (mg h o 14 ∧ mw d 319 Q 117 [x0, x1, x2, x3, x4] (va_rf (mh_r h o 5) :: st) h) := (mw_at mj_319_114).trans (z_getr (by decide) (by decide) rfl)
theorem mj_319_117 : mc_P 319 117 = some (.aload_n 0, 1, 0, 0, 0) := by decide +kernel
theorem s_319_117 {x1 x2 x3 x4 : Option Value} {w : Value} : mw d 319 Q 117 [some w, x1, x2, x3, x4] (st) h = mv_a w (mw d 319 Q 118 [some w, x1, x2, x3, x4] (w :: st) h) := (mw_at mj_319_117).trans (z_aload_n rfl)
theorem mj_319_118 : mc_P 319 118 = some (.getfield 246, 3, 14, 8, 0) := by decide +kernel
theorem s_319_118 {x0 x1 x2 x3 x4 : Option Value} {o : Nat} : mw d 319 Q 118 [x0, x1, x2, x3, x4] (.ref o :: st) h = (mg h o 14 ∧ mw d 319 Q 121 [x0, x1, x2, x3, x4] (.int (mh_i h o 8) :: st) h) := (mw_at mj_319_118).trans (z_geti (by decide) (by decide) (Or.inl rfl))
theorem mj_319_121 : mc_P 319 121 = some (.iaload, 1, 0, 0, 0) := by decide +kernel
theorem s_319_121 {x0 x1 x2 x3 x4 : Option Value} {o : Nat} {i : Int32} : mw d 319 Q 121 [x0, x1, x2, x3, x4] (.int i :: .ref o :: st) h = (mg h o 100 ∧ mx i (mh_l h o) ∧ mw d 319 Q 122 [x0, x1, x2, x3, x4] (.int (mh_i h o i.toNatClampNeg) :: st) h) := (mw_at mj_319_121).trans (z_iald)
theorem mj_319_122 : mc_P 319 122 = some (.iconst 0, 1, 0, 0, 0) := by decide +kernel
theorem s_319_122 {x0 x1 x2 x3 x4 : Option Value} : mw d 319 Q 122 [x0, x1, x2, x3, x4] (st) h = mw d 319 Q 123 [x0, x1, x2, x3, x4] (.int 0 :: st) h := (mw_at mj_319_122).trans (z_iconst (by decide))
theorem mj_319_123 : mc_P 319 123 = some (.invokevirtual 259, 3, 313, 14, 4) := by decide +kernel
theorem s_319_123 {x0 x1 x2 x3 x4 : Option Value} {o : Nat} {a1 a2 a3 : Value} : mw (d + 1) 319 Q 123 [x0, x1, x2, x3, x4] (a3 :: a2 :: a1 :: .ref o :: st) h = (mg h o 14 ∧ mca st 8 ∧ mca [.ref o, a1, a2, a3] 4 ∧ mcall d 313 [.ref o, a1, a2, a3] h (mK (d + 1) 319 Q 126 [x0, x1, x2, x3, x4] st)) := (mw_at mj_319_123).trans ((z_invv (As := [a1, a2, a3]) (by decide) rfl rfl).trans (congrArg (And _) (congrArg (And _) (mC_nl nl_313))))
theorem mj_319_126 : mc_P 319 126 = some (.istore 4, 2, 0, 0, 0) := by decide +kernel
theorem s_319_126 {x0 x1 x2 x3 x4 : Option Value} {w : Int32} : mw d 319 Q 126 [x0, x1, x2, x3, x4] (.int w :: st) h = mw d 319 Q 128 [x0, x1, x2, mk2 x3, some (.int w)] (st) h := (mw_at mj_319_126).trans (z_istore (Nat.le_of_ble_eq_true rfl) (me_s1_mk (j := 3) (w := x3) rfl))
theorem mj_319_128 : mc_P 319 128 = some (.aload_n 0, 1, 0, 0, 0) := by decide +kernel
theorem s_319_128 {x1 x2 x3 x4 : Option Value} {w : Value} : mw d 319 Q 128 [some w, x1, x2, x3, x4] (st) h = mv_a w (mw d 319 Q 129 [some w, x1, x2, x3, x4] (w :: st) h) := (mw_at mj_319_128).trans (z_aload_n rfl)
theorem mj_319_129 : mc_P 319 129 = some (.aload_n 0, 1, 0, 0, 0) := by decide +kernel
theorem s_319_129 {x1 x2 x3 x4 : Option Value} {w : Value} : mw d 319 Q 129 [some w, x1, x2, x3, x4] (st) h = mv_a w (mw d 319 Q 130 [some w, x1, x2, x3, x4] (w :: st) h) := (mw_at mj_319_129).trans (z_aload_n rfl)
theorem mj_319_130 : mc_P 319 130 = some (.invokevirtual 249, 3, 310, 14, 1) := by decide +kernel
theorem s_319_130 {x0 x1 x2 x3 x4 : Option Value} {o : Nat} : mw (d + 1) 319 Q 130 [x0, x1, x2, x3, x4] (.ref o :: st) h = (mg h o 14 ∧ mca st 8 ∧ mca [.ref o] 1 ∧ mcall d 310 [.ref o] h (mK (d + 1) 319 Q 133 [x0, x1, x2, x3, x4] st)) := (mw_at mj_319_130).trans ((z_invv (As := []) (by decide) rfl rfl).trans (congrArg (And _) (congrArg (And _) (mC_nl nl_310))))
theorem mj_319_133 : mc_P 319 133 = some (.invokevirtual 262, 3, 312, 14, 2) := by decide +kernel
theorem s_319_133 {x0 x1 x2 x3 x4 : Option Value} {o : Nat} {a1 : Value} : mw (d + 1) 319 Q 133 [x0, x1, x2, x3, x4] (a1 :: .ref o :: st) h = (mg h o 14 ∧ mca st 8 ∧ mca [.ref o, a1] 2 ∧ mcall d 312 [.ref o, a1] h (mK (d + 1) 319 Q 136 [x0, x1, x2, x3, x4] st)) := (mw_at mj_319_133).trans ((z_invv (As := [a1]) (by decide) rfl rfl).trans (congrArg (And _) (congrArg (And _) (mC_nl nl_312))))
theorem mj_319_136 : mc_P 319 136 = some (.aload_n 0, 1, 0, 0, 0) := by decide +kernel
theorem s_319_136 {x1 x2 x3 x4 : Option Value} {w : Value} : mw d 319 Q 136 [some w, x1, x2, x3, x4] (st) h = mv_a w (mw d 319 Q 137 [some w, x1, x2, x3, x4] (w :: st) h) := (mw_at mj_319_136).trans (z_aload_n rfl)
theorem mj_319_137 : mc_P 319 137 = some (.iload 4, 2, 0, 0, 0) := by decide +kernel
theorem s_319_137 {x0 x1 x2 x3 : Option Value} {w : Value} : mw d 319 Q 137 [x0, x1, x2, x3, some w] (st) h = mv_i w (mw d 319 Q 139 [x0, x1, x2, x3, some w] (w :: st) h) := (mw_at mj_319_137).trans (z_iload rfl)
theorem mj_319_139 : mc_P 319 139 = some (.aload_n 0, 1, 0, 0, 0) := by decide +kernel
theorem s_319_139 {x1 x2 x3 x4 : Option Value} {w : Value} : mw d 319 Q 139 [some w, x1, x2, x3, x4] (st) h = mv_a w (mw d 319 Q 140 [some w, x1, x2, x3, x4] (w :: st) h) := (mw_at mj_319_139).trans (z_aload_n rfl)
theorem mj_319_140 : mc_P 319 140 = some (.getfield 242, 3, 14, 9, 0) := by decide +kernel
theorem s_319_140 {x0 x1 x2 x3 x4 : Option Value} {o : Nat} : mw d 319 Q 140 [x0, x1, x2, x3, x4] (.ref o :: st) h = (mg h o 14 ∧ mw d 319 Q 143 [x0, x1, x2, x3, x4] (.int (mh_i h o 9) :: st) h) := (mw_at mj_319_140).trans (z_geti (by decide) (by decide) (Or.inr rfl))
theorem mj_319_143 : mc_P 319 143 = some (.ifCond .eq 7, 3, 0, 0, 0) := by decide +kernel
theorem s_319_143 {x0 x1 x2 x3 x4 : Option Value} {x : Int32} : mw d 319 Q 143 [x0, x1, x2, x3, x4] (.int x :: st) h = mB (x = 0) (mw d 319 Q) 150 146 [x0, x1, x2, x3, x4] st h := (mw_at mj_319_143).trans (z_if_eq (by decide) rfl)
theorem mj_319_146 : mc_P 319 146 = some (.iconst (-1), 1, 0, 0, 0) := by decide +kernel
theorem s_319_146 {x0 x1 x2 x3 x4 : Option Value} : mw d 319 Q 146 [x0, x1, x2, x3, x4] (st) h = mw d 319 Q 147 [x0, x1, x2, x3, x4] (.int (-1) :: st) h := (mw_at mj_319_146).trans (z_iconst (by decide))
theorem mj_319_147 : mc_P 319 147 = some (.goto 8, 3, 0, 0, 0) := by decide +kernel
theorem s_319_147 {x0 x1 x2 x3 x4 : Option Value} : mw d 319 Q 147 [x0, x1, x2, x3, x4] (st) h = mw d 319 Q 155 [x0, x1, x2, x3, x4] (st) h := (mw_at mj_319_147).trans (z_goto (by decide))
theorem mj_319_150 : mc_P 319 150 = some (.aload_n 0, 1, 0, 0, 0) := by decide +kernel
theorem s_319_150 {x1 x2 x3 x4 : Option Value} {w : Value} : mw d 319 Q 150 [some w, x1, x2, x3, x4] (st) h = mv_a w (mw d 319 Q 151 [some w, x1, x2, x3, x4] (w :: st) h) := (mw_at mj_319_150).trans (z_aload_n rfl)
theorem mj_319_151 : mc_P 319 151 = some (.iload_n 1, 1, 0, 0, 0) := by decide +kernel
theorem s_319_151 {x0 x2 x3 x4 : Option Value} {w : Value} : mw d 319 Q 151 [x0, some w, x2, x3, x4] (st) h = mv_i w (mw d 319 Q 152 [x0, some w, x2, x3, x4] (w :: st) h) := (mw_at mj_319_151).trans (z_iload_n rfl)
theorem mj_319_152 : mc_P 319 152 = some (.invokevirtual 276, 3, 320, 14, 2) := by decide +kernel
theorem s_319_152 {x0 x1 x2 x3 x4 : Option Value} {o : Nat} {a1 : Value} : mw (d + 1) 319 Q 152 [x0, x1, x2, x3, x4] (a1 :: .ref o :: st) h = (mg h o 14 ∧ mca st 8 ∧ mca [.ref o, a1] 6 ∧ mcall d 320 [.ref o, a1] h (mK (d + 1) 319 Q 155 [x0, x1, x2, x3, x4] st)) := (mw_at mj_319_152).trans ((z_invv (As := [a1]) (by decide) rfl rfl).trans (congrArg (And _) (congrArg (And _) (mC_nl nl_320))))
theorem mj_319_155 : mc_P 319 155 = some (.invokevirtual 272, 3, 314, 14, 3) := by decide +kernel
theorem s_319_155 {x0 x1 x2 x3 x4 : Option Value} {o : Nat} {a1 a2 : Value} : mw (d + 1) 319 Q 155 [x0, x1, x2, x3, x4] (a2 :: a1 :: .ref o :: st) h = (mg h o 14 ∧ mca st 8 ∧ mca [.ref o, a1, a2] 3 ∧ mcall d 314 [.ref o, a1, a2] h (mK (d + 1) 319 Q 158 [x0, x1, x2, x3, x4] st)) := (mw_at mj_319_155).trans ((z_invv (As := [a1, a2]) (by decide) rfl rfl).trans (congrArg (And _) (congrArg (And _) (mC_nl nl_314))))
theorem mj_319_158 : mc_P 319 158 = some (.aload_n 0, 1, 0, 0, 0) := by decide +kernel
theorem s_319_158 {x1 x2 x3 x4 : Option Value} {w : Value} : mw d 319 Q 158 [some w, x1, x2, x3, x4] (st) h = mv_a w (mw d 319 Q 159 [some w, x1, x2, x3, x4] (w :: st) h) := (mw_at mj_319_158).trans (z_aload_n rfl)
theorem mj_319_159 : mc_P 319 159 = some (.iload_n 3, 1, 0, 0, 0) := by decide +kernel
theorem s_319_159 {x0 x1 x2 x4 : Option Value} {w : Value} : mw d 319 Q 159 [x0, x1, x2, some w, x4] (st) h = mv_i w (mw d 319 Q 160 [x0, x1, x2, some w, x4] (w :: st) h) := (mw_at mj_319_159).trans (z_iload_n rfl)
theorem mj_319_160 : mc_P 319 160 = some (.iload 4, 2, 0, 0, 0) := by decide +kernel
theorem s_319_160 {x0 x1 x2 x3 : Option Value} {w : Value} : mw d 319 Q 160 [x0, x1, x2, x3, some w] (st) h = mv_i w (mw d 319 Q 162 [x0, x1, x2, x3, some w] (w :: st) h) := (mw_at mj_319_160).trans (z_iload rfl)
theorem mj_319_162 : mc_P 319 162 = some (.invokevirtual 272, 3, 314, 14, 3) := by decide +kernel
theorem s_319_162 {x0 x1 x2 x3 x4 : Option Value} {o : Nat} {a1 a2 : Value} : mw (d + 1) 319 Q 162 [x0, x1, x2, x3, x4] (a2 :: a1 :: .ref o :: st) h = (mg h o 14 ∧ mca st 8 ∧ mca [.ref o, a1, a2] 3 ∧ mcall d 314 [.ref o, a1, a2] h (mK (d + 1) 319 Q 165 [x0, x1, x2, x3, x4] st)) := (mw_at mj_319_162).trans ((z_invv (As := [a1, a2]) (by decide) rfl rfl).trans (congrArg (And _) (congrArg (And _) (mC_nl nl_314))))
theorem mj_319_165 : mc_P 319 165 = some (.goto (-110), 3, 0, 0, 0) := by decide +kernel
theorem s_319_165 {x0 x1 x2 x3 x4 : Option Value} : mw d 319 Q 165 [x0, x1, x2, x3, x4] (st) h = mw d 319 Q 55 [x0, x1, x2, x3, x4] (st) h := (mw_at mj_319_165).trans (z_goto (by decide))
theorem mj_319_168 : mc_P 319 168 = some (.iload_n 3, 1, 0, 0, 0) := by decide +kernel
theorem s_319_168 {x0 x1 x2 x4 : Option Value} {w : Value} : mw d 319 Q 168 [x0, x1, x2, some w, x4] (st) h = mv_i w (mw d 319 Q 169 [x0, x1, x2, some w, x4] (w :: st) h) := (mw_at mj_319_168).trans (z_iload_n rfl)
theorem mj_319_169 : mc_P 319 169 = some (.ireturn, 1, 0, 0, 0) := by decide +kernel
theorem s_319_169 {x0 x1 x2 x3 x4 : Option Value} {x : Int32} : mw d 319 Q 169 [x0, x1, x2, x3, x4] ([.int x]) h = (Q (some (.int x)) h) := (mw_at mj_319_169).trans (z_iret)
theorem e_319 {a0 : Nat} {a1 : Int32} : mcall d 319 [.ref a0, .int a1] h Q = mw d 319 Q 0 [some (.ref a0), some (.int a1), none, none, none] [] h := by
  show mw d 319 Q 0 (me_en (mc_nl 319) _) [] h = _
  rw [nl_319]; rfl

/-! InvariantDeskModel.factor(I)I -/
theorem mj_320_0 : mc_P 320 0 = some (.aload_n 0, 1, 0, 0, 0) := by decide +kernel
theorem s_320_0 {x1 x2 x3 x4 x5 : Option Value} {w : Value} : mw d 320 Q 0 [some w, x1, x2, x3, x4, x5] (st) h = mv_a w (mw d 320 Q 1 [some w, x1, x2, x3, x4, x5] (w :: st) h) := (mw_at mj_320_0).trans (z_aload_n rfl)
theorem mj_320_1 : mc_P 320 1 = some (.invokevirtual 249, 3, 310, 14, 1) := by decide +kernel
theorem s_320_1 {x0 x1 x2 x3 x4 x5 : Option Value} {o : Nat} : mw (d + 1) 320 Q 1 [x0, x1, x2, x3, x4, x5] (.ref o :: st) h = (mg h o 14 ∧ mca st 8 ∧ mca [.ref o] 1 ∧ mcall d 310 [.ref o] h (mK (d + 1) 320 Q 4 [x0, x1, x2, x3, x4, x5] st)) := (mw_at mj_320_1).trans ((z_invv (As := []) (by decide) rfl rfl).trans (congrArg (And _) (congrArg (And _) (mC_nl nl_310))))
theorem mj_320_4 : mc_P 320 4 = some (.istore_n 2, 1, 0, 0, 0) := by decide +kernel
theorem s_320_4 {x0 x1 x2 x3 x4 x5 : Option Value} {w : Int32} : mw d 320 Q 4 [x0, x1, x2, x3, x4, x5] (.int w :: st) h = mw d 320 Q 5 [x0, mk2 x1, some (.int w), x3, x4, x5] (st) h := (mw_at mj_320_4).trans (z_istore_n (Nat.le_of_ble_eq_true rfl) (me_s1_mk (j := 1) (w := x1) rfl))
theorem mj_320_5 : mc_P 320 5 = some (.iload_n 2, 1, 0, 0, 0) := by decide +kernel
theorem s_320_5 {x0 x1 x3 x4 x5 : Option Value} {w : Value} : mw d 320 Q 5 [x0, x1, some w, x3, x4, x5] (st) h = mv_i w (mw d 320 Q 6 [x0, x1, some w, x3, x4, x5] (w :: st) h) := (mw_at mj_320_5).trans (z_iload_n rfl)
theorem mj_320_6 : mc_P 320 6 = some (.iconst 3, 1, 0, 0, 0) := by decide +kernel
theorem s_320_6 {x0 x1 x2 x3 x4 x5 : Option Value} : mw d 320 Q 6 [x0, x1, x2, x3, x4, x5] (st) h = mw d 320 Q 7 [x0, x1, x2, x3, x4, x5] (.int 3 :: st) h := (mw_at mj_320_6).trans (z_iconst (by decide))
theorem mj_320_7 : mc_P 320 7 = some (.if_icmp .ne 9, 3, 0, 0, 0) := by decide +kernel
theorem s_320_7 {x0 x1 x2 x3 x4 x5 : Option Value} {x w : Int32} : mw d 320 Q 7 [x0, x1, x2, x3, x4, x5] (.int w :: .int x :: st) h = mB (¬ x = w) (mw d 320 Q) 16 10 [x0, x1, x2, x3, x4, x5] st h := (mw_at mj_320_7).trans (z_icmp_ne (by decide) rfl)
theorem mj_320_10 : mc_P 320 10 = some (.aload_n 0, 1, 0, 0, 0) := by decide +kernel
theorem s_320_10 {x1 x2 x3 x4 x5 : Option Value} {w : Value} : mw d 320 Q 10 [some w, x1, x2, x3, x4, x5] (st) h = mv_a w (mw d 320 Q 11 [some w, x1, x2, x3, x4, x5] (w :: st) h) := (mw_at mj_320_10).trans (z_aload_n rfl)
theorem mj_320_11 : mc_P 320 11 = some (.iconst 0, 1, 0, 0, 0) := by decide +kernel
theorem s_320_11 {x0 x1 x2 x3 x4 x5 : Option Value} : mw d 320 Q 11 [x0, x1, x2, x3, x4, x5] (st) h = mw d 320 Q 12 [x0, x1, x2, x3, x4, x5] (.int 0 :: st) h := (mw_at mj_320_11).trans (z_iconst (by decide))
theorem mj_320_12 : mc_P 320 12 = some (.invokevirtual 279, 3, 316, 14, 2) := by decide +kernel
theorem s_320_12 {x0 x1 x2 x3 x4 x5 : Option Value} {o : Nat} {a1 : Value} : mw (d + 1) 320 Q 12 [x0, x1, x2, x3, x4, x5] (a1 :: .ref o :: st) h = (mg h o 14 ∧ mca st 8 ∧ mca [.ref o, a1] 6 ∧ mcall d 316 [.ref o, a1] h (mK (d + 1) 320 Q 15 [x0, x1, x2, x3, x4, x5] st)) := (mw_at mj_320_12).trans ((z_invv (As := [a1]) (by decide) rfl rfl).trans (congrArg (And _) (congrArg (And _) (mC_nl nl_316))))
theorem mj_320_15 : mc_P 320 15 = some (.ireturn, 1, 0, 0, 0) := by decide +kernel
theorem s_320_15 {x0 x1 x2 x3 x4 x5 : Option Value} {x : Int32} : mw d 320 Q 15 [x0, x1, x2, x3, x4, x5] ([.int x]) h = (Q (some (.int x)) h) := (mw_at mj_320_15).trans (z_iret)
theorem mj_320_16 : mc_P 320 16 = some (.iload_n 2, 1, 0, 0, 0) := by decide +kernel
theorem s_320_16 {x0 x1 x3 x4 x5 : Option Value} {w : Value} : mw d 320 Q 16 [x0, x1, some w, x3, x4, x5] (st) h = mv_i w (mw d 320 Q 17 [x0, x1, some w, x3, x4, x5] (w :: st) h) := (mw_at mj_320_16).trans (z_iload_n rfl)
theorem mj_320_17 : mc_P 320 17 = some (.iconst 2, 1, 0, 0, 0) := by decide +kernel
theorem s_320_17 {x0 x1 x2 x3 x4 x5 : Option Value} : mw d 320 Q 17 [x0, x1, x2, x3, x4, x5] (st) h = mw d 320 Q 18 [x0, x1, x2, x3, x4, x5] (.int 2 :: st) h := (mw_at mj_320_17).trans (z_iconst (by decide))
theorem mj_320_18 : mc_P 320 18 = some (.if_icmp .ne 88, 3, 0, 0, 0) := by decide +kernel
theorem s_320_18 {x0 x1 x2 x3 x4 x5 : Option Value} {x w : Int32} : mw d 320 Q 18 [x0, x1, x2, x3, x4, x5] (.int w :: .int x :: st) h = mB (¬ x = w) (mw d 320 Q) 106 21 [x0, x1, x2, x3, x4, x5] st h := (mw_at mj_320_18).trans (z_icmp_ne (by decide) rfl)
theorem mj_320_21 : mc_P 320 21 = some (.aload_n 0, 1, 0, 0, 0) := by decide +kernel
theorem s_320_21 {x1 x2 x3 x4 x5 : Option Value} {w : Value} : mw d 320 Q 21 [some w, x1, x2, x3, x4, x5] (st) h = mv_a w (mw d 320 Q 22 [some w, x1, x2, x3, x4, x5] (w :: st) h) := (mw_at mj_320_21).trans (z_aload_n rfl)
theorem mj_320_22 : mc_P 320 22 = some (.getfield 16, 3, 14, 5, 0) := by decide +kernel
theorem s_320_22 {x0 x1 x2 x3 x4 x5 : Option Value} {o : Nat} : mw d 320 Q 22 [x0, x1, x2, x3, x4, x5] (.ref o :: st) h = (mg h o 14 ∧ mw d 320 Q 25 [x0, x1, x2, x3, x4, x5] (va_rf (mh_r h o 5) :: st) h) := (mw_at mj_320_22).trans (z_getr (by decide) (by decide) rfl)
theorem mj_320_25 : mc_P 320 25 = some (.aload_n 0, 1, 0, 0, 0) := by decide +kernel
theorem s_320_25 {x1 x2 x3 x4 x5 : Option Value} {w : Value} : mw d 320 Q 25 [some w, x1, x2, x3, x4, x5] (st) h = mv_a w (mw d 320 Q 26 [some w, x1, x2, x3, x4, x5] (w :: st) h) := (mw_at mj_320_25).trans (z_aload_n rfl)
theorem mj_320_26 : mc_P 320 26 = some (.getfield 246, 3, 14, 8, 0) := by decide +kernel
theorem s_320_26 {x0 x1 x2 x3 x4 x5 : Option Value} {o : Nat} : mw d 320 Q 26 [x0, x1, x2, x3, x4, x5] (.ref o :: st) h = (mg h o 14 ∧ mw d 320 Q 29 [x0, x1, x2, x3, x4, x5] (.int (mh_i h o 8) :: st) h) := (mw_at mj_320_26).trans (z_geti (by decide) (by decide) (Or.inl rfl))
theorem mj_320_29 : mc_P 320 29 = some (.iaload, 1, 0, 0, 0) := by decide +kernel
theorem s_320_29 {x0 x1 x2 x3 x4 x5 : Option Value} {o : Nat} {i : Int32} : mw d 320 Q 29 [x0, x1, x2, x3, x4, x5] (.int i :: .ref o :: st) h = (mg h o 100 ∧ mx i (mh_l h o) ∧ mw d 320 Q 30 [x0, x1, x2, x3, x4, x5] (.int (mh_i h o i.toNatClampNeg) :: st) h) := (mw_at mj_320_29).trans (z_iald)
theorem mj_320_30 : mc_P 320 30 = some (.istore_n 3, 1, 0, 0, 0) := by decide +kernel
theorem s_320_30 {x0 x1 x2 x3 x4 x5 : Option Value} {w : Int32} : mw d 320 Q 30 [x0, x1, x2, x3, x4, x5] (.int w :: st) h = mw d 320 Q 31 [x0, x1, mk2 x2, some (.int w), x4, x5] (st) h := (mw_at mj_320_30).trans (z_istore_n (Nat.le_of_ble_eq_true rfl) (me_s1_mk (j := 2) (w := x2) rfl))
theorem mj_320_31 : mc_P 320 31 = some (.aload_n 0, 1, 0, 0, 0) := by decide +kernel
theorem s_320_31 {x1 x2 x3 x4 x5 : Option Value} {w : Value} : mw d 320 Q 31 [some w, x1, x2, x3, x4, x5] (st) h = mv_a w (mw d 320 Q 32 [some w, x1, x2, x3, x4, x5] (w :: st) h) := (mw_at mj_320_31).trans (z_aload_n rfl)
theorem mj_320_32 : mc_P 320 32 = some (.invokevirtual 283, 3, 315, 14, 1) := by decide +kernel
theorem s_320_32 {x0 x1 x2 x3 x4 x5 : Option Value} {o : Nat} : mw (d + 1) 320 Q 32 [x0, x1, x2, x3, x4, x5] (.ref o :: st) h = (mg h o 14 ∧ mca st 8 ∧ mca [.ref o] 2 ∧ mcall d 315 [.ref o] h (mK (d + 1) 320 Q 35 [x0, x1, x2, x3, x4, x5] st)) := (mw_at mj_320_32).trans ((z_invv (As := []) (by decide) rfl rfl).trans (congrArg (And _) (congrArg (And _) (mC_nl nl_315))))
theorem mj_320_35 : mc_P 320 35 = some (.istore 4, 2, 0, 0, 0) := by decide +kernel
theorem s_320_35 {x0 x1 x2 x3 x4 x5 : Option Value} {w : Int32} : mw d 320 Q 35 [x0, x1, x2, x3, x4, x5] (.int w :: st) h = mw d 320 Q 37 [x0, x1, x2, mk2 x3, some (.int w), x5] (st) h := (mw_at mj_320_35).trans (z_istore (Nat.le_of_ble_eq_true rfl) (me_s1_mk (j := 3) (w := x3) rfl))
theorem mj_320_37 : mc_P 320 37 = some (.aload_n 0, 1, 0, 0, 0) := by decide +kernel
theorem s_320_37 {x1 x2 x3 x4 x5 : Option Value} {w : Value} : mw d 320 Q 37 [some w, x1, x2, x3, x4, x5] (st) h = mv_a w (mw d 320 Q 38 [some w, x1, x2, x3, x4, x5] (w :: st) h) := (mw_at mj_320_37).trans (z_aload_n rfl)
theorem mj_320_38 : mc_P 320 38 = some (.invokevirtual 249, 3, 310, 14, 1) := by decide +kernel
theorem s_320_38 {x0 x1 x2 x3 x4 x5 : Option Value} {o : Nat} : mw (d + 1) 320 Q 38 [x0, x1, x2, x3, x4, x5] (.ref o :: st) h = (mg h o 14 ∧ mca st 8 ∧ mca [.ref o] 1 ∧ mcall d 310 [.ref o] h (mK (d + 1) 320 Q 41 [x0, x1, x2, x3, x4, x5] st)) := (mw_at mj_320_38).trans ((z_invv (As := []) (by decide) rfl rfl).trans (congrArg (And _) (congrArg (And _) (mC_nl nl_310))))
theorem mj_320_41 : mc_P 320 41 = some (.bipush 91, 2, 0, 0, 0) := by decide +kernel
theorem s_320_41 {x0 x1 x2 x3 x4 x5 : Option Value} : mw d 320 Q 41 [x0, x1, x2, x3, x4, x5] (st) h = mw d 320 Q 43 [x0, x1, x2, x3, x4, x5] (.int 91 :: st) h := (mw_at mj_320_41).trans (z_bipush (by decide))
theorem mj_320_43 : mc_P 320 43 = some (.if_icmp .eq 6, 3, 0, 0, 0) := by decide +kernel
theorem s_320_43 {x0 x1 x2 x3 x4 x5 : Option Value} {x w : Int32} : mw d 320 Q 43 [x0, x1, x2, x3, x4, x5] (.int w :: .int x :: st) h = mB (x = w) (mw d 320 Q) 49 46 [x0, x1, x2, x3, x4, x5] st h := (mw_at mj_320_43).trans (z_icmp_eq (by decide) rfl)
theorem mj_320_46 : mc_P 320 46 = some (.iload 4, 2, 0, 0, 0) := by decide +kernel
theorem s_320_46 {x0 x1 x2 x3 x5 : Option Value} {w : Value} : mw d 320 Q 46 [x0, x1, x2, x3, some w, x5] (st) h = mv_i w (mw d 320 Q 48 [x0, x1, x2, x3, some w, x5] (w :: st) h) := (mw_at mj_320_46).trans (z_iload rfl)
theorem mj_320_48 : mc_P 320 48 = some (.ireturn, 1, 0, 0, 0) := by decide +kernel
theorem s_320_48 {x0 x1 x2 x3 x4 x5 : Option Value} {x : Int32} : mw d 320 Q 48 [x0, x1, x2, x3, x4, x5] ([.int x]) h = (Q (some (.int x)) h) := (mw_at mj_320_48).trans (z_iret)
theorem mj_320_49 : mc_P 320 49 = some (.aload_n 0, 1, 0, 0, 0) := by decide +kernel
theorem s_320_49 {x1 x2 x3 x4 x5 : Option Value} {w : Value} : mw d 320 Q 49 [some w, x1, x2, x3, x4, x5] (st) h = mv_a w (mw d 320 Q 50 [some w, x1, x2, x3, x4, x5] (w :: st) h) := (mw_at mj_320_49).trans (z_aload_n rfl)
theorem mj_320_50 : mc_P 320 50 = some (.bipush 14, 2, 0, 0, 0) := by decide +kernel
theorem s_320_50 {x0 x1 x2 x3 x4 x5 : Option Value} : mw d 320 Q 50 [x0, x1, x2, x3, x4, x5] (st) h = mw d 320 Q 52 [x0, x1, x2, x3, x4, x5] (.int 14 :: st) h := (mw_at mj_320_50).trans (z_bipush (by decide))
theorem mj_320_52 : mc_P 320 52 = some (.iload_n 3, 1, 0, 0, 0) := by decide +kernel
theorem s_320_52 {x0 x1 x2 x4 x5 : Option Value} {w : Value} : mw d 320 Q 52 [x0, x1, x2, some w, x4, x5] (st) h = mv_i w (mw d 320 Q 53 [x0, x1, x2, some w, x4, x5] (w :: st) h) := (mw_at mj_320_52).trans (z_iload_n rfl)
theorem mj_320_53 : mc_P 320 53 = some (.iconst 0, 1, 0, 0, 0) := by decide +kernel
theorem s_320_53 {x0 x1 x2 x3 x4 x5 : Option Value} : mw d 320 Q 53 [x0, x1, x2, x3, x4, x5] (st) h = mw d 320 Q 54 [x0, x1, x2, x3, x4, x5] (.int 0 :: st) h := (mw_at mj_320_53).trans (z_iconst (by decide))
theorem mj_320_54 : mc_P 320 54 = some (.invokevirtual 259, 3, 313, 14, 4) := by decide +kernel
theorem s_320_54 {x0 x1 x2 x3 x4 x5 : Option Value} {o : Nat} {a1 a2 a3 : Value} : mw (d + 1) 320 Q 54 [x0, x1, x2, x3, x4, x5] (a3 :: a2 :: a1 :: .ref o :: st) h = (mg h o 14 ∧ mca st 8 ∧ mca [.ref o, a1, a2, a3] 4 ∧ mcall d 313 [.ref o, a1, a2, a3] h (mK (d + 1) 320 Q 57 [x0, x1, x2, x3, x4, x5] st)) := (mw_at mj_320_54).trans ((z_invv (As := [a1, a2, a3]) (by decide) rfl rfl).trans (congrArg (And _) (congrArg (And _) (mC_nl nl_313))))
theorem mj_320_57 : mc_P 320 57 = some (.istore 5, 2, 0, 0, 0) := by decide +kernel
theorem s_320_57 {x0 x1 x2 x3 x4 x5 : Option Value} {w : Int32} : mw d 320 Q 57 [x0, x1, x2, x3, x4, x5] (.int w :: st) h = mw d 320 Q 59 [x0, x1, x2, x3, mk2 x4, some (.int w)] (st) h := (mw_at mj_320_57).trans (z_istore (Nat.le_of_ble_eq_true rfl) (me_s1_mk (j := 4) (w := x4) rfl))
theorem mj_320_59 : mc_P 320 59 = some (.aload_n 0, 1, 0, 0, 0) := by decide +kernel
theorem s_320_59 {x1 x2 x3 x4 x5 : Option Value} {w : Value} : mw d 320 Q 59 [some w, x1, x2, x3, x4, x5] (st) h = mv_a w (mw d 320 Q 60 [some w, x1, x2, x3, x4, x5] (w :: st) h) := (mw_at mj_320_59).trans (z_aload_n rfl)
theorem mj_320_60 : mc_P 320 60 = some (.iload 5, 2, 0, 0, 0) := by decide +kernel
theorem s_320_60 {x0 x1 x2 x3 x4 : Option Value} {w : Value} : mw d 320 Q 60 [x0, x1, x2, x3, x4, some w] (st) h = mv_i w (mw d 320 Q 62 [x0, x1, x2, x3, x4, some w] (w :: st) h) := (mw_at mj_320_60).trans (z_iload rfl)
theorem mj_320_62 : mc_P 320 62 = some (.iload 4, 2, 0, 0, 0) := by decide +kernel
theorem s_320_62 {x0 x1 x2 x3 x5 : Option Value} {w : Value} : mw d 320 Q 62 [x0, x1, x2, x3, some w, x5] (st) h = mv_i w (mw d 320 Q 64 [x0, x1, x2, x3, some w, x5] (w :: st) h) := (mw_at mj_320_62).trans (z_iload rfl)
theorem mj_320_64 : mc_P 320 64 = some (.invokevirtual 272, 3, 314, 14, 3) := by decide +kernel
theorem s_320_64 {x0 x1 x2 x3 x4 x5 : Option Value} {o : Nat} {a1 a2 : Value} : mw (d + 1) 320 Q 64 [x0, x1, x2, x3, x4, x5] (a2 :: a1 :: .ref o :: st) h = (mg h o 14 ∧ mca st 8 ∧ mca [.ref o, a1, a2] 3 ∧ mcall d 314 [.ref o, a1, a2] h (mK (d + 1) 320 Q 67 [x0, x1, x2, x3, x4, x5] st)) := (mw_at mj_320_64).trans ((z_invv (As := [a1, a2]) (by decide) rfl rfl).trans (congrArg (And _) (congrArg (And _) (mC_nl nl_314))))
theorem mj_320_67 : mc_P 320 67 = some (.aload_n 0, 1, 0, 0, 0) := by decide +kernel
theorem s_320_67 {x1 x2 x3 x4 x5 : Option Value} {w : Value} : mw d 320 Q 67 [some w, x1, x2, x3, x4, x5] (st) h = mv_a w (mw d 320 Q 68 [some w, x1, x2, x3, x4, x5] (w :: st) h) := (mw_at mj_320_67).trans (z_aload_n rfl)
theorem mj_320_68 : mc_P 320 68 = some (.bipush 91, 2, 0, 0, 0) := by decide +kernel
theorem s_320_68 {x0 x1 x2 x3 x4 x5 : Option Value} : mw d 320 Q 68 [x0, x1, x2, x3, x4, x5] (st) h = mw d 320 Q 70 [x0, x1, x2, x3, x4, x5] (.int 91 :: st) h := (mw_at mj_320_68).trans (z_bipush (by decide))
theorem mj_320_70 : mc_P 320 70 = some (.invokevirtual 262, 3, 312, 14, 2) := by decide +kernel
theorem s_320_70 {x0 x1 x2 x3 x4 x5 : Option Value} {o : Nat} {a1 : Value} : mw (d + 1) 320 Q 70 [x0, x1, x2, x3, x4, x5] (a1 :: .ref o :: st) h = (mg h o 14 ∧ mca st 8 ∧ mca [.ref o, a1] 2 ∧ mcall d 312 [.ref o, a1] h (mK (d + 1) 320 Q 73 [x0, x1, x2, x3, x4, x5] st)) := (mw_at mj_320_70).trans ((z_invv (As := [a1]) (by decide) rfl rfl).trans (congrArg (And _) (congrArg (And _) (mC_nl nl_312))))
theorem mj_320_73 : mc_P 320 73 = some (.aload_n 0, 1, 0, 0, 0) := by decide +kernel
theorem s_320_73 {x1 x2 x3 x4 x5 : Option Value} {w : Value} : mw d 320 Q 73 [some w, x1, x2, x3, x4, x5] (st) h = mv_a w (mw d 320 Q 74 [some w, x1, x2, x3, x4, x5] (w :: st) h) := (mw_at mj_320_73).trans (z_aload_n rfl)
theorem mj_320_74 : mc_P 320 74 = some (.iload 5, 2, 0, 0, 0) := by decide +kernel
theorem s_320_74 {x0 x1 x2 x3 x4 : Option Value} {w : Value} : mw d 320 Q 74 [x0, x1, x2, x3, x4, some w] (st) h = mv_i w (mw d 320 Q 76 [x0, x1, x2, x3, x4, some w] (w :: st) h) := (mw_at mj_320_74).trans (z_iload rfl)
theorem mj_320_76 : mc_P 320 76 = some (.aload_n 0, 1, 0, 0, 0) := by decide +kernel
theorem s_320_76 {x1 x2 x3 x4 x5 : Option Value} {w : Value} : mw d 320 Q 76 [some w, x1, x2, x3, x4, x5] (st) h = mv_a w (mw d 320 Q 77 [some w, x1, x2, x3, x4, x5] (w :: st) h) := (mw_at mj_320_76).trans (z_aload_n rfl)
theorem mj_320_77 : mc_P 320 77 = some (.getfield 242, 3, 14, 9, 0) := by decide +kernel
theorem s_320_77 {x0 x1 x2 x3 x4 x5 : Option Value} {o : Nat} : mw d 320 Q 77 [x0, x1, x2, x3, x4, x5] (.ref o :: st) h = (mg h o 14 ∧ mw d 320 Q 80 [x0, x1, x2, x3, x4, x5] (.int (mh_i h o 9) :: st) h) := (mw_at mj_320_77).trans (z_geti (by decide) (by decide) (Or.inr rfl))
theorem mj_320_80 : mc_P 320 80 = some (.ifCond .eq 7, 3, 0, 0, 0) := by decide +kernel
theorem s_320_80 {x0 x1 x2 x3 x4 x5 : Option Value} {x : Int32} : mw d 320 Q 80 [x0, x1, x2, x3, x4, x5] (.int x :: st) h = mB (x = 0) (mw d 320 Q) 87 83 [x0, x1, x2, x3, x4, x5] st h := (mw_at mj_320_80).trans (z_if_eq (by decide) rfl)
theorem mj_320_83 : mc_P 320 83 = some (.iconst (-1), 1, 0, 0, 0) := by decide +kernel
theorem s_320_83 {x0 x1 x2 x3 x4 x5 : Option Value} : mw d 320 Q 83 [x0, x1, x2, x3, x4, x5] (st) h = mw d 320 Q 84 [x0, x1, x2, x3, x4, x5] (.int (-1) :: st) h := (mw_at mj_320_83).trans (z_iconst (by decide))
theorem mj_320_84 : mc_P 320 84 = some (.goto 10, 3, 0, 0, 0) := by decide +kernel
theorem s_320_84 {x0 x1 x2 x3 x4 x5 : Option Value} : mw d 320 Q 84 [x0, x1, x2, x3, x4, x5] (st) h = mw d 320 Q 94 [x0, x1, x2, x3, x4, x5] (st) h := (mw_at mj_320_84).trans (z_goto (by decide))
theorem mj_320_87 : mc_P 320 87 = some (.aload_n 0, 1, 0, 0, 0) := by decide +kernel
theorem s_320_87 {x1 x2 x3 x4 x5 : Option Value} {w : Value} : mw d 320 Q 87 [some w, x1, x2, x3, x4, x5] (st) h = mv_a w (mw d 320 Q 88 [some w, x1, x2, x3, x4, x5] (w :: st) h) := (mw_at mj_320_87).trans (z_aload_n rfl)
theorem mj_320_88 : mc_P 320 88 = some (.iload_n 1, 1, 0, 0, 0) := by decide +kernel
theorem s_320_88 {x0 x2 x3 x4 x5 : Option Value} {w : Value} : mw d 320 Q 88 [x0, some w, x2, x3, x4, x5] (st) h = mv_i w (mw d 320 Q 89 [x0, some w, x2, x3, x4, x5] (w :: st) h) := (mw_at mj_320_88).trans (z_iload_n rfl)
theorem mj_320_89 : mc_P 320 89 = some (.iconst 1, 1, 0, 0, 0) := by decide +kernel
theorem s_320_89 {x0 x1 x2 x3 x4 x5 : Option Value} : mw d 320 Q 89 [x0, x1, x2, x3, x4, x5] (st) h = mw d 320 Q 90 [x0, x1, x2, x3, x4, x5] (.int 1 :: st) h := (mw_at mj_320_89).trans (z_iconst (by decide))
theorem mj_320_90 : mc_P 320 90 = some (.iadd, 1, 0, 0, 0) := by decide +kernel
theorem s_320_90 {x0 x1 x2 x3 x4 x5 : Option Value} {x w : Int32} : mw d 320 Q 90 [x0, x1, x2, x3, x4, x5] (.int w :: .int x :: st) h = mw d 320 Q 91 [x0, x1, x2, x3, x4, x5] (.int (x + w) :: st) h := (mw_at mj_320_90).trans (z_iadd)
theorem mj_320_91 : mc_P 320 91 = some (.invokevirtual 286, 3, 318, 14, 2) := by decide +kernel
theorem s_320_91 {x0 x1 x2 x3 x4 x5 : Option Value} {o : Nat} {a1 : Value} : mw (d + 1) 320 Q 91 [x0, x1, x2, x3, x4, x5] (a1 :: .ref o :: st) h = (mg h o 14 ∧ mca st 8 ∧ mca [.ref o, a1] 5 ∧ mcall d 318 [.ref o, a1] h (mK (d + 1) 320 Q 94 [x0, x1, x2, x3, x4, x5] st)) := (mw_at mj_320_91).trans ((z_invv (As := [a1]) (by decide) rfl rfl).trans (congrArg (And _) (congrArg (And _) (mC_nl nl_318))))
theorem mj_320_94 : mc_P 320 94 = some (.invokevirtual 272, 3, 314, 14, 3) := by decide +kernel
theorem s_320_94 {x0 x1 x2 x3 x4 x5 : Option Value} {o : Nat} {a1 a2 : Value} : mw (d + 1) 320 Q 94 [x0, x1, x2, x3, x4, x5] (a2 :: a1 :: .ref o :: st) h = (mg h o 14 ∧ mca st 8 ∧ mca [.ref o, a1, a2] 3 ∧ mcall d 314 [.ref o, a1, a2] h (mK (d + 1) 320 Q 97 [x0, x1, x2, x3, x4, x5] st)) := (mw_at mj_320_94).trans ((z_invv (As := [a1, a2]) (by decide) rfl rfl).trans (congrArg (And _) (congrArg (And _) (mC_nl nl_314))))
theorem mj_320_97 : mc_P 320 97 = some (.aload_n 0, 1, 0, 0, 0) := by decide +kernel
theorem s_320_97 {x1 x2 x3 x4 x5 : Option Value} {w : Value} : mw d 320 Q 97 [some w, x1, x2, x3, x4, x5] (st) h = mv_a w (mw d 320 Q 98 [some w, x1, x2, x3, x4, x5] (w :: st) h) := (mw_at mj_320_97).trans (z_aload_n rfl)
theorem mj_320_98 : mc_P 320 98 = some (.bipush 93, 2, 0, 0, 0) := by decide +kernel
theorem s_320_98 {x0 x1 x2 x3 x4 x5 : Option Value} : mw d 320 Q 98 [x0, x1, x2, x3, x4, x5] (st) h = mw d 320 Q 100 [x0, x1, x2, x3, x4, x5] (.int 93 :: st) h := (mw_at mj_320_98).trans (z_bipush (by decide))
theorem mj_320_100 : mc_P 320 100 = some (.invokevirtual 262, 3, 312, 14, 2) := by decide +kernel
theorem s_320_100 {x0 x1 x2 x3 x4 x5 : Option Value} {o : Nat} {a1 : Value} : mw (d + 1) 320 Q 100 [x0, x1, x2, x3, x4, x5] (a1 :: .ref o :: st) h = (mg h o 14 ∧ mca st 8 ∧ mca [.ref o, a1] 2 ∧ mcall d 312 [.ref o, a1] h (mK (d + 1) 320 Q 103 [x0, x1, x2, x3, x4, x5] st)) := (mw_at mj_320_100).trans ((z_invv (As := [a1]) (by decide) rfl rfl).trans (congrArg (And _) (congrArg (And _) (mC_nl nl_312))))
theorem mj_320_103 : mc_P 320 103 = some (.iload 5, 2, 0, 0, 0) := by decide +kernel
theorem s_320_103 {x0 x1 x2 x3 x4 : Option Value} {w : Value} : mw d 320 Q 103 [x0, x1, x2, x3, x4, some w] (st) h = mv_i w (mw d 320 Q 105 [x0, x1, x2, x3, x4, some w] (w :: st) h) := (mw_at mj_320_103).trans (z_iload rfl)
theorem mj_320_105 : mc_P 320 105 = some (.ireturn, 1, 0, 0, 0) := by decide +kernel
theorem s_320_105 {x0 x1 x2 x3 x4 x5 : Option Value} {x : Int32} : mw d 320 Q 105 [x0, x1, x2, x3, x4, x5] ([.int x]) h = (Q (some (.int x)) h) := (mw_at mj_320_105).trans (z_iret)
theorem mj_320_106 : mc_P 320 106 = some (.iload_n 2, 1, 0, 0, 0) := by decide +kernel
theorem s_320_106 {x0 x1 x3 x4 x5 : Option Value} {w : Value} : mw d 320 Q 106 [x0, x1, some w, x3, x4, x5] (st) h = mv_i w (mw d 320 Q 107 [x0, x1, some w, x3, x4, x5] (w :: st) h) := (mw_at mj_320_106).trans (z_iload_n rfl)
theorem mj_320_107 : mc_P 320 107 = some (.bipush 45, 2, 0, 0, 0) := by decide +kernel
theorem s_320_107 {x0 x1 x2 x3 x4 x5 : Option Value} : mw d 320 Q 107 [x0, x1, x2, x3, x4, x5] (st) h = mw d 320 Q 109 [x0, x1, x2, x3, x4, x5] (.int 45 :: st) h := (mw_at mj_320_107).trans (z_bipush (by decide))
theorem mj_320_109 : mc_P 320 109 = some (.if_icmp .ne 58, 3, 0, 0, 0) := by decide +kernel
theorem s_320_109 {x0 x1 x2 x3 x4 x5 : Option Value} {x w : Int32} : mw d 320 Q 109 [x0, x1, x2, x3, x4, x5] (.int w :: .int x :: st) h = mB (¬ x = w) (mw d 320 Q) 167 112 [x0, x1, x2, x3, x4, x5] st h := (mw_at mj_320_109).trans (z_icmp_ne (by decide) rfl)
theorem mj_320_112 : mc_P 320 112 = some (.aload_n 0, 1, 0, 0, 0) := by decide +kernel
theorem s_320_112 {x1 x2 x3 x4 x5 : Option Value} {w : Value} : mw d 320 Q 112 [some w, x1, x2, x3, x4, x5] (st) h = mv_a w (mw d 320 Q 113 [some w, x1, x2, x3, x4, x5] (w :: st) h) := (mw_at mj_320_112).trans (z_aload_n rfl)
theorem mj_320_113 : mc_P 320 113 = some (.bipush 15, 2, 0, 0, 0) := by decide +kernel
theorem s_320_113 {x0 x1 x2 x3 x4 x5 : Option Value} : mw d 320 Q 113 [x0, x1, x2, x3, x4, x5] (st) h = mw d 320 Q 115 [x0, x1, x2, x3, x4, x5] (.int 15 :: st) h := (mw_at mj_320_113).trans (z_bipush (by decide))
theorem mj_320_115 : mc_P 320 115 = some (.aload_n 0, 1, 0, 0, 0) := by decide +kernel
theorem s_320_115 {x1 x2 x3 x4 x5 : Option Value} {w : Value} : mw d 320 Q 115 [some w, x1, x2, x3, x4, x5] (st) h = mv_a w (mw d 320 Q 116 [some w, x1, x2, x3, x4, x5] (w :: st) h) := (mw_at mj_320_115).trans (z_aload_n rfl)
theorem mj_320_116 : mc_P 320 116 = some (.getfield 16, 3, 14, 5, 0) := by decide +kernel
theorem s_320_116 {x0 x1 x2 x3 x4 x5 : Option Value} {o : Nat} : mw d 320 Q 116 [x0, x1, x2, x3, x4, x5] (.ref o :: st) h = (mg h o 14 ∧ mw d 320 Q 119 [x0, x1, x2, x3, x4, x5] (va_rf (mh_r h o 5) :: st) h) := (mw_at mj_320_116).trans (z_getr (by decide) (by decide) rfl)
theorem mj_320_119 : mc_P 320 119 = some (.aload_n 0, 1, 0, 0, 0) := by decide +kernel
theorem s_320_119 {x1 x2 x3 x4 x5 : Option Value} {w : Value} : mw d 320 Q 119 [some w, x1, x2, x3, x4, x5] (st) h = mv_a w (mw d 320 Q 120 [some w, x1, x2, x3, x4, x5] (w :: st) h) := (mw_at mj_320_119).trans (z_aload_n rfl)
theorem mj_320_120 : mc_P 320 120 = some (.getfield 246, 3, 14, 8, 0) := by decide +kernel
theorem s_320_120 {x0 x1 x2 x3 x4 x5 : Option Value} {o : Nat} : mw d 320 Q 120 [x0, x1, x2, x3, x4, x5] (.ref o :: st) h = (mg h o 14 ∧ mw d 320 Q 123 [x0, x1, x2, x3, x4, x5] (.int (mh_i h o 8) :: st) h) := (mw_at mj_320_120).trans (z_geti (by decide) (by decide) (Or.inl rfl))
theorem mj_320_123 : mc_P 320 123 = some (.iaload, 1, 0, 0, 0) := by decide +kernel
theorem s_320_123 {x0 x1 x2 x3 x4 x5 : Option Value} {o : Nat} {i : Int32} : mw d 320 Q 123 [x0, x1, x2, x3, x4, x5] (.int i :: .ref o :: st) h = (mg h o 100 ∧ mx i (mh_l h o) ∧ mw d 320 Q 124 [x0, x1, x2, x3, x4, x5] (.int (mh_i h o i.toNatClampNeg) :: st) h) := (mw_at mj_320_123).trans (z_iald)
theorem mj_320_124 : mc_P 320 124 = some (.iconst 0, 1, 0, 0, 0) := by decide +kernel
theorem s_320_124 {x0 x1 x2 x3 x4 x5 : Option Value} : mw d 320 Q 124 [x0, x1, x2, x3, x4, x5] (st) h = mw d 320 Q 125 [x0, x1, x2, x3, x4, x5] (.int 0 :: st) h := (mw_at mj_320_124).trans (z_iconst (by decide))
theorem mj_320_125 : mc_P 320 125 = some (.invokevirtual 259, 3, 313, 14, 4) := by decide +kernel
theorem s_320_125 {x0 x1 x2 x3 x4 x5 : Option Value} {o : Nat} {a1 a2 a3 : Value} : mw (d + 1) 320 Q 125 [x0, x1, x2, x3, x4, x5] (a3 :: a2 :: a1 :: .ref o :: st) h = (mg h o 14 ∧ mca st 8 ∧ mca [.ref o, a1, a2, a3] 4 ∧ mcall d 313 [.ref o, a1, a2, a3] h (mK (d + 1) 320 Q 128 [x0, x1, x2, x3, x4, x5] st)) := (mw_at mj_320_125).trans ((z_invv (As := [a1, a2, a3]) (by decide) rfl rfl).trans (congrArg (And _) (congrArg (And _) (mC_nl nl_313))))
theorem mj_320_128 : mc_P 320 128 = some (.istore_n 3, 1, 0, 0, 0) := by decide +kernel
theorem s_320_128 {x0 x1 x2 x3 x4 x5 : Option Value} {w : Int32} : mw d 320 Q 128 [x0, x1, x2, x3, x4, x5] (.int w :: st) h = mw d 320 Q 129 [x0, x1, mk2 x2, some (.int w), x4, x5] (st) h := (mw_at mj_320_128).trans (z_istore_n (Nat.le_of_ble_eq_true rfl) (me_s1_mk (j := 2) (w := x2) rfl))
theorem mj_320_129 : mc_P 320 129 = some (.aload_n 0, 1, 0, 0, 0) := by decide +kernel
theorem s_320_129 {x1 x2 x3 x4 x5 : Option Value} {w : Value} : mw d 320 Q 129 [some w, x1, x2, x3, x4, x5] (st) h = mv_a w (mw d 320 Q 130 [some w, x1, x2, x3, x4, x5] (w :: st) h) := (mw_at mj_320_129).trans (z_aload_n rfl)
theorem mj_320_130 : mc_P 320 130 = some (.bipush 45, 2, 0, 0, 0) := by decide +kernel
theorem s_320_130 {x0 x1 x2 x3 x4 x5 : Option Value} : mw d 320 Q 130 [x0, x1, x2, x3, x4, x5] (st) h = mw d 320 Q 132 [x0, x1, x2, x3, x4, x5] (.int 45 :: st) h := (mw_at mj_320_130).trans (z_bipush (by decide))
theorem mj_320_132 : mc_P 320 132 = some (.invokevirtual 262, 3, 312, 14, 2) := by decide +kernel
theorem s_320_132 {x0 x1 x2 x3 x4 x5 : Option Value} {o : Nat} {a1 : Value} : mw (d + 1) 320 Q 132 [x0, x1, x2, x3, x4, x5] (a1 :: .ref o :: st) h = (mg h o 14 ∧ mca st 8 ∧ mca [.ref o, a1] 2 ∧ mcall d 312 [.ref o, a1] h (mK (d + 1) 320 Q 135 [x0, x1, x2, x3, x4, x5] st)) := (mw_at mj_320_132).trans ((z_invv (As := [a1]) (by decide) rfl rfl).trans (congrArg (And _) (congrArg (And _) (mC_nl nl_312))))
theorem mj_320_135 : mc_P 320 135 = some (.aload_n 0, 1, 0, 0, 0) := by decide +kernel
theorem s_320_135 {x1 x2 x3 x4 x5 : Option Value} {w : Value} : mw d 320 Q 135 [some w, x1, x2, x3, x4, x5] (st) h = mv_a w (mw d 320 Q 136 [some w, x1, x2, x3, x4, x5] (w :: st) h) := (mw_at mj_320_135).trans (z_aload_n rfl)
theorem mj_320_136 : mc_P 320 136 = some (.iload_n 1, 1, 0, 0, 0) := by decide +kernel
theorem s_320_136 {x0 x2 x3 x4 x5 : Option Value} {w : Value} : mw d 320 Q 136 [x0, some w, x2, x3, x4, x5] (st) h = mv_i w (mw d 320 Q 137 [x0, some w, x2, x3, x4, x5] (w :: st) h) := (mw_at mj_320_136).trans (z_iload_n rfl)
theorem mj_320_137 : mc_P 320 137 = some (.iconst 1, 1, 0, 0, 0) := by decide +kernel
theorem s_320_137 {x0 x1 x2 x3 x4 x5 : Option Value} : mw d 320 Q 137 [x0, x1, x2, x3, x4, x5] (st) h = mw d 320 Q 138 [x0, x1, x2, x3, x4, x5] (.int 1 :: st) h := (mw_at mj_320_137).trans (z_iconst (by decide))
theorem mj_320_138 : mc_P 320 138 = some (.iadd, 1, 0, 0, 0) := by decide +kernel
theorem s_320_138 {x0 x1 x2 x3 x4 x5 : Option Value} {x w : Int32} : mw d 320 Q 138 [x0, x1, x2, x3, x4, x5] (.int w :: .int x :: st) h = mw d 320 Q 139 [x0, x1, x2, x3, x4, x5] (.int (x + w) :: st) h := (mw_at mj_320_138).trans (z_iadd)
theorem mj_320_139 : mc_P 320 139 = some (.invokevirtual 266, 3, 317, 14, 2) := by decide +kernel
theorem s_320_139 {x0 x1 x2 x3 x4 x5 : Option Value} {o : Nat} {a1 : Value} : mw (d + 1) 320 Q 139 [x0, x1, x2, x3, x4, x5] (a1 :: .ref o :: st) h = (mg h o 14 ∧ mca st 8 ∧ mca [.ref o, a1] 2 ∧ mcall d 317 [.ref o, a1] h (mK (d + 1) 320 Q 142 [x0, x1, x2, x3, x4, x5] st)) := (mw_at mj_320_139).trans ((z_invv (As := [a1]) (by decide) rfl rfl).trans (congrArg (And _) (congrArg (And _) (mC_nl nl_317))))
theorem mj_320_142 : mc_P 320 142 = some (.aload_n 0, 1, 0, 0, 0) := by decide +kernel
theorem s_320_142 {x1 x2 x3 x4 x5 : Option Value} {w : Value} : mw d 320 Q 142 [some w, x1, x2, x3, x4, x5] (st) h = mv_a w (mw d 320 Q 143 [some w, x1, x2, x3, x4, x5] (w :: st) h) := (mw_at mj_320_142).trans (z_aload_n rfl)
theorem mj_320_143 : mc_P 320 143 = some (.iload_n 3, 1, 0, 0, 0) := by decide +kernel
theorem s_320_143 {x0 x1 x2 x4 x5 : Option Value} {w : Value} : mw d 320 Q 143 [x0, x1, x2, some w, x4, x5] (st) h = mv_i w (mw d 320 Q 144 [x0, x1, x2, some w, x4, x5] (w :: st) h) := (mw_at mj_320_143).trans (z_iload_n rfl)
theorem mj_320_144 : mc_P 320 144 = some (.aload_n 0, 1, 0, 0, 0) := by decide +kernel
theorem s_320_144 {x1 x2 x3 x4 x5 : Option Value} {w : Value} : mw d 320 Q 144 [some w, x1, x2, x3, x4, x5] (st) h = mv_a w (mw d 320 Q 145 [some w, x1, x2, x3, x4, x5] (w :: st) h) := (mw_at mj_320_144).trans (z_aload_n rfl)
theorem mj_320_145 : mc_P 320 145 = some (.getfield 242, 3, 14, 9, 0) := by decide +kernel
theorem s_320_145 {x0 x1 x2 x3 x4 x5 : Option Value} {o : Nat} : mw d 320 Q 145 [x0, x1, x2, x3, x4, x5] (.ref o :: st) h = (mg h o 14 ∧ mw d 320 Q 148 [x0, x1, x2, x3, x4, x5] (.int (mh_i h o 9) :: st) h) := (mw_at mj_320_145).trans (z_geti (by decide) (by decide) (Or.inr rfl))
theorem mj_320_148 : mc_P 320 148 = some (.ifCond .eq 7, 3, 0, 0, 0) := by decide +kernel
theorem s_320_148 {x0 x1 x2 x3 x4 x5 : Option Value} {x : Int32} : mw d 320 Q 148 [x0, x1, x2, x3, x4, x5] (.int x :: st) h = mB (x = 0) (mw d 320 Q) 155 151 [x0, x1, x2, x3, x4, x5] st h := (mw_at mj_320_148).trans (z_if_eq (by decide) rfl)
theorem mj_320_151 : mc_P 320 151 = some (.iconst (-1), 1, 0, 0, 0) := by decide +kernel
theorem s_320_151 {x0 x1 x2 x3 x4 x5 : Option Value} : mw d 320 Q 151 [x0, x1, x2, x3, x4, x5] (st) h = mw d 320 Q 152 [x0, x1, x2, x3, x4, x5] (.int (-1) :: st) h := (mw_at mj_320_151).trans (z_iconst (by decide))
theorem mj_320_152 : mc_P 320 152 = some (.goto 10, 3, 0, 0, 0) := by decide +kernel
theorem s_320_152 {x0 x1 x2 x3 x4 x5 : Option Value} : mw d 320 Q 152 [x0, x1, x2, x3, x4, x5] (st) h = mw d 320 Q 162 [x0, x1, x2, x3, x4, x5] (st) h := (mw_at mj_320_152).trans (z_goto (by decide))
theorem mj_320_155 : mc_P 320 155 = some (.aload_n 0, 1, 0, 0, 0) := by decide +kernel
theorem s_320_155 {x1 x2 x3 x4 x5 : Option Value} {w : Value} : mw d 320 Q 155 [some w, x1, x2, x3, x4, x5] (st) h = mv_a w (mw d 320 Q 156 [some w, x1, x2, x3, x4, x5] (w :: st) h) := (mw_at mj_320_155).trans (z_aload_n rfl)
theorem mj_320_156 : mc_P 320 156 = some (.iload_n 1, 1, 0, 0, 0) := by decide +kernel
theorem s_320_156 {x0 x2 x3 x4 x5 : Option Value} {w : Value} : mw d 320 Q 156 [x0, some w, x2, x3, x4, x5] (st) h = mv_i w (mw d 320 Q 157 [x0, some w, x2, x3, x4, x5] (w :: st) h) := (mw_at mj_320_156).trans (z_iload_n rfl)
theorem mj_320_157 : mc_P 320 157 = some (.iconst 1, 1, 0, 0, 0) := by decide +kernel
theorem s_320_157 {x0 x1 x2 x3 x4 x5 : Option Value} : mw d 320 Q 157 [x0, x1, x2, x3, x4, x5] (st) h = mw d 320 Q 158 [x0, x1, x2, x3, x4, x5] (.int 1 :: st) h := (mw_at mj_320_157).trans (z_iconst (by decide))
theorem mj_320_158 : mc_P 320 158 = some (.iadd, 1, 0, 0, 0) := by decide +kernel
theorem s_320_158 {x0 x1 x2 x3 x4 x5 : Option Value} {x w : Int32} : mw d 320 Q 158 [x0, x1, x2, x3, x4, x5] (.int w :: .int x :: st) h = mw d 320 Q 159 [x0, x1, x2, x3, x4, x5] (.int (x + w) :: st) h := (mw_at mj_320_158).trans (z_iadd)
theorem mj_320_159 : mc_P 320 159 = some (.invokevirtual 276, 3, 320, 14, 2) := by decide +kernel
theorem s_320_159 {x0 x1 x2 x3 x4 x5 : Option Value} {o : Nat} {a1 : Value} : mw (d + 1) 320 Q 159 [x0, x1, x2, x3, x4, x5] (a1 :: .ref o :: st) h = (mg h o 14 ∧ mca st 8 ∧ mca [.ref o, a1] 6 ∧ mcall d 320 [.ref o, a1] h (mK (d + 1) 320 Q 162 [x0, x1, x2, x3, x4, x5] st)) := (mw_at mj_320_159).trans ((z_invv (As := [a1]) (by decide) rfl rfl).trans (congrArg (And _) (congrArg (And _) (mC_nl nl_320))))
theorem mj_320_162 : mc_P 320 162 = some (.invokevirtual 272, 3, 314, 14, 3) := by decide +kernel
theorem s_320_162 {x0 x1 x2 x3 x4 x5 : Option Value} {o : Nat} {a1 a2 : Value} : mw (d + 1) 320 Q 162 [x0, x1, x2, x3, x4, x5] (a2 :: a1 :: .ref o :: st) h = (mg h o 14 ∧ mca st 8 ∧ mca [.ref o, a1, a2] 3 ∧ mcall d 314 [.ref o, a1, a2] h (mK (d + 1) 320 Q 165 [x0, x1, x2, x3, x4, x5] st)) := (mw_at mj_320_162).trans ((z_invv (As := [a1, a2]) (by decide) rfl rfl).trans (congrArg (And _) (congrArg (And _) (mC_nl nl_314))))
theorem mj_320_165 : mc_P 320 165 = some (.iload_n 3, 1, 0, 0, 0) := by decide +kernel
theorem s_320_165 {x0 x1 x2 x4 x5 : Option Value} {w : Value} : mw d 320 Q 165 [x0, x1, x2, some w, x4, x5] (st) h = mv_i w (mw d 320 Q 166 [x0, x1, x2, some w, x4, x5] (w :: st) h) := (mw_at mj_320_165).trans (z_iload_n rfl)
theorem mj_320_166 : mc_P 320 166 = some (.ireturn, 1, 0, 0, 0) := by decide +kernel
theorem s_320_166 {x0 x1 x2 x3 x4 x5 : Option Value} {x : Int32} : mw d 320 Q 166 [x0, x1, x2, x3, x4, x5] ([.int x]) h = (Q (some (.int x)) h) := (mw_at mj_320_166).trans (z_iret)
theorem mj_320_167 : mc_P 320 167 = some (.iload_n 2, 1, 0, 0, 0) := by decide +kernel
theorem s_320_167 {x0 x1 x3 x4 x5 : Option Value} {w : Value} : mw d 320 Q 167 [x0, x1, some w, x3, x4, x5] (st) h = mv_i w (mw d 320 Q 168 [x0, x1, some w, x3, x4, x5] (w :: st) h) := (mw_at mj_320_167).trans (z_iload_n rfl)
theorem mj_320_168 : mc_P 320 168 = some (.sipush 307, 3, 0, 0, 0) := by decide +kernel
theorem s_320_168 {x0 x1 x2 x3 x4 x5 : Option Value} : mw d 320 Q 168 [x0, x1, x2, x3, x4, x5] (st) h = mw d 320 Q 171 [x0, x1, x2, x3, x4, x5] (.int 307 :: st) h := (mw_at mj_320_168).trans (z_sipush (by decide))
theorem mj_320_171 : mc_P 320 171 = some (.if_icmp .ne 76, 3, 0, 0, 0) := by decide +kernel
theorem s_320_171 {x0 x1 x2 x3 x4 x5 : Option Value} {x w : Int32} : mw d 320 Q 171 [x0, x1, x2, x3, x4, x5] (.int w :: .int x :: st) h = mB (¬ x = w) (mw d 320 Q) 247 174 [x0, x1, x2, x3, x4, x5] st h := (mw_at mj_320_171).trans (z_icmp_ne (by decide) rfl)
theorem mj_320_174 : mc_P 320 174 = some (.aload_n 0, 1, 0, 0, 0) := by decide +kernel
theorem s_320_174 {x1 x2 x3 x4 x5 : Option Value} {w : Value} : mw d 320 Q 174 [some w, x1, x2, x3, x4, x5] (st) h = mv_a w (mw d 320 Q 175 [some w, x1, x2, x3, x4, x5] (w :: st) h) := (mw_at mj_320_174).trans (z_aload_n rfl)
theorem mj_320_175 : mc_P 320 175 = some (.bipush 16, 2, 0, 0, 0) := by decide +kernel
theorem s_320_175 {x0 x1 x2 x3 x4 x5 : Option Value} : mw d 320 Q 175 [x0, x1, x2, x3, x4, x5] (st) h = mw d 320 Q 177 [x0, x1, x2, x3, x4, x5] (.int 16 :: st) h := (mw_at mj_320_175).trans (z_bipush (by decide))
theorem mj_320_177 : mc_P 320 177 = some (.aload_n 0, 1, 0, 0, 0) := by decide +kernel
theorem s_320_177 {x1 x2 x3 x4 x5 : Option Value} {w : Value} : mw d 320 Q 177 [some w, x1, x2, x3, x4, x5] (st) h = mv_a w (mw d 320 Q 178 [some w, x1, x2, x3, x4, x5] (w :: st) h) := (mw_at mj_320_177).trans (z_aload_n rfl)
theorem mj_320_178 : mc_P 320 178 = some (.getfield 16, 3, 14, 5, 0) := by decide +kernel
theorem s_320_178 {x0 x1 x2 x3 x4 x5 : Option Value} {o : Nat} : mw d 320 Q 178 [x0, x1, x2, x3, x4, x5] (.ref o :: st) h = (mg h o 14 ∧ mw d 320 Q 181 [x0, x1, x2, x3, x4, x5] (va_rf (mh_r h o 5) :: st) h) := (mw_at mj_320_178).trans (z_getr (by decide) (by decide) rfl)
theorem mj_320_181 : mc_P 320 181 = some (.aload_n 0, 1, 0, 0, 0) := by decide +kernel
theorem s_320_181 {x1 x2 x3 x4 x5 : Option Value} {w : Value} : mw d 320 Q 181 [some w, x1, x2, x3, x4, x5] (st) h = mv_a w (mw d 320 Q 182 [some w, x1, x2, x3, x4, x5] (w :: st) h) := (mw_at mj_320_181).trans (z_aload_n rfl)
theorem mj_320_182 : mc_P 320 182 = some (.getfield 246, 3, 14, 8, 0) := by decide +kernel
theorem s_320_182 {x0 x1 x2 x3 x4 x5 : Option Value} {o : Nat} : mw d 320 Q 182 [x0, x1, x2, x3, x4, x5] (.ref o :: st) h = (mg h o 14 ∧ mw d 320 Q 185 [x0, x1, x2, x3, x4, x5] (.int (mh_i h o 8) :: st) h) := (mw_at mj_320_182).trans (z_geti (by decide) (by decide) (Or.inl rfl))
theorem mj_320_185 : mc_P 320 185 = some (.iaload, 1, 0, 0, 0) := by decide +kernel
theorem s_320_185 {x0 x1 x2 x3 x4 x5 : Option Value} {o : Nat} {i : Int32} : mw d 320 Q 185 [x0, x1, x2, x3, x4, x5] (.int i :: .ref o :: st) h = (mg h o 100 ∧ mx i (mh_l h o) ∧ mw d 320 Q 186 [x0, x1, x2, x3, x4, x5] (.int (mh_i h o i.toNatClampNeg) :: st) h) := (mw_at mj_320_185).trans (z_iald)
theorem mj_320_186 : mc_P 320 186 = some (.iconst 0, 1, 0, 0, 0) := by decide +kernel
theorem s_320_186 {x0 x1 x2 x3 x4 x5 : Option Value} : mw d 320 Q 186 [x0, x1, x2, x3, x4, x5] (st) h = mw d 320 Q 187 [x0, x1, x2, x3, x4, x5] (.int 0 :: st) h := (mw_at mj_320_186).trans (z_iconst (by decide))
theorem mj_320_187 : mc_P 320 187 = some (.invokevirtual 259, 3, 313, 14, 4) := by decide +kernel
theorem s_320_187 {x0 x1 x2 x3 x4 x5 : Option Value} {o : Nat} {a1 a2 a3 : Value} : mw (d + 1) 320 Q 187 [x0, x1, x2, x3, x4, x5] (a3 :: a2 :: a1 :: .ref o :: st) h = (mg h o 14 ∧ mca st 8 ∧ mca [.ref o, a1, a2, a3] 4 ∧ mcall d 313 [.ref o, a1, a2, a3] h (mK (d + 1) 320 Q 190 [x0, x1, x2, x3, x4, x5] st)) := (mw_at mj_320_187).trans ((z_invv (As := [a1, a2, a3]) (by decide) rfl rfl).trans (congrArg (And _) (congrArg (And _) (mC_nl nl_313))))
theorem mj_320_190 : mc_P 320 190 = some (.istore_n 3, 1, 0, 0, 0) := by decide +kernel
theorem s_320_190 {x0 x1 x2 x3 x4 x5 : Option Value} {w : Int32} : mw d 320 Q 190 [x0, x1, x2, x3, x4, x5] (.int w :: st) h = mw d 320 Q 191 [x0, x1, mk2 x2, some (.int w), x4, x5] (st) h := (mw_at mj_320_190).trans (z_istore_n (Nat.le_of_ble_eq_true rfl) (me_s1_mk (j := 2) (w := x2) rfl))
theorem mj_320_191 : mc_P 320 191 = some (.aload_n 0, 1, 0, 0, 0) := by decide +kernel
theorem s_320_191 {x1 x2 x3 x4 x5 : Option Value} {w : Value} : mw d 320 Q 191 [some w, x1, x2, x3, x4, x5] (st) h = mv_a w (mw d 320 Q 192 [some w, x1, x2, x3, x4, x5] (w :: st) h) := (mw_at mj_320_191).trans (z_aload_n rfl)
theorem mj_320_192 : mc_P 320 192 = some (.sipush 307, 3, 0, 0, 0) := by decide +kernel
theorem s_320_192 {x0 x1 x2 x3 x4 x5 : Option Value} : mw d 320 Q 192 [x0, x1, x2, x3, x4, x5] (st) h = mw d 320 Q 195 [x0, x1, x2, x3, x4, x5] (.int 307 :: st) h := (mw_at mj_320_192).trans (z_sipush (by decide))
theorem mj_320_195 : mc_P 320 195 = some (.invokevirtual 262, 3, 312, 14, 2) := by decide +kernel
theorem s_320_195 {x0 x1 x2 x3 x4 x5 : Option Value} {o : Nat} {a1 : Value} : mw (d + 1) 320 Q 195 [x0, x1, x2, x3, x4, x5] (a1 :: .ref o :: st) h = (mg h o 14 ∧ mca st 8 ∧ mca [.ref o, a1] 2 ∧ mcall d 312 [.ref o, a1] h (mK (d + 1) 320 Q 198 [x0, x1, x2, x3, x4, x5] st)) := (mw_at mj_320_195).trans ((z_invv (As := [a1]) (by decide) rfl rfl).trans (congrArg (And _) (congrArg (And _) (mC_nl nl_312))))
theorem mj_320_198 : mc_P 320 198 = some (.aload_n 0, 1, 0, 0, 0) := by decide +kernel
theorem s_320_198 {x1 x2 x3 x4 x5 : Option Value} {w : Value} : mw d 320 Q 198 [some w, x1, x2, x3, x4, x5] (st) h = mv_a w (mw d 320 Q 199 [some w, x1, x2, x3, x4, x5] (w :: st) h) := (mw_at mj_320_198).trans (z_aload_n rfl)
theorem mj_320_199 : mc_P 320 199 = some (.invokevirtual 249, 3, 310, 14, 1) := by decide +kernel
theorem s_320_199 {x0 x1 x2 x3 x4 x5 : Option Value} {o : Nat} : mw (d + 1) 320 Q 199 [x0, x1, x2, x3, x4, x5] (.ref o :: st) h = (mg h o 14 ∧ mca st 8 ∧ mca [.ref o] 1 ∧ mcall d 310 [.ref o] h (mK (d + 1) 320 Q 202 [x0, x1, x2, x3, x4, x5] st)) := (mw_at mj_320_199).trans ((z_invv (As := []) (by decide) rfl rfl).trans (congrArg (And _) (congrArg (And _) (mC_nl nl_310))))
theorem mj_320_202 : mc_P 320 202 = some (.bipush 40, 2, 0, 0, 0) := by decide +kernel
theorem s_320_202 {x0 x1 x2 x3 x4 x5 : Option Value} : mw d 320 Q 202 [x0, x1, x2, x3, x4, x5] (st) h = mw d 320 Q 204 [x0, x1, x2, x3, x4, x5] (.int 40 :: st) h := (mw_at mj_320_202).trans (z_bipush (by decide))
theorem mj_320_204 : mc_P 320 204 = some (.if_icmp .ne 41, 3, 0, 0, 0) := by decide +kernel
theorem s_320_204 {x0 x1 x2 x3 x4 x5 : Option Value} {x w : Int32} : mw d 320 Q 204 [x0, x1, x2, x3, x4, x5] (.int w :: .int x :: st) h = mB (¬ x = w) (mw d 320 Q) 245 207 [x0, x1, x2, x3, x4, x5] st h := (mw_at mj_320_204).trans (z_icmp_ne (by decide) rfl)
theorem mj_320_207 : mc_P 320 207 = some (.aload_n 0, 1, 0, 0, 0) := by decide +kernel
theorem s_320_207 {x1 x2 x3 x4 x5 : Option Value} {w : Value} : mw d 320 Q 207 [some w, x1, x2, x3, x4, x5] (st) h = mv_a w (mw d 320 Q 208 [some w, x1, x2, x3, x4, x5] (w :: st) h) := (mw_at mj_320_207).trans (z_aload_n rfl)
theorem mj_320_208 : mc_P 320 208 = some (.bipush 40, 2, 0, 0, 0) := by decide +kernel
theorem s_320_208 {x0 x1 x2 x3 x4 x5 : Option Value} : mw d 320 Q 208 [x0, x1, x2, x3, x4, x5] (st) h = mw d 320 Q 210 [x0, x1, x2, x3, x4, x5] (.int 40 :: st) h := (mw_at mj_320_208).trans (z_bipush (by decide))
theorem mj_320_210 : mc_P 320 210 = some (.invokevirtual 262, 3, 312, 14, 2) := by decide +kernel
theorem s_320_210 {x0 x1 x2 x3 x4 x5 : Option Value} {o : Nat} {a1 : Value} : mw (d + 1) 320 Q 210 [x0, x1, x2, x3, x4, x5] (a1 :: .ref o :: st) h = (mg h o 14 ∧ mca st 8 ∧ mca [.ref o, a1] 2 ∧ mcall d 312 [.ref o, a1] h (mK (d + 1) 320 Q 213 [x0, x1, x2, x3, x4, x5] st)) := (mw_at mj_320_210).trans ((z_invv (As := [a1]) (by decide) rfl rfl).trans (congrArg (And _) (congrArg (And _) (mC_nl nl_312))))
theorem mj_320_213 : mc_P 320 213 = some (.aload_n 0, 1, 0, 0, 0) := by decide +kernel
theorem s_320_213 {x1 x2 x3 x4 x5 : Option Value} {w : Value} : mw d 320 Q 213 [some w, x1, x2, x3, x4, x5] (st) h = mv_a w (mw d 320 Q 214 [some w, x1, x2, x3, x4, x5] (w :: st) h) := (mw_at mj_320_213).trans (z_aload_n rfl)
theorem mj_320_214 : mc_P 320 214 = some (.iload_n 3, 1, 0, 0, 0) := by decide +kernel
theorem s_320_214 {x0 x1 x2 x4 x5 : Option Value} {w : Value} : mw d 320 Q 214 [x0, x1, x2, some w, x4, x5] (st) h = mv_i w (mw d 320 Q 215 [x0, x1, x2, some w, x4, x5] (w :: st) h) := (mw_at mj_320_214).trans (z_iload_n rfl)
theorem mj_320_215 : mc_P 320 215 = some (.aload_n 0, 1, 0, 0, 0) := by decide +kernel
theorem s_320_215 {x1 x2 x3 x4 x5 : Option Value} {w : Value} : mw d 320 Q 215 [some w, x1, x2, x3, x4, x5] (st) h = mv_a w (mw d 320 Q 216 [some w, x1, x2, x3, x4, x5] (w :: st) h) := (mw_at mj_320_215).trans (z_aload_n rfl)
theorem mj_320_216 : mc_P 320 216 = some (.iconst 1, 1, 0, 0, 0) := by decide +kernel
theorem s_320_216 {x0 x1 x2 x3 x4 x5 : Option Value} : mw d 320 Q 216 [x0, x1, x2, x3, x4, x5] (st) h = mw d 320 Q 217 [x0, x1, x2, x3, x4, x5] (.int 1 :: st) h := (mw_at mj_320_216).trans (z_iconst (by decide))
theorem mj_320_217 : mc_P 320 217 = some (.invokevirtual 279, 3, 316, 14, 2) := by decide +kernel
theorem s_320_217 {x0 x1 x2 x3 x4 x5 : Option Value} {o : Nat} {a1 : Value} : mw (d + 1) 320 Q 217 [x0, x1, x2, x3, x4, x5] (a1 :: .ref o :: st) h = (mg h o 14 ∧ mca st 8 ∧ mca [.ref o, a1] 6 ∧ mcall d 316 [.ref o, a1] h (mK (d + 1) 320 Q 220 [x0, x1, x2, x3, x4, x5] st)) := (mw_at mj_320_217).trans ((z_invv (As := [a1]) (by decide) rfl rfl).trans (congrArg (And _) (congrArg (And _) (mC_nl nl_316))))
theorem mj_320_220 : mc_P 320 220 = some (.invokevirtual 272, 3, 314, 14, 3) := by decide +kernel
theorem s_320_220 {x0 x1 x2 x3 x4 x5 : Option Value} {o : Nat} {a1 a2 : Value} : mw (d + 1) 320 Q 220 [x0, x1, x2, x3, x4, x5] (a2 :: a1 :: .ref o :: st) h = (mg h o 14 ∧ mca st 8 ∧ mca [.ref o, a1, a2] 3 ∧ mcall d 314 [.ref o, a1, a2] h (mK (d + 1) 320 Q 223 [x0, x1, x2, x3, x4, x5] st)) := (mw_at mj_320_220).trans ((z_invv (As := [a1, a2]) (by decide) rfl rfl).trans (congrArg (And _) (congrArg (And _) (mC_nl nl_314))))
theorem mj_320_223 : mc_P 320 223 = some (.aload_n 0, 1, 0, 0, 0) := by decide +kernel
theorem s_320_223 {x1 x2 x3 x4 x5 : Option Value} {w : Value} : mw d 320 Q 223 [some w, x1, x2, x3, x4, x5] (st) h = mv_a w (mw d 320 Q 224 [some w, x1, x2, x3, x4, x5] (w :: st) h) := (mw_at mj_320_223).trans (z_aload_n rfl)
theorem mj_320_224 : mc_P 320 224 = some (.bipush 44, 2, 0, 0, 0) := by decide +kernel
theorem s_320_224 {x0 x1 x2 x3 x4 x5 : Option Value} : mw d 320 Q 224 [x0, x1, x2, x3, x4, x5] (st) h = mw d 320 Q 226 [x0, x1, x2, x3, x4, x5] (.int 44 :: st) h := (mw_at mj_320_224).trans (z_bipush (by decide))
theorem mj_320_226 : mc_P 320 226 = some (.invokevirtual 262, 3, 312, 14, 2) := by decide +kernel
theorem s_320_226 {x0 x1 x2 x3 x4 x5 : Option Value} {o : Nat} {a1 : Value} : mw (d + 1) 320 Q 226 [x0, x1, x2, x3, x4, x5] (a1 :: .ref o :: st) h = (mg h o 14 ∧ mca st 8 ∧ mca [.ref o, a1] 2 ∧ mcall d 312 [.ref o, a1] h (mK (d + 1) 320 Q 229 [x0, x1, x2, x3, x4, x5] st)) := (mw_at mj_320_226).trans ((z_invv (As := [a1]) (by decide) rfl rfl).trans (congrArg (And _) (congrArg (And _) (mC_nl nl_312))))
theorem mj_320_229 : mc_P 320 229 = some (.aload_n 0, 1, 0, 0, 0) := by decide +kernel
theorem s_320_229 {x1 x2 x3 x4 x5 : Option Value} {w : Value} : mw d 320 Q 229 [some w, x1, x2, x3, x4, x5] (st) h = mv_a w (mw d 320 Q 230 [some w, x1, x2, x3, x4, x5] (w :: st) h) := (mw_at mj_320_229).trans (z_aload_n rfl)
theorem mj_320_230 : mc_P 320 230 = some (.iload_n 3, 1, 0, 0, 0) := by decide +kernel
theorem s_320_230 {x0 x1 x2 x4 x5 : Option Value} {w : Value} : mw d 320 Q 230 [x0, x1, x2, some w, x4, x5] (st) h = mv_i w (mw d 320 Q 231 [x0, x1, x2, some w, x4, x5] (w :: st) h) := (mw_at mj_320_230).trans (z_iload_n rfl)
theorem mj_320_231 : mc_P 320 231 = some (.aload_n 0, 1, 0, 0, 0) := by decide +kernel
theorem s_320_231 {x1 x2 x3 x4 x5 : Option Value} {w : Value} : mw d 320 Q 231 [some w, x1, x2, x3, x4, x5] (st) h = mv_a w (mw d 320 Q 232 [some w, x1, x2, x3, x4, x5] (w :: st) h) := (mw_at mj_320_231).trans (z_aload_n rfl)
theorem mj_320_232 : mc_P 320 232 = some (.iconst 1, 1, 0, 0, 0) := by decide +kernel
theorem s_320_232 {x0 x1 x2 x3 x4 x5 : Option Value} : mw d 320 Q 232 [x0, x1, x2, x3, x4, x5] (st) h = mw d 320 Q 233 [x0, x1, x2, x3, x4, x5] (.int 1 :: st) h := (mw_at mj_320_232).trans (z_iconst (by decide))
theorem mj_320_233 : mc_P 320 233 = some (.invokevirtual 279, 3, 316, 14, 2) := by decide +kernel
theorem s_320_233 {x0 x1 x2 x3 x4 x5 : Option Value} {o : Nat} {a1 : Value} : mw (d + 1) 320 Q 233 [x0, x1, x2, x3, x4, x5] (a1 :: .ref o :: st) h = (mg h o 14 ∧ mca st 8 ∧ mca [.ref o, a1] 6 ∧ mcall d 316 [.ref o, a1] h (mK (d + 1) 320 Q 236 [x0, x1, x2, x3, x4, x5] st)) := (mw_at mj_320_233).trans ((z_invv (As := [a1]) (by decide) rfl rfl).trans (congrArg (And _) (congrArg (And _) (mC_nl nl_316))))
theorem mj_320_236 : mc_P 320 236 = some (.invokevirtual 272, 3, 314, 14, 3) := by decide +kernel
theorem s_320_236 {x0 x1 x2 x3 x4 x5 : Option Value} {o : Nat} {a1 a2 : Value} : mw (d + 1) 320 Q 236 [x0, x1, x2, x3, x4, x5] (a2 :: a1 :: .ref o :: st) h = (mg h o 14 ∧ mca st 8 ∧ mca [.ref o, a1, a2] 3 ∧ mcall d 314 [.ref o, a1, a2] h (mK (d + 1) 320 Q 239 [x0, x1, x2, x3, x4, x5] st)) := (mw_at mj_320_236).trans ((z_invv (As := [a1, a2]) (by decide) rfl rfl).trans (congrArg (And _) (congrArg (And _) (mC_nl nl_314))))
theorem mj_320_239 : mc_P 320 239 = some (.aload_n 0, 1, 0, 0, 0) := by decide +kernel
theorem s_320_239 {x1 x2 x3 x4 x5 : Option Value} {w : Value} : mw d 320 Q 239 [some w, x1, x2, x3, x4, x5] (st) h = mv_a w (mw d 320 Q 240 [some w, x1, x2, x3, x4, x5] (w :: st) h) := (mw_at mj_320_239).trans (z_aload_n rfl)
theorem mj_320_240 : mc_P 320 240 = some (.bipush 41, 2, 0, 0, 0) := by decide +kernel
theorem s_320_240 {x0 x1 x2 x3 x4 x5 : Option Value} : mw d 320 Q 240 [x0, x1, x2, x3, x4, x5] (st) h = mw d 320 Q 242 [x0, x1, x2, x3, x4, x5] (.int 41 :: st) h := (mw_at mj_320_240).trans (z_bipush (by decide))
theorem mj_320_242 : mc_P 320 242 = some (.invokevirtual 262, 3, 312, 14, 2) := by decide +kernel
theorem s_320_242 {x0 x1 x2 x3 x4 x5 : Option Value} {o : Nat} {a1 : Value} : mw (d + 1) 320 Q 242 [x0, x1, x2, x3, x4, x5] (a1 :: .ref o :: st) h = (mg h o 14 ∧ mca st 8 ∧ mca [.ref o, a1] 2 ∧ mcall d 312 [.ref o, a1] h (mK (d + 1) 320 Q 245 [x0, x1, x2, x3, x4, x5] st)) := (mw_at mj_320_242).trans ((z_invv (As := [a1]) (by decide) rfl rfl).trans (congrArg (And _) (congrArg (And _) (mC_nl nl_312))))
theorem mj_320_245 : mc_P 320 245 = some (.iload_n 3, 1, 0, 0, 0) := by decide +kernel
theorem s_320_245 {x0 x1 x2 x4 x5 : Option Value} {w : Value} : mw d 320 Q 245 [x0, x1, x2, some w, x4, x5] (st) h = mv_i w (mw d 320 Q 246 [x0, x1, x2, some w, x4, x5] (w :: st) h) := (mw_at mj_320_245).trans (z_iload_n rfl)
theorem mj_320_246 : mc_P 320 246 = some (.ireturn, 1, 0, 0, 0) := by decide +kernel
theorem s_320_246 {x0 x1 x2 x3 x4 x5 : Option Value} {x : Int32} : mw d 320 Q 246 [x0, x1, x2, x3, x4, x5] ([.int x]) h = (Q (some (.int x)) h) := (mw_at mj_320_246).trans (z_iret)
theorem mj_320_247 : mc_P 320 247 = some (.aload_n 0, 1, 0, 0, 0) := by decide +kernel
theorem s_320_247 {x1 x2 x3 x4 x5 : Option Value} {w : Value} : mw d 320 Q 247 [some w, x1, x2, x3, x4, x5] (st) h = mv_a w (mw d 320 Q 248 [some w, x1, x2, x3, x4, x5] (w :: st) h) := (mw_at mj_320_247).trans (z_aload_n rfl)
theorem mj_320_248 : mc_P 320 248 = some (.bipush 40, 2, 0, 0, 0) := by decide +kernel
theorem s_320_248 {x0 x1 x2 x3 x4 x5 : Option Value} : mw d 320 Q 248 [x0, x1, x2, x3, x4, x5] (st) h = mw d 320 Q 250 [x0, x1, x2, x3, x4, x5] (.int 40 :: st) h := (mw_at mj_320_248).trans (z_bipush (by decide))
theorem mj_320_250 : mc_P 320 250 = some (.invokevirtual 262, 3, 312, 14, 2) := by decide +kernel
theorem s_320_250 {x0 x1 x2 x3 x4 x5 : Option Value} {o : Nat} {a1 : Value} : mw (d + 1) 320 Q 250 [x0, x1, x2, x3, x4, x5] (a1 :: .ref o :: st) h = (mg h o 14 ∧ mca st 8 ∧ mca [.ref o, a1] 2 ∧ mcall d 312 [.ref o, a1] h (mK (d + 1) 320 Q 253 [x0, x1, x2, x3, x4, x5] st)) := (mw_at mj_320_250).trans ((z_invv (As := [a1]) (by decide) rfl rfl).trans (congrArg (And _) (congrArg (And _) (mC_nl nl_312))))
theorem mj_320_253 : mc_P 320 253 = some (.aload_n 0, 1, 0, 0, 0) := by decide +kernel
theorem s_320_253 {x1 x2 x3 x4 x5 : Option Value} {w : Value} : mw d 320 Q 253 [some w, x1, x2, x3, x4, x5] (st) h = mv_a w (mw d 320 Q 254 [some w, x1, x2, x3, x4, x5] (w :: st) h) := (mw_at mj_320_253).trans (z_aload_n rfl)
theorem mj_320_254 : mc_P 320 254 = some (.getfield 242, 3, 14, 9, 0) := by decide +kernel
theorem s_320_254 {x0 x1 x2 x3 x4 x5 : Option Value} {o : Nat} : mw d 320 Q 254 [x0, x1, x2, x3, x4, x5] (.ref o :: st) h = (mg h o 14 ∧ mw d 320 Q 257 [x0, x1, x2, x3, x4, x5] (.int (mh_i h o 9) :: st) h) := (mw_at mj_320_254).trans (z_geti (by decide) (by decide) (Or.inr rfl))
theorem mj_320_257 : mc_P 320 257 = some (.ifCond .eq 7, 3, 0, 0, 0) := by decide +kernel
theorem s_320_257 {x0 x1 x2 x3 x4 x5 : Option Value} {x : Int32} : mw d 320 Q 257 [x0, x1, x2, x3, x4, x5] (.int x :: st) h = mB (x = 0) (mw d 320 Q) 264 260 [x0, x1, x2, x3, x4, x5] st h := (mw_at mj_320_257).trans (z_if_eq (by decide) rfl)
theorem mj_320_260 : mc_P 320 260 = some (.iconst (-1), 1, 0, 0, 0) := by decide +kernel
theorem s_320_260 {x0 x1 x2 x3 x4 x5 : Option Value} : mw d 320 Q 260 [x0, x1, x2, x3, x4, x5] (st) h = mw d 320 Q 261 [x0, x1, x2, x3, x4, x5] (.int (-1) :: st) h := (mw_at mj_320_260).trans (z_iconst (by decide))
theorem mj_320_261 : mc_P 320 261 = some (.goto 10, 3, 0, 0, 0) := by decide +kernel
theorem s_320_261 {x0 x1 x2 x3 x4 x5 : Option Value} : mw d 320 Q 261 [x0, x1, x2, x3, x4, x5] (st) h = mw d 320 Q 271 [x0, x1, x2, x3, x4, x5] (st) h := (mw_at mj_320_261).trans (z_goto (by decide))
theorem mj_320_264 : mc_P 320 264 = some (.aload_n 0, 1, 0, 0, 0) := by decide +kernel
theorem s_320_264 {x1 x2 x3 x4 x5 : Option Value} {w : Value} : mw d 320 Q 264 [some w, x1, x2, x3, x4, x5] (st) h = mv_a w (mw d 320 Q 265 [some w, x1, x2, x3, x4, x5] (w :: st) h) := (mw_at mj_320_264).trans (z_aload_n rfl)
theorem mj_320_265 : mc_P 320 265 = some (.iload_n 1, 1, 0, 0, 0) := by decide +kernel
theorem s_320_265 {x0 x2 x3 x4 x5 : Option Value} {w : Value} : mw d 320 Q 265 [x0, some w, x2, x3, x4, x5] (st) h = mv_i w (mw d 320 Q 266 [x0, some w, x2, x3, x4, x5] (w :: st) h) := (mw_at mj_320_265).trans (z_iload_n rfl)
theorem mj_320_266 : mc_P 320 266 = some (.iconst 1, 1, 0, 0, 0) := by decide +kernel
theorem s_320_266 {x0 x1 x2 x3 x4 x5 : Option Value} : mw d 320 Q 266 [x0, x1, x2, x3, x4, x5] (st) h = mw d 320 Q 267 [x0, x1, x2, x3, x4, x5] (.int 1 :: st) h := (mw_at mj_320_266).trans (z_iconst (by decide))
theorem mj_320_267 : mc_P 320 267 = some (.iadd, 1, 0, 0, 0) := by decide +kernel
theorem s_320_267 {x0 x1 x2 x3 x4 x5 : Option Value} {x w : Int32} : mw d 320 Q 267 [x0, x1, x2, x3, x4, x5] (.int w :: .int x :: st) h = mw d 320 Q 268 [x0, x1, x2, x3, x4, x5] (.int (x + w) :: st) h := (mw_at mj_320_267).trans (z_iadd)
theorem mj_320_268 : mc_P 320 268 = some (.invokevirtual 286, 3, 318, 14, 2) := by decide +kernel
theorem s_320_268 {x0 x1 x2 x3 x4 x5 : Option Value} {o : Nat} {a1 : Value} : mw (d + 1) 320 Q 268 [x0, x1, x2, x3, x4, x5] (a1 :: .ref o :: st) h = (mg h o 14 ∧ mca st 8 ∧ mca [.ref o, a1] 5 ∧ mcall d 318 [.ref o, a1] h (mK (d + 1) 320 Q 271 [x0, x1, x2, x3, x4, x5] st)) := (mw_at mj_320_268).trans ((z_invv (As := [a1]) (by decide) rfl rfl).trans (congrArg (And _) (congrArg (And _) (mC_nl nl_318))))
theorem mj_320_271 : mc_P 320 271 = some (.istore_n 3, 1, 0, 0, 0) := by decide +kernel
theorem s_320_271 {x0 x1 x2 x3 x4 x5 : Option Value} {w : Int32} : mw d 320 Q 271 [x0, x1, x2, x3, x4, x5] (.int w :: st) h = mw d 320 Q 272 [x0, x1, mk2 x2, some (.int w), x4, x5] (st) h := (mw_at mj_320_271).trans (z_istore_n (Nat.le_of_ble_eq_true rfl) (me_s1_mk (j := 2) (w := x2) rfl))
theorem mj_320_272 : mc_P 320 272 = some (.aload_n 0, 1, 0, 0, 0) := by decide +kernel
theorem s_320_272 {x1 x2 x3 x4 x5 : Option Value} {w : Value} : mw d 320 Q 272 [some w, x1, x2, x3, x4, x5] (st) h = mv_a w (mw d 320 Q 273 [some w, x1, x2, x3, x4, x5] (w :: st) h) := (mw_at mj_320_272).trans (z_aload_n rfl)
theorem mj_320_273 : mc_P 320 273 = some (.bipush 41, 2, 0, 0, 0) := by decide +kernel
theorem s_320_273 {x0 x1 x2 x3 x4 x5 : Option Value} : mw d 320 Q 273 [x0, x1, x2, x3, x4, x5] (st) h = mw d 320 Q 275 [x0, x1, x2, x3, x4, x5] (.int 41 :: st) h := (mw_at mj_320_273).trans (z_bipush (by decide))
theorem mj_320_275 : mc_P 320 275 = some (.invokevirtual 262, 3, 312, 14, 2) := by decide +kernel
theorem s_320_275 {x0 x1 x2 x3 x4 x5 : Option Value} {o : Nat} {a1 : Value} : mw (d + 1) 320 Q 275 [x0, x1, x2, x3, x4, x5] (a1 :: .ref o :: st) h = (mg h o 14 ∧ mca st 8 ∧ mca [.ref o, a1] 2 ∧ mcall d 312 [.ref o, a1] h (mK (d + 1) 320 Q 278 [x0, x1, x2, x3, x4, x5] st)) := (mw_at mj_320_275).trans ((z_invv (As := [a1]) (by decide) rfl rfl).trans (congrArg (And _) (congrArg (And _) (mC_nl nl_312))))
theorem mj_320_278 : mc_P 320 278 = some (.iload_n 3, 1, 0, 0, 0) := by decide +kernel
theorem s_320_278 {x0 x1 x2 x4 x5 : Option Value} {w : Value} : mw d 320 Q 278 [x0, x1, x2, some w, x4, x5] (st) h = mv_i w (mw d 320 Q 279 [x0, x1, x2, some w, x4, x5] (w :: st) h) := (mw_at mj_320_278).trans (z_iload_n rfl)
theorem mj_320_279 : mc_P 320 279 = some (.ireturn, 1, 0, 0, 0) := by decide +kernel
theorem s_320_279 {x0 x1 x2 x3 x4 x5 : Option Value} {x : Int32} : mw d 320 Q 279 [x0, x1, x2, x3, x4, x5] ([.int x]) h = (Q (some (.int x)) h) := (mw_at mj_320_279).trans (z_iret)
theorem e_320 {a0 : Nat} {a1 : Int32} : mcall d 320 [.ref a0, .int a1] h Q = mw d 320 Q 0 [some (.ref a0), some (.int a1), none, none, none, none] [] h := by
  show mw d 320 Q 0 (me_en (mc_nl 320) _) [] h = _
  rw [nl_320]; rfl

/-! InvariantDeskModel.cond(I)I -/
theorem mj_321_0 : mc_P 321 0 = some (.aload_n 0, 1, 0, 0, 0) := by decide +kernel
theorem s_321_0 {x1 : Option Value} {w : Value} : mw d 321 Q 0 [some w, x1] (st) h = mv_a w (mw d 321 Q 1 [some w, x1] (w :: st) h) := (mw_at mj_321_0).trans (z_aload_n rfl)
theorem mj_321_1 : mc_P 321 1 = some (.iload_n 1, 1, 0, 0, 0) := by decide +kernel
theorem s_321_1 {x0 : Option Value} {w : Value} : mw d 321 Q 1 [x0, some w] (st) h = mv_i w (mw d 321 Q 2 [x0, some w] (w :: st) h) := (mw_at mj_321_1).trans (z_iload_n rfl)
theorem mj_321_2 : mc_P 321 2 = some (.invokevirtual 266, 3, 317, 14, 2) := by decide +kernel
theorem s_321_2 {x0 x1 : Option Value} {o : Nat} {a1 : Value} : mw (d + 1) 321 Q 2 [x0, x1] (a1 :: .ref o :: st) h = (mg h o 14 ∧ mca st 8 ∧ mca [.ref o, a1] 2 ∧ mcall d 317 [.ref o, a1] h (mK (d + 1) 321 Q 5 [x0, x1] st)) := (mw_at mj_321_2).trans ((z_invv (As := [a1]) (by decide) rfl rfl).trans (congrArg (And _) (congrArg (And _) (mC_nl nl_317))))
theorem mj_321_5 : mc_P 321 5 = some (.aload_n 0, 1, 0, 0, 0) := by decide +kernel
theorem s_321_5 {x1 : Option Value} {w : Value} : mw d 321 Q 5 [some w, x1] (st) h = mv_a w (mw d 321 Q 6 [some w, x1] (w :: st) h) := (mw_at mj_321_5).trans (z_aload_n rfl)
theorem mj_321_6 : mc_P 321 6 = some (.getfield 242, 3, 14, 9, 0) := by decide +kernel
theorem s_321_6 {x0 x1 : Option Value} {o : Nat} : mw d 321 Q 6 [x0, x1] (.ref o :: st) h = (mg h o 14 ∧ mw d 321 Q 9 [x0, x1] (.int (mh_i h o 9) :: st) h) := (mw_at mj_321_6).trans (z_geti (by decide) (by decide) (Or.inr rfl))
theorem mj_321_9 : mc_P 321 9 = some (.ifCond .eq 7, 3, 0, 0, 0) := by decide +kernel
theorem s_321_9 {x0 x1 : Option Value} {x : Int32} : mw d 321 Q 9 [x0, x1] (.int x :: st) h = mB (x = 0) (mw d 321 Q) 16 12 [x0, x1] st h := (mw_at mj_321_9).trans (z_if_eq (by decide) rfl)
theorem mj_321_12 : mc_P 321 12 = some (.iconst (-1), 1, 0, 0, 0) := by decide +kernel
theorem s_321_12 {x0 x1 : Option Value} : mw d 321 Q 12 [x0, x1] (st) h = mw d 321 Q 13 [x0, x1] (.int (-1) :: st) h := (mw_at mj_321_12).trans (z_iconst (by decide))
theorem mj_321_13 : mc_P 321 13 = some (.goto 10, 3, 0, 0, 0) := by decide +kernel
theorem s_321_13 {x0 x1 : Option Value} : mw d 321 Q 13 [x0, x1] (st) h = mw d 321 Q 23 [x0, x1] (st) h := (mw_at mj_321_13).trans (z_goto (by decide))
theorem mj_321_16 : mc_P 321 16 = some (.aload_n 0, 1, 0, 0, 0) := by decide +kernel
theorem s_321_16 {x1 : Option Value} {w : Value} : mw d 321 Q 16 [some w, x1] (st) h = mv_a w (mw d 321 Q 17 [some w, x1] (w :: st) h) := (mw_at mj_321_16).trans (z_aload_n rfl)
theorem mj_321_17 : mc_P 321 17 = some (.iload_n 1, 1, 0, 0, 0) := by decide +kernel
theorem s_321_17 {x0 : Option Value} {w : Value} : mw d 321 Q 17 [x0, some w] (st) h = mv_i w (mw d 321 Q 18 [x0, some w] (w :: st) h) := (mw_at mj_321_17).trans (z_iload_n rfl)
theorem mj_321_18 : mc_P 321 18 = some (.bipush 24, 2, 0, 0, 0) := by decide +kernel
theorem s_321_18 {x0 x1 : Option Value} : mw d 321 Q 18 [x0, x1] (st) h = mw d 321 Q 20 [x0, x1] (.int 24 :: st) h := (mw_at mj_321_18).trans (z_bipush (by decide))
theorem mj_321_20 : mc_P 321 20 = some (.invokevirtual 289, 3, 322, 14, 3) := by decide +kernel
theorem s_321_20 {x0 x1 : Option Value} {o : Nat} {a1 a2 : Value} : mw (d + 1) 321 Q 20 [x0, x1] (a2 :: a1 :: .ref o :: st) h = (mg h o 14 ∧ mca st 8 ∧ mca [.ref o, a1, a2] 6 ∧ mcall d 322 [.ref o, a1, a2] h (mK (d + 1) 321 Q 23 [x0, x1] st)) := (mw_at mj_321_20).trans ((z_invv (As := [a1, a2]) (by decide) rfl rfl).trans (congrArg (And _) (congrArg (And _) (mC_nl nl_322))))
theorem mj_321_23 : mc_P 321 23 = some (.ireturn, 1, 0, 0, 0) := by decide +kernel
theorem s_321_23 {x0 x1 : Option Value} {x : Int32} : mw d 321 Q 23 [x0, x1] ([.int x]) h = (Q (some (.int x)) h) := (mw_at mj_321_23).trans (z_iret)
theorem e_321 {a0 : Nat} {a1 : Int32} : mcall d 321 [.ref a0, .int a1] h Q = mw d 321 Q 0 [some (.ref a0), some (.int a1)] [] h := by
  show mw d 321 Q 0 (me_en (mc_nl 321) _) [] h = _
  rw [nl_321]; rfl

/-! InvariantDeskModel.tests(II)I -/
theorem mj_322_0 : mc_P 322 0 = some (.iload_n 2, 1, 0, 0, 0) := by decide +kernel
theorem s_322_0 {x0 x1 x3 x4 x5 : Option Value} {w : Value} : mw d 322 Q 0 [x0, x1, some w, x3, x4, x5] (st) h = mv_i w (mw d 322 Q 1 [x0, x1, some w, x3, x4, x5] (w :: st) h) := (mw_at mj_322_0).trans (z_iload_n rfl)
theorem mj_322_1 : mc_P 322 1 = some (.bipush 24, 2, 0, 0, 0) := by decide +kernel
theorem s_322_1 {x0 x1 x2 x3 x4 x5 : Option Value} : mw d 322 Q 1 [x0, x1, x2, x3, x4, x5] (st) h = mw d 322 Q 3 [x0, x1, x2, x3, x4, x5] (.int 24 :: st) h := (mw_at mj_322_1).trans (z_bipush (by decide))
theorem mj_322_3 : mc_P 322 3 = some (.if_icmp .ne 9, 3, 0, 0, 0) := by decide +kernel
theorem s_322_3 {x0 x1 x2 x3 x4 x5 : Option Value} {x w : Int32} : mw d 322 Q 3 [x0, x1, x2, x3, x4, x5] (.int w :: .int x :: st) h = mB (¬ x = w) (mw d 322 Q) 12 6 [x0, x1, x2, x3, x4, x5] st h := (mw_at mj_322_3).trans (z_icmp_ne (by decide) rfl)
theorem mj_322_6 : mc_P 322 6 = some (.sipush 261, 3, 0, 0, 0) := by decide +kernel
theorem s_322_6 {x0 x1 x2 x3 x4 x5 : Option Value} : mw d 322 Q 6 [x0, x1, x2, x3, x4, x5] (st) h = mw d 322 Q 9 [x0, x1, x2, x3, x4, x5] (.int 261 :: st) h := (mw_at mj_322_6).trans (z_sipush (by decide))
theorem mj_322_9 : mc_P 322 9 = some (.goto 6, 3, 0, 0, 0) := by decide +kernel
theorem s_322_9 {x0 x1 x2 x3 x4 x5 : Option Value} : mw d 322 Q 9 [x0, x1, x2, x3, x4, x5] (st) h = mw d 322 Q 15 [x0, x1, x2, x3, x4, x5] (st) h := (mw_at mj_322_9).trans (z_goto (by decide))
theorem mj_322_12 : mc_P 322 12 = some (.sipush 260, 3, 0, 0, 0) := by decide +kernel
theorem s_322_12 {x0 x1 x2 x3 x4 x5 : Option Value} : mw d 322 Q 12 [x0, x1, x2, x3, x4, x5] (st) h = mw d 322 Q 15 [x0, x1, x2, x3, x4, x5] (.int 260 :: st) h := (mw_at mj_322_12).trans (z_sipush (by decide))
theorem mj_322_15 : mc_P 322 15 = some (.istore_n 3, 1, 0, 0, 0) := by decide +kernel
theorem s_322_15 {x0 x1 x2 x3 x4 x5 : Option Value} {w : Int32} : mw d 322 Q 15 [x0, x1, x2, x3, x4, x5] (.int w :: st) h = mw d 322 Q 16 [x0, x1, mk2 x2, some (.int w), x4, x5] (st) h := (mw_at mj_322_15).trans (z_istore_n (Nat.le_of_ble_eq_true rfl) (me_s1_mk (j := 2) (w := x2) rfl))
theorem mj_322_16 : mc_P 322 16 = some (.iload_n 2, 1, 0, 0, 0) := by decide +kernel
theorem s_322_16 {x0 x1 x3 x4 x5 : Option Value} {w : Value} : mw d 322 Q 16 [x0, x1, some w, x3, x4, x5] (st) h = mv_i w (mw d 322 Q 17 [x0, x1, some w, x3, x4, x5] (w :: st) h) := (mw_at mj_322_16).trans (z_iload_n rfl)
theorem mj_322_17 : mc_P 322 17 = some (.bipush 24, 2, 0, 0, 0) := by decide +kernel
theorem s_322_17 {x0 x1 x2 x3 x4 x5 : Option Value} : mw d 322 Q 17 [x0, x1, x2, x3, x4, x5] (st) h = mw d 322 Q 19 [x0, x1, x2, x3, x4, x5] (.int 24 :: st) h := (mw_at mj_322_17).trans (z_bipush (by decide))
theorem mj_322_19 : mc_P 322 19 = some (.if_icmp .ne 13, 3, 0, 0, 0) := by decide +kernel
theorem s_322_19 {x0 x1 x2 x3 x4 x5 : Option Value} {x w : Int32} : mw d 322 Q 19 [x0, x1, x2, x3, x4, x5] (.int w :: .int x :: st) h = mB (¬ x = w) (mw d 322 Q) 32 22 [x0, x1, x2, x3, x4, x5] st h := (mw_at mj_322_19).trans (z_icmp_ne (by decide) rfl)
theorem mj_322_22 : mc_P 322 22 = some (.aload_n 0, 1, 0, 0, 0) := by decide +kernel
theorem s_322_22 {x1 x2 x3 x4 x5 : Option Value} {w : Value} : mw d 322 Q 22 [some w, x1, x2, x3, x4, x5] (st) h = mv_a w (mw d 322 Q 23 [some w, x1, x2, x3, x4, x5] (w :: st) h) := (mw_at mj_322_22).trans (z_aload_n rfl)
theorem mj_322_23 : mc_P 322 23 = some (.iload_n 1, 1, 0, 0, 0) := by decide +kernel
theorem s_322_23 {x0 x2 x3 x4 x5 : Option Value} {w : Value} : mw d 322 Q 23 [x0, some w, x2, x3, x4, x5] (st) h = mv_i w (mw d 322 Q 24 [x0, some w, x2, x3, x4, x5] (w :: st) h) := (mw_at mj_322_23).trans (z_iload_n rfl)
theorem mj_322_24 : mc_P 322 24 = some (.bipush 25, 2, 0, 0, 0) := by decide +kernel
theorem s_322_24 {x0 x1 x2 x3 x4 x5 : Option Value} : mw d 322 Q 24 [x0, x1, x2, x3, x4, x5] (st) h = mw d 322 Q 26 [x0, x1, x2, x3, x4, x5] (.int 25 :: st) h := (mw_at mj_322_24).trans (z_bipush (by decide))
theorem mj_322_26 : mc_P 322 26 = some (.invokevirtual 289, 3, 322, 14, 3) := by decide +kernel
theorem s_322_26 {x0 x1 x2 x3 x4 x5 : Option Value} {o : Nat} {a1 a2 : Value} : mw (d + 1) 322 Q 26 [x0, x1, x2, x3, x4, x5] (a2 :: a1 :: .ref o :: st) h = (mg h o 14 ∧ mca st 8 ∧ mca [.ref o, a1, a2] 6 ∧ mcall d 322 [.ref o, a1, a2] h (mK (d + 1) 322 Q 29 [x0, x1, x2, x3, x4, x5] st)) := (mw_at mj_322_26).trans ((z_invv (As := [a1, a2]) (by decide) rfl rfl).trans (congrArg (And _) (congrArg (And _) (mC_nl nl_322))))
theorem mj_322_29 : mc_P 322 29 = some (.goto 8, 3, 0, 0, 0) := by decide +kernel
theorem s_322_29 {x0 x1 x2 x3 x4 x5 : Option Value} : mw d 322 Q 29 [x0, x1, x2, x3, x4, x5] (st) h = mw d 322 Q 37 [x0, x1, x2, x3, x4, x5] (st) h := (mw_at mj_322_29).trans (z_goto (by decide))
theorem mj_322_32 : mc_P 322 32 = some (.aload_n 0, 1, 0, 0, 0) := by decide +kernel
theorem s_322_32 {x1 x2 x3 x4 x5 : Option Value} {w : Value} : mw d 322 Q 32 [some w, x1, x2, x3, x4, x5] (st) h = mv_a w (mw d 322 Q 33 [some w, x1, x2, x3, x4, x5] (w :: st) h) := (mw_at mj_322_32).trans (z_aload_n rfl)
theorem mj_322_33 : mc_P 322 33 = some (.iload_n 1, 1, 0, 0, 0) := by decide +kernel
theorem s_322_33 {x0 x2 x3 x4 x5 : Option Value} {w : Value} : mw d 322 Q 33 [x0, some w, x2, x3, x4, x5] (st) h = mv_i w (mw d 322 Q 34 [x0, some w, x2, x3, x4, x5] (w :: st) h) := (mw_at mj_322_33).trans (z_iload_n rfl)
theorem mj_322_34 : mc_P 322 34 = some (.invokevirtual 292, 3, 323, 14, 2) := by decide +kernel
theorem s_322_34 {x0 x1 x2 x3 x4 x5 : Option Value} {o : Nat} {a1 : Value} : mw (d + 1) 322 Q 34 [x0, x1, x2, x3, x4, x5] (a1 :: .ref o :: st) h = (mg h o 14 ∧ mca st 8 ∧ mca [.ref o, a1] 6 ∧ mcall d 323 [.ref o, a1] h (mK (d + 1) 322 Q 37 [x0, x1, x2, x3, x4, x5] st)) := (mw_at mj_322_34).trans ((z_invv (As := [a1]) (by decide) rfl rfl).trans (congrArg (And _) (congrArg (And _) (mC_nl nl_323))))
theorem mj_322_37 : mc_P 322 37 = some (.istore 4, 2, 0, 0, 0) := by decide +kernel
theorem s_322_37 {x0 x1 x2 x3 x4 x5 : Option Value} {w : Int32} : mw d 322 Q 37 [x0, x1, x2, x3, x4, x5] (.int w :: st) h = mw d 322 Q 39 [x0, x1, x2, mk2 x3, some (.int w), x5] (st) h := (mw_at mj_322_37).trans (z_istore (Nat.le_of_ble_eq_true rfl) (me_s1_mk (j := 3) (w := x3) rfl))
theorem mj_322_39 : mc_P 322 39 = some (.aload_n 0, 1, 0, 0, 0) := by decide +kernel
theorem s_322_39 {x1 x2 x3 x4 x5 : Option Value} {w : Value} : mw d 322 Q 39 [some w, x1, x2, x3, x4, x5] (st) h = mv_a w (mw d 322 Q 40 [some w, x1, x2, x3, x4, x5] (w :: st) h) := (mw_at mj_322_39).trans (z_aload_n rfl)
theorem mj_322_40 : mc_P 322 40 = some (.invokevirtual 249, 3, 310, 14, 1) := by decide +kernel
theorem s_322_40 {x0 x1 x2 x3 x4 x5 : Option Value} {o : Nat} : mw (d + 1) 322 Q 40 [x0, x1, x2, x3, x4, x5] (.ref o :: st) h = (mg h o 14 ∧ mca st 8 ∧ mca [.ref o] 1 ∧ mcall d 310 [.ref o] h (mK (d + 1) 322 Q 43 [x0, x1, x2, x3, x4, x5] st)) := (mw_at mj_322_40).trans ((z_invv (As := []) (by decide) rfl rfl).trans (congrArg (And _) (congrArg (And _) (mC_nl nl_310))))
theorem mj_322_43 : mc_P 322 43 = some (.iload_n 3, 1, 0, 0, 0) := by decide +kernel
theorem s_322_43 {x0 x1 x2 x4 x5 : Option Value} {w : Value} : mw d 322 Q 43 [x0, x1, x2, some w, x4, x5] (st) h = mv_i w (mw d 322 Q 44 [x0, x1, x2, some w, x4, x5] (w :: st) h) := (mw_at mj_322_43).trans (z_iload_n rfl)
theorem mj_322_44 : mc_P 322 44 = some (.if_icmp .eq 6, 3, 0, 0, 0) := by decide +kernel
theorem s_322_44 {x0 x1 x2 x3 x4 x5 : Option Value} {x w : Int32} : mw d 322 Q 44 [x0, x1, x2, x3, x4, x5] (.int w :: .int x :: st) h = mB (x = w) (mw d 322 Q) 50 47 [x0, x1, x2, x3, x4, x5] st h := (mw_at mj_322_44).trans (z_icmp_eq (by decide) rfl)
theorem mj_322_47 : mc_P 322 47 = some (.iload 4, 2, 0, 0, 0) := by decide +kernel
theorem s_322_47 {x0 x1 x2 x3 x5 : Option Value} {w : Value} : mw d 322 Q 47 [x0, x1, x2, x3, some w, x5] (st) h = mv_i w (mw d 322 Q 49 [x0, x1, x2, x3, some w, x5] (w :: st) h) := (mw_at mj_322_47).trans (z_iload rfl)
theorem mj_322_49 : mc_P 322 49 = some (.ireturn, 1, 0, 0, 0) := by decide +kernel
theorem s_322_49 {x0 x1 x2 x3 x4 x5 : Option Value} {x : Int32} : mw d 322 Q 49 [x0, x1, x2, x3, x4, x5] ([.int x]) h = (Q (some (.int x)) h) := (mw_at mj_322_49).trans (z_iret)
theorem mj_322_50 : mc_P 322 50 = some (.aload_n 0, 1, 0, 0, 0) := by decide +kernel
theorem s_322_50 {x1 x2 x3 x4 x5 : Option Value} {w : Value} : mw d 322 Q 50 [some w, x1, x2, x3, x4, x5] (st) h = mv_a w (mw d 322 Q 51 [some w, x1, x2, x3, x4, x5] (w :: st) h) := (mw_at mj_322_50).trans (z_aload_n rfl)
theorem mj_322_51 : mc_P 322 51 = some (.iload_n 2, 1, 0, 0, 0) := by decide +kernel
theorem s_322_51 {x0 x1 x3 x4 x5 : Option Value} {w : Value} : mw d 322 Q 51 [x0, x1, some w, x3, x4, x5] (st) h = mv_i w (mw d 322 Q 52 [x0, x1, some w, x3, x4, x5] (w :: st) h) := (mw_at mj_322_51).trans (z_iload_n rfl)
theorem mj_322_52 : mc_P 322 52 = some (.aload_n 0, 1, 0, 0, 0) := by decide +kernel
theorem s_322_52 {x1 x2 x3 x4 x5 : Option Value} {w : Value} : mw d 322 Q 52 [some w, x1, x2, x3, x4, x5] (st) h = mv_a w (mw d 322 Q 53 [some w, x1, x2, x3, x4, x5] (w :: st) h) := (mw_at mj_322_52).trans (z_aload_n rfl)
theorem mj_322_53 : mc_P 322 53 = some (.getfield 30, 3, 14, 12, 0) := by decide +kernel
theorem s_322_53 {x0 x1 x2 x3 x4 x5 : Option Value} {o : Nat} : mw d 322 Q 53 [x0, x1, x2, x3, x4, x5] (.ref o :: st) h = (mg h o 14 ∧ mw d 322 Q 56 [x0, x1, x2, x3, x4, x5] (va_rf (mh_r h o 12) :: st) h) := (mw_at mj_322_53).trans (z_getr (by decide) (by decide) rfl)
theorem mj_322_56 : mc_P 322 56 = some (.iload 4, 2, 0, 0, 0) := by decide +kernel
theorem s_322_56 {x0 x1 x2 x3 x5 : Option Value} {w : Value} : mw d 322 Q 56 [x0, x1, x2, x3, some w, x5] (st) h = mv_i w (mw d 322 Q 58 [x0, x1, x2, x3, some w, x5] (w :: st) h) := (mw_at mj_322_56).trans (z_iload rfl)
theorem mj_322_58 : mc_P 322 58 = some (.iaload, 1, 0, 0, 0) := by decide +kernel
theorem s_322_58 {x0 x1 x2 x3 x4 x5 : Option Value} {o : Nat} {i : Int32} : mw d 322 Q 58 [x0, x1, x2, x3, x4, x5] (.int i :: .ref o :: st) h = (mg h o 100 ∧ mx i (mh_l h o) ∧ mw d 322 Q 59 [x0, x1, x2, x3, x4, x5] (.int (mh_i h o i.toNatClampNeg) :: st) h) := (mw_at mj_322_58).trans (z_iald)
theorem mj_322_59 : mc_P 322 59 = some (.iconst 0, 1, 0, 0, 0) := by decide +kernel
theorem s_322_59 {x0 x1 x2 x3 x4 x5 : Option Value} : mw d 322 Q 59 [x0, x1, x2, x3, x4, x5] (st) h = mw d 322 Q 60 [x0, x1, x2, x3, x4, x5] (.int 0 :: st) h := (mw_at mj_322_59).trans (z_iconst (by decide))
theorem mj_322_60 : mc_P 322 60 = some (.invokevirtual 259, 3, 313, 14, 4) := by decide +kernel
theorem s_322_60 {x0 x1 x2 x3 x4 x5 : Option Value} {o : Nat} {a1 a2 a3 : Value} : mw (d + 1) 322 Q 60 [x0, x1, x2, x3, x4, x5] (a3 :: a2 :: a1 :: .ref o :: st) h = (mg h o 14 ∧ mca st 8 ∧ mca [.ref o, a1, a2, a3] 4 ∧ mcall d 313 [.ref o, a1, a2, a3] h (mK (d + 1) 322 Q 63 [x0, x1, x2, x3, x4, x5] st)) := (mw_at mj_322_60).trans ((z_invv (As := [a1, a2, a3]) (by decide) rfl rfl).trans (congrArg (And _) (congrArg (And _) (mC_nl nl_313))))
theorem mj_322_63 : mc_P 322 63 = some (.istore 5, 2, 0, 0, 0) := by decide +kernel
theorem s_322_63 {x0 x1 x2 x3 x4 x5 : Option Value} {w : Int32} : mw d 322 Q 63 [x0, x1, x2, x3, x4, x5] (.int w :: st) h = mw d 322 Q 65 [x0, x1, x2, x3, mk2 x4, some (.int w)] (st) h := (mw_at mj_322_63).trans (z_istore (Nat.le_of_ble_eq_true rfl) (me_s1_mk (j := 4) (w := x4) rfl))
theorem mj_322_65 : mc_P 322 65 = some (.aload_n 0, 1, 0, 0, 0) := by decide +kernel
theorem s_322_65 {x1 x2 x3 x4 x5 : Option Value} {w : Value} : mw d 322 Q 65 [some w, x1, x2, x3, x4, x5] (st) h = mv_a w (mw d 322 Q 66 [some w, x1, x2, x3, x4, x5] (w :: st) h) := (mw_at mj_322_65).trans (z_aload_n rfl)
theorem mj_322_66 : mc_P 322 66 = some (.iload 5, 2, 0, 0, 0) := by decide +kernel
theorem s_322_66 {x0 x1 x2 x3 x4 : Option Value} {w : Value} : mw d 322 Q 66 [x0, x1, x2, x3, x4, some w] (st) h = mv_i w (mw d 322 Q 68 [x0, x1, x2, x3, x4, some w] (w :: st) h) := (mw_at mj_322_66).trans (z_iload rfl)
theorem mj_322_68 : mc_P 322 68 = some (.iload 4, 2, 0, 0, 0) := by decide +kernel
theorem s_322_68 {x0 x1 x2 x3 x5 : Option Value} {w : Value} : mw d 322 Q 68 [x0, x1, x2, x3, some w, x5] (st) h = mv_i w (mw d 322 Q 70 [x0, x1, x2, x3, some w, x5] (w :: st) h) := (mw_at mj_322_68).trans (z_iload rfl)
theorem mj_322_70 : mc_P 322 70 = some (.invokevirtual 272, 3, 314, 14, 3) := by decide +kernel
theorem s_322_70 {x0 x1 x2 x3 x4 x5 : Option Value} {o : Nat} {a1 a2 : Value} : mw (d + 1) 322 Q 70 [x0, x1, x2, x3, x4, x5] (a2 :: a1 :: .ref o :: st) h = (mg h o 14 ∧ mca st 8 ∧ mca [.ref o, a1, a2] 3 ∧ mcall d 314 [.ref o, a1, a2] h (mK (d + 1) 322 Q 73 [x0, x1, x2, x3, x4, x5] st)) := (mw_at mj_322_70).trans ((z_invv (As := [a1, a2]) (by decide) rfl rfl).trans (congrArg (And _) (congrArg (And _) (mC_nl nl_314))))
theorem mj_322_73 : mc_P 322 73 = some (.aload_n 0, 1, 0, 0, 0) := by decide +kernel
theorem s_322_73 {x1 x2 x3 x4 x5 : Option Value} {w : Value} : mw d 322 Q 73 [some w, x1, x2, x3, x4, x5] (st) h = mv_a w (mw d 322 Q 74 [some w, x1, x2, x3, x4, x5] (w :: st) h) := (mw_at mj_322_73).trans (z_aload_n rfl)
theorem mj_322_74 : mc_P 322 74 = some (.invokevirtual 249, 3, 310, 14, 1) := by decide +kernel
theorem s_322_74 {x0 x1 x2 x3 x4 x5 : Option Value} {o : Nat} : mw (d + 1) 322 Q 74 [x0, x1, x2, x3, x4, x5] (.ref o :: st) h = (mg h o 14 ∧ mca st 8 ∧ mca [.ref o] 1 ∧ mcall d 310 [.ref o] h (mK (d + 1) 322 Q 77 [x0, x1, x2, x3, x4, x5] st)) := (mw_at mj_322_74).trans ((z_invv (As := []) (by decide) rfl rfl).trans (congrArg (And _) (congrArg (And _) (mC_nl nl_310))))
theorem mj_322_77 : mc_P 322 77 = some (.iload_n 3, 1, 0, 0, 0) := by decide +kernel
theorem s_322_77 {x0 x1 x2 x4 x5 : Option Value} {w : Value} : mw d 322 Q 77 [x0, x1, x2, some w, x4, x5] (st) h = mv_i w (mw d 322 Q 78 [x0, x1, x2, some w, x4, x5] (w :: st) h) := (mw_at mj_322_77).trans (z_iload_n rfl)
theorem mj_322_78 : mc_P 322 78 = some (.if_icmp .ne 49, 3, 0, 0, 0) := by decide +kernel
theorem s_322_78 {x0 x1 x2 x3 x4 x5 : Option Value} {x w : Int32} : mw d 322 Q 78 [x0, x1, x2, x3, x4, x5] (.int w :: .int x :: st) h = mB (¬ x = w) (mw d 322 Q) 127 81 [x0, x1, x2, x3, x4, x5] st h := (mw_at mj_322_78).trans (z_icmp_ne (by decide) rfl)
theorem mj_322_81 : mc_P 322 81 = some (.aload_n 0, 1, 0, 0, 0) := by decide +kernel
theorem s_322_81 {x1 x2 x3 x4 x5 : Option Value} {w : Value} : mw d 322 Q 81 [some w, x1, x2, x3, x4, x5] (st) h = mv_a w (mw d 322 Q 82 [some w, x1, x2, x3, x4, x5] (w :: st) h) := (mw_at mj_322_81).trans (z_aload_n rfl)
theorem mj_322_82 : mc_P 322 82 = some (.iload_n 3, 1, 0, 0, 0) := by decide +kernel
theorem s_322_82 {x0 x1 x2 x4 x5 : Option Value} {w : Value} : mw d 322 Q 82 [x0, x1, x2, some w, x4, x5] (st) h = mv_i w (mw d 322 Q 83 [x0, x1, x2, some w, x4, x5] (w :: st) h) := (mw_at mj_322_82).trans (z_iload_n rfl)
theorem mj_322_83 : mc_P 322 83 = some (.invokevirtual 262, 3, 312, 14, 2) := by decide +kernel
theorem s_322_83 {x0 x1 x2 x3 x4 x5 : Option Value} {o : Nat} {a1 : Value} : mw (d + 1) 322 Q 83 [x0, x1, x2, x3, x4, x5] (a1 :: .ref o :: st) h = (mg h o 14 ∧ mca st 8 ∧ mca [.ref o, a1] 2 ∧ mcall d 312 [.ref o, a1] h (mK (d + 1) 322 Q 86 [x0, x1, x2, x3, x4, x5] st)) := (mw_at mj_322_83).trans ((z_invv (As := [a1]) (by decide) rfl rfl).trans (congrArg (And _) (congrArg (And _) (mC_nl nl_312))))
theorem mj_322_86 : mc_P 322 86 = some (.aload_n 0, 1, 0, 0, 0) := by decide +kernel
theorem s_322_86 {x1 x2 x3 x4 x5 : Option Value} {w : Value} : mw d 322 Q 86 [some w, x1, x2, x3, x4, x5] (st) h = mv_a w (mw d 322 Q 87 [some w, x1, x2, x3, x4, x5] (w :: st) h) := (mw_at mj_322_86).trans (z_aload_n rfl)
theorem mj_322_87 : mc_P 322 87 = some (.iload 5, 2, 0, 0, 0) := by decide +kernel
theorem s_322_87 {x0 x1 x2 x3 x4 : Option Value} {w : Value} : mw d 322 Q 87 [x0, x1, x2, x3, x4, some w] (st) h = mv_i w (mw d 322 Q 89 [x0, x1, x2, x3, x4, some w] (w :: st) h) := (mw_at mj_322_87).trans (z_iload rfl)
theorem mj_322_89 : mc_P 322 89 = some (.aload_n 0, 1, 0, 0, 0) := by decide +kernel
theorem s_322_89 {x1 x2 x3 x4 x5 : Option Value} {w : Value} : mw d 322 Q 89 [some w, x1, x2, x3, x4, x5] (st) h = mv_a w (mw d 322 Q 90 [some w, x1, x2, x3, x4, x5] (w :: st) h) := (mw_at mj_322_89).trans (z_aload_n rfl)
theorem mj_322_90 : mc_P 322 90 = some (.getfield 242, 3, 14, 9, 0) := by decide +kernel
theorem s_322_90 {x0 x1 x2 x3 x4 x5 : Option Value} {o : Nat} : mw d 322 Q 90 [x0, x1, x2, x3, x4, x5] (.ref o :: st) h = (mg h o 14 ∧ mw d 322 Q 93 [x0, x1, x2, x3, x4, x5] (.int (mh_i h o 9) :: st) h) := (mw_at mj_322_90).trans (z_geti (by decide) (by decide) (Or.inr rfl))
theorem mj_322_93 : mc_P 322 93 = some (.ifCond .eq 7, 3, 0, 0, 0) := by decide +kernel
theorem s_322_93 {x0 x1 x2 x3 x4 x5 : Option Value} {x : Int32} : mw d 322 Q 93 [x0, x1, x2, x3, x4, x5] (.int x :: st) h = mB (x = 0) (mw d 322 Q) 100 96 [x0, x1, x2, x3, x4, x5] st h := (mw_at mj_322_93).trans (z_if_eq (by decide) rfl)
theorem mj_322_96 : mc_P 322 96 = some (.iconst (-1), 1, 0, 0, 0) := by decide +kernel
theorem s_322_96 {x0 x1 x2 x3 x4 x5 : Option Value} : mw d 322 Q 96 [x0, x1, x2, x3, x4, x5] (st) h = mw d 322 Q 97 [x0, x1, x2, x3, x4, x5] (.int (-1) :: st) h := (mw_at mj_322_96).trans (z_iconst (by decide))
theorem mj_322_97 : mc_P 322 97 = some (.goto 24, 3, 0, 0, 0) := by decide +kernel
theorem s_322_97 {x0 x1 x2 x3 x4 x5 : Option Value} : mw d 322 Q 97 [x0, x1, x2, x3, x4, x5] (st) h = mw d 322 Q 121 [x0, x1, x2, x3, x4, x5] (st) h := (mw_at mj_322_97).trans (z_goto (by decide))
theorem mj_322_100 : mc_P 322 100 = some (.iload_n 2, 1, 0, 0, 0) := by decide +kernel
theorem s_322_100 {x0 x1 x3 x4 x5 : Option Value} {w : Value} : mw d 322 Q 100 [x0, x1, some w, x3, x4, x5] (st) h = mv_i w (mw d 322 Q 101 [x0, x1, some w, x3, x4, x5] (w :: st) h) := (mw_at mj_322_100).trans (z_iload_n rfl)
theorem mj_322_101 : mc_P 322 101 = some (.bipush 24, 2, 0, 0, 0) := by decide +kernel
theorem s_322_101 {x0 x1 x2 x3 x4 x5 : Option Value} : mw d 322 Q 101 [x0, x1, x2, x3, x4, x5] (st) h = mw d 322 Q 103 [x0, x1, x2, x3, x4, x5] (.int 24 :: st) h := (mw_at mj_322_101).trans (z_bipush (by decide))
theorem mj_322_103 : mc_P 322 103 = some (.if_icmp .ne 13, 3, 0, 0, 0) := by decide +kernel
theorem s_322_103 {x0 x1 x2 x3 x4 x5 : Option Value} {x w : Int32} : mw d 322 Q 103 [x0, x1, x2, x3, x4, x5] (.int w :: .int x :: st) h = mB (¬ x = w) (mw d 322 Q) 116 106 [x0, x1, x2, x3, x4, x5] st h := (mw_at mj_322_103).trans (z_icmp_ne (by decide) rfl)
theorem mj_322_106 : mc_P 322 106 = some (.aload_n 0, 1, 0, 0, 0) := by decide +kernel
theorem s_322_106 {x1 x2 x3 x4 x5 : Option Value} {w : Value} : mw d 322 Q 106 [some w, x1, x2, x3, x4, x5] (st) h = mv_a w (mw d 322 Q 107 [some w, x1, x2, x3, x4, x5] (w :: st) h) := (mw_at mj_322_106).trans (z_aload_n rfl)
theorem mj_322_107 : mc_P 322 107 = some (.iload_n 1, 1, 0, 0, 0) := by decide +kernel
theorem s_322_107 {x0 x2 x3 x4 x5 : Option Value} {w : Value} : mw d 322 Q 107 [x0, some w, x2, x3, x4, x5] (st) h = mv_i w (mw d 322 Q 108 [x0, some w, x2, x3, x4, x5] (w :: st) h) := (mw_at mj_322_107).trans (z_iload_n rfl)
theorem mj_322_108 : mc_P 322 108 = some (.bipush 25, 2, 0, 0, 0) := by decide +kernel
theorem s_322_108 {x0 x1 x2 x3 x4 x5 : Option Value} : mw d 322 Q 108 [x0, x1, x2, x3, x4, x5] (st) h = mw d 322 Q 110 [x0, x1, x2, x3, x4, x5] (.int 25 :: st) h := (mw_at mj_322_108).trans (z_bipush (by decide))
theorem mj_322_110 : mc_P 322 110 = some (.invokevirtual 289, 3, 322, 14, 3) := by decide +kernel
theorem s_322_110 {x0 x1 x2 x3 x4 x5 : Option Value} {o : Nat} {a1 a2 : Value} : mw (d + 1) 322 Q 110 [x0, x1, x2, x3, x4, x5] (a2 :: a1 :: .ref o :: st) h = (mg h o 14 ∧ mca st 8 ∧ mca [.ref o, a1, a2] 6 ∧ mcall d 322 [.ref o, a1, a2] h (mK (d + 1) 322 Q 113 [x0, x1, x2, x3, x4, x5] st)) := (mw_at mj_322_110).trans ((z_invv (As := [a1, a2]) (by decide) rfl rfl).trans (congrArg (And _) (congrArg (And _) (mC_nl nl_322))))
theorem mj_322_113 : mc_P 322 113 = some (.goto 8, 3, 0, 0, 0) := by decide +kernel
theorem s_322_113 {x0 x1 x2 x3 x4 x5 : Option Value} : mw d 322 Q 113 [x0, x1, x2, x3, x4, x5] (st) h = mw d 322 Q 121 [x0, x1, x2, x3, x4, x5] (st) h := (mw_at mj_322_113).trans (z_goto (by decide))
theorem mj_322_116 : mc_P 322 116 = some (.aload_n 0, 1, 0, 0, 0) := by decide +kernel
theorem s_322_116 {x1 x2 x3 x4 x5 : Option Value} {w : Value} : mw d 322 Q 116 [some w, x1, x2, x3, x4, x5] (st) h = mv_a w (mw d 322 Q 117 [some w, x1, x2, x3, x4, x5] (w :: st) h) := (mw_at mj_322_116).trans (z_aload_n rfl)
theorem mj_322_117 : mc_P 322 117 = some (.iload_n 1, 1, 0, 0, 0) := by decide +kernel
theorem s_322_117 {x0 x2 x3 x4 x5 : Option Value} {w : Value} : mw d 322 Q 117 [x0, some w, x2, x3, x4, x5] (st) h = mv_i w (mw d 322 Q 118 [x0, some w, x2, x3, x4, x5] (w :: st) h) := (mw_at mj_322_117).trans (z_iload_n rfl)
theorem mj_322_118 : mc_P 322 118 = some (.invokevirtual 292, 3, 323, 14, 2) := by decide +kernel
theorem s_322_118 {x0 x1 x2 x3 x4 x5 : Option Value} {o : Nat} {a1 : Value} : mw (d + 1) 322 Q 118 [x0, x1, x2, x3, x4, x5] (a1 :: .ref o :: st) h = (mg h o 14 ∧ mca st 8 ∧ mca [.ref o, a1] 6 ∧ mcall d 323 [.ref o, a1] h (mK (d + 1) 322 Q 121 [x0, x1, x2, x3, x4, x5] st)) := (mw_at mj_322_118).trans ((z_invv (As := [a1]) (by decide) rfl rfl).trans (congrArg (And _) (congrArg (And _) (mC_nl nl_323))))
theorem mj_322_121 : mc_P 322 121 = some (.invokevirtual 272, 3, 314, 14, 3) := by decide +kernel
theorem s_322_121 {x0 x1 x2 x3 x4 x5 : Option Value} {o : Nat} {a1 a2 : Value} : mw (d + 1) 322 Q 121 [x0, x1, x2, x3, x4, x5] (a2 :: a1 :: .ref o :: st) h = (mg h o 14 ∧ mca st 8 ∧ mca [.ref o, a1, a2] 3 ∧ mcall d 314 [.ref o, a1, a2] h (mK (d + 1) 322 Q 124 [x0, x1, x2, x3, x4, x5] st)) := (mw_at mj_322_121).trans ((z_invv (As := [a1, a2]) (by decide) rfl rfl).trans (congrArg (And _) (congrArg (And _) (mC_nl nl_314))))
theorem mj_322_124 : mc_P 322 124 = some (.goto (-51), 3, 0, 0, 0) := by decide +kernel
theorem s_322_124 {x0 x1 x2 x3 x4 x5 : Option Value} : mw d 322 Q 124 [x0, x1, x2, x3, x4, x5] (st) h = mw d 322 Q 73 [x0, x1, x2, x3, x4, x5] (st) h := (mw_at mj_322_124).trans (z_goto (by decide))
theorem mj_322_127 : mc_P 322 127 = some (.iload 5, 2, 0, 0, 0) := by decide +kernel
theorem s_322_127 {x0 x1 x2 x3 x4 : Option Value} {w : Value} : mw d 322 Q 127 [x0, x1, x2, x3, x4, some w] (st) h = mv_i w (mw d 322 Q 129 [x0, x1, x2, x3, x4, some w] (w :: st) h) := (mw_at mj_322_127).trans (z_iload rfl)
theorem mj_322_129 : mc_P 322 129 = some (.ireturn, 1, 0, 0, 0) := by decide +kernel
theorem s_322_129 {x0 x1 x2 x3 x4 x5 : Option Value} {x : Int32} : mw d 322 Q 129 [x0, x1, x2, x3, x4, x5] ([.int x]) h = (Q (some (.int x)) h) := (mw_at mj_322_129).trans (z_iret)
theorem e_322 {a0 : Nat} {a1 : Int32} {a2 : Int32} : mcall d 322 [.ref a0, .int a1, .int a2] h Q = mw d 322 Q 0 [some (.ref a0), some (.int a1), some (.int a2), none, none, none] [] h := by
  show mw d 322 Q 0 (me_en (mc_nl 322) _) [] h = _
  rw [nl_322]; rfl

/-! InvariantDeskModel.test(I)I -/
theorem mj_323_0 : mc_P 323 0 = some (.aload_n 0, 1, 0, 0, 0) := by decide +kernel
theorem s_323_0 {x1 x2 x3 x4 x5 : Option Value} {w : Value} : mw d 323 Q 0 [some w, x1, x2, x3, x4, x5] (st) h = mv_a w (mw d 323 Q 1 [some w, x1, x2, x3, x4, x5] (w :: st) h) := (mw_at mj_323_0).trans (z_aload_n rfl)
theorem mj_323_1 : mc_P 323 1 = some (.invokevirtual 249, 3, 310, 14, 1) := by decide +kernel
theorem s_323_1 {x0 x1 x2 x3 x4 x5 : Option Value} {o : Nat} : mw (d + 1) 323 Q 1 [x0, x1, x2, x3, x4, x5] (.ref o :: st) h = (mg h o 14 ∧ mca st 8 ∧ mca [.ref o] 1 ∧ mcall d 310 [.ref o] h (mK (d + 1) 323 Q 4 [x0, x1, x2, x3, x4, x5] st)) := (mw_at mj_323_1).trans ((z_invv (As := []) (by decide) rfl rfl).trans (congrArg (And _) (congrArg (And _) (mC_nl nl_310))))
theorem mj_323_4 : mc_P 323 4 = some (.bipush 33, 2, 0, 0, 0) := by decide +kernel
theorem s_323_4 {x0 x1 x2 x3 x4 x5 : Option Value} : mw d 323 Q 4 [x0, x1, x2, x3, x4, x5] (st) h = mw d 323 Q 6 [x0, x1, x2, x3, x4, x5] (.int 33 :: st) h := (mw_at mj_323_4).trans (z_bipush (by decide))
theorem mj_323_6 : mc_P 323 6 = some (.if_icmp .ne 58, 3, 0, 0, 0) := by decide +kernel
theorem s_323_6 {x0 x1 x2 x3 x4 x5 : Option Value} {x w : Int32} : mw d 323 Q 6 [x0, x1, x2, x3, x4, x5] (.int w :: .int x :: st) h = mB (¬ x = w) (mw d 323 Q) 64 9 [x0, x1, x2, x3, x4, x5] st h := (mw_at mj_323_6).trans (z_icmp_ne (by decide) rfl)
theorem mj_323_9 : mc_P 323 9 = some (.aload_n 0, 1, 0, 0, 0) := by decide +kernel
theorem s_323_9 {x1 x2 x3 x4 x5 : Option Value} {w : Value} : mw d 323 Q 9 [some w, x1, x2, x3, x4, x5] (st) h = mv_a w (mw d 323 Q 10 [some w, x1, x2, x3, x4, x5] (w :: st) h) := (mw_at mj_323_9).trans (z_aload_n rfl)
theorem mj_323_10 : mc_P 323 10 = some (.bipush 26, 2, 0, 0, 0) := by decide +kernel
theorem s_323_10 {x0 x1 x2 x3 x4 x5 : Option Value} : mw d 323 Q 10 [x0, x1, x2, x3, x4, x5] (st) h = mw d 323 Q 12 [x0, x1, x2, x3, x4, x5] (.int 26 :: st) h := (mw_at mj_323_10).trans (z_bipush (by decide))
theorem mj_323_12 : mc_P 323 12 = some (.aload_n 0, 1, 0, 0, 0) := by decide +kernel
theorem s_323_12 {x1 x2 x3 x4 x5 : Option Value} {w : Value} : mw d 323 Q 12 [some w, x1, x2, x3, x4, x5] (st) h = mv_a w (mw d 323 Q 13 [some w, x1, x2, x3, x4, x5] (w :: st) h) := (mw_at mj_323_12).trans (z_aload_n rfl)
theorem mj_323_13 : mc_P 323 13 = some (.getfield 16, 3, 14, 5, 0) := by decide +kernel
theorem s_323_13 {x0 x1 x2 x3 x4 x5 : Option Value} {o : Nat} : mw d 323 Q 13 [x0, x1, x2, x3, x4, x5] (.ref o :: st) h = (mg h o 14 ∧ mw d 323 Q 16 [x0, x1, x2, x3, x4, x5] (va_rf (mh_r h o 5) :: st) h) := (mw_at mj_323_13).trans (z_getr (by decide) (by decide) rfl)
theorem mj_323_16 : mc_P 323 16 = some (.aload_n 0, 1, 0, 0, 0) := by decide +kernel
theorem s_323_16 {x1 x2 x3 x4 x5 : Option Value} {w : Value} : mw d 323 Q 16 [some w, x1, x2, x3, x4, x5] (st) h = mv_a w (mw d 323 Q 17 [some w, x1, x2, x3, x4, x5] (w :: st) h) := (mw_at mj_323_16).trans (z_aload_n rfl)
theorem mj_323_17 : mc_P 323 17 = some (.getfield 246, 3, 14, 8, 0) := by decide +kernel
theorem s_323_17 {x0 x1 x2 x3 x4 x5 : Option Value} {o : Nat} : mw d 323 Q 17 [x0, x1, x2, x3, x4, x5] (.ref o :: st) h = (mg h o 14 ∧ mw d 323 Q 20 [x0, x1, x2, x3, x4, x5] (.int (mh_i h o 8) :: st) h) := (mw_at mj_323_17).trans (z_geti (by decide) (by decide) (Or.inl rfl))
theorem mj_323_20 : mc_P 323 20 = some (.iaload, 1, 0, 0, 0) := by decide +kernel
theorem s_323_20 {x0 x1 x2 x3 x4 x5 : Option Value} {o : Nat} {i : Int32} : mw d 323 Q 20 [x0, x1, x2, x3, x4, x5] (.int i :: .ref o :: st) h = (mg h o 100 ∧ mx i (mh_l h o) ∧ mw d 323 Q 21 [x0, x1, x2, x3, x4, x5] (.int (mh_i h o i.toNatClampNeg) :: st) h) := (mw_at mj_323_20).trans (z_iald)
theorem mj_323_21 : mc_P 323 21 = some (.iconst 0, 1, 0, 0, 0) := by decide +kernel
theorem s_323_21 {x0 x1 x2 x3 x4 x5 : Option Value} : mw d 323 Q 21 [x0, x1, x2, x3, x4, x5] (st) h = mw d 323 Q 22 [x0, x1, x2, x3, x4, x5] (.int 0 :: st) h := (mw_at mj_323_21).trans (z_iconst (by decide))
theorem mj_323_22 : mc_P 323 22 = some (.invokevirtual 259, 3, 313, 14, 4) := by decide +kernel
theorem s_323_22 {x0 x1 x2 x3 x4 x5 : Option Value} {o : Nat} {a1 a2 a3 : Value} : mw (d + 1) 323 Q 22 [x0, x1, x2, x3, x4, x5] (a3 :: a2 :: a1 :: .ref o :: st) h = (mg h o 14 ∧ mca st 8 ∧ mca [.ref o, a1, a2, a3] 4 ∧ mcall d 313 [.ref o, a1, a2, a3] h (mK (d + 1) 323 Q 25 [x0, x1, x2, x3, x4, x5] st)) := (mw_at mj_323_22).trans ((z_invv (As := [a1, a2, a3]) (by decide) rfl rfl).trans (congrArg (And _) (congrArg (And _) (mC_nl nl_313))))
theorem mj_323_25 : mc_P 323 25 = some (.istore_n 2, 1, 0, 0, 0) := by decide +kernel
theorem s_323_25 {x0 x1 x2 x3 x4 x5 : Option Value} {w : Int32} : mw d 323 Q 25 [x0, x1, x2, x3, x4, x5] (.int w :: st) h = mw d 323 Q 26 [x0, mk2 x1, some (.int w), x3, x4, x5] (st) h := (mw_at mj_323_25).trans (z_istore_n (Nat.le_of_ble_eq_true rfl) (me_s1_mk (j := 1) (w := x1) rfl))
theorem mj_323_26 : mc_P 323 26 = some (.aload_n 0, 1, 0, 0, 0) := by decide +kernel
theorem s_323_26 {x1 x2 x3 x4 x5 : Option Value} {w : Value} : mw d 323 Q 26 [some w, x1, x2, x3, x4, x5] (st) h = mv_a w (mw d 323 Q 27 [some w, x1, x2, x3, x4, x5] (w :: st) h) := (mw_at mj_323_26).trans (z_aload_n rfl)
theorem mj_323_27 : mc_P 323 27 = some (.bipush 33, 2, 0, 0, 0) := by decide +kernel
theorem s_323_27 {x0 x1 x2 x3 x4 x5 : Option Value} : mw d 323 Q 27 [x0, x1, x2, x3, x4, x5] (st) h = mw d 323 Q 29 [x0, x1, x2, x3, x4, x5] (.int 33 :: st) h := (mw_at mj_323_27).trans (z_bipush (by decide))
theorem mj_323_29 : mc_P 323 29 = some (.invokevirtual 262, 3, 312, 14, 2) := by decide +kernel
theorem s_323_29 {x0 x1 x2 x3 x4 x5 : Option Value} {o : Nat} {a1 : Value} : mw (d + 1) 323 Q 29 [x0, x1, x2, x3, x4, x5] (a1 :: .ref o :: st) h = (mg h o 14 ∧ mca st 8 ∧ mca [.ref o, a1] 2 ∧ mcall d 312 [.ref o, a1] h (mK (d + 1) 323 Q 32 [x0, x1, x2, x3, x4, x5] st)) := (mw_at mj_323_29).trans ((z_invv (As := [a1]) (by decide) rfl rfl).trans (congrArg (And _) (congrArg (And _) (mC_nl nl_312))))
theorem mj_323_32 : mc_P 323 32 = some (.aload_n 0, 1, 0, 0, 0) := by decide +kernel
theorem s_323_32 {x1 x2 x3 x4 x5 : Option Value} {w : Value} : mw d 323 Q 32 [some w, x1, x2, x3, x4, x5] (st) h = mv_a w (mw d 323 Q 33 [some w, x1, x2, x3, x4, x5] (w :: st) h) := (mw_at mj_323_32).trans (z_aload_n rfl)
theorem mj_323_33 : mc_P 323 33 = some (.iload_n 1, 1, 0, 0, 0) := by decide +kernel
theorem s_323_33 {x0 x2 x3 x4 x5 : Option Value} {w : Value} : mw d 323 Q 33 [x0, some w, x2, x3, x4, x5] (st) h = mv_i w (mw d 323 Q 34 [x0, some w, x2, x3, x4, x5] (w :: st) h) := (mw_at mj_323_33).trans (z_iload_n rfl)
theorem mj_323_34 : mc_P 323 34 = some (.iconst 1, 1, 0, 0, 0) := by decide +kernel
theorem s_323_34 {x0 x1 x2 x3 x4 x5 : Option Value} : mw d 323 Q 34 [x0, x1, x2, x3, x4, x5] (st) h = mw d 323 Q 35 [x0, x1, x2, x3, x4, x5] (.int 1 :: st) h := (mw_at mj_323_34).trans (z_iconst (by decide))
theorem mj_323_35 : mc_P 323 35 = some (.iadd, 1, 0, 0, 0) := by decide +kernel
theorem s_323_35 {x0 x1 x2 x3 x4 x5 : Option Value} {x w : Int32} : mw d 323 Q 35 [x0, x1, x2, x3, x4, x5] (.int w :: .int x :: st) h = mw d 323 Q 36 [x0, x1, x2, x3, x4, x5] (.int (x + w) :: st) h := (mw_at mj_323_35).trans (z_iadd)
theorem mj_323_36 : mc_P 323 36 = some (.invokevirtual 266, 3, 317, 14, 2) := by decide +kernel
theorem s_323_36 {x0 x1 x2 x3 x4 x5 : Option Value} {o : Nat} {a1 : Value} : mw (d + 1) 323 Q 36 [x0, x1, x2, x3, x4, x5] (a1 :: .ref o :: st) h = (mg h o 14 ∧ mca st 8 ∧ mca [.ref o, a1] 2 ∧ mcall d 317 [.ref o, a1] h (mK (d + 1) 323 Q 39 [x0, x1, x2, x3, x4, x5] st)) := (mw_at mj_323_36).trans ((z_invv (As := [a1]) (by decide) rfl rfl).trans (congrArg (And _) (congrArg (And _) (mC_nl nl_317))))
theorem mj_323_39 : mc_P 323 39 = some (.aload_n 0, 1, 0, 0, 0) := by decide +kernel
theorem s_323_39 {x1 x2 x3 x4 x5 : Option Value} {w : Value} : mw d 323 Q 39 [some w, x1, x2, x3, x4, x5] (st) h = mv_a w (mw d 323 Q 40 [some w, x1, x2, x3, x4, x5] (w :: st) h) := (mw_at mj_323_39).trans (z_aload_n rfl)
theorem mj_323_40 : mc_P 323 40 = some (.iload_n 2, 1, 0, 0, 0) := by decide +kernel
theorem s_323_40 {x0 x1 x3 x4 x5 : Option Value} {w : Value} : mw d 323 Q 40 [x0, x1, some w, x3, x4, x5] (st) h = mv_i w (mw d 323 Q 41 [x0, x1, some w, x3, x4, x5] (w :: st) h) := (mw_at mj_323_40).trans (z_iload_n rfl)
theorem mj_323_41 : mc_P 323 41 = some (.aload_n 0, 1, 0, 0, 0) := by decide +kernel
theorem s_323_41 {x1 x2 x3 x4 x5 : Option Value} {w : Value} : mw d 323 Q 41 [some w, x1, x2, x3, x4, x5] (st) h = mv_a w (mw d 323 Q 42 [some w, x1, x2, x3, x4, x5] (w :: st) h) := (mw_at mj_323_41).trans (z_aload_n rfl)
theorem mj_323_42 : mc_P 323 42 = some (.getfield 242, 3, 14, 9, 0) := by decide +kernel
theorem s_323_42 {x0 x1 x2 x3 x4 x5 : Option Value} {o : Nat} : mw d 323 Q 42 [x0, x1, x2, x3, x4, x5] (.ref o :: st) h = (mg h o 14 ∧ mw d 323 Q 45 [x0, x1, x2, x3, x4, x5] (.int (mh_i h o 9) :: st) h) := (mw_at mj_323_42).trans (z_geti (by decide) (by decide) (Or.inr rfl))
theorem mj_323_45 : mc_P 323 45 = some (.ifCond .eq 7, 3, 0, 0, 0) := by decide +kernel
theorem s_323_45 {x0 x1 x2 x3 x4 x5 : Option Value} {x : Int32} : mw d 323 Q 45 [x0, x1, x2, x3, x4, x5] (.int x :: st) h = mB (x = 0) (mw d 323 Q) 52 48 [x0, x1, x2, x3, x4, x5] st h := (mw_at mj_323_45).trans (z_if_eq (by decide) rfl)
theorem mj_323_48 : mc_P 323 48 = some (.iconst (-1), 1, 0, 0, 0) := by decide +kernel
theorem s_323_48 {x0 x1 x2 x3 x4 x5 : Option Value} : mw d 323 Q 48 [x0, x1, x2, x3, x4, x5] (st) h = mw d 323 Q 49 [x0, x1, x2, x3, x4, x5] (.int (-1) :: st) h := (mw_at mj_323_48).trans (z_iconst (by decide))
theorem mj_323_49 : mc_P 323 49 = some (.goto 10, 3, 0, 0, 0) := by decide +kernel
theorem s_323_49 {x0 x1 x2 x3 x4 x5 : Option Value} : mw d 323 Q 49 [x0, x1, x2, x3, x4, x5] (st) h = mw d 323 Q 59 [x0, x1, x2, x3, x4, x5] (st) h := (mw_at mj_323_49).trans (z_goto (by decide))
theorem mj_323_52 : mc_P 323 52 = some (.aload_n 0, 1, 0, 0, 0) := by decide +kernel
theorem s_323_52 {x1 x2 x3 x4 x5 : Option Value} {w : Value} : mw d 323 Q 52 [some w, x1, x2, x3, x4, x5] (st) h = mv_a w (mw d 323 Q 53 [some w, x1, x2, x3, x4, x5] (w :: st) h) := (mw_at mj_323_52).trans (z_aload_n rfl)
theorem mj_323_53 : mc_P 323 53 = some (.iload_n 1, 1, 0, 0, 0) := by decide +kernel
theorem s_323_53 {x0 x2 x3 x4 x5 : Option Value} {w : Value} : mw d 323 Q 53 [x0, some w, x2, x3, x4, x5] (st) h = mv_i w (mw d 323 Q 54 [x0, some w, x2, x3, x4, x5] (w :: st) h) := (mw_at mj_323_53).trans (z_iload_n rfl)
theorem mj_323_54 : mc_P 323 54 = some (.iconst 1, 1, 0, 0, 0) := by decide +kernel
theorem s_323_54 {x0 x1 x2 x3 x4 x5 : Option Value} : mw d 323 Q 54 [x0, x1, x2, x3, x4, x5] (st) h = mw d 323 Q 55 [x0, x1, x2, x3, x4, x5] (.int 1 :: st) h := (mw_at mj_323_54).trans (z_iconst (by decide))
theorem mj_323_55 : mc_P 323 55 = some (.iadd, 1, 0, 0, 0) := by decide +kernel
theorem s_323_55 {x0 x1 x2 x3 x4 x5 : Option Value} {x w : Int32} : mw d 323 Q 55 [x0, x1, x2, x3, x4, x5] (.int w :: .int x :: st) h = mw d 323 Q 56 [x0, x1, x2, x3, x4, x5] (.int (x + w) :: st) h := (mw_at mj_323_55).trans (z_iadd)
theorem mj_323_56 : mc_P 323 56 = some (.invokevirtual 292, 3, 323, 14, 2) := by decide +kernel
theorem s_323_56 {x0 x1 x2 x3 x4 x5 : Option Value} {o : Nat} {a1 : Value} : mw (d + 1) 323 Q 56 [x0, x1, x2, x3, x4, x5] (a1 :: .ref o :: st) h = (mg h o 14 ∧ mca st 8 ∧ mca [.ref o, a1] 6 ∧ mcall d 323 [.ref o, a1] h (mK (d + 1) 323 Q 59 [x0, x1, x2, x3, x4, x5] st)) := (mw_at mj_323_56).trans ((z_invv (As := [a1]) (by decide) rfl rfl).trans (congrArg (And _) (congrArg (And _) (mC_nl nl_323))))
theorem mj_323_59 : mc_P 323 59 = some (.invokevirtual 272, 3, 314, 14, 3) := by decide +kernel
theorem s_323_59 {x0 x1 x2 x3 x4 x5 : Option Value} {o : Nat} {a1 a2 : Value} : mw (d + 1) 323 Q 59 [x0, x1, x2, x3, x4, x5] (a2 :: a1 :: .ref o :: st) h = (mg h o 14 ∧ mca st 8 ∧ mca [.ref o, a1, a2] 3 ∧ mcall d 314 [.ref o, a1, a2] h (mK (d + 1) 323 Q 62 [x0, x1, x2, x3, x4, x5] st)) := (mw_at mj_323_59).trans ((z_invv (As := [a1, a2]) (by decide) rfl rfl).trans (congrArg (And _) (congrArg (And _) (mC_nl nl_314))))
theorem mj_323_62 : mc_P 323 62 = some (.iload_n 2, 1, 0, 0, 0) := by decide +kernel
theorem s_323_62 {x0 x1 x3 x4 x5 : Option Value} {w : Value} : mw d 323 Q 62 [x0, x1, some w, x3, x4, x5] (st) h = mv_i w (mw d 323 Q 63 [x0, x1, some w, x3, x4, x5] (w :: st) h) := (mw_at mj_323_62).trans (z_iload_n rfl)
theorem mj_323_63 : mc_P 323 63 = some (.ireturn, 1, 0, 0, 0) := by decide +kernel
theorem s_323_63 {x0 x1 x2 x3 x4 x5 : Option Value} {x : Int32} : mw d 323 Q 63 [x0, x1, x2, x3, x4, x5] ([.int x]) h = (Q (some (.int x)) h) := (mw_at mj_323_63).trans (z_iret)
theorem mj_323_64 : mc_P 323 64 = some (.aload_n 0, 1, 0, 0, 0) := by decide +kernel
theorem s_323_64 {x1 x2 x3 x4 x5 : Option Value} {w : Value} : mw d 323 Q 64 [some w, x1, x2, x3, x4, x5] (st) h = mv_a w (mw d 323 Q 65 [some w, x1, x2, x3, x4, x5] (w :: st) h) := (mw_at mj_323_64).trans (z_aload_n rfl)
theorem mj_323_65 : mc_P 323 65 = some (.invokevirtual 249, 3, 310, 14, 1) := by decide +kernel
theorem s_323_65 {x0 x1 x2 x3 x4 x5 : Option Value} {o : Nat} : mw (d + 1) 323 Q 65 [x0, x1, x2, x3, x4, x5] (.ref o :: st) h = (mg h o 14 ∧ mca st 8 ∧ mca [.ref o] 1 ∧ mcall d 310 [.ref o] h (mK (d + 1) 323 Q 68 [x0, x1, x2, x3, x4, x5] st)) := (mw_at mj_323_65).trans ((z_invv (As := []) (by decide) rfl rfl).trans (congrArg (And _) (congrArg (And _) (mC_nl nl_310))))
theorem mj_323_68 : mc_P 323 68 = some (.bipush 91, 2, 0, 0, 0) := by decide +kernel
theorem s_323_68 {x0 x1 x2 x3 x4 x5 : Option Value} : mw d 323 Q 68 [x0, x1, x2, x3, x4, x5] (st) h = mw d 323 Q 70 [x0, x1, x2, x3, x4, x5] (.int 91 :: st) h := (mw_at mj_323_68).trans (z_bipush (by decide))
theorem mj_323_70 : mc_P 323 70 = some (.if_icmp .ne 36, 3, 0, 0, 0) := by decide +kernel
theorem s_323_70 {x0 x1 x2 x3 x4 x5 : Option Value} {x w : Int32} : mw d 323 Q 70 [x0, x1, x2, x3, x4, x5] (.int w :: .int x :: st) h = mB (¬ x = w) (mw d 323 Q) 106 73 [x0, x1, x2, x3, x4, x5] st h := (mw_at mj_323_70).trans (z_icmp_ne (by decide) rfl)
theorem mj_323_73 : mc_P 323 73 = some (.aload_n 0, 1, 0, 0, 0) := by decide +kernel
theorem s_323_73 {x1 x2 x3 x4 x5 : Option Value} {w : Value} : mw d 323 Q 73 [some w, x1, x2, x3, x4, x5] (st) h = mv_a w (mw d 323 Q 74 [some w, x1, x2, x3, x4, x5] (w :: st) h) := (mw_at mj_323_73).trans (z_aload_n rfl)
theorem mj_323_74 : mc_P 323 74 = some (.bipush 91, 2, 0, 0, 0) := by decide +kernel
theorem s_323_74 {x0 x1 x2 x3 x4 x5 : Option Value} : mw d 323 Q 74 [x0, x1, x2, x3, x4, x5] (st) h = mw d 323 Q 76 [x0, x1, x2, x3, x4, x5] (.int 91 :: st) h := (mw_at mj_323_74).trans (z_bipush (by decide))
theorem mj_323_76 : mc_P 323 76 = some (.invokevirtual 262, 3, 312, 14, 2) := by decide +kernel
theorem s_323_76 {x0 x1 x2 x3 x4 x5 : Option Value} {o : Nat} {a1 : Value} : mw (d + 1) 323 Q 76 [x0, x1, x2, x3, x4, x5] (a1 :: .ref o :: st) h = (mg h o 14 ∧ mca st 8 ∧ mca [.ref o, a1] 2 ∧ mcall d 312 [.ref o, a1] h (mK (d + 1) 323 Q 79 [x0, x1, x2, x3, x4, x5] st)) := (mw_at mj_323_76).trans ((z_invv (As := [a1]) (by decide) rfl rfl).trans (congrArg (And _) (congrArg (And _) (mC_nl nl_312))))
theorem mj_323_79 : mc_P 323 79 = some (.aload_n 0, 1, 0, 0, 0) := by decide +kernel
theorem s_323_79 {x1 x2 x3 x4 x5 : Option Value} {w : Value} : mw d 323 Q 79 [some w, x1, x2, x3, x4, x5] (st) h = mv_a w (mw d 323 Q 80 [some w, x1, x2, x3, x4, x5] (w :: st) h) := (mw_at mj_323_79).trans (z_aload_n rfl)
theorem mj_323_80 : mc_P 323 80 = some (.getfield 242, 3, 14, 9, 0) := by decide +kernel
theorem s_323_80 {x0 x1 x2 x3 x4 x5 : Option Value} {o : Nat} : mw d 323 Q 80 [x0, x1, x2, x3, x4, x5] (.ref o :: st) h = (mg h o 14 ∧ mw d 323 Q 83 [x0, x1, x2, x3, x4, x5] (.int (mh_i h o 9) :: st) h) := (mw_at mj_323_80).trans (z_geti (by decide) (by decide) (Or.inr rfl))
theorem mj_323_83 : mc_P 323 83 = some (.ifCond .eq 7, 3, 0, 0, 0) := by decide +kernel
theorem s_323_83 {x0 x1 x2 x3 x4 x5 : Option Value} {x : Int32} : mw d 323 Q 83 [x0, x1, x2, x3, x4, x5] (.int x :: st) h = mB (x = 0) (mw d 323 Q) 90 86 [x0, x1, x2, x3, x4, x5] st h := (mw_at mj_323_83).trans (z_if_eq (by decide) rfl)
theorem mj_323_86 : mc_P 323 86 = some (.iconst (-1), 1, 0, 0, 0) := by decide +kernel
theorem s_323_86 {x0 x1 x2 x3 x4 x5 : Option Value} : mw d 323 Q 86 [x0, x1, x2, x3, x4, x5] (st) h = mw d 323 Q 87 [x0, x1, x2, x3, x4, x5] (.int (-1) :: st) h := (mw_at mj_323_86).trans (z_iconst (by decide))
theorem mj_323_87 : mc_P 323 87 = some (.goto 10, 3, 0, 0, 0) := by decide +kernel
theorem s_323_87 {x0 x1 x2 x3 x4 x5 : Option Value} : mw d 323 Q 87 [x0, x1, x2, x3, x4, x5] (st) h = mw d 323 Q 97 [x0, x1, x2, x3, x4, x5] (st) h := (mw_at mj_323_87).trans (z_goto (by decide))
theorem mj_323_90 : mc_P 323 90 = some (.aload_n 0, 1, 0, 0, 0) := by decide +kernel
theorem s_323_90 {x1 x2 x3 x4 x5 : Option Value} {w : Value} : mw d 323 Q 90 [some w, x1, x2, x3, x4, x5] (st) h = mv_a w (mw d 323 Q 91 [some w, x1, x2, x3, x4, x5] (w :: st) h) := (mw_at mj_323_90).trans (z_aload_n rfl)
theorem mj_323_91 : mc_P 323 91 = some (.iload_n 1, 1, 0, 0, 0) := by decide +kernel
theorem s_323_91 {x0 x2 x3 x4 x5 : Option Value} {w : Value} : mw d 323 Q 91 [x0, some w, x2, x3, x4, x5] (st) h = mv_i w (mw d 323 Q 92 [x0, some w, x2, x3, x4, x5] (w :: st) h) := (mw_at mj_323_91).trans (z_iload_n rfl)
theorem mj_323_92 : mc_P 323 92 = some (.iconst 1, 1, 0, 0, 0) := by decide +kernel
theorem s_323_92 {x0 x1 x2 x3 x4 x5 : Option Value} : mw d 323 Q 92 [x0, x1, x2, x3, x4, x5] (st) h = mw d 323 Q 93 [x0, x1, x2, x3, x4, x5] (.int 1 :: st) h := (mw_at mj_323_92).trans (z_iconst (by decide))
theorem mj_323_93 : mc_P 323 93 = some (.iadd, 1, 0, 0, 0) := by decide +kernel
theorem s_323_93 {x0 x1 x2 x3 x4 x5 : Option Value} {x w : Int32} : mw d 323 Q 93 [x0, x1, x2, x3, x4, x5] (.int w :: .int x :: st) h = mw d 323 Q 94 [x0, x1, x2, x3, x4, x5] (.int (x + w) :: st) h := (mw_at mj_323_93).trans (z_iadd)
theorem mj_323_94 : mc_P 323 94 = some (.invokevirtual 295, 3, 321, 14, 2) := by decide +kernel
theorem s_323_94 {x0 x1 x2 x3 x4 x5 : Option Value} {o : Nat} {a1 : Value} : mw (d + 1) 323 Q 94 [x0, x1, x2, x3, x4, x5] (a1 :: .ref o :: st) h = (mg h o 14 ∧ mca st 8 ∧ mca [.ref o, a1] 2 ∧ mcall d 321 [.ref o, a1] h (mK (d + 1) 323 Q 97 [x0, x1, x2, x3, x4, x5] st)) := (mw_at mj_323_94).trans ((z_invv (As := [a1]) (by decide) rfl rfl).trans (congrArg (And _) (congrArg (And _) (mC_nl nl_321))))
theorem mj_323_97 : mc_P 323 97 = some (.istore_n 2, 1, 0, 0, 0) := by decide +kernel
theorem s_323_97 {x0 x1 x2 x3 x4 x5 : Option Value} {w : Int32} : mw d 323 Q 97 [x0, x1, x2, x3, x4, x5] (.int w :: st) h = mw d 323 Q 98 [x0, mk2 x1, some (.int w), x3, x4, x5] (st) h := (mw_at mj_323_97).trans (z_istore_n (Nat.le_of_ble_eq_true rfl) (me_s1_mk (j := 1) (w := x1) rfl))
theorem mj_323_98 : mc_P 323 98 = some (.aload_n 0, 1, 0, 0, 0) := by decide +kernel
theorem s_323_98 {x1 x2 x3 x4 x5 : Option Value} {w : Value} : mw d 323 Q 98 [some w, x1, x2, x3, x4, x5] (st) h = mv_a w (mw d 323 Q 99 [some w, x1, x2, x3, x4, x5] (w :: st) h) := (mw_at mj_323_98).trans (z_aload_n rfl)
theorem mj_323_99 : mc_P 323 99 = some (.bipush 93, 2, 0, 0, 0) := by decide +kernel
theorem s_323_99 {x0 x1 x2 x3 x4 x5 : Option Value} : mw d 323 Q 99 [x0, x1, x2, x3, x4, x5] (st) h = mw d 323 Q 101 [x0, x1, x2, x3, x4, x5] (.int 93 :: st) h := (mw_at mj_323_99).trans (z_bipush (by decide))
theorem mj_323_101 : mc_P 323 101 = some (.invokevirtual 262, 3, 312, 14, 2) := by decide +kernel
theorem s_323_101 {x0 x1 x2 x3 x4 x5 : Option Value} {o : Nat} {a1 : Value} : mw (d + 1) 323 Q 101 [x0, x1, x2, x3, x4, x5] (a1 :: .ref o :: st) h = (mg h o 14 ∧ mca st 8 ∧ mca [.ref o, a1] 2 ∧ mcall d 312 [.ref o, a1] h (mK (d + 1) 323 Q 104 [x0, x1, x2, x3, x4, x5] st)) := (mw_at mj_323_101).trans ((z_invv (As := [a1]) (by decide) rfl rfl).trans (congrArg (And _) (congrArg (And _) (mC_nl nl_312))))
theorem mj_323_104 : mc_P 323 104 = some (.iload_n 2, 1, 0, 0, 0) := by decide +kernel
theorem s_323_104 {x0 x1 x3 x4 x5 : Option Value} {w : Value} : mw d 323 Q 104 [x0, x1, some w, x3, x4, x5] (st) h = mv_i w (mw d 323 Q 105 [x0, x1, some w, x3, x4, x5] (w :: st) h) := (mw_at mj_323_104).trans (z_iload_n rfl)
theorem mj_323_105 : mc_P 323 105 = some (.ireturn, 1, 0, 0, 0) := by decide +kernel
theorem s_323_105 {x0 x1 x2 x3 x4 x5 : Option Value} {x : Int32} : mw d 323 Q 105 [x0, x1, x2, x3, x4, x5] ([.int x]) h = (Q (some (.int x)) h) := (mw_at mj_323_105).trans (z_iret)
theorem mj_323_106 : mc_P 323 106 = some (.aload_n 0, 1, 0, 0, 0) := by decide +kernel
theorem s_323_106 {x1 x2 x3 x4 x5 : Option Value} {w : Value} : mw d 323 Q 106 [some w, x1, x2, x3, x4, x5] (st) h = mv_a w (mw d 323 Q 107 [some w, x1, x2, x3, x4, x5] (w :: st) h) := (mw_at mj_323_106).trans (z_aload_n rfl)
theorem mj_323_107 : mc_P 323 107 = some (.iload_n 1, 1, 0, 0, 0) := by decide +kernel
theorem s_323_107 {x0 x2 x3 x4 x5 : Option Value} {w : Value} : mw d 323 Q 107 [x0, some w, x2, x3, x4, x5] (st) h = mv_i w (mw d 323 Q 108 [x0, some w, x2, x3, x4, x5] (w :: st) h) := (mw_at mj_323_107).trans (z_iload_n rfl)
theorem mj_323_108 : mc_P 323 108 = some (.iconst 1, 1, 0, 0, 0) := by decide +kernel
theorem s_323_108 {x0 x1 x2 x3 x4 x5 : Option Value} : mw d 323 Q 108 [x0, x1, x2, x3, x4, x5] (st) h = mw d 323 Q 109 [x0, x1, x2, x3, x4, x5] (.int 1 :: st) h := (mw_at mj_323_108).trans (z_iconst (by decide))
theorem mj_323_109 : mc_P 323 109 = some (.iadd, 1, 0, 0, 0) := by decide +kernel
theorem s_323_109 {x0 x1 x2 x3 x4 x5 : Option Value} {x w : Int32} : mw d 323 Q 109 [x0, x1, x2, x3, x4, x5] (.int w :: .int x :: st) h = mw d 323 Q 110 [x0, x1, x2, x3, x4, x5] (.int (x + w) :: st) h := (mw_at mj_323_109).trans (z_iadd)
theorem mj_323_110 : mc_P 323 110 = some (.invokevirtual 286, 3, 318, 14, 2) := by decide +kernel
theorem s_323_110 {x0 x1 x2 x3 x4 x5 : Option Value} {o : Nat} {a1 : Value} : mw (d + 1) 323 Q 110 [x0, x1, x2, x3, x4, x5] (a1 :: .ref o :: st) h = (mg h o 14 ∧ mca st 8 ∧ mca [.ref o, a1] 5 ∧ mcall d 318 [.ref o, a1] h (mK (d + 1) 323 Q 113 [x0, x1, x2, x3, x4, x5] st)) := (mw_at mj_323_110).trans ((z_invv (As := [a1]) (by decide) rfl rfl).trans (congrArg (And _) (congrArg (And _) (mC_nl nl_318))))
theorem mj_323_113 : mc_P 323 113 = some (.istore_n 2, 1, 0, 0, 0) := by decide +kernel
theorem s_323_113 {x0 x1 x2 x3 x4 x5 : Option Value} {w : Int32} : mw d 323 Q 113 [x0, x1, x2, x3, x4, x5] (.int w :: st) h = mw d 323 Q 114 [x0, mk2 x1, some (.int w), x3, x4, x5] (st) h := (mw_at mj_323_113).trans (z_istore_n (Nat.le_of_ble_eq_true rfl) (me_s1_mk (j := 1) (w := x1) rfl))
theorem mj_323_114 : mc_P 323 114 = some (.aload_n 0, 1, 0, 0, 0) := by decide +kernel
theorem s_323_114 {x1 x2 x3 x4 x5 : Option Value} {w : Value} : mw d 323 Q 114 [some w, x1, x2, x3, x4, x5] (st) h = mv_a w (mw d 323 Q 115 [some w, x1, x2, x3, x4, x5] (w :: st) h) := (mw_at mj_323_114).trans (z_aload_n rfl)
theorem mj_323_115 : mc_P 323 115 = some (.invokevirtual 249, 3, 310, 14, 1) := by decide +kernel
theorem s_323_115 {x0 x1 x2 x3 x4 x5 : Option Value} {o : Nat} : mw (d + 1) 323 Q 115 [x0, x1, x2, x3, x4, x5] (.ref o :: st) h = (mg h o 14 ∧ mca st 8 ∧ mca [.ref o] 1 ∧ mcall d 310 [.ref o] h (mK (d + 1) 323 Q 118 [x0, x1, x2, x3, x4, x5] st)) := (mw_at mj_323_115).trans ((z_invv (As := []) (by decide) rfl rfl).trans (congrArg (And _) (congrArg (And _) (mC_nl nl_310))))
theorem mj_323_118 : mc_P 323 118 = some (.istore_n 3, 1, 0, 0, 0) := by decide +kernel
theorem s_323_118 {x0 x1 x2 x3 x4 x5 : Option Value} {w : Int32} : mw d 323 Q 118 [x0, x1, x2, x3, x4, x5] (.int w :: st) h = mw d 323 Q 119 [x0, x1, mk2 x2, some (.int w), x4, x5] (st) h := (mw_at mj_323_118).trans (z_istore_n (Nat.le_of_ble_eq_true rfl) (me_s1_mk (j := 2) (w := x2) rfl))
theorem mj_323_119 : mc_P 323 119 = some (.iload_n 3, 1, 0, 0, 0) := by decide +kernel
theorem s_323_119 {x0 x1 x2 x4 x5 : Option Value} {w : Value} : mw d 323 Q 119 [x0, x1, x2, some w, x4, x5] (st) h = mv_i w (mw d 323 Q 120 [x0, x1, x2, some w, x4, x5] (w :: st) h) := (mw_at mj_323_119).trans (z_iload_n rfl)
theorem mj_323_120 : mc_P 323 120 = some (.bipush 60, 2, 0, 0, 0) := by decide +kernel
theorem s_323_120 {x0 x1 x2 x3 x4 x5 : Option Value} : mw d 323 Q 120 [x0, x1, x2, x3, x4, x5] (st) h = mw d 323 Q 122 [x0, x1, x2, x3, x4, x5] (.int 60 :: st) h := (mw_at mj_323_120).trans (z_bipush (by decide))
theorem mj_323_122 : mc_P 323 122 = some (.if_icmp .ne 8, 3, 0, 0, 0) := by decide +kernel
theorem s_323_122 {x0 x1 x2 x3 x4 x5 : Option Value} {x w : Int32} : mw d 323 Q 122 [x0, x1, x2, x3, x4, x5] (.int w :: .int x :: st) h = mB (¬ x = w) (mw d 323 Q) 130 125 [x0, x1, x2, x3, x4, x5] st h := (mw_at mj_323_122).trans (z_icmp_ne (by decide) rfl)
theorem mj_323_125 : mc_P 323 125 = some (.bipush 27, 2, 0, 0, 0) := by decide +kernel
theorem s_323_125 {x0 x1 x2 x3 x4 x5 : Option Value} : mw d 323 Q 125 [x0, x1, x2, x3, x4, x5] (st) h = mw d 323 Q 127 [x0, x1, x2, x3, x4, x5] (.int 27 :: st) h := (mw_at mj_323_125).trans (z_bipush (by decide))
theorem mj_323_127 : mc_P 323 127 = some (.goto 63, 3, 0, 0, 0) := by decide +kernel
theorem s_323_127 {x0 x1 x2 x3 x4 x5 : Option Value} : mw d 323 Q 127 [x0, x1, x2, x3, x4, x5] (st) h = mw d 323 Q 190 [x0, x1, x2, x3, x4, x5] (st) h := (mw_at mj_323_127).trans (z_goto (by decide))
theorem mj_323_130 : mc_P 323 130 = some (.iload_n 3, 1, 0, 0, 0) := by decide +kernel
theorem s_323_130 {x0 x1 x2 x4 x5 : Option Value} {w : Value} : mw d 323 Q 130 [x0, x1, x2, some w, x4, x5] (st) h = mv_i w (mw d 323 Q 131 [x0, x1, x2, some w, x4, x5] (w :: st) h) := (mw_at mj_323_130).trans (z_iload_n rfl)
theorem mj_323_131 : mc_P 323 131 = some (.sipush 256, 3, 0, 0, 0) := by decide +kernel
theorem s_323_131 {x0 x1 x2 x3 x4 x5 : Option Value} : mw d 323 Q 131 [x0, x1, x2, x3, x4, x5] (st) h = mw d 323 Q 134 [x0, x1, x2, x3, x4, x5] (.int 256 :: st) h := (mw_at mj_323_131).trans (z_sipush (by decide))
theorem mj_323_134 : mc_P 323 134 = some (.if_icmp .ne 8, 3, 0, 0, 0) := by decide +kernel
theorem s_323_134 {x0 x1 x2 x3 x4 x5 : Option Value} {x w : Int32} : mw d 323 Q 134 [x0, x1, x2, x3, x4, x5] (.int w :: .int x :: st) h = mB (¬ x = w) (mw d 323 Q) 142 137 [x0, x1, x2, x3, x4, x5] st h := (mw_at mj_323_134).trans (z_icmp_ne (by decide) rfl)
theorem mj_323_137 : mc_P 323 137 = some (.bipush 28, 2, 0, 0, 0) := by decide +kernel
theorem s_323_137 {x0 x1 x2 x3 x4 x5 : Option Value} : mw d 323 Q 137 [x0, x1, x2, x3, x4, x5] (st) h = mw d 323 Q 139 [x0, x1, x2, x3, x4, x5] (.int 28 :: st) h := (mw_at mj_323_137).trans (z_bipush (by decide))
theorem mj_323_139 : mc_P 323 139 = some (.goto 51, 3, 0, 0, 0) := by decide +kernel
theorem s_323_139 {x0 x1 x2 x3 x4 x5 : Option Value} : mw d 323 Q 139 [x0, x1, x2, x3, x4, x5] (st) h = mw d 323 Q 190 [x0, x1, x2, x3, x4, x5] (st) h := (mw_at mj_323_139).trans (z_goto (by decide))
theorem mj_323_142 : mc_P 323 142 = some (.iload_n 3, 1, 0, 0, 0) := by decide +kernel
theorem s_323_142 {x0 x1 x2 x4 x5 : Option Value} {w : Value} : mw d 323 Q 142 [x0, x1, x2, some w, x4, x5] (st) h = mv_i w (mw d 323 Q 143 [x0, x1, x2, some w, x4, x5] (w :: st) h) := (mw_at mj_323_142).trans (z_iload_n rfl)
theorem mj_323_143 : mc_P 323 143 = some (.bipush 62, 2, 0, 0, 0) := by decide +kernel
theorem s_323_143 {x0 x1 x2 x3 x4 x5 : Option Value} : mw d 323 Q 143 [x0, x1, x2, x3, x4, x5] (st) h = mw d 323 Q 145 [x0, x1, x2, x3, x4, x5] (.int 62 :: st) h := (mw_at mj_323_143).trans (z_bipush (by decide))
theorem mj_323_145 : mc_P 323 145 = some (.if_icmp .ne 8, 3, 0, 0, 0) := by decide +kernel
theorem s_323_145 {x0 x1 x2 x3 x4 x5 : Option Value} {x w : Int32} : mw d 323 Q 145 [x0, x1, x2, x3, x4, x5] (.int w :: .int x :: st) h = mB (¬ x = w) (mw d 323 Q) 153 148 [x0, x1, x2, x3, x4, x5] st h := (mw_at mj_323_145).trans (z_icmp_ne (by decide) rfl)
theorem mj_323_148 : mc_P 323 148 = some (.bipush 29, 2, 0, 0, 0) := by decide +kernel
theorem s_323_148 {x0 x1 x2 x3 x4 x5 : Option Value} : mw d 323 Q 148 [x0, x1, x2, x3, x4, x5] (st) h = mw d 323 Q 150 [x0, x1, x2, x3, x4, x5] (.int 29 :: st) h := (mw_at mj_323_148).trans (z_bipush (by decide))
theorem mj_323_150 : mc_P 323 150 = some (.goto 40, 3, 0, 0, 0) := by decide +kernel
theorem s_323_150 {x0 x1 x2 x3 x4 x5 : Option Value} : mw d 323 Q 150 [x0, x1, x2, x3, x4, x5] (st) h = mw d 323 Q 190 [x0, x1, x2, x3, x4, x5] (st) h := (mw_at mj_323_150).trans (z_goto (by decide))
theorem mj_323_153 : mc_P 323 153 = some (.iload_n 3, 1, 0, 0, 0) := by decide +kernel
theorem s_323_153 {x0 x1 x2 x4 x5 : Option Value} {w : Value} : mw d 323 Q 153 [x0, x1, x2, some w, x4, x5] (st) h = mv_i w (mw d 323 Q 154 [x0, x1, x2, some w, x4, x5] (w :: st) h) := (mw_at mj_323_153).trans (z_iload_n rfl)
theorem mj_323_154 : mc_P 323 154 = some (.sipush 257, 3, 0, 0, 0) := by decide +kernel
theorem s_323_154 {x0 x1 x2 x3 x4 x5 : Option Value} : mw d 323 Q 154 [x0, x1, x2, x3, x4, x5] (st) h = mw d 323 Q 157 [x0, x1, x2, x3, x4, x5] (.int 257 :: st) h := (mw_at mj_323_154).trans (z_sipush (by decide))
theorem mj_323_157 : mc_P 323 157 = some (.if_icmp .ne 8, 3, 0, 0, 0) := by decide +kernel
theorem s_323_157 {x0 x1 x2 x3 x4 x5 : Option Value} {x w : Int32} : mw d 323 Q 157 [x0, x1, x2, x3, x4, x5] (.int w :: .int x :: st) h = mB (¬ x = w) (mw d 323 Q) 165 160 [x0, x1, x2, x3, x4, x5] st h := (mw_at mj_323_157).trans (z_icmp_ne (by decide) rfl)
theorem mj_323_160 : mc_P 323 160 = some (.bipush 30, 2, 0, 0, 0) := by decide +kernel
theorem s_323_160 {x0 x1 x2 x3 x4 x5 : Option Value} : mw d 323 Q 160 [x0, x1, x2, x3, x4, x5] (st) h = mw d 323 Q 162 [x0, x1, x2, x3, x4, x5] (.int 30 :: st) h := (mw_at mj_323_160).trans (z_bipush (by decide))
theorem mj_323_162 : mc_P 323 162 = some (.goto 28, 3, 0, 0, 0) := by decide +kernel
theorem s_323_162 {x0 x1 x2 x3 x4 x5 : Option Value} : mw d 323 Q 162 [x0, x1, x2, x3, x4, x5] (st) h = mw d 323 Q 190 [x0, x1, x2, x3, x4, x5] (st) h := (mw_at mj_323_162).trans (z_goto (by decide))
theorem mj_323_165 : mc_P 323 165 = some (.iload_n 3, 1, 0, 0, 0) := by decide +kernel
theorem s_323_165 {x0 x1 x2 x4 x5 : Option Value} {w : Value} : mw d 323 Q 165 [x0, x1, x2, some w, x4, x5] (st) h = mv_i w (mw d 323 Q 166 [x0, x1, x2, some w, x4, x5] (w :: st) h) := (mw_at mj_323_165).trans (z_iload_n rfl)
theorem mj_323_166 : mc_P 323 166 = some (.sipush 258, 3, 0, 0, 0) := by decide +kernel
theorem s_323_166 {x0 x1 x2 x3 x4 x5 : Option Value} : mw d 323 Q 166 [x0, x1, x2, x3, x4, x5] (st) h = mw d 323 Q 169 [x0, x1, x2, x3, x4, x5] (.int 258 :: st) h := (mw_at mj_323_166).trans (z_sipush (by decide))
theorem mj_323_169 : mc_P 323 169 = some (.if_icmp .ne 8, 3, 0, 0, 0) := by decide +kernel
theorem s_323_169 {x0 x1 x2 x3 x4 x5 : Option Value} {x w : Int32} : mw d 323 Q 169 [x0, x1, x2, x3, x4, x5] (.int w :: .int x :: st) h = mB (¬ x = w) (mw d 323 Q) 177 172 [x0, x1, x2, x3, x4, x5] st h := (mw_at mj_323_169).trans (z_icmp_ne (by decide) rfl)
theorem mj_323_172 : mc_P 323 172 = some (.bipush 31, 2, 0, 0, 0) := by decide +kernel
theorem s_323_172 {x0 x1 x2 x3 x4 x5 : Option Value} : mw d 323 Q 172 [x0, x1, x2, x3, x4, x5] (st) h = mw d 323 Q 174 [x0, x1, x2, x3, x4, x5] (.int 31 :: st) h := (mw_at mj_323_172).trans (z_bipush (by decide))
theorem mj_323_174 : mc_P 323 174 = some (.goto 16, 3, 0, 0, 0) := by decide +kernel
theorem s_323_174 {x0 x1 x2 x3 x4 x5 : Option Value} : mw d 323 Q 174 [x0, x1, x2, x3, x4, x5] (st) h = mw d 323 Q 190 [x0, x1, x2, x3, x4, x5] (st) h := (mw_at mj_323_174).trans (z_goto (by decide))
theorem mj_323_177 : mc_P 323 177 = some (.iload_n 3, 1, 0, 0, 0) := by decide +kernel
theorem s_323_177 {x0 x1 x2 x4 x5 : Option Value} {w : Value} : mw d 323 Q 177 [x0, x1, x2, some w, x4, x5] (st) h = mv_i w (mw d 323 Q 178 [x0, x1, x2, some w, x4, x5] (w :: st) h) := (mw_at mj_323_177).trans (z_iload_n rfl)
theorem mj_323_178 : mc_P 323 178 = some (.sipush 259, 3, 0, 0, 0) := by decide +kernel
theorem s_323_178 {x0 x1 x2 x3 x4 x5 : Option Value} : mw d 323 Q 178 [x0, x1, x2, x3, x4, x5] (st) h = mw d 323 Q 181 [x0, x1, x2, x3, x4, x5] (.int 259 :: st) h := (mw_at mj_323_178).trans (z_sipush (by decide))
theorem mj_323_181 : mc_P 323 181 = some (.if_icmp .ne 8, 3, 0, 0, 0) := by decide +kernel
theorem s_323_181 {x0 x1 x2 x3 x4 x5 : Option Value} {x w : Int32} : mw d 323 Q 181 [x0, x1, x2, x3, x4, x5] (.int w :: .int x :: st) h = mB (¬ x = w) (mw d 323 Q) 189 184 [x0, x1, x2, x3, x4, x5] st h := (mw_at mj_323_181).trans (z_icmp_ne (by decide) rfl)
theorem mj_323_184 : mc_P 323 184 = some (.bipush 32, 2, 0, 0, 0) := by decide +kernel
theorem s_323_184 {x0 x1 x2 x3 x4 x5 : Option Value} : mw d 323 Q 184 [x0, x1, x2, x3, x4, x5] (st) h = mw d 323 Q 186 [x0, x1, x2, x3, x4, x5] (.int 32 :: st) h := (mw_at mj_323_184).trans (z_bipush (by decide))
theorem mj_323_186 : mc_P 323 186 = some (.goto 4, 3, 0, 0, 0) := by decide +kernel
theorem s_323_186 {x0 x1 x2 x3 x4 x5 : Option Value} : mw d 323 Q 186 [x0, x1, x2, x3, x4, x5] (st) h = mw d 323 Q 190 [x0, x1, x2, x3, x4, x5] (st) h := (mw_at mj_323_186).trans (z_goto (by decide))
theorem mj_323_189 : mc_P 323 189 = some (.iconst 0, 1, 0, 0, 0) := by decide +kernel
theorem s_323_189 {x0 x1 x2 x3 x4 x5 : Option Value} : mw d 323 Q 189 [x0, x1, x2, x3, x4, x5] (st) h = mw d 323 Q 190 [x0, x1, x2, x3, x4, x5] (.int 0 :: st) h := (mw_at mj_323_189).trans (z_iconst (by decide))
theorem mj_323_190 : mc_P 323 190 = some (.istore 4, 2, 0, 0, 0) := by decide +kernel
theorem s_323_190 {x0 x1 x2 x3 x4 x5 : Option Value} {w : Int32} : mw d 323 Q 190 [x0, x1, x2, x3, x4, x5] (.int w :: st) h = mw d 323 Q 192 [x0, x1, x2, mk2 x3, some (.int w), x5] (st) h := (mw_at mj_323_190).trans (z_istore (Nat.le_of_ble_eq_true rfl) (me_s1_mk (j := 3) (w := x3) rfl))
theorem mj_323_192 : mc_P 323 192 = some (.aload_n 0, 1, 0, 0, 0) := by decide +kernel
theorem s_323_192 {x1 x2 x3 x4 x5 : Option Value} {w : Value} : mw d 323 Q 192 [some w, x1, x2, x3, x4, x5] (st) h = mv_a w (mw d 323 Q 193 [some w, x1, x2, x3, x4, x5] (w :: st) h) := (mw_at mj_323_192).trans (z_aload_n rfl)
theorem mj_323_193 : mc_P 323 193 = some (.iload 4, 2, 0, 0, 0) := by decide +kernel
theorem s_323_193 {x0 x1 x2 x3 x5 : Option Value} {w : Value} : mw d 323 Q 193 [x0, x1, x2, x3, some w, x5] (st) h = mv_i w (mw d 323 Q 195 [x0, x1, x2, x3, some w, x5] (w :: st) h) := (mw_at mj_323_193).trans (z_iload rfl)
theorem mj_323_195 : mc_P 323 195 = some (.ifCond .le 7, 3, 0, 0, 0) := by decide +kernel
theorem s_323_195 {x0 x1 x2 x3 x4 x5 : Option Value} {x : Int32} : mw d 323 Q 195 [x0, x1, x2, x3, x4, x5] (.int x :: st) h = mB (x ≤ 0) (mw d 323 Q) 202 198 [x0, x1, x2, x3, x4, x5] st h := (mw_at mj_323_195).trans (z_if_le (by decide) rfl)
theorem mj_323_198 : mc_P 323 198 = some (.iconst 1, 1, 0, 0, 0) := by decide +kernel
theorem s_323_198 {x0 x1 x2 x3 x4 x5 : Option Value} : mw d 323 Q 198 [x0, x1, x2, x3, x4, x5] (st) h = mw d 323 Q 199 [x0, x1, x2, x3, x4, x5] (.int 1 :: st) h := (mw_at mj_323_198).trans (z_iconst (by decide))
theorem mj_323_199 : mc_P 323 199 = some (.goto 4, 3, 0, 0, 0) := by decide +kernel
theorem s_323_199 {x0 x1 x2 x3 x4 x5 : Option Value} : mw d 323 Q 199 [x0, x1, x2, x3, x4, x5] (st) h = mw d 323 Q 203 [x0, x1, x2, x3, x4, x5] (st) h := (mw_at mj_323_199).trans (z_goto (by decide))
theorem mj_323_202 : mc_P 323 202 = some (.iconst 0, 1, 0, 0, 0) := by decide +kernel
theorem s_323_202 {x0 x1 x2 x3 x4 x5 : Option Value} : mw d 323 Q 202 [x0, x1, x2, x3, x4, x5] (st) h = mw d 323 Q 203 [x0, x1, x2, x3, x4, x5] (.int 0 :: st) h := (mw_at mj_323_202).trans (z_iconst (by decide))
theorem mj_323_203 : mc_P 323 203 = some (.invokevirtual 252, 3, 311, 14, 2) := by decide +kernel
theorem s_323_203 {x0 x1 x2 x3 x4 x5 : Option Value} {o : Nat} {a1 : Value} : mw (d + 1) 323 Q 203 [x0, x1, x2, x3, x4, x5] (a1 :: .ref o :: st) h = (mg h o 14 ∧ mca st 8 ∧ mca [.ref o, a1] 2 ∧ mcall d 311 [.ref o, a1] h (mK (d + 1) 323 Q 206 [x0, x1, x2, x3, x4, x5] st)) := (mw_at mj_323_203).trans ((z_invv (As := [a1]) (by decide) rfl rfl).trans (congrArg (And _) (congrArg (And _) (mC_nl nl_311))))
theorem mj_323_206 : mc_P 323 206 = some (.aload_n 0, 1, 0, 0, 0) := by decide +kernel
theorem s_323_206 {x1 x2 x3 x4 x5 : Option Value} {w : Value} : mw d 323 Q 206 [some w, x1, x2, x3, x4, x5] (st) h = mv_a w (mw d 323 Q 207 [some w, x1, x2, x3, x4, x5] (w :: st) h) := (mw_at mj_323_206).trans (z_aload_n rfl)
theorem mj_323_207 : mc_P 323 207 = some (.getfield 242, 3, 14, 9, 0) := by decide +kernel
theorem s_323_207 {x0 x1 x2 x3 x4 x5 : Option Value} {o : Nat} : mw d 323 Q 207 [x0, x1, x2, x3, x4, x5] (.ref o :: st) h = (mg h o 14 ∧ mw d 323 Q 210 [x0, x1, x2, x3, x4, x5] (.int (mh_i h o 9) :: st) h) := (mw_at mj_323_207).trans (z_geti (by decide) (by decide) (Or.inr rfl))
theorem mj_323_210 : mc_P 323 210 = some (.ifCond .eq 5, 3, 0, 0, 0) := by decide +kernel
theorem s_323_210 {x0 x1 x2 x3 x4 x5 : Option Value} {x : Int32} : mw d 323 Q 210 [x0, x1, x2, x3, x4, x5] (.int x :: st) h = mB (x = 0) (mw d 323 Q) 215 213 [x0, x1, x2, x3, x4, x5] st h := (mw_at mj_323_210).trans (z_if_eq (by decide) rfl)
theorem mj_323_213 : mc_P 323 213 = some (.iconst (-1), 1, 0, 0, 0) := by decide +kernel
theorem s_323_213 {x0 x1 x2 x3 x4 x5 : Option Value} : mw d 323 Q 213 [x0, x1, x2, x3, x4, x5] (st) h = mw d 323 Q 214 [x0, x1, x2, x3, x4, x5] (.int (-1) :: st) h := (mw_at mj_323_213).trans (z_iconst (by decide))
theorem mj_323_214 : mc_P 323 214 = some (.ireturn, 1, 0, 0, 0) := by decide +kernel
theorem s_323_214 {x0 x1 x2 x3 x4 x5 : Option Value} {x : Int32} : mw d 323 Q 214 [x0, x1, x2, x3, x4, x5] ([.int x]) h = (Q (some (.int x)) h) := (mw_at mj_323_214).trans (z_iret)
theorem mj_323_215 : mc_P 323 215 = some (.aload_n 0, 1, 0, 0, 0) := by decide +kernel
theorem s_323_215 {x1 x2 x3 x4 x5 : Option Value} {w : Value} : mw d 323 Q 215 [some w, x1, x2, x3, x4, x5] (st) h = mv_a w (mw d 323 Q 216 [some w, x1, x2, x3, x4, x5] (w :: st) h) := (mw_at mj_323_215).trans (z_aload_n rfl)
theorem mj_323_216 : mc_P 323 216 = some (.iload 4, 2, 0, 0, 0) := by decide +kernel
theorem s_323_216 {x0 x1 x2 x3 x5 : Option Value} {w : Value} : mw d 323 Q 216 [x0, x1, x2, x3, some w, x5] (st) h = mv_i w (mw d 323 Q 218 [x0, x1, x2, x3, some w, x5] (w :: st) h) := (mw_at mj_323_216).trans (z_iload rfl)
theorem mj_323_218 : mc_P 323 218 = some (.aload_n 0, 1, 0, 0, 0) := by decide +kernel
theorem s_323_218 {x1 x2 x3 x4 x5 : Option Value} {w : Value} : mw d 323 Q 218 [some w, x1, x2, x3, x4, x5] (st) h = mv_a w (mw d 323 Q 219 [some w, x1, x2, x3, x4, x5] (w :: st) h) := (mw_at mj_323_218).trans (z_aload_n rfl)
theorem mj_323_219 : mc_P 323 219 = some (.getfield 30, 3, 14, 12, 0) := by decide +kernel
theorem s_323_219 {x0 x1 x2 x3 x4 x5 : Option Value} {o : Nat} : mw d 323 Q 219 [x0, x1, x2, x3, x4, x5] (.ref o :: st) h = (mg h o 14 ∧ mw d 323 Q 222 [x0, x1, x2, x3, x4, x5] (va_rf (mh_r h o 12) :: st) h) := (mw_at mj_323_219).trans (z_getr (by decide) (by decide) rfl)
theorem mj_323_222 : mc_P 323 222 = some (.iload_n 2, 1, 0, 0, 0) := by decide +kernel
theorem s_323_222 {x0 x1 x3 x4 x5 : Option Value} {w : Value} : mw d 323 Q 222 [x0, x1, some w, x3, x4, x5] (st) h = mv_i w (mw d 323 Q 223 [x0, x1, some w, x3, x4, x5] (w :: st) h) := (mw_at mj_323_222).trans (z_iload_n rfl)
theorem mj_323_223 : mc_P 323 223 = some (.iaload, 1, 0, 0, 0) := by decide +kernel
theorem s_323_223 {x0 x1 x2 x3 x4 x5 : Option Value} {o : Nat} {i : Int32} : mw d 323 Q 223 [x0, x1, x2, x3, x4, x5] (.int i :: .ref o :: st) h = (mg h o 100 ∧ mx i (mh_l h o) ∧ mw d 323 Q 224 [x0, x1, x2, x3, x4, x5] (.int (mh_i h o i.toNatClampNeg) :: st) h) := (mw_at mj_323_223).trans (z_iald)
theorem mj_323_224 : mc_P 323 224 = some (.iconst 0, 1, 0, 0, 0) := by decide +kernel
theorem s_323_224 {x0 x1 x2 x3 x4 x5 : Option Value} : mw d 323 Q 224 [x0, x1, x2, x3, x4, x5] (st) h = mw d 323 Q 225 [x0, x1, x2, x3, x4, x5] (.int 0 :: st) h := (mw_at mj_323_224).trans (z_iconst (by decide))
theorem mj_323_225 : mc_P 323 225 = some (.invokevirtual 259, 3, 313, 14, 4) := by decide +kernel
theorem s_323_225 {x0 x1 x2 x3 x4 x5 : Option Value} {o : Nat} {a1 a2 a3 : Value} : mw (d + 1) 323 Q 225 [x0, x1, x2, x3, x4, x5] (a3 :: a2 :: a1 :: .ref o :: st) h = (mg h o 14 ∧ mca st 8 ∧ mca [.ref o, a1, a2, a3] 4 ∧ mcall d 313 [.ref o, a1, a2, a3] h (mK (d + 1) 323 Q 228 [x0, x1, x2, x3, x4, x5] st)) := (mw_at mj_323_225).trans ((z_invv (As := [a1, a2, a3]) (by decide) rfl rfl).trans (congrArg (And _) (congrArg (And _) (mC_nl nl_313))))
theorem mj_323_228 : mc_P 323 228 = some (.istore 5, 2, 0, 0, 0) := by decide +kernel
theorem s_323_228 {x0 x1 x2 x3 x4 x5 : Option Value} {w : Int32} : mw d 323 Q 228 [x0, x1, x2, x3, x4, x5] (.int w :: st) h = mw d 323 Q 230 [x0, x1, x2, x3, mk2 x4, some (.int w)] (st) h := (mw_at mj_323_228).trans (z_istore (Nat.le_of_ble_eq_true rfl) (me_s1_mk (j := 4) (w := x4) rfl))
theorem mj_323_230 : mc_P 323 230 = some (.aload_n 0, 1, 0, 0, 0) := by decide +kernel
theorem s_323_230 {x1 x2 x3 x4 x5 : Option Value} {w : Value} : mw d 323 Q 230 [some w, x1, x2, x3, x4, x5] (st) h = mv_a w (mw d 323 Q 231 [some w, x1, x2, x3, x4, x5] (w :: st) h) := (mw_at mj_323_230).trans (z_aload_n rfl)
theorem mj_323_231 : mc_P 323 231 = some (.iload_n 3, 1, 0, 0, 0) := by decide +kernel
theorem s_323_231 {x0 x1 x2 x4 x5 : Option Value} {w : Value} : mw d 323 Q 231 [x0, x1, x2, some w, x4, x5] (st) h = mv_i w (mw d 323 Q 232 [x0, x1, x2, some w, x4, x5] (w :: st) h) := (mw_at mj_323_231).trans (z_iload_n rfl)
theorem mj_323_232 : mc_P 323 232 = some (.invokevirtual 262, 3, 312, 14, 2) := by decide +kernel
theorem s_323_232 {x0 x1 x2 x3 x4 x5 : Option Value} {o : Nat} {a1 : Value} : mw (d + 1) 323 Q 232 [x0, x1, x2, x3, x4, x5] (a1 :: .ref o :: st) h = (mg h o 14 ∧ mca st 8 ∧ mca [.ref o, a1] 2 ∧ mcall d 312 [.ref o, a1] h (mK (d + 1) 323 Q 235 [x0, x1, x2, x3, x4, x5] st)) := (mw_at mj_323_232).trans ((z_invv (As := [a1]) (by decide) rfl rfl).trans (congrArg (And _) (congrArg (And _) (mC_nl nl_312))))
theorem mj_323_235 : mc_P 323 235 = some (.aload_n 0, 1, 0, 0, 0) := by decide +kernel
theorem s_323_235 {x1 x2 x3 x4 x5 : Option Value} {w : Value} : mw d 323 Q 235 [some w, x1, x2, x3, x4, x5] (st) h = mv_a w (mw d 323 Q 236 [some w, x1, x2, x3, x4, x5] (w :: st) h) := (mw_at mj_323_235).trans (z_aload_n rfl)
theorem mj_323_236 : mc_P 323 236 = some (.iload 5, 2, 0, 0, 0) := by decide +kernel
theorem s_323_236 {x0 x1 x2 x3 x4 : Option Value} {w : Value} : mw d 323 Q 236 [x0, x1, x2, x3, x4, some w] (st) h = mv_i w (mw d 323 Q 238 [x0, x1, x2, x3, x4, some w] (w :: st) h) := (mw_at mj_323_236).trans (z_iload rfl)
theorem mj_323_238 : mc_P 323 238 = some (.iload_n 2, 1, 0, 0, 0) := by decide +kernel
theorem s_323_238 {x0 x1 x3 x4 x5 : Option Value} {w : Value} : mw d 323 Q 238 [x0, x1, some w, x3, x4, x5] (st) h = mv_i w (mw d 323 Q 239 [x0, x1, some w, x3, x4, x5] (w :: st) h) := (mw_at mj_323_238).trans (z_iload_n rfl)
theorem mj_323_239 : mc_P 323 239 = some (.invokevirtual 272, 3, 314, 14, 3) := by decide +kernel
theorem s_323_239 {x0 x1 x2 x3 x4 x5 : Option Value} {o : Nat} {a1 a2 : Value} : mw (d + 1) 323 Q 239 [x0, x1, x2, x3, x4, x5] (a2 :: a1 :: .ref o :: st) h = (mg h o 14 ∧ mca st 8 ∧ mca [.ref o, a1, a2] 3 ∧ mcall d 314 [.ref o, a1, a2] h (mK (d + 1) 323 Q 242 [x0, x1, x2, x3, x4, x5] st)) := (mw_at mj_323_239).trans ((z_invv (As := [a1, a2]) (by decide) rfl rfl).trans (congrArg (And _) (congrArg (And _) (mC_nl nl_314))))
theorem mj_323_242 : mc_P 323 242 = some (.aload_n 0, 1, 0, 0, 0) := by decide +kernel
theorem s_323_242 {x1 x2 x3 x4 x5 : Option Value} {w : Value} : mw d 323 Q 242 [some w, x1, x2, x3, x4, x5] (st) h = mv_a w (mw d 323 Q 243 [some w, x1, x2, x3, x4, x5] (w :: st) h) := (mw_at mj_323_242).trans (z_aload_n rfl)
theorem mj_323_243 : mc_P 323 243 = some (.iload 5, 2, 0, 0, 0) := by decide +kernel
theorem s_323_243 {x0 x1 x2 x3 x4 : Option Value} {w : Value} : mw d 323 Q 243 [x0, x1, x2, x3, x4, some w] (st) h = mv_i w (mw d 323 Q 245 [x0, x1, x2, x3, x4, some w] (w :: st) h) := (mw_at mj_323_243).trans (z_iload rfl)
theorem mj_323_245 : mc_P 323 245 = some (.aload_n 0, 1, 0, 0, 0) := by decide +kernel
theorem s_323_245 {x1 x2 x3 x4 x5 : Option Value} {w : Value} : mw d 323 Q 245 [some w, x1, x2, x3, x4, x5] (st) h = mv_a w (mw d 323 Q 246 [some w, x1, x2, x3, x4, x5] (w :: st) h) := (mw_at mj_323_245).trans (z_aload_n rfl)
theorem mj_323_246 : mc_P 323 246 = some (.iload_n 1, 1, 0, 0, 0) := by decide +kernel
theorem s_323_246 {x0 x2 x3 x4 x5 : Option Value} {w : Value} : mw d 323 Q 246 [x0, some w, x2, x3, x4, x5] (st) h = mv_i w (mw d 323 Q 247 [x0, some w, x2, x3, x4, x5] (w :: st) h) := (mw_at mj_323_246).trans (z_iload_n rfl)
theorem mj_323_247 : mc_P 323 247 = some (.iconst 1, 1, 0, 0, 0) := by decide +kernel
theorem s_323_247 {x0 x1 x2 x3 x4 x5 : Option Value} : mw d 323 Q 247 [x0, x1, x2, x3, x4, x5] (st) h = mw d 323 Q 248 [x0, x1, x2, x3, x4, x5] (.int 1 :: st) h := (mw_at mj_323_247).trans (z_iconst (by decide))
theorem mj_323_248 : mc_P 323 248 = some (.iadd, 1, 0, 0, 0) := by decide +kernel
theorem s_323_248 {x0 x1 x2 x3 x4 x5 : Option Value} {x w : Int32} : mw d 323 Q 248 [x0, x1, x2, x3, x4, x5] (.int w :: .int x :: st) h = mw d 323 Q 249 [x0, x1, x2, x3, x4, x5] (.int (x + w) :: st) h := (mw_at mj_323_248).trans (z_iadd)
theorem mj_323_249 : mc_P 323 249 = some (.invokevirtual 286, 3, 318, 14, 2) := by decide +kernel
theorem s_323_249 {x0 x1 x2 x3 x4 x5 : Option Value} {o : Nat} {a1 : Value} : mw (d + 1) 323 Q 249 [x0, x1, x2, x3, x4, x5] (a1 :: .ref o :: st) h = (mg h o 14 ∧ mca st 8 ∧ mca [.ref o, a1] 5 ∧ mcall d 318 [.ref o, a1] h (mK (d + 1) 323 Q 252 [x0, x1, x2, x3, x4, x5] st)) := (mw_at mj_323_249).trans ((z_invv (As := [a1]) (by decide) rfl rfl).trans (congrArg (And _) (congrArg (And _) (mC_nl nl_318))))
theorem mj_323_252 : mc_P 323 252 = some (.invokevirtual 272, 3, 314, 14, 3) := by decide +kernel
theorem s_323_252 {x0 x1 x2 x3 x4 x5 : Option Value} {o : Nat} {a1 a2 : Value} : mw (d + 1) 323 Q 252 [x0, x1, x2, x3, x4, x5] (a2 :: a1 :: .ref o :: st) h = (mg h o 14 ∧ mca st 8 ∧ mca [.ref o, a1, a2] 3 ∧ mcall d 314 [.ref o, a1, a2] h (mK (d + 1) 323 Q 255 [x0, x1, x2, x3, x4, x5] st)) := (mw_at mj_323_252).trans ((z_invv (As := [a1, a2]) (by decide) rfl rfl).trans (congrArg (And _) (congrArg (And _) (mC_nl nl_314))))
theorem mj_323_255 : mc_P 323 255 = some (.iload 5, 2, 0, 0, 0) := by decide +kernel
theorem s_323_255 {x0 x1 x2 x3 x4 : Option Value} {w : Value} : mw d 323 Q 255 [x0, x1, x2, x3, x4, some w] (st) h = mv_i w (mw d 323 Q 257 [x0, x1, x2, x3, x4, some w] (w :: st) h) := (mw_at mj_323_255).trans (z_iload rfl)
theorem mj_323_257 : mc_P 323 257 = some (.ireturn, 1, 0, 0, 0) := by decide +kernel
theorem s_323_257 {x0 x1 x2 x3 x4 x5 : Option Value} {x : Int32} : mw d 323 Q 257 [x0, x1, x2, x3, x4, x5] ([.int x]) h = (Q (some (.int x)) h) := (mw_at mj_323_257).trans (z_iret)
theorem e_323 {a0 : Nat} {a1 : Int32} : mcall d 323 [.ref a0, .int a1] h Q = mw d 323 Q 0 [some (.ref a0), some (.int a1), none, none, none, none] [] h := by
  show mw d 323 Q 0 (me_en (mc_nl 323) _) [] h = _
  rw [nl_323]; rfl

/-! InvariantDeskModel.block(I)I -/
theorem mj_324_0 : mc_P 324 0 = some (.aload_n 0, 1, 0, 0, 0) := by decide +kernel
theorem s_324_0 {x1 x2 : Option Value} {w : Value} : mw d 324 Q 0 [some w, x1, x2] (st) h = mv_a w (mw d 324 Q 1 [some w, x1, x2] (w :: st) h) := (mw_at mj_324_0).trans (z_aload_n rfl)
theorem mj_324_1 : mc_P 324 1 = some (.iload_n 1, 1, 0, 0, 0) := by decide +kernel
theorem s_324_1 {x0 x2 : Option Value} {w : Value} : mw d 324 Q 1 [x0, some w, x2] (st) h = mv_i w (mw d 324 Q 2 [x0, some w, x2] (w :: st) h) := (mw_at mj_324_1).trans (z_iload_n rfl)
theorem mj_324_2 : mc_P 324 2 = some (.invokevirtual 266, 3, 317, 14, 2) := by decide +kernel
theorem s_324_2 {x0 x1 x2 : Option Value} {o : Nat} {a1 : Value} : mw (d + 1) 324 Q 2 [x0, x1, x2] (a1 :: .ref o :: st) h = (mg h o 14 ∧ mca st 8 ∧ mca [.ref o, a1] 2 ∧ mcall d 317 [.ref o, a1] h (mK (d + 1) 324 Q 5 [x0, x1, x2] st)) := (mw_at mj_324_2).trans ((z_invv (As := [a1]) (by decide) rfl rfl).trans (congrArg (And _) (congrArg (And _) (mC_nl nl_317))))
theorem mj_324_5 : mc_P 324 5 = some (.aload_n 0, 1, 0, 0, 0) := by decide +kernel
theorem s_324_5 {x1 x2 : Option Value} {w : Value} : mw d 324 Q 5 [some w, x1, x2] (st) h = mv_a w (mw d 324 Q 6 [some w, x1, x2] (w :: st) h) := (mw_at mj_324_5).trans (z_aload_n rfl)
theorem mj_324_6 : mc_P 324 6 = some (.iconst 2, 1, 0, 0, 0) := by decide +kernel
theorem s_324_6 {x0 x1 x2 : Option Value} : mw d 324 Q 6 [x0, x1, x2] (st) h = mw d 324 Q 7 [x0, x1, x2] (.int 2 :: st) h := (mw_at mj_324_6).trans (z_iconst (by decide))
theorem mj_324_7 : mc_P 324 7 = some (.aload_n 0, 1, 0, 0, 0) := by decide +kernel
theorem s_324_7 {x1 x2 : Option Value} {w : Value} : mw d 324 Q 7 [some w, x1, x2] (st) h = mv_a w (mw d 324 Q 8 [some w, x1, x2] (w :: st) h) := (mw_at mj_324_7).trans (z_aload_n rfl)
theorem mj_324_8 : mc_P 324 8 = some (.getfield 16, 3, 14, 5, 0) := by decide +kernel
theorem s_324_8 {x0 x1 x2 : Option Value} {o : Nat} : mw d 324 Q 8 [x0, x1, x2] (.ref o :: st) h = (mg h o 14 ∧ mw d 324 Q 11 [x0, x1, x2] (va_rf (mh_r h o 5) :: st) h) := (mw_at mj_324_8).trans (z_getr (by decide) (by decide) rfl)
theorem mj_324_11 : mc_P 324 11 = some (.aload_n 0, 1, 0, 0, 0) := by decide +kernel
theorem s_324_11 {x1 x2 : Option Value} {w : Value} : mw d 324 Q 11 [some w, x1, x2] (st) h = mv_a w (mw d 324 Q 12 [some w, x1, x2] (w :: st) h) := (mw_at mj_324_11).trans (z_aload_n rfl)
theorem mj_324_12 : mc_P 324 12 = some (.getfield 246, 3, 14, 8, 0) := by decide +kernel
theorem s_324_12 {x0 x1 x2 : Option Value} {o : Nat} : mw d 324 Q 12 [x0, x1, x2] (.ref o :: st) h = (mg h o 14 ∧ mw d 324 Q 15 [x0, x1, x2] (.int (mh_i h o 8) :: st) h) := (mw_at mj_324_12).trans (z_geti (by decide) (by decide) (Or.inl rfl))
theorem mj_324_15 : mc_P 324 15 = some (.iaload, 1, 0, 0, 0) := by decide +kernel
theorem s_324_15 {x0 x1 x2 : Option Value} {o : Nat} {i : Int32} : mw d 324 Q 15 [x0, x1, x2] (.int i :: .ref o :: st) h = (mg h o 100 ∧ mx i (mh_l h o) ∧ mw d 324 Q 16 [x0, x1, x2] (.int (mh_i h o i.toNatClampNeg) :: st) h) := (mw_at mj_324_15).trans (z_iald)
theorem mj_324_16 : mc_P 324 16 = some (.iconst 0, 1, 0, 0, 0) := by decide +kernel
theorem s_324_16 {x0 x1 x2 : Option Value} : mw d 324 Q 16 [x0, x1, x2] (st) h = mw d 324 Q 17 [x0, x1, x2] (.int 0 :: st) h := (mw_at mj_324_16).trans (z_iconst (by decide))
theorem mj_324_17 : mc_P 324 17 = some (.invokevirtual 259, 3, 313, 14, 4) := by decide +kernel
theorem s_324_17 {x0 x1 x2 : Option Value} {o : Nat} {a1 a2 a3 : Value} : mw (d + 1) 324 Q 17 [x0, x1, x2] (a3 :: a2 :: a1 :: .ref o :: st) h = (mg h o 14 ∧ mca st 8 ∧ mca [.ref o, a1, a2, a3] 4 ∧ mcall d 313 [.ref o, a1, a2, a3] h (mK (d + 1) 324 Q 20 [x0, x1, x2] st)) := (mw_at mj_324_17).trans ((z_invv (As := [a1, a2, a3]) (by decide) rfl rfl).trans (congrArg (And _) (congrArg (And _) (mC_nl nl_313))))
theorem mj_324_20 : mc_P 324 20 = some (.istore_n 2, 1, 0, 0, 0) := by decide +kernel
theorem s_324_20 {x0 x1 x2 : Option Value} {w : Int32} : mw d 324 Q 20 [x0, x1, x2] (.int w :: st) h = mw d 324 Q 21 [x0, mk2 x1, some (.int w)] (st) h := (mw_at mj_324_20).trans (z_istore_n (Nat.le_of_ble_eq_true rfl) (me_s1_mk (j := 1) (w := x1) rfl))
theorem mj_324_21 : mc_P 324 21 = some (.aload_n 0, 1, 0, 0, 0) := by decide +kernel
theorem s_324_21 {x1 x2 : Option Value} {w : Value} : mw d 324 Q 21 [some w, x1, x2] (st) h = mv_a w (mw d 324 Q 22 [some w, x1, x2] (w :: st) h) := (mw_at mj_324_21).trans (z_aload_n rfl)
theorem mj_324_22 : mc_P 324 22 = some (.bipush 123, 2, 0, 0, 0) := by decide +kernel
theorem s_324_22 {x0 x1 x2 : Option Value} : mw d 324 Q 22 [x0, x1, x2] (st) h = mw d 324 Q 24 [x0, x1, x2] (.int 123 :: st) h := (mw_at mj_324_22).trans (z_bipush (by decide))
theorem mj_324_24 : mc_P 324 24 = some (.invokevirtual 262, 3, 312, 14, 2) := by decide +kernel
theorem s_324_24 {x0 x1 x2 : Option Value} {o : Nat} {a1 : Value} : mw (d + 1) 324 Q 24 [x0, x1, x2] (a1 :: .ref o :: st) h = (mg h o 14 ∧ mca st 8 ∧ mca [.ref o, a1] 2 ∧ mcall d 312 [.ref o, a1] h (mK (d + 1) 324 Q 27 [x0, x1, x2] st)) := (mw_at mj_324_24).trans ((z_invv (As := [a1]) (by decide) rfl rfl).trans (congrArg (And _) (congrArg (And _) (mC_nl nl_312))))
theorem mj_324_27 : mc_P 324 27 = some (.aload_n 0, 1, 0, 0, 0) := by decide +kernel
theorem s_324_27 {x1 x2 : Option Value} {w : Value} : mw d 324 Q 27 [some w, x1, x2] (st) h = mv_a w (mw d 324 Q 28 [some w, x1, x2] (w :: st) h) := (mw_at mj_324_27).trans (z_aload_n rfl)
theorem mj_324_28 : mc_P 324 28 = some (.getfield 242, 3, 14, 9, 0) := by decide +kernel
theorem s_324_28 {x0 x1 x2 : Option Value} {o : Nat} : mw d 324 Q 28 [x0, x1, x2] (.ref o :: st) h = (mg h o 14 ∧ mw d 324 Q 31 [x0, x1, x2] (.int (mh_i h o 9) :: st) h) := (mw_at mj_324_28).trans (z_geti (by decide) (by decide) (Or.inr rfl))
theorem mj_324_31 : mc_P 324 31 = some (.ifCond .ne 25, 3, 0, 0, 0) := by decide +kernel
theorem s_324_31 {x0 x1 x2 : Option Value} {x : Int32} : mw d 324 Q 31 [x0, x1, x2] (.int x :: st) h = mB (¬ x = 0) (mw d 324 Q) 56 34 [x0, x1, x2] st h := (mw_at mj_324_31).trans (z_if_ne (by decide) rfl)
theorem mj_324_34 : mc_P 324 34 = some (.aload_n 0, 1, 0, 0, 0) := by decide +kernel
theorem s_324_34 {x1 x2 : Option Value} {w : Value} : mw d 324 Q 34 [some w, x1, x2] (st) h = mv_a w (mw d 324 Q 35 [some w, x1, x2] (w :: st) h) := (mw_at mj_324_34).trans (z_aload_n rfl)
theorem mj_324_35 : mc_P 324 35 = some (.invokevirtual 249, 3, 310, 14, 1) := by decide +kernel
theorem s_324_35 {x0 x1 x2 : Option Value} {o : Nat} : mw (d + 1) 324 Q 35 [x0, x1, x2] (.ref o :: st) h = (mg h o 14 ∧ mca st 8 ∧ mca [.ref o] 1 ∧ mcall d 310 [.ref o] h (mK (d + 1) 324 Q 38 [x0, x1, x2] st)) := (mw_at mj_324_35).trans ((z_invv (As := []) (by decide) rfl rfl).trans (congrArg (And _) (congrArg (And _) (mC_nl nl_310))))
theorem mj_324_38 : mc_P 324 38 = some (.bipush 125, 2, 0, 0, 0) := by decide +kernel
theorem s_324_38 {x0 x1 x2 : Option Value} : mw d 324 Q 38 [x0, x1, x2] (st) h = mw d 324 Q 40 [x0, x1, x2] (.int 125 :: st) h := (mw_at mj_324_38).trans (z_bipush (by decide))
theorem mj_324_40 : mc_P 324 40 = some (.if_icmp .eq 16, 3, 0, 0, 0) := by decide +kernel
theorem s_324_40 {x0 x1 x2 : Option Value} {x w : Int32} : mw d 324 Q 40 [x0, x1, x2] (.int w :: .int x :: st) h = mB (x = w) (mw d 324 Q) 56 43 [x0, x1, x2] st h := (mw_at mj_324_40).trans (z_icmp_eq (by decide) rfl)
theorem mj_324_43 : mc_P 324 43 = some (.aload_n 0, 1, 0, 0, 0) := by decide +kernel
theorem s_324_43 {x1 x2 : Option Value} {w : Value} : mw d 324 Q 43 [some w, x1, x2] (st) h = mv_a w (mw d 324 Q 44 [some w, x1, x2] (w :: st) h) := (mw_at mj_324_43).trans (z_aload_n rfl)
theorem mj_324_44 : mc_P 324 44 = some (.iload_n 2, 1, 0, 0, 0) := by decide +kernel
theorem s_324_44 {x0 x1 : Option Value} {w : Value} : mw d 324 Q 44 [x0, x1, some w] (st) h = mv_i w (mw d 324 Q 45 [x0, x1, some w] (w :: st) h) := (mw_at mj_324_44).trans (z_iload_n rfl)
theorem mj_324_45 : mc_P 324 45 = some (.aload_n 0, 1, 0, 0, 0) := by decide +kernel
theorem s_324_45 {x1 x2 : Option Value} {w : Value} : mw d 324 Q 45 [some w, x1, x2] (st) h = mv_a w (mw d 324 Q 46 [some w, x1, x2] (w :: st) h) := (mw_at mj_324_45).trans (z_aload_n rfl)
theorem mj_324_46 : mc_P 324 46 = some (.iload_n 1, 1, 0, 0, 0) := by decide +kernel
theorem s_324_46 {x0 x2 : Option Value} {w : Value} : mw d 324 Q 46 [x0, some w, x2] (st) h = mv_i w (mw d 324 Q 47 [x0, some w, x2] (w :: st) h) := (mw_at mj_324_46).trans (z_iload_n rfl)
theorem mj_324_47 : mc_P 324 47 = some (.invokevirtual 298, 3, 326, 14, 2) := by decide +kernel
theorem s_324_47 {x0 x1 x2 : Option Value} {o : Nat} {a1 : Value} : mw (d + 1) 324 Q 47 [x0, x1, x2] (a1 :: .ref o :: st) h = (mg h o 14 ∧ mca st 8 ∧ mca [.ref o, a1] 6 ∧ mcall d 326 [.ref o, a1] h (mK (d + 1) 324 Q 50 [x0, x1, x2] st)) := (mw_at mj_324_47).trans ((z_invv (As := [a1]) (by decide) rfl rfl).trans (congrArg (And _) (congrArg (And _) (mC_nl nl_326))))
theorem mj_324_50 : mc_P 324 50 = some (.invokevirtual 272, 3, 314, 14, 3) := by decide +kernel
theorem s_324_50 {x0 x1 x2 : Option Value} {o : Nat} {a1 a2 : Value} : mw (d + 1) 324 Q 50 [x0, x1, x2] (a2 :: a1 :: .ref o :: st) h = (mg h o 14 ∧ mca st 8 ∧ mca [.ref o, a1, a2] 3 ∧ mcall d 314 [.ref o, a1, a2] h (mK (d + 1) 324 Q 53 [x0, x1, x2] st)) := (mw_at mj_324_50).trans ((z_invv (As := [a1, a2]) (by decide) rfl rfl).trans (congrArg (And _) (congrArg (And _) (mC_nl nl_314))))
theorem mj_324_53 : mc_P 324 53 = some (.goto (-26), 3, 0, 0, 0) := by decide +kernel
theorem s_324_53 {x0 x1 x2 : Option Value} : mw d 324 Q 53 [x0, x1, x2] (st) h = mw d 324 Q 27 [x0, x1, x2] (st) h := (mw_at mj_324_53).trans (z_goto (by decide))
theorem mj_324_56 : mc_P 324 56 = some (.aload_n 0, 1, 0, 0, 0) := by decide +kernel
theorem s_324_56 {x1 x2 : Option Value} {w : Value} : mw d 324 Q 56 [some w, x1, x2] (st) h = mv_a w (mw d 324 Q 57 [some w, x1, x2] (w :: st) h) := (mw_at mj_324_56).trans (z_aload_n rfl)
theorem mj_324_57 : mc_P 324 57 = some (.bipush 125, 2, 0, 0, 0) := by decide +kernel
theorem s_324_57 {x0 x1 x2 : Option Value} : mw d 324 Q 57 [x0, x1, x2] (st) h = mw d 324 Q 59 [x0, x1, x2] (.int 125 :: st) h := (mw_at mj_324_57).trans (z_bipush (by decide))
theorem mj_324_59 : mc_P 324 59 = some (.invokevirtual 262, 3, 312, 14, 2) := by decide +kernel
theorem s_324_59 {x0 x1 x2 : Option Value} {o : Nat} {a1 : Value} : mw (d + 1) 324 Q 59 [x0, x1, x2] (a1 :: .ref o :: st) h = (mg h o 14 ∧ mca st 8 ∧ mca [.ref o, a1] 2 ∧ mcall d 312 [.ref o, a1] h (mK (d + 1) 324 Q 62 [x0, x1, x2] st)) := (mw_at mj_324_59).trans ((z_invv (As := [a1]) (by decide) rfl rfl).trans (congrArg (And _) (congrArg (And _) (mC_nl nl_312))))
theorem mj_324_62 : mc_P 324 62 = some (.iload_n 2, 1, 0, 0, 0) := by decide +kernel
theorem s_324_62 {x0 x1 : Option Value} {w : Value} : mw d 324 Q 62 [x0, x1, some w] (st) h = mv_i w (mw d 324 Q 63 [x0, x1, some w] (w :: st) h) := (mw_at mj_324_62).trans (z_iload_n rfl)
theorem mj_324_63 : mc_P 324 63 = some (.ireturn, 1, 0, 0, 0) := by decide +kernel
theorem s_324_63 {x0 x1 x2 : Option Value} {x : Int32} : mw d 324 Q 63 [x0, x1, x2] ([.int x]) h = (Q (some (.int x)) h) := (mw_at mj_324_63).trans (z_iret)
theorem e_324 {a0 : Nat} {a1 : Int32} : mcall d 324 [.ref a0, .int a1] h Q = mw d 324 Q 0 [some (.ref a0), some (.int a1), none] [] h := by
  show mw d 324 Q 0 (me_en (mc_nl 324) _) [] h = _
  rw [nl_324]; rfl

/-! InvariantDeskModel.sums(II)V -/
theorem mj_325_0 : mc_P 325 0 = some (.aload_n 0, 1, 0, 0, 0) := by decide +kernel
theorem s_325_0 {x1 x2 : Option Value} {w : Value} : mw d 325 Q 0 [some w, x1, x2] (st) h = mv_a w (mw d 325 Q 1 [some w, x1, x2] (w :: st) h) := (mw_at mj_325_0).trans (z_aload_n rfl)
theorem mj_325_1 : mc_P 325 1 = some (.bipush 40, 2, 0, 0, 0) := by decide +kernel
theorem s_325_1 {x0 x1 x2 : Option Value} : mw d 325 Q 1 [x0, x1, x2] (st) h = mw d 325 Q 3 [x0, x1, x2] (.int 40 :: st) h := (mw_at mj_325_1).trans (z_bipush (by decide))
theorem mj_325_3 : mc_P 325 3 = some (.invokevirtual 262, 3, 312, 14, 2) := by decide +kernel
theorem s_325_3 {x0 x1 x2 : Option Value} {o : Nat} {a1 : Value} : mw (d + 1) 325 Q 3 [x0, x1, x2] (a1 :: .ref o :: st) h = (mg h o 14 ∧ mca st 8 ∧ mca [.ref o, a1] 2 ∧ mcall d 312 [.ref o, a1] h (mK (d + 1) 325 Q 6 [x0, x1, x2] st)) := (mw_at mj_325_3).trans ((z_invv (As := [a1]) (by decide) rfl rfl).trans (congrArg (And _) (congrArg (And _) (mC_nl nl_312))))
theorem mj_325_6 : mc_P 325 6 = some (.aload_n 0, 1, 0, 0, 0) := by decide +kernel
theorem s_325_6 {x1 x2 : Option Value} {w : Value} : mw d 325 Q 6 [some w, x1, x2] (st) h = mv_a w (mw d 325 Q 7 [some w, x1, x2] (w :: st) h) := (mw_at mj_325_6).trans (z_aload_n rfl)
theorem mj_325_7 : mc_P 325 7 = some (.invokevirtual 249, 3, 310, 14, 1) := by decide +kernel
theorem s_325_7 {x0 x1 x2 : Option Value} {o : Nat} : mw (d + 1) 325 Q 7 [x0, x1, x2] (.ref o :: st) h = (mg h o 14 ∧ mca st 8 ∧ mca [.ref o] 1 ∧ mcall d 310 [.ref o] h (mK (d + 1) 325 Q 10 [x0, x1, x2] st)) := (mw_at mj_325_7).trans ((z_invv (As := []) (by decide) rfl rfl).trans (congrArg (And _) (congrArg (And _) (mC_nl nl_310))))
theorem mj_325_10 : mc_P 325 10 = some (.bipush 41, 2, 0, 0, 0) := by decide +kernel
theorem s_325_10 {x0 x1 x2 : Option Value} : mw d 325 Q 10 [x0, x1, x2] (st) h = mw d 325 Q 12 [x0, x1, x2] (.int 41 :: st) h := (mw_at mj_325_10).trans (z_bipush (by decide))
theorem mj_325_12 : mc_P 325 12 = some (.if_icmp .eq 67, 3, 0, 0, 0) := by decide +kernel
theorem s_325_12 {x0 x1 x2 : Option Value} {x w : Int32} : mw d 325 Q 12 [x0, x1, x2] (.int w :: .int x :: st) h = mB (x = w) (mw d 325 Q) 79 15 [x0, x1, x2] st h := (mw_at mj_325_12).trans (z_icmp_eq (by decide) rfl)
theorem mj_325_15 : mc_P 325 15 = some (.aload_n 0, 1, 0, 0, 0) := by decide +kernel
theorem s_325_15 {x1 x2 : Option Value} {w : Value} : mw d 325 Q 15 [some w, x1, x2] (st) h = mv_a w (mw d 325 Q 16 [some w, x1, x2] (w :: st) h) := (mw_at mj_325_15).trans (z_aload_n rfl)
theorem mj_325_16 : mc_P 325 16 = some (.iload_n 1, 1, 0, 0, 0) := by decide +kernel
theorem s_325_16 {x0 x2 : Option Value} {w : Value} : mw d 325 Q 16 [x0, some w, x2] (st) h = mv_i w (mw d 325 Q 17 [x0, some w, x2] (w :: st) h) := (mw_at mj_325_16).trans (z_iload_n rfl)
theorem mj_325_17 : mc_P 325 17 = some (.aload_n 0, 1, 0, 0, 0) := by decide +kernel
theorem s_325_17 {x1 x2 : Option Value} {w : Value} : mw d 325 Q 17 [some w, x1, x2] (st) h = mv_a w (mw d 325 Q 18 [some w, x1, x2] (w :: st) h) := (mw_at mj_325_17).trans (z_aload_n rfl)
theorem mj_325_18 : mc_P 325 18 = some (.getfield 242, 3, 14, 9, 0) := by decide +kernel
theorem s_325_18 {x0 x1 x2 : Option Value} {o : Nat} : mw d 325 Q 18 [x0, x1, x2] (.ref o :: st) h = (mg h o 14 ∧ mw d 325 Q 21 [x0, x1, x2] (.int (mh_i h o 9) :: st) h) := (mw_at mj_325_18).trans (z_geti (by decide) (by decide) (Or.inr rfl))
theorem mj_325_21 : mc_P 325 21 = some (.ifCond .eq 7, 3, 0, 0, 0) := by decide +kernel
theorem s_325_21 {x0 x1 x2 : Option Value} {x : Int32} : mw d 325 Q 21 [x0, x1, x2] (.int x :: st) h = mB (x = 0) (mw d 325 Q) 28 24 [x0, x1, x2] st h := (mw_at mj_325_21).trans (z_if_eq (by decide) rfl)
theorem mj_325_24 : mc_P 325 24 = some (.iconst (-1), 1, 0, 0, 0) := by decide +kernel
theorem s_325_24 {x0 x1 x2 : Option Value} : mw d 325 Q 24 [x0, x1, x2] (st) h = mw d 325 Q 25 [x0, x1, x2] (.int (-1) :: st) h := (mw_at mj_325_24).trans (z_iconst (by decide))
theorem mj_325_25 : mc_P 325 25 = some (.goto 10, 3, 0, 0, 0) := by decide +kernel
theorem s_325_25 {x0 x1 x2 : Option Value} : mw d 325 Q 25 [x0, x1, x2] (st) h = mw d 325 Q 35 [x0, x1, x2] (st) h := (mw_at mj_325_25).trans (z_goto (by decide))
theorem mj_325_28 : mc_P 325 28 = some (.aload_n 0, 1, 0, 0, 0) := by decide +kernel
theorem s_325_28 {x1 x2 : Option Value} {w : Value} : mw d 325 Q 28 [some w, x1, x2] (st) h = mv_a w (mw d 325 Q 29 [some w, x1, x2] (w :: st) h) := (mw_at mj_325_28).trans (z_aload_n rfl)
theorem mj_325_29 : mc_P 325 29 = some (.iload_n 2, 1, 0, 0, 0) := by decide +kernel
theorem s_325_29 {x0 x1 : Option Value} {w : Value} : mw d 325 Q 29 [x0, x1, some w] (st) h = mv_i w (mw d 325 Q 30 [x0, x1, some w] (w :: st) h) := (mw_at mj_325_29).trans (z_iload_n rfl)
theorem mj_325_30 : mc_P 325 30 = some (.iconst 1, 1, 0, 0, 0) := by decide +kernel
theorem s_325_30 {x0 x1 x2 : Option Value} : mw d 325 Q 30 [x0, x1, x2] (st) h = mw d 325 Q 31 [x0, x1, x2] (.int 1 :: st) h := (mw_at mj_325_30).trans (z_iconst (by decide))
theorem mj_325_31 : mc_P 325 31 = some (.iadd, 1, 0, 0, 0) := by decide +kernel
theorem s_325_31 {x0 x1 x2 : Option Value} {x w : Int32} : mw d 325 Q 31 [x0, x1, x2] (.int w :: .int x :: st) h = mw d 325 Q 32 [x0, x1, x2] (.int (x + w) :: st) h := (mw_at mj_325_31).trans (z_iadd)
theorem mj_325_32 : mc_P 325 32 = some (.invokevirtual 286, 3, 318, 14, 2) := by decide +kernel
theorem s_325_32 {x0 x1 x2 : Option Value} {o : Nat} {a1 : Value} : mw (d + 1) 325 Q 32 [x0, x1, x2] (a1 :: .ref o :: st) h = (mg h o 14 ∧ mca st 8 ∧ mca [.ref o, a1] 5 ∧ mcall d 318 [.ref o, a1] h (mK (d + 1) 325 Q 35 [x0, x1, x2] st)) := (mw_at mj_325_32).trans ((z_invv (As := [a1]) (by decide) rfl rfl).trans (congrArg (And _) (congrArg (And _) (mC_nl nl_318))))
theorem mj_325_35 : mc_P 325 35 = some (.invokevirtual 272, 3, 314, 14, 3) := by decide +kernel
theorem s_325_35 {x0 x1 x2 : Option Value} {o : Nat} {a1 a2 : Value} : mw (d + 1) 325 Q 35 [x0, x1, x2] (a2 :: a1 :: .ref o :: st) h = (mg h o 14 ∧ mca st 8 ∧ mca [.ref o, a1, a2] 3 ∧ mcall d 314 [.ref o, a1, a2] h (mK (d + 1) 325 Q 38 [x0, x1, x2] st)) := (mw_at mj_325_35).trans ((z_invv (As := [a1, a2]) (by decide) rfl rfl).trans (congrArg (And _) (congrArg (And _) (mC_nl nl_314))))
theorem mj_325_38 : mc_P 325 38 = some (.aload_n 0, 1, 0, 0, 0) := by decide +kernel
theorem s_325_38 {x1 x2 : Option Value} {w : Value} : mw d 325 Q 38 [some w, x1, x2] (st) h = mv_a w (mw d 325 Q 39 [some w, x1, x2] (w :: st) h) := (mw_at mj_325_38).trans (z_aload_n rfl)
theorem mj_325_39 : mc_P 325 39 = some (.invokevirtual 249, 3, 310, 14, 1) := by decide +kernel
theorem s_325_39 {x0 x1 x2 : Option Value} {o : Nat} : mw (d + 1) 325 Q 39 [x0, x1, x2] (.ref o :: st) h = (mg h o 14 ∧ mca st 8 ∧ mca [.ref o] 1 ∧ mcall d 310 [.ref o] h (mK (d + 1) 325 Q 42 [x0, x1, x2] st)) := (mw_at mj_325_39).trans ((z_invv (As := []) (by decide) rfl rfl).trans (congrArg (And _) (congrArg (And _) (mC_nl nl_310))))
theorem mj_325_42 : mc_P 325 42 = some (.bipush 44, 2, 0, 0, 0) := by decide +kernel
theorem s_325_42 {x0 x1 x2 : Option Value} : mw d 325 Q 42 [x0, x1, x2] (st) h = mw d 325 Q 44 [x0, x1, x2] (.int 44 :: st) h := (mw_at mj_325_42).trans (z_bipush (by decide))
theorem mj_325_44 : mc_P 325 44 = some (.if_icmp .ne 35, 3, 0, 0, 0) := by decide +kernel
theorem s_325_44 {x0 x1 x2 : Option Value} {x w : Int32} : mw d 325 Q 44 [x0, x1, x2] (.int w :: .int x :: st) h = mB (¬ x = w) (mw d 325 Q) 79 47 [x0, x1, x2] st h := (mw_at mj_325_44).trans (z_icmp_ne (by decide) rfl)
theorem mj_325_47 : mc_P 325 47 = some (.aload_n 0, 1, 0, 0, 0) := by decide +kernel
theorem s_325_47 {x1 x2 : Option Value} {w : Value} : mw d 325 Q 47 [some w, x1, x2] (st) h = mv_a w (mw d 325 Q 48 [some w, x1, x2] (w :: st) h) := (mw_at mj_325_47).trans (z_aload_n rfl)
theorem mj_325_48 : mc_P 325 48 = some (.bipush 44, 2, 0, 0, 0) := by decide +kernel
theorem s_325_48 {x0 x1 x2 : Option Value} : mw d 325 Q 48 [x0, x1, x2] (st) h = mw d 325 Q 50 [x0, x1, x2] (.int 44 :: st) h := (mw_at mj_325_48).trans (z_bipush (by decide))
theorem mj_325_50 : mc_P 325 50 = some (.invokevirtual 262, 3, 312, 14, 2) := by decide +kernel
theorem s_325_50 {x0 x1 x2 : Option Value} {o : Nat} {a1 : Value} : mw (d + 1) 325 Q 50 [x0, x1, x2] (a1 :: .ref o :: st) h = (mg h o 14 ∧ mca st 8 ∧ mca [.ref o, a1] 2 ∧ mcall d 312 [.ref o, a1] h (mK (d + 1) 325 Q 53 [x0, x1, x2] st)) := (mw_at mj_325_50).trans ((z_invv (As := [a1]) (by decide) rfl rfl).trans (congrArg (And _) (congrArg (And _) (mC_nl nl_312))))
theorem mj_325_53 : mc_P 325 53 = some (.aload_n 0, 1, 0, 0, 0) := by decide +kernel
theorem s_325_53 {x1 x2 : Option Value} {w : Value} : mw d 325 Q 53 [some w, x1, x2] (st) h = mv_a w (mw d 325 Q 54 [some w, x1, x2] (w :: st) h) := (mw_at mj_325_53).trans (z_aload_n rfl)
theorem mj_325_54 : mc_P 325 54 = some (.iload_n 1, 1, 0, 0, 0) := by decide +kernel
theorem s_325_54 {x0 x2 : Option Value} {w : Value} : mw d 325 Q 54 [x0, some w, x2] (st) h = mv_i w (mw d 325 Q 55 [x0, some w, x2] (w :: st) h) := (mw_at mj_325_54).trans (z_iload_n rfl)
theorem mj_325_55 : mc_P 325 55 = some (.aload_n 0, 1, 0, 0, 0) := by decide +kernel
theorem s_325_55 {x1 x2 : Option Value} {w : Value} : mw d 325 Q 55 [some w, x1, x2] (st) h = mv_a w (mw d 325 Q 56 [some w, x1, x2] (w :: st) h) := (mw_at mj_325_55).trans (z_aload_n rfl)
theorem mj_325_56 : mc_P 325 56 = some (.getfield 242, 3, 14, 9, 0) := by decide +kernel
theorem s_325_56 {x0 x1 x2 : Option Value} {o : Nat} : mw d 325 Q 56 [x0, x1, x2] (.ref o :: st) h = (mg h o 14 ∧ mw d 325 Q 59 [x0, x1, x2] (.int (mh_i h o 9) :: st) h) := (mw_at mj_325_56).trans (z_geti (by decide) (by decide) (Or.inr rfl))
theorem mj_325_59 : mc_P 325 59 = some (.ifCond .eq 7, 3, 0, 0, 0) := by decide +kernel
theorem s_325_59 {x0 x1 x2 : Option Value} {x : Int32} : mw d 325 Q 59 [x0, x1, x2] (.int x :: st) h = mB (x = 0) (mw d 325 Q) 66 62 [x0, x1, x2] st h := (mw_at mj_325_59).trans (z_if_eq (by decide) rfl)
theorem mj_325_62 : mc_P 325 62 = some (.iconst (-1), 1, 0, 0, 0) := by decide +kernel
theorem s_325_62 {x0 x1 x2 : Option Value} : mw d 325 Q 62 [x0, x1, x2] (st) h = mw d 325 Q 63 [x0, x1, x2] (.int (-1) :: st) h := (mw_at mj_325_62).trans (z_iconst (by decide))
theorem mj_325_63 : mc_P 325 63 = some (.goto 10, 3, 0, 0, 0) := by decide +kernel
theorem s_325_63 {x0 x1 x2 : Option Value} : mw d 325 Q 63 [x0, x1, x2] (st) h = mw d 325 Q 73 [x0, x1, x2] (st) h := (mw_at mj_325_63).trans (z_goto (by decide))
theorem mj_325_66 : mc_P 325 66 = some (.aload_n 0, 1, 0, 0, 0) := by decide +kernel
theorem s_325_66 {x1 x2 : Option Value} {w : Value} : mw d 325 Q 66 [some w, x1, x2] (st) h = mv_a w (mw d 325 Q 67 [some w, x1, x2] (w :: st) h) := (mw_at mj_325_66).trans (z_aload_n rfl)
theorem mj_325_67 : mc_P 325 67 = some (.iload_n 2, 1, 0, 0, 0) := by decide +kernel
theorem s_325_67 {x0 x1 : Option Value} {w : Value} : mw d 325 Q 67 [x0, x1, some w] (st) h = mv_i w (mw d 325 Q 68 [x0, x1, some w] (w :: st) h) := (mw_at mj_325_67).trans (z_iload_n rfl)
theorem mj_325_68 : mc_P 325 68 = some (.iconst 1, 1, 0, 0, 0) := by decide +kernel
theorem s_325_68 {x0 x1 x2 : Option Value} : mw d 325 Q 68 [x0, x1, x2] (st) h = mw d 325 Q 69 [x0, x1, x2] (.int 1 :: st) h := (mw_at mj_325_68).trans (z_iconst (by decide))
theorem mj_325_69 : mc_P 325 69 = some (.iadd, 1, 0, 0, 0) := by decide +kernel
theorem s_325_69 {x0 x1 x2 : Option Value} {x w : Int32} : mw d 325 Q 69 [x0, x1, x2] (.int w :: .int x :: st) h = mw d 325 Q 70 [x0, x1, x2] (.int (x + w) :: st) h := (mw_at mj_325_69).trans (z_iadd)
theorem mj_325_70 : mc_P 325 70 = some (.invokevirtual 286, 3, 318, 14, 2) := by decide +kernel
theorem s_325_70 {x0 x1 x2 : Option Value} {o : Nat} {a1 : Value} : mw (d + 1) 325 Q 70 [x0, x1, x2] (a1 :: .ref o :: st) h = (mg h o 14 ∧ mca st 8 ∧ mca [.ref o, a1] 5 ∧ mcall d 318 [.ref o, a1] h (mK (d + 1) 325 Q 73 [x0, x1, x2] st)) := (mw_at mj_325_70).trans ((z_invv (As := [a1]) (by decide) rfl rfl).trans (congrArg (And _) (congrArg (And _) (mC_nl nl_318))))
theorem mj_325_73 : mc_P 325 73 = some (.invokevirtual 272, 3, 314, 14, 3) := by decide +kernel
theorem s_325_73 {x0 x1 x2 : Option Value} {o : Nat} {a1 a2 : Value} : mw (d + 1) 325 Q 73 [x0, x1, x2] (a2 :: a1 :: .ref o :: st) h = (mg h o 14 ∧ mca st 8 ∧ mca [.ref o, a1, a2] 3 ∧ mcall d 314 [.ref o, a1, a2] h (mK (d + 1) 325 Q 76 [x0, x1, x2] st)) := (mw_at mj_325_73).trans ((z_invv (As := [a1, a2]) (by decide) rfl rfl).trans (congrArg (And _) (congrArg (And _) (mC_nl nl_314))))
theorem mj_325_76 : mc_P 325 76 = some (.goto (-38), 3, 0, 0, 0) := by decide +kernel
theorem s_325_76 {x0 x1 x2 : Option Value} : mw d 325 Q 76 [x0, x1, x2] (st) h = mw d 325 Q 38 [x0, x1, x2] (st) h := (mw_at mj_325_76).trans (z_goto (by decide))
theorem mj_325_79 : mc_P 325 79 = some (.aload_n 0, 1, 0, 0, 0) := by decide +kernel
theorem s_325_79 {x1 x2 : Option Value} {w : Value} : mw d 325 Q 79 [some w, x1, x2] (st) h = mv_a w (mw d 325 Q 80 [some w, x1, x2] (w :: st) h) := (mw_at mj_325_79).trans (z_aload_n rfl)
theorem mj_325_80 : mc_P 325 80 = some (.bipush 41, 2, 0, 0, 0) := by decide +kernel
theorem s_325_80 {x0 x1 x2 : Option Value} : mw d 325 Q 80 [x0, x1, x2] (st) h = mw d 325 Q 82 [x0, x1, x2] (.int 41 :: st) h := (mw_at mj_325_80).trans (z_bipush (by decide))
theorem mj_325_82 : mc_P 325 82 = some (.invokevirtual 262, 3, 312, 14, 2) := by decide +kernel
theorem s_325_82 {x0 x1 x2 : Option Value} {o : Nat} {a1 : Value} : mw (d + 1) 325 Q 82 [x0, x1, x2] (a1 :: .ref o :: st) h = (mg h o 14 ∧ mca st 8 ∧ mca [.ref o, a1] 2 ∧ mcall d 312 [.ref o, a1] h (mK (d + 1) 325 Q 85 [x0, x1, x2] st)) := (mw_at mj_325_82).trans ((z_invv (As := [a1]) (by decide) rfl rfl).trans (congrArg (And _) (congrArg (And _) (mC_nl nl_312))))
theorem mj_325_85 : mc_P 325 85 = some (.return_, 1, 0, 0, 0) := by decide +kernel
theorem s_325_85 {x0 x1 x2 : Option Value} : mw d 325 Q 85 [x0, x1, x2] ([]) h = Q none h := (mw_at mj_325_85).trans (z_vret)
theorem e_325 {a0 : Nat} {a1 : Int32} {a2 : Int32} : mcall d 325 [.ref a0, .int a1, .int a2] h Q = mw d 325 Q 0 [some (.ref a0), some (.int a1), some (.int a2)] [] h := by
  show mw d 325 Q 0 (me_en (mc_nl 325) _) [] h = _
  rw [nl_325]; rfl

/-! InvariantDeskModel.statement(I)I -/
theorem mj_326_0 : mc_P 326 0 = some (.aload_n 0, 1, 0, 0, 0) := by decide +kernel
theorem s_326_0 {x1 x2 x3 x4 x5 : Option Value} {w : Value} : mw d 326 Q 0 [some w, x1, x2, x3, x4, x5] (st) h = mv_a w (mw d 326 Q 1 [some w, x1, x2, x3, x4, x5] (w :: st) h) := (mw_at mj_326_0).trans (z_aload_n rfl)
theorem mj_326_1 : mc_P 326 1 = some (.getfield 16, 3, 14, 5, 0) := by decide +kernel
theorem s_326_1 {x0 x1 x2 x3 x4 x5 : Option Value} {o : Nat} : mw d 326 Q 1 [x0, x1, x2, x3, x4, x5] (.ref o :: st) h = (mg h o 14 ∧ mw d 326 Q 4 [x0, x1, x2, x3, x4, x5] (va_rf (mh_r h o 5) :: st) h) := (mw_at mj_326_1).trans (z_getr (by decide) (by decide) rfl)
theorem mj_326_4 : mc_P 326 4 = some (.aload_n 0, 1, 0, 0, 0) := by decide +kernel
theorem s_326_4 {x1 x2 x3 x4 x5 : Option Value} {w : Value} : mw d 326 Q 4 [some w, x1, x2, x3, x4, x5] (st) h = mv_a w (mw d 326 Q 5 [some w, x1, x2, x3, x4, x5] (w :: st) h) := (mw_at mj_326_4).trans (z_aload_n rfl)
theorem mj_326_5 : mc_P 326 5 = some (.getfield 246, 3, 14, 8, 0) := by decide +kernel
theorem s_326_5 {x0 x1 x2 x3 x4 x5 : Option Value} {o : Nat} : mw d 326 Q 5 [x0, x1, x2, x3, x4, x5] (.ref o :: st) h = (mg h o 14 ∧ mw d 326 Q 8 [x0, x1, x2, x3, x4, x5] (.int (mh_i h o 8) :: st) h) := (mw_at mj_326_5).trans (z_geti (by decide) (by decide) (Or.inl rfl))
theorem mj_326_8 : mc_P 326 8 = some (.iaload, 1, 0, 0, 0) := by decide +kernel
theorem s_326_8 {x0 x1 x2 x3 x4 x5 : Option Value} {o : Nat} {i : Int32} : mw d 326 Q 8 [x0, x1, x2, x3, x4, x5] (.int i :: .ref o :: st) h = (mg h o 100 ∧ mx i (mh_l h o) ∧ mw d 326 Q 9 [x0, x1, x2, x3, x4, x5] (.int (mh_i h o i.toNatClampNeg) :: st) h) := (mw_at mj_326_8).trans (z_iald)
theorem mj_326_9 : mc_P 326 9 = some (.istore_n 2, 1, 0, 0, 0) := by decide +kernel
theorem s_326_9 {x0 x1 x2 x3 x4 x5 : Option Value} {w : Int32} : mw d 326 Q 9 [x0, x1, x2, x3, x4, x5] (.int w :: st) h = mw d 326 Q 10 [x0, mk2 x1, some (.int w), x3, x4, x5] (st) h := (mw_at mj_326_9).trans (z_istore_n (Nat.le_of_ble_eq_true rfl) (me_s1_mk (j := 1) (w := x1) rfl))
theorem mj_326_10 : mc_P 326 10 = some (.aload_n 0, 1, 0, 0, 0) := by decide +kernel
theorem s_326_10 {x1 x2 x3 x4 x5 : Option Value} {w : Value} : mw d 326 Q 10 [some w, x1, x2, x3, x4, x5] (st) h = mv_a w (mw d 326 Q 11 [some w, x1, x2, x3, x4, x5] (w :: st) h) := (mw_at mj_326_10).trans (z_aload_n rfl)
theorem mj_326_11 : mc_P 326 11 = some (.invokevirtual 249, 3, 310, 14, 1) := by decide +kernel
theorem s_326_11 {x0 x1 x2 x3 x4 x5 : Option Value} {o : Nat} : mw (d + 1) 326 Q 11 [x0, x1, x2, x3, x4, x5] (.ref o :: st) h = (mg h o 14 ∧ mca st 8 ∧ mca [.ref o] 1 ∧ mcall d 310 [.ref o] h (mK (d + 1) 326 Q 14 [x0, x1, x2, x3, x4, x5] st)) := (mw_at mj_326_11).trans ((z_invv (As := []) (by decide) rfl rfl).trans (congrArg (And _) (congrArg (And _) (mC_nl nl_310))))
theorem mj_326_14 : mc_P 326 14 = some (.istore_n 3, 1, 0, 0, 0) := by decide +kernel
theorem s_326_14 {x0 x1 x2 x3 x4 x5 : Option Value} {w : Int32} : mw d 326 Q 14 [x0, x1, x2, x3, x4, x5] (.int w :: st) h = mw d 326 Q 15 [x0, x1, mk2 x2, some (.int w), x4, x5] (st) h := (mw_at mj_326_14).trans (z_istore_n (Nat.le_of_ble_eq_true rfl) (me_s1_mk (j := 2) (w := x2) rfl))
theorem mj_326_15 : mc_P 326 15 = some (.iconst (-1), 1, 0, 0, 0) := by decide +kernel
theorem s_326_15 {x0 x1 x2 x3 x4 x5 : Option Value} : mw d 326 Q 15 [x0, x1, x2, x3, x4, x5] (st) h = mw d 326 Q 16 [x0, x1, x2, x3, x4, x5] (.int (-1) :: st) h := (mw_at mj_326_15).trans (z_iconst (by decide))
theorem mj_326_16 : mc_P 326 16 = some (.istore 4, 2, 0, 0, 0) := by decide +kernel
theorem s_326_16 {x0 x1 x2 x3 x4 x5 : Option Value} {w : Int32} : mw d 326 Q 16 [x0, x1, x2, x3, x4, x5] (.int w :: st) h = mw d 326 Q 18 [x0, x1, x2, mk2 x3, some (.int w), x5] (st) h := (mw_at mj_326_16).trans (z_istore (Nat.le_of_ble_eq_true rfl) (me_s1_mk (j := 3) (w := x3) rfl))
theorem mj_326_18 : mc_P 326 18 = some (.iload_n 3, 1, 0, 0, 0) := by decide +kernel
theorem s_326_18 {x0 x1 x2 x4 x5 : Option Value} {w : Value} : mw d 326 Q 18 [x0, x1, x2, some w, x4, x5] (st) h = mv_i w (mw d 326 Q 19 [x0, x1, x2, some w, x4, x5] (w :: st) h) := (mw_at mj_326_18).trans (z_iload_n rfl)
theorem mj_326_19 : mc_P 326 19 = some (.sipush 301, 3, 0, 0, 0) := by decide +kernel
theorem s_326_19 {x0 x1 x2 x3 x4 x5 : Option Value} : mw d 326 Q 19 [x0, x1, x2, x3, x4, x5] (st) h = mw d 326 Q 22 [x0, x1, x2, x3, x4, x5] (.int 301 :: st) h := (mw_at mj_326_19).trans (z_sipush (by decide))
theorem mj_326_22 : mc_P 326 22 = some (.if_icmp .ne 129, 3, 0, 0, 0) := by decide +kernel
theorem s_326_22 {x0 x1 x2 x3 x4 x5 : Option Value} {x w : Int32} : mw d 326 Q 22 [x0, x1, x2, x3, x4, x5] (.int w :: .int x :: st) h = mB (¬ x = w) (mw d 326 Q) 151 25 [x0, x1, x2, x3, x4, x5] st h := (mw_at mj_326_22).trans (z_icmp_ne (by decide) rfl)
theorem mj_326_25 : mc_P 326 25 = some (.aload_n 0, 1, 0, 0, 0) := by decide +kernel
theorem s_326_25 {x1 x2 x3 x4 x5 : Option Value} {w : Value} : mw d 326 Q 25 [some w, x1, x2, x3, x4, x5] (st) h = mv_a w (mw d 326 Q 26 [some w, x1, x2, x3, x4, x5] (w :: st) h) := (mw_at mj_326_25).trans (z_aload_n rfl)
theorem mj_326_26 : mc_P 326 26 = some (.sipush 301, 3, 0, 0, 0) := by decide +kernel
theorem s_326_26 {x0 x1 x2 x3 x4 x5 : Option Value} : mw d 326 Q 26 [x0, x1, x2, x3, x4, x5] (st) h = mw d 326 Q 29 [x0, x1, x2, x3, x4, x5] (.int 301 :: st) h := (mw_at mj_326_26).trans (z_sipush (by decide))
theorem mj_326_29 : mc_P 326 29 = some (.invokevirtual 262, 3, 312, 14, 2) := by decide +kernel
theorem s_326_29 {x0 x1 x2 x3 x4 x5 : Option Value} {o : Nat} {a1 : Value} : mw (d + 1) 326 Q 29 [x0, x1, x2, x3, x4, x5] (a1 :: .ref o :: st) h = (mg h o 14 ∧ mca st 8 ∧ mca [.ref o, a1] 2 ∧ mcall d 312 [.ref o, a1] h (mK (d + 1) 326 Q 32 [x0, x1, x2, x3, x4, x5] st)) := (mw_at mj_326_29).trans ((z_invv (As := [a1]) (by decide) rfl rfl).trans (congrArg (And _) (congrArg (And _) (mC_nl nl_312))))
theorem mj_326_32 : mc_P 326 32 = some (.aload_n 0, 1, 0, 0, 0) := by decide +kernel
theorem s_326_32 {x1 x2 x3 x4 x5 : Option Value} {w : Value} : mw d 326 Q 32 [some w, x1, x2, x3, x4, x5] (st) h = mv_a w (mw d 326 Q 33 [some w, x1, x2, x3, x4, x5] (w :: st) h) := (mw_at mj_326_32).trans (z_aload_n rfl)
theorem mj_326_33 : mc_P 326 33 = some (.invokevirtual 283, 3, 315, 14, 1) := by decide +kernel
theorem s_326_33 {x0 x1 x2 x3 x4 x5 : Option Value} {o : Nat} : mw (d + 1) 326 Q 33 [x0, x1, x2, x3, x4, x5] (.ref o :: st) h = (mg h o 14 ∧ mca st 8 ∧ mca [.ref o] 2 ∧ mcall d 315 [.ref o] h (mK (d + 1) 326 Q 36 [x0, x1, x2, x3, x4, x5] st)) := (mw_at mj_326_33).trans ((z_invv (As := []) (by decide) rfl rfl).trans (congrArg (And _) (congrArg (And _) (mC_nl nl_315))))
theorem mj_326_36 : mc_P 326 36 = some (.istore 5, 2, 0, 0, 0) := by decide +kernel
theorem s_326_36 {x0 x1 x2 x3 x4 x5 : Option Value} {w : Int32} : mw d 326 Q 36 [x0, x1, x2, x3, x4, x5] (.int w :: st) h = mw d 326 Q 38 [x0, x1, x2, x3, mk2 x4, some (.int w)] (st) h := (mw_at mj_326_36).trans (z_istore (Nat.le_of_ble_eq_true rfl) (me_s1_mk (j := 4) (w := x4) rfl))
theorem mj_326_38 : mc_P 326 38 = some (.aload_n 0, 1, 0, 0, 0) := by decide +kernel
theorem s_326_38 {x1 x2 x3 x4 x5 : Option Value} {w : Value} : mw d 326 Q 38 [some w, x1, x2, x3, x4, x5] (st) h = mv_a w (mw d 326 Q 39 [some w, x1, x2, x3, x4, x5] (w :: st) h) := (mw_at mj_326_38).trans (z_aload_n rfl)
theorem mj_326_39 : mc_P 326 39 = some (.aload_n 0, 1, 0, 0, 0) := by decide +kernel
theorem s_326_39 {x1 x2 x3 x4 x5 : Option Value} {w : Value} : mw d 326 Q 39 [some w, x1, x2, x3, x4, x5] (st) h = mv_a w (mw d 326 Q 40 [some w, x1, x2, x3, x4, x5] (w :: st) h) := (mw_at mj_326_39).trans (z_aload_n rfl)
theorem mj_326_40 : mc_P 326 40 = some (.invokevirtual 249, 3, 310, 14, 1) := by decide +kernel
theorem s_326_40 {x0 x1 x2 x3 x4 x5 : Option Value} {o : Nat} : mw (d + 1) 326 Q 40 [x0, x1, x2, x3, x4, x5] (.ref o :: st) h = (mg h o 14 ∧ mca st 8 ∧ mca [.ref o] 1 ∧ mcall d 310 [.ref o] h (mK (d + 1) 326 Q 43 [x0, x1, x2, x3, x4, x5] st)) := (mw_at mj_326_40).trans ((z_invv (As := []) (by decide) rfl rfl).trans (congrArg (And _) (congrArg (And _) (mC_nl nl_310))))
theorem mj_326_43 : mc_P 326 43 = some (.bipush 91, 2, 0, 0, 0) := by decide +kernel
theorem s_326_43 {x0 x1 x2 x3 x4 x5 : Option Value} : mw d 326 Q 43 [x0, x1, x2, x3, x4, x5] (st) h = mw d 326 Q 45 [x0, x1, x2, x3, x4, x5] (.int 91 :: st) h := (mw_at mj_326_43).trans (z_bipush (by decide))
theorem mj_326_45 : mc_P 326 45 = some (.if_icmp .ne 7, 3, 0, 0, 0) := by decide +kernel
theorem s_326_45 {x0 x1 x2 x3 x4 x5 : Option Value} {x w : Int32} : mw d 326 Q 45 [x0, x1, x2, x3, x4, x5] (.int w :: .int x :: st) h = mB (¬ x = w) (mw d 326 Q) 52 48 [x0, x1, x2, x3, x4, x5] st h := (mw_at mj_326_45).trans (z_icmp_ne (by decide) rfl)
theorem mj_326_48 : mc_P 326 48 = some (.iconst 4, 1, 0, 0, 0) := by decide +kernel
theorem s_326_48 {x0 x1 x2 x3 x4 x5 : Option Value} : mw d 326 Q 48 [x0, x1, x2, x3, x4, x5] (st) h = mw d 326 Q 49 [x0, x1, x2, x3, x4, x5] (.int 4 :: st) h := (mw_at mj_326_48).trans (z_iconst (by decide))
theorem mj_326_49 : mc_P 326 49 = some (.goto 4, 3, 0, 0, 0) := by decide +kernel
theorem s_326_49 {x0 x1 x2 x3 x4 x5 : Option Value} : mw d 326 Q 49 [x0, x1, x2, x3, x4, x5] (st) h = mw d 326 Q 53 [x0, x1, x2, x3, x4, x5] (st) h := (mw_at mj_326_49).trans (z_goto (by decide))
theorem mj_326_52 : mc_P 326 52 = some (.iconst 3, 1, 0, 0, 0) := by decide +kernel
theorem s_326_52 {x0 x1 x2 x3 x4 x5 : Option Value} : mw d 326 Q 52 [x0, x1, x2, x3, x4, x5] (st) h = mw d 326 Q 53 [x0, x1, x2, x3, x4, x5] (.int 3 :: st) h := (mw_at mj_326_52).trans (z_iconst (by decide))
theorem mj_326_53 : mc_P 326 53 = some (.iload_n 2, 1, 0, 0, 0) := by decide +kernel
theorem s_326_53 {x0 x1 x3 x4 x5 : Option Value} {w : Value} : mw d 326 Q 53 [x0, x1, some w, x3, x4, x5] (st) h = mv_i w (mw d 326 Q 54 [x0, x1, some w, x3, x4, x5] (w :: st) h) := (mw_at mj_326_53).trans (z_iload_n rfl)
theorem mj_326_54 : mc_P 326 54 = some (.iconst 0, 1, 0, 0, 0) := by decide +kernel
theorem s_326_54 {x0 x1 x2 x3 x4 x5 : Option Value} : mw d 326 Q 54 [x0, x1, x2, x3, x4, x5] (st) h = mw d 326 Q 55 [x0, x1, x2, x3, x4, x5] (.int 0 :: st) h := (mw_at mj_326_54).trans (z_iconst (by decide))
theorem mj_326_55 : mc_P 326 55 = some (.invokevirtual 259, 3, 313, 14, 4) := by decide +kernel
theorem s_326_55 {x0 x1 x2 x3 x4 x5 : Option Value} {o : Nat} {a1 a2 a3 : Value} : mw (d + 1) 326 Q 55 [x0, x1, x2, x3, x4, x5] (a3 :: a2 :: a1 :: .ref o :: st) h = (mg h o 14 ∧ mca st 8 ∧ mca [.ref o, a1, a2, a3] 4 ∧ mcall d 313 [.ref o, a1, a2, a3] h (mK (d + 1) 326 Q 58 [x0, x1, x2, x3, x4, x5] st)) := (mw_at mj_326_55).trans ((z_invv (As := [a1, a2, a3]) (by decide) rfl rfl).trans (congrArg (And _) (congrArg (And _) (mC_nl nl_313))))
theorem mj_326_58 : mc_P 326 58 = some (.istore 4, 2, 0, 0, 0) := by decide +kernel
theorem s_326_58 {x0 x1 x2 x3 x4 x5 : Option Value} {w : Int32} : mw d 326 Q 58 [x0, x1, x2, x3, x4, x5] (.int w :: st) h = mw d 326 Q 60 [x0, x1, x2, mk2 x3, some (.int w), x5] (st) h := (mw_at mj_326_58).trans (z_istore (Nat.le_of_ble_eq_true rfl) (me_s1_mk (j := 3) (w := x3) rfl))
theorem mj_326_60 : mc_P 326 60 = some (.aload_n 0, 1, 0, 0, 0) := by decide +kernel
theorem s_326_60 {x1 x2 x3 x4 x5 : Option Value} {w : Value} : mw d 326 Q 60 [some w, x1, x2, x3, x4, x5] (st) h = mv_a w (mw d 326 Q 61 [some w, x1, x2, x3, x4, x5] (w :: st) h) := (mw_at mj_326_60).trans (z_aload_n rfl)
theorem mj_326_61 : mc_P 326 61 = some (.iload 4, 2, 0, 0, 0) := by decide +kernel
theorem s_326_61 {x0 x1 x2 x3 x5 : Option Value} {w : Value} : mw d 326 Q 61 [x0, x1, x2, x3, some w, x5] (st) h = mv_i w (mw d 326 Q 63 [x0, x1, x2, x3, some w, x5] (w :: st) h) := (mw_at mj_326_61).trans (z_iload rfl)
theorem mj_326_63 : mc_P 326 63 = some (.iload 5, 2, 0, 0, 0) := by decide +kernel
theorem s_326_63 {x0 x1 x2 x3 x4 : Option Value} {w : Value} : mw d 326 Q 63 [x0, x1, x2, x3, x4, some w] (st) h = mv_i w (mw d 326 Q 65 [x0, x1, x2, x3, x4, some w] (w :: st) h) := (mw_at mj_326_63).trans (z_iload rfl)
theorem mj_326_65 : mc_P 326 65 = some (.invokevirtual 272, 3, 314, 14, 3) := by decide +kernel
theorem s_326_65 {x0 x1 x2 x3 x4 x5 : Option Value} {o : Nat} {a1 a2 : Value} : mw (d + 1) 326 Q 65 [x0, x1, x2, x3, x4, x5] (a2 :: a1 :: .ref o :: st) h = (mg h o 14 ∧ mca st 8 ∧ mca [.ref o, a1, a2] 3 ∧ mcall d 314 [.ref o, a1, a2] h (mK (d + 1) 326 Q 68 [x0, x1, x2, x3, x4, x5] st)) := (mw_at mj_326_65).trans ((z_invv (As := [a1, a2]) (by decide) rfl rfl).trans (congrArg (And _) (congrArg (And _) (mC_nl nl_314))))
theorem mj_326_68 : mc_P 326 68 = some (.aload_n 0, 1, 0, 0, 0) := by decide +kernel
theorem s_326_68 {x1 x2 x3 x4 x5 : Option Value} {w : Value} : mw d 326 Q 68 [some w, x1, x2, x3, x4, x5] (st) h = mv_a w (mw d 326 Q 69 [some w, x1, x2, x3, x4, x5] (w :: st) h) := (mw_at mj_326_68).trans (z_aload_n rfl)
theorem mj_326_69 : mc_P 326 69 = some (.invokevirtual 249, 3, 310, 14, 1) := by decide +kernel
theorem s_326_69 {x0 x1 x2 x3 x4 x5 : Option Value} {o : Nat} : mw (d + 1) 326 Q 69 [x0, x1, x2, x3, x4, x5] (.ref o :: st) h = (mg h o 14 ∧ mca st 8 ∧ mca [.ref o] 1 ∧ mcall d 310 [.ref o] h (mK (d + 1) 326 Q 72 [x0, x1, x2, x3, x4, x5] st)) := (mw_at mj_326_69).trans ((z_invv (As := []) (by decide) rfl rfl).trans (congrArg (And _) (congrArg (And _) (mC_nl nl_310))))
theorem mj_326_72 : mc_P 326 72 = some (.bipush 91, 2, 0, 0, 0) := by decide +kernel
theorem s_326_72 {x0 x1 x2 x3 x4 x5 : Option Value} : mw d 326 Q 72 [x0, x1, x2, x3, x4, x5] (st) h = mw d 326 Q 74 [x0, x1, x2, x3, x4, x5] (.int 91 :: st) h := (mw_at mj_326_72).trans (z_bipush (by decide))
theorem mj_326_74 : mc_P 326 74 = some (.if_icmp .ne 29, 3, 0, 0, 0) := by decide +kernel
theorem s_326_74 {x0 x1 x2 x3 x4 x5 : Option Value} {x w : Int32} : mw d 326 Q 74 [x0, x1, x2, x3, x4, x5] (.int w :: .int x :: st) h = mB (¬ x = w) (mw d 326 Q) 103 77 [x0, x1, x2, x3, x4, x5] st h := (mw_at mj_326_74).trans (z_icmp_ne (by decide) rfl)
theorem mj_326_77 : mc_P 326 77 = some (.aload_n 0, 1, 0, 0, 0) := by decide +kernel
theorem s_326_77 {x1 x2 x3 x4 x5 : Option Value} {w : Value} : mw d 326 Q 77 [some w, x1, x2, x3, x4, x5] (st) h = mv_a w (mw d 326 Q 78 [some w, x1, x2, x3, x4, x5] (w :: st) h) := (mw_at mj_326_77).trans (z_aload_n rfl)
theorem mj_326_78 : mc_P 326 78 = some (.bipush 91, 2, 0, 0, 0) := by decide +kernel
theorem s_326_78 {x0 x1 x2 x3 x4 x5 : Option Value} : mw d 326 Q 78 [x0, x1, x2, x3, x4, x5] (st) h = mw d 326 Q 80 [x0, x1, x2, x3, x4, x5] (.int 91 :: st) h := (mw_at mj_326_78).trans (z_bipush (by decide))
theorem mj_326_80 : mc_P 326 80 = some (.invokevirtual 262, 3, 312, 14, 2) := by decide +kernel
theorem s_326_80 {x0 x1 x2 x3 x4 x5 : Option Value} {o : Nat} {a1 : Value} : mw (d + 1) 326 Q 80 [x0, x1, x2, x3, x4, x5] (a1 :: .ref o :: st) h = (mg h o 14 ∧ mca st 8 ∧ mca [.ref o, a1] 2 ∧ mcall d 312 [.ref o, a1] h (mK (d + 1) 326 Q 83 [x0, x1, x2, x3, x4, x5] st)) := (mw_at mj_326_80).trans ((z_invv (As := [a1]) (by decide) rfl rfl).trans (congrArg (And _) (congrArg (And _) (mC_nl nl_312))))
theorem mj_326_83 : mc_P 326 83 = some (.aload_n 0, 1, 0, 0, 0) := by decide +kernel
theorem s_326_83 {x1 x2 x3 x4 x5 : Option Value} {w : Value} : mw d 326 Q 83 [some w, x1, x2, x3, x4, x5] (st) h = mv_a w (mw d 326 Q 84 [some w, x1, x2, x3, x4, x5] (w :: st) h) := (mw_at mj_326_83).trans (z_aload_n rfl)
theorem mj_326_84 : mc_P 326 84 = some (.iload 4, 2, 0, 0, 0) := by decide +kernel
theorem s_326_84 {x0 x1 x2 x3 x5 : Option Value} {w : Value} : mw d 326 Q 84 [x0, x1, x2, x3, some w, x5] (st) h = mv_i w (mw d 326 Q 86 [x0, x1, x2, x3, some w, x5] (w :: st) h) := (mw_at mj_326_84).trans (z_iload rfl)
theorem mj_326_86 : mc_P 326 86 = some (.aload_n 0, 1, 0, 0, 0) := by decide +kernel
theorem s_326_86 {x1 x2 x3 x4 x5 : Option Value} {w : Value} : mw d 326 Q 86 [some w, x1, x2, x3, x4, x5] (st) h = mv_a w (mw d 326 Q 87 [some w, x1, x2, x3, x4, x5] (w :: st) h) := (mw_at mj_326_86).trans (z_aload_n rfl)
theorem mj_326_87 : mc_P 326 87 = some (.iconst 0, 1, 0, 0, 0) := by decide +kernel
theorem s_326_87 {x0 x1 x2 x3 x4 x5 : Option Value} : mw d 326 Q 87 [x0, x1, x2, x3, x4, x5] (st) h = mw d 326 Q 88 [x0, x1, x2, x3, x4, x5] (.int 0 :: st) h := (mw_at mj_326_87).trans (z_iconst (by decide))
theorem mj_326_88 : mc_P 326 88 = some (.invokevirtual 279, 3, 316, 14, 2) := by decide +kernel
theorem s_326_88 {x0 x1 x2 x3 x4 x5 : Option Value} {o : Nat} {a1 : Value} : mw (d + 1) 326 Q 88 [x0, x1, x2, x3, x4, x5] (a1 :: .ref o :: st) h = (mg h o 14 ∧ mca st 8 ∧ mca [.ref o, a1] 6 ∧ mcall d 316 [.ref o, a1] h (mK (d + 1) 326 Q 91 [x0, x1, x2, x3, x4, x5] st)) := (mw_at mj_326_88).trans ((z_invv (As := [a1]) (by decide) rfl rfl).trans (congrArg (And _) (congrArg (And _) (mC_nl nl_316))))
theorem mj_326_91 : mc_P 326 91 = some (.invokevirtual 272, 3, 314, 14, 3) := by decide +kernel
theorem s_326_91 {x0 x1 x2 x3 x4 x5 : Option Value} {o : Nat} {a1 a2 : Value} : mw (d + 1) 326 Q 91 [x0, x1, x2, x3, x4, x5] (a2 :: a1 :: .ref o :: st) h = (mg h o 14 ∧ mca st 8 ∧ mca [.ref o, a1, a2] 3 ∧ mcall d 314 [.ref o, a1, a2] h (mK (d + 1) 326 Q 94 [x0, x1, x2, x3, x4, x5] st)) := (mw_at mj_326_91).trans ((z_invv (As := [a1, a2]) (by decide) rfl rfl).trans (congrArg (And _) (congrArg (And _) (mC_nl nl_314))))
theorem mj_326_94 : mc_P 326 94 = some (.aload_n 0, 1, 0, 0, 0) := by decide +kernel
theorem s_326_94 {x1 x2 x3 x4 x5 : Option Value} {w : Value} : mw d 326 Q 94 [some w, x1, x2, x3, x4, x5] (st) h = mv_a w (mw d 326 Q 95 [some w, x1, x2, x3, x4, x5] (w :: st) h) := (mw_at mj_326_94).trans (z_aload_n rfl)
theorem mj_326_95 : mc_P 326 95 = some (.bipush 93, 2, 0, 0, 0) := by decide +kernel
theorem s_326_95 {x0 x1 x2 x3 x4 x5 : Option Value} : mw d 326 Q 95 [x0, x1, x2, x3, x4, x5] (st) h = mw d 326 Q 97 [x0, x1, x2, x3, x4, x5] (.int 93 :: st) h := (mw_at mj_326_95).trans (z_bipush (by decide))
theorem mj_326_97 : mc_P 326 97 = some (.invokevirtual 262, 3, 312, 14, 2) := by decide +kernel
theorem s_326_97 {x0 x1 x2 x3 x4 x5 : Option Value} {o : Nat} {a1 : Value} : mw (d + 1) 326 Q 97 [x0, x1, x2, x3, x4, x5] (a1 :: .ref o :: st) h = (mg h o 14 ∧ mca st 8 ∧ mca [.ref o, a1] 2 ∧ mcall d 312 [.ref o, a1] h (mK (d + 1) 326 Q 100 [x0, x1, x2, x3, x4, x5] st)) := (mw_at mj_326_97).trans ((z_invv (As := [a1]) (by decide) rfl rfl).trans (congrArg (And _) (congrArg (And _) (mC_nl nl_312))))
theorem mj_326_100 : mc_P 326 100 = some (.goto 42, 3, 0, 0, 0) := by decide +kernel
theorem s_326_100 {x0 x1 x2 x3 x4 x5 : Option Value} : mw d 326 Q 100 [x0, x1, x2, x3, x4, x5] (st) h = mw d 326 Q 142 [x0, x1, x2, x3, x4, x5] (st) h := (mw_at mj_326_100).trans (z_goto (by decide))
theorem mj_326_103 : mc_P 326 103 = some (.aload_n 0, 1, 0, 0, 0) := by decide +kernel
theorem s_326_103 {x1 x2 x3 x4 x5 : Option Value} {w : Value} : mw d 326 Q 103 [some w, x1, x2, x3, x4, x5] (st) h = mv_a w (mw d 326 Q 104 [some w, x1, x2, x3, x4, x5] (w :: st) h) := (mw_at mj_326_103).trans (z_aload_n rfl)
theorem mj_326_104 : mc_P 326 104 = some (.invokevirtual 249, 3, 310, 14, 1) := by decide +kernel
theorem s_326_104 {x0 x1 x2 x3 x4 x5 : Option Value} {o : Nat} : mw (d + 1) 326 Q 104 [x0, x1, x2, x3, x4, x5] (.ref o :: st) h = (mg h o 14 ∧ mca st 8 ∧ mca [.ref o] 1 ∧ mcall d 310 [.ref o] h (mK (d + 1) 326 Q 107 [x0, x1, x2, x3, x4, x5] st)) := (mw_at mj_326_104).trans ((z_invv (As := []) (by decide) rfl rfl).trans (congrArg (And _) (congrArg (And _) (mC_nl nl_310))))
theorem mj_326_107 : mc_P 326 107 = some (.bipush 61, 2, 0, 0, 0) := by decide +kernel
theorem s_326_107 {x0 x1 x2 x3 x4 x5 : Option Value} : mw d 326 Q 107 [x0, x1, x2, x3, x4, x5] (st) h = mw d 326 Q 109 [x0, x1, x2, x3, x4, x5] (.int 61 :: st) h := (mw_at mj_326_107).trans (z_bipush (by decide))
theorem mj_326_109 : mc_P 326 109 = some (.if_icmp .ne 33, 3, 0, 0, 0) := by decide +kernel
theorem s_326_109 {x0 x1 x2 x3 x4 x5 : Option Value} {x w : Int32} : mw d 326 Q 109 [x0, x1, x2, x3, x4, x5] (.int w :: .int x :: st) h = mB (¬ x = w) (mw d 326 Q) 142 112 [x0, x1, x2, x3, x4, x5] st h := (mw_at mj_326_109).trans (z_icmp_ne (by decide) rfl)
theorem mj_326_112 : mc_P 326 112 = some (.aload_n 0, 1, 0, 0, 0) := by decide +kernel
theorem s_326_112 {x1 x2 x3 x4 x5 : Option Value} {w : Value} : mw d 326 Q 112 [some w, x1, x2, x3, x4, x5] (st) h = mv_a w (mw d 326 Q 113 [some w, x1, x2, x3, x4, x5] (w :: st) h) := (mw_at mj_326_112).trans (z_aload_n rfl)
theorem mj_326_113 : mc_P 326 113 = some (.bipush 61, 2, 0, 0, 0) := by decide +kernel
theorem s_326_113 {x0 x1 x2 x3 x4 x5 : Option Value} : mw d 326 Q 113 [x0, x1, x2, x3, x4, x5] (st) h = mw d 326 Q 115 [x0, x1, x2, x3, x4, x5] (.int 61 :: st) h := (mw_at mj_326_113).trans (z_bipush (by decide))
theorem mj_326_115 : mc_P 326 115 = some (.invokevirtual 262, 3, 312, 14, 2) := by decide +kernel
theorem s_326_115 {x0 x1 x2 x3 x4 x5 : Option Value} {o : Nat} {a1 : Value} : mw (d + 1) 326 Q 115 [x0, x1, x2, x3, x4, x5] (a1 :: .ref o :: st) h = (mg h o 14 ∧ mca st 8 ∧ mca [.ref o, a1] 2 ∧ mcall d 312 [.ref o, a1] h (mK (d + 1) 326 Q 118 [x0, x1, x2, x3, x4, x5] st)) := (mw_at mj_326_115).trans ((z_invv (As := [a1]) (by decide) rfl rfl).trans (congrArg (And _) (congrArg (And _) (mC_nl nl_312))))
theorem mj_326_118 : mc_P 326 118 = some (.aload_n 0, 1, 0, 0, 0) := by decide +kernel
theorem s_326_118 {x1 x2 x3 x4 x5 : Option Value} {w : Value} : mw d 326 Q 118 [some w, x1, x2, x3, x4, x5] (st) h = mv_a w (mw d 326 Q 119 [some w, x1, x2, x3, x4, x5] (w :: st) h) := (mw_at mj_326_118).trans (z_aload_n rfl)
theorem mj_326_119 : mc_P 326 119 = some (.iload 4, 2, 0, 0, 0) := by decide +kernel
theorem s_326_119 {x0 x1 x2 x3 x5 : Option Value} {w : Value} : mw d 326 Q 119 [x0, x1, x2, x3, some w, x5] (st) h = mv_i w (mw d 326 Q 121 [x0, x1, x2, x3, some w, x5] (w :: st) h) := (mw_at mj_326_119).trans (z_iload rfl)
theorem mj_326_121 : mc_P 326 121 = some (.aload_n 0, 1, 0, 0, 0) := by decide +kernel
theorem s_326_121 {x1 x2 x3 x4 x5 : Option Value} {w : Value} : mw d 326 Q 121 [some w, x1, x2, x3, x4, x5] (st) h = mv_a w (mw d 326 Q 122 [some w, x1, x2, x3, x4, x5] (w :: st) h) := (mw_at mj_326_121).trans (z_aload_n rfl)
theorem mj_326_122 : mc_P 326 122 = some (.getfield 242, 3, 14, 9, 0) := by decide +kernel
theorem s_326_122 {x0 x1 x2 x3 x4 x5 : Option Value} {o : Nat} : mw d 326 Q 122 [x0, x1, x2, x3, x4, x5] (.ref o :: st) h = (mg h o 14 ∧ mw d 326 Q 125 [x0, x1, x2, x3, x4, x5] (.int (mh_i h o 9) :: st) h) := (mw_at mj_326_122).trans (z_geti (by decide) (by decide) (Or.inr rfl))
theorem mj_326_125 : mc_P 326 125 = some (.ifCond .eq 7, 3, 0, 0, 0) := by decide +kernel
theorem s_326_125 {x0 x1 x2 x3 x4 x5 : Option Value} {x : Int32} : mw d 326 Q 125 [x0, x1, x2, x3, x4, x5] (.int x :: st) h = mB (x = 0) (mw d 326 Q) 132 128 [x0, x1, x2, x3, x4, x5] st h := (mw_at mj_326_125).trans (z_if_eq (by decide) rfl)
theorem mj_326_128 : mc_P 326 128 = some (.iconst (-1), 1, 0, 0, 0) := by decide +kernel
theorem s_326_128 {x0 x1 x2 x3 x4 x5 : Option Value} : mw d 326 Q 128 [x0, x1, x2, x3, x4, x5] (st) h = mw d 326 Q 129 [x0, x1, x2, x3, x4, x5] (.int (-1) :: st) h := (mw_at mj_326_128).trans (z_iconst (by decide))
theorem mj_326_129 : mc_P 326 129 = some (.goto 10, 3, 0, 0, 0) := by decide +kernel
theorem s_326_129 {x0 x1 x2 x3 x4 x5 : Option Value} : mw d 326 Q 129 [x0, x1, x2, x3, x4, x5] (st) h = mw d 326 Q 139 [x0, x1, x2, x3, x4, x5] (st) h := (mw_at mj_326_129).trans (z_goto (by decide))
theorem mj_326_132 : mc_P 326 132 = some (.aload_n 0, 1, 0, 0, 0) := by decide +kernel
theorem s_326_132 {x1 x2 x3 x4 x5 : Option Value} {w : Value} : mw d 326 Q 132 [some w, x1, x2, x3, x4, x5] (st) h = mv_a w (mw d 326 Q 133 [some w, x1, x2, x3, x4, x5] (w :: st) h) := (mw_at mj_326_132).trans (z_aload_n rfl)
theorem mj_326_133 : mc_P 326 133 = some (.iload_n 1, 1, 0, 0, 0) := by decide +kernel
theorem s_326_133 {x0 x2 x3 x4 x5 : Option Value} {w : Value} : mw d 326 Q 133 [x0, some w, x2, x3, x4, x5] (st) h = mv_i w (mw d 326 Q 134 [x0, some w, x2, x3, x4, x5] (w :: st) h) := (mw_at mj_326_133).trans (z_iload_n rfl)
theorem mj_326_134 : mc_P 326 134 = some (.iconst 1, 1, 0, 0, 0) := by decide +kernel
theorem s_326_134 {x0 x1 x2 x3 x4 x5 : Option Value} : mw d 326 Q 134 [x0, x1, x2, x3, x4, x5] (st) h = mw d 326 Q 135 [x0, x1, x2, x3, x4, x5] (.int 1 :: st) h := (mw_at mj_326_134).trans (z_iconst (by decide))
theorem mj_326_135 : mc_P 326 135 = some (.iadd, 1, 0, 0, 0) := by decide +kernel
theorem s_326_135 {x0 x1 x2 x3 x4 x5 : Option Value} {x w : Int32} : mw d 326 Q 135 [x0, x1, x2, x3, x4, x5] (.int w :: .int x :: st) h = mw d 326 Q 136 [x0, x1, x2, x3, x4, x5] (.int (x + w) :: st) h := (mw_at mj_326_135).trans (z_iadd)
theorem mj_326_136 : mc_P 326 136 = some (.invokevirtual 286, 3, 318, 14, 2) := by decide +kernel
theorem s_326_136 {x0 x1 x2 x3 x4 x5 : Option Value} {o : Nat} {a1 : Value} : mw (d + 1) 326 Q 136 [x0, x1, x2, x3, x4, x5] (a1 :: .ref o :: st) h = (mg h o 14 ∧ mca st 8 ∧ mca [.ref o, a1] 5 ∧ mcall d 318 [.ref o, a1] h (mK (d + 1) 326 Q 139 [x0, x1, x2, x3, x4, x5] st)) := (mw_at mj_326_136).trans ((z_invv (As := [a1]) (by decide) rfl rfl).trans (congrArg (And _) (congrArg (And _) (mC_nl nl_318))))
theorem mj_326_139 : mc_P 326 139 = some (.invokevirtual 272, 3, 314, 14, 3) := by decide +kernel
theorem s_326_139 {x0 x1 x2 x3 x4 x5 : Option Value} {o : Nat} {a1 a2 : Value} : mw (d + 1) 326 Q 139 [x0, x1, x2, x3, x4, x5] (a2 :: a1 :: .ref o :: st) h = (mg h o 14 ∧ mca st 8 ∧ mca [.ref o, a1, a2] 3 ∧ mcall d 314 [.ref o, a1, a2] h (mK (d + 1) 326 Q 142 [x0, x1, x2, x3, x4, x5] st)) := (mw_at mj_326_139).trans ((z_invv (As := [a1, a2]) (by decide) rfl rfl).trans (congrArg (And _) (congrArg (And _) (mC_nl nl_314))))
theorem mj_326_142 : mc_P 326 142 = some (.aload_n 0, 1, 0, 0, 0) := by decide +kernel
theorem s_326_142 {x1 x2 x3 x4 x5 : Option Value} {w : Value} : mw d 326 Q 142 [some w, x1, x2, x3, x4, x5] (st) h = mv_a w (mw d 326 Q 143 [some w, x1, x2, x3, x4, x5] (w :: st) h) := (mw_at mj_326_142).trans (z_aload_n rfl)
theorem mj_326_143 : mc_P 326 143 = some (.bipush 59, 2, 0, 0, 0) := by decide +kernel
theorem s_326_143 {x0 x1 x2 x3 x4 x5 : Option Value} : mw d 326 Q 143 [x0, x1, x2, x3, x4, x5] (st) h = mw d 326 Q 145 [x0, x1, x2, x3, x4, x5] (.int 59 :: st) h := (mw_at mj_326_143).trans (z_bipush (by decide))
theorem mj_326_145 : mc_P 326 145 = some (.invokevirtual 262, 3, 312, 14, 2) := by decide +kernel
theorem s_326_145 {x0 x1 x2 x3 x4 x5 : Option Value} {o : Nat} {a1 : Value} : mw (d + 1) 326 Q 145 [x0, x1, x2, x3, x4, x5] (a1 :: .ref o :: st) h = (mg h o 14 ∧ mca st 8 ∧ mca [.ref o, a1] 2 ∧ mcall d 312 [.ref o, a1] h (mK (d + 1) 326 Q 148 [x0, x1, x2, x3, x4, x5] st)) := (mw_at mj_326_145).trans ((z_invv (As := [a1]) (by decide) rfl rfl).trans (congrArg (And _) (congrArg (And _) (mC_nl nl_312))))
theorem mj_326_148 : mc_P 326 148 = some (.goto 293, 3, 0, 0, 0) := by decide +kernel
theorem s_326_148 {x0 x1 x2 x3 x4 x5 : Option Value} : mw d 326 Q 148 [x0, x1, x2, x3, x4, x5] (st) h = mw d 326 Q 441 [x0, x1, x2, x3, x4, x5] (st) h := (mw_at mj_326_148).trans (z_goto (by decide))
theorem mj_326_151 : mc_P 326 151 = some (.iload_n 3, 1, 0, 0, 0) := by decide +kernel
theorem s_326_151 {x0 x1 x2 x4 x5 : Option Value} {w : Value} : mw d 326 Q 151 [x0, x1, x2, some w, x4, x5] (st) h = mv_i w (mw d 326 Q 152 [x0, x1, x2, some w, x4, x5] (w :: st) h) := (mw_at mj_326_151).trans (z_iload_n rfl)
theorem mj_326_152 : mc_P 326 152 = some (.iconst 2, 1, 0, 0, 0) := by decide +kernel
theorem s_326_152 {x0 x1 x2 x3 x4 x5 : Option Value} : mw d 326 Q 152 [x0, x1, x2, x3, x4, x5] (st) h = mw d 326 Q 153 [x0, x1, x2, x3, x4, x5] (.int 2 :: st) h := (mw_at mj_326_152).trans (z_iconst (by decide))
theorem mj_326_153 : mc_P 326 153 = some (.if_icmp .ne 20, 3, 0, 0, 0) := by decide +kernel
theorem s_326_153 {x0 x1 x2 x3 x4 x5 : Option Value} {x w : Int32} : mw d 326 Q 153 [x0, x1, x2, x3, x4, x5] (.int w :: .int x :: st) h = mB (¬ x = w) (mw d 326 Q) 173 156 [x0, x1, x2, x3, x4, x5] st h := (mw_at mj_326_153).trans (z_icmp_ne (by decide) rfl)
theorem mj_326_156 : mc_P 326 156 = some (.aload_n 0, 1, 0, 0, 0) := by decide +kernel
theorem s_326_156 {x1 x2 x3 x4 x5 : Option Value} {w : Value} : mw d 326 Q 156 [some w, x1, x2, x3, x4, x5] (st) h = mv_a w (mw d 326 Q 157 [some w, x1, x2, x3, x4, x5] (w :: st) h) := (mw_at mj_326_156).trans (z_aload_n rfl)
theorem mj_326_157 : mc_P 326 157 = some (.iload_n 2, 1, 0, 0, 0) := by decide +kernel
theorem s_326_157 {x0 x1 x3 x4 x5 : Option Value} {w : Value} : mw d 326 Q 157 [x0, x1, some w, x3, x4, x5] (st) h = mv_i w (mw d 326 Q 158 [x0, x1, some w, x3, x4, x5] (w :: st) h) := (mw_at mj_326_157).trans (z_iload_n rfl)
theorem mj_326_158 : mc_P 326 158 = some (.iload_n 1, 1, 0, 0, 0) := by decide +kernel
theorem s_326_158 {x0 x2 x3 x4 x5 : Option Value} {w : Value} : mw d 326 Q 158 [x0, some w, x2, x3, x4, x5] (st) h = mv_i w (mw d 326 Q 159 [x0, some w, x2, x3, x4, x5] (w :: st) h) := (mw_at mj_326_158).trans (z_iload_n rfl)
theorem mj_326_159 : mc_P 326 159 = some (.invokevirtual 301, 3, 327, 14, 3) := by decide +kernel
theorem s_326_159 {x0 x1 x2 x3 x4 x5 : Option Value} {o : Nat} {a1 a2 : Value} : mw (d + 1) 326 Q 159 [x0, x1, x2, x3, x4, x5] (a2 :: a1 :: .ref o :: st) h = (mg h o 14 ∧ mca st 8 ∧ mca [.ref o, a1, a2] 5 ∧ mcall d 327 [.ref o, a1, a2] h (mK (d + 1) 326 Q 162 [x0, x1, x2, x3, x4, x5] st)) := (mw_at mj_326_159).trans ((z_invv (As := [a1, a2]) (by decide) rfl rfl).trans (congrArg (And _) (congrArg (And _) (mC_nl nl_327))))
theorem mj_326_162 : mc_P 326 162 = some (.istore 4, 2, 0, 0, 0) := by decide +kernel
theorem s_326_162 {x0 x1 x2 x3 x4 x5 : Option Value} {w : Int32} : mw d 326 Q 162 [x0, x1, x2, x3, x4, x5] (.int w :: st) h = mw d 326 Q 164 [x0, x1, x2, mk2 x3, some (.int w), x5] (st) h := (mw_at mj_326_162).trans (z_istore (Nat.le_of_ble_eq_true rfl) (me_s1_mk (j := 3) (w := x3) rfl))
theorem mj_326_164 : mc_P 326 164 = some (.aload_n 0, 1, 0, 0, 0) := by decide +kernel
theorem s_326_164 {x1 x2 x3 x4 x5 : Option Value} {w : Value} : mw d 326 Q 164 [some w, x1, x2, x3, x4, x5] (st) h = mv_a w (mw d 326 Q 165 [some w, x1, x2, x3, x4, x5] (w :: st) h) := (mw_at mj_326_164).trans (z_aload_n rfl)
theorem mj_326_165 : mc_P 326 165 = some (.bipush 59, 2, 0, 0, 0) := by decide +kernel
theorem s_326_165 {x0 x1 x2 x3 x4 x5 : Option Value} : mw d 326 Q 165 [x0, x1, x2, x3, x4, x5] (st) h = mw d 326 Q 167 [x0, x1, x2, x3, x4, x5] (.int 59 :: st) h := (mw_at mj_326_165).trans (z_bipush (by decide))
theorem mj_326_167 : mc_P 326 167 = some (.invokevirtual 262, 3, 312, 14, 2) := by decide +kernel
theorem s_326_167 {x0 x1 x2 x3 x4 x5 : Option Value} {o : Nat} {a1 : Value} : mw (d + 1) 326 Q 167 [x0, x1, x2, x3, x4, x5] (a1 :: .ref o :: st) h = (mg h o 14 ∧ mca st 8 ∧ mca [.ref o, a1] 2 ∧ mcall d 312 [.ref o, a1] h (mK (d + 1) 326 Q 170 [x0, x1, x2, x3, x4, x5] st)) := (mw_at mj_326_167).trans ((z_invv (As := [a1]) (by decide) rfl rfl).trans (congrArg (And _) (congrArg (And _) (mC_nl nl_312))))
theorem mj_326_170 : mc_P 326 170 = some (.goto 271, 3, 0, 0, 0) := by decide +kernel
theorem s_326_170 {x0 x1 x2 x3 x4 x5 : Option Value} : mw d 326 Q 170 [x0, x1, x2, x3, x4, x5] (st) h = mw d 326 Q 441 [x0, x1, x2, x3, x4, x5] (st) h := (mw_at mj_326_170).trans (z_goto (by decide))
theorem mj_326_173 : mc_P 326 173 = some (.iload_n 3, 1, 0, 0, 0) := by decide +kernel
theorem s_326_173 {x0 x1 x2 x4 x5 : Option Value} {w : Value} : mw d 326 Q 173 [x0, x1, x2, some w, x4, x5] (st) h = mv_i w (mw d 326 Q 174 [x0, x1, x2, some w, x4, x5] (w :: st) h) := (mw_at mj_326_173).trans (z_iload_n rfl)
theorem mj_326_174 : mc_P 326 174 = some (.sipush 302, 3, 0, 0, 0) := by decide +kernel
theorem s_326_174 {x0 x1 x2 x3 x4 x5 : Option Value} : mw d 326 Q 174 [x0, x1, x2, x3, x4, x5] (st) h = mw d 326 Q 177 [x0, x1, x2, x3, x4, x5] (.int 302 :: st) h := (mw_at mj_326_174).trans (z_sipush (by decide))
theorem mj_326_177 : mc_P 326 177 = some (.if_icmp .eq 10, 3, 0, 0, 0) := by decide +kernel
theorem s_326_177 {x0 x1 x2 x3 x4 x5 : Option Value} {x w : Int32} : mw d 326 Q 177 [x0, x1, x2, x3, x4, x5] (.int w :: .int x :: st) h = mB (x = w) (mw d 326 Q) 187 180 [x0, x1, x2, x3, x4, x5] st h := (mw_at mj_326_177).trans (z_icmp_eq (by decide) rfl)
theorem mj_326_180 : mc_P 326 180 = some (.iload_n 3, 1, 0, 0, 0) := by decide +kernel
theorem s_326_180 {x0 x1 x2 x4 x5 : Option Value} {w : Value} : mw d 326 Q 180 [x0, x1, x2, some w, x4, x5] (st) h = mv_i w (mw d 326 Q 181 [x0, x1, x2, some w, x4, x5] (w :: st) h) := (mw_at mj_326_180).trans (z_iload_n rfl)
theorem mj_326_181 : mc_P 326 181 = some (.sipush 304, 3, 0, 0, 0) := by decide +kernel
theorem s_326_181 {x0 x1 x2 x3 x4 x5 : Option Value} : mw d 326 Q 181 [x0, x1, x2, x3, x4, x5] (st) h = mw d 326 Q 184 [x0, x1, x2, x3, x4, x5] (.int 304 :: st) h := (mw_at mj_326_181).trans (z_sipush (by decide))
theorem mj_326_184 : mc_P 326 184 = some (.if_icmp .ne 141, 3, 0, 0, 0) := by decide +kernel
theorem s_326_184 {x0 x1 x2 x3 x4 x5 : Option Value} {x w : Int32} : mw d 326 Q 184 [x0, x1, x2, x3, x4, x5] (.int w :: .int x :: st) h = mB (¬ x = w) (mw d 326 Q) 325 187 [x0, x1, x2, x3, x4, x5] st h := (mw_at mj_326_184).trans (z_icmp_ne (by decide) rfl)
theorem mj_326_187 : mc_P 326 187 = some (.aload_n 0, 1, 0, 0, 0) := by decide +kernel
theorem s_326_187 {x1 x2 x3 x4 x5 : Option Value} {w : Value} : mw d 326 Q 187 [some w, x1, x2, x3, x4, x5] (st) h = mv_a w (mw d 326 Q 188 [some w, x1, x2, x3, x4, x5] (w :: st) h) := (mw_at mj_326_187).trans (z_aload_n rfl)
theorem mj_326_188 : mc_P 326 188 = some (.iload_n 3, 1, 0, 0, 0) := by decide +kernel
theorem s_326_188 {x0 x1 x2 x4 x5 : Option Value} {w : Value} : mw d 326 Q 188 [x0, x1, x2, some w, x4, x5] (st) h = mv_i w (mw d 326 Q 189 [x0, x1, x2, some w, x4, x5] (w :: st) h) := (mw_at mj_326_188).trans (z_iload_n rfl)
theorem mj_326_189 : mc_P 326 189 = some (.sipush 302, 3, 0, 0, 0) := by decide +kernel
theorem s_326_189 {x0 x1 x2 x3 x4 x5 : Option Value} : mw d 326 Q 189 [x0, x1, x2, x3, x4, x5] (st) h = mw d 326 Q 192 [x0, x1, x2, x3, x4, x5] (.int 302 :: st) h := (mw_at mj_326_189).trans (z_sipush (by decide))
theorem mj_326_192 : mc_P 326 192 = some (.if_icmp .ne 8, 3, 0, 0, 0) := by decide +kernel
theorem s_326_192 {x0 x1 x2 x3 x4 x5 : Option Value} {x w : Int32} : mw d 326 Q 192 [x0, x1, x2, x3, x4, x5] (.int w :: .int x :: st) h = mB (¬ x = w) (mw d 326 Q) 200 195 [x0, x1, x2, x3, x4, x5] st h := (mw_at mj_326_192).trans (z_icmp_ne (by decide) rfl)
theorem mj_326_195 : mc_P 326 195 = some (.bipush 8, 2, 0, 0, 0) := by decide +kernel
theorem s_326_195 {x0 x1 x2 x3 x4 x5 : Option Value} : mw d 326 Q 195 [x0, x1, x2, x3, x4, x5] (st) h = mw d 326 Q 197 [x0, x1, x2, x3, x4, x5] (.int 8 :: st) h := (mw_at mj_326_195).trans (z_bipush (by decide))
theorem mj_326_197 : mc_P 326 197 = some (.goto 5, 3, 0, 0, 0) := by decide +kernel
theorem s_326_197 {x0 x1 x2 x3 x4 x5 : Option Value} : mw d 326 Q 197 [x0, x1, x2, x3, x4, x5] (st) h = mw d 326 Q 202 [x0, x1, x2, x3, x4, x5] (st) h := (mw_at mj_326_197).trans (z_goto (by decide))
theorem mj_326_200 : mc_P 326 200 = some (.bipush 9, 2, 0, 0, 0) := by decide +kernel
theorem s_326_200 {x0 x1 x2 x3 x4 x5 : Option Value} : mw d 326 Q 200 [x0, x1, x2, x3, x4, x5] (st) h = mw d 326 Q 202 [x0, x1, x2, x3, x4, x5] (.int 9 :: st) h := (mw_at mj_326_200).trans (z_bipush (by decide))
theorem mj_326_202 : mc_P 326 202 = some (.iload_n 2, 1, 0, 0, 0) := by decide +kernel
theorem s_326_202 {x0 x1 x3 x4 x5 : Option Value} {w : Value} : mw d 326 Q 202 [x0, x1, some w, x3, x4, x5] (st) h = mv_i w (mw d 326 Q 203 [x0, x1, some w, x3, x4, x5] (w :: st) h) := (mw_at mj_326_202).trans (z_iload_n rfl)
theorem mj_326_203 : mc_P 326 203 = some (.iconst 0, 1, 0, 0, 0) := by decide +kernel
theorem s_326_203 {x0 x1 x2 x3 x4 x5 : Option Value} : mw d 326 Q 203 [x0, x1, x2, x3, x4, x5] (st) h = mw d 326 Q 204 [x0, x1, x2, x3, x4, x5] (.int 0 :: st) h := (mw_at mj_326_203).trans (z_iconst (by decide))
theorem mj_326_204 : mc_P 326 204 = some (.invokevirtual 259, 3, 313, 14, 4) := by decide +kernel
theorem s_326_204 {x0 x1 x2 x3 x4 x5 : Option Value} {o : Nat} {a1 a2 a3 : Value} : mw (d + 1) 326 Q 204 [x0, x1, x2, x3, x4, x5] (a3 :: a2 :: a1 :: .ref o :: st) h = (mg h o 14 ∧ mca st 8 ∧ mca [.ref o, a1, a2, a3] 4 ∧ mcall d 313 [.ref o, a1, a2, a3] h (mK (d + 1) 326 Q 207 [x0, x1, x2, x3, x4, x5] st)) := (mw_at mj_326_204).trans ((z_invv (As := [a1, a2, a3]) (by decide) rfl rfl).trans (congrArg (And _) (congrArg (And _) (mC_nl nl_313))))
theorem mj_326_207 : mc_P 326 207 = some (.istore 4, 2, 0, 0, 0) := by decide +kernel
theorem s_326_207 {x0 x1 x2 x3 x4 x5 : Option Value} {w : Int32} : mw d 326 Q 207 [x0, x1, x2, x3, x4, x5] (.int w :: st) h = mw d 326 Q 209 [x0, x1, x2, mk2 x3, some (.int w), x5] (st) h := (mw_at mj_326_207).trans (z_istore (Nat.le_of_ble_eq_true rfl) (me_s1_mk (j := 3) (w := x3) rfl))
theorem mj_326_209 : mc_P 326 209 = some (.aload_n 0, 1, 0, 0, 0) := by decide +kernel
theorem s_326_209 {x1 x2 x3 x4 x5 : Option Value} {w : Value} : mw d 326 Q 209 [some w, x1, x2, x3, x4, x5] (st) h = mv_a w (mw d 326 Q 210 [some w, x1, x2, x3, x4, x5] (w :: st) h) := (mw_at mj_326_209).trans (z_aload_n rfl)
theorem mj_326_210 : mc_P 326 210 = some (.iload_n 3, 1, 0, 0, 0) := by decide +kernel
theorem s_326_210 {x0 x1 x2 x4 x5 : Option Value} {w : Value} : mw d 326 Q 210 [x0, x1, x2, some w, x4, x5] (st) h = mv_i w (mw d 326 Q 211 [x0, x1, x2, some w, x4, x5] (w :: st) h) := (mw_at mj_326_210).trans (z_iload_n rfl)
theorem mj_326_211 : mc_P 326 211 = some (.invokevirtual 262, 3, 312, 14, 2) := by decide +kernel
theorem s_326_211 {x0 x1 x2 x3 x4 x5 : Option Value} {o : Nat} {a1 : Value} : mw (d + 1) 326 Q 211 [x0, x1, x2, x3, x4, x5] (a1 :: .ref o :: st) h = (mg h o 14 ∧ mca st 8 ∧ mca [.ref o, a1] 2 ∧ mcall d 312 [.ref o, a1] h (mK (d + 1) 326 Q 214 [x0, x1, x2, x3, x4, x5] st)) := (mw_at mj_326_211).trans ((z_invv (As := [a1]) (by decide) rfl rfl).trans (congrArg (And _) (congrArg (And _) (mC_nl nl_312))))
theorem mj_326_214 : mc_P 326 214 = some (.aload_n 0, 1, 0, 0, 0) := by decide +kernel
theorem s_326_214 {x1 x2 x3 x4 x5 : Option Value} {w : Value} : mw d 326 Q 214 [some w, x1, x2, x3, x4, x5] (st) h = mv_a w (mw d 326 Q 215 [some w, x1, x2, x3, x4, x5] (w :: st) h) := (mw_at mj_326_214).trans (z_aload_n rfl)
theorem mj_326_215 : mc_P 326 215 = some (.bipush 40, 2, 0, 0, 0) := by decide +kernel
theorem s_326_215 {x0 x1 x2 x3 x4 x5 : Option Value} : mw d 326 Q 215 [x0, x1, x2, x3, x4, x5] (st) h = mw d 326 Q 217 [x0, x1, x2, x3, x4, x5] (.int 40 :: st) h := (mw_at mj_326_215).trans (z_bipush (by decide))
theorem mj_326_217 : mc_P 326 217 = some (.invokevirtual 262, 3, 312, 14, 2) := by decide +kernel
theorem s_326_217 {x0 x1 x2 x3 x4 x5 : Option Value} {o : Nat} {a1 : Value} : mw (d + 1) 326 Q 217 [x0, x1, x2, x3, x4, x5] (a1 :: .ref o :: st) h = (mg h o 14 ∧ mca st 8 ∧ mca [.ref o, a1] 2 ∧ mcall d 312 [.ref o, a1] h (mK (d + 1) 326 Q 220 [x0, x1, x2, x3, x4, x5] st)) := (mw_at mj_326_217).trans ((z_invv (As := [a1]) (by decide) rfl rfl).trans (congrArg (And _) (congrArg (And _) (mC_nl nl_312))))
theorem mj_326_220 : mc_P 326 220 = some (.aload_n 0, 1, 0, 0, 0) := by decide +kernel
theorem s_326_220 {x1 x2 x3 x4 x5 : Option Value} {w : Value} : mw d 326 Q 220 [some w, x1, x2, x3, x4, x5] (st) h = mv_a w (mw d 326 Q 221 [some w, x1, x2, x3, x4, x5] (w :: st) h) := (mw_at mj_326_220).trans (z_aload_n rfl)
theorem mj_326_221 : mc_P 326 221 = some (.iload 4, 2, 0, 0, 0) := by decide +kernel
theorem s_326_221 {x0 x1 x2 x3 x5 : Option Value} {w : Value} : mw d 326 Q 221 [x0, x1, x2, x3, some w, x5] (st) h = mv_i w (mw d 326 Q 223 [x0, x1, x2, x3, some w, x5] (w :: st) h) := (mw_at mj_326_221).trans (z_iload rfl)
theorem mj_326_223 : mc_P 326 223 = some (.aload_n 0, 1, 0, 0, 0) := by decide +kernel
theorem s_326_223 {x1 x2 x3 x4 x5 : Option Value} {w : Value} : mw d 326 Q 223 [some w, x1, x2, x3, x4, x5] (st) h = mv_a w (mw d 326 Q 224 [some w, x1, x2, x3, x4, x5] (w :: st) h) := (mw_at mj_326_223).trans (z_aload_n rfl)
theorem mj_326_224 : mc_P 326 224 = some (.getfield 242, 3, 14, 9, 0) := by decide +kernel
theorem s_326_224 {x0 x1 x2 x3 x4 x5 : Option Value} {o : Nat} : mw d 326 Q 224 [x0, x1, x2, x3, x4, x5] (.ref o :: st) h = (mg h o 14 ∧ mw d 326 Q 227 [x0, x1, x2, x3, x4, x5] (.int (mh_i h o 9) :: st) h) := (mw_at mj_326_224).trans (z_geti (by decide) (by decide) (Or.inr rfl))
theorem mj_326_227 : mc_P 326 227 = some (.ifCond .eq 7, 3, 0, 0, 0) := by decide +kernel
theorem s_326_227 {x0 x1 x2 x3 x4 x5 : Option Value} {x : Int32} : mw d 326 Q 227 [x0, x1, x2, x3, x4, x5] (.int x :: st) h = mB (x = 0) (mw d 326 Q) 234 230 [x0, x1, x2, x3, x4, x5] st h := (mw_at mj_326_227).trans (z_if_eq (by decide) rfl)
theorem mj_326_230 : mc_P 326 230 = some (.iconst (-1), 1, 0, 0, 0) := by decide +kernel
theorem s_326_230 {x0 x1 x2 x3 x4 x5 : Option Value} : mw d 326 Q 230 [x0, x1, x2, x3, x4, x5] (st) h = mw d 326 Q 231 [x0, x1, x2, x3, x4, x5] (.int (-1) :: st) h := (mw_at mj_326_230).trans (z_iconst (by decide))
theorem mj_326_231 : mc_P 326 231 = some (.goto 10, 3, 0, 0, 0) := by decide +kernel
theorem s_326_231 {x0 x1 x2 x3 x4 x5 : Option Value} : mw d 326 Q 231 [x0, x1, x2, x3, x4, x5] (st) h = mw d 326 Q 241 [x0, x1, x2, x3, x4, x5] (st) h := (mw_at mj_326_231).trans (z_goto (by decide))
theorem mj_326_234 : mc_P 326 234 = some (.aload_n 0, 1, 0, 0, 0) := by decide +kernel
theorem s_326_234 {x1 x2 x3 x4 x5 : Option Value} {w : Value} : mw d 326 Q 234 [some w, x1, x2, x3, x4, x5] (st) h = mv_a w (mw d 326 Q 235 [some w, x1, x2, x3, x4, x5] (w :: st) h) := (mw_at mj_326_234).trans (z_aload_n rfl)
theorem mj_326_235 : mc_P 326 235 = some (.iload_n 1, 1, 0, 0, 0) := by decide +kernel
theorem s_326_235 {x0 x2 x3 x4 x5 : Option Value} {w : Value} : mw d 326 Q 235 [x0, some w, x2, x3, x4, x5] (st) h = mv_i w (mw d 326 Q 236 [x0, some w, x2, x3, x4, x5] (w :: st) h) := (mw_at mj_326_235).trans (z_iload_n rfl)
theorem mj_326_236 : mc_P 326 236 = some (.iconst 1, 1, 0, 0, 0) := by decide +kernel
theorem s_326_236 {x0 x1 x2 x3 x4 x5 : Option Value} : mw d 326 Q 236 [x0, x1, x2, x3, x4, x5] (st) h = mw d 326 Q 237 [x0, x1, x2, x3, x4, x5] (.int 1 :: st) h := (mw_at mj_326_236).trans (z_iconst (by decide))
theorem mj_326_237 : mc_P 326 237 = some (.iadd, 1, 0, 0, 0) := by decide +kernel
theorem s_326_237 {x0 x1 x2 x3 x4 x5 : Option Value} {x w : Int32} : mw d 326 Q 237 [x0, x1, x2, x3, x4, x5] (.int w :: .int x :: st) h = mw d 326 Q 238 [x0, x1, x2, x3, x4, x5] (.int (x + w) :: st) h := (mw_at mj_326_237).trans (z_iadd)
theorem mj_326_238 : mc_P 326 238 = some (.invokevirtual 295, 3, 321, 14, 2) := by decide +kernel
theorem s_326_238 {x0 x1 x2 x3 x4 x5 : Option Value} {o : Nat} {a1 : Value} : mw (d + 1) 326 Q 238 [x0, x1, x2, x3, x4, x5] (a1 :: .ref o :: st) h = (mg h o 14 ∧ mca st 8 ∧ mca [.ref o, a1] 2 ∧ mcall d 321 [.ref o, a1] h (mK (d + 1) 326 Q 241 [x0, x1, x2, x3, x4, x5] st)) := (mw_at mj_326_238).trans ((z_invv (As := [a1]) (by decide) rfl rfl).trans (congrArg (And _) (congrArg (And _) (mC_nl nl_321))))
theorem mj_326_241 : mc_P 326 241 = some (.invokevirtual 272, 3, 314, 14, 3) := by decide +kernel
theorem s_326_241 {x0 x1 x2 x3 x4 x5 : Option Value} {o : Nat} {a1 a2 : Value} : mw (d + 1) 326 Q 241 [x0, x1, x2, x3, x4, x5] (a2 :: a1 :: .ref o :: st) h = (mg h o 14 ∧ mca st 8 ∧ mca [.ref o, a1, a2] 3 ∧ mcall d 314 [.ref o, a1, a2] h (mK (d + 1) 326 Q 244 [x0, x1, x2, x3, x4, x5] st)) := (mw_at mj_326_241).trans ((z_invv (As := [a1, a2]) (by decide) rfl rfl).trans (congrArg (And _) (congrArg (And _) (mC_nl nl_314))))
theorem mj_326_244 : mc_P 326 244 = some (.aload_n 0, 1, 0, 0, 0) := by decide +kernel
theorem s_326_244 {x1 x2 x3 x4 x5 : Option Value} {w : Value} : mw d 326 Q 244 [some w, x1, x2, x3, x4, x5] (st) h = mv_a w (mw d 326 Q 245 [some w, x1, x2, x3, x4, x5] (w :: st) h) := (mw_at mj_326_244).trans (z_aload_n rfl)
theorem mj_326_245 : mc_P 326 245 = some (.bipush 41, 2, 0, 0, 0) := by decide +kernel
theorem s_326_245 {x0 x1 x2 x3 x4 x5 : Option Value} : mw d 326 Q 245 [x0, x1, x2, x3, x4, x5] (st) h = mw d 326 Q 247 [x0, x1, x2, x3, x4, x5] (.int 41 :: st) h := (mw_at mj_326_245).trans (z_bipush (by decide))
theorem mj_326_247 : mc_P 326 247 = some (.invokevirtual 262, 3, 312, 14, 2) := by decide +kernel
theorem s_326_247 {x0 x1 x2 x3 x4 x5 : Option Value} {o : Nat} {a1 : Value} : mw (d + 1) 326 Q 247 [x0, x1, x2, x3, x4, x5] (a1 :: .ref o :: st) h = (mg h o 14 ∧ mca st 8 ∧ mca [.ref o, a1] 2 ∧ mcall d 312 [.ref o, a1] h (mK (d + 1) 326 Q 250 [x0, x1, x2, x3, x4, x5] st)) := (mw_at mj_326_247).trans ((z_invv (As := [a1]) (by decide) rfl rfl).trans (congrArg (And _) (congrArg (And _) (mC_nl nl_312))))
theorem mj_326_250 : mc_P 326 250 = some (.aload_n 0, 1, 0, 0, 0) := by decide +kernel
theorem s_326_250 {x1 x2 x3 x4 x5 : Option Value} {w : Value} : mw d 326 Q 250 [some w, x1, x2, x3, x4, x5] (st) h = mv_a w (mw d 326 Q 251 [some w, x1, x2, x3, x4, x5] (w :: st) h) := (mw_at mj_326_250).trans (z_aload_n rfl)
theorem mj_326_251 : mc_P 326 251 = some (.iload 4, 2, 0, 0, 0) := by decide +kernel
theorem s_326_251 {x0 x1 x2 x3 x5 : Option Value} {w : Value} : mw d 326 Q 251 [x0, x1, x2, x3, some w, x5] (st) h = mv_i w (mw d 326 Q 253 [x0, x1, x2, x3, some w, x5] (w :: st) h) := (mw_at mj_326_251).trans (z_iload rfl)
theorem mj_326_253 : mc_P 326 253 = some (.aload_n 0, 1, 0, 0, 0) := by decide +kernel
theorem s_326_253 {x1 x2 x3 x4 x5 : Option Value} {w : Value} : mw d 326 Q 253 [some w, x1, x2, x3, x4, x5] (st) h = mv_a w (mw d 326 Q 254 [some w, x1, x2, x3, x4, x5] (w :: st) h) := (mw_at mj_326_253).trans (z_aload_n rfl)
theorem mj_326_254 : mc_P 326 254 = some (.getfield 242, 3, 14, 9, 0) := by decide +kernel
theorem s_326_254 {x0 x1 x2 x3 x4 x5 : Option Value} {o : Nat} : mw d 326 Q 254 [x0, x1, x2, x3, x4, x5] (.ref o :: st) h = (mg h o 14 ∧ mw d 326 Q 257 [x0, x1, x2, x3, x4, x5] (.int (mh_i h o 9) :: st) h) := (mw_at mj_326_254).trans (z_geti (by decide) (by decide) (Or.inr rfl))
theorem mj_326_257 : mc_P 326 257 = some (.ifCond .eq 7, 3, 0, 0, 0) := by decide +kernel
theorem s_326_257 {x0 x1 x2 x3 x4 x5 : Option Value} {x : Int32} : mw d 326 Q 257 [x0, x1, x2, x3, x4, x5] (.int x :: st) h = mB (x = 0) (mw d 326 Q) 264 260 [x0, x1, x2, x3, x4, x5] st h := (mw_at mj_326_257).trans (z_if_eq (by decide) rfl)
theorem mj_326_260 : mc_P 326 260 = some (.iconst (-1), 1, 0, 0, 0) := by decide +kernel
theorem s_326_260 {x0 x1 x2 x3 x4 x5 : Option Value} : mw d 326 Q 260 [x0, x1, x2, x3, x4, x5] (st) h = mw d 326 Q 261 [x0, x1, x2, x3, x4, x5] (.int (-1) :: st) h := (mw_at mj_326_260).trans (z_iconst (by decide))
theorem mj_326_261 : mc_P 326 261 = some (.goto 10, 3, 0, 0, 0) := by decide +kernel
theorem s_326_261 {x0 x1 x2 x3 x4 x5 : Option Value} : mw d 326 Q 261 [x0, x1, x2, x3, x4, x5] (st) h = mw d 326 Q 271 [x0, x1, x2, x3, x4, x5] (st) h := (mw_at mj_326_261).trans (z_goto (by decide))
theorem mj_326_264 : mc_P 326 264 = some (.aload_n 0, 1, 0, 0, 0) := by decide +kernel
theorem s_326_264 {x1 x2 x3 x4 x5 : Option Value} {w : Value} : mw d 326 Q 264 [some w, x1, x2, x3, x4, x5] (st) h = mv_a w (mw d 326 Q 265 [some w, x1, x2, x3, x4, x5] (w :: st) h) := (mw_at mj_326_264).trans (z_aload_n rfl)
theorem mj_326_265 : mc_P 326 265 = some (.iload_n 1, 1, 0, 0, 0) := by decide +kernel
theorem s_326_265 {x0 x2 x3 x4 x5 : Option Value} {w : Value} : mw d 326 Q 265 [x0, some w, x2, x3, x4, x5] (st) h = mv_i w (mw d 326 Q 266 [x0, some w, x2, x3, x4, x5] (w :: st) h) := (mw_at mj_326_265).trans (z_iload_n rfl)
theorem mj_326_266 : mc_P 326 266 = some (.iconst 1, 1, 0, 0, 0) := by decide +kernel
theorem s_326_266 {x0 x1 x2 x3 x4 x5 : Option Value} : mw d 326 Q 266 [x0, x1, x2, x3, x4, x5] (st) h = mw d 326 Q 267 [x0, x1, x2, x3, x4, x5] (.int 1 :: st) h := (mw_at mj_326_266).trans (z_iconst (by decide))
theorem mj_326_267 : mc_P 326 267 = some (.iadd, 1, 0, 0, 0) := by decide +kernel
theorem s_326_267 {x0 x1 x2 x3 x4 x5 : Option Value} {x w : Int32} : mw d 326 Q 267 [x0, x1, x2, x3, x4, x5] (.int w :: .int x :: st) h = mw d 326 Q 268 [x0, x1, x2, x3, x4, x5] (.int (x + w) :: st) h := (mw_at mj_326_267).trans (z_iadd)
theorem mj_326_268 : mc_P 326 268 = some (.invokevirtual 304, 3, 324, 14, 2) := by decide +kernel
theorem s_326_268 {x0 x1 x2 x3 x4 x5 : Option Value} {o : Nat} {a1 : Value} : mw (d + 1) 326 Q 268 [x0, x1, x2, x3, x4, x5] (a1 :: .ref o :: st) h = (mg h o 14 ∧ mca st 8 ∧ mca [.ref o, a1] 3 ∧ mcall d 324 [.ref o, a1] h (mK (d + 1) 326 Q 271 [x0, x1, x2, x3, x4, x5] st)) := (mw_at mj_326_268).trans ((z_invv (As := [a1]) (by decide) rfl rfl).trans (congrArg (And _) (congrArg (And _) (mC_nl nl_324))))
theorem mj_326_271 : mc_P 326 271 = some (.invokevirtual 272, 3, 314, 14, 3) := by decide +kernel
theorem s_326_271 {x0 x1 x2 x3 x4 x5 : Option Value} {o : Nat} {a1 a2 : Value} : mw (d + 1) 326 Q 271 [x0, x1, x2, x3, x4, x5] (a2 :: a1 :: .ref o :: st) h = (mg h o 14 ∧ mca st 8 ∧ mca [.ref o, a1, a2] 3 ∧ mcall d 314 [.ref o, a1, a2] h (mK (d + 1) 326 Q 274 [x0, x1, x2, x3, x4, x5] st)) := (mw_at mj_326_271).trans ((z_invv (As := [a1, a2]) (by decide) rfl rfl).trans (congrArg (And _) (congrArg (And _) (mC_nl nl_314))))
theorem mj_326_274 : mc_P 326 274 = some (.iload_n 3, 1, 0, 0, 0) := by decide +kernel
theorem s_326_274 {x0 x1 x2 x4 x5 : Option Value} {w : Value} : mw d 326 Q 274 [x0, x1, x2, some w, x4, x5] (st) h = mv_i w (mw d 326 Q 275 [x0, x1, x2, some w, x4, x5] (w :: st) h) := (mw_at mj_326_274).trans (z_iload_n rfl)
theorem mj_326_275 : mc_P 326 275 = some (.sipush 302, 3, 0, 0, 0) := by decide +kernel
theorem s_326_275 {x0 x1 x2 x3 x4 x5 : Option Value} : mw d 326 Q 275 [x0, x1, x2, x3, x4, x5] (st) h = mw d 326 Q 278 [x0, x1, x2, x3, x4, x5] (.int 302 :: st) h := (mw_at mj_326_275).trans (z_sipush (by decide))
theorem mj_326_278 : mc_P 326 278 = some (.if_icmp .ne 163, 3, 0, 0, 0) := by decide +kernel
theorem s_326_278 {x0 x1 x2 x3 x4 x5 : Option Value} {x w : Int32} : mw d 326 Q 278 [x0, x1, x2, x3, x4, x5] (.int w :: .int x :: st) h = mB (¬ x = w) (mw d 326 Q) 441 281 [x0, x1, x2, x3, x4, x5] st h := (mw_at mj_326_278).trans (z_icmp_ne (by decide) rfl)
theorem mj_326_281 : mc_P 326 281 = some (.aload_n 0, 1, 0, 0, 0) := by decide +kernel
theorem s_326_281 {x1 x2 x3 x4 x5 : Option Value} {w : Value} : mw d 326 Q 281 [some w, x1, x2, x3, x4, x5] (st) h = mv_a w (mw d 326 Q 282 [some w, x1, x2, x3, x4, x5] (w :: st) h) := (mw_at mj_326_281).trans (z_aload_n rfl)
theorem mj_326_282 : mc_P 326 282 = some (.invokevirtual 249, 3, 310, 14, 1) := by decide +kernel
theorem s_326_282 {x0 x1 x2 x3 x4 x5 : Option Value} {o : Nat} : mw (d + 1) 326 Q 282 [x0, x1, x2, x3, x4, x5] (.ref o :: st) h = (mg h o 14 ∧ mca st 8 ∧ mca [.ref o] 1 ∧ mcall d 310 [.ref o] h (mK (d + 1) 326 Q 285 [x0, x1, x2, x3, x4, x5] st)) := (mw_at mj_326_282).trans ((z_invv (As := []) (by decide) rfl rfl).trans (congrArg (And _) (congrArg (And _) (mC_nl nl_310))))
theorem mj_326_285 : mc_P 326 285 = some (.sipush 303, 3, 0, 0, 0) := by decide +kernel
theorem s_326_285 {x0 x1 x2 x3 x4 x5 : Option Value} : mw d 326 Q 285 [x0, x1, x2, x3, x4, x5] (st) h = mw d 326 Q 288 [x0, x1, x2, x3, x4, x5] (.int 303 :: st) h := (mw_at mj_326_285).trans (z_sipush (by decide))
theorem mj_326_288 : mc_P 326 288 = some (.if_icmp .ne 153, 3, 0, 0, 0) := by decide +kernel
theorem s_326_288 {x0 x1 x2 x3 x4 x5 : Option Value} {x w : Int32} : mw d 326 Q 288 [x0, x1, x2, x3, x4, x5] (.int w :: .int x :: st) h = mB (¬ x = w) (mw d 326 Q) 441 291 [x0, x1, x2, x3, x4, x5] st h := (mw_at mj_326_288).trans (z_icmp_ne (by decide) rfl)
theorem mj_326_291 : mc_P 326 291 = some (.aload_n 0, 1, 0, 0, 0) := by decide +kernel
theorem s_326_291 {x1 x2 x3 x4 x5 : Option Value} {w : Value} : mw d 326 Q 291 [some w, x1, x2, x3, x4, x5] (st) h = mv_a w (mw d 326 Q 292 [some w, x1, x2, x3, x4, x5] (w :: st) h) := (mw_at mj_326_291).trans (z_aload_n rfl)
theorem mj_326_292 : mc_P 326 292 = some (.sipush 303, 3, 0, 0, 0) := by decide +kernel
theorem s_326_292 {x0 x1 x2 x3 x4 x5 : Option Value} : mw d 326 Q 292 [x0, x1, x2, x3, x4, x5] (st) h = mw d 326 Q 295 [x0, x1, x2, x3, x4, x5] (.int 303 :: st) h := (mw_at mj_326_292).trans (z_sipush (by decide))
theorem mj_326_295 : mc_P 326 295 = some (.invokevirtual 262, 3, 312, 14, 2) := by decide +kernel
theorem s_326_295 {x0 x1 x2 x3 x4 x5 : Option Value} {o : Nat} {a1 : Value} : mw (d + 1) 326 Q 295 [x0, x1, x2, x3, x4, x5] (a1 :: .ref o :: st) h = (mg h o 14 ∧ mca st 8 ∧ mca [.ref o, a1] 2 ∧ mcall d 312 [.ref o, a1] h (mK (d + 1) 326 Q 298 [x0, x1, x2, x3, x4, x5] st)) := (mw_at mj_326_295).trans ((z_invv (As := [a1]) (by decide) rfl rfl).trans (congrArg (And _) (congrArg (And _) (mC_nl nl_312))))
theorem mj_326_298 : mc_P 326 298 = some (.aload_n 0, 1, 0, 0, 0) := by decide +kernel
theorem s_326_298 {x1 x2 x3 x4 x5 : Option Value} {w : Value} : mw d 326 Q 298 [some w, x1, x2, x3, x4, x5] (st) h = mv_a w (mw d 326 Q 299 [some w, x1, x2, x3, x4, x5] (w :: st) h) := (mw_at mj_326_298).trans (z_aload_n rfl)
theorem mj_326_299 : mc_P 326 299 = some (.iload 4, 2, 0, 0, 0) := by decide +kernel
theorem s_326_299 {x0 x1 x2 x3 x5 : Option Value} {w : Value} : mw d 326 Q 299 [x0, x1, x2, x3, some w, x5] (st) h = mv_i w (mw d 326 Q 301 [x0, x1, x2, x3, some w, x5] (w :: st) h) := (mw_at mj_326_299).trans (z_iload rfl)
theorem mj_326_301 : mc_P 326 301 = some (.aload_n 0, 1, 0, 0, 0) := by decide +kernel
theorem s_326_301 {x1 x2 x3 x4 x5 : Option Value} {w : Value} : mw d 326 Q 301 [some w, x1, x2, x3, x4, x5] (st) h = mv_a w (mw d 326 Q 302 [some w, x1, x2, x3, x4, x5] (w :: st) h) := (mw_at mj_326_301).trans (z_aload_n rfl)
theorem mj_326_302 : mc_P 326 302 = some (.getfield 242, 3, 14, 9, 0) := by decide +kernel
theorem s_326_302 {x0 x1 x2 x3 x4 x5 : Option Value} {o : Nat} : mw d 326 Q 302 [x0, x1, x2, x3, x4, x5] (.ref o :: st) h = (mg h o 14 ∧ mw d 326 Q 305 [x0, x1, x2, x3, x4, x5] (.int (mh_i h o 9) :: st) h) := (mw_at mj_326_302).trans (z_geti (by decide) (by decide) (Or.inr rfl))
theorem mj_326_305 : mc_P 326 305 = some (.ifCond .eq 7, 3, 0, 0, 0) := by decide +kernel
theorem s_326_305 {x0 x1 x2 x3 x4 x5 : Option Value} {x : Int32} : mw d 326 Q 305 [x0, x1, x2, x3, x4, x5] (.int x :: st) h = mB (x = 0) (mw d 326 Q) 312 308 [x0, x1, x2, x3, x4, x5] st h := (mw_at mj_326_305).trans (z_if_eq (by decide) rfl)
theorem mj_326_308 : mc_P 326 308 = some (.iconst (-1), 1, 0, 0, 0) := by decide +kernel
theorem s_326_308 {x0 x1 x2 x3 x4 x5 : Option Value} : mw d 326 Q 308 [x0, x1, x2, x3, x4, x5] (st) h = mw d 326 Q 309 [x0, x1, x2, x3, x4, x5] (.int (-1) :: st) h := (mw_at mj_326_308).trans (z_iconst (by decide))
theorem mj_326_309 : mc_P 326 309 = some (.goto 10, 3, 0, 0, 0) := by decide +kernel
theorem s_326_309 {x0 x1 x2 x3 x4 x5 : Option Value} : mw d 326 Q 309 [x0, x1, x2, x3, x4, x5] (st) h = mw d 326 Q 319 [x0, x1, x2, x3, x4, x5] (st) h := (mw_at mj_326_309).trans (z_goto (by decide))
theorem mj_326_312 : mc_P 326 312 = some (.aload_n 0, 1, 0, 0, 0) := by decide +kernel
theorem s_326_312 {x1 x2 x3 x4 x5 : Option Value} {w : Value} : mw d 326 Q 312 [some w, x1, x2, x3, x4, x5] (st) h = mv_a w (mw d 326 Q 313 [some w, x1, x2, x3, x4, x5] (w :: st) h) := (mw_at mj_326_312).trans (z_aload_n rfl)
theorem mj_326_313 : mc_P 326 313 = some (.iload_n 1, 1, 0, 0, 0) := by decide +kernel
theorem s_326_313 {x0 x2 x3 x4 x5 : Option Value} {w : Value} : mw d 326 Q 313 [x0, some w, x2, x3, x4, x5] (st) h = mv_i w (mw d 326 Q 314 [x0, some w, x2, x3, x4, x5] (w :: st) h) := (mw_at mj_326_313).trans (z_iload_n rfl)
theorem mj_326_314 : mc_P 326 314 = some (.iconst 1, 1, 0, 0, 0) := by decide +kernel
theorem s_326_314 {x0 x1 x2 x3 x4 x5 : Option Value} : mw d 326 Q 314 [x0, x1, x2, x3, x4, x5] (st) h = mw d 326 Q 315 [x0, x1, x2, x3, x4, x5] (.int 1 :: st) h := (mw_at mj_326_314).trans (z_iconst (by decide))
theorem mj_326_315 : mc_P 326 315 = some (.iadd, 1, 0, 0, 0) := by decide +kernel
theorem s_326_315 {x0 x1 x2 x3 x4 x5 : Option Value} {x w : Int32} : mw d 326 Q 315 [x0, x1, x2, x3, x4, x5] (.int w :: .int x :: st) h = mw d 326 Q 316 [x0, x1, x2, x3, x4, x5] (.int (x + w) :: st) h := (mw_at mj_326_315).trans (z_iadd)
theorem mj_326_316 : mc_P 326 316 = some (.invokevirtual 304, 3, 324, 14, 2) := by decide +kernel
theorem s_326_316 {x0 x1 x2 x3 x4 x5 : Option Value} {o : Nat} {a1 : Value} : mw (d + 1) 326 Q 316 [x0, x1, x2, x3, x4, x5] (a1 :: .ref o :: st) h = (mg h o 14 ∧ mca st 8 ∧ mca [.ref o, a1] 3 ∧ mcall d 324 [.ref o, a1] h (mK (d + 1) 326 Q 319 [x0, x1, x2, x3, x4, x5] st)) := (mw_at mj_326_316).trans ((z_invv (As := [a1]) (by decide) rfl rfl).trans (congrArg (And _) (congrArg (And _) (mC_nl nl_324))))
theorem mj_326_319 : mc_P 326 319 = some (.invokevirtual 272, 3, 314, 14, 3) := by decide +kernel
theorem s_326_319 {x0 x1 x2 x3 x4 x5 : Option Value} {o : Nat} {a1 a2 : Value} : mw (d + 1) 326 Q 319 [x0, x1, x2, x3, x4, x5] (a2 :: a1 :: .ref o :: st) h = (mg h o 14 ∧ mca st 8 ∧ mca [.ref o, a1, a2] 3 ∧ mcall d 314 [.ref o, a1, a2] h (mK (d + 1) 326 Q 322 [x0, x1, x2, x3, x4, x5] st)) := (mw_at mj_326_319).trans ((z_invv (As := [a1, a2]) (by decide) rfl rfl).trans (congrArg (And _) (congrArg (And _) (mC_nl nl_314))))
theorem mj_326_322 : mc_P 326 322 = some (.goto 119, 3, 0, 0, 0) := by decide +kernel
theorem s_326_322 {x0 x1 x2 x3 x4 x5 : Option Value} : mw d 326 Q 322 [x0, x1, x2, x3, x4, x5] (st) h = mw d 326 Q 441 [x0, x1, x2, x3, x4, x5] (st) h := (mw_at mj_326_322).trans (z_goto (by decide))
theorem mj_326_325 : mc_P 326 325 = some (.iload_n 3, 1, 0, 0, 0) := by decide +kernel
theorem s_326_325 {x0 x1 x2 x4 x5 : Option Value} {w : Value} : mw d 326 Q 325 [x0, x1, x2, some w, x4, x5] (st) h = mv_i w (mw d 326 Q 326 [x0, x1, x2, some w, x4, x5] (w :: st) h) := (mw_at mj_326_325).trans (z_iload_n rfl)
theorem mj_326_326 : mc_P 326 326 = some (.sipush 305, 3, 0, 0, 0) := by decide +kernel
theorem s_326_326 {x0 x1 x2 x3 x4 x5 : Option Value} : mw d 326 Q 326 [x0, x1, x2, x3, x4, x5] (st) h = mw d 326 Q 329 [x0, x1, x2, x3, x4, x5] (.int 305 :: st) h := (mw_at mj_326_326).trans (z_sipush (by decide))
theorem mj_326_329 : mc_P 326 329 = some (.if_icmp .ne 65, 3, 0, 0, 0) := by decide +kernel
theorem s_326_329 {x0 x1 x2 x3 x4 x5 : Option Value} {x w : Int32} : mw d 326 Q 329 [x0, x1, x2, x3, x4, x5] (.int w :: .int x :: st) h = mB (¬ x = w) (mw d 326 Q) 394 332 [x0, x1, x2, x3, x4, x5] st h := (mw_at mj_326_329).trans (z_icmp_ne (by decide) rfl)
theorem mj_326_332 : mc_P 326 332 = some (.aload_n 0, 1, 0, 0, 0) := by decide +kernel
theorem s_326_332 {x1 x2 x3 x4 x5 : Option Value} {w : Value} : mw d 326 Q 332 [some w, x1, x2, x3, x4, x5] (st) h = mv_a w (mw d 326 Q 333 [some w, x1, x2, x3, x4, x5] (w :: st) h) := (mw_at mj_326_332).trans (z_aload_n rfl)
theorem mj_326_333 : mc_P 326 333 = some (.bipush 10, 2, 0, 0, 0) := by decide +kernel
theorem s_326_333 {x0 x1 x2 x3 x4 x5 : Option Value} : mw d 326 Q 333 [x0, x1, x2, x3, x4, x5] (st) h = mw d 326 Q 335 [x0, x1, x2, x3, x4, x5] (.int 10 :: st) h := (mw_at mj_326_333).trans (z_bipush (by decide))
theorem mj_326_335 : mc_P 326 335 = some (.iload_n 2, 1, 0, 0, 0) := by decide +kernel
theorem s_326_335 {x0 x1 x3 x4 x5 : Option Value} {w : Value} : mw d 326 Q 335 [x0, x1, some w, x3, x4, x5] (st) h = mv_i w (mw d 326 Q 336 [x0, x1, some w, x3, x4, x5] (w :: st) h) := (mw_at mj_326_335).trans (z_iload_n rfl)
theorem mj_326_336 : mc_P 326 336 = some (.iconst 0, 1, 0, 0, 0) := by decide +kernel
theorem s_326_336 {x0 x1 x2 x3 x4 x5 : Option Value} : mw d 326 Q 336 [x0, x1, x2, x3, x4, x5] (st) h = mw d 326 Q 337 [x0, x1, x2, x3, x4, x5] (.int 0 :: st) h := (mw_at mj_326_336).trans (z_iconst (by decide))
theorem mj_326_337 : mc_P 326 337 = some (.invokevirtual 259, 3, 313, 14, 4) := by decide +kernel
theorem s_326_337 {x0 x1 x2 x3 x4 x5 : Option Value} {o : Nat} {a1 a2 a3 : Value} : mw (d + 1) 326 Q 337 [x0, x1, x2, x3, x4, x5] (a3 :: a2 :: a1 :: .ref o :: st) h = (mg h o 14 ∧ mca st 8 ∧ mca [.ref o, a1, a2, a3] 4 ∧ mcall d 313 [.ref o, a1, a2, a3] h (mK (d + 1) 326 Q 340 [x0, x1, x2, x3, x4, x5] st)) := (mw_at mj_326_337).trans ((z_invv (As := [a1, a2, a3]) (by decide) rfl rfl).trans (congrArg (And _) (congrArg (And _) (mC_nl nl_313))))
theorem mj_326_340 : mc_P 326 340 = some (.istore 4, 2, 0, 0, 0) := by decide +kernel
theorem s_326_340 {x0 x1 x2 x3 x4 x5 : Option Value} {w : Int32} : mw d 326 Q 340 [x0, x1, x2, x3, x4, x5] (.int w :: st) h = mw d 326 Q 342 [x0, x1, x2, mk2 x3, some (.int w), x5] (st) h := (mw_at mj_326_340).trans (z_istore (Nat.le_of_ble_eq_true rfl) (me_s1_mk (j := 3) (w := x3) rfl))
theorem mj_326_342 : mc_P 326 342 = some (.aload_n 0, 1, 0, 0, 0) := by decide +kernel
theorem s_326_342 {x1 x2 x3 x4 x5 : Option Value} {w : Value} : mw d 326 Q 342 [some w, x1, x2, x3, x4, x5] (st) h = mv_a w (mw d 326 Q 343 [some w, x1, x2, x3, x4, x5] (w :: st) h) := (mw_at mj_326_342).trans (z_aload_n rfl)
theorem mj_326_343 : mc_P 326 343 = some (.sipush 305, 3, 0, 0, 0) := by decide +kernel
theorem s_326_343 {x0 x1 x2 x3 x4 x5 : Option Value} : mw d 326 Q 343 [x0, x1, x2, x3, x4, x5] (st) h = mw d 326 Q 346 [x0, x1, x2, x3, x4, x5] (.int 305 :: st) h := (mw_at mj_326_343).trans (z_sipush (by decide))
theorem mj_326_346 : mc_P 326 346 = some (.invokevirtual 262, 3, 312, 14, 2) := by decide +kernel
theorem s_326_346 {x0 x1 x2 x3 x4 x5 : Option Value} {o : Nat} {a1 : Value} : mw (d + 1) 326 Q 346 [x0, x1, x2, x3, x4, x5] (a1 :: .ref o :: st) h = (mg h o 14 ∧ mca st 8 ∧ mca [.ref o, a1] 2 ∧ mcall d 312 [.ref o, a1] h (mK (d + 1) 326 Q 349 [x0, x1, x2, x3, x4, x5] st)) := (mw_at mj_326_346).trans ((z_invv (As := [a1]) (by decide) rfl rfl).trans (congrArg (And _) (congrArg (And _) (mC_nl nl_312))))
theorem mj_326_349 : mc_P 326 349 = some (.aload_n 0, 1, 0, 0, 0) := by decide +kernel
theorem s_326_349 {x1 x2 x3 x4 x5 : Option Value} {w : Value} : mw d 326 Q 349 [some w, x1, x2, x3, x4, x5] (st) h = mv_a w (mw d 326 Q 350 [some w, x1, x2, x3, x4, x5] (w :: st) h) := (mw_at mj_326_349).trans (z_aload_n rfl)
theorem mj_326_350 : mc_P 326 350 = some (.bipush 40, 2, 0, 0, 0) := by decide +kernel
theorem s_326_350 {x0 x1 x2 x3 x4 x5 : Option Value} : mw d 326 Q 350 [x0, x1, x2, x3, x4, x5] (st) h = mw d 326 Q 352 [x0, x1, x2, x3, x4, x5] (.int 40 :: st) h := (mw_at mj_326_350).trans (z_bipush (by decide))
theorem mj_326_352 : mc_P 326 352 = some (.invokevirtual 262, 3, 312, 14, 2) := by decide +kernel
theorem s_326_352 {x0 x1 x2 x3 x4 x5 : Option Value} {o : Nat} {a1 : Value} : mw (d + 1) 326 Q 352 [x0, x1, x2, x3, x4, x5] (a1 :: .ref o :: st) h = (mg h o 14 ∧ mca st 8 ∧ mca [.ref o, a1] 2 ∧ mcall d 312 [.ref o, a1] h (mK (d + 1) 326 Q 355 [x0, x1, x2, x3, x4, x5] st)) := (mw_at mj_326_352).trans ((z_invv (As := [a1]) (by decide) rfl rfl).trans (congrArg (And _) (congrArg (And _) (mC_nl nl_312))))
theorem mj_326_355 : mc_P 326 355 = some (.aload_n 0, 1, 0, 0, 0) := by decide +kernel
theorem s_326_355 {x1 x2 x3 x4 x5 : Option Value} {w : Value} : mw d 326 Q 355 [some w, x1, x2, x3, x4, x5] (st) h = mv_a w (mw d 326 Q 356 [some w, x1, x2, x3, x4, x5] (w :: st) h) := (mw_at mj_326_355).trans (z_aload_n rfl)
theorem mj_326_356 : mc_P 326 356 = some (.iload 4, 2, 0, 0, 0) := by decide +kernel
theorem s_326_356 {x0 x1 x2 x3 x5 : Option Value} {w : Value} : mw d 326 Q 356 [x0, x1, x2, x3, some w, x5] (st) h = mv_i w (mw d 326 Q 358 [x0, x1, x2, x3, some w, x5] (w :: st) h) := (mw_at mj_326_356).trans (z_iload rfl)
theorem mj_326_358 : mc_P 326 358 = some (.aload_n 0, 1, 0, 0, 0) := by decide +kernel
theorem s_326_358 {x1 x2 x3 x4 x5 : Option Value} {w : Value} : mw d 326 Q 358 [some w, x1, x2, x3, x4, x5] (st) h = mv_a w (mw d 326 Q 359 [some w, x1, x2, x3, x4, x5] (w :: st) h) := (mw_at mj_326_358).trans (z_aload_n rfl)
theorem mj_326_359 : mc_P 326 359 = some (.getfield 242, 3, 14, 9, 0) := by decide +kernel
theorem s_326_359 {x0 x1 x2 x3 x4 x5 : Option Value} {o : Nat} : mw d 326 Q 359 [x0, x1, x2, x3, x4, x5] (.ref o :: st) h = (mg h o 14 ∧ mw d 326 Q 362 [x0, x1, x2, x3, x4, x5] (.int (mh_i h o 9) :: st) h) := (mw_at mj_326_359).trans (z_geti (by decide) (by decide) (Or.inr rfl))
theorem mj_326_362 : mc_P 326 362 = some (.ifCond .eq 7, 3, 0, 0, 0) := by decide +kernel
theorem s_326_362 {x0 x1 x2 x3 x4 x5 : Option Value} {x : Int32} : mw d 326 Q 362 [x0, x1, x2, x3, x4, x5] (.int x :: st) h = mB (x = 0) (mw d 326 Q) 369 365 [x0, x1, x2, x3, x4, x5] st h := (mw_at mj_326_362).trans (z_if_eq (by decide) rfl)
theorem mj_326_365 : mc_P 326 365 = some (.iconst (-1), 1, 0, 0, 0) := by decide +kernel
theorem s_326_365 {x0 x1 x2 x3 x4 x5 : Option Value} : mw d 326 Q 365 [x0, x1, x2, x3, x4, x5] (st) h = mw d 326 Q 366 [x0, x1, x2, x3, x4, x5] (.int (-1) :: st) h := (mw_at mj_326_365).trans (z_iconst (by decide))
theorem mj_326_366 : mc_P 326 366 = some (.goto 10, 3, 0, 0, 0) := by decide +kernel
theorem s_326_366 {x0 x1 x2 x3 x4 x5 : Option Value} : mw d 326 Q 366 [x0, x1, x2, x3, x4, x5] (st) h = mw d 326 Q 376 [x0, x1, x2, x3, x4, x5] (st) h := (mw_at mj_326_366).trans (z_goto (by decide))
theorem mj_326_369 : mc_P 326 369 = some (.aload_n 0, 1, 0, 0, 0) := by decide +kernel
theorem s_326_369 {x1 x2 x3 x4 x5 : Option Value} {w : Value} : mw d 326 Q 369 [some w, x1, x2, x3, x4, x5] (st) h = mv_a w (mw d 326 Q 370 [some w, x1, x2, x3, x4, x5] (w :: st) h) := (mw_at mj_326_369).trans (z_aload_n rfl)
theorem mj_326_370 : mc_P 326 370 = some (.iload_n 1, 1, 0, 0, 0) := by decide +kernel
theorem s_326_370 {x0 x2 x3 x4 x5 : Option Value} {w : Value} : mw d 326 Q 370 [x0, some w, x2, x3, x4, x5] (st) h = mv_i w (mw d 326 Q 371 [x0, some w, x2, x3, x4, x5] (w :: st) h) := (mw_at mj_326_370).trans (z_iload_n rfl)
theorem mj_326_371 : mc_P 326 371 = some (.iconst 1, 1, 0, 0, 0) := by decide +kernel
theorem s_326_371 {x0 x1 x2 x3 x4 x5 : Option Value} : mw d 326 Q 371 [x0, x1, x2, x3, x4, x5] (st) h = mw d 326 Q 372 [x0, x1, x2, x3, x4, x5] (.int 1 :: st) h := (mw_at mj_326_371).trans (z_iconst (by decide))
theorem mj_326_372 : mc_P 326 372 = some (.iadd, 1, 0, 0, 0) := by decide +kernel
theorem s_326_372 {x0 x1 x2 x3 x4 x5 : Option Value} {x w : Int32} : mw d 326 Q 372 [x0, x1, x2, x3, x4, x5] (.int w :: .int x :: st) h = mw d 326 Q 373 [x0, x1, x2, x3, x4, x5] (.int (x + w) :: st) h := (mw_at mj_326_372).trans (z_iadd)
theorem mj_326_373 : mc_P 326 373 = some (.invokevirtual 295, 3, 321, 14, 2) := by decide +kernel
theorem s_326_373 {x0 x1 x2 x3 x4 x5 : Option Value} {o : Nat} {a1 : Value} : mw (d + 1) 326 Q 373 [x0, x1, x2, x3, x4, x5] (a1 :: .ref o :: st) h = (mg h o 14 ∧ mca st 8 ∧ mca [.ref o, a1] 2 ∧ mcall d 321 [.ref o, a1] h (mK (d + 1) 326 Q 376 [x0, x1, x2, x3, x4, x5] st)) := (mw_at mj_326_373).trans ((z_invv (As := [a1]) (by decide) rfl rfl).trans (congrArg (And _) (congrArg (And _) (mC_nl nl_321))))
theorem mj_326_376 : mc_P 326 376 = some (.invokevirtual 272, 3, 314, 14, 3) := by decide +kernel
theorem s_326_376 {x0 x1 x2 x3 x4 x5 : Option Value} {o : Nat} {a1 a2 : Value} : mw (d + 1) 326 Q 376 [x0, x1, x2, x3, x4, x5] (a2 :: a1 :: .ref o :: st) h = (mg h o 14 ∧ mca st 8 ∧ mca [.ref o, a1, a2] 3 ∧ mcall d 314 [.ref o, a1, a2] h (mK (d + 1) 326 Q 379 [x0, x1, x2, x3, x4, x5] st)) := (mw_at mj_326_376).trans ((z_invv (As := [a1, a2]) (by decide) rfl rfl).trans (congrArg (And _) (congrArg (And _) (mC_nl nl_314))))
theorem mj_326_379 : mc_P 326 379 = some (.aload_n 0, 1, 0, 0, 0) := by decide +kernel
theorem s_326_379 {x1 x2 x3 x4 x5 : Option Value} {w : Value} : mw d 326 Q 379 [some w, x1, x2, x3, x4, x5] (st) h = mv_a w (mw d 326 Q 380 [some w, x1, x2, x3, x4, x5] (w :: st) h) := (mw_at mj_326_379).trans (z_aload_n rfl)
theorem mj_326_380 : mc_P 326 380 = some (.bipush 41, 2, 0, 0, 0) := by decide +kernel
theorem s_326_380 {x0 x1 x2 x3 x4 x5 : Option Value} : mw d 326 Q 380 [x0, x1, x2, x3, x4, x5] (st) h = mw d 326 Q 382 [x0, x1, x2, x3, x4, x5] (.int 41 :: st) h := (mw_at mj_326_380).trans (z_bipush (by decide))
theorem mj_326_382 : mc_P 326 382 = some (.invokevirtual 262, 3, 312, 14, 2) := by decide +kernel
theorem s_326_382 {x0 x1 x2 x3 x4 x5 : Option Value} {o : Nat} {a1 : Value} : mw (d + 1) 326 Q 382 [x0, x1, x2, x3, x4, x5] (a1 :: .ref o :: st) h = (mg h o 14 ∧ mca st 8 ∧ mca [.ref o, a1] 2 ∧ mcall d 312 [.ref o, a1] h (mK (d + 1) 326 Q 385 [x0, x1, x2, x3, x4, x5] st)) := (mw_at mj_326_382).trans ((z_invv (As := [a1]) (by decide) rfl rfl).trans (congrArg (And _) (congrArg (And _) (mC_nl nl_312))))
theorem mj_326_385 : mc_P 326 385 = some (.aload_n 0, 1, 0, 0, 0) := by decide +kernel
theorem s_326_385 {x1 x2 x3 x4 x5 : Option Value} {w : Value} : mw d 326 Q 385 [some w, x1, x2, x3, x4, x5] (st) h = mv_a w (mw d 326 Q 386 [some w, x1, x2, x3, x4, x5] (w :: st) h) := (mw_at mj_326_385).trans (z_aload_n rfl)
theorem mj_326_386 : mc_P 326 386 = some (.bipush 59, 2, 0, 0, 0) := by decide +kernel
theorem s_326_386 {x0 x1 x2 x3 x4 x5 : Option Value} : mw d 326 Q 386 [x0, x1, x2, x3, x4, x5] (st) h = mw d 326 Q 388 [x0, x1, x2, x3, x4, x5] (.int 59 :: st) h := (mw_at mj_326_386).trans (z_bipush (by decide))
theorem mj_326_388 : mc_P 326 388 = some (.invokevirtual 262, 3, 312, 14, 2) := by decide +kernel
theorem s_326_388 {x0 x1 x2 x3 x4 x5 : Option Value} {o : Nat} {a1 : Value} : mw (d + 1) 326 Q 388 [x0, x1, x2, x3, x4, x5] (a1 :: .ref o :: st) h = (mg h o 14 ∧ mca st 8 ∧ mca [.ref o, a1] 2 ∧ mcall d 312 [.ref o, a1] h (mK (d + 1) 326 Q 391 [x0, x1, x2, x3, x4, x5] st)) := (mw_at mj_326_388).trans ((z_invv (As := [a1]) (by decide) rfl rfl).trans (congrArg (And _) (congrArg (And _) (mC_nl nl_312))))
theorem mj_326_391 : mc_P 326 391 = some (.goto 50, 3, 0, 0, 0) := by decide +kernel
theorem s_326_391 {x0 x1 x2 x3 x4 x5 : Option Value} : mw d 326 Q 391 [x0, x1, x2, x3, x4, x5] (st) h = mw d 326 Q 441 [x0, x1, x2, x3, x4, x5] (st) h := (mw_at mj_326_391).trans (z_goto (by decide))
theorem mj_326_394 : mc_P 326 394 = some (.aload_n 0, 1, 0, 0, 0) := by decide +kernel
theorem s_326_394 {x1 x2 x3 x4 x5 : Option Value} {w : Value} : mw d 326 Q 394 [some w, x1, x2, x3, x4, x5] (st) h = mv_a w (mw d 326 Q 395 [some w, x1, x2, x3, x4, x5] (w :: st) h) := (mw_at mj_326_394).trans (z_aload_n rfl)
theorem mj_326_395 : mc_P 326 395 = some (.sipush 306, 3, 0, 0, 0) := by decide +kernel
theorem s_326_395 {x0 x1 x2 x3 x4 x5 : Option Value} : mw d 326 Q 395 [x0, x1, x2, x3, x4, x5] (st) h = mw d 326 Q 398 [x0, x1, x2, x3, x4, x5] (.int 306 :: st) h := (mw_at mj_326_395).trans (z_sipush (by decide))
theorem mj_326_398 : mc_P 326 398 = some (.invokevirtual 262, 3, 312, 14, 2) := by decide +kernel
theorem s_326_398 {x0 x1 x2 x3 x4 x5 : Option Value} {o : Nat} {a1 : Value} : mw (d + 1) 326 Q 398 [x0, x1, x2, x3, x4, x5] (a1 :: .ref o :: st) h = (mg h o 14 ∧ mca st 8 ∧ mca [.ref o, a1] 2 ∧ mcall d 312 [.ref o, a1] h (mK (d + 1) 326 Q 401 [x0, x1, x2, x3, x4, x5] st)) := (mw_at mj_326_398).trans ((z_invv (As := [a1]) (by decide) rfl rfl).trans (congrArg (And _) (congrArg (And _) (mC_nl nl_312))))
theorem mj_326_401 : mc_P 326 401 = some (.aload_n 0, 1, 0, 0, 0) := by decide +kernel
theorem s_326_401 {x1 x2 x3 x4 x5 : Option Value} {w : Value} : mw d 326 Q 401 [some w, x1, x2, x3, x4, x5] (st) h = mv_a w (mw d 326 Q 402 [some w, x1, x2, x3, x4, x5] (w :: st) h) := (mw_at mj_326_401).trans (z_aload_n rfl)
theorem mj_326_402 : mc_P 326 402 = some (.bipush 11, 2, 0, 0, 0) := by decide +kernel
theorem s_326_402 {x0 x1 x2 x3 x4 x5 : Option Value} : mw d 326 Q 402 [x0, x1, x2, x3, x4, x5] (st) h = mw d 326 Q 404 [x0, x1, x2, x3, x4, x5] (.int 11 :: st) h := (mw_at mj_326_402).trans (z_bipush (by decide))
theorem mj_326_404 : mc_P 326 404 = some (.iload_n 2, 1, 0, 0, 0) := by decide +kernel
theorem s_326_404 {x0 x1 x3 x4 x5 : Option Value} {w : Value} : mw d 326 Q 404 [x0, x1, some w, x3, x4, x5] (st) h = mv_i w (mw d 326 Q 405 [x0, x1, some w, x3, x4, x5] (w :: st) h) := (mw_at mj_326_404).trans (z_iload_n rfl)
theorem mj_326_405 : mc_P 326 405 = some (.iconst 0, 1, 0, 0, 0) := by decide +kernel
theorem s_326_405 {x0 x1 x2 x3 x4 x5 : Option Value} : mw d 326 Q 405 [x0, x1, x2, x3, x4, x5] (st) h = mw d 326 Q 406 [x0, x1, x2, x3, x4, x5] (.int 0 :: st) h := (mw_at mj_326_405).trans (z_iconst (by decide))
theorem mj_326_406 : mc_P 326 406 = some (.invokevirtual 259, 3, 313, 14, 4) := by decide +kernel
theorem s_326_406 {x0 x1 x2 x3 x4 x5 : Option Value} {o : Nat} {a1 a2 a3 : Value} : mw (d + 1) 326 Q 406 [x0, x1, x2, x3, x4, x5] (a3 :: a2 :: a1 :: .ref o :: st) h = (mg h o 14 ∧ mca st 8 ∧ mca [.ref o, a1, a2, a3] 4 ∧ mcall d 313 [.ref o, a1, a2, a3] h (mK (d + 1) 326 Q 409 [x0, x1, x2, x3, x4, x5] st)) := (mw_at mj_326_406).trans ((z_invv (As := [a1, a2, a3]) (by decide) rfl rfl).trans (congrArg (And _) (congrArg (And _) (mC_nl nl_313))))
theorem mj_326_409 : mc_P 326 409 = some (.istore 4, 2, 0, 0, 0) := by decide +kernel
theorem s_326_409 {x0 x1 x2 x3 x4 x5 : Option Value} {w : Int32} : mw d 326 Q 409 [x0, x1, x2, x3, x4, x5] (.int w :: st) h = mw d 326 Q 411 [x0, x1, x2, mk2 x3, some (.int w), x5] (st) h := (mw_at mj_326_409).trans (z_istore (Nat.le_of_ble_eq_true rfl) (me_s1_mk (j := 3) (w := x3) rfl))
theorem mj_326_411 : mc_P 326 411 = some (.aload_n 0, 1, 0, 0, 0) := by decide +kernel
theorem s_326_411 {x1 x2 x3 x4 x5 : Option Value} {w : Value} : mw d 326 Q 411 [some w, x1, x2, x3, x4, x5] (st) h = mv_a w (mw d 326 Q 412 [some w, x1, x2, x3, x4, x5] (w :: st) h) := (mw_at mj_326_411).trans (z_aload_n rfl)
theorem mj_326_412 : mc_P 326 412 = some (.iload 4, 2, 0, 0, 0) := by decide +kernel
theorem s_326_412 {x0 x1 x2 x3 x5 : Option Value} {w : Value} : mw d 326 Q 412 [x0, x1, x2, x3, some w, x5] (st) h = mv_i w (mw d 326 Q 414 [x0, x1, x2, x3, some w, x5] (w :: st) h) := (mw_at mj_326_412).trans (z_iload rfl)
theorem mj_326_414 : mc_P 326 414 = some (.aload_n 0, 1, 0, 0, 0) := by decide +kernel
theorem s_326_414 {x1 x2 x3 x4 x5 : Option Value} {w : Value} : mw d 326 Q 414 [some w, x1, x2, x3, x4, x5] (st) h = mv_a w (mw d 326 Q 415 [some w, x1, x2, x3, x4, x5] (w :: st) h) := (mw_at mj_326_414).trans (z_aload_n rfl)
theorem mj_326_415 : mc_P 326 415 = some (.getfield 242, 3, 14, 9, 0) := by decide +kernel
theorem s_326_415 {x0 x1 x2 x3 x4 x5 : Option Value} {o : Nat} : mw d 326 Q 415 [x0, x1, x2, x3, x4, x5] (.ref o :: st) h = (mg h o 14 ∧ mw d 326 Q 418 [x0, x1, x2, x3, x4, x5] (.int (mh_i h o 9) :: st) h) := (mw_at mj_326_415).trans (z_geti (by decide) (by decide) (Or.inr rfl))
theorem mj_326_418 : mc_P 326 418 = some (.ifCond .eq 7, 3, 0, 0, 0) := by decide +kernel
theorem s_326_418 {x0 x1 x2 x3 x4 x5 : Option Value} {x : Int32} : mw d 326 Q 418 [x0, x1, x2, x3, x4, x5] (.int x :: st) h = mB (x = 0) (mw d 326 Q) 425 421 [x0, x1, x2, x3, x4, x5] st h := (mw_at mj_326_418).trans (z_if_eq (by decide) rfl)
theorem mj_326_421 : mc_P 326 421 = some (.iconst (-1), 1, 0, 0, 0) := by decide +kernel
theorem s_326_421 {x0 x1 x2 x3 x4 x5 : Option Value} : mw d 326 Q 421 [x0, x1, x2, x3, x4, x5] (st) h = mw d 326 Q 422 [x0, x1, x2, x3, x4, x5] (.int (-1) :: st) h := (mw_at mj_326_421).trans (z_iconst (by decide))
theorem mj_326_422 : mc_P 326 422 = some (.goto 10, 3, 0, 0, 0) := by decide +kernel
theorem s_326_422 {x0 x1 x2 x3 x4 x5 : Option Value} : mw d 326 Q 422 [x0, x1, x2, x3, x4, x5] (st) h = mw d 326 Q 432 [x0, x1, x2, x3, x4, x5] (st) h := (mw_at mj_326_422).trans (z_goto (by decide))
theorem mj_326_425 : mc_P 326 425 = some (.aload_n 0, 1, 0, 0, 0) := by decide +kernel
theorem s_326_425 {x1 x2 x3 x4 x5 : Option Value} {w : Value} : mw d 326 Q 425 [some w, x1, x2, x3, x4, x5] (st) h = mv_a w (mw d 326 Q 426 [some w, x1, x2, x3, x4, x5] (w :: st) h) := (mw_at mj_326_425).trans (z_aload_n rfl)
theorem mj_326_426 : mc_P 326 426 = some (.iload_n 1, 1, 0, 0, 0) := by decide +kernel
theorem s_326_426 {x0 x2 x3 x4 x5 : Option Value} {w : Value} : mw d 326 Q 426 [x0, some w, x2, x3, x4, x5] (st) h = mv_i w (mw d 326 Q 427 [x0, some w, x2, x3, x4, x5] (w :: st) h) := (mw_at mj_326_426).trans (z_iload_n rfl)
theorem mj_326_427 : mc_P 326 427 = some (.iconst 1, 1, 0, 0, 0) := by decide +kernel
theorem s_326_427 {x0 x1 x2 x3 x4 x5 : Option Value} : mw d 326 Q 427 [x0, x1, x2, x3, x4, x5] (st) h = mw d 326 Q 428 [x0, x1, x2, x3, x4, x5] (.int 1 :: st) h := (mw_at mj_326_427).trans (z_iconst (by decide))
theorem mj_326_428 : mc_P 326 428 = some (.iadd, 1, 0, 0, 0) := by decide +kernel
theorem s_326_428 {x0 x1 x2 x3 x4 x5 : Option Value} {x w : Int32} : mw d 326 Q 428 [x0, x1, x2, x3, x4, x5] (.int w :: .int x :: st) h = mw d 326 Q 429 [x0, x1, x2, x3, x4, x5] (.int (x + w) :: st) h := (mw_at mj_326_428).trans (z_iadd)
theorem mj_326_429 : mc_P 326 429 = some (.invokevirtual 286, 3, 318, 14, 2) := by decide +kernel
theorem s_326_429 {x0 x1 x2 x3 x4 x5 : Option Value} {o : Nat} {a1 : Value} : mw (d + 1) 326 Q 429 [x0, x1, x2, x3, x4, x5] (a1 :: .ref o :: st) h = (mg h o 14 ∧ mca st 8 ∧ mca [.ref o, a1] 5 ∧ mcall d 318 [.ref o, a1] h (mK (d + 1) 326 Q 432 [x0, x1, x2, x3, x4, x5] st)) := (mw_at mj_326_429).trans ((z_invv (As := [a1]) (by decide) rfl rfl).trans (congrArg (And _) (congrArg (And _) (mC_nl nl_318))))
theorem mj_326_432 : mc_P 326 432 = some (.invokevirtual 272, 3, 314, 14, 3) := by decide +kernel
theorem s_326_432 {x0 x1 x2 x3 x4 x5 : Option Value} {o : Nat} {a1 a2 : Value} : mw (d + 1) 326 Q 432 [x0, x1, x2, x3, x4, x5] (a2 :: a1 :: .ref o :: st) h = (mg h o 14 ∧ mca st 8 ∧ mca [.ref o, a1, a2] 3 ∧ mcall d 314 [.ref o, a1, a2] h (mK (d + 1) 326 Q 435 [x0, x1, x2, x3, x4, x5] st)) := (mw_at mj_326_432).trans ((z_invv (As := [a1, a2]) (by decide) rfl rfl).trans (congrArg (And _) (congrArg (And _) (mC_nl nl_314))))
theorem mj_326_435 : mc_P 326 435 = some (.aload_n 0, 1, 0, 0, 0) := by decide +kernel
theorem s_326_435 {x1 x2 x3 x4 x5 : Option Value} {w : Value} : mw d 326 Q 435 [some w, x1, x2, x3, x4, x5] (st) h = mv_a w (mw d 326 Q 436 [some w, x1, x2, x3, x4, x5] (w :: st) h) := (mw_at mj_326_435).trans (z_aload_n rfl)
theorem mj_326_436 : mc_P 326 436 = some (.bipush 59, 2, 0, 0, 0) := by decide +kernel
theorem s_326_436 {x0 x1 x2 x3 x4 x5 : Option Value} : mw d 326 Q 436 [x0, x1, x2, x3, x4, x5] (st) h = mw d 326 Q 438 [x0, x1, x2, x3, x4, x5] (.int 59 :: st) h := (mw_at mj_326_436).trans (z_bipush (by decide))
theorem mj_326_438 : mc_P 326 438 = some (.invokevirtual 262, 3, 312, 14, 2) := by decide +kernel
theorem s_326_438 {x0 x1 x2 x3 x4 x5 : Option Value} {o : Nat} {a1 : Value} : mw (d + 1) 326 Q 438 [x0, x1, x2, x3, x4, x5] (a1 :: .ref o :: st) h = (mg h o 14 ∧ mca st 8 ∧ mca [.ref o, a1] 2 ∧ mcall d 312 [.ref o, a1] h (mK (d + 1) 326 Q 441 [x0, x1, x2, x3, x4, x5] st)) := (mw_at mj_326_438).trans ((z_invv (As := [a1]) (by decide) rfl rfl).trans (congrArg (And _) (congrArg (And _) (mC_nl nl_312))))
theorem mj_326_441 : mc_P 326 441 = some (.iload 4, 2, 0, 0, 0) := by decide +kernel
theorem s_326_441 {x0 x1 x2 x3 x5 : Option Value} {w : Value} : mw d 326 Q 441 [x0, x1, x2, x3, some w, x5] (st) h = mv_i w (mw d 326 Q 443 [x0, x1, x2, x3, some w, x5] (w :: st) h) := (mw_at mj_326_441).trans (z_iload rfl)
theorem mj_326_443 : mc_P 326 443 = some (.ireturn, 1, 0, 0, 0) := by decide +kernel
theorem s_326_443 {x0 x1 x2 x3 x4 x5 : Option Value} {x : Int32} : mw d 326 Q 443 [x0, x1, x2, x3, x4, x5] ([.int x]) h = (Q (some (.int x)) h) := (mw_at mj_326_443).trans (z_iret)
theorem e_326 {a0 : Nat} {a1 : Int32} : mcall d 326 [.ref a0, .int a1] h Q = mw d 326 Q 0 [some (.ref a0), some (.int a1), none, none, none, none] [] h := by
  show mw d 326 Q 0 (me_en (mc_nl 326) _) [] h = _
  rw [nl_326]; rfl

/-! InvariantDeskModel.named(II)I -/
theorem mj_327_0 : mc_P 327 0 = some (.aload_n 0, 1, 0, 0, 0) := by decide +kernel
theorem s_327_0 {x1 x2 x3 x4 : Option Value} {w : Value} : mw d 327 Q 0 [some w, x1, x2, x3, x4] (st) h = mv_a w (mw d 327 Q 1 [some w, x1, x2, x3, x4] (w :: st) h) := (mw_at mj_327_0).trans (z_aload_n rfl)
theorem mj_327_1 : mc_P 327 1 = some (.invokevirtual 283, 3, 315, 14, 1) := by decide +kernel
theorem s_327_1 {x0 x1 x2 x3 x4 : Option Value} {o : Nat} : mw (d + 1) 327 Q 1 [x0, x1, x2, x3, x4] (.ref o :: st) h = (mg h o 14 ∧ mca st 8 ∧ mca [.ref o] 2 ∧ mcall d 315 [.ref o] h (mK (d + 1) 327 Q 4 [x0, x1, x2, x3, x4] st)) := (mw_at mj_327_1).trans ((z_invv (As := []) (by decide) rfl rfl).trans (congrArg (And _) (congrArg (And _) (mC_nl nl_315))))
theorem mj_327_4 : mc_P 327 4 = some (.istore_n 3, 1, 0, 0, 0) := by decide +kernel
theorem s_327_4 {x0 x1 x2 x3 x4 : Option Value} {w : Int32} : mw d 327 Q 4 [x0, x1, x2, x3, x4] (.int w :: st) h = mw d 327 Q 5 [x0, x1, mk2 x2, some (.int w), x4] (st) h := (mw_at mj_327_4).trans (z_istore_n (Nat.le_of_ble_eq_true rfl) (me_s1_mk (j := 2) (w := x2) rfl))
theorem mj_327_5 : mc_P 327 5 = some (.aload_n 0, 1, 0, 0, 0) := by decide +kernel
theorem s_327_5 {x1 x2 x3 x4 : Option Value} {w : Value} : mw d 327 Q 5 [some w, x1, x2, x3, x4] (st) h = mv_a w (mw d 327 Q 6 [some w, x1, x2, x3, x4] (w :: st) h) := (mw_at mj_327_5).trans (z_aload_n rfl)
theorem mj_327_6 : mc_P 327 6 = some (.invokevirtual 249, 3, 310, 14, 1) := by decide +kernel
theorem s_327_6 {x0 x1 x2 x3 x4 : Option Value} {o : Nat} : mw (d + 1) 327 Q 6 [x0, x1, x2, x3, x4] (.ref o :: st) h = (mg h o 14 ∧ mca st 8 ∧ mca [.ref o] 1 ∧ mcall d 310 [.ref o] h (mK (d + 1) 327 Q 9 [x0, x1, x2, x3, x4] st)) := (mw_at mj_327_6).trans ((z_invv (As := []) (by decide) rfl rfl).trans (congrArg (And _) (congrArg (And _) (mC_nl nl_310))))
theorem mj_327_9 : mc_P 327 9 = some (.bipush 40, 2, 0, 0, 0) := by decide +kernel
theorem s_327_9 {x0 x1 x2 x3 x4 : Option Value} : mw d 327 Q 9 [x0, x1, x2, x3, x4] (st) h = mw d 327 Q 11 [x0, x1, x2, x3, x4] (.int 40 :: st) h := (mw_at mj_327_9).trans (z_bipush (by decide))
theorem mj_327_11 : mc_P 327 11 = some (.if_icmp .ne 44, 3, 0, 0, 0) := by decide +kernel
theorem s_327_11 {x0 x1 x2 x3 x4 : Option Value} {x w : Int32} : mw d 327 Q 11 [x0, x1, x2, x3, x4] (.int w :: .int x :: st) h = mB (¬ x = w) (mw d 327 Q) 55 14 [x0, x1, x2, x3, x4] st h := (mw_at mj_327_11).trans (z_icmp_ne (by decide) rfl)
theorem mj_327_14 : mc_P 327 14 = some (.aload_n 0, 1, 0, 0, 0) := by decide +kernel
theorem s_327_14 {x1 x2 x3 x4 : Option Value} {w : Value} : mw d 327 Q 14 [some w, x1, x2, x3, x4] (st) h = mv_a w (mw d 327 Q 15 [some w, x1, x2, x3, x4] (w :: st) h) := (mw_at mj_327_14).trans (z_aload_n rfl)
theorem mj_327_15 : mc_P 327 15 = some (.bipush 7, 2, 0, 0, 0) := by decide +kernel
theorem s_327_15 {x0 x1 x2 x3 x4 : Option Value} : mw d 327 Q 15 [x0, x1, x2, x3, x4] (st) h = mw d 327 Q 17 [x0, x1, x2, x3, x4] (.int 7 :: st) h := (mw_at mj_327_15).trans (z_bipush (by decide))
theorem mj_327_17 : mc_P 327 17 = some (.iload_n 1, 1, 0, 0, 0) := by decide +kernel
theorem s_327_17 {x0 x2 x3 x4 : Option Value} {w : Value} : mw d 327 Q 17 [x0, some w, x2, x3, x4] (st) h = mv_i w (mw d 327 Q 18 [x0, some w, x2, x3, x4] (w :: st) h) := (mw_at mj_327_17).trans (z_iload_n rfl)
theorem mj_327_18 : mc_P 327 18 = some (.iconst 0, 1, 0, 0, 0) := by decide +kernel
theorem s_327_18 {x0 x1 x2 x3 x4 : Option Value} : mw d 327 Q 18 [x0, x1, x2, x3, x4] (st) h = mw d 327 Q 19 [x0, x1, x2, x3, x4] (.int 0 :: st) h := (mw_at mj_327_18).trans (z_iconst (by decide))
theorem mj_327_19 : mc_P 327 19 = some (.invokevirtual 259, 3, 313, 14, 4) := by decide +kernel
theorem s_327_19 {x0 x1 x2 x3 x4 : Option Value} {o : Nat} {a1 a2 a3 : Value} : mw (d + 1) 327 Q 19 [x0, x1, x2, x3, x4] (a3 :: a2 :: a1 :: .ref o :: st) h = (mg h o 14 ∧ mca st 8 ∧ mca [.ref o, a1, a2, a3] 4 ∧ mcall d 313 [.ref o, a1, a2, a3] h (mK (d + 1) 327 Q 22 [x0, x1, x2, x3, x4] st)) := (mw_at mj_327_19).trans ((z_invv (As := [a1, a2, a3]) (by decide) rfl rfl).trans (congrArg (And _) (congrArg (And _) (mC_nl nl_313))))
theorem mj_327_22 : mc_P 327 22 = some (.istore 4, 2, 0, 0, 0) := by decide +kernel
theorem s_327_22 {x0 x1 x2 x3 x4 : Option Value} {w : Int32} : mw d 327 Q 22 [x0, x1, x2, x3, x4] (.int w :: st) h = mw d 327 Q 24 [x0, x1, x2, mk2 x3, some (.int w)] (st) h := (mw_at mj_327_22).trans (z_istore (Nat.le_of_ble_eq_true rfl) (me_s1_mk (j := 3) (w := x3) rfl))
theorem mj_327_24 : mc_P 327 24 = some (.aload_n 0, 1, 0, 0, 0) := by decide +kernel
theorem s_327_24 {x1 x2 x3 x4 : Option Value} {w : Value} : mw d 327 Q 24 [some w, x1, x2, x3, x4] (st) h = mv_a w (mw d 327 Q 25 [some w, x1, x2, x3, x4] (w :: st) h) := (mw_at mj_327_24).trans (z_aload_n rfl)
theorem mj_327_25 : mc_P 327 25 = some (.iload 4, 2, 0, 0, 0) := by decide +kernel
theorem s_327_25 {x0 x1 x2 x3 : Option Value} {w : Value} : mw d 327 Q 25 [x0, x1, x2, x3, some w] (st) h = mv_i w (mw d 327 Q 27 [x0, x1, x2, x3, some w] (w :: st) h) := (mw_at mj_327_25).trans (z_iload rfl)
theorem mj_327_27 : mc_P 327 27 = some (.aload_n 0, 1, 0, 0, 0) := by decide +kernel
theorem s_327_27 {x1 x2 x3 x4 : Option Value} {w : Value} : mw d 327 Q 27 [some w, x1, x2, x3, x4] (st) h = mv_a w (mw d 327 Q 28 [some w, x1, x2, x3, x4] (w :: st) h) := (mw_at mj_327_27).trans (z_aload_n rfl)
theorem mj_327_28 : mc_P 327 28 = some (.bipush 33, 2, 0, 0, 0) := by decide +kernel
theorem s_327_28 {x0 x1 x2 x3 x4 : Option Value} : mw d 327 Q 28 [x0, x1, x2, x3, x4] (st) h = mw d 327 Q 30 [x0, x1, x2, x3, x4] (.int 33 :: st) h := (mw_at mj_327_28).trans (z_bipush (by decide))
theorem mj_327_30 : mc_P 327 30 = some (.iload_n 1, 1, 0, 0, 0) := by decide +kernel
theorem s_327_30 {x0 x2 x3 x4 : Option Value} {w : Value} : mw d 327 Q 30 [x0, some w, x2, x3, x4] (st) h = mv_i w (mw d 327 Q 31 [x0, some w, x2, x3, x4] (w :: st) h) := (mw_at mj_327_30).trans (z_iload_n rfl)
theorem mj_327_31 : mc_P 327 31 = some (.iconst 0, 1, 0, 0, 0) := by decide +kernel
theorem s_327_31 {x0 x1 x2 x3 x4 : Option Value} : mw d 327 Q 31 [x0, x1, x2, x3, x4] (st) h = mw d 327 Q 32 [x0, x1, x2, x3, x4] (.int 0 :: st) h := (mw_at mj_327_31).trans (z_iconst (by decide))
theorem mj_327_32 : mc_P 327 32 = some (.invokevirtual 259, 3, 313, 14, 4) := by decide +kernel
theorem s_327_32 {x0 x1 x2 x3 x4 : Option Value} {o : Nat} {a1 a2 a3 : Value} : mw (d + 1) 327 Q 32 [x0, x1, x2, x3, x4] (a3 :: a2 :: a1 :: .ref o :: st) h = (mg h o 14 ∧ mca st 8 ∧ mca [.ref o, a1, a2, a3] 4 ∧ mcall d 313 [.ref o, a1, a2, a3] h (mK (d + 1) 327 Q 35 [x0, x1, x2, x3, x4] st)) := (mw_at mj_327_32).trans ((z_invv (As := [a1, a2, a3]) (by decide) rfl rfl).trans (congrArg (And _) (congrArg (And _) (mC_nl nl_313))))
theorem mj_327_35 : mc_P 327 35 = some (.invokevirtual 272, 3, 314, 14, 3) := by decide +kernel
theorem s_327_35 {x0 x1 x2 x3 x4 : Option Value} {o : Nat} {a1 a2 : Value} : mw (d + 1) 327 Q 35 [x0, x1, x2, x3, x4] (a2 :: a1 :: .ref o :: st) h = (mg h o 14 ∧ mca st 8 ∧ mca [.ref o, a1, a2] 3 ∧ mcall d 314 [.ref o, a1, a2] h (mK (d + 1) 327 Q 38 [x0, x1, x2, x3, x4] st)) := (mw_at mj_327_35).trans ((z_invv (As := [a1, a2]) (by decide) rfl rfl).trans (congrArg (And _) (congrArg (And _) (mC_nl nl_314))))
theorem mj_327_38 : mc_P 327 38 = some (.aload_n 0, 1, 0, 0, 0) := by decide +kernel
theorem s_327_38 {x1 x2 x3 x4 : Option Value} {w : Value} : mw d 327 Q 38 [some w, x1, x2, x3, x4] (st) h = mv_a w (mw d 327 Q 39 [some w, x1, x2, x3, x4] (w :: st) h) := (mw_at mj_327_38).trans (z_aload_n rfl)
theorem mj_327_39 : mc_P 327 39 = some (.iload 4, 2, 0, 0, 0) := by decide +kernel
theorem s_327_39 {x0 x1 x2 x3 : Option Value} {w : Value} : mw d 327 Q 39 [x0, x1, x2, x3, some w] (st) h = mv_i w (mw d 327 Q 41 [x0, x1, x2, x3, some w] (w :: st) h) := (mw_at mj_327_39).trans (z_iload rfl)
theorem mj_327_41 : mc_P 327 41 = some (.iload_n 3, 1, 0, 0, 0) := by decide +kernel
theorem s_327_41 {x0 x1 x2 x4 : Option Value} {w : Value} : mw d 327 Q 41 [x0, x1, x2, some w, x4] (st) h = mv_i w (mw d 327 Q 42 [x0, x1, x2, some w, x4] (w :: st) h) := (mw_at mj_327_41).trans (z_iload_n rfl)
theorem mj_327_42 : mc_P 327 42 = some (.invokevirtual 272, 3, 314, 14, 3) := by decide +kernel
theorem s_327_42 {x0 x1 x2 x3 x4 : Option Value} {o : Nat} {a1 a2 : Value} : mw (d + 1) 327 Q 42 [x0, x1, x2, x3, x4] (a2 :: a1 :: .ref o :: st) h = (mg h o 14 ∧ mca st 8 ∧ mca [.ref o, a1, a2] 3 ∧ mcall d 314 [.ref o, a1, a2] h (mK (d + 1) 327 Q 45 [x0, x1, x2, x3, x4] st)) := (mw_at mj_327_42).trans ((z_invv (As := [a1, a2]) (by decide) rfl rfl).trans (congrArg (And _) (congrArg (And _) (mC_nl nl_314))))
theorem mj_327_45 : mc_P 327 45 = some (.aload_n 0, 1, 0, 0, 0) := by decide +kernel
theorem s_327_45 {x1 x2 x3 x4 : Option Value} {w : Value} : mw d 327 Q 45 [some w, x1, x2, x3, x4] (st) h = mv_a w (mw d 327 Q 46 [some w, x1, x2, x3, x4] (w :: st) h) := (mw_at mj_327_45).trans (z_aload_n rfl)
theorem mj_327_46 : mc_P 327 46 = some (.iload 4, 2, 0, 0, 0) := by decide +kernel
theorem s_327_46 {x0 x1 x2 x3 : Option Value} {w : Value} : mw d 327 Q 46 [x0, x1, x2, x3, some w] (st) h = mv_i w (mw d 327 Q 48 [x0, x1, x2, x3, some w] (w :: st) h) := (mw_at mj_327_46).trans (z_iload rfl)
theorem mj_327_48 : mc_P 327 48 = some (.iload_n 2, 1, 0, 0, 0) := by decide +kernel
theorem s_327_48 {x0 x1 x3 x4 : Option Value} {w : Value} : mw d 327 Q 48 [x0, x1, some w, x3, x4] (st) h = mv_i w (mw d 327 Q 49 [x0, x1, some w, x3, x4] (w :: st) h) := (mw_at mj_327_48).trans (z_iload_n rfl)
theorem mj_327_49 : mc_P 327 49 = some (.invokevirtual 307, 3, 325, 14, 3) := by decide +kernel
theorem s_327_49 {x0 x1 x2 x3 x4 : Option Value} {o : Nat} {a1 a2 : Value} : mw (d + 1) 327 Q 49 [x0, x1, x2, x3, x4] (a2 :: a1 :: .ref o :: st) h = (mg h o 14 ∧ mca st 8 ∧ mca [.ref o, a1, a2] 3 ∧ mcall d 325 [.ref o, a1, a2] h (mK (d + 1) 327 Q 52 [x0, x1, x2, x3, x4] st)) := (mw_at mj_327_49).trans ((z_invv (As := [a1, a2]) (by decide) rfl rfl).trans (congrArg (And _) (congrArg (And _) (mC_nl nl_325))))
theorem mj_327_52 : mc_P 327 52 = some (.iload 4, 2, 0, 0, 0) := by decide +kernel
theorem s_327_52 {x0 x1 x2 x3 : Option Value} {w : Value} : mw d 327 Q 52 [x0, x1, x2, x3, some w] (st) h = mv_i w (mw d 327 Q 54 [x0, x1, x2, x3, some w] (w :: st) h) := (mw_at mj_327_52).trans (z_iload rfl)
theorem mj_327_54 : mc_P 327 54 = some (.ireturn, 1, 0, 0, 0) := by decide +kernel
theorem s_327_54 {x0 x1 x2 x3 x4 : Option Value} {x : Int32} : mw d 327 Q 54 [x0, x1, x2, x3, x4] ([.int x]) h = (Q (some (.int x)) h) := (mw_at mj_327_54).trans (z_iret)
theorem mj_327_55 : mc_P 327 55 = some (.aload_n 0, 1, 0, 0, 0) := by decide +kernel
theorem s_327_55 {x1 x2 x3 x4 : Option Value} {w : Value} : mw d 327 Q 55 [some w, x1, x2, x3, x4] (st) h = mv_a w (mw d 327 Q 56 [some w, x1, x2, x3, x4] (w :: st) h) := (mw_at mj_327_55).trans (z_aload_n rfl)
theorem mj_327_56 : mc_P 327 56 = some (.invokevirtual 249, 3, 310, 14, 1) := by decide +kernel
theorem s_327_56 {x0 x1 x2 x3 x4 : Option Value} {o : Nat} : mw (d + 1) 327 Q 56 [x0, x1, x2, x3, x4] (.ref o :: st) h = (mg h o 14 ∧ mca st 8 ∧ mca [.ref o] 1 ∧ mcall d 310 [.ref o] h (mK (d + 1) 327 Q 59 [x0, x1, x2, x3, x4] st)) := (mw_at mj_327_56).trans ((z_invv (As := []) (by decide) rfl rfl).trans (congrArg (And _) (congrArg (And _) (mC_nl nl_310))))
theorem mj_327_59 : mc_P 327 59 = some (.bipush 91, 2, 0, 0, 0) := by decide +kernel
theorem s_327_59 {x0 x1 x2 x3 x4 : Option Value} : mw d 327 Q 59 [x0, x1, x2, x3, x4] (st) h = mw d 327 Q 61 [x0, x1, x2, x3, x4] (.int 91 :: st) h := (mw_at mj_327_59).trans (z_bipush (by decide))
theorem mj_327_61 : mc_P 327 61 = some (.if_icmp .ne 89, 3, 0, 0, 0) := by decide +kernel
theorem s_327_61 {x0 x1 x2 x3 x4 : Option Value} {x w : Int32} : mw d 327 Q 61 [x0, x1, x2, x3, x4] (.int w :: .int x :: st) h = mB (¬ x = w) (mw d 327 Q) 150 64 [x0, x1, x2, x3, x4] st h := (mw_at mj_327_61).trans (z_icmp_ne (by decide) rfl)
theorem mj_327_64 : mc_P 327 64 = some (.aload_n 0, 1, 0, 0, 0) := by decide +kernel
theorem s_327_64 {x1 x2 x3 x4 : Option Value} {w : Value} : mw d 327 Q 64 [some w, x1, x2, x3, x4] (st) h = mv_a w (mw d 327 Q 65 [some w, x1, x2, x3, x4] (w :: st) h) := (mw_at mj_327_64).trans (z_aload_n rfl)
theorem mj_327_65 : mc_P 327 65 = some (.bipush 6, 2, 0, 0, 0) := by decide +kernel
theorem s_327_65 {x0 x1 x2 x3 x4 : Option Value} : mw d 327 Q 65 [x0, x1, x2, x3, x4] (st) h = mw d 327 Q 67 [x0, x1, x2, x3, x4] (.int 6 :: st) h := (mw_at mj_327_65).trans (z_bipush (by decide))
theorem mj_327_67 : mc_P 327 67 = some (.iload_n 1, 1, 0, 0, 0) := by decide +kernel
theorem s_327_67 {x0 x2 x3 x4 : Option Value} {w : Value} : mw d 327 Q 67 [x0, some w, x2, x3, x4] (st) h = mv_i w (mw d 327 Q 68 [x0, some w, x2, x3, x4] (w :: st) h) := (mw_at mj_327_67).trans (z_iload_n rfl)
theorem mj_327_68 : mc_P 327 68 = some (.iconst 0, 1, 0, 0, 0) := by decide +kernel
theorem s_327_68 {x0 x1 x2 x3 x4 : Option Value} : mw d 327 Q 68 [x0, x1, x2, x3, x4] (st) h = mw d 327 Q 69 [x0, x1, x2, x3, x4] (.int 0 :: st) h := (mw_at mj_327_68).trans (z_iconst (by decide))
theorem mj_327_69 : mc_P 327 69 = some (.invokevirtual 259, 3, 313, 14, 4) := by decide +kernel
theorem s_327_69 {x0 x1 x2 x3 x4 : Option Value} {o : Nat} {a1 a2 a3 : Value} : mw (d + 1) 327 Q 69 [x0, x1, x2, x3, x4] (a3 :: a2 :: a1 :: .ref o :: st) h = (mg h o 14 ∧ mca st 8 ∧ mca [.ref o, a1, a2, a3] 4 ∧ mcall d 313 [.ref o, a1, a2, a3] h (mK (d + 1) 327 Q 72 [x0, x1, x2, x3, x4] st)) := (mw_at mj_327_69).trans ((z_invv (As := [a1, a2, a3]) (by decide) rfl rfl).trans (congrArg (And _) (congrArg (And _) (mC_nl nl_313))))
theorem mj_327_72 : mc_P 327 72 = some (.istore 4, 2, 0, 0, 0) := by decide +kernel
theorem s_327_72 {x0 x1 x2 x3 x4 : Option Value} {w : Int32} : mw d 327 Q 72 [x0, x1, x2, x3, x4] (.int w :: st) h = mw d 327 Q 74 [x0, x1, x2, mk2 x3, some (.int w)] (st) h := (mw_at mj_327_72).trans (z_istore (Nat.le_of_ble_eq_true rfl) (me_s1_mk (j := 3) (w := x3) rfl))
theorem mj_327_74 : mc_P 327 74 = some (.aload_n 0, 1, 0, 0, 0) := by decide +kernel
theorem s_327_74 {x1 x2 x3 x4 : Option Value} {w : Value} : mw d 327 Q 74 [some w, x1, x2, x3, x4] (st) h = mv_a w (mw d 327 Q 75 [some w, x1, x2, x3, x4] (w :: st) h) := (mw_at mj_327_74).trans (z_aload_n rfl)
theorem mj_327_75 : mc_P 327 75 = some (.iload 4, 2, 0, 0, 0) := by decide +kernel
theorem s_327_75 {x0 x1 x2 x3 : Option Value} {w : Value} : mw d 327 Q 75 [x0, x1, x2, x3, some w] (st) h = mv_i w (mw d 327 Q 77 [x0, x1, x2, x3, some w] (w :: st) h) := (mw_at mj_327_75).trans (z_iload rfl)
theorem mj_327_77 : mc_P 327 77 = some (.iload_n 3, 1, 0, 0, 0) := by decide +kernel
theorem s_327_77 {x0 x1 x2 x4 : Option Value} {w : Value} : mw d 327 Q 77 [x0, x1, x2, some w, x4] (st) h = mv_i w (mw d 327 Q 78 [x0, x1, x2, some w, x4] (w :: st) h) := (mw_at mj_327_77).trans (z_iload_n rfl)
theorem mj_327_78 : mc_P 327 78 = some (.invokevirtual 272, 3, 314, 14, 3) := by decide +kernel
theorem s_327_78 {x0 x1 x2 x3 x4 : Option Value} {o : Nat} {a1 a2 : Value} : mw (d + 1) 327 Q 78 [x0, x1, x2, x3, x4] (a2 :: a1 :: .ref o :: st) h = (mg h o 14 ∧ mca st 8 ∧ mca [.ref o, a1, a2] 3 ∧ mcall d 314 [.ref o, a1, a2] h (mK (d + 1) 327 Q 81 [x0, x1, x2, x3, x4] st)) := (mw_at mj_327_78).trans ((z_invv (As := [a1, a2]) (by decide) rfl rfl).trans (congrArg (And _) (congrArg (And _) (mC_nl nl_314))))
theorem mj_327_81 : mc_P 327 81 = some (.aload_n 0, 1, 0, 0, 0) := by decide +kernel
theorem s_327_81 {x1 x2 x3 x4 : Option Value} {w : Value} : mw d 327 Q 81 [some w, x1, x2, x3, x4] (st) h = mv_a w (mw d 327 Q 82 [some w, x1, x2, x3, x4] (w :: st) h) := (mw_at mj_327_81).trans (z_aload_n rfl)
theorem mj_327_82 : mc_P 327 82 = some (.bipush 91, 2, 0, 0, 0) := by decide +kernel
theorem s_327_82 {x0 x1 x2 x3 x4 : Option Value} : mw d 327 Q 82 [x0, x1, x2, x3, x4] (st) h = mw d 327 Q 84 [x0, x1, x2, x3, x4] (.int 91 :: st) h := (mw_at mj_327_82).trans (z_bipush (by decide))
theorem mj_327_84 : mc_P 327 84 = some (.invokevirtual 262, 3, 312, 14, 2) := by decide +kernel
theorem s_327_84 {x0 x1 x2 x3 x4 : Option Value} {o : Nat} {a1 : Value} : mw (d + 1) 327 Q 84 [x0, x1, x2, x3, x4] (a1 :: .ref o :: st) h = (mg h o 14 ∧ mca st 8 ∧ mca [.ref o, a1] 2 ∧ mcall d 312 [.ref o, a1] h (mK (d + 1) 327 Q 87 [x0, x1, x2, x3, x4] st)) := (mw_at mj_327_84).trans ((z_invv (As := [a1]) (by decide) rfl rfl).trans (congrArg (And _) (congrArg (And _) (mC_nl nl_312))))
theorem mj_327_87 : mc_P 327 87 = some (.aload_n 0, 1, 0, 0, 0) := by decide +kernel
theorem s_327_87 {x1 x2 x3 x4 : Option Value} {w : Value} : mw d 327 Q 87 [some w, x1, x2, x3, x4] (st) h = mv_a w (mw d 327 Q 88 [some w, x1, x2, x3, x4] (w :: st) h) := (mw_at mj_327_87).trans (z_aload_n rfl)
theorem mj_327_88 : mc_P 327 88 = some (.iload 4, 2, 0, 0, 0) := by decide +kernel
theorem s_327_88 {x0 x1 x2 x3 : Option Value} {w : Value} : mw d 327 Q 88 [x0, x1, x2, x3, some w] (st) h = mv_i w (mw d 327 Q 90 [x0, x1, x2, x3, some w] (w :: st) h) := (mw_at mj_327_88).trans (z_iload rfl)
theorem mj_327_90 : mc_P 327 90 = some (.aload_n 0, 1, 0, 0, 0) := by decide +kernel
theorem s_327_90 {x1 x2 x3 x4 : Option Value} {w : Value} : mw d 327 Q 90 [some w, x1, x2, x3, x4] (st) h = mv_a w (mw d 327 Q 91 [some w, x1, x2, x3, x4] (w :: st) h) := (mw_at mj_327_90).trans (z_aload_n rfl)
theorem mj_327_91 : mc_P 327 91 = some (.getfield 242, 3, 14, 9, 0) := by decide +kernel
theorem s_327_91 {x0 x1 x2 x3 x4 : Option Value} {o : Nat} : mw d 327 Q 91 [x0, x1, x2, x3, x4] (.ref o :: st) h = (mg h o 14 ∧ mw d 327 Q 94 [x0, x1, x2, x3, x4] (.int (mh_i h o 9) :: st) h) := (mw_at mj_327_91).trans (z_geti (by decide) (by decide) (Or.inr rfl))
theorem mj_327_94 : mc_P 327 94 = some (.ifCond .eq 7, 3, 0, 0, 0) := by decide +kernel
theorem s_327_94 {x0 x1 x2 x3 x4 : Option Value} {x : Int32} : mw d 327 Q 94 [x0, x1, x2, x3, x4] (.int x :: st) h = mB (x = 0) (mw d 327 Q) 101 97 [x0, x1, x2, x3, x4] st h := (mw_at mj_327_94).trans (z_if_eq (by decide) rfl)
theorem mj_327_97 : mc_P 327 97 = some (.iconst (-1), 1, 0, 0, 0) := by decide +kernel
theorem s_327_97 {x0 x1 x2 x3 x4 : Option Value} : mw d 327 Q 97 [x0, x1, x2, x3, x4] (st) h = mw d 327 Q 98 [x0, x1, x2, x3, x4] (.int (-1) :: st) h := (mw_at mj_327_97).trans (z_iconst (by decide))
theorem mj_327_98 : mc_P 327 98 = some (.goto 10, 3, 0, 0, 0) := by decide +kernel
theorem s_327_98 {x0 x1 x2 x3 x4 : Option Value} : mw d 327 Q 98 [x0, x1, x2, x3, x4] (st) h = mw d 327 Q 108 [x0, x1, x2, x3, x4] (st) h := (mw_at mj_327_98).trans (z_goto (by decide))
theorem mj_327_101 : mc_P 327 101 = some (.aload_n 0, 1, 0, 0, 0) := by decide +kernel
theorem s_327_101 {x1 x2 x3 x4 : Option Value} {w : Value} : mw d 327 Q 101 [some w, x1, x2, x3, x4] (st) h = mv_a w (mw d 327 Q 102 [some w, x1, x2, x3, x4] (w :: st) h) := (mw_at mj_327_101).trans (z_aload_n rfl)
theorem mj_327_102 : mc_P 327 102 = some (.iload_n 2, 1, 0, 0, 0) := by decide +kernel
theorem s_327_102 {x0 x1 x3 x4 : Option Value} {w : Value} : mw d 327 Q 102 [x0, x1, some w, x3, x4] (st) h = mv_i w (mw d 327 Q 103 [x0, x1, some w, x3, x4] (w :: st) h) := (mw_at mj_327_102).trans (z_iload_n rfl)
theorem mj_327_103 : mc_P 327 103 = some (.iconst 1, 1, 0, 0, 0) := by decide +kernel
theorem s_327_103 {x0 x1 x2 x3 x4 : Option Value} : mw d 327 Q 103 [x0, x1, x2, x3, x4] (st) h = mw d 327 Q 104 [x0, x1, x2, x3, x4] (.int 1 :: st) h := (mw_at mj_327_103).trans (z_iconst (by decide))
theorem mj_327_104 : mc_P 327 104 = some (.iadd, 1, 0, 0, 0) := by decide +kernel
theorem s_327_104 {x0 x1 x2 x3 x4 : Option Value} {x w : Int32} : mw d 327 Q 104 [x0, x1, x2, x3, x4] (.int w :: .int x :: st) h = mw d 327 Q 105 [x0, x1, x2, x3, x4] (.int (x + w) :: st) h := (mw_at mj_327_104).trans (z_iadd)
theorem mj_327_105 : mc_P 327 105 = some (.invokevirtual 286, 3, 318, 14, 2) := by decide +kernel
theorem s_327_105 {x0 x1 x2 x3 x4 : Option Value} {o : Nat} {a1 : Value} : mw (d + 1) 327 Q 105 [x0, x1, x2, x3, x4] (a1 :: .ref o :: st) h = (mg h o 14 ∧ mca st 8 ∧ mca [.ref o, a1] 5 ∧ mcall d 318 [.ref o, a1] h (mK (d + 1) 327 Q 108 [x0, x1, x2, x3, x4] st)) := (mw_at mj_327_105).trans ((z_invv (As := [a1]) (by decide) rfl rfl).trans (congrArg (And _) (congrArg (And _) (mC_nl nl_318))))
theorem mj_327_108 : mc_P 327 108 = some (.invokevirtual 272, 3, 314, 14, 3) := by decide +kernel
theorem s_327_108 {x0 x1 x2 x3 x4 : Option Value} {o : Nat} {a1 a2 : Value} : mw (d + 1) 327 Q 108 [x0, x1, x2, x3, x4] (a2 :: a1 :: .ref o :: st) h = (mg h o 14 ∧ mca st 8 ∧ mca [.ref o, a1, a2] 3 ∧ mcall d 314 [.ref o, a1, a2] h (mK (d + 1) 327 Q 111 [x0, x1, x2, x3, x4] st)) := (mw_at mj_327_108).trans ((z_invv (As := [a1, a2]) (by decide) rfl rfl).trans (congrArg (And _) (congrArg (And _) (mC_nl nl_314))))
theorem mj_327_111 : mc_P 327 111 = some (.aload_n 0, 1, 0, 0, 0) := by decide +kernel
theorem s_327_111 {x1 x2 x3 x4 : Option Value} {w : Value} : mw d 327 Q 111 [some w, x1, x2, x3, x4] (st) h = mv_a w (mw d 327 Q 112 [some w, x1, x2, x3, x4] (w :: st) h) := (mw_at mj_327_111).trans (z_aload_n rfl)
theorem mj_327_112 : mc_P 327 112 = some (.bipush 93, 2, 0, 0, 0) := by decide +kernel
theorem s_327_112 {x0 x1 x2 x3 x4 : Option Value} : mw d 327 Q 112 [x0, x1, x2, x3, x4] (st) h = mw d 327 Q 114 [x0, x1, x2, x3, x4] (.int 93 :: st) h := (mw_at mj_327_112).trans (z_bipush (by decide))
theorem mj_327_114 : mc_P 327 114 = some (.invokevirtual 262, 3, 312, 14, 2) := by decide +kernel
theorem s_327_114 {x0 x1 x2 x3 x4 : Option Value} {o : Nat} {a1 : Value} : mw (d + 1) 327 Q 114 [x0, x1, x2, x3, x4] (a1 :: .ref o :: st) h = (mg h o 14 ∧ mca st 8 ∧ mca [.ref o, a1] 2 ∧ mcall d 312 [.ref o, a1] h (mK (d + 1) 327 Q 117 [x0, x1, x2, x3, x4] st)) := (mw_at mj_327_114).trans ((z_invv (As := [a1]) (by decide) rfl rfl).trans (congrArg (And _) (congrArg (And _) (mC_nl nl_312))))
theorem mj_327_117 : mc_P 327 117 = some (.aload_n 0, 1, 0, 0, 0) := by decide +kernel
theorem s_327_117 {x1 x2 x3 x4 : Option Value} {w : Value} : mw d 327 Q 117 [some w, x1, x2, x3, x4] (st) h = mv_a w (mw d 327 Q 118 [some w, x1, x2, x3, x4] (w :: st) h) := (mw_at mj_327_117).trans (z_aload_n rfl)
theorem mj_327_118 : mc_P 327 118 = some (.bipush 61, 2, 0, 0, 0) := by decide +kernel
theorem s_327_118 {x0 x1 x2 x3 x4 : Option Value} : mw d 327 Q 118 [x0, x1, x2, x3, x4] (st) h = mw d 327 Q 120 [x0, x1, x2, x3, x4] (.int 61 :: st) h := (mw_at mj_327_118).trans (z_bipush (by decide))
theorem mj_327_120 : mc_P 327 120 = some (.invokevirtual 262, 3, 312, 14, 2) := by decide +kernel
theorem s_327_120 {x0 x1 x2 x3 x4 : Option Value} {o : Nat} {a1 : Value} : mw (d + 1) 327 Q 120 [x0, x1, x2, x3, x4] (a1 :: .ref o :: st) h = (mg h o 14 ∧ mca st 8 ∧ mca [.ref o, a1] 2 ∧ mcall d 312 [.ref o, a1] h (mK (d + 1) 327 Q 123 [x0, x1, x2, x3, x4] st)) := (mw_at mj_327_120).trans ((z_invv (As := [a1]) (by decide) rfl rfl).trans (congrArg (And _) (congrArg (And _) (mC_nl nl_312))))
theorem mj_327_123 : mc_P 327 123 = some (.aload_n 0, 1, 0, 0, 0) := by decide +kernel
theorem s_327_123 {x1 x2 x3 x4 : Option Value} {w : Value} : mw d 327 Q 123 [some w, x1, x2, x3, x4] (st) h = mv_a w (mw d 327 Q 124 [some w, x1, x2, x3, x4] (w :: st) h) := (mw_at mj_327_123).trans (z_aload_n rfl)
theorem mj_327_124 : mc_P 327 124 = some (.iload 4, 2, 0, 0, 0) := by decide +kernel
theorem s_327_124 {x0 x1 x2 x3 : Option Value} {w : Value} : mw d 327 Q 124 [x0, x1, x2, x3, some w] (st) h = mv_i w (mw d 327 Q 126 [x0, x1, x2, x3, some w] (w :: st) h) := (mw_at mj_327_124).trans (z_iload rfl)
theorem mj_327_126 : mc_P 327 126 = some (.aload_n 0, 1, 0, 0, 0) := by decide +kernel
theorem s_327_126 {x1 x2 x3 x4 : Option Value} {w : Value} : mw d 327 Q 126 [some w, x1, x2, x3, x4] (st) h = mv_a w (mw d 327 Q 127 [some w, x1, x2, x3, x4] (w :: st) h) := (mw_at mj_327_126).trans (z_aload_n rfl)
theorem mj_327_127 : mc_P 327 127 = some (.getfield 242, 3, 14, 9, 0) := by decide +kernel
theorem s_327_127 {x0 x1 x2 x3 x4 : Option Value} {o : Nat} : mw d 327 Q 127 [x0, x1, x2, x3, x4] (.ref o :: st) h = (mg h o 14 ∧ mw d 327 Q 130 [x0, x1, x2, x3, x4] (.int (mh_i h o 9) :: st) h) := (mw_at mj_327_127).trans (z_geti (by decide) (by decide) (Or.inr rfl))
theorem mj_327_130 : mc_P 327 130 = some (.ifCond .eq 7, 3, 0, 0, 0) := by decide +kernel
theorem s_327_130 {x0 x1 x2 x3 x4 : Option Value} {x : Int32} : mw d 327 Q 130 [x0, x1, x2, x3, x4] (.int x :: st) h = mB (x = 0) (mw d 327 Q) 137 133 [x0, x1, x2, x3, x4] st h := (mw_at mj_327_130).trans (z_if_eq (by decide) rfl)
theorem mj_327_133 : mc_P 327 133 = some (.iconst (-1), 1, 0, 0, 0) := by decide +kernel
theorem s_327_133 {x0 x1 x2 x3 x4 : Option Value} : mw d 327 Q 133 [x0, x1, x2, x3, x4] (st) h = mw d 327 Q 134 [x0, x1, x2, x3, x4] (.int (-1) :: st) h := (mw_at mj_327_133).trans (z_iconst (by decide))
theorem mj_327_134 : mc_P 327 134 = some (.goto 10, 3, 0, 0, 0) := by decide +kernel
theorem s_327_134 {x0 x1 x2 x3 x4 : Option Value} : mw d 327 Q 134 [x0, x1, x2, x3, x4] (st) h = mw d 327 Q 144 [x0, x1, x2, x3, x4] (st) h := (mw_at mj_327_134).trans (z_goto (by decide))
theorem mj_327_137 : mc_P 327 137 = some (.aload_n 0, 1, 0, 0, 0) := by decide +kernel
theorem s_327_137 {x1 x2 x3 x4 : Option Value} {w : Value} : mw d 327 Q 137 [some w, x1, x2, x3, x4] (st) h = mv_a w (mw d 327 Q 138 [some w, x1, x2, x3, x4] (w :: st) h) := (mw_at mj_327_137).trans (z_aload_n rfl)
theorem mj_327_138 : mc_P 327 138 = some (.iload_n 2, 1, 0, 0, 0) := by decide +kernel
theorem s_327_138 {x0 x1 x3 x4 : Option Value} {w : Value} : mw d 327 Q 138 [x0, x1, some w, x3, x4] (st) h = mv_i w (mw d 327 Q 139 [x0, x1, some w, x3, x4] (w :: st) h) := (mw_at mj_327_138).trans (z_iload_n rfl)
theorem mj_327_139 : mc_P 327 139 = some (.iconst 1, 1, 0, 0, 0) := by decide +kernel
theorem s_327_139 {x0 x1 x2 x3 x4 : Option Value} : mw d 327 Q 139 [x0, x1, x2, x3, x4] (st) h = mw d 327 Q 140 [x0, x1, x2, x3, x4] (.int 1 :: st) h := (mw_at mj_327_139).trans (z_iconst (by decide))
theorem mj_327_140 : mc_P 327 140 = some (.iadd, 1, 0, 0, 0) := by decide +kernel
theorem s_327_140 {x0 x1 x2 x3 x4 : Option Value} {x w : Int32} : mw d 327 Q 140 [x0, x1, x2, x3, x4] (.int w :: .int x :: st) h = mw d 327 Q 141 [x0, x1, x2, x3, x4] (.int (x + w) :: st) h := (mw_at mj_327_140).trans (z_iadd)
theorem mj_327_141 : mc_P 327 141 = some (.invokevirtual 286, 3, 318, 14, 2) := by decide +kernel
theorem s_327_141 {x0 x1 x2 x3 x4 : Option Value} {o : Nat} {a1 : Value} : mw (d + 1) 327 Q 141 [x0, x1, x2, x3, x4] (a1 :: .ref o :: st) h = (mg h o 14 ∧ mca st 8 ∧ mca [.ref o, a1] 5 ∧ mcall d 318 [.ref o, a1] h (mK (d + 1) 327 Q 144 [x0, x1, x2, x3, x4] st)) := (mw_at mj_327_141).trans ((z_invv (As := [a1]) (by decide) rfl rfl).trans (congrArg (And _) (congrArg (And _) (mC_nl nl_318))))
theorem mj_327_144 : mc_P 327 144 = some (.invokevirtual 272, 3, 314, 14, 3) := by decide +kernel
theorem s_327_144 {x0 x1 x2 x3 x4 : Option Value} {o : Nat} {a1 a2 : Value} : mw (d + 1) 327 Q 144 [x0, x1, x2, x3, x4] (a2 :: a1 :: .ref o :: st) h = (mg h o 14 ∧ mca st 8 ∧ mca [.ref o, a1, a2] 3 ∧ mcall d 314 [.ref o, a1, a2] h (mK (d + 1) 327 Q 147 [x0, x1, x2, x3, x4] st)) := (mw_at mj_327_144).trans ((z_invv (As := [a1, a2]) (by decide) rfl rfl).trans (congrArg (And _) (congrArg (And _) (mC_nl nl_314))))
theorem mj_327_147 : mc_P 327 147 = some (.iload 4, 2, 0, 0, 0) := by decide +kernel
theorem s_327_147 {x0 x1 x2 x3 : Option Value} {w : Value} : mw d 327 Q 147 [x0, x1, x2, x3, some w] (st) h = mv_i w (mw d 327 Q 149 [x0, x1, x2, x3, some w] (w :: st) h) := (mw_at mj_327_147).trans (z_iload rfl)
theorem mj_327_149 : mc_P 327 149 = some (.ireturn, 1, 0, 0, 0) := by decide +kernel
theorem s_327_149 {x0 x1 x2 x3 x4 : Option Value} {x : Int32} : mw d 327 Q 149 [x0, x1, x2, x3, x4] ([.int x]) h = (Q (some (.int x)) h) := (mw_at mj_327_149).trans (z_iret)
theorem mj_327_150 : mc_P 327 150 = some (.aload_n 0, 1, 0, 0, 0) := by decide +kernel
theorem s_327_150 {x1 x2 x3 x4 : Option Value} {w : Value} : mw d 327 Q 150 [some w, x1, x2, x3, x4] (st) h = mv_a w (mw d 327 Q 151 [some w, x1, x2, x3, x4] (w :: st) h) := (mw_at mj_327_150).trans (z_aload_n rfl)
theorem mj_327_151 : mc_P 327 151 = some (.bipush 61, 2, 0, 0, 0) := by decide +kernel
theorem s_327_151 {x0 x1 x2 x3 x4 : Option Value} : mw d 327 Q 151 [x0, x1, x2, x3, x4] (st) h = mw d 327 Q 153 [x0, x1, x2, x3, x4] (.int 61 :: st) h := (mw_at mj_327_151).trans (z_bipush (by decide))
theorem mj_327_153 : mc_P 327 153 = some (.invokevirtual 262, 3, 312, 14, 2) := by decide +kernel
theorem s_327_153 {x0 x1 x2 x3 x4 : Option Value} {o : Nat} {a1 : Value} : mw (d + 1) 327 Q 153 [x0, x1, x2, x3, x4] (a1 :: .ref o :: st) h = (mg h o 14 ∧ mca st 8 ∧ mca [.ref o, a1] 2 ∧ mcall d 312 [.ref o, a1] h (mK (d + 1) 327 Q 156 [x0, x1, x2, x3, x4] st)) := (mw_at mj_327_153).trans ((z_invv (As := [a1]) (by decide) rfl rfl).trans (congrArg (And _) (congrArg (And _) (mC_nl nl_312))))
theorem mj_327_156 : mc_P 327 156 = some (.aload_n 0, 1, 0, 0, 0) := by decide +kernel
theorem s_327_156 {x1 x2 x3 x4 : Option Value} {w : Value} : mw d 327 Q 156 [some w, x1, x2, x3, x4] (st) h = mv_a w (mw d 327 Q 157 [some w, x1, x2, x3, x4] (w :: st) h) := (mw_at mj_327_156).trans (z_aload_n rfl)
theorem mj_327_157 : mc_P 327 157 = some (.invokevirtual 249, 3, 310, 14, 1) := by decide +kernel
theorem s_327_157 {x0 x1 x2 x3 x4 : Option Value} {o : Nat} : mw (d + 1) 327 Q 157 [x0, x1, x2, x3, x4] (.ref o :: st) h = (mg h o 14 ∧ mca st 8 ∧ mca [.ref o] 1 ∧ mcall d 310 [.ref o] h (mK (d + 1) 327 Q 160 [x0, x1, x2, x3, x4] st)) := (mw_at mj_327_157).trans ((z_invv (As := []) (by decide) rfl rfl).trans (congrArg (And _) (congrArg (And _) (mC_nl nl_310))))
theorem mj_327_160 : mc_P 327 160 = some (.iconst 2, 1, 0, 0, 0) := by decide +kernel
theorem s_327_160 {x0 x1 x2 x3 x4 : Option Value} : mw d 327 Q 160 [x0, x1, x2, x3, x4] (st) h = mw d 327 Q 161 [x0, x1, x2, x3, x4] (.int 2 :: st) h := (mw_at mj_327_160).trans (z_iconst (by decide))
theorem mj_327_161 : mc_P 327 161 = some (.if_icmp .ne 56, 3, 0, 0, 0) := by decide +kernel
theorem s_327_161 {x0 x1 x2 x3 x4 : Option Value} {x w : Int32} : mw d 327 Q 161 [x0, x1, x2, x3, x4] (.int w :: .int x :: st) h = mB (¬ x = w) (mw d 327 Q) 217 164 [x0, x1, x2, x3, x4] st h := (mw_at mj_327_161).trans (z_icmp_ne (by decide) rfl)
theorem mj_327_164 : mc_P 327 164 = some (.aload_n 0, 1, 0, 0, 0) := by decide +kernel
theorem s_327_164 {x1 x2 x3 x4 : Option Value} {w : Value} : mw d 327 Q 164 [some w, x1, x2, x3, x4] (st) h = mv_a w (mw d 327 Q 165 [some w, x1, x2, x3, x4] (w :: st) h) := (mw_at mj_327_164).trans (z_aload_n rfl)
theorem mj_327_165 : mc_P 327 165 = some (.getfield 13, 3, 14, 4, 0) := by decide +kernel
theorem s_327_165 {x0 x1 x2 x3 x4 : Option Value} {o : Nat} : mw d 327 Q 165 [x0, x1, x2, x3, x4] (.ref o :: st) h = (mg h o 14 ∧ mw d 327 Q 168 [x0, x1, x2, x3, x4] (va_rf (mh_r h o 4) :: st) h) := (mw_at mj_327_165).trans (z_getr (by decide) (by decide) rfl)
theorem mj_327_168 : mc_P 327 168 = some (.aload_n 0, 1, 0, 0, 0) := by decide +kernel
theorem s_327_168 {x1 x2 x3 x4 : Option Value} {w : Value} : mw d 327 Q 168 [some w, x1, x2, x3, x4] (st) h = mv_a w (mw d 327 Q 169 [some w, x1, x2, x3, x4] (w :: st) h) := (mw_at mj_327_168).trans (z_aload_n rfl)
theorem mj_327_169 : mc_P 327 169 = some (.getfield 246, 3, 14, 8, 0) := by decide +kernel
theorem s_327_169 {x0 x1 x2 x3 x4 : Option Value} {o : Nat} : mw d 327 Q 169 [x0, x1, x2, x3, x4] (.ref o :: st) h = (mg h o 14 ∧ mw d 327 Q 172 [x0, x1, x2, x3, x4] (.int (mh_i h o 8) :: st) h) := (mw_at mj_327_169).trans (z_geti (by decide) (by decide) (Or.inl rfl))
theorem mj_327_172 : mc_P 327 172 = some (.iconst 1, 1, 0, 0, 0) := by decide +kernel
theorem s_327_172 {x0 x1 x2 x3 x4 : Option Value} : mw d 327 Q 172 [x0, x1, x2, x3, x4] (st) h = mw d 327 Q 173 [x0, x1, x2, x3, x4] (.int 1 :: st) h := (mw_at mj_327_172).trans (z_iconst (by decide))
theorem mj_327_173 : mc_P 327 173 = some (.iadd, 1, 0, 0, 0) := by decide +kernel
theorem s_327_173 {x0 x1 x2 x3 x4 : Option Value} {x w : Int32} : mw d 327 Q 173 [x0, x1, x2, x3, x4] (.int w :: .int x :: st) h = mw d 327 Q 174 [x0, x1, x2, x3, x4] (.int (x + w) :: st) h := (mw_at mj_327_173).trans (z_iadd)
theorem mj_327_174 : mc_P 327 174 = some (.iaload, 1, 0, 0, 0) := by decide +kernel
theorem s_327_174 {x0 x1 x2 x3 x4 : Option Value} {o : Nat} {i : Int32} : mw d 327 Q 174 [x0, x1, x2, x3, x4] (.int i :: .ref o :: st) h = (mg h o 100 ∧ mx i (mh_l h o) ∧ mw d 327 Q 175 [x0, x1, x2, x3, x4] (.int (mh_i h o i.toNatClampNeg) :: st) h) := (mw_at mj_327_174).trans (z_iald)
theorem mj_327_175 : mc_P 327 175 = some (.bipush 40, 2, 0, 0, 0) := by decide +kernel
theorem s_327_175 {x0 x1 x2 x3 x4 : Option Value} : mw d 327 Q 175 [x0, x1, x2, x3, x4] (st) h = mw d 327 Q 177 [x0, x1, x2, x3, x4] (.int 40 :: st) h := (mw_at mj_327_175).trans (z_bipush (by decide))
theorem mj_327_177 : mc_P 327 177 = some (.if_icmp .ne 40, 3, 0, 0, 0) := by decide +kernel
theorem s_327_177 {x0 x1 x2 x3 x4 : Option Value} {x w : Int32} : mw d 327 Q 177 [x0, x1, x2, x3, x4] (.int w :: .int x :: st) h = mB (¬ x = w) (mw d 327 Q) 217 180 [x0, x1, x2, x3, x4] st h := (mw_at mj_327_177).trans (z_icmp_ne (by decide) rfl)
theorem mj_327_180 : mc_P 327 180 = some (.aload_n 0, 1, 0, 0, 0) := by decide +kernel
theorem s_327_180 {x1 x2 x3 x4 : Option Value} {w : Value} : mw d 327 Q 180 [some w, x1, x2, x3, x4] (st) h = mv_a w (mw d 327 Q 181 [some w, x1, x2, x3, x4] (w :: st) h) := (mw_at mj_327_180).trans (z_aload_n rfl)
theorem mj_327_181 : mc_P 327 181 = some (.bipush 7, 2, 0, 0, 0) := by decide +kernel
theorem s_327_181 {x0 x1 x2 x3 x4 : Option Value} : mw d 327 Q 181 [x0, x1, x2, x3, x4] (st) h = mw d 327 Q 183 [x0, x1, x2, x3, x4] (.int 7 :: st) h := (mw_at mj_327_181).trans (z_bipush (by decide))
theorem mj_327_183 : mc_P 327 183 = some (.iload_n 1, 1, 0, 0, 0) := by decide +kernel
theorem s_327_183 {x0 x2 x3 x4 : Option Value} {w : Value} : mw d 327 Q 183 [x0, some w, x2, x3, x4] (st) h = mv_i w (mw d 327 Q 184 [x0, some w, x2, x3, x4] (w :: st) h) := (mw_at mj_327_183).trans (z_iload_n rfl)
theorem mj_327_184 : mc_P 327 184 = some (.iconst 0, 1, 0, 0, 0) := by decide +kernel
theorem s_327_184 {x0 x1 x2 x3 x4 : Option Value} : mw d 327 Q 184 [x0, x1, x2, x3, x4] (st) h = mw d 327 Q 185 [x0, x1, x2, x3, x4] (.int 0 :: st) h := (mw_at mj_327_184).trans (z_iconst (by decide))
theorem mj_327_185 : mc_P 327 185 = some (.invokevirtual 259, 3, 313, 14, 4) := by decide +kernel
theorem s_327_185 {x0 x1 x2 x3 x4 : Option Value} {o : Nat} {a1 a2 a3 : Value} : mw (d + 1) 327 Q 185 [x0, x1, x2, x3, x4] (a3 :: a2 :: a1 :: .ref o :: st) h = (mg h o 14 ∧ mca st 8 ∧ mca [.ref o, a1, a2, a3] 4 ∧ mcall d 313 [.ref o, a1, a2, a3] h (mK (d + 1) 327 Q 188 [x0, x1, x2, x3, x4] st)) := (mw_at mj_327_185).trans ((z_invv (As := [a1, a2, a3]) (by decide) rfl rfl).trans (congrArg (And _) (congrArg (And _) (mC_nl nl_313))))
theorem mj_327_188 : mc_P 327 188 = some (.istore 4, 2, 0, 0, 0) := by decide +kernel
theorem s_327_188 {x0 x1 x2 x3 x4 : Option Value} {w : Int32} : mw d 327 Q 188 [x0, x1, x2, x3, x4] (.int w :: st) h = mw d 327 Q 190 [x0, x1, x2, mk2 x3, some (.int w)] (st) h := (mw_at mj_327_188).trans (z_istore (Nat.le_of_ble_eq_true rfl) (me_s1_mk (j := 3) (w := x3) rfl))
theorem mj_327_190 : mc_P 327 190 = some (.aload_n 0, 1, 0, 0, 0) := by decide +kernel
theorem s_327_190 {x1 x2 x3 x4 : Option Value} {w : Value} : mw d 327 Q 190 [some w, x1, x2, x3, x4] (st) h = mv_a w (mw d 327 Q 191 [some w, x1, x2, x3, x4] (w :: st) h) := (mw_at mj_327_190).trans (z_aload_n rfl)
theorem mj_327_191 : mc_P 327 191 = some (.iload 4, 2, 0, 0, 0) := by decide +kernel
theorem s_327_191 {x0 x1 x2 x3 : Option Value} {w : Value} : mw d 327 Q 191 [x0, x1, x2, x3, some w] (st) h = mv_i w (mw d 327 Q 193 [x0, x1, x2, x3, some w] (w :: st) h) := (mw_at mj_327_191).trans (z_iload rfl)
theorem mj_327_193 : mc_P 327 193 = some (.iload_n 3, 1, 0, 0, 0) := by decide +kernel
theorem s_327_193 {x0 x1 x2 x4 : Option Value} {w : Value} : mw d 327 Q 193 [x0, x1, x2, some w, x4] (st) h = mv_i w (mw d 327 Q 194 [x0, x1, x2, some w, x4] (w :: st) h) := (mw_at mj_327_193).trans (z_iload_n rfl)
theorem mj_327_194 : mc_P 327 194 = some (.invokevirtual 272, 3, 314, 14, 3) := by decide +kernel
theorem s_327_194 {x0 x1 x2 x3 x4 : Option Value} {o : Nat} {a1 a2 : Value} : mw (d + 1) 327 Q 194 [x0, x1, x2, x3, x4] (a2 :: a1 :: .ref o :: st) h = (mg h o 14 ∧ mca st 8 ∧ mca [.ref o, a1, a2] 3 ∧ mcall d 314 [.ref o, a1, a2] h (mK (d + 1) 327 Q 197 [x0, x1, x2, x3, x4] st)) := (mw_at mj_327_194).trans ((z_invv (As := [a1, a2]) (by decide) rfl rfl).trans (congrArg (And _) (congrArg (And _) (mC_nl nl_314))))
theorem mj_327_197 : mc_P 327 197 = some (.aload_n 0, 1, 0, 0, 0) := by decide +kernel
theorem s_327_197 {x1 x2 x3 x4 : Option Value} {w : Value} : mw d 327 Q 197 [some w, x1, x2, x3, x4] (st) h = mv_a w (mw d 327 Q 198 [some w, x1, x2, x3, x4] (w :: st) h) := (mw_at mj_327_197).trans (z_aload_n rfl)
theorem mj_327_198 : mc_P 327 198 = some (.iload 4, 2, 0, 0, 0) := by decide +kernel
theorem s_327_198 {x0 x1 x2 x3 : Option Value} {w : Value} : mw d 327 Q 198 [x0, x1, x2, x3, some w] (st) h = mv_i w (mw d 327 Q 200 [x0, x1, x2, x3, some w] (w :: st) h) := (mw_at mj_327_198).trans (z_iload rfl)
theorem mj_327_200 : mc_P 327 200 = some (.aload_n 0, 1, 0, 0, 0) := by decide +kernel
theorem s_327_200 {x1 x2 x3 x4 : Option Value} {w : Value} : mw d 327 Q 200 [some w, x1, x2, x3, x4] (st) h = mv_a w (mw d 327 Q 201 [some w, x1, x2, x3, x4] (w :: st) h) := (mw_at mj_327_200).trans (z_aload_n rfl)
theorem mj_327_201 : mc_P 327 201 = some (.invokevirtual 283, 3, 315, 14, 1) := by decide +kernel
theorem s_327_201 {x0 x1 x2 x3 x4 : Option Value} {o : Nat} : mw (d + 1) 327 Q 201 [x0, x1, x2, x3, x4] (.ref o :: st) h = (mg h o 14 ∧ mca st 8 ∧ mca [.ref o] 2 ∧ mcall d 315 [.ref o] h (mK (d + 1) 327 Q 204 [x0, x1, x2, x3, x4] st)) := (mw_at mj_327_201).trans ((z_invv (As := []) (by decide) rfl rfl).trans (congrArg (And _) (congrArg (And _) (mC_nl nl_315))))
theorem mj_327_204 : mc_P 327 204 = some (.invokevirtual 272, 3, 314, 14, 3) := by decide +kernel
theorem s_327_204 {x0 x1 x2 x3 x4 : Option Value} {o : Nat} {a1 a2 : Value} : mw (d + 1) 327 Q 204 [x0, x1, x2, x3, x4] (a2 :: a1 :: .ref o :: st) h = (mg h o 14 ∧ mca st 8 ∧ mca [.ref o, a1, a2] 3 ∧ mcall d 314 [.ref o, a1, a2] h (mK (d + 1) 327 Q 207 [x0, x1, x2, x3, x4] st)) := (mw_at mj_327_204).trans ((z_invv (As := [a1, a2]) (by decide) rfl rfl).trans (congrArg (And _) (congrArg (And _) (mC_nl nl_314))))
theorem mj_327_207 : mc_P 327 207 = some (.aload_n 0, 1, 0, 0, 0) := by decide +kernel
theorem s_327_207 {x1 x2 x3 x4 : Option Value} {w : Value} : mw d 327 Q 207 [some w, x1, x2, x3, x4] (st) h = mv_a w (mw d 327 Q 208 [some w, x1, x2, x3, x4] (w :: st) h) := (mw_at mj_327_207).trans (z_aload_n rfl)
theorem mj_327_208 : mc_P 327 208 = some (.iload 4, 2, 0, 0, 0) := by decide +kernel
theorem s_327_208 {x0 x1 x2 x3 : Option Value} {w : Value} : mw d 327 Q 208 [x0, x1, x2, x3, some w] (st) h = mv_i w (mw d 327 Q 210 [x0, x1, x2, x3, some w] (w :: st) h) := (mw_at mj_327_208).trans (z_iload rfl)
theorem mj_327_210 : mc_P 327 210 = some (.iload_n 2, 1, 0, 0, 0) := by decide +kernel
theorem s_327_210 {x0 x1 x3 x4 : Option Value} {w : Value} : mw d 327 Q 210 [x0, x1, some w, x3, x4] (st) h = mv_i w (mw d 327 Q 211 [x0, x1, some w, x3, x4] (w :: st) h) := (mw_at mj_327_210).trans (z_iload_n rfl)
theorem mj_327_211 : mc_P 327 211 = some (.invokevirtual 307, 3, 325, 14, 3) := by decide +kernel
theorem s_327_211 {x0 x1 x2 x3 x4 : Option Value} {o : Nat} {a1 a2 : Value} : mw (d + 1) 327 Q 211 [x0, x1, x2, x3, x4] (a2 :: a1 :: .ref o :: st) h = (mg h o 14 ∧ mca st 8 ∧ mca [.ref o, a1, a2] 3 ∧ mcall d 325 [.ref o, a1, a2] h (mK (d + 1) 327 Q 214 [x0, x1, x2, x3, x4] st)) := (mw_at mj_327_211).trans ((z_invv (As := [a1, a2]) (by decide) rfl rfl).trans (congrArg (And _) (congrArg (And _) (mC_nl nl_325))))
theorem mj_327_214 : mc_P 327 214 = some (.iload 4, 2, 0, 0, 0) := by decide +kernel
theorem s_327_214 {x0 x1 x2 x3 : Option Value} {w : Value} : mw d 327 Q 214 [x0, x1, x2, x3, some w] (st) h = mv_i w (mw d 327 Q 216 [x0, x1, x2, x3, some w] (w :: st) h) := (mw_at mj_327_214).trans (z_iload rfl)
theorem mj_327_216 : mc_P 327 216 = some (.ireturn, 1, 0, 0, 0) := by decide +kernel
theorem s_327_216 {x0 x1 x2 x3 x4 : Option Value} {x : Int32} : mw d 327 Q 216 [x0, x1, x2, x3, x4] ([.int x]) h = (Q (some (.int x)) h) := (mw_at mj_327_216).trans (z_iret)
theorem mj_327_217 : mc_P 327 217 = some (.aload_n 0, 1, 0, 0, 0) := by decide +kernel
theorem s_327_217 {x1 x2 x3 x4 : Option Value} {w : Value} : mw d 327 Q 217 [some w, x1, x2, x3, x4] (st) h = mv_a w (mw d 327 Q 218 [some w, x1, x2, x3, x4] (w :: st) h) := (mw_at mj_327_217).trans (z_aload_n rfl)
theorem mj_327_218 : mc_P 327 218 = some (.iconst 5, 1, 0, 0, 0) := by decide +kernel
theorem s_327_218 {x0 x1 x2 x3 x4 : Option Value} : mw d 327 Q 218 [x0, x1, x2, x3, x4] (st) h = mw d 327 Q 219 [x0, x1, x2, x3, x4] (.int 5 :: st) h := (mw_at mj_327_218).trans (z_iconst (by decide))
theorem mj_327_219 : mc_P 327 219 = some (.iload_n 1, 1, 0, 0, 0) := by decide +kernel
theorem s_327_219 {x0 x2 x3 x4 : Option Value} {w : Value} : mw d 327 Q 219 [x0, some w, x2, x3, x4] (st) h = mv_i w (mw d 327 Q 220 [x0, some w, x2, x3, x4] (w :: st) h) := (mw_at mj_327_219).trans (z_iload_n rfl)
theorem mj_327_220 : mc_P 327 220 = some (.iconst 0, 1, 0, 0, 0) := by decide +kernel
theorem s_327_220 {x0 x1 x2 x3 x4 : Option Value} : mw d 327 Q 220 [x0, x1, x2, x3, x4] (st) h = mw d 327 Q 221 [x0, x1, x2, x3, x4] (.int 0 :: st) h := (mw_at mj_327_220).trans (z_iconst (by decide))
theorem mj_327_221 : mc_P 327 221 = some (.invokevirtual 259, 3, 313, 14, 4) := by decide +kernel
theorem s_327_221 {x0 x1 x2 x3 x4 : Option Value} {o : Nat} {a1 a2 a3 : Value} : mw (d + 1) 327 Q 221 [x0, x1, x2, x3, x4] (a3 :: a2 :: a1 :: .ref o :: st) h = (mg h o 14 ∧ mca st 8 ∧ mca [.ref o, a1, a2, a3] 4 ∧ mcall d 313 [.ref o, a1, a2, a3] h (mK (d + 1) 327 Q 224 [x0, x1, x2, x3, x4] st)) := (mw_at mj_327_221).trans ((z_invv (As := [a1, a2, a3]) (by decide) rfl rfl).trans (congrArg (And _) (congrArg (And _) (mC_nl nl_313))))
theorem mj_327_224 : mc_P 327 224 = some (.istore 4, 2, 0, 0, 0) := by decide +kernel
theorem s_327_224 {x0 x1 x2 x3 x4 : Option Value} {w : Int32} : mw d 327 Q 224 [x0, x1, x2, x3, x4] (.int w :: st) h = mw d 327 Q 226 [x0, x1, x2, mk2 x3, some (.int w)] (st) h := (mw_at mj_327_224).trans (z_istore (Nat.le_of_ble_eq_true rfl) (me_s1_mk (j := 3) (w := x3) rfl))
theorem mj_327_226 : mc_P 327 226 = some (.aload_n 0, 1, 0, 0, 0) := by decide +kernel
theorem s_327_226 {x1 x2 x3 x4 : Option Value} {w : Value} : mw d 327 Q 226 [some w, x1, x2, x3, x4] (st) h = mv_a w (mw d 327 Q 227 [some w, x1, x2, x3, x4] (w :: st) h) := (mw_at mj_327_226).trans (z_aload_n rfl)
theorem mj_327_227 : mc_P 327 227 = some (.iload 4, 2, 0, 0, 0) := by decide +kernel
theorem s_327_227 {x0 x1 x2 x3 : Option Value} {w : Value} : mw d 327 Q 227 [x0, x1, x2, x3, some w] (st) h = mv_i w (mw d 327 Q 229 [x0, x1, x2, x3, some w] (w :: st) h) := (mw_at mj_327_227).trans (z_iload rfl)
theorem mj_327_229 : mc_P 327 229 = some (.iload_n 3, 1, 0, 0, 0) := by decide +kernel
theorem s_327_229 {x0 x1 x2 x4 : Option Value} {w : Value} : mw d 327 Q 229 [x0, x1, x2, some w, x4] (st) h = mv_i w (mw d 327 Q 230 [x0, x1, x2, some w, x4] (w :: st) h) := (mw_at mj_327_229).trans (z_iload_n rfl)
theorem mj_327_230 : mc_P 327 230 = some (.invokevirtual 272, 3, 314, 14, 3) := by decide +kernel
theorem s_327_230 {x0 x1 x2 x3 x4 : Option Value} {o : Nat} {a1 a2 : Value} : mw (d + 1) 327 Q 230 [x0, x1, x2, x3, x4] (a2 :: a1 :: .ref o :: st) h = (mg h o 14 ∧ mca st 8 ∧ mca [.ref o, a1, a2] 3 ∧ mcall d 314 [.ref o, a1, a2] h (mK (d + 1) 327 Q 233 [x0, x1, x2, x3, x4] st)) := (mw_at mj_327_230).trans ((z_invv (As := [a1, a2]) (by decide) rfl rfl).trans (congrArg (And _) (congrArg (And _) (mC_nl nl_314))))
theorem mj_327_233 : mc_P 327 233 = some (.aload_n 0, 1, 0, 0, 0) := by decide +kernel
theorem s_327_233 {x1 x2 x3 x4 : Option Value} {w : Value} : mw d 327 Q 233 [some w, x1, x2, x3, x4] (st) h = mv_a w (mw d 327 Q 234 [some w, x1, x2, x3, x4] (w :: st) h) := (mw_at mj_327_233).trans (z_aload_n rfl)
theorem mj_327_234 : mc_P 327 234 = some (.iload 4, 2, 0, 0, 0) := by decide +kernel
theorem s_327_234 {x0 x1 x2 x3 : Option Value} {w : Value} : mw d 327 Q 234 [x0, x1, x2, x3, some w] (st) h = mv_i w (mw d 327 Q 236 [x0, x1, x2, x3, some w] (w :: st) h) := (mw_at mj_327_234).trans (z_iload rfl)
theorem mj_327_236 : mc_P 327 236 = some (.aload_n 0, 1, 0, 0, 0) := by decide +kernel
theorem s_327_236 {x1 x2 x3 x4 : Option Value} {w : Value} : mw d 327 Q 236 [some w, x1, x2, x3, x4] (st) h = mv_a w (mw d 327 Q 237 [some w, x1, x2, x3, x4] (w :: st) h) := (mw_at mj_327_236).trans (z_aload_n rfl)
theorem mj_327_237 : mc_P 327 237 = some (.getfield 242, 3, 14, 9, 0) := by decide +kernel
theorem s_327_237 {x0 x1 x2 x3 x4 : Option Value} {o : Nat} : mw d 327 Q 237 [x0, x1, x2, x3, x4] (.ref o :: st) h = (mg h o 14 ∧ mw d 327 Q 240 [x0, x1, x2, x3, x4] (.int (mh_i h o 9) :: st) h) := (mw_at mj_327_237).trans (z_geti (by decide) (by decide) (Or.inr rfl))
theorem mj_327_240 : mc_P 327 240 = some (.ifCond .eq 7, 3, 0, 0, 0) := by decide +kernel
theorem s_327_240 {x0 x1 x2 x3 x4 : Option Value} {x : Int32} : mw d 327 Q 240 [x0, x1, x2, x3, x4] (.int x :: st) h = mB (x = 0) (mw d 327 Q) 247 243 [x0, x1, x2, x3, x4] st h := (mw_at mj_327_240).trans (z_if_eq (by decide) rfl)
theorem mj_327_243 : mc_P 327 243 = some (.iconst (-1), 1, 0, 0, 0) := by decide +kernel
theorem s_327_243 {x0 x1 x2 x3 x4 : Option Value} : mw d 327 Q 243 [x0, x1, x2, x3, x4] (st) h = mw d 327 Q 244 [x0, x1, x2, x3, x4] (.int (-1) :: st) h := (mw_at mj_327_243).trans (z_iconst (by decide))
theorem mj_327_244 : mc_P 327 244 = some (.goto 10, 3, 0, 0, 0) := by decide +kernel
theorem s_327_244 {x0 x1 x2 x3 x4 : Option Value} : mw d 327 Q 244 [x0, x1, x2, x3, x4] (st) h = mw d 327 Q 254 [x0, x1, x2, x3, x4] (st) h := (mw_at mj_327_244).trans (z_goto (by decide))
theorem mj_327_247 : mc_P 327 247 = some (.aload_n 0, 1, 0, 0, 0) := by decide +kernel
theorem s_327_247 {x1 x2 x3 x4 : Option Value} {w : Value} : mw d 327 Q 247 [some w, x1, x2, x3, x4] (st) h = mv_a w (mw d 327 Q 248 [some w, x1, x2, x3, x4] (w :: st) h) := (mw_at mj_327_247).trans (z_aload_n rfl)
theorem mj_327_248 : mc_P 327 248 = some (.iload_n 2, 1, 0, 0, 0) := by decide +kernel
theorem s_327_248 {x0 x1 x3 x4 : Option Value} {w : Value} : mw d 327 Q 248 [x0, x1, some w, x3, x4] (st) h = mv_i w (mw d 327 Q 249 [x0, x1, some w, x3, x4] (w :: st) h) := (mw_at mj_327_248).trans (z_iload_n rfl)
theorem mj_327_249 : mc_P 327 249 = some (.iconst 1, 1, 0, 0, 0) := by decide +kernel
theorem s_327_249 {x0 x1 x2 x3 x4 : Option Value} : mw d 327 Q 249 [x0, x1, x2, x3, x4] (st) h = mw d 327 Q 250 [x0, x1, x2, x3, x4] (.int 1 :: st) h := (mw_at mj_327_249).trans (z_iconst (by decide))
theorem mj_327_250 : mc_P 327 250 = some (.iadd, 1, 0, 0, 0) := by decide +kernel
theorem s_327_250 {x0 x1 x2 x3 x4 : Option Value} {x w : Int32} : mw d 327 Q 250 [x0, x1, x2, x3, x4] (.int w :: .int x :: st) h = mw d 327 Q 251 [x0, x1, x2, x3, x4] (.int (x + w) :: st) h := (mw_at mj_327_250).trans (z_iadd)
theorem mj_327_251 : mc_P 327 251 = some (.invokevirtual 286, 3, 318, 14, 2) := by decide +kernel
theorem s_327_251 {x0 x1 x2 x3 x4 : Option Value} {o : Nat} {a1 : Value} : mw (d + 1) 327 Q 251 [x0, x1, x2, x3, x4] (a1 :: .ref o :: st) h = (mg h o 14 ∧ mca st 8 ∧ mca [.ref o, a1] 5 ∧ mcall d 318 [.ref o, a1] h (mK (d + 1) 327 Q 254 [x0, x1, x2, x3, x4] st)) := (mw_at mj_327_251).trans ((z_invv (As := [a1]) (by decide) rfl rfl).trans (congrArg (And _) (congrArg (And _) (mC_nl nl_318))))
theorem mj_327_254 : mc_P 327 254 = some (.invokevirtual 272, 3, 314, 14, 3) := by decide +kernel
theorem s_327_254 {x0 x1 x2 x3 x4 : Option Value} {o : Nat} {a1 a2 : Value} : mw (d + 1) 327 Q 254 [x0, x1, x2, x3, x4] (a2 :: a1 :: .ref o :: st) h = (mg h o 14 ∧ mca st 8 ∧ mca [.ref o, a1, a2] 3 ∧ mcall d 314 [.ref o, a1, a2] h (mK (d + 1) 327 Q 257 [x0, x1, x2, x3, x4] st)) := (mw_at mj_327_254).trans ((z_invv (As := [a1, a2]) (by decide) rfl rfl).trans (congrArg (And _) (congrArg (And _) (mC_nl nl_314))))
theorem mj_327_257 : mc_P 327 257 = some (.iload 4, 2, 0, 0, 0) := by decide +kernel
theorem s_327_257 {x0 x1 x2 x3 : Option Value} {w : Value} : mw d 327 Q 257 [x0, x1, x2, x3, some w] (st) h = mv_i w (mw d 327 Q 259 [x0, x1, x2, x3, some w] (w :: st) h) := (mw_at mj_327_257).trans (z_iload rfl)
theorem mj_327_259 : mc_P 327 259 = some (.ireturn, 1, 0, 0, 0) := by decide +kernel
theorem s_327_259 {x0 x1 x2 x3 x4 : Option Value} {x : Int32} : mw d 327 Q 259 [x0, x1, x2, x3, x4] ([.int x]) h = (Q (some (.int x)) h) := (mw_at mj_327_259).trans (z_iret)
theorem e_327 {a0 : Nat} {a1 : Int32} {a2 : Int32} : mcall d 327 [.ref a0, .int a1, .int a2] h Q = mw d 327 Q 0 [some (.ref a0), some (.int a1), some (.int a2), none, none] [] h := by
  show mw d 327 Q 0 (me_en (mc_nl 327) _) [] h = _
  rw [nl_327]; rfl

/-! InvariantDeskModel.nameOf(I)I -/
theorem mj_329_0 : mc_P 329 0 = some (.iconst 0, 1, 0, 0, 0) := by decide +kernel
theorem s_329_0 {x0 x1 x2 x3 x4 : Option Value} : mw d 329 Q 0 [x0, x1, x2, x3, x4] (st) h = mw d 329 Q 1 [x0, x1, x2, x3, x4] (.int 0 :: st) h := (mw_at mj_329_0).trans (z_iconst (by decide))
theorem mj_329_1 : mc_P 329 1 = some (.istore_n 2, 1, 0, 0, 0) := by decide +kernel
theorem s_329_1 {x0 x1 x2 x3 x4 : Option Value} {w : Int32} : mw d 329 Q 1 [x0, x1, x2, x3, x4] (.int w :: st) h = mw d 329 Q 2 [x0, mk2 x1, some (.int w), x3, x4] (st) h := (mw_at mj_329_1).trans (z_istore_n (Nat.le_of_ble_eq_true rfl) (me_s1_mk (j := 1) (w := x1) rfl))
theorem mj_329_2 : mc_P 329 2 = some (.iload_n 2, 1, 0, 0, 0) := by decide +kernel
theorem s_329_2 {x0 x1 x3 x4 : Option Value} {w : Value} : mw d 329 Q 2 [x0, x1, some w, x3, x4] (st) h = mv_i w (mw d 329 Q 3 [x0, x1, some w, x3, x4] (w :: st) h) := (mw_at mj_329_2).trans (z_iload_n rfl)
theorem mj_329_3 : mc_P 329 3 = some (.aload_n 0, 1, 0, 0, 0) := by decide +kernel
theorem s_329_3 {x1 x2 x3 x4 : Option Value} {w : Value} : mw d 329 Q 3 [some w, x1, x2, x3, x4] (st) h = mv_a w (mw d 329 Q 4 [some w, x1, x2, x3, x4] (w :: st) h) := (mw_at mj_329_3).trans (z_aload_n rfl)
theorem mj_329_4 : mc_P 329 4 = some (.getfield 309, 3, 14, 27, 0) := by decide +kernel
theorem s_329_4 {x0 x1 x2 x3 x4 : Option Value} {o : Nat} : mw d 329 Q 4 [x0, x1, x2, x3, x4] (.ref o :: st) h = (mg h o 14 ∧ mw d 329 Q 7 [x0, x1, x2, x3, x4] (.int (mh_i h o 27) :: st) h) := (mw_at mj_329_4).trans (z_geti (by decide) (by decide) (Or.inl rfl))
theorem mj_329_7 : mc_P 329 7 = some (.if_icmp .ge 106, 3, 0, 0, 0) := by decide +kernel
theorem s_329_7 {x0 x1 x2 x3 x4 : Option Value} {x w : Int32} : mw d 329 Q 7 [x0, x1, x2, x3, x4] (.int w :: .int x :: st) h = mB (w ≤ x) (mw d 329 Q) 113 10 [x0, x1, x2, x3, x4] st h := (mw_at mj_329_7).trans (z_icmp_ge (by decide) rfl)
theorem mj_329_10 : mc_P 329 10 = some (.aload_n 0, 1, 0, 0, 0) := by decide +kernel
theorem s_329_10 {x1 x2 x3 x4 : Option Value} {w : Value} : mw d 329 Q 10 [some w, x1, x2, x3, x4] (st) h = mv_a w (mw d 329 Q 11 [some w, x1, x2, x3, x4] (w :: st) h) := (mw_at mj_329_10).trans (z_aload_n rfl)
theorem mj_329_11 : mc_P 329 11 = some (.getfield 67, 3, 14, 26, 0) := by decide +kernel
theorem s_329_11 {x0 x1 x2 x3 x4 : Option Value} {o : Nat} : mw d 329 Q 11 [x0, x1, x2, x3, x4] (.ref o :: st) h = (mg h o 14 ∧ mw d 329 Q 14 [x0, x1, x2, x3, x4] (va_rf (mh_r h o 26) :: st) h) := (mw_at mj_329_11).trans (z_getr (by decide) (by decide) rfl)
theorem mj_329_14 : mc_P 329 14 = some (.iload_n 2, 1, 0, 0, 0) := by decide +kernel
theorem s_329_14 {x0 x1 x3 x4 : Option Value} {w : Value} : mw d 329 Q 14 [x0, x1, some w, x3, x4] (st) h = mv_i w (mw d 329 Q 15 [x0, x1, some w, x3, x4] (w :: st) h) := (mw_at mj_329_14).trans (z_iload_n rfl)
theorem mj_329_15 : mc_P 329 15 = some (.iconst 1, 1, 0, 0, 0) := by decide +kernel
theorem s_329_15 {x0 x1 x2 x3 x4 : Option Value} : mw d 329 Q 15 [x0, x1, x2, x3, x4] (st) h = mw d 329 Q 16 [x0, x1, x2, x3, x4] (.int 1 :: st) h := (mw_at mj_329_15).trans (z_iconst (by decide))
theorem mj_329_16 : mc_P 329 16 = some (.iadd, 1, 0, 0, 0) := by decide +kernel
theorem s_329_16 {x0 x1 x2 x3 x4 : Option Value} {x w : Int32} : mw d 329 Q 16 [x0, x1, x2, x3, x4] (.int w :: .int x :: st) h = mw d 329 Q 17 [x0, x1, x2, x3, x4] (.int (x + w) :: st) h := (mw_at mj_329_16).trans (z_iadd)
theorem mj_329_17 : mc_P 329 17 = some (.iaload, 1, 0, 0, 0) := by decide +kernel
theorem s_329_17 {x0 x1 x2 x3 x4 : Option Value} {o : Nat} {i : Int32} : mw d 329 Q 17 [x0, x1, x2, x3, x4] (.int i :: .ref o :: st) h = (mg h o 100 ∧ mx i (mh_l h o) ∧ mw d 329 Q 18 [x0, x1, x2, x3, x4] (.int (mh_i h o i.toNatClampNeg) :: st) h) := (mw_at mj_329_17).trans (z_iald)
theorem mj_329_18 : mc_P 329 18 = some (.aload_n 0, 1, 0, 0, 0) := by decide +kernel
theorem s_329_18 {x1 x2 x3 x4 : Option Value} {w : Value} : mw d 329 Q 18 [some w, x1, x2, x3, x4] (st) h = mv_a w (mw d 329 Q 19 [some w, x1, x2, x3, x4] (w :: st) h) := (mw_at mj_329_18).trans (z_aload_n rfl)
theorem mj_329_19 : mc_P 329 19 = some (.getfield 67, 3, 14, 26, 0) := by decide +kernel
theorem s_329_19 {x0 x1 x2 x3 x4 : Option Value} {o : Nat} : mw d 329 Q 19 [x0, x1, x2, x3, x4] (.ref o :: st) h = (mg h o 14 ∧ mw d 329 Q 22 [x0, x1, x2, x3, x4] (va_rf (mh_r h o 26) :: st) h) := (mw_at mj_329_19).trans (z_getr (by decide) (by decide) rfl)
theorem mj_329_22 : mc_P 329 22 = some (.iload_n 2, 1, 0, 0, 0) := by decide +kernel
theorem s_329_22 {x0 x1 x3 x4 : Option Value} {w : Value} : mw d 329 Q 22 [x0, x1, some w, x3, x4] (st) h = mv_i w (mw d 329 Q 23 [x0, x1, some w, x3, x4] (w :: st) h) := (mw_at mj_329_22).trans (z_iload_n rfl)
theorem mj_329_23 : mc_P 329 23 = some (.iaload, 1, 0, 0, 0) := by decide +kernel
theorem s_329_23 {x0 x1 x2 x3 x4 : Option Value} {o : Nat} {i : Int32} : mw d 329 Q 23 [x0, x1, x2, x3, x4] (.int i :: .ref o :: st) h = (mg h o 100 ∧ mx i (mh_l h o) ∧ mw d 329 Q 24 [x0, x1, x2, x3, x4] (.int (mh_i h o i.toNatClampNeg) :: st) h) := (mw_at mj_329_23).trans (z_iald)
theorem mj_329_24 : mc_P 329 24 = some (.isub, 1, 0, 0, 0) := by decide +kernel
theorem s_329_24 {x0 x1 x2 x3 x4 : Option Value} {x w : Int32} : mw d 329 Q 24 [x0, x1, x2, x3, x4] (.int w :: .int x :: st) h = mw d 329 Q 25 [x0, x1, x2, x3, x4] (.int (x - w) :: st) h := (mw_at mj_329_24).trans (z_isub)
theorem mj_329_25 : mc_P 329 25 = some (.aload_n 0, 1, 0, 0, 0) := by decide +kernel
theorem s_329_25 {x1 x2 x3 x4 : Option Value} {w : Value} : mw d 329 Q 25 [some w, x1, x2, x3, x4] (st) h = mv_a w (mw d 329 Q 26 [some w, x1, x2, x3, x4] (w :: st) h) := (mw_at mj_329_25).trans (z_aload_n rfl)
theorem mj_329_26 : mc_P 329 26 = some (.getfield 19, 3, 14, 6, 0) := by decide +kernel
theorem s_329_26 {x0 x1 x2 x3 x4 : Option Value} {o : Nat} : mw d 329 Q 26 [x0, x1, x2, x3, x4] (.ref o :: st) h = (mg h o 14 ∧ mw d 329 Q 29 [x0, x1, x2, x3, x4] (va_rf (mh_r h o 6) :: st) h) := (mw_at mj_329_26).trans (z_getr (by decide) (by decide) rfl)
theorem mj_329_29 : mc_P 329 29 = some (.iload_n 1, 1, 0, 0, 0) := by decide +kernel
theorem s_329_29 {x0 x2 x3 x4 : Option Value} {w : Value} : mw d 329 Q 29 [x0, some w, x2, x3, x4] (st) h = mv_i w (mw d 329 Q 30 [x0, some w, x2, x3, x4] (w :: st) h) := (mw_at mj_329_29).trans (z_iload_n rfl)
theorem mj_329_30 : mc_P 329 30 = some (.iaload, 1, 0, 0, 0) := by decide +kernel
theorem s_329_30 {x0 x1 x2 x3 x4 : Option Value} {o : Nat} {i : Int32} : mw d 329 Q 30 [x0, x1, x2, x3, x4] (.int i :: .ref o :: st) h = (mg h o 100 ∧ mx i (mh_l h o) ∧ mw d 329 Q 31 [x0, x1, x2, x3, x4] (.int (mh_i h o i.toNatClampNeg) :: st) h) := (mw_at mj_329_30).trans (z_iald)
theorem mj_329_31 : mc_P 329 31 = some (.if_icmp .ne 7, 3, 0, 0, 0) := by decide +kernel
theorem s_329_31 {x0 x1 x2 x3 x4 : Option Value} {x w : Int32} : mw d 329 Q 31 [x0, x1, x2, x3, x4] (.int w :: .int x :: st) h = mB (¬ x = w) (mw d 329 Q) 38 34 [x0, x1, x2, x3, x4] st h := (mw_at mj_329_31).trans (z_icmp_ne (by decide) rfl)
theorem mj_329_34 : mc_P 329 34 = some (.iconst 1, 1, 0, 0, 0) := by decide +kernel
theorem s_329_34 {x0 x1 x2 x3 x4 : Option Value} : mw d 329 Q 34 [x0, x1, x2, x3, x4] (st) h = mw d 329 Q 35 [x0, x1, x2, x3, x4] (.int 1 :: st) h := (mw_at mj_329_34).trans (z_iconst (by decide))
theorem mj_329_35 : mc_P 329 35 = some (.goto 4, 3, 0, 0, 0) := by decide +kernel
theorem s_329_35 {x0 x1 x2 x3 x4 : Option Value} : mw d 329 Q 35 [x0, x1, x2, x3, x4] (st) h = mw d 329 Q 39 [x0, x1, x2, x3, x4] (st) h := (mw_at mj_329_35).trans (z_goto (by decide))
theorem mj_329_38 : mc_P 329 38 = some (.iconst 0, 1, 0, 0, 0) := by decide +kernel
theorem s_329_38 {x0 x1 x2 x3 x4 : Option Value} : mw d 329 Q 38 [x0, x1, x2, x3, x4] (st) h = mw d 329 Q 39 [x0, x1, x2, x3, x4] (.int 0 :: st) h := (mw_at mj_329_38).trans (z_iconst (by decide))
theorem mj_329_39 : mc_P 329 39 = some (.istore_n 3, 1, 0, 0, 0) := by decide +kernel
theorem s_329_39 {x0 x1 x2 x3 x4 : Option Value} {w : Int32} : mw d 329 Q 39 [x0, x1, x2, x3, x4] (.int w :: st) h = mw d 329 Q 40 [x0, x1, mk2 x2, some (.int w), x4] (st) h := (mw_at mj_329_39).trans (z_istore_n (Nat.le_of_ble_eq_true rfl) (me_s1_mk (j := 2) (w := x2) rfl))
theorem mj_329_40 : mc_P 329 40 = some (.iconst 0, 1, 0, 0, 0) := by decide +kernel
theorem s_329_40 {x0 x1 x2 x3 x4 : Option Value} : mw d 329 Q 40 [x0, x1, x2, x3, x4] (st) h = mw d 329 Q 41 [x0, x1, x2, x3, x4] (.int 0 :: st) h := (mw_at mj_329_40).trans (z_iconst (by decide))
theorem mj_329_41 : mc_P 329 41 = some (.istore 4, 2, 0, 0, 0) := by decide +kernel
theorem s_329_41 {x0 x1 x2 x3 x4 : Option Value} {w : Int32} : mw d 329 Q 41 [x0, x1, x2, x3, x4] (.int w :: st) h = mw d 329 Q 43 [x0, x1, x2, mk2 x3, some (.int w)] (st) h := (mw_at mj_329_41).trans (z_istore (Nat.le_of_ble_eq_true rfl) (me_s1_mk (j := 3) (w := x3) rfl))
theorem mj_329_43 : mc_P 329 43 = some (.iload 4, 2, 0, 0, 0) := by decide +kernel
theorem s_329_43 {x0 x1 x2 x3 : Option Value} {w : Value} : mw d 329 Q 43 [x0, x1, x2, x3, some w] (st) h = mv_i w (mw d 329 Q 45 [x0, x1, x2, x3, some w] (w :: st) h) := (mw_at mj_329_43).trans (z_iload rfl)
theorem mj_329_45 : mc_P 329 45 = some (.aload_n 0, 1, 0, 0, 0) := by decide +kernel
theorem s_329_45 {x1 x2 x3 x4 : Option Value} {w : Value} : mw d 329 Q 45 [some w, x1, x2, x3, x4] (st) h = mv_a w (mw d 329 Q 46 [some w, x1, x2, x3, x4] (w :: st) h) := (mw_at mj_329_45).trans (z_aload_n rfl)
theorem mj_329_46 : mc_P 329 46 = some (.getfield 19, 3, 14, 6, 0) := by decide +kernel
theorem s_329_46 {x0 x1 x2 x3 x4 : Option Value} {o : Nat} : mw d 329 Q 46 [x0, x1, x2, x3, x4] (.ref o :: st) h = (mg h o 14 ∧ mw d 329 Q 49 [x0, x1, x2, x3, x4] (va_rf (mh_r h o 6) :: st) h) := (mw_at mj_329_46).trans (z_getr (by decide) (by decide) rfl)
theorem mj_329_49 : mc_P 329 49 = some (.iload_n 1, 1, 0, 0, 0) := by decide +kernel
theorem s_329_49 {x0 x2 x3 x4 : Option Value} {w : Value} : mw d 329 Q 49 [x0, some w, x2, x3, x4] (st) h = mv_i w (mw d 329 Q 50 [x0, some w, x2, x3, x4] (w :: st) h) := (mw_at mj_329_49).trans (z_iload_n rfl)
theorem mj_329_50 : mc_P 329 50 = some (.iaload, 1, 0, 0, 0) := by decide +kernel
theorem s_329_50 {x0 x1 x2 x3 x4 : Option Value} {o : Nat} {i : Int32} : mw d 329 Q 50 [x0, x1, x2, x3, x4] (.int i :: .ref o :: st) h = (mg h o 100 ∧ mx i (mh_l h o) ∧ mw d 329 Q 51 [x0, x1, x2, x3, x4] (.int (mh_i h o i.toNatClampNeg) :: st) h) := (mw_at mj_329_50).trans (z_iald)
theorem mj_329_51 : mc_P 329 51 = some (.if_icmp .ge 50, 3, 0, 0, 0) := by decide +kernel
theorem s_329_51 {x0 x1 x2 x3 x4 : Option Value} {x w : Int32} : mw d 329 Q 51 [x0, x1, x2, x3, x4] (.int w :: .int x :: st) h = mB (w ≤ x) (mw d 329 Q) 101 54 [x0, x1, x2, x3, x4] st h := (mw_at mj_329_51).trans (z_icmp_ge (by decide) rfl)
theorem mj_329_54 : mc_P 329 54 = some (.iload_n 3, 1, 0, 0, 0) := by decide +kernel
theorem s_329_54 {x0 x1 x2 x4 : Option Value} {w : Value} : mw d 329 Q 54 [x0, x1, x2, some w, x4] (st) h = mv_i w (mw d 329 Q 55 [x0, x1, x2, some w, x4] (w :: st) h) := (mw_at mj_329_54).trans (z_iload_n rfl)
theorem mj_329_55 : mc_P 329 55 = some (.ifCond .eq 46, 3, 0, 0, 0) := by decide +kernel
theorem s_329_55 {x0 x1 x2 x3 x4 : Option Value} {x : Int32} : mw d 329 Q 55 [x0, x1, x2, x3, x4] (.int x :: st) h = mB (x = 0) (mw d 329 Q) 101 58 [x0, x1, x2, x3, x4] st h := (mw_at mj_329_55).trans (z_if_eq (by decide) rfl)
theorem mj_329_58 : mc_P 329 58 = some (.aload_n 0, 1, 0, 0, 0) := by decide +kernel
theorem s_329_58 {x1 x2 x3 x4 : Option Value} {w : Value} : mw d 329 Q 58 [some w, x1, x2, x3, x4] (st) h = mv_a w (mw d 329 Q 59 [some w, x1, x2, x3, x4] (w :: st) h) := (mw_at mj_329_58).trans (z_aload_n rfl)
theorem mj_329_59 : mc_P 329 59 = some (.getfield 64, 3, 14, 25, 0) := by decide +kernel
theorem s_329_59 {x0 x1 x2 x3 x4 : Option Value} {o : Nat} : mw d 329 Q 59 [x0, x1, x2, x3, x4] (.ref o :: st) h = (mg h o 14 ∧ mw d 329 Q 62 [x0, x1, x2, x3, x4] (va_rf (mh_r h o 25) :: st) h) := (mw_at mj_329_59).trans (z_getr (by decide) (by decide) rfl)
theorem mj_329_62 : mc_P 329 62 = some (.aload_n 0, 1, 0, 0, 0) := by decide +kernel
theorem s_329_62 {x1 x2 x3 x4 : Option Value} {w : Value} : mw d 329 Q 62 [some w, x1, x2, x3, x4] (st) h = mv_a w (mw d 329 Q 63 [some w, x1, x2, x3, x4] (w :: st) h) := (mw_at mj_329_62).trans (z_aload_n rfl)
theorem mj_329_63 : mc_P 329 63 = some (.getfield 67, 3, 14, 26, 0) := by decide +kernel
theorem s_329_63 {x0 x1 x2 x3 x4 : Option Value} {o : Nat} : mw d 329 Q 63 [x0, x1, x2, x3, x4] (.ref o :: st) h = (mg h o 14 ∧ mw d 329 Q 66 [x0, x1, x2, x3, x4] (va_rf (mh_r h o 26) :: st) h) := (mw_at mj_329_63).trans (z_getr (by decide) (by decide) rfl)
theorem mj_329_66 : mc_P 329 66 = some (.iload_n 2, 1, 0, 0, 0) := by decide +kernel
theorem s_329_66 {x0 x1 x3 x4 : Option Value} {w : Value} : mw d 329 Q 66 [x0, x1, some w, x3, x4] (st) h = mv_i w (mw d 329 Q 67 [x0, x1, some w, x3, x4] (w :: st) h) := (mw_at mj_329_66).trans (z_iload_n rfl)
theorem mj_329_67 : mc_P 329 67 = some (.iaload, 1, 0, 0, 0) := by decide +kernel
theorem s_329_67 {x0 x1 x2 x3 x4 : Option Value} {o : Nat} {i : Int32} : mw d 329 Q 67 [x0, x1, x2, x3, x4] (.int i :: .ref o :: st) h = (mg h o 100 ∧ mx i (mh_l h o) ∧ mw d 329 Q 68 [x0, x1, x2, x3, x4] (.int (mh_i h o i.toNatClampNeg) :: st) h) := (mw_at mj_329_67).trans (z_iald)
theorem mj_329_68 : mc_P 329 68 = some (.iload 4, 2, 0, 0, 0) := by decide +kernel
theorem s_329_68 {x0 x1 x2 x3 : Option Value} {w : Value} : mw d 329 Q 68 [x0, x1, x2, x3, some w] (st) h = mv_i w (mw d 329 Q 70 [x0, x1, x2, x3, some w] (w :: st) h) := (mw_at mj_329_68).trans (z_iload rfl)
theorem mj_329_70 : mc_P 329 70 = some (.iadd, 1, 0, 0, 0) := by decide +kernel
theorem s_329_70 {x0 x1 x2 x3 x4 : Option Value} {x w : Int32} : mw d 329 Q 70 [x0, x1, x2, x3, x4] (.int w :: .int x :: st) h = mw d 329 Q 71 [x0, x1, x2, x3, x4] (.int (x + w) :: st) h := (mw_at mj_329_70).trans (z_iadd)
theorem mj_329_71 : mc_P 329 71 = some (.iaload, 1, 0, 0, 0) := by decide +kernel
theorem s_329_71 {x0 x1 x2 x3 x4 : Option Value} {o : Nat} {i : Int32} : mw d 329 Q 71 [x0, x1, x2, x3, x4] (.int i :: .ref o :: st) h = (mg h o 100 ∧ mx i (mh_l h o) ∧ mw d 329 Q 72 [x0, x1, x2, x3, x4] (.int (mh_i h o i.toNatClampNeg) :: st) h) := (mw_at mj_329_71).trans (z_iald)
theorem mj_329_72 : mc_P 329 72 = some (.aload_n 0, 1, 0, 0, 0) := by decide +kernel
theorem s_329_72 {x1 x2 x3 x4 : Option Value} {w : Value} : mw d 329 Q 72 [some w, x1, x2, x3, x4] (st) h = mv_a w (mw d 329 Q 73 [some w, x1, x2, x3, x4] (w :: st) h) := (mw_at mj_329_72).trans (z_aload_n rfl)
theorem mj_329_73 : mc_P 329 73 = some (.getfield 9, 3, 14, 1, 0) := by decide +kernel
theorem s_329_73 {x0 x1 x2 x3 x4 : Option Value} {o : Nat} : mw d 329 Q 73 [x0, x1, x2, x3, x4] (.ref o :: st) h = (mg h o 14 ∧ mw d 329 Q 76 [x0, x1, x2, x3, x4] (va_rf (mh_r h o 1) :: st) h) := (mw_at mj_329_73).trans (z_getr (by decide) (by decide) rfl)
theorem mj_329_76 : mc_P 329 76 = some (.aload_n 0, 1, 0, 0, 0) := by decide +kernel
theorem s_329_76 {x1 x2 x3 x4 : Option Value} {w : Value} : mw d 329 Q 76 [some w, x1, x2, x3, x4] (st) h = mv_a w (mw d 329 Q 77 [some w, x1, x2, x3, x4] (w :: st) h) := (mw_at mj_329_76).trans (z_aload_n rfl)
theorem mj_329_77 : mc_P 329 77 = some (.getfield 16, 3, 14, 5, 0) := by decide +kernel
theorem s_329_77 {x0 x1 x2 x3 x4 : Option Value} {o : Nat} : mw d 329 Q 77 [x0, x1, x2, x3, x4] (.ref o :: st) h = (mg h o 14 ∧ mw d 329 Q 80 [x0, x1, x2, x3, x4] (va_rf (mh_r h o 5) :: st) h) := (mw_at mj_329_77).trans (z_getr (by decide) (by decide) rfl)
theorem mj_329_80 : mc_P 329 80 = some (.iload_n 1, 1, 0, 0, 0) := by decide +kernel
theorem s_329_80 {x0 x2 x3 x4 : Option Value} {w : Value} : mw d 329 Q 80 [x0, some w, x2, x3, x4] (st) h = mv_i w (mw d 329 Q 81 [x0, some w, x2, x3, x4] (w :: st) h) := (mw_at mj_329_80).trans (z_iload_n rfl)
theorem mj_329_81 : mc_P 329 81 = some (.iaload, 1, 0, 0, 0) := by decide +kernel
theorem s_329_81 {x0 x1 x2 x3 x4 : Option Value} {o : Nat} {i : Int32} : mw d 329 Q 81 [x0, x1, x2, x3, x4] (.int i :: .ref o :: st) h = (mg h o 100 ∧ mx i (mh_l h o) ∧ mw d 329 Q 82 [x0, x1, x2, x3, x4] (.int (mh_i h o i.toNatClampNeg) :: st) h) := (mw_at mj_329_81).trans (z_iald)
theorem mj_329_82 : mc_P 329 82 = some (.iload 4, 2, 0, 0, 0) := by decide +kernel
theorem s_329_82 {x0 x1 x2 x3 : Option Value} {w : Value} : mw d 329 Q 82 [x0, x1, x2, x3, some w] (st) h = mv_i w (mw d 329 Q 84 [x0, x1, x2, x3, some w] (w :: st) h) := (mw_at mj_329_82).trans (z_iload rfl)
theorem mj_329_84 : mc_P 329 84 = some (.iadd, 1, 0, 0, 0) := by decide +kernel
theorem s_329_84 {x0 x1 x2 x3 x4 : Option Value} {x w : Int32} : mw d 329 Q 84 [x0, x1, x2, x3, x4] (.int w :: .int x :: st) h = mw d 329 Q 85 [x0, x1, x2, x3, x4] (.int (x + w) :: st) h := (mw_at mj_329_84).trans (z_iadd)
theorem mj_329_85 : mc_P 329 85 = some (.iaload, 1, 0, 0, 0) := by decide +kernel
theorem s_329_85 {x0 x1 x2 x3 x4 : Option Value} {o : Nat} {i : Int32} : mw d 329 Q 85 [x0, x1, x2, x3, x4] (.int i :: .ref o :: st) h = (mg h o 100 ∧ mx i (mh_l h o) ∧ mw d 329 Q 86 [x0, x1, x2, x3, x4] (.int (mh_i h o i.toNatClampNeg) :: st) h) := (mw_at mj_329_85).trans (z_iald)
theorem mj_329_86 : mc_P 329 86 = some (.if_icmp .ne 7, 3, 0, 0, 0) := by decide +kernel
theorem s_329_86 {x0 x1 x2 x3 x4 : Option Value} {x w : Int32} : mw d 329 Q 86 [x0, x1, x2, x3, x4] (.int w :: .int x :: st) h = mB (¬ x = w) (mw d 329 Q) 93 89 [x0, x1, x2, x3, x4] st h := (mw_at mj_329_86).trans (z_icmp_ne (by decide) rfl)
theorem mj_329_89 : mc_P 329 89 = some (.iconst 1, 1, 0, 0, 0) := by decide +kernel
theorem s_329_89 {x0 x1 x2 x3 x4 : Option Value} : mw d 329 Q 89 [x0, x1, x2, x3, x4] (st) h = mw d 329 Q 90 [x0, x1, x2, x3, x4] (.int 1 :: st) h := (mw_at mj_329_89).trans (z_iconst (by decide))
theorem mj_329_90 : mc_P 329 90 = some (.goto 4, 3, 0, 0, 0) := by decide +kernel
theorem s_329_90 {x0 x1 x2 x3 x4 : Option Value} : mw d 329 Q 90 [x0, x1, x2, x3, x4] (st) h = mw d 329 Q 94 [x0, x1, x2, x3, x4] (st) h := (mw_at mj_329_90).trans (z_goto (by decide))
theorem mj_329_93 : mc_P 329 93 = some (.iconst 0, 1, 0, 0, 0) := by decide +kernel
theorem s_329_93 {x0 x1 x2 x3 x4 : Option Value} : mw d 329 Q 93 [x0, x1, x2, x3, x4] (st) h = mw d 329 Q 94 [x0, x1, x2, x3, x4] (.int 0 :: st) h := (mw_at mj_329_93).trans (z_iconst (by decide))
theorem mj_329_94 : mc_P 329 94 = some (.istore_n 3, 1, 0, 0, 0) := by decide +kernel
theorem s_329_94 {x0 x1 x2 x3 x4 : Option Value} {w : Int32} : mw d 329 Q 94 [x0, x1, x2, x3, x4] (.int w :: st) h = mw d 329 Q 95 [x0, x1, mk2 x2, some (.int w), x4] (st) h := (mw_at mj_329_94).trans (z_istore_n (Nat.le_of_ble_eq_true rfl) (me_s1_mk (j := 2) (w := x2) rfl))
theorem mj_329_95 : mc_P 329 95 = some (.iinc 4 1, 3, 0, 0, 0) := by decide +kernel
theorem s_329_95 {x0 x1 x2 x3 : Option Value} {w : Int32} : mw d 329 Q 95 [x0, x1, x2, x3, some (.int w)] (st) h = mw d 329 Q 98 [x0, x1, x2, mk2 x3, some (.int (w + 1))] (st) h := (mw_at mj_329_95).trans (z_iinc rfl (Nat.le_of_ble_eq_true rfl) (by decide) (me_s1_mk (j := 3) (w := x3) rfl))
theorem mj_329_98 : mc_P 329 98 = some (.goto (-55), 3, 0, 0, 0) := by decide +kernel
theorem s_329_98 {x0 x1 x2 x3 x4 : Option Value} : mw d 329 Q 98 [x0, x1, x2, x3, x4] (st) h = mw d 329 Q 43 [x0, x1, x2, x3, x4] (st) h := (mw_at mj_329_98).trans (z_goto (by decide))
theorem mj_329_101 : mc_P 329 101 = some (.iload_n 3, 1, 0, 0, 0) := by decide +kernel
theorem s_329_101 {x0 x1 x2 x4 : Option Value} {w : Value} : mw d 329 Q 101 [x0, x1, x2, some w, x4] (st) h = mv_i w (mw d 329 Q 102 [x0, x1, x2, some w, x4] (w :: st) h) := (mw_at mj_329_101).trans (z_iload_n rfl)
theorem mj_329_102 : mc_P 329 102 = some (.ifCond .eq 5, 3, 0, 0, 0) := by decide +kernel
theorem s_329_102 {x0 x1 x2 x3 x4 : Option Value} {x : Int32} : mw d 329 Q 102 [x0, x1, x2, x3, x4] (.int x :: st) h = mB (x = 0) (mw d 329 Q) 107 105 [x0, x1, x2, x3, x4] st h := (mw_at mj_329_102).trans (z_if_eq (by decide) rfl)
theorem mj_329_105 : mc_P 329 105 = some (.iload_n 2, 1, 0, 0, 0) := by decide +kernel
theorem s_329_105 {x0 x1 x3 x4 : Option Value} {w : Value} : mw d 329 Q 105 [x0, x1, some w, x3, x4] (st) h = mv_i w (mw d 329 Q 106 [x0, x1, some w, x3, x4] (w :: st) h) := (mw_at mj_329_105).trans (z_iload_n rfl)
theorem mj_329_106 : mc_P 329 106 = some (.ireturn, 1, 0, 0, 0) := by decide +kernel
theorem s_329_106 {x0 x1 x2 x3 x4 : Option Value} {x : Int32} : mw d 329 Q 106 [x0, x1, x2, x3, x4] ([.int x]) h = (Q (some (.int x)) h) := (mw_at mj_329_106).trans (z_iret)
theorem mj_329_107 : mc_P 329 107 = some (.iinc 2 1, 3, 0, 0, 0) := by decide +kernel
theorem s_329_107 {x0 x1 x3 x4 : Option Value} {w : Int32} : mw d 329 Q 107 [x0, x1, some (.int w), x3, x4] (st) h = mw d 329 Q 110 [x0, mk2 x1, some (.int (w + 1)), x3, x4] (st) h := (mw_at mj_329_107).trans (z_iinc rfl (Nat.le_of_ble_eq_true rfl) (by decide) (me_s1_mk (j := 1) (w := x1) rfl))
theorem mj_329_110 : mc_P 329 110 = some (.goto (-108), 3, 0, 0, 0) := by decide +kernel
theorem s_329_110 {x0 x1 x2 x3 x4 : Option Value} : mw d 329 Q 110 [x0, x1, x2, x3, x4] (st) h = mw d 329 Q 2 [x0, x1, x2, x3, x4] (st) h := (mw_at mj_329_110).trans (z_goto (by decide))
theorem mj_329_113 : mc_P 329 113 = some (.iconst 0, 1, 0, 0, 0) := by decide +kernel
theorem s_329_113 {x0 x1 x2 x3 x4 : Option Value} : mw d 329 Q 113 [x0, x1, x2, x3, x4] (st) h = mw d 329 Q 114 [x0, x1, x2, x3, x4] (.int 0 :: st) h := (mw_at mj_329_113).trans (z_iconst (by decide))
theorem mj_329_114 : mc_P 329 114 = some (.istore_n 2, 1, 0, 0, 0) := by decide +kernel
theorem s_329_114 {x0 x1 x2 x3 x4 : Option Value} {w : Int32} : mw d 329 Q 114 [x0, x1, x2, x3, x4] (.int w :: st) h = mw d 329 Q 115 [x0, mk2 x1, some (.int w), x3, x4] (st) h := (mw_at mj_329_114).trans (z_istore_n (Nat.le_of_ble_eq_true rfl) (me_s1_mk (j := 1) (w := x1) rfl))
theorem mj_329_115 : mc_P 329 115 = some (.iload_n 2, 1, 0, 0, 0) := by decide +kernel
theorem s_329_115 {x0 x1 x3 x4 : Option Value} {w : Value} : mw d 329 Q 115 [x0, x1, some w, x3, x4] (st) h = mv_i w (mw d 329 Q 116 [x0, x1, some w, x3, x4] (w :: st) h) := (mw_at mj_329_115).trans (z_iload_n rfl)
theorem mj_329_116 : mc_P 329 116 = some (.aload_n 0, 1, 0, 0, 0) := by decide +kernel
theorem s_329_116 {x1 x2 x3 x4 : Option Value} {w : Value} : mw d 329 Q 116 [some w, x1, x2, x3, x4] (st) h = mv_a w (mw d 329 Q 117 [some w, x1, x2, x3, x4] (w :: st) h) := (mw_at mj_329_116).trans (z_aload_n rfl)
theorem mj_329_117 : mc_P 329 117 = some (.getfield 19, 3, 14, 6, 0) := by decide +kernel
theorem s_329_117 {x0 x1 x2 x3 x4 : Option Value} {o : Nat} : mw d 329 Q 117 [x0, x1, x2, x3, x4] (.ref o :: st) h = (mg h o 14 ∧ mw d 329 Q 120 [x0, x1, x2, x3, x4] (va_rf (mh_r h o 6) :: st) h) := (mw_at mj_329_117).trans (z_getr (by decide) (by decide) rfl)
theorem mj_329_120 : mc_P 329 120 = some (.iload_n 1, 1, 0, 0, 0) := by decide +kernel
theorem s_329_120 {x0 x2 x3 x4 : Option Value} {w : Value} : mw d 329 Q 120 [x0, some w, x2, x3, x4] (st) h = mv_i w (mw d 329 Q 121 [x0, some w, x2, x3, x4] (w :: st) h) := (mw_at mj_329_120).trans (z_iload_n rfl)
theorem mj_329_121 : mc_P 329 121 = some (.iaload, 1, 0, 0, 0) := by decide +kernel
theorem s_329_121 {x0 x1 x2 x3 x4 : Option Value} {o : Nat} {i : Int32} : mw d 329 Q 121 [x0, x1, x2, x3, x4] (.int i :: .ref o :: st) h = (mg h o 100 ∧ mx i (mh_l h o) ∧ mw d 329 Q 122 [x0, x1, x2, x3, x4] (.int (mh_i h o i.toNatClampNeg) :: st) h) := (mw_at mj_329_121).trans (z_iald)
theorem mj_329_122 : mc_P 329 122 = some (.if_icmp .ge 38, 3, 0, 0, 0) := by decide +kernel
theorem s_329_122 {x0 x1 x2 x3 x4 : Option Value} {x w : Int32} : mw d 329 Q 122 [x0, x1, x2, x3, x4] (.int w :: .int x :: st) h = mB (w ≤ x) (mw d 329 Q) 160 125 [x0, x1, x2, x3, x4] st h := (mw_at mj_329_122).trans (z_icmp_ge (by decide) rfl)
theorem mj_329_125 : mc_P 329 125 = some (.aload_n 0, 1, 0, 0, 0) := by decide +kernel
theorem s_329_125 {x1 x2 x3 x4 : Option Value} {w : Value} : mw d 329 Q 125 [some w, x1, x2, x3, x4] (st) h = mv_a w (mw d 329 Q 126 [some w, x1, x2, x3, x4] (w :: st) h) := (mw_at mj_329_125).trans (z_aload_n rfl)
theorem mj_329_126 : mc_P 329 126 = some (.getfield 64, 3, 14, 25, 0) := by decide +kernel
theorem s_329_126 {x0 x1 x2 x3 x4 : Option Value} {o : Nat} : mw d 329 Q 126 [x0, x1, x2, x3, x4] (.ref o :: st) h = (mg h o 14 ∧ mw d 329 Q 129 [x0, x1, x2, x3, x4] (va_rf (mh_r h o 25) :: st) h) := (mw_at mj_329_126).trans (z_getr (by decide) (by decide) rfl)
theorem mj_329_129 : mc_P 329 129 = some (.aload_n 0, 1, 0, 0, 0) := by decide +kernel
theorem s_329_129 {x1 x2 x3 x4 : Option Value} {w : Value} : mw d 329 Q 129 [some w, x1, x2, x3, x4] (st) h = mv_a w (mw d 329 Q 130 [some w, x1, x2, x3, x4] (w :: st) h) := (mw_at mj_329_129).trans (z_aload_n rfl)
theorem mj_329_130 : mc_P 329 130 = some (.getfield 67, 3, 14, 26, 0) := by decide +kernel
theorem s_329_130 {x0 x1 x2 x3 x4 : Option Value} {o : Nat} : mw d 329 Q 130 [x0, x1, x2, x3, x4] (.ref o :: st) h = (mg h o 14 ∧ mw d 329 Q 133 [x0, x1, x2, x3, x4] (va_rf (mh_r h o 26) :: st) h) := (mw_at mj_329_130).trans (z_getr (by decide) (by decide) rfl)
theorem mj_329_133 : mc_P 329 133 = some (.aload_n 0, 1, 0, 0, 0) := by decide +kernel
theorem s_329_133 {x1 x2 x3 x4 : Option Value} {w : Value} : mw d 329 Q 133 [some w, x1, x2, x3, x4] (st) h = mv_a w (mw d 329 Q 134 [some w, x1, x2, x3, x4] (w :: st) h) := (mw_at mj_329_133).trans (z_aload_n rfl)
theorem mj_329_134 : mc_P 329 134 = some (.getfield 309, 3, 14, 27, 0) := by decide +kernel
theorem s_329_134 {x0 x1 x2 x3 x4 : Option Value} {o : Nat} : mw d 329 Q 134 [x0, x1, x2, x3, x4] (.ref o :: st) h = (mg h o 14 ∧ mw d 329 Q 137 [x0, x1, x2, x3, x4] (.int (mh_i h o 27) :: st) h) := (mw_at mj_329_134).trans (z_geti (by decide) (by decide) (Or.inl rfl))
theorem mj_329_137 : mc_P 329 137 = some (.iaload, 1, 0, 0, 0) := by decide +kernel
theorem s_329_137 {x0 x1 x2 x3 x4 : Option Value} {o : Nat} {i : Int32} : mw d 329 Q 137 [x0, x1, x2, x3, x4] (.int i :: .ref o :: st) h = (mg h o 100 ∧ mx i (mh_l h o) ∧ mw d 329 Q 138 [x0, x1, x2, x3, x4] (.int (mh_i h o i.toNatClampNeg) :: st) h) := (mw_at mj_329_137).trans (z_iald)
theorem mj_329_138 : mc_P 329 138 = some (.iload_n 2, 1, 0, 0, 0) := by decide +kernel
theorem s_329_138 {x0 x1 x3 x4 : Option Value} {w : Value} : mw d 329 Q 138 [x0, x1, some w, x3, x4] (st) h = mv_i w (mw d 329 Q 139 [x0, x1, some w, x3, x4] (w :: st) h) := (mw_at mj_329_138).trans (z_iload_n rfl)
theorem mj_329_139 : mc_P 329 139 = some (.iadd, 1, 0, 0, 0) := by decide +kernel
theorem s_329_139 {x0 x1 x2 x3 x4 : Option Value} {x w : Int32} : mw d 329 Q 139 [x0, x1, x2, x3, x4] (.int w :: .int x :: st) h = mw d 329 Q 140 [x0, x1, x2, x3, x4] (.int (x + w) :: st) h := (mw_at mj_329_139).trans (z_iadd)
theorem mj_329_140 : mc_P 329 140 = some (.aload_n 0, 1, 0, 0, 0) := by decide +kernel
theorem s_329_140 {x1 x2 x3 x4 : Option Value} {w : Value} : mw d 329 Q 140 [some w, x1, x2, x3, x4] (st) h = mv_a w (mw d 329 Q 141 [some w, x1, x2, x3, x4] (w :: st) h) := (mw_at mj_329_140).trans (z_aload_n rfl)
theorem mj_329_141 : mc_P 329 141 = some (.getfield 9, 3, 14, 1, 0) := by decide +kernel
theorem s_329_141 {x0 x1 x2 x3 x4 : Option Value} {o : Nat} : mw d 329 Q 141 [x0, x1, x2, x3, x4] (.ref o :: st) h = (mg h o 14 ∧ mw d 329 Q 144 [x0, x1, x2, x3, x4] (va_rf (mh_r h o 1) :: st) h) := (mw_at mj_329_141).trans (z_getr (by decide) (by decide) rfl)
theorem mj_329_144 : mc_P 329 144 = some (.aload_n 0, 1, 0, 0, 0) := by decide +kernel
theorem s_329_144 {x1 x2 x3 x4 : Option Value} {w : Value} : mw d 329 Q 144 [some w, x1, x2, x3, x4] (st) h = mv_a w (mw d 329 Q 145 [some w, x1, x2, x3, x4] (w :: st) h) := (mw_at mj_329_144).trans (z_aload_n rfl)
theorem mj_329_145 : mc_P 329 145 = some (.getfield 16, 3, 14, 5, 0) := by decide +kernel
theorem s_329_145 {x0 x1 x2 x3 x4 : Option Value} {o : Nat} : mw d 329 Q 145 [x0, x1, x2, x3, x4] (.ref o :: st) h = (mg h o 14 ∧ mw d 329 Q 148 [x0, x1, x2, x3, x4] (va_rf (mh_r h o 5) :: st) h) := (mw_at mj_329_145).trans (z_getr (by decide) (by decide) rfl)
theorem mj_329_148 : mc_P 329 148 = some (.iload_n 1, 1, 0, 0, 0) := by decide +kernel
theorem s_329_148 {x0 x2 x3 x4 : Option Value} {w : Value} : mw d 329 Q 148 [x0, some w, x2, x3, x4] (st) h = mv_i w (mw d 329 Q 149 [x0, some w, x2, x3, x4] (w :: st) h) := (mw_at mj_329_148).trans (z_iload_n rfl)
theorem mj_329_149 : mc_P 329 149 = some (.iaload, 1, 0, 0, 0) := by decide +kernel
theorem s_329_149 {x0 x1 x2 x3 x4 : Option Value} {o : Nat} {i : Int32} : mw d 329 Q 149 [x0, x1, x2, x3, x4] (.int i :: .ref o :: st) h = (mg h o 100 ∧ mx i (mh_l h o) ∧ mw d 329 Q 150 [x0, x1, x2, x3, x4] (.int (mh_i h o i.toNatClampNeg) :: st) h) := (mw_at mj_329_149).trans (z_iald)
theorem mj_329_150 : mc_P 329 150 = some (.iload_n 2, 1, 0, 0, 0) := by decide +kernel
theorem s_329_150 {x0 x1 x3 x4 : Option Value} {w : Value} : mw d 329 Q 150 [x0, x1, some w, x3, x4] (st) h = mv_i w (mw d 329 Q 151 [x0, x1, some w, x3, x4] (w :: st) h) := (mw_at mj_329_150).trans (z_iload_n rfl)
theorem mj_329_151 : mc_P 329 151 = some (.iadd, 1, 0, 0, 0) := by decide +kernel
theorem s_329_151 {x0 x1 x2 x3 x4 : Option Value} {x w : Int32} : mw d 329 Q 151 [x0, x1, x2, x3, x4] (.int w :: .int x :: st) h = mw d 329 Q 152 [x0, x1, x2, x3, x4] (.int (x + w) :: st) h := (mw_at mj_329_151).trans (z_iadd)
theorem mj_329_152 : mc_P 329 152 = some (.iaload, 1, 0, 0, 0) := by decide +kernel
theorem s_329_152 {x0 x1 x2 x3 x4 : Option Value} {o : Nat} {i : Int32} : mw d 329 Q 152 [x0, x1, x2, x3, x4] (.int i :: .ref o :: st) h = (mg h o 100 ∧ mx i (mh_l h o) ∧ mw d 329 Q 153 [x0, x1, x2, x3, x4] (.int (mh_i h o i.toNatClampNeg) :: st) h) := (mw_at mj_329_152).trans (z_iald)
theorem mj_329_153 : mc_P 329 153 = some (.iastore, 1, 0, 0, 0) := by decide +kernel
theorem s_329_153 {x0 x1 x2 x3 x4 : Option Value} {o : Nat} {i w : Int32} : mw d 329 Q 153 [x0, x1, x2, x3, x4] (.int w :: .int i :: .ref o :: st) h = (mg h o 100 ∧ mx i (mh_l h o) ∧ mw d 329 Q 154 [x0, x1, x2, x3, x4] (st) (mh_si h o i.toNatClampNeg w)) := (mw_at mj_329_153).trans (z_iast)
theorem mj_329_154 : mc_P 329 154 = some (.iinc 2 1, 3, 0, 0, 0) := by decide +kernel
theorem s_329_154 {x0 x1 x3 x4 : Option Value} {w : Int32} : mw d 329 Q 154 [x0, x1, some (.int w), x3, x4] (st) h = mw d 329 Q 157 [x0, mk2 x1, some (.int (w + 1)), x3, x4] (st) h := (mw_at mj_329_154).trans (z_iinc rfl (Nat.le_of_ble_eq_true rfl) (by decide) (me_s1_mk (j := 1) (w := x1) rfl))
theorem mj_329_157 : mc_P 329 157 = some (.goto (-42), 3, 0, 0, 0) := by decide +kernel
theorem s_329_157 {x0 x1 x2 x3 x4 : Option Value} : mw d 329 Q 157 [x0, x1, x2, x3, x4] (st) h = mw d 329 Q 115 [x0, x1, x2, x3, x4] (st) h := (mw_at mj_329_157).trans (z_goto (by decide))
theorem mj_329_160 : mc_P 329 160 = some (.aload_n 0, 1, 0, 0, 0) := by decide +kernel
theorem s_329_160 {x1 x2 x3 x4 : Option Value} {w : Value} : mw d 329 Q 160 [some w, x1, x2, x3, x4] (st) h = mv_a w (mw d 329 Q 161 [some w, x1, x2, x3, x4] (w :: st) h) := (mw_at mj_329_160).trans (z_aload_n rfl)
theorem mj_329_161 : mc_P 329 161 = some (.dup, 1, 0, 0, 0) := by decide +kernel
theorem s_329_161 {x0 x1 x2 x3 x4 : Option Value} {w : Value} : mw d 329 Q 161 [x0, x1, x2, x3, x4] (w :: st) h = (w.category = 1 ∧ mw d 329 Q 162 [x0, x1, x2, x3, x4] (w :: w :: st) h) := (mw_at mj_329_161).trans (z_dup)
theorem mj_329_162 : mc_P 329 162 = some (.getfield 309, 3, 14, 27, 0) := by decide +kernel
theorem s_329_162 {x0 x1 x2 x3 x4 : Option Value} {o : Nat} : mw d 329 Q 162 [x0, x1, x2, x3, x4] (.ref o :: st) h = (mg h o 14 ∧ mw d 329 Q 165 [x0, x1, x2, x3, x4] (.int (mh_i h o 27) :: st) h) := (mw_at mj_329_162).trans (z_geti (by decide) (by decide) (Or.inl rfl))
theorem mj_329_165 : mc_P 329 165 = some (.iconst 1, 1, 0, 0, 0) := by decide +kernel
theorem s_329_165 {x0 x1 x2 x3 x4 : Option Value} : mw d 329 Q 165 [x0, x1, x2, x3, x4] (st) h = mw d 329 Q 166 [x0, x1, x2, x3, x4] (.int 1 :: st) h := (mw_at mj_329_165).trans (z_iconst (by decide))
theorem mj_329_166 : mc_P 329 166 = some (.iadd, 1, 0, 0, 0) := by decide +kernel
theorem s_329_166 {x0 x1 x2 x3 x4 : Option Value} {x w : Int32} : mw d 329 Q 166 [x0, x1, x2, x3, x4] (.int w :: .int x :: st) h = mw d 329 Q 167 [x0, x1, x2, x3, x4] (.int (x + w) :: st) h := (mw_at mj_329_166).trans (z_iadd)
theorem mj_329_167 : mc_P 329 167 = some (.putfield 309, 3, 14, 27, 0) := by decide +kernel
theorem s_329_167 {x0 x1 x2 x3 x4 : Option Value} {o : Nat} {w : Int32} : mw d 329 Q 167 [x0, x1, x2, x3, x4] (.int w :: .ref o :: st) h = (mg h o 14 ∧ mw d 329 Q 170 [x0, x1, x2, x3, x4] (st) (mh_si h o 27 w)) := (mw_at mj_329_167).trans (z_puti (by decide) (by decide) rfl)
theorem mj_329_170 : mc_P 329 170 = some (.aload_n 0, 1, 0, 0, 0) := by decide +kernel
theorem s_329_170 {x1 x2 x3 x4 : Option Value} {w : Value} : mw d 329 Q 170 [some w, x1, x2, x3, x4] (st) h = mv_a w (mw d 329 Q 171 [some w, x1, x2, x3, x4] (w :: st) h) := (mw_at mj_329_170).trans (z_aload_n rfl)
theorem mj_329_171 : mc_P 329 171 = some (.getfield 67, 3, 14, 26, 0) := by decide +kernel
theorem s_329_171 {x0 x1 x2 x3 x4 : Option Value} {o : Nat} : mw d 329 Q 171 [x0, x1, x2, x3, x4] (.ref o :: st) h = (mg h o 14 ∧ mw d 329 Q 174 [x0, x1, x2, x3, x4] (va_rf (mh_r h o 26) :: st) h) := (mw_at mj_329_171).trans (z_getr (by decide) (by decide) rfl)
theorem mj_329_174 : mc_P 329 174 = some (.aload_n 0, 1, 0, 0, 0) := by decide +kernel
theorem s_329_174 {x1 x2 x3 x4 : Option Value} {w : Value} : mw d 329 Q 174 [some w, x1, x2, x3, x4] (st) h = mv_a w (mw d 329 Q 175 [some w, x1, x2, x3, x4] (w :: st) h) := (mw_at mj_329_174).trans (z_aload_n rfl)
theorem mj_329_175 : mc_P 329 175 = some (.getfield 309, 3, 14, 27, 0) := by decide +kernel
theorem s_329_175 {x0 x1 x2 x3 x4 : Option Value} {o : Nat} : mw d 329 Q 175 [x0, x1, x2, x3, x4] (.ref o :: st) h = (mg h o 14 ∧ mw d 329 Q 178 [x0, x1, x2, x3, x4] (.int (mh_i h o 27) :: st) h) := (mw_at mj_329_175).trans (z_geti (by decide) (by decide) (Or.inl rfl))
theorem mj_329_178 : mc_P 329 178 = some (.aload_n 0, 1, 0, 0, 0) := by decide +kernel
theorem s_329_178 {x1 x2 x3 x4 : Option Value} {w : Value} : mw d 329 Q 178 [some w, x1, x2, x3, x4] (st) h = mv_a w (mw d 329 Q 179 [some w, x1, x2, x3, x4] (w :: st) h) := (mw_at mj_329_178).trans (z_aload_n rfl)
theorem mj_329_179 : mc_P 329 179 = some (.getfield 67, 3, 14, 26, 0) := by decide +kernel
theorem s_329_179 {x0 x1 x2 x3 x4 : Option Value} {o : Nat} : mw d 329 Q 179 [x0, x1, x2, x3, x4] (.ref o :: st) h = (mg h o 14 ∧ mw d 329 Q 182 [x0, x1, x2, x3, x4] (va_rf (mh_r h o 26) :: st) h) := (mw_at mj_329_179).trans (z_getr (by decide) (by decide) rfl)
theorem mj_329_182 : mc_P 329 182 = some (.aload_n 0, 1, 0, 0, 0) := by decide +kernel
theorem s_329_182 {x1 x2 x3 x4 : Option Value} {w : Value} : mw d 329 Q 182 [some w, x1, x2, x3, x4] (st) h = mv_a w (mw d 329 Q 183 [some w, x1, x2, x3, x4] (w :: st) h) := (mw_at mj_329_182).trans (z_aload_n rfl)
theorem mj_329_183 : mc_P 329 183 = some (.getfield 309, 3, 14, 27, 0) := by decide +kernel
theorem s_329_183 {x0 x1 x2 x3 x4 : Option Value} {o : Nat} : mw d 329 Q 183 [x0, x1, x2, x3, x4] (.ref o :: st) h = (mg h o 14 ∧ mw d 329 Q 186 [x0, x1, x2, x3, x4] (.int (mh_i h o 27) :: st) h) := (mw_at mj_329_183).trans (z_geti (by decide) (by decide) (Or.inl rfl))
theorem mj_329_186 : mc_P 329 186 = some (.iconst 1, 1, 0, 0, 0) := by decide +kernel
theorem s_329_186 {x0 x1 x2 x3 x4 : Option Value} : mw d 329 Q 186 [x0, x1, x2, x3, x4] (st) h = mw d 329 Q 187 [x0, x1, x2, x3, x4] (.int 1 :: st) h := (mw_at mj_329_186).trans (z_iconst (by decide))
theorem mj_329_187 : mc_P 329 187 = some (.isub, 1, 0, 0, 0) := by decide +kernel
theorem s_329_187 {x0 x1 x2 x3 x4 : Option Value} {x w : Int32} : mw d 329 Q 187 [x0, x1, x2, x3, x4] (.int w :: .int x :: st) h = mw d 329 Q 188 [x0, x1, x2, x3, x4] (.int (x - w) :: st) h := (mw_at mj_329_187).trans (z_isub)
theorem mj_329_188 : mc_P 329 188 = some (.iaload, 1, 0, 0, 0) := by decide +kernel
theorem s_329_188 {x0 x1 x2 x3 x4 : Option Value} {o : Nat} {i : Int32} : mw d 329 Q 188 [x0, x1, x2, x3, x4] (.int i :: .ref o :: st) h = (mg h o 100 ∧ mx i (mh_l h o) ∧ mw d 329 Q 189 [x0, x1, x2, x3, x4] (.int (mh_i h o i.toNatClampNeg) :: st) h) := (mw_at mj_329_188).trans (z_iald)
theorem mj_329_189 : mc_P 329 189 = some (.aload_n 0, 1, 0, 0, 0) := by decide +kernel
theorem s_329_189 {x1 x2 x3 x4 : Option Value} {w : Value} : mw d 329 Q 189 [some w, x1, x2, x3, x4] (st) h = mv_a w (mw d 329 Q 190 [some w, x1, x2, x3, x4] (w :: st) h) := (mw_at mj_329_189).trans (z_aload_n rfl)
theorem mj_329_190 : mc_P 329 190 = some (.getfield 19, 3, 14, 6, 0) := by decide +kernel
theorem s_329_190 {x0 x1 x2 x3 x4 : Option Value} {o : Nat} : mw d 329 Q 190 [x0, x1, x2, x3, x4] (.ref o :: st) h = (mg h o 14 ∧ mw d 329 Q 193 [x0, x1, x2, x3, x4] (va_rf (mh_r h o 6) :: st) h) := (mw_at mj_329_190).trans (z_getr (by decide) (by decide) rfl)
theorem mj_329_193 : mc_P 329 193 = some (.iload_n 1, 1, 0, 0, 0) := by decide +kernel
theorem s_329_193 {x0 x2 x3 x4 : Option Value} {w : Value} : mw d 329 Q 193 [x0, some w, x2, x3, x4] (st) h = mv_i w (mw d 329 Q 194 [x0, some w, x2, x3, x4] (w :: st) h) := (mw_at mj_329_193).trans (z_iload_n rfl)
theorem mj_329_194 : mc_P 329 194 = some (.iaload, 1, 0, 0, 0) := by decide +kernel
theorem s_329_194 {x0 x1 x2 x3 x4 : Option Value} {o : Nat} {i : Int32} : mw d 329 Q 194 [x0, x1, x2, x3, x4] (.int i :: .ref o :: st) h = (mg h o 100 ∧ mx i (mh_l h o) ∧ mw d 329 Q 195 [x0, x1, x2, x3, x4] (.int (mh_i h o i.toNatClampNeg) :: st) h) := (mw_at mj_329_194).trans (z_iald)
theorem mj_329_195 : mc_P 329 195 = some (.iadd, 1, 0, 0, 0) := by decide +kernel
theorem s_329_195 {x0 x1 x2 x3 x4 : Option Value} {x w : Int32} : mw d 329 Q 195 [x0, x1, x2, x3, x4] (.int w :: .int x :: st) h = mw d 329 Q 196 [x0, x1, x2, x3, x4] (.int (x + w) :: st) h := (mw_at mj_329_195).trans (z_iadd)
theorem mj_329_196 : mc_P 329 196 = some (.iastore, 1, 0, 0, 0) := by decide +kernel
theorem s_329_196 {x0 x1 x2 x3 x4 : Option Value} {o : Nat} {i w : Int32} : mw d 329 Q 196 [x0, x1, x2, x3, x4] (.int w :: .int i :: .ref o :: st) h = (mg h o 100 ∧ mx i (mh_l h o) ∧ mw d 329 Q 197 [x0, x1, x2, x3, x4] (st) (mh_si h o i.toNatClampNeg w)) := (mw_at mj_329_196).trans (z_iast)
theorem mj_329_197 : mc_P 329 197 = some (.aload_n 0, 1, 0, 0, 0) := by decide +kernel
theorem s_329_197 {x1 x2 x3 x4 : Option Value} {w : Value} : mw d 329 Q 197 [some w, x1, x2, x3, x4] (st) h = mv_a w (mw d 329 Q 198 [some w, x1, x2, x3, x4] (w :: st) h) := (mw_at mj_329_197).trans (z_aload_n rfl)
theorem mj_329_198 : mc_P 329 198 = some (.getfield 309, 3, 14, 27, 0) := by decide +kernel
theorem s_329_198 {x0 x1 x2 x3 x4 : Option Value} {o : Nat} : mw d 329 Q 198 [x0, x1, x2, x3, x4] (.ref o :: st) h = (mg h o 14 ∧ mw d 329 Q 201 [x0, x1, x2, x3, x4] (.int (mh_i h o 27) :: st) h) := (mw_at mj_329_198).trans (z_geti (by decide) (by decide) (Or.inl rfl))
theorem mj_329_201 : mc_P 329 201 = some (.iconst 1, 1, 0, 0, 0) := by decide +kernel
theorem s_329_201 {x0 x1 x2 x3 x4 : Option Value} : mw d 329 Q 201 [x0, x1, x2, x3, x4] (st) h = mw d 329 Q 202 [x0, x1, x2, x3, x4] (.int 1 :: st) h := (mw_at mj_329_201).trans (z_iconst (by decide))
theorem mj_329_202 : mc_P 329 202 = some (.isub, 1, 0, 0, 0) := by decide +kernel
theorem s_329_202 {x0 x1 x2 x3 x4 : Option Value} {x w : Int32} : mw d 329 Q 202 [x0, x1, x2, x3, x4] (.int w :: .int x :: st) h = mw d 329 Q 203 [x0, x1, x2, x3, x4] (.int (x - w) :: st) h := (mw_at mj_329_202).trans (z_isub)
theorem mj_329_203 : mc_P 329 203 = some (.ireturn, 1, 0, 0, 0) := by decide +kernel
theorem s_329_203 {x0 x1 x2 x3 x4 : Option Value} {x : Int32} : mw d 329 Q 203 [x0, x1, x2, x3, x4] ([.int x]) h = (Q (some (.int x)) h) := (mw_at mj_329_203).trans (z_iret)
theorem e_329 {a0 : Nat} {a1 : Int32} : mcall d 329 [.ref a0, .int a1] h Q = mw d 329 Q 0 [some (.ref a0), some (.int a1), none, none, none] [] h := by
  show mw d 329 Q 0 (me_en (mc_nl 329) _) [] h = _
  rw [nl_329]; rfl

/-! InvariantDeskModel.keep(I)V -/
theorem mj_330_0 : mc_P 330 0 = some (.iconst 0, 1, 0, 0, 0) := by decide +kernel
theorem s_330_0 {x0 x1 x2 x3 x4 x5 : Option Value} : mw d 330 Q 0 [x0, x1, x2, x3, x4, x5] (st) h = mw d 330 Q 1 [x0, x1, x2, x3, x4, x5] (.int 0 :: st) h := (mw_at mj_330_0).trans (z_iconst (by decide))
theorem mj_330_1 : mc_P 330 1 = some (.istore_n 2, 1, 0, 0, 0) := by decide +kernel
theorem s_330_1 {x0 x1 x2 x3 x4 x5 : Option Value} {w : Int32} : mw d 330 Q 1 [x0, x1, x2, x3, x4, x5] (.int w :: st) h = mw d 330 Q 2 [x0, mk2 x1, some (.int w), x3, x4, x5] (st) h := (mw_at mj_330_1).trans (z_istore_n (Nat.le_of_ble_eq_true rfl) (me_s1_mk (j := 1) (w := x1) rfl))
theorem mj_330_2 : mc_P 330 2 = some (.iload_n 1, 1, 0, 0, 0) := by decide +kernel
theorem s_330_2 {x0 x2 x3 x4 x5 : Option Value} {w : Value} : mw d 330 Q 2 [x0, some w, x2, x3, x4, x5] (st) h = mv_i w (mw d 330 Q 3 [x0, some w, x2, x3, x4, x5] (w :: st) h) := (mw_at mj_330_2).trans (z_iload_n rfl)
theorem mj_330_3 : mc_P 330 3 = some (.istore_n 3, 1, 0, 0, 0) := by decide +kernel
theorem s_330_3 {x0 x1 x2 x3 x4 x5 : Option Value} {w : Int32} : mw d 330 Q 3 [x0, x1, x2, x3, x4, x5] (.int w :: st) h = mw d 330 Q 4 [x0, x1, mk2 x2, some (.int w), x4, x5] (st) h := (mw_at mj_330_3).trans (z_istore_n (Nat.le_of_ble_eq_true rfl) (me_s1_mk (j := 2) (w := x2) rfl))
theorem mj_330_4 : mc_P 330 4 = some (.iconst 0, 1, 0, 0, 0) := by decide +kernel
theorem s_330_4 {x0 x1 x2 x3 x4 x5 : Option Value} : mw d 330 Q 4 [x0, x1, x2, x3, x4, x5] (st) h = mw d 330 Q 5 [x0, x1, x2, x3, x4, x5] (.int 0 :: st) h := (mw_at mj_330_4).trans (z_iconst (by decide))
theorem mj_330_5 : mc_P 330 5 = some (.istore 4, 2, 0, 0, 0) := by decide +kernel
theorem s_330_5 {x0 x1 x2 x3 x4 x5 : Option Value} {w : Int32} : mw d 330 Q 5 [x0, x1, x2, x3, x4, x5] (.int w :: st) h = mw d 330 Q 7 [x0, x1, x2, mk2 x3, some (.int w), x5] (st) h := (mw_at mj_330_5).trans (z_istore (Nat.le_of_ble_eq_true rfl) (me_s1_mk (j := 3) (w := x3) rfl))
theorem mj_330_7 : mc_P 330 7 = some (.iload_n 3, 1, 0, 0, 0) := by decide +kernel
theorem s_330_7 {x0 x1 x2 x4 x5 : Option Value} {w : Value} : mw d 330 Q 7 [x0, x1, x2, some w, x4, x5] (st) h = mv_i w (mw d 330 Q 8 [x0, x1, x2, some w, x4, x5] (w :: st) h) := (mw_at mj_330_7).trans (z_iload_n rfl)
theorem mj_330_8 : mc_P 330 8 = some (.iconst (-1), 1, 0, 0, 0) := by decide +kernel
theorem s_330_8 {x0 x1 x2 x3 x4 x5 : Option Value} : mw d 330 Q 8 [x0, x1, x2, x3, x4, x5] (st) h = mw d 330 Q 9 [x0, x1, x2, x3, x4, x5] (.int (-1) :: st) h := (mw_at mj_330_8).trans (z_iconst (by decide))
theorem mj_330_9 : mc_P 330 9 = some (.if_icmp .eq 149, 3, 0, 0, 0) := by decide +kernel
theorem s_330_9 {x0 x1 x2 x3 x4 x5 : Option Value} {x w : Int32} : mw d 330 Q 9 [x0, x1, x2, x3, x4, x5] (.int w :: .int x :: st) h = mB (x = w) (mw d 330 Q) 158 12 [x0, x1, x2, x3, x4, x5] st h := (mw_at mj_330_9).trans (z_icmp_eq (by decide) rfl)
theorem mj_330_12 : mc_P 330 12 = some (.aload_n 0, 1, 0, 0, 0) := by decide +kernel
theorem s_330_12 {x1 x2 x3 x4 x5 : Option Value} {w : Value} : mw d 330 Q 12 [some w, x1, x2, x3, x4, x5] (st) h = mv_a w (mw d 330 Q 13 [some w, x1, x2, x3, x4, x5] (w :: st) h) := (mw_at mj_330_12).trans (z_aload_n rfl)
theorem mj_330_13 : mc_P 330 13 = some (.aload_n 0, 1, 0, 0, 0) := by decide +kernel
theorem s_330_13 {x1 x2 x3 x4 x5 : Option Value} {w : Value} : mw d 330 Q 13 [some w, x1, x2, x3, x4, x5] (st) h = mv_a w (mw d 330 Q 14 [some w, x1, x2, x3, x4, x5] (w :: st) h) := (mw_at mj_330_13).trans (z_aload_n rfl)
theorem mj_330_14 : mc_P 330 14 = some (.getfield 27, 3, 14, 11, 0) := by decide +kernel
theorem s_330_14 {x0 x1 x2 x3 x4 x5 : Option Value} {o : Nat} : mw d 330 Q 14 [x0, x1, x2, x3, x4, x5] (.ref o :: st) h = (mg h o 14 ∧ mw d 330 Q 17 [x0, x1, x2, x3, x4, x5] (va_rf (mh_r h o 11) :: st) h) := (mw_at mj_330_14).trans (z_getr (by decide) (by decide) rfl)
theorem mj_330_17 : mc_P 330 17 = some (.iload_n 3, 1, 0, 0, 0) := by decide +kernel
theorem s_330_17 {x0 x1 x2 x4 x5 : Option Value} {w : Value} : mw d 330 Q 17 [x0, x1, x2, some w, x4, x5] (st) h = mv_i w (mw d 330 Q 18 [x0, x1, x2, some w, x4, x5] (w :: st) h) := (mw_at mj_330_17).trans (z_iload_n rfl)
theorem mj_330_18 : mc_P 330 18 = some (.iaload, 1, 0, 0, 0) := by decide +kernel
theorem s_330_18 {x0 x1 x2 x3 x4 x5 : Option Value} {o : Nat} {i : Int32} : mw d 330 Q 18 [x0, x1, x2, x3, x4, x5] (.int i :: .ref o :: st) h = (mg h o 100 ∧ mx i (mh_l h o) ∧ mw d 330 Q 19 [x0, x1, x2, x3, x4, x5] (.int (mh_i h o i.toNatClampNeg) :: st) h) := (mw_at mj_330_18).trans (z_iald)
theorem mj_330_19 : mc_P 330 19 = some (.aload_n 0, 1, 0, 0, 0) := by decide +kernel
theorem s_330_19 {x1 x2 x3 x4 x5 : Option Value} {w : Value} : mw d 330 Q 19 [some w, x1, x2, x3, x4, x5] (st) h = mv_a w (mw d 330 Q 20 [some w, x1, x2, x3, x4, x5] (w :: st) h) := (mw_at mj_330_19).trans (z_aload_n rfl)
theorem mj_330_20 : mc_P 330 20 = some (.getfield 30, 3, 14, 12, 0) := by decide +kernel
theorem s_330_20 {x0 x1 x2 x3 x4 x5 : Option Value} {o : Nat} : mw d 330 Q 20 [x0, x1, x2, x3, x4, x5] (.ref o :: st) h = (mg h o 14 ∧ mw d 330 Q 23 [x0, x1, x2, x3, x4, x5] (va_rf (mh_r h o 12) :: st) h) := (mw_at mj_330_20).trans (z_getr (by decide) (by decide) rfl)
theorem mj_330_23 : mc_P 330 23 = some (.iload_n 3, 1, 0, 0, 0) := by decide +kernel
theorem s_330_23 {x0 x1 x2 x4 x5 : Option Value} {w : Value} : mw d 330 Q 23 [x0, x1, x2, some w, x4, x5] (st) h = mv_i w (mw d 330 Q 24 [x0, x1, x2, some w, x4, x5] (w :: st) h) := (mw_at mj_330_23).trans (z_iload_n rfl)
theorem mj_330_24 : mc_P 330 24 = some (.iaload, 1, 0, 0, 0) := by decide +kernel
theorem s_330_24 {x0 x1 x2 x3 x4 x5 : Option Value} {o : Nat} {i : Int32} : mw d 330 Q 24 [x0, x1, x2, x3, x4, x5] (.int i :: .ref o :: st) h = (mg h o 100 ∧ mx i (mh_l h o) ∧ mw d 330 Q 25 [x0, x1, x2, x3, x4, x5] (.int (mh_i h o i.toNatClampNeg) :: st) h) := (mw_at mj_330_24).trans (z_iald)
theorem mj_330_25 : mc_P 330 25 = some (.aload_n 0, 1, 0, 0, 0) := by decide +kernel
theorem s_330_25 {x1 x2 x3 x4 x5 : Option Value} {w : Value} : mw d 330 Q 25 [some w, x1, x2, x3, x4, x5] (st) h = mv_a w (mw d 330 Q 26 [some w, x1, x2, x3, x4, x5] (w :: st) h) := (mw_at mj_330_25).trans (z_aload_n rfl)
theorem mj_330_26 : mc_P 330 26 = some (.getfield 27, 3, 14, 11, 0) := by decide +kernel
theorem s_330_26 {x0 x1 x2 x3 x4 x5 : Option Value} {o : Nat} : mw d 330 Q 26 [x0, x1, x2, x3, x4, x5] (.ref o :: st) h = (mg h o 14 ∧ mw d 330 Q 29 [x0, x1, x2, x3, x4, x5] (va_rf (mh_r h o 11) :: st) h) := (mw_at mj_330_26).trans (z_getr (by decide) (by decide) rfl)
theorem mj_330_29 : mc_P 330 29 = some (.iload_n 3, 1, 0, 0, 0) := by decide +kernel
theorem s_330_29 {x0 x1 x2 x4 x5 : Option Value} {w : Value} : mw d 330 Q 29 [x0, x1, x2, some w, x4, x5] (st) h = mv_i w (mw d 330 Q 30 [x0, x1, x2, some w, x4, x5] (w :: st) h) := (mw_at mj_330_29).trans (z_iload_n rfl)
theorem mj_330_30 : mc_P 330 30 = some (.iaload, 1, 0, 0, 0) := by decide +kernel
theorem s_330_30 {x0 x1 x2 x3 x4 x5 : Option Value} {o : Nat} {i : Int32} : mw d 330 Q 30 [x0, x1, x2, x3, x4, x5] (.int i :: .ref o :: st) h = (mg h o 100 ∧ mx i (mh_l h o) ∧ mw d 330 Q 31 [x0, x1, x2, x3, x4, x5] (.int (mh_i h o i.toNatClampNeg) :: st) h) := (mw_at mj_330_30).trans (z_iald)
theorem mj_330_31 : mc_P 330 31 = some (.bipush 13, 2, 0, 0, 0) := by decide +kernel
theorem s_330_31 {x0 x1 x2 x3 x4 x5 : Option Value} : mw d 330 Q 31 [x0, x1, x2, x3, x4, x5] (st) h = mw d 330 Q 33 [x0, x1, x2, x3, x4, x5] (.int 13 :: st) h := (mw_at mj_330_31).trans (z_bipush (by decide))
theorem mj_330_33 : mc_P 330 33 = some (.if_icmp .ne 16, 3, 0, 0, 0) := by decide +kernel
theorem s_330_33 {x0 x1 x2 x3 x4 x5 : Option Value} {x w : Int32} : mw d 330 Q 33 [x0, x1, x2, x3, x4, x5] (.int w :: .int x :: st) h = mB (¬ x = w) (mw d 330 Q) 49 36 [x0, x1, x2, x3, x4, x5] st h := (mw_at mj_330_33).trans (z_icmp_ne (by decide) rfl)
theorem mj_330_36 : mc_P 330 36 = some (.aload_n 0, 1, 0, 0, 0) := by decide +kernel
theorem s_330_36 {x1 x2 x3 x4 x5 : Option Value} {w : Value} : mw d 330 Q 36 [some w, x1, x2, x3, x4, x5] (st) h = mv_a w (mw d 330 Q 37 [some w, x1, x2, x3, x4, x5] (w :: st) h) := (mw_at mj_330_36).trans (z_aload_n rfl)
theorem mj_330_37 : mc_P 330 37 = some (.aload_n 0, 1, 0, 0, 0) := by decide +kernel
theorem s_330_37 {x1 x2 x3 x4 x5 : Option Value} {w : Value} : mw d 330 Q 37 [some w, x1, x2, x3, x4, x5] (st) h = mv_a w (mw d 330 Q 38 [some w, x1, x2, x3, x4, x5] (w :: st) h) := (mw_at mj_330_37).trans (z_aload_n rfl)
theorem mj_330_38 : mc_P 330 38 = some (.getfield 33, 3, 14, 13, 0) := by decide +kernel
theorem s_330_38 {x0 x1 x2 x3 x4 x5 : Option Value} {o : Nat} : mw d 330 Q 38 [x0, x1, x2, x3, x4, x5] (.ref o :: st) h = (mg h o 14 ∧ mw d 330 Q 41 [x0, x1, x2, x3, x4, x5] (va_rf (mh_r h o 13) :: st) h) := (mw_at mj_330_38).trans (z_getr (by decide) (by decide) rfl)
theorem mj_330_41 : mc_P 330 41 = some (.iload_n 3, 1, 0, 0, 0) := by decide +kernel
theorem s_330_41 {x0 x1 x2 x4 x5 : Option Value} {w : Value} : mw d 330 Q 41 [x0, x1, x2, some w, x4, x5] (st) h = mv_i w (mw d 330 Q 42 [x0, x1, x2, some w, x4, x5] (w :: st) h) := (mw_at mj_330_41).trans (z_iload_n rfl)
theorem mj_330_42 : mc_P 330 42 = some (.iaload, 1, 0, 0, 0) := by decide +kernel
theorem s_330_42 {x0 x1 x2 x3 x4 x5 : Option Value} {o : Nat} {i : Int32} : mw d 330 Q 42 [x0, x1, x2, x3, x4, x5] (.int i :: .ref o :: st) h = (mg h o 100 ∧ mx i (mh_l h o) ∧ mw d 330 Q 43 [x0, x1, x2, x3, x4, x5] (.int (mh_i h o i.toNatClampNeg) :: st) h) := (mw_at mj_330_42).trans (z_iald)
theorem mj_330_43 : mc_P 330 43 = some (.invokevirtual 312, 3, 329, 14, 2) := by decide +kernel
theorem s_330_43 {x0 x1 x2 x3 x4 x5 : Option Value} {o : Nat} {a1 : Value} : mw (d + 1) 330 Q 43 [x0, x1, x2, x3, x4, x5] (a1 :: .ref o :: st) h = (mg h o 14 ∧ mca st 8 ∧ mca [.ref o, a1] 5 ∧ mcall d 329 [.ref o, a1] h (mK (d + 1) 330 Q 46 [x0, x1, x2, x3, x4, x5] st)) := (mw_at mj_330_43).trans ((z_invv (As := [a1]) (by decide) rfl rfl).trans (congrArg (And _) (congrArg (And _) (mC_nl nl_329))))
theorem mj_330_46 : mc_P 330 46 = some (.goto 9, 3, 0, 0, 0) := by decide +kernel
theorem s_330_46 {x0 x1 x2 x3 x4 x5 : Option Value} : mw d 330 Q 46 [x0, x1, x2, x3, x4, x5] (st) h = mw d 330 Q 55 [x0, x1, x2, x3, x4, x5] (st) h := (mw_at mj_330_46).trans (z_goto (by decide))
theorem mj_330_49 : mc_P 330 49 = some (.aload_n 0, 1, 0, 0, 0) := by decide +kernel
theorem s_330_49 {x1 x2 x3 x4 x5 : Option Value} {w : Value} : mw d 330 Q 49 [some w, x1, x2, x3, x4, x5] (st) h = mv_a w (mw d 330 Q 50 [some w, x1, x2, x3, x4, x5] (w :: st) h) := (mw_at mj_330_49).trans (z_aload_n rfl)
theorem mj_330_50 : mc_P 330 50 = some (.getfield 33, 3, 14, 13, 0) := by decide +kernel
theorem s_330_50 {x0 x1 x2 x3 x4 x5 : Option Value} {o : Nat} : mw d 330 Q 50 [x0, x1, x2, x3, x4, x5] (.ref o :: st) h = (mg h o 14 ∧ mw d 330 Q 53 [x0, x1, x2, x3, x4, x5] (va_rf (mh_r h o 13) :: st) h) := (mw_at mj_330_50).trans (z_getr (by decide) (by decide) rfl)
theorem mj_330_53 : mc_P 330 53 = some (.iload_n 3, 1, 0, 0, 0) := by decide +kernel
theorem s_330_53 {x0 x1 x2 x4 x5 : Option Value} {w : Value} : mw d 330 Q 53 [x0, x1, x2, some w, x4, x5] (st) h = mv_i w (mw d 330 Q 54 [x0, x1, x2, some w, x4, x5] (w :: st) h) := (mw_at mj_330_53).trans (z_iload_n rfl)
theorem mj_330_54 : mc_P 330 54 = some (.iaload, 1, 0, 0, 0) := by decide +kernel
theorem s_330_54 {x0 x1 x2 x3 x4 x5 : Option Value} {o : Nat} {i : Int32} : mw d 330 Q 54 [x0, x1, x2, x3, x4, x5] (.int i :: .ref o :: st) h = (mg h o 100 ∧ mx i (mh_l h o) ∧ mw d 330 Q 55 [x0, x1, x2, x3, x4, x5] (.int (mh_i h o i.toNatClampNeg) :: st) h) := (mw_at mj_330_54).trans (z_iald)
theorem mj_330_55 : mc_P 330 55 = some (.iload 4, 2, 0, 0, 0) := by decide +kernel
theorem s_330_55 {x0 x1 x2 x3 x5 : Option Value} {w : Value} : mw d 330 Q 55 [x0, x1, x2, x3, some w, x5] (st) h = mv_i w (mw d 330 Q 57 [x0, x1, x2, x3, some w, x5] (w :: st) h) := (mw_at mj_330_55).trans (z_iload rfl)
theorem mj_330_57 : mc_P 330 57 = some (.invokevirtual 315, 3, 300, 14, 5) := by decide +kernel
theorem s_330_57 {x0 x1 x2 x3 x4 x5 : Option Value} {o : Nat} {a1 a2 a3 a4 : Value} : mw (d + 1) 330 Q 57 [x0, x1, x2, x3, x4, x5] (a4 :: a3 :: a2 :: a1 :: .ref o :: st) h = (mg h o 14 ∧ mca st 8 ∧ mca [.ref o, a1, a2, a3, a4] 6 ∧ mcall d 300 [.ref o, a1, a2, a3, a4] h (mK (d + 1) 330 Q 60 [x0, x1, x2, x3, x4, x5] st)) := (mw_at mj_330_57).trans ((z_invv (As := [a1, a2, a3, a4]) (by decide) rfl rfl).trans (congrArg (And _) (congrArg (And _) (mC_nl nl_300))))
theorem mj_330_60 : mc_P 330 60 = some (.istore 5, 2, 0, 0, 0) := by decide +kernel
theorem s_330_60 {x0 x1 x2 x3 x4 x5 : Option Value} {w : Int32} : mw d 330 Q 60 [x0, x1, x2, x3, x4, x5] (.int w :: st) h = mw d 330 Q 62 [x0, x1, x2, x3, mk2 x4, some (.int w)] (st) h := (mw_at mj_330_60).trans (z_istore (Nat.le_of_ble_eq_true rfl) (me_s1_mk (j := 4) (w := x4) rfl))
theorem mj_330_62 : mc_P 330 62 = some (.aload_n 0, 1, 0, 0, 0) := by decide +kernel
theorem s_330_62 {x1 x2 x3 x4 x5 : Option Value} {w : Value} : mw d 330 Q 62 [some w, x1, x2, x3, x4, x5] (st) h = mv_a w (mw d 330 Q 63 [some w, x1, x2, x3, x4, x5] (w :: st) h) := (mw_at mj_330_62).trans (z_aload_n rfl)
theorem mj_330_63 : mc_P 330 63 = some (.getfield 42, 3, 14, 16, 0) := by decide +kernel
theorem s_330_63 {x0 x1 x2 x3 x4 x5 : Option Value} {o : Nat} : mw d 330 Q 63 [x0, x1, x2, x3, x4, x5] (.ref o :: st) h = (mg h o 14 ∧ mw d 330 Q 66 [x0, x1, x2, x3, x4, x5] (va_rf (mh_r h o 16) :: st) h) := (mw_at mj_330_63).trans (z_getr (by decide) (by decide) rfl)
theorem mj_330_66 : mc_P 330 66 = some (.iload_n 3, 1, 0, 0, 0) := by decide +kernel
theorem s_330_66 {x0 x1 x2 x4 x5 : Option Value} {w : Value} : mw d 330 Q 66 [x0, x1, x2, some w, x4, x5] (st) h = mv_i w (mw d 330 Q 67 [x0, x1, x2, some w, x4, x5] (w :: st) h) := (mw_at mj_330_66).trans (z_iload_n rfl)
theorem mj_330_67 : mc_P 330 67 = some (.iaload, 1, 0, 0, 0) := by decide +kernel
theorem s_330_67 {x0 x1 x2 x3 x4 x5 : Option Value} {o : Nat} {i : Int32} : mw d 330 Q 67 [x0, x1, x2, x3, x4, x5] (.int i :: .ref o :: st) h = (mg h o 100 ∧ mx i (mh_l h o) ∧ mw d 330 Q 68 [x0, x1, x2, x3, x4, x5] (.int (mh_i h o i.toNatClampNeg) :: st) h) := (mw_at mj_330_67).trans (z_iald)
theorem mj_330_68 : mc_P 330 68 = some (.iconst (-1), 1, 0, 0, 0) := by decide +kernel
theorem s_330_68 {x0 x1 x2 x3 x4 x5 : Option Value} : mw d 330 Q 68 [x0, x1, x2, x3, x4, x5] (st) h = mw d 330 Q 69 [x0, x1, x2, x3, x4, x5] (.int (-1) :: st) h := (mw_at mj_330_68).trans (z_iconst (by decide))
theorem mj_330_69 : mc_P 330 69 = some (.if_icmp .eq 33, 3, 0, 0, 0) := by decide +kernel
theorem s_330_69 {x0 x1 x2 x3 x4 x5 : Option Value} {x w : Int32} : mw d 330 Q 69 [x0, x1, x2, x3, x4, x5] (.int w :: .int x :: st) h = mB (x = w) (mw d 330 Q) 102 72 [x0, x1, x2, x3, x4, x5] st h := (mw_at mj_330_69).trans (z_icmp_eq (by decide) rfl)
theorem mj_330_72 : mc_P 330 72 = some (.iload_n 3, 1, 0, 0, 0) := by decide +kernel
theorem s_330_72 {x0 x1 x2 x4 x5 : Option Value} {w : Value} : mw d 330 Q 72 [x0, x1, x2, some w, x4, x5] (st) h = mv_i w (mw d 330 Q 73 [x0, x1, x2, some w, x4, x5] (w :: st) h) := (mw_at mj_330_72).trans (z_iload_n rfl)
theorem mj_330_73 : mc_P 330 73 = some (.iload_n 1, 1, 0, 0, 0) := by decide +kernel
theorem s_330_73 {x0 x2 x3 x4 x5 : Option Value} {w : Value} : mw d 330 Q 73 [x0, some w, x2, x3, x4, x5] (st) h = mv_i w (mw d 330 Q 74 [x0, some w, x2, x3, x4, x5] (w :: st) h) := (mw_at mj_330_73).trans (z_iload_n rfl)
theorem mj_330_74 : mc_P 330 74 = some (.if_icmp .eq 28, 3, 0, 0, 0) := by decide +kernel
theorem s_330_74 {x0 x1 x2 x3 x4 x5 : Option Value} {x w : Int32} : mw d 330 Q 74 [x0, x1, x2, x3, x4, x5] (.int w :: .int x :: st) h = mB (x = w) (mw d 330 Q) 102 77 [x0, x1, x2, x3, x4, x5] st h := (mw_at mj_330_74).trans (z_icmp_eq (by decide) rfl)
theorem mj_330_77 : mc_P 330 77 = some (.aload_n 0, 1, 0, 0, 0) := by decide +kernel
theorem s_330_77 {x1 x2 x3 x4 x5 : Option Value} {w : Value} : mw d 330 Q 77 [some w, x1, x2, x3, x4, x5] (st) h = mv_a w (mw d 330 Q 78 [some w, x1, x2, x3, x4, x5] (w :: st) h) := (mw_at mj_330_77).trans (z_aload_n rfl)
theorem mj_330_78 : mc_P 330 78 = some (.getfield 45, 3, 14, 18, 0) := by decide +kernel
theorem s_330_78 {x0 x1 x2 x3 x4 x5 : Option Value} {o : Nat} : mw d 330 Q 78 [x0, x1, x2, x3, x4, x5] (.ref o :: st) h = (mg h o 14 ∧ mw d 330 Q 81 [x0, x1, x2, x3, x4, x5] (va_rf (mh_r h o 18) :: st) h) := (mw_at mj_330_78).trans (z_getr (by decide) (by decide) rfl)
theorem mj_330_81 : mc_P 330 81 = some (.iload_n 2, 1, 0, 0, 0) := by decide +kernel
theorem s_330_81 {x0 x1 x3 x4 x5 : Option Value} {w : Value} : mw d 330 Q 81 [x0, x1, some w, x3, x4, x5] (st) h = mv_i w (mw d 330 Q 82 [x0, x1, some w, x3, x4, x5] (w :: st) h) := (mw_at mj_330_81).trans (z_iload_n rfl)
theorem mj_330_82 : mc_P 330 82 = some (.aload_n 0, 1, 0, 0, 0) := by decide +kernel
theorem s_330_82 {x1 x2 x3 x4 x5 : Option Value} {w : Value} : mw d 330 Q 82 [some w, x1, x2, x3, x4, x5] (st) h = mv_a w (mw d 330 Q 83 [some w, x1, x2, x3, x4, x5] (w :: st) h) := (mw_at mj_330_82).trans (z_aload_n rfl)
theorem mj_330_83 : mc_P 330 83 = some (.getfield 42, 3, 14, 16, 0) := by decide +kernel
theorem s_330_83 {x0 x1 x2 x3 x4 x5 : Option Value} {o : Nat} : mw d 330 Q 83 [x0, x1, x2, x3, x4, x5] (.ref o :: st) h = (mg h o 14 ∧ mw d 330 Q 86 [x0, x1, x2, x3, x4, x5] (va_rf (mh_r h o 16) :: st) h) := (mw_at mj_330_83).trans (z_getr (by decide) (by decide) rfl)
theorem mj_330_86 : mc_P 330 86 = some (.iload_n 3, 1, 0, 0, 0) := by decide +kernel
theorem s_330_86 {x0 x1 x2 x4 x5 : Option Value} {w : Value} : mw d 330 Q 86 [x0, x1, x2, some w, x4, x5] (st) h = mv_i w (mw d 330 Q 87 [x0, x1, x2, some w, x4, x5] (w :: st) h) := (mw_at mj_330_86).trans (z_iload_n rfl)
theorem mj_330_87 : mc_P 330 87 = some (.iaload, 1, 0, 0, 0) := by decide +kernel
theorem s_330_87 {x0 x1 x2 x3 x4 x5 : Option Value} {o : Nat} {i : Int32} : mw d 330 Q 87 [x0, x1, x2, x3, x4, x5] (.int i :: .ref o :: st) h = (mg h o 100 ∧ mx i (mh_l h o) ∧ mw d 330 Q 88 [x0, x1, x2, x3, x4, x5] (.int (mh_i h o i.toNatClampNeg) :: st) h) := (mw_at mj_330_87).trans (z_iald)
theorem mj_330_88 : mc_P 330 88 = some (.iastore, 1, 0, 0, 0) := by decide +kernel
theorem s_330_88 {x0 x1 x2 x3 x4 x5 : Option Value} {o : Nat} {i w : Int32} : mw d 330 Q 88 [x0, x1, x2, x3, x4, x5] (.int w :: .int i :: .ref o :: st) h = (mg h o 100 ∧ mx i (mh_l h o) ∧ mw d 330 Q 89 [x0, x1, x2, x3, x4, x5] (st) (mh_si h o i.toNatClampNeg w)) := (mw_at mj_330_88).trans (z_iast)
theorem mj_330_89 : mc_P 330 89 = some (.aload_n 0, 1, 0, 0, 0) := by decide +kernel
theorem s_330_89 {x1 x2 x3 x4 x5 : Option Value} {w : Value} : mw d 330 Q 89 [some w, x1, x2, x3, x4, x5] (st) h = mv_a w (mw d 330 Q 90 [some w, x1, x2, x3, x4, x5] (w :: st) h) := (mw_at mj_330_89).trans (z_aload_n rfl)
theorem mj_330_90 : mc_P 330 90 = some (.getfield 45, 3, 14, 18, 0) := by decide +kernel
theorem s_330_90 {x0 x1 x2 x3 x4 x5 : Option Value} {o : Nat} : mw d 330 Q 90 [x0, x1, x2, x3, x4, x5] (.ref o :: st) h = (mg h o 14 ∧ mw d 330 Q 93 [x0, x1, x2, x3, x4, x5] (va_rf (mh_r h o 18) :: st) h) := (mw_at mj_330_90).trans (z_getr (by decide) (by decide) rfl)
theorem mj_330_93 : mc_P 330 93 = some (.iload_n 2, 1, 0, 0, 0) := by decide +kernel
theorem s_330_93 {x0 x1 x3 x4 x5 : Option Value} {w : Value} : mw d 330 Q 93 [x0, x1, some w, x3, x4, x5] (st) h = mv_i w (mw d 330 Q 94 [x0, x1, some w, x3, x4, x5] (w :: st) h) := (mw_at mj_330_93).trans (z_iload_n rfl)
theorem mj_330_94 : mc_P 330 94 = some (.iconst 1, 1, 0, 0, 0) := by decide +kernel
theorem s_330_94 {x0 x1 x2 x3 x4 x5 : Option Value} : mw d 330 Q 94 [x0, x1, x2, x3, x4, x5] (st) h = mw d 330 Q 95 [x0, x1, x2, x3, x4, x5] (.int 1 :: st) h := (mw_at mj_330_94).trans (z_iconst (by decide))
theorem mj_330_95 : mc_P 330 95 = some (.iadd, 1, 0, 0, 0) := by decide +kernel
theorem s_330_95 {x0 x1 x2 x3 x4 x5 : Option Value} {x w : Int32} : mw d 330 Q 95 [x0, x1, x2, x3, x4, x5] (.int w :: .int x :: st) h = mw d 330 Q 96 [x0, x1, x2, x3, x4, x5] (.int (x + w) :: st) h := (mw_at mj_330_95).trans (z_iadd)
theorem mj_330_96 : mc_P 330 96 = some (.iload 4, 2, 0, 0, 0) := by decide +kernel
theorem s_330_96 {x0 x1 x2 x3 x5 : Option Value} {w : Value} : mw d 330 Q 96 [x0, x1, x2, x3, some w, x5] (st) h = mv_i w (mw d 330 Q 98 [x0, x1, x2, x3, some w, x5] (w :: st) h) := (mw_at mj_330_96).trans (z_iload rfl)
theorem mj_330_98 : mc_P 330 98 = some (.iastore, 1, 0, 0, 0) := by decide +kernel
theorem s_330_98 {x0 x1 x2 x3 x4 x5 : Option Value} {o : Nat} {i w : Int32} : mw d 330 Q 98 [x0, x1, x2, x3, x4, x5] (.int w :: .int i :: .ref o :: st) h = (mg h o 100 ∧ mx i (mh_l h o) ∧ mw d 330 Q 99 [x0, x1, x2, x3, x4, x5] (st) (mh_si h o i.toNatClampNeg w)) := (mw_at mj_330_98).trans (z_iast)
theorem mj_330_99 : mc_P 330 99 = some (.iinc 2 2, 3, 0, 0, 0) := by decide +kernel
theorem s_330_99 {x0 x1 x3 x4 x5 : Option Value} {w : Int32} : mw d 330 Q 99 [x0, x1, some (.int w), x3, x4, x5] (st) h = mw d 330 Q 102 [x0, mk2 x1, some (.int (w + 2)), x3, x4, x5] (st) h := (mw_at mj_330_99).trans (z_iinc rfl (Nat.le_of_ble_eq_true rfl) (by decide) (me_s1_mk (j := 1) (w := x1) rfl))
theorem mj_330_102 : mc_P 330 102 = some (.aload_n 0, 1, 0, 0, 0) := by decide +kernel
theorem s_330_102 {x1 x2 x3 x4 x5 : Option Value} {w : Value} : mw d 330 Q 102 [some w, x1, x2, x3, x4, x5] (st) h = mv_a w (mw d 330 Q 103 [some w, x1, x2, x3, x4, x5] (w :: st) h) := (mw_at mj_330_102).trans (z_aload_n rfl)
theorem mj_330_103 : mc_P 330 103 = some (.getfield 36, 3, 14, 14, 0) := by decide +kernel
theorem s_330_103 {x0 x1 x2 x3 x4 x5 : Option Value} {o : Nat} : mw d 330 Q 103 [x0, x1, x2, x3, x4, x5] (.ref o :: st) h = (mg h o 14 ∧ mw d 330 Q 106 [x0, x1, x2, x3, x4, x5] (va_rf (mh_r h o 14) :: st) h) := (mw_at mj_330_103).trans (z_getr (by decide) (by decide) rfl)
theorem mj_330_106 : mc_P 330 106 = some (.iload_n 3, 1, 0, 0, 0) := by decide +kernel
theorem s_330_106 {x0 x1 x2 x4 x5 : Option Value} {w : Value} : mw d 330 Q 106 [x0, x1, x2, some w, x4, x5] (st) h = mv_i w (mw d 330 Q 107 [x0, x1, x2, some w, x4, x5] (w :: st) h) := (mw_at mj_330_106).trans (z_iload_n rfl)
theorem mj_330_107 : mc_P 330 107 = some (.iaload, 1, 0, 0, 0) := by decide +kernel
theorem s_330_107 {x0 x1 x2 x3 x4 x5 : Option Value} {o : Nat} {i : Int32} : mw d 330 Q 107 [x0, x1, x2, x3, x4, x5] (.int i :: .ref o :: st) h = (mg h o 100 ∧ mx i (mh_l h o) ∧ mw d 330 Q 108 [x0, x1, x2, x3, x4, x5] (.int (mh_i h o i.toNatClampNeg) :: st) h) := (mw_at mj_330_107).trans (z_iald)
theorem mj_330_108 : mc_P 330 108 = some (.iconst (-1), 1, 0, 0, 0) := by decide +kernel
theorem s_330_108 {x0 x1 x2 x3 x4 x5 : Option Value} : mw d 330 Q 108 [x0, x1, x2, x3, x4, x5] (st) h = mw d 330 Q 109 [x0, x1, x2, x3, x4, x5] (.int (-1) :: st) h := (mw_at mj_330_108).trans (z_iconst (by decide))
theorem mj_330_109 : mc_P 330 109 = some (.if_icmp .eq 17, 3, 0, 0, 0) := by decide +kernel
theorem s_330_109 {x0 x1 x2 x3 x4 x5 : Option Value} {x w : Int32} : mw d 330 Q 109 [x0, x1, x2, x3, x4, x5] (.int w :: .int x :: st) h = mB (x = w) (mw d 330 Q) 126 112 [x0, x1, x2, x3, x4, x5] st h := (mw_at mj_330_109).trans (z_icmp_eq (by decide) rfl)
theorem mj_330_112 : mc_P 330 112 = some (.aload_n 0, 1, 0, 0, 0) := by decide +kernel
theorem s_330_112 {x1 x2 x3 x4 x5 : Option Value} {w : Value} : mw d 330 Q 112 [some w, x1, x2, x3, x4, x5] (st) h = mv_a w (mw d 330 Q 113 [some w, x1, x2, x3, x4, x5] (w :: st) h) := (mw_at mj_330_112).trans (z_aload_n rfl)
theorem mj_330_113 : mc_P 330 113 = some (.getfield 36, 3, 14, 14, 0) := by decide +kernel
theorem s_330_113 {x0 x1 x2 x3 x4 x5 : Option Value} {o : Nat} : mw d 330 Q 113 [x0, x1, x2, x3, x4, x5] (.ref o :: st) h = (mg h o 14 ∧ mw d 330 Q 116 [x0, x1, x2, x3, x4, x5] (va_rf (mh_r h o 14) :: st) h) := (mw_at mj_330_113).trans (z_getr (by decide) (by decide) rfl)
theorem mj_330_116 : mc_P 330 116 = some (.iload_n 3, 1, 0, 0, 0) := by decide +kernel
theorem s_330_116 {x0 x1 x2 x4 x5 : Option Value} {w : Value} : mw d 330 Q 116 [x0, x1, x2, some w, x4, x5] (st) h = mv_i w (mw d 330 Q 117 [x0, x1, x2, some w, x4, x5] (w :: st) h) := (mw_at mj_330_116).trans (z_iload_n rfl)
theorem mj_330_117 : mc_P 330 117 = some (.iaload, 1, 0, 0, 0) := by decide +kernel
theorem s_330_117 {x0 x1 x2 x3 x4 x5 : Option Value} {o : Nat} {i : Int32} : mw d 330 Q 117 [x0, x1, x2, x3, x4, x5] (.int i :: .ref o :: st) h = (mg h o 100 ∧ mx i (mh_l h o) ∧ mw d 330 Q 118 [x0, x1, x2, x3, x4, x5] (.int (mh_i h o i.toNatClampNeg) :: st) h) := (mw_at mj_330_117).trans (z_iald)
theorem mj_330_118 : mc_P 330 118 = some (.istore_n 3, 1, 0, 0, 0) := by decide +kernel
theorem s_330_118 {x0 x1 x2 x3 x4 x5 : Option Value} {w : Int32} : mw d 330 Q 118 [x0, x1, x2, x3, x4, x5] (.int w :: st) h = mw d 330 Q 119 [x0, x1, mk2 x2, some (.int w), x4, x5] (st) h := (mw_at mj_330_118).trans (z_istore_n (Nat.le_of_ble_eq_true rfl) (me_s1_mk (j := 2) (w := x2) rfl))
theorem mj_330_119 : mc_P 330 119 = some (.iload 5, 2, 0, 0, 0) := by decide +kernel
theorem s_330_119 {x0 x1 x2 x3 x4 : Option Value} {w : Value} : mw d 330 Q 119 [x0, x1, x2, x3, x4, some w] (st) h = mv_i w (mw d 330 Q 121 [x0, x1, x2, x3, x4, some w] (w :: st) h) := (mw_at mj_330_119).trans (z_iload rfl)
theorem mj_330_121 : mc_P 330 121 = some (.istore 4, 2, 0, 0, 0) := by decide +kernel
theorem s_330_121 {x0 x1 x2 x3 x4 x5 : Option Value} {w : Int32} : mw d 330 Q 121 [x0, x1, x2, x3, x4, x5] (.int w :: st) h = mw d 330 Q 123 [x0, x1, x2, mk2 x3, some (.int w), x5] (st) h := (mw_at mj_330_121).trans (z_istore (Nat.le_of_ble_eq_true rfl) (me_s1_mk (j := 3) (w := x3) rfl))
theorem mj_330_123 : mc_P 330 123 = some (.goto 32, 3, 0, 0, 0) := by decide +kernel
theorem s_330_123 {x0 x1 x2 x3 x4 x5 : Option Value} : mw d 330 Q 123 [x0, x1, x2, x3, x4, x5] (st) h = mw d 330 Q 155 [x0, x1, x2, x3, x4, x5] (st) h := (mw_at mj_330_123).trans (z_goto (by decide))
theorem mj_330_126 : mc_P 330 126 = some (.iload_n 2, 1, 0, 0, 0) := by decide +kernel
theorem s_330_126 {x0 x1 x3 x4 x5 : Option Value} {w : Value} : mw d 330 Q 126 [x0, x1, some w, x3, x4, x5] (st) h = mv_i w (mw d 330 Q 127 [x0, x1, some w, x3, x4, x5] (w :: st) h) := (mw_at mj_330_126).trans (z_iload_n rfl)
theorem mj_330_127 : mc_P 330 127 = some (.ifCond .le 26, 3, 0, 0, 0) := by decide +kernel
theorem s_330_127 {x0 x1 x2 x3 x4 x5 : Option Value} {x : Int32} : mw d 330 Q 127 [x0, x1, x2, x3, x4, x5] (.int x :: st) h = mB (x ≤ 0) (mw d 330 Q) 153 130 [x0, x1, x2, x3, x4, x5] st h := (mw_at mj_330_127).trans (z_if_le (by decide) rfl)
theorem mj_330_130 : mc_P 330 130 = some (.iinc 2 (-2), 3, 0, 0, 0) := by decide +kernel
theorem s_330_130 {x0 x1 x3 x4 x5 : Option Value} {w : Int32} : mw d 330 Q 130 [x0, x1, some (.int w), x3, x4, x5] (st) h = mw d 330 Q 133 [x0, mk2 x1, some (.int (w + (-2))), x3, x4, x5] (st) h := (mw_at mj_330_130).trans (z_iinc rfl (Nat.le_of_ble_eq_true rfl) (by decide) (me_s1_mk (j := 1) (w := x1) rfl))
theorem mj_330_133 : mc_P 330 133 = some (.aload_n 0, 1, 0, 0, 0) := by decide +kernel
theorem s_330_133 {x1 x2 x3 x4 x5 : Option Value} {w : Value} : mw d 330 Q 133 [some w, x1, x2, x3, x4, x5] (st) h = mv_a w (mw d 330 Q 134 [some w, x1, x2, x3, x4, x5] (w :: st) h) := (mw_at mj_330_133).trans (z_aload_n rfl)
theorem mj_330_134 : mc_P 330 134 = some (.getfield 45, 3, 14, 18, 0) := by decide +kernel
theorem s_330_134 {x0 x1 x2 x3 x4 x5 : Option Value} {o : Nat} : mw d 330 Q 134 [x0, x1, x2, x3, x4, x5] (.ref o :: st) h = (mg h o 14 ∧ mw d 330 Q 137 [x0, x1, x2, x3, x4, x5] (va_rf (mh_r h o 18) :: st) h) := (mw_at mj_330_134).trans (z_getr (by decide) (by decide) rfl)
theorem mj_330_137 : mc_P 330 137 = some (.iload_n 2, 1, 0, 0, 0) := by decide +kernel
theorem s_330_137 {x0 x1 x3 x4 x5 : Option Value} {w : Value} : mw d 330 Q 137 [x0, x1, some w, x3, x4, x5] (st) h = mv_i w (mw d 330 Q 138 [x0, x1, some w, x3, x4, x5] (w :: st) h) := (mw_at mj_330_137).trans (z_iload_n rfl)
theorem mj_330_138 : mc_P 330 138 = some (.iaload, 1, 0, 0, 0) := by decide +kernel
theorem s_330_138 {x0 x1 x2 x3 x4 x5 : Option Value} {o : Nat} {i : Int32} : mw d 330 Q 138 [x0, x1, x2, x3, x4, x5] (.int i :: .ref o :: st) h = (mg h o 100 ∧ mx i (mh_l h o) ∧ mw d 330 Q 139 [x0, x1, x2, x3, x4, x5] (.int (mh_i h o i.toNatClampNeg) :: st) h) := (mw_at mj_330_138).trans (z_iald)
theorem mj_330_139 : mc_P 330 139 = some (.istore_n 3, 1, 0, 0, 0) := by decide +kernel
theorem s_330_139 {x0 x1 x2 x3 x4 x5 : Option Value} {w : Int32} : mw d 330 Q 139 [x0, x1, x2, x3, x4, x5] (.int w :: st) h = mw d 330 Q 140 [x0, x1, mk2 x2, some (.int w), x4, x5] (st) h := (mw_at mj_330_139).trans (z_istore_n (Nat.le_of_ble_eq_true rfl) (me_s1_mk (j := 2) (w := x2) rfl))
theorem mj_330_140 : mc_P 330 140 = some (.aload_n 0, 1, 0, 0, 0) := by decide +kernel
theorem s_330_140 {x1 x2 x3 x4 x5 : Option Value} {w : Value} : mw d 330 Q 140 [some w, x1, x2, x3, x4, x5] (st) h = mv_a w (mw d 330 Q 141 [some w, x1, x2, x3, x4, x5] (w :: st) h) := (mw_at mj_330_140).trans (z_aload_n rfl)
theorem mj_330_141 : mc_P 330 141 = some (.getfield 45, 3, 14, 18, 0) := by decide +kernel
theorem s_330_141 {x0 x1 x2 x3 x4 x5 : Option Value} {o : Nat} : mw d 330 Q 141 [x0, x1, x2, x3, x4, x5] (.ref o :: st) h = (mg h o 14 ∧ mw d 330 Q 144 [x0, x1, x2, x3, x4, x5] (va_rf (mh_r h o 18) :: st) h) := (mw_at mj_330_141).trans (z_getr (by decide) (by decide) rfl)
theorem mj_330_144 : mc_P 330 144 = some (.iload_n 2, 1, 0, 0, 0) := by decide +kernel
theorem s_330_144 {x0 x1 x3 x4 x5 : Option Value} {w : Value} : mw d 330 Q 144 [x0, x1, some w, x3, x4, x5] (st) h = mv_i w (mw d 330 Q 145 [x0, x1, some w, x3, x4, x5] (w :: st) h) := (mw_at mj_330_144).trans (z_iload_n rfl)
theorem mj_330_145 : mc_P 330 145 = some (.iconst 1, 1, 0, 0, 0) := by decide +kernel
theorem s_330_145 {x0 x1 x2 x3 x4 x5 : Option Value} : mw d 330 Q 145 [x0, x1, x2, x3, x4, x5] (st) h = mw d 330 Q 146 [x0, x1, x2, x3, x4, x5] (.int 1 :: st) h := (mw_at mj_330_145).trans (z_iconst (by decide))
theorem mj_330_146 : mc_P 330 146 = some (.iadd, 1, 0, 0, 0) := by decide +kernel
theorem s_330_146 {x0 x1 x2 x3 x4 x5 : Option Value} {x w : Int32} : mw d 330 Q 146 [x0, x1, x2, x3, x4, x5] (.int w :: .int x :: st) h = mw d 330 Q 147 [x0, x1, x2, x3, x4, x5] (.int (x + w) :: st) h := (mw_at mj_330_146).trans (z_iadd)
theorem mj_330_147 : mc_P 330 147 = some (.iaload, 1, 0, 0, 0) := by decide +kernel
theorem s_330_147 {x0 x1 x2 x3 x4 x5 : Option Value} {o : Nat} {i : Int32} : mw d 330 Q 147 [x0, x1, x2, x3, x4, x5] (.int i :: .ref o :: st) h = (mg h o 100 ∧ mx i (mh_l h o) ∧ mw d 330 Q 148 [x0, x1, x2, x3, x4, x5] (.int (mh_i h o i.toNatClampNeg) :: st) h) := (mw_at mj_330_147).trans (z_iald)
theorem mj_330_148 : mc_P 330 148 = some (.istore 4, 2, 0, 0, 0) := by decide +kernel
theorem s_330_148 {x0 x1 x2 x3 x4 x5 : Option Value} {w : Int32} : mw d 330 Q 148 [x0, x1, x2, x3, x4, x5] (.int w :: st) h = mw d 330 Q 150 [x0, x1, x2, mk2 x3, some (.int w), x5] (st) h := (mw_at mj_330_148).trans (z_istore (Nat.le_of_ble_eq_true rfl) (me_s1_mk (j := 3) (w := x3) rfl))
theorem mj_330_150 : mc_P 330 150 = some (.goto 5, 3, 0, 0, 0) := by decide +kernel
theorem s_330_150 {x0 x1 x2 x3 x4 x5 : Option Value} : mw d 330 Q 150 [x0, x1, x2, x3, x4, x5] (st) h = mw d 330 Q 155 [x0, x1, x2, x3, x4, x5] (st) h := (mw_at mj_330_150).trans (z_goto (by decide))
theorem mj_330_153 : mc_P 330 153 = some (.iconst (-1), 1, 0, 0, 0) := by decide +kernel
theorem s_330_153 {x0 x1 x2 x3 x4 x5 : Option Value} : mw d 330 Q 153 [x0, x1, x2, x3, x4, x5] (st) h = mw d 330 Q 154 [x0, x1, x2, x3, x4, x5] (.int (-1) :: st) h := (mw_at mj_330_153).trans (z_iconst (by decide))
theorem mj_330_154 : mc_P 330 154 = some (.istore_n 3, 1, 0, 0, 0) := by decide +kernel
theorem s_330_154 {x0 x1 x2 x3 x4 x5 : Option Value} {w : Int32} : mw d 330 Q 154 [x0, x1, x2, x3, x4, x5] (.int w :: st) h = mw d 330 Q 155 [x0, x1, mk2 x2, some (.int w), x4, x5] (st) h := (mw_at mj_330_154).trans (z_istore_n (Nat.le_of_ble_eq_true rfl) (me_s1_mk (j := 2) (w := x2) rfl))
theorem mj_330_155 : mc_P 330 155 = some (.goto (-148), 3, 0, 0, 0) := by decide +kernel
theorem s_330_155 {x0 x1 x2 x3 x4 x5 : Option Value} : mw d 330 Q 155 [x0, x1, x2, x3, x4, x5] (st) h = mw d 330 Q 7 [x0, x1, x2, x3, x4, x5] (st) h := (mw_at mj_330_155).trans (z_goto (by decide))
theorem mj_330_158 : mc_P 330 158 = some (.return_, 1, 0, 0, 0) := by decide +kernel
theorem s_330_158 {x0 x1 x2 x3 x4 x5 : Option Value} : mw d 330 Q 158 [x0, x1, x2, x3, x4, x5] ([]) h = Q none h := (mw_at mj_330_158).trans (z_vret)
theorem e_330 {a0 : Nat} {a1 : Int32} : mcall d 330 [.ref a0, .int a1] h Q = mw d 330 Q 0 [some (.ref a0), some (.int a1), none, none, none, none] [] h := by
  show mw d 330 Q 0 (me_en (mc_nl 330) _) [] h = _
  rw [nl_330]; rfl

end SR
