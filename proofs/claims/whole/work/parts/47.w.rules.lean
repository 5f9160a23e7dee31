/-! rules of methods, by program (wip/whole/srule.py) -/
section SR
variable {d : Nat} {Q : Option Value → mh_H → Prop} {st : List Value} {h : mh_H}
/-! InvariantDeskModel.step()I -/
theorem mj_364_0 : mc_P 364 0 = some (.aload_n 0, 1, 0, 0, 0) := by decide +kernel
theorem s_364_0 {x1 x2 x3 x4 x5 x6 x7 x8 x9 : Option Value} {w : Value} : mw d 364 Q 0 [some w, x1, x2, x3, x4, x5, x6, x7, x8, x9] (st) h = mv_a w (mw d 364 Q 1 [some w, x1, x2, x3, x4, x5, x6, x7, x8, x9] (w :: st) h) := (mw_at mj_364_0).trans (z_aload_n rfl)
theorem mj_364_1 : mc_P 364 1 = some (.getfield 179, 3, 14, 64, 0) := by decide +kernel
theorem s_364_1 {x0 x1 x2 x3 x4 x5 x6 x7 x8 x9 : Option Value} {o : Nat} : mw d 364 Q 1 [x0, x1, x2, x3, x4, x5, x6, x7, x8, x9] (.ref o :: st) h = (mg h o 14 ∧ mw d 364 Q 4 [x0, x1, x2, x3, x4, x5, x6, x7, x8, x9] (.int (mh_i h o 64) :: st) h) := (mw_at mj_364_1).trans (z_geti (by decide) (by decide) (Or.inl rfl))
theorem mj_364_4 : mc_P 364 4 = some (.istore_n 1, 1, 0, 0, 0) := by decide +kernel
theorem s_364_4 {x0 x1 x2 x3 x4 x5 x6 x7 x8 x9 : Option Value} {w : Int32} : mw d 364 Q 4 [x0, x1, x2, x3, x4, x5, x6, x7, x8, x9] (.int w :: st) h = mw d 364 Q 5 [mk2 x0, some (.int w), x2, x3, x4, x5, x6, x7, x8, x9] (st) h := (mw_at mj_364_4).trans (z_istore_n (Nat.le_of_ble_eq_true rfl) (me_s1_mk (j := 0) (w := x0) rfl))
theorem mj_364_5 : mc_P 364 5 = some (.aload_n 0, 1, 0, 0, 0) := by decide +kernel
theorem s_364_5 {x1 x2 x3 x4 x5 x6 x7 x8 x9 : Option Value} {w : Value} : mw d 364 Q 5 [some w, x1, x2, x3, x4, x5, x6, x7, x8, x9] (st) h = mv_a w (mw d 364 Q 6 [some w, x1, x2, x3, x4, x5, x6, x7, x8, x9] (w :: st) h) := (mw_at mj_364_5).trans (z_aload_n rfl)
theorem mj_364_6 : mc_P 364 6 = some (.getfield 70, 3, 14, 28, 0) := by decide +kernel
theorem s_364_6 {x0 x1 x2 x3 x4 x5 x6 x7 x8 x9 : Option Value} {o : Nat} : mw d 364 Q 6 [x0, x1, x2, x3, x4, x5, x6, x7, x8, x9] (.ref o :: st) h = (mg h o 14 ∧ mw d 364 Q 9 [x0, x1, x2, x3, x4, x5, x6, x7, x8, x9] (va_rf (mh_r h o 28) :: st) h) := (mw_at mj_364_6).trans (z_getr (by decide) (by decide) rfl)
theorem mj_364_9 : mc_P 364 9 = some (.iload_n 1, 1, 0, 0, 0) := by decide +kernel
theorem s_364_9 {x0 x2 x3 x4 x5 x6 x7 x8 x9 : Option Value} {w : Value} : mw d 364 Q 9 [x0, some w, x2, x3, x4, x5, x6, x7, x8, x9] (st) h = mv_i w (mw d 364 Q 10 [x0, some w, x2, x3, x4, x5, x6, x7, x8, x9] (w :: st) h) := (mw_at mj_364_9).trans (z_iload_n rfl)
theorem mj_364_10 : mc_P 364 10 = some (.iaload, 1, 0, 0, 0) := by decide +kernel
theorem s_364_10 {x0 x1 x2 x3 x4 x5 x6 x7 x8 x9 : Option Value} {o : Nat} {i : Int32} : mw d 364 Q 10 [x0, x1, x2, x3, x4, x5, x6, x7, x8, x9] (.int i :: .ref o :: st) h = (mg h o 100 ∧ mx i (mh_l h o) ∧ mw d 364 Q 11 [x0, x1, x2, x3, x4, x5, x6, x7, x8, x9] (.int (mh_i h o i.toNatClampNeg) :: st) h) := (mw_at mj_364_10).trans (z_iald)
theorem mj_364_11 : mc_P 364 11 = some (.istore_n 2, 1, 0, 0, 0) := by decide +kernel
theorem s_364_11 {x0 x1 x2 x3 x4 x5 x6 x7 x8 x9 : Option Value} {w : Int32} : mw d 364 Q 11 [x0, x1, x2, x3, x4, x5, x6, x7, x8, x9] (.int w :: st) h = mw d 364 Q 12 [x0, mk2 x1, some (.int w), x3, x4, x5, x6, x7, x8, x9] (st) h := (mw_at mj_364_11).trans (z_istore_n (Nat.le_of_ble_eq_true rfl) (me_s1_mk (j := 1) (w := x1) rfl))
theorem mj_364_12 : mc_P 364 12 = some (.aload_n 0, 1, 0, 0, 0) := by decide +kernel
theorem s_364_12 {x1 x2 x3 x4 x5 x6 x7 x8 x9 : Option Value} {w : Value} : mw d 364 Q 12 [some w, x1, x2, x3, x4, x5, x6, x7, x8, x9] (st) h = mv_a w (mw d 364 Q 13 [some w, x1, x2, x3, x4, x5, x6, x7, x8, x9] (w :: st) h) := (mw_at mj_364_12).trans (z_aload_n rfl)
theorem mj_364_13 : mc_P 364 13 = some (.getfield 48, 3, 14, 19, 0) := by decide +kernel
theorem s_364_13 {x0 x1 x2 x3 x4 x5 x6 x7 x8 x9 : Option Value} {o : Nat} : mw d 364 Q 13 [x0, x1, x2, x3, x4, x5, x6, x7, x8, x9] (.ref o :: st) h = (mg h o 14 ∧ mw d 364 Q 16 [x0, x1, x2, x3, x4, x5, x6, x7, x8, x9] (va_rf (mh_r h o 19) :: st) h) := (mw_at mj_364_13).trans (z_getr (by decide) (by decide) rfl)
theorem mj_364_16 : mc_P 364 16 = some (.iload_n 2, 1, 0, 0, 0) := by decide +kernel
theorem s_364_16 {x0 x1 x3 x4 x5 x6 x7 x8 x9 : Option Value} {w : Value} : mw d 364 Q 16 [x0, x1, some w, x3, x4, x5, x6, x7, x8, x9] (st) h = mv_i w (mw d 364 Q 17 [x0, x1, some w, x3, x4, x5, x6, x7, x8, x9] (w :: st) h) := (mw_at mj_364_16).trans (z_iload_n rfl)
theorem mj_364_17 : mc_P 364 17 = some (.baload, 1, 0, 0, 0) := by decide +kernel
theorem s_364_17 {x0 x1 x2 x3 x4 x5 x6 x7 x8 x9 : Option Value} {o : Nat} {i : Int32} : mw d 364 Q 17 [x0, x1, x2, x3, x4, x5, x6, x7, x8, x9] (.int i :: .ref o :: st) h = (mgb h o ∧ mx i (mh_l h o) ∧ mw d 364 Q 18 [x0, x1, x2, x3, x4, x5, x6, x7, x8, x9] (.int (mh_i h o i.toNatClampNeg) :: st) h) := (mw_at mj_364_17).trans (z_bald)
theorem mj_364_18 : mc_P 364 18 = some (.tableswitch 528 3 10 #[46, 96, 136, 183, 233, 354, 450, 505], 46, 0, 0, 0) := by decide +kernel
theorem s_364_18 {x0 x1 x2 x3 x4 x5 x6 x7 x8 x9 : Option Value} {x : Int32} : mw d 364 Q 18 [x0, x1, x2, x3, x4, x5, x6, x7, x8, x9] (.int x :: st) h = mS x (mw d 364 Q) 546 [x0, x1, x2, x3, x4, x5, x6, x7, x8, x9] st h [(3, 64), (4, 114), (5, 154), (6, 201), (7, 251), (8, 372), (9, 468), (10, 523)] := (mw_at mj_364_18).trans (z_tab (by decide) (by decide) (by decide +kernel))
theorem mj_364_64 : mc_P 364 64 = some (.aload_n 0, 1, 0, 0, 0) := by decide +kernel
theorem s_364_64 {x1 x2 x3 x4 x5 x6 x7 x8 x9 : Option Value} {w : Value} : mw d 364 Q 64 [some w, x1, x2, x3, x4, x5, x6, x7, x8, x9] (st) h = mv_a w (mw d 364 Q 65 [some w, x1, x2, x3, x4, x5, x6, x7, x8, x9] (w :: st) h) := (mw_at mj_364_64).trans (z_aload_n rfl)
theorem mj_364_65 : mc_P 364 65 = some (.getfield 61, 3, 14, 23, 0) := by decide +kernel
theorem s_364_65 {x0 x1 x2 x3 x4 x5 x6 x7 x8 x9 : Option Value} {o : Nat} : mw d 364 Q 65 [x0, x1, x2, x3, x4, x5, x6, x7, x8, x9] (.ref o :: st) h = (mg h o 14 ∧ mw d 364 Q 68 [x0, x1, x2, x3, x4, x5, x6, x7, x8, x9] (va_rf (mh_r h o 23) :: st) h) := (mw_at mj_364_65).trans (z_getr (by decide) (by decide) rfl)
theorem mj_364_68 : mc_P 364 68 = some (.iload_n 2, 1, 0, 0, 0) := by decide +kernel
theorem s_364_68 {x0 x1 x3 x4 x5 x6 x7 x8 x9 : Option Value} {w : Value} : mw d 364 Q 68 [x0, x1, some w, x3, x4, x5, x6, x7, x8, x9] (st) h = mv_i w (mw d 364 Q 69 [x0, x1, some w, x3, x4, x5, x6, x7, x8, x9] (w :: st) h) := (mw_at mj_364_68).trans (z_iload_n rfl)
theorem mj_364_69 : mc_P 364 69 = some (.iaload, 1, 0, 0, 0) := by decide +kernel
theorem s_364_69 {x0 x1 x2 x3 x4 x5 x6 x7 x8 x9 : Option Value} {o : Nat} {i : Int32} : mw d 364 Q 69 [x0, x1, x2, x3, x4, x5, x6, x7, x8, x9] (.int i :: .ref o :: st) h = (mg h o 100 ∧ mx i (mh_l h o) ∧ mw d 364 Q 70 [x0, x1, x2, x3, x4, x5, x6, x7, x8, x9] (.int (mh_i h o i.toNatClampNeg) :: st) h) := (mw_at mj_364_69).trans (z_iald)
theorem mj_364_70 : mc_P 364 70 = some (.iconst 2, 1, 0, 0, 0) := by decide +kernel
theorem s_364_70 {x0 x1 x2 x3 x4 x5 x6 x7 x8 x9 : Option Value} : mw d 364 Q 70 [x0, x1, x2, x3, x4, x5, x6, x7, x8, x9] (st) h = mw d 364 Q 71 [x0, x1, x2, x3, x4, x5, x6, x7, x8, x9] (.int 2 :: st) h := (mw_at mj_364_70).trans (z_iconst (by decide))
theorem mj_364_71 : mc_P 364 71 = some (.if_icmp .ne 7, 3, 0, 0, 0) := by decide +kernel
theorem s_364_71 {x0 x1 x2 x3 x4 x5 x6 x7 x8 x9 : Option Value} {x w : Int32} : mw d 364 Q 71 [x0, x1, x2, x3, x4, x5, x6, x7, x8, x9] (.int w :: .int x :: st) h = mB (¬ x = w) (mw d 364 Q) 78 74 [x0, x1, x2, x3, x4, x5, x6, x7, x8, x9] st h := (mw_at mj_364_71).trans (z_icmp_ne (by decide) rfl)
theorem mj_364_74 : mc_P 364 74 = some (.lconst 0, 1, 0, 0, 0) := by decide +kernel
theorem s_364_74 {x0 x1 x2 x3 x4 x5 x6 x7 x8 x9 : Option Value} : mw d 364 Q 74 [x0, x1, x2, x3, x4, x5, x6, x7, x8, x9] (st) h = mw d 364 Q 75 [x0, x1, x2, x3, x4, x5, x6, x7, x8, x9] (.long 0 :: st) h := (mw_at mj_364_74).trans (z_lconst (by decide))
theorem mj_364_75 : mc_P 364 75 = some (.goto 12, 3, 0, 0, 0) := by decide +kernel
theorem s_364_75 {x0 x1 x2 x3 x4 x5 x6 x7 x8 x9 : Option Value} : mw d 364 Q 75 [x0, x1, x2, x3, x4, x5, x6, x7, x8, x9] (st) h = mw d 364 Q 87 [x0, x1, x2, x3, x4, x5, x6, x7, x8, x9] (st) h := (mw_at mj_364_75).trans (z_goto (by decide))
theorem mj_364_78 : mc_P 364 78 = some (.aload_n 0, 1, 0, 0, 0) := by decide +kernel
theorem s_364_78 {x1 x2 x3 x4 x5 x6 x7 x8 x9 : Option Value} {w : Value} : mw d 364 Q 78 [some w, x1, x2, x3, x4, x5, x6, x7, x8, x9] (st) h = mv_a w (mw d 364 Q 79 [some w, x1, x2, x3, x4, x5, x6, x7, x8, x9] (w :: st) h) := (mw_at mj_364_78).trans (z_aload_n rfl)
theorem mj_364_79 : mc_P 364 79 = some (.aload_n 0, 1, 0, 0, 0) := by decide +kernel
theorem s_364_79 {x1 x2 x3 x4 x5 x6 x7 x8 x9 : Option Value} {w : Value} : mw d 364 Q 79 [some w, x1, x2, x3, x4, x5, x6, x7, x8, x9] (st) h = mv_a w (mw d 364 Q 80 [some w, x1, x2, x3, x4, x5, x6, x7, x8, x9] (w :: st) h) := (mw_at mj_364_79).trans (z_aload_n rfl)
theorem mj_364_80 : mc_P 364 80 = some (.iload_n 2, 1, 0, 0, 0) := by decide +kernel
theorem s_364_80 {x0 x1 x3 x4 x5 x6 x7 x8 x9 : Option Value} {w : Value} : mw d 364 Q 80 [x0, x1, some w, x3, x4, x5, x6, x7, x8, x9] (st) h = mv_i w (mw d 364 Q 81 [x0, x1, some w, x3, x4, x5, x6, x7, x8, x9] (w :: st) h) := (mw_at mj_364_80).trans (z_iload_n rfl)
theorem mj_364_81 : mc_P 364 81 = some (.invokevirtual 391, 3, 334, 14, 2) := by decide +kernel
theorem s_364_81 {x0 x1 x2 x3 x4 x5 x6 x7 x8 x9 : Option Value} {o : Nat} {a1 : Value} : mw (d + 1) 364 Q 81 [x0, x1, x2, x3, x4, x5, x6, x7, x8, x9] (a1 :: .ref o :: st) h = (mg h o 14 ∧ mca st 8 ∧ mca [.ref o, a1] 2 ∧ mcall d 334 [.ref o, a1] h (mK (d + 1) 364 Q 84 [x0, x1, x2, x3, x4, x5, x6, x7, x8, x9] st)) := (mw_at mj_364_81).trans ((z_invv (As := [a1]) (by decide) rfl rfl).trans (congrArg (And _) (congrArg (And _) (mC_nl nl_334))))
theorem mj_364_84 : mc_P 364 84 = some (.invokevirtual 439, 3, 360, 14, 2) := by decide +kernel
theorem s_364_84 {x0 x1 x2 x3 x4 x5 x6 x7 x8 x9 : Option Value} {o : Nat} {a1 : Value} : mw (d + 1) 364 Q 84 [x0, x1, x2, x3, x4, x5, x6, x7, x8, x9] (a1 :: .ref o :: st) h = (mg h o 14 ∧ mca st 8 ∧ mca [.ref o, a1] 7 ∧ mcall d 360 [.ref o, a1] h (mK (d + 1) 364 Q 87 [x0, x1, x2, x3, x4, x5, x6, x7, x8, x9] st)) := (mw_at mj_364_84).trans ((z_invv (As := [a1]) (by decide) rfl rfl).trans (congrArg (And _) (congrArg (And _) (mC_nl nl_360))))
theorem mj_364_87 : mc_P 364 87 = some (.lstore_n 3, 1, 0, 0, 0) := by decide +kernel
theorem s_364_87 {x0 x1 x2 x3 x4 x5 x6 x7 x8 x9 : Option Value} {w : Int64} : mw d 364 Q 87 [x0, x1, x2, x3, x4, x5, x6, x7, x8, x9] (.long w :: st) h = mw d 364 Q 88 [x0, x1, mk2 x2, some (.long w), none, x5, x6, x7, x8, x9] (st) h := (mw_at mj_364_87).trans (z_lstore_n (Nat.le_of_ble_eq_true rfl) (me_s2_mk (j := 2) (w := x2) rfl))
theorem mj_364_88 : mc_P 364 88 = some (.aload_n 0, 1, 0, 0, 0) := by decide +kernel
theorem s_364_88 {x1 x2 x3 x4 x5 x6 x7 x8 x9 : Option Value} {w : Value} : mw d 364 Q 88 [some w, x1, x2, x3, x4, x5, x6, x7, x8, x9] (st) h = mv_a w (mw d 364 Q 89 [some w, x1, x2, x3, x4, x5, x6, x7, x8, x9] (w :: st) h) := (mw_at mj_364_88).trans (z_aload_n rfl)
theorem mj_364_89 : mc_P 364 89 = some (.getfield 427, 3, 14, 68, 0) := by decide +kernel
theorem s_364_89 {x0 x1 x2 x3 x4 x5 x6 x7 x8 x9 : Option Value} {o : Nat} : mw d 364 Q 89 [x0, x1, x2, x3, x4, x5, x6, x7, x8, x9] (.ref o :: st) h = (mg h o 14 ∧ mw d 364 Q 92 [x0, x1, x2, x3, x4, x5, x6, x7, x8, x9] (.int (mh_i h o 68) :: st) h) := (mw_at mj_364_89).trans (z_geti (by decide) (by decide) (Or.inl rfl))
theorem mj_364_92 : mc_P 364 92 = some (.ifCond .ne 16, 3, 0, 0, 0) := by decide +kernel
theorem s_364_92 {x0 x1 x2 x3 x4 x5 x6 x7 x8 x9 : Option Value} {x : Int32} : mw d 364 Q 92 [x0, x1, x2, x3, x4, x5, x6, x7, x8, x9] (.int x :: st) h = mB (¬ x = 0) (mw d 364 Q) 108 95 [x0, x1, x2, x3, x4, x5, x6, x7, x8, x9] st h := (mw_at mj_364_92).trans (z_if_ne (by decide) rfl)
theorem mj_364_95 : mc_P 364 95 = some (.aload_n 0, 1, 0, 0, 0) := by decide +kernel
theorem s_364_95 {x1 x2 x3 x4 x5 x6 x7 x8 x9 : Option Value} {w : Value} : mw d 364 Q 95 [some w, x1, x2, x3, x4, x5, x6, x7, x8, x9] (st) h = mv_a w (mw d 364 Q 96 [some w, x1, x2, x3, x4, x5, x6, x7, x8, x9] (w :: st) h) := (mw_at mj_364_95).trans (z_aload_n rfl)
theorem mj_364_96 : mc_P 364 96 = some (.getfield 141, 3, 14, 61, 0) := by decide +kernel
theorem s_364_96 {x0 x1 x2 x3 x4 x5 x6 x7 x8 x9 : Option Value} {o : Nat} : mw d 364 Q 96 [x0, x1, x2, x3, x4, x5, x6, x7, x8, x9] (.ref o :: st) h = (mg h o 14 ∧ mw d 364 Q 99 [x0, x1, x2, x3, x4, x5, x6, x7, x8, x9] (va_rf (mh_r h o 61) :: st) h) := (mw_at mj_364_96).trans (z_getr (by decide) (by decide) rfl)
theorem mj_364_99 : mc_P 364 99 = some (.aload_n 0, 1, 0, 0, 0) := by decide +kernel
theorem s_364_99 {x1 x2 x3 x4 x5 x6 x7 x8 x9 : Option Value} {w : Value} : mw d 364 Q 99 [some w, x1, x2, x3, x4, x5, x6, x7, x8, x9] (st) h = mv_a w (mw d 364 Q 100 [some w, x1, x2, x3, x4, x5, x6, x7, x8, x9] (w :: st) h) := (mw_at mj_364_99).trans (z_aload_n rfl)
theorem mj_364_100 : mc_P 364 100 = some (.getfield 79, 3, 14, 31, 0) := by decide +kernel
theorem s_364_100 {x0 x1 x2 x3 x4 x5 x6 x7 x8 x9 : Option Value} {o : Nat} : mw d 364 Q 100 [x0, x1, x2, x3, x4, x5, x6, x7, x8, x9] (.ref o :: st) h = (mg h o 14 ∧ mw d 364 Q 103 [x0, x1, x2, x3, x4, x5, x6, x7, x8, x9] (va_rf (mh_r h o 31) :: st) h) := (mw_at mj_364_100).trans (z_getr (by decide) (by decide) rfl)
theorem mj_364_103 : mc_P 364 103 = some (.iload_n 1, 1, 0, 0, 0) := by decide +kernel
theorem s_364_103 {x0 x2 x3 x4 x5 x6 x7 x8 x9 : Option Value} {w : Value} : mw d 364 Q 103 [x0, some w, x2, x3, x4, x5, x6, x7, x8, x9] (st) h = mv_i w (mw d 364 Q 104 [x0, some w, x2, x3, x4, x5, x6, x7, x8, x9] (w :: st) h) := (mw_at mj_364_103).trans (z_iload_n rfl)
theorem mj_364_104 : mc_P 364 104 = some (.iaload, 1, 0, 0, 0) := by decide +kernel
theorem s_364_104 {x0 x1 x2 x3 x4 x5 x6 x7 x8 x9 : Option Value} {o : Nat} {i : Int32} : mw d 364 Q 104 [x0, x1, x2, x3, x4, x5, x6, x7, x8, x9] (.int i :: .ref o :: st) h = (mg h o 100 ∧ mx i (mh_l h o) ∧ mw d 364 Q 105 [x0, x1, x2, x3, x4, x5, x6, x7, x8, x9] (.int (mh_i h o i.toNatClampNeg) :: st) h) := (mw_at mj_364_104).trans (z_iald)
theorem mj_364_105 : mc_P 364 105 = some (.lload_n 3, 1, 0, 0, 0) := by decide +kernel
theorem s_364_105 {x0 x1 x2 x4 x5 x6 x7 x8 x9 : Option Value} {w : Value} : mw d 364 Q 105 [x0, x1, x2, some w, x4, x5, x6, x7, x8, x9] (st) h = mv_l w (mw d 364 Q 106 [x0, x1, x2, some w, x4, x5, x6, x7, x8, x9] (w :: st) h) := (mw_at mj_364_105).trans (z_lload_n rfl)
theorem mj_364_106 : mc_P 364 106 = some (.l2i, 1, 0, 0, 0) := by decide +kernel
theorem s_364_106 {x0 x1 x2 x3 x4 x5 x6 x7 x8 x9 : Option Value} {x : Int64} : mw d 364 Q 106 [x0, x1, x2, x3, x4, x5, x6, x7, x8, x9] (.long x :: st) h = mw d 364 Q 107 [x0, x1, x2, x3, x4, x5, x6, x7, x8, x9] (.int x.toInt32 :: st) h := (mw_at mj_364_106).trans (z_l2i)
theorem mj_364_107 : mc_P 364 107 = some (.iastore, 1, 0, 0, 0) := by decide +kernel
theorem s_364_107 {x0 x1 x2 x3 x4 x5 x6 x7 x8 x9 : Option Value} {o : Nat} {i w : Int32} : mw d 364 Q 107 [x0, x1, x2, x3, x4, x5, x6, x7, x8, x9] (.int w :: .int i :: .ref o :: st) h = (mg h o 100 ∧ mx i (mh_l h o) ∧ mw d 364 Q 108 [x0, x1, x2, x3, x4, x5, x6, x7, x8, x9] (st) (mh_si h o i.toNatClampNeg w)) := (mw_at mj_364_107).trans (z_iast)
theorem mj_364_108 : mc_P 364 108 = some (.aload_n 0, 1, 0, 0, 0) := by decide +kernel
theorem s_364_108 {x1 x2 x3 x4 x5 x6 x7 x8 x9 : Option Value} {w : Value} : mw d 364 Q 108 [some w, x1, x2, x3, x4, x5, x6, x7, x8, x9] (st) h = mv_a w (mw d 364 Q 109 [some w, x1, x2, x3, x4, x5, x6, x7, x8, x9] (w :: st) h) := (mw_at mj_364_108).trans (z_aload_n rfl)
theorem mj_364_109 : mc_P 364 109 = some (.iload_n 1, 1, 0, 0, 0) := by decide +kernel
theorem s_364_109 {x0 x2 x3 x4 x5 x6 x7 x8 x9 : Option Value} {w : Value} : mw d 364 Q 109 [x0, some w, x2, x3, x4, x5, x6, x7, x8, x9] (st) h = mv_i w (mw d 364 Q 110 [x0, some w, x2, x3, x4, x5, x6, x7, x8, x9] (w :: st) h) := (mw_at mj_364_109).trans (z_iload_n rfl)
theorem mj_364_110 : mc_P 364 110 = some (.invokevirtual 460, 3, 351, 14, 2) := by decide +kernel
theorem s_364_110 {x0 x1 x2 x3 x4 x5 x6 x7 x8 x9 : Option Value} {o : Nat} {a1 : Value} : mw (d + 1) 364 Q 110 [x0, x1, x2, x3, x4, x5, x6, x7, x8, x9] (a1 :: .ref o :: st) h = (mg h o 14 ∧ mca st 8 ∧ mca [.ref o, a1] 4 ∧ mcall d 351 [.ref o, a1] h (mK (d + 1) 364 Q 113 [x0, x1, x2, x3, x4, x5, x6, x7, x8, x9] st)) := (mw_at mj_364_110).trans ((z_invv (As := [a1]) (by decide) rfl rfl).trans (congrArg (And _) (congrArg (And _) (mC_nl nl_351))))
theorem mj_364_113 : mc_P 364 113 = some (.ireturn, 1, 0, 0, 0) := by decide +kernel
theorem s_364_113 {x0 x1 x2 x3 x4 x5 x6 x7 x8 x9 : Option Value} {x : Int32} : mw d 364 Q 113 [x0, x1, x2, x3, x4, x5, x6, x7, x8, x9] ([.int x]) h = (Q (some (.int x)) h) := (mw_at mj_364_113).trans (z_iret)
theorem mj_364_114 : mc_P 364 114 = some (.iconst 0, 1, 0, 0, 0) := by decide +kernel
theorem s_364_114 {x0 x1 x2 x3 x4 x5 x6 x7 x8 x9 : Option Value} : mw d 364 Q 114 [x0, x1, x2, x3, x4, x5, x6, x7, x8, x9] (st) h = mw d 364 Q 115 [x0, x1, x2, x3, x4, x5, x6, x7, x8, x9] (.int 0 :: st) h := (mw_at mj_364_114).trans (z_iconst (by decide))
theorem mj_364_115 : mc_P 364 115 = some (.istore 5, 2, 0, 0, 0) := by decide +kernel
theorem s_364_115 {x0 x1 x2 x3 x4 x5 x6 x7 x8 x9 : Option Value} {w : Int32} : mw d 364 Q 115 [x0, x1, x2, x3, x4, x5, x6, x7, x8, x9] (.int w :: st) h = mw d 364 Q 117 [x0, x1, x2, x3, mk2 x4, some (.int w), x6, x7, x8, x9] (st) h := (mw_at mj_364_115).trans (z_istore (Nat.le_of_ble_eq_true rfl) (me_s1_mk (j := 4) (w := x4) rfl))
theorem mj_364_117 : mc_P 364 117 = some (.iload 5, 2, 0, 0, 0) := by decide +kernel
theorem s_364_117 {x0 x1 x2 x3 x4 x6 x7 x8 x9 : Option Value} {w : Value} : mw d 364 Q 117 [x0, x1, x2, x3, x4, some w, x6, x7, x8, x9] (st) h = mv_i w (mw d 364 Q 119 [x0, x1, x2, x3, x4, some w, x6, x7, x8, x9] (w :: st) h) := (mw_at mj_364_117).trans (z_iload rfl)
theorem mj_364_119 : mc_P 364 119 = some (.bipush 64, 2, 0, 0, 0) := by decide +kernel
theorem s_364_119 {x0 x1 x2 x3 x4 x5 x6 x7 x8 x9 : Option Value} : mw d 364 Q 119 [x0, x1, x2, x3, x4, x5, x6, x7, x8, x9] (st) h = mw d 364 Q 121 [x0, x1, x2, x3, x4, x5, x6, x7, x8, x9] (.int 64 :: st) h := (mw_at mj_364_119).trans (z_bipush (by decide))
theorem mj_364_121 : mc_P 364 121 = some (.if_icmp .ge 27, 3, 0, 0, 0) := by decide +kernel
theorem s_364_121 {x0 x1 x2 x3 x4 x5 x6 x7 x8 x9 : Option Value} {x w : Int32} : mw d 364 Q 121 [x0, x1, x2, x3, x4, x5, x6, x7, x8, x9] (.int w :: .int x :: st) h = mB (w ≤ x) (mw d 364 Q) 148 124 [x0, x1, x2, x3, x4, x5, x6, x7, x8, x9] st h := (mw_at mj_364_121).trans (z_icmp_ge (by decide) rfl)
theorem mj_364_124 : mc_P 364 124 = some (.aload_n 0, 1, 0, 0, 0) := by decide +kernel
theorem s_364_124 {x1 x2 x3 x4 x5 x6 x7 x8 x9 : Option Value} {w : Value} : mw d 364 Q 124 [some w, x1, x2, x3, x4, x5, x6, x7, x8, x9] (st) h = mv_a w (mw d 364 Q 125 [some w, x1, x2, x3, x4, x5, x6, x7, x8, x9] (w :: st) h) := (mw_at mj_364_124).trans (z_aload_n rfl)
theorem mj_364_125 : mc_P 364 125 = some (.getfield 144, 3, 14, 62, 0) := by decide +kernel
theorem s_364_125 {x0 x1 x2 x3 x4 x5 x6 x7 x8 x9 : Option Value} {o : Nat} : mw d 364 Q 125 [x0, x1, x2, x3, x4, x5, x6, x7, x8, x9] (.ref o :: st) h = (mg h o 14 ∧ mw d 364 Q 128 [x0, x1, x2, x3, x4, x5, x6, x7, x8, x9] (va_rf (mh_r h o 62) :: st) h) := (mw_at mj_364_125).trans (z_getr (by decide) (by decide) rfl)
theorem mj_364_128 : mc_P 364 128 = some (.bipush 64, 2, 0, 0, 0) := by decide +kernel
theorem s_364_128 {x0 x1 x2 x3 x4 x5 x6 x7 x8 x9 : Option Value} : mw d 364 Q 128 [x0, x1, x2, x3, x4, x5, x6, x7, x8, x9] (st) h = mw d 364 Q 130 [x0, x1, x2, x3, x4, x5, x6, x7, x8, x9] (.int 64 :: st) h := (mw_at mj_364_128).trans (z_bipush (by decide))
theorem mj_364_130 : mc_P 364 130 = some (.aload_n 0, 1, 0, 0, 0) := by decide +kernel
theorem s_364_130 {x1 x2 x3 x4 x5 x6 x7 x8 x9 : Option Value} {w : Value} : mw d 364 Q 130 [some w, x1, x2, x3, x4, x5, x6, x7, x8, x9] (st) h = mv_a w (mw d 364 Q 131 [some w, x1, x2, x3, x4, x5, x6, x7, x8, x9] (w :: st) h) := (mw_at mj_364_130).trans (z_aload_n rfl)
theorem mj_364_131 : mc_P 364 131 = some (.getfield 82, 3, 14, 32, 0) := by decide +kernel
theorem s_364_131 {x0 x1 x2 x3 x4 x5 x6 x7 x8 x9 : Option Value} {o : Nat} : mw d 364 Q 131 [x0, x1, x2, x3, x4, x5, x6, x7, x8, x9] (.ref o :: st) h = (mg h o 14 ∧ mw d 364 Q 134 [x0, x1, x2, x3, x4, x5, x6, x7, x8, x9] (va_rf (mh_r h o 32) :: st) h) := (mw_at mj_364_131).trans (z_getr (by decide) (by decide) rfl)
theorem mj_364_134 : mc_P 364 134 = some (.iload_n 1, 1, 0, 0, 0) := by decide +kernel
theorem s_364_134 {x0 x2 x3 x4 x5 x6 x7 x8 x9 : Option Value} {w : Value} : mw d 364 Q 134 [x0, some w, x2, x3, x4, x5, x6, x7, x8, x9] (st) h = mv_i w (mw d 364 Q 135 [x0, some w, x2, x3, x4, x5, x6, x7, x8, x9] (w :: st) h) := (mw_at mj_364_134).trans (z_iload_n rfl)
theorem mj_364_135 : mc_P 364 135 = some (.iaload, 1, 0, 0, 0) := by decide +kernel
theorem s_364_135 {x0 x1 x2 x3 x4 x5 x6 x7 x8 x9 : Option Value} {o : Nat} {i : Int32} : mw d 364 Q 135 [x0, x1, x2, x3, x4, x5, x6, x7, x8, x9] (.int i :: .ref o :: st) h = (mg h o 100 ∧ mx i (mh_l h o) ∧ mw d 364 Q 136 [x0, x1, x2, x3, x4, x5, x6, x7, x8, x9] (.int (mh_i h o i.toNatClampNeg) :: st) h) := (mw_at mj_364_135).trans (z_iald)
theorem mj_364_136 : mc_P 364 136 = some (.imul, 1, 0, 0, 0) := by decide +kernel
theorem s_364_136 {x0 x1 x2 x3 x4 x5 x6 x7 x8 x9 : Option Value} {x w : Int32} : mw d 364 Q 136 [x0, x1, x2, x3, x4, x5, x6, x7, x8, x9] (.int w :: .int x :: st) h = mw d 364 Q 137 [x0, x1, x2, x3, x4, x5, x6, x7, x8, x9] (.int (x * w) :: st) h := (mw_at mj_364_136).trans (z_imul)
theorem mj_364_137 : mc_P 364 137 = some (.iload 5, 2, 0, 0, 0) := by decide +kernel
theorem s_364_137 {x0 x1 x2 x3 x4 x6 x7 x8 x9 : Option Value} {w : Value} : mw d 364 Q 137 [x0, x1, x2, x3, x4, some w, x6, x7, x8, x9] (st) h = mv_i w (mw d 364 Q 139 [x0, x1, x2, x3, x4, some w, x6, x7, x8, x9] (w :: st) h) := (mw_at mj_364_137).trans (z_iload rfl)
theorem mj_364_139 : mc_P 364 139 = some (.iadd, 1, 0, 0, 0) := by decide +kernel
theorem s_364_139 {x0 x1 x2 x3 x4 x5 x6 x7 x8 x9 : Option Value} {x w : Int32} : mw d 364 Q 139 [x0, x1, x2, x3, x4, x5, x6, x7, x8, x9] (.int w :: .int x :: st) h = mw d 364 Q 140 [x0, x1, x2, x3, x4, x5, x6, x7, x8, x9] (.int (x + w) :: st) h := (mw_at mj_364_139).trans (z_iadd)
theorem mj_364_140 : mc_P 364 140 = some (.iconst 0, 1, 0, 0, 0) := by decide +kernel
theorem s_364_140 {x0 x1 x2 x3 x4 x5 x6 x7 x8 x9 : Option Value} : mw d 364 Q 140 [x0, x1, x2, x3, x4, x5, x6, x7, x8, x9] (st) h = mw d 364 Q 141 [x0, x1, x2, x3, x4, x5, x6, x7, x8, x9] (.int 0 :: st) h := (mw_at mj_364_140).trans (z_iconst (by decide))
theorem mj_364_141 : mc_P 364 141 = some (.iastore, 1, 0, 0, 0) := by decide +kernel
theorem s_364_141 {x0 x1 x2 x3 x4 x5 x6 x7 x8 x9 : Option Value} {o : Nat} {i w : Int32} : mw d 364 Q 141 [x0, x1, x2, x3, x4, x5, x6, x7, x8, x9] (.int w :: .int i :: .ref o :: st) h = (mg h o 100 ∧ mx i (mh_l h o) ∧ mw d 364 Q 142 [x0, x1, x2, x3, x4, x5, x6, x7, x8, x9] (st) (mh_si h o i.toNatClampNeg w)) := (mw_at mj_364_141).trans (z_iast)
theorem mj_364_142 : mc_P 364 142 = some (.iinc 5 1, 3, 0, 0, 0) := by decide +kernel
theorem s_364_142 {x0 x1 x2 x3 x4 x6 x7 x8 x9 : Option Value} {w : Int32} : mw d 364 Q 142 [x0, x1, x2, x3, x4, some (.int w), x6, x7, x8, x9] (st) h = mw d 364 Q 145 [x0, x1, x2, x3, mk2 x4, some (.int (w + 1)), x6, x7, x8, x9] (st) h := (mw_at mj_364_142).trans (z_iinc rfl (Nat.le_of_ble_eq_true rfl) (by decide) (me_s1_mk (j := 4) (w := x4) rfl))
theorem mj_364_145 : mc_P 364 145 = some (.goto (-28), 3, 0, 0, 0) := by decide +kernel
theorem s_364_145 {x0 x1 x2 x3 x4 x5 x6 x7 x8 x9 : Option Value} : mw d 364 Q 145 [x0, x1, x2, x3, x4, x5, x6, x7, x8, x9] (st) h = mw d 364 Q 117 [x0, x1, x2, x3, x4, x5, x6, x7, x8, x9] (st) h := (mw_at mj_364_145).trans (z_goto (by decide))
theorem mj_364_148 : mc_P 364 148 = some (.aload_n 0, 1, 0, 0, 0) := by decide +kernel
theorem s_364_148 {x1 x2 x3 x4 x5 x6 x7 x8 x9 : Option Value} {w : Value} : mw d 364 Q 148 [some w, x1, x2, x3, x4, x5, x6, x7, x8, x9] (st) h = mv_a w (mw d 364 Q 149 [some w, x1, x2, x3, x4, x5, x6, x7, x8, x9] (w :: st) h) := (mw_at mj_364_148).trans (z_aload_n rfl)
theorem mj_364_149 : mc_P 364 149 = some (.iload_n 1, 1, 0, 0, 0) := by decide +kernel
theorem s_364_149 {x0 x2 x3 x4 x5 x6 x7 x8 x9 : Option Value} {w : Value} : mw d 364 Q 149 [x0, some w, x2, x3, x4, x5, x6, x7, x8, x9] (st) h = mv_i w (mw d 364 Q 150 [x0, some w, x2, x3, x4, x5, x6, x7, x8, x9] (w :: st) h) := (mw_at mj_364_149).trans (z_iload_n rfl)
theorem mj_364_150 : mc_P 364 150 = some (.invokevirtual 460, 3, 351, 14, 2) := by decide +kernel
theorem s_364_150 {x0 x1 x2 x3 x4 x5 x6 x7 x8 x9 : Option Value} {o : Nat} {a1 : Value} : mw (d + 1) 364 Q 150 [x0, x1, x2, x3, x4, x5, x6, x7, x8, x9] (a1 :: .ref o :: st) h = (mg h o 14 ∧ mca st 8 ∧ mca [.ref o, a1] 4 ∧ mcall d 351 [.ref o, a1] h (mK (d + 1) 364 Q 153 [x0, x1, x2, x3, x4, x5, x6, x7, x8, x9] st)) := (mw_at mj_364_150).trans ((z_invv (As := [a1]) (by decide) rfl rfl).trans (congrArg (And _) (congrArg (And _) (mC_nl nl_351))))
theorem mj_364_153 : mc_P 364 153 = some (.ireturn, 1, 0, 0, 0) := by decide +kernel
theorem s_364_153 {x0 x1 x2 x3 x4 x5 x6 x7 x8 x9 : Option Value} {x : Int32} : mw d 364 Q 153 [x0, x1, x2, x3, x4, x5, x6, x7, x8, x9] ([.int x]) h = (Q (some (.int x)) h) := (mw_at mj_364_153).trans (z_iret)
theorem mj_364_154 : mc_P 364 154 = some (.aload_n 0, 1, 0, 0, 0) := by decide +kernel
theorem s_364_154 {x1 x2 x3 x4 x5 x6 x7 x8 x9 : Option Value} {w : Value} : mw d 364 Q 154 [some w, x1, x2, x3, x4, x5, x6, x7, x8, x9] (st) h = mv_a w (mw d 364 Q 155 [some w, x1, x2, x3, x4, x5, x6, x7, x8, x9] (w :: st) h) := (mw_at mj_364_154).trans (z_aload_n rfl)
theorem mj_364_155 : mc_P 364 155 = some (.aload_n 0, 1, 0, 0, 0) := by decide +kernel
theorem s_364_155 {x1 x2 x3 x4 x5 x6 x7 x8 x9 : Option Value} {w : Value} : mw d 364 Q 155 [some w, x1, x2, x3, x4, x5, x6, x7, x8, x9] (st) h = mv_a w (mw d 364 Q 156 [some w, x1, x2, x3, x4, x5, x6, x7, x8, x9] (w :: st) h) := (mw_at mj_364_155).trans (z_aload_n rfl)
theorem mj_364_156 : mc_P 364 156 = some (.iload_n 2, 1, 0, 0, 0) := by decide +kernel
theorem s_364_156 {x0 x1 x3 x4 x5 x6 x7 x8 x9 : Option Value} {w : Value} : mw d 364 Q 156 [x0, x1, some w, x3, x4, x5, x6, x7, x8, x9] (st) h = mv_i w (mw d 364 Q 157 [x0, x1, some w, x3, x4, x5, x6, x7, x8, x9] (w :: st) h) := (mw_at mj_364_156).trans (z_iload_n rfl)
theorem mj_364_157 : mc_P 364 157 = some (.invokevirtual 391, 3, 334, 14, 2) := by decide +kernel
theorem s_364_157 {x0 x1 x2 x3 x4 x5 x6 x7 x8 x9 : Option Value} {o : Nat} {a1 : Value} : mw (d + 1) 364 Q 157 [x0, x1, x2, x3, x4, x5, x6, x7, x8, x9] (a1 :: .ref o :: st) h = (mg h o 14 ∧ mca st 8 ∧ mca [.ref o, a1] 2 ∧ mcall d 334 [.ref o, a1] h (mK (d + 1) 364 Q 160 [x0, x1, x2, x3, x4, x5, x6, x7, x8, x9] st)) := (mw_at mj_364_157).trans ((z_invv (As := [a1]) (by decide) rfl rfl).trans (congrArg (And _) (congrArg (And _) (mC_nl nl_334))))
theorem mj_364_160 : mc_P 364 160 = some (.invokevirtual 439, 3, 360, 14, 2) := by decide +kernel
theorem s_364_160 {x0 x1 x2 x3 x4 x5 x6 x7 x8 x9 : Option Value} {o : Nat} {a1 : Value} : mw (d + 1) 364 Q 160 [x0, x1, x2, x3, x4, x5, x6, x7, x8, x9] (a1 :: .ref o :: st) h = (mg h o 14 ∧ mca st 8 ∧ mca [.ref o, a1] 7 ∧ mcall d 360 [.ref o, a1] h (mK (d + 1) 364 Q 163 [x0, x1, x2, x3, x4, x5, x6, x7, x8, x9] st)) := (mw_at mj_364_160).trans ((z_invv (As := [a1]) (by decide) rfl rfl).trans (congrArg (And _) (congrArg (And _) (mC_nl nl_360))))
theorem mj_364_163 : mc_P 364 163 = some (.lstore_n 3, 1, 0, 0, 0) := by decide +kernel
theorem s_364_163 {x0 x1 x2 x3 x4 x5 x6 x7 x8 x9 : Option Value} {w : Int64} : mw d 364 Q 163 [x0, x1, x2, x3, x4, x5, x6, x7, x8, x9] (.long w :: st) h = mw d 364 Q 164 [x0, x1, mk2 x2, some (.long w), none, x5, x6, x7, x8, x9] (st) h := (mw_at mj_364_163).trans (z_lstore_n (Nat.le_of_ble_eq_true rfl) (me_s2_mk (j := 2) (w := x2) rfl))
theorem mj_364_164 : mc_P 364 164 = some (.aload_n 0, 1, 0, 0, 0) := by decide +kernel
theorem s_364_164 {x1 x2 x3 x4 x5 x6 x7 x8 x9 : Option Value} {w : Value} : mw d 364 Q 164 [some w, x1, x2, x3, x4, x5, x6, x7, x8, x9] (st) h = mv_a w (mw d 364 Q 165 [some w, x1, x2, x3, x4, x5, x6, x7, x8, x9] (w :: st) h) := (mw_at mj_364_164).trans (z_aload_n rfl)
theorem mj_364_165 : mc_P 364 165 = some (.getfield 427, 3, 14, 68, 0) := by decide +kernel
theorem s_364_165 {x0 x1 x2 x3 x4 x5 x6 x7 x8 x9 : Option Value} {o : Nat} : mw d 364 Q 165 [x0, x1, x2, x3, x4, x5, x6, x7, x8, x9] (.ref o :: st) h = (mg h o 14 ∧ mw d 364 Q 168 [x0, x1, x2, x3, x4, x5, x6, x7, x8, x9] (.int (mh_i h o 68) :: st) h) := (mw_at mj_364_165).trans (z_geti (by decide) (by decide) (Or.inl rfl))
theorem mj_364_168 : mc_P 364 168 = some (.ifCond .ne 27, 3, 0, 0, 0) := by decide +kernel
theorem s_364_168 {x0 x1 x2 x3 x4 x5 x6 x7 x8 x9 : Option Value} {x : Int32} : mw d 364 Q 168 [x0, x1, x2, x3, x4, x5, x6, x7, x8, x9] (.int x :: st) h = mB (¬ x = 0) (mw d 364 Q) 195 171 [x0, x1, x2, x3, x4, x5, x6, x7, x8, x9] st h := (mw_at mj_364_168).trans (z_if_ne (by decide) rfl)
theorem mj_364_171 : mc_P 364 171 = some (.aload_n 0, 1, 0, 0, 0) := by decide +kernel
theorem s_364_171 {x1 x2 x3 x4 x5 x6 x7 x8 x9 : Option Value} {w : Value} : mw d 364 Q 171 [some w, x1, x2, x3, x4, x5, x6, x7, x8, x9] (st) h = mv_a w (mw d 364 Q 172 [some w, x1, x2, x3, x4, x5, x6, x7, x8, x9] (w :: st) h) := (mw_at mj_364_171).trans (z_aload_n rfl)
theorem mj_364_172 : mc_P 364 172 = some (.getfield 141, 3, 14, 61, 0) := by decide +kernel
theorem s_364_172 {x0 x1 x2 x3 x4 x5 x6 x7 x8 x9 : Option Value} {o : Nat} : mw d 364 Q 172 [x0, x1, x2, x3, x4, x5, x6, x7, x8, x9] (.ref o :: st) h = (mg h o 14 ∧ mw d 364 Q 175 [x0, x1, x2, x3, x4, x5, x6, x7, x8, x9] (va_rf (mh_r h o 61) :: st) h) := (mw_at mj_364_172).trans (z_getr (by decide) (by decide) rfl)
theorem mj_364_175 : mc_P 364 175 = some (.aload_n 0, 1, 0, 0, 0) := by decide +kernel
theorem s_364_175 {x1 x2 x3 x4 x5 x6 x7 x8 x9 : Option Value} {w : Value} : mw d 364 Q 175 [some w, x1, x2, x3, x4, x5, x6, x7, x8, x9] (st) h = mv_a w (mw d 364 Q 176 [some w, x1, x2, x3, x4, x5, x6, x7, x8, x9] (w :: st) h) := (mw_at mj_364_175).trans (z_aload_n rfl)
theorem mj_364_176 : mc_P 364 176 = some (.getfield 91, 3, 14, 36, 0) := by decide +kernel
theorem s_364_176 {x0 x1 x2 x3 x4 x5 x6 x7 x8 x9 : Option Value} {o : Nat} : mw d 364 Q 176 [x0, x1, x2, x3, x4, x5, x6, x7, x8, x9] (.ref o :: st) h = (mg h o 14 ∧ mw d 364 Q 179 [x0, x1, x2, x3, x4, x5, x6, x7, x8, x9] (va_rf (mh_r h o 36) :: st) h) := (mw_at mj_364_176).trans (z_getr (by decide) (by decide) rfl)
theorem mj_364_179 : mc_P 364 179 = some (.aload_n 0, 1, 0, 0, 0) := by decide +kernel
theorem s_364_179 {x1 x2 x3 x4 x5 x6 x7 x8 x9 : Option Value} {w : Value} : mw d 364 Q 179 [some w, x1, x2, x3, x4, x5, x6, x7, x8, x9] (st) h = mv_a w (mw d 364 Q 180 [some w, x1, x2, x3, x4, x5, x6, x7, x8, x9] (w :: st) h) := (mw_at mj_364_179).trans (z_aload_n rfl)
theorem mj_364_180 : mc_P 364 180 = some (.aload_n 0, 1, 0, 0, 0) := by decide +kernel
theorem s_364_180 {x1 x2 x3 x4 x5 x6 x7 x8 x9 : Option Value} {w : Value} : mw d 364 Q 180 [some w, x1, x2, x3, x4, x5, x6, x7, x8, x9] (st) h = mv_a w (mw d 364 Q 181 [some w, x1, x2, x3, x4, x5, x6, x7, x8, x9] (w :: st) h) := (mw_at mj_364_180).trans (z_aload_n rfl)
theorem mj_364_181 : mc_P 364 181 = some (.getfield 55, 3, 14, 21, 0) := by decide +kernel
theorem s_364_181 {x0 x1 x2 x3 x4 x5 x6 x7 x8 x9 : Option Value} {o : Nat} : mw d 364 Q 181 [x0, x1, x2, x3, x4, x5, x6, x7, x8, x9] (.ref o :: st) h = (mg h o 14 ∧ mw d 364 Q 184 [x0, x1, x2, x3, x4, x5, x6, x7, x8, x9] (va_rf (mh_r h o 21) :: st) h) := (mw_at mj_364_181).trans (z_getr (by decide) (by decide) rfl)
theorem mj_364_184 : mc_P 364 184 = some (.iload_n 2, 1, 0, 0, 0) := by decide +kernel
theorem s_364_184 {x0 x1 x3 x4 x5 x6 x7 x8 x9 : Option Value} {w : Value} : mw d 364 Q 184 [x0, x1, some w, x3, x4, x5, x6, x7, x8, x9] (st) h = mv_i w (mw d 364 Q 185 [x0, x1, some w, x3, x4, x5, x6, x7, x8, x9] (w :: st) h) := (mw_at mj_364_184).trans (z_iload_n rfl)
theorem mj_364_185 : mc_P 364 185 = some (.iconst 1, 1, 0, 0, 0) := by decide +kernel
theorem s_364_185 {x0 x1 x2 x3 x4 x5 x6 x7 x8 x9 : Option Value} : mw d 364 Q 185 [x0, x1, x2, x3, x4, x5, x6, x7, x8, x9] (st) h = mw d 364 Q 186 [x0, x1, x2, x3, x4, x5, x6, x7, x8, x9] (.int 1 :: st) h := (mw_at mj_364_185).trans (z_iconst (by decide))
theorem mj_364_186 : mc_P 364 186 = some (.iadd, 1, 0, 0, 0) := by decide +kernel
theorem s_364_186 {x0 x1 x2 x3 x4 x5 x6 x7 x8 x9 : Option Value} {x w : Int32} : mw d 364 Q 186 [x0, x1, x2, x3, x4, x5, x6, x7, x8, x9] (.int w :: .int x :: st) h = mw d 364 Q 187 [x0, x1, x2, x3, x4, x5, x6, x7, x8, x9] (.int (x + w) :: st) h := (mw_at mj_364_186).trans (z_iadd)
theorem mj_364_187 : mc_P 364 187 = some (.iaload, 1, 0, 0, 0) := by decide +kernel
theorem s_364_187 {x0 x1 x2 x3 x4 x5 x6 x7 x8 x9 : Option Value} {o : Nat} {i : Int32} : mw d 364 Q 187 [x0, x1, x2, x3, x4, x5, x6, x7, x8, x9] (.int i :: .ref o :: st) h = (mg h o 100 ∧ mx i (mh_l h o) ∧ mw d 364 Q 188 [x0, x1, x2, x3, x4, x5, x6, x7, x8, x9] (.int (mh_i h o i.toNatClampNeg) :: st) h) := (mw_at mj_364_187).trans (z_iald)
theorem mj_364_188 : mc_P 364 188 = some (.invokevirtual 442, 3, 355, 14, 2) := by decide +kernel
theorem s_364_188 {x0 x1 x2 x3 x4 x5 x6 x7 x8 x9 : Option Value} {o : Nat} {a1 : Value} : mw (d + 1) 364 Q 188 [x0, x1, x2, x3, x4, x5, x6, x7, x8, x9] (a1 :: .ref o :: st) h = (mg h o 14 ∧ mca st 8 ∧ mca [.ref o, a1] 3 ∧ mcall d 355 [.ref o, a1] h (mK (d + 1) 364 Q 191 [x0, x1, x2, x3, x4, x5, x6, x7, x8, x9] st)) := (mw_at mj_364_188).trans ((z_invv (As := [a1]) (by decide) rfl rfl).trans (congrArg (And _) (congrArg (And _) (mC_nl nl_355))))
theorem mj_364_191 : mc_P 364 191 = some (.iaload, 1, 0, 0, 0) := by decide +kernel
theorem s_364_191 {x0 x1 x2 x3 x4 x5 x6 x7 x8 x9 : Option Value} {o : Nat} {i : Int32} : mw d 364 Q 191 [x0, x1, x2, x3, x4, x5, x6, x7, x8, x9] (.int i :: .ref o :: st) h = (mg h o 100 ∧ mx i (mh_l h o) ∧ mw d 364 Q 192 [x0, x1, x2, x3, x4, x5, x6, x7, x8, x9] (.int (mh_i h o i.toNatClampNeg) :: st) h) := (mw_at mj_364_191).trans (z_iald)
theorem mj_364_192 : mc_P 364 192 = some (.lload_n 3, 1, 0, 0, 0) := by decide +kernel
theorem s_364_192 {x0 x1 x2 x4 x5 x6 x7 x8 x9 : Option Value} {w : Value} : mw d 364 Q 192 [x0, x1, x2, some w, x4, x5, x6, x7, x8, x9] (st) h = mv_l w (mw d 364 Q 193 [x0, x1, x2, some w, x4, x5, x6, x7, x8, x9] (w :: st) h) := (mw_at mj_364_192).trans (z_lload_n rfl)
theorem mj_364_193 : mc_P 364 193 = some (.l2i, 1, 0, 0, 0) := by decide +kernel
theorem s_364_193 {x0 x1 x2 x3 x4 x5 x6 x7 x8 x9 : Option Value} {x : Int64} : mw d 364 Q 193 [x0, x1, x2, x3, x4, x5, x6, x7, x8, x9] (.long x :: st) h = mw d 364 Q 194 [x0, x1, x2, x3, x4, x5, x6, x7, x8, x9] (.int x.toInt32 :: st) h := (mw_at mj_364_193).trans (z_l2i)
theorem mj_364_194 : mc_P 364 194 = some (.iastore, 1, 0, 0, 0) := by decide +kernel
theorem s_364_194 {x0 x1 x2 x3 x4 x5 x6 x7 x8 x9 : Option Value} {o : Nat} {i w : Int32} : mw d 364 Q 194 [x0, x1, x2, x3, x4, x5, x6, x7, x8, x9] (.int w :: .int i :: .ref o :: st) h = (mg h o 100 ∧ mx i (mh_l h o) ∧ mw d 364 Q 195 [x0, x1, x2, x3, x4, x5, x6, x7, x8, x9] (st) (mh_si h o i.toNatClampNeg w)) := (mw_at mj_364_194).trans (z_iast)
theorem mj_364_195 : mc_P 364 195 = some (.aload_n 0, 1, 0, 0, 0) := by decide +kernel
theorem s_364_195 {x1 x2 x3 x4 x5 x6 x7 x8 x9 : Option Value} {w : Value} : mw d 364 Q 195 [some w, x1, x2, x3, x4, x5, x6, x7, x8, x9] (st) h = mv_a w (mw d 364 Q 196 [some w, x1, x2, x3, x4, x5, x6, x7, x8, x9] (w :: st) h) := (mw_at mj_364_195).trans (z_aload_n rfl)
theorem mj_364_196 : mc_P 364 196 = some (.iload_n 1, 1, 0, 0, 0) := by decide +kernel
theorem s_364_196 {x0 x2 x3 x4 x5 x6 x7 x8 x9 : Option Value} {w : Value} : mw d 364 Q 196 [x0, some w, x2, x3, x4, x5, x6, x7, x8, x9] (st) h = mv_i w (mw d 364 Q 197 [x0, some w, x2, x3, x4, x5, x6, x7, x8, x9] (w :: st) h) := (mw_at mj_364_196).trans (z_iload_n rfl)
theorem mj_364_197 : mc_P 364 197 = some (.invokevirtual 460, 3, 351, 14, 2) := by decide +kernel
theorem s_364_197 {x0 x1 x2 x3 x4 x5 x6 x7 x8 x9 : Option Value} {o : Nat} {a1 : Value} : mw (d + 1) 364 Q 197 [x0, x1, x2, x3, x4, x5, x6, x7, x8, x9] (a1 :: .ref o :: st) h = (mg h o 14 ∧ mca st 8 ∧ mca [.ref o, a1] 4 ∧ mcall d 351 [.ref o, a1] h (mK (d + 1) 364 Q 200 [x0, x1, x2, x3, x4, x5, x6, x7, x8, x9] st)) := (mw_at mj_364_197).trans ((z_invv (As := [a1]) (by decide) rfl rfl).trans (congrArg (And _) (congrArg (And _) (mC_nl nl_351))))
theorem mj_364_200 : mc_P 364 200 = some (.ireturn, 1, 0, 0, 0) := by decide +kernel
theorem s_364_200 {x0 x1 x2 x3 x4 x5 x6 x7 x8 x9 : Option Value} {x : Int32} : mw d 364 Q 200 [x0, x1, x2, x3, x4, x5, x6, x7, x8, x9] ([.int x]) h = (Q (some (.int x)) h) := (mw_at mj_364_200).trans (z_iret)
theorem mj_364_201 : mc_P 364 201 = some (.aload_n 0, 1, 0, 0, 0) := by decide +kernel
theorem s_364_201 {x1 x2 x3 x4 x5 x6 x7 x8 x9 : Option Value} {w : Value} : mw d 364 Q 201 [some w, x1, x2, x3, x4, x5, x6, x7, x8, x9] (st) h = mv_a w (mw d 364 Q 202 [some w, x1, x2, x3, x4, x5, x6, x7, x8, x9] (w :: st) h) := (mw_at mj_364_201).trans (z_aload_n rfl)
theorem mj_364_202 : mc_P 364 202 = some (.iload_n 2, 1, 0, 0, 0) := by decide +kernel
theorem s_364_202 {x0 x1 x3 x4 x5 x6 x7 x8 x9 : Option Value} {w : Value} : mw d 364 Q 202 [x0, x1, some w, x3, x4, x5, x6, x7, x8, x9] (st) h = mv_i w (mw d 364 Q 203 [x0, x1, some w, x3, x4, x5, x6, x7, x8, x9] (w :: st) h) := (mw_at mj_364_202).trans (z_iload_n rfl)
theorem mj_364_203 : mc_P 364 203 = some (.iconst 1, 1, 0, 0, 0) := by decide +kernel
theorem s_364_203 {x0 x1 x2 x3 x4 x5 x6 x7 x8 x9 : Option Value} : mw d 364 Q 203 [x0, x1, x2, x3, x4, x5, x6, x7, x8, x9] (st) h = mw d 364 Q 204 [x0, x1, x2, x3, x4, x5, x6, x7, x8, x9] (.int 1 :: st) h := (mw_at mj_364_203).trans (z_iconst (by decide))
theorem mj_364_204 : mc_P 364 204 = some (.iadd, 1, 0, 0, 0) := by decide +kernel
theorem s_364_204 {x0 x1 x2 x3 x4 x5 x6 x7 x8 x9 : Option Value} {x w : Int32} : mw d 364 Q 204 [x0, x1, x2, x3, x4, x5, x6, x7, x8, x9] (.int w :: .int x :: st) h = mw d 364 Q 205 [x0, x1, x2, x3, x4, x5, x6, x7, x8, x9] (.int (x + w) :: st) h := (mw_at mj_364_204).trans (z_iadd)
theorem mj_364_205 : mc_P 364 205 = some (.aload_n 0, 1, 0, 0, 0) := by decide +kernel
theorem s_364_205 {x1 x2 x3 x4 x5 x6 x7 x8 x9 : Option Value} {w : Value} : mw d 364 Q 205 [some w, x1, x2, x3, x4, x5, x6, x7, x8, x9] (st) h = mv_a w (mw d 364 Q 206 [some w, x1, x2, x3, x4, x5, x6, x7, x8, x9] (w :: st) h) := (mw_at mj_364_205).trans (z_aload_n rfl)
theorem mj_364_206 : mc_P 364 206 = some (.iload_n 2, 1, 0, 0, 0) := by decide +kernel
theorem s_364_206 {x0 x1 x3 x4 x5 x6 x7 x8 x9 : Option Value} {w : Value} : mw d 364 Q 206 [x0, x1, some w, x3, x4, x5, x6, x7, x8, x9] (st) h = mv_i w (mw d 364 Q 207 [x0, x1, some w, x3, x4, x5, x6, x7, x8, x9] (w :: st) h) := (mw_at mj_364_206).trans (z_iload_n rfl)
theorem mj_364_207 : mc_P 364 207 = some (.invokevirtual 391, 3, 334, 14, 2) := by decide +kernel
theorem s_364_207 {x0 x1 x2 x3 x4 x5 x6 x7 x8 x9 : Option Value} {o : Nat} {a1 : Value} : mw (d + 1) 364 Q 207 [x0, x1, x2, x3, x4, x5, x6, x7, x8, x9] (a1 :: .ref o :: st) h = (mg h o 14 ∧ mca st 8 ∧ mca [.ref o, a1] 2 ∧ mcall d 334 [.ref o, a1] h (mK (d + 1) 364 Q 210 [x0, x1, x2, x3, x4, x5, x6, x7, x8, x9] st)) := (mw_at mj_364_207).trans ((z_invv (As := [a1]) (by decide) rfl rfl).trans (congrArg (And _) (congrArg (And _) (mC_nl nl_334))))
theorem mj_364_210 : mc_P 364 210 = some (.invokevirtual 445, 3, 359, 14, 3) := by decide +kernel
theorem s_364_210 {x0 x1 x2 x3 x4 x5 x6 x7 x8 x9 : Option Value} {o : Nat} {a1 a2 : Value} : mw (d + 1) 364 Q 210 [x0, x1, x2, x3, x4, x5, x6, x7, x8, x9] (a2 :: a1 :: .ref o :: st) h = (mg h o 14 ∧ mca st 8 ∧ mca [.ref o, a1, a2] 6 ∧ mcall d 359 [.ref o, a1, a2] h (mK (d + 1) 364 Q 213 [x0, x1, x2, x3, x4, x5, x6, x7, x8, x9] st)) := (mw_at mj_364_210).trans ((z_invv (As := [a1, a2]) (by decide) rfl rfl).trans (congrArg (And _) (congrArg (And _) (mC_nl nl_359))))
theorem mj_364_213 : mc_P 364 213 = some (.istore 5, 2, 0, 0, 0) := by decide +kernel
theorem s_364_213 {x0 x1 x2 x3 x4 x5 x6 x7 x8 x9 : Option Value} {w : Int32} : mw d 364 Q 213 [x0, x1, x2, x3, x4, x5, x6, x7, x8, x9] (.int w :: st) h = mw d 364 Q 215 [x0, x1, x2, x3, mk2 x4, some (.int w), x6, x7, x8, x9] (st) h := (mw_at mj_364_213).trans (z_istore (Nat.le_of_ble_eq_true rfl) (me_s1_mk (j := 4) (w := x4) rfl))
theorem mj_364_215 : mc_P 364 215 = some (.aload_n 0, 1, 0, 0, 0) := by decide +kernel
theorem s_364_215 {x1 x2 x3 x4 x5 x6 x7 x8 x9 : Option Value} {w : Value} : mw d 364 Q 215 [some w, x1, x2, x3, x4, x5, x6, x7, x8, x9] (st) h = mv_a w (mw d 364 Q 216 [some w, x1, x2, x3, x4, x5, x6, x7, x8, x9] (w :: st) h) := (mw_at mj_364_215).trans (z_aload_n rfl)
theorem mj_364_216 : mc_P 364 216 = some (.aload_n 0, 1, 0, 0, 0) := by decide +kernel
theorem s_364_216 {x1 x2 x3 x4 x5 x6 x7 x8 x9 : Option Value} {w : Value} : mw d 364 Q 216 [some w, x1, x2, x3, x4, x5, x6, x7, x8, x9] (st) h = mv_a w (mw d 364 Q 217 [some w, x1, x2, x3, x4, x5, x6, x7, x8, x9] (w :: st) h) := (mw_at mj_364_216).trans (z_aload_n rfl)
theorem mj_364_217 : mc_P 364 217 = some (.aload_n 0, 1, 0, 0, 0) := by decide +kernel
theorem s_364_217 {x1 x2 x3 x4 x5 x6 x7 x8 x9 : Option Value} {w : Value} : mw d 364 Q 217 [some w, x1, x2, x3, x4, x5, x6, x7, x8, x9] (st) h = mv_a w (mw d 364 Q 218 [some w, x1, x2, x3, x4, x5, x6, x7, x8, x9] (w :: st) h) := (mw_at mj_364_217).trans (z_aload_n rfl)
theorem mj_364_218 : mc_P 364 218 = some (.iload_n 2, 1, 0, 0, 0) := by decide +kernel
theorem s_364_218 {x0 x1 x3 x4 x5 x6 x7 x8 x9 : Option Value} {w : Value} : mw d 364 Q 218 [x0, x1, some w, x3, x4, x5, x6, x7, x8, x9] (st) h = mv_i w (mw d 364 Q 219 [x0, x1, some w, x3, x4, x5, x6, x7, x8, x9] (w :: st) h) := (mw_at mj_364_218).trans (z_iload_n rfl)
theorem mj_364_219 : mc_P 364 219 = some (.invokevirtual 391, 3, 334, 14, 2) := by decide +kernel
theorem s_364_219 {x0 x1 x2 x3 x4 x5 x6 x7 x8 x9 : Option Value} {o : Nat} {a1 : Value} : mw (d + 1) 364 Q 219 [x0, x1, x2, x3, x4, x5, x6, x7, x8, x9] (a1 :: .ref o :: st) h = (mg h o 14 ∧ mca st 8 ∧ mca [.ref o, a1] 2 ∧ mcall d 334 [.ref o, a1] h (mK (d + 1) 364 Q 222 [x0, x1, x2, x3, x4, x5, x6, x7, x8, x9] st)) := (mw_at mj_364_219).trans ((z_invv (As := [a1]) (by decide) rfl rfl).trans (congrArg (And _) (congrArg (And _) (mC_nl nl_334))))
theorem mj_364_222 : mc_P 364 222 = some (.invokevirtual 348, 3, 333, 14, 2) := by decide +kernel
theorem s_364_222 {x0 x1 x2 x3 x4 x5 x6 x7 x8 x9 : Option Value} {o : Nat} {a1 : Value} : mw (d + 1) 364 Q 222 [x0, x1, x2, x3, x4, x5, x6, x7, x8, x9] (a1 :: .ref o :: st) h = (mg h o 14 ∧ mca st 8 ∧ mca [.ref o, a1] 2 ∧ mcall d 333 [.ref o, a1] h (mK (d + 1) 364 Q 225 [x0, x1, x2, x3, x4, x5, x6, x7, x8, x9] st)) := (mw_at mj_364_222).trans ((z_invv (As := [a1]) (by decide) rfl rfl).trans (congrArg (And _) (congrArg (And _) (mC_nl nl_333))))
theorem mj_364_225 : mc_P 364 225 = some (.invokevirtual 439, 3, 360, 14, 2) := by decide +kernel
theorem s_364_225 {x0 x1 x2 x3 x4 x5 x6 x7 x8 x9 : Option Value} {o : Nat} {a1 : Value} : mw (d + 1) 364 Q 225 [x0, x1, x2, x3, x4, x5, x6, x7, x8, x9] (a1 :: .ref o :: st) h = (mg h o 14 ∧ mca st 8 ∧ mca [.ref o, a1] 7 ∧ mcall d 360 [.ref o, a1] h (mK (d + 1) 364 Q 228 [x0, x1, x2, x3, x4, x5, x6, x7, x8, x9] st)) := (mw_at mj_364_225).trans ((z_invv (As := [a1]) (by decide) rfl rfl).trans (congrArg (And _) (congrArg (And _) (mC_nl nl_360))))
theorem mj_364_228 : mc_P 364 228 = some (.lstore_n 3, 1, 0, 0, 0) := by decide +kernel
theorem s_364_228 {x0 x1 x2 x3 x4 x5 x6 x7 x8 x9 : Option Value} {w : Int64} : mw d 364 Q 228 [x0, x1, x2, x3, x4, x5, x6, x7, x8, x9] (.long w :: st) h = mw d 364 Q 229 [x0, x1, mk2 x2, some (.long w), none, x5, x6, x7, x8, x9] (st) h := (mw_at mj_364_228).trans (z_lstore_n (Nat.le_of_ble_eq_true rfl) (me_s2_mk (j := 2) (w := x2) rfl))
theorem mj_364_229 : mc_P 364 229 = some (.aload_n 0, 1, 0, 0, 0) := by decide +kernel
theorem s_364_229 {x1 x2 x3 x4 x5 x6 x7 x8 x9 : Option Value} {w : Value} : mw d 364 Q 229 [some w, x1, x2, x3, x4, x5, x6, x7, x8, x9] (st) h = mv_a w (mw d 364 Q 230 [some w, x1, x2, x3, x4, x5, x6, x7, x8, x9] (w :: st) h) := (mw_at mj_364_229).trans (z_aload_n rfl)
theorem mj_364_230 : mc_P 364 230 = some (.getfield 427, 3, 14, 68, 0) := by decide +kernel
theorem s_364_230 {x0 x1 x2 x3 x4 x5 x6 x7 x8 x9 : Option Value} {o : Nat} : mw d 364 Q 230 [x0, x1, x2, x3, x4, x5, x6, x7, x8, x9] (.ref o :: st) h = (mg h o 14 ∧ mw d 364 Q 233 [x0, x1, x2, x3, x4, x5, x6, x7, x8, x9] (.int (mh_i h o 68) :: st) h) := (mw_at mj_364_230).trans (z_geti (by decide) (by decide) (Or.inl rfl))
theorem mj_364_233 : mc_P 364 233 = some (.ifCond .ne 12, 3, 0, 0, 0) := by decide +kernel
theorem s_364_233 {x0 x1 x2 x3 x4 x5 x6 x7 x8 x9 : Option Value} {x : Int32} : mw d 364 Q 233 [x0, x1, x2, x3, x4, x5, x6, x7, x8, x9] (.int x :: st) h = mB (¬ x = 0) (mw d 364 Q) 245 236 [x0, x1, x2, x3, x4, x5, x6, x7, x8, x9] st h := (mw_at mj_364_233).trans (z_if_ne (by decide) rfl)
theorem mj_364_236 : mc_P 364 236 = some (.aload_n 0, 1, 0, 0, 0) := by decide +kernel
theorem s_364_236 {x1 x2 x3 x4 x5 x6 x7 x8 x9 : Option Value} {w : Value} : mw d 364 Q 236 [some w, x1, x2, x3, x4, x5, x6, x7, x8, x9] (st) h = mv_a w (mw d 364 Q 237 [some w, x1, x2, x3, x4, x5, x6, x7, x8, x9] (w :: st) h) := (mw_at mj_364_236).trans (z_aload_n rfl)
theorem mj_364_237 : mc_P 364 237 = some (.getfield 144, 3, 14, 62, 0) := by decide +kernel
theorem s_364_237 {x0 x1 x2 x3 x4 x5 x6 x7 x8 x9 : Option Value} {o : Nat} : mw d 364 Q 237 [x0, x1, x2, x3, x4, x5, x6, x7, x8, x9] (.ref o :: st) h = (mg h o 14 ∧ mw d 364 Q 240 [x0, x1, x2, x3, x4, x5, x6, x7, x8, x9] (va_rf (mh_r h o 62) :: st) h) := (mw_at mj_364_237).trans (z_getr (by decide) (by decide) rfl)
theorem mj_364_240 : mc_P 364 240 = some (.iload 5, 2, 0, 0, 0) := by decide +kernel
theorem s_364_240 {x0 x1 x2 x3 x4 x6 x7 x8 x9 : Option Value} {w : Value} : mw d 364 Q 240 [x0, x1, x2, x3, x4, some w, x6, x7, x8, x9] (st) h = mv_i w (mw d 364 Q 242 [x0, x1, x2, x3, x4, some w, x6, x7, x8, x9] (w :: st) h) := (mw_at mj_364_240).trans (z_iload rfl)
theorem mj_364_242 : mc_P 364 242 = some (.lload_n 3, 1, 0, 0, 0) := by decide +kernel
theorem s_364_242 {x0 x1 x2 x4 x5 x6 x7 x8 x9 : Option Value} {w : Value} : mw d 364 Q 242 [x0, x1, x2, some w, x4, x5, x6, x7, x8, x9] (st) h = mv_l w (mw d 364 Q 243 [x0, x1, x2, some w, x4, x5, x6, x7, x8, x9] (w :: st) h) := (mw_at mj_364_242).trans (z_lload_n rfl)
theorem mj_364_243 : mc_P 364 243 = some (.l2i, 1, 0, 0, 0) := by decide +kernel
theorem s_364_243 {x0 x1 x2 x3 x4 x5 x6 x7 x8 x9 : Option Value} {x : Int64} : mw d 364 Q 243 [x0, x1, x2, x3, x4, x5, x6, x7, x8, x9] (.long x :: st) h = mw d 364 Q 244 [x0, x1, x2, x3, x4, x5, x6, x7, x8, x9] (.int x.toInt32 :: st) h := (mw_at mj_364_243).trans (z_l2i)
theorem mj_364_244 : mc_P 364 244 = some (.iastore, 1, 0, 0, 0) := by decide +kernel
theorem s_364_244 {x0 x1 x2 x3 x4 x5 x6 x7 x8 x9 : Option Value} {o : Nat} {i w : Int32} : mw d 364 Q 244 [x0, x1, x2, x3, x4, x5, x6, x7, x8, x9] (.int w :: .int i :: .ref o :: st) h = (mg h o 100 ∧ mx i (mh_l h o) ∧ mw d 364 Q 245 [x0, x1, x2, x3, x4, x5, x6, x7, x8, x9] (st) (mh_si h o i.toNatClampNeg w)) := (mw_at mj_364_244).trans (z_iast)
theorem mj_364_245 : mc_P 364 245 = some (.aload_n 0, 1, 0, 0, 0) := by decide +kernel
theorem s_364_245 {x1 x2 x3 x4 x5 x6 x7 x8 x9 : Option Value} {w : Value} : mw d 364 Q 245 [some w, x1, x2, x3, x4, x5, x6, x7, x8, x9] (st) h = mv_a w (mw d 364 Q 246 [some w, x1, x2, x3, x4, x5, x6, x7, x8, x9] (w :: st) h) := (mw_at mj_364_245).trans (z_aload_n rfl)
theorem mj_364_246 : mc_P 364 246 = some (.iload_n 1, 1, 0, 0, 0) := by decide +kernel
theorem s_364_246 {x0 x2 x3 x4 x5 x6 x7 x8 x9 : Option Value} {w : Value} : mw d 364 Q 246 [x0, some w, x2, x3, x4, x5, x6, x7, x8, x9] (st) h = mv_i w (mw d 364 Q 247 [x0, some w, x2, x3, x4, x5, x6, x7, x8, x9] (w :: st) h) := (mw_at mj_364_246).trans (z_iload_n rfl)
theorem mj_364_247 : mc_P 364 247 = some (.invokevirtual 460, 3, 351, 14, 2) := by decide +kernel
theorem s_364_247 {x0 x1 x2 x3 x4 x5 x6 x7 x8 x9 : Option Value} {o : Nat} {a1 : Value} : mw (d + 1) 364 Q 247 [x0, x1, x2, x3, x4, x5, x6, x7, x8, x9] (a1 :: .ref o :: st) h = (mg h o 14 ∧ mca st 8 ∧ mca [.ref o, a1] 4 ∧ mcall d 351 [.ref o, a1] h (mK (d + 1) 364 Q 250 [x0, x1, x2, x3, x4, x5, x6, x7, x8, x9] st)) := (mw_at mj_364_247).trans ((z_invv (As := [a1]) (by decide) rfl rfl).trans (congrArg (And _) (congrArg (And _) (mC_nl nl_351))))
theorem mj_364_250 : mc_P 364 250 = some (.ireturn, 1, 0, 0, 0) := by decide +kernel
theorem s_364_250 {x0 x1 x2 x3 x4 x5 x6 x7 x8 x9 : Option Value} {x : Int32} : mw d 364 Q 250 [x0, x1, x2, x3, x4, x5, x6, x7, x8, x9] ([.int x]) h = (Q (some (.int x)) h) := (mw_at mj_364_250).trans (z_iret)
theorem mj_364_251 : mc_P 364 251 = some (.iconst 0, 1, 0, 0, 0) := by decide +kernel
theorem s_364_251 {x0 x1 x2 x3 x4 x5 x6 x7 x8 x9 : Option Value} : mw d 364 Q 251 [x0, x1, x2, x3, x4, x5, x6, x7, x8, x9] (st) h = mw d 364 Q 252 [x0, x1, x2, x3, x4, x5, x6, x7, x8, x9] (.int 0 :: st) h := (mw_at mj_364_251).trans (z_iconst (by decide))
theorem mj_364_252 : mc_P 364 252 = some (.istore 6, 2, 0, 0, 0) := by decide +kernel
theorem s_364_252 {x0 x1 x2 x3 x4 x5 x6 x7 x8 x9 : Option Value} {w : Int32} : mw d 364 Q 252 [x0, x1, x2, x3, x4, x5, x6, x7, x8, x9] (.int w :: st) h = mw d 364 Q 254 [x0, x1, x2, x3, x4, mk2 x5, some (.int w), x7, x8, x9] (st) h := (mw_at mj_364_252).trans (z_istore (Nat.le_of_ble_eq_true rfl) (me_s1_mk (j := 5) (w := x5) rfl))
theorem mj_364_254 : mc_P 364 254 = some (.iload_n 2, 1, 0, 0, 0) := by decide +kernel
theorem s_364_254 {x0 x1 x3 x4 x5 x6 x7 x8 x9 : Option Value} {w : Value} : mw d 364 Q 254 [x0, x1, some w, x3, x4, x5, x6, x7, x8, x9] (st) h = mv_i w (mw d 364 Q 255 [x0, x1, some w, x3, x4, x5, x6, x7, x8, x9] (w :: st) h) := (mw_at mj_364_254).trans (z_iload_n rfl)
theorem mj_364_255 : mc_P 364 255 = some (.iconst 3, 1, 0, 0, 0) := by decide +kernel
theorem s_364_255 {x0 x1 x2 x3 x4 x5 x6 x7 x8 x9 : Option Value} : mw d 364 Q 255 [x0, x1, x2, x3, x4, x5, x6, x7, x8, x9] (st) h = mw d 364 Q 256 [x0, x1, x2, x3, x4, x5, x6, x7, x8, x9] (.int 3 :: st) h := (mw_at mj_364_255).trans (z_iconst (by decide))
theorem mj_364_256 : mc_P 364 256 = some (.iadd, 1, 0, 0, 0) := by decide +kernel
theorem s_364_256 {x0 x1 x2 x3 x4 x5 x6 x7 x8 x9 : Option Value} {x w : Int32} : mw d 364 Q 256 [x0, x1, x2, x3, x4, x5, x6, x7, x8, x9] (.int w :: .int x :: st) h = mw d 364 Q 257 [x0, x1, x2, x3, x4, x5, x6, x7, x8, x9] (.int (x + w) :: st) h := (mw_at mj_364_256).trans (z_iadd)
theorem mj_364_257 : mc_P 364 257 = some (.istore 7, 2, 0, 0, 0) := by decide +kernel
theorem s_364_257 {x0 x1 x2 x3 x4 x5 x6 x7 x8 x9 : Option Value} {w : Int32} : mw d 364 Q 257 [x0, x1, x2, x3, x4, x5, x6, x7, x8, x9] (.int w :: st) h = mw d 364 Q 259 [x0, x1, x2, x3, x4, x5, mk2 x6, some (.int w), x8, x9] (st) h := (mw_at mj_364_257).trans (z_istore (Nat.le_of_ble_eq_true rfl) (me_s1_mk (j := 6) (w := x6) rfl))
theorem mj_364_259 : mc_P 364 259 = some (.iload 7, 2, 0, 0, 0) := by decide +kernel
theorem s_364_259 {x0 x1 x2 x3 x4 x5 x6 x8 x9 : Option Value} {w : Value} : mw d 364 Q 259 [x0, x1, x2, x3, x4, x5, x6, some w, x8, x9] (st) h = mv_i w (mw d 364 Q 261 [x0, x1, x2, x3, x4, x5, x6, some w, x8, x9] (w :: st) h) := (mw_at mj_364_259).trans (z_iload rfl)
theorem mj_364_261 : mc_P 364 261 = some (.aload_n 0, 1, 0, 0, 0) := by decide +kernel
theorem s_364_261 {x1 x2 x3 x4 x5 x6 x7 x8 x9 : Option Value} {w : Value} : mw d 364 Q 261 [some w, x1, x2, x3, x4, x5, x6, x7, x8, x9] (st) h = mv_a w (mw d 364 Q 262 [some w, x1, x2, x3, x4, x5, x6, x7, x8, x9] (w :: st) h) := (mw_at mj_364_261).trans (z_aload_n rfl)
theorem mj_364_262 : mc_P 364 262 = some (.iload_n 2, 1, 0, 0, 0) := by decide +kernel
theorem s_364_262 {x0 x1 x3 x4 x5 x6 x7 x8 x9 : Option Value} {w : Value} : mw d 364 Q 262 [x0, x1, some w, x3, x4, x5, x6, x7, x8, x9] (st) h = mv_i w (mw d 364 Q 263 [x0, x1, some w, x3, x4, x5, x6, x7, x8, x9] (w :: st) h) := (mw_at mj_364_262).trans (z_iload_n rfl)
theorem mj_364_263 : mc_P 364 263 = some (.invokevirtual 348, 3, 333, 14, 2) := by decide +kernel
theorem s_364_263 {x0 x1 x2 x3 x4 x5 x6 x7 x8 x9 : Option Value} {o : Nat} {a1 : Value} : mw (d + 1) 364 Q 263 [x0, x1, x2, x3, x4, x5, x6, x7, x8, x9] (a1 :: .ref o :: st) h = (mg h o 14 ∧ mca st 8 ∧ mca [.ref o, a1] 2 ∧ mcall d 333 [.ref o, a1] h (mK (d + 1) 364 Q 266 [x0, x1, x2, x3, x4, x5, x6, x7, x8, x9] st)) := (mw_at mj_364_263).trans ((z_invv (As := [a1]) (by decide) rfl rfl).trans (congrArg (And _) (congrArg (And _) (mC_nl nl_333))))
theorem mj_364_266 : mc_P 364 266 = some (.if_icmp .ge 37, 3, 0, 0, 0) := by decide +kernel
theorem s_364_266 {x0 x1 x2 x3 x4 x5 x6 x7 x8 x9 : Option Value} {x w : Int32} : mw d 364 Q 266 [x0, x1, x2, x3, x4, x5, x6, x7, x8, x9] (.int w :: .int x :: st) h = mB (w ≤ x) (mw d 364 Q) 303 269 [x0, x1, x2, x3, x4, x5, x6, x7, x8, x9] st h := (mw_at mj_364_266).trans (z_icmp_ge (by decide) rfl)
theorem mj_364_269 : mc_P 364 269 = some (.aload_n 0, 1, 0, 0, 0) := by decide +kernel
theorem s_364_269 {x1 x2 x3 x4 x5 x6 x7 x8 x9 : Option Value} {w : Value} : mw d 364 Q 269 [some w, x1, x2, x3, x4, x5, x6, x7, x8, x9] (st) h = mv_a w (mw d 364 Q 270 [some w, x1, x2, x3, x4, x5, x6, x7, x8, x9] (w :: st) h) := (mw_at mj_364_269).trans (z_aload_n rfl)
theorem mj_364_270 : mc_P 364 270 = some (.getfield 427, 3, 14, 68, 0) := by decide +kernel
theorem s_364_270 {x0 x1 x2 x3 x4 x5 x6 x7 x8 x9 : Option Value} {o : Nat} : mw d 364 Q 270 [x0, x1, x2, x3, x4, x5, x6, x7, x8, x9] (.ref o :: st) h = (mg h o 14 ∧ mw d 364 Q 273 [x0, x1, x2, x3, x4, x5, x6, x7, x8, x9] (.int (mh_i h o 68) :: st) h) := (mw_at mj_364_270).trans (z_geti (by decide) (by decide) (Or.inl rfl))
theorem mj_364_273 : mc_P 364 273 = some (.ifCond .ne 30, 3, 0, 0, 0) := by decide +kernel
theorem s_364_273 {x0 x1 x2 x3 x4 x5 x6 x7 x8 x9 : Option Value} {x : Int32} : mw d 364 Q 273 [x0, x1, x2, x3, x4, x5, x6, x7, x8, x9] (.int x :: st) h = mB (¬ x = 0) (mw d 364 Q) 303 276 [x0, x1, x2, x3, x4, x5, x6, x7, x8, x9] st h := (mw_at mj_364_273).trans (z_if_ne (by decide) rfl)
theorem mj_364_276 : mc_P 364 276 = some (.aload_n 0, 1, 0, 0, 0) := by decide +kernel
theorem s_364_276 {x1 x2 x3 x4 x5 x6 x7 x8 x9 : Option Value} {w : Value} : mw d 364 Q 276 [some w, x1, x2, x3, x4, x5, x6, x7, x8, x9] (st) h = mv_a w (mw d 364 Q 277 [some w, x1, x2, x3, x4, x5, x6, x7, x8, x9] (w :: st) h) := (mw_at mj_364_276).trans (z_aload_n rfl)
theorem mj_364_277 : mc_P 364 277 = some (.getfield 147, 3, 14, 63, 0) := by decide +kernel
theorem s_364_277 {x0 x1 x2 x3 x4 x5 x6 x7 x8 x9 : Option Value} {o : Nat} : mw d 364 Q 277 [x0, x1, x2, x3, x4, x5, x6, x7, x8, x9] (.ref o :: st) h = (mg h o 14 ∧ mw d 364 Q 280 [x0, x1, x2, x3, x4, x5, x6, x7, x8, x9] (va_rf (mh_r h o 63) :: st) h) := (mw_at mj_364_277).trans (z_getr (by decide) (by decide) rfl)
theorem mj_364_280 : mc_P 364 280 = some (.iload 6, 2, 0, 0, 0) := by decide +kernel
theorem s_364_280 {x0 x1 x2 x3 x4 x5 x7 x8 x9 : Option Value} {w : Value} : mw d 364 Q 280 [x0, x1, x2, x3, x4, x5, some w, x7, x8, x9] (st) h = mv_i w (mw d 364 Q 282 [x0, x1, x2, x3, x4, x5, some w, x7, x8, x9] (w :: st) h) := (mw_at mj_364_280).trans (z_iload rfl)
theorem mj_364_282 : mc_P 364 282 = some (.aload_n 0, 1, 0, 0, 0) := by decide +kernel
theorem s_364_282 {x1 x2 x3 x4 x5 x6 x7 x8 x9 : Option Value} {w : Value} : mw d 364 Q 282 [some w, x1, x2, x3, x4, x5, x6, x7, x8, x9] (st) h = mv_a w (mw d 364 Q 283 [some w, x1, x2, x3, x4, x5, x6, x7, x8, x9] (w :: st) h) := (mw_at mj_364_282).trans (z_aload_n rfl)
theorem mj_364_283 : mc_P 364 283 = some (.iload 7, 2, 0, 0, 0) := by decide +kernel
theorem s_364_283 {x0 x1 x2 x3 x4 x5 x6 x8 x9 : Option Value} {w : Value} : mw d 364 Q 283 [x0, x1, x2, x3, x4, x5, x6, some w, x8, x9] (st) h = mv_i w (mw d 364 Q 285 [x0, x1, x2, x3, x4, x5, x6, some w, x8, x9] (w :: st) h) := (mw_at mj_364_283).trans (z_iload rfl)
theorem mj_364_285 : mc_P 364 285 = some (.invokevirtual 439, 3, 360, 14, 2) := by decide +kernel
theorem s_364_285 {x0 x1 x2 x3 x4 x5 x6 x7 x8 x9 : Option Value} {o : Nat} {a1 : Value} : mw (d + 1) 364 Q 285 [x0, x1, x2, x3, x4, x5, x6, x7, x8, x9] (a1 :: .ref o :: st) h = (mg h o 14 ∧ mca st 8 ∧ mca [.ref o, a1] 7 ∧ mcall d 360 [.ref o, a1] h (mK (d + 1) 364 Q 288 [x0, x1, x2, x3, x4, x5, x6, x7, x8, x9] st)) := (mw_at mj_364_285).trans ((z_invv (As := [a1]) (by decide) rfl rfl).trans (congrArg (And _) (congrArg (And _) (mC_nl nl_360))))
theorem mj_364_288 : mc_P 364 288 = some (.lastore, 1, 0, 0, 0) := by decide +kernel
theorem s_364_288 {x0 x1 x2 x3 x4 x5 x6 x7 x8 x9 : Option Value} {o : Nat} {i : Int32} {w : Int64} : mw d 364 Q 288 [x0, x1, x2, x3, x4, x5, x6, x7, x8, x9] (.long w :: .int i :: .ref o :: st) h = (mg h o 101 ∧ mx i (mh_l h o) ∧ mw d 364 Q 289 [x0, x1, x2, x3, x4, x5, x6, x7, x8, x9] (st) (mh_sj h o i.toNatClampNeg w)) := (mw_at mj_364_288).trans (z_last)
theorem mj_364_289 : mc_P 364 289 = some (.iinc 6 1, 3, 0, 0, 0) := by decide +kernel
theorem s_364_289 {x0 x1 x2 x3 x4 x5 x7 x8 x9 : Option Value} {w : Int32} : mw d 364 Q 289 [x0, x1, x2, x3, x4, x5, some (.int w), x7, x8, x9] (st) h = mw d 364 Q 292 [x0, x1, x2, x3, x4, mk2 x5, some (.int (w + 1)), x7, x8, x9] (st) h := (mw_at mj_364_289).trans (z_iinc rfl (Nat.le_of_ble_eq_true rfl) (by decide) (me_s1_mk (j := 5) (w := x5) rfl))
theorem mj_364_292 : mc_P 364 292 = some (.aload_n 0, 1, 0, 0, 0) := by decide +kernel
theorem s_364_292 {x1 x2 x3 x4 x5 x6 x7 x8 x9 : Option Value} {w : Value} : mw d 364 Q 292 [some w, x1, x2, x3, x4, x5, x6, x7, x8, x9] (st) h = mv_a w (mw d 364 Q 293 [some w, x1, x2, x3, x4, x5, x6, x7, x8, x9] (w :: st) h) := (mw_at mj_364_292).trans (z_aload_n rfl)
theorem mj_364_293 : mc_P 364 293 = some (.iload 7, 2, 0, 0, 0) := by decide +kernel
theorem s_364_293 {x0 x1 x2 x3 x4 x5 x6 x8 x9 : Option Value} {w : Value} : mw d 364 Q 293 [x0, x1, x2, x3, x4, x5, x6, some w, x8, x9] (st) h = mv_i w (mw d 364 Q 295 [x0, x1, x2, x3, x4, x5, x6, some w, x8, x9] (w :: st) h) := (mw_at mj_364_293).trans (z_iload rfl)
theorem mj_364_295 : mc_P 364 295 = some (.invokevirtual 348, 3, 333, 14, 2) := by decide +kernel
theorem s_364_295 {x0 x1 x2 x3 x4 x5 x6 x7 x8 x9 : Option Value} {o : Nat} {a1 : Value} : mw (d + 1) 364 Q 295 [x0, x1, x2, x3, x4, x5, x6, x7, x8, x9] (a1 :: .ref o :: st) h = (mg h o 14 ∧ mca st 8 ∧ mca [.ref o, a1] 2 ∧ mcall d 333 [.ref o, a1] h (mK (d + 1) 364 Q 298 [x0, x1, x2, x3, x4, x5, x6, x7, x8, x9] st)) := (mw_at mj_364_295).trans ((z_invv (As := [a1]) (by decide) rfl rfl).trans (congrArg (And _) (congrArg (And _) (mC_nl nl_333))))
theorem mj_364_298 : mc_P 364 298 = some (.istore 7, 2, 0, 0, 0) := by decide +kernel
theorem s_364_298 {x0 x1 x2 x3 x4 x5 x6 x7 x8 x9 : Option Value} {w : Int32} : mw d 364 Q 298 [x0, x1, x2, x3, x4, x5, x6, x7, x8, x9] (.int w :: st) h = mw d 364 Q 300 [x0, x1, x2, x3, x4, x5, mk2 x6, some (.int w), x8, x9] (st) h := (mw_at mj_364_298).trans (z_istore (Nat.le_of_ble_eq_true rfl) (me_s1_mk (j := 6) (w := x6) rfl))
theorem mj_364_300 : mc_P 364 300 = some (.goto (-41), 3, 0, 0, 0) := by decide +kernel
theorem s_364_300 {x0 x1 x2 x3 x4 x5 x6 x7 x8 x9 : Option Value} : mw d 364 Q 300 [x0, x1, x2, x3, x4, x5, x6, x7, x8, x9] (st) h = mw d 364 Q 259 [x0, x1, x2, x3, x4, x5, x6, x7, x8, x9] (st) h := (mw_at mj_364_300).trans (z_goto (by decide))
theorem mj_364_303 : mc_P 364 303 = some (.iconst 0, 1, 0, 0, 0) := by decide +kernel
theorem s_364_303 {x0 x1 x2 x3 x4 x5 x6 x7 x8 x9 : Option Value} : mw d 364 Q 303 [x0, x1, x2, x3, x4, x5, x6, x7, x8, x9] (st) h = mw d 364 Q 304 [x0, x1, x2, x3, x4, x5, x6, x7, x8, x9] (.int 0 :: st) h := (mw_at mj_364_303).trans (z_iconst (by decide))
theorem mj_364_304 : mc_P 364 304 = some (.istore 7, 2, 0, 0, 0) := by decide +kernel
theorem s_364_304 {x0 x1 x2 x3 x4 x5 x6 x7 x8 x9 : Option Value} {w : Int32} : mw d 364 Q 304 [x0, x1, x2, x3, x4, x5, x6, x7, x8, x9] (.int w :: st) h = mw d 364 Q 306 [x0, x1, x2, x3, x4, x5, mk2 x6, some (.int w), x8, x9] (st) h := (mw_at mj_364_304).trans (z_istore (Nat.le_of_ble_eq_true rfl) (me_s1_mk (j := 6) (w := x6) rfl))
theorem mj_364_306 : mc_P 364 306 = some (.iload 7, 2, 0, 0, 0) := by decide +kernel
theorem s_364_306 {x0 x1 x2 x3 x4 x5 x6 x8 x9 : Option Value} {w : Value} : mw d 364 Q 306 [x0, x1, x2, x3, x4, x5, x6, some w, x8, x9] (st) h = mv_i w (mw d 364 Q 308 [x0, x1, x2, x3, x4, x5, x6, some w, x8, x9] (w :: st) h) := (mw_at mj_364_306).trans (z_iload rfl)
theorem mj_364_308 : mc_P 364 308 = some (.iload 6, 2, 0, 0, 0) := by decide +kernel
theorem s_364_308 {x0 x1 x2 x3 x4 x5 x7 x8 x9 : Option Value} {w : Value} : mw d 364 Q 308 [x0, x1, x2, x3, x4, x5, some w, x7, x8, x9] (st) h = mv_i w (mw d 364 Q 310 [x0, x1, x2, x3, x4, x5, some w, x7, x8, x9] (w :: st) h) := (mw_at mj_364_308).trans (z_iload rfl)
theorem mj_364_310 : mc_P 364 310 = some (.if_icmp .ge 38, 3, 0, 0, 0) := by decide +kernel
theorem s_364_310 {x0 x1 x2 x3 x4 x5 x6 x7 x8 x9 : Option Value} {x w : Int32} : mw d 364 Q 310 [x0, x1, x2, x3, x4, x5, x6, x7, x8, x9] (.int w :: .int x :: st) h = mB (w ≤ x) (mw d 364 Q) 348 313 [x0, x1, x2, x3, x4, x5, x6, x7, x8, x9] st h := (mw_at mj_364_310).trans (z_icmp_ge (by decide) rfl)
theorem mj_364_313 : mc_P 364 313 = some (.aload_n 0, 1, 0, 0, 0) := by decide +kernel
theorem s_364_313 {x1 x2 x3 x4 x5 x6 x7 x8 x9 : Option Value} {w : Value} : mw d 364 Q 313 [some w, x1, x2, x3, x4, x5, x6, x7, x8, x9] (st) h = mv_a w (mw d 364 Q 314 [some w, x1, x2, x3, x4, x5, x6, x7, x8, x9] (w :: st) h) := (mw_at mj_364_313).trans (z_aload_n rfl)
theorem mj_364_314 : mc_P 364 314 = some (.getfield 427, 3, 14, 68, 0) := by decide +kernel
theorem s_364_314 {x0 x1 x2 x3 x4 x5 x6 x7 x8 x9 : Option Value} {o : Nat} : mw d 364 Q 314 [x0, x1, x2, x3, x4, x5, x6, x7, x8, x9] (.ref o :: st) h = (mg h o 14 ∧ mw d 364 Q 317 [x0, x1, x2, x3, x4, x5, x6, x7, x8, x9] (.int (mh_i h o 68) :: st) h) := (mw_at mj_364_314).trans (z_geti (by decide) (by decide) (Or.inl rfl))
theorem mj_364_317 : mc_P 364 317 = some (.ifCond .ne 31, 3, 0, 0, 0) := by decide +kernel
theorem s_364_317 {x0 x1 x2 x3 x4 x5 x6 x7 x8 x9 : Option Value} {x : Int32} : mw d 364 Q 317 [x0, x1, x2, x3, x4, x5, x6, x7, x8, x9] (.int x :: st) h = mB (¬ x = 0) (mw d 364 Q) 348 320 [x0, x1, x2, x3, x4, x5, x6, x7, x8, x9] st h := (mw_at mj_364_317).trans (z_if_ne (by decide) rfl)
theorem mj_364_320 : mc_P 364 320 = some (.aload_n 0, 1, 0, 0, 0) := by decide +kernel
theorem s_364_320 {x1 x2 x3 x4 x5 x6 x7 x8 x9 : Option Value} {w : Value} : mw d 364 Q 320 [some w, x1, x2, x3, x4, x5, x6, x7, x8, x9] (st) h = mv_a w (mw d 364 Q 321 [some w, x1, x2, x3, x4, x5, x6, x7, x8, x9] (w :: st) h) := (mw_at mj_364_320).trans (z_aload_n rfl)
theorem mj_364_321 : mc_P 364 321 = some (.getfield 141, 3, 14, 61, 0) := by decide +kernel
theorem s_364_321 {x0 x1 x2 x3 x4 x5 x6 x7 x8 x9 : Option Value} {o : Nat} : mw d 364 Q 321 [x0, x1, x2, x3, x4, x5, x6, x7, x8, x9] (.ref o :: st) h = (mg h o 14 ∧ mw d 364 Q 324 [x0, x1, x2, x3, x4, x5, x6, x7, x8, x9] (va_rf (mh_r h o 61) :: st) h) := (mw_at mj_364_321).trans (z_getr (by decide) (by decide) rfl)
theorem mj_364_324 : mc_P 364 324 = some (.aload_n 0, 1, 0, 0, 0) := by decide +kernel
theorem s_364_324 {x1 x2 x3 x4 x5 x6 x7 x8 x9 : Option Value} {w : Value} : mw d 364 Q 324 [some w, x1, x2, x3, x4, x5, x6, x7, x8, x9] (st) h = mv_a w (mw d 364 Q 325 [some w, x1, x2, x3, x4, x5, x6, x7, x8, x9] (w :: st) h) := (mw_at mj_364_324).trans (z_aload_n rfl)
theorem mj_364_325 : mc_P 364 325 = some (.getfield 79, 3, 14, 31, 0) := by decide +kernel
theorem s_364_325 {x0 x1 x2 x3 x4 x5 x6 x7 x8 x9 : Option Value} {o : Nat} : mw d 364 Q 325 [x0, x1, x2, x3, x4, x5, x6, x7, x8, x9] (.ref o :: st) h = (mg h o 14 ∧ mw d 364 Q 328 [x0, x1, x2, x3, x4, x5, x6, x7, x8, x9] (va_rf (mh_r h o 31) :: st) h) := (mw_at mj_364_325).trans (z_getr (by decide) (by decide) rfl)
theorem mj_364_328 : mc_P 364 328 = some (.iload_n 1, 1, 0, 0, 0) := by decide +kernel
theorem s_364_328 {x0 x2 x3 x4 x5 x6 x7 x8 x9 : Option Value} {w : Value} : mw d 364 Q 328 [x0, some w, x2, x3, x4, x5, x6, x7, x8, x9] (st) h = mv_i w (mw d 364 Q 329 [x0, some w, x2, x3, x4, x5, x6, x7, x8, x9] (w :: st) h) := (mw_at mj_364_328).trans (z_iload_n rfl)
theorem mj_364_329 : mc_P 364 329 = some (.iaload, 1, 0, 0, 0) := by decide +kernel
theorem s_364_329 {x0 x1 x2 x3 x4 x5 x6 x7 x8 x9 : Option Value} {o : Nat} {i : Int32} : mw d 364 Q 329 [x0, x1, x2, x3, x4, x5, x6, x7, x8, x9] (.int i :: .ref o :: st) h = (mg h o 100 ∧ mx i (mh_l h o) ∧ mw d 364 Q 330 [x0, x1, x2, x3, x4, x5, x6, x7, x8, x9] (.int (mh_i h o i.toNatClampNeg) :: st) h) := (mw_at mj_364_329).trans (z_iald)
theorem mj_364_330 : mc_P 364 330 = some (.iload 7, 2, 0, 0, 0) := by decide +kernel
theorem s_364_330 {x0 x1 x2 x3 x4 x5 x6 x8 x9 : Option Value} {w : Value} : mw d 364 Q 330 [x0, x1, x2, x3, x4, x5, x6, some w, x8, x9] (st) h = mv_i w (mw d 364 Q 332 [x0, x1, x2, x3, x4, x5, x6, some w, x8, x9] (w :: st) h) := (mw_at mj_364_330).trans (z_iload rfl)
theorem mj_364_332 : mc_P 364 332 = some (.iadd, 1, 0, 0, 0) := by decide +kernel
theorem s_364_332 {x0 x1 x2 x3 x4 x5 x6 x7 x8 x9 : Option Value} {x w : Int32} : mw d 364 Q 332 [x0, x1, x2, x3, x4, x5, x6, x7, x8, x9] (.int w :: .int x :: st) h = mw d 364 Q 333 [x0, x1, x2, x3, x4, x5, x6, x7, x8, x9] (.int (x + w) :: st) h := (mw_at mj_364_332).trans (z_iadd)
theorem mj_364_333 : mc_P 364 333 = some (.aload_n 0, 1, 0, 0, 0) := by decide +kernel
theorem s_364_333 {x1 x2 x3 x4 x5 x6 x7 x8 x9 : Option Value} {w : Value} : mw d 364 Q 333 [some w, x1, x2, x3, x4, x5, x6, x7, x8, x9] (st) h = mv_a w (mw d 364 Q 334 [some w, x1, x2, x3, x4, x5, x6, x7, x8, x9] (w :: st) h) := (mw_at mj_364_333).trans (z_aload_n rfl)
theorem mj_364_334 : mc_P 364 334 = some (.getfield 147, 3, 14, 63, 0) := by decide +kernel
theorem s_364_334 {x0 x1 x2 x3 x4 x5 x6 x7 x8 x9 : Option Value} {o : Nat} : mw d 364 Q 334 [x0, x1, x2, x3, x4, x5, x6, x7, x8, x9] (.ref o :: st) h = (mg h o 14 ∧ mw d 364 Q 337 [x0, x1, x2, x3, x4, x5, x6, x7, x8, x9] (va_rf (mh_r h o 63) :: st) h) := (mw_at mj_364_334).trans (z_getr (by decide) (by decide) rfl)
theorem mj_364_337 : mc_P 364 337 = some (.iload 7, 2, 0, 0, 0) := by decide +kernel
theorem s_364_337 {x0 x1 x2 x3 x4 x5 x6 x8 x9 : Option Value} {w : Value} : mw d 364 Q 337 [x0, x1, x2, x3, x4, x5, x6, some w, x8, x9] (st) h = mv_i w (mw d 364 Q 339 [x0, x1, x2, x3, x4, x5, x6, some w, x8, x9] (w :: st) h) := (mw_at mj_364_337).trans (z_iload rfl)
theorem mj_364_339 : mc_P 364 339 = some (.laload, 1, 0, 0, 0) := by decide +kernel
theorem s_364_339 {x0 x1 x2 x3 x4 x5 x6 x7 x8 x9 : Option Value} {o : Nat} {i : Int32} : mw d 364 Q 339 [x0, x1, x2, x3, x4, x5, x6, x7, x8, x9] (.int i :: .ref o :: st) h = (mg h o 101 ∧ mx i (mh_l h o) ∧ mw d 364 Q 340 [x0, x1, x2, x3, x4, x5, x6, x7, x8, x9] (.long (mh_j h o i.toNatClampNeg) :: st) h) := (mw_at mj_364_339).trans (z_lald)
theorem mj_364_340 : mc_P 364 340 = some (.l2i, 1, 0, 0, 0) := by decide +kernel
theorem s_364_340 {x0 x1 x2 x3 x4 x5 x6 x7 x8 x9 : Option Value} {x : Int64} : mw d 364 Q 340 [x0, x1, x2, x3, x4, x5, x6, x7, x8, x9] (.long x :: st) h = mw d 364 Q 341 [x0, x1, x2, x3, x4, x5, x6, x7, x8, x9] (.int x.toInt32 :: st) h := (mw_at mj_364_340).trans (z_l2i)
theorem mj_364_341 : mc_P 364 341 = some (.iastore, 1, 0, 0, 0) := by decide +kernel
theorem s_364_341 {x0 x1 x2 x3 x4 x5 x6 x7 x8 x9 : Option Value} {o : Nat} {i w : Int32} : mw d 364 Q 341 [x0, x1, x2, x3, x4, x5, x6, x7, x8, x9] (.int w :: .int i :: .ref o :: st) h = (mg h o 100 ∧ mx i (mh_l h o) ∧ mw d 364 Q 342 [x0, x1, x2, x3, x4, x5, x6, x7, x8, x9] (st) (mh_si h o i.toNatClampNeg w)) := (mw_at mj_364_341).trans (z_iast)
theorem mj_364_342 : mc_P 364 342 = some (.iinc 7 1, 3, 0, 0, 0) := by decide +kernel
theorem s_364_342 {x0 x1 x2 x3 x4 x5 x6 x8 x9 : Option Value} {w : Int32} : mw d 364 Q 342 [x0, x1, x2, x3, x4, x5, x6, some (.int w), x8, x9] (st) h = mw d 364 Q 345 [x0, x1, x2, x3, x4, x5, mk2 x6, some (.int (w + 1)), x8, x9] (st) h := (mw_at mj_364_342).trans (z_iinc rfl (Nat.le_of_ble_eq_true rfl) (by decide) (me_s1_mk (j := 6) (w := x6) rfl))
theorem mj_364_345 : mc_P 364 345 = some (.goto (-39), 3, 0, 0, 0) := by decide +kernel
theorem s_364_345 {x0 x1 x2 x3 x4 x5 x6 x7 x8 x9 : Option Value} : mw d 364 Q 345 [x0, x1, x2, x3, x4, x5, x6, x7, x8, x9] (st) h = mw d 364 Q 306 [x0, x1, x2, x3, x4, x5, x6, x7, x8, x9] (st) h := (mw_at mj_364_345).trans (z_goto (by decide))
theorem mj_364_348 : mc_P 364 348 = some (.aload_n 0, 1, 0, 0, 0) := by decide +kernel
theorem s_364_348 {x1 x2 x3 x4 x5 x6 x7 x8 x9 : Option Value} {w : Value} : mw d 364 Q 348 [some w, x1, x2, x3, x4, x5, x6, x7, x8, x9] (st) h = mv_a w (mw d 364 Q 349 [some w, x1, x2, x3, x4, x5, x6, x7, x8, x9] (w :: st) h) := (mw_at mj_364_348).trans (z_aload_n rfl)
theorem mj_364_349 : mc_P 364 349 = some (.getfield 76, 3, 14, 30, 0) := by decide +kernel
theorem s_364_349 {x0 x1 x2 x3 x4 x5 x6 x7 x8 x9 : Option Value} {o : Nat} : mw d 364 Q 349 [x0, x1, x2, x3, x4, x5, x6, x7, x8, x9] (.ref o :: st) h = (mg h o 14 ∧ mw d 364 Q 352 [x0, x1, x2, x3, x4, x5, x6, x7, x8, x9] (va_rf (mh_r h o 30) :: st) h) := (mw_at mj_364_349).trans (z_getr (by decide) (by decide) rfl)
theorem mj_364_352 : mc_P 364 352 = some (.iload_n 1, 1, 0, 0, 0) := by decide +kernel
theorem s_364_352 {x0 x2 x3 x4 x5 x6 x7 x8 x9 : Option Value} {w : Value} : mw d 364 Q 352 [x0, some w, x2, x3, x4, x5, x6, x7, x8, x9] (st) h = mv_i w (mw d 364 Q 353 [x0, some w, x2, x3, x4, x5, x6, x7, x8, x9] (w :: st) h) := (mw_at mj_364_352).trans (z_iload_n rfl)
theorem mj_364_353 : mc_P 364 353 = some (.iaload, 1, 0, 0, 0) := by decide +kernel
theorem s_364_353 {x0 x1 x2 x3 x4 x5 x6 x7 x8 x9 : Option Value} {o : Nat} {i : Int32} : mw d 364 Q 353 [x0, x1, x2, x3, x4, x5, x6, x7, x8, x9] (.int i :: .ref o :: st) h = (mg h o 100 ∧ mx i (mh_l h o) ∧ mw d 364 Q 354 [x0, x1, x2, x3, x4, x5, x6, x7, x8, x9] (.int (mh_i h o i.toNatClampNeg) :: st) h) := (mw_at mj_364_353).trans (z_iald)
theorem mj_364_354 : mc_P 364 354 = some (.iload_n 1, 1, 0, 0, 0) := by decide +kernel
theorem s_364_354 {x0 x2 x3 x4 x5 x6 x7 x8 x9 : Option Value} {w : Value} : mw d 364 Q 354 [x0, some w, x2, x3, x4, x5, x6, x7, x8, x9] (st) h = mv_i w (mw d 364 Q 355 [x0, some w, x2, x3, x4, x5, x6, x7, x8, x9] (w :: st) h) := (mw_at mj_364_354).trans (z_iload_n rfl)
theorem mj_364_355 : mc_P 364 355 = some (.iconst 1, 1, 0, 0, 0) := by decide +kernel
theorem s_364_355 {x0 x1 x2 x3 x4 x5 x6 x7 x8 x9 : Option Value} : mw d 364 Q 355 [x0, x1, x2, x3, x4, x5, x6, x7, x8, x9] (st) h = mw d 364 Q 356 [x0, x1, x2, x3, x4, x5, x6, x7, x8, x9] (.int 1 :: st) h := (mw_at mj_364_355).trans (z_iconst (by decide))
theorem mj_364_356 : mc_P 364 356 = some (.iadd, 1, 0, 0, 0) := by decide +kernel
theorem s_364_356 {x0 x1 x2 x3 x4 x5 x6 x7 x8 x9 : Option Value} {x w : Int32} : mw d 364 Q 356 [x0, x1, x2, x3, x4, x5, x6, x7, x8, x9] (.int w :: .int x :: st) h = mw d 364 Q 357 [x0, x1, x2, x3, x4, x5, x6, x7, x8, x9] (.int (x + w) :: st) h := (mw_at mj_364_356).trans (z_iadd)
theorem mj_364_357 : mc_P 364 357 = some (.if_icmp .le 9, 3, 0, 0, 0) := by decide +kernel
theorem s_364_357 {x0 x1 x2 x3 x4 x5 x6 x7 x8 x9 : Option Value} {x w : Int32} : mw d 364 Q 357 [x0, x1, x2, x3, x4, x5, x6, x7, x8, x9] (.int w :: .int x :: st) h = mB (x ≤ w) (mw d 364 Q) 366 360 [x0, x1, x2, x3, x4, x5, x6, x7, x8, x9] st h := (mw_at mj_364_357).trans (z_icmp_le (by decide) rfl)
theorem mj_364_360 : mc_P 364 360 = some (.iload_n 1, 1, 0, 0, 0) := by decide +kernel
theorem s_364_360 {x0 x2 x3 x4 x5 x6 x7 x8 x9 : Option Value} {w : Value} : mw d 364 Q 360 [x0, some w, x2, x3, x4, x5, x6, x7, x8, x9] (st) h = mv_i w (mw d 364 Q 361 [x0, some w, x2, x3, x4, x5, x6, x7, x8, x9] (w :: st) h) := (mw_at mj_364_360).trans (z_iload_n rfl)
theorem mj_364_361 : mc_P 364 361 = some (.iconst 1, 1, 0, 0, 0) := by decide +kernel
theorem s_364_361 {x0 x1 x2 x3 x4 x5 x6 x7 x8 x9 : Option Value} : mw d 364 Q 361 [x0, x1, x2, x3, x4, x5, x6, x7, x8, x9] (st) h = mw d 364 Q 362 [x0, x1, x2, x3, x4, x5, x6, x7, x8, x9] (.int 1 :: st) h := (mw_at mj_364_361).trans (z_iconst (by decide))
theorem mj_364_362 : mc_P 364 362 = some (.iadd, 1, 0, 0, 0) := by decide +kernel
theorem s_364_362 {x0 x1 x2 x3 x4 x5 x6 x7 x8 x9 : Option Value} {x w : Int32} : mw d 364 Q 362 [x0, x1, x2, x3, x4, x5, x6, x7, x8, x9] (.int w :: .int x :: st) h = mw d 364 Q 363 [x0, x1, x2, x3, x4, x5, x6, x7, x8, x9] (.int (x + w) :: st) h := (mw_at mj_364_362).trans (z_iadd)
theorem mj_364_363 : mc_P 364 363 = some (.goto 8, 3, 0, 0, 0) := by decide +kernel
theorem s_364_363 {x0 x1 x2 x3 x4 x5 x6 x7 x8 x9 : Option Value} : mw d 364 Q 363 [x0, x1, x2, x3, x4, x5, x6, x7, x8, x9] (st) h = mw d 364 Q 371 [x0, x1, x2, x3, x4, x5, x6, x7, x8, x9] (st) h := (mw_at mj_364_363).trans (z_goto (by decide))
theorem mj_364_366 : mc_P 364 366 = some (.aload_n 0, 1, 0, 0, 0) := by decide +kernel
theorem s_364_366 {x1 x2 x3 x4 x5 x6 x7 x8 x9 : Option Value} {w : Value} : mw d 364 Q 366 [some w, x1, x2, x3, x4, x5, x6, x7, x8, x9] (st) h = mv_a w (mw d 364 Q 367 [some w, x1, x2, x3, x4, x5, x6, x7, x8, x9] (w :: st) h) := (mw_at mj_364_366).trans (z_aload_n rfl)
theorem mj_364_367 : mc_P 364 367 = some (.iload_n 1, 1, 0, 0, 0) := by decide +kernel
theorem s_364_367 {x0 x2 x3 x4 x5 x6 x7 x8 x9 : Option Value} {w : Value} : mw d 364 Q 367 [x0, some w, x2, x3, x4, x5, x6, x7, x8, x9] (st) h = mv_i w (mw d 364 Q 368 [x0, some w, x2, x3, x4, x5, x6, x7, x8, x9] (w :: st) h) := (mw_at mj_364_367).trans (z_iload_n rfl)
theorem mj_364_368 : mc_P 364 368 = some (.invokevirtual 460, 3, 351, 14, 2) := by decide +kernel
theorem s_364_368 {x0 x1 x2 x3 x4 x5 x6 x7 x8 x9 : Option Value} {o : Nat} {a1 : Value} : mw (d + 1) 364 Q 368 [x0, x1, x2, x3, x4, x5, x6, x7, x8, x9] (a1 :: .ref o :: st) h = (mg h o 14 ∧ mca st 8 ∧ mca [.ref o, a1] 4 ∧ mcall d 351 [.ref o, a1] h (mK (d + 1) 364 Q 371 [x0, x1, x2, x3, x4, x5, x6, x7, x8, x9] st)) := (mw_at mj_364_368).trans ((z_invv (As := [a1]) (by decide) rfl rfl).trans (congrArg (And _) (congrArg (And _) (mC_nl nl_351))))
theorem mj_364_371 : mc_P 364 371 = some (.ireturn, 1, 0, 0, 0) := by decide +kernel
theorem s_364_371 {x0 x1 x2 x3 x4 x5 x6 x7 x8 x9 : Option Value} {x : Int32} : mw d 364 Q 371 [x0, x1, x2, x3, x4, x5, x6, x7, x8, x9] ([.int x]) h = (Q (some (.int x)) h) := (mw_at mj_364_371).trans (z_iret)
theorem mj_364_372 : mc_P 364 372 = some (.aload_n 0, 1, 0, 0, 0) := by decide +kernel
theorem s_364_372 {x1 x2 x3 x4 x5 x6 x7 x8 x9 : Option Value} {w : Value} : mw d 364 Q 372 [some w, x1, x2, x3, x4, x5, x6, x7, x8, x9] (st) h = mv_a w (mw d 364 Q 373 [some w, x1, x2, x3, x4, x5, x6, x7, x8, x9] (w :: st) h) := (mw_at mj_364_372).trans (z_aload_n rfl)
theorem mj_364_373 : mc_P 364 373 = some (.iload_n 2, 1, 0, 0, 0) := by decide +kernel
theorem s_364_373 {x0 x1 x3 x4 x5 x6 x7 x8 x9 : Option Value} {w : Value} : mw d 364 Q 373 [x0, x1, some w, x3, x4, x5, x6, x7, x8, x9] (st) h = mv_i w (mw d 364 Q 374 [x0, x1, some w, x3, x4, x5, x6, x7, x8, x9] (w :: st) h) := (mw_at mj_364_373).trans (z_iload_n rfl)
theorem mj_364_374 : mc_P 364 374 = some (.iconst 1, 1, 0, 0, 0) := by decide +kernel
theorem s_364_374 {x0 x1 x2 x3 x4 x5 x6 x7 x8 x9 : Option Value} : mw d 364 Q 374 [x0, x1, x2, x3, x4, x5, x6, x7, x8, x9] (st) h = mw d 364 Q 375 [x0, x1, x2, x3, x4, x5, x6, x7, x8, x9] (.int 1 :: st) h := (mw_at mj_364_374).trans (z_iconst (by decide))
theorem mj_364_375 : mc_P 364 375 = some (.iadd, 1, 0, 0, 0) := by decide +kernel
theorem s_364_375 {x0 x1 x2 x3 x4 x5 x6 x7 x8 x9 : Option Value} {x w : Int32} : mw d 364 Q 375 [x0, x1, x2, x3, x4, x5, x6, x7, x8, x9] (.int w :: .int x :: st) h = mw d 364 Q 376 [x0, x1, x2, x3, x4, x5, x6, x7, x8, x9] (.int (x + w) :: st) h := (mw_at mj_364_375).trans (z_iadd)
theorem mj_364_376 : mc_P 364 376 = some (.invokevirtual 457, 3, 362, 14, 2) := by decide +kernel
theorem s_364_376 {x0 x1 x2 x3 x4 x5 x6 x7 x8 x9 : Option Value} {o : Nat} {a1 : Value} : mw (d + 1) 364 Q 376 [x0, x1, x2, x3, x4, x5, x6, x7, x8, x9] (a1 :: .ref o :: st) h = (mg h o 14 ∧ mca st 8 ∧ mca [.ref o, a1] 7 ∧ mcall d 362 [.ref o, a1] h (mK (d + 1) 364 Q 379 [x0, x1, x2, x3, x4, x5, x6, x7, x8, x9] st)) := (mw_at mj_364_376).trans ((z_invv (As := [a1]) (by decide) rfl rfl).trans (congrArg (And _) (congrArg (And _) (mC_nl nl_362))))
theorem mj_364_379 : mc_P 364 379 = some (.istore 7, 2, 0, 0, 0) := by decide +kernel
theorem s_364_379 {x0 x1 x2 x3 x4 x5 x6 x7 x8 x9 : Option Value} {w : Int32} : mw d 364 Q 379 [x0, x1, x2, x3, x4, x5, x6, x7, x8, x9] (.int w :: st) h = mw d 364 Q 381 [x0, x1, x2, x3, x4, x5, mk2 x6, some (.int w), x8, x9] (st) h := (mw_at mj_364_379).trans (z_istore (Nat.le_of_ble_eq_true rfl) (me_s1_mk (j := 6) (w := x6) rfl))
theorem mj_364_381 : mc_P 364 381 = some (.aload_n 0, 1, 0, 0, 0) := by decide +kernel
theorem s_364_381 {x1 x2 x3 x4 x5 x6 x7 x8 x9 : Option Value} {w : Value} : mw d 364 Q 381 [some w, x1, x2, x3, x4, x5, x6, x7, x8, x9] (st) h = mv_a w (mw d 364 Q 382 [some w, x1, x2, x3, x4, x5, x6, x7, x8, x9] (w :: st) h) := (mw_at mj_364_381).trans (z_aload_n rfl)
theorem mj_364_382 : mc_P 364 382 = some (.iload_n 2, 1, 0, 0, 0) := by decide +kernel
theorem s_364_382 {x0 x1 x3 x4 x5 x6 x7 x8 x9 : Option Value} {w : Value} : mw d 364 Q 382 [x0, x1, some w, x3, x4, x5, x6, x7, x8, x9] (st) h = mv_i w (mw d 364 Q 383 [x0, x1, some w, x3, x4, x5, x6, x7, x8, x9] (w :: st) h) := (mw_at mj_364_382).trans (z_iload_n rfl)
theorem mj_364_383 : mc_P 364 383 = some (.invokevirtual 391, 3, 334, 14, 2) := by decide +kernel
theorem s_364_383 {x0 x1 x2 x3 x4 x5 x6 x7 x8 x9 : Option Value} {o : Nat} {a1 : Value} : mw (d + 1) 364 Q 383 [x0, x1, x2, x3, x4, x5, x6, x7, x8, x9] (a1 :: .ref o :: st) h = (mg h o 14 ∧ mca st 8 ∧ mca [.ref o, a1] 2 ∧ mcall d 334 [.ref o, a1] h (mK (d + 1) 364 Q 386 [x0, x1, x2, x3, x4, x5, x6, x7, x8, x9] st)) := (mw_at mj_364_383).trans ((z_invv (As := [a1]) (by decide) rfl rfl).trans (congrArg (And _) (congrArg (And _) (mC_nl nl_334))))
theorem mj_364_386 : mc_P 364 386 = some (.istore 8, 2, 0, 0, 0) := by decide +kernel
theorem s_364_386 {x0 x1 x2 x3 x4 x5 x6 x7 x8 x9 : Option Value} {w : Int32} : mw d 364 Q 386 [x0, x1, x2, x3, x4, x5, x6, x7, x8, x9] (.int w :: st) h = mw d 364 Q 388 [x0, x1, x2, x3, x4, x5, x6, mk2 x7, some (.int w), x9] (st) h := (mw_at mj_364_386).trans (z_istore (Nat.le_of_ble_eq_true rfl) (me_s1_mk (j := 7) (w := x7) rfl))
theorem mj_364_388 : mc_P 364 388 = some (.aload_n 0, 1, 0, 0, 0) := by decide +kernel
theorem s_364_388 {x1 x2 x3 x4 x5 x6 x7 x8 x9 : Option Value} {w : Value} : mw d 364 Q 388 [some w, x1, x2, x3, x4, x5, x6, x7, x8, x9] (st) h = mv_a w (mw d 364 Q 389 [some w, x1, x2, x3, x4, x5, x6, x7, x8, x9] (w :: st) h) := (mw_at mj_364_388).trans (z_aload_n rfl)
theorem mj_364_389 : mc_P 364 389 = some (.getfield 427, 3, 14, 68, 0) := by decide +kernel
theorem s_364_389 {x0 x1 x2 x3 x4 x5 x6 x7 x8 x9 : Option Value} {o : Nat} : mw d 364 Q 389 [x0, x1, x2, x3, x4, x5, x6, x7, x8, x9] (.ref o :: st) h = (mg h o 14 ∧ mw d 364 Q 392 [x0, x1, x2, x3, x4, x5, x6, x7, x8, x9] (.int (mh_i h o 68) :: st) h) := (mw_at mj_364_389).trans (z_geti (by decide) (by decide) (Or.inl rfl))
theorem mj_364_392 : mc_P 364 392 = some (.ifCond .le 5, 3, 0, 0, 0) := by decide +kernel
theorem s_364_392 {x0 x1 x2 x3 x4 x5 x6 x7 x8 x9 : Option Value} {x : Int32} : mw d 364 Q 392 [x0, x1, x2, x3, x4, x5, x6, x7, x8, x9] (.int x :: st) h = mB (x ≤ 0) (mw d 364 Q) 397 395 [x0, x1, x2, x3, x4, x5, x6, x7, x8, x9] st h := (mw_at mj_364_392).trans (z_if_le (by decide) rfl)
theorem mj_364_395 : mc_P 364 395 = some (.iload_n 1, 1, 0, 0, 0) := by decide +kernel
theorem s_364_395 {x0 x2 x3 x4 x5 x6 x7 x8 x9 : Option Value} {w : Value} : mw d 364 Q 395 [x0, some w, x2, x3, x4, x5, x6, x7, x8, x9] (st) h = mv_i w (mw d 364 Q 396 [x0, some w, x2, x3, x4, x5, x6, x7, x8, x9] (w :: st) h) := (mw_at mj_364_395).trans (z_iload_n rfl)
theorem mj_364_396 : mc_P 364 396 = some (.ireturn, 1, 0, 0, 0) := by decide +kernel
theorem s_364_396 {x0 x1 x2 x3 x4 x5 x6 x7 x8 x9 : Option Value} {x : Int32} : mw d 364 Q 396 [x0, x1, x2, x3, x4, x5, x6, x7, x8, x9] ([.int x]) h = (Q (some (.int x)) h) := (mw_at mj_364_396).trans (z_iret)
theorem mj_364_397 : mc_P 364 397 = some (.iload 7, 2, 0, 0, 0) := by decide +kernel
theorem s_364_397 {x0 x1 x2 x3 x4 x5 x6 x8 x9 : Option Value} {w : Value} : mw d 364 Q 397 [x0, x1, x2, x3, x4, x5, x6, some w, x8, x9] (st) h = mv_i w (mw d 364 Q 399 [x0, x1, x2, x3, x4, x5, x6, some w, x8, x9] (w :: st) h) := (mw_at mj_364_397).trans (z_iload rfl)
theorem mj_364_399 : mc_P 364 399 = some (.ifCond .eq 26, 3, 0, 0, 0) := by decide +kernel
theorem s_364_399 {x0 x1 x2 x3 x4 x5 x6 x7 x8 x9 : Option Value} {x : Int32} : mw d 364 Q 399 [x0, x1, x2, x3, x4, x5, x6, x7, x8, x9] (.int x :: st) h = mB (x = 0) (mw d 364 Q) 425 402 [x0, x1, x2, x3, x4, x5, x6, x7, x8, x9] st h := (mw_at mj_364_399).trans (z_if_eq (by decide) rfl)
theorem mj_364_402 : mc_P 364 402 = some (.aload_n 0, 1, 0, 0, 0) := by decide +kernel
theorem s_364_402 {x1 x2 x3 x4 x5 x6 x7 x8 x9 : Option Value} {w : Value} : mw d 364 Q 402 [some w, x1, x2, x3, x4, x5, x6, x7, x8, x9] (st) h = mv_a w (mw d 364 Q 403 [some w, x1, x2, x3, x4, x5, x6, x7, x8, x9] (w :: st) h) := (mw_at mj_364_402).trans (z_aload_n rfl)
theorem mj_364_403 : mc_P 364 403 = some (.getfield 61, 3, 14, 23, 0) := by decide +kernel
theorem s_364_403 {x0 x1 x2 x3 x4 x5 x6 x7 x8 x9 : Option Value} {o : Nat} : mw d 364 Q 403 [x0, x1, x2, x3, x4, x5, x6, x7, x8, x9] (.ref o :: st) h = (mg h o 14 ∧ mw d 364 Q 406 [x0, x1, x2, x3, x4, x5, x6, x7, x8, x9] (va_rf (mh_r h o 23) :: st) h) := (mw_at mj_364_403).trans (z_getr (by decide) (by decide) rfl)
theorem mj_364_406 : mc_P 364 406 = some (.iload 8, 2, 0, 0, 0) := by decide +kernel
theorem s_364_406 {x0 x1 x2 x3 x4 x5 x6 x7 x9 : Option Value} {w : Value} : mw d 364 Q 406 [x0, x1, x2, x3, x4, x5, x6, x7, some w, x9] (st) h = mv_i w (mw d 364 Q 408 [x0, x1, x2, x3, x4, x5, x6, x7, some w, x9] (w :: st) h) := (mw_at mj_364_406).trans (z_iload rfl)
theorem mj_364_408 : mc_P 364 408 = some (.iaload, 1, 0, 0, 0) := by decide +kernel
theorem s_364_408 {x0 x1 x2 x3 x4 x5 x6 x7 x8 x9 : Option Value} {o : Nat} {i : Int32} : mw d 364 Q 408 [x0, x1, x2, x3, x4, x5, x6, x7, x8, x9] (.int i :: .ref o :: st) h = (mg h o 100 ∧ mx i (mh_l h o) ∧ mw d 364 Q 409 [x0, x1, x2, x3, x4, x5, x6, x7, x8, x9] (.int (mh_i h o i.toNatClampNeg) :: st) h) := (mw_at mj_364_408).trans (z_iald)
theorem mj_364_409 : mc_P 364 409 = some (.iconst 1, 1, 0, 0, 0) := by decide +kernel
theorem s_364_409 {x0 x1 x2 x3 x4 x5 x6 x7 x8 x9 : Option Value} : mw d 364 Q 409 [x0, x1, x2, x3, x4, x5, x6, x7, x8, x9] (st) h = mw d 364 Q 410 [x0, x1, x2, x3, x4, x5, x6, x7, x8, x9] (.int 1 :: st) h := (mw_at mj_364_409).trans (z_iconst (by decide))
theorem mj_364_410 : mc_P 364 410 = some (.if_icmp .le 9, 3, 0, 0, 0) := by decide +kernel
theorem s_364_410 {x0 x1 x2 x3 x4 x5 x6 x7 x8 x9 : Option Value} {x w : Int32} : mw d 364 Q 410 [x0, x1, x2, x3, x4, x5, x6, x7, x8, x9] (.int w :: .int x :: st) h = mB (x ≤ w) (mw d 364 Q) 419 413 [x0, x1, x2, x3, x4, x5, x6, x7, x8, x9] st h := (mw_at mj_364_410).trans (z_icmp_le (by decide) rfl)
theorem mj_364_413 : mc_P 364 413 = some (.iload_n 1, 1, 0, 0, 0) := by decide +kernel
theorem s_364_413 {x0 x2 x3 x4 x5 x6 x7 x8 x9 : Option Value} {w : Value} : mw d 364 Q 413 [x0, some w, x2, x3, x4, x5, x6, x7, x8, x9] (st) h = mv_i w (mw d 364 Q 414 [x0, some w, x2, x3, x4, x5, x6, x7, x8, x9] (w :: st) h) := (mw_at mj_364_413).trans (z_iload_n rfl)
theorem mj_364_414 : mc_P 364 414 = some (.iconst 1, 1, 0, 0, 0) := by decide +kernel
theorem s_364_414 {x0 x1 x2 x3 x4 x5 x6 x7 x8 x9 : Option Value} : mw d 364 Q 414 [x0, x1, x2, x3, x4, x5, x6, x7, x8, x9] (st) h = mw d 364 Q 415 [x0, x1, x2, x3, x4, x5, x6, x7, x8, x9] (.int 1 :: st) h := (mw_at mj_364_414).trans (z_iconst (by decide))
theorem mj_364_415 : mc_P 364 415 = some (.iadd, 1, 0, 0, 0) := by decide +kernel
theorem s_364_415 {x0 x1 x2 x3 x4 x5 x6 x7 x8 x9 : Option Value} {x w : Int32} : mw d 364 Q 415 [x0, x1, x2, x3, x4, x5, x6, x7, x8, x9] (.int w :: .int x :: st) h = mw d 364 Q 416 [x0, x1, x2, x3, x4, x5, x6, x7, x8, x9] (.int (x + w) :: st) h := (mw_at mj_364_415).trans (z_iadd)
theorem mj_364_416 : mc_P 364 416 = some (.goto 8, 3, 0, 0, 0) := by decide +kernel
theorem s_364_416 {x0 x1 x2 x3 x4 x5 x6 x7 x8 x9 : Option Value} : mw d 364 Q 416 [x0, x1, x2, x3, x4, x5, x6, x7, x8, x9] (st) h = mw d 364 Q 424 [x0, x1, x2, x3, x4, x5, x6, x7, x8, x9] (st) h := (mw_at mj_364_416).trans (z_goto (by decide))
theorem mj_364_419 : mc_P 364 419 = some (.aload_n 0, 1, 0, 0, 0) := by decide +kernel
theorem s_364_419 {x1 x2 x3 x4 x5 x6 x7 x8 x9 : Option Value} {w : Value} : mw d 364 Q 419 [some w, x1, x2, x3, x4, x5, x6, x7, x8, x9] (st) h = mv_a w (mw d 364 Q 420 [some w, x1, x2, x3, x4, x5, x6, x7, x8, x9] (w :: st) h) := (mw_at mj_364_419).trans (z_aload_n rfl)
theorem mj_364_420 : mc_P 364 420 = some (.iload_n 1, 1, 0, 0, 0) := by decide +kernel
theorem s_364_420 {x0 x2 x3 x4 x5 x6 x7 x8 x9 : Option Value} {w : Value} : mw d 364 Q 420 [x0, some w, x2, x3, x4, x5, x6, x7, x8, x9] (st) h = mv_i w (mw d 364 Q 421 [x0, some w, x2, x3, x4, x5, x6, x7, x8, x9] (w :: st) h) := (mw_at mj_364_420).trans (z_iload_n rfl)
theorem mj_364_421 : mc_P 364 421 = some (.invokevirtual 460, 3, 351, 14, 2) := by decide +kernel
theorem s_364_421 {x0 x1 x2 x3 x4 x5 x6 x7 x8 x9 : Option Value} {o : Nat} {a1 : Value} : mw (d + 1) 364 Q 421 [x0, x1, x2, x3, x4, x5, x6, x7, x8, x9] (a1 :: .ref o :: st) h = (mg h o 14 ∧ mca st 8 ∧ mca [.ref o, a1] 4 ∧ mcall d 351 [.ref o, a1] h (mK (d + 1) 364 Q 424 [x0, x1, x2, x3, x4, x5, x6, x7, x8, x9] st)) := (mw_at mj_364_421).trans ((z_invv (As := [a1]) (by decide) rfl rfl).trans (congrArg (And _) (congrArg (And _) (mC_nl nl_351))))
theorem mj_364_424 : mc_P 364 424 = some (.ireturn, 1, 0, 0, 0) := by decide +kernel
theorem s_364_424 {x0 x1 x2 x3 x4 x5 x6 x7 x8 x9 : Option Value} {x : Int32} : mw d 364 Q 424 [x0, x1, x2, x3, x4, x5, x6, x7, x8, x9] ([.int x]) h = (Q (some (.int x)) h) := (mw_at mj_364_424).trans (z_iret)
theorem mj_364_425 : mc_P 364 425 = some (.aload_n 0, 1, 0, 0, 0) := by decide +kernel
theorem s_364_425 {x1 x2 x3 x4 x5 x6 x7 x8 x9 : Option Value} {w : Value} : mw d 364 Q 425 [some w, x1, x2, x3, x4, x5, x6, x7, x8, x9] (st) h = mv_a w (mw d 364 Q 426 [some w, x1, x2, x3, x4, x5, x6, x7, x8, x9] (w :: st) h) := (mw_at mj_364_425).trans (z_aload_n rfl)
theorem mj_364_426 : mc_P 364 426 = some (.iload 8, 2, 0, 0, 0) := by decide +kernel
theorem s_364_426 {x0 x1 x2 x3 x4 x5 x6 x7 x9 : Option Value} {w : Value} : mw d 364 Q 426 [x0, x1, x2, x3, x4, x5, x6, x7, some w, x9] (st) h = mv_i w (mw d 364 Q 428 [x0, x1, x2, x3, x4, x5, x6, x7, some w, x9] (w :: st) h) := (mw_at mj_364_426).trans (z_iload rfl)
theorem mj_364_428 : mc_P 364 428 = some (.invokevirtual 348, 3, 333, 14, 2) := by decide +kernel
theorem s_364_428 {x0 x1 x2 x3 x4 x5 x6 x7 x8 x9 : Option Value} {o : Nat} {a1 : Value} : mw (d + 1) 364 Q 428 [x0, x1, x2, x3, x4, x5, x6, x7, x8, x9] (a1 :: .ref o :: st) h = (mg h o 14 ∧ mca st 8 ∧ mca [.ref o, a1] 2 ∧ mcall d 333 [.ref o, a1] h (mK (d + 1) 364 Q 431 [x0, x1, x2, x3, x4, x5, x6, x7, x8, x9] st)) := (mw_at mj_364_428).trans ((z_invv (As := [a1]) (by decide) rfl rfl).trans (congrArg (And _) (congrArg (And _) (mC_nl nl_333))))
theorem mj_364_431 : mc_P 364 431 = some (.aload_n 0, 1, 0, 0, 0) := by decide +kernel
theorem s_364_431 {x1 x2 x3 x4 x5 x6 x7 x8 x9 : Option Value} {w : Value} : mw d 364 Q 431 [some w, x1, x2, x3, x4, x5, x6, x7, x8, x9] (st) h = mv_a w (mw d 364 Q 432 [some w, x1, x2, x3, x4, x5, x6, x7, x8, x9] (w :: st) h) := (mw_at mj_364_431).trans (z_aload_n rfl)
theorem mj_364_432 : mc_P 364 432 = some (.iload_n 2, 1, 0, 0, 0) := by decide +kernel
theorem s_364_432 {x0 x1 x3 x4 x5 x6 x7 x8 x9 : Option Value} {w : Value} : mw d 364 Q 432 [x0, x1, some w, x3, x4, x5, x6, x7, x8, x9] (st) h = mv_i w (mw d 364 Q 433 [x0, x1, some w, x3, x4, x5, x6, x7, x8, x9] (w :: st) h) := (mw_at mj_364_432).trans (z_iload_n rfl)
theorem mj_364_433 : mc_P 364 433 = some (.invokevirtual 348, 3, 333, 14, 2) := by decide +kernel
theorem s_364_433 {x0 x1 x2 x3 x4 x5 x6 x7 x8 x9 : Option Value} {o : Nat} {a1 : Value} : mw (d + 1) 364 Q 433 [x0, x1, x2, x3, x4, x5, x6, x7, x8, x9] (a1 :: .ref o :: st) h = (mg h o 14 ∧ mca st 8 ∧ mca [.ref o, a1] 2 ∧ mcall d 333 [.ref o, a1] h (mK (d + 1) 364 Q 436 [x0, x1, x2, x3, x4, x5, x6, x7, x8, x9] st)) := (mw_at mj_364_433).trans ((z_invv (As := [a1]) (by decide) rfl rfl).trans (congrArg (And _) (congrArg (And _) (mC_nl nl_333))))
theorem mj_364_436 : mc_P 364 436 = some (.if_icmp .ge 26, 3, 0, 0, 0) := by decide +kernel
theorem s_364_436 {x0 x1 x2 x3 x4 x5 x6 x7 x8 x9 : Option Value} {x w : Int32} : mw d 364 Q 436 [x0, x1, x2, x3, x4, x5, x6, x7, x8, x9] (.int w :: .int x :: st) h = mB (w ≤ x) (mw d 364 Q) 462 439 [x0, x1, x2, x3, x4, x5, x6, x7, x8, x9] st h := (mw_at mj_364_436).trans (z_icmp_ge (by decide) rfl)
theorem mj_364_439 : mc_P 364 439 = some (.aload_n 0, 1, 0, 0, 0) := by decide +kernel
theorem s_364_439 {x1 x2 x3 x4 x5 x6 x7 x8 x9 : Option Value} {w : Value} : mw d 364 Q 439 [some w, x1, x2, x3, x4, x5, x6, x7, x8, x9] (st) h = mv_a w (mw d 364 Q 440 [some w, x1, x2, x3, x4, x5, x6, x7, x8, x9] (w :: st) h) := (mw_at mj_364_439).trans (z_aload_n rfl)
theorem mj_364_440 : mc_P 364 440 = some (.getfield 61, 3, 14, 23, 0) := by decide +kernel
theorem s_364_440 {x0 x1 x2 x3 x4 x5 x6 x7 x8 x9 : Option Value} {o : Nat} : mw d 364 Q 440 [x0, x1, x2, x3, x4, x5, x6, x7, x8, x9] (.ref o :: st) h = (mg h o 14 ∧ mw d 364 Q 443 [x0, x1, x2, x3, x4, x5, x6, x7, x8, x9] (va_rf (mh_r h o 23) :: st) h) := (mw_at mj_364_440).trans (z_getr (by decide) (by decide) rfl)
theorem mj_364_443 : mc_P 364 443 = some (.aload_n 0, 1, 0, 0, 0) := by decide +kernel
theorem s_364_443 {x1 x2 x3 x4 x5 x6 x7 x8 x9 : Option Value} {w : Value} : mw d 364 Q 443 [some w, x1, x2, x3, x4, x5, x6, x7, x8, x9] (st) h = mv_a w (mw d 364 Q 444 [some w, x1, x2, x3, x4, x5, x6, x7, x8, x9] (w :: st) h) := (mw_at mj_364_443).trans (z_aload_n rfl)
theorem mj_364_444 : mc_P 364 444 = some (.iload 8, 2, 0, 0, 0) := by decide +kernel
theorem s_364_444 {x0 x1 x2 x3 x4 x5 x6 x7 x9 : Option Value} {w : Value} : mw d 364 Q 444 [x0, x1, x2, x3, x4, x5, x6, x7, some w, x9] (st) h = mv_i w (mw d 364 Q 446 [x0, x1, x2, x3, x4, x5, x6, x7, some w, x9] (w :: st) h) := (mw_at mj_364_444).trans (z_iload rfl)
theorem mj_364_446 : mc_P 364 446 = some (.invokevirtual 348, 3, 333, 14, 2) := by decide +kernel
theorem s_364_446 {x0 x1 x2 x3 x4 x5 x6 x7 x8 x9 : Option Value} {o : Nat} {a1 : Value} : mw (d + 1) 364 Q 446 [x0, x1, x2, x3, x4, x5, x6, x7, x8, x9] (a1 :: .ref o :: st) h = (mg h o 14 ∧ mca st 8 ∧ mca [.ref o, a1] 2 ∧ mcall d 333 [.ref o, a1] h (mK (d + 1) 364 Q 449 [x0, x1, x2, x3, x4, x5, x6, x7, x8, x9] st)) := (mw_at mj_364_446).trans ((z_invv (As := [a1]) (by decide) rfl rfl).trans (congrArg (And _) (congrArg (And _) (mC_nl nl_333))))
theorem mj_364_449 : mc_P 364 449 = some (.iaload, 1, 0, 0, 0) := by decide +kernel
theorem s_364_449 {x0 x1 x2 x3 x4 x5 x6 x7 x8 x9 : Option Value} {o : Nat} {i : Int32} : mw d 364 Q 449 [x0, x1, x2, x3, x4, x5, x6, x7, x8, x9] (.int i :: .ref o :: st) h = (mg h o 100 ∧ mx i (mh_l h o) ∧ mw d 364 Q 450 [x0, x1, x2, x3, x4, x5, x6, x7, x8, x9] (.int (mh_i h o i.toNatClampNeg) :: st) h) := (mw_at mj_364_449).trans (z_iald)
theorem mj_364_450 : mc_P 364 450 = some (.iconst 1, 1, 0, 0, 0) := by decide +kernel
theorem s_364_450 {x0 x1 x2 x3 x4 x5 x6 x7 x8 x9 : Option Value} : mw d 364 Q 450 [x0, x1, x2, x3, x4, x5, x6, x7, x8, x9] (st) h = mw d 364 Q 451 [x0, x1, x2, x3, x4, x5, x6, x7, x8, x9] (.int 1 :: st) h := (mw_at mj_364_450).trans (z_iconst (by decide))
theorem mj_364_451 : mc_P 364 451 = some (.if_icmp .le 11, 3, 0, 0, 0) := by decide +kernel
theorem s_364_451 {x0 x1 x2 x3 x4 x5 x6 x7 x8 x9 : Option Value} {x w : Int32} : mw d 364 Q 451 [x0, x1, x2, x3, x4, x5, x6, x7, x8, x9] (.int w :: .int x :: st) h = mB (x ≤ w) (mw d 364 Q) 462 454 [x0, x1, x2, x3, x4, x5, x6, x7, x8, x9] st h := (mw_at mj_364_451).trans (z_icmp_le (by decide) rfl)
theorem mj_364_454 : mc_P 364 454 = some (.aload_n 0, 1, 0, 0, 0) := by decide +kernel
theorem s_364_454 {x1 x2 x3 x4 x5 x6 x7 x8 x9 : Option Value} {w : Value} : mw d 364 Q 454 [some w, x1, x2, x3, x4, x5, x6, x7, x8, x9] (st) h = mv_a w (mw d 364 Q 455 [some w, x1, x2, x3, x4, x5, x6, x7, x8, x9] (w :: st) h) := (mw_at mj_364_454).trans (z_aload_n rfl)
theorem mj_364_455 : mc_P 364 455 = some (.iload_n 1, 1, 0, 0, 0) := by decide +kernel
theorem s_364_455 {x0 x2 x3 x4 x5 x6 x7 x8 x9 : Option Value} {w : Value} : mw d 364 Q 455 [x0, some w, x2, x3, x4, x5, x6, x7, x8, x9] (st) h = mv_i w (mw d 364 Q 456 [x0, some w, x2, x3, x4, x5, x6, x7, x8, x9] (w :: st) h) := (mw_at mj_364_455).trans (z_iload_n rfl)
theorem mj_364_456 : mc_P 364 456 = some (.invokevirtual 463, 3, 365, 14, 2) := by decide +kernel
theorem s_364_456 {x0 x1 x2 x3 x4 x5 x6 x7 x8 x9 : Option Value} {o : Nat} {a1 : Value} : mw (d + 1) 364 Q 456 [x0, x1, x2, x3, x4, x5, x6, x7, x8, x9] (a1 :: .ref o :: st) h = (mg h o 14 ∧ mca st 8 ∧ mca [.ref o, a1] 4 ∧ mcall d 365 [.ref o, a1] h (mK (d + 1) 364 Q 459 [x0, x1, x2, x3, x4, x5, x6, x7, x8, x9] st)) := (mw_at mj_364_456).trans ((z_invv (As := [a1]) (by decide) rfl rfl).trans (congrArg (And _) (congrArg (And _) (mC_nl nl_365))))
theorem mj_364_459 : mc_P 364 459 = some (.goto 8, 3, 0, 0, 0) := by decide +kernel
theorem s_364_459 {x0 x1 x2 x3 x4 x5 x6 x7 x8 x9 : Option Value} : mw d 364 Q 459 [x0, x1, x2, x3, x4, x5, x6, x7, x8, x9] (st) h = mw d 364 Q 467 [x0, x1, x2, x3, x4, x5, x6, x7, x8, x9] (st) h := (mw_at mj_364_459).trans (z_goto (by decide))
theorem mj_364_462 : mc_P 364 462 = some (.aload_n 0, 1, 0, 0, 0) := by decide +kernel
theorem s_364_462 {x1 x2 x3 x4 x5 x6 x7 x8 x9 : Option Value} {w : Value} : mw d 364 Q 462 [some w, x1, x2, x3, x4, x5, x6, x7, x8, x9] (st) h = mv_a w (mw d 364 Q 463 [some w, x1, x2, x3, x4, x5, x6, x7, x8, x9] (w :: st) h) := (mw_at mj_364_462).trans (z_aload_n rfl)
theorem mj_364_463 : mc_P 364 463 = some (.iload_n 1, 1, 0, 0, 0) := by decide +kernel
theorem s_364_463 {x0 x2 x3 x4 x5 x6 x7 x8 x9 : Option Value} {w : Value} : mw d 364 Q 463 [x0, some w, x2, x3, x4, x5, x6, x7, x8, x9] (st) h = mv_i w (mw d 364 Q 464 [x0, some w, x2, x3, x4, x5, x6, x7, x8, x9] (w :: st) h) := (mw_at mj_364_463).trans (z_iload_n rfl)
theorem mj_364_464 : mc_P 364 464 = some (.invokevirtual 460, 3, 351, 14, 2) := by decide +kernel
theorem s_364_464 {x0 x1 x2 x3 x4 x5 x6 x7 x8 x9 : Option Value} {o : Nat} {a1 : Value} : mw (d + 1) 364 Q 464 [x0, x1, x2, x3, x4, x5, x6, x7, x8, x9] (a1 :: .ref o :: st) h = (mg h o 14 ∧ mca st 8 ∧ mca [.ref o, a1] 4 ∧ mcall d 351 [.ref o, a1] h (mK (d + 1) 364 Q 467 [x0, x1, x2, x3, x4, x5, x6, x7, x8, x9] st)) := (mw_at mj_364_464).trans ((z_invv (As := [a1]) (by decide) rfl rfl).trans (congrArg (And _) (congrArg (And _) (mC_nl nl_351))))
theorem mj_364_467 : mc_P 364 467 = some (.ireturn, 1, 0, 0, 0) := by decide +kernel
theorem s_364_467 {x0 x1 x2 x3 x4 x5 x6 x7 x8 x9 : Option Value} {x : Int32} : mw d 364 Q 467 [x0, x1, x2, x3, x4, x5, x6, x7, x8, x9] ([.int x]) h = (Q (some (.int x)) h) := (mw_at mj_364_467).trans (z_iret)
theorem mj_364_468 : mc_P 364 468 = some (.aload_n 0, 1, 0, 0, 0) := by decide +kernel
theorem s_364_468 {x1 x2 x3 x4 x5 x6 x7 x8 x9 : Option Value} {w : Value} : mw d 364 Q 468 [some w, x1, x2, x3, x4, x5, x6, x7, x8, x9] (st) h = mv_a w (mw d 364 Q 469 [some w, x1, x2, x3, x4, x5, x6, x7, x8, x9] (w :: st) h) := (mw_at mj_364_468).trans (z_aload_n rfl)
theorem mj_364_469 : mc_P 364 469 = some (.iload_n 2, 1, 0, 0, 0) := by decide +kernel
theorem s_364_469 {x0 x1 x3 x4 x5 x6 x7 x8 x9 : Option Value} {w : Value} : mw d 364 Q 469 [x0, x1, some w, x3, x4, x5, x6, x7, x8, x9] (st) h = mv_i w (mw d 364 Q 470 [x0, x1, some w, x3, x4, x5, x6, x7, x8, x9] (w :: st) h) := (mw_at mj_364_469).trans (z_iload_n rfl)
theorem mj_364_470 : mc_P 364 470 = some (.iconst 1, 1, 0, 0, 0) := by decide +kernel
theorem s_364_470 {x0 x1 x2 x3 x4 x5 x6 x7 x8 x9 : Option Value} : mw d 364 Q 470 [x0, x1, x2, x3, x4, x5, x6, x7, x8, x9] (st) h = mw d 364 Q 471 [x0, x1, x2, x3, x4, x5, x6, x7, x8, x9] (.int 1 :: st) h := (mw_at mj_364_470).trans (z_iconst (by decide))
theorem mj_364_471 : mc_P 364 471 = some (.iadd, 1, 0, 0, 0) := by decide +kernel
theorem s_364_471 {x0 x1 x2 x3 x4 x5 x6 x7 x8 x9 : Option Value} {x w : Int32} : mw d 364 Q 471 [x0, x1, x2, x3, x4, x5, x6, x7, x8, x9] (.int w :: .int x :: st) h = mw d 364 Q 472 [x0, x1, x2, x3, x4, x5, x6, x7, x8, x9] (.int (x + w) :: st) h := (mw_at mj_364_471).trans (z_iadd)
theorem mj_364_472 : mc_P 364 472 = some (.invokevirtual 457, 3, 362, 14, 2) := by decide +kernel
theorem s_364_472 {x0 x1 x2 x3 x4 x5 x6 x7 x8 x9 : Option Value} {o : Nat} {a1 : Value} : mw (d + 1) 364 Q 472 [x0, x1, x2, x3, x4, x5, x6, x7, x8, x9] (a1 :: .ref o :: st) h = (mg h o 14 ∧ mca st 8 ∧ mca [.ref o, a1] 7 ∧ mcall d 362 [.ref o, a1] h (mK (d + 1) 364 Q 475 [x0, x1, x2, x3, x4, x5, x6, x7, x8, x9] st)) := (mw_at mj_364_472).trans ((z_invv (As := [a1]) (by decide) rfl rfl).trans (congrArg (And _) (congrArg (And _) (mC_nl nl_362))))
theorem mj_364_475 : mc_P 364 475 = some (.istore 9, 2, 0, 0, 0) := by decide +kernel
theorem s_364_475 {x0 x1 x2 x3 x4 x5 x6 x7 x8 x9 : Option Value} {w : Int32} : mw d 364 Q 475 [x0, x1, x2, x3, x4, x5, x6, x7, x8, x9] (.int w :: st) h = mw d 364 Q 477 [x0, x1, x2, x3, x4, x5, x6, x7, mk2 x8, some (.int w)] (st) h := (mw_at mj_364_475).trans (z_istore (Nat.le_of_ble_eq_true rfl) (me_s1_mk (j := 8) (w := x8) rfl))
theorem mj_364_477 : mc_P 364 477 = some (.aload_n 0, 1, 0, 0, 0) := by decide +kernel
theorem s_364_477 {x1 x2 x3 x4 x5 x6 x7 x8 x9 : Option Value} {w : Value} : mw d 364 Q 477 [some w, x1, x2, x3, x4, x5, x6, x7, x8, x9] (st) h = mv_a w (mw d 364 Q 478 [some w, x1, x2, x3, x4, x5, x6, x7, x8, x9] (w :: st) h) := (mw_at mj_364_477).trans (z_aload_n rfl)
theorem mj_364_478 : mc_P 364 478 = some (.getfield 427, 3, 14, 68, 0) := by decide +kernel
theorem s_364_478 {x0 x1 x2 x3 x4 x5 x6 x7 x8 x9 : Option Value} {o : Nat} : mw d 364 Q 478 [x0, x1, x2, x3, x4, x5, x6, x7, x8, x9] (.ref o :: st) h = (mg h o 14 ∧ mw d 364 Q 481 [x0, x1, x2, x3, x4, x5, x6, x7, x8, x9] (.int (mh_i h o 68) :: st) h) := (mw_at mj_364_478).trans (z_geti (by decide) (by decide) (Or.inl rfl))
theorem mj_364_481 : mc_P 364 481 = some (.ifCond .le 7, 3, 0, 0, 0) := by decide +kernel
theorem s_364_481 {x0 x1 x2 x3 x4 x5 x6 x7 x8 x9 : Option Value} {x : Int32} : mw d 364 Q 481 [x0, x1, x2, x3, x4, x5, x6, x7, x8, x9] (.int x :: st) h = mB (x ≤ 0) (mw d 364 Q) 488 484 [x0, x1, x2, x3, x4, x5, x6, x7, x8, x9] st h := (mw_at mj_364_481).trans (z_if_le (by decide) rfl)
theorem mj_364_484 : mc_P 364 484 = some (.iload_n 1, 1, 0, 0, 0) := by decide +kernel
theorem s_364_484 {x0 x2 x3 x4 x5 x6 x7 x8 x9 : Option Value} {w : Value} : mw d 364 Q 484 [x0, some w, x2, x3, x4, x5, x6, x7, x8, x9] (st) h = mv_i w (mw d 364 Q 485 [x0, some w, x2, x3, x4, x5, x6, x7, x8, x9] (w :: st) h) := (mw_at mj_364_484).trans (z_iload_n rfl)
theorem mj_364_485 : mc_P 364 485 = some (.goto 37, 3, 0, 0, 0) := by decide +kernel
theorem s_364_485 {x0 x1 x2 x3 x4 x5 x6 x7 x8 x9 : Option Value} : mw d 364 Q 485 [x0, x1, x2, x3, x4, x5, x6, x7, x8, x9] (st) h = mw d 364 Q 522 [x0, x1, x2, x3, x4, x5, x6, x7, x8, x9] (st) h := (mw_at mj_364_485).trans (z_goto (by decide))
theorem mj_364_488 : mc_P 364 488 = some (.iload 9, 2, 0, 0, 0) := by decide +kernel
theorem s_364_488 {x0 x1 x2 x3 x4 x5 x6 x7 x8 : Option Value} {w : Value} : mw d 364 Q 488 [x0, x1, x2, x3, x4, x5, x6, x7, x8, some w] (st) h = mv_i w (mw d 364 Q 490 [x0, x1, x2, x3, x4, x5, x6, x7, x8, some w] (w :: st) h) := (mw_at mj_364_488).trans (z_iload rfl)
theorem mj_364_490 : mc_P 364 490 = some (.ifCond .ne 11, 3, 0, 0, 0) := by decide +kernel
theorem s_364_490 {x0 x1 x2 x3 x4 x5 x6 x7 x8 x9 : Option Value} {x : Int32} : mw d 364 Q 490 [x0, x1, x2, x3, x4, x5, x6, x7, x8, x9] (.int x :: st) h = mB (¬ x = 0) (mw d 364 Q) 501 493 [x0, x1, x2, x3, x4, x5, x6, x7, x8, x9] st h := (mw_at mj_364_490).trans (z_if_ne (by decide) rfl)
theorem mj_364_493 : mc_P 364 493 = some (.aload_n 0, 1, 0, 0, 0) := by decide +kernel
theorem s_364_493 {x1 x2 x3 x4 x5 x6 x7 x8 x9 : Option Value} {w : Value} : mw d 364 Q 493 [some w, x1, x2, x3, x4, x5, x6, x7, x8, x9] (st) h = mv_a w (mw d 364 Q 494 [some w, x1, x2, x3, x4, x5, x6, x7, x8, x9] (w :: st) h) := (mw_at mj_364_493).trans (z_aload_n rfl)
theorem mj_364_494 : mc_P 364 494 = some (.iload_n 1, 1, 0, 0, 0) := by decide +kernel
theorem s_364_494 {x0 x2 x3 x4 x5 x6 x7 x8 x9 : Option Value} {w : Value} : mw d 364 Q 494 [x0, some w, x2, x3, x4, x5, x6, x7, x8, x9] (st) h = mv_i w (mw d 364 Q 495 [x0, some w, x2, x3, x4, x5, x6, x7, x8, x9] (w :: st) h) := (mw_at mj_364_494).trans (z_iload_n rfl)
theorem mj_364_495 : mc_P 364 495 = some (.invokevirtual 460, 3, 351, 14, 2) := by decide +kernel
theorem s_364_495 {x0 x1 x2 x3 x4 x5 x6 x7 x8 x9 : Option Value} {o : Nat} {a1 : Value} : mw (d + 1) 364 Q 495 [x0, x1, x2, x3, x4, x5, x6, x7, x8, x9] (a1 :: .ref o :: st) h = (mg h o 14 ∧ mca st 8 ∧ mca [.ref o, a1] 4 ∧ mcall d 351 [.ref o, a1] h (mK (d + 1) 364 Q 498 [x0, x1, x2, x3, x4, x5, x6, x7, x8, x9] st)) := (mw_at mj_364_495).trans ((z_invv (As := [a1]) (by decide) rfl rfl).trans (congrArg (And _) (congrArg (And _) (mC_nl nl_351))))
theorem mj_364_498 : mc_P 364 498 = some (.goto 24, 3, 0, 0, 0) := by decide +kernel
theorem s_364_498 {x0 x1 x2 x3 x4 x5 x6 x7 x8 x9 : Option Value} : mw d 364 Q 498 [x0, x1, x2, x3, x4, x5, x6, x7, x8, x9] (st) h = mw d 364 Q 522 [x0, x1, x2, x3, x4, x5, x6, x7, x8, x9] (st) h := (mw_at mj_364_498).trans (z_goto (by decide))
theorem mj_364_501 : mc_P 364 501 = some (.aload_n 0, 1, 0, 0, 0) := by decide +kernel
theorem s_364_501 {x1 x2 x3 x4 x5 x6 x7 x8 x9 : Option Value} {w : Value} : mw d 364 Q 501 [some w, x1, x2, x3, x4, x5, x6, x7, x8, x9] (st) h = mv_a w (mw d 364 Q 502 [some w, x1, x2, x3, x4, x5, x6, x7, x8, x9] (w :: st) h) := (mw_at mj_364_501).trans (z_aload_n rfl)
theorem mj_364_502 : mc_P 364 502 = some (.getfield 61, 3, 14, 23, 0) := by decide +kernel
theorem s_364_502 {x0 x1 x2 x3 x4 x5 x6 x7 x8 x9 : Option Value} {o : Nat} : mw d 364 Q 502 [x0, x1, x2, x3, x4, x5, x6, x7, x8, x9] (.ref o :: st) h = (mg h o 14 ∧ mw d 364 Q 505 [x0, x1, x2, x3, x4, x5, x6, x7, x8, x9] (va_rf (mh_r h o 23) :: st) h) := (mw_at mj_364_502).trans (z_getr (by decide) (by decide) rfl)
theorem mj_364_505 : mc_P 364 505 = some (.aload_n 0, 1, 0, 0, 0) := by decide +kernel
theorem s_364_505 {x1 x2 x3 x4 x5 x6 x7 x8 x9 : Option Value} {w : Value} : mw d 364 Q 505 [some w, x1, x2, x3, x4, x5, x6, x7, x8, x9] (st) h = mv_a w (mw d 364 Q 506 [some w, x1, x2, x3, x4, x5, x6, x7, x8, x9] (w :: st) h) := (mw_at mj_364_505).trans (z_aload_n rfl)
theorem mj_364_506 : mc_P 364 506 = some (.iload_n 2, 1, 0, 0, 0) := by decide +kernel
theorem s_364_506 {x0 x1 x3 x4 x5 x6 x7 x8 x9 : Option Value} {w : Value} : mw d 364 Q 506 [x0, x1, some w, x3, x4, x5, x6, x7, x8, x9] (st) h = mv_i w (mw d 364 Q 507 [x0, x1, some w, x3, x4, x5, x6, x7, x8, x9] (w :: st) h) := (mw_at mj_364_506).trans (z_iload_n rfl)
theorem mj_364_507 : mc_P 364 507 = some (.invokevirtual 391, 3, 334, 14, 2) := by decide +kernel
theorem s_364_507 {x0 x1 x2 x3 x4 x5 x6 x7 x8 x9 : Option Value} {o : Nat} {a1 : Value} : mw (d + 1) 364 Q 507 [x0, x1, x2, x3, x4, x5, x6, x7, x8, x9] (a1 :: .ref o :: st) h = (mg h o 14 ∧ mca st 8 ∧ mca [.ref o, a1] 2 ∧ mcall d 334 [.ref o, a1] h (mK (d + 1) 364 Q 510 [x0, x1, x2, x3, x4, x5, x6, x7, x8, x9] st)) := (mw_at mj_364_507).trans ((z_invv (As := [a1]) (by decide) rfl rfl).trans (congrArg (And _) (congrArg (And _) (mC_nl nl_334))))
theorem mj_364_510 : mc_P 364 510 = some (.iaload, 1, 0, 0, 0) := by decide +kernel
theorem s_364_510 {x0 x1 x2 x3 x4 x5 x6 x7 x8 x9 : Option Value} {o : Nat} {i : Int32} : mw d 364 Q 510 [x0, x1, x2, x3, x4, x5, x6, x7, x8, x9] (.int i :: .ref o :: st) h = (mg h o 100 ∧ mx i (mh_l h o) ∧ mw d 364 Q 511 [x0, x1, x2, x3, x4, x5, x6, x7, x8, x9] (.int (mh_i h o i.toNatClampNeg) :: st) h) := (mw_at mj_364_510).trans (z_iald)
theorem mj_364_511 : mc_P 364 511 = some (.iconst 1, 1, 0, 0, 0) := by decide +kernel
theorem s_364_511 {x0 x1 x2 x3 x4 x5 x6 x7 x8 x9 : Option Value} : mw d 364 Q 511 [x0, x1, x2, x3, x4, x5, x6, x7, x8, x9] (st) h = mw d 364 Q 512 [x0, x1, x2, x3, x4, x5, x6, x7, x8, x9] (.int 1 :: st) h := (mw_at mj_364_511).trans (z_iconst (by decide))
theorem mj_364_512 : mc_P 364 512 = some (.if_icmp .le 9, 3, 0, 0, 0) := by decide +kernel
theorem s_364_512 {x0 x1 x2 x3 x4 x5 x6 x7 x8 x9 : Option Value} {x w : Int32} : mw d 364 Q 512 [x0, x1, x2, x3, x4, x5, x6, x7, x8, x9] (.int w :: .int x :: st) h = mB (x ≤ w) (mw d 364 Q) 521 515 [x0, x1, x2, x3, x4, x5, x6, x7, x8, x9] st h := (mw_at mj_364_512).trans (z_icmp_le (by decide) rfl)
theorem mj_364_515 : mc_P 364 515 = some (.iload_n 1, 1, 0, 0, 0) := by decide +kernel
theorem s_364_515 {x0 x2 x3 x4 x5 x6 x7 x8 x9 : Option Value} {w : Value} : mw d 364 Q 515 [x0, some w, x2, x3, x4, x5, x6, x7, x8, x9] (st) h = mv_i w (mw d 364 Q 516 [x0, some w, x2, x3, x4, x5, x6, x7, x8, x9] (w :: st) h) := (mw_at mj_364_515).trans (z_iload_n rfl)
theorem mj_364_516 : mc_P 364 516 = some (.iconst 1, 1, 0, 0, 0) := by decide +kernel
theorem s_364_516 {x0 x1 x2 x3 x4 x5 x6 x7 x8 x9 : Option Value} : mw d 364 Q 516 [x0, x1, x2, x3, x4, x5, x6, x7, x8, x9] (st) h = mw d 364 Q 517 [x0, x1, x2, x3, x4, x5, x6, x7, x8, x9] (.int 1 :: st) h := (mw_at mj_364_516).trans (z_iconst (by decide))
theorem mj_364_517 : mc_P 364 517 = some (.iadd, 1, 0, 0, 0) := by decide +kernel
theorem s_364_517 {x0 x1 x2 x3 x4 x5 x6 x7 x8 x9 : Option Value} {x w : Int32} : mw d 364 Q 517 [x0, x1, x2, x3, x4, x5, x6, x7, x8, x9] (.int w :: .int x :: st) h = mw d 364 Q 518 [x0, x1, x2, x3, x4, x5, x6, x7, x8, x9] (.int (x + w) :: st) h := (mw_at mj_364_517).trans (z_iadd)
theorem mj_364_518 : mc_P 364 518 = some (.goto 4, 3, 0, 0, 0) := by decide +kernel
theorem s_364_518 {x0 x1 x2 x3 x4 x5 x6 x7 x8 x9 : Option Value} : mw d 364 Q 518 [x0, x1, x2, x3, x4, x5, x6, x7, x8, x9] (st) h = mw d 364 Q 522 [x0, x1, x2, x3, x4, x5, x6, x7, x8, x9] (st) h := (mw_at mj_364_518).trans (z_goto (by decide))
theorem mj_364_521 : mc_P 364 521 = some (.iload_n 1, 1, 0, 0, 0) := by decide +kernel
theorem s_364_521 {x0 x2 x3 x4 x5 x6 x7 x8 x9 : Option Value} {w : Value} : mw d 364 Q 521 [x0, some w, x2, x3, x4, x5, x6, x7, x8, x9] (st) h = mv_i w (mw d 364 Q 522 [x0, some w, x2, x3, x4, x5, x6, x7, x8, x9] (w :: st) h) := (mw_at mj_364_521).trans (z_iload_n rfl)
theorem mj_364_522 : mc_P 364 522 = some (.ireturn, 1, 0, 0, 0) := by decide +kernel
theorem s_364_522 {x0 x1 x2 x3 x4 x5 x6 x7 x8 x9 : Option Value} {x : Int32} : mw d 364 Q 522 [x0, x1, x2, x3, x4, x5, x6, x7, x8, x9] ([.int x]) h = (Q (some (.int x)) h) := (mw_at mj_364_522).trans (z_iret)
theorem mj_364_523 : mc_P 364 523 = some (.aload_n 0, 1, 0, 0, 0) := by decide +kernel
theorem s_364_523 {x1 x2 x3 x4 x5 x6 x7 x8 x9 : Option Value} {w : Value} : mw d 364 Q 523 [some w, x1, x2, x3, x4, x5, x6, x7, x8, x9] (st) h = mv_a w (mw d 364 Q 524 [some w, x1, x2, x3, x4, x5, x6, x7, x8, x9] (w :: st) h) := (mw_at mj_364_523).trans (z_aload_n rfl)
theorem mj_364_524 : mc_P 364 524 = some (.iload_n 2, 1, 0, 0, 0) := by decide +kernel
theorem s_364_524 {x0 x1 x3 x4 x5 x6 x7 x8 x9 : Option Value} {w : Value} : mw d 364 Q 524 [x0, x1, some w, x3, x4, x5, x6, x7, x8, x9] (st) h = mv_i w (mw d 364 Q 525 [x0, x1, some w, x3, x4, x5, x6, x7, x8, x9] (w :: st) h) := (mw_at mj_364_524).trans (z_iload_n rfl)
theorem mj_364_525 : mc_P 364 525 = some (.iconst 1, 1, 0, 0, 0) := by decide +kernel
theorem s_364_525 {x0 x1 x2 x3 x4 x5 x6 x7 x8 x9 : Option Value} : mw d 364 Q 525 [x0, x1, x2, x3, x4, x5, x6, x7, x8, x9] (st) h = mw d 364 Q 526 [x0, x1, x2, x3, x4, x5, x6, x7, x8, x9] (.int 1 :: st) h := (mw_at mj_364_525).trans (z_iconst (by decide))
theorem mj_364_526 : mc_P 364 526 = some (.iadd, 1, 0, 0, 0) := by decide +kernel
theorem s_364_526 {x0 x1 x2 x3 x4 x5 x6 x7 x8 x9 : Option Value} {x w : Int32} : mw d 364 Q 526 [x0, x1, x2, x3, x4, x5, x6, x7, x8, x9] (.int w :: .int x :: st) h = mw d 364 Q 527 [x0, x1, x2, x3, x4, x5, x6, x7, x8, x9] (.int (x + w) :: st) h := (mw_at mj_364_526).trans (z_iadd)
theorem mj_364_527 : mc_P 364 527 = some (.invokevirtual 457, 3, 362, 14, 2) := by decide +kernel
theorem s_364_527 {x0 x1 x2 x3 x4 x5 x6 x7 x8 x9 : Option Value} {o : Nat} {a1 : Value} : mw (d + 1) 364 Q 527 [x0, x1, x2, x3, x4, x5, x6, x7, x8, x9] (a1 :: .ref o :: st) h = (mg h o 14 ∧ mca st 8 ∧ mca [.ref o, a1] 7 ∧ mcall d 362 [.ref o, a1] h (mK (d + 1) 364 Q 530 [x0, x1, x2, x3, x4, x5, x6, x7, x8, x9] st)) := (mw_at mj_364_527).trans ((z_invv (As := [a1]) (by decide) rfl rfl).trans (congrArg (And _) (congrArg (And _) (mC_nl nl_362))))
theorem mj_364_530 : mc_P 364 530 = some (.ifCond .ne 10, 3, 0, 0, 0) := by decide +kernel
theorem s_364_530 {x0 x1 x2 x3 x4 x5 x6 x7 x8 x9 : Option Value} {x : Int32} : mw d 364 Q 530 [x0, x1, x2, x3, x4, x5, x6, x7, x8, x9] (.int x :: st) h = mB (¬ x = 0) (mw d 364 Q) 540 533 [x0, x1, x2, x3, x4, x5, x6, x7, x8, x9] st h := (mw_at mj_364_530).trans (z_if_ne (by decide) rfl)
theorem mj_364_533 : mc_P 364 533 = some (.aload_n 0, 1, 0, 0, 0) := by decide +kernel
theorem s_364_533 {x1 x2 x3 x4 x5 x6 x7 x8 x9 : Option Value} {w : Value} : mw d 364 Q 533 [some w, x1, x2, x3, x4, x5, x6, x7, x8, x9] (st) h = mv_a w (mw d 364 Q 534 [some w, x1, x2, x3, x4, x5, x6, x7, x8, x9] (w :: st) h) := (mw_at mj_364_533).trans (z_aload_n rfl)
theorem mj_364_534 : mc_P 364 534 = some (.bipush 8, 2, 0, 0, 0) := by decide +kernel
theorem s_364_534 {x0 x1 x2 x3 x4 x5 x6 x7 x8 x9 : Option Value} : mw d 364 Q 534 [x0, x1, x2, x3, x4, x5, x6, x7, x8, x9] (st) h = mw d 364 Q 536 [x0, x1, x2, x3, x4, x5, x6, x7, x8, x9] (.int 8 :: st) h := (mw_at mj_364_534).trans (z_bipush (by decide))
theorem mj_364_536 : mc_P 364 536 = some (.invokevirtual 432, 3, 356, 14, 2) := by decide +kernel
theorem s_364_536 {x0 x1 x2 x3 x4 x5 x6 x7 x8 x9 : Option Value} {o : Nat} {a1 : Value} : mw (d + 1) 364 Q 536 [x0, x1, x2, x3, x4, x5, x6, x7, x8, x9] (a1 :: .ref o :: st) h = (mg h o 14 ∧ mca st 8 ∧ mca [.ref o, a1] 2 ∧ mcall d 356 [.ref o, a1] h (mK (d + 1) 364 Q 539 [x0, x1, x2, x3, x4, x5, x6, x7, x8, x9] st)) := (mw_at mj_364_536).trans ((z_invv (As := [a1]) (by decide) rfl rfl).trans (congrArg (And _) (congrArg (And _) (mC_nl nl_356))))
theorem mj_364_539 : mc_P 364 539 = some (.pop2, 1, 0, 0, 0) := by decide +kernel
theorem s_364_539 {x0 x1 x2 x3 x4 x5 x6 x7 x8 x9 : Option Value} {w : Value} : mw d 364 Q 539 [x0, x1, x2, x3, x4, x5, x6, x7, x8, x9] (w :: st) h = (w.category = 2 ∧ mw d 364 Q 540 [x0, x1, x2, x3, x4, x5, x6, x7, x8, x9] (st) h) := (mw_at mj_364_539).trans (z_pop2)
theorem mj_364_540 : mc_P 364 540 = some (.aload_n 0, 1, 0, 0, 0) := by decide +kernel
theorem s_364_540 {x1 x2 x3 x4 x5 x6 x7 x8 x9 : Option Value} {w : Value} : mw d 364 Q 540 [some w, x1, x2, x3, x4, x5, x6, x7, x8, x9] (st) h = mv_a w (mw d 364 Q 541 [some w, x1, x2, x3, x4, x5, x6, x7, x8, x9] (w :: st) h) := (mw_at mj_364_540).trans (z_aload_n rfl)
theorem mj_364_541 : mc_P 364 541 = some (.iload_n 1, 1, 0, 0, 0) := by decide +kernel
theorem s_364_541 {x0 x2 x3 x4 x5 x6 x7 x8 x9 : Option Value} {w : Value} : mw d 364 Q 541 [x0, some w, x2, x3, x4, x5, x6, x7, x8, x9] (st) h = mv_i w (mw d 364 Q 542 [x0, some w, x2, x3, x4, x5, x6, x7, x8, x9] (w :: st) h) := (mw_at mj_364_541).trans (z_iload_n rfl)
theorem mj_364_542 : mc_P 364 542 = some (.invokevirtual 460, 3, 351, 14, 2) := by decide +kernel
theorem s_364_542 {x0 x1 x2 x3 x4 x5 x6 x7 x8 x9 : Option Value} {o : Nat} {a1 : Value} : mw (d + 1) 364 Q 542 [x0, x1, x2, x3, x4, x5, x6, x7, x8, x9] (a1 :: .ref o :: st) h = (mg h o 14 ∧ mca st 8 ∧ mca [.ref o, a1] 4 ∧ mcall d 351 [.ref o, a1] h (mK (d + 1) 364 Q 545 [x0, x1, x2, x3, x4, x5, x6, x7, x8, x9] st)) := (mw_at mj_364_542).trans ((z_invv (As := [a1]) (by decide) rfl rfl).trans (congrArg (And _) (congrArg (And _) (mC_nl nl_351))))
theorem mj_364_545 : mc_P 364 545 = some (.ireturn, 1, 0, 0, 0) := by decide +kernel
theorem s_364_545 {x0 x1 x2 x3 x4 x5 x6 x7 x8 x9 : Option Value} {x : Int32} : mw d 364 Q 545 [x0, x1, x2, x3, x4, x5, x6, x7, x8, x9] ([.int x]) h = (Q (some (.int x)) h) := (mw_at mj_364_545).trans (z_iret)
theorem mj_364_546 : mc_P 364 546 = some (.aload_n 0, 1, 0, 0, 0) := by decide +kernel
theorem s_364_546 {x1 x2 x3 x4 x5 x6 x7 x8 x9 : Option Value} {w : Value} : mw d 364 Q 546 [some w, x1, x2, x3, x4, x5, x6, x7, x8, x9] (st) h = mv_a w (mw d 364 Q 547 [some w, x1, x2, x3, x4, x5, x6, x7, x8, x9] (w :: st) h) := (mw_at mj_364_546).trans (z_aload_n rfl)
theorem mj_364_547 : mc_P 364 547 = some (.iload_n 2, 1, 0, 0, 0) := by decide +kernel
theorem s_364_547 {x0 x1 x3 x4 x5 x6 x7 x8 x9 : Option Value} {w : Value} : mw d 364 Q 547 [x0, x1, some w, x3, x4, x5, x6, x7, x8, x9] (st) h = mv_i w (mw d 364 Q 548 [x0, x1, some w, x3, x4, x5, x6, x7, x8, x9] (w :: st) h) := (mw_at mj_364_547).trans (z_iload_n rfl)
theorem mj_364_548 : mc_P 364 548 = some (.iconst 1, 1, 0, 0, 0) := by decide +kernel
theorem s_364_548 {x0 x1 x2 x3 x4 x5 x6 x7 x8 x9 : Option Value} : mw d 364 Q 548 [x0, x1, x2, x3, x4, x5, x6, x7, x8, x9] (st) h = mw d 364 Q 549 [x0, x1, x2, x3, x4, x5, x6, x7, x8, x9] (.int 1 :: st) h := (mw_at mj_364_548).trans (z_iconst (by decide))
theorem mj_364_549 : mc_P 364 549 = some (.iadd, 1, 0, 0, 0) := by decide +kernel
theorem s_364_549 {x0 x1 x2 x3 x4 x5 x6 x7 x8 x9 : Option Value} {x w : Int32} : mw d 364 Q 549 [x0, x1, x2, x3, x4, x5, x6, x7, x8, x9] (.int w :: .int x :: st) h = mw d 364 Q 550 [x0, x1, x2, x3, x4, x5, x6, x7, x8, x9] (.int (x + w) :: st) h := (mw_at mj_364_549).trans (z_iadd)
theorem mj_364_550 : mc_P 364 550 = some (.invokevirtual 439, 3, 360, 14, 2) := by decide +kernel
theorem s_364_550 {x0 x1 x2 x3 x4 x5 x6 x7 x8 x9 : Option Value} {o : Nat} {a1 : Value} : mw (d + 1) 364 Q 550 [x0, x1, x2, x3, x4, x5, x6, x7, x8, x9] (a1 :: .ref o :: st) h = (mg h o 14 ∧ mca st 8 ∧ mca [.ref o, a1] 7 ∧ mcall d 360 [.ref o, a1] h (mK (d + 1) 364 Q 553 [x0, x1, x2, x3, x4, x5, x6, x7, x8, x9] st)) := (mw_at mj_364_550).trans ((z_invv (As := [a1]) (by decide) rfl rfl).trans (congrArg (And _) (congrArg (And _) (mC_nl nl_360))))
theorem mj_364_553 : mc_P 364 553 = some (.lstore_n 3, 1, 0, 0, 0) := by decide +kernel
theorem s_364_553 {x0 x1 x2 x3 x4 x5 x6 x7 x8 x9 : Option Value} {w : Int64} : mw d 364 Q 553 [x0, x1, x2, x3, x4, x5, x6, x7, x8, x9] (.long w :: st) h = mw d 364 Q 554 [x0, x1, mk2 x2, some (.long w), none, x5, x6, x7, x8, x9] (st) h := (mw_at mj_364_553).trans (z_lstore_n (Nat.le_of_ble_eq_true rfl) (me_s2_mk (j := 2) (w := x2) rfl))
theorem mj_364_554 : mc_P 364 554 = some (.aload_n 0, 1, 0, 0, 0) := by decide +kernel
theorem s_364_554 {x1 x2 x3 x4 x5 x6 x7 x8 x9 : Option Value} {w : Value} : mw d 364 Q 554 [some w, x1, x2, x3, x4, x5, x6, x7, x8, x9] (st) h = mv_a w (mw d 364 Q 555 [some w, x1, x2, x3, x4, x5, x6, x7, x8, x9] (w :: st) h) := (mw_at mj_364_554).trans (z_aload_n rfl)
theorem mj_364_555 : mc_P 364 555 = some (.getfield 427, 3, 14, 68, 0) := by decide +kernel
theorem s_364_555 {x0 x1 x2 x3 x4 x5 x6 x7 x8 x9 : Option Value} {o : Nat} : mw d 364 Q 555 [x0, x1, x2, x3, x4, x5, x6, x7, x8, x9] (.ref o :: st) h = (mg h o 14 ∧ mw d 364 Q 558 [x0, x1, x2, x3, x4, x5, x6, x7, x8, x9] (.int (mh_i h o 68) :: st) h) := (mw_at mj_364_555).trans (z_geti (by decide) (by decide) (Or.inl rfl))
theorem mj_364_558 : mc_P 364 558 = some (.ifCond .ne 24, 3, 0, 0, 0) := by decide +kernel
theorem s_364_558 {x0 x1 x2 x3 x4 x5 x6 x7 x8 x9 : Option Value} {x : Int32} : mw d 364 Q 558 [x0, x1, x2, x3, x4, x5, x6, x7, x8, x9] (.int x :: st) h = mB (¬ x = 0) (mw d 364 Q) 582 561 [x0, x1, x2, x3, x4, x5, x6, x7, x8, x9] st h := (mw_at mj_364_558).trans (z_if_ne (by decide) rfl)
theorem mj_364_561 : mc_P 364 561 = some (.aload_n 0, 1, 0, 0, 0) := by decide +kernel
theorem s_364_561 {x1 x2 x3 x4 x5 x6 x7 x8 x9 : Option Value} {w : Value} : mw d 364 Q 561 [some w, x1, x2, x3, x4, x5, x6, x7, x8, x9] (st) h = mv_a w (mw d 364 Q 562 [some w, x1, x2, x3, x4, x5, x6, x7, x8, x9] (w :: st) h) := (mw_at mj_364_561).trans (z_aload_n rfl)
theorem mj_364_562 : mc_P 364 562 = some (.iload_n 1, 1, 0, 0, 0) := by decide +kernel
theorem s_364_562 {x0 x2 x3 x4 x5 x6 x7 x8 x9 : Option Value} {w : Value} : mw d 364 Q 562 [x0, some w, x2, x3, x4, x5, x6, x7, x8, x9] (st) h = mv_i w (mw d 364 Q 563 [x0, some w, x2, x3, x4, x5, x6, x7, x8, x9] (w :: st) h) := (mw_at mj_364_562).trans (z_iload_n rfl)
theorem mj_364_563 : mc_P 364 563 = some (.invokevirtual 466, 3, 363, 14, 2) := by decide +kernel
theorem s_364_563 {x0 x1 x2 x3 x4 x5 x6 x7 x8 x9 : Option Value} {o : Nat} {a1 : Value} : mw (d + 1) 364 Q 563 [x0, x1, x2, x3, x4, x5, x6, x7, x8, x9] (a1 :: .ref o :: st) h = (mg h o 14 ∧ mca st 8 ∧ mca [.ref o, a1] 5 ∧ mcall d 363 [.ref o, a1] h (mK (d + 1) 364 Q 566 [x0, x1, x2, x3, x4, x5, x6, x7, x8, x9] st)) := (mw_at mj_364_563).trans ((z_invv (As := [a1]) (by decide) rfl rfl).trans (congrArg (And _) (congrArg (And _) (mC_nl nl_363))))
theorem mj_364_566 : mc_P 364 566 = some (.iconst (-1), 1, 0, 0, 0) := by decide +kernel
theorem s_364_566 {x0 x1 x2 x3 x4 x5 x6 x7 x8 x9 : Option Value} : mw d 364 Q 566 [x0, x1, x2, x3, x4, x5, x6, x7, x8, x9] (st) h = mw d 364 Q 567 [x0, x1, x2, x3, x4, x5, x6, x7, x8, x9] (.int (-1) :: st) h := (mw_at mj_364_566).trans (z_iconst (by decide))
theorem mj_364_567 : mc_P 364 567 = some (.if_icmp .eq 15, 3, 0, 0, 0) := by decide +kernel
theorem s_364_567 {x0 x1 x2 x3 x4 x5 x6 x7 x8 x9 : Option Value} {x w : Int32} : mw d 364 Q 567 [x0, x1, x2, x3, x4, x5, x6, x7, x8, x9] (.int w :: .int x :: st) h = mB (x = w) (mw d 364 Q) 582 570 [x0, x1, x2, x3, x4, x5, x6, x7, x8, x9] st h := (mw_at mj_364_567).trans (z_icmp_eq (by decide) rfl)
theorem mj_364_570 : mc_P 364 570 = some (.aload_n 0, 1, 0, 0, 0) := by decide +kernel
theorem s_364_570 {x1 x2 x3 x4 x5 x6 x7 x8 x9 : Option Value} {w : Value} : mw d 364 Q 570 [some w, x1, x2, x3, x4, x5, x6, x7, x8, x9] (st) h = mv_a w (mw d 364 Q 571 [some w, x1, x2, x3, x4, x5, x6, x7, x8, x9] (w :: st) h) := (mw_at mj_364_570).trans (z_aload_n rfl)
theorem mj_364_571 : mc_P 364 571 = some (.getfield 141, 3, 14, 61, 0) := by decide +kernel
theorem s_364_571 {x0 x1 x2 x3 x4 x5 x6 x7 x8 x9 : Option Value} {o : Nat} : mw d 364 Q 571 [x0, x1, x2, x3, x4, x5, x6, x7, x8, x9] (.ref o :: st) h = (mg h o 14 ∧ mw d 364 Q 574 [x0, x1, x2, x3, x4, x5, x6, x7, x8, x9] (va_rf (mh_r h o 61) :: st) h) := (mw_at mj_364_571).trans (z_getr (by decide) (by decide) rfl)
theorem mj_364_574 : mc_P 364 574 = some (.aload_n 0, 1, 0, 0, 0) := by decide +kernel
theorem s_364_574 {x1 x2 x3 x4 x5 x6 x7 x8 x9 : Option Value} {w : Value} : mw d 364 Q 574 [some w, x1, x2, x3, x4, x5, x6, x7, x8, x9] (st) h = mv_a w (mw d 364 Q 575 [some w, x1, x2, x3, x4, x5, x6, x7, x8, x9] (w :: st) h) := (mw_at mj_364_574).trans (z_aload_n rfl)
theorem mj_364_575 : mc_P 364 575 = some (.iload_n 1, 1, 0, 0, 0) := by decide +kernel
theorem s_364_575 {x0 x2 x3 x4 x5 x6 x7 x8 x9 : Option Value} {w : Value} : mw d 364 Q 575 [x0, some w, x2, x3, x4, x5, x6, x7, x8, x9] (st) h = mv_i w (mw d 364 Q 576 [x0, some w, x2, x3, x4, x5, x6, x7, x8, x9] (w :: st) h) := (mw_at mj_364_575).trans (z_iload_n rfl)
theorem mj_364_576 : mc_P 364 576 = some (.invokevirtual 466, 3, 363, 14, 2) := by decide +kernel
theorem s_364_576 {x0 x1 x2 x3 x4 x5 x6 x7 x8 x9 : Option Value} {o : Nat} {a1 : Value} : mw (d + 1) 364 Q 576 [x0, x1, x2, x3, x4, x5, x6, x7, x8, x9] (a1 :: .ref o :: st) h = (mg h o 14 ∧ mca st 8 ∧ mca [.ref o, a1] 5 ∧ mcall d 363 [.ref o, a1] h (mK (d + 1) 364 Q 579 [x0, x1, x2, x3, x4, x5, x6, x7, x8, x9] st)) := (mw_at mj_364_576).trans ((z_invv (As := [a1]) (by decide) rfl rfl).trans (congrArg (And _) (congrArg (And _) (mC_nl nl_363))))
theorem mj_364_579 : mc_P 364 579 = some (.lload_n 3, 1, 0, 0, 0) := by decide +kernel
theorem s_364_579 {x0 x1 x2 x4 x5 x6 x7 x8 x9 : Option Value} {w : Value} : mw d 364 Q 579 [x0, x1, x2, some w, x4, x5, x6, x7, x8, x9] (st) h = mv_l w (mw d 364 Q 580 [x0, x1, x2, some w, x4, x5, x6, x7, x8, x9] (w :: st) h) := (mw_at mj_364_579).trans (z_lload_n rfl)
theorem mj_364_580 : mc_P 364 580 = some (.l2i, 1, 0, 0, 0) := by decide +kernel
theorem s_364_580 {x0 x1 x2 x3 x4 x5 x6 x7 x8 x9 : Option Value} {x : Int64} : mw d 364 Q 580 [x0, x1, x2, x3, x4, x5, x6, x7, x8, x9] (.long x :: st) h = mw d 364 Q 581 [x0, x1, x2, x3, x4, x5, x6, x7, x8, x9] (.int x.toInt32 :: st) h := (mw_at mj_364_580).trans (z_l2i)
theorem mj_364_581 : mc_P 364 581 = some (.iastore, 1, 0, 0, 0) := by decide +kernel
theorem s_364_581 {x0 x1 x2 x3 x4 x5 x6 x7 x8 x9 : Option Value} {o : Nat} {i w : Int32} : mw d 364 Q 581 [x0, x1, x2, x3, x4, x5, x6, x7, x8, x9] (.int w :: .int i :: .ref o :: st) h = (mg h o 100 ∧ mx i (mh_l h o) ∧ mw d 364 Q 582 [x0, x1, x2, x3, x4, x5, x6, x7, x8, x9] (st) (mh_si h o i.toNatClampNeg w)) := (mw_at mj_364_581).trans (z_iast)
theorem mj_364_582 : mc_P 364 582 = some (.aload_n 0, 1, 0, 0, 0) := by decide +kernel
theorem s_364_582 {x1 x2 x3 x4 x5 x6 x7 x8 x9 : Option Value} {w : Value} : mw d 364 Q 582 [some w, x1, x2, x3, x4, x5, x6, x7, x8, x9] (st) h = mv_a w (mw d 364 Q 583 [some w, x1, x2, x3, x4, x5, x6, x7, x8, x9] (w :: st) h) := (mw_at mj_364_582).trans (z_aload_n rfl)
theorem mj_364_583 : mc_P 364 583 = some (.iload_n 1, 1, 0, 0, 0) := by decide +kernel
theorem s_364_583 {x0 x2 x3 x4 x5 x6 x7 x8 x9 : Option Value} {w : Value} : mw d 364 Q 583 [x0, some w, x2, x3, x4, x5, x6, x7, x8, x9] (st) h = mv_i w (mw d 364 Q 584 [x0, some w, x2, x3, x4, x5, x6, x7, x8, x9] (w :: st) h) := (mw_at mj_364_583).trans (z_iload_n rfl)
theorem mj_364_584 : mc_P 364 584 = some (.invokevirtual 460, 3, 351, 14, 2) := by decide +kernel
theorem s_364_584 {x0 x1 x2 x3 x4 x5 x6 x7 x8 x9 : Option Value} {o : Nat} {a1 : Value} : mw (d + 1) 364 Q 584 [x0, x1, x2, x3, x4, x5, x6, x7, x8, x9] (a1 :: .ref o :: st) h = (mg h o 14 ∧ mca st 8 ∧ mca [.ref o, a1] 4 ∧ mcall d 351 [.ref o, a1] h (mK (d + 1) 364 Q 587 [x0, x1, x2, x3, x4, x5, x6, x7, x8, x9] st)) := (mw_at mj_364_584).trans ((z_invv (As := [a1]) (by decide) rfl rfl).trans (congrArg (And _) (congrArg (And _) (mC_nl nl_351))))
theorem mj_364_587 : mc_P 364 587 = some (.ireturn, 1, 0, 0, 0) := by decide +kernel
theorem s_364_587 {x0 x1 x2 x3 x4 x5 x6 x7 x8 x9 : Option Value} {x : Int32} : mw d 364 Q 587 [x0, x1, x2, x3, x4, x5, x6, x7, x8, x9] ([.int x]) h = (Q (some (.int x)) h) := (mw_at mj_364_587).trans (z_iret)
theorem e_364 {a0 : Nat} : mcall d 364 [.ref a0] h Q = mw d 364 Q 0 [some (.ref a0), none, none, none, none, none, none, none, none, none] [] h := by
  show mw d 364 Q 0 (me_en (mc_nl 364) _) [] h = _
  rw [nl_364]; rfl

end SR
