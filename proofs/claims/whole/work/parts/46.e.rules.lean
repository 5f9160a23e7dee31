/-! rules of methods, by program (wip/whole/srule.py) -/
section SR
variable {d : Nat} {Q : Option Value → mh_H → Prop} {st : List Value} {h : mh_H}
/-! InvariantDesk$Machine.carryOut(LInvariantDesk$Statement;)V -/
theorem mj_30_0 : mc_P 30 0 = some (.aload_n 0, 1, 0, 0, 0) := by decide +kernel
theorem s_30_0 {x1 x2 x3 x4 : Option Value} {w : Value} : mw d 30 Q 0 [some w, x1, x2, x3, x4] (st) h = mv_a w (mw d 30 Q 1 [some w, x1, x2, x3, x4] (w :: st) h) := (mw_at mj_30_0).trans (z_aload_n rfl)
theorem mj_30_1 : mc_P 30 1 = some (.getfield 27, 3, 2, 0, 0) := by decide +kernel
theorem s_30_1 {x0 x1 x2 x3 x4 : Option Value} {o : Nat} : mw d 30 Q 1 [x0, x1, x2, x3, x4] (.ref o :: st) h = (mg h o 2 ∧ mw d 30 Q 4 [x0, x1, x2, x3, x4] (va_rf (mh_r h o 0) :: st) h) := (mw_at mj_30_1).trans (z_getr (by decide) (by decide) rfl)
theorem mj_30_4 : mc_P 30 4 = some (.getfield 89, 3, 4, 4, 0) := by decide +kernel
theorem s_30_4 {x0 x1 x2 x3 x4 : Option Value} {o : Nat} : mw d 30 Q 4 [x0, x1, x2, x3, x4] (.ref o :: st) h = (mg h o 4 ∧ mw d 30 Q 7 [x0, x1, x2, x3, x4] (va_rf (mh_r h o 4) :: st) h) := (mw_at mj_30_4).trans (z_getr (by decide) (by decide) rfl)
theorem mj_30_7 : mc_P 30 7 = some (.aload_n 0, 1, 0, 0, 0) := by decide +kernel
theorem s_30_7 {x1 x2 x3 x4 : Option Value} {w : Value} : mw d 30 Q 7 [some w, x1, x2, x3, x4] (st) h = mv_a w (mw d 30 Q 8 [some w, x1, x2, x3, x4] (w :: st) h) := (mw_at mj_30_7).trans (z_aload_n rfl)
theorem mj_30_8 : mc_P 30 8 = some (.getfield 35, 3, 2, 4, 0) := by decide +kernel
theorem s_30_8 {x0 x1 x2 x3 x4 : Option Value} {o : Nat} : mw d 30 Q 8 [x0, x1, x2, x3, x4] (.ref o :: st) h = (mg h o 2 ∧ mw d 30 Q 11 [x0, x1, x2, x3, x4] (.int (mh_i h o 4) :: st) h) := (mw_at mj_30_8).trans (z_geti (by decide) (by decide) (Or.inl rfl))
theorem mj_30_11 : mc_P 30 11 = some (.iaload, 1, 0, 0, 0) := by decide +kernel
theorem s_30_11 {x0 x1 x2 x3 x4 : Option Value} {o : Nat} {i : Int32} : mw d 30 Q 11 [x0, x1, x2, x3, x4] (.int i :: .ref o :: st) h = (mg h o 100 ∧ mx i (mh_l h o) ∧ mw d 30 Q 12 [x0, x1, x2, x3, x4] (.int (mh_i h o i.toNatClampNeg) :: st) h) := (mw_at mj_30_11).trans (z_iald)
theorem mj_30_12 : mc_P 30 12 = some (.istore_n 2, 1, 0, 0, 0) := by decide +kernel
theorem s_30_12 {x0 x1 x2 x3 x4 : Option Value} {w : Int32} : mw d 30 Q 12 [x0, x1, x2, x3, x4] (.int w :: st) h = mw d 30 Q 13 [x0, mk2 x1, some (.int w), x3, x4] (st) h := (mw_at mj_30_12).trans (z_istore_n (Nat.le_of_ble_eq_true rfl) (me_s1_mk (j := 1) (w := x1) rfl))
theorem mj_30_13 : mc_P 30 13 = some (.aload_n 0, 1, 0, 0, 0) := by decide +kernel
theorem s_30_13 {x1 x2 x3 x4 : Option Value} {w : Value} : mw d 30 Q 13 [some w, x1, x2, x3, x4] (st) h = mv_a w (mw d 30 Q 14 [some w, x1, x2, x3, x4] (w :: st) h) := (mw_at mj_30_13).trans (z_aload_n rfl)
theorem mj_30_14 : mc_P 30 14 = some (.getfield 27, 3, 2, 0, 0) := by decide +kernel
theorem s_30_14 {x0 x1 x2 x3 x4 : Option Value} {o : Nat} : mw d 30 Q 14 [x0, x1, x2, x3, x4] (.ref o :: st) h = (mg h o 2 ∧ mw d 30 Q 17 [x0, x1, x2, x3, x4] (va_rf (mh_r h o 0) :: st) h) := (mw_at mj_30_14).trans (z_getr (by decide) (by decide) rfl)
theorem mj_30_17 : mc_P 30 17 = some (.getfield 92, 3, 4, 10, 0) := by decide +kernel
theorem s_30_17 {x0 x1 x2 x3 x4 : Option Value} {o : Nat} : mw d 30 Q 17 [x0, x1, x2, x3, x4] (.ref o :: st) h = (mg h o 4 ∧ mw d 30 Q 20 [x0, x1, x2, x3, x4] (va_rf (mh_r h o 10) :: st) h) := (mw_at mj_30_17).trans (z_getr (by decide) (by decide) rfl)
theorem mj_30_20 : mc_P 30 20 = some (.aload_n 0, 1, 0, 0, 0) := by decide +kernel
theorem s_30_20 {x1 x2 x3 x4 : Option Value} {w : Value} : mw d 30 Q 20 [some w, x1, x2, x3, x4] (st) h = mv_a w (mw d 30 Q 21 [some w, x1, x2, x3, x4] (w :: st) h) := (mw_at mj_30_20).trans (z_aload_n rfl)
theorem mj_30_21 : mc_P 30 21 = some (.getfield 35, 3, 2, 4, 0) := by decide +kernel
theorem s_30_21 {x0 x1 x2 x3 x4 : Option Value} {o : Nat} : mw d 30 Q 21 [x0, x1, x2, x3, x4] (.ref o :: st) h = (mg h o 2 ∧ mw d 30 Q 24 [x0, x1, x2, x3, x4] (.int (mh_i h o 4) :: st) h) := (mw_at mj_30_21).trans (z_geti (by decide) (by decide) (Or.inl rfl))
theorem mj_30_24 : mc_P 30 24 = some (.iaload, 1, 0, 0, 0) := by decide +kernel
theorem s_30_24 {x0 x1 x2 x3 x4 : Option Value} {o : Nat} {i : Int32} : mw d 30 Q 24 [x0, x1, x2, x3, x4] (.int i :: .ref o :: st) h = (mg h o 100 ∧ mx i (mh_l h o) ∧ mw d 30 Q 25 [x0, x1, x2, x3, x4] (.int (mh_i h o i.toNatClampNeg) :: st) h) := (mw_at mj_30_24).trans (z_iald)
theorem mj_30_25 : mc_P 30 25 = some (.istore_n 3, 1, 0, 0, 0) := by decide +kernel
theorem s_30_25 {x0 x1 x2 x3 x4 : Option Value} {w : Int32} : mw d 30 Q 25 [x0, x1, x2, x3, x4] (.int w :: st) h = mw d 30 Q 26 [x0, x1, mk2 x2, some (.int w), x4] (st) h := (mw_at mj_30_25).trans (z_istore_n (Nat.le_of_ble_eq_true rfl) (me_s1_mk (j := 2) (w := x2) rfl))
theorem mj_30_26 : mc_P 30 26 = some (.aload_n 1, 1, 0, 0, 0) := by decide +kernel
theorem s_30_26 {x0 x2 x3 x4 : Option Value} {w : Value} : mw d 30 Q 26 [x0, some w, x2, x3, x4] (st) h = mv_a w (mw d 30 Q 27 [x0, some w, x2, x3, x4] (w :: st) h) := (mw_at mj_30_26).trans (z_aload_n rfl)
theorem mj_30_27 : mc_P 30 27 = some (.getfield 95, 3, 9, 0, 0) := by decide +kernel
theorem s_30_27 {x0 x1 x2 x3 x4 : Option Value} {o : Nat} : mw d 30 Q 27 [x0, x1, x2, x3, x4] (.ref o :: st) h = (mg h o 9 ∧ mw d 30 Q 30 [x0, x1, x2, x3, x4] (.int (mh_i h o 0) :: st) h) := (mw_at mj_30_27).trans (z_geti (by decide) (by decide) (Or.inl rfl))
theorem mj_30_30 : mc_P 30 30 = some (.tableswitch 159 1 8 #[46, 54, 75, 83, 159, 159, 159, 133], 46, 0, 0, 0) := by decide +kernel
theorem s_30_30 {x0 x1 x2 x3 x4 : Option Value} {x : Int32} : mw d 30 Q 30 [x0, x1, x2, x3, x4] (.int x :: st) h = mS x (mw d 30 Q) 189 [x0, x1, x2, x3, x4] st h [(1, 76), (2, 84), (3, 105), (4, 113), (5, 189), (6, 189), (7, 189), (8, 163)] := (mw_at mj_30_30).trans (z_tab (by decide) (by decide) (by decide +kernel))
theorem mj_30_76 : mc_P 30 76 = some (.aload_n 0, 1, 0, 0, 0) := by decide +kernel
theorem s_30_76 {x1 x2 x3 x4 : Option Value} {w : Value} : mw d 30 Q 76 [some w, x1, x2, x3, x4] (st) h = mv_a w (mw d 30 Q 77 [some w, x1, x2, x3, x4] (w :: st) h) := (mw_at mj_30_76).trans (z_aload_n rfl)
theorem mj_30_77 : mc_P 30 77 = some (.aload_n 1, 1, 0, 0, 0) := by decide +kernel
theorem s_30_77 {x0 x2 x3 x4 : Option Value} {w : Value} : mw d 30 Q 77 [x0, some w, x2, x3, x4] (st) h = mv_a w (mw d 30 Q 78 [x0, some w, x2, x3, x4] (w :: st) h) := (mw_at mj_30_77).trans (z_aload_n rfl)
theorem mj_30_78 : mc_P 30 78 = some (.invokevirtual 100, 3, 33, 2, 2) := by decide +kernel
theorem s_30_78 {x0 x1 x2 x3 x4 : Option Value} {o : Nat} {a1 : Value} : mw (d + 1) 30 Q 78 [x0, x1, x2, x3, x4] (a1 :: .ref o :: st) h = (mg h o 2 ∧ mca st 8 ∧ mca [.ref o, a1] 4 ∧ mcall d 33 [.ref o, a1] h (mK (d + 1) 30 Q 81 [x0, x1, x2, x3, x4] st)) := (mw_at mj_30_78).trans ((z_invv (As := [a1]) (by decide) rfl rfl).trans (congrArg (And _) (congrArg (And _) (mC_nl nl_33))))
theorem mj_30_81 : mc_P 30 81 = some (.goto 148, 3, 0, 0, 0) := by decide +kernel
theorem s_30_81 {x0 x1 x2 x3 x4 : Option Value} : mw d 30 Q 81 [x0, x1, x2, x3, x4] (st) h = mw d 30 Q 229 [x0, x1, x2, x3, x4] (st) h := (mw_at mj_30_81).trans (z_goto (by decide))
theorem mj_30_84 : mc_P 30 84 = some (.aload_n 0, 1, 0, 0, 0) := by decide +kernel
theorem s_30_84 {x1 x2 x3 x4 : Option Value} {w : Value} : mw d 30 Q 84 [some w, x1, x2, x3, x4] (st) h = mv_a w (mw d 30 Q 85 [some w, x1, x2, x3, x4] (w :: st) h) := (mw_at mj_30_84).trans (z_aload_n rfl)
theorem mj_30_85 : mc_P 30 85 = some (.iload_n 2, 1, 0, 0, 0) := by decide +kernel
theorem s_30_85 {x0 x1 x3 x4 : Option Value} {w : Value} : mw d 30 Q 85 [x0, x1, some w, x3, x4] (st) h = mv_i w (mw d 30 Q 86 [x0, x1, some w, x3, x4] (w :: st) h) := (mw_at mj_30_85).trans (z_iload_n rfl)
theorem mj_30_86 : mc_P 30 86 = some (.aload_n 1, 1, 0, 0, 0) := by decide +kernel
theorem s_30_86 {x0 x2 x3 x4 : Option Value} {w : Value} : mw d 30 Q 86 [x0, some w, x2, x3, x4] (st) h = mv_a w (mw d 30 Q 87 [x0, some w, x2, x3, x4] (w :: st) h) := (mw_at mj_30_86).trans (z_aload_n rfl)
theorem mj_30_87 : mc_P 30 87 = some (.getfield 103, 3, 9, 8, 0) := by decide +kernel
theorem s_30_87 {x0 x1 x2 x3 x4 : Option Value} {o : Nat} : mw d 30 Q 87 [x0, x1, x2, x3, x4] (.ref o :: st) h = (mg h o 9 ∧ mw d 30 Q 90 [x0, x1, x2, x3, x4] (.int (mh_i h o 8) :: st) h) := (mw_at mj_30_87).trans (z_geti (by decide) (by decide) (Or.inl rfl))
theorem mj_30_90 : mc_P 30 90 = some (.iadd, 1, 0, 0, 0) := by decide +kernel
theorem s_30_90 {x0 x1 x2 x3 x4 : Option Value} {x w : Int32} : mw d 30 Q 90 [x0, x1, x2, x3, x4] (.int w :: .int x :: st) h = mw d 30 Q 91 [x0, x1, x2, x3, x4] (.int (x + w) :: st) h := (mw_at mj_30_90).trans (z_iadd)
theorem mj_30_91 : mc_P 30 91 = some (.aload_n 0, 1, 0, 0, 0) := by decide +kernel
theorem s_30_91 {x1 x2 x3 x4 : Option Value} {w : Value} : mw d 30 Q 91 [some w, x1, x2, x3, x4] (st) h = mv_a w (mw d 30 Q 92 [some w, x1, x2, x3, x4] (w :: st) h) := (mw_at mj_30_91).trans (z_aload_n rfl)
theorem mj_30_92 : mc_P 30 92 = some (.aload_n 1, 1, 0, 0, 0) := by decide +kernel
theorem s_30_92 {x0 x2 x3 x4 : Option Value} {w : Value} : mw d 30 Q 92 [x0, some w, x2, x3, x4] (st) h = mv_a w (mw d 30 Q 93 [x0, some w, x2, x3, x4] (w :: st) h) := (mw_at mj_30_92).trans (z_aload_n rfl)
theorem mj_30_93 : mc_P 30 93 = some (.getfield 106, 3, 9, 10, 0) := by decide +kernel
theorem s_30_93 {x0 x1 x2 x3 x4 : Option Value} {o : Nat} : mw d 30 Q 93 [x0, x1, x2, x3, x4] (.ref o :: st) h = (mg h o 9 ∧ mw d 30 Q 96 [x0, x1, x2, x3, x4] (.int (mh_i h o 10) :: st) h) := (mw_at mj_30_93).trans (z_geti (by decide) (by decide) (Or.inl rfl))
theorem mj_30_96 : mc_P 30 96 = some (.invokevirtual 109, 3, 37, 2, 2) := by decide +kernel
theorem s_30_96 {x0 x1 x2 x3 x4 : Option Value} {o : Nat} {a1 : Value} : mw (d + 1) 30 Q 96 [x0, x1, x2, x3, x4] (a1 :: .ref o :: st) h = (mg h o 2 ∧ mca st 8 ∧ mca [.ref o, a1] 6 ∧ mcall d 37 [.ref o, a1] h (mK (d + 1) 30 Q 99 [x0, x1, x2, x3, x4] st)) := (mw_at mj_30_96).trans ((z_invv (As := [a1]) (by decide) rfl rfl).trans (congrArg (And _) (congrArg (And _) (mC_nl nl_37))))
theorem mj_30_99 : mc_P 30 99 = some (.invokevirtual 113, 3, 32, 2, 3) := by decide +kernel
theorem s_30_99 {x0 x1 x2 x3 x4 : Option Value} {o : Nat} {a1 a2 : Value} : mw (d + 1) 30 Q 99 [x0, x1, x2, x3, x4] (a2 :: a1 :: .ref o :: st) h = (mg h o 2 ∧ mca st 8 ∧ mca [.ref o, a1, a2] 3 ∧ mcall d 32 [.ref o, a1, a2] h (mK (d + 1) 30 Q 102 [x0, x1, x2, x3, x4] st)) := (mw_at mj_30_99).trans ((z_invv (As := [a1, a2]) (by decide) rfl rfl).trans (congrArg (And _) (congrArg (And _) (mC_nl nl_32))))
theorem mj_30_102 : mc_P 30 102 = some (.goto 127, 3, 0, 0, 0) := by decide +kernel
theorem s_30_102 {x0 x1 x2 x3 x4 : Option Value} : mw d 30 Q 102 [x0, x1, x2, x3, x4] (st) h = mw d 30 Q 229 [x0, x1, x2, x3, x4] (st) h := (mw_at mj_30_102).trans (z_goto (by decide))
theorem mj_30_105 : mc_P 30 105 = some (.aload_n 0, 1, 0, 0, 0) := by decide +kernel
theorem s_30_105 {x1 x2 x3 x4 : Option Value} {w : Value} : mw d 30 Q 105 [some w, x1, x2, x3, x4] (st) h = mv_a w (mw d 30 Q 106 [some w, x1, x2, x3, x4] (w :: st) h) := (mw_at mj_30_105).trans (z_aload_n rfl)
theorem mj_30_106 : mc_P 30 106 = some (.aload_n 1, 1, 0, 0, 0) := by decide +kernel
theorem s_30_106 {x0 x2 x3 x4 : Option Value} {w : Value} : mw d 30 Q 106 [x0, some w, x2, x3, x4] (st) h = mv_a w (mw d 30 Q 107 [x0, some w, x2, x3, x4] (w :: st) h) := (mw_at mj_30_106).trans (z_aload_n rfl)
theorem mj_30_107 : mc_P 30 107 = some (.invokevirtual 117, 3, 34, 2, 2) := by decide +kernel
theorem s_30_107 {x0 x1 x2 x3 x4 : Option Value} {o : Nat} {a1 : Value} : mw (d + 1) 30 Q 107 [x0, x1, x2, x3, x4] (a1 :: .ref o :: st) h = (mg h o 2 ∧ mca st 8 ∧ mca [.ref o, a1] 4 ∧ mcall d 34 [.ref o, a1] h (mK (d + 1) 30 Q 110 [x0, x1, x2, x3, x4] st)) := (mw_at mj_30_107).trans ((z_invv (As := [a1]) (by decide) rfl rfl).trans (congrArg (And _) (congrArg (And _) (mC_nl nl_34))))
theorem mj_30_110 : mc_P 30 110 = some (.goto 119, 3, 0, 0, 0) := by decide +kernel
theorem s_30_110 {x0 x1 x2 x3 x4 : Option Value} : mw d 30 Q 110 [x0, x1, x2, x3, x4] (st) h = mw d 30 Q 229 [x0, x1, x2, x3, x4] (st) h := (mw_at mj_30_110).trans (z_goto (by decide))
theorem mj_30_113 : mc_P 30 113 = some (.iconst 0, 1, 0, 0, 0) := by decide +kernel
theorem s_30_113 {x0 x1 x2 x3 x4 : Option Value} : mw d 30 Q 113 [x0, x1, x2, x3, x4] (st) h = mw d 30 Q 114 [x0, x1, x2, x3, x4] (.int 0 :: st) h := (mw_at mj_30_113).trans (z_iconst (by decide))
theorem mj_30_114 : mc_P 30 114 = some (.istore 4, 2, 0, 0, 0) := by decide +kernel
theorem s_30_114 {x0 x1 x2 x3 x4 : Option Value} {w : Int32} : mw d 30 Q 114 [x0, x1, x2, x3, x4] (.int w :: st) h = mw d 30 Q 116 [x0, x1, x2, mk2 x3, some (.int w)] (st) h := (mw_at mj_30_114).trans (z_istore (Nat.le_of_ble_eq_true rfl) (me_s1_mk (j := 3) (w := x3) rfl))
theorem mj_30_116 : mc_P 30 116 = some (.iload 4, 2, 0, 0, 0) := by decide +kernel
theorem s_30_116 {x0 x1 x2 x3 : Option Value} {w : Value} : mw d 30 Q 116 [x0, x1, x2, x3, some w] (st) h = mv_i w (mw d 30 Q 118 [x0, x1, x2, x3, some w] (w :: st) h) := (mw_at mj_30_116).trans (z_iload rfl)
theorem mj_30_118 : mc_P 30 118 = some (.aload_n 1, 1, 0, 0, 0) := by decide +kernel
theorem s_30_118 {x0 x2 x3 x4 : Option Value} {w : Value} : mw d 30 Q 118 [x0, some w, x2, x3, x4] (st) h = mv_a w (mw d 30 Q 119 [x0, some w, x2, x3, x4] (w :: st) h) := (mw_at mj_30_118).trans (z_aload_n rfl)
theorem mj_30_119 : mc_P 30 119 = some (.getfield 120, 3, 9, 11, 0) := by decide +kernel
theorem s_30_119 {x0 x1 x2 x3 x4 : Option Value} {o : Nat} : mw d 30 Q 119 [x0, x1, x2, x3, x4] (.ref o :: st) h = (mg h o 9 ∧ mw d 30 Q 122 [x0, x1, x2, x3, x4] (.int (mh_i h o 11) :: st) h) := (mw_at mj_30_119).trans (z_geti (by decide) (by decide) (Or.inl rfl))
theorem mj_30_122 : mc_P 30 122 = some (.if_icmp .ge 38, 3, 0, 0, 0) := by decide +kernel
theorem s_30_122 {x0 x1 x2 x3 x4 : Option Value} {x w : Int32} : mw d 30 Q 122 [x0, x1, x2, x3, x4] (.int w :: .int x :: st) h = mB (w ≤ x) (mw d 30 Q) 160 125 [x0, x1, x2, x3, x4] st h := (mw_at mj_30_122).trans (z_icmp_ge (by decide) rfl)
theorem mj_30_125 : mc_P 30 125 = some (.aload_n 0, 1, 0, 0, 0) := by decide +kernel
theorem s_30_125 {x1 x2 x3 x4 : Option Value} {w : Value} : mw d 30 Q 125 [some w, x1, x2, x3, x4] (st) h = mv_a w (mw d 30 Q 126 [some w, x1, x2, x3, x4] (w :: st) h) := (mw_at mj_30_125).trans (z_aload_n rfl)
theorem mj_30_126 : mc_P 30 126 = some (.aload_n 0, 1, 0, 0, 0) := by decide +kernel
theorem s_30_126 {x1 x2 x3 x4 : Option Value} {w : Value} : mw d 30 Q 126 [some w, x1, x2, x3, x4] (st) h = mv_a w (mw d 30 Q 127 [some w, x1, x2, x3, x4] (w :: st) h) := (mw_at mj_30_126).trans (z_aload_n rfl)
theorem mj_30_127 : mc_P 30 127 = some (.getfield 27, 3, 2, 0, 0) := by decide +kernel
theorem s_30_127 {x0 x1 x2 x3 x4 : Option Value} {o : Nat} : mw d 30 Q 127 [x0, x1, x2, x3, x4] (.ref o :: st) h = (mg h o 2 ∧ mw d 30 Q 130 [x0, x1, x2, x3, x4] (va_rf (mh_r h o 0) :: st) h) := (mw_at mj_30_127).trans (z_getr (by decide) (by decide) rfl)
theorem mj_30_130 : mc_P 30 130 = some (.aload_n 0, 1, 0, 0, 0) := by decide +kernel
theorem s_30_130 {x1 x2 x3 x4 : Option Value} {w : Value} : mw d 30 Q 130 [some w, x1, x2, x3, x4] (st) h = mv_a w (mw d 30 Q 131 [some w, x1, x2, x3, x4] (w :: st) h) := (mw_at mj_30_130).trans (z_aload_n rfl)
theorem mj_30_131 : mc_P 30 131 = some (.getfield 35, 3, 2, 4, 0) := by decide +kernel
theorem s_30_131 {x0 x1 x2 x3 x4 : Option Value} {o : Nat} : mw d 30 Q 131 [x0, x1, x2, x3, x4] (.ref o :: st) h = (mg h o 2 ∧ mw d 30 Q 134 [x0, x1, x2, x3, x4] (.int (mh_i h o 4) :: st) h) := (mw_at mj_30_131).trans (z_geti (by decide) (by decide) (Or.inl rfl))
theorem mj_30_134 : mc_P 30 134 = some (.invokevirtual 123, 3, 80, 4, 2) := by decide +kernel
theorem s_30_134 {x0 x1 x2 x3 x4 : Option Value} {o : Nat} {a1 : Value} : mw (d + 1) 30 Q 134 [x0, x1, x2, x3, x4] (a1 :: .ref o :: st) h = (mg h o 4 ∧ mca st 8 ∧ mca [.ref o, a1] 2 ∧ mcall d 80 [.ref o, a1] h (mK (d + 1) 30 Q 137 [x0, x1, x2, x3, x4] st)) := (mw_at mj_30_134).trans ((z_invv (As := [a1]) (by decide) rfl rfl).trans (congrArg (And _) (congrArg (And _) (mC_nl nl_80))))
theorem mj_30_137 : mc_P 30 137 = some (.iload 4, 2, 0, 0, 0) := by decide +kernel
theorem s_30_137 {x0 x1 x2 x3 : Option Value} {w : Value} : mw d 30 Q 137 [x0, x1, x2, x3, some w] (st) h = mv_i w (mw d 30 Q 139 [x0, x1, x2, x3, some w] (w :: st) h) := (mw_at mj_30_137).trans (z_iload rfl)
theorem mj_30_139 : mc_P 30 139 = some (.iadd, 1, 0, 0, 0) := by decide +kernel
theorem s_30_139 {x0 x1 x2 x3 x4 : Option Value} {x w : Int32} : mw d 30 Q 139 [x0, x1, x2, x3, x4] (.int w :: .int x :: st) h = mw d 30 Q 140 [x0, x1, x2, x3, x4] (.int (x + w) :: st) h := (mw_at mj_30_139).trans (z_iadd)
theorem mj_30_140 : mc_P 30 140 = some (.aload_n 0, 1, 0, 0, 0) := by decide +kernel
theorem s_30_140 {x1 x2 x3 x4 : Option Value} {w : Value} : mw d 30 Q 140 [some w, x1, x2, x3, x4] (st) h = mv_a w (mw d 30 Q 141 [some w, x1, x2, x3, x4] (w :: st) h) := (mw_at mj_30_140).trans (z_aload_n rfl)
theorem mj_30_141 : mc_P 30 141 = some (.aload_n 1, 1, 0, 0, 0) := by decide +kernel
theorem s_30_141 {x0 x2 x3 x4 : Option Value} {w : Value} : mw d 30 Q 141 [x0, some w, x2, x3, x4] (st) h = mv_a w (mw d 30 Q 142 [x0, some w, x2, x3, x4] (w :: st) h) := (mw_at mj_30_141).trans (z_aload_n rfl)
theorem mj_30_142 : mc_P 30 142 = some (.getfield 106, 3, 9, 10, 0) := by decide +kernel
theorem s_30_142 {x0 x1 x2 x3 x4 : Option Value} {o : Nat} : mw d 30 Q 142 [x0, x1, x2, x3, x4] (.ref o :: st) h = (mg h o 9 ∧ mw d 30 Q 145 [x0, x1, x2, x3, x4] (.int (mh_i h o 10) :: st) h) := (mw_at mj_30_142).trans (z_geti (by decide) (by decide) (Or.inl rfl))
theorem mj_30_145 : mc_P 30 145 = some (.iload 4, 2, 0, 0, 0) := by decide +kernel
theorem s_30_145 {x0 x1 x2 x3 : Option Value} {w : Value} : mw d 30 Q 145 [x0, x1, x2, x3, some w] (st) h = mv_i w (mw d 30 Q 147 [x0, x1, x2, x3, some w] (w :: st) h) := (mw_at mj_30_145).trans (z_iload rfl)
theorem mj_30_147 : mc_P 30 147 = some (.iadd, 1, 0, 0, 0) := by decide +kernel
theorem s_30_147 {x0 x1 x2 x3 x4 : Option Value} {x w : Int32} : mw d 30 Q 147 [x0, x1, x2, x3, x4] (.int w :: .int x :: st) h = mw d 30 Q 148 [x0, x1, x2, x3, x4] (.int (x + w) :: st) h := (mw_at mj_30_147).trans (z_iadd)
theorem mj_30_148 : mc_P 30 148 = some (.invokevirtual 109, 3, 37, 2, 2) := by decide +kernel
theorem s_30_148 {x0 x1 x2 x3 x4 : Option Value} {o : Nat} {a1 : Value} : mw (d + 1) 30 Q 148 [x0, x1, x2, x3, x4] (a1 :: .ref o :: st) h = (mg h o 2 ∧ mca st 8 ∧ mca [.ref o, a1] 6 ∧ mcall d 37 [.ref o, a1] h (mK (d + 1) 30 Q 151 [x0, x1, x2, x3, x4] st)) := (mw_at mj_30_148).trans ((z_invv (As := [a1]) (by decide) rfl rfl).trans (congrArg (And _) (congrArg (And _) (mC_nl nl_37))))
theorem mj_30_151 : mc_P 30 151 = some (.invokevirtual 113, 3, 32, 2, 3) := by decide +kernel
theorem s_30_151 {x0 x1 x2 x3 x4 : Option Value} {o : Nat} {a1 a2 : Value} : mw (d + 1) 30 Q 151 [x0, x1, x2, x3, x4] (a2 :: a1 :: .ref o :: st) h = (mg h o 2 ∧ mca st 8 ∧ mca [.ref o, a1, a2] 3 ∧ mcall d 32 [.ref o, a1, a2] h (mK (d + 1) 30 Q 154 [x0, x1, x2, x3, x4] st)) := (mw_at mj_30_151).trans ((z_invv (As := [a1, a2]) (by decide) rfl rfl).trans (congrArg (And _) (congrArg (And _) (mC_nl nl_32))))
theorem mj_30_154 : mc_P 30 154 = some (.iinc 4 1, 3, 0, 0, 0) := by decide +kernel
theorem s_30_154 {x0 x1 x2 x3 : Option Value} {w : Int32} : mw d 30 Q 154 [x0, x1, x2, x3, some (.int w)] (st) h = mw d 30 Q 157 [x0, x1, x2, mk2 x3, some (.int (w + 1))] (st) h := (mw_at mj_30_154).trans (z_iinc rfl (Nat.le_of_ble_eq_true rfl) (by decide) (me_s1_mk (j := 3) (w := x3) rfl))
theorem mj_30_157 : mc_P 30 157 = some (.goto (-41), 3, 0, 0, 0) := by decide +kernel
theorem s_30_157 {x0 x1 x2 x3 x4 : Option Value} : mw d 30 Q 157 [x0, x1, x2, x3, x4] (st) h = mw d 30 Q 116 [x0, x1, x2, x3, x4] (st) h := (mw_at mj_30_157).trans (z_goto (by decide))
theorem mj_30_160 : mc_P 30 160 = some (.goto 69, 3, 0, 0, 0) := by decide +kernel
theorem s_30_160 {x0 x1 x2 x3 x4 : Option Value} : mw d 30 Q 160 [x0, x1, x2, x3, x4] (st) h = mw d 30 Q 229 [x0, x1, x2, x3, x4] (st) h := (mw_at mj_30_160).trans (z_goto (by decide))
theorem mj_30_163 : mc_P 30 163 = some (.aload_n 0, 1, 0, 0, 0) := by decide +kernel
theorem s_30_163 {x1 x2 x3 x4 : Option Value} {w : Value} : mw d 30 Q 163 [some w, x1, x2, x3, x4] (st) h = mv_a w (mw d 30 Q 164 [some w, x1, x2, x3, x4] (w :: st) h) := (mw_at mj_30_163).trans (z_aload_n rfl)
theorem mj_30_164 : mc_P 30 164 = some (.aload_n 0, 1, 0, 0, 0) := by decide +kernel
theorem s_30_164 {x1 x2 x3 x4 : Option Value} {w : Value} : mw d 30 Q 164 [some w, x1, x2, x3, x4] (st) h = mv_a w (mw d 30 Q 165 [some w, x1, x2, x3, x4] (w :: st) h) := (mw_at mj_30_164).trans (z_aload_n rfl)
theorem mj_30_165 : mc_P 30 165 = some (.getfield 27, 3, 2, 0, 0) := by decide +kernel
theorem s_30_165 {x0 x1 x2 x3 x4 : Option Value} {o : Nat} : mw d 30 Q 165 [x0, x1, x2, x3, x4] (.ref o :: st) h = (mg h o 2 ∧ mw d 30 Q 168 [x0, x1, x2, x3, x4] (va_rf (mh_r h o 0) :: st) h) := (mw_at mj_30_165).trans (z_getr (by decide) (by decide) rfl)
theorem mj_30_168 : mc_P 30 168 = some (.aload_n 0, 1, 0, 0, 0) := by decide +kernel
theorem s_30_168 {x1 x2 x3 x4 : Option Value} {w : Value} : mw d 30 Q 168 [some w, x1, x2, x3, x4] (st) h = mv_a w (mw d 30 Q 169 [some w, x1, x2, x3, x4] (w :: st) h) := (mw_at mj_30_168).trans (z_aload_n rfl)
theorem mj_30_169 : mc_P 30 169 = some (.getfield 35, 3, 2, 4, 0) := by decide +kernel
theorem s_30_169 {x0 x1 x2 x3 x4 : Option Value} {o : Nat} : mw d 30 Q 169 [x0, x1, x2, x3, x4] (.ref o :: st) h = (mg h o 2 ∧ mw d 30 Q 172 [x0, x1, x2, x3, x4] (.int (mh_i h o 4) :: st) h) := (mw_at mj_30_169).trans (z_geti (by decide) (by decide) (Or.inl rfl))
theorem mj_30_172 : mc_P 30 172 = some (.invokevirtual 126, 3, 84, 4, 2) := by decide +kernel
theorem s_30_172 {x0 x1 x2 x3 x4 : Option Value} {o : Nat} {a1 : Value} : mw (d + 1) 30 Q 172 [x0, x1, x2, x3, x4] (a1 :: .ref o :: st) h = (mg h o 4 ∧ mca st 8 ∧ mca [.ref o, a1] 4 ∧ mcall d 84 [.ref o, a1] h (mK (d + 1) 30 Q 175 [x0, x1, x2, x3, x4] st)) := (mw_at mj_30_172).trans ((z_invv (As := [a1]) (by decide) rfl rfl).trans (congrArg (And _) (congrArg (And _) (mC_nl nl_84))))
theorem mj_30_175 : mc_P 30 175 = some (.aload_n 0, 1, 0, 0, 0) := by decide +kernel
theorem s_30_175 {x1 x2 x3 x4 : Option Value} {w : Value} : mw d 30 Q 175 [some w, x1, x2, x3, x4] (st) h = mv_a w (mw d 30 Q 176 [some w, x1, x2, x3, x4] (w :: st) h) := (mw_at mj_30_175).trans (z_aload_n rfl)
theorem mj_30_176 : mc_P 30 176 = some (.aload_n 1, 1, 0, 0, 0) := by decide +kernel
theorem s_30_176 {x0 x2 x3 x4 : Option Value} {w : Value} : mw d 30 Q 176 [x0, some w, x2, x3, x4] (st) h = mv_a w (mw d 30 Q 177 [x0, some w, x2, x3, x4] (w :: st) h) := (mw_at mj_30_176).trans (z_aload_n rfl)
theorem mj_30_177 : mc_P 30 177 = some (.getfield 106, 3, 9, 10, 0) := by decide +kernel
theorem s_30_177 {x0 x1 x2 x3 x4 : Option Value} {o : Nat} : mw d 30 Q 177 [x0, x1, x2, x3, x4] (.ref o :: st) h = (mg h o 9 ∧ mw d 30 Q 180 [x0, x1, x2, x3, x4] (.int (mh_i h o 10) :: st) h) := (mw_at mj_30_177).trans (z_geti (by decide) (by decide) (Or.inl rfl))
theorem mj_30_180 : mc_P 30 180 = some (.invokevirtual 109, 3, 37, 2, 2) := by decide +kernel
theorem s_30_180 {x0 x1 x2 x3 x4 : Option Value} {o : Nat} {a1 : Value} : mw (d + 1) 30 Q 180 [x0, x1, x2, x3, x4] (a1 :: .ref o :: st) h = (mg h o 2 ∧ mca st 8 ∧ mca [.ref o, a1] 6 ∧ mcall d 37 [.ref o, a1] h (mK (d + 1) 30 Q 183 [x0, x1, x2, x3, x4] st)) := (mw_at mj_30_180).trans ((z_invv (As := [a1]) (by decide) rfl rfl).trans (congrArg (And _) (congrArg (And _) (mC_nl nl_37))))
theorem mj_30_183 : mc_P 30 183 = some (.invokevirtual 113, 3, 32, 2, 3) := by decide +kernel
theorem s_30_183 {x0 x1 x2 x3 x4 : Option Value} {o : Nat} {a1 a2 : Value} : mw (d + 1) 30 Q 183 [x0, x1, x2, x3, x4] (a2 :: a1 :: .ref o :: st) h = (mg h o 2 ∧ mca st 8 ∧ mca [.ref o, a1, a2] 3 ∧ mcall d 32 [.ref o, a1, a2] h (mK (d + 1) 30 Q 186 [x0, x1, x2, x3, x4] st)) := (mw_at mj_30_183).trans ((z_invv (As := [a1, a2]) (by decide) rfl rfl).trans (congrArg (And _) (congrArg (And _) (mC_nl nl_32))))
theorem mj_30_186 : mc_P 30 186 = some (.goto 43, 3, 0, 0, 0) := by decide +kernel
theorem s_30_186 {x0 x1 x2 x3 x4 : Option Value} : mw d 30 Q 186 [x0, x1, x2, x3, x4] (st) h = mw d 30 Q 229 [x0, x1, x2, x3, x4] (st) h := (mw_at mj_30_186).trans (z_goto (by decide))
theorem mj_30_189 : mc_P 30 189 = some (.aload_n 0, 1, 0, 0, 0) := by decide +kernel
theorem s_30_189 {x1 x2 x3 x4 : Option Value} {w : Value} : mw d 30 Q 189 [some w, x1, x2, x3, x4] (st) h = mv_a w (mw d 30 Q 190 [some w, x1, x2, x3, x4] (w :: st) h) := (mw_at mj_30_189).trans (z_aload_n rfl)
theorem mj_30_190 : mc_P 30 190 = some (.aload_n 1, 1, 0, 0, 0) := by decide +kernel
theorem s_30_190 {x0 x2 x3 x4 : Option Value} {w : Value} : mw d 30 Q 190 [x0, some w, x2, x3, x4] (st) h = mv_a w (mw d 30 Q 191 [x0, some w, x2, x3, x4] (w :: st) h) := (mw_at mj_30_190).trans (z_aload_n rfl)
theorem mj_30_191 : mc_P 30 191 = some (.invokevirtual 129, 3, 35, 2, 2) := by decide +kernel
theorem s_30_191 {x0 x1 x2 x3 x4 : Option Value} {o : Nat} {a1 : Value} : mw (d + 1) 30 Q 191 [x0, x1, x2, x3, x4] (a1 :: .ref o :: st) h = (mg h o 2 ∧ mca st 8 ∧ mca [.ref o, a1] 8 ∧ mcall d 35 [.ref o, a1] h (mK (d + 1) 30 Q 194 [x0, x1, x2, x3, x4] st)) := (mw_at mj_30_191).trans ((z_invv (As := [a1]) (by decide) rfl rfl).trans (congrArg (And _) (congrArg (And _) (mC_nl nl_35))))
theorem mj_30_194 : mc_P 30 194 = some (.ifCond .ne 35, 3, 0, 0, 0) := by decide +kernel
theorem s_30_194 {x0 x1 x2 x3 x4 : Option Value} {x : Int32} : mw d 30 Q 194 [x0, x1, x2, x3, x4] (.int x :: st) h = mB (¬ x = 0) (mw d 30 Q) 229 197 [x0, x1, x2, x3, x4] st h := (mw_at mj_30_194).trans (z_if_ne (by decide) rfl)
theorem mj_30_197 : mc_P 30 197 = some (.aload_n 0, 1, 0, 0, 0) := by decide +kernel
theorem s_30_197 {x1 x2 x3 x4 : Option Value} {w : Value} : mw d 30 Q 197 [some w, x1, x2, x3, x4] (st) h = mv_a w (mw d 30 Q 198 [some w, x1, x2, x3, x4] (w :: st) h) := (mw_at mj_30_197).trans (z_aload_n rfl)
theorem mj_30_198 : mc_P 30 198 = some (.getfield 27, 3, 2, 0, 0) := by decide +kernel
theorem s_30_198 {x0 x1 x2 x3 x4 : Option Value} {o : Nat} : mw d 30 Q 198 [x0, x1, x2, x3, x4] (.ref o :: st) h = (mg h o 2 ∧ mw d 30 Q 201 [x0, x1, x2, x3, x4] (va_rf (mh_r h o 0) :: st) h) := (mw_at mj_30_198).trans (z_getr (by decide) (by decide) rfl)
theorem mj_30_201 : mc_P 30 201 = some (.getfield 133, 3, 4, 11, 0) := by decide +kernel
theorem s_30_201 {x0 x1 x2 x3 x4 : Option Value} {o : Nat} : mw d 30 Q 201 [x0, x1, x2, x3, x4] (.ref o :: st) h = (mg h o 4 ∧ mw d 30 Q 204 [x0, x1, x2, x3, x4] (va_rf (mh_r h o 11) :: st) h) := (mw_at mj_30_201).trans (z_getr (by decide) (by decide) rfl)
theorem mj_30_204 : mc_P 30 204 = some (.aload_n 0, 1, 0, 0, 0) := by decide +kernel
theorem s_30_204 {x1 x2 x3 x4 : Option Value} {w : Value} : mw d 30 Q 204 [some w, x1, x2, x3, x4] (st) h = mv_a w (mw d 30 Q 205 [some w, x1, x2, x3, x4] (w :: st) h) := (mw_at mj_30_204).trans (z_aload_n rfl)
theorem mj_30_205 : mc_P 30 205 = some (.getfield 35, 3, 2, 4, 0) := by decide +kernel
theorem s_30_205 {x0 x1 x2 x3 x4 : Option Value} {o : Nat} : mw d 30 Q 205 [x0, x1, x2, x3, x4] (.ref o :: st) h = (mg h o 2 ∧ mw d 30 Q 208 [x0, x1, x2, x3, x4] (.int (mh_i h o 4) :: st) h) := (mw_at mj_30_205).trans (z_geti (by decide) (by decide) (Or.inl rfl))
theorem mj_30_208 : mc_P 30 208 = some (.iaload, 1, 0, 0, 0) := by decide +kernel
theorem s_30_208 {x0 x1 x2 x3 x4 : Option Value} {o : Nat} {i : Int32} : mw d 30 Q 208 [x0, x1, x2, x3, x4] (.int i :: .ref o :: st) h = (mg h o 100 ∧ mx i (mh_l h o) ∧ mw d 30 Q 209 [x0, x1, x2, x3, x4] (.int (mh_i h o i.toNatClampNeg) :: st) h) := (mw_at mj_30_208).trans (z_iald)
theorem mj_30_209 : mc_P 30 209 = some (.istore_n 3, 1, 0, 0, 0) := by decide +kernel
theorem s_30_209 {x0 x1 x2 x3 x4 : Option Value} {w : Int32} : mw d 30 Q 209 [x0, x1, x2, x3, x4] (.int w :: st) h = mw d 30 Q 210 [x0, x1, mk2 x2, some (.int w), x4] (st) h := (mw_at mj_30_209).trans (z_istore_n (Nat.le_of_ble_eq_true rfl) (me_s1_mk (j := 2) (w := x2) rfl))
theorem mj_30_210 : mc_P 30 210 = some (.aload_n 0, 1, 0, 0, 0) := by decide +kernel
theorem s_30_210 {x1 x2 x3 x4 : Option Value} {w : Value} : mw d 30 Q 210 [some w, x1, x2, x3, x4] (st) h = mv_a w (mw d 30 Q 211 [some w, x1, x2, x3, x4] (w :: st) h) := (mw_at mj_30_210).trans (z_aload_n rfl)
theorem mj_30_211 : mc_P 30 211 = some (.aload_n 1, 1, 0, 0, 0) := by decide +kernel
theorem s_30_211 {x0 x2 x3 x4 : Option Value} {w : Value} : mw d 30 Q 211 [x0, some w, x2, x3, x4] (st) h = mv_a w (mw d 30 Q 212 [x0, some w, x2, x3, x4] (w :: st) h) := (mw_at mj_30_211).trans (z_aload_n rfl)
theorem mj_30_212 : mc_P 30 212 = some (.getfield 95, 3, 9, 0, 0) := by decide +kernel
theorem s_30_212 {x0 x1 x2 x3 x4 : Option Value} {o : Nat} : mw d 30 Q 212 [x0, x1, x2, x3, x4] (.ref o :: st) h = (mg h o 9 ∧ mw d 30 Q 215 [x0, x1, x2, x3, x4] (.int (mh_i h o 0) :: st) h) := (mw_at mj_30_212).trans (z_geti (by decide) (by decide) (Or.inl rfl))
theorem mj_30_215 : mc_P 30 215 = some (.bipush 7, 2, 0, 0, 0) := by decide +kernel
theorem s_30_215 {x0 x1 x2 x3 x4 : Option Value} : mw d 30 Q 215 [x0, x1, x2, x3, x4] (st) h = mw d 30 Q 217 [x0, x1, x2, x3, x4] (.int 7 :: st) h := (mw_at mj_30_215).trans (z_bipush (by decide))
theorem mj_30_217 : mc_P 30 217 = some (.if_icmp .ne 8, 3, 0, 0, 0) := by decide +kernel
theorem s_30_217 {x0 x1 x2 x3 x4 : Option Value} {x w : Int32} : mw d 30 Q 217 [x0, x1, x2, x3, x4] (.int w :: .int x :: st) h = mB (¬ x = w) (mw d 30 Q) 225 220 [x0, x1, x2, x3, x4] st h := (mw_at mj_30_217).trans (z_icmp_ne (by decide) rfl)
theorem mj_30_220 : mc_P 30 220 = some (.bipush 8, 2, 0, 0, 0) := by decide +kernel
theorem s_30_220 {x0 x1 x2 x3 x4 : Option Value} : mw d 30 Q 220 [x0, x1, x2, x3, x4] (st) h = mw d 30 Q 222 [x0, x1, x2, x3, x4] (.int 8 :: st) h := (mw_at mj_30_220).trans (z_bipush (by decide))
theorem mj_30_222 : mc_P 30 222 = some (.goto 4, 3, 0, 0, 0) := by decide +kernel
theorem s_30_222 {x0 x1 x2 x3 x4 : Option Value} : mw d 30 Q 222 [x0, x1, x2, x3, x4] (st) h = mw d 30 Q 226 [x0, x1, x2, x3, x4] (st) h := (mw_at mj_30_222).trans (z_goto (by decide))
theorem mj_30_225 : mc_P 30 225 = some (.iconst 0, 1, 0, 0, 0) := by decide +kernel
theorem s_30_225 {x0 x1 x2 x3 x4 : Option Value} : mw d 30 Q 225 [x0, x1, x2, x3, x4] (st) h = mw d 30 Q 226 [x0, x1, x2, x3, x4] (.int 0 :: st) h := (mw_at mj_30_225).trans (z_iconst (by decide))
theorem mj_30_226 : mc_P 30 226 = some (.invokevirtual 136, 3, 31, 2, 2) := by decide +kernel
theorem s_30_226 {x0 x1 x2 x3 x4 : Option Value} {o : Nat} {a1 : Value} : mw (d + 1) 30 Q 226 [x0, x1, x2, x3, x4] (a1 :: .ref o :: st) h = (mg h o 2 ∧ mca st 8 ∧ mca [.ref o, a1] 2 ∧ mcall d 31 [.ref o, a1] h (mK (d + 1) 30 Q 229 [x0, x1, x2, x3, x4] st)) := (mw_at mj_30_226).trans ((z_invv (As := [a1]) (by decide) rfl rfl).trans (congrArg (And _) (congrArg (And _) (mC_nl nl_31))))
theorem mj_30_229 : mc_P 30 229 = some (.aload_n 0, 1, 0, 0, 0) := by decide +kernel
theorem s_30_229 {x1 x2 x3 x4 : Option Value} {w : Value} : mw d 30 Q 229 [some w, x1, x2, x3, x4] (st) h = mv_a w (mw d 30 Q 230 [some w, x1, x2, x3, x4] (w :: st) h) := (mw_at mj_30_229).trans (z_aload_n rfl)
theorem mj_30_230 : mc_P 30 230 = some (.getfield 47, 3, 2, 10, 0) := by decide +kernel
theorem s_30_230 {x0 x1 x2 x3 x4 : Option Value} {o : Nat} : mw d 30 Q 230 [x0, x1, x2, x3, x4] (.ref o :: st) h = (mg h o 2 ∧ mw d 30 Q 233 [x0, x1, x2, x3, x4] (.int (mh_i h o 10) :: st) h) := (mw_at mj_30_230).trans (z_geti (by decide) (by decide) (Or.inl rfl))
theorem mj_30_233 : mc_P 30 233 = some (.ifCond .ne 8, 3, 0, 0, 0) := by decide +kernel
theorem s_30_233 {x0 x1 x2 x3 x4 : Option Value} {x : Int32} : mw d 30 Q 233 [x0, x1, x2, x3, x4] (.int x :: st) h = mB (¬ x = 0) (mw d 30 Q) 241 236 [x0, x1, x2, x3, x4] st h := (mw_at mj_30_233).trans (z_if_ne (by decide) rfl)
theorem mj_30_236 : mc_P 30 236 = some (.aload_n 0, 1, 0, 0, 0) := by decide +kernel
theorem s_30_236 {x1 x2 x3 x4 : Option Value} {w : Value} : mw d 30 Q 236 [some w, x1, x2, x3, x4] (st) h = mv_a w (mw d 30 Q 237 [some w, x1, x2, x3, x4] (w :: st) h) := (mw_at mj_30_236).trans (z_aload_n rfl)
theorem mj_30_237 : mc_P 30 237 = some (.iload_n 3, 1, 0, 0, 0) := by decide +kernel
theorem s_30_237 {x0 x1 x2 x4 : Option Value} {w : Value} : mw d 30 Q 237 [x0, x1, x2, some w, x4] (st) h = mv_i w (mw d 30 Q 238 [x0, x1, x2, some w, x4] (w :: st) h) := (mw_at mj_30_237).trans (z_iload_n rfl)
theorem mj_30_238 : mc_P 30 238 = some (.putfield 35, 3, 2, 4, 0) := by decide +kernel
theorem s_30_238 {x0 x1 x2 x3 x4 : Option Value} {o : Nat} {w : Int32} : mw d 30 Q 238 [x0, x1, x2, x3, x4] (.int w :: .ref o :: st) h = (mg h o 2 ∧ mw d 30 Q 241 [x0, x1, x2, x3, x4] (st) (mh_si h o 4 w)) := (mw_at mj_30_238).trans (z_puti (by decide) (by decide) rfl)
theorem mj_30_241 : mc_P 30 241 = some (.return_, 1, 0, 0, 0) := by decide +kernel
theorem s_30_241 {x0 x1 x2 x3 x4 : Option Value} : mw d 30 Q 241 [x0, x1, x2, x3, x4] ([]) h = Q none h := (mw_at mj_30_241).trans (z_vret)
theorem e_30 {a0 : Nat} {a1 : Nat} : mcall d 30 [.ref a0, .ref a1] h Q = mw d 30 Q 0 [some (.ref a0), some (.ref a1), none, none, none] [] h := by
  show mw d 30 Q 0 (me_en (mc_nl 30) _) [] h = _
  rw [nl_30]; rfl

/-! InvariantDesk$Machine.fail(I)V -/
theorem mj_31_0 : mc_P 31 0 = some (.aload_n 0, 1, 0, 0, 0) := by decide +kernel
theorem s_31_0 {x1 : Option Value} {w : Value} : mw d 31 Q 0 [some w, x1] (st) h = mv_a w (mw d 31 Q 1 [some w, x1] (w :: st) h) := (mw_at mj_31_0).trans (z_aload_n rfl)
theorem mj_31_1 : mc_P 31 1 = some (.getfield 47, 3, 2, 10, 0) := by decide +kernel
theorem s_31_1 {x0 x1 : Option Value} {o : Nat} : mw d 31 Q 1 [x0, x1] (.ref o :: st) h = (mg h o 2 ∧ mw d 31 Q 4 [x0, x1] (.int (mh_i h o 10) :: st) h) := (mw_at mj_31_1).trans (z_geti (by decide) (by decide) (Or.inl rfl))
theorem mj_31_4 : mc_P 31 4 = some (.ifCond .ne 8, 3, 0, 0, 0) := by decide +kernel
theorem s_31_4 {x0 x1 : Option Value} {x : Int32} : mw d 31 Q 4 [x0, x1] (.int x :: st) h = mB (¬ x = 0) (mw d 31 Q) 12 7 [x0, x1] st h := (mw_at mj_31_4).trans (z_if_ne (by decide) rfl)
theorem mj_31_7 : mc_P 31 7 = some (.aload_n 0, 1, 0, 0, 0) := by decide +kernel
theorem s_31_7 {x1 : Option Value} {w : Value} : mw d 31 Q 7 [some w, x1] (st) h = mv_a w (mw d 31 Q 8 [some w, x1] (w :: st) h) := (mw_at mj_31_7).trans (z_aload_n rfl)
theorem mj_31_8 : mc_P 31 8 = some (.iload_n 1, 1, 0, 0, 0) := by decide +kernel
theorem s_31_8 {x0 : Option Value} {w : Value} : mw d 31 Q 8 [x0, some w] (st) h = mv_i w (mw d 31 Q 9 [x0, some w] (w :: st) h) := (mw_at mj_31_8).trans (z_iload_n rfl)
theorem mj_31_9 : mc_P 31 9 = some (.putfield 47, 3, 2, 10, 0) := by decide +kernel
theorem s_31_9 {x0 x1 : Option Value} {o : Nat} {w : Int32} : mw d 31 Q 9 [x0, x1] (.int w :: .ref o :: st) h = (mg h o 2 ∧ mw d 31 Q 12 [x0, x1] (st) (mh_si h o 10 w)) := (mw_at mj_31_9).trans (z_puti (by decide) (by decide) rfl)
theorem mj_31_12 : mc_P 31 12 = some (.return_, 1, 0, 0, 0) := by decide +kernel
theorem s_31_12 {x0 x1 : Option Value} : mw d 31 Q 12 [x0, x1] ([]) h = Q none h := (mw_at mj_31_12).trans (z_vret)
theorem e_31 {a0 : Nat} {a1 : Int32} : mcall d 31 [.ref a0, .int a1] h Q = mw d 31 Q 0 [some (.ref a0), some (.int a1)] [] h := by
  show mw d 31 Q 0 (me_en (mc_nl 31) _) [] h = _
  rw [nl_31]; rfl

/-! InvariantDesk$Machine.put(II)V -/
theorem mj_32_0 : mc_P 32 0 = some (.aload_n 0, 1, 0, 0, 0) := by decide +kernel
theorem s_32_0 {x1 x2 : Option Value} {w : Value} : mw d 32 Q 0 [some w, x1, x2] (st) h = mv_a w (mw d 32 Q 1 [some w, x1, x2] (w :: st) h) := (mw_at mj_32_0).trans (z_aload_n rfl)
theorem mj_32_1 : mc_P 32 1 = some (.getfield 47, 3, 2, 10, 0) := by decide +kernel
theorem s_32_1 {x0 x1 x2 : Option Value} {o : Nat} : mw d 32 Q 1 [x0, x1, x2] (.ref o :: st) h = (mg h o 2 ∧ mw d 32 Q 4 [x0, x1, x2] (.int (mh_i h o 10) :: st) h) := (mw_at mj_32_1).trans (z_geti (by decide) (by decide) (Or.inl rfl))
theorem mj_32_4 : mc_P 32 4 = some (.ifCond .ne 15, 3, 0, 0, 0) := by decide +kernel
theorem s_32_4 {x0 x1 x2 : Option Value} {x : Int32} : mw d 32 Q 4 [x0, x1, x2] (.int x :: st) h = mB (¬ x = 0) (mw d 32 Q) 19 7 [x0, x1, x2] st h := (mw_at mj_32_4).trans (z_if_ne (by decide) rfl)
theorem mj_32_7 : mc_P 32 7 = some (.iload_n 1, 1, 0, 0, 0) := by decide +kernel
theorem s_32_7 {x0 x2 : Option Value} {w : Value} : mw d 32 Q 7 [x0, some w, x2] (st) h = mv_i w (mw d 32 Q 8 [x0, some w, x2] (w :: st) h) := (mw_at mj_32_7).trans (z_iload_n rfl)
theorem mj_32_8 : mc_P 32 8 = some (.iconst (-1), 1, 0, 0, 0) := by decide +kernel
theorem s_32_8 {x0 x1 x2 : Option Value} : mw d 32 Q 8 [x0, x1, x2] (st) h = mw d 32 Q 9 [x0, x1, x2] (.int (-1) :: st) h := (mw_at mj_32_8).trans (z_iconst (by decide))
theorem mj_32_9 : mc_P 32 9 = some (.if_icmp .eq 10, 3, 0, 0, 0) := by decide +kernel
theorem s_32_9 {x0 x1 x2 : Option Value} {x w : Int32} : mw d 32 Q 9 [x0, x1, x2] (.int w :: .int x :: st) h = mB (x = w) (mw d 32 Q) 19 12 [x0, x1, x2] st h := (mw_at mj_32_9).trans (z_icmp_eq (by decide) rfl)
theorem mj_32_12 : mc_P 32 12 = some (.aload_n 0, 1, 0, 0, 0) := by decide +kernel
theorem s_32_12 {x1 x2 : Option Value} {w : Value} : mw d 32 Q 12 [some w, x1, x2] (st) h = mv_a w (mw d 32 Q 13 [some w, x1, x2] (w :: st) h) := (mw_at mj_32_12).trans (z_aload_n rfl)
theorem mj_32_13 : mc_P 32 13 = some (.getfield 15, 3, 2, 6, 0) := by decide +kernel
theorem s_32_13 {x0 x1 x2 : Option Value} {o : Nat} : mw d 32 Q 13 [x0, x1, x2] (.ref o :: st) h = (mg h o 2 ∧ mw d 32 Q 16 [x0, x1, x2] (va_rf (mh_r h o 6) :: st) h) := (mw_at mj_32_13).trans (z_getr (by decide) (by decide) rfl)
theorem mj_32_16 : mc_P 32 16 = some (.iload_n 1, 1, 0, 0, 0) := by decide +kernel
theorem s_32_16 {x0 x2 : Option Value} {w : Value} : mw d 32 Q 16 [x0, some w, x2] (st) h = mv_i w (mw d 32 Q 17 [x0, some w, x2] (w :: st) h) := (mw_at mj_32_16).trans (z_iload_n rfl)
theorem mj_32_17 : mc_P 32 17 = some (.iload_n 2, 1, 0, 0, 0) := by decide +kernel
theorem s_32_17 {x0 x1 : Option Value} {w : Value} : mw d 32 Q 17 [x0, x1, some w] (st) h = mv_i w (mw d 32 Q 18 [x0, x1, some w] (w :: st) h) := (mw_at mj_32_17).trans (z_iload_n rfl)
theorem mj_32_18 : mc_P 32 18 = some (.iastore, 1, 0, 0, 0) := by decide +kernel
theorem s_32_18 {x0 x1 x2 : Option Value} {o : Nat} {i w : Int32} : mw d 32 Q 18 [x0, x1, x2] (.int w :: .int i :: .ref o :: st) h = (mg h o 100 ∧ mx i (mh_l h o) ∧ mw d 32 Q 19 [x0, x1, x2] (st) (mh_si h o i.toNatClampNeg w)) := (mw_at mj_32_18).trans (z_iast)
theorem mj_32_19 : mc_P 32 19 = some (.return_, 1, 0, 0, 0) := by decide +kernel
theorem s_32_19 {x0 x1 x2 : Option Value} : mw d 32 Q 19 [x0, x1, x2] ([]) h = Q none h := (mw_at mj_32_19).trans (z_vret)
theorem e_32 {a0 : Nat} {a1 : Int32} {a2 : Int32} : mcall d 32 [.ref a0, .int a1, .int a2] h Q = mw d 32 Q 0 [some (.ref a0), some (.int a1), some (.int a2)] [] h := by
  show mw d 32 Q 0 (me_en (mc_nl 32) _) [] h = _
  rw [nl_32]; rfl

/-! InvariantDesk$Machine.declare(LInvariantDesk$Statement;)V -/
theorem mj_33_0 : mc_P 33 0 = some (.aload_n 1, 1, 0, 0, 0) := by decide +kernel
theorem s_33_0 {x0 x2 x3 : Option Value} {w : Value} : mw d 33 Q 0 [x0, some w, x2, x3] (st) h = mv_a w (mw d 33 Q 1 [x0, some w, x2, x3] (w :: st) h) := (mw_at mj_33_0).trans (z_aload_n rfl)
theorem mj_33_1 : mc_P 33 1 = some (.getfield 140, 3, 9, 9, 0) := by decide +kernel
theorem s_33_1 {x0 x1 x2 x3 : Option Value} {o : Nat} : mw d 33 Q 1 [x0, x1, x2, x3] (.ref o :: st) h = (mg h o 9 ∧ mw d 33 Q 4 [x0, x1, x2, x3] (.int (mh_i h o 9) :: st) h) := (mw_at mj_33_1).trans (z_geti (by decide) (by decide) (Or.inl rfl))
theorem mj_33_4 : mc_P 33 4 = some (.ifCond .ne 38, 3, 0, 0, 0) := by decide +kernel
theorem s_33_4 {x0 x1 x2 x3 : Option Value} {x : Int32} : mw d 33 Q 4 [x0, x1, x2, x3] (.int x :: st) h = mB (¬ x = 0) (mw d 33 Q) 42 7 [x0, x1, x2, x3] st h := (mw_at mj_33_4).trans (z_if_ne (by decide) rfl)
theorem mj_33_7 : mc_P 33 7 = some (.aload_n 0, 1, 0, 0, 0) := by decide +kernel
theorem s_33_7 {x1 x2 x3 : Option Value} {w : Value} : mw d 33 Q 7 [some w, x1, x2, x3] (st) h = mv_a w (mw d 33 Q 8 [some w, x1, x2, x3] (w :: st) h) := (mw_at mj_33_7).trans (z_aload_n rfl)
theorem mj_33_8 : mc_P 33 8 = some (.aload_n 0, 1, 0, 0, 0) := by decide +kernel
theorem s_33_8 {x1 x2 x3 : Option Value} {w : Value} : mw d 33 Q 8 [some w, x1, x2, x3] (st) h = mv_a w (mw d 33 Q 9 [some w, x1, x2, x3] (w :: st) h) := (mw_at mj_33_8).trans (z_aload_n rfl)
theorem mj_33_9 : mc_P 33 9 = some (.getfield 27, 3, 2, 0, 0) := by decide +kernel
theorem s_33_9 {x0 x1 x2 x3 : Option Value} {o : Nat} : mw d 33 Q 9 [x0, x1, x2, x3] (.ref o :: st) h = (mg h o 2 ∧ mw d 33 Q 12 [x0, x1, x2, x3] (va_rf (mh_r h o 0) :: st) h) := (mw_at mj_33_9).trans (z_getr (by decide) (by decide) rfl)
theorem mj_33_12 : mc_P 33 12 = some (.aload_n 0, 1, 0, 0, 0) := by decide +kernel
theorem s_33_12 {x1 x2 x3 : Option Value} {w : Value} : mw d 33 Q 12 [some w, x1, x2, x3] (st) h = mv_a w (mw d 33 Q 13 [some w, x1, x2, x3] (w :: st) h) := (mw_at mj_33_12).trans (z_aload_n rfl)
theorem mj_33_13 : mc_P 33 13 = some (.getfield 35, 3, 2, 4, 0) := by decide +kernel
theorem s_33_13 {x0 x1 x2 x3 : Option Value} {o : Nat} : mw d 33 Q 13 [x0, x1, x2, x3] (.ref o :: st) h = (mg h o 2 ∧ mw d 33 Q 16 [x0, x1, x2, x3] (.int (mh_i h o 4) :: st) h) := (mw_at mj_33_13).trans (z_geti (by decide) (by decide) (Or.inl rfl))
theorem mj_33_16 : mc_P 33 16 = some (.invokevirtual 123, 3, 80, 4, 2) := by decide +kernel
theorem s_33_16 {x0 x1 x2 x3 : Option Value} {o : Nat} {a1 : Value} : mw (d + 1) 33 Q 16 [x0, x1, x2, x3] (a1 :: .ref o :: st) h = (mg h o 4 ∧ mca st 8 ∧ mca [.ref o, a1] 2 ∧ mcall d 80 [.ref o, a1] h (mK (d + 1) 33 Q 19 [x0, x1, x2, x3] st)) := (mw_at mj_33_16).trans ((z_invv (As := [a1]) (by decide) rfl rfl).trans (congrArg (And _) (congrArg (And _) (mC_nl nl_80))))
theorem mj_33_19 : mc_P 33 19 = some (.aload_n 1, 1, 0, 0, 0) := by decide +kernel
theorem s_33_19 {x0 x2 x3 : Option Value} {w : Value} : mw d 33 Q 19 [x0, some w, x2, x3] (st) h = mv_a w (mw d 33 Q 20 [x0, some w, x2, x3] (w :: st) h) := (mw_at mj_33_19).trans (z_aload_n rfl)
theorem mj_33_20 : mc_P 33 20 = some (.getfield 120, 3, 9, 11, 0) := by decide +kernel
theorem s_33_20 {x0 x1 x2 x3 : Option Value} {o : Nat} : mw d 33 Q 20 [x0, x1, x2, x3] (.ref o :: st) h = (mg h o 9 ∧ mw d 33 Q 23 [x0, x1, x2, x3] (.int (mh_i h o 11) :: st) h) := (mw_at mj_33_20).trans (z_geti (by decide) (by decide) (Or.inl rfl))
theorem mj_33_23 : mc_P 33 23 = some (.ifCond .ne 7, 3, 0, 0, 0) := by decide +kernel
theorem s_33_23 {x0 x1 x2 x3 : Option Value} {x : Int32} : mw d 33 Q 23 [x0, x1, x2, x3] (.int x :: st) h = mB (¬ x = 0) (mw d 33 Q) 30 26 [x0, x1, x2, x3] st h := (mw_at mj_33_23).trans (z_if_ne (by decide) rfl)
theorem mj_33_26 : mc_P 33 26 = some (.iconst 0, 1, 0, 0, 0) := by decide +kernel
theorem s_33_26 {x0 x1 x2 x3 : Option Value} : mw d 33 Q 26 [x0, x1, x2, x3] (st) h = mw d 33 Q 27 [x0, x1, x2, x3] (.int 0 :: st) h := (mw_at mj_33_26).trans (z_iconst (by decide))
theorem mj_33_27 : mc_P 33 27 = some (.goto 11, 3, 0, 0, 0) := by decide +kernel
theorem s_33_27 {x0 x1 x2 x3 : Option Value} : mw d 33 Q 27 [x0, x1, x2, x3] (st) h = mw d 33 Q 38 [x0, x1, x2, x3] (st) h := (mw_at mj_33_27).trans (z_goto (by decide))
theorem mj_33_30 : mc_P 33 30 = some (.aload_n 0, 1, 0, 0, 0) := by decide +kernel
theorem s_33_30 {x1 x2 x3 : Option Value} {w : Value} : mw d 33 Q 30 [some w, x1, x2, x3] (st) h = mv_a w (mw d 33 Q 31 [some w, x1, x2, x3] (w :: st) h) := (mw_at mj_33_30).trans (z_aload_n rfl)
theorem mj_33_31 : mc_P 33 31 = some (.aload_n 1, 1, 0, 0, 0) := by decide +kernel
theorem s_33_31 {x0 x2 x3 : Option Value} {w : Value} : mw d 33 Q 31 [x0, some w, x2, x3] (st) h = mv_a w (mw d 33 Q 32 [x0, some w, x2, x3] (w :: st) h) := (mw_at mj_33_31).trans (z_aload_n rfl)
theorem mj_33_32 : mc_P 33 32 = some (.getfield 106, 3, 9, 10, 0) := by decide +kernel
theorem s_33_32 {x0 x1 x2 x3 : Option Value} {o : Nat} : mw d 33 Q 32 [x0, x1, x2, x3] (.ref o :: st) h = (mg h o 9 ∧ mw d 33 Q 35 [x0, x1, x2, x3] (.int (mh_i h o 10) :: st) h) := (mw_at mj_33_32).trans (z_geti (by decide) (by decide) (Or.inl rfl))
theorem mj_33_35 : mc_P 33 35 = some (.invokevirtual 109, 3, 37, 2, 2) := by decide +kernel
theorem s_33_35 {x0 x1 x2 x3 : Option Value} {o : Nat} {a1 : Value} : mw (d + 1) 33 Q 35 [x0, x1, x2, x3] (a1 :: .ref o :: st) h = (mg h o 2 ∧ mca st 8 ∧ mca [.ref o, a1] 6 ∧ mcall d 37 [.ref o, a1] h (mK (d + 1) 33 Q 38 [x0, x1, x2, x3] st)) := (mw_at mj_33_35).trans ((z_invv (As := [a1]) (by decide) rfl rfl).trans (congrArg (And _) (congrArg (And _) (mC_nl nl_37))))
theorem mj_33_38 : mc_P 33 38 = some (.invokevirtual 113, 3, 32, 2, 3) := by decide +kernel
theorem s_33_38 {x0 x1 x2 x3 : Option Value} {o : Nat} {a1 a2 : Value} : mw (d + 1) 33 Q 38 [x0, x1, x2, x3] (a2 :: a1 :: .ref o :: st) h = (mg h o 2 ∧ mca st 8 ∧ mca [.ref o, a1, a2] 3 ∧ mcall d 32 [.ref o, a1, a2] h (mK (d + 1) 33 Q 41 [x0, x1, x2, x3] st)) := (mw_at mj_33_38).trans ((z_invv (As := [a1, a2]) (by decide) rfl rfl).trans (congrArg (And _) (congrArg (And _) (mC_nl nl_32))))
theorem mj_33_41 : mc_P 33 41 = some (.return_, 1, 0, 0, 0) := by decide +kernel
theorem s_33_41 {x0 x1 x2 x3 : Option Value} : mw d 33 Q 41 [x0, x1, x2, x3] ([]) h = Q none h := (mw_at mj_33_41).trans (z_vret)
theorem mj_33_42 : mc_P 33 42 = some (.aload_n 0, 1, 0, 0, 0) := by decide +kernel
theorem s_33_42 {x1 x2 x3 : Option Value} {w : Value} : mw d 33 Q 42 [some w, x1, x2, x3] (st) h = mv_a w (mw d 33 Q 43 [some w, x1, x2, x3] (w :: st) h) := (mw_at mj_33_42).trans (z_aload_n rfl)
theorem mj_33_43 : mc_P 33 43 = some (.getfield 27, 3, 2, 0, 0) := by decide +kernel
theorem s_33_43 {x0 x1 x2 x3 : Option Value} {o : Nat} : mw d 33 Q 43 [x0, x1, x2, x3] (.ref o :: st) h = (mg h o 2 ∧ mw d 33 Q 46 [x0, x1, x2, x3] (va_rf (mh_r h o 0) :: st) h) := (mw_at mj_33_43).trans (z_getr (by decide) (by decide) rfl)
theorem mj_33_46 : mc_P 33 46 = some (.aload_n 0, 1, 0, 0, 0) := by decide +kernel
theorem s_33_46 {x1 x2 x3 : Option Value} {w : Value} : mw d 33 Q 46 [some w, x1, x2, x3] (st) h = mv_a w (mw d 33 Q 47 [some w, x1, x2, x3] (w :: st) h) := (mw_at mj_33_46).trans (z_aload_n rfl)
theorem mj_33_47 : mc_P 33 47 = some (.getfield 35, 3, 2, 4, 0) := by decide +kernel
theorem s_33_47 {x0 x1 x2 x3 : Option Value} {o : Nat} : mw d 33 Q 47 [x0, x1, x2, x3] (.ref o :: st) h = (mg h o 2 ∧ mw d 33 Q 50 [x0, x1, x2, x3] (.int (mh_i h o 4) :: st) h) := (mw_at mj_33_47).trans (z_geti (by decide) (by decide) (Or.inl rfl))
theorem mj_33_50 : mc_P 33 50 = some (.invokevirtual 143, 3, 81, 4, 2) := by decide +kernel
theorem s_33_50 {x0 x1 x2 x3 : Option Value} {o : Nat} {a1 : Value} : mw (d + 1) 33 Q 50 [x0, x1, x2, x3] (a1 :: .ref o :: st) h = (mg h o 4 ∧ mca st 8 ∧ mca [.ref o, a1] 2 ∧ mcall d 81 [.ref o, a1] h (mK (d + 1) 33 Q 53 [x0, x1, x2, x3] st)) := (mw_at mj_33_50).trans ((z_invv (As := [a1]) (by decide) rfl rfl).trans (congrArg (And _) (congrArg (And _) (mC_nl nl_81))))
theorem mj_33_53 : mc_P 33 53 = some (.istore_n 2, 1, 0, 0, 0) := by decide +kernel
theorem s_33_53 {x0 x1 x2 x3 : Option Value} {w : Int32} : mw d 33 Q 53 [x0, x1, x2, x3] (.int w :: st) h = mw d 33 Q 54 [x0, mk2 x1, some (.int w), x3] (st) h := (mw_at mj_33_53).trans (z_istore_n (Nat.le_of_ble_eq_true rfl) (me_s1_mk (j := 1) (w := x1) rfl))
theorem mj_33_54 : mc_P 33 54 = some (.aload_n 0, 1, 0, 0, 0) := by decide +kernel
theorem s_33_54 {x1 x2 x3 : Option Value} {w : Value} : mw d 33 Q 54 [some w, x1, x2, x3] (st) h = mv_a w (mw d 33 Q 55 [some w, x1, x2, x3] (w :: st) h) := (mw_at mj_33_54).trans (z_aload_n rfl)
theorem mj_33_55 : mc_P 33 55 = some (.getfield 21, 3, 2, 8, 0) := by decide +kernel
theorem s_33_55 {x0 x1 x2 x3 : Option Value} {o : Nat} : mw d 33 Q 55 [x0, x1, x2, x3] (.ref o :: st) h = (mg h o 2 ∧ mw d 33 Q 58 [x0, x1, x2, x3] (va_rf (mh_r h o 8) :: st) h) := (mw_at mj_33_55).trans (z_getr (by decide) (by decide) rfl)
theorem mj_33_58 : mc_P 33 58 = some (.iload_n 2, 1, 0, 0, 0) := by decide +kernel
theorem s_33_58 {x0 x1 x3 : Option Value} {w : Value} : mw d 33 Q 58 [x0, x1, some w, x3] (st) h = mv_i w (mw d 33 Q 59 [x0, x1, some w, x3] (w :: st) h) := (mw_at mj_33_58).trans (z_iload_n rfl)
theorem mj_33_59 : mc_P 33 59 = some (.aload_n 1, 1, 0, 0, 0) := by decide +kernel
theorem s_33_59 {x0 x2 x3 : Option Value} {w : Value} : mw d 33 Q 59 [x0, some w, x2, x3] (st) h = mv_a w (mw d 33 Q 60 [x0, some w, x2, x3] (w :: st) h) := (mw_at mj_33_59).trans (z_aload_n rfl)
theorem mj_33_60 : mc_P 33 60 = some (.getfield 140, 3, 9, 9, 0) := by decide +kernel
theorem s_33_60 {x0 x1 x2 x3 : Option Value} {o : Nat} : mw d 33 Q 60 [x0, x1, x2, x3] (.ref o :: st) h = (mg h o 9 ∧ mw d 33 Q 63 [x0, x1, x2, x3] (.int (mh_i h o 9) :: st) h) := (mw_at mj_33_60).trans (z_geti (by decide) (by decide) (Or.inl rfl))
theorem mj_33_63 : mc_P 33 63 = some (.iastore, 1, 0, 0, 0) := by decide +kernel
theorem s_33_63 {x0 x1 x2 x3 : Option Value} {o : Nat} {i w : Int32} : mw d 33 Q 63 [x0, x1, x2, x3] (.int w :: .int i :: .ref o :: st) h = (mg h o 100 ∧ mx i (mh_l h o) ∧ mw d 33 Q 64 [x0, x1, x2, x3] (st) (mh_si h o i.toNatClampNeg w)) := (mw_at mj_33_63).trans (z_iast)
theorem mj_33_64 : mc_P 33 64 = some (.iconst 0, 1, 0, 0, 0) := by decide +kernel
theorem s_33_64 {x0 x1 x2 x3 : Option Value} : mw d 33 Q 64 [x0, x1, x2, x3] (st) h = mw d 33 Q 65 [x0, x1, x2, x3] (.int 0 :: st) h := (mw_at mj_33_64).trans (z_iconst (by decide))
theorem mj_33_65 : mc_P 33 65 = some (.istore_n 3, 1, 0, 0, 0) := by decide +kernel
theorem s_33_65 {x0 x1 x2 x3 : Option Value} {w : Int32} : mw d 33 Q 65 [x0, x1, x2, x3] (.int w :: st) h = mw d 33 Q 66 [x0, x1, mk2 x2, some (.int w)] (st) h := (mw_at mj_33_65).trans (z_istore_n (Nat.le_of_ble_eq_true rfl) (me_s1_mk (j := 2) (w := x2) rfl))
theorem mj_33_66 : mc_P 33 66 = some (.iload_n 3, 1, 0, 0, 0) := by decide +kernel
theorem s_33_66 {x0 x1 x2 : Option Value} {w : Value} : mw d 33 Q 66 [x0, x1, x2, some w] (st) h = mv_i w (mw d 33 Q 67 [x0, x1, x2, some w] (w :: st) h) := (mw_at mj_33_66).trans (z_iload_n rfl)
theorem mj_33_67 : mc_P 33 67 = some (.aload_n 1, 1, 0, 0, 0) := by decide +kernel
theorem s_33_67 {x0 x2 x3 : Option Value} {w : Value} : mw d 33 Q 67 [x0, some w, x2, x3] (st) h = mv_a w (mw d 33 Q 68 [x0, some w, x2, x3] (w :: st) h) := (mw_at mj_33_67).trans (z_aload_n rfl)
theorem mj_33_68 : mc_P 33 68 = some (.getfield 140, 3, 9, 9, 0) := by decide +kernel
theorem s_33_68 {x0 x1 x2 x3 : Option Value} {o : Nat} : mw d 33 Q 68 [x0, x1, x2, x3] (.ref o :: st) h = (mg h o 9 ∧ mw d 33 Q 71 [x0, x1, x2, x3] (.int (mh_i h o 9) :: st) h) := (mw_at mj_33_68).trans (z_geti (by decide) (by decide) (Or.inl rfl))
theorem mj_33_71 : mc_P 33 71 = some (.if_icmp .ge 21, 3, 0, 0, 0) := by decide +kernel
theorem s_33_71 {x0 x1 x2 x3 : Option Value} {x w : Int32} : mw d 33 Q 71 [x0, x1, x2, x3] (.int w :: .int x :: st) h = mB (w ≤ x) (mw d 33 Q) 92 74 [x0, x1, x2, x3] st h := (mw_at mj_33_71).trans (z_icmp_ge (by decide) rfl)
theorem mj_33_74 : mc_P 33 74 = some (.aload_n 0, 1, 0, 0, 0) := by decide +kernel
theorem s_33_74 {x1 x2 x3 : Option Value} {w : Value} : mw d 33 Q 74 [some w, x1, x2, x3] (st) h = mv_a w (mw d 33 Q 75 [some w, x1, x2, x3] (w :: st) h) := (mw_at mj_33_74).trans (z_aload_n rfl)
theorem mj_33_75 : mc_P 33 75 = some (.getfield 18, 3, 2, 7, 0) := by decide +kernel
theorem s_33_75 {x0 x1 x2 x3 : Option Value} {o : Nat} : mw d 33 Q 75 [x0, x1, x2, x3] (.ref o :: st) h = (mg h o 2 ∧ mw d 33 Q 78 [x0, x1, x2, x3] (va_rf (mh_r h o 7) :: st) h) := (mw_at mj_33_75).trans (z_getr (by decide) (by decide) rfl)
theorem mj_33_78 : mc_P 33 78 = some (.iload_n 2, 1, 0, 0, 0) := by decide +kernel
theorem s_33_78 {x0 x1 x3 : Option Value} {w : Value} : mw d 33 Q 78 [x0, x1, some w, x3] (st) h = mv_i w (mw d 33 Q 79 [x0, x1, some w, x3] (w :: st) h) := (mw_at mj_33_78).trans (z_iload_n rfl)
theorem mj_33_79 : mc_P 33 79 = some (.bipush 64, 2, 0, 0, 0) := by decide +kernel
theorem s_33_79 {x0 x1 x2 x3 : Option Value} : mw d 33 Q 79 [x0, x1, x2, x3] (st) h = mw d 33 Q 81 [x0, x1, x2, x3] (.int 64 :: st) h := (mw_at mj_33_79).trans (z_bipush (by decide))
theorem mj_33_81 : mc_P 33 81 = some (.imul, 1, 0, 0, 0) := by decide +kernel
theorem s_33_81 {x0 x1 x2 x3 : Option Value} {x w : Int32} : mw d 33 Q 81 [x0, x1, x2, x3] (.int w :: .int x :: st) h = mw d 33 Q 82 [x0, x1, x2, x3] (.int (x * w) :: st) h := (mw_at mj_33_81).trans (z_imul)
theorem mj_33_82 : mc_P 33 82 = some (.iload_n 3, 1, 0, 0, 0) := by decide +kernel
theorem s_33_82 {x0 x1 x2 : Option Value} {w : Value} : mw d 33 Q 82 [x0, x1, x2, some w] (st) h = mv_i w (mw d 33 Q 83 [x0, x1, x2, some w] (w :: st) h) := (mw_at mj_33_82).trans (z_iload_n rfl)
theorem mj_33_83 : mc_P 33 83 = some (.iadd, 1, 0, 0, 0) := by decide +kernel
theorem s_33_83 {x0 x1 x2 x3 : Option Value} {x w : Int32} : mw d 33 Q 83 [x0, x1, x2, x3] (.int w :: .int x :: st) h = mw d 33 Q 84 [x0, x1, x2, x3] (.int (x + w) :: st) h := (mw_at mj_33_83).trans (z_iadd)
theorem mj_33_84 : mc_P 33 84 = some (.iconst 0, 1, 0, 0, 0) := by decide +kernel
theorem s_33_84 {x0 x1 x2 x3 : Option Value} : mw d 33 Q 84 [x0, x1, x2, x3] (st) h = mw d 33 Q 85 [x0, x1, x2, x3] (.int 0 :: st) h := (mw_at mj_33_84).trans (z_iconst (by decide))
theorem mj_33_85 : mc_P 33 85 = some (.iastore, 1, 0, 0, 0) := by decide +kernel
theorem s_33_85 {x0 x1 x2 x3 : Option Value} {o : Nat} {i w : Int32} : mw d 33 Q 85 [x0, x1, x2, x3] (.int w :: .int i :: .ref o :: st) h = (mg h o 100 ∧ mx i (mh_l h o) ∧ mw d 33 Q 86 [x0, x1, x2, x3] (st) (mh_si h o i.toNatClampNeg w)) := (mw_at mj_33_85).trans (z_iast)
theorem mj_33_86 : mc_P 33 86 = some (.iinc 3 1, 3, 0, 0, 0) := by decide +kernel
theorem s_33_86 {x0 x1 x2 : Option Value} {w : Int32} : mw d 33 Q 86 [x0, x1, x2, some (.int w)] (st) h = mw d 33 Q 89 [x0, x1, mk2 x2, some (.int (w + 1))] (st) h := (mw_at mj_33_86).trans (z_iinc rfl (Nat.le_of_ble_eq_true rfl) (by decide) (me_s1_mk (j := 2) (w := x2) rfl))
theorem mj_33_89 : mc_P 33 89 = some (.goto (-23), 3, 0, 0, 0) := by decide +kernel
theorem s_33_89 {x0 x1 x2 x3 : Option Value} : mw d 33 Q 89 [x0, x1, x2, x3] (st) h = mw d 33 Q 66 [x0, x1, x2, x3] (st) h := (mw_at mj_33_89).trans (z_goto (by decide))
theorem mj_33_92 : mc_P 33 92 = some (.return_, 1, 0, 0, 0) := by decide +kernel
theorem s_33_92 {x0 x1 x2 x3 : Option Value} : mw d 33 Q 92 [x0, x1, x2, x3] ([]) h = Q none h := (mw_at mj_33_92).trans (z_vret)
theorem e_33 {a0 : Nat} {a1 : Nat} : mcall d 33 [.ref a0, .ref a1] h Q = mw d 33 Q 0 [some (.ref a0), some (.ref a1), none, none] [] h := by
  show mw d 33 Q 0 (me_en (mc_nl 33) _) [] h = _
  rw [nl_33]; rfl

/-! InvariantDesk$Machine.store(LInvariantDesk$Statement;)V -/
theorem mj_34_0 : mc_P 34 0 = some (.aload_n 0, 1, 0, 0, 0) := by decide +kernel
theorem s_34_0 {x1 x2 x3 : Option Value} {w : Value} : mw d 34 Q 0 [some w, x1, x2, x3] (st) h = mv_a w (mw d 34 Q 1 [some w, x1, x2, x3] (w :: st) h) := (mw_at mj_34_0).trans (z_aload_n rfl)
theorem mj_34_1 : mc_P 34 1 = some (.aload_n 1, 1, 0, 0, 0) := by decide +kernel
theorem s_34_1 {x0 x2 x3 : Option Value} {w : Value} : mw d 34 Q 1 [x0, some w, x2, x3] (st) h = mv_a w (mw d 34 Q 2 [x0, some w, x2, x3] (w :: st) h) := (mw_at mj_34_1).trans (z_aload_n rfl)
theorem mj_34_2 : mc_P 34 2 = some (.getfield 106, 3, 9, 10, 0) := by decide +kernel
theorem s_34_2 {x0 x1 x2 x3 : Option Value} {o : Nat} : mw d 34 Q 2 [x0, x1, x2, x3] (.ref o :: st) h = (mg h o 9 ∧ mw d 34 Q 5 [x0, x1, x2, x3] (.int (mh_i h o 10) :: st) h) := (mw_at mj_34_2).trans (z_geti (by decide) (by decide) (Or.inl rfl))
theorem mj_34_5 : mc_P 34 5 = some (.invokevirtual 109, 3, 37, 2, 2) := by decide +kernel
theorem s_34_5 {x0 x1 x2 x3 : Option Value} {o : Nat} {a1 : Value} : mw (d + 1) 34 Q 5 [x0, x1, x2, x3] (a1 :: .ref o :: st) h = (mg h o 2 ∧ mca st 8 ∧ mca [.ref o, a1] 6 ∧ mcall d 37 [.ref o, a1] h (mK (d + 1) 34 Q 8 [x0, x1, x2, x3] st)) := (mw_at mj_34_5).trans ((z_invv (As := [a1]) (by decide) rfl rfl).trans (congrArg (And _) (congrArg (And _) (mC_nl nl_37))))
theorem mj_34_8 : mc_P 34 8 = some (.istore_n 2, 1, 0, 0, 0) := by decide +kernel
theorem s_34_8 {x0 x1 x2 x3 : Option Value} {w : Int32} : mw d 34 Q 8 [x0, x1, x2, x3] (.int w :: st) h = mw d 34 Q 9 [x0, mk2 x1, some (.int w), x3] (st) h := (mw_at mj_34_8).trans (z_istore_n (Nat.le_of_ble_eq_true rfl) (me_s1_mk (j := 1) (w := x1) rfl))
theorem mj_34_9 : mc_P 34 9 = some (.iload_n 2, 1, 0, 0, 0) := by decide +kernel
theorem s_34_9 {x0 x1 x3 : Option Value} {w : Value} : mw d 34 Q 9 [x0, x1, some w, x3] (st) h = mv_i w (mw d 34 Q 10 [x0, x1, some w, x3] (w :: st) h) := (mw_at mj_34_9).trans (z_iload_n rfl)
theorem mj_34_10 : mc_P 34 10 = some (.ifCond .lt 11, 3, 0, 0, 0) := by decide +kernel
theorem s_34_10 {x0 x1 x2 x3 : Option Value} {x : Int32} : mw d 34 Q 10 [x0, x1, x2, x3] (.int x :: st) h = mB (x < 0) (mw d 34 Q) 21 13 [x0, x1, x2, x3] st h := (mw_at mj_34_10).trans (z_if_lt (by decide) rfl)
theorem mj_34_13 : mc_P 34 13 = some (.iload_n 2, 1, 0, 0, 0) := by decide +kernel
theorem s_34_13 {x0 x1 x3 : Option Value} {w : Value} : mw d 34 Q 13 [x0, x1, some w, x3] (st) h = mv_i w (mw d 34 Q 14 [x0, x1, some w, x3] (w :: st) h) := (mw_at mj_34_13).trans (z_iload_n rfl)
theorem mj_34_14 : mc_P 34 14 = some (.aload_n 1, 1, 0, 0, 0) := by decide +kernel
theorem s_34_14 {x0 x2 x3 : Option Value} {w : Value} : mw d 34 Q 14 [x0, some w, x2, x3] (st) h = mv_a w (mw d 34 Q 15 [x0, some w, x2, x3] (w :: st) h) := (mw_at mj_34_14).trans (z_aload_n rfl)
theorem mj_34_15 : mc_P 34 15 = some (.getfield 140, 3, 9, 9, 0) := by decide +kernel
theorem s_34_15 {x0 x1 x2 x3 : Option Value} {o : Nat} : mw d 34 Q 15 [x0, x1, x2, x3] (.ref o :: st) h = (mg h o 9 ∧ mw d 34 Q 18 [x0, x1, x2, x3] (.int (mh_i h o 9) :: st) h) := (mw_at mj_34_15).trans (z_geti (by decide) (by decide) (Or.inl rfl))
theorem mj_34_18 : mc_P 34 18 = some (.if_icmp .lt 8, 3, 0, 0, 0) := by decide +kernel
theorem s_34_18 {x0 x1 x2 x3 : Option Value} {x w : Int32} : mw d 34 Q 18 [x0, x1, x2, x3] (.int w :: .int x :: st) h = mB (x < w) (mw d 34 Q) 26 21 [x0, x1, x2, x3] st h := (mw_at mj_34_18).trans (z_icmp_lt (by decide) rfl)
theorem mj_34_21 : mc_P 34 21 = some (.aload_n 0, 1, 0, 0, 0) := by decide +kernel
theorem s_34_21 {x1 x2 x3 : Option Value} {w : Value} : mw d 34 Q 21 [some w, x1, x2, x3] (st) h = mv_a w (mw d 34 Q 22 [some w, x1, x2, x3] (w :: st) h) := (mw_at mj_34_21).trans (z_aload_n rfl)
theorem mj_34_22 : mc_P 34 22 = some (.iconst 4, 1, 0, 0, 0) := by decide +kernel
theorem s_34_22 {x0 x1 x2 x3 : Option Value} : mw d 34 Q 22 [x0, x1, x2, x3] (st) h = mw d 34 Q 23 [x0, x1, x2, x3] (.int 4 :: st) h := (mw_at mj_34_22).trans (z_iconst (by decide))
theorem mj_34_23 : mc_P 34 23 = some (.invokevirtual 136, 3, 31, 2, 2) := by decide +kernel
theorem s_34_23 {x0 x1 x2 x3 : Option Value} {o : Nat} {a1 : Value} : mw (d + 1) 34 Q 23 [x0, x1, x2, x3] (a1 :: .ref o :: st) h = (mg h o 2 ∧ mca st 8 ∧ mca [.ref o, a1] 2 ∧ mcall d 31 [.ref o, a1] h (mK (d + 1) 34 Q 26 [x0, x1, x2, x3] st)) := (mw_at mj_34_23).trans ((z_invv (As := [a1]) (by decide) rfl rfl).trans (congrArg (And _) (congrArg (And _) (mC_nl nl_31))))
theorem mj_34_26 : mc_P 34 26 = some (.aload_n 0, 1, 0, 0, 0) := by decide +kernel
theorem s_34_26 {x1 x2 x3 : Option Value} {w : Value} : mw d 34 Q 26 [some w, x1, x2, x3] (st) h = mv_a w (mw d 34 Q 27 [some w, x1, x2, x3] (w :: st) h) := (mw_at mj_34_26).trans (z_aload_n rfl)
theorem mj_34_27 : mc_P 34 27 = some (.aload_n 1, 1, 0, 0, 0) := by decide +kernel
theorem s_34_27 {x0 x2 x3 : Option Value} {w : Value} : mw d 34 Q 27 [x0, some w, x2, x3] (st) h = mv_a w (mw d 34 Q 28 [x0, some w, x2, x3] (w :: st) h) := (mw_at mj_34_27).trans (z_aload_n rfl)
theorem mj_34_28 : mc_P 34 28 = some (.getfield 106, 3, 9, 10, 0) := by decide +kernel
theorem s_34_28 {x0 x1 x2 x3 : Option Value} {o : Nat} : mw d 34 Q 28 [x0, x1, x2, x3] (.ref o :: st) h = (mg h o 9 ∧ mw d 34 Q 31 [x0, x1, x2, x3] (.int (mh_i h o 10) :: st) h) := (mw_at mj_34_28).trans (z_geti (by decide) (by decide) (Or.inl rfl))
theorem mj_34_31 : mc_P 34 31 = some (.iconst 1, 1, 0, 0, 0) := by decide +kernel
theorem s_34_31 {x0 x1 x2 x3 : Option Value} : mw d 34 Q 31 [x0, x1, x2, x3] (st) h = mw d 34 Q 32 [x0, x1, x2, x3] (.int 1 :: st) h := (mw_at mj_34_31).trans (z_iconst (by decide))
theorem mj_34_32 : mc_P 34 32 = some (.iadd, 1, 0, 0, 0) := by decide +kernel
theorem s_34_32 {x0 x1 x2 x3 : Option Value} {x w : Int32} : mw d 34 Q 32 [x0, x1, x2, x3] (.int w :: .int x :: st) h = mw d 34 Q 33 [x0, x1, x2, x3] (.int (x + w) :: st) h := (mw_at mj_34_32).trans (z_iadd)
theorem mj_34_33 : mc_P 34 33 = some (.invokevirtual 109, 3, 37, 2, 2) := by decide +kernel
theorem s_34_33 {x0 x1 x2 x3 : Option Value} {o : Nat} {a1 : Value} : mw (d + 1) 34 Q 33 [x0, x1, x2, x3] (a1 :: .ref o :: st) h = (mg h o 2 ∧ mca st 8 ∧ mca [.ref o, a1] 6 ∧ mcall d 37 [.ref o, a1] h (mK (d + 1) 34 Q 36 [x0, x1, x2, x3] st)) := (mw_at mj_34_33).trans ((z_invv (As := [a1]) (by decide) rfl rfl).trans (congrArg (And _) (congrArg (And _) (mC_nl nl_37))))
theorem mj_34_36 : mc_P 34 36 = some (.istore_n 3, 1, 0, 0, 0) := by decide +kernel
theorem s_34_36 {x0 x1 x2 x3 : Option Value} {w : Int32} : mw d 34 Q 36 [x0, x1, x2, x3] (.int w :: st) h = mw d 34 Q 37 [x0, x1, mk2 x2, some (.int w)] (st) h := (mw_at mj_34_36).trans (z_istore_n (Nat.le_of_ble_eq_true rfl) (me_s1_mk (j := 2) (w := x2) rfl))
theorem mj_34_37 : mc_P 34 37 = some (.aload_n 0, 1, 0, 0, 0) := by decide +kernel
theorem s_34_37 {x1 x2 x3 : Option Value} {w : Value} : mw d 34 Q 37 [some w, x1, x2, x3] (st) h = mv_a w (mw d 34 Q 38 [some w, x1, x2, x3] (w :: st) h) := (mw_at mj_34_37).trans (z_aload_n rfl)
theorem mj_34_38 : mc_P 34 38 = some (.getfield 47, 3, 2, 10, 0) := by decide +kernel
theorem s_34_38 {x0 x1 x2 x3 : Option Value} {o : Nat} : mw d 34 Q 38 [x0, x1, x2, x3] (.ref o :: st) h = (mg h o 2 ∧ mw d 34 Q 41 [x0, x1, x2, x3] (.int (mh_i h o 10) :: st) h) := (mw_at mj_34_38).trans (z_geti (by decide) (by decide) (Or.inl rfl))
theorem mj_34_41 : mc_P 34 41 = some (.ifCond .ne 31, 3, 0, 0, 0) := by decide +kernel
theorem s_34_41 {x0 x1 x2 x3 : Option Value} {x : Int32} : mw d 34 Q 41 [x0, x1, x2, x3] (.int x :: st) h = mB (¬ x = 0) (mw d 34 Q) 72 44 [x0, x1, x2, x3] st h := (mw_at mj_34_41).trans (z_if_ne (by decide) rfl)
theorem mj_34_44 : mc_P 34 44 = some (.aload_n 0, 1, 0, 0, 0) := by decide +kernel
theorem s_34_44 {x1 x2 x3 : Option Value} {w : Value} : mw d 34 Q 44 [some w, x1, x2, x3] (st) h = mv_a w (mw d 34 Q 45 [some w, x1, x2, x3] (w :: st) h) := (mw_at mj_34_44).trans (z_aload_n rfl)
theorem mj_34_45 : mc_P 34 45 = some (.getfield 18, 3, 2, 7, 0) := by decide +kernel
theorem s_34_45 {x0 x1 x2 x3 : Option Value} {o : Nat} : mw d 34 Q 45 [x0, x1, x2, x3] (.ref o :: st) h = (mg h o 2 ∧ mw d 34 Q 48 [x0, x1, x2, x3] (va_rf (mh_r h o 7) :: st) h) := (mw_at mj_34_45).trans (z_getr (by decide) (by decide) rfl)
theorem mj_34_48 : mc_P 34 48 = some (.aload_n 0, 1, 0, 0, 0) := by decide +kernel
theorem s_34_48 {x1 x2 x3 : Option Value} {w : Value} : mw d 34 Q 48 [some w, x1, x2, x3] (st) h = mv_a w (mw d 34 Q 49 [some w, x1, x2, x3] (w :: st) h) := (mw_at mj_34_48).trans (z_aload_n rfl)
theorem mj_34_49 : mc_P 34 49 = some (.getfield 27, 3, 2, 0, 0) := by decide +kernel
theorem s_34_49 {x0 x1 x2 x3 : Option Value} {o : Nat} : mw d 34 Q 49 [x0, x1, x2, x3] (.ref o :: st) h = (mg h o 2 ∧ mw d 34 Q 52 [x0, x1, x2, x3] (va_rf (mh_r h o 0) :: st) h) := (mw_at mj_34_49).trans (z_getr (by decide) (by decide) rfl)
theorem mj_34_52 : mc_P 34 52 = some (.getfield 146, 3, 4, 5, 0) := by decide +kernel
theorem s_34_52 {x0 x1 x2 x3 : Option Value} {o : Nat} : mw d 34 Q 52 [x0, x1, x2, x3] (.ref o :: st) h = (mg h o 4 ∧ mw d 34 Q 55 [x0, x1, x2, x3] (va_rf (mh_r h o 5) :: st) h) := (mw_at mj_34_52).trans (z_getr (by decide) (by decide) rfl)
theorem mj_34_55 : mc_P 34 55 = some (.aload_n 0, 1, 0, 0, 0) := by decide +kernel
theorem s_34_55 {x1 x2 x3 : Option Value} {w : Value} : mw d 34 Q 55 [some w, x1, x2, x3] (st) h = mv_a w (mw d 34 Q 56 [some w, x1, x2, x3] (w :: st) h) := (mw_at mj_34_55).trans (z_aload_n rfl)
theorem mj_34_56 : mc_P 34 56 = some (.getfield 35, 3, 2, 4, 0) := by decide +kernel
theorem s_34_56 {x0 x1 x2 x3 : Option Value} {o : Nat} : mw d 34 Q 56 [x0, x1, x2, x3] (.ref o :: st) h = (mg h o 2 ∧ mw d 34 Q 59 [x0, x1, x2, x3] (.int (mh_i h o 4) :: st) h) := (mw_at mj_34_56).trans (z_geti (by decide) (by decide) (Or.inl rfl))
theorem mj_34_59 : mc_P 34 59 = some (.iaload, 1, 0, 0, 0) := by decide +kernel
theorem s_34_59 {x0 x1 x2 x3 : Option Value} {o : Nat} {i : Int32} : mw d 34 Q 59 [x0, x1, x2, x3] (.int i :: .ref o :: st) h = (mg h o 100 ∧ mx i (mh_l h o) ∧ mw d 34 Q 60 [x0, x1, x2, x3] (.int (mh_i h o i.toNatClampNeg) :: st) h) := (mw_at mj_34_59).trans (z_iald)
theorem mj_34_60 : mc_P 34 60 = some (.aload_n 1, 1, 0, 0, 0) := by decide +kernel
theorem s_34_60 {x0 x2 x3 : Option Value} {w : Value} : mw d 34 Q 60 [x0, some w, x2, x3] (st) h = mv_a w (mw d 34 Q 61 [x0, some w, x2, x3] (w :: st) h) := (mw_at mj_34_60).trans (z_aload_n rfl)
theorem mj_34_61 : mc_P 34 61 = some (.getfield 103, 3, 9, 8, 0) := by decide +kernel
theorem s_34_61 {x0 x1 x2 x3 : Option Value} {o : Nat} : mw d 34 Q 61 [x0, x1, x2, x3] (.ref o :: st) h = (mg h o 9 ∧ mw d 34 Q 64 [x0, x1, x2, x3] (.int (mh_i h o 8) :: st) h) := (mw_at mj_34_61).trans (z_geti (by decide) (by decide) (Or.inl rfl))
theorem mj_34_64 : mc_P 34 64 = some (.iadd, 1, 0, 0, 0) := by decide +kernel
theorem s_34_64 {x0 x1 x2 x3 : Option Value} {x w : Int32} : mw d 34 Q 64 [x0, x1, x2, x3] (.int w :: .int x :: st) h = mw d 34 Q 65 [x0, x1, x2, x3] (.int (x + w) :: st) h := (mw_at mj_34_64).trans (z_iadd)
theorem mj_34_65 : mc_P 34 65 = some (.bipush 64, 2, 0, 0, 0) := by decide +kernel
theorem s_34_65 {x0 x1 x2 x3 : Option Value} : mw d 34 Q 65 [x0, x1, x2, x3] (st) h = mw d 34 Q 67 [x0, x1, x2, x3] (.int 64 :: st) h := (mw_at mj_34_65).trans (z_bipush (by decide))
theorem mj_34_67 : mc_P 34 67 = some (.imul, 1, 0, 0, 0) := by decide +kernel
theorem s_34_67 {x0 x1 x2 x3 : Option Value} {x w : Int32} : mw d 34 Q 67 [x0, x1, x2, x3] (.int w :: .int x :: st) h = mw d 34 Q 68 [x0, x1, x2, x3] (.int (x * w) :: st) h := (mw_at mj_34_67).trans (z_imul)
theorem mj_34_68 : mc_P 34 68 = some (.iload_n 2, 1, 0, 0, 0) := by decide +kernel
theorem s_34_68 {x0 x1 x3 : Option Value} {w : Value} : mw d 34 Q 68 [x0, x1, some w, x3] (st) h = mv_i w (mw d 34 Q 69 [x0, x1, some w, x3] (w :: st) h) := (mw_at mj_34_68).trans (z_iload_n rfl)
theorem mj_34_69 : mc_P 34 69 = some (.iadd, 1, 0, 0, 0) := by decide +kernel
theorem s_34_69 {x0 x1 x2 x3 : Option Value} {x w : Int32} : mw d 34 Q 69 [x0, x1, x2, x3] (.int w :: .int x :: st) h = mw d 34 Q 70 [x0, x1, x2, x3] (.int (x + w) :: st) h := (mw_at mj_34_69).trans (z_iadd)
theorem mj_34_70 : mc_P 34 70 = some (.iload_n 3, 1, 0, 0, 0) := by decide +kernel
theorem s_34_70 {x0 x1 x2 : Option Value} {w : Value} : mw d 34 Q 70 [x0, x1, x2, some w] (st) h = mv_i w (mw d 34 Q 71 [x0, x1, x2, some w] (w :: st) h) := (mw_at mj_34_70).trans (z_iload_n rfl)
theorem mj_34_71 : mc_P 34 71 = some (.iastore, 1, 0, 0, 0) := by decide +kernel
theorem s_34_71 {x0 x1 x2 x3 : Option Value} {o : Nat} {i w : Int32} : mw d 34 Q 71 [x0, x1, x2, x3] (.int w :: .int i :: .ref o :: st) h = (mg h o 100 ∧ mx i (mh_l h o) ∧ mw d 34 Q 72 [x0, x1, x2, x3] (st) (mh_si h o i.toNatClampNeg w)) := (mw_at mj_34_71).trans (z_iast)
theorem mj_34_72 : mc_P 34 72 = some (.return_, 1, 0, 0, 0) := by decide +kernel
theorem s_34_72 {x0 x1 x2 x3 : Option Value} : mw d 34 Q 72 [x0, x1, x2, x3] ([]) h = Q none h := (mw_at mj_34_72).trans (z_vret)
theorem e_34 {a0 : Nat} {a1 : Nat} : mcall d 34 [.ref a0, .ref a1] h Q = mw d 34 Q 0 [some (.ref a0), some (.ref a1), none, none] [] h := by
  show mw d 34 Q 0 (me_en (mc_nl 34) _) [] h = _
  rw [nl_34]; rfl

/-! InvariantDesk$Machine.holds(LInvariantDesk$Statement;)Z -/
theorem mj_35_0 : mc_P 35 0 = some (.aload_n 0, 1, 0, 0, 0) := by decide +kernel
theorem s_35_0 {x1 x2 x3 x4 x5 x6 x7 : Option Value} {w : Value} : mw d 35 Q 0 [some w, x1, x2, x3, x4, x5, x6, x7] (st) h = mv_a w (mw d 35 Q 1 [some w, x1, x2, x3, x4, x5, x6, x7] (w :: st) h) := (mw_at mj_35_0).trans (z_aload_n rfl)
theorem mj_35_1 : mc_P 35 1 = some (.getfield 27, 3, 2, 0, 0) := by decide +kernel
theorem s_35_1 {x0 x1 x2 x3 x4 x5 x6 x7 : Option Value} {o : Nat} : mw d 35 Q 1 [x0, x1, x2, x3, x4, x5, x6, x7] (.ref o :: st) h = (mg h o 2 ∧ mw d 35 Q 4 [x0, x1, x2, x3, x4, x5, x6, x7] (va_rf (mh_r h o 0) :: st) h) := (mw_at mj_35_1).trans (z_getr (by decide) (by decide) rfl)
theorem mj_35_4 : mc_P 35 4 = some (.getfield 149, 3, 4, 1, 0) := by decide +kernel
theorem s_35_4 {x0 x1 x2 x3 x4 x5 x6 x7 : Option Value} {o : Nat} : mw d 35 Q 4 [x0, x1, x2, x3, x4, x5, x6, x7] (.ref o :: st) h = (mg h o 4 ∧ mw d 35 Q 7 [x0, x1, x2, x3, x4, x5, x6, x7] (va_rf (mh_r h o 1) :: st) h) := (mw_at mj_35_4).trans (z_getr (by decide) (by decide) rfl)
theorem mj_35_7 : mc_P 35 7 = some (.astore_n 2, 1, 0, 0, 0) := by decide +kernel
theorem s_35_7 {x0 x1 x2 x3 x4 x5 x6 x7 : Option Value} {w : Nat} : mw d 35 Q 7 [x0, x1, x2, x3, x4, x5, x6, x7] (.ref w :: st) h = mw d 35 Q 8 [x0, mk2 x1, some (.ref w), x3, x4, x5, x6, x7] (st) h := (mw_at mj_35_7).trans (z_astore_n (Nat.le_of_ble_eq_true rfl) (me_s1_mk (j := 1) (w := x1) rfl))
theorem s_35_7n {x0 x1 x2 x3 x4 x5 x6 x7 : Option Value} : mw d 35 Q 7 [x0, x1, x2, x3, x4, x5, x6, x7] (.null :: st) h = mw d 35 Q 8 [x0, mk2 x1, some (.null), x3, x4, x5, x6, x7] (st) h := (mw_at mj_35_7).trans (z_astoreN_n (Nat.le_of_ble_eq_true rfl) (me_s1_mk (j := 1) (w := x1) rfl))
theorem mj_35_8 : mc_P 35 8 = some (.iconst 0, 1, 0, 0, 0) := by decide +kernel
theorem s_35_8 {x0 x1 x2 x3 x4 x5 x6 x7 : Option Value} : mw d 35 Q 8 [x0, x1, x2, x3, x4, x5, x6, x7] (st) h = mw d 35 Q 9 [x0, x1, x2, x3, x4, x5, x6, x7] (.int 0 :: st) h := (mw_at mj_35_8).trans (z_iconst (by decide))
theorem mj_35_9 : mc_P 35 9 = some (.istore_n 3, 1, 0, 0, 0) := by decide +kernel
theorem s_35_9 {x0 x1 x2 x3 x4 x5 x6 x7 : Option Value} {w : Int32} : mw d 35 Q 9 [x0, x1, x2, x3, x4, x5, x6, x7] (.int w :: st) h = mw d 35 Q 10 [x0, x1, mk2 x2, some (.int w), x4, x5, x6, x7] (st) h := (mw_at mj_35_9).trans (z_istore_n (Nat.le_of_ble_eq_true rfl) (me_s1_mk (j := 2) (w := x2) rfl))
theorem mj_35_10 : mc_P 35 10 = some (.aload_n 1, 1, 0, 0, 0) := by decide +kernel
theorem s_35_10 {x0 x2 x3 x4 x5 x6 x7 : Option Value} {w : Value} : mw d 35 Q 10 [x0, some w, x2, x3, x4, x5, x6, x7] (st) h = mv_a w (mw d 35 Q 11 [x0, some w, x2, x3, x4, x5, x6, x7] (w :: st) h) := (mw_at mj_35_10).trans (z_aload_n rfl)
theorem mj_35_11 : mc_P 35 11 = some (.getfield 153, 3, 9, 12, 0) := by decide +kernel
theorem s_35_11 {x0 x1 x2 x3 x4 x5 x6 x7 : Option Value} {o : Nat} : mw d 35 Q 11 [x0, x1, x2, x3, x4, x5, x6, x7] (.ref o :: st) h = (mg h o 9 ∧ mw d 35 Q 14 [x0, x1, x2, x3, x4, x5, x6, x7] (.int (mh_i h o 12) :: st) h) := (mw_at mj_35_11).trans (z_geti (by decide) (by decide) (Or.inl rfl))
theorem mj_35_14 : mc_P 35 14 = some (.istore 4, 2, 0, 0, 0) := by decide +kernel
theorem s_35_14 {x0 x1 x2 x3 x4 x5 x6 x7 : Option Value} {w : Int32} : mw d 35 Q 14 [x0, x1, x2, x3, x4, x5, x6, x7] (.int w :: st) h = mw d 35 Q 16 [x0, x1, x2, mk2 x3, some (.int w), x5, x6, x7] (st) h := (mw_at mj_35_14).trans (z_istore (Nat.le_of_ble_eq_true rfl) (me_s1_mk (j := 3) (w := x3) rfl))
theorem mj_35_16 : mc_P 35 16 = some (.iload 4, 2, 0, 0, 0) := by decide +kernel
theorem s_35_16 {x0 x1 x2 x3 x5 x6 x7 : Option Value} {w : Value} : mw d 35 Q 16 [x0, x1, x2, x3, some w, x5, x6, x7] (st) h = mv_i w (mw d 35 Q 18 [x0, x1, x2, x3, some w, x5, x6, x7] (w :: st) h) := (mw_at mj_35_16).trans (z_iload rfl)
theorem mj_35_18 : mc_P 35 18 = some (.aload_n 1, 1, 0, 0, 0) := by decide +kernel
theorem s_35_18 {x0 x2 x3 x4 x5 x6 x7 : Option Value} {w : Value} : mw d 35 Q 18 [x0, some w, x2, x3, x4, x5, x6, x7] (st) h = mv_a w (mw d 35 Q 19 [x0, some w, x2, x3, x4, x5, x6, x7] (w :: st) h) := (mw_at mj_35_18).trans (z_aload_n rfl)
theorem mj_35_19 : mc_P 35 19 = some (.getfield 156, 3, 9, 13, 0) := by decide +kernel
theorem s_35_19 {x0 x1 x2 x3 x4 x5 x6 x7 : Option Value} {o : Nat} : mw d 35 Q 19 [x0, x1, x2, x3, x4, x5, x6, x7] (.ref o :: st) h = (mg h o 9 ∧ mw d 35 Q 22 [x0, x1, x2, x3, x4, x5, x6, x7] (.int (mh_i h o 13) :: st) h) := (mw_at mj_35_19).trans (z_geti (by decide) (by decide) (Or.inl rfl))
theorem mj_35_22 : mc_P 35 22 = some (.if_icmp .ge 151, 3, 0, 0, 0) := by decide +kernel
theorem s_35_22 {x0 x1 x2 x3 x4 x5 x6 x7 : Option Value} {x w : Int32} : mw d 35 Q 22 [x0, x1, x2, x3, x4, x5, x6, x7] (.int w :: .int x :: st) h = mB (w ≤ x) (mw d 35 Q) 173 25 [x0, x1, x2, x3, x4, x5, x6, x7] st h := (mw_at mj_35_22).trans (z_icmp_ge (by decide) rfl)
theorem mj_35_25 : mc_P 35 25 = some (.aload_n 0, 1, 0, 0, 0) := by decide +kernel
theorem s_35_25 {x1 x2 x3 x4 x5 x6 x7 : Option Value} {w : Value} : mw d 35 Q 25 [some w, x1, x2, x3, x4, x5, x6, x7] (st) h = mv_a w (mw d 35 Q 26 [some w, x1, x2, x3, x4, x5, x6, x7] (w :: st) h) := (mw_at mj_35_25).trans (z_aload_n rfl)
theorem mj_35_26 : mc_P 35 26 = some (.getfield 47, 3, 2, 10, 0) := by decide +kernel
theorem s_35_26 {x0 x1 x2 x3 x4 x5 x6 x7 : Option Value} {o : Nat} : mw d 35 Q 26 [x0, x1, x2, x3, x4, x5, x6, x7] (.ref o :: st) h = (mg h o 2 ∧ mw d 35 Q 29 [x0, x1, x2, x3, x4, x5, x6, x7] (.int (mh_i h o 10) :: st) h) := (mw_at mj_35_26).trans (z_geti (by decide) (by decide) (Or.inl rfl))
theorem mj_35_29 : mc_P 35 29 = some (.ifCond .ne 144, 3, 0, 0, 0) := by decide +kernel
theorem s_35_29 {x0 x1 x2 x3 x4 x5 x6 x7 : Option Value} {x : Int32} : mw d 35 Q 29 [x0, x1, x2, x3, x4, x5, x6, x7] (.int x :: st) h = mB (¬ x = 0) (mw d 35 Q) 173 32 [x0, x1, x2, x3, x4, x5, x6, x7] st h := (mw_at mj_35_29).trans (z_if_ne (by decide) rfl)
theorem mj_35_32 : mc_P 35 32 = some (.aload_n 2, 1, 0, 0, 0) := by decide +kernel
theorem s_35_32 {x0 x1 x3 x4 x5 x6 x7 : Option Value} {w : Value} : mw d 35 Q 32 [x0, x1, some w, x3, x4, x5, x6, x7] (st) h = mv_a w (mw d 35 Q 33 [x0, x1, some w, x3, x4, x5, x6, x7] (w :: st) h) := (mw_at mj_35_32).trans (z_aload_n rfl)
theorem mj_35_33 : mc_P 35 33 = some (.getfield 159, 3, 7, 9, 0) := by decide +kernel
theorem s_35_33 {x0 x1 x2 x3 x4 x5 x6 x7 : Option Value} {o : Nat} : mw d 35 Q 33 [x0, x1, x2, x3, x4, x5, x6, x7] (.ref o :: st) h = (mg h o 7 ∧ mw d 35 Q 36 [x0, x1, x2, x3, x4, x5, x6, x7] (va_rf (mh_r h o 9) :: st) h) := (mw_at mj_35_33).trans (z_getr (by decide) (by decide) rfl)
theorem mj_35_36 : mc_P 35 36 = some (.iload 4, 2, 0, 0, 0) := by decide +kernel
theorem s_35_36 {x0 x1 x2 x3 x5 x6 x7 : Option Value} {w : Value} : mw d 35 Q 36 [x0, x1, x2, x3, some w, x5, x6, x7] (st) h = mv_i w (mw d 35 Q 38 [x0, x1, x2, x3, some w, x5, x6, x7] (w :: st) h) := (mw_at mj_35_36).trans (z_iload rfl)
theorem mj_35_38 : mc_P 35 38 = some (.iaload, 1, 0, 0, 0) := by decide +kernel
theorem s_35_38 {x0 x1 x2 x3 x4 x5 x6 x7 : Option Value} {o : Nat} {i : Int32} : mw d 35 Q 38 [x0, x1, x2, x3, x4, x5, x6, x7] (.int i :: .ref o :: st) h = (mg h o 100 ∧ mx i (mh_l h o) ∧ mw d 35 Q 39 [x0, x1, x2, x3, x4, x5, x6, x7] (.int (mh_i h o i.toNatClampNeg) :: st) h) := (mw_at mj_35_38).trans (z_iald)
theorem mj_35_39 : mc_P 35 39 = some (.istore 5, 2, 0, 0, 0) := by decide +kernel
theorem s_35_39 {x0 x1 x2 x3 x4 x5 x6 x7 : Option Value} {w : Int32} : mw d 35 Q 39 [x0, x1, x2, x3, x4, x5, x6, x7] (.int w :: st) h = mw d 35 Q 41 [x0, x1, x2, x3, mk2 x4, some (.int w), x6, x7] (st) h := (mw_at mj_35_39).trans (z_istore (Nat.le_of_ble_eq_true rfl) (me_s1_mk (j := 4) (w := x4) rfl))
theorem mj_35_41 : mc_P 35 41 = some (.iload 5, 2, 0, 0, 0) := by decide +kernel
theorem s_35_41 {x0 x1 x2 x3 x4 x6 x7 : Option Value} {w : Value} : mw d 35 Q 41 [x0, x1, x2, x3, x4, some w, x6, x7] (st) h = mv_i w (mw d 35 Q 43 [x0, x1, x2, x3, x4, some w, x6, x7] (w :: st) h) := (mw_at mj_35_41).trans (z_iload rfl)
theorem mj_35_43 : mc_P 35 43 = some (.bipush 33, 2, 0, 0, 0) := by decide +kernel
theorem s_35_43 {x0 x1 x2 x3 x4 x5 x6 x7 : Option Value} : mw d 35 Q 43 [x0, x1, x2, x3, x4, x5, x6, x7] (st) h = mw d 35 Q 45 [x0, x1, x2, x3, x4, x5, x6, x7] (.int 33 :: st) h := (mw_at mj_35_43).trans (z_bipush (by decide))
theorem mj_35_45 : mc_P 35 45 = some (.if_icmp .ne 16, 3, 0, 0, 0) := by decide +kernel
theorem s_35_45 {x0 x1 x2 x3 x4 x5 x6 x7 : Option Value} {x w : Int32} : mw d 35 Q 45 [x0, x1, x2, x3, x4, x5, x6, x7] (.int w :: .int x :: st) h = mB (¬ x = w) (mw d 35 Q) 61 48 [x0, x1, x2, x3, x4, x5, x6, x7] st h := (mw_at mj_35_45).trans (z_icmp_ne (by decide) rfl)
theorem mj_35_48 : mc_P 35 48 = some (.iload_n 3, 1, 0, 0, 0) := by decide +kernel
theorem s_35_48 {x0 x1 x2 x4 x5 x6 x7 : Option Value} {w : Value} : mw d 35 Q 48 [x0, x1, x2, some w, x4, x5, x6, x7] (st) h = mv_i w (mw d 35 Q 49 [x0, x1, x2, some w, x4, x5, x6, x7] (w :: st) h) := (mw_at mj_35_48).trans (z_iload_n rfl)
theorem mj_35_49 : mc_P 35 49 = some (.ifCond .ne 7, 3, 0, 0, 0) := by decide +kernel
theorem s_35_49 {x0 x1 x2 x3 x4 x5 x6 x7 : Option Value} {x : Int32} : mw d 35 Q 49 [x0, x1, x2, x3, x4, x5, x6, x7] (.int x :: st) h = mB (¬ x = 0) (mw d 35 Q) 56 52 [x0, x1, x2, x3, x4, x5, x6, x7] st h := (mw_at mj_35_49).trans (z_if_ne (by decide) rfl)
theorem mj_35_52 : mc_P 35 52 = some (.iconst 1, 1, 0, 0, 0) := by decide +kernel
theorem s_35_52 {x0 x1 x2 x3 x4 x5 x6 x7 : Option Value} : mw d 35 Q 52 [x0, x1, x2, x3, x4, x5, x6, x7] (st) h = mw d 35 Q 53 [x0, x1, x2, x3, x4, x5, x6, x7] (.int 1 :: st) h := (mw_at mj_35_52).trans (z_iconst (by decide))
theorem mj_35_53 : mc_P 35 53 = some (.goto 4, 3, 0, 0, 0) := by decide +kernel
theorem s_35_53 {x0 x1 x2 x3 x4 x5 x6 x7 : Option Value} : mw d 35 Q 53 [x0, x1, x2, x3, x4, x5, x6, x7] (st) h = mw d 35 Q 57 [x0, x1, x2, x3, x4, x5, x6, x7] (st) h := (mw_at mj_35_53).trans (z_goto (by decide))
theorem mj_35_56 : mc_P 35 56 = some (.iconst 0, 1, 0, 0, 0) := by decide +kernel
theorem s_35_56 {x0 x1 x2 x3 x4 x5 x6 x7 : Option Value} : mw d 35 Q 56 [x0, x1, x2, x3, x4, x5, x6, x7] (st) h = mw d 35 Q 57 [x0, x1, x2, x3, x4, x5, x6, x7] (.int 0 :: st) h := (mw_at mj_35_56).trans (z_iconst (by decide))
theorem mj_35_57 : mc_P 35 57 = some (.istore_n 3, 1, 0, 0, 0) := by decide +kernel
theorem s_35_57 {x0 x1 x2 x3 x4 x5 x6 x7 : Option Value} {w : Int32} : mw d 35 Q 57 [x0, x1, x2, x3, x4, x5, x6, x7] (.int w :: st) h = mw d 35 Q 58 [x0, x1, mk2 x2, some (.int w), x4, x5, x6, x7] (st) h := (mw_at mj_35_57).trans (z_istore_n (Nat.le_of_ble_eq_true rfl) (me_s1_mk (j := 2) (w := x2) rfl))
theorem mj_35_58 : mc_P 35 58 = some (.goto 109, 3, 0, 0, 0) := by decide +kernel
theorem s_35_58 {x0 x1 x2 x3 x4 x5 x6 x7 : Option Value} : mw d 35 Q 58 [x0, x1, x2, x3, x4, x5, x6, x7] (st) h = mw d 35 Q 167 [x0, x1, x2, x3, x4, x5, x6, x7] (st) h := (mw_at mj_35_58).trans (z_goto (by decide))
theorem mj_35_61 : mc_P 35 61 = some (.iload 5, 2, 0, 0, 0) := by decide +kernel
theorem s_35_61 {x0 x1 x2 x3 x4 x6 x7 : Option Value} {w : Value} : mw d 35 Q 61 [x0, x1, x2, x3, x4, some w, x6, x7] (st) h = mv_i w (mw d 35 Q 63 [x0, x1, x2, x3, x4, some w, x6, x7] (w :: st) h) := (mw_at mj_35_61).trans (z_iload rfl)
theorem mj_35_63 : mc_P 35 63 = some (.sipush 132, 3, 0, 0, 0) := by decide +kernel
theorem s_35_63 {x0 x1 x2 x3 x4 x5 x6 x7 : Option Value} : mw d 35 Q 63 [x0, x1, x2, x3, x4, x5, x6, x7] (st) h = mw d 35 Q 66 [x0, x1, x2, x3, x4, x5, x6, x7] (.int 132 :: st) h := (mw_at mj_35_63).trans (z_sipush (by decide))
theorem mj_35_66 : mc_P 35 66 = some (.if_icmp .eq 11, 3, 0, 0, 0) := by decide +kernel
theorem s_35_66 {x0 x1 x2 x3 x4 x5 x6 x7 : Option Value} {x w : Int32} : mw d 35 Q 66 [x0, x1, x2, x3, x4, x5, x6, x7] (.int w :: .int x :: st) h = mB (x = w) (mw d 35 Q) 77 69 [x0, x1, x2, x3, x4, x5, x6, x7] st h := (mw_at mj_35_66).trans (z_icmp_eq (by decide) rfl)
theorem mj_35_69 : mc_P 35 69 = some (.iload 5, 2, 0, 0, 0) := by decide +kernel
theorem s_35_69 {x0 x1 x2 x3 x4 x6 x7 : Option Value} {w : Value} : mw d 35 Q 69 [x0, x1, x2, x3, x4, some w, x6, x7] (st) h = mv_i w (mw d 35 Q 71 [x0, x1, x2, x3, x4, some w, x6, x7] (w :: st) h) := (mw_at mj_35_69).trans (z_iload rfl)
theorem mj_35_71 : mc_P 35 71 = some (.sipush 133, 3, 0, 0, 0) := by decide +kernel
theorem s_35_71 {x0 x1 x2 x3 x4 x5 x6 x7 : Option Value} : mw d 35 Q 71 [x0, x1, x2, x3, x4, x5, x6, x7] (st) h = mw d 35 Q 74 [x0, x1, x2, x3, x4, x5, x6, x7] (.int 133 :: st) h := (mw_at mj_35_71).trans (z_sipush (by decide))
theorem mj_35_74 : mc_P 35 74 = some (.if_icmp .ne 39, 3, 0, 0, 0) := by decide +kernel
theorem s_35_74 {x0 x1 x2 x3 x4 x5 x6 x7 : Option Value} {x w : Int32} : mw d 35 Q 74 [x0, x1, x2, x3, x4, x5, x6, x7] (.int w :: .int x :: st) h = mB (¬ x = w) (mw d 35 Q) 113 77 [x0, x1, x2, x3, x4, x5, x6, x7] st h := (mw_at mj_35_74).trans (z_icmp_ne (by decide) rfl)
theorem mj_35_77 : mc_P 35 77 = some (.iload_n 3, 1, 0, 0, 0) := by decide +kernel
theorem s_35_77 {x0 x1 x2 x4 x5 x6 x7 : Option Value} {w : Value} : mw d 35 Q 77 [x0, x1, x2, some w, x4, x5, x6, x7] (st) h = mv_i w (mw d 35 Q 78 [x0, x1, x2, some w, x4, x5, x6, x7] (w :: st) h) := (mw_at mj_35_77).trans (z_iload_n rfl)
theorem mj_35_78 : mc_P 35 78 = some (.iload 5, 2, 0, 0, 0) := by decide +kernel
theorem s_35_78 {x0 x1 x2 x3 x4 x6 x7 : Option Value} {w : Value} : mw d 35 Q 78 [x0, x1, x2, x3, x4, some w, x6, x7] (st) h = mv_i w (mw d 35 Q 80 [x0, x1, x2, x3, x4, some w, x6, x7] (w :: st) h) := (mw_at mj_35_78).trans (z_iload rfl)
theorem mj_35_80 : mc_P 35 80 = some (.sipush 133, 3, 0, 0, 0) := by decide +kernel
theorem s_35_80 {x0 x1 x2 x3 x4 x5 x6 x7 : Option Value} : mw d 35 Q 80 [x0, x1, x2, x3, x4, x5, x6, x7] (st) h = mw d 35 Q 83 [x0, x1, x2, x3, x4, x5, x6, x7] (.int 133 :: st) h := (mw_at mj_35_80).trans (z_sipush (by decide))
theorem mj_35_83 : mc_P 35 83 = some (.if_icmp .ne 7, 3, 0, 0, 0) := by decide +kernel
theorem s_35_83 {x0 x1 x2 x3 x4 x5 x6 x7 : Option Value} {x w : Int32} : mw d 35 Q 83 [x0, x1, x2, x3, x4, x5, x6, x7] (.int w :: .int x :: st) h = mB (¬ x = w) (mw d 35 Q) 90 86 [x0, x1, x2, x3, x4, x5, x6, x7] st h := (mw_at mj_35_83).trans (z_icmp_ne (by decide) rfl)
theorem mj_35_86 : mc_P 35 86 = some (.iconst 1, 1, 0, 0, 0) := by decide +kernel
theorem s_35_86 {x0 x1 x2 x3 x4 x5 x6 x7 : Option Value} : mw d 35 Q 86 [x0, x1, x2, x3, x4, x5, x6, x7] (st) h = mw d 35 Q 87 [x0, x1, x2, x3, x4, x5, x6, x7] (.int 1 :: st) h := (mw_at mj_35_86).trans (z_iconst (by decide))
theorem mj_35_87 : mc_P 35 87 = some (.goto 4, 3, 0, 0, 0) := by decide +kernel
theorem s_35_87 {x0 x1 x2 x3 x4 x5 x6 x7 : Option Value} : mw d 35 Q 87 [x0, x1, x2, x3, x4, x5, x6, x7] (st) h = mw d 35 Q 91 [x0, x1, x2, x3, x4, x5, x6, x7] (st) h := (mw_at mj_35_87).trans (z_goto (by decide))
theorem mj_35_90 : mc_P 35 90 = some (.iconst 0, 1, 0, 0, 0) := by decide +kernel
theorem s_35_90 {x0 x1 x2 x3 x4 x5 x6 x7 : Option Value} : mw d 35 Q 90 [x0, x1, x2, x3, x4, x5, x6, x7] (st) h = mw d 35 Q 91 [x0, x1, x2, x3, x4, x5, x6, x7] (.int 0 :: st) h := (mw_at mj_35_90).trans (z_iconst (by decide))
theorem mj_35_91 : mc_P 35 91 = some (.if_icmp .ne 76, 3, 0, 0, 0) := by decide +kernel
theorem s_35_91 {x0 x1 x2 x3 x4 x5 x6 x7 : Option Value} {x w : Int32} : mw d 35 Q 91 [x0, x1, x2, x3, x4, x5, x6, x7] (.int w :: .int x :: st) h = mB (¬ x = w) (mw d 35 Q) 167 94 [x0, x1, x2, x3, x4, x5, x6, x7] st h := (mw_at mj_35_91).trans (z_icmp_ne (by decide) rfl)
theorem mj_35_94 : mc_P 35 94 = some (.iload 4, 2, 0, 0, 0) := by decide +kernel
theorem s_35_94 {x0 x1 x2 x3 x5 x6 x7 : Option Value} {w : Value} : mw d 35 Q 94 [x0, x1, x2, x3, some w, x5, x6, x7] (st) h = mv_i w (mw d 35 Q 96 [x0, x1, x2, x3, some w, x5, x6, x7] (w :: st) h) := (mw_at mj_35_94).trans (z_iload rfl)
theorem mj_35_96 : mc_P 35 96 = some (.aload_n 2, 1, 0, 0, 0) := by decide +kernel
theorem s_35_96 {x0 x1 x3 x4 x5 x6 x7 : Option Value} {w : Value} : mw d 35 Q 96 [x0, x1, some w, x3, x4, x5, x6, x7] (st) h = mv_a w (mw d 35 Q 97 [x0, x1, some w, x3, x4, x5, x6, x7] (w :: st) h) := (mw_at mj_35_96).trans (z_aload_n rfl)
theorem mj_35_97 : mc_P 35 97 = some (.getfield 166, 3, 7, 10, 0) := by decide +kernel
theorem s_35_97 {x0 x1 x2 x3 x4 x5 x6 x7 : Option Value} {o : Nat} : mw d 35 Q 97 [x0, x1, x2, x3, x4, x5, x6, x7] (.ref o :: st) h = (mg h o 7 ∧ mw d 35 Q 100 [x0, x1, x2, x3, x4, x5, x6, x7] (va_rf (mh_r h o 10) :: st) h) := (mw_at mj_35_97).trans (z_getr (by decide) (by decide) rfl)
theorem mj_35_100 : mc_P 35 100 = some (.iload 4, 2, 0, 0, 0) := by decide +kernel
theorem s_35_100 {x0 x1 x2 x3 x5 x6 x7 : Option Value} {w : Value} : mw d 35 Q 100 [x0, x1, x2, x3, some w, x5, x6, x7] (st) h = mv_i w (mw d 35 Q 102 [x0, x1, x2, x3, some w, x5, x6, x7] (w :: st) h) := (mw_at mj_35_100).trans (z_iload rfl)
theorem mj_35_102 : mc_P 35 102 = some (.iaload, 1, 0, 0, 0) := by decide +kernel
theorem s_35_102 {x0 x1 x2 x3 x4 x5 x6 x7 : Option Value} {o : Nat} {i : Int32} : mw d 35 Q 102 [x0, x1, x2, x3, x4, x5, x6, x7] (.int i :: .ref o :: st) h = (mg h o 100 ∧ mx i (mh_l h o) ∧ mw d 35 Q 103 [x0, x1, x2, x3, x4, x5, x6, x7] (.int (mh_i h o i.toNatClampNeg) :: st) h) := (mw_at mj_35_102).trans (z_iald)
theorem mj_35_103 : mc_P 35 103 = some (.iconst 1, 1, 0, 0, 0) := by decide +kernel
theorem s_35_103 {x0 x1 x2 x3 x4 x5 x6 x7 : Option Value} : mw d 35 Q 103 [x0, x1, x2, x3, x4, x5, x6, x7] (st) h = mw d 35 Q 104 [x0, x1, x2, x3, x4, x5, x6, x7] (.int 1 :: st) h := (mw_at mj_35_103).trans (z_iconst (by decide))
theorem mj_35_104 : mc_P 35 104 = some (.isub, 1, 0, 0, 0) := by decide +kernel
theorem s_35_104 {x0 x1 x2 x3 x4 x5 x6 x7 : Option Value} {x w : Int32} : mw d 35 Q 104 [x0, x1, x2, x3, x4, x5, x6, x7] (.int w :: .int x :: st) h = mw d 35 Q 105 [x0, x1, x2, x3, x4, x5, x6, x7] (.int (x - w) :: st) h := (mw_at mj_35_104).trans (z_isub)
theorem mj_35_105 : mc_P 35 105 = some (.invokestatic 169, 3, 0, 21, 0) := by decide +kernel
theorem s_35_105 {x0 x1 x2 x3 x4 x5 x6 x7 : Option Value} {x w : Int32} : mw d 35 Q 105 [x0, x1, x2, x3, x4, x5, x6, x7] (.int w :: .int x :: st) h = (mca st 8 ∧ mw d 35 Q 108 [x0, x1, x2, x3, x4, x5, x6, x7] (.int (if x < w then w else x) :: st) h) := (mw_at mj_35_105).trans (z_max)
theorem mj_35_108 : mc_P 35 108 = some (.istore 4, 2, 0, 0, 0) := by decide +kernel
theorem s_35_108 {x0 x1 x2 x3 x4 x5 x6 x7 : Option Value} {w : Int32} : mw d 35 Q 108 [x0, x1, x2, x3, x4, x5, x6, x7] (.int w :: st) h = mw d 35 Q 110 [x0, x1, x2, mk2 x3, some (.int w), x5, x6, x7] (st) h := (mw_at mj_35_108).trans (z_istore (Nat.le_of_ble_eq_true rfl) (me_s1_mk (j := 3) (w := x3) rfl))
theorem mj_35_110 : mc_P 35 110 = some (.goto 57, 3, 0, 0, 0) := by decide +kernel
theorem s_35_110 {x0 x1 x2 x3 x4 x5 x6 x7 : Option Value} : mw d 35 Q 110 [x0, x1, x2, x3, x4, x5, x6, x7] (st) h = mw d 35 Q 167 [x0, x1, x2, x3, x4, x5, x6, x7] (st) h := (mw_at mj_35_110).trans (z_goto (by decide))
theorem mj_35_113 : mc_P 35 113 = some (.iload 5, 2, 0, 0, 0) := by decide +kernel
theorem s_35_113 {x0 x1 x2 x3 x4 x6 x7 : Option Value} {w : Value} : mw d 35 Q 113 [x0, x1, x2, x3, x4, some w, x6, x7] (st) h = mv_i w (mw d 35 Q 115 [x0, x1, x2, x3, x4, some w, x6, x7] (w :: st) h) := (mw_at mj_35_113).trans (z_iload rfl)
theorem mj_35_115 : mc_P 35 115 = some (.sipush 134, 3, 0, 0, 0) := by decide +kernel
theorem s_35_115 {x0 x1 x2 x3 x4 x5 x6 x7 : Option Value} : mw d 35 Q 115 [x0, x1, x2, x3, x4, x5, x6, x7] (st) h = mw d 35 Q 118 [x0, x1, x2, x3, x4, x5, x6, x7] (.int 134 :: st) h := (mw_at mj_35_115).trans (z_sipush (by decide))
theorem mj_35_118 : mc_P 35 118 = some (.if_icmp .eq 49, 3, 0, 0, 0) := by decide +kernel
theorem s_35_118 {x0 x1 x2 x3 x4 x5 x6 x7 : Option Value} {x w : Int32} : mw d 35 Q 118 [x0, x1, x2, x3, x4, x5, x6, x7] (.int w :: .int x :: st) h = mB (x = w) (mw d 35 Q) 167 121 [x0, x1, x2, x3, x4, x5, x6, x7] st h := (mw_at mj_35_118).trans (z_icmp_eq (by decide) rfl)
theorem mj_35_121 : mc_P 35 121 = some (.iload 5, 2, 0, 0, 0) := by decide +kernel
theorem s_35_121 {x0 x1 x2 x3 x4 x6 x7 : Option Value} {w : Value} : mw d 35 Q 121 [x0, x1, x2, x3, x4, some w, x6, x7] (st) h = mv_i w (mw d 35 Q 123 [x0, x1, x2, x3, x4, some w, x6, x7] (w :: st) h) := (mw_at mj_35_121).trans (z_iload rfl)
theorem mj_35_123 : mc_P 35 123 = some (.sipush 135, 3, 0, 0, 0) := by decide +kernel
theorem s_35_123 {x0 x1 x2 x3 x4 x5 x6 x7 : Option Value} : mw d 35 Q 123 [x0, x1, x2, x3, x4, x5, x6, x7] (st) h = mw d 35 Q 126 [x0, x1, x2, x3, x4, x5, x6, x7] (.int 135 :: st) h := (mw_at mj_35_123).trans (z_sipush (by decide))
theorem mj_35_126 : mc_P 35 126 = some (.if_icmp .eq 41, 3, 0, 0, 0) := by decide +kernel
theorem s_35_126 {x0 x1 x2 x3 x4 x5 x6 x7 : Option Value} {x w : Int32} : mw d 35 Q 126 [x0, x1, x2, x3, x4, x5, x6, x7] (.int w :: .int x :: st) h = mB (x = w) (mw d 35 Q) 167 129 [x0, x1, x2, x3, x4, x5, x6, x7] st h := (mw_at mj_35_126).trans (z_icmp_eq (by decide) rfl)
theorem mj_35_129 : mc_P 35 129 = some (.aload_n 0, 1, 0, 0, 0) := by decide +kernel
theorem s_35_129 {x1 x2 x3 x4 x5 x6 x7 : Option Value} {w : Value} : mw d 35 Q 129 [some w, x1, x2, x3, x4, x5, x6, x7] (st) h = mv_a w (mw d 35 Q 130 [some w, x1, x2, x3, x4, x5, x6, x7] (w :: st) h) := (mw_at mj_35_129).trans (z_aload_n rfl)
theorem mj_35_130 : mc_P 35 130 = some (.aload_n 2, 1, 0, 0, 0) := by decide +kernel
theorem s_35_130 {x0 x1 x3 x4 x5 x6 x7 : Option Value} {w : Value} : mw d 35 Q 130 [x0, x1, some w, x3, x4, x5, x6, x7] (st) h = mv_a w (mw d 35 Q 131 [x0, x1, some w, x3, x4, x5, x6, x7] (w :: st) h) := (mw_at mj_35_130).trans (z_aload_n rfl)
theorem mj_35_131 : mc_P 35 131 = some (.getfield 166, 3, 7, 10, 0) := by decide +kernel
theorem s_35_131 {x0 x1 x2 x3 x4 x5 x6 x7 : Option Value} {o : Nat} : mw d 35 Q 131 [x0, x1, x2, x3, x4, x5, x6, x7] (.ref o :: st) h = (mg h o 7 ∧ mw d 35 Q 134 [x0, x1, x2, x3, x4, x5, x6, x7] (va_rf (mh_r h o 10) :: st) h) := (mw_at mj_35_131).trans (z_getr (by decide) (by decide) rfl)
theorem mj_35_134 : mc_P 35 134 = some (.iload 4, 2, 0, 0, 0) := by decide +kernel
theorem s_35_134 {x0 x1 x2 x3 x5 x6 x7 : Option Value} {w : Value} : mw d 35 Q 134 [x0, x1, x2, x3, some w, x5, x6, x7] (st) h = mv_i w (mw d 35 Q 136 [x0, x1, x2, x3, some w, x5, x6, x7] (w :: st) h) := (mw_at mj_35_134).trans (z_iload rfl)
theorem mj_35_136 : mc_P 35 136 = some (.iaload, 1, 0, 0, 0) := by decide +kernel
theorem s_35_136 {x0 x1 x2 x3 x4 x5 x6 x7 : Option Value} {o : Nat} {i : Int32} : mw d 35 Q 136 [x0, x1, x2, x3, x4, x5, x6, x7] (.int i :: .ref o :: st) h = (mg h o 100 ∧ mx i (mh_l h o) ∧ mw d 35 Q 137 [x0, x1, x2, x3, x4, x5, x6, x7] (.int (mh_i h o i.toNatClampNeg) :: st) h) := (mw_at mj_35_136).trans (z_iald)
theorem mj_35_137 : mc_P 35 137 = some (.invokevirtual 109, 3, 37, 2, 2) := by decide +kernel
theorem s_35_137 {x0 x1 x2 x3 x4 x5 x6 x7 : Option Value} {o : Nat} {a1 : Value} : mw (d + 1) 35 Q 137 [x0, x1, x2, x3, x4, x5, x6, x7] (a1 :: .ref o :: st) h = (mg h o 2 ∧ mca st 8 ∧ mca [.ref o, a1] 6 ∧ mcall d 37 [.ref o, a1] h (mK (d + 1) 35 Q 140 [x0, x1, x2, x3, x4, x5, x6, x7] st)) := (mw_at mj_35_137).trans ((z_invv (As := [a1]) (by decide) rfl rfl).trans (congrArg (And _) (congrArg (And _) (mC_nl nl_37))))
theorem mj_35_140 : mc_P 35 140 = some (.istore 6, 2, 0, 0, 0) := by decide +kernel
theorem s_35_140 {x0 x1 x2 x3 x4 x5 x6 x7 : Option Value} {w : Int32} : mw d 35 Q 140 [x0, x1, x2, x3, x4, x5, x6, x7] (.int w :: st) h = mw d 35 Q 142 [x0, x1, x2, x3, x4, mk2 x5, some (.int w), x7] (st) h := (mw_at mj_35_140).trans (z_istore (Nat.le_of_ble_eq_true rfl) (me_s1_mk (j := 5) (w := x5) rfl))
theorem mj_35_142 : mc_P 35 142 = some (.aload_n 0, 1, 0, 0, 0) := by decide +kernel
theorem s_35_142 {x1 x2 x3 x4 x5 x6 x7 : Option Value} {w : Value} : mw d 35 Q 142 [some w, x1, x2, x3, x4, x5, x6, x7] (st) h = mv_a w (mw d 35 Q 143 [some w, x1, x2, x3, x4, x5, x6, x7] (w :: st) h) := (mw_at mj_35_142).trans (z_aload_n rfl)
theorem mj_35_143 : mc_P 35 143 = some (.aload_n 2, 1, 0, 0, 0) := by decide +kernel
theorem s_35_143 {x0 x1 x3 x4 x5 x6 x7 : Option Value} {w : Value} : mw d 35 Q 143 [x0, x1, some w, x3, x4, x5, x6, x7] (st) h = mv_a w (mw d 35 Q 144 [x0, x1, some w, x3, x4, x5, x6, x7] (w :: st) h) := (mw_at mj_35_143).trans (z_aload_n rfl)
theorem mj_35_144 : mc_P 35 144 = some (.getfield 166, 3, 7, 10, 0) := by decide +kernel
theorem s_35_144 {x0 x1 x2 x3 x4 x5 x6 x7 : Option Value} {o : Nat} : mw d 35 Q 144 [x0, x1, x2, x3, x4, x5, x6, x7] (.ref o :: st) h = (mg h o 7 ∧ mw d 35 Q 147 [x0, x1, x2, x3, x4, x5, x6, x7] (va_rf (mh_r h o 10) :: st) h) := (mw_at mj_35_144).trans (z_getr (by decide) (by decide) rfl)
theorem mj_35_147 : mc_P 35 147 = some (.iload 4, 2, 0, 0, 0) := by decide +kernel
theorem s_35_147 {x0 x1 x2 x3 x5 x6 x7 : Option Value} {w : Value} : mw d 35 Q 147 [x0, x1, x2, x3, some w, x5, x6, x7] (st) h = mv_i w (mw d 35 Q 149 [x0, x1, x2, x3, some w, x5, x6, x7] (w :: st) h) := (mw_at mj_35_147).trans (z_iload rfl)
theorem mj_35_149 : mc_P 35 149 = some (.iaload, 1, 0, 0, 0) := by decide +kernel
theorem s_35_149 {x0 x1 x2 x3 x4 x5 x6 x7 : Option Value} {o : Nat} {i : Int32} : mw d 35 Q 149 [x0, x1, x2, x3, x4, x5, x6, x7] (.int i :: .ref o :: st) h = (mg h o 100 ∧ mx i (mh_l h o) ∧ mw d 35 Q 150 [x0, x1, x2, x3, x4, x5, x6, x7] (.int (mh_i h o i.toNatClampNeg) :: st) h) := (mw_at mj_35_149).trans (z_iald)
theorem mj_35_150 : mc_P 35 150 = some (.iconst 1, 1, 0, 0, 0) := by decide +kernel
theorem s_35_150 {x0 x1 x2 x3 x4 x5 x6 x7 : Option Value} : mw d 35 Q 150 [x0, x1, x2, x3, x4, x5, x6, x7] (st) h = mw d 35 Q 151 [x0, x1, x2, x3, x4, x5, x6, x7] (.int 1 :: st) h := (mw_at mj_35_150).trans (z_iconst (by decide))
theorem mj_35_151 : mc_P 35 151 = some (.iadd, 1, 0, 0, 0) := by decide +kernel
theorem s_35_151 {x0 x1 x2 x3 x4 x5 x6 x7 : Option Value} {x w : Int32} : mw d 35 Q 151 [x0, x1, x2, x3, x4, x5, x6, x7] (.int w :: .int x :: st) h = mw d 35 Q 152 [x0, x1, x2, x3, x4, x5, x6, x7] (.int (x + w) :: st) h := (mw_at mj_35_151).trans (z_iadd)
theorem mj_35_152 : mc_P 35 152 = some (.invokevirtual 109, 3, 37, 2, 2) := by decide +kernel
theorem s_35_152 {x0 x1 x2 x3 x4 x5 x6 x7 : Option Value} {o : Nat} {a1 : Value} : mw (d + 1) 35 Q 152 [x0, x1, x2, x3, x4, x5, x6, x7] (a1 :: .ref o :: st) h = (mg h o 2 ∧ mca st 8 ∧ mca [.ref o, a1] 6 ∧ mcall d 37 [.ref o, a1] h (mK (d + 1) 35 Q 155 [x0, x1, x2, x3, x4, x5, x6, x7] st)) := (mw_at mj_35_152).trans ((z_invv (As := [a1]) (by decide) rfl rfl).trans (congrArg (And _) (congrArg (And _) (mC_nl nl_37))))
theorem mj_35_155 : mc_P 35 155 = some (.istore 7, 2, 0, 0, 0) := by decide +kernel
theorem s_35_155 {x0 x1 x2 x3 x4 x5 x6 x7 : Option Value} {w : Int32} : mw d 35 Q 155 [x0, x1, x2, x3, x4, x5, x6, x7] (.int w :: st) h = mw d 35 Q 157 [x0, x1, x2, x3, x4, x5, mk2 x6, some (.int w)] (st) h := (mw_at mj_35_155).trans (z_istore (Nat.le_of_ble_eq_true rfl) (me_s1_mk (j := 6) (w := x6) rfl))
theorem mj_35_157 : mc_P 35 157 = some (.iload 5, 2, 0, 0, 0) := by decide +kernel
theorem s_35_157 {x0 x1 x2 x3 x4 x6 x7 : Option Value} {w : Value} : mw d 35 Q 157 [x0, x1, x2, x3, x4, some w, x6, x7] (st) h = mv_i w (mw d 35 Q 159 [x0, x1, x2, x3, x4, some w, x6, x7] (w :: st) h) := (mw_at mj_35_157).trans (z_iload rfl)
theorem mj_35_159 : mc_P 35 159 = some (.iload 6, 2, 0, 0, 0) := by decide +kernel
theorem s_35_159 {x0 x1 x2 x3 x4 x5 x7 : Option Value} {w : Value} : mw d 35 Q 159 [x0, x1, x2, x3, x4, x5, some w, x7] (st) h = mv_i w (mw d 35 Q 161 [x0, x1, x2, x3, x4, x5, some w, x7] (w :: st) h) := (mw_at mj_35_159).trans (z_iload rfl)
theorem mj_35_161 : mc_P 35 161 = some (.iload 7, 2, 0, 0, 0) := by decide +kernel
theorem s_35_161 {x0 x1 x2 x3 x4 x5 x6 : Option Value} {w : Value} : mw d 35 Q 161 [x0, x1, x2, x3, x4, x5, x6, some w] (st) h = mv_i w (mw d 35 Q 163 [x0, x1, x2, x3, x4, x5, x6, some w] (w :: st) h) := (mw_at mj_35_161).trans (z_iload rfl)
theorem mj_35_163 : mc_P 35 163 = some (.invokestatic 175, 3, 36, 0, 3) := by decide +kernel
theorem s_35_163 {x0 x1 x2 x3 x4 x5 x6 x7 : Option Value} {a0 a1 a2 : Value} : mw (d + 1) 35 Q 163 [x0, x1, x2, x3, x4, x5, x6, x7] (a2 :: a1 :: a0 :: st) h = (mca st 8 ∧ mca [a0, a1, a2] 3 ∧ mcall d 36 [a0, a1, a2] h (mK (d + 1) 35 Q 166 [x0, x1, x2, x3, x4, x5, x6, x7] st)) := (mw_at mj_35_163).trans ((z_invs (As := [a0, a1, a2]) rfl rfl).trans (congrArg (And _) (mC_nl nl_36)))
theorem mj_35_166 : mc_P 35 166 = some (.istore_n 3, 1, 0, 0, 0) := by decide +kernel
theorem s_35_166 {x0 x1 x2 x3 x4 x5 x6 x7 : Option Value} {w : Int32} : mw d 35 Q 166 [x0, x1, x2, x3, x4, x5, x6, x7] (.int w :: st) h = mw d 35 Q 167 [x0, x1, mk2 x2, some (.int w), x4, x5, x6, x7] (st) h := (mw_at mj_35_166).trans (z_istore_n (Nat.le_of_ble_eq_true rfl) (me_s1_mk (j := 2) (w := x2) rfl))
theorem mj_35_167 : mc_P 35 167 = some (.iinc 4 1, 3, 0, 0, 0) := by decide +kernel
theorem s_35_167 {x0 x1 x2 x3 x5 x6 x7 : Option Value} {w : Int32} : mw d 35 Q 167 [x0, x1, x2, x3, some (.int w), x5, x6, x7] (st) h = mw d 35 Q 170 [x0, x1, x2, mk2 x3, some (.int (w + 1)), x5, x6, x7] (st) h := (mw_at mj_35_167).trans (z_iinc rfl (Nat.le_of_ble_eq_true rfl) (by decide) (me_s1_mk (j := 3) (w := x3) rfl))
theorem mj_35_170 : mc_P 35 170 = some (.goto (-154), 3, 0, 0, 0) := by decide +kernel
theorem s_35_170 {x0 x1 x2 x3 x4 x5 x6 x7 : Option Value} : mw d 35 Q 170 [x0, x1, x2, x3, x4, x5, x6, x7] (st) h = mw d 35 Q 16 [x0, x1, x2, x3, x4, x5, x6, x7] (st) h := (mw_at mj_35_170).trans (z_goto (by decide))
theorem mj_35_173 : mc_P 35 173 = some (.iload_n 3, 1, 0, 0, 0) := by decide +kernel
theorem s_35_173 {x0 x1 x2 x4 x5 x6 x7 : Option Value} {w : Value} : mw d 35 Q 173 [x0, x1, x2, some w, x4, x5, x6, x7] (st) h = mv_i w (mw d 35 Q 174 [x0, x1, x2, some w, x4, x5, x6, x7] (w :: st) h) := (mw_at mj_35_173).trans (z_iload_n rfl)
theorem mj_35_174 : mc_P 35 174 = some (.ireturn, 1, 0, 3, 0) := by decide +kernel
theorem s_35_174 {x0 x1 x2 x3 x4 x5 x6 x7 : Option Value} {x : Int32} : mw d 35 Q 174 [x0, x1, x2, x3, x4, x5, x6, x7] ([.int x]) h = ((x = 0 ∨ x = 1) ∧ Q (some (.int x)) h) := (mw_at mj_35_174).trans (z_zret)
theorem e_35 {a0 : Nat} {a1 : Nat} : mcall d 35 [.ref a0, .ref a1] h Q = mw d 35 Q 0 [some (.ref a0), some (.ref a1), none, none, none, none, none, none] [] h := by
  show mw d 35 Q 0 (me_en (mc_nl 35) _) [] h = _
  rw [nl_35]; rfl

/-! InvariantDesk$Machine.compare(III)Z -/
theorem mj_36_0 : mc_P 36 0 = some (.iload_n 0, 1, 0, 0, 0) := by decide +kernel
theorem s_36_0 {x1 x2 : Option Value} {w : Value} : mw d 36 Q 0 [some w, x1, x2] (st) h = mv_i w (mw d 36 Q 1 [some w, x1, x2] (w :: st) h) := (mw_at mj_36_0).trans (z_iload_n rfl)
theorem mj_36_1 : mc_P 36 1 = some (.lookupswitch 106 #[(60, 51), (62, 73), (128, 62), (129, 84), (130, 95)], 51, 0, 0, 0) := by decide +kernel
theorem s_36_1 {x0 x1 x2 : Option Value} {x : Int32} : mw d 36 Q 1 [x0, x1, x2] (.int x :: st) h = mS x (mw d 36 Q) 107 [x0, x1, x2] st h [(60, 52), (62, 74), (128, 63), (129, 85), (130, 96)] := (mw_at mj_36_1).trans (z_look (by decide) (by decide) (by decide))
theorem mj_36_52 : mc_P 36 52 = some (.iload_n 1, 1, 0, 0, 0) := by decide +kernel
theorem s_36_52 {x0 x2 : Option Value} {w : Value} : mw d 36 Q 52 [x0, some w, x2] (st) h = mv_i w (mw d 36 Q 53 [x0, some w, x2] (w :: st) h) := (mw_at mj_36_52).trans (z_iload_n rfl)
theorem mj_36_53 : mc_P 36 53 = some (.iload_n 2, 1, 0, 0, 0) := by decide +kernel
theorem s_36_53 {x0 x1 : Option Value} {w : Value} : mw d 36 Q 53 [x0, x1, some w] (st) h = mv_i w (mw d 36 Q 54 [x0, x1, some w] (w :: st) h) := (mw_at mj_36_53).trans (z_iload_n rfl)
theorem mj_36_54 : mc_P 36 54 = some (.if_icmp .ge 7, 3, 0, 0, 0) := by decide +kernel
theorem s_36_54 {x0 x1 x2 : Option Value} {x w : Int32} : mw d 36 Q 54 [x0, x1, x2] (.int w :: .int x :: st) h = mB (w ≤ x) (mw d 36 Q) 61 57 [x0, x1, x2] st h := (mw_at mj_36_54).trans (z_icmp_ge (by decide) rfl)
theorem mj_36_57 : mc_P 36 57 = some (.iconst 1, 1, 0, 0, 0) := by decide +kernel
theorem s_36_57 {x0 x1 x2 : Option Value} : mw d 36 Q 57 [x0, x1, x2] (st) h = mw d 36 Q 58 [x0, x1, x2] (.int 1 :: st) h := (mw_at mj_36_57).trans (z_iconst (by decide))
theorem mj_36_58 : mc_P 36 58 = some (.goto 4, 3, 0, 0, 0) := by decide +kernel
theorem s_36_58 {x0 x1 x2 : Option Value} : mw d 36 Q 58 [x0, x1, x2] (st) h = mw d 36 Q 62 [x0, x1, x2] (st) h := (mw_at mj_36_58).trans (z_goto (by decide))
theorem mj_36_61 : mc_P 36 61 = some (.iconst 0, 1, 0, 0, 0) := by decide +kernel
theorem s_36_61 {x0 x1 x2 : Option Value} : mw d 36 Q 61 [x0, x1, x2] (st) h = mw d 36 Q 62 [x0, x1, x2] (.int 0 :: st) h := (mw_at mj_36_61).trans (z_iconst (by decide))
theorem mj_36_62 : mc_P 36 62 = some (.ireturn, 1, 0, 3, 0) := by decide +kernel
theorem s_36_62 {x0 x1 x2 : Option Value} {x : Int32} : mw d 36 Q 62 [x0, x1, x2] ([.int x]) h = ((x = 0 ∨ x = 1) ∧ Q (some (.int x)) h) := (mw_at mj_36_62).trans (z_zret)
theorem mj_36_63 : mc_P 36 63 = some (.iload_n 1, 1, 0, 0, 0) := by decide +kernel
theorem s_36_63 {x0 x2 : Option Value} {w : Value} : mw d 36 Q 63 [x0, some w, x2] (st) h = mv_i w (mw d 36 Q 64 [x0, some w, x2] (w :: st) h) := (mw_at mj_36_63).trans (z_iload_n rfl)
theorem mj_36_64 : mc_P 36 64 = some (.iload_n 2, 1, 0, 0, 0) := by decide +kernel
theorem s_36_64 {x0 x1 : Option Value} {w : Value} : mw d 36 Q 64 [x0, x1, some w] (st) h = mv_i w (mw d 36 Q 65 [x0, x1, some w] (w :: st) h) := (mw_at mj_36_64).trans (z_iload_n rfl)
theorem mj_36_65 : mc_P 36 65 = some (.if_icmp .gt 7, 3, 0, 0, 0) := by decide +kernel
theorem s_36_65 {x0 x1 x2 : Option Value} {x w : Int32} : mw d 36 Q 65 [x0, x1, x2] (.int w :: .int x :: st) h = mB (w < x) (mw d 36 Q) 72 68 [x0, x1, x2] st h := (mw_at mj_36_65).trans (z_icmp_gt (by decide) rfl)
theorem mj_36_68 : mc_P 36 68 = some (.iconst 1, 1, 0, 0, 0) := by decide +kernel
theorem s_36_68 {x0 x1 x2 : Option Value} : mw d 36 Q 68 [x0, x1, x2] (st) h = mw d 36 Q 69 [x0, x1, x2] (.int 1 :: st) h := (mw_at mj_36_68).trans (z_iconst (by decide))
theorem mj_36_69 : mc_P 36 69 = some (.goto 4, 3, 0, 0, 0) := by decide +kernel
theorem s_36_69 {x0 x1 x2 : Option Value} : mw d 36 Q 69 [x0, x1, x2] (st) h = mw d 36 Q 73 [x0, x1, x2] (st) h := (mw_at mj_36_69).trans (z_goto (by decide))
theorem mj_36_72 : mc_P 36 72 = some (.iconst 0, 1, 0, 0, 0) := by decide +kernel
theorem s_36_72 {x0 x1 x2 : Option Value} : mw d 36 Q 72 [x0, x1, x2] (st) h = mw d 36 Q 73 [x0, x1, x2] (.int 0 :: st) h := (mw_at mj_36_72).trans (z_iconst (by decide))
theorem mj_36_73 : mc_P 36 73 = some (.ireturn, 1, 0, 3, 0) := by decide +kernel
theorem s_36_73 {x0 x1 x2 : Option Value} {x : Int32} : mw d 36 Q 73 [x0, x1, x2] ([.int x]) h = ((x = 0 ∨ x = 1) ∧ Q (some (.int x)) h) := (mw_at mj_36_73).trans (z_zret)
theorem mj_36_74 : mc_P 36 74 = some (.iload_n 1, 1, 0, 0, 0) := by decide +kernel
theorem s_36_74 {x0 x2 : Option Value} {w : Value} : mw d 36 Q 74 [x0, some w, x2] (st) h = mv_i w (mw d 36 Q 75 [x0, some w, x2] (w :: st) h) := (mw_at mj_36_74).trans (z_iload_n rfl)
theorem mj_36_75 : mc_P 36 75 = some (.iload_n 2, 1, 0, 0, 0) := by decide +kernel
theorem s_36_75 {x0 x1 : Option Value} {w : Value} : mw d 36 Q 75 [x0, x1, some w] (st) h = mv_i w (mw d 36 Q 76 [x0, x1, some w] (w :: st) h) := (mw_at mj_36_75).trans (z_iload_n rfl)
theorem mj_36_76 : mc_P 36 76 = some (.if_icmp .le 7, 3, 0, 0, 0) := by decide +kernel
theorem s_36_76 {x0 x1 x2 : Option Value} {x w : Int32} : mw d 36 Q 76 [x0, x1, x2] (.int w :: .int x :: st) h = mB (x ≤ w) (mw d 36 Q) 83 79 [x0, x1, x2] st h := (mw_at mj_36_76).trans (z_icmp_le (by decide) rfl)
theorem mj_36_79 : mc_P 36 79 = some (.iconst 1, 1, 0, 0, 0) := by decide +kernel
theorem s_36_79 {x0 x1 x2 : Option Value} : mw d 36 Q 79 [x0, x1, x2] (st) h = mw d 36 Q 80 [x0, x1, x2] (.int 1 :: st) h := (mw_at mj_36_79).trans (z_iconst (by decide))
theorem mj_36_80 : mc_P 36 80 = some (.goto 4, 3, 0, 0, 0) := by decide +kernel
theorem s_36_80 {x0 x1 x2 : Option Value} : mw d 36 Q 80 [x0, x1, x2] (st) h = mw d 36 Q 84 [x0, x1, x2] (st) h := (mw_at mj_36_80).trans (z_goto (by decide))
theorem mj_36_83 : mc_P 36 83 = some (.iconst 0, 1, 0, 0, 0) := by decide +kernel
theorem s_36_83 {x0 x1 x2 : Option Value} : mw d 36 Q 83 [x0, x1, x2] (st) h = mw d 36 Q 84 [x0, x1, x2] (.int 0 :: st) h := (mw_at mj_36_83).trans (z_iconst (by decide))
theorem mj_36_84 : mc_P 36 84 = some (.ireturn, 1, 0, 3, 0) := by decide +kernel
theorem s_36_84 {x0 x1 x2 : Option Value} {x : Int32} : mw d 36 Q 84 [x0, x1, x2] ([.int x]) h = ((x = 0 ∨ x = 1) ∧ Q (some (.int x)) h) := (mw_at mj_36_84).trans (z_zret)
theorem mj_36_85 : mc_P 36 85 = some (.iload_n 1, 1, 0, 0, 0) := by decide +kernel
theorem s_36_85 {x0 x2 : Option Value} {w : Value} : mw d 36 Q 85 [x0, some w, x2] (st) h = mv_i w (mw d 36 Q 86 [x0, some w, x2] (w :: st) h) := (mw_at mj_36_85).trans (z_iload_n rfl)
theorem mj_36_86 : mc_P 36 86 = some (.iload_n 2, 1, 0, 0, 0) := by decide +kernel
theorem s_36_86 {x0 x1 : Option Value} {w : Value} : mw d 36 Q 86 [x0, x1, some w] (st) h = mv_i w (mw d 36 Q 87 [x0, x1, some w] (w :: st) h) := (mw_at mj_36_86).trans (z_iload_n rfl)
theorem mj_36_87 : mc_P 36 87 = some (.if_icmp .lt 7, 3, 0, 0, 0) := by decide +kernel
theorem s_36_87 {x0 x1 x2 : Option Value} {x w : Int32} : mw d 36 Q 87 [x0, x1, x2] (.int w :: .int x :: st) h = mB (x < w) (mw d 36 Q) 94 90 [x0, x1, x2] st h := (mw_at mj_36_87).trans (z_icmp_lt (by decide) rfl)
theorem mj_36_90 : mc_P 36 90 = some (.iconst 1, 1, 0, 0, 0) := by decide +kernel
theorem s_36_90 {x0 x1 x2 : Option Value} : mw d 36 Q 90 [x0, x1, x2] (st) h = mw d 36 Q 91 [x0, x1, x2] (.int 1 :: st) h := (mw_at mj_36_90).trans (z_iconst (by decide))
theorem mj_36_91 : mc_P 36 91 = some (.goto 4, 3, 0, 0, 0) := by decide +kernel
theorem s_36_91 {x0 x1 x2 : Option Value} : mw d 36 Q 91 [x0, x1, x2] (st) h = mw d 36 Q 95 [x0, x1, x2] (st) h := (mw_at mj_36_91).trans (z_goto (by decide))
theorem mj_36_94 : mc_P 36 94 = some (.iconst 0, 1, 0, 0, 0) := by decide +kernel
theorem s_36_94 {x0 x1 x2 : Option Value} : mw d 36 Q 94 [x0, x1, x2] (st) h = mw d 36 Q 95 [x0, x1, x2] (.int 0 :: st) h := (mw_at mj_36_94).trans (z_iconst (by decide))
theorem mj_36_95 : mc_P 36 95 = some (.ireturn, 1, 0, 3, 0) := by decide +kernel
theorem s_36_95 {x0 x1 x2 : Option Value} {x : Int32} : mw d 36 Q 95 [x0, x1, x2] ([.int x]) h = ((x = 0 ∨ x = 1) ∧ Q (some (.int x)) h) := (mw_at mj_36_95).trans (z_zret)
theorem mj_36_96 : mc_P 36 96 = some (.iload_n 1, 1, 0, 0, 0) := by decide +kernel
theorem s_36_96 {x0 x2 : Option Value} {w : Value} : mw d 36 Q 96 [x0, some w, x2] (st) h = mv_i w (mw d 36 Q 97 [x0, some w, x2] (w :: st) h) := (mw_at mj_36_96).trans (z_iload_n rfl)
theorem mj_36_97 : mc_P 36 97 = some (.iload_n 2, 1, 0, 0, 0) := by decide +kernel
theorem s_36_97 {x0 x1 : Option Value} {w : Value} : mw d 36 Q 97 [x0, x1, some w] (st) h = mv_i w (mw d 36 Q 98 [x0, x1, some w] (w :: st) h) := (mw_at mj_36_97).trans (z_iload_n rfl)
theorem mj_36_98 : mc_P 36 98 = some (.if_icmp .ne 7, 3, 0, 0, 0) := by decide +kernel
theorem s_36_98 {x0 x1 x2 : Option Value} {x w : Int32} : mw d 36 Q 98 [x0, x1, x2] (.int w :: .int x :: st) h = mB (¬ x = w) (mw d 36 Q) 105 101 [x0, x1, x2] st h := (mw_at mj_36_98).trans (z_icmp_ne (by decide) rfl)
theorem mj_36_101 : mc_P 36 101 = some (.iconst 1, 1, 0, 0, 0) := by decide +kernel
theorem s_36_101 {x0 x1 x2 : Option Value} : mw d 36 Q 101 [x0, x1, x2] (st) h = mw d 36 Q 102 [x0, x1, x2] (.int 1 :: st) h := (mw_at mj_36_101).trans (z_iconst (by decide))
theorem mj_36_102 : mc_P 36 102 = some (.goto 4, 3, 0, 0, 0) := by decide +kernel
theorem s_36_102 {x0 x1 x2 : Option Value} : mw d 36 Q 102 [x0, x1, x2] (st) h = mw d 36 Q 106 [x0, x1, x2] (st) h := (mw_at mj_36_102).trans (z_goto (by decide))
theorem mj_36_105 : mc_P 36 105 = some (.iconst 0, 1, 0, 0, 0) := by decide +kernel
theorem s_36_105 {x0 x1 x2 : Option Value} : mw d 36 Q 105 [x0, x1, x2] (st) h = mw d 36 Q 106 [x0, x1, x2] (.int 0 :: st) h := (mw_at mj_36_105).trans (z_iconst (by decide))
theorem mj_36_106 : mc_P 36 106 = some (.ireturn, 1, 0, 3, 0) := by decide +kernel
theorem s_36_106 {x0 x1 x2 : Option Value} {x : Int32} : mw d 36 Q 106 [x0, x1, x2] ([.int x]) h = ((x = 0 ∨ x = 1) ∧ Q (some (.int x)) h) := (mw_at mj_36_106).trans (z_zret)
theorem mj_36_107 : mc_P 36 107 = some (.iload_n 1, 1, 0, 0, 0) := by decide +kernel
theorem s_36_107 {x0 x2 : Option Value} {w : Value} : mw d 36 Q 107 [x0, some w, x2] (st) h = mv_i w (mw d 36 Q 108 [x0, some w, x2] (w :: st) h) := (mw_at mj_36_107).trans (z_iload_n rfl)
theorem mj_36_108 : mc_P 36 108 = some (.iload_n 2, 1, 0, 0, 0) := by decide +kernel
theorem s_36_108 {x0 x1 : Option Value} {w : Value} : mw d 36 Q 108 [x0, x1, some w] (st) h = mv_i w (mw d 36 Q 109 [x0, x1, some w] (w :: st) h) := (mw_at mj_36_108).trans (z_iload_n rfl)
theorem mj_36_109 : mc_P 36 109 = some (.if_icmp .eq 7, 3, 0, 0, 0) := by decide +kernel
theorem s_36_109 {x0 x1 x2 : Option Value} {x w : Int32} : mw d 36 Q 109 [x0, x1, x2] (.int w :: .int x :: st) h = mB (x = w) (mw d 36 Q) 116 112 [x0, x1, x2] st h := (mw_at mj_36_109).trans (z_icmp_eq (by decide) rfl)
theorem mj_36_112 : mc_P 36 112 = some (.iconst 1, 1, 0, 0, 0) := by decide +kernel
theorem s_36_112 {x0 x1 x2 : Option Value} : mw d 36 Q 112 [x0, x1, x2] (st) h = mw d 36 Q 113 [x0, x1, x2] (.int 1 :: st) h := (mw_at mj_36_112).trans (z_iconst (by decide))
theorem mj_36_113 : mc_P 36 113 = some (.goto 4, 3, 0, 0, 0) := by decide +kernel
theorem s_36_113 {x0 x1 x2 : Option Value} : mw d 36 Q 113 [x0, x1, x2] (st) h = mw d 36 Q 117 [x0, x1, x2] (st) h := (mw_at mj_36_113).trans (z_goto (by decide))
theorem mj_36_116 : mc_P 36 116 = some (.iconst 0, 1, 0, 0, 0) := by decide +kernel
theorem s_36_116 {x0 x1 x2 : Option Value} : mw d 36 Q 116 [x0, x1, x2] (st) h = mw d 36 Q 117 [x0, x1, x2] (.int 0 :: st) h := (mw_at mj_36_116).trans (z_iconst (by decide))
theorem mj_36_117 : mc_P 36 117 = some (.ireturn, 1, 0, 3, 0) := by decide +kernel
theorem s_36_117 {x0 x1 x2 : Option Value} {x : Int32} : mw d 36 Q 117 [x0, x1, x2] ([.int x]) h = ((x = 0 ∨ x = 1) ∧ Q (some (.int x)) h) := (mw_at mj_36_117).trans (z_zret)
theorem e_36 {a0 : Int32} {a1 : Int32} {a2 : Int32} : mcall d 36 [.int a0, .int a1, .int a2] h Q = mw d 36 Q 0 [some (.int a0), some (.int a1), some (.int a2)] [] h := by
  show mw d 36 Q 0 (me_en (mc_nl 36) _) [] h = _
  rw [nl_36]; rfl

/-! InvariantDesk$Machine.reckon(I)I -/
theorem mj_37_0 : mc_P 37 0 = some (.aload_n 0, 1, 0, 0, 0) := by decide +kernel
theorem s_37_0 {x1 x2 x3 x4 x5 : Option Value} {w : Value} : mw d 37 Q 0 [some w, x1, x2, x3, x4, x5] (st) h = mv_a w (mw d 37 Q 1 [some w, x1, x2, x3, x4, x5] (w :: st) h) := (mw_at mj_37_0).trans (z_aload_n rfl)
theorem mj_37_1 : mc_P 37 1 = some (.getfield 27, 3, 2, 0, 0) := by decide +kernel
theorem s_37_1 {x0 x1 x2 x3 x4 x5 : Option Value} {o : Nat} : mw d 37 Q 1 [x0, x1, x2, x3, x4, x5] (.ref o :: st) h = (mg h o 2 ∧ mw d 37 Q 4 [x0, x1, x2, x3, x4, x5] (va_rf (mh_r h o 0) :: st) h) := (mw_at mj_37_1).trans (z_getr (by decide) (by decide) rfl)
theorem mj_37_4 : mc_P 37 4 = some (.getfield 149, 3, 4, 1, 0) := by decide +kernel
theorem s_37_4 {x0 x1 x2 x3 x4 x5 : Option Value} {o : Nat} : mw d 37 Q 4 [x0, x1, x2, x3, x4, x5] (.ref o :: st) h = (mg h o 4 ∧ mw d 37 Q 7 [x0, x1, x2, x3, x4, x5] (va_rf (mh_r h o 1) :: st) h) := (mw_at mj_37_4).trans (z_getr (by decide) (by decide) rfl)
theorem mj_37_7 : mc_P 37 7 = some (.astore_n 2, 1, 0, 0, 0) := by decide +kernel
theorem s_37_7 {x0 x1 x2 x3 x4 x5 : Option Value} {w : Nat} : mw d 37 Q 7 [x0, x1, x2, x3, x4, x5] (.ref w :: st) h = mw d 37 Q 8 [x0, mk2 x1, some (.ref w), x3, x4, x5] (st) h := (mw_at mj_37_7).trans (z_astore_n (Nat.le_of_ble_eq_true rfl) (me_s1_mk (j := 1) (w := x1) rfl))
theorem s_37_7n {x0 x1 x2 x3 x4 x5 : Option Value} : mw d 37 Q 7 [x0, x1, x2, x3, x4, x5] (.null :: st) h = mw d 37 Q 8 [x0, mk2 x1, some (.null), x3, x4, x5] (st) h := (mw_at mj_37_7).trans (z_astoreN_n (Nat.le_of_ble_eq_true rfl) (me_s1_mk (j := 1) (w := x1) rfl))
theorem mj_37_8 : mc_P 37 8 = some (.aload_n 0, 1, 0, 0, 0) := by decide +kernel
theorem s_37_8 {x1 x2 x3 x4 x5 : Option Value} {w : Value} : mw d 37 Q 8 [some w, x1, x2, x3, x4, x5] (st) h = mv_a w (mw d 37 Q 9 [some w, x1, x2, x3, x4, x5] (w :: st) h) := (mw_at mj_37_8).trans (z_aload_n rfl)
theorem mj_37_9 : mc_P 37 9 = some (.iconst 0, 1, 0, 0, 0) := by decide +kernel
theorem s_37_9 {x0 x1 x2 x3 x4 x5 : Option Value} : mw d 37 Q 9 [x0, x1, x2, x3, x4, x5] (st) h = mw d 37 Q 10 [x0, x1, x2, x3, x4, x5] (.int 0 :: st) h := (mw_at mj_37_9).trans (z_iconst (by decide))
theorem mj_37_10 : mc_P 37 10 = some (.putfield 179, 3, 2, 12, 0) := by decide +kernel
theorem s_37_10 {x0 x1 x2 x3 x4 x5 : Option Value} {o : Nat} {w : Int32} : mw d 37 Q 10 [x0, x1, x2, x3, x4, x5] (.int w :: .ref o :: st) h = (mg h o 2 ∧ mw d 37 Q 13 [x0, x1, x2, x3, x4, x5] (st) (mh_si h o 12 w)) := (mw_at mj_37_10).trans (z_puti (by decide) (by decide) rfl)
theorem mj_37_13 : mc_P 37 13 = some (.aload_n 2, 1, 0, 0, 0) := by decide +kernel
theorem s_37_13 {x0 x1 x3 x4 x5 : Option Value} {w : Value} : mw d 37 Q 13 [x0, x1, some w, x3, x4, x5] (st) h = mv_a w (mw d 37 Q 14 [x0, x1, some w, x3, x4, x5] (w :: st) h) := (mw_at mj_37_13).trans (z_aload_n rfl)
theorem mj_37_14 : mc_P 37 14 = some (.getfield 182, 3, 7, 6, 0) := by decide +kernel
theorem s_37_14 {x0 x1 x2 x3 x4 x5 : Option Value} {o : Nat} : mw d 37 Q 14 [x0, x1, x2, x3, x4, x5] (.ref o :: st) h = (mg h o 7 ∧ mw d 37 Q 17 [x0, x1, x2, x3, x4, x5] (va_rf (mh_r h o 6) :: st) h) := (mw_at mj_37_14).trans (z_getr (by decide) (by decide) rfl)
theorem mj_37_17 : mc_P 37 17 = some (.iload_n 1, 1, 0, 0, 0) := by decide +kernel
theorem s_37_17 {x0 x2 x3 x4 x5 : Option Value} {w : Value} : mw d 37 Q 17 [x0, some w, x2, x3, x4, x5] (st) h = mv_i w (mw d 37 Q 18 [x0, some w, x2, x3, x4, x5] (w :: st) h) := (mw_at mj_37_17).trans (z_iload_n rfl)
theorem mj_37_18 : mc_P 37 18 = some (.iaload, 1, 0, 0, 0) := by decide +kernel
theorem s_37_18 {x0 x1 x2 x3 x4 x5 : Option Value} {o : Nat} {i : Int32} : mw d 37 Q 18 [x0, x1, x2, x3, x4, x5] (.int i :: .ref o :: st) h = (mg h o 100 ∧ mx i (mh_l h o) ∧ mw d 37 Q 19 [x0, x1, x2, x3, x4, x5] (.int (mh_i h o i.toNatClampNeg) :: st) h) := (mw_at mj_37_18).trans (z_iald)
theorem mj_37_19 : mc_P 37 19 = some (.istore_n 3, 1, 0, 0, 0) := by decide +kernel
theorem s_37_19 {x0 x1 x2 x3 x4 x5 : Option Value} {w : Int32} : mw d 37 Q 19 [x0, x1, x2, x3, x4, x5] (.int w :: st) h = mw d 37 Q 20 [x0, x1, mk2 x2, some (.int w), x4, x5] (st) h := (mw_at mj_37_19).trans (z_istore_n (Nat.le_of_ble_eq_true rfl) (me_s1_mk (j := 2) (w := x2) rfl))
theorem mj_37_20 : mc_P 37 20 = some (.iload_n 3, 1, 0, 0, 0) := by decide +kernel
theorem s_37_20 {x0 x1 x2 x4 x5 : Option Value} {w : Value} : mw d 37 Q 20 [x0, x1, x2, some w, x4, x5] (st) h = mv_i w (mw d 37 Q 21 [x0, x1, x2, some w, x4, x5] (w :: st) h) := (mw_at mj_37_20).trans (z_iload_n rfl)
theorem mj_37_21 : mc_P 37 21 = some (.aload_n 2, 1, 0, 0, 0) := by decide +kernel
theorem s_37_21 {x0 x1 x3 x4 x5 : Option Value} {w : Value} : mw d 37 Q 21 [x0, x1, some w, x3, x4, x5] (st) h = mv_a w (mw d 37 Q 22 [x0, x1, some w, x3, x4, x5] (w :: st) h) := (mw_at mj_37_21).trans (z_aload_n rfl)
theorem mj_37_22 : mc_P 37 22 = some (.getfield 182, 3, 7, 6, 0) := by decide +kernel
theorem s_37_22 {x0 x1 x2 x3 x4 x5 : Option Value} {o : Nat} : mw d 37 Q 22 [x0, x1, x2, x3, x4, x5] (.ref o :: st) h = (mg h o 7 ∧ mw d 37 Q 25 [x0, x1, x2, x3, x4, x5] (va_rf (mh_r h o 6) :: st) h) := (mw_at mj_37_22).trans (z_getr (by decide) (by decide) rfl)
theorem mj_37_25 : mc_P 37 25 = some (.iload_n 1, 1, 0, 0, 0) := by decide +kernel
theorem s_37_25 {x0 x2 x3 x4 x5 : Option Value} {w : Value} : mw d 37 Q 25 [x0, some w, x2, x3, x4, x5] (st) h = mv_i w (mw d 37 Q 26 [x0, some w, x2, x3, x4, x5] (w :: st) h) := (mw_at mj_37_25).trans (z_iload_n rfl)
theorem mj_37_26 : mc_P 37 26 = some (.iconst 1, 1, 0, 0, 0) := by decide +kernel
theorem s_37_26 {x0 x1 x2 x3 x4 x5 : Option Value} : mw d 37 Q 26 [x0, x1, x2, x3, x4, x5] (st) h = mw d 37 Q 27 [x0, x1, x2, x3, x4, x5] (.int 1 :: st) h := (mw_at mj_37_26).trans (z_iconst (by decide))
theorem mj_37_27 : mc_P 37 27 = some (.iadd, 1, 0, 0, 0) := by decide +kernel
theorem s_37_27 {x0 x1 x2 x3 x4 x5 : Option Value} {x w : Int32} : mw d 37 Q 27 [x0, x1, x2, x3, x4, x5] (.int w :: .int x :: st) h = mw d 37 Q 28 [x0, x1, x2, x3, x4, x5] (.int (x + w) :: st) h := (mw_at mj_37_27).trans (z_iadd)
theorem mj_37_28 : mc_P 37 28 = some (.iaload, 1, 0, 0, 0) := by decide +kernel
theorem s_37_28 {x0 x1 x2 x3 x4 x5 : Option Value} {o : Nat} {i : Int32} : mw d 37 Q 28 [x0, x1, x2, x3, x4, x5] (.int i :: .ref o :: st) h = (mg h o 100 ∧ mx i (mh_l h o) ∧ mw d 37 Q 29 [x0, x1, x2, x3, x4, x5] (.int (mh_i h o i.toNatClampNeg) :: st) h) := (mw_at mj_37_28).trans (z_iald)
theorem mj_37_29 : mc_P 37 29 = some (.if_icmp .ge 228, 3, 0, 0, 0) := by decide +kernel
theorem s_37_29 {x0 x1 x2 x3 x4 x5 : Option Value} {x w : Int32} : mw d 37 Q 29 [x0, x1, x2, x3, x4, x5] (.int w :: .int x :: st) h = mB (w ≤ x) (mw d 37 Q) 257 32 [x0, x1, x2, x3, x4, x5] st h := (mw_at mj_37_29).trans (z_icmp_ge (by decide) rfl)
theorem mj_37_32 : mc_P 37 32 = some (.aload_n 0, 1, 0, 0, 0) := by decide +kernel
theorem s_37_32 {x1 x2 x3 x4 x5 : Option Value} {w : Value} : mw d 37 Q 32 [some w, x1, x2, x3, x4, x5] (st) h = mv_a w (mw d 37 Q 33 [some w, x1, x2, x3, x4, x5] (w :: st) h) := (mw_at mj_37_32).trans (z_aload_n rfl)
theorem mj_37_33 : mc_P 37 33 = some (.getfield 47, 3, 2, 10, 0) := by decide +kernel
theorem s_37_33 {x0 x1 x2 x3 x4 x5 : Option Value} {o : Nat} : mw d 37 Q 33 [x0, x1, x2, x3, x4, x5] (.ref o :: st) h = (mg h o 2 ∧ mw d 37 Q 36 [x0, x1, x2, x3, x4, x5] (.int (mh_i h o 10) :: st) h) := (mw_at mj_37_33).trans (z_geti (by decide) (by decide) (Or.inl rfl))
theorem mj_37_36 : mc_P 37 36 = some (.ifCond .ne 221, 3, 0, 0, 0) := by decide +kernel
theorem s_37_36 {x0 x1 x2 x3 x4 x5 : Option Value} {x : Int32} : mw d 37 Q 36 [x0, x1, x2, x3, x4, x5] (.int x :: st) h = mB (¬ x = 0) (mw d 37 Q) 257 39 [x0, x1, x2, x3, x4, x5] st h := (mw_at mj_37_36).trans (z_if_ne (by decide) rfl)
theorem mj_37_39 : mc_P 37 39 = some (.aload_n 2, 1, 0, 0, 0) := by decide +kernel
theorem s_37_39 {x0 x1 x3 x4 x5 : Option Value} {w : Value} : mw d 37 Q 39 [x0, x1, some w, x3, x4, x5] (st) h = mv_a w (mw d 37 Q 40 [x0, x1, some w, x3, x4, x5] (w :: st) h) := (mw_at mj_37_39).trans (z_aload_n rfl)
theorem mj_37_40 : mc_P 37 40 = some (.getfield 185, 3, 7, 0, 0) := by decide +kernel
theorem s_37_40 {x0 x1 x2 x3 x4 x5 : Option Value} {o : Nat} : mw d 37 Q 40 [x0, x1, x2, x3, x4, x5] (.ref o :: st) h = (mg h o 7 ∧ mw d 37 Q 43 [x0, x1, x2, x3, x4, x5] (va_rf (mh_r h o 0) :: st) h) := (mw_at mj_37_40).trans (z_getr (by decide) (by decide) rfl)
theorem mj_37_43 : mc_P 37 43 = some (.iconst 3, 1, 0, 0, 0) := by decide +kernel
theorem s_37_43 {x0 x1 x2 x3 x4 x5 : Option Value} : mw d 37 Q 43 [x0, x1, x2, x3, x4, x5] (st) h = mw d 37 Q 44 [x0, x1, x2, x3, x4, x5] (.int 3 :: st) h := (mw_at mj_37_43).trans (z_iconst (by decide))
theorem mj_37_44 : mc_P 37 44 = some (.iload_n 3, 1, 0, 0, 0) := by decide +kernel
theorem s_37_44 {x0 x1 x2 x4 x5 : Option Value} {w : Value} : mw d 37 Q 44 [x0, x1, x2, some w, x4, x5] (st) h = mv_i w (mw d 37 Q 45 [x0, x1, x2, some w, x4, x5] (w :: st) h) := (mw_at mj_37_44).trans (z_iload_n rfl)
theorem mj_37_45 : mc_P 37 45 = some (.imul, 1, 0, 0, 0) := by decide +kernel
theorem s_37_45 {x0 x1 x2 x3 x4 x5 : Option Value} {x w : Int32} : mw d 37 Q 45 [x0, x1, x2, x3, x4, x5] (.int w :: .int x :: st) h = mw d 37 Q 46 [x0, x1, x2, x3, x4, x5] (.int (x * w) :: st) h := (mw_at mj_37_45).trans (z_imul)
theorem mj_37_46 : mc_P 37 46 = some (.iconst 1, 1, 0, 0, 0) := by decide +kernel
theorem s_37_46 {x0 x1 x2 x3 x4 x5 : Option Value} : mw d 37 Q 46 [x0, x1, x2, x3, x4, x5] (st) h = mw d 37 Q 47 [x0, x1, x2, x3, x4, x5] (.int 1 :: st) h := (mw_at mj_37_46).trans (z_iconst (by decide))
theorem mj_37_47 : mc_P 37 47 = some (.iadd, 1, 0, 0, 0) := by decide +kernel
theorem s_37_47 {x0 x1 x2 x3 x4 x5 : Option Value} {x w : Int32} : mw d 37 Q 47 [x0, x1, x2, x3, x4, x5] (.int w :: .int x :: st) h = mw d 37 Q 48 [x0, x1, x2, x3, x4, x5] (.int (x + w) :: st) h := (mw_at mj_37_47).trans (z_iadd)
theorem mj_37_48 : mc_P 37 48 = some (.iaload, 1, 0, 0, 0) := by decide +kernel
theorem s_37_48 {x0 x1 x2 x3 x4 x5 : Option Value} {o : Nat} {i : Int32} : mw d 37 Q 48 [x0, x1, x2, x3, x4, x5] (.int i :: .ref o :: st) h = (mg h o 100 ∧ mx i (mh_l h o) ∧ mw d 37 Q 49 [x0, x1, x2, x3, x4, x5] (.int (mh_i h o i.toNatClampNeg) :: st) h) := (mw_at mj_37_48).trans (z_iald)
theorem mj_37_49 : mc_P 37 49 = some (.istore 4, 2, 0, 0, 0) := by decide +kernel
theorem s_37_49 {x0 x1 x2 x3 x4 x5 : Option Value} {w : Int32} : mw d 37 Q 49 [x0, x1, x2, x3, x4, x5] (.int w :: st) h = mw d 37 Q 51 [x0, x1, x2, mk2 x3, some (.int w), x5] (st) h := (mw_at mj_37_49).trans (z_istore (Nat.le_of_ble_eq_true rfl) (me_s1_mk (j := 3) (w := x3) rfl))
theorem mj_37_51 : mc_P 37 51 = some (.aload_n 2, 1, 0, 0, 0) := by decide +kernel
theorem s_37_51 {x0 x1 x3 x4 x5 : Option Value} {w : Value} : mw d 37 Q 51 [x0, x1, some w, x3, x4, x5] (st) h = mv_a w (mw d 37 Q 52 [x0, x1, some w, x3, x4, x5] (w :: st) h) := (mw_at mj_37_51).trans (z_aload_n rfl)
theorem mj_37_52 : mc_P 37 52 = some (.getfield 185, 3, 7, 0, 0) := by decide +kernel
theorem s_37_52 {x0 x1 x2 x3 x4 x5 : Option Value} {o : Nat} : mw d 37 Q 52 [x0, x1, x2, x3, x4, x5] (.ref o :: st) h = (mg h o 7 ∧ mw d 37 Q 55 [x0, x1, x2, x3, x4, x5] (va_rf (mh_r h o 0) :: st) h) := (mw_at mj_37_52).trans (z_getr (by decide) (by decide) rfl)
theorem mj_37_55 : mc_P 37 55 = some (.iconst 3, 1, 0, 0, 0) := by decide +kernel
theorem s_37_55 {x0 x1 x2 x3 x4 x5 : Option Value} : mw d 37 Q 55 [x0, x1, x2, x3, x4, x5] (st) h = mw d 37 Q 56 [x0, x1, x2, x3, x4, x5] (.int 3 :: st) h := (mw_at mj_37_55).trans (z_iconst (by decide))
theorem mj_37_56 : mc_P 37 56 = some (.iload_n 3, 1, 0, 0, 0) := by decide +kernel
theorem s_37_56 {x0 x1 x2 x4 x5 : Option Value} {w : Value} : mw d 37 Q 56 [x0, x1, x2, some w, x4, x5] (st) h = mv_i w (mw d 37 Q 57 [x0, x1, x2, some w, x4, x5] (w :: st) h) := (mw_at mj_37_56).trans (z_iload_n rfl)
theorem mj_37_57 : mc_P 37 57 = some (.imul, 1, 0, 0, 0) := by decide +kernel
theorem s_37_57 {x0 x1 x2 x3 x4 x5 : Option Value} {x w : Int32} : mw d 37 Q 57 [x0, x1, x2, x3, x4, x5] (.int w :: .int x :: st) h = mw d 37 Q 58 [x0, x1, x2, x3, x4, x5] (.int (x * w) :: st) h := (mw_at mj_37_57).trans (z_imul)
theorem mj_37_58 : mc_P 37 58 = some (.iconst 2, 1, 0, 0, 0) := by decide +kernel
theorem s_37_58 {x0 x1 x2 x3 x4 x5 : Option Value} : mw d 37 Q 58 [x0, x1, x2, x3, x4, x5] (st) h = mw d 37 Q 59 [x0, x1, x2, x3, x4, x5] (.int 2 :: st) h := (mw_at mj_37_58).trans (z_iconst (by decide))
theorem mj_37_59 : mc_P 37 59 = some (.iadd, 1, 0, 0, 0) := by decide +kernel
theorem s_37_59 {x0 x1 x2 x3 x4 x5 : Option Value} {x w : Int32} : mw d 37 Q 59 [x0, x1, x2, x3, x4, x5] (.int w :: .int x :: st) h = mw d 37 Q 60 [x0, x1, x2, x3, x4, x5] (.int (x + w) :: st) h := (mw_at mj_37_59).trans (z_iadd)
theorem mj_37_60 : mc_P 37 60 = some (.iaload, 1, 0, 0, 0) := by decide +kernel
theorem s_37_60 {x0 x1 x2 x3 x4 x5 : Option Value} {o : Nat} {i : Int32} : mw d 37 Q 60 [x0, x1, x2, x3, x4, x5] (.int i :: .ref o :: st) h = (mg h o 100 ∧ mx i (mh_l h o) ∧ mw d 37 Q 61 [x0, x1, x2, x3, x4, x5] (.int (mh_i h o i.toNatClampNeg) :: st) h) := (mw_at mj_37_60).trans (z_iald)
theorem mj_37_61 : mc_P 37 61 = some (.istore 5, 2, 0, 0, 0) := by decide +kernel
theorem s_37_61 {x0 x1 x2 x3 x4 x5 : Option Value} {w : Int32} : mw d 37 Q 61 [x0, x1, x2, x3, x4, x5] (.int w :: st) h = mw d 37 Q 63 [x0, x1, x2, x3, mk2 x4, some (.int w)] (st) h := (mw_at mj_37_61).trans (z_istore (Nat.le_of_ble_eq_true rfl) (me_s1_mk (j := 4) (w := x4) rfl))
theorem mj_37_63 : mc_P 37 63 = some (.aload_n 2, 1, 0, 0, 0) := by decide +kernel
theorem s_37_63 {x0 x1 x3 x4 x5 : Option Value} {w : Value} : mw d 37 Q 63 [x0, x1, some w, x3, x4, x5] (st) h = mv_a w (mw d 37 Q 64 [x0, x1, some w, x3, x4, x5] (w :: st) h) := (mw_at mj_37_63).trans (z_aload_n rfl)
theorem mj_37_64 : mc_P 37 64 = some (.getfield 185, 3, 7, 0, 0) := by decide +kernel
theorem s_37_64 {x0 x1 x2 x3 x4 x5 : Option Value} {o : Nat} : mw d 37 Q 64 [x0, x1, x2, x3, x4, x5] (.ref o :: st) h = (mg h o 7 ∧ mw d 37 Q 67 [x0, x1, x2, x3, x4, x5] (va_rf (mh_r h o 0) :: st) h) := (mw_at mj_37_64).trans (z_getr (by decide) (by decide) rfl)
theorem mj_37_67 : mc_P 37 67 = some (.iconst 3, 1, 0, 0, 0) := by decide +kernel
theorem s_37_67 {x0 x1 x2 x3 x4 x5 : Option Value} : mw d 37 Q 67 [x0, x1, x2, x3, x4, x5] (st) h = mw d 37 Q 68 [x0, x1, x2, x3, x4, x5] (.int 3 :: st) h := (mw_at mj_37_67).trans (z_iconst (by decide))
theorem mj_37_68 : mc_P 37 68 = some (.iload_n 3, 1, 0, 0, 0) := by decide +kernel
theorem s_37_68 {x0 x1 x2 x4 x5 : Option Value} {w : Value} : mw d 37 Q 68 [x0, x1, x2, some w, x4, x5] (st) h = mv_i w (mw d 37 Q 69 [x0, x1, x2, some w, x4, x5] (w :: st) h) := (mw_at mj_37_68).trans (z_iload_n rfl)
theorem mj_37_69 : mc_P 37 69 = some (.imul, 1, 0, 0, 0) := by decide +kernel
theorem s_37_69 {x0 x1 x2 x3 x4 x5 : Option Value} {x w : Int32} : mw d 37 Q 69 [x0, x1, x2, x3, x4, x5] (.int w :: .int x :: st) h = mw d 37 Q 70 [x0, x1, x2, x3, x4, x5] (.int (x * w) :: st) h := (mw_at mj_37_69).trans (z_imul)
theorem mj_37_70 : mc_P 37 70 = some (.iaload, 1, 0, 0, 0) := by decide +kernel
theorem s_37_70 {x0 x1 x2 x3 x4 x5 : Option Value} {o : Nat} {i : Int32} : mw d 37 Q 70 [x0, x1, x2, x3, x4, x5] (.int i :: .ref o :: st) h = (mg h o 100 ∧ mx i (mh_l h o) ∧ mw d 37 Q 71 [x0, x1, x2, x3, x4, x5] (.int (mh_i h o i.toNatClampNeg) :: st) h) := (mw_at mj_37_70).trans (z_iald)
theorem mj_37_71 : mc_P 37 71 = some (.tableswitch 136 1 5 #[33, 42, 84, 69, 108], 33, 0, 0, 0) := by decide +kernel
theorem s_37_71 {x0 x1 x2 x3 x4 x5 : Option Value} {x : Int32} : mw d 37 Q 71 [x0, x1, x2, x3, x4, x5] (.int x :: st) h = mS x (mw d 37 Q) 207 [x0, x1, x2, x3, x4, x5] st h [(1, 104), (2, 113), (3, 155), (4, 140), (5, 179)] := (mw_at mj_37_71).trans (z_tab (by decide) (by decide) (by decide +kernel))
theorem mj_37_104 : mc_P 37 104 = some (.aload_n 0, 1, 0, 0, 0) := by decide +kernel
theorem s_37_104 {x1 x2 x3 x4 x5 : Option Value} {w : Value} : mw d 37 Q 104 [some w, x1, x2, x3, x4, x5] (st) h = mv_a w (mw d 37 Q 105 [some w, x1, x2, x3, x4, x5] (w :: st) h) := (mw_at mj_37_104).trans (z_aload_n rfl)
theorem mj_37_105 : mc_P 37 105 = some (.iload 4, 2, 0, 0, 0) := by decide +kernel
theorem s_37_105 {x0 x1 x2 x3 x5 : Option Value} {w : Value} : mw d 37 Q 105 [x0, x1, x2, x3, some w, x5] (st) h = mv_i w (mw d 37 Q 107 [x0, x1, x2, x3, some w, x5] (w :: st) h) := (mw_at mj_37_105).trans (z_iload rfl)
theorem mj_37_107 : mc_P 37 107 = some (.invokevirtual 188, 3, 38, 2, 2) := by decide +kernel
theorem s_37_107 {x0 x1 x2 x3 x4 x5 : Option Value} {o : Nat} {a1 : Value} : mw (d + 1) 37 Q 107 [x0, x1, x2, x3, x4, x5] (a1 :: .ref o :: st) h = (mg h o 2 ∧ mca st 8 ∧ mca [.ref o, a1] 2 ∧ mcall d 38 [.ref o, a1] h (mK (d + 1) 37 Q 110 [x0, x1, x2, x3, x4, x5] st)) := (mw_at mj_37_107).trans ((z_invv (As := [a1]) (by decide) rfl rfl).trans (congrArg (And _) (congrArg (And _) (mC_nl nl_38))))
theorem mj_37_110 : mc_P 37 110 = some (.goto 141, 3, 0, 0, 0) := by decide +kernel
theorem s_37_110 {x0 x1 x2 x3 x4 x5 : Option Value} : mw d 37 Q 110 [x0, x1, x2, x3, x4, x5] (st) h = mw d 37 Q 251 [x0, x1, x2, x3, x4, x5] (st) h := (mw_at mj_37_110).trans (z_goto (by decide))
theorem mj_37_113 : mc_P 37 113 = some (.aload_n 0, 1, 0, 0, 0) := by decide +kernel
theorem s_37_113 {x1 x2 x3 x4 x5 : Option Value} {w : Value} : mw d 37 Q 113 [some w, x1, x2, x3, x4, x5] (st) h = mv_a w (mw d 37 Q 114 [some w, x1, x2, x3, x4, x5] (w :: st) h) := (mw_at mj_37_113).trans (z_aload_n rfl)
theorem mj_37_114 : mc_P 37 114 = some (.aload_n 0, 1, 0, 0, 0) := by decide +kernel
theorem s_37_114 {x1 x2 x3 x4 x5 : Option Value} {w : Value} : mw d 37 Q 114 [some w, x1, x2, x3, x4, x5] (st) h = mv_a w (mw d 37 Q 115 [some w, x1, x2, x3, x4, x5] (w :: st) h) := (mw_at mj_37_114).trans (z_aload_n rfl)
theorem mj_37_115 : mc_P 37 115 = some (.getfield 15, 3, 2, 6, 0) := by decide +kernel
theorem s_37_115 {x0 x1 x2 x3 x4 x5 : Option Value} {o : Nat} : mw d 37 Q 115 [x0, x1, x2, x3, x4, x5] (.ref o :: st) h = (mg h o 2 ∧ mw d 37 Q 118 [x0, x1, x2, x3, x4, x5] (va_rf (mh_r h o 6) :: st) h) := (mw_at mj_37_115).trans (z_getr (by decide) (by decide) rfl)
theorem mj_37_118 : mc_P 37 118 = some (.aload_n 0, 1, 0, 0, 0) := by decide +kernel
theorem s_37_118 {x1 x2 x3 x4 x5 : Option Value} {w : Value} : mw d 37 Q 118 [some w, x1, x2, x3, x4, x5] (st) h = mv_a w (mw d 37 Q 119 [some w, x1, x2, x3, x4, x5] (w :: st) h) := (mw_at mj_37_118).trans (z_aload_n rfl)
theorem mj_37_119 : mc_P 37 119 = some (.getfield 27, 3, 2, 0, 0) := by decide +kernel
theorem s_37_119 {x0 x1 x2 x3 x4 x5 : Option Value} {o : Nat} : mw d 37 Q 119 [x0, x1, x2, x3, x4, x5] (.ref o :: st) h = (mg h o 2 ∧ mw d 37 Q 122 [x0, x1, x2, x3, x4, x5] (va_rf (mh_r h o 0) :: st) h) := (mw_at mj_37_119).trans (z_getr (by decide) (by decide) rfl)
theorem mj_37_122 : mc_P 37 122 = some (.getfield 89, 3, 4, 4, 0) := by decide +kernel
theorem s_37_122 {x0 x1 x2 x3 x4 x5 : Option Value} {o : Nat} : mw d 37 Q 122 [x0, x1, x2, x3, x4, x5] (.ref o :: st) h = (mg h o 4 ∧ mw d 37 Q 125 [x0, x1, x2, x3, x4, x5] (va_rf (mh_r h o 4) :: st) h) := (mw_at mj_37_122).trans (z_getr (by decide) (by decide) rfl)
theorem mj_37_125 : mc_P 37 125 = some (.aload_n 0, 1, 0, 0, 0) := by decide +kernel
theorem s_37_125 {x1 x2 x3 x4 x5 : Option Value} {w : Value} : mw d 37 Q 125 [some w, x1, x2, x3, x4, x5] (st) h = mv_a w (mw d 37 Q 126 [some w, x1, x2, x3, x4, x5] (w :: st) h) := (mw_at mj_37_125).trans (z_aload_n rfl)
theorem mj_37_126 : mc_P 37 126 = some (.getfield 35, 3, 2, 4, 0) := by decide +kernel
theorem s_37_126 {x0 x1 x2 x3 x4 x5 : Option Value} {o : Nat} : mw d 37 Q 126 [x0, x1, x2, x3, x4, x5] (.ref o :: st) h = (mg h o 2 ∧ mw d 37 Q 129 [x0, x1, x2, x3, x4, x5] (.int (mh_i h o 4) :: st) h) := (mw_at mj_37_126).trans (z_geti (by decide) (by decide) (Or.inl rfl))
theorem mj_37_129 : mc_P 37 129 = some (.iaload, 1, 0, 0, 0) := by decide +kernel
theorem s_37_129 {x0 x1 x2 x3 x4 x5 : Option Value} {o : Nat} {i : Int32} : mw d 37 Q 129 [x0, x1, x2, x3, x4, x5] (.int i :: .ref o :: st) h = (mg h o 100 ∧ mx i (mh_l h o) ∧ mw d 37 Q 130 [x0, x1, x2, x3, x4, x5] (.int (mh_i h o i.toNatClampNeg) :: st) h) := (mw_at mj_37_129).trans (z_iald)
theorem mj_37_130 : mc_P 37 130 = some (.iload 4, 2, 0, 0, 0) := by decide +kernel
theorem s_37_130 {x0 x1 x2 x3 x5 : Option Value} {w : Value} : mw d 37 Q 130 [x0, x1, x2, x3, some w, x5] (st) h = mv_i w (mw d 37 Q 132 [x0, x1, x2, x3, some w, x5] (w :: st) h) := (mw_at mj_37_130).trans (z_iload rfl)
theorem mj_37_132 : mc_P 37 132 = some (.iadd, 1, 0, 0, 0) := by decide +kernel
theorem s_37_132 {x0 x1 x2 x3 x4 x5 : Option Value} {x w : Int32} : mw d 37 Q 132 [x0, x1, x2, x3, x4, x5] (.int w :: .int x :: st) h = mw d 37 Q 133 [x0, x1, x2, x3, x4, x5] (.int (x + w) :: st) h := (mw_at mj_37_132).trans (z_iadd)
theorem mj_37_133 : mc_P 37 133 = some (.iaload, 1, 0, 0, 0) := by decide +kernel
theorem s_37_133 {x0 x1 x2 x3 x4 x5 : Option Value} {o : Nat} {i : Int32} : mw d 37 Q 133 [x0, x1, x2, x3, x4, x5] (.int i :: .ref o :: st) h = (mg h o 100 ∧ mx i (mh_l h o) ∧ mw d 37 Q 134 [x0, x1, x2, x3, x4, x5] (.int (mh_i h o i.toNatClampNeg) :: st) h) := (mw_at mj_37_133).trans (z_iald)
theorem mj_37_134 : mc_P 37 134 = some (.invokevirtual 188, 3, 38, 2, 2) := by decide +kernel
theorem s_37_134 {x0 x1 x2 x3 x4 x5 : Option Value} {o : Nat} {a1 : Value} : mw (d + 1) 37 Q 134 [x0, x1, x2, x3, x4, x5] (a1 :: .ref o :: st) h = (mg h o 2 ∧ mca st 8 ∧ mca [.ref o, a1] 2 ∧ mcall d 38 [.ref o, a1] h (mK (d + 1) 37 Q 137 [x0, x1, x2, x3, x4, x5] st)) := (mw_at mj_37_134).trans ((z_invv (As := [a1]) (by decide) rfl rfl).trans (congrArg (And _) (congrArg (And _) (mC_nl nl_38))))
theorem mj_37_137 : mc_P 37 137 = some (.goto 114, 3, 0, 0, 0) := by decide +kernel
theorem s_37_137 {x0 x1 x2 x3 x4 x5 : Option Value} : mw d 37 Q 137 [x0, x1, x2, x3, x4, x5] (st) h = mw d 37 Q 251 [x0, x1, x2, x3, x4, x5] (st) h := (mw_at mj_37_137).trans (z_goto (by decide))
theorem mj_37_140 : mc_P 37 140 = some (.aload_n 0, 1, 0, 0, 0) := by decide +kernel
theorem s_37_140 {x1 x2 x3 x4 x5 : Option Value} {w : Value} : mw d 37 Q 140 [some w, x1, x2, x3, x4, x5] (st) h = mv_a w (mw d 37 Q 141 [some w, x1, x2, x3, x4, x5] (w :: st) h) := (mw_at mj_37_140).trans (z_aload_n rfl)
theorem mj_37_141 : mc_P 37 141 = some (.aload_n 0, 1, 0, 0, 0) := by decide +kernel
theorem s_37_141 {x1 x2 x3 x4 x5 : Option Value} {w : Value} : mw d 37 Q 141 [some w, x1, x2, x3, x4, x5] (st) h = mv_a w (mw d 37 Q 142 [some w, x1, x2, x3, x4, x5] (w :: st) h) := (mw_at mj_37_141).trans (z_aload_n rfl)
theorem mj_37_142 : mc_P 37 142 = some (.iload 4, 2, 0, 0, 0) := by decide +kernel
theorem s_37_142 {x0 x1 x2 x3 x5 : Option Value} {w : Value} : mw d 37 Q 142 [x0, x1, x2, x3, some w, x5] (st) h = mv_i w (mw d 37 Q 144 [x0, x1, x2, x3, some w, x5] (w :: st) h) := (mw_at mj_37_142).trans (z_iload rfl)
theorem mj_37_144 : mc_P 37 144 = some (.iload 5, 2, 0, 0, 0) := by decide +kernel
theorem s_37_144 {x0 x1 x2 x3 x4 : Option Value} {w : Value} : mw d 37 Q 144 [x0, x1, x2, x3, x4, some w] (st) h = mv_i w (mw d 37 Q 146 [x0, x1, x2, x3, x4, some w] (w :: st) h) := (mw_at mj_37_144).trans (z_iload rfl)
theorem mj_37_146 : mc_P 37 146 = some (.invokevirtual 191, 3, 40, 2, 3) := by decide +kernel
theorem s_37_146 {x0 x1 x2 x3 x4 x5 : Option Value} {o : Nat} {a1 a2 : Value} : mw (d + 1) 37 Q 146 [x0, x1, x2, x3, x4, x5] (a2 :: a1 :: .ref o :: st) h = (mg h o 2 ∧ mca st 8 ∧ mca [.ref o, a1, a2] 4 ∧ mcall d 40 [.ref o, a1, a2] h (mK (d + 1) 37 Q 149 [x0, x1, x2, x3, x4, x5] st)) := (mw_at mj_37_146).trans ((z_invv (As := [a1, a2]) (by decide) rfl rfl).trans (congrArg (And _) (congrArg (And _) (mC_nl nl_40))))
theorem mj_37_149 : mc_P 37 149 = some (.invokevirtual 188, 3, 38, 2, 2) := by decide +kernel
theorem s_37_149 {x0 x1 x2 x3 x4 x5 : Option Value} {o : Nat} {a1 : Value} : mw (d + 1) 37 Q 149 [x0, x1, x2, x3, x4, x5] (a1 :: .ref o :: st) h = (mg h o 2 ∧ mca st 8 ∧ mca [.ref o, a1] 2 ∧ mcall d 38 [.ref o, a1] h (mK (d + 1) 37 Q 152 [x0, x1, x2, x3, x4, x5] st)) := (mw_at mj_37_149).trans ((z_invv (As := [a1]) (by decide) rfl rfl).trans (congrArg (And _) (congrArg (And _) (mC_nl nl_38))))
theorem mj_37_152 : mc_P 37 152 = some (.goto 99, 3, 0, 0, 0) := by decide +kernel
theorem s_37_152 {x0 x1 x2 x3 x4 x5 : Option Value} : mw d 37 Q 152 [x0, x1, x2, x3, x4, x5] (st) h = mw d 37 Q 251 [x0, x1, x2, x3, x4, x5] (st) h := (mw_at mj_37_152).trans (z_goto (by decide))
theorem mj_37_155 : mc_P 37 155 = some (.aload_n 0, 1, 0, 0, 0) := by decide +kernel
theorem s_37_155 {x1 x2 x3 x4 x5 : Option Value} {w : Value} : mw d 37 Q 155 [some w, x1, x2, x3, x4, x5] (st) h = mv_a w (mw d 37 Q 156 [some w, x1, x2, x3, x4, x5] (w :: st) h) := (mw_at mj_37_155).trans (z_aload_n rfl)
theorem mj_37_156 : mc_P 37 156 = some (.aload_n 0, 1, 0, 0, 0) := by decide +kernel
theorem s_37_156 {x1 x2 x3 x4 x5 : Option Value} {w : Value} : mw d 37 Q 156 [some w, x1, x2, x3, x4, x5] (st) h = mv_a w (mw d 37 Q 157 [some w, x1, x2, x3, x4, x5] (w :: st) h) := (mw_at mj_37_156).trans (z_aload_n rfl)
theorem mj_37_157 : mc_P 37 157 = some (.getfield 27, 3, 2, 0, 0) := by decide +kernel
theorem s_37_157 {x0 x1 x2 x3 x4 x5 : Option Value} {o : Nat} : mw d 37 Q 157 [x0, x1, x2, x3, x4, x5] (.ref o :: st) h = (mg h o 2 ∧ mw d 37 Q 160 [x0, x1, x2, x3, x4, x5] (va_rf (mh_r h o 0) :: st) h) := (mw_at mj_37_157).trans (z_getr (by decide) (by decide) rfl)
theorem mj_37_160 : mc_P 37 160 = some (.getfield 146, 3, 4, 5, 0) := by decide +kernel
theorem s_37_160 {x0 x1 x2 x3 x4 x5 : Option Value} {o : Nat} : mw d 37 Q 160 [x0, x1, x2, x3, x4, x5] (.ref o :: st) h = (mg h o 4 ∧ mw d 37 Q 163 [x0, x1, x2, x3, x4, x5] (va_rf (mh_r h o 5) :: st) h) := (mw_at mj_37_160).trans (z_getr (by decide) (by decide) rfl)
theorem mj_37_163 : mc_P 37 163 = some (.aload_n 0, 1, 0, 0, 0) := by decide +kernel
theorem s_37_163 {x1 x2 x3 x4 x5 : Option Value} {w : Value} : mw d 37 Q 163 [some w, x1, x2, x3, x4, x5] (st) h = mv_a w (mw d 37 Q 164 [some w, x1, x2, x3, x4, x5] (w :: st) h) := (mw_at mj_37_163).trans (z_aload_n rfl)
theorem mj_37_164 : mc_P 37 164 = some (.getfield 35, 3, 2, 4, 0) := by decide +kernel
theorem s_37_164 {x0 x1 x2 x3 x4 x5 : Option Value} {o : Nat} : mw d 37 Q 164 [x0, x1, x2, x3, x4, x5] (.ref o :: st) h = (mg h o 2 ∧ mw d 37 Q 167 [x0, x1, x2, x3, x4, x5] (.int (mh_i h o 4) :: st) h) := (mw_at mj_37_164).trans (z_geti (by decide) (by decide) (Or.inl rfl))
theorem mj_37_167 : mc_P 37 167 = some (.iaload, 1, 0, 0, 0) := by decide +kernel
theorem s_37_167 {x0 x1 x2 x3 x4 x5 : Option Value} {o : Nat} {i : Int32} : mw d 37 Q 167 [x0, x1, x2, x3, x4, x5] (.int i :: .ref o :: st) h = (mg h o 100 ∧ mx i (mh_l h o) ∧ mw d 37 Q 168 [x0, x1, x2, x3, x4, x5] (.int (mh_i h o i.toNatClampNeg) :: st) h) := (mw_at mj_37_167).trans (z_iald)
theorem mj_37_168 : mc_P 37 168 = some (.iload 4, 2, 0, 0, 0) := by decide +kernel
theorem s_37_168 {x0 x1 x2 x3 x5 : Option Value} {w : Value} : mw d 37 Q 168 [x0, x1, x2, x3, some w, x5] (st) h = mv_i w (mw d 37 Q 170 [x0, x1, x2, x3, some w, x5] (w :: st) h) := (mw_at mj_37_168).trans (z_iload rfl)
theorem mj_37_170 : mc_P 37 170 = some (.iadd, 1, 0, 0, 0) := by decide +kernel
theorem s_37_170 {x0 x1 x2 x3 x4 x5 : Option Value} {x w : Int32} : mw d 37 Q 170 [x0, x1, x2, x3, x4, x5] (.int w :: .int x :: st) h = mw d 37 Q 171 [x0, x1, x2, x3, x4, x5] (.int (x + w) :: st) h := (mw_at mj_37_170).trans (z_iadd)
theorem mj_37_171 : mc_P 37 171 = some (.iload 5, 2, 0, 0, 0) := by decide +kernel
theorem s_37_171 {x0 x1 x2 x3 x4 : Option Value} {w : Value} : mw d 37 Q 171 [x0, x1, x2, x3, x4, some w] (st) h = mv_i w (mw d 37 Q 173 [x0, x1, x2, x3, x4, some w] (w :: st) h) := (mw_at mj_37_171).trans (z_iload rfl)
theorem mj_37_173 : mc_P 37 173 = some (.invokevirtual 194, 3, 41, 2, 3) := by decide +kernel
theorem s_37_173 {x0 x1 x2 x3 x4 x5 : Option Value} {o : Nat} {a1 a2 : Value} : mw (d + 1) 37 Q 173 [x0, x1, x2, x3, x4, x5] (a2 :: a1 :: .ref o :: st) h = (mg h o 2 ∧ mca st 8 ∧ mca [.ref o, a1, a2] 4 ∧ mcall d 41 [.ref o, a1, a2] h (mK (d + 1) 37 Q 176 [x0, x1, x2, x3, x4, x5] st)) := (mw_at mj_37_173).trans ((z_invv (As := [a1, a2]) (by decide) rfl rfl).trans (congrArg (And _) (congrArg (And _) (mC_nl nl_41))))
theorem mj_37_176 : mc_P 37 176 = some (.goto 75, 3, 0, 0, 0) := by decide +kernel
theorem s_37_176 {x0 x1 x2 x3 x4 x5 : Option Value} : mw d 37 Q 176 [x0, x1, x2, x3, x4, x5] (st) h = mw d 37 Q 251 [x0, x1, x2, x3, x4, x5] (st) h := (mw_at mj_37_176).trans (z_goto (by decide))
theorem mj_37_179 : mc_P 37 179 = some (.aload_n 0, 1, 0, 0, 0) := by decide +kernel
theorem s_37_179 {x1 x2 x3 x4 x5 : Option Value} {w : Value} : mw d 37 Q 179 [some w, x1, x2, x3, x4, x5] (st) h = mv_a w (mw d 37 Q 180 [some w, x1, x2, x3, x4, x5] (w :: st) h) := (mw_at mj_37_179).trans (z_aload_n rfl)
theorem mj_37_180 : mc_P 37 180 = some (.dup, 1, 0, 0, 0) := by decide +kernel
theorem s_37_180 {x0 x1 x2 x3 x4 x5 : Option Value} {w : Value} : mw d 37 Q 180 [x0, x1, x2, x3, x4, x5] (w :: st) h = (w.category = 1 ∧ mw d 37 Q 181 [x0, x1, x2, x3, x4, x5] (w :: w :: st) h) := (mw_at mj_37_180).trans (z_dup)
theorem mj_37_181 : mc_P 37 181 = some (.getfield 179, 3, 2, 12, 0) := by decide +kernel
theorem s_37_181 {x0 x1 x2 x3 x4 x5 : Option Value} {o : Nat} : mw d 37 Q 181 [x0, x1, x2, x3, x4, x5] (.ref o :: st) h = (mg h o 2 ∧ mw d 37 Q 184 [x0, x1, x2, x3, x4, x5] (.int (mh_i h o 12) :: st) h) := (mw_at mj_37_181).trans (z_geti (by decide) (by decide) (Or.inl rfl))
theorem mj_37_184 : mc_P 37 184 = some (.iconst 1, 1, 0, 0, 0) := by decide +kernel
theorem s_37_184 {x0 x1 x2 x3 x4 x5 : Option Value} : mw d 37 Q 184 [x0, x1, x2, x3, x4, x5] (st) h = mw d 37 Q 185 [x0, x1, x2, x3, x4, x5] (.int 1 :: st) h := (mw_at mj_37_184).trans (z_iconst (by decide))
theorem mj_37_185 : mc_P 37 185 = some (.isub, 1, 0, 0, 0) := by decide +kernel
theorem s_37_185 {x0 x1 x2 x3 x4 x5 : Option Value} {x w : Int32} : mw d 37 Q 185 [x0, x1, x2, x3, x4, x5] (.int w :: .int x :: st) h = mw d 37 Q 186 [x0, x1, x2, x3, x4, x5] (.int (x - w) :: st) h := (mw_at mj_37_185).trans (z_isub)
theorem mj_37_186 : mc_P 37 186 = some (.putfield 179, 3, 2, 12, 0) := by decide +kernel
theorem s_37_186 {x0 x1 x2 x3 x4 x5 : Option Value} {o : Nat} {w : Int32} : mw d 37 Q 186 [x0, x1, x2, x3, x4, x5] (.int w :: .ref o :: st) h = (mg h o 2 ∧ mw d 37 Q 189 [x0, x1, x2, x3, x4, x5] (st) (mh_si h o 12 w)) := (mw_at mj_37_186).trans (z_puti (by decide) (by decide) rfl)
theorem mj_37_189 : mc_P 37 189 = some (.aload_n 0, 1, 0, 0, 0) := by decide +kernel
theorem s_37_189 {x1 x2 x3 x4 x5 : Option Value} {w : Value} : mw d 37 Q 189 [some w, x1, x2, x3, x4, x5] (st) h = mv_a w (mw d 37 Q 190 [some w, x1, x2, x3, x4, x5] (w :: st) h) := (mw_at mj_37_189).trans (z_aload_n rfl)
theorem mj_37_190 : mc_P 37 190 = some (.aload_n 0, 1, 0, 0, 0) := by decide +kernel
theorem s_37_190 {x1 x2 x3 x4 x5 : Option Value} {w : Value} : mw d 37 Q 190 [some w, x1, x2, x3, x4, x5] (st) h = mv_a w (mw d 37 Q 191 [some w, x1, x2, x3, x4, x5] (w :: st) h) := (mw_at mj_37_190).trans (z_aload_n rfl)
theorem mj_37_191 : mc_P 37 191 = some (.getfield 24, 3, 2, 11, 0) := by decide +kernel
theorem s_37_191 {x0 x1 x2 x3 x4 x5 : Option Value} {o : Nat} : mw d 37 Q 191 [x0, x1, x2, x3, x4, x5] (.ref o :: st) h = (mg h o 2 ∧ mw d 37 Q 194 [x0, x1, x2, x3, x4, x5] (va_rf (mh_r h o 11) :: st) h) := (mw_at mj_37_191).trans (z_getr (by decide) (by decide) rfl)
theorem mj_37_194 : mc_P 37 194 = some (.aload_n 0, 1, 0, 0, 0) := by decide +kernel
theorem s_37_194 {x1 x2 x3 x4 x5 : Option Value} {w : Value} : mw d 37 Q 194 [some w, x1, x2, x3, x4, x5] (st) h = mv_a w (mw d 37 Q 195 [some w, x1, x2, x3, x4, x5] (w :: st) h) := (mw_at mj_37_194).trans (z_aload_n rfl)
theorem mj_37_195 : mc_P 37 195 = some (.getfield 179, 3, 2, 12, 0) := by decide +kernel
theorem s_37_195 {x0 x1 x2 x3 x4 x5 : Option Value} {o : Nat} : mw d 37 Q 195 [x0, x1, x2, x3, x4, x5] (.ref o :: st) h = (mg h o 2 ∧ mw d 37 Q 198 [x0, x1, x2, x3, x4, x5] (.int (mh_i h o 12) :: st) h) := (mw_at mj_37_195).trans (z_geti (by decide) (by decide) (Or.inl rfl))
theorem mj_37_198 : mc_P 37 198 = some (.iaload, 1, 0, 0, 0) := by decide +kernel
theorem s_37_198 {x0 x1 x2 x3 x4 x5 : Option Value} {o : Nat} {i : Int32} : mw d 37 Q 198 [x0, x1, x2, x3, x4, x5] (.int i :: .ref o :: st) h = (mg h o 100 ∧ mx i (mh_l h o) ∧ mw d 37 Q 199 [x0, x1, x2, x3, x4, x5] (.int (mh_i h o i.toNatClampNeg) :: st) h) := (mw_at mj_37_198).trans (z_iald)
theorem mj_37_199 : mc_P 37 199 = some (.i2l, 1, 0, 0, 0) := by decide +kernel
theorem s_37_199 {x0 x1 x2 x3 x4 x5 : Option Value} {x : Int32} : mw d 37 Q 199 [x0, x1, x2, x3, x4, x5] (.int x :: st) h = mw d 37 Q 200 [x0, x1, x2, x3, x4, x5] (.long x.toInt64 :: st) h := (mw_at mj_37_199).trans (z_i2l)
theorem mj_37_200 : mc_P 37 200 = some (.lneg, 1, 0, 0, 0) := by decide +kernel
theorem s_37_200 {x0 x1 x2 x3 x4 x5 : Option Value} {x : Int64} : mw d 37 Q 200 [x0, x1, x2, x3, x4, x5] (.long x :: st) h = mw d 37 Q 201 [x0, x1, x2, x3, x4, x5] (.long (-x) :: st) h := (mw_at mj_37_200).trans (z_lneg)
theorem mj_37_201 : mc_P 37 201 = some (.invokevirtual 197, 3, 39, 2, 2) := by decide +kernel
theorem s_37_201 {x0 x1 x2 x3 x4 x5 : Option Value} {o : Nat} {a1 : Value} : mw (d + 1) 37 Q 201 [x0, x1, x2, x3, x4, x5] (a1 :: .ref o :: st) h = (mg h o 2 ∧ mca st 8 ∧ mca [.ref o, a1] 3 ∧ mcall d 39 [.ref o, a1] h (mK (d + 1) 37 Q 204 [x0, x1, x2, x3, x4, x5] st)) := (mw_at mj_37_201).trans ((z_invv (As := [a1]) (by decide) rfl rfl).trans (congrArg (And _) (congrArg (And _) (mC_nl nl_39))))
theorem mj_37_204 : mc_P 37 204 = some (.goto 47, 3, 0, 0, 0) := by decide +kernel
theorem s_37_204 {x0 x1 x2 x3 x4 x5 : Option Value} : mw d 37 Q 204 [x0, x1, x2, x3, x4, x5] (st) h = mw d 37 Q 251 [x0, x1, x2, x3, x4, x5] (st) h := (mw_at mj_37_204).trans (z_goto (by decide))
theorem mj_37_207 : mc_P 37 207 = some (.aload_n 0, 1, 0, 0, 0) := by decide +kernel
theorem s_37_207 {x1 x2 x3 x4 x5 : Option Value} {w : Value} : mw d 37 Q 207 [some w, x1, x2, x3, x4, x5] (st) h = mv_a w (mw d 37 Q 208 [some w, x1, x2, x3, x4, x5] (w :: st) h) := (mw_at mj_37_207).trans (z_aload_n rfl)
theorem mj_37_208 : mc_P 37 208 = some (.dup, 1, 0, 0, 0) := by decide +kernel
theorem s_37_208 {x0 x1 x2 x3 x4 x5 : Option Value} {w : Value} : mw d 37 Q 208 [x0, x1, x2, x3, x4, x5] (w :: st) h = (w.category = 1 ∧ mw d 37 Q 209 [x0, x1, x2, x3, x4, x5] (w :: w :: st) h) := (mw_at mj_37_208).trans (z_dup)
theorem mj_37_209 : mc_P 37 209 = some (.getfield 179, 3, 2, 12, 0) := by decide +kernel
theorem s_37_209 {x0 x1 x2 x3 x4 x5 : Option Value} {o : Nat} : mw d 37 Q 209 [x0, x1, x2, x3, x4, x5] (.ref o :: st) h = (mg h o 2 ∧ mw d 37 Q 212 [x0, x1, x2, x3, x4, x5] (.int (mh_i h o 12) :: st) h) := (mw_at mj_37_209).trans (z_geti (by decide) (by decide) (Or.inl rfl))
theorem mj_37_212 : mc_P 37 212 = some (.iconst 2, 1, 0, 0, 0) := by decide +kernel
theorem s_37_212 {x0 x1 x2 x3 x4 x5 : Option Value} : mw d 37 Q 212 [x0, x1, x2, x3, x4, x5] (st) h = mw d 37 Q 213 [x0, x1, x2, x3, x4, x5] (.int 2 :: st) h := (mw_at mj_37_212).trans (z_iconst (by decide))
theorem mj_37_213 : mc_P 37 213 = some (.isub, 1, 0, 0, 0) := by decide +kernel
theorem s_37_213 {x0 x1 x2 x3 x4 x5 : Option Value} {x w : Int32} : mw d 37 Q 213 [x0, x1, x2, x3, x4, x5] (.int w :: .int x :: st) h = mw d 37 Q 214 [x0, x1, x2, x3, x4, x5] (.int (x - w) :: st) h := (mw_at mj_37_213).trans (z_isub)
theorem mj_37_214 : mc_P 37 214 = some (.putfield 179, 3, 2, 12, 0) := by decide +kernel
theorem s_37_214 {x0 x1 x2 x3 x4 x5 : Option Value} {o : Nat} {w : Int32} : mw d 37 Q 214 [x0, x1, x2, x3, x4, x5] (.int w :: .ref o :: st) h = (mg h o 2 ∧ mw d 37 Q 217 [x0, x1, x2, x3, x4, x5] (st) (mh_si h o 12 w)) := (mw_at mj_37_214).trans (z_puti (by decide) (by decide) rfl)
theorem mj_37_217 : mc_P 37 217 = some (.aload_n 0, 1, 0, 0, 0) := by decide +kernel
theorem s_37_217 {x1 x2 x3 x4 x5 : Option Value} {w : Value} : mw d 37 Q 217 [some w, x1, x2, x3, x4, x5] (st) h = mv_a w (mw d 37 Q 218 [some w, x1, x2, x3, x4, x5] (w :: st) h) := (mw_at mj_37_217).trans (z_aload_n rfl)
theorem mj_37_218 : mc_P 37 218 = some (.aload_n 2, 1, 0, 0, 0) := by decide +kernel
theorem s_37_218 {x0 x1 x3 x4 x5 : Option Value} {w : Value} : mw d 37 Q 218 [x0, x1, some w, x3, x4, x5] (st) h = mv_a w (mw d 37 Q 219 [x0, x1, some w, x3, x4, x5] (w :: st) h) := (mw_at mj_37_218).trans (z_aload_n rfl)
theorem mj_37_219 : mc_P 37 219 = some (.getfield 185, 3, 7, 0, 0) := by decide +kernel
theorem s_37_219 {x0 x1 x2 x3 x4 x5 : Option Value} {o : Nat} : mw d 37 Q 219 [x0, x1, x2, x3, x4, x5] (.ref o :: st) h = (mg h o 7 ∧ mw d 37 Q 222 [x0, x1, x2, x3, x4, x5] (va_rf (mh_r h o 0) :: st) h) := (mw_at mj_37_219).trans (z_getr (by decide) (by decide) rfl)
theorem mj_37_222 : mc_P 37 222 = some (.iconst 3, 1, 0, 0, 0) := by decide +kernel
theorem s_37_222 {x0 x1 x2 x3 x4 x5 : Option Value} : mw d 37 Q 222 [x0, x1, x2, x3, x4, x5] (st) h = mw d 37 Q 223 [x0, x1, x2, x3, x4, x5] (.int 3 :: st) h := (mw_at mj_37_222).trans (z_iconst (by decide))
theorem mj_37_223 : mc_P 37 223 = some (.iload_n 3, 1, 0, 0, 0) := by decide +kernel
theorem s_37_223 {x0 x1 x2 x4 x5 : Option Value} {w : Value} : mw d 37 Q 223 [x0, x1, x2, some w, x4, x5] (st) h = mv_i w (mw d 37 Q 224 [x0, x1, x2, some w, x4, x5] (w :: st) h) := (mw_at mj_37_223).trans (z_iload_n rfl)
theorem mj_37_224 : mc_P 37 224 = some (.imul, 1, 0, 0, 0) := by decide +kernel
theorem s_37_224 {x0 x1 x2 x3 x4 x5 : Option Value} {x w : Int32} : mw d 37 Q 224 [x0, x1, x2, x3, x4, x5] (.int w :: .int x :: st) h = mw d 37 Q 225 [x0, x1, x2, x3, x4, x5] (.int (x * w) :: st) h := (mw_at mj_37_224).trans (z_imul)
theorem mj_37_225 : mc_P 37 225 = some (.iaload, 1, 0, 0, 0) := by decide +kernel
theorem s_37_225 {x0 x1 x2 x3 x4 x5 : Option Value} {o : Nat} {i : Int32} : mw d 37 Q 225 [x0, x1, x2, x3, x4, x5] (.int i :: .ref o :: st) h = (mg h o 100 ∧ mx i (mh_l h o) ∧ mw d 37 Q 226 [x0, x1, x2, x3, x4, x5] (.int (mh_i h o i.toNatClampNeg) :: st) h) := (mw_at mj_37_225).trans (z_iald)
theorem mj_37_226 : mc_P 37 226 = some (.aload_n 0, 1, 0, 0, 0) := by decide +kernel
theorem s_37_226 {x1 x2 x3 x4 x5 : Option Value} {w : Value} : mw d 37 Q 226 [some w, x1, x2, x3, x4, x5] (st) h = mv_a w (mw d 37 Q 227 [some w, x1, x2, x3, x4, x5] (w :: st) h) := (mw_at mj_37_226).trans (z_aload_n rfl)
theorem mj_37_227 : mc_P 37 227 = some (.getfield 24, 3, 2, 11, 0) := by decide +kernel
theorem s_37_227 {x0 x1 x2 x3 x4 x5 : Option Value} {o : Nat} : mw d 37 Q 227 [x0, x1, x2, x3, x4, x5] (.ref o :: st) h = (mg h o 2 ∧ mw d 37 Q 230 [x0, x1, x2, x3, x4, x5] (va_rf (mh_r h o 11) :: st) h) := (mw_at mj_37_227).trans (z_getr (by decide) (by decide) rfl)
theorem mj_37_230 : mc_P 37 230 = some (.aload_n 0, 1, 0, 0, 0) := by decide +kernel
theorem s_37_230 {x1 x2 x3 x4 x5 : Option Value} {w : Value} : mw d 37 Q 230 [some w, x1, x2, x3, x4, x5] (st) h = mv_a w (mw d 37 Q 231 [some w, x1, x2, x3, x4, x5] (w :: st) h) := (mw_at mj_37_230).trans (z_aload_n rfl)
theorem mj_37_231 : mc_P 37 231 = some (.getfield 179, 3, 2, 12, 0) := by decide +kernel
theorem s_37_231 {x0 x1 x2 x3 x4 x5 : Option Value} {o : Nat} : mw d 37 Q 231 [x0, x1, x2, x3, x4, x5] (.ref o :: st) h = (mg h o 2 ∧ mw d 37 Q 234 [x0, x1, x2, x3, x4, x5] (.int (mh_i h o 12) :: st) h) := (mw_at mj_37_231).trans (z_geti (by decide) (by decide) (Or.inl rfl))
theorem mj_37_234 : mc_P 37 234 = some (.iaload, 1, 0, 0, 0) := by decide +kernel
theorem s_37_234 {x0 x1 x2 x3 x4 x5 : Option Value} {o : Nat} {i : Int32} : mw d 37 Q 234 [x0, x1, x2, x3, x4, x5] (.int i :: .ref o :: st) h = (mg h o 100 ∧ mx i (mh_l h o) ∧ mw d 37 Q 235 [x0, x1, x2, x3, x4, x5] (.int (mh_i h o i.toNatClampNeg) :: st) h) := (mw_at mj_37_234).trans (z_iald)
theorem mj_37_235 : mc_P 37 235 = some (.i2l, 1, 0, 0, 0) := by decide +kernel
theorem s_37_235 {x0 x1 x2 x3 x4 x5 : Option Value} {x : Int32} : mw d 37 Q 235 [x0, x1, x2, x3, x4, x5] (.int x :: st) h = mw d 37 Q 236 [x0, x1, x2, x3, x4, x5] (.long x.toInt64 :: st) h := (mw_at mj_37_235).trans (z_i2l)
theorem mj_37_236 : mc_P 37 236 = some (.aload_n 0, 1, 0, 0, 0) := by decide +kernel
theorem s_37_236 {x1 x2 x3 x4 x5 : Option Value} {w : Value} : mw d 37 Q 236 [some w, x1, x2, x3, x4, x5] (st) h = mv_a w (mw d 37 Q 237 [some w, x1, x2, x3, x4, x5] (w :: st) h) := (mw_at mj_37_236).trans (z_aload_n rfl)
theorem mj_37_237 : mc_P 37 237 = some (.getfield 24, 3, 2, 11, 0) := by decide +kernel
theorem s_37_237 {x0 x1 x2 x3 x4 x5 : Option Value} {o : Nat} : mw d 37 Q 237 [x0, x1, x2, x3, x4, x5] (.ref o :: st) h = (mg h o 2 ∧ mw d 37 Q 240 [x0, x1, x2, x3, x4, x5] (va_rf (mh_r h o 11) :: st) h) := (mw_at mj_37_237).trans (z_getr (by decide) (by decide) rfl)
theorem mj_37_240 : mc_P 37 240 = some (.aload_n 0, 1, 0, 0, 0) := by decide +kernel
theorem s_37_240 {x1 x2 x3 x4 x5 : Option Value} {w : Value} : mw d 37 Q 240 [some w, x1, x2, x3, x4, x5] (st) h = mv_a w (mw d 37 Q 241 [some w, x1, x2, x3, x4, x5] (w :: st) h) := (mw_at mj_37_240).trans (z_aload_n rfl)
theorem mj_37_241 : mc_P 37 241 = some (.getfield 179, 3, 2, 12, 0) := by decide +kernel
theorem s_37_241 {x0 x1 x2 x3 x4 x5 : Option Value} {o : Nat} : mw d 37 Q 241 [x0, x1, x2, x3, x4, x5] (.ref o :: st) h = (mg h o 2 ∧ mw d 37 Q 244 [x0, x1, x2, x3, x4, x5] (.int (mh_i h o 12) :: st) h) := (mw_at mj_37_241).trans (z_geti (by decide) (by decide) (Or.inl rfl))
theorem mj_37_244 : mc_P 37 244 = some (.iconst 1, 1, 0, 0, 0) := by decide +kernel
theorem s_37_244 {x0 x1 x2 x3 x4 x5 : Option Value} : mw d 37 Q 244 [x0, x1, x2, x3, x4, x5] (st) h = mw d 37 Q 245 [x0, x1, x2, x3, x4, x5] (.int 1 :: st) h := (mw_at mj_37_244).trans (z_iconst (by decide))
theorem mj_37_245 : mc_P 37 245 = some (.iadd, 1, 0, 0, 0) := by decide +kernel
theorem s_37_245 {x0 x1 x2 x3 x4 x5 : Option Value} {x w : Int32} : mw d 37 Q 245 [x0, x1, x2, x3, x4, x5] (.int w :: .int x :: st) h = mw d 37 Q 246 [x0, x1, x2, x3, x4, x5] (.int (x + w) :: st) h := (mw_at mj_37_245).trans (z_iadd)
theorem mj_37_246 : mc_P 37 246 = some (.iaload, 1, 0, 0, 0) := by decide +kernel
theorem s_37_246 {x0 x1 x2 x3 x4 x5 : Option Value} {o : Nat} {i : Int32} : mw d 37 Q 246 [x0, x1, x2, x3, x4, x5] (.int i :: .ref o :: st) h = (mg h o 100 ∧ mx i (mh_l h o) ∧ mw d 37 Q 247 [x0, x1, x2, x3, x4, x5] (.int (mh_i h o i.toNatClampNeg) :: st) h) := (mw_at mj_37_246).trans (z_iald)
theorem mj_37_247 : mc_P 37 247 = some (.i2l, 1, 0, 0, 0) := by decide +kernel
theorem s_37_247 {x0 x1 x2 x3 x4 x5 : Option Value} {x : Int32} : mw d 37 Q 247 [x0, x1, x2, x3, x4, x5] (.int x :: st) h = mw d 37 Q 248 [x0, x1, x2, x3, x4, x5] (.long x.toInt64 :: st) h := (mw_at mj_37_247).trans (z_i2l)
theorem mj_37_248 : mc_P 37 248 = some (.invokevirtual 201, 3, 42, 2, 4) := by decide +kernel
theorem s_37_248 {x0 x1 x2 x3 x4 x5 : Option Value} {o : Nat} {a1 a2 a3 : Value} : mw (d + 1) 37 Q 248 [x0, x1, x2, x3, x4, x5] (a3 :: a2 :: a1 :: .ref o :: st) h = (mg h o 2 ∧ mca st 8 ∧ mca [.ref o, a1, a2, a3] 6 ∧ mcall d 42 [.ref o, a1, a2, a3] h (mK (d + 1) 37 Q 251 [x0, x1, x2, x3, x4, x5] st)) := (mw_at mj_37_248).trans ((z_invv (As := [a1, a2, a3]) (by decide) rfl rfl).trans (congrArg (And _) (congrArg (And _) (mC_nl nl_42))))
theorem mj_37_251 : mc_P 37 251 = some (.iinc 3 1, 3, 0, 0, 0) := by decide +kernel
theorem s_37_251 {x0 x1 x2 x4 x5 : Option Value} {w : Int32} : mw d 37 Q 251 [x0, x1, x2, some (.int w), x4, x5] (st) h = mw d 37 Q 254 [x0, x1, mk2 x2, some (.int (w + 1)), x4, x5] (st) h := (mw_at mj_37_251).trans (z_iinc rfl (Nat.le_of_ble_eq_true rfl) (by decide) (me_s1_mk (j := 2) (w := x2) rfl))
theorem mj_37_254 : mc_P 37 254 = some (.goto (-234), 3, 0, 0, 0) := by decide +kernel
theorem s_37_254 {x0 x1 x2 x3 x4 x5 : Option Value} : mw d 37 Q 254 [x0, x1, x2, x3, x4, x5] (st) h = mw d 37 Q 20 [x0, x1, x2, x3, x4, x5] (st) h := (mw_at mj_37_254).trans (z_goto (by decide))
theorem mj_37_257 : mc_P 37 257 = some (.aload_n 0, 1, 0, 0, 0) := by decide +kernel
theorem s_37_257 {x1 x2 x3 x4 x5 : Option Value} {w : Value} : mw d 37 Q 257 [some w, x1, x2, x3, x4, x5] (st) h = mv_a w (mw d 37 Q 258 [some w, x1, x2, x3, x4, x5] (w :: st) h) := (mw_at mj_37_257).trans (z_aload_n rfl)
theorem mj_37_258 : mc_P 37 258 = some (.getfield 24, 3, 2, 11, 0) := by decide +kernel
theorem s_37_258 {x0 x1 x2 x3 x4 x5 : Option Value} {o : Nat} : mw d 37 Q 258 [x0, x1, x2, x3, x4, x5] (.ref o :: st) h = (mg h o 2 ∧ mw d 37 Q 261 [x0, x1, x2, x3, x4, x5] (va_rf (mh_r h o 11) :: st) h) := (mw_at mj_37_258).trans (z_getr (by decide) (by decide) rfl)
theorem mj_37_261 : mc_P 37 261 = some (.iconst 0, 1, 0, 0, 0) := by decide +kernel
theorem s_37_261 {x0 x1 x2 x3 x4 x5 : Option Value} : mw d 37 Q 261 [x0, x1, x2, x3, x4, x5] (st) h = mw d 37 Q 262 [x0, x1, x2, x3, x4, x5] (.int 0 :: st) h := (mw_at mj_37_261).trans (z_iconst (by decide))
theorem mj_37_262 : mc_P 37 262 = some (.iaload, 1, 0, 0, 0) := by decide +kernel
theorem s_37_262 {x0 x1 x2 x3 x4 x5 : Option Value} {o : Nat} {i : Int32} : mw d 37 Q 262 [x0, x1, x2, x3, x4, x5] (.int i :: .ref o :: st) h = (mg h o 100 ∧ mx i (mh_l h o) ∧ mw d 37 Q 263 [x0, x1, x2, x3, x4, x5] (.int (mh_i h o i.toNatClampNeg) :: st) h) := (mw_at mj_37_262).trans (z_iald)
theorem mj_37_263 : mc_P 37 263 = some (.ireturn, 1, 0, 0, 0) := by decide +kernel
theorem s_37_263 {x0 x1 x2 x3 x4 x5 : Option Value} {x : Int32} : mw d 37 Q 263 [x0, x1, x2, x3, x4, x5] ([.int x]) h = (Q (some (.int x)) h) := (mw_at mj_37_263).trans (z_iret)
theorem e_37 {a0 : Nat} {a1 : Int32} : mcall d 37 [.ref a0, .int a1] h Q = mw d 37 Q 0 [some (.ref a0), some (.int a1), none, none, none, none] [] h := by
  show mw d 37 Q 0 (me_en (mc_nl 37) _) [] h = _
  rw [nl_37]; rfl

/-! InvariantDesk$Machine.push(I)V -/
theorem mj_38_0 : mc_P 38 0 = some (.aload_n 0, 1, 0, 0, 0) := by decide +kernel
theorem s_38_0 {x1 : Option Value} {w : Value} : mw d 38 Q 0 [some w, x1] (st) h = mv_a w (mw d 38 Q 1 [some w, x1] (w :: st) h) := (mw_at mj_38_0).trans (z_aload_n rfl)
theorem mj_38_1 : mc_P 38 1 = some (.getfield 24, 3, 2, 11, 0) := by decide +kernel
theorem s_38_1 {x0 x1 : Option Value} {o : Nat} : mw d 38 Q 1 [x0, x1] (.ref o :: st) h = (mg h o 2 ∧ mw d 38 Q 4 [x0, x1] (va_rf (mh_r h o 11) :: st) h) := (mw_at mj_38_1).trans (z_getr (by decide) (by decide) rfl)
theorem mj_38_4 : mc_P 38 4 = some (.aload_n 0, 1, 0, 0, 0) := by decide +kernel
theorem s_38_4 {x1 : Option Value} {w : Value} : mw d 38 Q 4 [some w, x1] (st) h = mv_a w (mw d 38 Q 5 [some w, x1] (w :: st) h) := (mw_at mj_38_4).trans (z_aload_n rfl)
theorem mj_38_5 : mc_P 38 5 = some (.getfield 179, 3, 2, 12, 0) := by decide +kernel
theorem s_38_5 {x0 x1 : Option Value} {o : Nat} : mw d 38 Q 5 [x0, x1] (.ref o :: st) h = (mg h o 2 ∧ mw d 38 Q 8 [x0, x1] (.int (mh_i h o 12) :: st) h) := (mw_at mj_38_5).trans (z_geti (by decide) (by decide) (Or.inl rfl))
theorem mj_38_8 : mc_P 38 8 = some (.iload_n 1, 1, 0, 0, 0) := by decide +kernel
theorem s_38_8 {x0 : Option Value} {w : Value} : mw d 38 Q 8 [x0, some w] (st) h = mv_i w (mw d 38 Q 9 [x0, some w] (w :: st) h) := (mw_at mj_38_8).trans (z_iload_n rfl)
theorem mj_38_9 : mc_P 38 9 = some (.iastore, 1, 0, 0, 0) := by decide +kernel
theorem s_38_9 {x0 x1 : Option Value} {o : Nat} {i w : Int32} : mw d 38 Q 9 [x0, x1] (.int w :: .int i :: .ref o :: st) h = (mg h o 100 ∧ mx i (mh_l h o) ∧ mw d 38 Q 10 [x0, x1] (st) (mh_si h o i.toNatClampNeg w)) := (mw_at mj_38_9).trans (z_iast)
theorem mj_38_10 : mc_P 38 10 = some (.aload_n 0, 1, 0, 0, 0) := by decide +kernel
theorem s_38_10 {x1 : Option Value} {w : Value} : mw d 38 Q 10 [some w, x1] (st) h = mv_a w (mw d 38 Q 11 [some w, x1] (w :: st) h) := (mw_at mj_38_10).trans (z_aload_n rfl)
theorem mj_38_11 : mc_P 38 11 = some (.dup, 1, 0, 0, 0) := by decide +kernel
theorem s_38_11 {x0 x1 : Option Value} {w : Value} : mw d 38 Q 11 [x0, x1] (w :: st) h = (w.category = 1 ∧ mw d 38 Q 12 [x0, x1] (w :: w :: st) h) := (mw_at mj_38_11).trans (z_dup)
theorem mj_38_12 : mc_P 38 12 = some (.getfield 179, 3, 2, 12, 0) := by decide +kernel
theorem s_38_12 {x0 x1 : Option Value} {o : Nat} : mw d 38 Q 12 [x0, x1] (.ref o :: st) h = (mg h o 2 ∧ mw d 38 Q 15 [x0, x1] (.int (mh_i h o 12) :: st) h) := (mw_at mj_38_12).trans (z_geti (by decide) (by decide) (Or.inl rfl))
theorem mj_38_15 : mc_P 38 15 = some (.iconst 1, 1, 0, 0, 0) := by decide +kernel
theorem s_38_15 {x0 x1 : Option Value} : mw d 38 Q 15 [x0, x1] (st) h = mw d 38 Q 16 [x0, x1] (.int 1 :: st) h := (mw_at mj_38_15).trans (z_iconst (by decide))
theorem mj_38_16 : mc_P 38 16 = some (.iadd, 1, 0, 0, 0) := by decide +kernel
theorem s_38_16 {x0 x1 : Option Value} {x w : Int32} : mw d 38 Q 16 [x0, x1] (.int w :: .int x :: st) h = mw d 38 Q 17 [x0, x1] (.int (x + w) :: st) h := (mw_at mj_38_16).trans (z_iadd)
theorem mj_38_17 : mc_P 38 17 = some (.putfield 179, 3, 2, 12, 0) := by decide +kernel
theorem s_38_17 {x0 x1 : Option Value} {o : Nat} {w : Int32} : mw d 38 Q 17 [x0, x1] (.int w :: .ref o :: st) h = (mg h o 2 ∧ mw d 38 Q 20 [x0, x1] (st) (mh_si h o 12 w)) := (mw_at mj_38_17).trans (z_puti (by decide) (by decide) rfl)
theorem mj_38_20 : mc_P 38 20 = some (.return_, 1, 0, 0, 0) := by decide +kernel
theorem s_38_20 {x0 x1 : Option Value} : mw d 38 Q 20 [x0, x1] ([]) h = Q none h := (mw_at mj_38_20).trans (z_vret)
theorem e_38 {a0 : Nat} {a1 : Int32} : mcall d 38 [.ref a0, .int a1] h Q = mw d 38 Q 0 [some (.ref a0), some (.int a1)] [] h := by
  show mw d 38 Q 0 (me_en (mc_nl 38) _) [] h = _
  rw [nl_38]; rfl

/-! InvariantDesk$Machine.pushInt(J)V -/
theorem mj_39_0 : mc_P 39 0 = some (.lload_n 1, 1, 0, 0, 0) := by decide +kernel
theorem s_39_0 {x0 x2 : Option Value} {w : Value} : mw d 39 Q 0 [x0, some w, x2] (st) h = mv_l w (mw d 39 Q 1 [x0, some w, x2] (w :: st) h) := (mw_at mj_39_0).trans (z_lload_n rfl)
theorem mj_39_1 : mc_P 39 1 = some (.ldc2_w 205, 3, 0, 0, (-2147483648)) := by decide +kernel
theorem s_39_1 {x0 x1 x2 : Option Value} : mw d 39 Q 1 [x0, x1, x2] (st) h = mw d 39 Q 4 [x0, x1, x2] (.long (-2147483648) :: st) h := (mw_at mj_39_1).trans (z_ldc2 (by decide))
theorem mj_39_4 : mc_P 39 4 = some (.lcmp, 1, 0, 0, 0) := by decide +kernel
theorem s_39_4 {x0 x1 x2 : Option Value} {x w : Int64} : mw d 39 Q 4 [x0, x1, x2] (.long w :: .long x :: st) h = mw d 39 Q 5 [x0, x1, x2] (.int (lg_cmp x w) :: st) h := (mw_at mj_39_4).trans (z_lcmp)
theorem mj_39_5 : mc_P 39 5 = some (.ifCond .lt 11, 3, 0, 0, 0) := by decide +kernel
theorem s_39_5 {x0 x1 x2 : Option Value} {x : Int32} : mw d 39 Q 5 [x0, x1, x2] (.int x :: st) h = mB (x < 0) (mw d 39 Q) 16 8 [x0, x1, x2] st h := (mw_at mj_39_5).trans (z_if_lt (by decide) rfl)
theorem mj_39_8 : mc_P 39 8 = some (.lload_n 1, 1, 0, 0, 0) := by decide +kernel
theorem s_39_8 {x0 x2 : Option Value} {w : Value} : mw d 39 Q 8 [x0, some w, x2] (st) h = mv_l w (mw d 39 Q 9 [x0, some w, x2] (w :: st) h) := (mw_at mj_39_8).trans (z_lload_n rfl)
theorem mj_39_9 : mc_P 39 9 = some (.ldc2_w 207, 3, 0, 0, 2147483647) := by decide +kernel
theorem s_39_9 {x0 x1 x2 : Option Value} : mw d 39 Q 9 [x0, x1, x2] (st) h = mw d 39 Q 12 [x0, x1, x2] (.long 2147483647 :: st) h := (mw_at mj_39_9).trans (z_ldc2 (by decide))
theorem mj_39_12 : mc_P 39 12 = some (.lcmp, 1, 0, 0, 0) := by decide +kernel
theorem s_39_12 {x0 x1 x2 : Option Value} {x w : Int64} : mw d 39 Q 12 [x0, x1, x2] (.long w :: .long x :: st) h = mw d 39 Q 13 [x0, x1, x2] (.int (lg_cmp x w) :: st) h := (mw_at mj_39_12).trans (z_lcmp)
theorem mj_39_13 : mc_P 39 13 = some (.ifCond .le 8, 3, 0, 0, 0) := by decide +kernel
theorem s_39_13 {x0 x1 x2 : Option Value} {x : Int32} : mw d 39 Q 13 [x0, x1, x2] (.int x :: st) h = mB (x ≤ 0) (mw d 39 Q) 21 16 [x0, x1, x2] st h := (mw_at mj_39_13).trans (z_if_le (by decide) rfl)
theorem mj_39_16 : mc_P 39 16 = some (.aload_n 0, 1, 0, 0, 0) := by decide +kernel
theorem s_39_16 {x1 x2 : Option Value} {w : Value} : mw d 39 Q 16 [some w, x1, x2] (st) h = mv_a w (mw d 39 Q 17 [some w, x1, x2] (w :: st) h) := (mw_at mj_39_16).trans (z_aload_n rfl)
theorem mj_39_17 : mc_P 39 17 = some (.iconst 1, 1, 0, 0, 0) := by decide +kernel
theorem s_39_17 {x0 x1 x2 : Option Value} : mw d 39 Q 17 [x0, x1, x2] (st) h = mw d 39 Q 18 [x0, x1, x2] (.int 1 :: st) h := (mw_at mj_39_17).trans (z_iconst (by decide))
theorem mj_39_18 : mc_P 39 18 = some (.invokevirtual 136, 3, 31, 2, 2) := by decide +kernel
theorem s_39_18 {x0 x1 x2 : Option Value} {o : Nat} {a1 : Value} : mw (d + 1) 39 Q 18 [x0, x1, x2] (a1 :: .ref o :: st) h = (mg h o 2 ∧ mca st 8 ∧ mca [.ref o, a1] 2 ∧ mcall d 31 [.ref o, a1] h (mK (d + 1) 39 Q 21 [x0, x1, x2] st)) := (mw_at mj_39_18).trans ((z_invv (As := [a1]) (by decide) rfl rfl).trans (congrArg (And _) (congrArg (And _) (mC_nl nl_31))))
theorem mj_39_21 : mc_P 39 21 = some (.aload_n 0, 1, 0, 0, 0) := by decide +kernel
theorem s_39_21 {x1 x2 : Option Value} {w : Value} : mw d 39 Q 21 [some w, x1, x2] (st) h = mv_a w (mw d 39 Q 22 [some w, x1, x2] (w :: st) h) := (mw_at mj_39_21).trans (z_aload_n rfl)
theorem mj_39_22 : mc_P 39 22 = some (.lload_n 1, 1, 0, 0, 0) := by decide +kernel
theorem s_39_22 {x0 x2 : Option Value} {w : Value} : mw d 39 Q 22 [x0, some w, x2] (st) h = mv_l w (mw d 39 Q 23 [x0, some w, x2] (w :: st) h) := (mw_at mj_39_22).trans (z_lload_n rfl)
theorem mj_39_23 : mc_P 39 23 = some (.l2i, 1, 0, 0, 0) := by decide +kernel
theorem s_39_23 {x0 x1 x2 : Option Value} {x : Int64} : mw d 39 Q 23 [x0, x1, x2] (.long x :: st) h = mw d 39 Q 24 [x0, x1, x2] (.int x.toInt32 :: st) h := (mw_at mj_39_23).trans (z_l2i)
theorem mj_39_24 : mc_P 39 24 = some (.invokevirtual 188, 3, 38, 2, 2) := by decide +kernel
theorem s_39_24 {x0 x1 x2 : Option Value} {o : Nat} {a1 : Value} : mw (d + 1) 39 Q 24 [x0, x1, x2] (a1 :: .ref o :: st) h = (mg h o 2 ∧ mca st 8 ∧ mca [.ref o, a1] 2 ∧ mcall d 38 [.ref o, a1] h (mK (d + 1) 39 Q 27 [x0, x1, x2] st)) := (mw_at mj_39_24).trans ((z_invv (As := [a1]) (by decide) rfl rfl).trans (congrArg (And _) (congrArg (And _) (mC_nl nl_38))))
theorem mj_39_27 : mc_P 39 27 = some (.return_, 1, 0, 0, 0) := by decide +kernel
theorem s_39_27 {x0 x1 x2 : Option Value} : mw d 39 Q 27 [x0, x1, x2] ([]) h = Q none h := (mw_at mj_39_27).trans (z_vret)
theorem e_39 {a0 : Nat} {a1 : Int64} : mcall d 39 [.ref a0, .long a1] h Q = mw d 39 Q 0 [some (.ref a0), some (.long a1), none] [] h := by
  show mw d 39 Q 0 (me_en (mc_nl 39) _) [] h = _
  rw [nl_39]; rfl

/-! InvariantDesk$Machine.nextInput(II)I -/
theorem mj_40_0 : mc_P 40 0 = some (.iconst 0, 1, 0, 0, 0) := by decide +kernel
theorem s_40_0 {x0 x1 x2 x3 : Option Value} : mw d 40 Q 0 [x0, x1, x2, x3] (st) h = mw d 40 Q 1 [x0, x1, x2, x3] (.int 0 :: st) h := (mw_at mj_40_0).trans (z_iconst (by decide))
theorem mj_40_1 : mc_P 40 1 = some (.istore_n 3, 1, 0, 0, 0) := by decide +kernel
theorem s_40_1 {x0 x1 x2 x3 : Option Value} {w : Int32} : mw d 40 Q 1 [x0, x1, x2, x3] (.int w :: st) h = mw d 40 Q 2 [x0, x1, mk2 x2, some (.int w)] (st) h := (mw_at mj_40_1).trans (z_istore_n (Nat.le_of_ble_eq_true rfl) (me_s1_mk (j := 2) (w := x2) rfl))
theorem mj_40_2 : mc_P 40 2 = some (.aload_n 0, 1, 0, 0, 0) := by decide +kernel
theorem s_40_2 {x1 x2 x3 : Option Value} {w : Value} : mw d 40 Q 2 [some w, x1, x2, x3] (st) h = mv_a w (mw d 40 Q 3 [some w, x1, x2, x3] (w :: st) h) := (mw_at mj_40_2).trans (z_aload_n rfl)
theorem mj_40_3 : mc_P 40 3 = some (.getfield 41, 3, 2, 3, 0) := by decide +kernel
theorem s_40_3 {x0 x1 x2 x3 : Option Value} {o : Nat} : mw d 40 Q 3 [x0, x1, x2, x3] (.ref o :: st) h = (mg h o 2 ∧ mw d 40 Q 6 [x0, x1, x2, x3] (.int (mh_i h o 3) :: st) h) := (mw_at mj_40_3).trans (z_geti (by decide) (by decide) (Or.inl rfl))
theorem mj_40_6 : mc_P 40 6 = some (.aload_n 0, 1, 0, 0, 0) := by decide +kernel
theorem s_40_6 {x1 x2 x3 : Option Value} {w : Value} : mw d 40 Q 6 [some w, x1, x2, x3] (st) h = mv_a w (mw d 40 Q 7 [some w, x1, x2, x3] (w :: st) h) := (mw_at mj_40_6).trans (z_aload_n rfl)
theorem mj_40_7 : mc_P 40 7 = some (.getfield 31, 3, 2, 2, 0) := by decide +kernel
theorem s_40_7 {x0 x1 x2 x3 : Option Value} {o : Nat} : mw d 40 Q 7 [x0, x1, x2, x3] (.ref o :: st) h = (mg h o 2 ∧ mw d 40 Q 10 [x0, x1, x2, x3] (.int (mh_i h o 2) :: st) h) := (mw_at mj_40_7).trans (z_geti (by decide) (by decide) (Or.inl rfl))
theorem mj_40_10 : mc_P 40 10 = some (.if_icmp .ge 23, 3, 0, 0, 0) := by decide +kernel
theorem s_40_10 {x0 x1 x2 x3 : Option Value} {x w : Int32} : mw d 40 Q 10 [x0, x1, x2, x3] (.int w :: .int x :: st) h = mB (w ≤ x) (mw d 40 Q) 33 13 [x0, x1, x2, x3] st h := (mw_at mj_40_10).trans (z_icmp_ge (by decide) rfl)
theorem mj_40_13 : mc_P 40 13 = some (.aload_n 0, 1, 0, 0, 0) := by decide +kernel
theorem s_40_13 {x1 x2 x3 : Option Value} {w : Value} : mw d 40 Q 13 [some w, x1, x2, x3] (st) h = mv_a w (mw d 40 Q 14 [some w, x1, x2, x3] (w :: st) h) := (mw_at mj_40_13).trans (z_aload_n rfl)
theorem mj_40_14 : mc_P 40 14 = some (.getfield 9, 3, 2, 1, 0) := by decide +kernel
theorem s_40_14 {x0 x1 x2 x3 : Option Value} {o : Nat} : mw d 40 Q 14 [x0, x1, x2, x3] (.ref o :: st) h = (mg h o 2 ∧ mw d 40 Q 17 [x0, x1, x2, x3] (va_rf (mh_r h o 1) :: st) h) := (mw_at mj_40_14).trans (z_getr (by decide) (by decide) rfl)
theorem mj_40_17 : mc_P 40 17 = some (.aload_n 0, 1, 0, 0, 0) := by decide +kernel
theorem s_40_17 {x1 x2 x3 : Option Value} {w : Value} : mw d 40 Q 17 [some w, x1, x2, x3] (st) h = mv_a w (mw d 40 Q 18 [some w, x1, x2, x3] (w :: st) h) := (mw_at mj_40_17).trans (z_aload_n rfl)
theorem mj_40_18 : mc_P 40 18 = some (.getfield 41, 3, 2, 3, 0) := by decide +kernel
theorem s_40_18 {x0 x1 x2 x3 : Option Value} {o : Nat} : mw d 40 Q 18 [x0, x1, x2, x3] (.ref o :: st) h = (mg h o 2 ∧ mw d 40 Q 21 [x0, x1, x2, x3] (.int (mh_i h o 3) :: st) h) := (mw_at mj_40_18).trans (z_geti (by decide) (by decide) (Or.inl rfl))
theorem mj_40_21 : mc_P 40 21 = some (.iaload, 1, 0, 0, 0) := by decide +kernel
theorem s_40_21 {x0 x1 x2 x3 : Option Value} {o : Nat} {i : Int32} : mw d 40 Q 21 [x0, x1, x2, x3] (.int i :: .ref o :: st) h = (mg h o 100 ∧ mx i (mh_l h o) ∧ mw d 40 Q 22 [x0, x1, x2, x3] (.int (mh_i h o i.toNatClampNeg) :: st) h) := (mw_at mj_40_21).trans (z_iald)
theorem mj_40_22 : mc_P 40 22 = some (.istore_n 3, 1, 0, 0, 0) := by decide +kernel
theorem s_40_22 {x0 x1 x2 x3 : Option Value} {w : Int32} : mw d 40 Q 22 [x0, x1, x2, x3] (.int w :: st) h = mw d 40 Q 23 [x0, x1, mk2 x2, some (.int w)] (st) h := (mw_at mj_40_22).trans (z_istore_n (Nat.le_of_ble_eq_true rfl) (me_s1_mk (j := 2) (w := x2) rfl))
theorem mj_40_23 : mc_P 40 23 = some (.aload_n 0, 1, 0, 0, 0) := by decide +kernel
theorem s_40_23 {x1 x2 x3 : Option Value} {w : Value} : mw d 40 Q 23 [some w, x1, x2, x3] (st) h = mv_a w (mw d 40 Q 24 [some w, x1, x2, x3] (w :: st) h) := (mw_at mj_40_23).trans (z_aload_n rfl)
theorem mj_40_24 : mc_P 40 24 = some (.dup, 1, 0, 0, 0) := by decide +kernel
theorem s_40_24 {x0 x1 x2 x3 : Option Value} {w : Value} : mw d 40 Q 24 [x0, x1, x2, x3] (w :: st) h = (w.category = 1 ∧ mw d 40 Q 25 [x0, x1, x2, x3] (w :: w :: st) h) := (mw_at mj_40_24).trans (z_dup)
theorem mj_40_25 : mc_P 40 25 = some (.getfield 41, 3, 2, 3, 0) := by decide +kernel
theorem s_40_25 {x0 x1 x2 x3 : Option Value} {o : Nat} : mw d 40 Q 25 [x0, x1, x2, x3] (.ref o :: st) h = (mg h o 2 ∧ mw d 40 Q 28 [x0, x1, x2, x3] (.int (mh_i h o 3) :: st) h) := (mw_at mj_40_25).trans (z_geti (by decide) (by decide) (Or.inl rfl))
theorem mj_40_28 : mc_P 40 28 = some (.iconst 1, 1, 0, 0, 0) := by decide +kernel
theorem s_40_28 {x0 x1 x2 x3 : Option Value} : mw d 40 Q 28 [x0, x1, x2, x3] (st) h = mw d 40 Q 29 [x0, x1, x2, x3] (.int 1 :: st) h := (mw_at mj_40_28).trans (z_iconst (by decide))
theorem mj_40_29 : mc_P 40 29 = some (.iadd, 1, 0, 0, 0) := by decide +kernel
theorem s_40_29 {x0 x1 x2 x3 : Option Value} {x w : Int32} : mw d 40 Q 29 [x0, x1, x2, x3] (.int w :: .int x :: st) h = mw d 40 Q 30 [x0, x1, x2, x3] (.int (x + w) :: st) h := (mw_at mj_40_29).trans (z_iadd)
theorem mj_40_30 : mc_P 40 30 = some (.putfield 41, 3, 2, 3, 0) := by decide +kernel
theorem s_40_30 {x0 x1 x2 x3 : Option Value} {o : Nat} {w : Int32} : mw d 40 Q 30 [x0, x1, x2, x3] (.int w :: .ref o :: st) h = (mg h o 2 ∧ mw d 40 Q 33 [x0, x1, x2, x3] (st) (mh_si h o 3 w)) := (mw_at mj_40_30).trans (z_puti (by decide) (by decide) rfl)
theorem mj_40_33 : mc_P 40 33 = some (.iload_n 3, 1, 0, 0, 0) := by decide +kernel
theorem s_40_33 {x0 x1 x2 : Option Value} {w : Value} : mw d 40 Q 33 [x0, x1, x2, some w] (st) h = mv_i w (mw d 40 Q 34 [x0, x1, x2, some w] (w :: st) h) := (mw_at mj_40_33).trans (z_iload_n rfl)
theorem mj_40_34 : mc_P 40 34 = some (.iload_n 1, 1, 0, 0, 0) := by decide +kernel
theorem s_40_34 {x0 x2 x3 : Option Value} {w : Value} : mw d 40 Q 34 [x0, some w, x2, x3] (st) h = mv_i w (mw d 40 Q 35 [x0, some w, x2, x3] (w :: st) h) := (mw_at mj_40_34).trans (z_iload_n rfl)
theorem mj_40_35 : mc_P 40 35 = some (.if_icmp .lt 8, 3, 0, 0, 0) := by decide +kernel
theorem s_40_35 {x0 x1 x2 x3 : Option Value} {x w : Int32} : mw d 40 Q 35 [x0, x1, x2, x3] (.int w :: .int x :: st) h = mB (x < w) (mw d 40 Q) 43 38 [x0, x1, x2, x3] st h := (mw_at mj_40_35).trans (z_icmp_lt (by decide) rfl)
theorem mj_40_38 : mc_P 40 38 = some (.iload_n 3, 1, 0, 0, 0) := by decide +kernel
theorem s_40_38 {x0 x1 x2 : Option Value} {w : Value} : mw d 40 Q 38 [x0, x1, x2, some w] (st) h = mv_i w (mw d 40 Q 39 [x0, x1, x2, some w] (w :: st) h) := (mw_at mj_40_38).trans (z_iload_n rfl)
theorem mj_40_39 : mc_P 40 39 = some (.iload_n 2, 1, 0, 0, 0) := by decide +kernel
theorem s_40_39 {x0 x1 x3 : Option Value} {w : Value} : mw d 40 Q 39 [x0, x1, some w, x3] (st) h = mv_i w (mw d 40 Q 40 [x0, x1, some w, x3] (w :: st) h) := (mw_at mj_40_39).trans (z_iload_n rfl)
theorem mj_40_40 : mc_P 40 40 = some (.if_icmp .le 7, 3, 0, 0, 0) := by decide +kernel
theorem s_40_40 {x0 x1 x2 x3 : Option Value} {x w : Int32} : mw d 40 Q 40 [x0, x1, x2, x3] (.int w :: .int x :: st) h = mB (x ≤ w) (mw d 40 Q) 47 43 [x0, x1, x2, x3] st h := (mw_at mj_40_40).trans (z_icmp_le (by decide) rfl)
theorem mj_40_43 : mc_P 40 43 = some (.iload_n 1, 1, 0, 0, 0) := by decide +kernel
theorem s_40_43 {x0 x2 x3 : Option Value} {w : Value} : mw d 40 Q 43 [x0, some w, x2, x3] (st) h = mv_i w (mw d 40 Q 44 [x0, some w, x2, x3] (w :: st) h) := (mw_at mj_40_43).trans (z_iload_n rfl)
theorem mj_40_44 : mc_P 40 44 = some (.goto 4, 3, 0, 0, 0) := by decide +kernel
theorem s_40_44 {x0 x1 x2 x3 : Option Value} : mw d 40 Q 44 [x0, x1, x2, x3] (st) h = mw d 40 Q 48 [x0, x1, x2, x3] (st) h := (mw_at mj_40_44).trans (z_goto (by decide))
theorem mj_40_47 : mc_P 40 47 = some (.iload_n 3, 1, 0, 0, 0) := by decide +kernel
theorem s_40_47 {x0 x1 x2 : Option Value} {w : Value} : mw d 40 Q 47 [x0, x1, x2, some w] (st) h = mv_i w (mw d 40 Q 48 [x0, x1, x2, some w] (w :: st) h) := (mw_at mj_40_47).trans (z_iload_n rfl)
theorem mj_40_48 : mc_P 40 48 = some (.ireturn, 1, 0, 0, 0) := by decide +kernel
theorem s_40_48 {x0 x1 x2 x3 : Option Value} {x : Int32} : mw d 40 Q 48 [x0, x1, x2, x3] ([.int x]) h = (Q (some (.int x)) h) := (mw_at mj_40_48).trans (z_iret)
theorem e_40 {a0 : Nat} {a1 : Int32} {a2 : Int32} : mcall d 40 [.ref a0, .int a1, .int a2] h Q = mw d 40 Q 0 [some (.ref a0), some (.int a1), some (.int a2), none] [] h := by
  show mw d 40 Q 0 (me_en (mc_nl 40) _) [] h = _
  rw [nl_40]; rfl

/-! InvariantDesk$Machine.takePlace(II)V -/
theorem mj_41_0 : mc_P 41 0 = some (.aload_n 0, 1, 0, 0, 0) := by decide +kernel
theorem s_41_0 {x1 x2 x3 : Option Value} {w : Value} : mw d 41 Q 0 [some w, x1, x2, x3] (st) h = mv_a w (mw d 41 Q 1 [some w, x1, x2, x3] (w :: st) h) := (mw_at mj_41_0).trans (z_aload_n rfl)
theorem mj_41_1 : mc_P 41 1 = some (.getfield 24, 3, 2, 11, 0) := by decide +kernel
theorem s_41_1 {x0 x1 x2 x3 : Option Value} {o : Nat} : mw d 41 Q 1 [x0, x1, x2, x3] (.ref o :: st) h = (mg h o 2 ∧ mw d 41 Q 4 [x0, x1, x2, x3] (va_rf (mh_r h o 11) :: st) h) := (mw_at mj_41_1).trans (z_getr (by decide) (by decide) rfl)
theorem mj_41_4 : mc_P 41 4 = some (.aload_n 0, 1, 0, 0, 0) := by decide +kernel
theorem s_41_4 {x1 x2 x3 : Option Value} {w : Value} : mw d 41 Q 4 [some w, x1, x2, x3] (st) h = mv_a w (mw d 41 Q 5 [some w, x1, x2, x3] (w :: st) h) := (mw_at mj_41_4).trans (z_aload_n rfl)
theorem mj_41_5 : mc_P 41 5 = some (.getfield 179, 3, 2, 12, 0) := by decide +kernel
theorem s_41_5 {x0 x1 x2 x3 : Option Value} {o : Nat} : mw d 41 Q 5 [x0, x1, x2, x3] (.ref o :: st) h = (mg h o 2 ∧ mw d 41 Q 8 [x0, x1, x2, x3] (.int (mh_i h o 12) :: st) h) := (mw_at mj_41_5).trans (z_geti (by decide) (by decide) (Or.inl rfl))
theorem mj_41_8 : mc_P 41 8 = some (.iconst 1, 1, 0, 0, 0) := by decide +kernel
theorem s_41_8 {x0 x1 x2 x3 : Option Value} : mw d 41 Q 8 [x0, x1, x2, x3] (st) h = mw d 41 Q 9 [x0, x1, x2, x3] (.int 1 :: st) h := (mw_at mj_41_8).trans (z_iconst (by decide))
theorem mj_41_9 : mc_P 41 9 = some (.isub, 1, 0, 0, 0) := by decide +kernel
theorem s_41_9 {x0 x1 x2 x3 : Option Value} {x w : Int32} : mw d 41 Q 9 [x0, x1, x2, x3] (.int w :: .int x :: st) h = mw d 41 Q 10 [x0, x1, x2, x3] (.int (x - w) :: st) h := (mw_at mj_41_9).trans (z_isub)
theorem mj_41_10 : mc_P 41 10 = some (.iaload, 1, 0, 0, 0) := by decide +kernel
theorem s_41_10 {x0 x1 x2 x3 : Option Value} {o : Nat} {i : Int32} : mw d 41 Q 10 [x0, x1, x2, x3] (.int i :: .ref o :: st) h = (mg h o 100 ∧ mx i (mh_l h o) ∧ mw d 41 Q 11 [x0, x1, x2, x3] (.int (mh_i h o i.toNatClampNeg) :: st) h) := (mw_at mj_41_10).trans (z_iald)
theorem mj_41_11 : mc_P 41 11 = some (.istore_n 3, 1, 0, 0, 0) := by decide +kernel
theorem s_41_11 {x0 x1 x2 x3 : Option Value} {w : Int32} : mw d 41 Q 11 [x0, x1, x2, x3] (.int w :: st) h = mw d 41 Q 12 [x0, x1, mk2 x2, some (.int w)] (st) h := (mw_at mj_41_11).trans (z_istore_n (Nat.le_of_ble_eq_true rfl) (me_s1_mk (j := 2) (w := x2) rfl))
theorem mj_41_12 : mc_P 41 12 = some (.iload_n 3, 1, 0, 0, 0) := by decide +kernel
theorem s_41_12 {x0 x1 x2 : Option Value} {w : Value} : mw d 41 Q 12 [x0, x1, x2, some w] (st) h = mv_i w (mw d 41 Q 13 [x0, x1, x2, some w] (w :: st) h) := (mw_at mj_41_12).trans (z_iload_n rfl)
theorem mj_41_13 : mc_P 41 13 = some (.ifCond .lt 8, 3, 0, 0, 0) := by decide +kernel
theorem s_41_13 {x0 x1 x2 x3 : Option Value} {x : Int32} : mw d 41 Q 13 [x0, x1, x2, x3] (.int x :: st) h = mB (x < 0) (mw d 41 Q) 21 16 [x0, x1, x2, x3] st h := (mw_at mj_41_13).trans (z_if_lt (by decide) rfl)
theorem mj_41_16 : mc_P 41 16 = some (.iload_n 3, 1, 0, 0, 0) := by decide +kernel
theorem s_41_16 {x0 x1 x2 : Option Value} {w : Value} : mw d 41 Q 16 [x0, x1, x2, some w] (st) h = mv_i w (mw d 41 Q 17 [x0, x1, x2, some w] (w :: st) h) := (mw_at mj_41_16).trans (z_iload_n rfl)
theorem mj_41_17 : mc_P 41 17 = some (.iload_n 2, 1, 0, 0, 0) := by decide +kernel
theorem s_41_17 {x0 x1 x3 : Option Value} {w : Value} : mw d 41 Q 17 [x0, x1, some w, x3] (st) h = mv_i w (mw d 41 Q 18 [x0, x1, some w, x3] (w :: st) h) := (mw_at mj_41_17).trans (z_iload_n rfl)
theorem mj_41_18 : mc_P 41 18 = some (.if_icmp .lt 11, 3, 0, 0, 0) := by decide +kernel
theorem s_41_18 {x0 x1 x2 x3 : Option Value} {x w : Int32} : mw d 41 Q 18 [x0, x1, x2, x3] (.int w :: .int x :: st) h = mB (x < w) (mw d 41 Q) 29 21 [x0, x1, x2, x3] st h := (mw_at mj_41_18).trans (z_icmp_lt (by decide) rfl)
theorem mj_41_21 : mc_P 41 21 = some (.aload_n 0, 1, 0, 0, 0) := by decide +kernel
theorem s_41_21 {x1 x2 x3 : Option Value} {w : Value} : mw d 41 Q 21 [some w, x1, x2, x3] (st) h = mv_a w (mw d 41 Q 22 [some w, x1, x2, x3] (w :: st) h) := (mw_at mj_41_21).trans (z_aload_n rfl)
theorem mj_41_22 : mc_P 41 22 = some (.iconst 4, 1, 0, 0, 0) := by decide +kernel
theorem s_41_22 {x0 x1 x2 x3 : Option Value} : mw d 41 Q 22 [x0, x1, x2, x3] (st) h = mw d 41 Q 23 [x0, x1, x2, x3] (.int 4 :: st) h := (mw_at mj_41_22).trans (z_iconst (by decide))
theorem mj_41_23 : mc_P 41 23 = some (.invokevirtual 136, 3, 31, 2, 2) := by decide +kernel
theorem s_41_23 {x0 x1 x2 x3 : Option Value} {o : Nat} {a1 : Value} : mw (d + 1) 41 Q 23 [x0, x1, x2, x3] (a1 :: .ref o :: st) h = (mg h o 2 ∧ mca st 8 ∧ mca [.ref o, a1] 2 ∧ mcall d 31 [.ref o, a1] h (mK (d + 1) 41 Q 26 [x0, x1, x2, x3] st)) := (mw_at mj_41_23).trans ((z_invv (As := [a1]) (by decide) rfl rfl).trans (congrArg (And _) (congrArg (And _) (mC_nl nl_31))))
theorem mj_41_26 : mc_P 41 26 = some (.goto 25, 3, 0, 0, 0) := by decide +kernel
theorem s_41_26 {x0 x1 x2 x3 : Option Value} : mw d 41 Q 26 [x0, x1, x2, x3] (st) h = mw d 41 Q 51 [x0, x1, x2, x3] (st) h := (mw_at mj_41_26).trans (z_goto (by decide))
theorem mj_41_29 : mc_P 41 29 = some (.aload_n 0, 1, 0, 0, 0) := by decide +kernel
theorem s_41_29 {x1 x2 x3 : Option Value} {w : Value} : mw d 41 Q 29 [some w, x1, x2, x3] (st) h = mv_a w (mw d 41 Q 30 [some w, x1, x2, x3] (w :: st) h) := (mw_at mj_41_29).trans (z_aload_n rfl)
theorem mj_41_30 : mc_P 41 30 = some (.getfield 24, 3, 2, 11, 0) := by decide +kernel
theorem s_41_30 {x0 x1 x2 x3 : Option Value} {o : Nat} : mw d 41 Q 30 [x0, x1, x2, x3] (.ref o :: st) h = (mg h o 2 ∧ mw d 41 Q 33 [x0, x1, x2, x3] (va_rf (mh_r h o 11) :: st) h) := (mw_at mj_41_30).trans (z_getr (by decide) (by decide) rfl)
theorem mj_41_33 : mc_P 41 33 = some (.aload_n 0, 1, 0, 0, 0) := by decide +kernel
theorem s_41_33 {x1 x2 x3 : Option Value} {w : Value} : mw d 41 Q 33 [some w, x1, x2, x3] (st) h = mv_a w (mw d 41 Q 34 [some w, x1, x2, x3] (w :: st) h) := (mw_at mj_41_33).trans (z_aload_n rfl)
theorem mj_41_34 : mc_P 41 34 = some (.getfield 179, 3, 2, 12, 0) := by decide +kernel
theorem s_41_34 {x0 x1 x2 x3 : Option Value} {o : Nat} : mw d 41 Q 34 [x0, x1, x2, x3] (.ref o :: st) h = (mg h o 2 ∧ mw d 41 Q 37 [x0, x1, x2, x3] (.int (mh_i h o 12) :: st) h) := (mw_at mj_41_34).trans (z_geti (by decide) (by decide) (Or.inl rfl))
theorem mj_41_37 : mc_P 41 37 = some (.iconst 1, 1, 0, 0, 0) := by decide +kernel
theorem s_41_37 {x0 x1 x2 x3 : Option Value} : mw d 41 Q 37 [x0, x1, x2, x3] (st) h = mw d 41 Q 38 [x0, x1, x2, x3] (.int 1 :: st) h := (mw_at mj_41_37).trans (z_iconst (by decide))
theorem mj_41_38 : mc_P 41 38 = some (.isub, 1, 0, 0, 0) := by decide +kernel
theorem s_41_38 {x0 x1 x2 x3 : Option Value} {x w : Int32} : mw d 41 Q 38 [x0, x1, x2, x3] (.int w :: .int x :: st) h = mw d 41 Q 39 [x0, x1, x2, x3] (.int (x - w) :: st) h := (mw_at mj_41_38).trans (z_isub)
theorem mj_41_39 : mc_P 41 39 = some (.aload_n 0, 1, 0, 0, 0) := by decide +kernel
theorem s_41_39 {x1 x2 x3 : Option Value} {w : Value} : mw d 41 Q 39 [some w, x1, x2, x3] (st) h = mv_a w (mw d 41 Q 40 [some w, x1, x2, x3] (w :: st) h) := (mw_at mj_41_39).trans (z_aload_n rfl)
theorem mj_41_40 : mc_P 41 40 = some (.getfield 18, 3, 2, 7, 0) := by decide +kernel
theorem s_41_40 {x0 x1 x2 x3 : Option Value} {o : Nat} : mw d 41 Q 40 [x0, x1, x2, x3] (.ref o :: st) h = (mg h o 2 ∧ mw d 41 Q 43 [x0, x1, x2, x3] (va_rf (mh_r h o 7) :: st) h) := (mw_at mj_41_40).trans (z_getr (by decide) (by decide) rfl)
theorem mj_41_43 : mc_P 41 43 = some (.iload_n 1, 1, 0, 0, 0) := by decide +kernel
theorem s_41_43 {x0 x2 x3 : Option Value} {w : Value} : mw d 41 Q 43 [x0, some w, x2, x3] (st) h = mv_i w (mw d 41 Q 44 [x0, some w, x2, x3] (w :: st) h) := (mw_at mj_41_43).trans (z_iload_n rfl)
theorem mj_41_44 : mc_P 41 44 = some (.bipush 64, 2, 0, 0, 0) := by decide +kernel
theorem s_41_44 {x0 x1 x2 x3 : Option Value} : mw d 41 Q 44 [x0, x1, x2, x3] (st) h = mw d 41 Q 46 [x0, x1, x2, x3] (.int 64 :: st) h := (mw_at mj_41_44).trans (z_bipush (by decide))
theorem mj_41_46 : mc_P 41 46 = some (.imul, 1, 0, 0, 0) := by decide +kernel
theorem s_41_46 {x0 x1 x2 x3 : Option Value} {x w : Int32} : mw d 41 Q 46 [x0, x1, x2, x3] (.int w :: .int x :: st) h = mw d 41 Q 47 [x0, x1, x2, x3] (.int (x * w) :: st) h := (mw_at mj_41_46).trans (z_imul)
theorem mj_41_47 : mc_P 41 47 = some (.iload_n 3, 1, 0, 0, 0) := by decide +kernel
theorem s_41_47 {x0 x1 x2 : Option Value} {w : Value} : mw d 41 Q 47 [x0, x1, x2, some w] (st) h = mv_i w (mw d 41 Q 48 [x0, x1, x2, some w] (w :: st) h) := (mw_at mj_41_47).trans (z_iload_n rfl)
theorem mj_41_48 : mc_P 41 48 = some (.iadd, 1, 0, 0, 0) := by decide +kernel
theorem s_41_48 {x0 x1 x2 x3 : Option Value} {x w : Int32} : mw d 41 Q 48 [x0, x1, x2, x3] (.int w :: .int x :: st) h = mw d 41 Q 49 [x0, x1, x2, x3] (.int (x + w) :: st) h := (mw_at mj_41_48).trans (z_iadd)
theorem mj_41_49 : mc_P 41 49 = some (.iaload, 1, 0, 0, 0) := by decide +kernel
theorem s_41_49 {x0 x1 x2 x3 : Option Value} {o : Nat} {i : Int32} : mw d 41 Q 49 [x0, x1, x2, x3] (.int i :: .ref o :: st) h = (mg h o 100 ∧ mx i (mh_l h o) ∧ mw d 41 Q 50 [x0, x1, x2, x3] (.int (mh_i h o i.toNatClampNeg) :: st) h) := (mw_at mj_41_49).trans (z_iald)
theorem mj_41_50 : mc_P 41 50 = some (.iastore, 1, 0, 0, 0) := by decide +kernel
theorem s_41_50 {x0 x1 x2 x3 : Option Value} {o : Nat} {i w : Int32} : mw d 41 Q 50 [x0, x1, x2, x3] (.int w :: .int i :: .ref o :: st) h = (mg h o 100 ∧ mx i (mh_l h o) ∧ mw d 41 Q 51 [x0, x1, x2, x3] (st) (mh_si h o i.toNatClampNeg w)) := (mw_at mj_41_50).trans (z_iast)
theorem mj_41_51 : mc_P 41 51 = some (.return_, 1, 0, 0, 0) := by decide +kernel
theorem s_41_51 {x0 x1 x2 x3 : Option Value} : mw d 41 Q 51 [x0, x1, x2, x3] ([]) h = Q none h := (mw_at mj_41_51).trans (z_vret)
theorem e_41 {a0 : Nat} {a1 : Int32} {a2 : Int32} : mcall d 41 [.ref a0, .int a1, .int a2] h Q = mw d 41 Q 0 [some (.ref a0), some (.int a1), some (.int a2), none] [] h := by
  show mw d 41 Q 0 (me_en (mc_nl 41) _) [] h = _
  rw [nl_41]; rfl

/-! InvariantDesk$Machine.operate(IJJ)V -/
theorem mj_42_0 : mc_P 42 0 = some (.iload_n 1, 1, 0, 0, 0) := by decide +kernel
theorem s_42_0 {x0 x2 x3 x4 x5 : Option Value} {w : Value} : mw d 42 Q 0 [x0, some w, x2, x3, x4, x5] (st) h = mv_i w (mw d 42 Q 1 [x0, some w, x2, x3, x4, x5] (w :: st) h) := (mw_at mj_42_0).trans (z_iload_n rfl)
theorem mj_42_1 : mc_P 42 1 = some (.bipush 43, 2, 0, 0, 0) := by decide +kernel
theorem s_42_1 {x0 x1 x2 x3 x4 x5 : Option Value} : mw d 42 Q 1 [x0, x1, x2, x3, x4, x5] (st) h = mw d 42 Q 3 [x0, x1, x2, x3, x4, x5] (.int 43 :: st) h := (mw_at mj_42_1).trans (z_bipush (by decide))
theorem mj_42_3 : mc_P 42 3 = some (.if_icmp .ne 14, 3, 0, 0, 0) := by decide +kernel
theorem s_42_3 {x0 x1 x2 x3 x4 x5 : Option Value} {x w : Int32} : mw d 42 Q 3 [x0, x1, x2, x3, x4, x5] (.int w :: .int x :: st) h = mB (¬ x = w) (mw d 42 Q) 17 6 [x0, x1, x2, x3, x4, x5] st h := (mw_at mj_42_3).trans (z_icmp_ne (by decide) rfl)
theorem mj_42_6 : mc_P 42 6 = some (.aload_n 0, 1, 0, 0, 0) := by decide +kernel
theorem s_42_6 {x1 x2 x3 x4 x5 : Option Value} {w : Value} : mw d 42 Q 6 [some w, x1, x2, x3, x4, x5] (st) h = mv_a w (mw d 42 Q 7 [some w, x1, x2, x3, x4, x5] (w :: st) h) := (mw_at mj_42_6).trans (z_aload_n rfl)
theorem mj_42_7 : mc_P 42 7 = some (.lload_n 2, 1, 0, 0, 0) := by decide +kernel
theorem s_42_7 {x0 x1 x3 x4 x5 : Option Value} {w : Value} : mw d 42 Q 7 [x0, x1, some w, x3, x4, x5] (st) h = mv_l w (mw d 42 Q 8 [x0, x1, some w, x3, x4, x5] (w :: st) h) := (mw_at mj_42_7).trans (z_lload_n rfl)
theorem mj_42_8 : mc_P 42 8 = some (.lload 4, 2, 0, 0, 0) := by decide +kernel
theorem s_42_8 {x0 x1 x2 x3 x5 : Option Value} {w : Value} : mw d 42 Q 8 [x0, x1, x2, x3, some w, x5] (st) h = mv_l w (mw d 42 Q 10 [x0, x1, x2, x3, some w, x5] (w :: st) h) := (mw_at mj_42_8).trans (z_lload rfl)
theorem mj_42_10 : mc_P 42 10 = some (.ladd, 1, 0, 0, 0) := by decide +kernel
theorem s_42_10 {x0 x1 x2 x3 x4 x5 : Option Value} {x w : Int64} : mw d 42 Q 10 [x0, x1, x2, x3, x4, x5] (.long w :: .long x :: st) h = mw d 42 Q 11 [x0, x1, x2, x3, x4, x5] (.long (x + w) :: st) h := (mw_at mj_42_10).trans (z_ladd)
theorem mj_42_11 : mc_P 42 11 = some (.invokevirtual 197, 3, 39, 2, 2) := by decide +kernel
theorem s_42_11 {x0 x1 x2 x3 x4 x5 : Option Value} {o : Nat} {a1 : Value} : mw (d + 1) 42 Q 11 [x0, x1, x2, x3, x4, x5] (a1 :: .ref o :: st) h = (mg h o 2 ∧ mca st 8 ∧ mca [.ref o, a1] 3 ∧ mcall d 39 [.ref o, a1] h (mK (d + 1) 42 Q 14 [x0, x1, x2, x3, x4, x5] st)) := (mw_at mj_42_11).trans ((z_invv (As := [a1]) (by decide) rfl rfl).trans (congrArg (And _) (congrArg (And _) (mC_nl nl_39))))
theorem mj_42_14 : mc_P 42 14 = some (.goto 73, 3, 0, 0, 0) := by decide +kernel
theorem s_42_14 {x0 x1 x2 x3 x4 x5 : Option Value} : mw d 42 Q 14 [x0, x1, x2, x3, x4, x5] (st) h = mw d 42 Q 87 [x0, x1, x2, x3, x4, x5] (st) h := (mw_at mj_42_14).trans (z_goto (by decide))
theorem mj_42_17 : mc_P 42 17 = some (.iload_n 1, 1, 0, 0, 0) := by decide +kernel
theorem s_42_17 {x0 x2 x3 x4 x5 : Option Value} {w : Value} : mw d 42 Q 17 [x0, some w, x2, x3, x4, x5] (st) h = mv_i w (mw d 42 Q 18 [x0, some w, x2, x3, x4, x5] (w :: st) h) := (mw_at mj_42_17).trans (z_iload_n rfl)
theorem mj_42_18 : mc_P 42 18 = some (.bipush 45, 2, 0, 0, 0) := by decide +kernel
theorem s_42_18 {x0 x1 x2 x3 x4 x5 : Option Value} : mw d 42 Q 18 [x0, x1, x2, x3, x4, x5] (st) h = mw d 42 Q 20 [x0, x1, x2, x3, x4, x5] (.int 45 :: st) h := (mw_at mj_42_18).trans (z_bipush (by decide))
theorem mj_42_20 : mc_P 42 20 = some (.if_icmp .ne 14, 3, 0, 0, 0) := by decide +kernel
theorem s_42_20 {x0 x1 x2 x3 x4 x5 : Option Value} {x w : Int32} : mw d 42 Q 20 [x0, x1, x2, x3, x4, x5] (.int w :: .int x :: st) h = mB (¬ x = w) (mw d 42 Q) 34 23 [x0, x1, x2, x3, x4, x5] st h := (mw_at mj_42_20).trans (z_icmp_ne (by decide) rfl)
theorem mj_42_23 : mc_P 42 23 = some (.aload_n 0, 1, 0, 0, 0) := by decide +kernel
theorem s_42_23 {x1 x2 x3 x4 x5 : Option Value} {w : Value} : mw d 42 Q 23 [some w, x1, x2, x3, x4, x5] (st) h = mv_a w (mw d 42 Q 24 [some w, x1, x2, x3, x4, x5] (w :: st) h) := (mw_at mj_42_23).trans (z_aload_n rfl)
theorem mj_42_24 : mc_P 42 24 = some (.lload_n 2, 1, 0, 0, 0) := by decide +kernel
theorem s_42_24 {x0 x1 x3 x4 x5 : Option Value} {w : Value} : mw d 42 Q 24 [x0, x1, some w, x3, x4, x5] (st) h = mv_l w (mw d 42 Q 25 [x0, x1, some w, x3, x4, x5] (w :: st) h) := (mw_at mj_42_24).trans (z_lload_n rfl)
theorem mj_42_25 : mc_P 42 25 = some (.lload 4, 2, 0, 0, 0) := by decide +kernel
theorem s_42_25 {x0 x1 x2 x3 x5 : Option Value} {w : Value} : mw d 42 Q 25 [x0, x1, x2, x3, some w, x5] (st) h = mv_l w (mw d 42 Q 27 [x0, x1, x2, x3, some w, x5] (w :: st) h) := (mw_at mj_42_25).trans (z_lload rfl)
theorem mj_42_27 : mc_P 42 27 = some (.lsub, 1, 0, 0, 0) := by decide +kernel
theorem s_42_27 {x0 x1 x2 x3 x4 x5 : Option Value} {x w : Int64} : mw d 42 Q 27 [x0, x1, x2, x3, x4, x5] (.long w :: .long x :: st) h = mw d 42 Q 28 [x0, x1, x2, x3, x4, x5] (.long (x - w) :: st) h := (mw_at mj_42_27).trans (z_lsub)
theorem mj_42_28 : mc_P 42 28 = some (.invokevirtual 197, 3, 39, 2, 2) := by decide +kernel
theorem s_42_28 {x0 x1 x2 x3 x4 x5 : Option Value} {o : Nat} {a1 : Value} : mw (d + 1) 42 Q 28 [x0, x1, x2, x3, x4, x5] (a1 :: .ref o :: st) h = (mg h o 2 ∧ mca st 8 ∧ mca [.ref o, a1] 3 ∧ mcall d 39 [.ref o, a1] h (mK (d + 1) 42 Q 31 [x0, x1, x2, x3, x4, x5] st)) := (mw_at mj_42_28).trans ((z_invv (As := [a1]) (by decide) rfl rfl).trans (congrArg (And _) (congrArg (And _) (mC_nl nl_39))))
theorem mj_42_31 : mc_P 42 31 = some (.goto 56, 3, 0, 0, 0) := by decide +kernel
theorem s_42_31 {x0 x1 x2 x3 x4 x5 : Option Value} : mw d 42 Q 31 [x0, x1, x2, x3, x4, x5] (st) h = mw d 42 Q 87 [x0, x1, x2, x3, x4, x5] (st) h := (mw_at mj_42_31).trans (z_goto (by decide))
theorem mj_42_34 : mc_P 42 34 = some (.iload_n 1, 1, 0, 0, 0) := by decide +kernel
theorem s_42_34 {x0 x2 x3 x4 x5 : Option Value} {w : Value} : mw d 42 Q 34 [x0, some w, x2, x3, x4, x5] (st) h = mv_i w (mw d 42 Q 35 [x0, some w, x2, x3, x4, x5] (w :: st) h) := (mw_at mj_42_34).trans (z_iload_n rfl)
theorem mj_42_35 : mc_P 42 35 = some (.bipush 42, 2, 0, 0, 0) := by decide +kernel
theorem s_42_35 {x0 x1 x2 x3 x4 x5 : Option Value} : mw d 42 Q 35 [x0, x1, x2, x3, x4, x5] (st) h = mw d 42 Q 37 [x0, x1, x2, x3, x4, x5] (.int 42 :: st) h := (mw_at mj_42_35).trans (z_bipush (by decide))
theorem mj_42_37 : mc_P 42 37 = some (.if_icmp .ne 14, 3, 0, 0, 0) := by decide +kernel
theorem s_42_37 {x0 x1 x2 x3 x4 x5 : Option Value} {x w : Int32} : mw d 42 Q 37 [x0, x1, x2, x3, x4, x5] (.int w :: .int x :: st) h = mB (¬ x = w) (mw d 42 Q) 51 40 [x0, x1, x2, x3, x4, x5] st h := (mw_at mj_42_37).trans (z_icmp_ne (by decide) rfl)
theorem mj_42_40 : mc_P 42 40 = some (.aload_n 0, 1, 0, 0, 0) := by decide +kernel
theorem s_42_40 {x1 x2 x3 x4 x5 : Option Value} {w : Value} : mw d 42 Q 40 [some w, x1, x2, x3, x4, x5] (st) h = mv_a w (mw d 42 Q 41 [some w, x1, x2, x3, x4, x5] (w :: st) h) := (mw_at mj_42_40).trans (z_aload_n rfl)
theorem mj_42_41 : mc_P 42 41 = some (.lload_n 2, 1, 0, 0, 0) := by decide +kernel
theorem s_42_41 {x0 x1 x3 x4 x5 : Option Value} {w : Value} : mw d 42 Q 41 [x0, x1, some w, x3, x4, x5] (st) h = mv_l w (mw d 42 Q 42 [x0, x1, some w, x3, x4, x5] (w :: st) h) := (mw_at mj_42_41).trans (z_lload_n rfl)
theorem mj_42_42 : mc_P 42 42 = some (.lload 4, 2, 0, 0, 0) := by decide +kernel
theorem s_42_42 {x0 x1 x2 x3 x5 : Option Value} {w : Value} : mw d 42 Q 42 [x0, x1, x2, x3, some w, x5] (st) h = mv_l w (mw d 42 Q 44 [x0, x1, x2, x3, some w, x5] (w :: st) h) := (mw_at mj_42_42).trans (z_lload rfl)
theorem mj_42_44 : mc_P 42 44 = some (.lmul, 1, 0, 0, 0) := by decide +kernel
theorem s_42_44 {x0 x1 x2 x3 x4 x5 : Option Value} {x w : Int64} : mw d 42 Q 44 [x0, x1, x2, x3, x4, x5] (.long w :: .long x :: st) h = mw d 42 Q 45 [x0, x1, x2, x3, x4, x5] (.long (x * w) :: st) h := (mw_at mj_42_44).trans (z_lmul)
theorem mj_42_45 : mc_P 42 45 = some (.invokevirtual 197, 3, 39, 2, 2) := by decide +kernel
theorem s_42_45 {x0 x1 x2 x3 x4 x5 : Option Value} {o : Nat} {a1 : Value} : mw (d + 1) 42 Q 45 [x0, x1, x2, x3, x4, x5] (a1 :: .ref o :: st) h = (mg h o 2 ∧ mca st 8 ∧ mca [.ref o, a1] 3 ∧ mcall d 39 [.ref o, a1] h (mK (d + 1) 42 Q 48 [x0, x1, x2, x3, x4, x5] st)) := (mw_at mj_42_45).trans ((z_invv (As := [a1]) (by decide) rfl rfl).trans (congrArg (And _) (congrArg (And _) (mC_nl nl_39))))
theorem mj_42_48 : mc_P 42 48 = some (.goto 39, 3, 0, 0, 0) := by decide +kernel
theorem s_42_48 {x0 x1 x2 x3 x4 x5 : Option Value} : mw d 42 Q 48 [x0, x1, x2, x3, x4, x5] (st) h = mw d 42 Q 87 [x0, x1, x2, x3, x4, x5] (st) h := (mw_at mj_42_48).trans (z_goto (by decide))
theorem mj_42_51 : mc_P 42 51 = some (.lload 4, 2, 0, 0, 0) := by decide +kernel
theorem s_42_51 {x0 x1 x2 x3 x5 : Option Value} {w : Value} : mw d 42 Q 51 [x0, x1, x2, x3, some w, x5] (st) h = mv_l w (mw d 42 Q 53 [x0, x1, x2, x3, some w, x5] (w :: st) h) := (mw_at mj_42_51).trans (z_lload rfl)
theorem mj_42_53 : mc_P 42 53 = some (.lconst 0, 1, 0, 0, 0) := by decide +kernel
theorem s_42_53 {x0 x1 x2 x3 x4 x5 : Option Value} : mw d 42 Q 53 [x0, x1, x2, x3, x4, x5] (st) h = mw d 42 Q 54 [x0, x1, x2, x3, x4, x5] (.long 0 :: st) h := (mw_at mj_42_53).trans (z_lconst (by decide))
theorem mj_42_54 : mc_P 42 54 = some (.lcmp, 1, 0, 0, 0) := by decide +kernel
theorem s_42_54 {x0 x1 x2 x3 x4 x5 : Option Value} {x w : Int64} : mw d 42 Q 54 [x0, x1, x2, x3, x4, x5] (.long w :: .long x :: st) h = mw d 42 Q 55 [x0, x1, x2, x3, x4, x5] (.int (lg_cmp x w) :: st) h := (mw_at mj_42_54).trans (z_lcmp)
theorem mj_42_55 : mc_P 42 55 = some (.ifCond .ne 11, 3, 0, 0, 0) := by decide +kernel
theorem s_42_55 {x0 x1 x2 x3 x4 x5 : Option Value} {x : Int32} : mw d 42 Q 55 [x0, x1, x2, x3, x4, x5] (.int x :: st) h = mB (¬ x = 0) (mw d 42 Q) 66 58 [x0, x1, x2, x3, x4, x5] st h := (mw_at mj_42_55).trans (z_if_ne (by decide) rfl)
theorem mj_42_58 : mc_P 42 58 = some (.aload_n 0, 1, 0, 0, 0) := by decide +kernel
theorem s_42_58 {x1 x2 x3 x4 x5 : Option Value} {w : Value} : mw d 42 Q 58 [some w, x1, x2, x3, x4, x5] (st) h = mv_a w (mw d 42 Q 59 [some w, x1, x2, x3, x4, x5] (w :: st) h) := (mw_at mj_42_58).trans (z_aload_n rfl)
theorem mj_42_59 : mc_P 42 59 = some (.iconst 2, 1, 0, 0, 0) := by decide +kernel
theorem s_42_59 {x0 x1 x2 x3 x4 x5 : Option Value} : mw d 42 Q 59 [x0, x1, x2, x3, x4, x5] (st) h = mw d 42 Q 60 [x0, x1, x2, x3, x4, x5] (.int 2 :: st) h := (mw_at mj_42_59).trans (z_iconst (by decide))
theorem mj_42_60 : mc_P 42 60 = some (.invokevirtual 136, 3, 31, 2, 2) := by decide +kernel
theorem s_42_60 {x0 x1 x2 x3 x4 x5 : Option Value} {o : Nat} {a1 : Value} : mw (d + 1) 42 Q 60 [x0, x1, x2, x3, x4, x5] (a1 :: .ref o :: st) h = (mg h o 2 ∧ mca st 8 ∧ mca [.ref o, a1] 2 ∧ mcall d 31 [.ref o, a1] h (mK (d + 1) 42 Q 63 [x0, x1, x2, x3, x4, x5] st)) := (mw_at mj_42_60).trans ((z_invv (As := [a1]) (by decide) rfl rfl).trans (congrArg (And _) (congrArg (And _) (mC_nl nl_31))))
theorem mj_42_63 : mc_P 42 63 = some (.goto 24, 3, 0, 0, 0) := by decide +kernel
theorem s_42_63 {x0 x1 x2 x3 x4 x5 : Option Value} : mw d 42 Q 63 [x0, x1, x2, x3, x4, x5] (st) h = mw d 42 Q 87 [x0, x1, x2, x3, x4, x5] (st) h := (mw_at mj_42_63).trans (z_goto (by decide))
theorem mj_42_66 : mc_P 42 66 = some (.aload_n 0, 1, 0, 0, 0) := by decide +kernel
theorem s_42_66 {x1 x2 x3 x4 x5 : Option Value} {w : Value} : mw d 42 Q 66 [some w, x1, x2, x3, x4, x5] (st) h = mv_a w (mw d 42 Q 67 [some w, x1, x2, x3, x4, x5] (w :: st) h) := (mw_at mj_42_66).trans (z_aload_n rfl)
theorem mj_42_67 : mc_P 42 67 = some (.iload_n 1, 1, 0, 0, 0) := by decide +kernel
theorem s_42_67 {x0 x2 x3 x4 x5 : Option Value} {w : Value} : mw d 42 Q 67 [x0, some w, x2, x3, x4, x5] (st) h = mv_i w (mw d 42 Q 68 [x0, some w, x2, x3, x4, x5] (w :: st) h) := (mw_at mj_42_67).trans (z_iload_n rfl)
theorem mj_42_68 : mc_P 42 68 = some (.bipush 47, 2, 0, 0, 0) := by decide +kernel
theorem s_42_68 {x0 x1 x2 x3 x4 x5 : Option Value} : mw d 42 Q 68 [x0, x1, x2, x3, x4, x5] (st) h = mw d 42 Q 70 [x0, x1, x2, x3, x4, x5] (.int 47 :: st) h := (mw_at mj_42_68).trans (z_bipush (by decide))
theorem mj_42_70 : mc_P 42 70 = some (.if_icmp .ne 10, 3, 0, 0, 0) := by decide +kernel
theorem s_42_70 {x0 x1 x2 x3 x4 x5 : Option Value} {x w : Int32} : mw d 42 Q 70 [x0, x1, x2, x3, x4, x5] (.int w :: .int x :: st) h = mB (¬ x = w) (mw d 42 Q) 80 73 [x0, x1, x2, x3, x4, x5] st h := (mw_at mj_42_70).trans (z_icmp_ne (by decide) rfl)
theorem mj_42_73 : mc_P 42 73 = some (.lload_n 2, 1, 0, 0, 0) := by decide +kernel
theorem s_42_73 {x0 x1 x3 x4 x5 : Option Value} {w : Value} : mw d 42 Q 73 [x0, x1, some w, x3, x4, x5] (st) h = mv_l w (mw d 42 Q 74 [x0, x1, some w, x3, x4, x5] (w :: st) h) := (mw_at mj_42_73).trans (z_lload_n rfl)
theorem mj_42_74 : mc_P 42 74 = some (.lload 4, 2, 0, 0, 0) := by decide +kernel
theorem s_42_74 {x0 x1 x2 x3 x5 : Option Value} {w : Value} : mw d 42 Q 74 [x0, x1, x2, x3, some w, x5] (st) h = mv_l w (mw d 42 Q 76 [x0, x1, x2, x3, some w, x5] (w :: st) h) := (mw_at mj_42_74).trans (z_lload rfl)
theorem mj_42_76 : mc_P 42 76 = some (.ldiv, 1, 0, 0, 0) := by decide +kernel
theorem s_42_76 {x0 x1 x2 x3 x4 x5 : Option Value} {x w : Int64} : mw d 42 Q 76 [x0, x1, x2, x3, x4, x5] (.long w :: .long x :: st) h = (¬ w = 0 ∧ mw d 42 Q 77 [x0, x1, x2, x3, x4, x5] (.long (x / w) :: st) h) := (mw_at mj_42_76).trans (z_ldiv)
theorem mj_42_77 : mc_P 42 77 = some (.goto 7, 3, 0, 0, 0) := by decide +kernel
theorem s_42_77 {x0 x1 x2 x3 x4 x5 : Option Value} : mw d 42 Q 77 [x0, x1, x2, x3, x4, x5] (st) h = mw d 42 Q 84 [x0, x1, x2, x3, x4, x5] (st) h := (mw_at mj_42_77).trans (z_goto (by decide))
theorem mj_42_80 : mc_P 42 80 = some (.lload_n 2, 1, 0, 0, 0) := by decide +kernel
theorem s_42_80 {x0 x1 x3 x4 x5 : Option Value} {w : Value} : mw d 42 Q 80 [x0, x1, some w, x3, x4, x5] (st) h = mv_l w (mw d 42 Q 81 [x0, x1, some w, x3, x4, x5] (w :: st) h) := (mw_at mj_42_80).trans (z_lload_n rfl)
theorem mj_42_81 : mc_P 42 81 = some (.lload 4, 2, 0, 0, 0) := by decide +kernel
theorem s_42_81 {x0 x1 x2 x3 x5 : Option Value} {w : Value} : mw d 42 Q 81 [x0, x1, x2, x3, some w, x5] (st) h = mv_l w (mw d 42 Q 83 [x0, x1, x2, x3, some w, x5] (w :: st) h) := (mw_at mj_42_81).trans (z_lload rfl)
theorem mj_42_83 : mc_P 42 83 = some (.lrem, 1, 0, 0, 0) := by decide +kernel
theorem s_42_83 {x0 x1 x2 x3 x4 x5 : Option Value} {x w : Int64} : mw d 42 Q 83 [x0, x1, x2, x3, x4, x5] (.long w :: .long x :: st) h = (¬ w = 0 ∧ mw d 42 Q 84 [x0, x1, x2, x3, x4, x5] (.long (x - x / w * w) :: st) h) := (mw_at mj_42_83).trans (z_lrem)
theorem mj_42_84 : mc_P 42 84 = some (.invokevirtual 197, 3, 39, 2, 2) := by decide +kernel
theorem s_42_84 {x0 x1 x2 x3 x4 x5 : Option Value} {o : Nat} {a1 : Value} : mw (d + 1) 42 Q 84 [x0, x1, x2, x3, x4, x5] (a1 :: .ref o :: st) h = (mg h o 2 ∧ mca st 8 ∧ mca [.ref o, a1] 3 ∧ mcall d 39 [.ref o, a1] h (mK (d + 1) 42 Q 87 [x0, x1, x2, x3, x4, x5] st)) := (mw_at mj_42_84).trans ((z_invv (As := [a1]) (by decide) rfl rfl).trans (congrArg (And _) (congrArg (And _) (mC_nl nl_39))))
theorem mj_42_87 : mc_P 42 87 = some (.return_, 1, 0, 0, 0) := by decide +kernel
theorem s_42_87 {x0 x1 x2 x3 x4 x5 : Option Value} : mw d 42 Q 87 [x0, x1, x2, x3, x4, x5] ([]) h = Q none h := (mw_at mj_42_87).trans (z_vret)
theorem e_42 {a0 : Nat} {a1 : Int32} {a2 : Int64} {a3 : Int64} : mcall d 42 [.ref a0, .int a1, .long a2, .long a3] h Q = mw d 42 Q 0 [some (.ref a0), some (.int a1), some (.long a2), none, some (.long a3), none] [] h := by
  show mw d 42 Q 0 (me_en (mc_nl 42) _) [] h = _
  rw [nl_42]; rfl

/-! InvariantDesk.signed(II)I -/
theorem mj_195_0 : mc_P 195 0 = some (.iload_n 1, 1, 0, 0, 0) := by decide +kernel
theorem s_195_0 {x0 : Option Value} {w : Value} : mw d 195 Q 0 [x0, some w] (st) h = mv_i w (mw d 195 Q 1 [x0, some w] (w :: st) h) := (mw_at mj_195_0).trans (z_iload_n rfl)
theorem mj_195_1 : mc_P 195 1 = some (.ifCond .ge 11, 3, 0, 0, 0) := by decide +kernel
theorem s_195_1 {x0 x1 : Option Value} {x : Int32} : mw d 195 Q 1 [x0, x1] (.int x :: st) h = mB (0 ≤ x) (mw d 195 Q) 12 4 [x0, x1] st h := (mw_at mj_195_1).trans (z_if_ge (by decide) rfl)
theorem mj_195_4 : mc_P 195 4 = some (.iconst 2, 1, 0, 0, 0) := by decide +kernel
theorem s_195_4 {x0 x1 : Option Value} : mw d 195 Q 4 [x0, x1] (st) h = mw d 195 Q 5 [x0, x1] (.int 2 :: st) h := (mw_at mj_195_4).trans (z_iconst (by decide))
theorem mj_195_5 : mc_P 195 5 = some (.iload_n 0, 1, 0, 0, 0) := by decide +kernel
theorem s_195_5 {x1 : Option Value} {w : Value} : mw d 195 Q 5 [some w, x1] (st) h = mv_i w (mw d 195 Q 6 [some w, x1] (w :: st) h) := (mw_at mj_195_5).trans (z_iload_n rfl)
theorem mj_195_6 : mc_P 195 6 = some (.imul, 1, 0, 0, 0) := by decide +kernel
theorem s_195_6 {x0 x1 : Option Value} {x w : Int32} : mw d 195 Q 6 [x0, x1] (.int w :: .int x :: st) h = mw d 195 Q 7 [x0, x1] (.int (x * w) :: st) h := (mw_at mj_195_6).trans (z_imul)
theorem mj_195_7 : mc_P 195 7 = some (.iconst 1, 1, 0, 0, 0) := by decide +kernel
theorem s_195_7 {x0 x1 : Option Value} : mw d 195 Q 7 [x0, x1] (st) h = mw d 195 Q 8 [x0, x1] (.int 1 :: st) h := (mw_at mj_195_7).trans (z_iconst (by decide))
theorem mj_195_8 : mc_P 195 8 = some (.iadd, 1, 0, 0, 0) := by decide +kernel
theorem s_195_8 {x0 x1 : Option Value} {x w : Int32} : mw d 195 Q 8 [x0, x1] (.int w :: .int x :: st) h = mw d 195 Q 9 [x0, x1] (.int (x + w) :: st) h := (mw_at mj_195_8).trans (z_iadd)
theorem mj_195_9 : mc_P 195 9 = some (.goto 6, 3, 0, 0, 0) := by decide +kernel
theorem s_195_9 {x0 x1 : Option Value} : mw d 195 Q 9 [x0, x1] (st) h = mw d 195 Q 15 [x0, x1] (st) h := (mw_at mj_195_9).trans (z_goto (by decide))
theorem mj_195_12 : mc_P 195 12 = some (.iconst 2, 1, 0, 0, 0) := by decide +kernel
theorem s_195_12 {x0 x1 : Option Value} : mw d 195 Q 12 [x0, x1] (st) h = mw d 195 Q 13 [x0, x1] (.int 2 :: st) h := (mw_at mj_195_12).trans (z_iconst (by decide))
theorem mj_195_13 : mc_P 195 13 = some (.iload_n 0, 1, 0, 0, 0) := by decide +kernel
theorem s_195_13 {x1 : Option Value} {w : Value} : mw d 195 Q 13 [some w, x1] (st) h = mv_i w (mw d 195 Q 14 [some w, x1] (w :: st) h) := (mw_at mj_195_13).trans (z_iload_n rfl)
theorem mj_195_14 : mc_P 195 14 = some (.imul, 1, 0, 0, 0) := by decide +kernel
theorem s_195_14 {x0 x1 : Option Value} {x w : Int32} : mw d 195 Q 14 [x0, x1] (.int w :: .int x :: st) h = mw d 195 Q 15 [x0, x1] (.int (x * w) :: st) h := (mw_at mj_195_14).trans (z_imul)
theorem mj_195_15 : mc_P 195 15 = some (.ireturn, 1, 0, 0, 0) := by decide +kernel
theorem s_195_15 {x0 x1 : Option Value} {x : Int32} : mw d 195 Q 15 [x0, x1] ([.int x]) h = (Q (some (.int x)) h) := (mw_at mj_195_15).trans (z_iret)
theorem e_195 {a0 : Int32} {a1 : Int32} : mcall d 195 [.int a0, .int a1] h Q = mw d 195 Q 0 [some (.int a0), some (.int a1)] [] h := by
  show mw d 195 Q 0 (me_en (mc_nl 195) _) [] h = _
  rw [nl_195]; rfl

/-! InvariantDesk.leadsToClaims(I)Z -/
theorem mj_205_0 : mc_P 205 0 = some (.iconst 1, 1, 0, 0, 0) := by decide +kernel
theorem s_205_0 {x0 x1 x2 x3 : Option Value} : mw d 205 Q 0 [x0, x1, x2, x3] (st) h = mw d 205 Q 1 [x0, x1, x2, x3] (.int 1 :: st) h := (mw_at mj_205_0).trans (z_iconst (by decide))
theorem mj_205_1 : mc_P 205 1 = some (.istore_n 2, 1, 0, 0, 0) := by decide +kernel
theorem s_205_1 {x0 x1 x2 x3 : Option Value} {w : Int32} : mw d 205 Q 1 [x0, x1, x2, x3] (.int w :: st) h = mw d 205 Q 2 [x0, mk2 x1, some (.int w), x3] (st) h := (mw_at mj_205_1).trans (z_istore_n (Nat.le_of_ble_eq_true rfl) (me_s1_mk (j := 1) (w := x1) rfl))
theorem mj_205_2 : mc_P 205 2 = some (.aload_n 0, 1, 0, 0, 0) := by decide +kernel
theorem s_205_2 {x1 x2 x3 : Option Value} {w : Value} : mw d 205 Q 2 [some w, x1, x2, x3] (st) h = mv_a w (mw d 205 Q 3 [some w, x1, x2, x3] (w :: st) h) := (mw_at mj_205_2).trans (z_aload_n rfl)
theorem mj_205_3 : mc_P 205 3 = some (.getfield 16, 3, 11, 2, 0) := by decide +kernel
theorem s_205_3 {x0 x1 x2 x3 : Option Value} {o : Nat} : mw d 205 Q 3 [x0, x1, x2, x3] (.ref o :: st) h = (mg h o 11 ∧ mw d 205 Q 6 [x0, x1, x2, x3] (va_rf (mh_r h o 2) :: st) h) := (mw_at mj_205_3).trans (z_getr (by decide) (by decide) rfl)
theorem mj_205_6 : mc_P 205 6 = some (.getfield 138, 3, 4, 3, 0) := by decide +kernel
theorem s_205_6 {x0 x1 x2 x3 : Option Value} {o : Nat} : mw d 205 Q 6 [x0, x1, x2, x3] (.ref o :: st) h = (mg h o 4 ∧ mw d 205 Q 9 [x0, x1, x2, x3] (va_rf (mh_r h o 3) :: st) h) := (mw_at mj_205_6).trans (z_getr (by decide) (by decide) rfl)
theorem mj_205_9 : mc_P 205 9 = some (.iload_n 1, 1, 0, 0, 0) := by decide +kernel
theorem s_205_9 {x0 x2 x3 : Option Value} {w : Value} : mw d 205 Q 9 [x0, some w, x2, x3] (st) h = mv_i w (mw d 205 Q 10 [x0, some w, x2, x3] (w :: st) h) := (mw_at mj_205_9).trans (z_iload_n rfl)
theorem mj_205_10 : mc_P 205 10 = some (.aaload, 1, 0, 0, 0) := by decide +kernel
theorem s_205_10 {x0 x1 x2 x3 : Option Value} {o : Nat} {i : Int32} : mw d 205 Q 10 [x0, x1, x2, x3] (.int i :: .ref o :: st) h = (mgr h o ∧ mx i (mh_l h o) ∧ mw d 205 Q 11 [x0, x1, x2, x3] (mrd (mh_k h o) h o i.toNatClampNeg :: st) h) := (mw_at mj_205_10).trans (z_aald)
theorem mj_205_11 : mc_P 205 11 = some (.invokevirtual 217, 3, 165, 9, 1) := by decide +kernel
theorem s_205_11 {x0 x1 x2 x3 : Option Value} {o : Nat} : mw (d + 1) 205 Q 11 [x0, x1, x2, x3] (.ref o :: st) h = (mg h o 9 ∧ mca st 8 ∧ mca [.ref o] 1 ∧ mcall d 165 [.ref o] h (mK (d + 1) 205 Q 14 [x0, x1, x2, x3] st)) := (mw_at mj_205_11).trans ((z_invv (As := []) (by decide) rfl rfl).trans (congrArg (And _) (congrArg (And _) (mC_nl nl_165))))
theorem mj_205_14 : mc_P 205 14 = some (.ifCond .eq 20, 3, 0, 0, 0) := by decide +kernel
theorem s_205_14 {x0 x1 x2 x3 : Option Value} {x : Int32} : mw d 205 Q 14 [x0, x1, x2, x3] (.int x :: st) h = mB (x = 0) (mw d 205 Q) 34 17 [x0, x1, x2, x3] st h := (mw_at mj_205_14).trans (z_if_eq (by decide) rfl)
theorem mj_205_17 : mc_P 205 17 = some (.aload_n 0, 1, 0, 0, 0) := by decide +kernel
theorem s_205_17 {x1 x2 x3 : Option Value} {w : Value} : mw d 205 Q 17 [some w, x1, x2, x3] (st) h = mv_a w (mw d 205 Q 18 [some w, x1, x2, x3] (w :: st) h) := (mw_at mj_205_17).trans (z_aload_n rfl)
theorem mj_205_18 : mc_P 205 18 = some (.getfield 25, 3, 11, 3, 0) := by decide +kernel
theorem s_205_18 {x0 x1 x2 x3 : Option Value} {o : Nat} : mw d 205 Q 18 [x0, x1, x2, x3] (.ref o :: st) h = (mg h o 11 ∧ mw d 205 Q 21 [x0, x1, x2, x3] (va_rf (mh_r h o 3) :: st) h) := (mw_at mj_205_18).trans (z_getr (by decide) (by decide) rfl)
theorem mj_205_21 : mc_P 205 21 = some (.iload_n 1, 1, 0, 0, 0) := by decide +kernel
theorem s_205_21 {x0 x2 x3 : Option Value} {w : Value} : mw d 205 Q 21 [x0, some w, x2, x3] (st) h = mv_i w (mw d 205 Q 22 [x0, some w, x2, x3] (w :: st) h) := (mw_at mj_205_21).trans (z_iload_n rfl)
theorem mj_205_22 : mc_P 205 22 = some (.aload_n 0, 1, 0, 0, 0) := by decide +kernel
theorem s_205_22 {x1 x2 x3 : Option Value} {w : Value} : mw d 205 Q 22 [some w, x1, x2, x3] (st) h = mv_a w (mw d 205 Q 23 [some w, x1, x2, x3] (w :: st) h) := (mw_at mj_205_22).trans (z_aload_n rfl)
theorem mj_205_23 : mc_P 205 23 = some (.getfield 47, 3, 11, 6, 0) := by decide +kernel
theorem s_205_23 {x0 x1 x2 x3 : Option Value} {o : Nat} : mw d 205 Q 23 [x0, x1, x2, x3] (.ref o :: st) h = (mg h o 11 ∧ mw d 205 Q 26 [x0, x1, x2, x3] (va_rf (mh_r h o 6) :: st) h) := (mw_at mj_205_23).trans (z_getr (by decide) (by decide) rfl)
theorem mj_205_26 : mc_P 205 26 = some (.iload_n 1, 1, 0, 0, 0) := by decide +kernel
theorem s_205_26 {x0 x2 x3 : Option Value} {w : Value} : mw d 205 Q 26 [x0, some w, x2, x3] (st) h = mv_i w (mw d 205 Q 27 [x0, some w, x2, x3] (w :: st) h) := (mw_at mj_205_26).trans (z_iload_n rfl)
theorem mj_205_27 : mc_P 205 27 = some (.aaload, 1, 0, 0, 0) := by decide +kernel
theorem s_205_27 {x0 x1 x2 x3 : Option Value} {o : Nat} {i : Int32} : mw d 205 Q 27 [x0, x1, x2, x3] (.int i :: .ref o :: st) h = (mgr h o ∧ mx i (mh_l h o) ∧ mw d 205 Q 28 [x0, x1, x2, x3] (mrd (mh_k h o) h o i.toNatClampNeg :: st) h) := (mw_at mj_205_27).trans (z_aald)
theorem mj_205_28 : mc_P 205 28 = some (.invokevirtual 221, 3, 17, 1, 3) := by decide +kernel
theorem s_205_28 {x0 x1 x2 x3 : Option Value} {o : Nat} {a1 a2 : Value} : mw (d + 1) 205 Q 28 [x0, x1, x2, x3] (a2 :: a1 :: .ref o :: st) h = (mg h o 1 ∧ mca st 8 ∧ mca [.ref o, a1, a2] 7 ∧ mcall d 17 [.ref o, a1, a2] h (mK (d + 1) 205 Q 31 [x0, x1, x2, x3] st)) := (mw_at mj_205_28).trans ((z_invv (As := [a1, a2]) (by decide) rfl rfl).trans (congrArg (And _) (congrArg (And _) (mC_nl nl_17))))
theorem mj_205_31 : mc_P 205 31 = some (.goto 17, 3, 0, 0, 0) := by decide +kernel
theorem s_205_31 {x0 x1 x2 x3 : Option Value} : mw d 205 Q 31 [x0, x1, x2, x3] (st) h = mw d 205 Q 48 [x0, x1, x2, x3] (st) h := (mw_at mj_205_31).trans (z_goto (by decide))
theorem mj_205_34 : mc_P 205 34 = some (.aload_n 0, 1, 0, 0, 0) := by decide +kernel
theorem s_205_34 {x1 x2 x3 : Option Value} {w : Value} : mw d 205 Q 34 [some w, x1, x2, x3] (st) h = mv_a w (mw d 205 Q 35 [some w, x1, x2, x3] (w :: st) h) := (mw_at mj_205_34).trans (z_aload_n rfl)
theorem mj_205_35 : mc_P 205 35 = some (.getfield 25, 3, 11, 3, 0) := by decide +kernel
theorem s_205_35 {x0 x1 x2 x3 : Option Value} {o : Nat} : mw d 205 Q 35 [x0, x1, x2, x3] (.ref o :: st) h = (mg h o 11 ∧ mw d 205 Q 38 [x0, x1, x2, x3] (va_rf (mh_r h o 3) :: st) h) := (mw_at mj_205_35).trans (z_getr (by decide) (by decide) rfl)
theorem mj_205_38 : mc_P 205 38 = some (.iload_n 1, 1, 0, 0, 0) := by decide +kernel
theorem s_205_38 {x0 x2 x3 : Option Value} {w : Value} : mw d 205 Q 38 [x0, some w, x2, x3] (st) h = mv_i w (mw d 205 Q 39 [x0, some w, x2, x3] (w :: st) h) := (mw_at mj_205_38).trans (z_iload_n rfl)
theorem mj_205_39 : mc_P 205 39 = some (.aload_n 0, 1, 0, 0, 0) := by decide +kernel
theorem s_205_39 {x1 x2 x3 : Option Value} {w : Value} : mw d 205 Q 39 [some w, x1, x2, x3] (st) h = mv_a w (mw d 205 Q 40 [some w, x1, x2, x3] (w :: st) h) := (mw_at mj_205_39).trans (z_aload_n rfl)
theorem mj_205_40 : mc_P 205 40 = some (.getfield 47, 3, 11, 6, 0) := by decide +kernel
theorem s_205_40 {x0 x1 x2 x3 : Option Value} {o : Nat} : mw d 205 Q 40 [x0, x1, x2, x3] (.ref o :: st) h = (mg h o 11 ∧ mw d 205 Q 43 [x0, x1, x2, x3] (va_rf (mh_r h o 6) :: st) h) := (mw_at mj_205_40).trans (z_getr (by decide) (by decide) rfl)
theorem mj_205_43 : mc_P 205 43 = some (.iload_n 1, 1, 0, 0, 0) := by decide +kernel
theorem s_205_43 {x0 x2 x3 : Option Value} {w : Value} : mw d 205 Q 43 [x0, some w, x2, x3] (st) h = mv_i w (mw d 205 Q 44 [x0, some w, x2, x3] (w :: st) h) := (mw_at mj_205_43).trans (z_iload_n rfl)
theorem mj_205_44 : mc_P 205 44 = some (.aaload, 1, 0, 0, 0) := by decide +kernel
theorem s_205_44 {x0 x1 x2 x3 : Option Value} {o : Nat} {i : Int32} : mw d 205 Q 44 [x0, x1, x2, x3] (.int i :: .ref o :: st) h = (mgr h o ∧ mx i (mh_l h o) ∧ mw d 205 Q 45 [x0, x1, x2, x3] (mrd (mh_k h o) h o i.toNatClampNeg :: st) h) := (mw_at mj_205_44).trans (z_aald)
theorem mj_205_45 : mc_P 205 45 = some (.invokevirtual 225, 3, 13, 1, 3) := by decide +kernel
theorem s_205_45 {x0 x1 x2 x3 : Option Value} {o : Nat} {a1 a2 : Value} : mw (d + 1) 205 Q 45 [x0, x1, x2, x3] (a2 :: a1 :: .ref o :: st) h = (mg h o 1 ∧ mca st 8 ∧ mca [.ref o, a1, a2] 5 ∧ mcall d 13 [.ref o, a1, a2] h (mK (d + 1) 205 Q 48 [x0, x1, x2, x3] st)) := (mw_at mj_205_45).trans ((z_invv (As := [a1, a2]) (by decide) rfl rfl).trans (congrArg (And _) (congrArg (And _) (mC_nl nl_13))))
theorem mj_205_48 : mc_P 205 48 = some (.aload_n 0, 1, 0, 0, 0) := by decide +kernel
theorem s_205_48 {x1 x2 x3 : Option Value} {w : Value} : mw d 205 Q 48 [some w, x1, x2, x3] (st) h = mv_a w (mw d 205 Q 49 [some w, x1, x2, x3] (w :: st) h) := (mw_at mj_205_48).trans (z_aload_n rfl)
theorem mj_205_49 : mc_P 205 49 = some (.getfield 16, 3, 11, 2, 0) := by decide +kernel
theorem s_205_49 {x0 x1 x2 x3 : Option Value} {o : Nat} : mw d 205 Q 49 [x0, x1, x2, x3] (.ref o :: st) h = (mg h o 11 ∧ mw d 205 Q 52 [x0, x1, x2, x3] (va_rf (mh_r h o 2) :: st) h) := (mw_at mj_205_49).trans (z_getr (by decide) (by decide) rfl)
theorem mj_205_52 : mc_P 205 52 = some (.getfield 138, 3, 4, 3, 0) := by decide +kernel
theorem s_205_52 {x0 x1 x2 x3 : Option Value} {o : Nat} : mw d 205 Q 52 [x0, x1, x2, x3] (.ref o :: st) h = (mg h o 4 ∧ mw d 205 Q 55 [x0, x1, x2, x3] (va_rf (mh_r h o 3) :: st) h) := (mw_at mj_205_52).trans (z_getr (by decide) (by decide) rfl)
theorem mj_205_55 : mc_P 205 55 = some (.iload_n 1, 1, 0, 0, 0) := by decide +kernel
theorem s_205_55 {x0 x2 x3 : Option Value} {w : Value} : mw d 205 Q 55 [x0, some w, x2, x3] (st) h = mv_i w (mw d 205 Q 56 [x0, some w, x2, x3] (w :: st) h) := (mw_at mj_205_55).trans (z_iload_n rfl)
theorem mj_205_56 : mc_P 205 56 = some (.aaload, 1, 0, 0, 0) := by decide +kernel
theorem s_205_56 {x0 x1 x2 x3 : Option Value} {o : Nat} {i : Int32} : mw d 205 Q 56 [x0, x1, x2, x3] (.int i :: .ref o :: st) h = (mgr h o ∧ mx i (mh_l h o) ∧ mw d 205 Q 57 [x0, x1, x2, x3] (mrd (mh_k h o) h o i.toNatClampNeg :: st) h) := (mw_at mj_205_56).trans (z_aald)
theorem mj_205_57 : mc_P 205 57 = some (.invokevirtual 228, 3, 166, 9, 1) := by decide +kernel
theorem s_205_57 {x0 x1 x2 x3 : Option Value} {o : Nat} : mw (d + 1) 205 Q 57 [x0, x1, x2, x3] (.ref o :: st) h = (mg h o 9 ∧ mca st 8 ∧ mca [.ref o] 1 ∧ mcall d 166 [.ref o] h (mK (d + 1) 205 Q 60 [x0, x1, x2, x3] st)) := (mw_at mj_205_57).trans ((z_invv (As := []) (by decide) rfl rfl).trans (congrArg (And _) (congrArg (And _) (mC_nl nl_166))))
theorem mj_205_60 : mc_P 205 60 = some (.ifCond .eq 56, 3, 0, 0, 0) := by decide +kernel
theorem s_205_60 {x0 x1 x2 x3 : Option Value} {x : Int32} : mw d 205 Q 60 [x0, x1, x2, x3] (.int x :: st) h = mB (x = 0) (mw d 205 Q) 116 63 [x0, x1, x2, x3] st h := (mw_at mj_205_60).trans (z_if_eq (by decide) rfl)
theorem mj_205_63 : mc_P 205 63 = some (.aload_n 0, 1, 0, 0, 0) := by decide +kernel
theorem s_205_63 {x1 x2 x3 : Option Value} {w : Value} : mw d 205 Q 63 [some w, x1, x2, x3] (st) h = mv_a w (mw d 205 Q 64 [some w, x1, x2, x3] (w :: st) h) := (mw_at mj_205_63).trans (z_aload_n rfl)
theorem mj_205_64 : mc_P 205 64 = some (.getfield 16, 3, 11, 2, 0) := by decide +kernel
theorem s_205_64 {x0 x1 x2 x3 : Option Value} {o : Nat} : mw d 205 Q 64 [x0, x1, x2, x3] (.ref o :: st) h = (mg h o 11 ∧ mw d 205 Q 67 [x0, x1, x2, x3] (va_rf (mh_r h o 2) :: st) h) := (mw_at mj_205_64).trans (z_getr (by decide) (by decide) rfl)
theorem mj_205_67 : mc_P 205 67 = some (.getfield 231, 3, 4, 11, 0) := by decide +kernel
theorem s_205_67 {x0 x1 x2 x3 : Option Value} {o : Nat} : mw d 205 Q 67 [x0, x1, x2, x3] (.ref o :: st) h = (mg h o 4 ∧ mw d 205 Q 70 [x0, x1, x2, x3] (va_rf (mh_r h o 11) :: st) h) := (mw_at mj_205_67).trans (z_getr (by decide) (by decide) rfl)
theorem mj_205_70 : mc_P 205 70 = some (.iload_n 1, 1, 0, 0, 0) := by decide +kernel
theorem s_205_70 {x0 x2 x3 : Option Value} {w : Value} : mw d 205 Q 70 [x0, some w, x2, x3] (st) h = mv_i w (mw d 205 Q 71 [x0, some w, x2, x3] (w :: st) h) := (mw_at mj_205_70).trans (z_iload_n rfl)
theorem mj_205_71 : mc_P 205 71 = some (.iaload, 1, 0, 0, 0) := by decide +kernel
theorem s_205_71 {x0 x1 x2 x3 : Option Value} {o : Nat} {i : Int32} : mw d 205 Q 71 [x0, x1, x2, x3] (.int i :: .ref o :: st) h = (mg h o 100 ∧ mx i (mh_l h o) ∧ mw d 205 Q 72 [x0, x1, x2, x3] (.int (mh_i h o i.toNatClampNeg) :: st) h) := (mw_at mj_205_71).trans (z_iald)
theorem s_205_71x {x0 x1 x2 x3 : Option Value} {i : Int32} : mw d 205 Q 71 [x0, x1, x2, x3] (.int i :: .retAddr 2 :: st) h = (mx i 24 ∧ mw d 205 Q 72 [x0, x1, x2, x3] (.int (mx_row.getD i.toNatClampNeg 0) :: st) h) := (mw_at mj_205_71).trans (z_iaX)
theorem mj_205_72 : mc_P 205 72 = some (.istore_n 3, 1, 0, 0, 0) := by decide +kernel
theorem s_205_72 {x0 x1 x2 x3 : Option Value} {w : Int32} : mw d 205 Q 72 [x0, x1, x2, x3] (.int w :: st) h = mw d 205 Q 73 [x0, x1, mk2 x2, some (.int w)] (st) h := (mw_at mj_205_72).trans (z_istore_n (Nat.le_of_ble_eq_true rfl) (me_s1_mk (j := 2) (w := x2) rfl))
theorem mj_205_73 : mc_P 205 73 = some (.aload_n 0, 1, 0, 0, 0) := by decide +kernel
theorem s_205_73 {x1 x2 x3 : Option Value} {w : Value} : mw d 205 Q 73 [some w, x1, x2, x3] (st) h = mv_a w (mw d 205 Q 74 [some w, x1, x2, x3] (w :: st) h) := (mw_at mj_205_73).trans (z_aload_n rfl)
theorem mj_205_74 : mc_P 205 74 = some (.getfield 25, 3, 11, 3, 0) := by decide +kernel
theorem s_205_74 {x0 x1 x2 x3 : Option Value} {o : Nat} : mw d 205 Q 74 [x0, x1, x2, x3] (.ref o :: st) h = (mg h o 11 ∧ mw d 205 Q 77 [x0, x1, x2, x3] (va_rf (mh_r h o 3) :: st) h) := (mw_at mj_205_74).trans (z_getr (by decide) (by decide) rfl)
theorem mj_205_77 : mc_P 205 77 = some (.getfield 234, 3, 1, 3, 0) := by decide +kernel
theorem s_205_77 {x0 x1 x2 x3 : Option Value} {o : Nat} : mw d 205 Q 77 [x0, x1, x2, x3] (.ref o :: st) h = (mg h o 1 ∧ mw d 205 Q 80 [x0, x1, x2, x3] (va_rf (mh_r h o 3) :: st) h) := (mw_at mj_205_77).trans (z_getr (by decide) (by decide) rfl)
theorem mj_205_80 : mc_P 205 80 = some (.aload_n 0, 1, 0, 0, 0) := by decide +kernel
theorem s_205_80 {x1 x2 x3 : Option Value} {w : Value} : mw d 205 Q 80 [some w, x1, x2, x3] (st) h = mv_a w (mw d 205 Q 81 [some w, x1, x2, x3] (w :: st) h) := (mw_at mj_205_80).trans (z_aload_n rfl)
theorem mj_205_81 : mc_P 205 81 = some (.getfield 16, 3, 11, 2, 0) := by decide +kernel
theorem s_205_81 {x0 x1 x2 x3 : Option Value} {o : Nat} : mw d 205 Q 81 [x0, x1, x2, x3] (.ref o :: st) h = (mg h o 11 ∧ mw d 205 Q 84 [x0, x1, x2, x3] (va_rf (mh_r h o 2) :: st) h) := (mw_at mj_205_81).trans (z_getr (by decide) (by decide) rfl)
theorem mj_205_84 : mc_P 205 84 = some (.iload_n 3, 1, 0, 0, 0) := by decide +kernel
theorem s_205_84 {x0 x1 x2 : Option Value} {w : Value} : mw d 205 Q 84 [x0, x1, x2, some w] (st) h = mv_i w (mw d 205 Q 85 [x0, x1, x2, some w] (w :: st) h) := (mw_at mj_205_84).trans (z_iload_n rfl)
theorem mj_205_85 : mc_P 205 85 = some (.invokevirtual 154, 3, 80, 4, 2) := by decide +kernel
theorem s_205_85 {x0 x1 x2 x3 : Option Value} {o : Nat} {a1 : Value} : mw (d + 1) 205 Q 85 [x0, x1, x2, x3] (a1 :: .ref o :: st) h = (mg h o 4 ∧ mca st 8 ∧ mca [.ref o, a1] 2 ∧ mcall d 80 [.ref o, a1] h (mK (d + 1) 205 Q 88 [x0, x1, x2, x3] st)) := (mw_at mj_205_85).trans ((z_invv (As := [a1]) (by decide) rfl rfl).trans (congrArg (And _) (congrArg (And _) (mC_nl nl_80))))
theorem mj_205_88 : mc_P 205 88 = some (.aload_n 0, 1, 0, 0, 0) := by decide +kernel
theorem s_205_88 {x1 x2 x3 : Option Value} {w : Value} : mw d 205 Q 88 [some w, x1, x2, x3] (st) h = mv_a w (mw d 205 Q 89 [some w, x1, x2, x3] (w :: st) h) := (mw_at mj_205_88).trans (z_aload_n rfl)
theorem mj_205_89 : mc_P 205 89 = some (.getfield 16, 3, 11, 2, 0) := by decide +kernel
theorem s_205_89 {x0 x1 x2 x3 : Option Value} {o : Nat} : mw d 205 Q 89 [x0, x1, x2, x3] (.ref o :: st) h = (mg h o 11 ∧ mw d 205 Q 92 [x0, x1, x2, x3] (va_rf (mh_r h o 2) :: st) h) := (mw_at mj_205_89).trans (z_getr (by decide) (by decide) rfl)
theorem mj_205_92 : mc_P 205 92 = some (.iload_n 3, 1, 0, 0, 0) := by decide +kernel
theorem s_205_92 {x0 x1 x2 : Option Value} {w : Value} : mw d 205 Q 92 [x0, x1, x2, some w] (st) h = mv_i w (mw d 205 Q 93 [x0, x1, x2, some w] (w :: st) h) := (mw_at mj_205_92).trans (z_iload_n rfl)
theorem mj_205_93 : mc_P 205 93 = some (.invokevirtual 158, 3, 81, 4, 2) := by decide +kernel
theorem s_205_93 {x0 x1 x2 x3 : Option Value} {o : Nat} {a1 : Value} : mw (d + 1) 205 Q 93 [x0, x1, x2, x3] (a1 :: .ref o :: st) h = (mg h o 4 ∧ mca st 8 ∧ mca [.ref o, a1] 2 ∧ mcall d 81 [.ref o, a1] h (mK (d + 1) 205 Q 96 [x0, x1, x2, x3] st)) := (mw_at mj_205_93).trans ((z_invv (As := [a1]) (by decide) rfl rfl).trans (congrArg (And _) (congrArg (And _) (mC_nl nl_81))))
theorem mj_205_96 : mc_P 205 96 = some (.invokevirtual 238, 3, 145, 8, 3) := by decide +kernel
theorem s_205_96 {x0 x1 x2 x3 : Option Value} {o : Nat} {a1 a2 : Value} : mw (d + 1) 205 Q 96 [x0, x1, x2, x3] (a2 :: a1 :: .ref o :: st) h = (mg h o 8 ∧ mca st 8 ∧ mca [.ref o, a1, a2] 3 ∧ mcall d 145 [.ref o, a1, a2] h (mK (d + 1) 205 Q 99 [x0, x1, x2, x3] st)) := (mw_at mj_205_96).trans ((z_invv (As := [a1, a2]) (by decide) rfl rfl).trans (congrArg (And _) (congrArg (And _) (mC_nl nl_145))))
theorem mj_205_99 : mc_P 205 99 = some (.aload_n 0, 1, 0, 0, 0) := by decide +kernel
theorem s_205_99 {x1 x2 x3 : Option Value} {w : Value} : mw d 205 Q 99 [some w, x1, x2, x3] (st) h = mv_a w (mw d 205 Q 100 [some w, x1, x2, x3] (w :: st) h) := (mw_at mj_205_99).trans (z_aload_n rfl)
theorem mj_205_100 : mc_P 205 100 = some (.getfield 25, 3, 11, 3, 0) := by decide +kernel
theorem s_205_100 {x0 x1 x2 x3 : Option Value} {o : Nat} : mw d 205 Q 100 [x0, x1, x2, x3] (.ref o :: st) h = (mg h o 11 ∧ mw d 205 Q 103 [x0, x1, x2, x3] (va_rf (mh_r h o 3) :: st) h) := (mw_at mj_205_100).trans (z_getr (by decide) (by decide) rfl)
theorem mj_205_103 : mc_P 205 103 = some (.getfield 234, 3, 1, 3, 0) := by decide +kernel
theorem s_205_103 {x0 x1 x2 x3 : Option Value} {o : Nat} : mw d 205 Q 103 [x0, x1, x2, x3] (.ref o :: st) h = (mg h o 1 ∧ mw d 205 Q 106 [x0, x1, x2, x3] (va_rf (mh_r h o 3) :: st) h) := (mw_at mj_205_103).trans (z_getr (by decide) (by decide) rfl)
theorem mj_205_106 : mc_P 205 106 = some (.aload_n 0, 1, 0, 0, 0) := by decide +kernel
theorem s_205_106 {x1 x2 x3 : Option Value} {w : Value} : mw d 205 Q 106 [some w, x1, x2, x3] (st) h = mv_a w (mw d 205 Q 107 [some w, x1, x2, x3] (w :: st) h) := (mw_at mj_205_106).trans (z_aload_n rfl)
theorem mj_205_107 : mc_P 205 107 = some (.getfield 47, 3, 11, 6, 0) := by decide +kernel
theorem s_205_107 {x0 x1 x2 x3 : Option Value} {o : Nat} : mw d 205 Q 107 [x0, x1, x2, x3] (.ref o :: st) h = (mg h o 11 ∧ mw d 205 Q 110 [x0, x1, x2, x3] (va_rf (mh_r h o 6) :: st) h) := (mw_at mj_205_107).trans (z_getr (by decide) (by decide) rfl)
theorem mj_205_110 : mc_P 205 110 = some (.iload_n 3, 1, 0, 0, 0) := by decide +kernel
theorem s_205_110 {x0 x1 x2 : Option Value} {w : Value} : mw d 205 Q 110 [x0, x1, x2, some w] (st) h = mv_i w (mw d 205 Q 111 [x0, x1, x2, some w] (w :: st) h) := (mw_at mj_205_110).trans (z_iload_n rfl)
theorem mj_205_111 : mc_P 205 111 = some (.aaload, 1, 0, 0, 0) := by decide +kernel
theorem s_205_111 {x0 x1 x2 x3 : Option Value} {o : Nat} {i : Int32} : mw d 205 Q 111 [x0, x1, x2, x3] (.int i :: .ref o :: st) h = (mgr h o ∧ mx i (mh_l h o) ∧ mw d 205 Q 112 [x0, x1, x2, x3] (mrd (mh_k h o) h o i.toNatClampNeg :: st) h) := (mw_at mj_205_111).trans (z_aald)
theorem mj_205_112 : mc_P 205 112 = some (.invokevirtual 242, 3, 149, 8, 2) := by decide +kernel
theorem s_205_112 {x0 x1 x2 x3 : Option Value} {o : Nat} {a1 : Value} : mw (d + 1) 205 Q 112 [x0, x1, x2, x3] (a1 :: .ref o :: st) h = (mg h o 8 ∧ mca st 8 ∧ mca [.ref o, a1] 3 ∧ mcall d 149 [.ref o, a1] h (mK (d + 1) 205 Q 115 [x0, x1, x2, x3] st)) := (mw_at mj_205_112).trans ((z_invv (As := [a1]) (by decide) rfl rfl).trans (congrArg (And _) (congrArg (And _) (mC_nl nl_149))))
theorem mj_205_115 : mc_P 205 115 = some (.istore_n 2, 1, 0, 0, 0) := by decide +kernel
theorem s_205_115 {x0 x1 x2 x3 : Option Value} {w : Int32} : mw d 205 Q 115 [x0, x1, x2, x3] (.int w :: st) h = mw d 205 Q 116 [x0, mk2 x1, some (.int w), x3] (st) h := (mw_at mj_205_115).trans (z_istore_n (Nat.le_of_ble_eq_true rfl) (me_s1_mk (j := 1) (w := x1) rfl))
theorem mj_205_116 : mc_P 205 116 = some (.aload_n 0, 1, 0, 0, 0) := by decide +kernel
theorem s_205_116 {x1 x2 x3 : Option Value} {w : Value} : mw d 205 Q 116 [some w, x1, x2, x3] (st) h = mv_a w (mw d 205 Q 117 [some w, x1, x2, x3] (w :: st) h) := (mw_at mj_205_116).trans (z_aload_n rfl)
theorem mj_205_117 : mc_P 205 117 = some (.getfield 16, 3, 11, 2, 0) := by decide +kernel
theorem s_205_117 {x0 x1 x2 x3 : Option Value} {o : Nat} : mw d 205 Q 117 [x0, x1, x2, x3] (.ref o :: st) h = (mg h o 11 ∧ mw d 205 Q 120 [x0, x1, x2, x3] (va_rf (mh_r h o 2) :: st) h) := (mw_at mj_205_117).trans (z_getr (by decide) (by decide) rfl)
theorem mj_205_120 : mc_P 205 120 = some (.getfield 245, 3, 4, 10, 0) := by decide +kernel
theorem s_205_120 {x0 x1 x2 x3 : Option Value} {o : Nat} : mw d 205 Q 120 [x0, x1, x2, x3] (.ref o :: st) h = (mg h o 4 ∧ mw d 205 Q 123 [x0, x1, x2, x3] (va_rf (mh_r h o 10) :: st) h) := (mw_at mj_205_120).trans (z_getr (by decide) (by decide) rfl)
theorem mj_205_123 : mc_P 205 123 = some (.iload_n 1, 1, 0, 0, 0) := by decide +kernel
theorem s_205_123 {x0 x2 x3 : Option Value} {w : Value} : mw d 205 Q 123 [x0, some w, x2, x3] (st) h = mv_i w (mw d 205 Q 124 [x0, some w, x2, x3] (w :: st) h) := (mw_at mj_205_123).trans (z_iload_n rfl)
theorem mj_205_124 : mc_P 205 124 = some (.iaload, 1, 0, 0, 0) := by decide +kernel
theorem s_205_124 {x0 x1 x2 x3 : Option Value} {o : Nat} {i : Int32} : mw d 205 Q 124 [x0, x1, x2, x3] (.int i :: .ref o :: st) h = (mg h o 100 ∧ mx i (mh_l h o) ∧ mw d 205 Q 125 [x0, x1, x2, x3] (.int (mh_i h o i.toNatClampNeg) :: st) h) := (mw_at mj_205_124).trans (z_iald)
theorem s_205_124x {x0 x1 x2 x3 : Option Value} {i : Int32} : mw d 205 Q 124 [x0, x1, x2, x3] (.int i :: .retAddr 2 :: st) h = (mx i 24 ∧ mw d 205 Q 125 [x0, x1, x2, x3] (.int (mx_row.getD i.toNatClampNeg 0) :: st) h) := (mw_at mj_205_124).trans (z_iaX)
theorem mj_205_125 : mc_P 205 125 = some (.istore_n 3, 1, 0, 0, 0) := by decide +kernel
theorem s_205_125 {x0 x1 x2 x3 : Option Value} {w : Int32} : mw d 205 Q 125 [x0, x1, x2, x3] (.int w :: st) h = mw d 205 Q 126 [x0, x1, mk2 x2, some (.int w)] (st) h := (mw_at mj_205_125).trans (z_istore_n (Nat.le_of_ble_eq_true rfl) (me_s1_mk (j := 2) (w := x2) rfl))
theorem mj_205_126 : mc_P 205 126 = some (.aload_n 0, 1, 0, 0, 0) := by decide +kernel
theorem s_205_126 {x1 x2 x3 : Option Value} {w : Value} : mw d 205 Q 126 [some w, x1, x2, x3] (st) h = mv_a w (mw d 205 Q 127 [some w, x1, x2, x3] (w :: st) h) := (mw_at mj_205_126).trans (z_aload_n rfl)
theorem mj_205_127 : mc_P 205 127 = some (.getfield 25, 3, 11, 3, 0) := by decide +kernel
theorem s_205_127 {x0 x1 x2 x3 : Option Value} {o : Nat} : mw d 205 Q 127 [x0, x1, x2, x3] (.ref o :: st) h = (mg h o 11 ∧ mw d 205 Q 130 [x0, x1, x2, x3] (va_rf (mh_r h o 3) :: st) h) := (mw_at mj_205_127).trans (z_getr (by decide) (by decide) rfl)
theorem mj_205_130 : mc_P 205 130 = some (.getfield 248, 3, 1, 2, 0) := by decide +kernel
theorem s_205_130 {x0 x1 x2 x3 : Option Value} {o : Nat} : mw d 205 Q 130 [x0, x1, x2, x3] (.ref o :: st) h = (mg h o 1 ∧ mw d 205 Q 133 [x0, x1, x2, x3] (va_rf (mh_r h o 2) :: st) h) := (mw_at mj_205_130).trans (z_getr (by decide) (by decide) rfl)
theorem mj_205_133 : mc_P 205 133 = some (.aload_n 0, 1, 0, 0, 0) := by decide +kernel
theorem s_205_133 {x1 x2 x3 : Option Value} {w : Value} : mw d 205 Q 133 [some w, x1, x2, x3] (st) h = mv_a w (mw d 205 Q 134 [some w, x1, x2, x3] (w :: st) h) := (mw_at mj_205_133).trans (z_aload_n rfl)
theorem mj_205_134 : mc_P 205 134 = some (.getfield 16, 3, 11, 2, 0) := by decide +kernel
theorem s_205_134 {x0 x1 x2 x3 : Option Value} {o : Nat} : mw d 205 Q 134 [x0, x1, x2, x3] (.ref o :: st) h = (mg h o 11 ∧ mw d 205 Q 137 [x0, x1, x2, x3] (va_rf (mh_r h o 2) :: st) h) := (mw_at mj_205_134).trans (z_getr (by decide) (by decide) rfl)
theorem mj_205_137 : mc_P 205 137 = some (.iload_n 3, 1, 0, 0, 0) := by decide +kernel
theorem s_205_137 {x0 x1 x2 : Option Value} {w : Value} : mw d 205 Q 137 [x0, x1, x2, some w] (st) h = mv_i w (mw d 205 Q 138 [x0, x1, x2, some w] (w :: st) h) := (mw_at mj_205_137).trans (z_iload_n rfl)
theorem mj_205_138 : mc_P 205 138 = some (.invokevirtual 154, 3, 80, 4, 2) := by decide +kernel
theorem s_205_138 {x0 x1 x2 x3 : Option Value} {o : Nat} {a1 : Value} : mw (d + 1) 205 Q 138 [x0, x1, x2, x3] (a1 :: .ref o :: st) h = (mg h o 4 ∧ mca st 8 ∧ mca [.ref o, a1] 2 ∧ mcall d 80 [.ref o, a1] h (mK (d + 1) 205 Q 141 [x0, x1, x2, x3] st)) := (mw_at mj_205_138).trans ((z_invv (As := [a1]) (by decide) rfl rfl).trans (congrArg (And _) (congrArg (And _) (mC_nl nl_80))))
theorem mj_205_141 : mc_P 205 141 = some (.aload_n 0, 1, 0, 0, 0) := by decide +kernel
theorem s_205_141 {x1 x2 x3 : Option Value} {w : Value} : mw d 205 Q 141 [some w, x1, x2, x3] (st) h = mv_a w (mw d 205 Q 142 [some w, x1, x2, x3] (w :: st) h) := (mw_at mj_205_141).trans (z_aload_n rfl)
theorem mj_205_142 : mc_P 205 142 = some (.getfield 16, 3, 11, 2, 0) := by decide +kernel
theorem s_205_142 {x0 x1 x2 x3 : Option Value} {o : Nat} : mw d 205 Q 142 [x0, x1, x2, x3] (.ref o :: st) h = (mg h o 11 ∧ mw d 205 Q 145 [x0, x1, x2, x3] (va_rf (mh_r h o 2) :: st) h) := (mw_at mj_205_142).trans (z_getr (by decide) (by decide) rfl)
theorem mj_205_145 : mc_P 205 145 = some (.iload_n 3, 1, 0, 0, 0) := by decide +kernel
theorem s_205_145 {x0 x1 x2 : Option Value} {w : Value} : mw d 205 Q 145 [x0, x1, x2, some w] (st) h = mv_i w (mw d 205 Q 146 [x0, x1, x2, some w] (w :: st) h) := (mw_at mj_205_145).trans (z_iload_n rfl)
theorem mj_205_146 : mc_P 205 146 = some (.invokevirtual 158, 3, 81, 4, 2) := by decide +kernel
theorem s_205_146 {x0 x1 x2 x3 : Option Value} {o : Nat} {a1 : Value} : mw (d + 1) 205 Q 146 [x0, x1, x2, x3] (a1 :: .ref o :: st) h = (mg h o 4 ∧ mca st 8 ∧ mca [.ref o, a1] 2 ∧ mcall d 81 [.ref o, a1] h (mK (d + 1) 205 Q 149 [x0, x1, x2, x3] st)) := (mw_at mj_205_146).trans ((z_invv (As := [a1]) (by decide) rfl rfl).trans (congrArg (And _) (congrArg (And _) (mC_nl nl_81))))
theorem mj_205_149 : mc_P 205 149 = some (.invokevirtual 238, 3, 145, 8, 3) := by decide +kernel
theorem s_205_149 {x0 x1 x2 x3 : Option Value} {o : Nat} {a1 a2 : Value} : mw (d + 1) 205 Q 149 [x0, x1, x2, x3] (a2 :: a1 :: .ref o :: st) h = (mg h o 8 ∧ mca st 8 ∧ mca [.ref o, a1, a2] 3 ∧ mcall d 145 [.ref o, a1, a2] h (mK (d + 1) 205 Q 152 [x0, x1, x2, x3] st)) := (mw_at mj_205_149).trans ((z_invv (As := [a1, a2]) (by decide) rfl rfl).trans (congrArg (And _) (congrArg (And _) (mC_nl nl_145))))
theorem mj_205_152 : mc_P 205 152 = some (.iload_n 2, 1, 0, 0, 0) := by decide +kernel
theorem s_205_152 {x0 x1 x3 : Option Value} {w : Value} : mw d 205 Q 152 [x0, x1, some w, x3] (st) h = mv_i w (mw d 205 Q 153 [x0, x1, some w, x3] (w :: st) h) := (mw_at mj_205_152).trans (z_iload_n rfl)
theorem mj_205_153 : mc_P 205 153 = some (.ifCond .eq 26, 3, 0, 0, 0) := by decide +kernel
theorem s_205_153 {x0 x1 x2 x3 : Option Value} {x : Int32} : mw d 205 Q 153 [x0, x1, x2, x3] (.int x :: st) h = mB (x = 0) (mw d 205 Q) 179 156 [x0, x1, x2, x3] st h := (mw_at mj_205_153).trans (z_if_eq (by decide) rfl)
theorem mj_205_156 : mc_P 205 156 = some (.aload_n 0, 1, 0, 0, 0) := by decide +kernel
theorem s_205_156 {x1 x2 x3 : Option Value} {w : Value} : mw d 205 Q 156 [some w, x1, x2, x3] (st) h = mv_a w (mw d 205 Q 157 [some w, x1, x2, x3] (w :: st) h) := (mw_at mj_205_156).trans (z_aload_n rfl)
theorem mj_205_157 : mc_P 205 157 = some (.getfield 25, 3, 11, 3, 0) := by decide +kernel
theorem s_205_157 {x0 x1 x2 x3 : Option Value} {o : Nat} : mw d 205 Q 157 [x0, x1, x2, x3] (.ref o :: st) h = (mg h o 11 ∧ mw d 205 Q 160 [x0, x1, x2, x3] (va_rf (mh_r h o 3) :: st) h) := (mw_at mj_205_157).trans (z_getr (by decide) (by decide) rfl)
theorem mj_205_160 : mc_P 205 160 = some (.getfield 248, 3, 1, 2, 0) := by decide +kernel
theorem s_205_160 {x0 x1 x2 x3 : Option Value} {o : Nat} : mw d 205 Q 160 [x0, x1, x2, x3] (.ref o :: st) h = (mg h o 1 ∧ mw d 205 Q 163 [x0, x1, x2, x3] (va_rf (mh_r h o 2) :: st) h) := (mw_at mj_205_160).trans (z_getr (by decide) (by decide) rfl)
theorem mj_205_163 : mc_P 205 163 = some (.aload_n 0, 1, 0, 0, 0) := by decide +kernel
theorem s_205_163 {x1 x2 x3 : Option Value} {w : Value} : mw d 205 Q 163 [some w, x1, x2, x3] (st) h = mv_a w (mw d 205 Q 164 [some w, x1, x2, x3] (w :: st) h) := (mw_at mj_205_163).trans (z_aload_n rfl)
theorem mj_205_164 : mc_P 205 164 = some (.getfield 47, 3, 11, 6, 0) := by decide +kernel
theorem s_205_164 {x0 x1 x2 x3 : Option Value} {o : Nat} : mw d 205 Q 164 [x0, x1, x2, x3] (.ref o :: st) h = (mg h o 11 ∧ mw d 205 Q 167 [x0, x1, x2, x3] (va_rf (mh_r h o 6) :: st) h) := (mw_at mj_205_164).trans (z_getr (by decide) (by decide) rfl)
theorem mj_205_167 : mc_P 205 167 = some (.iload_n 3, 1, 0, 0, 0) := by decide +kernel
theorem s_205_167 {x0 x1 x2 : Option Value} {w : Value} : mw d 205 Q 167 [x0, x1, x2, some w] (st) h = mv_i w (mw d 205 Q 168 [x0, x1, x2, some w] (w :: st) h) := (mw_at mj_205_167).trans (z_iload_n rfl)
theorem mj_205_168 : mc_P 205 168 = some (.aaload, 1, 0, 0, 0) := by decide +kernel
theorem s_205_168 {x0 x1 x2 x3 : Option Value} {o : Nat} {i : Int32} : mw d 205 Q 168 [x0, x1, x2, x3] (.int i :: .ref o :: st) h = (mgr h o ∧ mx i (mh_l h o) ∧ mw d 205 Q 169 [x0, x1, x2, x3] (mrd (mh_k h o) h o i.toNatClampNeg :: st) h) := (mw_at mj_205_168).trans (z_aald)
theorem mj_205_169 : mc_P 205 169 = some (.invokevirtual 242, 3, 149, 8, 2) := by decide +kernel
theorem s_205_169 {x0 x1 x2 x3 : Option Value} {o : Nat} {a1 : Value} : mw (d + 1) 205 Q 169 [x0, x1, x2, x3] (a1 :: .ref o :: st) h = (mg h o 8 ∧ mca st 8 ∧ mca [.ref o, a1] 3 ∧ mcall d 149 [.ref o, a1] h (mK (d + 1) 205 Q 172 [x0, x1, x2, x3] st)) := (mw_at mj_205_169).trans ((z_invv (As := [a1]) (by decide) rfl rfl).trans (congrArg (And _) (congrArg (And _) (mC_nl nl_149))))
theorem mj_205_172 : mc_P 205 172 = some (.ifCond .eq 7, 3, 0, 0, 0) := by decide +kernel
theorem s_205_172 {x0 x1 x2 x3 : Option Value} {x : Int32} : mw d 205 Q 172 [x0, x1, x2, x3] (.int x :: st) h = mB (x = 0) (mw d 205 Q) 179 175 [x0, x1, x2, x3] st h := (mw_at mj_205_172).trans (z_if_eq (by decide) rfl)
theorem mj_205_175 : mc_P 205 175 = some (.iconst 1, 1, 0, 0, 0) := by decide +kernel
theorem s_205_175 {x0 x1 x2 x3 : Option Value} : mw d 205 Q 175 [x0, x1, x2, x3] (st) h = mw d 205 Q 176 [x0, x1, x2, x3] (.int 1 :: st) h := (mw_at mj_205_175).trans (z_iconst (by decide))
theorem mj_205_176 : mc_P 205 176 = some (.goto 4, 3, 0, 0, 0) := by decide +kernel
theorem s_205_176 {x0 x1 x2 x3 : Option Value} : mw d 205 Q 176 [x0, x1, x2, x3] (st) h = mw d 205 Q 180 [x0, x1, x2, x3] (st) h := (mw_at mj_205_176).trans (z_goto (by decide))
theorem mj_205_179 : mc_P 205 179 = some (.iconst 0, 1, 0, 0, 0) := by decide +kernel
theorem s_205_179 {x0 x1 x2 x3 : Option Value} : mw d 205 Q 179 [x0, x1, x2, x3] (st) h = mw d 205 Q 180 [x0, x1, x2, x3] (.int 0 :: st) h := (mw_at mj_205_179).trans (z_iconst (by decide))
theorem mj_205_180 : mc_P 205 180 = some (.ireturn, 1, 0, 3, 0) := by decide +kernel
theorem s_205_180 {x0 x1 x2 x3 : Option Value} {x : Int32} : mw d 205 Q 180 [x0, x1, x2, x3] ([.int x]) h = ((x = 0 ∨ x = 1) ∧ Q (some (.int x)) h) := (mw_at mj_205_180).trans (z_zret)
theorem e_205 {a0 : Nat} {a1 : Int32} : mcall d 205 [.ref a0, .int a1] h Q = mw d 205 Q 0 [some (.ref a0), some (.int a1), none, none] [] h := by
  show mw d 205 Q 0 (me_en (mc_nl 205) _) [] h = _
  rw [nl_205]; rfl

/-! InvariantDesk.writeNumbers(ILInvariantDesk$State;)V -/
theorem mj_215_0 : mc_P 215 0 = some (.iconst 0, 1, 0, 0, 0) := by decide +kernel
theorem s_215_0 {x0 x1 x2 x3 : Option Value} : mw d 215 Q 0 [x0, x1, x2, x3] (st) h = mw d 215 Q 1 [x0, x1, x2, x3] (.int 0 :: st) h := (mw_at mj_215_0).trans (z_iconst (by decide))
theorem mj_215_1 : mc_P 215 1 = some (.istore_n 3, 1, 0, 0, 0) := by decide +kernel
theorem s_215_1 {x0 x1 x2 x3 : Option Value} {w : Int32} : mw d 215 Q 1 [x0, x1, x2, x3] (.int w :: st) h = mw d 215 Q 2 [x0, x1, mk2 x2, some (.int w)] (st) h := (mw_at mj_215_1).trans (z_istore_n (Nat.le_of_ble_eq_true rfl) (me_s1_mk (j := 2) (w := x2) rfl))
theorem mj_215_2 : mc_P 215 2 = some (.iload_n 3, 1, 0, 0, 0) := by decide +kernel
theorem s_215_2 {x0 x1 x2 : Option Value} {w : Value} : mw d 215 Q 2 [x0, x1, x2, some w] (st) h = mv_i w (mw d 215 Q 3 [x0, x1, x2, some w] (w :: st) h) := (mw_at mj_215_2).trans (z_iload_n rfl)
theorem mj_215_3 : mc_P 215 3 = some (.aload_n 2, 1, 0, 0, 0) := by decide +kernel
theorem s_215_3 {x0 x1 x3 : Option Value} {w : Value} : mw d 215 Q 3 [x0, x1, some w, x3] (st) h = mv_a w (mw d 215 Q 4 [x0, x1, some w, x3] (w :: st) h) := (mw_at mj_215_3).trans (z_aload_n rfl)
theorem mj_215_4 : mc_P 215 4 = some (.getfield 290, 3, 8, 1, 0) := by decide +kernel
theorem s_215_4 {x0 x1 x2 x3 : Option Value} {o : Nat} : mw d 215 Q 4 [x0, x1, x2, x3] (.ref o :: st) h = (mg h o 8 ∧ mw d 215 Q 7 [x0, x1, x2, x3] (.int (mh_i h o 1) :: st) h) := (mw_at mj_215_4).trans (z_geti (by decide) (by decide) (Or.inl rfl))
theorem mj_215_7 : mc_P 215 7 = some (.if_icmp .ge 55, 3, 0, 0, 0) := by decide +kernel
theorem s_215_7 {x0 x1 x2 x3 : Option Value} {x w : Int32} : mw d 215 Q 7 [x0, x1, x2, x3] (.int w :: .int x :: st) h = mB (w ≤ x) (mw d 215 Q) 62 10 [x0, x1, x2, x3] st h := (mw_at mj_215_7).trans (z_icmp_ge (by decide) rfl)
theorem mj_215_10 : mc_P 215 10 = some (.aload_n 0, 1, 0, 0, 0) := by decide +kernel
theorem s_215_10 {x1 x2 x3 : Option Value} {w : Value} : mw d 215 Q 10 [some w, x1, x2, x3] (st) h = mv_a w (mw d 215 Q 11 [some w, x1, x2, x3] (w :: st) h) := (mw_at mj_215_10).trans (z_aload_n rfl)
theorem mj_215_11 : mc_P 215 11 = some (.invokevirtual 307, 3, 219, 11, 1) := by decide +kernel
theorem s_215_11 {x0 x1 x2 x3 : Option Value} {o : Nat} : mw (d + 1) 215 Q 11 [x0, x1, x2, x3] (.ref o :: st) h = (mg h o 11 ∧ mca st 8 ∧ mca [.ref o] 1 ∧ mcall d 219 [.ref o] h (mK (d + 1) 215 Q 14 [x0, x1, x2, x3] st)) := (mw_at mj_215_11).trans ((z_invv (As := []) (by decide) rfl rfl).trans (congrArg (And _) (congrArg (And _) (mC_nl nl_219))))
theorem mj_215_14 : mc_P 215 14 = some (.aload_n 0, 1, 0, 0, 0) := by decide +kernel
theorem s_215_14 {x1 x2 x3 : Option Value} {w : Value} : mw d 215 Q 14 [some w, x1, x2, x3] (st) h = mv_a w (mw d 215 Q 15 [some w, x1, x2, x3] (w :: st) h) := (mw_at mj_215_14).trans (z_aload_n rfl)
theorem mj_215_15 : mc_P 215 15 = some (.aload_n 0, 1, 0, 0, 0) := by decide +kernel
theorem s_215_15 {x1 x2 x3 : Option Value} {w : Value} : mw d 215 Q 15 [some w, x1, x2, x3] (st) h = mv_a w (mw d 215 Q 16 [some w, x1, x2, x3] (w :: st) h) := (mw_at mj_215_15).trans (z_aload_n rfl)
theorem mj_215_16 : mc_P 215 16 = some (.getfield 16, 3, 11, 2, 0) := by decide +kernel
theorem s_215_16 {x0 x1 x2 x3 : Option Value} {o : Nat} : mw d 215 Q 16 [x0, x1, x2, x3] (.ref o :: st) h = (mg h o 11 ∧ mw d 215 Q 19 [x0, x1, x2, x3] (va_rf (mh_r h o 2) :: st) h) := (mw_at mj_215_16).trans (z_getr (by decide) (by decide) rfl)
theorem mj_215_19 : mc_P 215 19 = some (.iload_n 1, 1, 0, 0, 0) := by decide +kernel
theorem s_215_19 {x0 x2 x3 : Option Value} {w : Value} : mw d 215 Q 19 [x0, some w, x2, x3] (st) h = mv_i w (mw d 215 Q 20 [x0, some w, x2, x3] (w :: st) h) := (mw_at mj_215_19).trans (z_iload_n rfl)
theorem mj_215_20 : mc_P 215 20 = some (.iload_n 3, 1, 0, 0, 0) := by decide +kernel
theorem s_215_20 {x0 x1 x2 : Option Value} {w : Value} : mw d 215 Q 20 [x0, x1, x2, some w] (st) h = mv_i w (mw d 215 Q 21 [x0, x1, x2, some w] (w :: st) h) := (mw_at mj_215_20).trans (z_iload_n rfl)
theorem mj_215_21 : mc_P 215 21 = some (.invokevirtual 310, 3, 82, 4, 3) := by decide +kernel
theorem s_215_21 {x0 x1 x2 x3 : Option Value} {o : Nat} {a1 a2 : Value} : mw (d + 1) 215 Q 21 [x0, x1, x2, x3] (a2 :: a1 :: .ref o :: st) h = (mg h o 4 ∧ mca st 8 ∧ mca [.ref o, a1, a2] 3 ∧ mcall d 82 [.ref o, a1, a2] h (mK (d + 1) 215 Q 24 [x0, x1, x2, x3] st)) := (mw_at mj_215_21).trans ((z_invv (As := [a1, a2]) (by decide) rfl rfl).trans (congrArg (And _) (congrArg (And _) (mC_nl nl_82))))
theorem mj_215_24 : mc_P 215 24 = some (.invokevirtual 313, 3, 221, 11, 2) := by decide +kernel
theorem s_215_24 {x0 x1 x2 x3 : Option Value} {o : Nat} {a1 : Value} : mw (d + 1) 215 Q 24 [x0, x1, x2, x3] (a1 :: .ref o :: st) h = (mg h o 11 ∧ mca st 8 ∧ mca [.ref o, a1] 4 ∧ mcall d 221 [.ref o, a1] h (mK (d + 1) 215 Q 27 [x0, x1, x2, x3] st)) := (mw_at mj_215_24).trans ((z_invv (As := [a1]) (by decide) rfl rfl).trans (congrArg (And _) (congrArg (And _) (mC_nl nl_221))))
theorem mj_215_27 : mc_P 215 27 = some (.aload_n 0, 1, 0, 0, 0) := by decide +kernel
theorem s_215_27 {x1 x2 x3 : Option Value} {w : Value} : mw d 215 Q 27 [some w, x1, x2, x3] (st) h = mv_a w (mw d 215 Q 28 [some w, x1, x2, x3] (w :: st) h) := (mw_at mj_215_27).trans (z_aload_n rfl)
theorem mj_215_28 : mc_P 215 28 = some (.aload_n 2, 1, 0, 0, 0) := by decide +kernel
theorem s_215_28 {x0 x1 x3 : Option Value} {w : Value} : mw d 215 Q 28 [x0, x1, some w, x3] (st) h = mv_a w (mw d 215 Q 29 [x0, x1, some w, x3] (w :: st) h) := (mw_at mj_215_28).trans (z_aload_n rfl)
theorem mj_215_29 : mc_P 215 29 = some (.iconst 2, 1, 0, 0, 0) := by decide +kernel
theorem s_215_29 {x0 x1 x2 x3 : Option Value} : mw d 215 Q 29 [x0, x1, x2, x3] (st) h = mw d 215 Q 30 [x0, x1, x2, x3] (.int 2 :: st) h := (mw_at mj_215_29).trans (z_iconst (by decide))
theorem mj_215_30 : mc_P 215 30 = some (.iload_n 3, 1, 0, 0, 0) := by decide +kernel
theorem s_215_30 {x0 x1 x2 : Option Value} {w : Value} : mw d 215 Q 30 [x0, x1, x2, some w] (st) h = mv_i w (mw d 215 Q 31 [x0, x1, x2, some w] (w :: st) h) := (mw_at mj_215_30).trans (z_iload_n rfl)
theorem mj_215_31 : mc_P 215 31 = some (.imul, 1, 0, 0, 0) := by decide +kernel
theorem s_215_31 {x0 x1 x2 x3 : Option Value} {x w : Int32} : mw d 215 Q 31 [x0, x1, x2, x3] (.int w :: .int x :: st) h = mw d 215 Q 32 [x0, x1, x2, x3] (.int (x * w) :: st) h := (mw_at mj_215_31).trans (z_imul)
theorem mj_215_32 : mc_P 215 32 = some (.iconst 1, 1, 0, 0, 0) := by decide +kernel
theorem s_215_32 {x0 x1 x2 x3 : Option Value} : mw d 215 Q 32 [x0, x1, x2, x3] (st) h = mw d 215 Q 33 [x0, x1, x2, x3] (.int 1 :: st) h := (mw_at mj_215_32).trans (z_iconst (by decide))
theorem mj_215_33 : mc_P 215 33 = some (.iadd, 1, 0, 0, 0) := by decide +kernel
theorem s_215_33 {x0 x1 x2 x3 : Option Value} {x w : Int32} : mw d 215 Q 33 [x0, x1, x2, x3] (.int w :: .int x :: st) h = mw d 215 Q 34 [x0, x1, x2, x3] (.int (x + w) :: st) h := (mw_at mj_215_33).trans (z_iadd)
theorem mj_215_34 : mc_P 215 34 = some (.iconst 2, 1, 0, 0, 0) := by decide +kernel
theorem s_215_34 {x0 x1 x2 x3 : Option Value} : mw d 215 Q 34 [x0, x1, x2, x3] (st) h = mw d 215 Q 35 [x0, x1, x2, x3] (.int 2 :: st) h := (mw_at mj_215_34).trans (z_iconst (by decide))
theorem mj_215_35 : mc_P 215 35 = some (.iload_n 3, 1, 0, 0, 0) := by decide +kernel
theorem s_215_35 {x0 x1 x2 : Option Value} {w : Value} : mw d 215 Q 35 [x0, x1, x2, some w] (st) h = mv_i w (mw d 215 Q 36 [x0, x1, x2, some w] (w :: st) h) := (mw_at mj_215_35).trans (z_iload_n rfl)
theorem mj_215_36 : mc_P 215 36 = some (.imul, 1, 0, 0, 0) := by decide +kernel
theorem s_215_36 {x0 x1 x2 x3 : Option Value} {x w : Int32} : mw d 215 Q 36 [x0, x1, x2, x3] (.int w :: .int x :: st) h = mw d 215 Q 37 [x0, x1, x2, x3] (.int (x * w) :: st) h := (mw_at mj_215_36).trans (z_imul)
theorem mj_215_37 : mc_P 215 37 = some (.iconst 1, 1, 0, 0, 0) := by decide +kernel
theorem s_215_37 {x0 x1 x2 x3 : Option Value} : mw d 215 Q 37 [x0, x1, x2, x3] (st) h = mw d 215 Q 38 [x0, x1, x2, x3] (.int 1 :: st) h := (mw_at mj_215_37).trans (z_iconst (by decide))
theorem mj_215_38 : mc_P 215 38 = some (.iadd, 1, 0, 0, 0) := by decide +kernel
theorem s_215_38 {x0 x1 x2 x3 : Option Value} {x w : Int32} : mw d 215 Q 38 [x0, x1, x2, x3] (.int w :: .int x :: st) h = mw d 215 Q 39 [x0, x1, x2, x3] (.int (x + w) :: st) h := (mw_at mj_215_38).trans (z_iadd)
theorem mj_215_39 : mc_P 215 39 = some (.invokevirtual 178, 3, 146, 8, 3) := by decide +kernel
theorem s_215_39 {x0 x1 x2 x3 : Option Value} {o : Nat} {a1 a2 : Value} : mw (d + 1) 215 Q 39 [x0, x1, x2, x3] (a2 :: a1 :: .ref o :: st) h = (mg h o 8 ∧ mca st 8 ∧ mca [.ref o, a1, a2] 5 ∧ mcall d 146 [.ref o, a1, a2] h (mK (d + 1) 215 Q 42 [x0, x1, x2, x3] st)) := (mw_at mj_215_39).trans ((z_invv (As := [a1, a2]) (by decide) rfl rfl).trans (congrArg (And _) (congrArg (And _) (mC_nl nl_146))))
theorem mj_215_42 : mc_P 215 42 = some (.lneg, 1, 0, 0, 0) := by decide +kernel
theorem s_215_42 {x0 x1 x2 x3 : Option Value} {x : Int64} : mw d 215 Q 42 [x0, x1, x2, x3] (.long x :: st) h = mw d 215 Q 43 [x0, x1, x2, x3] (.long (-x) :: st) h := (mw_at mj_215_42).trans (z_lneg)
theorem mj_215_43 : mc_P 215 43 = some (.aload_n 2, 1, 0, 0, 0) := by decide +kernel
theorem s_215_43 {x0 x1 x3 : Option Value} {w : Value} : mw d 215 Q 43 [x0, x1, some w, x3] (st) h = mv_a w (mw d 215 Q 44 [x0, x1, some w, x3] (w :: st) h) := (mw_at mj_215_43).trans (z_aload_n rfl)
theorem mj_215_44 : mc_P 215 44 = some (.iconst 2, 1, 0, 0, 0) := by decide +kernel
theorem s_215_44 {x0 x1 x2 x3 : Option Value} : mw d 215 Q 44 [x0, x1, x2, x3] (st) h = mw d 215 Q 45 [x0, x1, x2, x3] (.int 2 :: st) h := (mw_at mj_215_44).trans (z_iconst (by decide))
theorem mj_215_45 : mc_P 215 45 = some (.iload_n 3, 1, 0, 0, 0) := by decide +kernel
theorem s_215_45 {x0 x1 x2 : Option Value} {w : Value} : mw d 215 Q 45 [x0, x1, x2, some w] (st) h = mv_i w (mw d 215 Q 46 [x0, x1, x2, some w] (w :: st) h) := (mw_at mj_215_45).trans (z_iload_n rfl)
theorem mj_215_46 : mc_P 215 46 = some (.imul, 1, 0, 0, 0) := by decide +kernel
theorem s_215_46 {x0 x1 x2 x3 : Option Value} {x w : Int32} : mw d 215 Q 46 [x0, x1, x2, x3] (.int w :: .int x :: st) h = mw d 215 Q 47 [x0, x1, x2, x3] (.int (x * w) :: st) h := (mw_at mj_215_46).trans (z_imul)
theorem mj_215_47 : mc_P 215 47 = some (.iconst 2, 1, 0, 0, 0) := by decide +kernel
theorem s_215_47 {x0 x1 x2 x3 : Option Value} : mw d 215 Q 47 [x0, x1, x2, x3] (st) h = mw d 215 Q 48 [x0, x1, x2, x3] (.int 2 :: st) h := (mw_at mj_215_47).trans (z_iconst (by decide))
theorem mj_215_48 : mc_P 215 48 = some (.iload_n 3, 1, 0, 0, 0) := by decide +kernel
theorem s_215_48 {x0 x1 x2 : Option Value} {w : Value} : mw d 215 Q 48 [x0, x1, x2, some w] (st) h = mv_i w (mw d 215 Q 49 [x0, x1, x2, some w] (w :: st) h) := (mw_at mj_215_48).trans (z_iload_n rfl)
theorem mj_215_49 : mc_P 215 49 = some (.imul, 1, 0, 0, 0) := by decide +kernel
theorem s_215_49 {x0 x1 x2 x3 : Option Value} {x w : Int32} : mw d 215 Q 49 [x0, x1, x2, x3] (.int w :: .int x :: st) h = mw d 215 Q 50 [x0, x1, x2, x3] (.int (x * w) :: st) h := (mw_at mj_215_49).trans (z_imul)
theorem mj_215_50 : mc_P 215 50 = some (.invokevirtual 178, 3, 146, 8, 3) := by decide +kernel
theorem s_215_50 {x0 x1 x2 x3 : Option Value} {o : Nat} {a1 a2 : Value} : mw (d + 1) 215 Q 50 [x0, x1, x2, x3] (a2 :: a1 :: .ref o :: st) h = (mg h o 8 ∧ mca st 8 ∧ mca [.ref o, a1, a2] 5 ∧ mcall d 146 [.ref o, a1, a2] h (mK (d + 1) 215 Q 53 [x0, x1, x2, x3] st)) := (mw_at mj_215_50).trans ((z_invv (As := [a1, a2]) (by decide) rfl rfl).trans (congrArg (And _) (congrArg (And _) (mC_nl nl_146))))
theorem mj_215_53 : mc_P 215 53 = some (.invokevirtual 316, 3, 220, 11, 3) := by decide +kernel
theorem s_215_53 {x0 x1 x2 x3 : Option Value} {o : Nat} {a1 a2 : Value} : mw (d + 1) 215 Q 53 [x0, x1, x2, x3] (a2 :: a1 :: .ref o :: st) h = (mg h o 11 ∧ mca st 8 ∧ mca [.ref o, a1, a2] 5 ∧ mcall d 220 [.ref o, a1, a2] h (mK (d + 1) 215 Q 56 [x0, x1, x2, x3] st)) := (mw_at mj_215_53).trans ((z_invv (As := [a1, a2]) (by decide) rfl rfl).trans (congrArg (And _) (congrArg (And _) (mC_nl nl_220))))
theorem mj_215_56 : mc_P 215 56 = some (.iinc 3 1, 3, 0, 0, 0) := by decide +kernel
theorem s_215_56 {x0 x1 x2 : Option Value} {w : Int32} : mw d 215 Q 56 [x0, x1, x2, some (.int w)] (st) h = mw d 215 Q 59 [x0, x1, mk2 x2, some (.int (w + 1))] (st) h := (mw_at mj_215_56).trans (z_iinc rfl (Nat.le_of_ble_eq_true rfl) (by decide) (me_s1_mk (j := 2) (w := x2) rfl))
theorem mj_215_59 : mc_P 215 59 = some (.goto (-57), 3, 0, 0, 0) := by decide +kernel
theorem s_215_59 {x0 x1 x2 x3 : Option Value} : mw d 215 Q 59 [x0, x1, x2, x3] (st) h = mw d 215 Q 2 [x0, x1, x2, x3] (st) h := (mw_at mj_215_59).trans (z_goto (by decide))
theorem mj_215_62 : mc_P 215 62 = some (.return_, 1, 0, 0, 0) := by decide +kernel
theorem s_215_62 {x0 x1 x2 x3 : Option Value} : mw d 215 Q 62 [x0, x1, x2, x3] ([]) h = Q none h := (mw_at mj_215_62).trans (z_vret)
theorem e_215 {a0 : Nat} {a1 : Int32} {a2 : Nat} : mcall d 215 [.ref a0, .int a1, .ref a2] h Q = mw d 215 Q 0 [some (.ref a0), some (.int a1), some (.ref a2), none] [] h := by
  show mw d 215 Q 0 (me_en (mc_nl 215) _) [] h = _
  rw [nl_215]; rfl

/-! InvariantDesk.writePairs(ILInvariantDesk$State;)V -/
theorem mj_216_0 : mc_P 216 0 = some (.iconst 0, 1, 0, 0, 0) := by decide +kernel
theorem s_216_0 {x0 x1 x2 x3 x4 x5 : Option Value} : mw d 216 Q 0 [x0, x1, x2, x3, x4, x5] (st) h = mw d 216 Q 1 [x0, x1, x2, x3, x4, x5] (.int 0 :: st) h := (mw_at mj_216_0).trans (z_iconst (by decide))
theorem mj_216_1 : mc_P 216 1 = some (.istore_n 3, 1, 0, 0, 0) := by decide +kernel
theorem s_216_1 {x0 x1 x2 x3 x4 x5 : Option Value} {w : Int32} : mw d 216 Q 1 [x0, x1, x2, x3, x4, x5] (.int w :: st) h = mw d 216 Q 2 [x0, x1, mk2 x2, some (.int w), x4, x5] (st) h := (mw_at mj_216_1).trans (z_istore_n (Nat.le_of_ble_eq_true rfl) (me_s1_mk (j := 2) (w := x2) rfl))
theorem mj_216_2 : mc_P 216 2 = some (.iload_n 3, 1, 0, 0, 0) := by decide +kernel
theorem s_216_2 {x0 x1 x2 x4 x5 : Option Value} {w : Value} : mw d 216 Q 2 [x0, x1, x2, some w, x4, x5] (st) h = mv_i w (mw d 216 Q 3 [x0, x1, x2, some w, x4, x5] (w :: st) h) := (mw_at mj_216_2).trans (z_iload_n rfl)
theorem mj_216_3 : mc_P 216 3 = some (.aload_n 2, 1, 0, 0, 0) := by decide +kernel
theorem s_216_3 {x0 x1 x3 x4 x5 : Option Value} {w : Value} : mw d 216 Q 3 [x0, x1, some w, x3, x4, x5] (st) h = mv_a w (mw d 216 Q 4 [x0, x1, some w, x3, x4, x5] (w :: st) h) := (mw_at mj_216_3).trans (z_aload_n rfl)
theorem mj_216_4 : mc_P 216 4 = some (.getfield 290, 3, 8, 1, 0) := by decide +kernel
theorem s_216_4 {x0 x1 x2 x3 x4 x5 : Option Value} {o : Nat} : mw d 216 Q 4 [x0, x1, x2, x3, x4, x5] (.ref o :: st) h = (mg h o 8 ∧ mw d 216 Q 7 [x0, x1, x2, x3, x4, x5] (.int (mh_i h o 1) :: st) h) := (mw_at mj_216_4).trans (z_geti (by decide) (by decide) (Or.inl rfl))
theorem mj_216_7 : mc_P 216 7 = some (.if_icmp .ge 67, 3, 0, 0, 0) := by decide +kernel
theorem s_216_7 {x0 x1 x2 x3 x4 x5 : Option Value} {x w : Int32} : mw d 216 Q 7 [x0, x1, x2, x3, x4, x5] (.int w :: .int x :: st) h = mB (w ≤ x) (mw d 216 Q) 74 10 [x0, x1, x2, x3, x4, x5] st h := (mw_at mj_216_7).trans (z_icmp_ge (by decide) rfl)
theorem mj_216_10 : mc_P 216 10 = some (.iload_n 3, 1, 0, 0, 0) := by decide +kernel
theorem s_216_10 {x0 x1 x2 x4 x5 : Option Value} {w : Value} : mw d 216 Q 10 [x0, x1, x2, some w, x4, x5] (st) h = mv_i w (mw d 216 Q 11 [x0, x1, x2, some w, x4, x5] (w :: st) h) := (mw_at mj_216_10).trans (z_iload_n rfl)
theorem mj_216_11 : mc_P 216 11 = some (.iconst 1, 1, 0, 0, 0) := by decide +kernel
theorem s_216_11 {x0 x1 x2 x3 x4 x5 : Option Value} : mw d 216 Q 11 [x0, x1, x2, x3, x4, x5] (st) h = mw d 216 Q 12 [x0, x1, x2, x3, x4, x5] (.int 1 :: st) h := (mw_at mj_216_11).trans (z_iconst (by decide))
theorem mj_216_12 : mc_P 216 12 = some (.iadd, 1, 0, 0, 0) := by decide +kernel
theorem s_216_12 {x0 x1 x2 x3 x4 x5 : Option Value} {x w : Int32} : mw d 216 Q 12 [x0, x1, x2, x3, x4, x5] (.int w :: .int x :: st) h = mw d 216 Q 13 [x0, x1, x2, x3, x4, x5] (.int (x + w) :: st) h := (mw_at mj_216_12).trans (z_iadd)
theorem mj_216_13 : mc_P 216 13 = some (.istore 4, 2, 0, 0, 0) := by decide +kernel
theorem s_216_13 {x0 x1 x2 x3 x4 x5 : Option Value} {w : Int32} : mw d 216 Q 13 [x0, x1, x2, x3, x4, x5] (.int w :: st) h = mw d 216 Q 15 [x0, x1, x2, mk2 x3, some (.int w), x5] (st) h := (mw_at mj_216_13).trans (z_istore (Nat.le_of_ble_eq_true rfl) (me_s1_mk (j := 3) (w := x3) rfl))
theorem mj_216_15 : mc_P 216 15 = some (.iload 4, 2, 0, 0, 0) := by decide +kernel
theorem s_216_15 {x0 x1 x2 x3 x5 : Option Value} {w : Value} : mw d 216 Q 15 [x0, x1, x2, x3, some w, x5] (st) h = mv_i w (mw d 216 Q 17 [x0, x1, x2, x3, some w, x5] (w :: st) h) := (mw_at mj_216_15).trans (z_iload rfl)
theorem mj_216_17 : mc_P 216 17 = some (.aload_n 2, 1, 0, 0, 0) := by decide +kernel
theorem s_216_17 {x0 x1 x3 x4 x5 : Option Value} {w : Value} : mw d 216 Q 17 [x0, x1, some w, x3, x4, x5] (st) h = mv_a w (mw d 216 Q 18 [x0, x1, some w, x3, x4, x5] (w :: st) h) := (mw_at mj_216_17).trans (z_aload_n rfl)
theorem mj_216_18 : mc_P 216 18 = some (.getfield 290, 3, 8, 1, 0) := by decide +kernel
theorem s_216_18 {x0 x1 x2 x3 x4 x5 : Option Value} {o : Nat} : mw d 216 Q 18 [x0, x1, x2, x3, x4, x5] (.ref o :: st) h = (mg h o 8 ∧ mw d 216 Q 21 [x0, x1, x2, x3, x4, x5] (.int (mh_i h o 1) :: st) h) := (mw_at mj_216_18).trans (z_geti (by decide) (by decide) (Or.inl rfl))
theorem mj_216_21 : mc_P 216 21 = some (.if_icmp .ge 47, 3, 0, 0, 0) := by decide +kernel
theorem s_216_21 {x0 x1 x2 x3 x4 x5 : Option Value} {x w : Int32} : mw d 216 Q 21 [x0, x1, x2, x3, x4, x5] (.int w :: .int x :: st) h = mB (w ≤ x) (mw d 216 Q) 68 24 [x0, x1, x2, x3, x4, x5] st h := (mw_at mj_216_21).trans (z_icmp_ge (by decide) rfl)
theorem mj_216_24 : mc_P 216 24 = some (.iconst 0, 1, 0, 0, 0) := by decide +kernel
theorem s_216_24 {x0 x1 x2 x3 x4 x5 : Option Value} : mw d 216 Q 24 [x0, x1, x2, x3, x4, x5] (st) h = mw d 216 Q 25 [x0, x1, x2, x3, x4, x5] (.int 0 :: st) h := (mw_at mj_216_24).trans (z_iconst (by decide))
theorem mj_216_25 : mc_P 216 25 = some (.istore 5, 2, 0, 0, 0) := by decide +kernel
theorem s_216_25 {x0 x1 x2 x3 x4 x5 : Option Value} {w : Int32} : mw d 216 Q 25 [x0, x1, x2, x3, x4, x5] (.int w :: st) h = mw d 216 Q 27 [x0, x1, x2, x3, mk2 x4, some (.int w)] (st) h := (mw_at mj_216_25).trans (z_istore (Nat.le_of_ble_eq_true rfl) (me_s1_mk (j := 4) (w := x4) rfl))
theorem mj_216_27 : mc_P 216 27 = some (.iload 5, 2, 0, 0, 0) := by decide +kernel
theorem s_216_27 {x0 x1 x2 x3 x4 : Option Value} {w : Value} : mw d 216 Q 27 [x0, x1, x2, x3, x4, some w] (st) h = mv_i w (mw d 216 Q 29 [x0, x1, x2, x3, x4, some w] (w :: st) h) := (mw_at mj_216_27).trans (z_iload rfl)
theorem mj_216_29 : mc_P 216 29 = some (.iconst 4, 1, 0, 0, 0) := by decide +kernel
theorem s_216_29 {x0 x1 x2 x3 x4 x5 : Option Value} : mw d 216 Q 29 [x0, x1, x2, x3, x4, x5] (st) h = mw d 216 Q 30 [x0, x1, x2, x3, x4, x5] (.int 4 :: st) h := (mw_at mj_216_29).trans (z_iconst (by decide))
theorem mj_216_30 : mc_P 216 30 = some (.if_icmp .ge 32, 3, 0, 0, 0) := by decide +kernel
theorem s_216_30 {x0 x1 x2 x3 x4 x5 : Option Value} {x w : Int32} : mw d 216 Q 30 [x0, x1, x2, x3, x4, x5] (.int w :: .int x :: st) h = mB (w ≤ x) (mw d 216 Q) 62 33 [x0, x1, x2, x3, x4, x5] st h := (mw_at mj_216_30).trans (z_icmp_ge (by decide) rfl)
theorem mj_216_33 : mc_P 216 33 = some (.aload_n 0, 1, 0, 0, 0) := by decide +kernel
theorem s_216_33 {x1 x2 x3 x4 x5 : Option Value} {w : Value} : mw d 216 Q 33 [some w, x1, x2, x3, x4, x5] (st) h = mv_a w (mw d 216 Q 34 [some w, x1, x2, x3, x4, x5] (w :: st) h) := (mw_at mj_216_33).trans (z_aload_n rfl)
theorem mj_216_34 : mc_P 216 34 = some (.iload_n 1, 1, 0, 0, 0) := by decide +kernel
theorem s_216_34 {x0 x2 x3 x4 x5 : Option Value} {w : Value} : mw d 216 Q 34 [x0, some w, x2, x3, x4, x5] (st) h = mv_i w (mw d 216 Q 35 [x0, some w, x2, x3, x4, x5] (w :: st) h) := (mw_at mj_216_34).trans (z_iload_n rfl)
theorem mj_216_35 : mc_P 216 35 = some (.aload_n 2, 1, 0, 0, 0) := by decide +kernel
theorem s_216_35 {x0 x1 x3 x4 x5 : Option Value} {w : Value} : mw d 216 Q 35 [x0, x1, some w, x3, x4, x5] (st) h = mv_a w (mw d 216 Q 36 [x0, x1, some w, x3, x4, x5] (w :: st) h) := (mw_at mj_216_35).trans (z_aload_n rfl)
theorem mj_216_36 : mc_P 216 36 = some (.iconst 2, 1, 0, 0, 0) := by decide +kernel
theorem s_216_36 {x0 x1 x2 x3 x4 x5 : Option Value} : mw d 216 Q 36 [x0, x1, x2, x3, x4, x5] (st) h = mw d 216 Q 37 [x0, x1, x2, x3, x4, x5] (.int 2 :: st) h := (mw_at mj_216_36).trans (z_iconst (by decide))
theorem mj_216_37 : mc_P 216 37 = some (.iload_n 3, 1, 0, 0, 0) := by decide +kernel
theorem s_216_37 {x0 x1 x2 x4 x5 : Option Value} {w : Value} : mw d 216 Q 37 [x0, x1, x2, some w, x4, x5] (st) h = mv_i w (mw d 216 Q 38 [x0, x1, x2, some w, x4, x5] (w :: st) h) := (mw_at mj_216_37).trans (z_iload_n rfl)
theorem mj_216_38 : mc_P 216 38 = some (.imul, 1, 0, 0, 0) := by decide +kernel
theorem s_216_38 {x0 x1 x2 x3 x4 x5 : Option Value} {x w : Int32} : mw d 216 Q 38 [x0, x1, x2, x3, x4, x5] (.int w :: .int x :: st) h = mw d 216 Q 39 [x0, x1, x2, x3, x4, x5] (.int (x * w) :: st) h := (mw_at mj_216_38).trans (z_imul)
theorem mj_216_39 : mc_P 216 39 = some (.iload 5, 2, 0, 0, 0) := by decide +kernel
theorem s_216_39 {x0 x1 x2 x3 x4 : Option Value} {w : Value} : mw d 216 Q 39 [x0, x1, x2, x3, x4, some w] (st) h = mv_i w (mw d 216 Q 41 [x0, x1, x2, x3, x4, some w] (w :: st) h) := (mw_at mj_216_39).trans (z_iload rfl)
theorem mj_216_41 : mc_P 216 41 = some (.iconst 2, 1, 0, 0, 0) := by decide +kernel
theorem s_216_41 {x0 x1 x2 x3 x4 x5 : Option Value} : mw d 216 Q 41 [x0, x1, x2, x3, x4, x5] (st) h = mw d 216 Q 42 [x0, x1, x2, x3, x4, x5] (.int 2 :: st) h := (mw_at mj_216_41).trans (z_iconst (by decide))
theorem mj_216_42 : mc_P 216 42 = some (.idiv, 1, 0, 0, 0) := by decide +kernel
theorem s_216_42 {x0 x1 x2 x3 x4 x5 : Option Value} {x w : Int32} : mw d 216 Q 42 [x0, x1, x2, x3, x4, x5] (.int w :: .int x :: st) h = (¬ w = 0 ∧ mw d 216 Q 43 [x0, x1, x2, x3, x4, x5] (.int (x / w) :: st) h) := (mw_at mj_216_42).trans (z_idiv)
theorem mj_216_43 : mc_P 216 43 = some (.iadd, 1, 0, 0, 0) := by decide +kernel
theorem s_216_43 {x0 x1 x2 x3 x4 x5 : Option Value} {x w : Int32} : mw d 216 Q 43 [x0, x1, x2, x3, x4, x5] (.int w :: .int x :: st) h = mw d 216 Q 44 [x0, x1, x2, x3, x4, x5] (.int (x + w) :: st) h := (mw_at mj_216_43).trans (z_iadd)
theorem mj_216_44 : mc_P 216 44 = some (.iconst 2, 1, 0, 0, 0) := by decide +kernel
theorem s_216_44 {x0 x1 x2 x3 x4 x5 : Option Value} : mw d 216 Q 44 [x0, x1, x2, x3, x4, x5] (st) h = mw d 216 Q 45 [x0, x1, x2, x3, x4, x5] (.int 2 :: st) h := (mw_at mj_216_44).trans (z_iconst (by decide))
theorem mj_216_45 : mc_P 216 45 = some (.iload 4, 2, 0, 0, 0) := by decide +kernel
theorem s_216_45 {x0 x1 x2 x3 x5 : Option Value} {w : Value} : mw d 216 Q 45 [x0, x1, x2, x3, some w, x5] (st) h = mv_i w (mw d 216 Q 47 [x0, x1, x2, x3, some w, x5] (w :: st) h) := (mw_at mj_216_45).trans (z_iload rfl)
theorem mj_216_47 : mc_P 216 47 = some (.imul, 1, 0, 0, 0) := by decide +kernel
theorem s_216_47 {x0 x1 x2 x3 x4 x5 : Option Value} {x w : Int32} : mw d 216 Q 47 [x0, x1, x2, x3, x4, x5] (.int w :: .int x :: st) h = mw d 216 Q 48 [x0, x1, x2, x3, x4, x5] (.int (x * w) :: st) h := (mw_at mj_216_47).trans (z_imul)
theorem mj_216_48 : mc_P 216 48 = some (.iload 5, 2, 0, 0, 0) := by decide +kernel
theorem s_216_48 {x0 x1 x2 x3 x4 : Option Value} {w : Value} : mw d 216 Q 48 [x0, x1, x2, x3, x4, some w] (st) h = mv_i w (mw d 216 Q 50 [x0, x1, x2, x3, x4, some w] (w :: st) h) := (mw_at mj_216_48).trans (z_iload rfl)
theorem mj_216_50 : mc_P 216 50 = some (.iconst 2, 1, 0, 0, 0) := by decide +kernel
theorem s_216_50 {x0 x1 x2 x3 x4 x5 : Option Value} : mw d 216 Q 50 [x0, x1, x2, x3, x4, x5] (st) h = mw d 216 Q 51 [x0, x1, x2, x3, x4, x5] (.int 2 :: st) h := (mw_at mj_216_50).trans (z_iconst (by decide))
theorem mj_216_51 : mc_P 216 51 = some (.irem, 1, 0, 0, 0) := by decide +kernel
theorem s_216_51 {x0 x1 x2 x3 x4 x5 : Option Value} {x w : Int32} : mw d 216 Q 51 [x0, x1, x2, x3, x4, x5] (.int w :: .int x :: st) h = (¬ w = 0 ∧ mw d 216 Q 52 [x0, x1, x2, x3, x4, x5] (.int (x - x / w * w) :: st) h) := (mw_at mj_216_51).trans (z_irem)
theorem mj_216_52 : mc_P 216 52 = some (.iadd, 1, 0, 0, 0) := by decide +kernel
theorem s_216_52 {x0 x1 x2 x3 x4 x5 : Option Value} {x w : Int32} : mw d 216 Q 52 [x0, x1, x2, x3, x4, x5] (.int w :: .int x :: st) h = mw d 216 Q 53 [x0, x1, x2, x3, x4, x5] (.int (x + w) :: st) h := (mw_at mj_216_52).trans (z_iadd)
theorem mj_216_53 : mc_P 216 53 = some (.invokevirtual 320, 3, 217, 11, 5) := by decide +kernel
theorem s_216_53 {x0 x1 x2 x3 x4 x5 : Option Value} {o : Nat} {a1 a2 a3 a4 : Value} : mw (d + 1) 216 Q 53 [x0, x1, x2, x3, x4, x5] (a4 :: a3 :: a2 :: a1 :: .ref o :: st) h = (mg h o 11 ∧ mca st 8 ∧ mca [.ref o, a1, a2, a3, a4] 7 ∧ mcall d 217 [.ref o, a1, a2, a3, a4] h (mK (d + 1) 216 Q 56 [x0, x1, x2, x3, x4, x5] st)) := (mw_at mj_216_53).trans ((z_invv (As := [a1, a2, a3, a4]) (by decide) rfl rfl).trans (congrArg (And _) (congrArg (And _) (mC_nl nl_217))))
theorem mj_216_56 : mc_P 216 56 = some (.iinc 5 1, 3, 0, 0, 0) := by decide +kernel
theorem s_216_56 {x0 x1 x2 x3 x4 : Option Value} {w : Int32} : mw d 216 Q 56 [x0, x1, x2, x3, x4, some (.int w)] (st) h = mw d 216 Q 59 [x0, x1, x2, x3, mk2 x4, some (.int (w + 1))] (st) h := (mw_at mj_216_56).trans (z_iinc rfl (Nat.le_of_ble_eq_true rfl) (by decide) (me_s1_mk (j := 4) (w := x4) rfl))
theorem mj_216_59 : mc_P 216 59 = some (.goto (-32), 3, 0, 0, 0) := by decide +kernel
theorem s_216_59 {x0 x1 x2 x3 x4 x5 : Option Value} : mw d 216 Q 59 [x0, x1, x2, x3, x4, x5] (st) h = mw d 216 Q 27 [x0, x1, x2, x3, x4, x5] (st) h := (mw_at mj_216_59).trans (z_goto (by decide))
theorem mj_216_62 : mc_P 216 62 = some (.iinc 4 1, 3, 0, 0, 0) := by decide +kernel
theorem s_216_62 {x0 x1 x2 x3 x5 : Option Value} {w : Int32} : mw d 216 Q 62 [x0, x1, x2, x3, some (.int w), x5] (st) h = mw d 216 Q 65 [x0, x1, x2, mk2 x3, some (.int (w + 1)), x5] (st) h := (mw_at mj_216_62).trans (z_iinc rfl (Nat.le_of_ble_eq_true rfl) (by decide) (me_s1_mk (j := 3) (w := x3) rfl))
theorem mj_216_65 : mc_P 216 65 = some (.goto (-50), 3, 0, 0, 0) := by decide +kernel
theorem s_216_65 {x0 x1 x2 x3 x4 x5 : Option Value} : mw d 216 Q 65 [x0, x1, x2, x3, x4, x5] (st) h = mw d 216 Q 15 [x0, x1, x2, x3, x4, x5] (st) h := (mw_at mj_216_65).trans (z_goto (by decide))
theorem mj_216_68 : mc_P 216 68 = some (.iinc 3 1, 3, 0, 0, 0) := by decide +kernel
theorem s_216_68 {x0 x1 x2 x4 x5 : Option Value} {w : Int32} : mw d 216 Q 68 [x0, x1, x2, some (.int w), x4, x5] (st) h = mw d 216 Q 71 [x0, x1, mk2 x2, some (.int (w + 1)), x4, x5] (st) h := (mw_at mj_216_68).trans (z_iinc rfl (Nat.le_of_ble_eq_true rfl) (by decide) (me_s1_mk (j := 2) (w := x2) rfl))
theorem mj_216_71 : mc_P 216 71 = some (.goto (-69), 3, 0, 0, 0) := by decide +kernel
theorem s_216_71 {x0 x1 x2 x3 x4 x5 : Option Value} : mw d 216 Q 71 [x0, x1, x2, x3, x4, x5] (st) h = mw d 216 Q 2 [x0, x1, x2, x3, x4, x5] (st) h := (mw_at mj_216_71).trans (z_goto (by decide))
theorem mj_216_74 : mc_P 216 74 = some (.return_, 1, 0, 0, 0) := by decide +kernel
theorem s_216_74 {x0 x1 x2 x3 x4 x5 : Option Value} : mw d 216 Q 74 [x0, x1, x2, x3, x4, x5] ([]) h = Q none h := (mw_at mj_216_74).trans (z_vret)
theorem e_216 {a0 : Nat} {a1 : Int32} {a2 : Nat} : mcall d 216 [.ref a0, .int a1, .ref a2] h Q = mw d 216 Q 0 [some (.ref a0), some (.int a1), some (.ref a2), none, none, none] [] h := by
  show mw d 216 Q 0 (me_en (mc_nl 216) _) [] h = _
  rw [nl_216]; rfl

/-! InvariantDesk.writePair(ILInvariantDesk$State;II)V -/
theorem mj_217_0 : mc_P 217 0 = some (.aload_n 2, 1, 0, 0, 0) := by decide +kernel
theorem s_217_0 {x0 x1 x3 x4 x5 x6 : Option Value} {w : Value} : mw d 217 Q 0 [x0, x1, some w, x3, x4, x5, x6] (st) h = mv_a w (mw d 217 Q 1 [x0, x1, some w, x3, x4, x5, x6] (w :: st) h) := (mw_at mj_217_0).trans (z_aload_n rfl)
theorem mj_217_1 : mc_P 217 1 = some (.iload_n 3, 1, 0, 0, 0) := by decide +kernel
theorem s_217_1 {x0 x1 x2 x4 x5 x6 : Option Value} {w : Value} : mw d 217 Q 1 [x0, x1, x2, some w, x4, x5, x6] (st) h = mv_i w (mw d 217 Q 2 [x0, x1, x2, some w, x4, x5, x6] (w :: st) h) := (mw_at mj_217_1).trans (z_iload_n rfl)
theorem mj_217_2 : mc_P 217 2 = some (.iload 4, 2, 0, 0, 0) := by decide +kernel
theorem s_217_2 {x0 x1 x2 x3 x5 x6 : Option Value} {w : Value} : mw d 217 Q 2 [x0, x1, x2, x3, some w, x5, x6] (st) h = mv_i w (mw d 217 Q 4 [x0, x1, x2, x3, some w, x5, x6] (w :: st) h) := (mw_at mj_217_2).trans (z_iload rfl)
theorem mj_217_4 : mc_P 217 4 = some (.invokevirtual 178, 3, 146, 8, 3) := by decide +kernel
theorem s_217_4 {x0 x1 x2 x3 x4 x5 x6 : Option Value} {o : Nat} {a1 a2 : Value} : mw (d + 1) 217 Q 4 [x0, x1, x2, x3, x4, x5, x6] (a2 :: a1 :: .ref o :: st) h = (mg h o 8 ∧ mca st 8 ∧ mca [.ref o, a1, a2] 5 ∧ mcall d 146 [.ref o, a1, a2] h (mK (d + 1) 217 Q 7 [x0, x1, x2, x3, x4, x5, x6] st)) := (mw_at mj_217_4).trans ((z_invv (As := [a1, a2]) (by decide) rfl rfl).trans (congrArg (And _) (congrArg (And _) (mC_nl nl_146))))
theorem mj_217_7 : mc_P 217 7 = some (.lstore 5, 2, 0, 0, 0) := by decide +kernel
theorem s_217_7 {x0 x1 x2 x3 x4 x5 x6 : Option Value} {w : Int64} : mw d 217 Q 7 [x0, x1, x2, x3, x4, x5, x6] (.long w :: st) h = mw d 217 Q 9 [x0, x1, x2, x3, mk2 x4, some (.long w), none] (st) h := (mw_at mj_217_7).trans (z_lstore (Nat.le_of_ble_eq_true rfl) (me_s2_mk (j := 4) (w := x4) rfl))
theorem mj_217_9 : mc_P 217 9 = some (.lload 5, 2, 0, 0, 0) := by decide +kernel
theorem s_217_9 {x0 x1 x2 x3 x4 x6 : Option Value} {w : Value} : mw d 217 Q 9 [x0, x1, x2, x3, x4, some w, x6] (st) h = mv_l w (mw d 217 Q 11 [x0, x1, x2, x3, x4, some w, x6] (w :: st) h) := (mw_at mj_217_9).trans (z_lload rfl)
theorem mj_217_11 : mc_P 217 11 = some (.aload_n 2, 1, 0, 0, 0) := by decide +kernel
theorem s_217_11 {x0 x1 x3 x4 x5 x6 : Option Value} {w : Value} : mw d 217 Q 11 [x0, x1, some w, x3, x4, x5, x6] (st) h = mv_a w (mw d 217 Q 12 [x0, x1, some w, x3, x4, x5, x6] (w :: st) h) := (mw_at mj_217_11).trans (z_aload_n rfl)
theorem mj_217_12 : mc_P 217 12 = some (.iload_n 3, 1, 0, 0, 0) := by decide +kernel
theorem s_217_12 {x0 x1 x2 x4 x5 x6 : Option Value} {w : Value} : mw d 217 Q 12 [x0, x1, x2, some w, x4, x5, x6] (st) h = mv_i w (mw d 217 Q 13 [x0, x1, x2, some w, x4, x5, x6] (w :: st) h) := (mw_at mj_217_12).trans (z_iload_n rfl)
theorem mj_217_13 : mc_P 217 13 = some (.iload_n 3, 1, 0, 0, 0) := by decide +kernel
theorem s_217_13 {x0 x1 x2 x4 x5 x6 : Option Value} {w : Value} : mw d 217 Q 13 [x0, x1, x2, some w, x4, x5, x6] (st) h = mv_i w (mw d 217 Q 14 [x0, x1, x2, some w, x4, x5, x6] (w :: st) h) := (mw_at mj_217_13).trans (z_iload_n rfl)
theorem mj_217_14 : mc_P 217 14 = some (.invokevirtual 178, 3, 146, 8, 3) := by decide +kernel
theorem s_217_14 {x0 x1 x2 x3 x4 x5 x6 : Option Value} {o : Nat} {a1 a2 : Value} : mw (d + 1) 217 Q 14 [x0, x1, x2, x3, x4, x5, x6] (a2 :: a1 :: .ref o :: st) h = (mg h o 8 ∧ mca st 8 ∧ mca [.ref o, a1, a2] 5 ∧ mcall d 146 [.ref o, a1, a2] h (mK (d + 1) 217 Q 17 [x0, x1, x2, x3, x4, x5, x6] st)) := (mw_at mj_217_14).trans ((z_invv (As := [a1, a2]) (by decide) rfl rfl).trans (congrArg (And _) (congrArg (And _) (mC_nl nl_146))))
theorem mj_217_17 : mc_P 217 17 = some (.aload_n 2, 1, 0, 0, 0) := by decide +kernel
theorem s_217_17 {x0 x1 x3 x4 x5 x6 : Option Value} {w : Value} : mw d 217 Q 17 [x0, x1, some w, x3, x4, x5, x6] (st) h = mv_a w (mw d 217 Q 18 [x0, x1, some w, x3, x4, x5, x6] (w :: st) h) := (mw_at mj_217_17).trans (z_aload_n rfl)
theorem mj_217_18 : mc_P 217 18 = some (.iload 4, 2, 0, 0, 0) := by decide +kernel
theorem s_217_18 {x0 x1 x2 x3 x5 x6 : Option Value} {w : Value} : mw d 217 Q 18 [x0, x1, x2, x3, some w, x5, x6] (st) h = mv_i w (mw d 217 Q 20 [x0, x1, x2, x3, some w, x5, x6] (w :: st) h) := (mw_at mj_217_18).trans (z_iload rfl)
theorem mj_217_20 : mc_P 217 20 = some (.iload 4, 2, 0, 0, 0) := by decide +kernel
theorem s_217_20 {x0 x1 x2 x3 x5 x6 : Option Value} {w : Value} : mw d 217 Q 20 [x0, x1, x2, x3, some w, x5, x6] (st) h = mv_i w (mw d 217 Q 22 [x0, x1, x2, x3, some w, x5, x6] (w :: st) h) := (mw_at mj_217_20).trans (z_iload rfl)
theorem mj_217_22 : mc_P 217 22 = some (.invokevirtual 178, 3, 146, 8, 3) := by decide +kernel
theorem s_217_22 {x0 x1 x2 x3 x4 x5 x6 : Option Value} {o : Nat} {a1 a2 : Value} : mw (d + 1) 217 Q 22 [x0, x1, x2, x3, x4, x5, x6] (a2 :: a1 :: .ref o :: st) h = (mg h o 8 ∧ mca st 8 ∧ mca [.ref o, a1, a2] 5 ∧ mcall d 146 [.ref o, a1, a2] h (mK (d + 1) 217 Q 25 [x0, x1, x2, x3, x4, x5, x6] st)) := (mw_at mj_217_22).trans ((z_invv (As := [a1, a2]) (by decide) rfl rfl).trans (congrArg (And _) (congrArg (And _) (mC_nl nl_146))))
theorem mj_217_25 : mc_P 217 25 = some (.ladd, 1, 0, 0, 0) := by decide +kernel
theorem s_217_25 {x0 x1 x2 x3 x4 x5 x6 : Option Value} {x w : Int64} : mw d 217 Q 25 [x0, x1, x2, x3, x4, x5, x6] (.long w :: .long x :: st) h = mw d 217 Q 26 [x0, x1, x2, x3, x4, x5, x6] (.long (x + w) :: st) h := (mw_at mj_217_25).trans (z_ladd)
theorem mj_217_26 : mc_P 217 26 = some (.lcmp, 1, 0, 0, 0) := by decide +kernel
theorem s_217_26 {x0 x1 x2 x3 x4 x5 x6 : Option Value} {x w : Int64} : mw d 217 Q 26 [x0, x1, x2, x3, x4, x5, x6] (.long w :: .long x :: st) h = mw d 217 Q 27 [x0, x1, x2, x3, x4, x5, x6] (.int (lg_cmp x w) :: st) h := (mw_at mj_217_26).trans (z_lcmp)
theorem mj_217_27 : mc_P 217 27 = some (.ifCond .lt 4, 3, 0, 0, 0) := by decide +kernel
theorem s_217_27 {x0 x1 x2 x3 x4 x5 x6 : Option Value} {x : Int32} : mw d 217 Q 27 [x0, x1, x2, x3, x4, x5, x6] (.int x :: st) h = mB (x < 0) (mw d 217 Q) 31 30 [x0, x1, x2, x3, x4, x5, x6] st h := (mw_at mj_217_27).trans (z_if_lt (by decide) rfl)
theorem mj_217_30 : mc_P 217 30 = some (.return_, 1, 0, 0, 0) := by decide +kernel
theorem s_217_30 {x0 x1 x2 x3 x4 x5 x6 : Option Value} : mw d 217 Q 30 [x0, x1, x2, x3, x4, x5, x6] ([]) h = Q none h := (mw_at mj_217_30).trans (z_vret)
theorem mj_217_31 : mc_P 217 31 = some (.aload_n 0, 1, 0, 0, 0) := by decide +kernel
theorem s_217_31 {x1 x2 x3 x4 x5 x6 : Option Value} {w : Value} : mw d 217 Q 31 [some w, x1, x2, x3, x4, x5, x6] (st) h = mv_a w (mw d 217 Q 32 [some w, x1, x2, x3, x4, x5, x6] (w :: st) h) := (mw_at mj_217_31).trans (z_aload_n rfl)
theorem mj_217_32 : mc_P 217 32 = some (.invokevirtual 307, 3, 219, 11, 1) := by decide +kernel
theorem s_217_32 {x0 x1 x2 x3 x4 x5 x6 : Option Value} {o : Nat} : mw (d + 1) 217 Q 32 [x0, x1, x2, x3, x4, x5, x6] (.ref o :: st) h = (mg h o 11 ∧ mca st 8 ∧ mca [.ref o] 1 ∧ mcall d 219 [.ref o] h (mK (d + 1) 217 Q 35 [x0, x1, x2, x3, x4, x5, x6] st)) := (mw_at mj_217_32).trans ((z_invv (As := []) (by decide) rfl rfl).trans (congrArg (And _) (congrArg (And _) (mC_nl nl_219))))
theorem mj_217_35 : mc_P 217 35 = some (.iload_n 3, 1, 0, 0, 0) := by decide +kernel
theorem s_217_35 {x0 x1 x2 x4 x5 x6 : Option Value} {w : Value} : mw d 217 Q 35 [x0, x1, x2, some w, x4, x5, x6] (st) h = mv_i w (mw d 217 Q 36 [x0, x1, x2, some w, x4, x5, x6] (w :: st) h) := (mw_at mj_217_35).trans (z_iload_n rfl)
theorem mj_217_36 : mc_P 217 36 = some (.iconst 2, 1, 0, 0, 0) := by decide +kernel
theorem s_217_36 {x0 x1 x2 x3 x4 x5 x6 : Option Value} : mw d 217 Q 36 [x0, x1, x2, x3, x4, x5, x6] (st) h = mw d 217 Q 37 [x0, x1, x2, x3, x4, x5, x6] (.int 2 :: st) h := (mw_at mj_217_36).trans (z_iconst (by decide))
theorem mj_217_37 : mc_P 217 37 = some (.irem, 1, 0, 0, 0) := by decide +kernel
theorem s_217_37 {x0 x1 x2 x3 x4 x5 x6 : Option Value} {x w : Int32} : mw d 217 Q 37 [x0, x1, x2, x3, x4, x5, x6] (.int w :: .int x :: st) h = (¬ w = 0 ∧ mw d 217 Q 38 [x0, x1, x2, x3, x4, x5, x6] (.int (x - x / w * w) :: st) h) := (mw_at mj_217_37).trans (z_irem)
theorem mj_217_38 : mc_P 217 38 = some (.iconst 1, 1, 0, 0, 0) := by decide +kernel
theorem s_217_38 {x0 x1 x2 x3 x4 x5 x6 : Option Value} : mw d 217 Q 38 [x0, x1, x2, x3, x4, x5, x6] (st) h = mw d 217 Q 39 [x0, x1, x2, x3, x4, x5, x6] (.int 1 :: st) h := (mw_at mj_217_38).trans (z_iconst (by decide))
theorem mj_217_39 : mc_P 217 39 = some (.if_icmp .ne 9, 3, 0, 0, 0) := by decide +kernel
theorem s_217_39 {x0 x1 x2 x3 x4 x5 x6 : Option Value} {x w : Int32} : mw d 217 Q 39 [x0, x1, x2, x3, x4, x5, x6] (.int w :: .int x :: st) h = mB (¬ x = w) (mw d 217 Q) 48 42 [x0, x1, x2, x3, x4, x5, x6] st h := (mw_at mj_217_39).trans (z_icmp_ne (by decide) rfl)
theorem mj_217_42 : mc_P 217 42 = some (.aload_n 0, 1, 0, 0, 0) := by decide +kernel
theorem s_217_42 {x1 x2 x3 x4 x5 x6 : Option Value} {w : Value} : mw d 217 Q 42 [some w, x1, x2, x3, x4, x5, x6] (st) h = mv_a w (mw d 217 Q 43 [some w, x1, x2, x3, x4, x5, x6] (w :: st) h) := (mw_at mj_217_42).trans (z_aload_n rfl)
theorem mj_217_43 : mc_P 217 43 = some (.bipush 45, 2, 0, 0, 0) := by decide +kernel
theorem s_217_43 {x0 x1 x2 x3 x4 x5 x6 : Option Value} : mw d 217 Q 43 [x0, x1, x2, x3, x4, x5, x6] (st) h = mw d 217 Q 45 [x0, x1, x2, x3, x4, x5, x6] (.int 45 :: st) h := (mw_at mj_217_43).trans (z_bipush (by decide))
theorem mj_217_45 : mc_P 217 45 = some (.invokevirtual 324, 3, 224, 11, 2) := by decide +kernel
theorem s_217_45 {x0 x1 x2 x3 x4 x5 x6 : Option Value} {o : Nat} {a1 : Value} : mw (d + 1) 217 Q 45 [x0, x1, x2, x3, x4, x5, x6] (a1 :: .ref o :: st) h = (mg h o 11 ∧ mca st 8 ∧ mca [.ref o, a1] 2 ∧ mcall d 224 [.ref o, a1] h (mK (d + 1) 217 Q 48 [x0, x1, x2, x3, x4, x5, x6] st)) := (mw_at mj_217_45).trans ((z_invv (As := [a1]) (by decide) rfl rfl).trans (congrArg (And _) (congrArg (And _) (mC_nl nl_224))))
theorem mj_217_48 : mc_P 217 48 = some (.aload_n 0, 1, 0, 0, 0) := by decide +kernel
theorem s_217_48 {x1 x2 x3 x4 x5 x6 : Option Value} {w : Value} : mw d 217 Q 48 [some w, x1, x2, x3, x4, x5, x6] (st) h = mv_a w (mw d 217 Q 49 [some w, x1, x2, x3, x4, x5, x6] (w :: st) h) := (mw_at mj_217_48).trans (z_aload_n rfl)
theorem mj_217_49 : mc_P 217 49 = some (.aload_n 0, 1, 0, 0, 0) := by decide +kernel
theorem s_217_49 {x1 x2 x3 x4 x5 x6 : Option Value} {w : Value} : mw d 217 Q 49 [some w, x1, x2, x3, x4, x5, x6] (st) h = mv_a w (mw d 217 Q 50 [some w, x1, x2, x3, x4, x5, x6] (w :: st) h) := (mw_at mj_217_49).trans (z_aload_n rfl)
theorem mj_217_50 : mc_P 217 50 = some (.getfield 16, 3, 11, 2, 0) := by decide +kernel
theorem s_217_50 {x0 x1 x2 x3 x4 x5 x6 : Option Value} {o : Nat} : mw d 217 Q 50 [x0, x1, x2, x3, x4, x5, x6] (.ref o :: st) h = (mg h o 11 ∧ mw d 217 Q 53 [x0, x1, x2, x3, x4, x5, x6] (va_rf (mh_r h o 2) :: st) h) := (mw_at mj_217_50).trans (z_getr (by decide) (by decide) rfl)
theorem mj_217_53 : mc_P 217 53 = some (.iload_n 1, 1, 0, 0, 0) := by decide +kernel
theorem s_217_53 {x0 x2 x3 x4 x5 x6 : Option Value} {w : Value} : mw d 217 Q 53 [x0, some w, x2, x3, x4, x5, x6] (st) h = mv_i w (mw d 217 Q 54 [x0, some w, x2, x3, x4, x5, x6] (w :: st) h) := (mw_at mj_217_53).trans (z_iload_n rfl)
theorem mj_217_54 : mc_P 217 54 = some (.iload_n 3, 1, 0, 0, 0) := by decide +kernel
theorem s_217_54 {x0 x1 x2 x4 x5 x6 : Option Value} {w : Value} : mw d 217 Q 54 [x0, x1, x2, some w, x4, x5, x6] (st) h = mv_i w (mw d 217 Q 55 [x0, x1, x2, some w, x4, x5, x6] (w :: st) h) := (mw_at mj_217_54).trans (z_iload_n rfl)
theorem mj_217_55 : mc_P 217 55 = some (.iconst 2, 1, 0, 0, 0) := by decide +kernel
theorem s_217_55 {x0 x1 x2 x3 x4 x5 x6 : Option Value} : mw d 217 Q 55 [x0, x1, x2, x3, x4, x5, x6] (st) h = mw d 217 Q 56 [x0, x1, x2, x3, x4, x5, x6] (.int 2 :: st) h := (mw_at mj_217_55).trans (z_iconst (by decide))
theorem mj_217_56 : mc_P 217 56 = some (.idiv, 1, 0, 0, 0) := by decide +kernel
theorem s_217_56 {x0 x1 x2 x3 x4 x5 x6 : Option Value} {x w : Int32} : mw d 217 Q 56 [x0, x1, x2, x3, x4, x5, x6] (.int w :: .int x :: st) h = (¬ w = 0 ∧ mw d 217 Q 57 [x0, x1, x2, x3, x4, x5, x6] (.int (x / w) :: st) h) := (mw_at mj_217_56).trans (z_idiv)
theorem mj_217_57 : mc_P 217 57 = some (.invokevirtual 310, 3, 82, 4, 3) := by decide +kernel
theorem s_217_57 {x0 x1 x2 x3 x4 x5 x6 : Option Value} {o : Nat} {a1 a2 : Value} : mw (d + 1) 217 Q 57 [x0, x1, x2, x3, x4, x5, x6] (a2 :: a1 :: .ref o :: st) h = (mg h o 4 ∧ mca st 8 ∧ mca [.ref o, a1, a2] 3 ∧ mcall d 82 [.ref o, a1, a2] h (mK (d + 1) 217 Q 60 [x0, x1, x2, x3, x4, x5, x6] st)) := (mw_at mj_217_57).trans ((z_invv (As := [a1, a2]) (by decide) rfl rfl).trans (congrArg (And _) (congrArg (And _) (mC_nl nl_82))))
theorem mj_217_60 : mc_P 217 60 = some (.invokevirtual 313, 3, 221, 11, 2) := by decide +kernel
theorem s_217_60 {x0 x1 x2 x3 x4 x5 x6 : Option Value} {o : Nat} {a1 : Value} : mw (d + 1) 217 Q 60 [x0, x1, x2, x3, x4, x5, x6] (a1 :: .ref o :: st) h = (mg h o 11 ∧ mca st 8 ∧ mca [.ref o, a1] 4 ∧ mcall d 221 [.ref o, a1] h (mK (d + 1) 217 Q 63 [x0, x1, x2, x3, x4, x5, x6] st)) := (mw_at mj_217_60).trans ((z_invv (As := [a1]) (by decide) rfl rfl).trans (congrArg (And _) (congrArg (And _) (mC_nl nl_221))))
theorem mj_217_63 : mc_P 217 63 = some (.aload_n 0, 1, 0, 0, 0) := by decide +kernel
theorem s_217_63 {x1 x2 x3 x4 x5 x6 : Option Value} {w : Value} : mw d 217 Q 63 [some w, x1, x2, x3, x4, x5, x6] (st) h = mv_a w (mw d 217 Q 64 [some w, x1, x2, x3, x4, x5, x6] (w :: st) h) := (mw_at mj_217_63).trans (z_aload_n rfl)
theorem mj_217_64 : mc_P 217 64 = some (.iload 4, 2, 0, 0, 0) := by decide +kernel
theorem s_217_64 {x0 x1 x2 x3 x5 x6 : Option Value} {w : Value} : mw d 217 Q 64 [x0, x1, x2, x3, some w, x5, x6] (st) h = mv_i w (mw d 217 Q 66 [x0, x1, x2, x3, some w, x5, x6] (w :: st) h) := (mw_at mj_217_64).trans (z_iload rfl)
theorem mj_217_66 : mc_P 217 66 = some (.iconst 2, 1, 0, 0, 0) := by decide +kernel
theorem s_217_66 {x0 x1 x2 x3 x4 x5 x6 : Option Value} : mw d 217 Q 66 [x0, x1, x2, x3, x4, x5, x6] (st) h = mw d 217 Q 67 [x0, x1, x2, x3, x4, x5, x6] (.int 2 :: st) h := (mw_at mj_217_66).trans (z_iconst (by decide))
theorem mj_217_67 : mc_P 217 67 = some (.irem, 1, 0, 0, 0) := by decide +kernel
theorem s_217_67 {x0 x1 x2 x3 x4 x5 x6 : Option Value} {x w : Int32} : mw d 217 Q 67 [x0, x1, x2, x3, x4, x5, x6] (.int w :: .int x :: st) h = (¬ w = 0 ∧ mw d 217 Q 68 [x0, x1, x2, x3, x4, x5, x6] (.int (x - x / w * w) :: st) h) := (mw_at mj_217_67).trans (z_irem)
theorem mj_217_68 : mc_P 217 68 = some (.iconst 1, 1, 0, 0, 0) := by decide +kernel
theorem s_217_68 {x0 x1 x2 x3 x4 x5 x6 : Option Value} : mw d 217 Q 68 [x0, x1, x2, x3, x4, x5, x6] (st) h = mw d 217 Q 69 [x0, x1, x2, x3, x4, x5, x6] (.int 1 :: st) h := (mw_at mj_217_68).trans (z_iconst (by decide))
theorem mj_217_69 : mc_P 217 69 = some (.if_icmp .ne 9, 3, 0, 0, 0) := by decide +kernel
theorem s_217_69 {x0 x1 x2 x3 x4 x5 x6 : Option Value} {x w : Int32} : mw d 217 Q 69 [x0, x1, x2, x3, x4, x5, x6] (.int w :: .int x :: st) h = mB (¬ x = w) (mw d 217 Q) 78 72 [x0, x1, x2, x3, x4, x5, x6] st h := (mw_at mj_217_69).trans (z_icmp_ne (by decide) rfl)
theorem mj_217_72 : mc_P 217 72 = some (.ldc_w 327, 3, 9, 1, 0) := by decide +kernel
theorem s_217_72 {x0 x1 x2 x3 x4 x5 x6 : Option Value} : mw d 217 Q 72 [x0, x1, x2, x3, x4, x5, x6] (st) h = mw d 217 Q 75 [x0, x1, x2, x3, x4, x5, x6] (.retAddr 9 :: st) h := (mw_at mj_217_72).trans (z_ldcW)
theorem mj_217_75 : mc_P 217 75 = some (.goto 6, 3, 0, 0, 0) := by decide +kernel
theorem s_217_75 {x0 x1 x2 x3 x4 x5 x6 : Option Value} : mw d 217 Q 75 [x0, x1, x2, x3, x4, x5, x6] (st) h = mw d 217 Q 81 [x0, x1, x2, x3, x4, x5, x6] (st) h := (mw_at mj_217_75).trans (z_goto (by decide))
theorem mj_217_78 : mc_P 217 78 = some (.ldc_w 329, 3, 12, 1, 0) := by decide +kernel
theorem s_217_78 {x0 x1 x2 x3 x4 x5 x6 : Option Value} : mw d 217 Q 78 [x0, x1, x2, x3, x4, x5, x6] (st) h = mw d 217 Q 81 [x0, x1, x2, x3, x4, x5, x6] (.retAddr 12 :: st) h := (mw_at mj_217_78).trans (z_ldcW)
theorem mj_217_81 : mc_P 217 81 = some (.invokevirtual 286, 3, 222, 11, 2) := by decide +kernel
theorem s_217_81 {x0 x1 x2 x3 x4 x5 x6 : Option Value} {o : Nat} {a1 : Value} : mw (d + 1) 217 Q 81 [x0, x1, x2, x3, x4, x5, x6] (a1 :: .ref o :: st) h = (mg h o 11 ∧ mca st 8 ∧ mca [.ref o, a1] 3 ∧ mcall d 222 [.ref o, a1] h (mK (d + 1) 217 Q 84 [x0, x1, x2, x3, x4, x5, x6] st)) := (mw_at mj_217_81).trans ((z_invv (As := [a1]) (by decide) rfl rfl).trans (congrArg (And _) (congrArg (And _) (mC_nl nl_222))))
theorem mj_217_84 : mc_P 217 84 = some (.aload_n 0, 1, 0, 0, 0) := by decide +kernel
theorem s_217_84 {x1 x2 x3 x4 x5 x6 : Option Value} {w : Value} : mw d 217 Q 84 [some w, x1, x2, x3, x4, x5, x6] (st) h = mv_a w (mw d 217 Q 85 [some w, x1, x2, x3, x4, x5, x6] (w :: st) h) := (mw_at mj_217_84).trans (z_aload_n rfl)
theorem mj_217_85 : mc_P 217 85 = some (.aload_n 0, 1, 0, 0, 0) := by decide +kernel
theorem s_217_85 {x1 x2 x3 x4 x5 x6 : Option Value} {w : Value} : mw d 217 Q 85 [some w, x1, x2, x3, x4, x5, x6] (st) h = mv_a w (mw d 217 Q 86 [some w, x1, x2, x3, x4, x5, x6] (w :: st) h) := (mw_at mj_217_85).trans (z_aload_n rfl)
theorem mj_217_86 : mc_P 217 86 = some (.getfield 16, 3, 11, 2, 0) := by decide +kernel
theorem s_217_86 {x0 x1 x2 x3 x4 x5 x6 : Option Value} {o : Nat} : mw d 217 Q 86 [x0, x1, x2, x3, x4, x5, x6] (.ref o :: st) h = (mg h o 11 ∧ mw d 217 Q 89 [x0, x1, x2, x3, x4, x5, x6] (va_rf (mh_r h o 2) :: st) h) := (mw_at mj_217_86).trans (z_getr (by decide) (by decide) rfl)
theorem mj_217_89 : mc_P 217 89 = some (.iload_n 1, 1, 0, 0, 0) := by decide +kernel
theorem s_217_89 {x0 x2 x3 x4 x5 x6 : Option Value} {w : Value} : mw d 217 Q 89 [x0, some w, x2, x3, x4, x5, x6] (st) h = mv_i w (mw d 217 Q 90 [x0, some w, x2, x3, x4, x5, x6] (w :: st) h) := (mw_at mj_217_89).trans (z_iload_n rfl)
theorem mj_217_90 : mc_P 217 90 = some (.iload 4, 2, 0, 0, 0) := by decide +kernel
theorem s_217_90 {x0 x1 x2 x3 x5 x6 : Option Value} {w : Value} : mw d 217 Q 90 [x0, x1, x2, x3, some w, x5, x6] (st) h = mv_i w (mw d 217 Q 92 [x0, x1, x2, x3, some w, x5, x6] (w :: st) h) := (mw_at mj_217_90).trans (z_iload rfl)
theorem mj_217_92 : mc_P 217 92 = some (.iconst 2, 1, 0, 0, 0) := by decide +kernel
theorem s_217_92 {x0 x1 x2 x3 x4 x5 x6 : Option Value} : mw d 217 Q 92 [x0, x1, x2, x3, x4, x5, x6] (st) h = mw d 217 Q 93 [x0, x1, x2, x3, x4, x5, x6] (.int 2 :: st) h := (mw_at mj_217_92).trans (z_iconst (by decide))
theorem mj_217_93 : mc_P 217 93 = some (.idiv, 1, 0, 0, 0) := by decide +kernel
theorem s_217_93 {x0 x1 x2 x3 x4 x5 x6 : Option Value} {x w : Int32} : mw d 217 Q 93 [x0, x1, x2, x3, x4, x5, x6] (.int w :: .int x :: st) h = (¬ w = 0 ∧ mw d 217 Q 94 [x0, x1, x2, x3, x4, x5, x6] (.int (x / w) :: st) h) := (mw_at mj_217_93).trans (z_idiv)
theorem mj_217_94 : mc_P 217 94 = some (.invokevirtual 310, 3, 82, 4, 3) := by decide +kernel
theorem s_217_94 {x0 x1 x2 x3 x4 x5 x6 : Option Value} {o : Nat} {a1 a2 : Value} : mw (d + 1) 217 Q 94 [x0, x1, x2, x3, x4, x5, x6] (a2 :: a1 :: .ref o :: st) h = (mg h o 4 ∧ mca st 8 ∧ mca [.ref o, a1, a2] 3 ∧ mcall d 82 [.ref o, a1, a2] h (mK (d + 1) 217 Q 97 [x0, x1, x2, x3, x4, x5, x6] st)) := (mw_at mj_217_94).trans ((z_invv (As := [a1, a2]) (by decide) rfl rfl).trans (congrArg (And _) (congrArg (And _) (mC_nl nl_82))))
theorem mj_217_97 : mc_P 217 97 = some (.invokevirtual 313, 3, 221, 11, 2) := by decide +kernel
theorem s_217_97 {x0 x1 x2 x3 x4 x5 x6 : Option Value} {o : Nat} {a1 : Value} : mw (d + 1) 217 Q 97 [x0, x1, x2, x3, x4, x5, x6] (a1 :: .ref o :: st) h = (mg h o 11 ∧ mca st 8 ∧ mca [.ref o, a1] 4 ∧ mcall d 221 [.ref o, a1] h (mK (d + 1) 217 Q 100 [x0, x1, x2, x3, x4, x5, x6] st)) := (mw_at mj_217_97).trans ((z_invv (As := [a1]) (by decide) rfl rfl).trans (congrArg (And _) (congrArg (And _) (mC_nl nl_221))))
theorem mj_217_100 : mc_P 217 100 = some (.aload_n 0, 1, 0, 0, 0) := by decide +kernel
theorem s_217_100 {x1 x2 x3 x4 x5 x6 : Option Value} {w : Value} : mw d 217 Q 100 [some w, x1, x2, x3, x4, x5, x6] (st) h = mv_a w (mw d 217 Q 101 [some w, x1, x2, x3, x4, x5, x6] (w :: st) h) := (mw_at mj_217_100).trans (z_aload_n rfl)
theorem mj_217_101 : mc_P 217 101 = some (.ldc_w 331, 3, 15, 1, 0) := by decide +kernel
theorem s_217_101 {x0 x1 x2 x3 x4 x5 x6 : Option Value} : mw d 217 Q 101 [x0, x1, x2, x3, x4, x5, x6] (st) h = mw d 217 Q 104 [x0, x1, x2, x3, x4, x5, x6] (.retAddr 15 :: st) h := (mw_at mj_217_101).trans (z_ldcW)
theorem mj_217_104 : mc_P 217 104 = some (.invokevirtual 286, 3, 222, 11, 2) := by decide +kernel
theorem s_217_104 {x0 x1 x2 x3 x4 x5 x6 : Option Value} {o : Nat} {a1 : Value} : mw (d + 1) 217 Q 104 [x0, x1, x2, x3, x4, x5, x6] (a1 :: .ref o :: st) h = (mg h o 11 ∧ mca st 8 ∧ mca [.ref o, a1] 3 ∧ mcall d 222 [.ref o, a1] h (mK (d + 1) 217 Q 107 [x0, x1, x2, x3, x4, x5, x6] st)) := (mw_at mj_217_104).trans ((z_invv (As := [a1]) (by decide) rfl rfl).trans (congrArg (And _) (congrArg (And _) (mC_nl nl_222))))
theorem mj_217_107 : mc_P 217 107 = some (.aload_n 0, 1, 0, 0, 0) := by decide +kernel
theorem s_217_107 {x1 x2 x3 x4 x5 x6 : Option Value} {w : Value} : mw d 217 Q 107 [some w, x1, x2, x3, x4, x5, x6] (st) h = mv_a w (mw d 217 Q 108 [some w, x1, x2, x3, x4, x5, x6] (w :: st) h) := (mw_at mj_217_107).trans (z_aload_n rfl)
theorem mj_217_108 : mc_P 217 108 = some (.lload 5, 2, 0, 0, 0) := by decide +kernel
theorem s_217_108 {x0 x1 x2 x3 x4 x6 : Option Value} {w : Value} : mw d 217 Q 108 [x0, x1, x2, x3, x4, some w, x6] (st) h = mv_l w (mw d 217 Q 110 [x0, x1, x2, x3, x4, some w, x6] (w :: st) h) := (mw_at mj_217_108).trans (z_lload rfl)
theorem mj_217_110 : mc_P 217 110 = some (.invokevirtual 333, 3, 223, 11, 2) := by decide +kernel
theorem s_217_110 {x0 x1 x2 x3 x4 x5 x6 : Option Value} {o : Nat} {a1 : Value} : mw (d + 1) 217 Q 110 [x0, x1, x2, x3, x4, x5, x6] (a1 :: .ref o :: st) h = (mg h o 11 ∧ mca st 8 ∧ mca [.ref o, a1] 9 ∧ mcall d 223 [.ref o, a1] h (mK (d + 1) 217 Q 113 [x0, x1, x2, x3, x4, x5, x6] st)) := (mw_at mj_217_110).trans ((z_invv (As := [a1]) (by decide) rfl rfl).trans (congrArg (And _) (congrArg (And _) (mC_nl nl_223))))
theorem mj_217_113 : mc_P 217 113 = some (.return_, 1, 0, 0, 0) := by decide +kernel
theorem s_217_113 {x0 x1 x2 x3 x4 x5 x6 : Option Value} : mw d 217 Q 113 [x0, x1, x2, x3, x4, x5, x6] ([]) h = Q none h := (mw_at mj_217_113).trans (z_vret)
theorem e_217 {a0 : Nat} {a1 : Int32} {a2 : Nat} {a3 : Int32} {a4 : Int32} : mcall d 217 [.ref a0, .int a1, .ref a2, .int a3, .int a4] h Q = mw d 217 Q 0 [some (.ref a0), some (.int a1), some (.ref a2), some (.int a3), some (.int a4), none, none] [] h := by
  show mw d 217 Q 0 (me_en (mc_nl 217) _) [] h = _
  rw [nl_217]; rfl

/-! InvariantDesk.writeArrays(ILInvariantDesk$State;)V -/
theorem mj_218_0 : mc_P 218 0 = some (.iconst 0, 1, 0, 0, 0) := by decide +kernel
theorem s_218_0 {x0 x1 x2 x3 : Option Value} : mw d 218 Q 0 [x0, x1, x2, x3] (st) h = mw d 218 Q 1 [x0, x1, x2, x3] (.int 0 :: st) h := (mw_at mj_218_0).trans (z_iconst (by decide))
theorem mj_218_1 : mc_P 218 1 = some (.istore_n 3, 1, 0, 0, 0) := by decide +kernel
theorem s_218_1 {x0 x1 x2 x3 : Option Value} {w : Int32} : mw d 218 Q 1 [x0, x1, x2, x3] (.int w :: st) h = mw d 218 Q 2 [x0, x1, mk2 x2, some (.int w)] (st) h := (mw_at mj_218_1).trans (z_istore_n (Nat.le_of_ble_eq_true rfl) (me_s1_mk (j := 2) (w := x2) rfl))
theorem mj_218_2 : mc_P 218 2 = some (.iload_n 3, 1, 0, 0, 0) := by decide +kernel
theorem s_218_2 {x0 x1 x2 : Option Value} {w : Value} : mw d 218 Q 2 [x0, x1, x2, some w] (st) h = mv_i w (mw d 218 Q 3 [x0, x1, x2, some w] (w :: st) h) := (mw_at mj_218_2).trans (z_iload_n rfl)
theorem mj_218_3 : mc_P 218 3 = some (.aload_n 2, 1, 0, 0, 0) := by decide +kernel
theorem s_218_3 {x0 x1 x3 : Option Value} {w : Value} : mw d 218 Q 3 [x0, x1, some w, x3] (st) h = mv_a w (mw d 218 Q 4 [x0, x1, some w, x3] (w :: st) h) := (mw_at mj_218_3).trans (z_aload_n rfl)
theorem mj_218_4 : mc_P 218 4 = some (.getfield 293, 3, 8, 2, 0) := by decide +kernel
theorem s_218_4 {x0 x1 x2 x3 : Option Value} {o : Nat} : mw d 218 Q 4 [x0, x1, x2, x3] (.ref o :: st) h = (mg h o 8 ∧ mw d 218 Q 7 [x0, x1, x2, x3] (.int (mh_i h o 2) :: st) h) := (mw_at mj_218_4).trans (z_geti (by decide) (by decide) (Or.inl rfl))
theorem mj_218_7 : mc_P 218 7 = some (.if_icmp .ge 55, 3, 0, 0, 0) := by decide +kernel
theorem s_218_7 {x0 x1 x2 x3 : Option Value} {x w : Int32} : mw d 218 Q 7 [x0, x1, x2, x3] (.int w :: .int x :: st) h = mB (w ≤ x) (mw d 218 Q) 62 10 [x0, x1, x2, x3] st h := (mw_at mj_218_7).trans (z_icmp_ge (by decide) rfl)
theorem mj_218_10 : mc_P 218 10 = some (.aload_n 0, 1, 0, 0, 0) := by decide +kernel
theorem s_218_10 {x1 x2 x3 : Option Value} {w : Value} : mw d 218 Q 10 [some w, x1, x2, x3] (st) h = mv_a w (mw d 218 Q 11 [some w, x1, x2, x3] (w :: st) h) := (mw_at mj_218_10).trans (z_aload_n rfl)
theorem mj_218_11 : mc_P 218 11 = some (.invokevirtual 307, 3, 219, 11, 1) := by decide +kernel
theorem s_218_11 {x0 x1 x2 x3 : Option Value} {o : Nat} : mw (d + 1) 218 Q 11 [x0, x1, x2, x3] (.ref o :: st) h = (mg h o 11 ∧ mca st 8 ∧ mca [.ref o] 1 ∧ mcall d 219 [.ref o] h (mK (d + 1) 218 Q 14 [x0, x1, x2, x3] st)) := (mw_at mj_218_11).trans ((z_invv (As := []) (by decide) rfl rfl).trans (congrArg (And _) (congrArg (And _) (mC_nl nl_219))))
theorem mj_218_14 : mc_P 218 14 = some (.aload_n 0, 1, 0, 0, 0) := by decide +kernel
theorem s_218_14 {x1 x2 x3 : Option Value} {w : Value} : mw d 218 Q 14 [some w, x1, x2, x3] (st) h = mv_a w (mw d 218 Q 15 [some w, x1, x2, x3] (w :: st) h) := (mw_at mj_218_14).trans (z_aload_n rfl)
theorem mj_218_15 : mc_P 218 15 = some (.aload_n 0, 1, 0, 0, 0) := by decide +kernel
theorem s_218_15 {x1 x2 x3 : Option Value} {w : Value} : mw d 218 Q 15 [some w, x1, x2, x3] (st) h = mv_a w (mw d 218 Q 16 [some w, x1, x2, x3] (w :: st) h) := (mw_at mj_218_15).trans (z_aload_n rfl)
theorem mj_218_16 : mc_P 218 16 = some (.getfield 16, 3, 11, 2, 0) := by decide +kernel
theorem s_218_16 {x0 x1 x2 x3 : Option Value} {o : Nat} : mw d 218 Q 16 [x0, x1, x2, x3] (.ref o :: st) h = (mg h o 11 ∧ mw d 218 Q 19 [x0, x1, x2, x3] (va_rf (mh_r h o 2) :: st) h) := (mw_at mj_218_16).trans (z_getr (by decide) (by decide) rfl)
theorem mj_218_19 : mc_P 218 19 = some (.iload_n 1, 1, 0, 0, 0) := by decide +kernel
theorem s_218_19 {x0 x2 x3 : Option Value} {w : Value} : mw d 218 Q 19 [x0, some w, x2, x3] (st) h = mv_i w (mw d 218 Q 20 [x0, some w, x2, x3] (w :: st) h) := (mw_at mj_218_19).trans (z_iload_n rfl)
theorem mj_218_20 : mc_P 218 20 = some (.iload_n 3, 1, 0, 0, 0) := by decide +kernel
theorem s_218_20 {x0 x1 x2 : Option Value} {w : Value} : mw d 218 Q 20 [x0, x1, x2, some w] (st) h = mv_i w (mw d 218 Q 21 [x0, x1, x2, some w] (w :: st) h) := (mw_at mj_218_20).trans (z_iload_n rfl)
theorem mj_218_21 : mc_P 218 21 = some (.invokevirtual 337, 3, 83, 4, 3) := by decide +kernel
theorem s_218_21 {x0 x1 x2 x3 : Option Value} {o : Nat} {a1 a2 : Value} : mw (d + 1) 218 Q 21 [x0, x1, x2, x3] (a2 :: a1 :: .ref o :: st) h = (mg h o 4 ∧ mca st 8 ∧ mca [.ref o, a1, a2] 3 ∧ mcall d 83 [.ref o, a1, a2] h (mK (d + 1) 218 Q 24 [x0, x1, x2, x3] st)) := (mw_at mj_218_21).trans ((z_invv (As := [a1, a2]) (by decide) rfl rfl).trans (congrArg (And _) (congrArg (And _) (mC_nl nl_83))))
theorem mj_218_24 : mc_P 218 24 = some (.invokevirtual 313, 3, 221, 11, 2) := by decide +kernel
theorem s_218_24 {x0 x1 x2 x3 : Option Value} {o : Nat} {a1 : Value} : mw (d + 1) 218 Q 24 [x0, x1, x2, x3] (a1 :: .ref o :: st) h = (mg h o 11 ∧ mca st 8 ∧ mca [.ref o, a1] 4 ∧ mcall d 221 [.ref o, a1] h (mK (d + 1) 218 Q 27 [x0, x1, x2, x3] st)) := (mw_at mj_218_24).trans ((z_invv (As := [a1]) (by decide) rfl rfl).trans (congrArg (And _) (congrArg (And _) (mC_nl nl_221))))
theorem mj_218_27 : mc_P 218 27 = some (.aload_n 0, 1, 0, 0, 0) := by decide +kernel
theorem s_218_27 {x1 x2 x3 : Option Value} {w : Value} : mw d 218 Q 27 [some w, x1, x2, x3] (st) h = mv_a w (mw d 218 Q 28 [some w, x1, x2, x3] (w :: st) h) := (mw_at mj_218_27).trans (z_aload_n rfl)
theorem mj_218_28 : mc_P 218 28 = some (.ldc_w 340, 3, 18, 1, 0) := by decide +kernel
theorem s_218_28 {x0 x1 x2 x3 : Option Value} : mw d 218 Q 28 [x0, x1, x2, x3] (st) h = mw d 218 Q 31 [x0, x1, x2, x3] (.retAddr 18 :: st) h := (mw_at mj_218_28).trans (z_ldcW)
theorem mj_218_31 : mc_P 218 31 = some (.invokevirtual 286, 3, 222, 11, 2) := by decide +kernel
theorem s_218_31 {x0 x1 x2 x3 : Option Value} {o : Nat} {a1 : Value} : mw (d + 1) 218 Q 31 [x0, x1, x2, x3] (a1 :: .ref o :: st) h = (mg h o 11 ∧ mca st 8 ∧ mca [.ref o, a1] 3 ∧ mcall d 222 [.ref o, a1] h (mK (d + 1) 218 Q 34 [x0, x1, x2, x3] st)) := (mw_at mj_218_31).trans ((z_invv (As := [a1]) (by decide) rfl rfl).trans (congrArg (And _) (congrArg (And _) (mC_nl nl_222))))
theorem mj_218_34 : mc_P 218 34 = some (.aload_n 0, 1, 0, 0, 0) := by decide +kernel
theorem s_218_34 {x1 x2 x3 : Option Value} {w : Value} : mw d 218 Q 34 [some w, x1, x2, x3] (st) h = mv_a w (mw d 218 Q 35 [some w, x1, x2, x3] (w :: st) h) := (mw_at mj_218_34).trans (z_aload_n rfl)
theorem mj_218_35 : mc_P 218 35 = some (.aload_n 2, 1, 0, 0, 0) := by decide +kernel
theorem s_218_35 {x0 x1 x3 : Option Value} {w : Value} : mw d 218 Q 35 [x0, x1, some w, x3] (st) h = mv_a w (mw d 218 Q 36 [x0, x1, some w, x3] (w :: st) h) := (mw_at mj_218_35).trans (z_aload_n rfl)
theorem mj_218_36 : mc_P 218 36 = some (.getfield 186, 3, 8, 4, 0) := by decide +kernel
theorem s_218_36 {x0 x1 x2 x3 : Option Value} {o : Nat} : mw d 218 Q 36 [x0, x1, x2, x3] (.ref o :: st) h = (mg h o 8 ∧ mw d 218 Q 39 [x0, x1, x2, x3] (va_rf (mh_r h o 4) :: st) h) := (mw_at mj_218_36).trans (z_getr (by decide) (by decide) rfl)
theorem mj_218_39 : mc_P 218 39 = some (.iconst 2, 1, 0, 0, 0) := by decide +kernel
theorem s_218_39 {x0 x1 x2 x3 : Option Value} : mw d 218 Q 39 [x0, x1, x2, x3] (st) h = mw d 218 Q 40 [x0, x1, x2, x3] (.int 2 :: st) h := (mw_at mj_218_39).trans (z_iconst (by decide))
theorem mj_218_40 : mc_P 218 40 = some (.iload_n 3, 1, 0, 0, 0) := by decide +kernel
theorem s_218_40 {x0 x1 x2 : Option Value} {w : Value} : mw d 218 Q 40 [x0, x1, x2, some w] (st) h = mv_i w (mw d 218 Q 41 [x0, x1, x2, some w] (w :: st) h) := (mw_at mj_218_40).trans (z_iload_n rfl)
theorem mj_218_41 : mc_P 218 41 = some (.imul, 1, 0, 0, 0) := by decide +kernel
theorem s_218_41 {x0 x1 x2 x3 : Option Value} {x w : Int32} : mw d 218 Q 41 [x0, x1, x2, x3] (.int w :: .int x :: st) h = mw d 218 Q 42 [x0, x1, x2, x3] (.int (x * w) :: st) h := (mw_at mj_218_41).trans (z_imul)
theorem mj_218_42 : mc_P 218 42 = some (.laload, 1, 0, 0, 0) := by decide +kernel
theorem s_218_42 {x0 x1 x2 x3 : Option Value} {o : Nat} {i : Int32} : mw d 218 Q 42 [x0, x1, x2, x3] (.int i :: .ref o :: st) h = (mg h o 101 ∧ mx i (mh_l h o) ∧ mw d 218 Q 43 [x0, x1, x2, x3] (.long (mh_j h o i.toNatClampNeg) :: st) h) := (mw_at mj_218_42).trans (z_lald)
theorem mj_218_43 : mc_P 218 43 = some (.aload_n 2, 1, 0, 0, 0) := by decide +kernel
theorem s_218_43 {x0 x1 x3 : Option Value} {w : Value} : mw d 218 Q 43 [x0, x1, some w, x3] (st) h = mv_a w (mw d 218 Q 44 [x0, x1, some w, x3] (w :: st) h) := (mw_at mj_218_43).trans (z_aload_n rfl)
theorem mj_218_44 : mc_P 218 44 = some (.getfield 186, 3, 8, 4, 0) := by decide +kernel
theorem s_218_44 {x0 x1 x2 x3 : Option Value} {o : Nat} : mw d 218 Q 44 [x0, x1, x2, x3] (.ref o :: st) h = (mg h o 8 ∧ mw d 218 Q 47 [x0, x1, x2, x3] (va_rf (mh_r h o 4) :: st) h) := (mw_at mj_218_44).trans (z_getr (by decide) (by decide) rfl)
theorem mj_218_47 : mc_P 218 47 = some (.iconst 2, 1, 0, 0, 0) := by decide +kernel
theorem s_218_47 {x0 x1 x2 x3 : Option Value} : mw d 218 Q 47 [x0, x1, x2, x3] (st) h = mw d 218 Q 48 [x0, x1, x2, x3] (.int 2 :: st) h := (mw_at mj_218_47).trans (z_iconst (by decide))
theorem mj_218_48 : mc_P 218 48 = some (.iload_n 3, 1, 0, 0, 0) := by decide +kernel
theorem s_218_48 {x0 x1 x2 : Option Value} {w : Value} : mw d 218 Q 48 [x0, x1, x2, some w] (st) h = mv_i w (mw d 218 Q 49 [x0, x1, x2, some w] (w :: st) h) := (mw_at mj_218_48).trans (z_iload_n rfl)
theorem mj_218_49 : mc_P 218 49 = some (.imul, 1, 0, 0, 0) := by decide +kernel
theorem s_218_49 {x0 x1 x2 x3 : Option Value} {x w : Int32} : mw d 218 Q 49 [x0, x1, x2, x3] (.int w :: .int x :: st) h = mw d 218 Q 50 [x0, x1, x2, x3] (.int (x * w) :: st) h := (mw_at mj_218_49).trans (z_imul)
theorem mj_218_50 : mc_P 218 50 = some (.iconst 1, 1, 0, 0, 0) := by decide +kernel
theorem s_218_50 {x0 x1 x2 x3 : Option Value} : mw d 218 Q 50 [x0, x1, x2, x3] (st) h = mw d 218 Q 51 [x0, x1, x2, x3] (.int 1 :: st) h := (mw_at mj_218_50).trans (z_iconst (by decide))
theorem mj_218_51 : mc_P 218 51 = some (.iadd, 1, 0, 0, 0) := by decide +kernel
theorem s_218_51 {x0 x1 x2 x3 : Option Value} {x w : Int32} : mw d 218 Q 51 [x0, x1, x2, x3] (.int w :: .int x :: st) h = mw d 218 Q 52 [x0, x1, x2, x3] (.int (x + w) :: st) h := (mw_at mj_218_51).trans (z_iadd)
theorem mj_218_52 : mc_P 218 52 = some (.laload, 1, 0, 0, 0) := by decide +kernel
theorem s_218_52 {x0 x1 x2 x3 : Option Value} {o : Nat} {i : Int32} : mw d 218 Q 52 [x0, x1, x2, x3] (.int i :: .ref o :: st) h = (mg h o 101 ∧ mx i (mh_l h o) ∧ mw d 218 Q 53 [x0, x1, x2, x3] (.long (mh_j h o i.toNatClampNeg) :: st) h) := (mw_at mj_218_52).trans (z_lald)
theorem mj_218_53 : mc_P 218 53 = some (.invokevirtual 316, 3, 220, 11, 3) := by decide +kernel
theorem s_218_53 {x0 x1 x2 x3 : Option Value} {o : Nat} {a1 a2 : Value} : mw (d + 1) 218 Q 53 [x0, x1, x2, x3] (a2 :: a1 :: .ref o :: st) h = (mg h o 11 ∧ mca st 8 ∧ mca [.ref o, a1, a2] 5 ∧ mcall d 220 [.ref o, a1, a2] h (mK (d + 1) 218 Q 56 [x0, x1, x2, x3] st)) := (mw_at mj_218_53).trans ((z_invv (As := [a1, a2]) (by decide) rfl rfl).trans (congrArg (And _) (congrArg (And _) (mC_nl nl_220))))
theorem mj_218_56 : mc_P 218 56 = some (.iinc 3 1, 3, 0, 0, 0) := by decide +kernel
theorem s_218_56 {x0 x1 x2 : Option Value} {w : Int32} : mw d 218 Q 56 [x0, x1, x2, some (.int w)] (st) h = mw d 218 Q 59 [x0, x1, mk2 x2, some (.int (w + 1))] (st) h := (mw_at mj_218_56).trans (z_iinc rfl (Nat.le_of_ble_eq_true rfl) (by decide) (me_s1_mk (j := 2) (w := x2) rfl))
theorem mj_218_59 : mc_P 218 59 = some (.goto (-57), 3, 0, 0, 0) := by decide +kernel
theorem s_218_59 {x0 x1 x2 x3 : Option Value} : mw d 218 Q 59 [x0, x1, x2, x3] (st) h = mw d 218 Q 2 [x0, x1, x2, x3] (st) h := (mw_at mj_218_59).trans (z_goto (by decide))
theorem mj_218_62 : mc_P 218 62 = some (.return_, 1, 0, 0, 0) := by decide +kernel
theorem s_218_62 {x0 x1 x2 x3 : Option Value} : mw d 218 Q 62 [x0, x1, x2, x3] ([]) h = Q none h := (mw_at mj_218_62).trans (z_vret)
theorem e_218 {a0 : Nat} {a1 : Int32} {a2 : Nat} : mcall d 218 [.ref a0, .int a1, .ref a2] h Q = mw d 218 Q 0 [some (.ref a0), some (.int a1), some (.ref a2), none] [] h := by
  show mw d 218 Q 0 (me_en (mc_nl 218) _) [] h = _
  rw [nl_218]; rfl

/-! InvariantDesk.writeComma()V -/
theorem mj_219_0 : mc_P 219 0 = some (.aload_n 0, 1, 0, 0, 0) := by decide +kernel
theorem s_219_0 {w : Value} : mw d 219 Q 0 [some w] (st) h = mv_a w (mw d 219 Q 1 [some w] (w :: st) h) := (mw_at mj_219_0).trans (z_aload_n rfl)
theorem mj_219_1 : mc_P 219 1 = some (.getfield 282, 3, 11, 14, 0) := by decide +kernel
theorem s_219_1 {x0 : Option Value} {o : Nat} : mw d 219 Q 1 [x0] (.ref o :: st) h = (mg h o 11 ∧ mw d 219 Q 4 [x0] (.int (mh_i h o 14) :: st) h) := (mw_at mj_219_1).trans (z_geti (by decide) (by decide) (Or.inl rfl))
theorem mj_219_4 : mc_P 219 4 = some (.ifCond .le 10, 3, 0, 0, 0) := by decide +kernel
theorem s_219_4 {x0 : Option Value} {x : Int32} : mw d 219 Q 4 [x0] (.int x :: st) h = mB (x ≤ 0) (mw d 219 Q) 14 7 [x0] st h := (mw_at mj_219_4).trans (z_if_le (by decide) rfl)
theorem mj_219_7 : mc_P 219 7 = some (.aload_n 0, 1, 0, 0, 0) := by decide +kernel
theorem s_219_7 {w : Value} : mw d 219 Q 7 [some w] (st) h = mv_a w (mw d 219 Q 8 [some w] (w :: st) h) := (mw_at mj_219_7).trans (z_aload_n rfl)
theorem mj_219_8 : mc_P 219 8 = some (.ldc_w 342, 3, 21, 1, 0) := by decide +kernel
theorem s_219_8 {x0 : Option Value} : mw d 219 Q 8 [x0] (st) h = mw d 219 Q 11 [x0] (.retAddr 21 :: st) h := (mw_at mj_219_8).trans (z_ldcW)
theorem mj_219_11 : mc_P 219 11 = some (.invokevirtual 286, 3, 222, 11, 2) := by decide +kernel
theorem s_219_11 {x0 : Option Value} {o : Nat} {a1 : Value} : mw (d + 1) 219 Q 11 [x0] (a1 :: .ref o :: st) h = (mg h o 11 ∧ mca st 8 ∧ mca [.ref o, a1] 3 ∧ mcall d 222 [.ref o, a1] h (mK (d + 1) 219 Q 14 [x0] st)) := (mw_at mj_219_11).trans ((z_invv (As := [a1]) (by decide) rfl rfl).trans (congrArg (And _) (congrArg (And _) (mC_nl nl_222))))
theorem mj_219_14 : mc_P 219 14 = some (.return_, 1, 0, 0, 0) := by decide +kernel
theorem s_219_14 {x0 : Option Value} : mw d 219 Q 14 [x0] ([]) h = Q none h := (mw_at mj_219_14).trans (z_vret)
theorem e_219 {a0 : Nat} : mcall d 219 [.ref a0] h Q = mw d 219 Q 0 [some (.ref a0)] [] h := by
  show mw d 219 Q 0 (me_en (mc_nl 219) _) [] h = _
  rw [nl_219]; rfl

/-! InvariantDesk.writeEnds(JJ)V -/
theorem mj_220_0 : mc_P 220 0 = some (.aload_n 0, 1, 0, 0, 0) := by decide +kernel
theorem s_220_0 {x1 x2 x3 x4 : Option Value} {w : Value} : mw d 220 Q 0 [some w, x1, x2, x3, x4] (st) h = mv_a w (mw d 220 Q 1 [some w, x1, x2, x3, x4] (w :: st) h) := (mw_at mj_220_0).trans (z_aload_n rfl)
theorem mj_220_1 : mc_P 220 1 = some (.ldc_w 344, 3, 24, 1, 0) := by decide +kernel
theorem s_220_1 {x0 x1 x2 x3 x4 : Option Value} : mw d 220 Q 1 [x0, x1, x2, x3, x4] (st) h = mw d 220 Q 4 [x0, x1, x2, x3, x4] (.retAddr 24 :: st) h := (mw_at mj_220_1).trans (z_ldcW)
theorem mj_220_4 : mc_P 220 4 = some (.invokevirtual 286, 3, 222, 11, 2) := by decide +kernel
theorem s_220_4 {x0 x1 x2 x3 x4 : Option Value} {o : Nat} {a1 : Value} : mw (d + 1) 220 Q 4 [x0, x1, x2, x3, x4] (a1 :: .ref o :: st) h = (mg h o 11 ∧ mca st 8 ∧ mca [.ref o, a1] 3 ∧ mcall d 222 [.ref o, a1] h (mK (d + 1) 220 Q 7 [x0, x1, x2, x3, x4] st)) := (mw_at mj_220_4).trans ((z_invv (As := [a1]) (by decide) rfl rfl).trans (congrArg (And _) (congrArg (And _) (mC_nl nl_222))))
theorem mj_220_7 : mc_P 220 7 = some (.aload_n 0, 1, 0, 0, 0) := by decide +kernel
theorem s_220_7 {x1 x2 x3 x4 : Option Value} {w : Value} : mw d 220 Q 7 [some w, x1, x2, x3, x4] (st) h = mv_a w (mw d 220 Q 8 [some w, x1, x2, x3, x4] (w :: st) h) := (mw_at mj_220_7).trans (z_aload_n rfl)
theorem mj_220_8 : mc_P 220 8 = some (.lload_n 1, 1, 0, 0, 0) := by decide +kernel
theorem s_220_8 {x0 x2 x3 x4 : Option Value} {w : Value} : mw d 220 Q 8 [x0, some w, x2, x3, x4] (st) h = mv_l w (mw d 220 Q 9 [x0, some w, x2, x3, x4] (w :: st) h) := (mw_at mj_220_8).trans (z_lload_n rfl)
theorem mj_220_9 : mc_P 220 9 = some (.invokevirtual 333, 3, 223, 11, 2) := by decide +kernel
theorem s_220_9 {x0 x1 x2 x3 x4 : Option Value} {o : Nat} {a1 : Value} : mw (d + 1) 220 Q 9 [x0, x1, x2, x3, x4] (a1 :: .ref o :: st) h = (mg h o 11 ∧ mca st 8 ∧ mca [.ref o, a1] 9 ∧ mcall d 223 [.ref o, a1] h (mK (d + 1) 220 Q 12 [x0, x1, x2, x3, x4] st)) := (mw_at mj_220_9).trans ((z_invv (As := [a1]) (by decide) rfl rfl).trans (congrArg (And _) (congrArg (And _) (mC_nl nl_223))))
theorem mj_220_12 : mc_P 220 12 = some (.aload_n 0, 1, 0, 0, 0) := by decide +kernel
theorem s_220_12 {x1 x2 x3 x4 : Option Value} {w : Value} : mw d 220 Q 12 [some w, x1, x2, x3, x4] (st) h = mv_a w (mw d 220 Q 13 [some w, x1, x2, x3, x4] (w :: st) h) := (mw_at mj_220_12).trans (z_aload_n rfl)
theorem mj_220_13 : mc_P 220 13 = some (.ldc_w 346, 3, 27, 1, 0) := by decide +kernel
theorem s_220_13 {x0 x1 x2 x3 x4 : Option Value} : mw d 220 Q 13 [x0, x1, x2, x3, x4] (st) h = mw d 220 Q 16 [x0, x1, x2, x3, x4] (.retAddr 27 :: st) h := (mw_at mj_220_13).trans (z_ldcW)
theorem mj_220_16 : mc_P 220 16 = some (.invokevirtual 286, 3, 222, 11, 2) := by decide +kernel
theorem s_220_16 {x0 x1 x2 x3 x4 : Option Value} {o : Nat} {a1 : Value} : mw (d + 1) 220 Q 16 [x0, x1, x2, x3, x4] (a1 :: .ref o :: st) h = (mg h o 11 ∧ mca st 8 ∧ mca [.ref o, a1] 3 ∧ mcall d 222 [.ref o, a1] h (mK (d + 1) 220 Q 19 [x0, x1, x2, x3, x4] st)) := (mw_at mj_220_16).trans ((z_invv (As := [a1]) (by decide) rfl rfl).trans (congrArg (And _) (congrArg (And _) (mC_nl nl_222))))
theorem mj_220_19 : mc_P 220 19 = some (.aload_n 0, 1, 0, 0, 0) := by decide +kernel
theorem s_220_19 {x1 x2 x3 x4 : Option Value} {w : Value} : mw d 220 Q 19 [some w, x1, x2, x3, x4] (st) h = mv_a w (mw d 220 Q 20 [some w, x1, x2, x3, x4] (w :: st) h) := (mw_at mj_220_19).trans (z_aload_n rfl)
theorem mj_220_20 : mc_P 220 20 = some (.lload_n 3, 1, 0, 0, 0) := by decide +kernel
theorem s_220_20 {x0 x1 x2 x4 : Option Value} {w : Value} : mw d 220 Q 20 [x0, x1, x2, some w, x4] (st) h = mv_l w (mw d 220 Q 21 [x0, x1, x2, some w, x4] (w :: st) h) := (mw_at mj_220_20).trans (z_lload_n rfl)
theorem mj_220_21 : mc_P 220 21 = some (.invokevirtual 333, 3, 223, 11, 2) := by decide +kernel
theorem s_220_21 {x0 x1 x2 x3 x4 : Option Value} {o : Nat} {a1 : Value} : mw (d + 1) 220 Q 21 [x0, x1, x2, x3, x4] (a1 :: .ref o :: st) h = (mg h o 11 ∧ mca st 8 ∧ mca [.ref o, a1] 9 ∧ mcall d 223 [.ref o, a1] h (mK (d + 1) 220 Q 24 [x0, x1, x2, x3, x4] st)) := (mw_at mj_220_21).trans ((z_invv (As := [a1]) (by decide) rfl rfl).trans (congrArg (And _) (congrArg (And _) (mC_nl nl_223))))
theorem mj_220_24 : mc_P 220 24 = some (.return_, 1, 0, 0, 0) := by decide +kernel
theorem s_220_24 {x0 x1 x2 x3 x4 : Option Value} : mw d 220 Q 24 [x0, x1, x2, x3, x4] ([]) h = Q none h := (mw_at mj_220_24).trans (z_vret)
theorem e_220 {a0 : Nat} {a1 : Int64} {a2 : Int64} : mcall d 220 [.ref a0, .long a1, .long a2] h Q = mw d 220 Q 0 [some (.ref a0), some (.long a1), none, some (.long a2), none] [] h := by
  show mw d 220 Q 0 (me_en (mc_nl 220) _) [] h = _
  rw [nl_220]; rfl

/-! InvariantDesk.writeName(I)V -/
theorem mj_221_0 : mc_P 221 0 = some (.aload_n 0, 1, 0, 0, 0) := by decide +kernel
theorem s_221_0 {x1 x2 x3 : Option Value} {w : Value} : mw d 221 Q 0 [some w, x1, x2, x3] (st) h = mv_a w (mw d 221 Q 1 [some w, x1, x2, x3] (w :: st) h) := (mw_at mj_221_0).trans (z_aload_n rfl)
theorem mj_221_1 : mc_P 221 1 = some (.getfield 16, 3, 11, 2, 0) := by decide +kernel
theorem s_221_1 {x0 x1 x2 x3 : Option Value} {o : Nat} : mw d 221 Q 1 [x0, x1, x2, x3] (.ref o :: st) h = (mg h o 11 ∧ mw d 221 Q 4 [x0, x1, x2, x3] (va_rf (mh_r h o 2) :: st) h) := (mw_at mj_221_1).trans (z_getr (by decide) (by decide) rfl)
theorem mj_221_4 : mc_P 221 4 = some (.getfield 348, 3, 4, 0, 0) := by decide +kernel
theorem s_221_4 {x0 x1 x2 x3 : Option Value} {o : Nat} : mw d 221 Q 4 [x0, x1, x2, x3] (.ref o :: st) h = (mg h o 4 ∧ mw d 221 Q 7 [x0, x1, x2, x3] (va_rf (mh_r h o 0) :: st) h) := (mw_at mj_221_4).trans (z_getr (by decide) (by decide) rfl)
theorem mj_221_7 : mc_P 221 7 = some (.iload_n 1, 1, 0, 0, 0) := by decide +kernel
theorem s_221_7 {x0 x2 x3 : Option Value} {w : Value} : mw d 221 Q 7 [x0, some w, x2, x3] (st) h = mv_i w (mw d 221 Q 8 [x0, some w, x2, x3] (w :: st) h) := (mw_at mj_221_7).trans (z_iload_n rfl)
theorem mj_221_8 : mc_P 221 8 = some (.invokevirtual 352, 3, 175, 10, 2) := by decide +kernel
theorem s_221_8 {x0 x1 x2 x3 : Option Value} {o : Nat} {a1 : Value} : mw (d + 1) 221 Q 8 [x0, x1, x2, x3] (a1 :: .ref o :: st) h = (mg h o 10 ∧ mca st 8 ∧ mca [.ref o, a1] 4 ∧ mcall d 175 [.ref o, a1] h (mK (d + 1) 221 Q 11 [x0, x1, x2, x3] st)) := (mw_at mj_221_8).trans ((z_invv (As := [a1]) (by decide) rfl rfl).trans (congrArg (And _) (congrArg (And _) (mC_nl nl_175))))
theorem mj_221_11 : mc_P 221 11 = some (.istore_n 2, 1, 0, 0, 0) := by decide +kernel
theorem s_221_11 {x0 x1 x2 x3 : Option Value} {w : Int32} : mw d 221 Q 11 [x0, x1, x2, x3] (.int w :: st) h = mw d 221 Q 12 [x0, mk2 x1, some (.int w), x3] (st) h := (mw_at mj_221_11).trans (z_istore_n (Nat.le_of_ble_eq_true rfl) (me_s1_mk (j := 1) (w := x1) rfl))
theorem mj_221_12 : mc_P 221 12 = some (.iconst 0, 1, 0, 0, 0) := by decide +kernel
theorem s_221_12 {x0 x1 x2 x3 : Option Value} : mw d 221 Q 12 [x0, x1, x2, x3] (st) h = mw d 221 Q 13 [x0, x1, x2, x3] (.int 0 :: st) h := (mw_at mj_221_12).trans (z_iconst (by decide))
theorem mj_221_13 : mc_P 221 13 = some (.istore_n 3, 1, 0, 0, 0) := by decide +kernel
theorem s_221_13 {x0 x1 x2 x3 : Option Value} {w : Int32} : mw d 221 Q 13 [x0, x1, x2, x3] (.int w :: st) h = mw d 221 Q 14 [x0, x1, mk2 x2, some (.int w)] (st) h := (mw_at mj_221_13).trans (z_istore_n (Nat.le_of_ble_eq_true rfl) (me_s1_mk (j := 2) (w := x2) rfl))
theorem mj_221_14 : mc_P 221 14 = some (.iload_n 3, 1, 0, 0, 0) := by decide +kernel
theorem s_221_14 {x0 x1 x2 : Option Value} {w : Value} : mw d 221 Q 14 [x0, x1, x2, some w] (st) h = mv_i w (mw d 221 Q 15 [x0, x1, x2, some w] (w :: st) h) := (mw_at mj_221_14).trans (z_iload_n rfl)
theorem mj_221_15 : mc_P 221 15 = some (.iload_n 2, 1, 0, 0, 0) := by decide +kernel
theorem s_221_15 {x0 x1 x3 : Option Value} {w : Value} : mw d 221 Q 15 [x0, x1, some w, x3] (st) h = mv_i w (mw d 221 Q 16 [x0, x1, some w, x3] (w :: st) h) := (mw_at mj_221_15).trans (z_iload_n rfl)
theorem mj_221_16 : mc_P 221 16 = some (.if_icmp .ge 26, 3, 0, 0, 0) := by decide +kernel
theorem s_221_16 {x0 x1 x2 x3 : Option Value} {x w : Int32} : mw d 221 Q 16 [x0, x1, x2, x3] (.int w :: .int x :: st) h = mB (w ≤ x) (mw d 221 Q) 42 19 [x0, x1, x2, x3] st h := (mw_at mj_221_16).trans (z_icmp_ge (by decide) rfl)
theorem mj_221_19 : mc_P 221 19 = some (.aload_n 0, 1, 0, 0, 0) := by decide +kernel
theorem s_221_19 {x1 x2 x3 : Option Value} {w : Value} : mw d 221 Q 19 [some w, x1, x2, x3] (st) h = mv_a w (mw d 221 Q 20 [some w, x1, x2, x3] (w :: st) h) := (mw_at mj_221_19).trans (z_aload_n rfl)
theorem mj_221_20 : mc_P 221 20 = some (.aload_n 0, 1, 0, 0, 0) := by decide +kernel
theorem s_221_20 {x1 x2 x3 : Option Value} {w : Value} : mw d 221 Q 20 [some w, x1, x2, x3] (st) h = mv_a w (mw d 221 Q 21 [some w, x1, x2, x3] (w :: st) h) := (mw_at mj_221_20).trans (z_aload_n rfl)
theorem mj_221_21 : mc_P 221 21 = some (.getfield 16, 3, 11, 2, 0) := by decide +kernel
theorem s_221_21 {x0 x1 x2 x3 : Option Value} {o : Nat} : mw d 221 Q 21 [x0, x1, x2, x3] (.ref o :: st) h = (mg h o 11 ∧ mw d 221 Q 24 [x0, x1, x2, x3] (va_rf (mh_r h o 2) :: st) h) := (mw_at mj_221_21).trans (z_getr (by decide) (by decide) rfl)
theorem mj_221_24 : mc_P 221 24 = some (.getfield 348, 3, 4, 0, 0) := by decide +kernel
theorem s_221_24 {x0 x1 x2 x3 : Option Value} {o : Nat} : mw d 221 Q 24 [x0, x1, x2, x3] (.ref o :: st) h = (mg h o 4 ∧ mw d 221 Q 27 [x0, x1, x2, x3] (va_rf (mh_r h o 0) :: st) h) := (mw_at mj_221_24).trans (z_getr (by decide) (by decide) rfl)
theorem mj_221_27 : mc_P 221 27 = some (.iload_n 1, 1, 0, 0, 0) := by decide +kernel
theorem s_221_27 {x0 x2 x3 : Option Value} {w : Value} : mw d 221 Q 27 [x0, some w, x2, x3] (st) h = mv_i w (mw d 221 Q 28 [x0, some w, x2, x3] (w :: st) h) := (mw_at mj_221_27).trans (z_iload_n rfl)
theorem mj_221_28 : mc_P 221 28 = some (.iload_n 3, 1, 0, 0, 0) := by decide +kernel
theorem s_221_28 {x0 x1 x2 : Option Value} {w : Value} : mw d 221 Q 28 [x0, x1, x2, some w] (st) h = mv_i w (mw d 221 Q 29 [x0, x1, x2, some w] (w :: st) h) := (mw_at mj_221_28).trans (z_iload_n rfl)
theorem mj_221_29 : mc_P 221 29 = some (.iadd, 1, 0, 0, 0) := by decide +kernel
theorem s_221_29 {x0 x1 x2 x3 : Option Value} {x w : Int32} : mw d 221 Q 29 [x0, x1, x2, x3] (.int w :: .int x :: st) h = mw d 221 Q 30 [x0, x1, x2, x3] (.int (x + w) :: st) h := (mw_at mj_221_29).trans (z_iadd)
theorem mj_221_30 : mc_P 221 30 = some (.invokevirtual 355, 3, 170, 10, 2) := by decide +kernel
theorem s_221_30 {x0 x1 x2 x3 : Option Value} {o : Nat} {a1 : Value} : mw (d + 1) 221 Q 30 [x0, x1, x2, x3] (a1 :: .ref o :: st) h = (mg h o 10 ∧ mca st 8 ∧ mca [.ref o, a1] 2 ∧ mcall d 170 [.ref o, a1] h (mK (d + 1) 221 Q 33 [x0, x1, x2, x3] st)) := (mw_at mj_221_30).trans ((z_invv (As := [a1]) (by decide) rfl rfl).trans (congrArg (And _) (congrArg (And _) (mC_nl nl_170))))
theorem mj_221_33 : mc_P 221 33 = some (.invokevirtual 324, 3, 224, 11, 2) := by decide +kernel
theorem s_221_33 {x0 x1 x2 x3 : Option Value} {o : Nat} {a1 : Value} : mw (d + 1) 221 Q 33 [x0, x1, x2, x3] (a1 :: .ref o :: st) h = (mg h o 11 ∧ mca st 8 ∧ mca [.ref o, a1] 2 ∧ mcall d 224 [.ref o, a1] h (mK (d + 1) 221 Q 36 [x0, x1, x2, x3] st)) := (mw_at mj_221_33).trans ((z_invv (As := [a1]) (by decide) rfl rfl).trans (congrArg (And _) (congrArg (And _) (mC_nl nl_224))))
theorem mj_221_36 : mc_P 221 36 = some (.iinc 3 1, 3, 0, 0, 0) := by decide +kernel
theorem s_221_36 {x0 x1 x2 : Option Value} {w : Int32} : mw d 221 Q 36 [x0, x1, x2, some (.int w)] (st) h = mw d 221 Q 39 [x0, x1, mk2 x2, some (.int (w + 1))] (st) h := (mw_at mj_221_36).trans (z_iinc rfl (Nat.le_of_ble_eq_true rfl) (by decide) (me_s1_mk (j := 2) (w := x2) rfl))
theorem mj_221_39 : mc_P 221 39 = some (.goto (-25), 3, 0, 0, 0) := by decide +kernel
theorem s_221_39 {x0 x1 x2 x3 : Option Value} : mw d 221 Q 39 [x0, x1, x2, x3] (st) h = mw d 221 Q 14 [x0, x1, x2, x3] (st) h := (mw_at mj_221_39).trans (z_goto (by decide))
theorem mj_221_42 : mc_P 221 42 = some (.return_, 1, 0, 0, 0) := by decide +kernel
theorem s_221_42 {x0 x1 x2 x3 : Option Value} : mw d 221 Q 42 [x0, x1, x2, x3] ([]) h = Q none h := (mw_at mj_221_42).trans (z_vret)
theorem e_221 {a0 : Nat} {a1 : Int32} : mcall d 221 [.ref a0, .int a1] h Q = mw d 221 Q 0 [some (.ref a0), some (.int a1), none, none] [] h := by
  show mw d 221 Q 0 (me_en (mc_nl 221) _) [] h = _
  rw [nl_221]; rfl

/-! InvariantDesk.writeNumber(J)V -/
theorem mj_223_0 : mc_P 223 0 = some (.lload_n 1, 1, 0, 0, 0) := by decide +kernel
theorem s_223_0 {x0 x2 x3 x4 x5 x6 x7 x8 : Option Value} {w : Value} : mw d 223 Q 0 [x0, some w, x2, x3, x4, x5, x6, x7, x8] (st) h = mv_l w (mw d 223 Q 1 [x0, some w, x2, x3, x4, x5, x6, x7, x8] (w :: st) h) := (mw_at mj_223_0).trans (z_lload_n rfl)
theorem mj_223_1 : mc_P 223 1 = some (.lconst 0, 1, 0, 0, 0) := by decide +kernel
theorem s_223_1 {x0 x1 x2 x3 x4 x5 x6 x7 x8 : Option Value} : mw d 223 Q 1 [x0, x1, x2, x3, x4, x5, x6, x7, x8] (st) h = mw d 223 Q 2 [x0, x1, x2, x3, x4, x5, x6, x7, x8] (.long 0 :: st) h := (mw_at mj_223_1).trans (z_lconst (by decide))
theorem mj_223_2 : mc_P 223 2 = some (.lcmp, 1, 0, 0, 0) := by decide +kernel
theorem s_223_2 {x0 x1 x2 x3 x4 x5 x6 x7 x8 : Option Value} {x w : Int64} : mw d 223 Q 2 [x0, x1, x2, x3, x4, x5, x6, x7, x8] (.long w :: .long x :: st) h = mw d 223 Q 3 [x0, x1, x2, x3, x4, x5, x6, x7, x8] (.int (lg_cmp x w) :: st) h := (mw_at mj_223_2).trans (z_lcmp)
theorem mj_223_3 : mc_P 223 3 = some (.ifCond .ge 9, 3, 0, 0, 0) := by decide +kernel
theorem s_223_3 {x0 x1 x2 x3 x4 x5 x6 x7 x8 : Option Value} {x : Int32} : mw d 223 Q 3 [x0, x1, x2, x3, x4, x5, x6, x7, x8] (.int x :: st) h = mB (0 ≤ x) (mw d 223 Q) 12 6 [x0, x1, x2, x3, x4, x5, x6, x7, x8] st h := (mw_at mj_223_3).trans (z_if_ge (by decide) rfl)
theorem mj_223_6 : mc_P 223 6 = some (.aload_n 0, 1, 0, 0, 0) := by decide +kernel
theorem s_223_6 {x1 x2 x3 x4 x5 x6 x7 x8 : Option Value} {w : Value} : mw d 223 Q 6 [some w, x1, x2, x3, x4, x5, x6, x7, x8] (st) h = mv_a w (mw d 223 Q 7 [some w, x1, x2, x3, x4, x5, x6, x7, x8] (w :: st) h) := (mw_at mj_223_6).trans (z_aload_n rfl)
theorem mj_223_7 : mc_P 223 7 = some (.bipush 45, 2, 0, 0, 0) := by decide +kernel
theorem s_223_7 {x0 x1 x2 x3 x4 x5 x6 x7 x8 : Option Value} : mw d 223 Q 7 [x0, x1, x2, x3, x4, x5, x6, x7, x8] (st) h = mw d 223 Q 9 [x0, x1, x2, x3, x4, x5, x6, x7, x8] (.int 45 :: st) h := (mw_at mj_223_7).trans (z_bipush (by decide))
theorem mj_223_9 : mc_P 223 9 = some (.invokevirtual 324, 3, 224, 11, 2) := by decide +kernel
theorem s_223_9 {x0 x1 x2 x3 x4 x5 x6 x7 x8 : Option Value} {o : Nat} {a1 : Value} : mw (d + 1) 223 Q 9 [x0, x1, x2, x3, x4, x5, x6, x7, x8] (a1 :: .ref o :: st) h = (mg h o 11 ∧ mca st 8 ∧ mca [.ref o, a1] 2 ∧ mcall d 224 [.ref o, a1] h (mK (d + 1) 223 Q 12 [x0, x1, x2, x3, x4, x5, x6, x7, x8] st)) := (mw_at mj_223_9).trans ((z_invv (As := [a1]) (by decide) rfl rfl).trans (congrArg (And _) (congrArg (And _) (mC_nl nl_224))))
theorem mj_223_12 : mc_P 223 12 = some (.lload_n 1, 1, 0, 0, 0) := by decide +kernel
theorem s_223_12 {x0 x2 x3 x4 x5 x6 x7 x8 : Option Value} {w : Value} : mw d 223 Q 12 [x0, some w, x2, x3, x4, x5, x6, x7, x8] (st) h = mv_l w (mw d 223 Q 13 [x0, some w, x2, x3, x4, x5, x6, x7, x8] (w :: st) h) := (mw_at mj_223_12).trans (z_lload_n rfl)
theorem mj_223_13 : mc_P 223 13 = some (.lconst 0, 1, 0, 0, 0) := by decide +kernel
theorem s_223_13 {x0 x1 x2 x3 x4 x5 x6 x7 x8 : Option Value} : mw d 223 Q 13 [x0, x1, x2, x3, x4, x5, x6, x7, x8] (st) h = mw d 223 Q 14 [x0, x1, x2, x3, x4, x5, x6, x7, x8] (.long 0 :: st) h := (mw_at mj_223_13).trans (z_lconst (by decide))
theorem mj_223_14 : mc_P 223 14 = some (.lcmp, 1, 0, 0, 0) := by decide +kernel
theorem s_223_14 {x0 x1 x2 x3 x4 x5 x6 x7 x8 : Option Value} {x w : Int64} : mw d 223 Q 14 [x0, x1, x2, x3, x4, x5, x6, x7, x8] (.long w :: .long x :: st) h = mw d 223 Q 15 [x0, x1, x2, x3, x4, x5, x6, x7, x8] (.int (lg_cmp x w) :: st) h := (mw_at mj_223_14).trans (z_lcmp)
theorem mj_223_15 : mc_P 223 15 = some (.ifCond .ge 8, 3, 0, 0, 0) := by decide +kernel
theorem s_223_15 {x0 x1 x2 x3 x4 x5 x6 x7 x8 : Option Value} {x : Int32} : mw d 223 Q 15 [x0, x1, x2, x3, x4, x5, x6, x7, x8] (.int x :: st) h = mB (0 ≤ x) (mw d 223 Q) 23 18 [x0, x1, x2, x3, x4, x5, x6, x7, x8] st h := (mw_at mj_223_15).trans (z_if_ge (by decide) rfl)
theorem mj_223_18 : mc_P 223 18 = some (.lload_n 1, 1, 0, 0, 0) := by decide +kernel
theorem s_223_18 {x0 x2 x3 x4 x5 x6 x7 x8 : Option Value} {w : Value} : mw d 223 Q 18 [x0, some w, x2, x3, x4, x5, x6, x7, x8] (st) h = mv_l w (mw d 223 Q 19 [x0, some w, x2, x3, x4, x5, x6, x7, x8] (w :: st) h) := (mw_at mj_223_18).trans (z_lload_n rfl)
theorem mj_223_19 : mc_P 223 19 = some (.lneg, 1, 0, 0, 0) := by decide +kernel
theorem s_223_19 {x0 x1 x2 x3 x4 x5 x6 x7 x8 : Option Value} {x : Int64} : mw d 223 Q 19 [x0, x1, x2, x3, x4, x5, x6, x7, x8] (.long x :: st) h = mw d 223 Q 20 [x0, x1, x2, x3, x4, x5, x6, x7, x8] (.long (-x) :: st) h := (mw_at mj_223_19).trans (z_lneg)
theorem mj_223_20 : mc_P 223 20 = some (.goto 4, 3, 0, 0, 0) := by decide +kernel
theorem s_223_20 {x0 x1 x2 x3 x4 x5 x6 x7 x8 : Option Value} : mw d 223 Q 20 [x0, x1, x2, x3, x4, x5, x6, x7, x8] (st) h = mw d 223 Q 24 [x0, x1, x2, x3, x4, x5, x6, x7, x8] (st) h := (mw_at mj_223_20).trans (z_goto (by decide))
theorem mj_223_23 : mc_P 223 23 = some (.lload_n 1, 1, 0, 0, 0) := by decide +kernel
theorem s_223_23 {x0 x2 x3 x4 x5 x6 x7 x8 : Option Value} {w : Value} : mw d 223 Q 23 [x0, some w, x2, x3, x4, x5, x6, x7, x8] (st) h = mv_l w (mw d 223 Q 24 [x0, some w, x2, x3, x4, x5, x6, x7, x8] (w :: st) h) := (mw_at mj_223_23).trans (z_lload_n rfl)
theorem mj_223_24 : mc_P 223 24 = some (.lstore_n 3, 1, 0, 0, 0) := by decide +kernel
theorem s_223_24 {x0 x1 x2 x3 x4 x5 x6 x7 x8 : Option Value} {w : Int64} : mw d 223 Q 24 [x0, x1, x2, x3, x4, x5, x6, x7, x8] (.long w :: st) h = mw d 223 Q 25 [x0, x1, mk2 x2, some (.long w), none, x5, x6, x7, x8] (st) h := (mw_at mj_223_24).trans (z_lstore_n (Nat.le_of_ble_eq_true rfl) (me_s2_mk (j := 2) (w := x2) rfl))
theorem mj_223_25 : mc_P 223 25 = some (.lconst 1, 1, 0, 0, 0) := by decide +kernel
theorem s_223_25 {x0 x1 x2 x3 x4 x5 x6 x7 x8 : Option Value} : mw d 223 Q 25 [x0, x1, x2, x3, x4, x5, x6, x7, x8] (st) h = mw d 223 Q 26 [x0, x1, x2, x3, x4, x5, x6, x7, x8] (.long 1 :: st) h := (mw_at mj_223_25).trans (z_lconst (by decide))
theorem mj_223_26 : mc_P 223 26 = some (.lstore 5, 2, 0, 0, 0) := by decide +kernel
theorem s_223_26 {x0 x1 x2 x3 x4 x5 x6 x7 x8 : Option Value} {w : Int64} : mw d 223 Q 26 [x0, x1, x2, x3, x4, x5, x6, x7, x8] (.long w :: st) h = mw d 223 Q 28 [x0, x1, x2, x3, mk2 x4, some (.long w), none, x7, x8] (st) h := (mw_at mj_223_26).trans (z_lstore (Nat.le_of_ble_eq_true rfl) (me_s2_mk (j := 4) (w := x4) rfl))
theorem mj_223_28 : mc_P 223 28 = some (.iconst 1, 1, 0, 0, 0) := by decide +kernel
theorem s_223_28 {x0 x1 x2 x3 x4 x5 x6 x7 x8 : Option Value} : mw d 223 Q 28 [x0, x1, x2, x3, x4, x5, x6, x7, x8] (st) h = mw d 223 Q 29 [x0, x1, x2, x3, x4, x5, x6, x7, x8] (.int 1 :: st) h := (mw_at mj_223_28).trans (z_iconst (by decide))
theorem mj_223_29 : mc_P 223 29 = some (.istore 7, 2, 0, 0, 0) := by decide +kernel
theorem s_223_29 {x0 x1 x2 x3 x4 x5 x6 x7 x8 : Option Value} {w : Int32} : mw d 223 Q 29 [x0, x1, x2, x3, x4, x5, x6, x7, x8] (.int w :: st) h = mw d 223 Q 31 [x0, x1, x2, x3, x4, x5, mk2 x6, some (.int w), x8] (st) h := (mw_at mj_223_29).trans (z_istore (Nat.le_of_ble_eq_true rfl) (me_s1_mk (j := 6) (w := x6) rfl))
theorem mj_223_31 : mc_P 223 31 = some (.iload 7, 2, 0, 0, 0) := by decide +kernel
theorem s_223_31 {x0 x1 x2 x3 x4 x5 x6 x8 : Option Value} {w : Value} : mw d 223 Q 31 [x0, x1, x2, x3, x4, x5, x6, some w, x8] (st) h = mv_i w (mw d 223 Q 33 [x0, x1, x2, x3, x4, x5, x6, some w, x8] (w :: st) h) := (mw_at mj_223_31).trans (z_iload rfl)
theorem mj_223_33 : mc_P 223 33 = some (.bipush 12, 2, 0, 0, 0) := by decide +kernel
theorem s_223_33 {x0 x1 x2 x3 x4 x5 x6 x7 x8 : Option Value} : mw d 223 Q 33 [x0, x1, x2, x3, x4, x5, x6, x7, x8] (st) h = mw d 223 Q 35 [x0, x1, x2, x3, x4, x5, x6, x7, x8] (.int 12 :: st) h := (mw_at mj_223_33).trans (z_bipush (by decide))
theorem mj_223_35 : mc_P 223 35 = some (.if_icmp .ge 28, 3, 0, 0, 0) := by decide +kernel
theorem s_223_35 {x0 x1 x2 x3 x4 x5 x6 x7 x8 : Option Value} {x w : Int32} : mw d 223 Q 35 [x0, x1, x2, x3, x4, x5, x6, x7, x8] (.int w :: .int x :: st) h = mB (w ≤ x) (mw d 223 Q) 63 38 [x0, x1, x2, x3, x4, x5, x6, x7, x8] st h := (mw_at mj_223_35).trans (z_icmp_ge (by decide) rfl)
theorem mj_223_38 : mc_P 223 38 = some (.lload_n 3, 1, 0, 0, 0) := by decide +kernel
theorem s_223_38 {x0 x1 x2 x4 x5 x6 x7 x8 : Option Value} {w : Value} : mw d 223 Q 38 [x0, x1, x2, some w, x4, x5, x6, x7, x8] (st) h = mv_l w (mw d 223 Q 39 [x0, x1, x2, some w, x4, x5, x6, x7, x8] (w :: st) h) := (mw_at mj_223_38).trans (z_lload_n rfl)
theorem mj_223_39 : mc_P 223 39 = some (.lload 5, 2, 0, 0, 0) := by decide +kernel
theorem s_223_39 {x0 x1 x2 x3 x4 x6 x7 x8 : Option Value} {w : Value} : mw d 223 Q 39 [x0, x1, x2, x3, x4, some w, x6, x7, x8] (st) h = mv_l w (mw d 223 Q 41 [x0, x1, x2, x3, x4, some w, x6, x7, x8] (w :: st) h) := (mw_at mj_223_39).trans (z_lload rfl)
theorem mj_223_41 : mc_P 223 41 = some (.ldiv, 1, 0, 0, 0) := by decide +kernel
theorem s_223_41 {x0 x1 x2 x3 x4 x5 x6 x7 x8 : Option Value} {x w : Int64} : mw d 223 Q 41 [x0, x1, x2, x3, x4, x5, x6, x7, x8] (.long w :: .long x :: st) h = (¬ w = 0 ∧ mw d 223 Q 42 [x0, x1, x2, x3, x4, x5, x6, x7, x8] (.long (x / w) :: st) h) := (mw_at mj_223_41).trans (z_ldiv)
theorem mj_223_42 : mc_P 223 42 = some (.ldc2_w 367, 3, 0, 0, 10) := by decide +kernel
theorem s_223_42 {x0 x1 x2 x3 x4 x5 x6 x7 x8 : Option Value} : mw d 223 Q 42 [x0, x1, x2, x3, x4, x5, x6, x7, x8] (st) h = mw d 223 Q 45 [x0, x1, x2, x3, x4, x5, x6, x7, x8] (.long 10 :: st) h := (mw_at mj_223_42).trans (z_ldc2 (by decide))
theorem mj_223_45 : mc_P 223 45 = some (.lcmp, 1, 0, 0, 0) := by decide +kernel
theorem s_223_45 {x0 x1 x2 x3 x4 x5 x6 x7 x8 : Option Value} {x w : Int64} : mw d 223 Q 45 [x0, x1, x2, x3, x4, x5, x6, x7, x8] (.long w :: .long x :: st) h = mw d 223 Q 46 [x0, x1, x2, x3, x4, x5, x6, x7, x8] (.int (lg_cmp x w) :: st) h := (mw_at mj_223_45).trans (z_lcmp)
theorem mj_223_46 : mc_P 223 46 = some (.ifCond .lt 17, 3, 0, 0, 0) := by decide +kernel
theorem s_223_46 {x0 x1 x2 x3 x4 x5 x6 x7 x8 : Option Value} {x : Int32} : mw d 223 Q 46 [x0, x1, x2, x3, x4, x5, x6, x7, x8] (.int x :: st) h = mB (x < 0) (mw d 223 Q) 63 49 [x0, x1, x2, x3, x4, x5, x6, x7, x8] st h := (mw_at mj_223_46).trans (z_if_lt (by decide) rfl)
theorem mj_223_49 : mc_P 223 49 = some (.lload 5, 2, 0, 0, 0) := by decide +kernel
theorem s_223_49 {x0 x1 x2 x3 x4 x6 x7 x8 : Option Value} {w : Value} : mw d 223 Q 49 [x0, x1, x2, x3, x4, some w, x6, x7, x8] (st) h = mv_l w (mw d 223 Q 51 [x0, x1, x2, x3, x4, some w, x6, x7, x8] (w :: st) h) := (mw_at mj_223_49).trans (z_lload rfl)
theorem mj_223_51 : mc_P 223 51 = some (.ldc2_w 367, 3, 0, 0, 10) := by decide +kernel
theorem s_223_51 {x0 x1 x2 x3 x4 x5 x6 x7 x8 : Option Value} : mw d 223 Q 51 [x0, x1, x2, x3, x4, x5, x6, x7, x8] (st) h = mw d 223 Q 54 [x0, x1, x2, x3, x4, x5, x6, x7, x8] (.long 10 :: st) h := (mw_at mj_223_51).trans (z_ldc2 (by decide))
theorem mj_223_54 : mc_P 223 54 = some (.lmul, 1, 0, 0, 0) := by decide +kernel
theorem s_223_54 {x0 x1 x2 x3 x4 x5 x6 x7 x8 : Option Value} {x w : Int64} : mw d 223 Q 54 [x0, x1, x2, x3, x4, x5, x6, x7, x8] (.long w :: .long x :: st) h = mw d 223 Q 55 [x0, x1, x2, x3, x4, x5, x6, x7, x8] (.long (x * w) :: st) h := (mw_at mj_223_54).trans (z_lmul)
theorem mj_223_55 : mc_P 223 55 = some (.lstore 5, 2, 0, 0, 0) := by decide +kernel
theorem s_223_55 {x0 x1 x2 x3 x4 x5 x6 x7 x8 : Option Value} {w : Int64} : mw d 223 Q 55 [x0, x1, x2, x3, x4, x5, x6, x7, x8] (.long w :: st) h = mw d 223 Q 57 [x0, x1, x2, x3, mk2 x4, some (.long w), none, x7, x8] (st) h := (mw_at mj_223_55).trans (z_lstore (Nat.le_of_ble_eq_true rfl) (me_s2_mk (j := 4) (w := x4) rfl))
theorem mj_223_57 : mc_P 223 57 = some (.iinc 7 1, 3, 0, 0, 0) := by decide +kernel
theorem s_223_57 {x0 x1 x2 x3 x4 x5 x6 x8 : Option Value} {w : Int32} : mw d 223 Q 57 [x0, x1, x2, x3, x4, x5, x6, some (.int w), x8] (st) h = mw d 223 Q 60 [x0, x1, x2, x3, x4, x5, mk2 x6, some (.int (w + 1)), x8] (st) h := (mw_at mj_223_57).trans (z_iinc rfl (Nat.le_of_ble_eq_true rfl) (by decide) (me_s1_mk (j := 6) (w := x6) rfl))
theorem mj_223_60 : mc_P 223 60 = some (.goto (-29), 3, 0, 0, 0) := by decide +kernel
theorem s_223_60 {x0 x1 x2 x3 x4 x5 x6 x7 x8 : Option Value} : mw d 223 Q 60 [x0, x1, x2, x3, x4, x5, x6, x7, x8] (st) h = mw d 223 Q 31 [x0, x1, x2, x3, x4, x5, x6, x7, x8] (st) h := (mw_at mj_223_60).trans (z_goto (by decide))
theorem mj_223_63 : mc_P 223 63 = some (.lload 5, 2, 0, 0, 0) := by decide +kernel
theorem s_223_63 {x0 x1 x2 x3 x4 x6 x7 x8 : Option Value} {w : Value} : mw d 223 Q 63 [x0, x1, x2, x3, x4, some w, x6, x7, x8] (st) h = mv_l w (mw d 223 Q 65 [x0, x1, x2, x3, x4, some w, x6, x7, x8] (w :: st) h) := (mw_at mj_223_63).trans (z_lload rfl)
theorem mj_223_65 : mc_P 223 65 = some (.lstore 7, 2, 0, 0, 0) := by decide +kernel
theorem s_223_65 {x0 x1 x2 x3 x4 x5 x6 x7 x8 : Option Value} {w : Int64} : mw d 223 Q 65 [x0, x1, x2, x3, x4, x5, x6, x7, x8] (.long w :: st) h = mw d 223 Q 67 [x0, x1, x2, x3, x4, x5, mk2 x6, some (.long w), none] (st) h := (mw_at mj_223_65).trans (z_lstore (Nat.le_of_ble_eq_true rfl) (me_s2_mk (j := 6) (w := x6) rfl))
theorem mj_223_67 : mc_P 223 67 = some (.lload 7, 2, 0, 0, 0) := by decide +kernel
theorem s_223_67 {x0 x1 x2 x3 x4 x5 x6 x8 : Option Value} {w : Value} : mw d 223 Q 67 [x0, x1, x2, x3, x4, x5, x6, some w, x8] (st) h = mv_l w (mw d 223 Q 69 [x0, x1, x2, x3, x4, x5, x6, some w, x8] (w :: st) h) := (mw_at mj_223_67).trans (z_lload rfl)
theorem mj_223_69 : mc_P 223 69 = some (.lconst 0, 1, 0, 0, 0) := by decide +kernel
theorem s_223_69 {x0 x1 x2 x3 x4 x5 x6 x7 x8 : Option Value} : mw d 223 Q 69 [x0, x1, x2, x3, x4, x5, x6, x7, x8] (st) h = mw d 223 Q 70 [x0, x1, x2, x3, x4, x5, x6, x7, x8] (.long 0 :: st) h := (mw_at mj_223_69).trans (z_lconst (by decide))
theorem mj_223_70 : mc_P 223 70 = some (.lcmp, 1, 0, 0, 0) := by decide +kernel
theorem s_223_70 {x0 x1 x2 x3 x4 x5 x6 x7 x8 : Option Value} {x w : Int64} : mw d 223 Q 70 [x0, x1, x2, x3, x4, x5, x6, x7, x8] (.long w :: .long x :: st) h = mw d 223 Q 71 [x0, x1, x2, x3, x4, x5, x6, x7, x8] (.int (lg_cmp x w) :: st) h := (mw_at mj_223_70).trans (z_lcmp)
theorem mj_223_71 : mc_P 223 71 = some (.ifCond .le 31, 3, 0, 0, 0) := by decide +kernel
theorem s_223_71 {x0 x1 x2 x3 x4 x5 x6 x7 x8 : Option Value} {x : Int32} : mw d 223 Q 71 [x0, x1, x2, x3, x4, x5, x6, x7, x8] (.int x :: st) h = mB (x ≤ 0) (mw d 223 Q) 102 74 [x0, x1, x2, x3, x4, x5, x6, x7, x8] st h := (mw_at mj_223_71).trans (z_if_le (by decide) rfl)
theorem mj_223_74 : mc_P 223 74 = some (.aload_n 0, 1, 0, 0, 0) := by decide +kernel
theorem s_223_74 {x1 x2 x3 x4 x5 x6 x7 x8 : Option Value} {w : Value} : mw d 223 Q 74 [some w, x1, x2, x3, x4, x5, x6, x7, x8] (st) h = mv_a w (mw d 223 Q 75 [some w, x1, x2, x3, x4, x5, x6, x7, x8] (w :: st) h) := (mw_at mj_223_74).trans (z_aload_n rfl)
theorem mj_223_75 : mc_P 223 75 = some (.ldc2_w 369, 3, 0, 0, 48) := by decide +kernel
theorem s_223_75 {x0 x1 x2 x3 x4 x5 x6 x7 x8 : Option Value} : mw d 223 Q 75 [x0, x1, x2, x3, x4, x5, x6, x7, x8] (st) h = mw d 223 Q 78 [x0, x1, x2, x3, x4, x5, x6, x7, x8] (.long 48 :: st) h := (mw_at mj_223_75).trans (z_ldc2 (by decide))
theorem mj_223_78 : mc_P 223 78 = some (.lload_n 3, 1, 0, 0, 0) := by decide +kernel
theorem s_223_78 {x0 x1 x2 x4 x5 x6 x7 x8 : Option Value} {w : Value} : mw d 223 Q 78 [x0, x1, x2, some w, x4, x5, x6, x7, x8] (st) h = mv_l w (mw d 223 Q 79 [x0, x1, x2, some w, x4, x5, x6, x7, x8] (w :: st) h) := (mw_at mj_223_78).trans (z_lload_n rfl)
theorem mj_223_79 : mc_P 223 79 = some (.lload 7, 2, 0, 0, 0) := by decide +kernel
theorem s_223_79 {x0 x1 x2 x3 x4 x5 x6 x8 : Option Value} {w : Value} : mw d 223 Q 79 [x0, x1, x2, x3, x4, x5, x6, some w, x8] (st) h = mv_l w (mw d 223 Q 81 [x0, x1, x2, x3, x4, x5, x6, some w, x8] (w :: st) h) := (mw_at mj_223_79).trans (z_lload rfl)
theorem mj_223_81 : mc_P 223 81 = some (.ldiv, 1, 0, 0, 0) := by decide +kernel
theorem s_223_81 {x0 x1 x2 x3 x4 x5 x6 x7 x8 : Option Value} {x w : Int64} : mw d 223 Q 81 [x0, x1, x2, x3, x4, x5, x6, x7, x8] (.long w :: .long x :: st) h = (¬ w = 0 ∧ mw d 223 Q 82 [x0, x1, x2, x3, x4, x5, x6, x7, x8] (.long (x / w) :: st) h) := (mw_at mj_223_81).trans (z_ldiv)
theorem mj_223_82 : mc_P 223 82 = some (.ldc2_w 367, 3, 0, 0, 10) := by decide +kernel
theorem s_223_82 {x0 x1 x2 x3 x4 x5 x6 x7 x8 : Option Value} : mw d 223 Q 82 [x0, x1, x2, x3, x4, x5, x6, x7, x8] (st) h = mw d 223 Q 85 [x0, x1, x2, x3, x4, x5, x6, x7, x8] (.long 10 :: st) h := (mw_at mj_223_82).trans (z_ldc2 (by decide))
theorem mj_223_85 : mc_P 223 85 = some (.lrem, 1, 0, 0, 0) := by decide +kernel
theorem s_223_85 {x0 x1 x2 x3 x4 x5 x6 x7 x8 : Option Value} {x w : Int64} : mw d 223 Q 85 [x0, x1, x2, x3, x4, x5, x6, x7, x8] (.long w :: .long x :: st) h = (¬ w = 0 ∧ mw d 223 Q 86 [x0, x1, x2, x3, x4, x5, x6, x7, x8] (.long (x - x / w * w) :: st) h) := (mw_at mj_223_85).trans (z_lrem)
theorem mj_223_86 : mc_P 223 86 = some (.ladd, 1, 0, 0, 0) := by decide +kernel
theorem s_223_86 {x0 x1 x2 x3 x4 x5 x6 x7 x8 : Option Value} {x w : Int64} : mw d 223 Q 86 [x0, x1, x2, x3, x4, x5, x6, x7, x8] (.long w :: .long x :: st) h = mw d 223 Q 87 [x0, x1, x2, x3, x4, x5, x6, x7, x8] (.long (x + w) :: st) h := (mw_at mj_223_86).trans (z_ladd)
theorem mj_223_87 : mc_P 223 87 = some (.l2i, 1, 0, 0, 0) := by decide +kernel
theorem s_223_87 {x0 x1 x2 x3 x4 x5 x6 x7 x8 : Option Value} {x : Int64} : mw d 223 Q 87 [x0, x1, x2, x3, x4, x5, x6, x7, x8] (.long x :: st) h = mw d 223 Q 88 [x0, x1, x2, x3, x4, x5, x6, x7, x8] (.int x.toInt32 :: st) h := (mw_at mj_223_87).trans (z_l2i)
theorem mj_223_88 : mc_P 223 88 = some (.invokevirtual 324, 3, 224, 11, 2) := by decide +kernel
theorem s_223_88 {x0 x1 x2 x3 x4 x5 x6 x7 x8 : Option Value} {o : Nat} {a1 : Value} : mw (d + 1) 223 Q 88 [x0, x1, x2, x3, x4, x5, x6, x7, x8] (a1 :: .ref o :: st) h = (mg h o 11 ∧ mca st 8 ∧ mca [.ref o, a1] 2 ∧ mcall d 224 [.ref o, a1] h (mK (d + 1) 223 Q 91 [x0, x1, x2, x3, x4, x5, x6, x7, x8] st)) := (mw_at mj_223_88).trans ((z_invv (As := [a1]) (by decide) rfl rfl).trans (congrArg (And _) (congrArg (And _) (mC_nl nl_224))))
theorem mj_223_91 : mc_P 223 91 = some (.lload 7, 2, 0, 0, 0) := by decide +kernel
theorem s_223_91 {x0 x1 x2 x3 x4 x5 x6 x8 : Option Value} {w : Value} : mw d 223 Q 91 [x0, x1, x2, x3, x4, x5, x6, some w, x8] (st) h = mv_l w (mw d 223 Q 93 [x0, x1, x2, x3, x4, x5, x6, some w, x8] (w :: st) h) := (mw_at mj_223_91).trans (z_lload rfl)
theorem mj_223_93 : mc_P 223 93 = some (.ldc2_w 367, 3, 0, 0, 10) := by decide +kernel
theorem s_223_93 {x0 x1 x2 x3 x4 x5 x6 x7 x8 : Option Value} : mw d 223 Q 93 [x0, x1, x2, x3, x4, x5, x6, x7, x8] (st) h = mw d 223 Q 96 [x0, x1, x2, x3, x4, x5, x6, x7, x8] (.long 10 :: st) h := (mw_at mj_223_93).trans (z_ldc2 (by decide))
theorem mj_223_96 : mc_P 223 96 = some (.ldiv, 1, 0, 0, 0) := by decide +kernel
theorem s_223_96 {x0 x1 x2 x3 x4 x5 x6 x7 x8 : Option Value} {x w : Int64} : mw d 223 Q 96 [x0, x1, x2, x3, x4, x5, x6, x7, x8] (.long w :: .long x :: st) h = (¬ w = 0 ∧ mw d 223 Q 97 [x0, x1, x2, x3, x4, x5, x6, x7, x8] (.long (x / w) :: st) h) := (mw_at mj_223_96).trans (z_ldiv)
theorem mj_223_97 : mc_P 223 97 = some (.lstore 7, 2, 0, 0, 0) := by decide +kernel
theorem s_223_97 {x0 x1 x2 x3 x4 x5 x6 x7 x8 : Option Value} {w : Int64} : mw d 223 Q 97 [x0, x1, x2, x3, x4, x5, x6, x7, x8] (.long w :: st) h = mw d 223 Q 99 [x0, x1, x2, x3, x4, x5, mk2 x6, some (.long w), none] (st) h := (mw_at mj_223_97).trans (z_lstore (Nat.le_of_ble_eq_true rfl) (me_s2_mk (j := 6) (w := x6) rfl))
theorem mj_223_99 : mc_P 223 99 = some (.goto (-32), 3, 0, 0, 0) := by decide +kernel
theorem s_223_99 {x0 x1 x2 x3 x4 x5 x6 x7 x8 : Option Value} : mw d 223 Q 99 [x0, x1, x2, x3, x4, x5, x6, x7, x8] (st) h = mw d 223 Q 67 [x0, x1, x2, x3, x4, x5, x6, x7, x8] (st) h := (mw_at mj_223_99).trans (z_goto (by decide))
theorem mj_223_102 : mc_P 223 102 = some (.return_, 1, 0, 0, 0) := by decide +kernel
theorem s_223_102 {x0 x1 x2 x3 x4 x5 x6 x7 x8 : Option Value} : mw d 223 Q 102 [x0, x1, x2, x3, x4, x5, x6, x7, x8] ([]) h = Q none h := (mw_at mj_223_102).trans (z_vret)
theorem e_223 {a0 : Nat} {a1 : Int64} : mcall d 223 [.ref a0, .long a1] h Q = mw d 223 Q 0 [some (.ref a0), some (.long a1), none, none, none, none, none, none, none] [] h := by
  show mw d 223 Q 0 (me_en (mc_nl 223) _) [] h = _
  rw [nl_223]; rfl

end SR
