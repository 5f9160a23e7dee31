/-! rules of methods, by program (wip/whole/srule.py) -/
section SR
variable {d : Nat} {Q : Option Value → mh_H → Prop} {st : List Value} {h : mh_H}
/-! InvariantDesk$Analysis.analyse()V -/
theorem mj_1_0 : mc_P 1 0 = some (.aload_n 0, 1, 0, 0, 0) := by decide +kernel
theorem s_1_0 {x1 x2 x3 : Option Value} {w : Value} : mw d 1 Q 0 [some w, x1, x2, x3] (st) h = mv_a w (mw d 1 Q 1 [some w, x1, x2, x3] (w :: st) h) := (mw_at mj_1_0).trans (z_aload_n rfl)
theorem mj_1_1 : mc_P 1 1 = some (.iconst 0, 1, 0, 0, 0) := by decide +kernel
theorem s_1_1 {x0 x1 x2 x3 : Option Value} : mw d 1 Q 1 [x0, x1, x2, x3] (st) h = mw d 1 Q 2 [x0, x1, x2, x3] (.int 0 :: st) h := (mw_at mj_1_1).trans (z_iconst (by decide))
theorem mj_1_2 : mc_P 1 2 = some (.putfield 58, 3, 0, 2, 0) := by decide +kernel
theorem s_1_2 {x0 x1 x2 x3 : Option Value} {o : Nat} {w : Int32} : mw d 1 Q 2 [x0, x1, x2, x3] (.int w :: .ref o :: st) h = (mg h o 0 ∧ mw d 1 Q 5 [x0, x1, x2, x3] (st) (mh_si h o 2 w)) := (mw_at mj_1_2).trans (z_puti (by decide) (by decide) rfl)
theorem mj_1_5 : mc_P 1 5 = some (.aload_n 0, 1, 0, 0, 0) := by decide +kernel
theorem s_1_5 {x1 x2 x3 : Option Value} {w : Value} : mw d 1 Q 5 [some w, x1, x2, x3] (st) h = mv_a w (mw d 1 Q 6 [some w, x1, x2, x3] (w :: st) h) := (mw_at mj_1_5).trans (z_aload_n rfl)
theorem mj_1_6 : mc_P 1 6 = some (.iconst 0, 1, 0, 0, 0) := by decide +kernel
theorem s_1_6 {x0 x1 x2 x3 : Option Value} : mw d 1 Q 6 [x0, x1, x2, x3] (st) h = mw d 1 Q 7 [x0, x1, x2, x3] (.int 0 :: st) h := (mw_at mj_1_6).trans (z_iconst (by decide))
theorem mj_1_7 : mc_P 1 7 = some (.putfield 62, 3, 0, 3, 0) := by decide +kernel
theorem s_1_7 {x0 x1 x2 x3 : Option Value} {o : Nat} {w : Int32} : mw d 1 Q 7 [x0, x1, x2, x3] (.int w :: .ref o :: st) h = (mg h o 0 ∧ (w = 0 ∨ w = 1) ∧ mw d 1 Q 10 [x0, x1, x2, x3] (st) (mh_si h o 3 w)) := (mw_at mj_1_7).trans (z_putz (by decide) (by decide) rfl)
theorem mj_1_10 : mc_P 1 10 = some (.aload_n 0, 1, 0, 0, 0) := by decide +kernel
theorem s_1_10 {x1 x2 x3 : Option Value} {w : Value} : mw d 1 Q 10 [some w, x1, x2, x3] (st) h = mv_a w (mw d 1 Q 11 [some w, x1, x2, x3] (w :: st) h) := (mw_at mj_1_10).trans (z_aload_n rfl)
theorem mj_1_11 : mc_P 1 11 = some (.iconst 0, 1, 0, 0, 0) := by decide +kernel
theorem s_1_11 {x0 x1 x2 x3 : Option Value} : mw d 1 Q 11 [x0, x1, x2, x3] (st) h = mw d 1 Q 12 [x0, x1, x2, x3] (.int 0 :: st) h := (mw_at mj_1_11).trans (z_iconst (by decide))
theorem mj_1_12 : mc_P 1 12 = some (.putfield 66, 3, 0, 7, 0) := by decide +kernel
theorem s_1_12 {x0 x1 x2 x3 : Option Value} {o : Nat} {w : Int32} : mw d 1 Q 12 [x0, x1, x2, x3] (.int w :: .ref o :: st) h = (mg h o 0 ∧ mw d 1 Q 15 [x0, x1, x2, x3] (st) (mh_si h o 7 w)) := (mw_at mj_1_12).trans (z_puti (by decide) (by decide) rfl)
theorem mj_1_15 : mc_P 1 15 = some (.aload_n 0, 1, 0, 0, 0) := by decide +kernel
theorem s_1_15 {x1 x2 x3 : Option Value} {w : Value} : mw d 1 Q 15 [some w, x1, x2, x3] (st) h = mv_a w (mw d 1 Q 16 [some w, x1, x2, x3] (w :: st) h) := (mw_at mj_1_15).trans (z_aload_n rfl)
theorem mj_1_16 : mc_P 1 16 = some (.iconst 0, 1, 0, 0, 0) := by decide +kernel
theorem s_1_16 {x0 x1 x2 x3 : Option Value} : mw d 1 Q 16 [x0, x1, x2, x3] (st) h = mw d 1 Q 17 [x0, x1, x2, x3] (.int 0 :: st) h := (mw_at mj_1_16).trans (z_iconst (by decide))
theorem mj_1_17 : mc_P 1 17 = some (.putfield 69, 3, 0, 9, 0) := by decide +kernel
theorem s_1_17 {x0 x1 x2 x3 : Option Value} {o : Nat} {w : Int32} : mw d 1 Q 17 [x0, x1, x2, x3] (.int w :: .ref o :: st) h = (mg h o 0 ∧ mw d 1 Q 20 [x0, x1, x2, x3] (st) (mh_si h o 9 w)) := (mw_at mj_1_17).trans (z_puti (by decide) (by decide) rfl)
theorem mj_1_20 : mc_P 1 20 = some (.aload_n 0, 1, 0, 0, 0) := by decide +kernel
theorem s_1_20 {x1 x2 x3 : Option Value} {w : Value} : mw d 1 Q 20 [some w, x1, x2, x3] (st) h = mv_a w (mw d 1 Q 21 [some w, x1, x2, x3] (w :: st) h) := (mw_at mj_1_20).trans (z_aload_n rfl)
theorem mj_1_21 : mc_P 1 21 = some (.getfield 22, 3, 0, 6, 0) := by decide +kernel
theorem s_1_21 {x0 x1 x2 x3 : Option Value} {o : Nat} : mw d 1 Q 21 [x0, x1, x2, x3] (.ref o :: st) h = (mg h o 0 ∧ mw d 1 Q 24 [x0, x1, x2, x3] (va_rf (mh_r h o 6) :: st) h) := (mw_at mj_1_21).trans (z_getr (by decide) (by decide) rfl)
theorem mj_1_24 : mc_P 1 24 = some (.invokevirtual 72, 3, 143, 8, 1) := by decide +kernel
theorem s_1_24 {x0 x1 x2 x3 : Option Value} {o : Nat} : mw (d + 1) 1 Q 24 [x0, x1, x2, x3] (.ref o :: st) h = (mg h o 8 ∧ mca st 8 ∧ mca [.ref o] 1 ∧ mcall d 143 [.ref o] h (mK (d + 1) 1 Q 27 [x0, x1, x2, x3] st)) := (mw_at mj_1_24).trans ((z_invv (As := []) (by decide) rfl rfl).trans (congrArg (And _) (congrArg (And _) (mC_nl nl_143))))
theorem mj_1_27 : mc_P 1 27 = some (.iconst 0, 1, 0, 0, 0) := by decide +kernel
theorem s_1_27 {x0 x1 x2 x3 : Option Value} : mw d 1 Q 27 [x0, x1, x2, x3] (st) h = mw d 1 Q 28 [x0, x1, x2, x3] (.int 0 :: st) h := (mw_at mj_1_27).trans (z_iconst (by decide))
theorem mj_1_28 : mc_P 1 28 = some (.istore_n 1, 1, 0, 0, 0) := by decide +kernel
theorem s_1_28 {x0 x1 x2 x3 : Option Value} {w : Int32} : mw d 1 Q 28 [x0, x1, x2, x3] (.int w :: st) h = mw d 1 Q 29 [mk2 x0, some (.int w), x2, x3] (st) h := (mw_at mj_1_28).trans (z_istore_n (Nat.le_of_ble_eq_true rfl) (me_s1_mk (j := 0) (w := x0) rfl))
theorem mj_1_29 : mc_P 1 29 = some (.iload_n 1, 1, 0, 0, 0) := by decide +kernel
theorem s_1_29 {x0 x2 x3 : Option Value} {w : Value} : mw d 1 Q 29 [x0, some w, x2, x3] (st) h = mv_i w (mw d 1 Q 30 [x0, some w, x2, x3] (w :: st) h) := (mw_at mj_1_29).trans (z_iload_n rfl)
theorem mj_1_30 : mc_P 1 30 = some (.aload_n 0, 1, 0, 0, 0) := by decide +kernel
theorem s_1_30 {x1 x2 x3 : Option Value} {w : Value} : mw d 1 Q 30 [some w, x1, x2, x3] (st) h = mv_a w (mw d 1 Q 31 [some w, x1, x2, x3] (w :: st) h) := (mw_at mj_1_30).trans (z_aload_n rfl)
theorem mj_1_31 : mc_P 1 31 = some (.getfield 50, 3, 0, 4, 0) := by decide +kernel
theorem s_1_31 {x0 x1 x2 x3 : Option Value} {o : Nat} : mw d 1 Q 31 [x0, x1, x2, x3] (.ref o :: st) h = (mg h o 0 ∧ mw d 1 Q 34 [x0, x1, x2, x3] (va_rf (mh_r h o 4) :: st) h) := (mw_at mj_1_31).trans (z_getr (by decide) (by decide) rfl)
theorem mj_1_34 : mc_P 1 34 = some (.getfield 75, 3, 4, 2, 0) := by decide +kernel
theorem s_1_34 {x0 x1 x2 x3 : Option Value} {o : Nat} : mw d 1 Q 34 [x0, x1, x2, x3] (.ref o :: st) h = (mg h o 4 ∧ mw d 1 Q 37 [x0, x1, x2, x3] (.int (mh_i h o 2) :: st) h) := (mw_at mj_1_34).trans (z_geti (by decide) (by decide) (Or.inl rfl))
theorem mj_1_37 : mc_P 1 37 = some (.if_icmp .ge 31, 3, 0, 0, 0) := by decide +kernel
theorem s_1_37 {x0 x1 x2 x3 : Option Value} {x w : Int32} : mw d 1 Q 37 [x0, x1, x2, x3] (.int w :: .int x :: st) h = mB (w ≤ x) (mw d 1 Q) 68 40 [x0, x1, x2, x3] st h := (mw_at mj_1_37).trans (z_icmp_ge (by decide) rfl)
theorem mj_1_40 : mc_P 1 40 = some (.aload_n 0, 1, 0, 0, 0) := by decide +kernel
theorem s_1_40 {x1 x2 x3 : Option Value} {w : Value} : mw d 1 Q 40 [some w, x1, x2, x3] (st) h = mv_a w (mw d 1 Q 41 [some w, x1, x2, x3] (w :: st) h) := (mw_at mj_1_40).trans (z_aload_n rfl)
theorem mj_1_41 : mc_P 1 41 = some (.getfield 11, 3, 0, 0, 0) := by decide +kernel
theorem s_1_41 {x0 x1 x2 x3 : Option Value} {o : Nat} : mw d 1 Q 41 [x0, x1, x2, x3] (.ref o :: st) h = (mg h o 0 ∧ mw d 1 Q 44 [x0, x1, x2, x3] (va_rf (mh_r h o 0) :: st) h) := (mw_at mj_1_41).trans (z_getr (by decide) (by decide) rfl)
theorem mj_1_44 : mc_P 1 44 = some (.iload_n 1, 1, 0, 0, 0) := by decide +kernel
theorem s_1_44 {x0 x2 x3 : Option Value} {w : Value} : mw d 1 Q 44 [x0, some w, x2, x3] (st) h = mv_i w (mw d 1 Q 45 [x0, some w, x2, x3] (w :: st) h) := (mw_at mj_1_44).trans (z_iload_n rfl)
theorem mj_1_45 : mc_P 1 45 = some (.aaload, 1, 0, 0, 0) := by decide +kernel
theorem s_1_45 {x0 x1 x2 x3 : Option Value} {o : Nat} {i : Int32} : mw d 1 Q 45 [x0, x1, x2, x3] (.int i :: .ref o :: st) h = (mgr h o ∧ mx i (mh_l h o) ∧ mw d 1 Q 46 [x0, x1, x2, x3] (mrd (mh_k h o) h o i.toNatClampNeg :: st) h) := (mw_at mj_1_45).trans (z_aald)
theorem mj_1_46 : mc_P 1 46 = some (.ifnonnull 16, 3, 0, 0, 0) := by decide +kernel
theorem s_1_46n {x0 x1 x2 x3 : Option Value} : mw d 1 Q 46 [x0, x1, x2, x3] (.null :: st) h = mw d 1 Q 49 [x0, x1, x2, x3] (st) h := (mw_at mj_1_46).trans (z_nnullF)
theorem s_1_46 {x0 x1 x2 x3 : Option Value} {w : Nat} : mw d 1 Q 46 [x0, x1, x2, x3] (.ref w :: st) h = mw d 1 Q 62 [x0, x1, x2, x3] (st) h := (mw_at mj_1_46).trans (z_nnullT (by decide))
theorem mj_1_49 : mc_P 1 49 = some (.aload_n 0, 1, 0, 0, 0) := by decide +kernel
theorem s_1_49 {x1 x2 x3 : Option Value} {w : Value} : mw d 1 Q 49 [some w, x1, x2, x3] (st) h = mv_a w (mw d 1 Q 50 [some w, x1, x2, x3] (w :: st) h) := (mw_at mj_1_49).trans (z_aload_n rfl)
theorem mj_1_50 : mc_P 1 50 = some (.getfield 11, 3, 0, 0, 0) := by decide +kernel
theorem s_1_50 {x0 x1 x2 x3 : Option Value} {o : Nat} : mw d 1 Q 50 [x0, x1, x2, x3] (.ref o :: st) h = (mg h o 0 ∧ mw d 1 Q 53 [x0, x1, x2, x3] (va_rf (mh_r h o 0) :: st) h) := (mw_at mj_1_50).trans (z_getr (by decide) (by decide) rfl)
theorem mj_1_53 : mc_P 1 53 = some (.iload_n 1, 1, 0, 0, 0) := by decide +kernel
theorem s_1_53 {x0 x2 x3 : Option Value} {w : Value} : mw d 1 Q 53 [x0, some w, x2, x3] (st) h = mv_i w (mw d 1 Q 54 [x0, some w, x2, x3] (w :: st) h) := (mw_at mj_1_53).trans (z_iload_n rfl)
theorem mj_1_54 : mc_P 1 54 = some (.new 9, 3, 8, 0, 0) := by decide +kernel
theorem s_1_54 {x0 x1 x2 x3 : Option Value} : mw d 1 Q 54 [x0, x1, x2, x3] (st) h = mw d 1 Q 57 [x0, x1, x2, x3] (.ref (mh_n h) :: st) (mh_new h 8 6) := (mw_at mj_1_54).trans (z_new (by decide) rfl)
theorem mj_1_57 : mc_P 1 57 = some (.dup, 1, 0, 0, 0) := by decide +kernel
theorem s_1_57 {x0 x1 x2 x3 : Option Value} {w : Value} : mw d 1 Q 57 [x0, x1, x2, x3] (w :: st) h = (w.category = 1 ∧ mw d 1 Q 58 [x0, x1, x2, x3] (w :: w :: st) h) := (mw_at mj_1_57).trans (z_dup)
theorem mj_1_58 : mc_P 1 58 = some (.invokespecial 21, 3, 139, 2, 1) := by decide +kernel
theorem s_1_58 {x0 x1 x2 x3 : Option Value} {o : Nat} : mw (d + 1) 1 Q 58 [x0, x1, x2, x3] (.ref o :: st) h = (mca st 8 ∧ mca [.ref o] 1 ∧ mcall d 139 [.ref o] h (mK (d + 1) 1 Q 61 [x0, x1, x2, x3] st)) := (mw_at mj_1_58).trans ((z_invsp (As := []) (by decide) rfl rfl).trans (congrArg (And _) (mC_nl nl_139)))
theorem mj_1_61 : mc_P 1 61 = some (.aastore, 1, 0, 0, 0) := by decide +kernel
theorem s_1_61 {x0 x1 x2 x3 : Option Value} {o w : Nat} {i : Int32} : mw d 1 Q 61 [x0, x1, x2, x3] (.ref w :: .int i :: .ref o :: st) h = (mgr h o ∧ mx i (mh_l h o) ∧ mh_k h o < 107 ∧ mg h w (me_ac (mh_k h o)) ∧ mw d 1 Q 62 [x0, x1, x2, x3] (st) (mh_sr h o i.toNatClampNeg (some w))) := (mw_at mj_1_61).trans (z_aast)
theorem s_1_61n {x0 x1 x2 x3 : Option Value} {o : Nat} {i : Int32} : mw d 1 Q 61 [x0, x1, x2, x3] (.null :: .int i :: .ref o :: st) h = (mgr h o ∧ mx i (mh_l h o) ∧ mh_k h o < 107 ∧ mw d 1 Q 62 [x0, x1, x2, x3] (st) (mh_sr h o i.toNatClampNeg none)) := (mw_at mj_1_61).trans (z_aastN)
theorem s_1_61x {x0 x1 x2 x3 : Option Value} {o x : Nat} {i : Int32} : mw d 1 Q 61 [x0, x1, x2, x3] (.retAddr x :: .int i :: .ref o :: st) h = (mg h o 107 ∧ mx i (mh_l h o) ∧ me_xs x = true ∧ mw d 1 Q 62 [x0, x1, x2, x3] (st) (mh_si h o i.toNatClampNeg (Int32.ofNat x))) := (mw_at mj_1_61).trans (z_aastS)
theorem mj_1_62 : mc_P 1 62 = some (.iinc 1 1, 3, 0, 0, 0) := by decide +kernel
theorem s_1_62 {x0 x2 x3 : Option Value} {w : Int32} : mw d 1 Q 62 [x0, some (.int w), x2, x3] (st) h = mw d 1 Q 65 [mk2 x0, some (.int (w + 1)), x2, x3] (st) h := (mw_at mj_1_62).trans (z_iinc rfl (Nat.le_of_ble_eq_true rfl) (by decide) (me_s1_mk (j := 0) (w := x0) rfl))
theorem mj_1_65 : mc_P 1 65 = some (.goto (-36), 3, 0, 0, 0) := by decide +kernel
theorem s_1_65 {x0 x1 x2 x3 : Option Value} : mw d 1 Q 65 [x0, x1, x2, x3] (st) h = mw d 1 Q 29 [x0, x1, x2, x3] (st) h := (mw_at mj_1_65).trans (z_goto (by decide))
theorem mj_1_68 : mc_P 1 68 = some (.aload_n 0, 1, 0, 0, 0) := by decide +kernel
theorem s_1_68 {x1 x2 x3 : Option Value} {w : Value} : mw d 1 Q 68 [some w, x1, x2, x3] (st) h = mv_a w (mw d 1 Q 69 [some w, x1, x2, x3] (w :: st) h) := (mw_at mj_1_68).trans (z_aload_n rfl)
theorem mj_1_69 : mc_P 1 69 = some (.getfield 50, 3, 0, 4, 0) := by decide +kernel
theorem s_1_69 {x0 x1 x2 x3 : Option Value} {o : Nat} : mw d 1 Q 69 [x0, x1, x2, x3] (.ref o :: st) h = (mg h o 0 ∧ mw d 1 Q 72 [x0, x1, x2, x3] (va_rf (mh_r h o 4) :: st) h) := (mw_at mj_1_69).trans (z_getr (by decide) (by decide) rfl)
theorem mj_1_72 : mc_P 1 72 = some (.getfield 75, 3, 4, 2, 0) := by decide +kernel
theorem s_1_72 {x0 x1 x2 x3 : Option Value} {o : Nat} : mw d 1 Q 72 [x0, x1, x2, x3] (.ref o :: st) h = (mg h o 4 ∧ mw d 1 Q 75 [x0, x1, x2, x3] (.int (mh_i h o 2) :: st) h) := (mw_at mj_1_72).trans (z_geti (by decide) (by decide) (Or.inl rfl))
theorem mj_1_75 : mc_P 1 75 = some (.iconst 1, 1, 0, 0, 0) := by decide +kernel
theorem s_1_75 {x0 x1 x2 x3 : Option Value} : mw d 1 Q 75 [x0, x1, x2, x3] (st) h = mw d 1 Q 76 [x0, x1, x2, x3] (.int 1 :: st) h := (mw_at mj_1_75).trans (z_iconst (by decide))
theorem mj_1_76 : mc_P 1 76 = some (.isub, 1, 0, 0, 0) := by decide +kernel
theorem s_1_76 {x0 x1 x2 x3 : Option Value} {x w : Int32} : mw d 1 Q 76 [x0, x1, x2, x3] (.int w :: .int x :: st) h = mw d 1 Q 77 [x0, x1, x2, x3] (.int (x - w) :: st) h := (mw_at mj_1_76).trans (z_isub)
theorem mj_1_77 : mc_P 1 77 = some (.istore_n 1, 1, 0, 0, 0) := by decide +kernel
theorem s_1_77 {x0 x1 x2 x3 : Option Value} {w : Int32} : mw d 1 Q 77 [x0, x1, x2, x3] (.int w :: st) h = mw d 1 Q 78 [mk2 x0, some (.int w), x2, x3] (st) h := (mw_at mj_1_77).trans (z_istore_n (Nat.le_of_ble_eq_true rfl) (me_s1_mk (j := 0) (w := x0) rfl))
theorem mj_1_78 : mc_P 1 78 = some (.iconst 0, 1, 0, 0, 0) := by decide +kernel
theorem s_1_78 {x0 x1 x2 x3 : Option Value} : mw d 1 Q 78 [x0, x1, x2, x3] (st) h = mw d 1 Q 79 [x0, x1, x2, x3] (.int 0 :: st) h := (mw_at mj_1_78).trans (z_iconst (by decide))
theorem mj_1_79 : mc_P 1 79 = some (.istore_n 2, 1, 0, 0, 0) := by decide +kernel
theorem s_1_79 {x0 x1 x2 x3 : Option Value} {w : Int32} : mw d 1 Q 79 [x0, x1, x2, x3] (.int w :: st) h = mw d 1 Q 80 [x0, mk2 x1, some (.int w), x3] (st) h := (mw_at mj_1_79).trans (z_istore_n (Nat.le_of_ble_eq_true rfl) (me_s1_mk (j := 1) (w := x1) rfl))
theorem mj_1_80 : mc_P 1 80 = some (.iload_n 2, 1, 0, 0, 0) := by decide +kernel
theorem s_1_80 {x0 x1 x3 : Option Value} {w : Value} : mw d 1 Q 80 [x0, x1, some w, x3] (st) h = mv_i w (mw d 1 Q 81 [x0, x1, some w, x3] (w :: st) h) := (mw_at mj_1_80).trans (z_iload_n rfl)
theorem mj_1_81 : mc_P 1 81 = some (.ldc 80, 2, 0, 0, 1000000) := by decide +kernel
theorem s_1_81 {x0 x1 x2 x3 : Option Value} : mw d 1 Q 81 [x0, x1, x2, x3] (st) h = mw d 1 Q 83 [x0, x1, x2, x3] (.int 1000000 :: st) h := (mw_at mj_1_81).trans (z_ldc (by decide))
theorem mj_1_83 : mc_P 1 83 = some (.if_icmp .ge 95, 3, 0, 0, 0) := by decide +kernel
theorem s_1_83 {x0 x1 x2 x3 : Option Value} {x w : Int32} : mw d 1 Q 83 [x0, x1, x2, x3] (.int w :: .int x :: st) h = mB (w ≤ x) (mw d 1 Q) 178 86 [x0, x1, x2, x3] st h := (mw_at mj_1_83).trans (z_icmp_ge (by decide) rfl)
theorem mj_1_86 : mc_P 1 86 = some (.aload_n 0, 1, 0, 0, 0) := by decide +kernel
theorem s_1_86 {x1 x2 x3 : Option Value} {w : Value} : mw d 1 Q 86 [some w, x1, x2, x3] (st) h = mv_a w (mw d 1 Q 87 [some w, x1, x2, x3] (w :: st) h) := (mw_at mj_1_86).trans (z_aload_n rfl)
theorem mj_1_87 : mc_P 1 87 = some (.getfield 62, 3, 0, 3, 0) := by decide +kernel
theorem s_1_87 {x0 x1 x2 x3 : Option Value} {o : Nat} : mw d 1 Q 87 [x0, x1, x2, x3] (.ref o :: st) h = (mg h o 0 ∧ mw d 1 Q 90 [x0, x1, x2, x3] (.int (mh_i h o 3) :: st) h) := (mw_at mj_1_87).trans (z_geti (by decide) (by decide) (Or.inr rfl))
theorem mj_1_90 : mc_P 1 90 = some (.ifCond .ne 88, 3, 0, 0, 0) := by decide +kernel
theorem s_1_90 {x0 x1 x2 x3 : Option Value} {x : Int32} : mw d 1 Q 90 [x0, x1, x2, x3] (.int x :: st) h = mB (¬ x = 0) (mw d 1 Q) 178 93 [x0, x1, x2, x3] st h := (mw_at mj_1_90).trans (z_if_ne (by decide) rfl)
theorem mj_1_93 : mc_P 1 93 = some (.aload_n 0, 1, 0, 0, 0) := by decide +kernel
theorem s_1_93 {x1 x2 x3 : Option Value} {w : Value} : mw d 1 Q 93 [some w, x1, x2, x3] (st) h = mv_a w (mw d 1 Q 94 [some w, x1, x2, x3] (w :: st) h) := (mw_at mj_1_93).trans (z_aload_n rfl)
theorem mj_1_94 : mc_P 1 94 = some (.getfield 69, 3, 0, 9, 0) := by decide +kernel
theorem s_1_94 {x0 x1 x2 x3 : Option Value} {o : Nat} : mw d 1 Q 94 [x0, x1, x2, x3] (.ref o :: st) h = (mg h o 0 ∧ mw d 1 Q 97 [x0, x1, x2, x3] (.int (mh_i h o 9) :: st) h) := (mw_at mj_1_94).trans (z_geti (by decide) (by decide) (Or.inl rfl))
theorem mj_1_97 : mc_P 1 97 = some (.ifCond .gt 11, 3, 0, 0, 0) := by decide +kernel
theorem s_1_97 {x0 x1 x2 x3 : Option Value} {x : Int32} : mw d 1 Q 97 [x0, x1, x2, x3] (.int x :: st) h = mB (0 < x) (mw d 1 Q) 108 100 [x0, x1, x2, x3] st h := (mw_at mj_1_97).trans (z_if_gt (by decide) rfl)
theorem mj_1_100 : mc_P 1 100 = some (.aload_n 0, 1, 0, 0, 0) := by decide +kernel
theorem s_1_100 {x1 x2 x3 : Option Value} {w : Value} : mw d 1 Q 100 [some w, x1, x2, x3] (st) h = mv_a w (mw d 1 Q 101 [some w, x1, x2, x3] (w :: st) h) := (mw_at mj_1_100).trans (z_aload_n rfl)
theorem mj_1_101 : mc_P 1 101 = some (.getfield 66, 3, 0, 7, 0) := by decide +kernel
theorem s_1_101 {x0 x1 x2 x3 : Option Value} {o : Nat} : mw d 1 Q 101 [x0, x1, x2, x3] (.ref o :: st) h = (mg h o 0 ∧ mw d 1 Q 104 [x0, x1, x2, x3] (.int (mh_i h o 7) :: st) h) := (mw_at mj_1_101).trans (z_geti (by decide) (by decide) (Or.inl rfl))
theorem mj_1_104 : mc_P 1 104 = some (.iload_n 1, 1, 0, 0, 0) := by decide +kernel
theorem s_1_104 {x0 x2 x3 : Option Value} {w : Value} : mw d 1 Q 104 [x0, some w, x2, x3] (st) h = mv_i w (mw d 1 Q 105 [x0, some w, x2, x3] (w :: st) h) := (mw_at mj_1_104).trans (z_iload_n rfl)
theorem mj_1_105 : mc_P 1 105 = some (.if_icmp .ge 73, 3, 0, 0, 0) := by decide +kernel
theorem s_1_105 {x0 x1 x2 x3 : Option Value} {x w : Int32} : mw d 1 Q 105 [x0, x1, x2, x3] (.int w :: .int x :: st) h = mB (w ≤ x) (mw d 1 Q) 178 108 [x0, x1, x2, x3] st h := (mw_at mj_1_105).trans (z_icmp_ge (by decide) rfl)
theorem mj_1_108 : mc_P 1 108 = some (.aload_n 0, 1, 0, 0, 0) := by decide +kernel
theorem s_1_108 {x1 x2 x3 : Option Value} {w : Value} : mw d 1 Q 108 [some w, x1, x2, x3] (st) h = mv_a w (mw d 1 Q 109 [some w, x1, x2, x3] (w :: st) h) := (mw_at mj_1_108).trans (z_aload_n rfl)
theorem mj_1_109 : mc_P 1 109 = some (.getfield 69, 3, 0, 9, 0) := by decide +kernel
theorem s_1_109 {x0 x1 x2 x3 : Option Value} {o : Nat} : mw d 1 Q 109 [x0, x1, x2, x3] (.ref o :: st) h = (mg h o 0 ∧ mw d 1 Q 112 [x0, x1, x2, x3] (.int (mh_i h o 9) :: st) h) := (mw_at mj_1_109).trans (z_geti (by decide) (by decide) (Or.inl rfl))
theorem mj_1_112 : mc_P 1 112 = some (.ifCond .ne 7, 3, 0, 0, 0) := by decide +kernel
theorem s_1_112 {x0 x1 x2 x3 : Option Value} {x : Int32} : mw d 1 Q 112 [x0, x1, x2, x3] (.int x :: st) h = mB (¬ x = 0) (mw d 1 Q) 119 115 [x0, x1, x2, x3] st h := (mw_at mj_1_112).trans (z_if_ne (by decide) rfl)
theorem mj_1_115 : mc_P 1 115 = some (.iload_n 1, 1, 0, 0, 0) := by decide +kernel
theorem s_1_115 {x0 x2 x3 : Option Value} {w : Value} : mw d 1 Q 115 [x0, some w, x2, x3] (st) h = mv_i w (mw d 1 Q 116 [x0, some w, x2, x3] (w :: st) h) := (mw_at mj_1_115).trans (z_iload_n rfl)
theorem mj_1_116 : mc_P 1 116 = some (.goto 18, 3, 0, 0, 0) := by decide +kernel
theorem s_1_116 {x0 x1 x2 x3 : Option Value} : mw d 1 Q 116 [x0, x1, x2, x3] (st) h = mw d 1 Q 134 [x0, x1, x2, x3] (st) h := (mw_at mj_1_116).trans (z_goto (by decide))
theorem mj_1_119 : mc_P 1 119 = some (.aload_n 0, 1, 0, 0, 0) := by decide +kernel
theorem s_1_119 {x1 x2 x3 : Option Value} {w : Value} : mw d 1 Q 119 [some w, x1, x2, x3] (st) h = mv_a w (mw d 1 Q 120 [some w, x1, x2, x3] (w :: st) h) := (mw_at mj_1_119).trans (z_aload_n rfl)
theorem mj_1_120 : mc_P 1 120 = some (.aload_n 0, 1, 0, 0, 0) := by decide +kernel
theorem s_1_120 {x1 x2 x3 : Option Value} {w : Value} : mw d 1 Q 120 [some w, x1, x2, x3] (st) h = mv_a w (mw d 1 Q 121 [some w, x1, x2, x3] (w :: st) h) := (mw_at mj_1_120).trans (z_aload_n rfl)
theorem mj_1_121 : mc_P 1 121 = some (.getfield 26, 3, 0, 8, 0) := by decide +kernel
theorem s_1_121 {x0 x1 x2 x3 : Option Value} {o : Nat} : mw d 1 Q 121 [x0, x1, x2, x3] (.ref o :: st) h = (mg h o 0 ∧ mw d 1 Q 124 [x0, x1, x2, x3] (va_rf (mh_r h o 8) :: st) h) := (mw_at mj_1_121).trans (z_getr (by decide) (by decide) rfl)
theorem mj_1_124 : mc_P 1 124 = some (.aload_n 0, 1, 0, 0, 0) := by decide +kernel
theorem s_1_124 {x1 x2 x3 : Option Value} {w : Value} : mw d 1 Q 124 [some w, x1, x2, x3] (st) h = mv_a w (mw d 1 Q 125 [some w, x1, x2, x3] (w :: st) h) := (mw_at mj_1_124).trans (z_aload_n rfl)
theorem mj_1_125 : mc_P 1 125 = some (.getfield 69, 3, 0, 9, 0) := by decide +kernel
theorem s_1_125 {x0 x1 x2 x3 : Option Value} {o : Nat} : mw d 1 Q 125 [x0, x1, x2, x3] (.ref o :: st) h = (mg h o 0 ∧ mw d 1 Q 128 [x0, x1, x2, x3] (.int (mh_i h o 9) :: st) h) := (mw_at mj_1_125).trans (z_geti (by decide) (by decide) (Or.inl rfl))
theorem mj_1_128 : mc_P 1 128 = some (.iconst 1, 1, 0, 0, 0) := by decide +kernel
theorem s_1_128 {x0 x1 x2 x3 : Option Value} : mw d 1 Q 128 [x0, x1, x2, x3] (st) h = mw d 1 Q 129 [x0, x1, x2, x3] (.int 1 :: st) h := (mw_at mj_1_128).trans (z_iconst (by decide))
theorem mj_1_129 : mc_P 1 129 = some (.isub, 1, 0, 0, 0) := by decide +kernel
theorem s_1_129 {x0 x1 x2 x3 : Option Value} {x w : Int32} : mw d 1 Q 129 [x0, x1, x2, x3] (.int w :: .int x :: st) h = mw d 1 Q 130 [x0, x1, x2, x3] (.int (x - w) :: st) h := (mw_at mj_1_129).trans (z_isub)
theorem mj_1_130 : mc_P 1 130 = some (.iaload, 1, 0, 0, 0) := by decide +kernel
theorem s_1_130 {x0 x1 x2 x3 : Option Value} {o : Nat} {i : Int32} : mw d 1 Q 130 [x0, x1, x2, x3] (.int i :: .ref o :: st) h = (mg h o 100 ∧ mx i (mh_l h o) ∧ mw d 1 Q 131 [x0, x1, x2, x3] (.int (mh_i h o i.toNatClampNeg) :: st) h) := (mw_at mj_1_130).trans (z_iald)
theorem s_1_130x {x0 x1 x2 x3 : Option Value} {i : Int32} : mw d 1 Q 130 [x0, x1, x2, x3] (.int i :: .retAddr 2 :: st) h = (mx i 24 ∧ mw d 1 Q 131 [x0, x1, x2, x3] (.int (mx_row.getD i.toNatClampNeg 0) :: st) h) := (mw_at mj_1_130).trans (z_iaX)
theorem mj_1_131 : mc_P 1 131 = some (.invokevirtual 81, 3, 2, 0, 2) := by decide +kernel
theorem s_1_131 {x0 x1 x2 x3 : Option Value} {o : Nat} {a1 : Value} : mw (d + 1) 1 Q 131 [x0, x1, x2, x3] (a1 :: .ref o :: st) h = (mg h o 0 ∧ mca st 8 ∧ mca [.ref o, a1] 3 ∧ mcall d 2 [.ref o, a1] h (mK (d + 1) 1 Q 134 [x0, x1, x2, x3] st)) := (mw_at mj_1_131).trans ((z_invv (As := [a1]) (by decide) rfl rfl).trans (congrArg (And _) (congrArg (And _) (mC_nl nl_2))))
theorem mj_1_134 : mc_P 1 134 = some (.istore_n 3, 1, 0, 0, 0) := by decide +kernel
theorem s_1_134 {x0 x1 x2 x3 : Option Value} {w : Int32} : mw d 1 Q 134 [x0, x1, x2, x3] (.int w :: st) h = mw d 1 Q 135 [x0, x1, mk2 x2, some (.int w)] (st) h := (mw_at mj_1_134).trans (z_istore_n (Nat.le_of_ble_eq_true rfl) (me_s1_mk (j := 2) (w := x2) rfl))
theorem mj_1_135 : mc_P 1 135 = some (.aload_n 0, 1, 0, 0, 0) := by decide +kernel
theorem s_1_135 {x1 x2 x3 : Option Value} {w : Value} : mw d 1 Q 135 [some w, x1, x2, x3] (st) h = mv_a w (mw d 1 Q 136 [some w, x1, x2, x3] (w :: st) h) := (mw_at mj_1_135).trans (z_aload_n rfl)
theorem mj_1_136 : mc_P 1 136 = some (.getfield 66, 3, 0, 7, 0) := by decide +kernel
theorem s_1_136 {x0 x1 x2 x3 : Option Value} {o : Nat} : mw d 1 Q 136 [x0, x1, x2, x3] (.ref o :: st) h = (mg h o 0 ∧ mw d 1 Q 139 [x0, x1, x2, x3] (.int (mh_i h o 7) :: st) h) := (mw_at mj_1_136).trans (z_geti (by decide) (by decide) (Or.inl rfl))
theorem mj_1_139 : mc_P 1 139 = some (.iload_n 3, 1, 0, 0, 0) := by decide +kernel
theorem s_1_139 {x0 x1 x2 : Option Value} {w : Value} : mw d 1 Q 139 [x0, x1, x2, some w] (st) h = mv_i w (mw d 1 Q 140 [x0, x1, x2, some w] (w :: st) h) := (mw_at mj_1_139).trans (z_iload_n rfl)
theorem mj_1_140 : mc_P 1 140 = some (.if_icmp .ne 10, 3, 0, 0, 0) := by decide +kernel
theorem s_1_140 {x0 x1 x2 x3 : Option Value} {x w : Int32} : mw d 1 Q 140 [x0, x1, x2, x3] (.int w :: .int x :: st) h = mB (¬ x = w) (mw d 1 Q) 150 143 [x0, x1, x2, x3] st h := (mw_at mj_1_140).trans (z_icmp_ne (by decide) rfl)
theorem mj_1_143 : mc_P 1 143 = some (.aload_n 0, 1, 0, 0, 0) := by decide +kernel
theorem s_1_143 {x1 x2 x3 : Option Value} {w : Value} : mw d 1 Q 143 [some w, x1, x2, x3] (st) h = mv_a w (mw d 1 Q 144 [some w, x1, x2, x3] (w :: st) h) := (mw_at mj_1_143).trans (z_aload_n rfl)
theorem mj_1_144 : mc_P 1 144 = some (.invokevirtual 85, 3, 6, 0, 1) := by decide +kernel
theorem s_1_144 {x0 x1 x2 x3 : Option Value} {o : Nat} : mw (d + 1) 1 Q 144 [x0, x1, x2, x3] (.ref o :: st) h = (mg h o 0 ∧ mca st 8 ∧ mca [.ref o] 4 ∧ mcall d 6 [.ref o] h (mK (d + 1) 1 Q 147 [x0, x1, x2, x3] st)) := (mw_at mj_1_144).trans ((z_invv (As := []) (by decide) rfl rfl).trans (congrArg (And _) (congrArg (And _) (mC_nl nl_6))))
theorem mj_1_147 : mc_P 1 147 = some (.goto 25, 3, 0, 0, 0) := by decide +kernel
theorem s_1_147 {x0 x1 x2 x3 : Option Value} : mw d 1 Q 147 [x0, x1, x2, x3] (st) h = mw d 1 Q 172 [x0, x1, x2, x3] (st) h := (mw_at mj_1_147).trans (z_goto (by decide))
theorem mj_1_150 : mc_P 1 150 = some (.aload_n 0, 1, 0, 0, 0) := by decide +kernel
theorem s_1_150 {x1 x2 x3 : Option Value} {w : Value} : mw d 1 Q 150 [some w, x1, x2, x3] (st) h = mv_a w (mw d 1 Q 151 [some w, x1, x2, x3] (w :: st) h) := (mw_at mj_1_150).trans (z_aload_n rfl)
theorem mj_1_151 : mc_P 1 151 = some (.getfield 22, 3, 0, 6, 0) := by decide +kernel
theorem s_1_151 {x0 x1 x2 x3 : Option Value} {o : Nat} : mw d 1 Q 151 [x0, x1, x2, x3] (.ref o :: st) h = (mg h o 0 ∧ mw d 1 Q 154 [x0, x1, x2, x3] (va_rf (mh_r h o 6) :: st) h) := (mw_at mj_1_151).trans (z_getr (by decide) (by decide) rfl)
theorem mj_1_154 : mc_P 1 154 = some (.getfield 88, 3, 8, 0, 0) := by decide +kernel
theorem s_1_154 {x0 x1 x2 x3 : Option Value} {o : Nat} : mw d 1 Q 154 [x0, x1, x2, x3] (.ref o :: st) h = (mg h o 8 ∧ mw d 1 Q 157 [x0, x1, x2, x3] (.int (mh_i h o 0) :: st) h) := (mw_at mj_1_154).trans (z_geti (by decide) (by decide) (Or.inr rfl))
theorem mj_1_157 : mc_P 1 157 = some (.ifCond .eq 11, 3, 0, 0, 0) := by decide +kernel
theorem s_1_157 {x0 x1 x2 x3 : Option Value} {x : Int32} : mw d 1 Q 157 [x0, x1, x2, x3] (.int x :: st) h = mB (x = 0) (mw d 1 Q) 168 160 [x0, x1, x2, x3] st h := (mw_at mj_1_157).trans (z_if_eq (by decide) rfl)
theorem mj_1_160 : mc_P 1 160 = some (.aload_n 0, 1, 0, 0, 0) := by decide +kernel
theorem s_1_160 {x1 x2 x3 : Option Value} {w : Value} : mw d 1 Q 160 [some w, x1, x2, x3] (st) h = mv_a w (mw d 1 Q 161 [some w, x1, x2, x3] (w :: st) h) := (mw_at mj_1_160).trans (z_aload_n rfl)
theorem mj_1_161 : mc_P 1 161 = some (.iload_n 3, 1, 0, 0, 0) := by decide +kernel
theorem s_1_161 {x0 x1 x2 : Option Value} {w : Value} : mw d 1 Q 161 [x0, x1, x2, some w] (st) h = mv_i w (mw d 1 Q 162 [x0, x1, x2, some w] (w :: st) h) := (mw_at mj_1_161).trans (z_iload_n rfl)
theorem mj_1_162 : mc_P 1 162 = some (.invokevirtual 91, 3, 3, 0, 2) := by decide +kernel
theorem s_1_162 {x0 x1 x2 x3 : Option Value} {o : Nat} {a1 : Value} : mw (d + 1) 1 Q 162 [x0, x1, x2, x3] (a1 :: .ref o :: st) h = (mg h o 0 ∧ mca st 8 ∧ mca [.ref o, a1] 3 ∧ mcall d 3 [.ref o, a1] h (mK (d + 1) 1 Q 165 [x0, x1, x2, x3] st)) := (mw_at mj_1_162).trans ((z_invv (As := [a1]) (by decide) rfl rfl).trans (congrArg (And _) (congrArg (And _) (mC_nl nl_3))))
theorem mj_1_165 : mc_P 1 165 = some (.goto 7, 3, 0, 0, 0) := by decide +kernel
theorem s_1_165 {x0 x1 x2 x3 : Option Value} : mw d 1 Q 165 [x0, x1, x2, x3] (st) h = mw d 1 Q 172 [x0, x1, x2, x3] (st) h := (mw_at mj_1_165).trans (z_goto (by decide))
theorem mj_1_168 : mc_P 1 168 = some (.aload_n 0, 1, 0, 0, 0) := by decide +kernel
theorem s_1_168 {x1 x2 x3 : Option Value} {w : Value} : mw d 1 Q 168 [some w, x1, x2, x3] (st) h = mv_a w (mw d 1 Q 169 [some w, x1, x2, x3] (w :: st) h) := (mw_at mj_1_168).trans (z_aload_n rfl)
theorem mj_1_169 : mc_P 1 169 = some (.invokevirtual 95, 3, 4, 0, 1) := by decide +kernel
theorem s_1_169 {x0 x1 x2 x3 : Option Value} {o : Nat} : mw (d + 1) 1 Q 169 [x0, x1, x2, x3] (.ref o :: st) h = (mg h o 0 ∧ mca st 8 ∧ mca [.ref o] 4 ∧ mcall d 4 [.ref o] h (mK (d + 1) 1 Q 172 [x0, x1, x2, x3] st)) := (mw_at mj_1_169).trans ((z_invv (As := []) (by decide) rfl rfl).trans (congrArg (And _) (congrArg (And _) (mC_nl nl_4))))
theorem mj_1_172 : mc_P 1 172 = some (.iinc 2 1, 3, 0, 0, 0) := by decide +kernel
theorem s_1_172 {x0 x1 x3 : Option Value} {w : Int32} : mw d 1 Q 172 [x0, x1, some (.int w), x3] (st) h = mw d 1 Q 175 [x0, mk2 x1, some (.int (w + 1)), x3] (st) h := (mw_at mj_1_172).trans (z_iinc rfl (Nat.le_of_ble_eq_true rfl) (by decide) (me_s1_mk (j := 1) (w := x1) rfl))
theorem mj_1_175 : mc_P 1 175 = some (.goto (-95), 3, 0, 0, 0) := by decide +kernel
theorem s_1_175 {x0 x1 x2 x3 : Option Value} : mw d 1 Q 175 [x0, x1, x2, x3] (st) h = mw d 1 Q 80 [x0, x1, x2, x3] (st) h := (mw_at mj_1_175).trans (z_goto (by decide))
theorem mj_1_178 : mc_P 1 178 = some (.aload_n 0, 1, 0, 0, 0) := by decide +kernel
theorem s_1_178 {x1 x2 x3 : Option Value} {w : Value} : mw d 1 Q 178 [some w, x1, x2, x3] (st) h = mv_a w (mw d 1 Q 179 [some w, x1, x2, x3] (w :: st) h) := (mw_at mj_1_178).trans (z_aload_n rfl)
theorem mj_1_179 : mc_P 1 179 = some (.getfield 22, 3, 0, 6, 0) := by decide +kernel
theorem s_1_179 {x0 x1 x2 x3 : Option Value} {o : Nat} : mw d 1 Q 179 [x0, x1, x2, x3] (.ref o :: st) h = (mg h o 0 ∧ mw d 1 Q 182 [x0, x1, x2, x3] (va_rf (mh_r h o 6) :: st) h) := (mw_at mj_1_179).trans (z_getr (by decide) (by decide) rfl)
theorem mj_1_182 : mc_P 1 182 = some (.iconst 0, 1, 0, 0, 0) := by decide +kernel
theorem s_1_182 {x0 x1 x2 x3 : Option Value} : mw d 1 Q 182 [x0, x1, x2, x3] (st) h = mw d 1 Q 183 [x0, x1, x2, x3] (.int 0 :: st) h := (mw_at mj_1_182).trans (z_iconst (by decide))
theorem mj_1_183 : mc_P 1 183 = some (.iconst 0, 1, 0, 0, 0) := by decide +kernel
theorem s_1_183 {x0 x1 x2 x3 : Option Value} : mw d 1 Q 183 [x0, x1, x2, x3] (st) h = mw d 1 Q 184 [x0, x1, x2, x3] (.int 0 :: st) h := (mw_at mj_1_183).trans (z_iconst (by decide))
theorem mj_1_184 : mc_P 1 184 = some (.invokevirtual 98, 3, 145, 8, 3) := by decide +kernel
theorem s_1_184 {x0 x1 x2 x3 : Option Value} {o : Nat} {a1 a2 : Value} : mw (d + 1) 1 Q 184 [x0, x1, x2, x3] (a2 :: a1 :: .ref o :: st) h = (mg h o 8 ∧ mca st 8 ∧ mca [.ref o, a1, a2] 3 ∧ mcall d 145 [.ref o, a1, a2] h (mK (d + 1) 1 Q 187 [x0, x1, x2, x3] st)) := (mw_at mj_1_184).trans ((z_invv (As := [a1, a2]) (by decide) rfl rfl).trans (congrArg (And _) (congrArg (And _) (mC_nl nl_145))))
theorem mj_1_187 : mc_P 1 187 = some (.aload_n 0, 1, 0, 0, 0) := by decide +kernel
theorem s_1_187 {x1 x2 x3 : Option Value} {w : Value} : mw d 1 Q 187 [some w, x1, x2, x3] (st) h = mv_a w (mw d 1 Q 188 [some w, x1, x2, x3] (w :: st) h) := (mw_at mj_1_187).trans (z_aload_n rfl)
theorem mj_1_188 : mc_P 1 188 = some (.getfield 11, 3, 0, 0, 0) := by decide +kernel
theorem s_1_188 {x0 x1 x2 x3 : Option Value} {o : Nat} : mw d 1 Q 188 [x0, x1, x2, x3] (.ref o :: st) h = (mg h o 0 ∧ mw d 1 Q 191 [x0, x1, x2, x3] (va_rf (mh_r h o 0) :: st) h) := (mw_at mj_1_188).trans (z_getr (by decide) (by decide) rfl)
theorem mj_1_191 : mc_P 1 191 = some (.iload_n 1, 1, 0, 0, 0) := by decide +kernel
theorem s_1_191 {x0 x2 x3 : Option Value} {w : Value} : mw d 1 Q 191 [x0, some w, x2, x3] (st) h = mv_i w (mw d 1 Q 192 [x0, some w, x2, x3] (w :: st) h) := (mw_at mj_1_191).trans (z_iload_n rfl)
theorem mj_1_192 : mc_P 1 192 = some (.aaload, 1, 0, 0, 0) := by decide +kernel
theorem s_1_192 {x0 x1 x2 x3 : Option Value} {o : Nat} {i : Int32} : mw d 1 Q 192 [x0, x1, x2, x3] (.int i :: .ref o :: st) h = (mgr h o ∧ mx i (mh_l h o) ∧ mw d 1 Q 193 [x0, x1, x2, x3] (mrd (mh_k h o) h o i.toNatClampNeg :: st) h) := (mw_at mj_1_192).trans (z_aald)
theorem mj_1_193 : mc_P 1 193 = some (.aload_n 0, 1, 0, 0, 0) := by decide +kernel
theorem s_1_193 {x1 x2 x3 : Option Value} {w : Value} : mw d 1 Q 193 [some w, x1, x2, x3] (st) h = mv_a w (mw d 1 Q 194 [some w, x1, x2, x3] (w :: st) h) := (mw_at mj_1_193).trans (z_aload_n rfl)
theorem mj_1_194 : mc_P 1 194 = some (.getfield 22, 3, 0, 6, 0) := by decide +kernel
theorem s_1_194 {x0 x1 x2 x3 : Option Value} {o : Nat} : mw d 1 Q 194 [x0, x1, x2, x3] (.ref o :: st) h = (mg h o 0 ∧ mw d 1 Q 197 [x0, x1, x2, x3] (va_rf (mh_r h o 6) :: st) h) := (mw_at mj_1_194).trans (z_getr (by decide) (by decide) rfl)
theorem mj_1_197 : mc_P 1 197 = some (.invokevirtual 102, 3, 144, 8, 2) := by decide +kernel
theorem s_1_197 {x0 x1 x2 x3 : Option Value} {o : Nat} {a1 : Value} : mw (d + 1) 1 Q 197 [x0, x1, x2, x3] (a1 :: .ref o :: st) h = (mg h o 8 ∧ mca st 8 ∧ mca [.ref o, a1] 2 ∧ mcall d 144 [.ref o, a1] h (mK (d + 1) 1 Q 200 [x0, x1, x2, x3] st)) := (mw_at mj_1_197).trans ((z_invv (As := [a1]) (by decide) rfl rfl).trans (congrArg (And _) (congrArg (And _) (mC_nl nl_144))))
theorem mj_1_200 : mc_P 1 200 = some (.aload_n 0, 1, 0, 0, 0) := by decide +kernel
theorem s_1_200 {x1 x2 x3 : Option Value} {w : Value} : mw d 1 Q 200 [some w, x1, x2, x3] (st) h = mv_a w (mw d 1 Q 201 [some w, x1, x2, x3] (w :: st) h) := (mw_at mj_1_200).trans (z_aload_n rfl)
theorem mj_1_201 : mc_P 1 201 = some (.getfield 17, 3, 0, 1, 0) := by decide +kernel
theorem s_1_201 {x0 x1 x2 x3 : Option Value} {o : Nat} : mw d 1 Q 201 [x0, x1, x2, x3] (.ref o :: st) h = (mg h o 0 ∧ mw d 1 Q 204 [x0, x1, x2, x3] (va_rf (mh_r h o 1) :: st) h) := (mw_at mj_1_201).trans (z_getr (by decide) (by decide) rfl)
theorem mj_1_204 : mc_P 1 204 = some (.iload_n 1, 1, 0, 0, 0) := by decide +kernel
theorem s_1_204 {x0 x2 x3 : Option Value} {w : Value} : mw d 1 Q 204 [x0, some w, x2, x3] (st) h = mv_i w (mw d 1 Q 205 [x0, some w, x2, x3] (w :: st) h) := (mw_at mj_1_204).trans (z_iload_n rfl)
theorem mj_1_205 : mc_P 1 205 = some (.iconst 0, 1, 0, 0, 0) := by decide +kernel
theorem s_1_205 {x0 x1 x2 x3 : Option Value} : mw d 1 Q 205 [x0, x1, x2, x3] (st) h = mw d 1 Q 206 [x0, x1, x2, x3] (.int 0 :: st) h := (mw_at mj_1_205).trans (z_iconst (by decide))
theorem mj_1_206 : mc_P 1 206 = some (.iastore, 1, 0, 0, 0) := by decide +kernel
theorem s_1_206 {x0 x1 x2 x3 : Option Value} {o : Nat} {i w : Int32} : mw d 1 Q 206 [x0, x1, x2, x3] (.int w :: .int i :: .ref o :: st) h = (mg h o 100 ∧ mx i (mh_l h o) ∧ mw d 1 Q 207 [x0, x1, x2, x3] (st) (mh_si h o i.toNatClampNeg w)) := (mw_at mj_1_206).trans (z_iast)
theorem mj_1_207 : mc_P 1 207 = some (.aload_n 0, 1, 0, 0, 0) := by decide +kernel
theorem s_1_207 {x1 x2 x3 : Option Value} {w : Value} : mw d 1 Q 207 [some w, x1, x2, x3] (st) h = mv_a w (mw d 1 Q 208 [some w, x1, x2, x3] (w :: st) h) := (mw_at mj_1_207).trans (z_aload_n rfl)
theorem mj_1_208 : mc_P 1 208 = some (.getfield 62, 3, 0, 3, 0) := by decide +kernel
theorem s_1_208 {x0 x1 x2 x3 : Option Value} {o : Nat} : mw d 1 Q 208 [x0, x1, x2, x3] (.ref o :: st) h = (mg h o 0 ∧ mw d 1 Q 211 [x0, x1, x2, x3] (.int (mh_i h o 3) :: st) h) := (mw_at mj_1_208).trans (z_geti (by decide) (by decide) (Or.inr rfl))
theorem mj_1_211 : mc_P 1 211 = some (.ifCond .eq 32, 3, 0, 0, 0) := by decide +kernel
theorem s_1_211 {x0 x1 x2 x3 : Option Value} {x : Int32} : mw d 1 Q 211 [x0, x1, x2, x3] (.int x :: st) h = mB (x = 0) (mw d 1 Q) 243 214 [x0, x1, x2, x3] st h := (mw_at mj_1_211).trans (z_if_eq (by decide) rfl)
theorem mj_1_214 : mc_P 1 214 = some (.aload_n 0, 1, 0, 0, 0) := by decide +kernel
theorem s_1_214 {x1 x2 x3 : Option Value} {w : Value} : mw d 1 Q 214 [some w, x1, x2, x3] (st) h = mv_a w (mw d 1 Q 215 [some w, x1, x2, x3] (w :: st) h) := (mw_at mj_1_214).trans (z_aload_n rfl)
theorem mj_1_215 : mc_P 1 215 = some (.iconst 0, 1, 0, 0, 0) := by decide +kernel
theorem s_1_215 {x0 x1 x2 x3 : Option Value} : mw d 1 Q 215 [x0, x1, x2, x3] (st) h = mw d 1 Q 216 [x0, x1, x2, x3] (.int 0 :: st) h := (mw_at mj_1_215).trans (z_iconst (by decide))
theorem mj_1_216 : mc_P 1 216 = some (.putfield 58, 3, 0, 2, 0) := by decide +kernel
theorem s_1_216 {x0 x1 x2 x3 : Option Value} {o : Nat} {w : Int32} : mw d 1 Q 216 [x0, x1, x2, x3] (.int w :: .ref o :: st) h = (mg h o 0 ∧ mw d 1 Q 219 [x0, x1, x2, x3] (st) (mh_si h o 2 w)) := (mw_at mj_1_216).trans (z_puti (by decide) (by decide) rfl)
theorem mj_1_219 : mc_P 1 219 = some (.aload_n 0, 1, 0, 0, 0) := by decide +kernel
theorem s_1_219 {x1 x2 x3 : Option Value} {w : Value} : mw d 1 Q 219 [some w, x1, x2, x3] (st) h = mv_a w (mw d 1 Q 220 [some w, x1, x2, x3] (w :: st) h) := (mw_at mj_1_219).trans (z_aload_n rfl)
theorem mj_1_220 : mc_P 1 220 = some (.getfield 22, 3, 0, 6, 0) := by decide +kernel
theorem s_1_220 {x0 x1 x2 x3 : Option Value} {o : Nat} : mw d 1 Q 220 [x0, x1, x2, x3] (.ref o :: st) h = (mg h o 0 ∧ mw d 1 Q 223 [x0, x1, x2, x3] (va_rf (mh_r h o 6) :: st) h) := (mw_at mj_1_220).trans (z_getr (by decide) (by decide) rfl)
theorem mj_1_223 : mc_P 1 223 = some (.iconst 1, 1, 0, 0, 0) := by decide +kernel
theorem s_1_223 {x0 x1 x2 x3 : Option Value} : mw d 1 Q 223 [x0, x1, x2, x3] (st) h = mw d 1 Q 224 [x0, x1, x2, x3] (.int 1 :: st) h := (mw_at mj_1_223).trans (z_iconst (by decide))
theorem mj_1_224 : mc_P 1 224 = some (.putfield 88, 3, 8, 0, 0) := by decide +kernel
theorem s_1_224 {x0 x1 x2 x3 : Option Value} {o : Nat} {w : Int32} : mw d 1 Q 224 [x0, x1, x2, x3] (.int w :: .ref o :: st) h = (mg h o 8 ∧ (w = 0 ∨ w = 1) ∧ mw d 1 Q 227 [x0, x1, x2, x3] (st) (mh_si h o 0 w)) := (mw_at mj_1_224).trans (z_putz (by decide) (by decide) rfl)
theorem mj_1_227 : mc_P 1 227 = some (.aload_n 0, 1, 0, 0, 0) := by decide +kernel
theorem s_1_227 {x1 x2 x3 : Option Value} {w : Value} : mw d 1 Q 227 [some w, x1, x2, x3] (st) h = mv_a w (mw d 1 Q 228 [some w, x1, x2, x3] (w :: st) h) := (mw_at mj_1_227).trans (z_aload_n rfl)
theorem mj_1_228 : mc_P 1 228 = some (.iconst 0, 1, 0, 0, 0) := by decide +kernel
theorem s_1_228 {x0 x1 x2 x3 : Option Value} : mw d 1 Q 228 [x0, x1, x2, x3] (st) h = mw d 1 Q 229 [x0, x1, x2, x3] (.int 0 :: st) h := (mw_at mj_1_228).trans (z_iconst (by decide))
theorem mj_1_229 : mc_P 1 229 = some (.putfield 66, 3, 0, 7, 0) := by decide +kernel
theorem s_1_229 {x0 x1 x2 x3 : Option Value} {o : Nat} {w : Int32} : mw d 1 Q 229 [x0, x1, x2, x3] (.int w :: .ref o :: st) h = (mg h o 0 ∧ mw d 1 Q 232 [x0, x1, x2, x3] (st) (mh_si h o 7 w)) := (mw_at mj_1_229).trans (z_puti (by decide) (by decide) rfl)
theorem mj_1_232 : mc_P 1 232 = some (.aload_n 0, 1, 0, 0, 0) := by decide +kernel
theorem s_1_232 {x1 x2 x3 : Option Value} {w : Value} : mw d 1 Q 232 [some w, x1, x2, x3] (st) h = mv_a w (mw d 1 Q 233 [some w, x1, x2, x3] (w :: st) h) := (mw_at mj_1_232).trans (z_aload_n rfl)
theorem mj_1_233 : mc_P 1 233 = some (.aload_n 0, 1, 0, 0, 0) := by decide +kernel
theorem s_1_233 {x1 x2 x3 : Option Value} {w : Value} : mw d 1 Q 233 [some w, x1, x2, x3] (st) h = mv_a w (mw d 1 Q 234 [some w, x1, x2, x3] (w :: st) h) := (mw_at mj_1_233).trans (z_aload_n rfl)
theorem mj_1_234 : mc_P 1 234 = some (.getfield 50, 3, 0, 4, 0) := by decide +kernel
theorem s_1_234 {x0 x1 x2 x3 : Option Value} {o : Nat} : mw d 1 Q 234 [x0, x1, x2, x3] (.ref o :: st) h = (mg h o 0 ∧ mw d 1 Q 237 [x0, x1, x2, x3] (va_rf (mh_r h o 4) :: st) h) := (mw_at mj_1_234).trans (z_getr (by decide) (by decide) rfl)
theorem mj_1_237 : mc_P 1 237 = some (.getfield 75, 3, 4, 2, 0) := by decide +kernel
theorem s_1_237 {x0 x1 x2 x3 : Option Value} {o : Nat} : mw d 1 Q 237 [x0, x1, x2, x3] (.ref o :: st) h = (mg h o 4 ∧ mw d 1 Q 240 [x0, x1, x2, x3] (.int (mh_i h o 2) :: st) h) := (mw_at mj_1_237).trans (z_geti (by decide) (by decide) (Or.inl rfl))
theorem mj_1_240 : mc_P 1 240 = some (.invokevirtual 91, 3, 3, 0, 2) := by decide +kernel
theorem s_1_240 {x0 x1 x2 x3 : Option Value} {o : Nat} {a1 : Value} : mw (d + 1) 1 Q 240 [x0, x1, x2, x3] (a1 :: .ref o :: st) h = (mg h o 0 ∧ mca st 8 ∧ mca [.ref o, a1] 3 ∧ mcall d 3 [.ref o, a1] h (mK (d + 1) 1 Q 243 [x0, x1, x2, x3] st)) := (mw_at mj_1_240).trans ((z_invv (As := [a1]) (by decide) rfl rfl).trans (congrArg (And _) (congrArg (And _) (mC_nl nl_3))))
theorem mj_1_243 : mc_P 1 243 = some (.return_, 1, 0, 0, 0) := by decide +kernel
theorem s_1_243 {x0 x1 x2 x3 : Option Value} : mw d 1 Q 243 [x0, x1, x2, x3] ([]) h = Q none h := (mw_at mj_1_243).trans (z_vret)
theorem e_1 {a0 : Nat} : mcall d 1 [.ref a0] h Q = mw d 1 Q 0 [some (.ref a0), none, none, none] [] h := by
  show mw d 1 Q 0 (me_en (mc_nl 1) _) [] h = _
  rw [nl_1]; rfl

/-! InvariantDesk$Machine.take(I)I -/
theorem mj_26_0 : mc_P 26 0 = some (.aload_n 0, 1, 0, 0, 0) := by decide +kernel
theorem s_26_0 {x1 : Option Value} {w : Value} : mw d 26 Q 0 [some w, x1] (st) h = mv_a w (mw d 26 Q 1 [some w, x1] (w :: st) h) := (mw_at mj_26_0).trans (z_aload_n rfl)
theorem mj_26_1 : mc_P 26 1 = some (.getfield 31, 3, 2, 2, 0) := by decide +kernel
theorem s_26_1 {x0 x1 : Option Value} {o : Nat} : mw d 26 Q 1 [x0, x1] (.ref o :: st) h = (mg h o 2 ∧ mw d 26 Q 4 [x0, x1] (.int (mh_i h o 2) :: st) h) := (mw_at mj_26_1).trans (z_geti (by decide) (by decide) (Or.inl rfl))
theorem mj_26_4 : mc_P 26 4 = some (.sipush 1000, 3, 0, 0, 0) := by decide +kernel
theorem s_26_4 {x0 x1 : Option Value} : mw d 26 Q 4 [x0, x1] (st) h = mw d 26 Q 7 [x0, x1] (.int 1000 :: st) h := (mw_at mj_26_4).trans (z_sipush (by decide))
theorem mj_26_7 : mc_P 26 7 = some (.if_icmp .ne 5, 3, 0, 0, 0) := by decide +kernel
theorem s_26_7 {x0 x1 : Option Value} {x w : Int32} : mw d 26 Q 7 [x0, x1] (.int w :: .int x :: st) h = mB (¬ x = w) (mw d 26 Q) 12 10 [x0, x1] st h := (mw_at mj_26_7).trans (z_icmp_ne (by decide) rfl)
theorem mj_26_10 : mc_P 26 10 = some (.iconst (-1), 1, 0, 0, 0) := by decide +kernel
theorem s_26_10 {x0 x1 : Option Value} : mw d 26 Q 10 [x0, x1] (st) h = mw d 26 Q 11 [x0, x1] (.int (-1) :: st) h := (mw_at mj_26_10).trans (z_iconst (by decide))
theorem mj_26_11 : mc_P 26 11 = some (.ireturn, 1, 0, 0, 0) := by decide +kernel
theorem s_26_11 {x0 x1 : Option Value} {x : Int32} : mw d 26 Q 11 [x0, x1] ([.int x]) h = (Q (some (.int x)) h) := (mw_at mj_26_11).trans (z_iret)
theorem mj_26_12 : mc_P 26 12 = some (.aload_n 0, 1, 0, 0, 0) := by decide +kernel
theorem s_26_12 {x1 : Option Value} {w : Value} : mw d 26 Q 12 [some w, x1] (st) h = mv_a w (mw d 26 Q 13 [some w, x1] (w :: st) h) := (mw_at mj_26_12).trans (z_aload_n rfl)
theorem mj_26_13 : mc_P 26 13 = some (.getfield 9, 3, 2, 1, 0) := by decide +kernel
theorem s_26_13 {x0 x1 : Option Value} {o : Nat} : mw d 26 Q 13 [x0, x1] (.ref o :: st) h = (mg h o 2 ∧ mw d 26 Q 16 [x0, x1] (va_rf (mh_r h o 1) :: st) h) := (mw_at mj_26_13).trans (z_getr (by decide) (by decide) rfl)
theorem mj_26_16 : mc_P 26 16 = some (.aload_n 0, 1, 0, 0, 0) := by decide +kernel
theorem s_26_16 {x1 : Option Value} {w : Value} : mw d 26 Q 16 [some w, x1] (st) h = mv_a w (mw d 26 Q 17 [some w, x1] (w :: st) h) := (mw_at mj_26_16).trans (z_aload_n rfl)
theorem mj_26_17 : mc_P 26 17 = some (.getfield 31, 3, 2, 2, 0) := by decide +kernel
theorem s_26_17 {x0 x1 : Option Value} {o : Nat} : mw d 26 Q 17 [x0, x1] (.ref o :: st) h = (mg h o 2 ∧ mw d 26 Q 20 [x0, x1] (.int (mh_i h o 2) :: st) h) := (mw_at mj_26_17).trans (z_geti (by decide) (by decide) (Or.inl rfl))
theorem mj_26_20 : mc_P 26 20 = some (.iload_n 1, 1, 0, 0, 0) := by decide +kernel
theorem s_26_20 {x0 : Option Value} {w : Value} : mw d 26 Q 20 [x0, some w] (st) h = mv_i w (mw d 26 Q 21 [x0, some w] (w :: st) h) := (mw_at mj_26_20).trans (z_iload_n rfl)
theorem mj_26_21 : mc_P 26 21 = some (.iastore, 1, 0, 0, 0) := by decide +kernel
theorem s_26_21 {x0 x1 : Option Value} {o : Nat} {i w : Int32} : mw d 26 Q 21 [x0, x1] (.int w :: .int i :: .ref o :: st) h = (mg h o 100 ∧ mx i (mh_l h o) ∧ mw d 26 Q 22 [x0, x1] (st) (mh_si h o i.toNatClampNeg w)) := (mw_at mj_26_21).trans (z_iast)
theorem mj_26_22 : mc_P 26 22 = some (.aload_n 0, 1, 0, 0, 0) := by decide +kernel
theorem s_26_22 {x1 : Option Value} {w : Value} : mw d 26 Q 22 [some w, x1] (st) h = mv_a w (mw d 26 Q 23 [some w, x1] (w :: st) h) := (mw_at mj_26_22).trans (z_aload_n rfl)
theorem mj_26_23 : mc_P 26 23 = some (.dup, 1, 0, 0, 0) := by decide +kernel
theorem s_26_23 {x0 x1 : Option Value} {w : Value} : mw d 26 Q 23 [x0, x1] (w :: st) h = (w.category = 1 ∧ mw d 26 Q 24 [x0, x1] (w :: w :: st) h) := (mw_at mj_26_23).trans (z_dup)
theorem mj_26_24 : mc_P 26 24 = some (.getfield 31, 3, 2, 2, 0) := by decide +kernel
theorem s_26_24 {x0 x1 : Option Value} {o : Nat} : mw d 26 Q 24 [x0, x1] (.ref o :: st) h = (mg h o 2 ∧ mw d 26 Q 27 [x0, x1] (.int (mh_i h o 2) :: st) h) := (mw_at mj_26_24).trans (z_geti (by decide) (by decide) (Or.inl rfl))
theorem mj_26_27 : mc_P 26 27 = some (.iconst 1, 1, 0, 0, 0) := by decide +kernel
theorem s_26_27 {x0 x1 : Option Value} : mw d 26 Q 27 [x0, x1] (st) h = mw d 26 Q 28 [x0, x1] (.int 1 :: st) h := (mw_at mj_26_27).trans (z_iconst (by decide))
theorem mj_26_28 : mc_P 26 28 = some (.iadd, 1, 0, 0, 0) := by decide +kernel
theorem s_26_28 {x0 x1 : Option Value} {x w : Int32} : mw d 26 Q 28 [x0, x1] (.int w :: .int x :: st) h = mw d 26 Q 29 [x0, x1] (.int (x + w) :: st) h := (mw_at mj_26_28).trans (z_iadd)
theorem mj_26_29 : mc_P 26 29 = some (.putfield 31, 3, 2, 2, 0) := by decide +kernel
theorem s_26_29 {x0 x1 : Option Value} {o : Nat} {w : Int32} : mw d 26 Q 29 [x0, x1] (.int w :: .ref o :: st) h = (mg h o 2 ∧ mw d 26 Q 32 [x0, x1] (st) (mh_si h o 2 w)) := (mw_at mj_26_29).trans (z_puti (by decide) (by decide) rfl)
theorem mj_26_32 : mc_P 26 32 = some (.aload_n 0, 1, 0, 0, 0) := by decide +kernel
theorem s_26_32 {x1 : Option Value} {w : Value} : mw d 26 Q 32 [some w, x1] (st) h = mv_a w (mw d 26 Q 33 [some w, x1] (w :: st) h) := (mw_at mj_26_32).trans (z_aload_n rfl)
theorem mj_26_33 : mc_P 26 33 = some (.getfield 31, 3, 2, 2, 0) := by decide +kernel
theorem s_26_33 {x0 x1 : Option Value} {o : Nat} : mw d 26 Q 33 [x0, x1] (.ref o :: st) h = (mg h o 2 ∧ mw d 26 Q 36 [x0, x1] (.int (mh_i h o 2) :: st) h) := (mw_at mj_26_33).trans (z_geti (by decide) (by decide) (Or.inl rfl))
theorem mj_26_36 : mc_P 26 36 = some (.ireturn, 1, 0, 0, 0) := by decide +kernel
theorem s_26_36 {x0 x1 : Option Value} {x : Int32} : mw d 26 Q 36 [x0, x1] ([.int x]) h = (Q (some (.int x)) h) := (mw_at mj_26_36).trans (z_iret)
theorem e_26 {a0 : Nat} {a1 : Int32} : mcall d 26 [.ref a0, .int a1] h Q = mw d 26 Q 0 [some (.ref a0), some (.int a1)] [] h := by
  show mw d 26 Q 0 (me_en (mc_nl 26) _) [] h = _
  rw [nl_26]; rfl

/-! InvariantDesk$Machine.forget()V -/
theorem mj_27_0 : mc_P 27 0 = some (.aload_n 0, 1, 0, 0, 0) := by decide +kernel
theorem s_27_0 {w : Value} : mw d 27 Q 0 [some w] (st) h = mv_a w (mw d 27 Q 1 [some w] (w :: st) h) := (mw_at mj_27_0).trans (z_aload_n rfl)
theorem mj_27_1 : mc_P 27 1 = some (.iconst 0, 1, 0, 0, 0) := by decide +kernel
theorem s_27_1 {x0 : Option Value} : mw d 27 Q 1 [x0] (st) h = mw d 27 Q 2 [x0] (.int 0 :: st) h := (mw_at mj_27_1).trans (z_iconst (by decide))
theorem mj_27_2 : mc_P 27 2 = some (.putfield 35, 3, 2, 4, 0) := by decide +kernel
theorem s_27_2 {x0 : Option Value} {o : Nat} {w : Int32} : mw d 27 Q 2 [x0] (.int w :: .ref o :: st) h = (mg h o 2 ∧ mw d 27 Q 5 [x0] (st) (mh_si h o 4 w)) := (mw_at mj_27_2).trans (z_puti (by decide) (by decide) rfl)
theorem mj_27_5 : mc_P 27 5 = some (.aload_n 0, 1, 0, 0, 0) := by decide +kernel
theorem s_27_5 {w : Value} : mw d 27 Q 5 [some w] (st) h = mv_a w (mw d 27 Q 6 [some w] (w :: st) h) := (mw_at mj_27_5).trans (z_aload_n rfl)
theorem mj_27_6 : mc_P 27 6 = some (.iconst 0, 1, 0, 0, 0) := by decide +kernel
theorem s_27_6 {x0 : Option Value} : mw d 27 Q 6 [x0] (st) h = mw d 27 Q 7 [x0] (.int 0 :: st) h := (mw_at mj_27_6).trans (z_iconst (by decide))
theorem mj_27_7 : mc_P 27 7 = some (.putfield 38, 3, 2, 5, 0) := by decide +kernel
theorem s_27_7 {x0 : Option Value} {o : Nat} {w : Int32} : mw d 27 Q 7 [x0] (.int w :: .ref o :: st) h = (mg h o 2 ∧ mw d 27 Q 10 [x0] (st) (mh_si h o 5 w)) := (mw_at mj_27_7).trans (z_puti (by decide) (by decide) rfl)
theorem mj_27_10 : mc_P 27 10 = some (.aload_n 0, 1, 0, 0, 0) := by decide +kernel
theorem s_27_10 {w : Value} : mw d 27 Q 10 [some w] (st) h = mv_a w (mw d 27 Q 11 [some w] (w :: st) h) := (mw_at mj_27_10).trans (z_aload_n rfl)
theorem mj_27_11 : mc_P 27 11 = some (.iconst 0, 1, 0, 0, 0) := by decide +kernel
theorem s_27_11 {x0 : Option Value} : mw d 27 Q 11 [x0] (st) h = mw d 27 Q 12 [x0] (.int 0 :: st) h := (mw_at mj_27_11).trans (z_iconst (by decide))
theorem mj_27_12 : mc_P 27 12 = some (.putfield 41, 3, 2, 3, 0) := by decide +kernel
theorem s_27_12 {x0 : Option Value} {o : Nat} {w : Int32} : mw d 27 Q 12 [x0] (.int w :: .ref o :: st) h = (mg h o 2 ∧ mw d 27 Q 15 [x0] (st) (mh_si h o 3 w)) := (mw_at mj_27_12).trans (z_puti (by decide) (by decide) rfl)
theorem mj_27_15 : mc_P 27 15 = some (.return_, 1, 0, 0, 0) := by decide +kernel
theorem s_27_15 {x0 : Option Value} : mw d 27 Q 15 [x0] ([]) h = Q none h := (mw_at mj_27_15).trans (z_vret)
theorem e_27 {a0 : Nat} : mcall d 27 [.ref a0] h Q = mw d 27 Q 0 [some (.ref a0)] [] h := by
  show mw d 27 Q 0 (me_en (mc_nl 27) _) [] h = _
  rw [nl_27]; rfl

/-! InvariantDesk$Machine.go(ILInvariantDesk$Analysis;[LInvariantDesk$State;)I -/
theorem mj_28_0 : mc_P 28 0 = some (.aload_n 0, 1, 0, 0, 0) := by decide +kernel
theorem s_28_0 {x1 x2 x3 x4 x5 : Option Value} {w : Value} : mw d 28 Q 0 [some w, x1, x2, x3, x4, x5] (st) h = mv_a w (mw d 28 Q 1 [some w, x1, x2, x3, x4, x5] (w :: st) h) := (mw_at mj_28_0).trans (z_aload_n rfl)
theorem mj_28_1 : mc_P 28 1 = some (.invokevirtual 44, 3, 27, 2, 1) := by decide +kernel
theorem s_28_1 {x0 x1 x2 x3 x4 x5 : Option Value} {o : Nat} : mw (d + 1) 28 Q 1 [x0, x1, x2, x3, x4, x5] (.ref o :: st) h = (mg h o 2 ∧ mca st 8 ∧ mca [.ref o] 1 ∧ mcall d 27 [.ref o] h (mK (d + 1) 28 Q 4 [x0, x1, x2, x3, x4, x5] st)) := (mw_at mj_28_1).trans ((z_invv (As := []) (by decide) rfl rfl).trans (congrArg (And _) (congrArg (And _) (mC_nl nl_27))))
theorem mj_28_4 : mc_P 28 4 = some (.aload_n 0, 1, 0, 0, 0) := by decide +kernel
theorem s_28_4 {x1 x2 x3 x4 x5 : Option Value} {w : Value} : mw d 28 Q 4 [some w, x1, x2, x3, x4, x5] (st) h = mv_a w (mw d 28 Q 5 [some w, x1, x2, x3, x4, x5] (w :: st) h) := (mw_at mj_28_4).trans (z_aload_n rfl)
theorem mj_28_5 : mc_P 28 5 = some (.iconst 0, 1, 0, 0, 0) := by decide +kernel
theorem s_28_5 {x0 x1 x2 x3 x4 x5 : Option Value} : mw d 28 Q 5 [x0, x1, x2, x3, x4, x5] (st) h = mw d 28 Q 6 [x0, x1, x2, x3, x4, x5] (.int 0 :: st) h := (mw_at mj_28_5).trans (z_iconst (by decide))
theorem mj_28_6 : mc_P 28 6 = some (.putfield 47, 3, 2, 10, 0) := by decide +kernel
theorem s_28_6 {x0 x1 x2 x3 x4 x5 : Option Value} {o : Nat} {w : Int32} : mw d 28 Q 6 [x0, x1, x2, x3, x4, x5] (.int w :: .ref o :: st) h = (mg h o 2 ∧ mw d 28 Q 9 [x0, x1, x2, x3, x4, x5] (st) (mh_si h o 10 w)) := (mw_at mj_28_6).trans (z_puti (by decide) (by decide) rfl)
theorem mj_28_9 : mc_P 28 9 = some (.aload_n 0, 1, 0, 0, 0) := by decide +kernel
theorem s_28_9 {x1 x2 x3 x4 x5 : Option Value} {w : Value} : mw d 28 Q 9 [some w, x1, x2, x3, x4, x5] (st) h = mv_a w (mw d 28 Q 10 [some w, x1, x2, x3, x4, x5] (w :: st) h) := (mw_at mj_28_9).trans (z_aload_n rfl)
theorem mj_28_10 : mc_P 28 10 = some (.getfield 27, 3, 2, 0, 0) := by decide +kernel
theorem s_28_10 {x0 x1 x2 x3 x4 x5 : Option Value} {o : Nat} : mw d 28 Q 10 [x0, x1, x2, x3, x4, x5] (.ref o :: st) h = (mg h o 2 ∧ mw d 28 Q 13 [x0, x1, x2, x3, x4, x5] (va_rf (mh_r h o 0) :: st) h) := (mw_at mj_28_10).trans (z_getr (by decide) (by decide) rfl)
theorem mj_28_13 : mc_P 28 13 = some (.getfield 50, 3, 4, 2, 0) := by decide +kernel
theorem s_28_13 {x0 x1 x2 x3 x4 x5 : Option Value} {o : Nat} : mw d 28 Q 13 [x0, x1, x2, x3, x4, x5] (.ref o :: st) h = (mg h o 4 ∧ mw d 28 Q 16 [x0, x1, x2, x3, x4, x5] (.int (mh_i h o 2) :: st) h) := (mw_at mj_28_13).trans (z_geti (by decide) (by decide) (Or.inl rfl))
theorem mj_28_16 : mc_P 28 16 = some (.iconst 1, 1, 0, 0, 0) := by decide +kernel
theorem s_28_16 {x0 x1 x2 x3 x4 x5 : Option Value} : mw d 28 Q 16 [x0, x1, x2, x3, x4, x5] (st) h = mw d 28 Q 17 [x0, x1, x2, x3, x4, x5] (.int 1 :: st) h := (mw_at mj_28_16).trans (z_iconst (by decide))
theorem mj_28_17 : mc_P 28 17 = some (.isub, 1, 0, 0, 0) := by decide +kernel
theorem s_28_17 {x0 x1 x2 x3 x4 x5 : Option Value} {x w : Int32} : mw d 28 Q 17 [x0, x1, x2, x3, x4, x5] (.int w :: .int x :: st) h = mw d 28 Q 18 [x0, x1, x2, x3, x4, x5] (.int (x - w) :: st) h := (mw_at mj_28_17).trans (z_isub)
theorem mj_28_18 : mc_P 28 18 = some (.istore 4, 2, 0, 0, 0) := by decide +kernel
theorem s_28_18 {x0 x1 x2 x3 x4 x5 : Option Value} {w : Int32} : mw d 28 Q 18 [x0, x1, x2, x3, x4, x5] (.int w :: st) h = mw d 28 Q 20 [x0, x1, x2, mk2 x3, some (.int w), x5] (st) h := (mw_at mj_28_18).trans (z_istore (Nat.le_of_ble_eq_true rfl) (me_s1_mk (j := 3) (w := x3) rfl))
theorem mj_28_20 : mc_P 28 20 = some (.aload_n 0, 1, 0, 0, 0) := by decide +kernel
theorem s_28_20 {x1 x2 x3 x4 x5 : Option Value} {w : Value} : mw d 28 Q 20 [some w, x1, x2, x3, x4, x5] (st) h = mv_a w (mw d 28 Q 21 [some w, x1, x2, x3, x4, x5] (w :: st) h) := (mw_at mj_28_20).trans (z_aload_n rfl)
theorem mj_28_21 : mc_P 28 21 = some (.aload_n 2, 1, 0, 0, 0) := by decide +kernel
theorem s_28_21 {x0 x1 x3 x4 x5 : Option Value} {w : Value} : mw d 28 Q 21 [x0, x1, some w, x3, x4, x5] (st) h = mv_a w (mw d 28 Q 22 [x0, x1, some w, x3, x4, x5] (w :: st) h) := (mw_at mj_28_21).trans (z_aload_n rfl)
theorem mj_28_22 : mc_P 28 22 = some (.aload_n 3, 1, 0, 0, 0) := by decide +kernel
theorem s_28_22 {x0 x1 x2 x4 x5 : Option Value} {w : Value} : mw d 28 Q 22 [x0, x1, x2, some w, x4, x5] (st) h = mv_a w (mw d 28 Q 23 [x0, x1, x2, some w, x4, x5] (w :: st) h) := (mw_at mj_28_22).trans (z_aload_n rfl)
theorem mj_28_23 : mc_P 28 23 = some (.invokevirtual 55, 3, 29, 2, 3) := by decide +kernel
theorem s_28_23 {x0 x1 x2 x3 x4 x5 : Option Value} {o : Nat} {a1 a2 : Value} : mw (d + 1) 28 Q 23 [x0, x1, x2, x3, x4, x5] (a2 :: a1 :: .ref o :: st) h = (mg h o 2 ∧ mca st 8 ∧ mca [.ref o, a1, a2] 4 ∧ mcall d 29 [.ref o, a1, a2] h (mK (d + 1) 28 Q 26 [x0, x1, x2, x3, x4, x5] st)) := (mw_at mj_28_23).trans ((z_invv (As := [a1, a2]) (by decide) rfl rfl).trans (congrArg (And _) (congrArg (And _) (mC_nl nl_29))))
theorem mj_28_26 : mc_P 28 26 = some (.iconst 0, 1, 0, 0, 0) := by decide +kernel
theorem s_28_26 {x0 x1 x2 x3 x4 x5 : Option Value} : mw d 28 Q 26 [x0, x1, x2, x3, x4, x5] (st) h = mw d 28 Q 27 [x0, x1, x2, x3, x4, x5] (.int 0 :: st) h := (mw_at mj_28_26).trans (z_iconst (by decide))
theorem mj_28_27 : mc_P 28 27 = some (.istore 5, 2, 0, 0, 0) := by decide +kernel
theorem s_28_27 {x0 x1 x2 x3 x4 x5 : Option Value} {w : Int32} : mw d 28 Q 27 [x0, x1, x2, x3, x4, x5] (.int w :: st) h = mw d 28 Q 29 [x0, x1, x2, x3, mk2 x4, some (.int w)] (st) h := (mw_at mj_28_27).trans (z_istore (Nat.le_of_ble_eq_true rfl) (me_s1_mk (j := 4) (w := x4) rfl))
theorem mj_28_29 : mc_P 28 29 = some (.iload 5, 2, 0, 0, 0) := by decide +kernel
theorem s_28_29 {x0 x1 x2 x3 x4 : Option Value} {w : Value} : mw d 28 Q 29 [x0, x1, x2, x3, x4, some w] (st) h = mv_i w (mw d 28 Q 31 [x0, x1, x2, x3, x4, some w] (w :: st) h) := (mw_at mj_28_29).trans (z_iload rfl)
theorem mj_28_31 : mc_P 28 31 = some (.iload_n 1, 1, 0, 0, 0) := by decide +kernel
theorem s_28_31 {x0 x2 x3 x4 x5 : Option Value} {w : Value} : mw d 28 Q 31 [x0, some w, x2, x3, x4, x5] (st) h = mv_i w (mw d 28 Q 32 [x0, some w, x2, x3, x4, x5] (w :: st) h) := (mw_at mj_28_31).trans (z_iload_n rfl)
theorem mj_28_32 : mc_P 28 32 = some (.if_icmp .ge 101, 3, 0, 0, 0) := by decide +kernel
theorem s_28_32 {x0 x1 x2 x3 x4 x5 : Option Value} {x w : Int32} : mw d 28 Q 32 [x0, x1, x2, x3, x4, x5] (.int w :: .int x :: st) h = mB (w ≤ x) (mw d 28 Q) 133 35 [x0, x1, x2, x3, x4, x5] st h := (mw_at mj_28_32).trans (z_icmp_ge (by decide) rfl)
theorem mj_28_35 : mc_P 28 35 = some (.aload_n 0, 1, 0, 0, 0) := by decide +kernel
theorem s_28_35 {x1 x2 x3 x4 x5 : Option Value} {w : Value} : mw d 28 Q 35 [some w, x1, x2, x3, x4, x5] (st) h = mv_a w (mw d 28 Q 36 [some w, x1, x2, x3, x4, x5] (w :: st) h) := (mw_at mj_28_35).trans (z_aload_n rfl)
theorem mj_28_36 : mc_P 28 36 = some (.getfield 35, 3, 2, 4, 0) := by decide +kernel
theorem s_28_36 {x0 x1 x2 x3 x4 x5 : Option Value} {o : Nat} : mw d 28 Q 36 [x0, x1, x2, x3, x4, x5] (.ref o :: st) h = (mg h o 2 ∧ mw d 28 Q 39 [x0, x1, x2, x3, x4, x5] (.int (mh_i h o 4) :: st) h) := (mw_at mj_28_36).trans (z_geti (by decide) (by decide) (Or.inl rfl))
theorem mj_28_39 : mc_P 28 39 = some (.iload 4, 2, 0, 0, 0) := by decide +kernel
theorem s_28_39 {x0 x1 x2 x3 x5 : Option Value} {w : Value} : mw d 28 Q 39 [x0, x1, x2, x3, some w, x5] (st) h = mv_i w (mw d 28 Q 41 [x0, x1, x2, x3, some w, x5] (w :: st) h) := (mw_at mj_28_39).trans (z_iload rfl)
theorem mj_28_41 : mc_P 28 41 = some (.if_icmp .eq 92, 3, 0, 0, 0) := by decide +kernel
theorem s_28_41 {x0 x1 x2 x3 x4 x5 : Option Value} {x w : Int32} : mw d 28 Q 41 [x0, x1, x2, x3, x4, x5] (.int w :: .int x :: st) h = mB (x = w) (mw d 28 Q) 133 44 [x0, x1, x2, x3, x4, x5] st h := (mw_at mj_28_41).trans (z_icmp_eq (by decide) rfl)
theorem mj_28_44 : mc_P 28 44 = some (.aload_n 0, 1, 0, 0, 0) := by decide +kernel
theorem s_28_44 {x1 x2 x3 x4 x5 : Option Value} {w : Value} : mw d 28 Q 44 [some w, x1, x2, x3, x4, x5] (st) h = mv_a w (mw d 28 Q 45 [some w, x1, x2, x3, x4, x5] (w :: st) h) := (mw_at mj_28_44).trans (z_aload_n rfl)
theorem mj_28_45 : mc_P 28 45 = some (.getfield 47, 3, 2, 10, 0) := by decide +kernel
theorem s_28_45 {x0 x1 x2 x3 x4 x5 : Option Value} {o : Nat} : mw d 28 Q 45 [x0, x1, x2, x3, x4, x5] (.ref o :: st) h = (mg h o 2 ∧ mw d 28 Q 48 [x0, x1, x2, x3, x4, x5] (.int (mh_i h o 10) :: st) h) := (mw_at mj_28_45).trans (z_geti (by decide) (by decide) (Or.inl rfl))
theorem mj_28_48 : mc_P 28 48 = some (.ifCond .ne 85, 3, 0, 0, 0) := by decide +kernel
theorem s_28_48 {x0 x1 x2 x3 x4 x5 : Option Value} {x : Int32} : mw d 28 Q 48 [x0, x1, x2, x3, x4, x5] (.int x :: st) h = mB (¬ x = 0) (mw d 28 Q) 133 51 [x0, x1, x2, x3, x4, x5] st h := (mw_at mj_28_48).trans (z_if_ne (by decide) rfl)
theorem mj_28_51 : mc_P 28 51 = some (.aload_n 0, 1, 0, 0, 0) := by decide +kernel
theorem s_28_51 {x1 x2 x3 x4 x5 : Option Value} {w : Value} : mw d 28 Q 51 [some w, x1, x2, x3, x4, x5] (st) h = mv_a w (mw d 28 Q 52 [some w, x1, x2, x3, x4, x5] (w :: st) h) := (mw_at mj_28_51).trans (z_aload_n rfl)
theorem mj_28_52 : mc_P 28 52 = some (.dup, 1, 0, 0, 0) := by decide +kernel
theorem s_28_52 {x0 x1 x2 x3 x4 x5 : Option Value} {w : Value} : mw d 28 Q 52 [x0, x1, x2, x3, x4, x5] (w :: st) h = (w.category = 1 ∧ mw d 28 Q 53 [x0, x1, x2, x3, x4, x5] (w :: w :: st) h) := (mw_at mj_28_52).trans (z_dup)
theorem mj_28_53 : mc_P 28 53 = some (.getfield 38, 3, 2, 5, 0) := by decide +kernel
theorem s_28_53 {x0 x1 x2 x3 x4 x5 : Option Value} {o : Nat} : mw d 28 Q 53 [x0, x1, x2, x3, x4, x5] (.ref o :: st) h = (mg h o 2 ∧ mw d 28 Q 56 [x0, x1, x2, x3, x4, x5] (.int (mh_i h o 5) :: st) h) := (mw_at mj_28_53).trans (z_geti (by decide) (by decide) (Or.inl rfl))
theorem mj_28_56 : mc_P 28 56 = some (.iconst 1, 1, 0, 0, 0) := by decide +kernel
theorem s_28_56 {x0 x1 x2 x3 x4 x5 : Option Value} : mw d 28 Q 56 [x0, x1, x2, x3, x4, x5] (st) h = mw d 28 Q 57 [x0, x1, x2, x3, x4, x5] (.int 1 :: st) h := (mw_at mj_28_56).trans (z_iconst (by decide))
theorem mj_28_57 : mc_P 28 57 = some (.iadd, 1, 0, 0, 0) := by decide +kernel
theorem s_28_57 {x0 x1 x2 x3 x4 x5 : Option Value} {x w : Int32} : mw d 28 Q 57 [x0, x1, x2, x3, x4, x5] (.int w :: .int x :: st) h = mw d 28 Q 58 [x0, x1, x2, x3, x4, x5] (.int (x + w) :: st) h := (mw_at mj_28_57).trans (z_iadd)
theorem mj_28_58 : mc_P 28 58 = some (.putfield 38, 3, 2, 5, 0) := by decide +kernel
theorem s_28_58 {x0 x1 x2 x3 x4 x5 : Option Value} {o : Nat} {w : Int32} : mw d 28 Q 58 [x0, x1, x2, x3, x4, x5] (.int w :: .ref o :: st) h = (mg h o 2 ∧ mw d 28 Q 61 [x0, x1, x2, x3, x4, x5] (st) (mh_si h o 5 w)) := (mw_at mj_28_58).trans (z_puti (by decide) (by decide) rfl)
theorem mj_28_61 : mc_P 28 61 = some (.aload_n 0, 1, 0, 0, 0) := by decide +kernel
theorem s_28_61 {x1 x2 x3 x4 x5 : Option Value} {w : Value} : mw d 28 Q 61 [some w, x1, x2, x3, x4, x5] (st) h = mv_a w (mw d 28 Q 62 [some w, x1, x2, x3, x4, x5] (w :: st) h) := (mw_at mj_28_61).trans (z_aload_n rfl)
theorem mj_28_62 : mc_P 28 62 = some (.aload_n 0, 1, 0, 0, 0) := by decide +kernel
theorem s_28_62 {x1 x2 x3 x4 x5 : Option Value} {w : Value} : mw d 28 Q 62 [some w, x1, x2, x3, x4, x5] (st) h = mv_a w (mw d 28 Q 63 [some w, x1, x2, x3, x4, x5] (w :: st) h) := (mw_at mj_28_62).trans (z_aload_n rfl)
theorem mj_28_63 : mc_P 28 63 = some (.getfield 27, 3, 2, 0, 0) := by decide +kernel
theorem s_28_63 {x0 x1 x2 x3 x4 x5 : Option Value} {o : Nat} : mw d 28 Q 63 [x0, x1, x2, x3, x4, x5] (.ref o :: st) h = (mg h o 2 ∧ mw d 28 Q 66 [x0, x1, x2, x3, x4, x5] (va_rf (mh_r h o 0) :: st) h) := (mw_at mj_28_63).trans (z_getr (by decide) (by decide) rfl)
theorem mj_28_66 : mc_P 28 66 = some (.getfield 59, 3, 4, 3, 0) := by decide +kernel
theorem s_28_66 {x0 x1 x2 x3 x4 x5 : Option Value} {o : Nat} : mw d 28 Q 66 [x0, x1, x2, x3, x4, x5] (.ref o :: st) h = (mg h o 4 ∧ mw d 28 Q 69 [x0, x1, x2, x3, x4, x5] (va_rf (mh_r h o 3) :: st) h) := (mw_at mj_28_66).trans (z_getr (by decide) (by decide) rfl)
theorem mj_28_69 : mc_P 28 69 = some (.aload_n 0, 1, 0, 0, 0) := by decide +kernel
theorem s_28_69 {x1 x2 x3 x4 x5 : Option Value} {w : Value} : mw d 28 Q 69 [some w, x1, x2, x3, x4, x5] (st) h = mv_a w (mw d 28 Q 70 [some w, x1, x2, x3, x4, x5] (w :: st) h) := (mw_at mj_28_69).trans (z_aload_n rfl)
theorem mj_28_70 : mc_P 28 70 = some (.getfield 35, 3, 2, 4, 0) := by decide +kernel
theorem s_28_70 {x0 x1 x2 x3 x4 x5 : Option Value} {o : Nat} : mw d 28 Q 70 [x0, x1, x2, x3, x4, x5] (.ref o :: st) h = (mg h o 2 ∧ mw d 28 Q 73 [x0, x1, x2, x3, x4, x5] (.int (mh_i h o 4) :: st) h) := (mw_at mj_28_70).trans (z_geti (by decide) (by decide) (Or.inl rfl))
theorem mj_28_73 : mc_P 28 73 = some (.aaload, 1, 0, 0, 0) := by decide +kernel
theorem s_28_73 {x0 x1 x2 x3 x4 x5 : Option Value} {o : Nat} {i : Int32} : mw d 28 Q 73 [x0, x1, x2, x3, x4, x5] (.int i :: .ref o :: st) h = (mgr h o ∧ mx i (mh_l h o) ∧ mw d 28 Q 74 [x0, x1, x2, x3, x4, x5] (mrd (mh_k h o) h o i.toNatClampNeg :: st) h) := (mw_at mj_28_73).trans (z_aald)
theorem mj_28_74 : mc_P 28 74 = some (.invokevirtual 63, 3, 30, 2, 2) := by decide +kernel
theorem s_28_74 {x0 x1 x2 x3 x4 x5 : Option Value} {o : Nat} {a1 : Value} : mw (d + 1) 28 Q 74 [x0, x1, x2, x3, x4, x5] (a1 :: .ref o :: st) h = (mg h o 2 ∧ mca st 8 ∧ mca [.ref o, a1] 5 ∧ mcall d 30 [.ref o, a1] h (mK (d + 1) 28 Q 77 [x0, x1, x2, x3, x4, x5] st)) := (mw_at mj_28_74).trans ((z_invv (As := [a1]) (by decide) rfl rfl).trans (congrArg (And _) (congrArg (And _) (mC_nl nl_30))))
theorem mj_28_77 : mc_P 28 77 = some (.aload_n 0, 1, 0, 0, 0) := by decide +kernel
theorem s_28_77 {x1 x2 x3 x4 x5 : Option Value} {w : Value} : mw d 28 Q 77 [some w, x1, x2, x3, x4, x5] (st) h = mv_a w (mw d 28 Q 78 [some w, x1, x2, x3, x4, x5] (w :: st) h) := (mw_at mj_28_77).trans (z_aload_n rfl)
theorem mj_28_78 : mc_P 28 78 = some (.getfield 47, 3, 2, 10, 0) := by decide +kernel
theorem s_28_78 {x0 x1 x2 x3 x4 x5 : Option Value} {o : Nat} : mw d 28 Q 78 [x0, x1, x2, x3, x4, x5] (.ref o :: st) h = (mg h o 2 ∧ mw d 28 Q 81 [x0, x1, x2, x3, x4, x5] (.int (mh_i h o 10) :: st) h) := (mw_at mj_28_78).trans (z_geti (by decide) (by decide) (Or.inl rfl))
theorem mj_28_81 : mc_P 28 81 = some (.ifCond .ne 12, 3, 0, 0, 0) := by decide +kernel
theorem s_28_81 {x0 x1 x2 x3 x4 x5 : Option Value} {x : Int32} : mw d 28 Q 81 [x0, x1, x2, x3, x4, x5] (.int x :: st) h = mB (¬ x = 0) (mw d 28 Q) 93 84 [x0, x1, x2, x3, x4, x5] st h := (mw_at mj_28_81).trans (z_if_ne (by decide) rfl)
theorem mj_28_84 : mc_P 28 84 = some (.aload_n 0, 1, 0, 0, 0) := by decide +kernel
theorem s_28_84 {x1 x2 x3 x4 x5 : Option Value} {w : Value} : mw d 28 Q 84 [some w, x1, x2, x3, x4, x5] (st) h = mv_a w (mw d 28 Q 85 [some w, x1, x2, x3, x4, x5] (w :: st) h) := (mw_at mj_28_84).trans (z_aload_n rfl)
theorem mj_28_85 : mc_P 28 85 = some (.aload_n 2, 1, 0, 0, 0) := by decide +kernel
theorem s_28_85 {x0 x1 x3 x4 x5 : Option Value} {w : Value} : mw d 28 Q 85 [x0, x1, some w, x3, x4, x5] (st) h = mv_a w (mw d 28 Q 86 [x0, x1, some w, x3, x4, x5] (w :: st) h) := (mw_at mj_28_85).trans (z_aload_n rfl)
theorem mj_28_86 : mc_P 28 86 = some (.aload_n 3, 1, 0, 0, 0) := by decide +kernel
theorem s_28_86 {x0 x1 x2 x4 x5 : Option Value} {w : Value} : mw d 28 Q 86 [x0, x1, x2, some w, x4, x5] (st) h = mv_a w (mw d 28 Q 87 [x0, x1, x2, some w, x4, x5] (w :: st) h) := (mw_at mj_28_86).trans (z_aload_n rfl)
theorem mj_28_87 : mc_P 28 87 = some (.invokevirtual 55, 3, 29, 2, 3) := by decide +kernel
theorem s_28_87 {x0 x1 x2 x3 x4 x5 : Option Value} {o : Nat} {a1 a2 : Value} : mw (d + 1) 28 Q 87 [x0, x1, x2, x3, x4, x5] (a2 :: a1 :: .ref o :: st) h = (mg h o 2 ∧ mca st 8 ∧ mca [.ref o, a1, a2] 4 ∧ mcall d 29 [.ref o, a1, a2] h (mK (d + 1) 28 Q 90 [x0, x1, x2, x3, x4, x5] st)) := (mw_at mj_28_87).trans ((z_invv (As := [a1, a2]) (by decide) rfl rfl).trans (congrArg (And _) (congrArg (And _) (mC_nl nl_29))))
theorem mj_28_90 : mc_P 28 90 = some (.goto 37, 3, 0, 0, 0) := by decide +kernel
theorem s_28_90 {x0 x1 x2 x3 x4 x5 : Option Value} : mw d 28 Q 90 [x0, x1, x2, x3, x4, x5] (st) h = mw d 28 Q 127 [x0, x1, x2, x3, x4, x5] (st) h := (mw_at mj_28_90).trans (z_goto (by decide))
theorem mj_28_93 : mc_P 28 93 = some (.aload_n 2, 1, 0, 0, 0) := by decide +kernel
theorem s_28_93 {x0 x1 x3 x4 x5 : Option Value} {w : Value} : mw d 28 Q 93 [x0, x1, some w, x3, x4, x5] (st) h = mv_a w (mw d 28 Q 94 [x0, x1, some w, x3, x4, x5] (w :: st) h) := (mw_at mj_28_93).trans (z_aload_n rfl)
theorem mj_28_94 : mc_P 28 94 = some (.getfield 67, 3, 0, 3, 0) := by decide +kernel
theorem s_28_94 {x0 x1 x2 x3 x4 x5 : Option Value} {o : Nat} : mw d 28 Q 94 [x0, x1, x2, x3, x4, x5] (.ref o :: st) h = (mg h o 0 ∧ mw d 28 Q 97 [x0, x1, x2, x3, x4, x5] (.int (mh_i h o 3) :: st) h) := (mw_at mj_28_94).trans (z_geti (by decide) (by decide) (Or.inr rfl))
theorem mj_28_97 : mc_P 28 97 = some (.ifCond .ne 30, 3, 0, 0, 0) := by decide +kernel
theorem s_28_97 {x0 x1 x2 x3 x4 x5 : Option Value} {x : Int32} : mw d 28 Q 97 [x0, x1, x2, x3, x4, x5] (.int x :: st) h = mB (¬ x = 0) (mw d 28 Q) 127 100 [x0, x1, x2, x3, x4, x5] st h := (mw_at mj_28_97).trans (z_if_ne (by decide) rfl)
theorem mj_28_100 : mc_P 28 100 = some (.aload_n 2, 1, 0, 0, 0) := by decide +kernel
theorem s_28_100 {x0 x1 x3 x4 x5 : Option Value} {w : Value} : mw d 28 Q 100 [x0, x1, some w, x3, x4, x5] (st) h = mv_a w (mw d 28 Q 101 [x0, x1, some w, x3, x4, x5] (w :: st) h) := (mw_at mj_28_100).trans (z_aload_n rfl)
theorem mj_28_101 : mc_P 28 101 = some (.getfield 73, 3, 0, 1, 0) := by decide +kernel
theorem s_28_101 {x0 x1 x2 x3 x4 x5 : Option Value} {o : Nat} : mw d 28 Q 101 [x0, x1, x2, x3, x4, x5] (.ref o :: st) h = (mg h o 0 ∧ mw d 28 Q 104 [x0, x1, x2, x3, x4, x5] (va_rf (mh_r h o 1) :: st) h) := (mw_at mj_28_101).trans (z_getr (by decide) (by decide) rfl)
theorem mj_28_104 : mc_P 28 104 = some (.aload_n 0, 1, 0, 0, 0) := by decide +kernel
theorem s_28_104 {x1 x2 x3 x4 x5 : Option Value} {w : Value} : mw d 28 Q 104 [some w, x1, x2, x3, x4, x5] (st) h = mv_a w (mw d 28 Q 105 [some w, x1, x2, x3, x4, x5] (w :: st) h) := (mw_at mj_28_104).trans (z_aload_n rfl)
theorem mj_28_105 : mc_P 28 105 = some (.getfield 35, 3, 2, 4, 0) := by decide +kernel
theorem s_28_105 {x0 x1 x2 x3 x4 x5 : Option Value} {o : Nat} : mw d 28 Q 105 [x0, x1, x2, x3, x4, x5] (.ref o :: st) h = (mg h o 2 ∧ mw d 28 Q 108 [x0, x1, x2, x3, x4, x5] (.int (mh_i h o 4) :: st) h) := (mw_at mj_28_105).trans (z_geti (by decide) (by decide) (Or.inl rfl))
theorem mj_28_108 : mc_P 28 108 = some (.iaload, 1, 0, 0, 0) := by decide +kernel
theorem s_28_108 {x0 x1 x2 x3 x4 x5 : Option Value} {o : Nat} {i : Int32} : mw d 28 Q 108 [x0, x1, x2, x3, x4, x5] (.int i :: .ref o :: st) h = (mg h o 100 ∧ mx i (mh_l h o) ∧ mw d 28 Q 109 [x0, x1, x2, x3, x4, x5] (.int (mh_i h o i.toNatClampNeg) :: st) h) := (mw_at mj_28_108).trans (z_iald)
theorem s_28_108x {x0 x1 x2 x3 x4 x5 : Option Value} {i : Int32} : mw d 28 Q 108 [x0, x1, x2, x3, x4, x5] (.int i :: .retAddr 2 :: st) h = (mx i 24 ∧ mw d 28 Q 109 [x0, x1, x2, x3, x4, x5] (.int (mx_row.getD i.toNatClampNeg 0) :: st) h) := (mw_at mj_28_108).trans (z_iaX)
theorem mj_28_109 : mc_P 28 109 = some (.aload_n 0, 1, 0, 0, 0) := by decide +kernel
theorem s_28_109 {x1 x2 x3 x4 x5 : Option Value} {w : Value} : mw d 28 Q 109 [some w, x1, x2, x3, x4, x5] (st) h = mv_a w (mw d 28 Q 110 [some w, x1, x2, x3, x4, x5] (w :: st) h) := (mw_at mj_28_109).trans (z_aload_n rfl)
theorem mj_28_110 : mc_P 28 110 = some (.getfield 47, 3, 2, 10, 0) := by decide +kernel
theorem s_28_110 {x0 x1 x2 x3 x4 x5 : Option Value} {o : Nat} : mw d 28 Q 110 [x0, x1, x2, x3, x4, x5] (.ref o :: st) h = (mg h o 2 ∧ mw d 28 Q 113 [x0, x1, x2, x3, x4, x5] (.int (mh_i h o 10) :: st) h) := (mw_at mj_28_110).trans (z_geti (by decide) (by decide) (Or.inl rfl))
theorem mj_28_113 : mc_P 28 113 = some (.iand, 1, 0, 0, 0) := by decide +kernel
theorem s_28_113 {x0 x1 x2 x3 x4 x5 : Option Value} {x w : Int32} : mw d 28 Q 113 [x0, x1, x2, x3, x4, x5] (.int w :: .int x :: st) h = mw d 28 Q 114 [x0, x1, x2, x3, x4, x5] (.int (x &&& w) :: st) h := (mw_at mj_28_113).trans (z_iand)
theorem mj_28_114 : mc_P 28 114 = some (.ifCond .ne 13, 3, 0, 0, 0) := by decide +kernel
theorem s_28_114 {x0 x1 x2 x3 x4 x5 : Option Value} {x : Int32} : mw d 28 Q 114 [x0, x1, x2, x3, x4, x5] (.int x :: st) h = mB (¬ x = 0) (mw d 28 Q) 127 117 [x0, x1, x2, x3, x4, x5] st h := (mw_at mj_28_114).trans (z_if_ne (by decide) rfl)
theorem mj_28_117 : mc_P 28 117 = some (.aload_n 0, 1, 0, 0, 0) := by decide +kernel
theorem s_28_117 {x1 x2 x3 x4 x5 : Option Value} {w : Value} : mw d 28 Q 117 [some w, x1, x2, x3, x4, x5] (st) h = mv_a w (mw d 28 Q 118 [some w, x1, x2, x3, x4, x5] (w :: st) h) := (mw_at mj_28_117).trans (z_aload_n rfl)
theorem mj_28_118 : mc_P 28 118 = some (.dup, 1, 0, 0, 0) := by decide +kernel
theorem s_28_118 {x0 x1 x2 x3 x4 x5 : Option Value} {w : Value} : mw d 28 Q 118 [x0, x1, x2, x3, x4, x5] (w :: st) h = (w.category = 1 ∧ mw d 28 Q 119 [x0, x1, x2, x3, x4, x5] (w :: w :: st) h) := (mw_at mj_28_118).trans (z_dup)
theorem mj_28_119 : mc_P 28 119 = some (.getfield 76, 3, 2, 9, 0) := by decide +kernel
theorem s_28_119 {x0 x1 x2 x3 x4 x5 : Option Value} {o : Nat} : mw d 28 Q 119 [x0, x1, x2, x3, x4, x5] (.ref o :: st) h = (mg h o 2 ∧ mw d 28 Q 122 [x0, x1, x2, x3, x4, x5] (.int (mh_i h o 9) :: st) h) := (mw_at mj_28_119).trans (z_geti (by decide) (by decide) (Or.inl rfl))
theorem mj_28_122 : mc_P 28 122 = some (.iconst 1, 1, 0, 0, 0) := by decide +kernel
theorem s_28_122 {x0 x1 x2 x3 x4 x5 : Option Value} : mw d 28 Q 122 [x0, x1, x2, x3, x4, x5] (st) h = mw d 28 Q 123 [x0, x1, x2, x3, x4, x5] (.int 1 :: st) h := (mw_at mj_28_122).trans (z_iconst (by decide))
theorem mj_28_123 : mc_P 28 123 = some (.iadd, 1, 0, 0, 0) := by decide +kernel
theorem s_28_123 {x0 x1 x2 x3 x4 x5 : Option Value} {x w : Int32} : mw d 28 Q 123 [x0, x1, x2, x3, x4, x5] (.int w :: .int x :: st) h = mw d 28 Q 124 [x0, x1, x2, x3, x4, x5] (.int (x + w) :: st) h := (mw_at mj_28_123).trans (z_iadd)
theorem mj_28_124 : mc_P 28 124 = some (.putfield 76, 3, 2, 9, 0) := by decide +kernel
theorem s_28_124 {x0 x1 x2 x3 x4 x5 : Option Value} {o : Nat} {w : Int32} : mw d 28 Q 124 [x0, x1, x2, x3, x4, x5] (.int w :: .ref o :: st) h = (mg h o 2 ∧ mw d 28 Q 127 [x0, x1, x2, x3, x4, x5] (st) (mh_si h o 9 w)) := (mw_at mj_28_124).trans (z_puti (by decide) (by decide) rfl)
theorem mj_28_127 : mc_P 28 127 = some (.iinc 5 1, 3, 0, 0, 0) := by decide +kernel
theorem s_28_127 {x0 x1 x2 x3 x4 : Option Value} {w : Int32} : mw d 28 Q 127 [x0, x1, x2, x3, x4, some (.int w)] (st) h = mw d 28 Q 130 [x0, x1, x2, x3, mk2 x4, some (.int (w + 1))] (st) h := (mw_at mj_28_127).trans (z_iinc rfl (Nat.le_of_ble_eq_true rfl) (by decide) (me_s1_mk (j := 4) (w := x4) rfl))
theorem mj_28_130 : mc_P 28 130 = some (.goto (-101), 3, 0, 0, 0) := by decide +kernel
theorem s_28_130 {x0 x1 x2 x3 x4 x5 : Option Value} : mw d 28 Q 130 [x0, x1, x2, x3, x4, x5] (st) h = mw d 28 Q 29 [x0, x1, x2, x3, x4, x5] (st) h := (mw_at mj_28_130).trans (z_goto (by decide))
theorem mj_28_133 : mc_P 28 133 = some (.aload_n 0, 1, 0, 0, 0) := by decide +kernel
theorem s_28_133 {x1 x2 x3 x4 x5 : Option Value} {w : Value} : mw d 28 Q 133 [some w, x1, x2, x3, x4, x5] (st) h = mv_a w (mw d 28 Q 134 [some w, x1, x2, x3, x4, x5] (w :: st) h) := (mw_at mj_28_133).trans (z_aload_n rfl)
theorem mj_28_134 : mc_P 28 134 = some (.getfield 47, 3, 2, 10, 0) := by decide +kernel
theorem s_28_134 {x0 x1 x2 x3 x4 x5 : Option Value} {o : Nat} : mw d 28 Q 134 [x0, x1, x2, x3, x4, x5] (.ref o :: st) h = (mg h o 2 ∧ mw d 28 Q 137 [x0, x1, x2, x3, x4, x5] (.int (mh_i h o 10) :: st) h) := (mw_at mj_28_134).trans (z_geti (by decide) (by decide) (Or.inl rfl))
theorem mj_28_137 : mc_P 28 137 = some (.ifCond .eq 8, 3, 0, 0, 0) := by decide +kernel
theorem s_28_137 {x0 x1 x2 x3 x4 x5 : Option Value} {x : Int32} : mw d 28 Q 137 [x0, x1, x2, x3, x4, x5] (.int x :: st) h = mB (x = 0) (mw d 28 Q) 145 140 [x0, x1, x2, x3, x4, x5] st h := (mw_at mj_28_137).trans (z_if_eq (by decide) rfl)
theorem mj_28_140 : mc_P 28 140 = some (.aload_n 0, 1, 0, 0, 0) := by decide +kernel
theorem s_28_140 {x1 x2 x3 x4 x5 : Option Value} {w : Value} : mw d 28 Q 140 [some w, x1, x2, x3, x4, x5] (st) h = mv_a w (mw d 28 Q 141 [some w, x1, x2, x3, x4, x5] (w :: st) h) := (mw_at mj_28_140).trans (z_aload_n rfl)
theorem mj_28_141 : mc_P 28 141 = some (.getfield 47, 3, 2, 10, 0) := by decide +kernel
theorem s_28_141 {x0 x1 x2 x3 x4 x5 : Option Value} {o : Nat} : mw d 28 Q 141 [x0, x1, x2, x3, x4, x5] (.ref o :: st) h = (mg h o 2 ∧ mw d 28 Q 144 [x0, x1, x2, x3, x4, x5] (.int (mh_i h o 10) :: st) h) := (mw_at mj_28_141).trans (z_geti (by decide) (by decide) (Or.inl rfl))
theorem mj_28_144 : mc_P 28 144 = some (.ireturn, 1, 0, 0, 0) := by decide +kernel
theorem s_28_144 {x0 x1 x2 x3 x4 x5 : Option Value} {x : Int32} : mw d 28 Q 144 [x0, x1, x2, x3, x4, x5] ([.int x]) h = (Q (some (.int x)) h) := (mw_at mj_28_144).trans (z_iret)
theorem mj_28_145 : mc_P 28 145 = some (.aload_n 0, 1, 0, 0, 0) := by decide +kernel
theorem s_28_145 {x1 x2 x3 x4 x5 : Option Value} {w : Value} : mw d 28 Q 145 [some w, x1, x2, x3, x4, x5] (st) h = mv_a w (mw d 28 Q 146 [some w, x1, x2, x3, x4, x5] (w :: st) h) := (mw_at mj_28_145).trans (z_aload_n rfl)
theorem mj_28_146 : mc_P 28 146 = some (.getfield 35, 3, 2, 4, 0) := by decide +kernel
theorem s_28_146 {x0 x1 x2 x3 x4 x5 : Option Value} {o : Nat} : mw d 28 Q 146 [x0, x1, x2, x3, x4, x5] (.ref o :: st) h = (mg h o 2 ∧ mw d 28 Q 149 [x0, x1, x2, x3, x4, x5] (.int (mh_i h o 4) :: st) h) := (mw_at mj_28_146).trans (z_geti (by decide) (by decide) (Or.inl rfl))
theorem mj_28_149 : mc_P 28 149 = some (.iload 4, 2, 0, 0, 0) := by decide +kernel
theorem s_28_149 {x0 x1 x2 x3 x5 : Option Value} {w : Value} : mw d 28 Q 149 [x0, x1, x2, x3, some w, x5] (st) h = mv_i w (mw d 28 Q 151 [x0, x1, x2, x3, some w, x5] (w :: st) h) := (mw_at mj_28_149).trans (z_iload rfl)
theorem mj_28_151 : mc_P 28 151 = some (.if_icmp .ne 7, 3, 0, 0, 0) := by decide +kernel
theorem s_28_151 {x0 x1 x2 x3 x4 x5 : Option Value} {x w : Int32} : mw d 28 Q 151 [x0, x1, x2, x3, x4, x5] (.int w :: .int x :: st) h = mB (¬ x = w) (mw d 28 Q) 158 154 [x0, x1, x2, x3, x4, x5] st h := (mw_at mj_28_151).trans (z_icmp_ne (by decide) rfl)
theorem mj_28_154 : mc_P 28 154 = some (.iconst 0, 1, 0, 0, 0) := by decide +kernel
theorem s_28_154 {x0 x1 x2 x3 x4 x5 : Option Value} : mw d 28 Q 154 [x0, x1, x2, x3, x4, x5] (st) h = mw d 28 Q 155 [x0, x1, x2, x3, x4, x5] (.int 0 :: st) h := (mw_at mj_28_154).trans (z_iconst (by decide))
theorem mj_28_155 : mc_P 28 155 = some (.goto 5, 3, 0, 0, 0) := by decide +kernel
theorem s_28_155 {x0 x1 x2 x3 x4 x5 : Option Value} : mw d 28 Q 155 [x0, x1, x2, x3, x4, x5] (st) h = mw d 28 Q 160 [x0, x1, x2, x3, x4, x5] (st) h := (mw_at mj_28_155).trans (z_goto (by decide))
theorem mj_28_158 : mc_P 28 158 = some (.bipush 16, 2, 0, 0, 0) := by decide +kernel
theorem s_28_158 {x0 x1 x2 x3 x4 x5 : Option Value} : mw d 28 Q 158 [x0, x1, x2, x3, x4, x5] (st) h = mw d 28 Q 160 [x0, x1, x2, x3, x4, x5] (.int 16 :: st) h := (mw_at mj_28_158).trans (z_bipush (by decide))
theorem mj_28_160 : mc_P 28 160 = some (.ireturn, 1, 0, 0, 0) := by decide +kernel
theorem s_28_160 {x0 x1 x2 x3 x4 x5 : Option Value} {x : Int32} : mw d 28 Q 160 [x0, x1, x2, x3, x4, x5] ([.int x]) h = (Q (some (.int x)) h) := (mw_at mj_28_160).trans (z_iret)
theorem e_28 {a0 : Nat} {a1 : Int32} {a2 : Nat} {a3 : Nat} : mcall d 28 [.ref a0, .int a1, .ref a2, .ref a3] h Q = mw d 28 Q 0 [some (.ref a0), some (.int a1), some (.ref a2), some (.ref a3), none, none] [] h := by
  show mw d 28 Q 0 (me_en (mc_nl 28) _) [] h = _
  rw [nl_28]; rfl

/-! InvariantDesk$Machine.arrive(LInvariantDesk$Analysis;[LInvariantDesk$State;)V -/
theorem mj_29_0 : mc_P 29 0 = some (.aload_n 1, 1, 0, 0, 0) := by decide +kernel
theorem s_29_0 {x0 x2 x3 : Option Value} {w : Value} : mw d 29 Q 0 [x0, some w, x2, x3] (st) h = mv_a w (mw d 29 Q 1 [x0, some w, x2, x3] (w :: st) h) := (mw_at mj_29_0).trans (z_aload_n rfl)
theorem mj_29_1 : mc_P 29 1 = some (.getfield 67, 3, 0, 3, 0) := by decide +kernel
theorem s_29_1 {x0 x1 x2 x3 : Option Value} {o : Nat} : mw d 29 Q 1 [x0, x1, x2, x3] (.ref o :: st) h = (mg h o 0 ∧ mw d 29 Q 4 [x0, x1, x2, x3] (.int (mh_i h o 3) :: st) h) := (mw_at mj_29_1).trans (z_geti (by decide) (by decide) (Or.inr rfl))
theorem mj_29_4 : mc_P 29 4 = some (.ifCond .eq 4, 3, 0, 0, 0) := by decide +kernel
theorem s_29_4 {x0 x1 x2 x3 : Option Value} {x : Int32} : mw d 29 Q 4 [x0, x1, x2, x3] (.int x :: st) h = mB (x = 0) (mw d 29 Q) 8 7 [x0, x1, x2, x3] st h := (mw_at mj_29_4).trans (z_if_eq (by decide) rfl)
theorem mj_29_7 : mc_P 29 7 = some (.return_, 1, 0, 0, 0) := by decide +kernel
theorem s_29_7 {x0 x1 x2 x3 : Option Value} : mw d 29 Q 7 [x0, x1, x2, x3] ([]) h = Q none h := (mw_at mj_29_7).trans (z_vret)
theorem mj_29_8 : mc_P 29 8 = some (.aload_n 1, 1, 0, 0, 0) := by decide +kernel
theorem s_29_8 {x0 x2 x3 : Option Value} {w : Value} : mw d 29 Q 8 [x0, some w, x2, x3] (st) h = mv_a w (mw d 29 Q 9 [x0, some w, x2, x3] (w :: st) h) := (mw_at mj_29_8).trans (z_aload_n rfl)
theorem mj_29_9 : mc_P 29 9 = some (.getfield 79, 3, 0, 0, 0) := by decide +kernel
theorem s_29_9 {x0 x1 x2 x3 : Option Value} {o : Nat} : mw d 29 Q 9 [x0, x1, x2, x3] (.ref o :: st) h = (mg h o 0 ∧ mw d 29 Q 12 [x0, x1, x2, x3] (va_rf (mh_r h o 0) :: st) h) := (mw_at mj_29_9).trans (z_getr (by decide) (by decide) rfl)
theorem mj_29_12 : mc_P 29 12 = some (.aload_n 0, 1, 0, 0, 0) := by decide +kernel
theorem s_29_12 {x1 x2 x3 : Option Value} {w : Value} : mw d 29 Q 12 [some w, x1, x2, x3] (st) h = mv_a w (mw d 29 Q 13 [some w, x1, x2, x3] (w :: st) h) := (mw_at mj_29_12).trans (z_aload_n rfl)
theorem mj_29_13 : mc_P 29 13 = some (.getfield 35, 3, 2, 4, 0) := by decide +kernel
theorem s_29_13 {x0 x1 x2 x3 : Option Value} {o : Nat} : mw d 29 Q 13 [x0, x1, x2, x3] (.ref o :: st) h = (mg h o 2 ∧ mw d 29 Q 16 [x0, x1, x2, x3] (.int (mh_i h o 4) :: st) h) := (mw_at mj_29_13).trans (z_geti (by decide) (by decide) (Or.inl rfl))
theorem mj_29_16 : mc_P 29 16 = some (.aaload, 1, 0, 0, 0) := by decide +kernel
theorem s_29_16 {x0 x1 x2 x3 : Option Value} {o : Nat} {i : Int32} : mw d 29 Q 16 [x0, x1, x2, x3] (.int i :: .ref o :: st) h = (mgr h o ∧ mx i (mh_l h o) ∧ mw d 29 Q 17 [x0, x1, x2, x3] (mrd (mh_k h o) h o i.toNatClampNeg :: st) h) := (mw_at mj_29_16).trans (z_aald)
theorem mj_29_17 : mc_P 29 17 = some (.aload_n 0, 1, 0, 0, 0) := by decide +kernel
theorem s_29_17 {x1 x2 x3 : Option Value} {w : Value} : mw d 29 Q 17 [some w, x1, x2, x3] (st) h = mv_a w (mw d 29 Q 18 [some w, x1, x2, x3] (w :: st) h) := (mw_at mj_29_17).trans (z_aload_n rfl)
theorem mj_29_18 : mc_P 29 18 = some (.getfield 15, 3, 2, 6, 0) := by decide +kernel
theorem s_29_18 {x0 x1 x2 x3 : Option Value} {o : Nat} : mw d 29 Q 18 [x0, x1, x2, x3] (.ref o :: st) h = (mg h o 2 ∧ mw d 29 Q 21 [x0, x1, x2, x3] (va_rf (mh_r h o 6) :: st) h) := (mw_at mj_29_18).trans (z_getr (by decide) (by decide) rfl)
theorem mj_29_21 : mc_P 29 21 = some (.aload_n 0, 1, 0, 0, 0) := by decide +kernel
theorem s_29_21 {x1 x2 x3 : Option Value} {w : Value} : mw d 29 Q 21 [some w, x1, x2, x3] (st) h = mv_a w (mw d 29 Q 22 [some w, x1, x2, x3] (w :: st) h) := (mw_at mj_29_21).trans (z_aload_n rfl)
theorem mj_29_22 : mc_P 29 22 = some (.getfield 18, 3, 2, 7, 0) := by decide +kernel
theorem s_29_22 {x0 x1 x2 x3 : Option Value} {o : Nat} : mw d 29 Q 22 [x0, x1, x2, x3] (.ref o :: st) h = (mg h o 2 ∧ mw d 29 Q 25 [x0, x1, x2, x3] (va_rf (mh_r h o 7) :: st) h) := (mw_at mj_29_22).trans (z_getr (by decide) (by decide) rfl)
theorem mj_29_25 : mc_P 29 25 = some (.aload_n 0, 1, 0, 0, 0) := by decide +kernel
theorem s_29_25 {x1 x2 x3 : Option Value} {w : Value} : mw d 29 Q 25 [some w, x1, x2, x3] (st) h = mv_a w (mw d 29 Q 26 [some w, x1, x2, x3] (w :: st) h) := (mw_at mj_29_25).trans (z_aload_n rfl)
theorem mj_29_26 : mc_P 29 26 = some (.getfield 21, 3, 2, 8, 0) := by decide +kernel
theorem s_29_26 {x0 x1 x2 x3 : Option Value} {o : Nat} : mw d 29 Q 26 [x0, x1, x2, x3] (.ref o :: st) h = (mg h o 2 ∧ mw d 29 Q 29 [x0, x1, x2, x3] (va_rf (mh_r h o 8) :: st) h) := (mw_at mj_29_26).trans (z_getr (by decide) (by decide) rfl)
theorem mj_29_29 : mc_P 29 29 = some (.invokevirtual 83, 3, 163, 8, 4) := by decide +kernel
theorem s_29_29 {x0 x1 x2 x3 : Option Value} {o : Nat} {a1 a2 a3 : Value} : mw (d + 1) 29 Q 29 [x0, x1, x2, x3] (a3 :: a2 :: a1 :: .ref o :: st) h = (mg h o 8 ∧ mca st 8 ∧ mca [.ref o, a1, a2, a3] 10 ∧ mcall d 163 [.ref o, a1, a2, a3] h (mK (d + 1) 29 Q 32 [x0, x1, x2, x3] st)) := (mw_at mj_29_29).trans ((z_invv (As := [a1, a2, a3]) (by decide) rfl rfl).trans (congrArg (And _) (congrArg (And _) (mC_nl nl_163))))
theorem mj_29_32 : mc_P 29 32 = some (.istore_n 3, 1, 0, 0, 0) := by decide +kernel
theorem s_29_32 {x0 x1 x2 x3 : Option Value} {w : Int32} : mw d 29 Q 32 [x0, x1, x2, x3] (.int w :: st) h = mw d 29 Q 33 [x0, x1, mk2 x2, some (.int w)] (st) h := (mw_at mj_29_32).trans (z_istore_n (Nat.le_of_ble_eq_true rfl) (me_s1_mk (j := 2) (w := x2) rfl))
theorem mj_29_33 : mc_P 29 33 = some (.iload_n 3, 1, 0, 0, 0) := by decide +kernel
theorem s_29_33 {x0 x1 x2 : Option Value} {w : Value} : mw d 29 Q 33 [x0, x1, x2, some w] (st) h = mv_i w (mw d 29 Q 34 [x0, x1, x2, some w] (w :: st) h) := (mw_at mj_29_33).trans (z_iload_n rfl)
theorem mj_29_34 : mc_P 29 34 = some (.ifCond .eq 29, 3, 0, 0, 0) := by decide +kernel
theorem s_29_34 {x0 x1 x2 x3 : Option Value} {x : Int32} : mw d 29 Q 34 [x0, x1, x2, x3] (.int x :: st) h = mB (x = 0) (mw d 29 Q) 63 37 [x0, x1, x2, x3] st h := (mw_at mj_29_34).trans (z_if_eq (by decide) rfl)
theorem mj_29_37 : mc_P 29 37 = some (.aload_n 2, 1, 0, 0, 0) := by decide +kernel
theorem s_29_37 {x0 x1 x3 : Option Value} {w : Value} : mw d 29 Q 37 [x0, x1, some w, x3] (st) h = mv_a w (mw d 29 Q 38 [x0, x1, some w, x3] (w :: st) h) := (mw_at mj_29_37).trans (z_aload_n rfl)
theorem mj_29_38 : mc_P 29 38 = some (.ifnull 25, 3, 0, 0, 0) := by decide +kernel
theorem s_29_38n {x0 x1 x2 x3 : Option Value} : mw d 29 Q 38 [x0, x1, x2, x3] (.null :: st) h = mw d 29 Q 63 [x0, x1, x2, x3] (st) h := (mw_at mj_29_38).trans (z_nullT (by decide))
theorem s_29_38 {x0 x1 x2 x3 : Option Value} {w : Nat} : mw d 29 Q 38 [x0, x1, x2, x3] (.ref w :: st) h = mw d 29 Q 41 [x0, x1, x2, x3] (st) h := (mw_at mj_29_38).trans (z_nullF)
theorem mj_29_41 : mc_P 29 41 = some (.aload_n 2, 1, 0, 0, 0) := by decide +kernel
theorem s_29_41 {x0 x1 x3 : Option Value} {w : Value} : mw d 29 Q 41 [x0, x1, some w, x3] (st) h = mv_a w (mw d 29 Q 42 [x0, x1, some w, x3] (w :: st) h) := (mw_at mj_29_41).trans (z_aload_n rfl)
theorem mj_29_42 : mc_P 29 42 = some (.aload_n 0, 1, 0, 0, 0) := by decide +kernel
theorem s_29_42 {x1 x2 x3 : Option Value} {w : Value} : mw d 29 Q 42 [some w, x1, x2, x3] (st) h = mv_a w (mw d 29 Q 43 [some w, x1, x2, x3] (w :: st) h) := (mw_at mj_29_42).trans (z_aload_n rfl)
theorem mj_29_43 : mc_P 29 43 = some (.getfield 35, 3, 2, 4, 0) := by decide +kernel
theorem s_29_43 {x0 x1 x2 x3 : Option Value} {o : Nat} : mw d 29 Q 43 [x0, x1, x2, x3] (.ref o :: st) h = (mg h o 2 ∧ mw d 29 Q 46 [x0, x1, x2, x3] (.int (mh_i h o 4) :: st) h) := (mw_at mj_29_43).trans (z_geti (by decide) (by decide) (Or.inl rfl))
theorem mj_29_46 : mc_P 29 46 = some (.aaload, 1, 0, 0, 0) := by decide +kernel
theorem s_29_46 {x0 x1 x2 x3 : Option Value} {o : Nat} {i : Int32} : mw d 29 Q 46 [x0, x1, x2, x3] (.int i :: .ref o :: st) h = (mgr h o ∧ mx i (mh_l h o) ∧ mw d 29 Q 47 [x0, x1, x2, x3] (mrd (mh_k h o) h o i.toNatClampNeg :: st) h) := (mw_at mj_29_46).trans (z_aald)
theorem mj_29_47 : mc_P 29 47 = some (.aload_n 0, 1, 0, 0, 0) := by decide +kernel
theorem s_29_47 {x1 x2 x3 : Option Value} {w : Value} : mw d 29 Q 47 [some w, x1, x2, x3] (st) h = mv_a w (mw d 29 Q 48 [some w, x1, x2, x3] (w :: st) h) := (mw_at mj_29_47).trans (z_aload_n rfl)
theorem mj_29_48 : mc_P 29 48 = some (.getfield 15, 3, 2, 6, 0) := by decide +kernel
theorem s_29_48 {x0 x1 x2 x3 : Option Value} {o : Nat} : mw d 29 Q 48 [x0, x1, x2, x3] (.ref o :: st) h = (mg h o 2 ∧ mw d 29 Q 51 [x0, x1, x2, x3] (va_rf (mh_r h o 6) :: st) h) := (mw_at mj_29_48).trans (z_getr (by decide) (by decide) rfl)
theorem mj_29_51 : mc_P 29 51 = some (.aload_n 0, 1, 0, 0, 0) := by decide +kernel
theorem s_29_51 {x1 x2 x3 : Option Value} {w : Value} : mw d 29 Q 51 [some w, x1, x2, x3] (st) h = mv_a w (mw d 29 Q 52 [some w, x1, x2, x3] (w :: st) h) := (mw_at mj_29_51).trans (z_aload_n rfl)
theorem mj_29_52 : mc_P 29 52 = some (.getfield 18, 3, 2, 7, 0) := by decide +kernel
theorem s_29_52 {x0 x1 x2 x3 : Option Value} {o : Nat} : mw d 29 Q 52 [x0, x1, x2, x3] (.ref o :: st) h = (mg h o 2 ∧ mw d 29 Q 55 [x0, x1, x2, x3] (va_rf (mh_r h o 7) :: st) h) := (mw_at mj_29_52).trans (z_getr (by decide) (by decide) rfl)
theorem mj_29_55 : mc_P 29 55 = some (.aload_n 0, 1, 0, 0, 0) := by decide +kernel
theorem s_29_55 {x1 x2 x3 : Option Value} {w : Value} : mw d 29 Q 55 [some w, x1, x2, x3] (st) h = mv_a w (mw d 29 Q 56 [some w, x1, x2, x3] (w :: st) h) := (mw_at mj_29_55).trans (z_aload_n rfl)
theorem mj_29_56 : mc_P 29 56 = some (.getfield 21, 3, 2, 8, 0) := by decide +kernel
theorem s_29_56 {x0 x1 x2 x3 : Option Value} {o : Nat} : mw d 29 Q 56 [x0, x1, x2, x3] (.ref o :: st) h = (mg h o 2 ∧ mw d 29 Q 59 [x0, x1, x2, x3] (va_rf (mh_r h o 8) :: st) h) := (mw_at mj_29_56).trans (z_getr (by decide) (by decide) rfl)
theorem mj_29_59 : mc_P 29 59 = some (.invokevirtual 83, 3, 163, 8, 4) := by decide +kernel
theorem s_29_59 {x0 x1 x2 x3 : Option Value} {o : Nat} {a1 a2 a3 : Value} : mw (d + 1) 29 Q 59 [x0, x1, x2, x3] (a3 :: a2 :: a1 :: .ref o :: st) h = (mg h o 8 ∧ mca st 8 ∧ mca [.ref o, a1, a2, a3] 10 ∧ mcall d 163 [.ref o, a1, a2, a3] h (mK (d + 1) 29 Q 62 [x0, x1, x2, x3] st)) := (mw_at mj_29_59).trans ((z_invv (As := [a1, a2, a3]) (by decide) rfl rfl).trans (congrArg (And _) (congrArg (And _) (mC_nl nl_163))))
theorem mj_29_62 : mc_P 29 62 = some (.istore_n 3, 1, 0, 0, 0) := by decide +kernel
theorem s_29_62 {x0 x1 x2 x3 : Option Value} {w : Int32} : mw d 29 Q 62 [x0, x1, x2, x3] (.int w :: st) h = mw d 29 Q 63 [x0, x1, mk2 x2, some (.int w)] (st) h := (mw_at mj_29_62).trans (z_istore_n (Nat.le_of_ble_eq_true rfl) (me_s1_mk (j := 2) (w := x2) rfl))
theorem mj_29_63 : mc_P 29 63 = some (.iload_n 3, 1, 0, 0, 0) := by decide +kernel
theorem s_29_63 {x0 x1 x2 : Option Value} {w : Value} : mw d 29 Q 63 [x0, x1, x2, some w] (st) h = mv_i w (mw d 29 Q 64 [x0, x1, x2, some w] (w :: st) h) := (mw_at mj_29_63).trans (z_iload_n rfl)
theorem mj_29_64 : mc_P 29 64 = some (.ifCond .ne 13, 3, 0, 0, 0) := by decide +kernel
theorem s_29_64 {x0 x1 x2 x3 : Option Value} {x : Int32} : mw d 29 Q 64 [x0, x1, x2, x3] (.int x :: st) h = mB (¬ x = 0) (mw d 29 Q) 77 67 [x0, x1, x2, x3] st h := (mw_at mj_29_64).trans (z_if_ne (by decide) rfl)
theorem mj_29_67 : mc_P 29 67 = some (.aload_n 0, 1, 0, 0, 0) := by decide +kernel
theorem s_29_67 {x1 x2 x3 : Option Value} {w : Value} : mw d 29 Q 67 [some w, x1, x2, x3] (st) h = mv_a w (mw d 29 Q 68 [some w, x1, x2, x3] (w :: st) h) := (mw_at mj_29_67).trans (z_aload_n rfl)
theorem mj_29_68 : mc_P 29 68 = some (.dup, 1, 0, 0, 0) := by decide +kernel
theorem s_29_68 {x0 x1 x2 x3 : Option Value} {w : Value} : mw d 29 Q 68 [x0, x1, x2, x3] (w :: st) h = (w.category = 1 ∧ mw d 29 Q 69 [x0, x1, x2, x3] (w :: w :: st) h) := (mw_at mj_29_68).trans (z_dup)
theorem mj_29_69 : mc_P 29 69 = some (.getfield 76, 3, 2, 9, 0) := by decide +kernel
theorem s_29_69 {x0 x1 x2 x3 : Option Value} {o : Nat} : mw d 29 Q 69 [x0, x1, x2, x3] (.ref o :: st) h = (mg h o 2 ∧ mw d 29 Q 72 [x0, x1, x2, x3] (.int (mh_i h o 9) :: st) h) := (mw_at mj_29_69).trans (z_geti (by decide) (by decide) (Or.inl rfl))
theorem mj_29_72 : mc_P 29 72 = some (.iconst 1, 1, 0, 0, 0) := by decide +kernel
theorem s_29_72 {x0 x1 x2 x3 : Option Value} : mw d 29 Q 72 [x0, x1, x2, x3] (st) h = mw d 29 Q 73 [x0, x1, x2, x3] (.int 1 :: st) h := (mw_at mj_29_72).trans (z_iconst (by decide))
theorem mj_29_73 : mc_P 29 73 = some (.iadd, 1, 0, 0, 0) := by decide +kernel
theorem s_29_73 {x0 x1 x2 x3 : Option Value} {x w : Int32} : mw d 29 Q 73 [x0, x1, x2, x3] (.int w :: .int x :: st) h = mw d 29 Q 74 [x0, x1, x2, x3] (.int (x + w) :: st) h := (mw_at mj_29_73).trans (z_iadd)
theorem mj_29_74 : mc_P 29 74 = some (.putfield 76, 3, 2, 9, 0) := by decide +kernel
theorem s_29_74 {x0 x1 x2 x3 : Option Value} {o : Nat} {w : Int32} : mw d 29 Q 74 [x0, x1, x2, x3] (.int w :: .ref o :: st) h = (mg h o 2 ∧ mw d 29 Q 77 [x0, x1, x2, x3] (st) (mh_si h o 9 w)) := (mw_at mj_29_74).trans (z_puti (by decide) (by decide) rfl)
theorem mj_29_77 : mc_P 29 77 = some (.return_, 1, 0, 0, 0) := by decide +kernel
theorem s_29_77 {x0 x1 x2 x3 : Option Value} : mw d 29 Q 77 [x0, x1, x2, x3] ([]) h = Q none h := (mw_at mj_29_77).trans (z_vret)
theorem e_29 {a0 : Nat} {a1 : Nat} {a2 : Nat} : mcall d 29 [.ref a0, .ref a1, .ref a2] h Q = mw d 29 Q 0 [some (.ref a0), some (.ref a1), some (.ref a2), none] [] h := by
  show mw d 29 Q 0 (me_en (mc_nl 29) _) [] h = _
  rw [nl_29]; rfl

/-! InvariantDesk$Parser.<init>(LInvariantDesk$Tokens;LInvariantDesk$Source;)V -/
theorem mj_43_0 : mc_P 43 0 = some (.aload_n 0, 1, 0, 0, 0) := by decide +kernel
theorem s_43_0 {x1 x2 : Option Value} {w : Value} : mw d 43 Q 0 [some w, x1, x2] (st) h = mv_a w (mw d 43 Q 1 [some w, x1, x2] (w :: st) h) := (mw_at mj_43_0).trans (z_aload_n rfl)
theorem mj_43_1 : mc_P 43 1 = some (.invokespecial 3, 3, 0, 1, 0) := by decide +kernel
theorem s_43_1 {x0 x1 x2 : Option Value} {o : Nat} : mw d 43 Q 1 [x0, x1, x2] (.ref o :: st) h = (mca st 8 ∧ mw d 43 Q 4 [x0, x1, x2] (st) h) := (mw_at mj_43_1).trans (z_obj)
theorem mj_43_4 : mc_P 43 4 = some (.aload_n 0, 1, 0, 0, 0) := by decide +kernel
theorem s_43_4 {x1 x2 : Option Value} {w : Value} : mw d 43 Q 4 [some w, x1, x2] (st) h = mv_a w (mw d 43 Q 5 [some w, x1, x2] (w :: st) h) := (mw_at mj_43_4).trans (z_aload_n rfl)
theorem mj_43_5 : mc_P 43 5 = some (.iconst (-1), 1, 0, 0, 0) := by decide +kernel
theorem s_43_5 {x0 x1 x2 : Option Value} : mw d 43 Q 5 [x0, x1, x2] (st) h = mw d 43 Q 6 [x0, x1, x2] (.int (-1) :: st) h := (mw_at mj_43_5).trans (z_iconst (by decide))
theorem mj_43_6 : mc_P 43 6 = some (.putfield 9, 3, 3, 7, 0) := by decide +kernel
theorem s_43_6 {x0 x1 x2 : Option Value} {o : Nat} {w : Int32} : mw d 43 Q 6 [x0, x1, x2] (.int w :: .ref o :: st) h = (mg h o 3 ∧ mw d 43 Q 9 [x0, x1, x2] (st) (mh_si h o 7 w)) := (mw_at mj_43_6).trans (z_puti (by decide) (by decide) rfl)
theorem mj_43_9 : mc_P 43 9 = some (.aload_n 0, 1, 0, 0, 0) := by decide +kernel
theorem s_43_9 {x1 x2 : Option Value} {w : Value} : mw d 43 Q 9 [some w, x1, x2] (st) h = mv_a w (mw d 43 Q 10 [some w, x1, x2] (w :: st) h) := (mw_at mj_43_9).trans (z_aload_n rfl)
theorem mj_43_10 : mc_P 43 10 = some (.bipush 62, 2, 0, 0, 0) := by decide +kernel
theorem s_43_10 {x0 x1 x2 : Option Value} : mw d 43 Q 10 [x0, x1, x2] (st) h = mw d 43 Q 12 [x0, x1, x2] (.int 62 :: st) h := (mw_at mj_43_10).trans (z_bipush (by decide))
theorem mj_43_12 : mc_P 43 12 = some (.newarray .int, 2, 100, 0, 0) := by decide +kernel
theorem s_43_12 {x0 x1 x2 : Option Value} {i : Int32} : mw d 43 Q 12 [x0, x1, x2] (.int i :: st) h = (mN i ∧ mw d 43 Q 14 [x0, x1, x2] (.ref (mh_n h) :: st) (mh_new h 100 i.toNatClampNeg)) := (mw_at mj_43_12).trans (z_newa (by decide) (by decide))
theorem mj_43_14 : mc_P 43 14 = some (.putfield 15, 3, 3, 9, 0) := by decide +kernel
theorem s_43_14 {x0 x1 x2 : Option Value} {o w : Nat} : mw d 43 Q 14 [x0, x1, x2] (.ref w :: .ref o :: st) h = (mg h o 3 ∧ mw d 43 Q 17 [x0, x1, x2] (st) (mh_sr h o 9 (some w))) := (mw_at mj_43_14).trans (z_putr (by decide) (by decide) rfl)
theorem s_43_14n {x0 x1 x2 : Option Value} {o : Nat} : mw d 43 Q 14 [x0, x1, x2] (.null :: .ref o :: st) h = (mg h o 3 ∧ mw d 43 Q 17 [x0, x1, x2] (st) (mh_sr h o 9 none)) := (mw_at mj_43_14).trans (z_putn (by decide) (by decide) rfl)
theorem mj_43_17 : mc_P 43 17 = some (.aload_n 0, 1, 0, 0, 0) := by decide +kernel
theorem s_43_17 {x1 x2 : Option Value} {w : Value} : mw d 43 Q 17 [some w, x1, x2] (st) h = mv_a w (mw d 43 Q 18 [some w, x1, x2] (w :: st) h) := (mw_at mj_43_17).trans (z_aload_n rfl)
theorem mj_43_18 : mc_P 43 18 = some (.aload_n 1, 1, 0, 0, 0) := by decide +kernel
theorem s_43_18 {x0 x2 : Option Value} {w : Value} : mw d 43 Q 18 [x0, some w, x2] (st) h = mv_a w (mw d 43 Q 19 [x0, some w, x2] (w :: st) h) := (mw_at mj_43_18).trans (z_aload_n rfl)
theorem mj_43_19 : mc_P 43 19 = some (.putfield 19, 3, 3, 0, 0) := by decide +kernel
theorem s_43_19 {x0 x1 x2 : Option Value} {o w : Nat} : mw d 43 Q 19 [x0, x1, x2] (.ref w :: .ref o :: st) h = (mg h o 3 ∧ mw d 43 Q 22 [x0, x1, x2] (st) (mh_sr h o 0 (some w))) := (mw_at mj_43_19).trans (z_putr (by decide) (by decide) rfl)
theorem s_43_19n {x0 x1 x2 : Option Value} {o : Nat} : mw d 43 Q 19 [x0, x1, x2] (.null :: .ref o :: st) h = (mg h o 3 ∧ mw d 43 Q 22 [x0, x1, x2] (st) (mh_sr h o 0 none)) := (mw_at mj_43_19).trans (z_putn (by decide) (by decide) rfl)
theorem mj_43_22 : mc_P 43 22 = some (.aload_n 0, 1, 0, 0, 0) := by decide +kernel
theorem s_43_22 {x1 x2 : Option Value} {w : Value} : mw d 43 Q 22 [some w, x1, x2] (st) h = mv_a w (mw d 43 Q 23 [some w, x1, x2] (w :: st) h) := (mw_at mj_43_22).trans (z_aload_n rfl)
theorem mj_43_23 : mc_P 43 23 = some (.aload_n 2, 1, 0, 0, 0) := by decide +kernel
theorem s_43_23 {x0 x1 : Option Value} {w : Value} : mw d 43 Q 23 [x0, x1, some w] (st) h = mv_a w (mw d 43 Q 24 [x0, x1, some w] (w :: st) h) := (mw_at mj_43_23).trans (z_aload_n rfl)
theorem mj_43_24 : mc_P 43 24 = some (.putfield 23, 3, 3, 1, 0) := by decide +kernel
theorem s_43_24 {x0 x1 x2 : Option Value} {o w : Nat} : mw d 43 Q 24 [x0, x1, x2] (.ref w :: .ref o :: st) h = (mg h o 3 ∧ mw d 43 Q 27 [x0, x1, x2] (st) (mh_sr h o 1 (some w))) := (mw_at mj_43_24).trans (z_putr (by decide) (by decide) rfl)
theorem s_43_24n {x0 x1 x2 : Option Value} {o : Nat} : mw d 43 Q 24 [x0, x1, x2] (.null :: .ref o :: st) h = (mg h o 3 ∧ mw d 43 Q 27 [x0, x1, x2] (st) (mh_sr h o 1 none)) := (mw_at mj_43_24).trans (z_putn (by decide) (by decide) rfl)
theorem mj_43_27 : mc_P 43 27 = some (.aload_n 0, 1, 0, 0, 0) := by decide +kernel
theorem s_43_27 {x1 x2 : Option Value} {w : Value} : mw d 43 Q 27 [some w, x1, x2] (st) h = mv_a w (mw d 43 Q 28 [some w, x1, x2] (w :: st) h) := (mw_at mj_43_27).trans (z_aload_n rfl)
theorem mj_43_28 : mc_P 43 28 = some (.new 27, 3, 6, 0, 0) := by decide +kernel
theorem s_43_28 {x0 x1 x2 : Option Value} : mw d 43 Q 28 [x0, x1, x2] (st) h = mw d 43 Q 31 [x0, x1, x2] (.ref (mh_n h) :: st) (mh_new h 6 9) := (mw_at mj_43_28).trans (z_new (by decide) rfl)
theorem mj_43_31 : mc_P 43 31 = some (.dup, 1, 0, 0, 0) := by decide +kernel
theorem s_43_31 {x0 x1 x2 : Option Value} {w : Value} : mw d 43 Q 31 [x0, x1, x2] (w :: st) h = (w.category = 1 ∧ mw d 43 Q 32 [x0, x1, x2] (w :: w :: st) h) := (mw_at mj_43_31).trans (z_dup)
theorem mj_43_32 : mc_P 43 32 = some (.aload_n 1, 1, 0, 0, 0) := by decide +kernel
theorem s_43_32 {x0 x2 : Option Value} {w : Value} : mw d 43 Q 32 [x0, some w, x2] (st) h = mv_a w (mw d 43 Q 33 [x0, some w, x2] (w :: st) h) := (mw_at mj_43_32).trans (z_aload_n rfl)
theorem mj_43_33 : mc_P 43 33 = some (.invokespecial 29, 3, 116, 0, 2) := by decide +kernel
theorem s_43_33 {x0 x1 x2 : Option Value} {o : Nat} {a1 : Value} : mw (d + 1) 43 Q 33 [x0, x1, x2] (a1 :: .ref o :: st) h = (mca st 8 ∧ mca [.ref o, a1] 3 ∧ mcall d 116 [.ref o, a1] h (mK (d + 1) 43 Q 36 [x0, x1, x2] st)) := (mw_at mj_43_33).trans ((z_invsp (As := [a1]) (by decide) rfl rfl).trans (congrArg (And _) (mC_nl nl_116)))
theorem mj_43_36 : mc_P 43 36 = some (.putfield 32, 3, 3, 2, 0) := by decide +kernel
theorem s_43_36 {x0 x1 x2 : Option Value} {o w : Nat} : mw d 43 Q 36 [x0, x1, x2] (.ref w :: .ref o :: st) h = (mg h o 3 ∧ mw d 43 Q 39 [x0, x1, x2] (st) (mh_sr h o 2 (some w))) := (mw_at mj_43_36).trans (z_putr (by decide) (by decide) rfl)
theorem s_43_36n {x0 x1 x2 : Option Value} {o : Nat} : mw d 43 Q 36 [x0, x1, x2] (.null :: .ref o :: st) h = (mg h o 3 ∧ mw d 43 Q 39 [x0, x1, x2] (st) (mh_sr h o 2 none)) := (mw_at mj_43_36).trans (z_putn (by decide) (by decide) rfl)
theorem mj_43_39 : mc_P 43 39 = some (.aload_n 0, 1, 0, 0, 0) := by decide +kernel
theorem s_43_39 {x1 x2 : Option Value} {w : Value} : mw d 43 Q 39 [some w, x1, x2] (st) h = mv_a w (mw d 43 Q 40 [some w, x1, x2] (w :: st) h) := (mw_at mj_43_39).trans (z_aload_n rfl)
theorem mj_43_40 : mc_P 43 40 = some (.bipush 12, 2, 0, 0, 0) := by decide +kernel
theorem s_43_40 {x0 x1 x2 : Option Value} : mw d 43 Q 40 [x0, x1, x2] (st) h = mw d 43 Q 42 [x0, x1, x2] (.int 12 :: st) h := (mw_at mj_43_40).trans (z_bipush (by decide))
theorem mj_43_42 : mc_P 43 42 = some (.aload_n 1, 1, 0, 0, 0) := by decide +kernel
theorem s_43_42 {x0 x2 : Option Value} {w : Value} : mw d 43 Q 42 [x0, some w, x2] (st) h = mv_a w (mw d 43 Q 43 [x0, some w, x2] (w :: st) h) := (mw_at mj_43_42).trans (z_aload_n rfl)
theorem mj_43_43 : mc_P 43 43 = some (.getfield 36, 3, 10, 0, 0) := by decide +kernel
theorem s_43_43 {x0 x1 x2 : Option Value} {o : Nat} : mw d 43 Q 43 [x0, x1, x2] (.ref o :: st) h = (mg h o 10 ∧ mw d 43 Q 46 [x0, x1, x2] (va_rf (mh_r h o 0) :: st) h) := (mw_at mj_43_43).trans (z_getr (by decide) (by decide) rfl)
theorem mj_43_46 : mc_P 43 46 = some (.arraylength, 1, 0, 0, 0) := by decide +kernel
theorem s_43_46 {x0 x1 x2 : Option Value} {o : Nat} : mw d 43 Q 46 [x0, x1, x2] (.ref o :: st) h = (mga h o ∧ mw d 43 Q 47 [x0, x1, x2] (.int (Int32.ofNat (mh_l h o)) :: st) h) := (mw_at mj_43_46).trans (z_alen)
theorem mj_43_47 : mc_P 43 47 = some (.bipush 60, 2, 0, 0, 0) := by decide +kernel
theorem s_43_47 {x0 x1 x2 : Option Value} : mw d 43 Q 47 [x0, x1, x2] (st) h = mw d 43 Q 49 [x0, x1, x2] (.int 60 :: st) h := (mw_at mj_43_47).trans (z_bipush (by decide))
theorem mj_43_49 : mc_P 43 49 = some (.invokestatic 42, 3, 0, 20, 0) := by decide +kernel
theorem s_43_49 {x0 x1 x2 : Option Value} {x w : Int32} : mw d 43 Q 49 [x0, x1, x2] (.int w :: .int x :: st) h = (mca st 8 ∧ mw d 43 Q 52 [x0, x1, x2] (.int (if w < x then w else x) :: st) h) := (mw_at mj_43_49).trans (z_min)
theorem mj_43_52 : mc_P 43 52 = some (.iconst 3, 1, 0, 0, 0) := by decide +kernel
theorem s_43_52 {x0 x1 x2 : Option Value} : mw d 43 Q 52 [x0, x1, x2] (st) h = mw d 43 Q 53 [x0, x1, x2] (.int 3 :: st) h := (mw_at mj_43_52).trans (z_iconst (by decide))
theorem mj_43_53 : mc_P 43 53 = some (.iadd, 1, 0, 0, 0) := by decide +kernel
theorem s_43_53 {x0 x1 x2 : Option Value} {x w : Int32} : mw d 43 Q 53 [x0, x1, x2] (.int w :: .int x :: st) h = mw d 43 Q 54 [x0, x1, x2] (.int (x + w) :: st) h := (mw_at mj_43_53).trans (z_iadd)
theorem mj_43_54 : mc_P 43 54 = some (.imul, 1, 0, 0, 0) := by decide +kernel
theorem s_43_54 {x0 x1 x2 : Option Value} {x w : Int32} : mw d 43 Q 54 [x0, x1, x2] (.int w :: .int x :: st) h = mw d 43 Q 55 [x0, x1, x2] (.int (x * w) :: st) h := (mw_at mj_43_54).trans (z_imul)
theorem mj_43_55 : mc_P 43 55 = some (.newarray .int, 2, 100, 0, 0) := by decide +kernel
theorem s_43_55 {x0 x1 x2 : Option Value} {i : Int32} : mw d 43 Q 55 [x0, x1, x2] (.int i :: st) h = (mN i ∧ mw d 43 Q 57 [x0, x1, x2] (.ref (mh_n h) :: st) (mh_new h 100 i.toNatClampNeg)) := (mw_at mj_43_55).trans (z_newa (by decide) (by decide))
theorem mj_43_57 : mc_P 43 57 = some (.putfield 48, 3, 3, 3, 0) := by decide +kernel
theorem s_43_57 {x0 x1 x2 : Option Value} {o w : Nat} : mw d 43 Q 57 [x0, x1, x2] (.ref w :: .ref o :: st) h = (mg h o 3 ∧ mw d 43 Q 60 [x0, x1, x2] (st) (mh_sr h o 3 (some w))) := (mw_at mj_43_57).trans (z_putr (by decide) (by decide) rfl)
theorem s_43_57n {x0 x1 x2 : Option Value} {o : Nat} : mw d 43 Q 57 [x0, x1, x2] (.null :: .ref o :: st) h = (mg h o 3 ∧ mw d 43 Q 60 [x0, x1, x2] (st) (mh_sr h o 3 none)) := (mw_at mj_43_57).trans (z_putn (by decide) (by decide) rfl)
theorem mj_43_60 : mc_P 43 60 = some (.return_, 1, 0, 0, 0) := by decide +kernel
theorem s_43_60 {x0 x1 x2 : Option Value} : mw d 43 Q 60 [x0, x1, x2] ([]) h = Q none h := (mw_at mj_43_60).trans (z_vret)
theorem e_43 {a0 : Nat} {a1 : Nat} {a2 : Nat} : mcall d 43 [.ref a0, .ref a1, .ref a2] h Q = mw d 43 Q 0 [some (.ref a0), some (.ref a1), some (.ref a2)] [] h := by
  show mw d 43 Q 0 (me_en (mc_nl 43) _) [] h = _
  rw [nl_43]; rfl

/-! InvariantDesk$Parser.parse()I -/
theorem mj_44_0 : mc_P 44 0 = some (.aload_n 0, 1, 0, 0, 0) := by decide +kernel
theorem s_44_0 {x1 x2 x3 : Option Value} {w : Value} : mw d 44 Q 0 [some w, x1, x2, x3] (st) h = mv_a w (mw d 44 Q 1 [some w, x1, x2, x3] (w :: st) h) := (mw_at mj_44_0).trans (z_aload_n rfl)
theorem mj_44_1 : mc_P 44 1 = some (.sipush 140, 3, 0, 0, 0) := by decide +kernel
theorem s_44_1 {x0 x1 x2 x3 : Option Value} : mw d 44 Q 1 [x0, x1, x2, x3] (st) h = mw d 44 Q 4 [x0, x1, x2, x3] (.int 140 :: st) h := (mw_at mj_44_1).trans (z_sipush (by decide))
theorem mj_44_4 : mc_P 44 4 = some (.invokevirtual 51, 3, 45, 3, 2) := by decide +kernel
theorem s_44_4 {x0 x1 x2 x3 : Option Value} {o : Nat} {a1 : Value} : mw (d + 1) 44 Q 4 [x0, x1, x2, x3] (a1 :: .ref o :: st) h = (mg h o 3 ∧ mca st 8 ∧ mca [.ref o, a1] 2 ∧ mcall d 45 [.ref o, a1] h (mK (d + 1) 44 Q 7 [x0, x1, x2, x3] st)) := (mw_at mj_44_4).trans ((z_invv (As := [a1]) (by decide) rfl rfl).trans (congrArg (And _) (congrArg (And _) (mC_nl nl_45))))
theorem mj_44_7 : mc_P 44 7 = some (.aload_n 0, 1, 0, 0, 0) := by decide +kernel
theorem s_44_7 {x1 x2 x3 : Option Value} {w : Value} : mw d 44 Q 7 [some w, x1, x2, x3] (st) h = mv_a w (mw d 44 Q 8 [some w, x1, x2, x3] (w :: st) h) := (mw_at mj_44_7).trans (z_aload_n rfl)
theorem mj_44_8 : mc_P 44 8 = some (.sipush 141, 3, 0, 0, 0) := by decide +kernel
theorem s_44_8 {x0 x1 x2 x3 : Option Value} : mw d 44 Q 8 [x0, x1, x2, x3] (st) h = mw d 44 Q 11 [x0, x1, x2, x3] (.int 141 :: st) h := (mw_at mj_44_8).trans (z_sipush (by decide))
theorem mj_44_11 : mc_P 44 11 = some (.invokevirtual 51, 3, 45, 3, 2) := by decide +kernel
theorem s_44_11 {x0 x1 x2 x3 : Option Value} {o : Nat} {a1 : Value} : mw (d + 1) 44 Q 11 [x0, x1, x2, x3] (a1 :: .ref o :: st) h = (mg h o 3 ∧ mca st 8 ∧ mca [.ref o, a1] 2 ∧ mcall d 45 [.ref o, a1] h (mK (d + 1) 44 Q 14 [x0, x1, x2, x3] st)) := (mw_at mj_44_11).trans ((z_invv (As := [a1]) (by decide) rfl rfl).trans (congrArg (And _) (congrArg (And _) (mC_nl nl_45))))
theorem mj_44_14 : mc_P 44 14 = some (.iconst 0, 1, 0, 0, 0) := by decide +kernel
theorem s_44_14 {x0 x1 x2 x3 : Option Value} : mw d 44 Q 14 [x0, x1, x2, x3] (st) h = mw d 44 Q 15 [x0, x1, x2, x3] (.int 0 :: st) h := (mw_at mj_44_14).trans (z_iconst (by decide))
theorem mj_44_15 : mc_P 44 15 = some (.istore_n 1, 1, 0, 0, 0) := by decide +kernel
theorem s_44_15 {x0 x1 x2 x3 : Option Value} {w : Int32} : mw d 44 Q 15 [x0, x1, x2, x3] (.int w :: st) h = mw d 44 Q 16 [mk2 x0, some (.int w), x2, x3] (st) h := (mw_at mj_44_15).trans (z_istore_n (Nat.le_of_ble_eq_true rfl) (me_s1_mk (j := 0) (w := x0) rfl))
theorem mj_44_16 : mc_P 44 16 = some (.iload_n 1, 1, 0, 0, 0) := by decide +kernel
theorem s_44_16 {x0 x2 x3 : Option Value} {w : Value} : mw d 44 Q 16 [x0, some w, x2, x3] (st) h = mv_i w (mw d 44 Q 17 [x0, some w, x2, x3] (w :: st) h) := (mw_at mj_44_16).trans (z_iload_n rfl)
theorem mj_44_17 : mc_P 44 17 = some (.ldc 55, 2, 0, 0, 1000000) := by decide +kernel
theorem s_44_17 {x0 x1 x2 x3 : Option Value} : mw d 44 Q 17 [x0, x1, x2, x3] (st) h = mw d 44 Q 19 [x0, x1, x2, x3] (.int 1000000 :: st) h := (mw_at mj_44_17).trans (z_ldc (by decide))
theorem mj_44_19 : mc_P 44 19 = some (.if_icmp .ge 173, 3, 0, 0, 0) := by decide +kernel
theorem s_44_19 {x0 x1 x2 x3 : Option Value} {x w : Int32} : mw d 44 Q 19 [x0, x1, x2, x3] (.int w :: .int x :: st) h = mB (w ≤ x) (mw d 44 Q) 192 22 [x0, x1, x2, x3] st h := (mw_at mj_44_19).trans (z_icmp_ge (by decide) rfl)
theorem mj_44_22 : mc_P 44 22 = some (.aload_n 0, 1, 0, 0, 0) := by decide +kernel
theorem s_44_22 {x1 x2 x3 : Option Value} {w : Value} : mw d 44 Q 22 [some w, x1, x2, x3] (st) h = mv_a w (mw d 44 Q 23 [some w, x1, x2, x3] (w :: st) h) := (mw_at mj_44_22).trans (z_aload_n rfl)
theorem mj_44_23 : mc_P 44 23 = some (.getfield 56, 3, 3, 4, 0) := by decide +kernel
theorem s_44_23 {x0 x1 x2 x3 : Option Value} {o : Nat} : mw d 44 Q 23 [x0, x1, x2, x3] (.ref o :: st) h = (mg h o 3 ∧ mw d 44 Q 26 [x0, x1, x2, x3] (.int (mh_i h o 4) :: st) h) := (mw_at mj_44_23).trans (z_geti (by decide) (by decide) (Or.inl rfl))
theorem mj_44_26 : mc_P 44 26 = some (.ifCond .le 166, 3, 0, 0, 0) := by decide +kernel
theorem s_44_26 {x0 x1 x2 x3 : Option Value} {x : Int32} : mw d 44 Q 26 [x0, x1, x2, x3] (.int x :: st) h = mB (x ≤ 0) (mw d 44 Q) 192 29 [x0, x1, x2, x3] st h := (mw_at mj_44_26).trans (z_if_le (by decide) rfl)
theorem mj_44_29 : mc_P 44 29 = some (.aload_n 0, 1, 0, 0, 0) := by decide +kernel
theorem s_44_29 {x1 x2 x3 : Option Value} {w : Value} : mw d 44 Q 29 [some w, x1, x2, x3] (st) h = mv_a w (mw d 44 Q 30 [some w, x1, x2, x3] (w :: st) h) := (mw_at mj_44_29).trans (z_aload_n rfl)
theorem mj_44_30 : mc_P 44 30 = some (.getfield 9, 3, 3, 7, 0) := by decide +kernel
theorem s_44_30 {x0 x1 x2 x3 : Option Value} {o : Nat} : mw d 44 Q 30 [x0, x1, x2, x3] (.ref o :: st) h = (mg h o 3 ∧ mw d 44 Q 33 [x0, x1, x2, x3] (.int (mh_i h o 7) :: st) h) := (mw_at mj_44_30).trans (z_geti (by decide) (by decide) (Or.inl rfl))
theorem mj_44_33 : mc_P 44 33 = some (.iconst (-1), 1, 0, 0, 0) := by decide +kernel
theorem s_44_33 {x0 x1 x2 x3 : Option Value} : mw d 44 Q 33 [x0, x1, x2, x3] (st) h = mw d 44 Q 34 [x0, x1, x2, x3] (.int (-1) :: st) h := (mw_at mj_44_33).trans (z_iconst (by decide))
theorem mj_44_34 : mc_P 44 34 = some (.if_icmp .ne 158, 3, 0, 0, 0) := by decide +kernel
theorem s_44_34 {x0 x1 x2 x3 : Option Value} {x w : Int32} : mw d 44 Q 34 [x0, x1, x2, x3] (.int w :: .int x :: st) h = mB (¬ x = w) (mw d 44 Q) 192 37 [x0, x1, x2, x3] st h := (mw_at mj_44_34).trans (z_icmp_ne (by decide) rfl)
theorem mj_44_37 : mc_P 44 37 = some (.aload_n 0, 1, 0, 0, 0) := by decide +kernel
theorem s_44_37 {x1 x2 x3 : Option Value} {w : Value} : mw d 44 Q 37 [some w, x1, x2, x3] (st) h = mv_a w (mw d 44 Q 38 [some w, x1, x2, x3] (w :: st) h) := (mw_at mj_44_37).trans (z_aload_n rfl)
theorem mj_44_38 : mc_P 44 38 = some (.dup, 1, 0, 0, 0) := by decide +kernel
theorem s_44_38 {x0 x1 x2 x3 : Option Value} {w : Value} : mw d 44 Q 38 [x0, x1, x2, x3] (w :: st) h = (w.category = 1 ∧ mw d 44 Q 39 [x0, x1, x2, x3] (w :: w :: st) h) := (mw_at mj_44_38).trans (z_dup)
theorem mj_44_39 : mc_P 44 39 = some (.getfield 56, 3, 3, 4, 0) := by decide +kernel
theorem s_44_39 {x0 x1 x2 x3 : Option Value} {o : Nat} : mw d 44 Q 39 [x0, x1, x2, x3] (.ref o :: st) h = (mg h o 3 ∧ mw d 44 Q 42 [x0, x1, x2, x3] (.int (mh_i h o 4) :: st) h) := (mw_at mj_44_39).trans (z_geti (by decide) (by decide) (Or.inl rfl))
theorem mj_44_42 : mc_P 44 42 = some (.iconst 1, 1, 0, 0, 0) := by decide +kernel
theorem s_44_42 {x0 x1 x2 x3 : Option Value} : mw d 44 Q 42 [x0, x1, x2, x3] (st) h = mw d 44 Q 43 [x0, x1, x2, x3] (.int 1 :: st) h := (mw_at mj_44_42).trans (z_iconst (by decide))
theorem mj_44_43 : mc_P 44 43 = some (.isub, 1, 0, 0, 0) := by decide +kernel
theorem s_44_43 {x0 x1 x2 x3 : Option Value} {x w : Int32} : mw d 44 Q 43 [x0, x1, x2, x3] (.int w :: .int x :: st) h = mw d 44 Q 44 [x0, x1, x2, x3] (.int (x - w) :: st) h := (mw_at mj_44_43).trans (z_isub)
theorem mj_44_44 : mc_P 44 44 = some (.putfield 56, 3, 3, 4, 0) := by decide +kernel
theorem s_44_44 {x0 x1 x2 x3 : Option Value} {o : Nat} {w : Int32} : mw d 44 Q 44 [x0, x1, x2, x3] (.int w :: .ref o :: st) h = (mg h o 3 ∧ mw d 44 Q 47 [x0, x1, x2, x3] (st) (mh_si h o 4 w)) := (mw_at mj_44_44).trans (z_puti (by decide) (by decide) rfl)
theorem mj_44_47 : mc_P 44 47 = some (.aload_n 0, 1, 0, 0, 0) := by decide +kernel
theorem s_44_47 {x1 x2 x3 : Option Value} {w : Value} : mw d 44 Q 47 [some w, x1, x2, x3] (st) h = mv_a w (mw d 44 Q 48 [some w, x1, x2, x3] (w :: st) h) := (mw_at mj_44_47).trans (z_aload_n rfl)
theorem mj_44_48 : mc_P 44 48 = some (.getfield 48, 3, 3, 3, 0) := by decide +kernel
theorem s_44_48 {x0 x1 x2 x3 : Option Value} {o : Nat} : mw d 44 Q 48 [x0, x1, x2, x3] (.ref o :: st) h = (mg h o 3 ∧ mw d 44 Q 51 [x0, x1, x2, x3] (va_rf (mh_r h o 3) :: st) h) := (mw_at mj_44_48).trans (z_getr (by decide) (by decide) rfl)
theorem mj_44_51 : mc_P 44 51 = some (.aload_n 0, 1, 0, 0, 0) := by decide +kernel
theorem s_44_51 {x1 x2 x3 : Option Value} {w : Value} : mw d 44 Q 51 [some w, x1, x2, x3] (st) h = mv_a w (mw d 44 Q 52 [some w, x1, x2, x3] (w :: st) h) := (mw_at mj_44_51).trans (z_aload_n rfl)
theorem mj_44_52 : mc_P 44 52 = some (.getfield 56, 3, 3, 4, 0) := by decide +kernel
theorem s_44_52 {x0 x1 x2 x3 : Option Value} {o : Nat} : mw d 44 Q 52 [x0, x1, x2, x3] (.ref o :: st) h = (mg h o 3 ∧ mw d 44 Q 55 [x0, x1, x2, x3] (.int (mh_i h o 4) :: st) h) := (mw_at mj_44_52).trans (z_geti (by decide) (by decide) (Or.inl rfl))
theorem mj_44_55 : mc_P 44 55 = some (.iaload, 1, 0, 0, 0) := by decide +kernel
theorem s_44_55 {x0 x1 x2 x3 : Option Value} {o : Nat} {i : Int32} : mw d 44 Q 55 [x0, x1, x2, x3] (.int i :: .ref o :: st) h = (mg h o 100 ∧ mx i (mh_l h o) ∧ mw d 44 Q 56 [x0, x1, x2, x3] (.int (mh_i h o i.toNatClampNeg) :: st) h) := (mw_at mj_44_55).trans (z_iald)
theorem mj_44_56 : mc_P 44 56 = some (.sipush 255, 3, 0, 0, 0) := by decide +kernel
theorem s_44_56 {x0 x1 x2 x3 : Option Value} : mw d 44 Q 56 [x0, x1, x2, x3] (st) h = mw d 44 Q 59 [x0, x1, x2, x3] (.int 255 :: st) h := (mw_at mj_44_56).trans (z_sipush (by decide))
theorem mj_44_59 : mc_P 44 59 = some (.iand, 1, 0, 0, 0) := by decide +kernel
theorem s_44_59 {x0 x1 x2 x3 : Option Value} {x w : Int32} : mw d 44 Q 59 [x0, x1, x2, x3] (.int w :: .int x :: st) h = mw d 44 Q 60 [x0, x1, x2, x3] (.int (x &&& w) :: st) h := (mw_at mj_44_59).trans (z_iand)
theorem mj_44_60 : mc_P 44 60 = some (.istore_n 2, 1, 0, 0, 0) := by decide +kernel
theorem s_44_60 {x0 x1 x2 x3 : Option Value} {w : Int32} : mw d 44 Q 60 [x0, x1, x2, x3] (.int w :: st) h = mw d 44 Q 61 [x0, mk2 x1, some (.int w), x3] (st) h := (mw_at mj_44_60).trans (z_istore_n (Nat.le_of_ble_eq_true rfl) (me_s1_mk (j := 1) (w := x1) rfl))
theorem mj_44_61 : mc_P 44 61 = some (.aload_n 0, 1, 0, 0, 0) := by decide +kernel
theorem s_44_61 {x1 x2 x3 : Option Value} {w : Value} : mw d 44 Q 61 [some w, x1, x2, x3] (st) h = mv_a w (mw d 44 Q 62 [some w, x1, x2, x3] (w :: st) h) := (mw_at mj_44_61).trans (z_aload_n rfl)
theorem mj_44_62 : mc_P 44 62 = some (.getfield 48, 3, 3, 3, 0) := by decide +kernel
theorem s_44_62 {x0 x1 x2 x3 : Option Value} {o : Nat} : mw d 44 Q 62 [x0, x1, x2, x3] (.ref o :: st) h = (mg h o 3 ∧ mw d 44 Q 65 [x0, x1, x2, x3] (va_rf (mh_r h o 3) :: st) h) := (mw_at mj_44_62).trans (z_getr (by decide) (by decide) rfl)
theorem mj_44_65 : mc_P 44 65 = some (.aload_n 0, 1, 0, 0, 0) := by decide +kernel
theorem s_44_65 {x1 x2 x3 : Option Value} {w : Value} : mw d 44 Q 65 [some w, x1, x2, x3] (st) h = mv_a w (mw d 44 Q 66 [some w, x1, x2, x3] (w :: st) h) := (mw_at mj_44_65).trans (z_aload_n rfl)
theorem mj_44_66 : mc_P 44 66 = some (.getfield 56, 3, 3, 4, 0) := by decide +kernel
theorem s_44_66 {x0 x1 x2 x3 : Option Value} {o : Nat} : mw d 44 Q 66 [x0, x1, x2, x3] (.ref o :: st) h = (mg h o 3 ∧ mw d 44 Q 69 [x0, x1, x2, x3] (.int (mh_i h o 4) :: st) h) := (mw_at mj_44_66).trans (z_geti (by decide) (by decide) (Or.inl rfl))
theorem mj_44_69 : mc_P 44 69 = some (.iaload, 1, 0, 0, 0) := by decide +kernel
theorem s_44_69 {x0 x1 x2 x3 : Option Value} {o : Nat} {i : Int32} : mw d 44 Q 69 [x0, x1, x2, x3] (.int i :: .ref o :: st) h = (mg h o 100 ∧ mx i (mh_l h o) ∧ mw d 44 Q 70 [x0, x1, x2, x3] (.int (mh_i h o i.toNatClampNeg) :: st) h) := (mw_at mj_44_69).trans (z_iald)
theorem mj_44_70 : mc_P 44 70 = some (.bipush 8, 2, 0, 0, 0) := by decide +kernel
theorem s_44_70 {x0 x1 x2 x3 : Option Value} : mw d 44 Q 70 [x0, x1, x2, x3] (st) h = mw d 44 Q 72 [x0, x1, x2, x3] (.int 8 :: st) h := (mw_at mj_44_70).trans (z_bipush (by decide))
theorem mj_44_72 : mc_P 44 72 = some (.ishr, 1, 0, 0, 0) := by decide +kernel
theorem s_44_72 {x0 x1 x2 x3 : Option Value} {x w : Int32} : mw d 44 Q 72 [x0, x1, x2, x3] (.int w :: .int x :: st) h = mw d 44 Q 73 [x0, x1, x2, x3] (.int (x >>> (w &&& 31)) :: st) h := (mw_at mj_44_72).trans (z_ishr)
theorem mj_44_73 : mc_P 44 73 = some (.istore_n 3, 1, 0, 0, 0) := by decide +kernel
theorem s_44_73 {x0 x1 x2 x3 : Option Value} {w : Int32} : mw d 44 Q 73 [x0, x1, x2, x3] (.int w :: st) h = mw d 44 Q 74 [x0, x1, mk2 x2, some (.int w)] (st) h := (mw_at mj_44_73).trans (z_istore_n (Nat.le_of_ble_eq_true rfl) (me_s1_mk (j := 2) (w := x2) rfl))
theorem mj_44_74 : mc_P 44 74 = some (.iload_n 2, 1, 0, 0, 0) := by decide +kernel
theorem s_44_74 {x0 x1 x3 : Option Value} {w : Value} : mw d 44 Q 74 [x0, x1, some w, x3] (st) h = mv_i w (mw d 44 Q 75 [x0, x1, some w, x3] (w :: st) h) := (mw_at mj_44_74).trans (z_iload_n rfl)
theorem mj_44_75 : mc_P 44 75 = some (.sipush 140, 3, 0, 0, 0) := by decide +kernel
theorem s_44_75 {x0 x1 x2 x3 : Option Value} : mw d 44 Q 75 [x0, x1, x2, x3] (st) h = mw d 44 Q 78 [x0, x1, x2, x3] (.int 140 :: st) h := (mw_at mj_44_75).trans (z_sipush (by decide))
theorem mj_44_78 : mc_P 44 78 = some (.if_icmp .ge 11, 3, 0, 0, 0) := by decide +kernel
theorem s_44_78 {x0 x1 x2 x3 : Option Value} {x w : Int32} : mw d 44 Q 78 [x0, x1, x2, x3] (.int w :: .int x :: st) h = mB (w ≤ x) (mw d 44 Q) 89 81 [x0, x1, x2, x3] st h := (mw_at mj_44_78).trans (z_icmp_ge (by decide) rfl)
theorem mj_44_81 : mc_P 44 81 = some (.aload_n 0, 1, 0, 0, 0) := by decide +kernel
theorem s_44_81 {x1 x2 x3 : Option Value} {w : Value} : mw d 44 Q 81 [some w, x1, x2, x3] (st) h = mv_a w (mw d 44 Q 82 [some w, x1, x2, x3] (w :: st) h) := (mw_at mj_44_81).trans (z_aload_n rfl)
theorem mj_44_82 : mc_P 44 82 = some (.iload_n 2, 1, 0, 0, 0) := by decide +kernel
theorem s_44_82 {x0 x1 x3 : Option Value} {w : Value} : mw d 44 Q 82 [x0, x1, some w, x3] (st) h = mv_i w (mw d 44 Q 83 [x0, x1, some w, x3] (w :: st) h) := (mw_at mj_44_82).trans (z_iload_n rfl)
theorem mj_44_83 : mc_P 44 83 = some (.invokevirtual 59, 3, 51, 3, 2) := by decide +kernel
theorem s_44_83 {x0 x1 x2 x3 : Option Value} {o : Nat} {a1 : Value} : mw (d + 1) 44 Q 83 [x0, x1, x2, x3] (a1 :: .ref o :: st) h = (mg h o 3 ∧ mca st 8 ∧ mca [.ref o, a1] 2 ∧ mcall d 51 [.ref o, a1] h (mK (d + 1) 44 Q 86 [x0, x1, x2, x3] st)) := (mw_at mj_44_83).trans ((z_invv (As := [a1]) (by decide) rfl rfl).trans (congrArg (And _) (congrArg (And _) (mC_nl nl_51))))
theorem mj_44_86 : mc_P 44 86 = some (.goto 100, 3, 0, 0, 0) := by decide +kernel
theorem s_44_86 {x0 x1 x2 x3 : Option Value} : mw d 44 Q 86 [x0, x1, x2, x3] (st) h = mw d 44 Q 186 [x0, x1, x2, x3] (st) h := (mw_at mj_44_86).trans (z_goto (by decide))
theorem mj_44_89 : mc_P 44 89 = some (.iload_n 2, 1, 0, 0, 0) := by decide +kernel
theorem s_44_89 {x0 x1 x3 : Option Value} {w : Value} : mw d 44 Q 89 [x0, x1, some w, x3] (st) h = mv_i w (mw d 44 Q 90 [x0, x1, some w, x3] (w :: st) h) := (mw_at mj_44_89).trans (z_iload_n rfl)
theorem mj_44_90 : mc_P 44 90 = some (.sipush 147, 3, 0, 0, 0) := by decide +kernel
theorem s_44_90 {x0 x1 x2 x3 : Option Value} : mw d 44 Q 90 [x0, x1, x2, x3] (st) h = mw d 44 Q 93 [x0, x1, x2, x3] (.int 147 :: st) h := (mw_at mj_44_90).trans (z_sipush (by decide))
theorem mj_44_93 : mc_P 44 93 = some (.if_icmp .ge 11, 3, 0, 0, 0) := by decide +kernel
theorem s_44_93 {x0 x1 x2 x3 : Option Value} {x w : Int32} : mw d 44 Q 93 [x0, x1, x2, x3] (.int w :: .int x :: st) h = mB (w ≤ x) (mw d 44 Q) 104 96 [x0, x1, x2, x3] st h := (mw_at mj_44_93).trans (z_icmp_ge (by decide) rfl)
theorem mj_44_96 : mc_P 44 96 = some (.aload_n 0, 1, 0, 0, 0) := by decide +kernel
theorem s_44_96 {x1 x2 x3 : Option Value} {w : Value} : mw d 44 Q 96 [some w, x1, x2, x3] (st) h = mv_a w (mw d 44 Q 97 [some w, x1, x2, x3] (w :: st) h) := (mw_at mj_44_96).trans (z_aload_n rfl)
theorem mj_44_97 : mc_P 44 97 = some (.iload_n 2, 1, 0, 0, 0) := by decide +kernel
theorem s_44_97 {x0 x1 x3 : Option Value} {w : Value} : mw d 44 Q 97 [x0, x1, some w, x3] (st) h = mv_i w (mw d 44 Q 98 [x0, x1, some w, x3] (w :: st) h) := (mw_at mj_44_97).trans (z_iload_n rfl)
theorem mj_44_98 : mc_P 44 98 = some (.invokevirtual 62, 3, 55, 3, 2) := by decide +kernel
theorem s_44_98 {x0 x1 x2 x3 : Option Value} {o : Nat} {a1 : Value} : mw (d + 1) 44 Q 98 [x0, x1, x2, x3] (a1 :: .ref o :: st) h = (mg h o 3 ∧ mca st 8 ∧ mca [.ref o, a1] 2 ∧ mcall d 55 [.ref o, a1] h (mK (d + 1) 44 Q 101 [x0, x1, x2, x3] st)) := (mw_at mj_44_98).trans ((z_invv (As := [a1]) (by decide) rfl rfl).trans (congrArg (And _) (congrArg (And _) (mC_nl nl_55))))
theorem mj_44_101 : mc_P 44 101 = some (.goto 85, 3, 0, 0, 0) := by decide +kernel
theorem s_44_101 {x0 x1 x2 x3 : Option Value} : mw d 44 Q 101 [x0, x1, x2, x3] (st) h = mw d 44 Q 186 [x0, x1, x2, x3] (st) h := (mw_at mj_44_101).trans (z_goto (by decide))
theorem mj_44_104 : mc_P 44 104 = some (.iload_n 2, 1, 0, 0, 0) := by decide +kernel
theorem s_44_104 {x0 x1 x3 : Option Value} {w : Value} : mw d 44 Q 104 [x0, x1, some w, x3] (st) h = mv_i w (mw d 44 Q 105 [x0, x1, some w, x3] (w :: st) h) := (mw_at mj_44_104).trans (z_iload_n rfl)
theorem mj_44_105 : mc_P 44 105 = some (.sipush 149, 3, 0, 0, 0) := by decide +kernel
theorem s_44_105 {x0 x1 x2 x3 : Option Value} : mw d 44 Q 105 [x0, x1, x2, x3] (st) h = mw d 44 Q 108 [x0, x1, x2, x3] (.int 149 :: st) h := (mw_at mj_44_105).trans (z_sipush (by decide))
theorem mj_44_108 : mc_P 44 108 = some (.if_icmp .ge 12, 3, 0, 0, 0) := by decide +kernel
theorem s_44_108 {x0 x1 x2 x3 : Option Value} {x w : Int32} : mw d 44 Q 108 [x0, x1, x2, x3] (.int w :: .int x :: st) h = mB (w ≤ x) (mw d 44 Q) 120 111 [x0, x1, x2, x3] st h := (mw_at mj_44_108).trans (z_icmp_ge (by decide) rfl)
theorem mj_44_111 : mc_P 44 111 = some (.aload_n 0, 1, 0, 0, 0) := by decide +kernel
theorem s_44_111 {x1 x2 x3 : Option Value} {w : Value} : mw d 44 Q 111 [some w, x1, x2, x3] (st) h = mv_a w (mw d 44 Q 112 [some w, x1, x2, x3] (w :: st) h) := (mw_at mj_44_111).trans (z_aload_n rfl)
theorem mj_44_112 : mc_P 44 112 = some (.iload_n 2, 1, 0, 0, 0) := by decide +kernel
theorem s_44_112 {x0 x1 x3 : Option Value} {w : Value} : mw d 44 Q 112 [x0, x1, some w, x3] (st) h = mv_i w (mw d 44 Q 113 [x0, x1, some w, x3] (w :: st) h) := (mw_at mj_44_112).trans (z_iload_n rfl)
theorem mj_44_113 : mc_P 44 113 = some (.iload_n 3, 1, 0, 0, 0) := by decide +kernel
theorem s_44_113 {x0 x1 x2 : Option Value} {w : Value} : mw d 44 Q 113 [x0, x1, x2, some w] (st) h = mv_i w (mw d 44 Q 114 [x0, x1, x2, some w] (w :: st) h) := (mw_at mj_44_113).trans (z_iload_n rfl)
theorem mj_44_114 : mc_P 44 114 = some (.invokevirtual 65, 3, 56, 3, 3) := by decide +kernel
theorem s_44_114 {x0 x1 x2 x3 : Option Value} {o : Nat} {a1 a2 : Value} : mw (d + 1) 44 Q 114 [x0, x1, x2, x3] (a2 :: a1 :: .ref o :: st) h = (mg h o 3 ∧ mca st 8 ∧ mca [.ref o, a1, a2] 3 ∧ mcall d 56 [.ref o, a1, a2] h (mK (d + 1) 44 Q 117 [x0, x1, x2, x3] st)) := (mw_at mj_44_114).trans ((z_invv (As := [a1, a2]) (by decide) rfl rfl).trans (congrArg (And _) (congrArg (And _) (mC_nl nl_56))))
theorem mj_44_117 : mc_P 44 117 = some (.goto 69, 3, 0, 0, 0) := by decide +kernel
theorem s_44_117 {x0 x1 x2 x3 : Option Value} : mw d 44 Q 117 [x0, x1, x2, x3] (st) h = mw d 44 Q 186 [x0, x1, x2, x3] (st) h := (mw_at mj_44_117).trans (z_goto (by decide))
theorem mj_44_120 : mc_P 44 120 = some (.iload_n 2, 1, 0, 0, 0) := by decide +kernel
theorem s_44_120 {x0 x1 x3 : Option Value} {w : Value} : mw d 44 Q 120 [x0, x1, some w, x3] (st) h = mv_i w (mw d 44 Q 121 [x0, x1, some w, x3] (w :: st) h) := (mw_at mj_44_120).trans (z_iload_n rfl)
theorem mj_44_121 : mc_P 44 121 = some (.sipush 149, 3, 0, 0, 0) := by decide +kernel
theorem s_44_121 {x0 x1 x2 x3 : Option Value} : mw d 44 Q 121 [x0, x1, x2, x3] (st) h = mw d 44 Q 124 [x0, x1, x2, x3] (.int 149 :: st) h := (mw_at mj_44_121).trans (z_sipush (by decide))
theorem mj_44_124 : mc_P 44 124 = some (.if_icmp .ne 10, 3, 0, 0, 0) := by decide +kernel
theorem s_44_124 {x0 x1 x2 x3 : Option Value} {x w : Int32} : mw d 44 Q 124 [x0, x1, x2, x3] (.int w :: .int x :: st) h = mB (¬ x = w) (mw d 44 Q) 134 127 [x0, x1, x2, x3] st h := (mw_at mj_44_124).trans (z_icmp_ne (by decide) rfl)
theorem mj_44_127 : mc_P 44 127 = some (.aload_n 0, 1, 0, 0, 0) := by decide +kernel
theorem s_44_127 {x1 x2 x3 : Option Value} {w : Value} : mw d 44 Q 127 [some w, x1, x2, x3] (st) h = mv_a w (mw d 44 Q 128 [some w, x1, x2, x3] (w :: st) h) := (mw_at mj_44_127).trans (z_aload_n rfl)
theorem mj_44_128 : mc_P 44 128 = some (.invokevirtual 69, 3, 58, 3, 1) := by decide +kernel
theorem s_44_128 {x0 x1 x2 x3 : Option Value} {o : Nat} : mw (d + 1) 44 Q 128 [x0, x1, x2, x3] (.ref o :: st) h = (mg h o 3 ∧ mca st 8 ∧ mca [.ref o] 1 ∧ mcall d 58 [.ref o] h (mK (d + 1) 44 Q 131 [x0, x1, x2, x3] st)) := (mw_at mj_44_128).trans ((z_invv (As := []) (by decide) rfl rfl).trans (congrArg (And _) (congrArg (And _) (mC_nl nl_58))))
theorem mj_44_131 : mc_P 44 131 = some (.goto 55, 3, 0, 0, 0) := by decide +kernel
theorem s_44_131 {x0 x1 x2 x3 : Option Value} : mw d 44 Q 131 [x0, x1, x2, x3] (st) h = mw d 44 Q 186 [x0, x1, x2, x3] (st) h := (mw_at mj_44_131).trans (z_goto (by decide))
theorem mj_44_134 : mc_P 44 134 = some (.iload_n 2, 1, 0, 0, 0) := by decide +kernel
theorem s_44_134 {x0 x1 x3 : Option Value} {w : Value} : mw d 44 Q 134 [x0, x1, some w, x3] (st) h = mv_i w (mw d 44 Q 135 [x0, x1, some w, x3] (w :: st) h) := (mw_at mj_44_134).trans (z_iload_n rfl)
theorem mj_44_135 : mc_P 44 135 = some (.sipush 161, 3, 0, 0, 0) := by decide +kernel
theorem s_44_135 {x0 x1 x2 x3 : Option Value} : mw d 44 Q 135 [x0, x1, x2, x3] (st) h = mw d 44 Q 138 [x0, x1, x2, x3] (.int 161 :: st) h := (mw_at mj_44_135).trans (z_sipush (by decide))
theorem mj_44_138 : mc_P 44 138 = some (.if_icmp .ge 11, 3, 0, 0, 0) := by decide +kernel
theorem s_44_138 {x0 x1 x2 x3 : Option Value} {x w : Int32} : mw d 44 Q 138 [x0, x1, x2, x3] (.int w :: .int x :: st) h = mB (w ≤ x) (mw d 44 Q) 149 141 [x0, x1, x2, x3] st h := (mw_at mj_44_138).trans (z_icmp_ge (by decide) rfl)
theorem mj_44_141 : mc_P 44 141 = some (.aload_n 0, 1, 0, 0, 0) := by decide +kernel
theorem s_44_141 {x1 x2 x3 : Option Value} {w : Value} : mw d 44 Q 141 [some w, x1, x2, x3] (st) h = mv_a w (mw d 44 Q 142 [some w, x1, x2, x3] (w :: st) h) := (mw_at mj_44_141).trans (z_aload_n rfl)
theorem mj_44_142 : mc_P 44 142 = some (.iload_n 2, 1, 0, 0, 0) := by decide +kernel
theorem s_44_142 {x0 x1 x3 : Option Value} {w : Value} : mw d 44 Q 142 [x0, x1, some w, x3] (st) h = mv_i w (mw d 44 Q 143 [x0, x1, some w, x3] (w :: st) h) := (mw_at mj_44_142).trans (z_iload_n rfl)
theorem mj_44_143 : mc_P 44 143 = some (.invokevirtual 72, 3, 66, 3, 2) := by decide +kernel
theorem s_44_143 {x0 x1 x2 x3 : Option Value} {o : Nat} {a1 : Value} : mw (d + 1) 44 Q 143 [x0, x1, x2, x3] (a1 :: .ref o :: st) h = (mg h o 3 ∧ mca st 8 ∧ mca [.ref o, a1] 4 ∧ mcall d 66 [.ref o, a1] h (mK (d + 1) 44 Q 146 [x0, x1, x2, x3] st)) := (mw_at mj_44_143).trans ((z_invv (As := [a1]) (by decide) rfl rfl).trans (congrArg (And _) (congrArg (And _) (mC_nl nl_66))))
theorem mj_44_146 : mc_P 44 146 = some (.goto 40, 3, 0, 0, 0) := by decide +kernel
theorem s_44_146 {x0 x1 x2 x3 : Option Value} : mw d 44 Q 146 [x0, x1, x2, x3] (st) h = mw d 44 Q 186 [x0, x1, x2, x3] (st) h := (mw_at mj_44_146).trans (z_goto (by decide))
theorem mj_44_149 : mc_P 44 149 = some (.iload_n 2, 1, 0, 0, 0) := by decide +kernel
theorem s_44_149 {x0 x1 x3 : Option Value} {w : Value} : mw d 44 Q 149 [x0, x1, some w, x3] (st) h = mv_i w (mw d 44 Q 150 [x0, x1, some w, x3] (w :: st) h) := (mw_at mj_44_149).trans (z_iload_n rfl)
theorem mj_44_150 : mc_P 44 150 = some (.sipush 166, 3, 0, 0, 0) := by decide +kernel
theorem s_44_150 {x0 x1 x2 x3 : Option Value} : mw d 44 Q 150 [x0, x1, x2, x3] (st) h = mw d 44 Q 153 [x0, x1, x2, x3] (.int 166 :: st) h := (mw_at mj_44_150).trans (z_sipush (by decide))
theorem mj_44_153 : mc_P 44 153 = some (.if_icmp .ne 11, 3, 0, 0, 0) := by decide +kernel
theorem s_44_153 {x0 x1 x2 x3 : Option Value} {x w : Int32} : mw d 44 Q 153 [x0, x1, x2, x3] (.int w :: .int x :: st) h = mB (¬ x = w) (mw d 44 Q) 164 156 [x0, x1, x2, x3] st h := (mw_at mj_44_153).trans (z_icmp_ne (by decide) rfl)
theorem mj_44_156 : mc_P 44 156 = some (.aload_n 0, 1, 0, 0, 0) := by decide +kernel
theorem s_44_156 {x1 x2 x3 : Option Value} {w : Value} : mw d 44 Q 156 [some w, x1, x2, x3] (st) h = mv_a w (mw d 44 Q 157 [some w, x1, x2, x3] (w :: st) h) := (mw_at mj_44_156).trans (z_aload_n rfl)
theorem mj_44_157 : mc_P 44 157 = some (.iload_n 3, 1, 0, 0, 0) := by decide +kernel
theorem s_44_157 {x0 x1 x2 : Option Value} {w : Value} : mw d 44 Q 157 [x0, x1, x2, some w] (st) h = mv_i w (mw d 44 Q 158 [x0, x1, x2, some w] (w :: st) h) := (mw_at mj_44_157).trans (z_iload_n rfl)
theorem mj_44_158 : mc_P 44 158 = some (.invokevirtual 75, 3, 71, 3, 2) := by decide +kernel
theorem s_44_158 {x0 x1 x2 x3 : Option Value} {o : Nat} {a1 : Value} : mw (d + 1) 44 Q 158 [x0, x1, x2, x3] (a1 :: .ref o :: st) h = (mg h o 3 ∧ mca st 8 ∧ mca [.ref o, a1] 2 ∧ mcall d 71 [.ref o, a1] h (mK (d + 1) 44 Q 161 [x0, x1, x2, x3] st)) := (mw_at mj_44_158).trans ((z_invv (As := [a1]) (by decide) rfl rfl).trans (congrArg (And _) (congrArg (And _) (mC_nl nl_71))))
theorem mj_44_161 : mc_P 44 161 = some (.goto 25, 3, 0, 0, 0) := by decide +kernel
theorem s_44_161 {x0 x1 x2 x3 : Option Value} : mw d 44 Q 161 [x0, x1, x2, x3] (st) h = mw d 44 Q 186 [x0, x1, x2, x3] (st) h := (mw_at mj_44_161).trans (z_goto (by decide))
theorem mj_44_164 : mc_P 44 164 = some (.iload_n 2, 1, 0, 0, 0) := by decide +kernel
theorem s_44_164 {x0 x1 x3 : Option Value} {w : Value} : mw d 44 Q 164 [x0, x1, some w, x3] (st) h = mv_i w (mw d 44 Q 165 [x0, x1, some w, x3] (w :: st) h) := (mw_at mj_44_164).trans (z_iload_n rfl)
theorem mj_44_165 : mc_P 44 165 = some (.sipush 171, 3, 0, 0, 0) := by decide +kernel
theorem s_44_165 {x0 x1 x2 x3 : Option Value} : mw d 44 Q 165 [x0, x1, x2, x3] (st) h = mw d 44 Q 168 [x0, x1, x2, x3] (.int 171 :: st) h := (mw_at mj_44_165).trans (z_sipush (by decide))
theorem mj_44_168 : mc_P 44 168 = some (.if_icmp .ge 12, 3, 0, 0, 0) := by decide +kernel
theorem s_44_168 {x0 x1 x2 x3 : Option Value} {x w : Int32} : mw d 44 Q 168 [x0, x1, x2, x3] (.int w :: .int x :: st) h = mB (w ≤ x) (mw d 44 Q) 180 171 [x0, x1, x2, x3] st h := (mw_at mj_44_168).trans (z_icmp_ge (by decide) rfl)
theorem mj_44_171 : mc_P 44 171 = some (.aload_n 0, 1, 0, 0, 0) := by decide +kernel
theorem s_44_171 {x1 x2 x3 : Option Value} {w : Value} : mw d 44 Q 171 [some w, x1, x2, x3] (st) h = mv_a w (mw d 44 Q 172 [some w, x1, x2, x3] (w :: st) h) := (mw_at mj_44_171).trans (z_aload_n rfl)
theorem mj_44_172 : mc_P 44 172 = some (.iload_n 2, 1, 0, 0, 0) := by decide +kernel
theorem s_44_172 {x0 x1 x3 : Option Value} {w : Value} : mw d 44 Q 172 [x0, x1, some w, x3] (st) h = mv_i w (mw d 44 Q 173 [x0, x1, some w, x3] (w :: st) h) := (mw_at mj_44_172).trans (z_iload_n rfl)
theorem mj_44_173 : mc_P 44 173 = some (.iload_n 3, 1, 0, 0, 0) := by decide +kernel
theorem s_44_173 {x0 x1 x2 : Option Value} {w : Value} : mw d 44 Q 173 [x0, x1, x2, some w] (st) h = mv_i w (mw d 44 Q 174 [x0, x1, x2, some w] (w :: st) h) := (mw_at mj_44_173).trans (z_iload_n rfl)
theorem mj_44_174 : mc_P 44 174 = some (.invokevirtual 78, 3, 70, 3, 3) := by decide +kernel
theorem s_44_174 {x0 x1 x2 x3 : Option Value} {o : Nat} {a1 a2 : Value} : mw (d + 1) 44 Q 174 [x0, x1, x2, x3] (a2 :: a1 :: .ref o :: st) h = (mg h o 3 ∧ mca st 8 ∧ mca [.ref o, a1, a2] 3 ∧ mcall d 70 [.ref o, a1, a2] h (mK (d + 1) 44 Q 177 [x0, x1, x2, x3] st)) := (mw_at mj_44_174).trans ((z_invv (As := [a1, a2]) (by decide) rfl rfl).trans (congrArg (And _) (congrArg (And _) (mC_nl nl_70))))
theorem mj_44_177 : mc_P 44 177 = some (.goto 9, 3, 0, 0, 0) := by decide +kernel
theorem s_44_177 {x0 x1 x2 x3 : Option Value} : mw d 44 Q 177 [x0, x1, x2, x3] (st) h = mw d 44 Q 186 [x0, x1, x2, x3] (st) h := (mw_at mj_44_177).trans (z_goto (by decide))
theorem mj_44_180 : mc_P 44 180 = some (.aload_n 0, 1, 0, 0, 0) := by decide +kernel
theorem s_44_180 {x1 x2 x3 : Option Value} {w : Value} : mw d 44 Q 180 [some w, x1, x2, x3] (st) h = mv_a w (mw d 44 Q 181 [some w, x1, x2, x3] (w :: st) h) := (mw_at mj_44_180).trans (z_aload_n rfl)
theorem mj_44_181 : mc_P 44 181 = some (.iload_n 2, 1, 0, 0, 0) := by decide +kernel
theorem s_44_181 {x0 x1 x3 : Option Value} {w : Value} : mw d 44 Q 181 [x0, x1, some w, x3] (st) h = mv_i w (mw d 44 Q 182 [x0, x1, some w, x3] (w :: st) h) := (mw_at mj_44_181).trans (z_iload_n rfl)
theorem mj_44_182 : mc_P 44 182 = some (.iload_n 3, 1, 0, 0, 0) := by decide +kernel
theorem s_44_182 {x0 x1 x2 : Option Value} {w : Value} : mw d 44 Q 182 [x0, x1, x2, some w] (st) h = mv_i w (mw d 44 Q 183 [x0, x1, x2, some w] (w :: st) h) := (mw_at mj_44_182).trans (z_iload_n rfl)
theorem mj_44_183 : mc_P 44 183 = some (.invokevirtual 81, 3, 75, 3, 3) := by decide +kernel
theorem s_44_183 {x0 x1 x2 x3 : Option Value} {o : Nat} {a1 a2 : Value} : mw (d + 1) 44 Q 183 [x0, x1, x2, x3] (a2 :: a1 :: .ref o :: st) h = (mg h o 3 ∧ mca st 8 ∧ mca [.ref o, a1, a2] 3 ∧ mcall d 75 [.ref o, a1, a2] h (mK (d + 1) 44 Q 186 [x0, x1, x2, x3] st)) := (mw_at mj_44_183).trans ((z_invv (As := [a1, a2]) (by decide) rfl rfl).trans (congrArg (And _) (congrArg (And _) (mC_nl nl_75))))
theorem mj_44_186 : mc_P 44 186 = some (.iinc 1 1, 3, 0, 0, 0) := by decide +kernel
theorem s_44_186 {x0 x2 x3 : Option Value} {w : Int32} : mw d 44 Q 186 [x0, some (.int w), x2, x3] (st) h = mw d 44 Q 189 [mk2 x0, some (.int (w + 1)), x2, x3] (st) h := (mw_at mj_44_186).trans (z_iinc rfl (Nat.le_of_ble_eq_true rfl) (by decide) (me_s1_mk (j := 0) (w := x0) rfl))
theorem mj_44_189 : mc_P 44 189 = some (.goto (-173), 3, 0, 0, 0) := by decide +kernel
theorem s_44_189 {x0 x1 x2 x3 : Option Value} : mw d 44 Q 189 [x0, x1, x2, x3] (st) h = mw d 44 Q 16 [x0, x1, x2, x3] (st) h := (mw_at mj_44_189).trans (z_goto (by decide))
theorem mj_44_192 : mc_P 44 192 = some (.aload_n 0, 1, 0, 0, 0) := by decide +kernel
theorem s_44_192 {x1 x2 x3 : Option Value} {w : Value} : mw d 44 Q 192 [some w, x1, x2, x3] (st) h = mv_a w (mw d 44 Q 193 [some w, x1, x2, x3] (w :: st) h) := (mw_at mj_44_192).trans (z_aload_n rfl)
theorem mj_44_193 : mc_P 44 193 = some (.getfield 23, 3, 3, 1, 0) := by decide +kernel
theorem s_44_193 {x0 x1 x2 x3 : Option Value} {o : Nat} : mw d 44 Q 193 [x0, x1, x2, x3] (.ref o :: st) h = (mg h o 3 ∧ mw d 44 Q 196 [x0, x1, x2, x3] (va_rf (mh_r h o 1) :: st) h) := (mw_at mj_44_193).trans (z_getr (by decide) (by decide) rfl)
theorem mj_44_196 : mc_P 44 196 = some (.invokevirtual 84, 3, 138, 7, 1) := by decide +kernel
theorem s_44_196 {x0 x1 x2 x3 : Option Value} {o : Nat} : mw (d + 1) 44 Q 196 [x0, x1, x2, x3] (.ref o :: st) h = (mg h o 7 ∧ mca st 8 ∧ mca [.ref o] 2 ∧ mcall d 138 [.ref o] h (mK (d + 1) 44 Q 199 [x0, x1, x2, x3] st)) := (mw_at mj_44_196).trans ((z_invv (As := []) (by decide) rfl rfl).trans (congrArg (And _) (congrArg (And _) (mC_nl nl_138))))
theorem mj_44_199 : mc_P 44 199 = some (.aload_n 0, 1, 0, 0, 0) := by decide +kernel
theorem s_44_199 {x1 x2 x3 : Option Value} {w : Value} : mw d 44 Q 199 [some w, x1, x2, x3] (st) h = mv_a w (mw d 44 Q 200 [some w, x1, x2, x3] (w :: st) h) := (mw_at mj_44_199).trans (z_aload_n rfl)
theorem mj_44_200 : mc_P 44 200 = some (.getfield 9, 3, 3, 7, 0) := by decide +kernel
theorem s_44_200 {x0 x1 x2 x3 : Option Value} {o : Nat} : mw d 44 Q 200 [x0, x1, x2, x3] (.ref o :: st) h = (mg h o 3 ∧ mw d 44 Q 203 [x0, x1, x2, x3] (.int (mh_i h o 7) :: st) h) := (mw_at mj_44_200).trans (z_geti (by decide) (by decide) (Or.inl rfl))
theorem mj_44_203 : mc_P 44 203 = some (.ireturn, 1, 0, 0, 0) := by decide +kernel
theorem s_44_203 {x0 x1 x2 x3 : Option Value} {x : Int32} : mw d 44 Q 203 [x0, x1, x2, x3] ([.int x]) h = (Q (some (.int x)) h) := (mw_at mj_44_203).trans (z_iret)
theorem e_44 {a0 : Nat} : mcall d 44 [.ref a0] h Q = mw d 44 Q 0 [some (.ref a0), none, none, none] [] h := by
  show mw d 44 Q 0 (me_en (mc_nl 44) _) [] h = _
  rw [nl_44]; rfl

/-! InvariantDesk$Parser.ask(I)V -/
theorem mj_45_0 : mc_P 45 0 = some (.aload_n 0, 1, 0, 0, 0) := by decide +kernel
theorem s_45_0 {x1 : Option Value} {w : Value} : mw d 45 Q 0 [some w, x1] (st) h = mv_a w (mw d 45 Q 1 [some w, x1] (w :: st) h) := (mw_at mj_45_0).trans (z_aload_n rfl)
theorem mj_45_1 : mc_P 45 1 = some (.iload_n 1, 1, 0, 0, 0) := by decide +kernel
theorem s_45_1 {x0 : Option Value} {w : Value} : mw d 45 Q 1 [x0, some w] (st) h = mv_i w (mw d 45 Q 2 [x0, some w] (w :: st) h) := (mw_at mj_45_1).trans (z_iload_n rfl)
theorem mj_45_2 : mc_P 45 2 = some (.iconst 0, 1, 0, 0, 0) := by decide +kernel
theorem s_45_2 {x0 x1 : Option Value} : mw d 45 Q 2 [x0, x1] (st) h = mw d 45 Q 3 [x0, x1] (.int 0 :: st) h := (mw_at mj_45_2).trans (z_iconst (by decide))
theorem mj_45_3 : mc_P 45 3 = some (.invokevirtual 89, 3, 46, 3, 3) := by decide +kernel
theorem s_45_3 {x0 x1 : Option Value} {o : Nat} {a1 a2 : Value} : mw (d + 1) 45 Q 3 [x0, x1] (a2 :: a1 :: .ref o :: st) h = (mg h o 3 ∧ mca st 8 ∧ mca [.ref o, a1, a2] 3 ∧ mcall d 46 [.ref o, a1, a2] h (mK (d + 1) 45 Q 6 [x0, x1] st)) := (mw_at mj_45_3).trans ((z_invv (As := [a1, a2]) (by decide) rfl rfl).trans (congrArg (And _) (congrArg (And _) (mC_nl nl_46))))
theorem mj_45_6 : mc_P 45 6 = some (.return_, 1, 0, 0, 0) := by decide +kernel
theorem s_45_6 {x0 x1 : Option Value} : mw d 45 Q 6 [x0, x1] ([]) h = Q none h := (mw_at mj_45_6).trans (z_vret)
theorem e_45 {a0 : Nat} {a1 : Int32} : mcall d 45 [.ref a0, .int a1] h Q = mw d 45 Q 0 [some (.ref a0), some (.int a1)] [] h := by
  show mw d 45 Q 0 (me_en (mc_nl 45) _) [] h = _
  rw [nl_45]; rfl

/-! InvariantDesk$Parser.askWith(II)V -/
theorem mj_46_0 : mc_P 46 0 = some (.aload_n 0, 1, 0, 0, 0) := by decide +kernel
theorem s_46_0 {x1 x2 : Option Value} {w : Value} : mw d 46 Q 0 [some w, x1, x2] (st) h = mv_a w (mw d 46 Q 1 [some w, x1, x2] (w :: st) h) := (mw_at mj_46_0).trans (z_aload_n rfl)
theorem mj_46_1 : mc_P 46 1 = some (.getfield 48, 3, 3, 3, 0) := by decide +kernel
theorem s_46_1 {x0 x1 x2 : Option Value} {o : Nat} : mw d 46 Q 1 [x0, x1, x2] (.ref o :: st) h = (mg h o 3 ∧ mw d 46 Q 4 [x0, x1, x2] (va_rf (mh_r h o 3) :: st) h) := (mw_at mj_46_1).trans (z_getr (by decide) (by decide) rfl)
theorem mj_46_4 : mc_P 46 4 = some (.aload_n 0, 1, 0, 0, 0) := by decide +kernel
theorem s_46_4 {x1 x2 : Option Value} {w : Value} : mw d 46 Q 4 [some w, x1, x2] (st) h = mv_a w (mw d 46 Q 5 [some w, x1, x2] (w :: st) h) := (mw_at mj_46_4).trans (z_aload_n rfl)
theorem mj_46_5 : mc_P 46 5 = some (.getfield 56, 3, 3, 4, 0) := by decide +kernel
theorem s_46_5 {x0 x1 x2 : Option Value} {o : Nat} : mw d 46 Q 5 [x0, x1, x2] (.ref o :: st) h = (mg h o 3 ∧ mw d 46 Q 8 [x0, x1, x2] (.int (mh_i h o 4) :: st) h) := (mw_at mj_46_5).trans (z_geti (by decide) (by decide) (Or.inl rfl))
theorem mj_46_8 : mc_P 46 8 = some (.iload_n 1, 1, 0, 0, 0) := by decide +kernel
theorem s_46_8 {x0 x2 : Option Value} {w : Value} : mw d 46 Q 8 [x0, some w, x2] (st) h = mv_i w (mw d 46 Q 9 [x0, some w, x2] (w :: st) h) := (mw_at mj_46_8).trans (z_iload_n rfl)
theorem mj_46_9 : mc_P 46 9 = some (.iload_n 2, 1, 0, 0, 0) := by decide +kernel
theorem s_46_9 {x0 x1 : Option Value} {w : Value} : mw d 46 Q 9 [x0, x1, some w] (st) h = mv_i w (mw d 46 Q 10 [x0, x1, some w] (w :: st) h) := (mw_at mj_46_9).trans (z_iload_n rfl)
theorem mj_46_10 : mc_P 46 10 = some (.bipush 8, 2, 0, 0, 0) := by decide +kernel
theorem s_46_10 {x0 x1 x2 : Option Value} : mw d 46 Q 10 [x0, x1, x2] (st) h = mw d 46 Q 12 [x0, x1, x2] (.int 8 :: st) h := (mw_at mj_46_10).trans (z_bipush (by decide))
theorem mj_46_12 : mc_P 46 12 = some (.ishl, 1, 0, 0, 0) := by decide +kernel
theorem s_46_12 {x0 x1 x2 : Option Value} {x w : Int32} : mw d 46 Q 12 [x0, x1, x2] (.int w :: .int x :: st) h = mw d 46 Q 13 [x0, x1, x2] (.int (x <<< (w &&& 31)) :: st) h := (mw_at mj_46_12).trans (z_ishl)
theorem mj_46_13 : mc_P 46 13 = some (.iadd, 1, 0, 0, 0) := by decide +kernel
theorem s_46_13 {x0 x1 x2 : Option Value} {x w : Int32} : mw d 46 Q 13 [x0, x1, x2] (.int w :: .int x :: st) h = mw d 46 Q 14 [x0, x1, x2] (.int (x + w) :: st) h := (mw_at mj_46_13).trans (z_iadd)
theorem mj_46_14 : mc_P 46 14 = some (.iastore, 1, 0, 0, 0) := by decide +kernel
theorem s_46_14 {x0 x1 x2 : Option Value} {o : Nat} {i w : Int32} : mw d 46 Q 14 [x0, x1, x2] (.int w :: .int i :: .ref o :: st) h = (mg h o 100 ∧ mx i (mh_l h o) ∧ mw d 46 Q 15 [x0, x1, x2] (st) (mh_si h o i.toNatClampNeg w)) := (mw_at mj_46_14).trans (z_iast)
theorem mj_46_15 : mc_P 46 15 = some (.aload_n 0, 1, 0, 0, 0) := by decide +kernel
theorem s_46_15 {x1 x2 : Option Value} {w : Value} : mw d 46 Q 15 [some w, x1, x2] (st) h = mv_a w (mw d 46 Q 16 [some w, x1, x2] (w :: st) h) := (mw_at mj_46_15).trans (z_aload_n rfl)
theorem mj_46_16 : mc_P 46 16 = some (.dup, 1, 0, 0, 0) := by decide +kernel
theorem s_46_16 {x0 x1 x2 : Option Value} {w : Value} : mw d 46 Q 16 [x0, x1, x2] (w :: st) h = (w.category = 1 ∧ mw d 46 Q 17 [x0, x1, x2] (w :: w :: st) h) := (mw_at mj_46_16).trans (z_dup)
theorem mj_46_17 : mc_P 46 17 = some (.getfield 56, 3, 3, 4, 0) := by decide +kernel
theorem s_46_17 {x0 x1 x2 : Option Value} {o : Nat} : mw d 46 Q 17 [x0, x1, x2] (.ref o :: st) h = (mg h o 3 ∧ mw d 46 Q 20 [x0, x1, x2] (.int (mh_i h o 4) :: st) h) := (mw_at mj_46_17).trans (z_geti (by decide) (by decide) (Or.inl rfl))
theorem mj_46_20 : mc_P 46 20 = some (.iconst 1, 1, 0, 0, 0) := by decide +kernel
theorem s_46_20 {x0 x1 x2 : Option Value} : mw d 46 Q 20 [x0, x1, x2] (st) h = mw d 46 Q 21 [x0, x1, x2] (.int 1 :: st) h := (mw_at mj_46_20).trans (z_iconst (by decide))
theorem mj_46_21 : mc_P 46 21 = some (.iadd, 1, 0, 0, 0) := by decide +kernel
theorem s_46_21 {x0 x1 x2 : Option Value} {x w : Int32} : mw d 46 Q 21 [x0, x1, x2] (.int w :: .int x :: st) h = mw d 46 Q 22 [x0, x1, x2] (.int (x + w) :: st) h := (mw_at mj_46_21).trans (z_iadd)
theorem mj_46_22 : mc_P 46 22 = some (.putfield 56, 3, 3, 4, 0) := by decide +kernel
theorem s_46_22 {x0 x1 x2 : Option Value} {o : Nat} {w : Int32} : mw d 46 Q 22 [x0, x1, x2] (.int w :: .ref o :: st) h = (mg h o 3 ∧ mw d 46 Q 25 [x0, x1, x2] (st) (mh_si h o 4 w)) := (mw_at mj_46_22).trans (z_puti (by decide) (by decide) rfl)
theorem mj_46_25 : mc_P 46 25 = some (.return_, 1, 0, 0, 0) := by decide +kernel
theorem s_46_25 {x0 x1 x2 : Option Value} : mw d 46 Q 25 [x0, x1, x2] ([]) h = Q none h := (mw_at mj_46_25).trans (z_vret)
theorem e_46 {a0 : Nat} {a1 : Int32} {a2 : Int32} : mcall d 46 [.ref a0, .int a1, .int a2] h Q = mw d 46 Q 0 [some (.ref a0), some (.int a1), some (.int a2)] [] h := by
  show mw d 46 Q 0 (me_en (mc_nl 46) _) [] h = _
  rw [nl_46]; rfl

/-! InvariantDesk$Parser.kind()I -/
theorem mj_47_0 : mc_P 47 0 = some (.aload_n 0, 1, 0, 0, 0) := by decide +kernel
theorem s_47_0 {w : Value} : mw d 47 Q 0 [some w] (st) h = mv_a w (mw d 47 Q 1 [some w] (w :: st) h) := (mw_at mj_47_0).trans (z_aload_n rfl)
theorem mj_47_1 : mc_P 47 1 = some (.getfield 19, 3, 3, 0, 0) := by decide +kernel
theorem s_47_1 {x0 : Option Value} {o : Nat} : mw d 47 Q 1 [x0] (.ref o :: st) h = (mg h o 3 ∧ mw d 47 Q 4 [x0] (va_rf (mh_r h o 0) :: st) h) := (mw_at mj_47_1).trans (z_getr (by decide) (by decide) rfl)
theorem mj_47_4 : mc_P 47 4 = some (.getfield 92, 3, 10, 1, 0) := by decide +kernel
theorem s_47_4 {x0 : Option Value} {o : Nat} : mw d 47 Q 4 [x0] (.ref o :: st) h = (mg h o 10 ∧ mw d 47 Q 7 [x0] (va_rf (mh_r h o 1) :: st) h) := (mw_at mj_47_4).trans (z_getr (by decide) (by decide) rfl)
theorem mj_47_7 : mc_P 47 7 = some (.aload_n 0, 1, 0, 0, 0) := by decide +kernel
theorem s_47_7 {w : Value} : mw d 47 Q 7 [some w] (st) h = mv_a w (mw d 47 Q 8 [some w] (w :: st) h) := (mw_at mj_47_7).trans (z_aload_n rfl)
theorem mj_47_8 : mc_P 47 8 = some (.getfield 95, 3, 3, 5, 0) := by decide +kernel
theorem s_47_8 {x0 : Option Value} {o : Nat} : mw d 47 Q 8 [x0] (.ref o :: st) h = (mg h o 3 ∧ mw d 47 Q 11 [x0] (.int (mh_i h o 5) :: st) h) := (mw_at mj_47_8).trans (z_geti (by decide) (by decide) (Or.inl rfl))
theorem mj_47_11 : mc_P 47 11 = some (.iaload, 1, 0, 0, 0) := by decide +kernel
theorem s_47_11 {x0 : Option Value} {o : Nat} {i : Int32} : mw d 47 Q 11 [x0] (.int i :: .ref o :: st) h = (mg h o 100 ∧ mx i (mh_l h o) ∧ mw d 47 Q 12 [x0] (.int (mh_i h o i.toNatClampNeg) :: st) h) := (mw_at mj_47_11).trans (z_iald)
theorem mj_47_12 : mc_P 47 12 = some (.ireturn, 1, 0, 0, 0) := by decide +kernel
theorem s_47_12 {x0 : Option Value} {x : Int32} : mw d 47 Q 12 [x0] ([.int x]) h = (Q (some (.int x)) h) := (mw_at mj_47_12).trans (z_iret)
theorem e_47 {a0 : Nat} : mcall d 47 [.ref a0] h Q = mw d 47 Q 0 [some (.ref a0)] [] h := by
  show mw d 47 Q 0 (me_en (mc_nl 47) _) [] h = _
  rw [nl_47]; rfl

/-! InvariantDesk$Parser.here()I -/
theorem mj_49_0 : mc_P 49 0 = some (.aload_n 0, 1, 0, 0, 0) := by decide +kernel
theorem s_49_0 {w : Value} : mw d 49 Q 0 [some w] (st) h = mv_a w (mw d 49 Q 1 [some w] (w :: st) h) := (mw_at mj_49_0).trans (z_aload_n rfl)
theorem mj_49_1 : mc_P 49 1 = some (.getfield 19, 3, 3, 0, 0) := by decide +kernel
theorem s_49_1 {x0 : Option Value} {o : Nat} : mw d 49 Q 1 [x0] (.ref o :: st) h = (mg h o 3 ∧ mw d 49 Q 4 [x0] (va_rf (mh_r h o 0) :: st) h) := (mw_at mj_49_1).trans (z_getr (by decide) (by decide) rfl)
theorem mj_49_4 : mc_P 49 4 = some (.getfield 101, 3, 10, 2, 0) := by decide +kernel
theorem s_49_4 {x0 : Option Value} {o : Nat} : mw d 49 Q 4 [x0] (.ref o :: st) h = (mg h o 10 ∧ mw d 49 Q 7 [x0] (va_rf (mh_r h o 2) :: st) h) := (mw_at mj_49_4).trans (z_getr (by decide) (by decide) rfl)
theorem mj_49_7 : mc_P 49 7 = some (.aload_n 0, 1, 0, 0, 0) := by decide +kernel
theorem s_49_7 {w : Value} : mw d 49 Q 7 [some w] (st) h = mv_a w (mw d 49 Q 8 [some w] (w :: st) h) := (mw_at mj_49_7).trans (z_aload_n rfl)
theorem mj_49_8 : mc_P 49 8 = some (.getfield 95, 3, 3, 5, 0) := by decide +kernel
theorem s_49_8 {x0 : Option Value} {o : Nat} : mw d 49 Q 8 [x0] (.ref o :: st) h = (mg h o 3 ∧ mw d 49 Q 11 [x0] (.int (mh_i h o 5) :: st) h) := (mw_at mj_49_8).trans (z_geti (by decide) (by decide) (Or.inl rfl))
theorem mj_49_11 : mc_P 49 11 = some (.iaload, 1, 0, 0, 0) := by decide +kernel
theorem s_49_11 {x0 : Option Value} {o : Nat} {i : Int32} : mw d 49 Q 11 [x0] (.int i :: .ref o :: st) h = (mg h o 100 ∧ mx i (mh_l h o) ∧ mw d 49 Q 12 [x0] (.int (mh_i h o i.toNatClampNeg) :: st) h) := (mw_at mj_49_11).trans (z_iald)
theorem mj_49_12 : mc_P 49 12 = some (.ireturn, 1, 0, 0, 0) := by decide +kernel
theorem s_49_12 {x0 : Option Value} {x : Int32} : mw d 49 Q 12 [x0] ([.int x]) h = (Q (some (.int x)) h) := (mw_at mj_49_12).trans (z_iret)
theorem e_49 {a0 : Nat} : mcall d 49 [.ref a0] h Q = mw d 49 Q 0 [some (.ref a0)] [] h := by
  show mw d 49 Q 0 (me_en (mc_nl 49) _) [] h = _
  rw [nl_49]; rfl

/-! InvariantDesk$Parser.refuse()V -/
theorem mj_50_0 : mc_P 50 0 = some (.aload_n 0, 1, 0, 0, 0) := by decide +kernel
theorem s_50_0 {w : Value} : mw d 50 Q 0 [some w] (st) h = mv_a w (mw d 50 Q 1 [some w] (w :: st) h) := (mw_at mj_50_0).trans (z_aload_n rfl)
theorem mj_50_1 : mc_P 50 1 = some (.getfield 9, 3, 3, 7, 0) := by decide +kernel
theorem s_50_1 {x0 : Option Value} {o : Nat} : mw d 50 Q 1 [x0] (.ref o :: st) h = (mg h o 3 ∧ mw d 50 Q 4 [x0] (.int (mh_i h o 7) :: st) h) := (mw_at mj_50_1).trans (z_geti (by decide) (by decide) (Or.inl rfl))
theorem mj_50_4 : mc_P 50 4 = some (.iconst (-1), 1, 0, 0, 0) := by decide +kernel
theorem s_50_4 {x0 : Option Value} : mw d 50 Q 4 [x0] (st) h = mw d 50 Q 5 [x0] (.int (-1) :: st) h := (mw_at mj_50_4).trans (z_iconst (by decide))
theorem mj_50_5 : mc_P 50 5 = some (.if_icmp .ne 11, 3, 0, 0, 0) := by decide +kernel
theorem s_50_5 {x0 : Option Value} {x w : Int32} : mw d 50 Q 5 [x0] (.int w :: .int x :: st) h = mB (¬ x = w) (mw d 50 Q) 16 8 [x0] st h := (mw_at mj_50_5).trans (z_icmp_ne (by decide) rfl)
theorem mj_50_8 : mc_P 50 8 = some (.aload_n 0, 1, 0, 0, 0) := by decide +kernel
theorem s_50_8 {w : Value} : mw d 50 Q 8 [some w] (st) h = mv_a w (mw d 50 Q 9 [some w] (w :: st) h) := (mw_at mj_50_8).trans (z_aload_n rfl)
theorem mj_50_9 : mc_P 50 9 = some (.aload_n 0, 1, 0, 0, 0) := by decide +kernel
theorem s_50_9 {w : Value} : mw d 50 Q 9 [some w] (st) h = mv_a w (mw d 50 Q 10 [some w] (w :: st) h) := (mw_at mj_50_9).trans (z_aload_n rfl)
theorem mj_50_10 : mc_P 50 10 = some (.invokevirtual 104, 3, 49, 3, 1) := by decide +kernel
theorem s_50_10 {x0 : Option Value} {o : Nat} : mw (d + 1) 50 Q 10 [x0] (.ref o :: st) h = (mg h o 3 ∧ mca st 8 ∧ mca [.ref o] 1 ∧ mcall d 49 [.ref o] h (mK (d + 1) 50 Q 13 [x0] st)) := (mw_at mj_50_10).trans ((z_invv (As := []) (by decide) rfl rfl).trans (congrArg (And _) (congrArg (And _) (mC_nl nl_49))))
theorem mj_50_13 : mc_P 50 13 = some (.putfield 9, 3, 3, 7, 0) := by decide +kernel
theorem s_50_13 {x0 : Option Value} {o : Nat} {w : Int32} : mw d 50 Q 13 [x0] (.int w :: .ref o :: st) h = (mg h o 3 ∧ mw d 50 Q 16 [x0] (st) (mh_si h o 7 w)) := (mw_at mj_50_13).trans (z_puti (by decide) (by decide) rfl)
theorem mj_50_16 : mc_P 50 16 = some (.return_, 1, 0, 0, 0) := by decide +kernel
theorem s_50_16 {x0 : Option Value} : mw d 50 Q 16 [x0] ([]) h = Q none h := (mw_at mj_50_16).trans (z_vret)
theorem e_50 {a0 : Nat} : mcall d 50 [.ref a0] h Q = mw d 50 Q 0 [some (.ref a0)] [] h := by
  show mw d 50 Q 0 (me_en (mc_nl 50) _) [] h = _
  rw [nl_50]; rfl

/-! InvariantDesk$Parser.take(I)V -/
theorem mj_51_0 : mc_P 51 0 = some (.aload_n 0, 1, 0, 0, 0) := by decide +kernel
theorem s_51_0 {x1 : Option Value} {w : Value} : mw d 51 Q 0 [some w, x1] (st) h = mv_a w (mw d 51 Q 1 [some w, x1] (w :: st) h) := (mw_at mj_51_0).trans (z_aload_n rfl)
theorem mj_51_1 : mc_P 51 1 = some (.getfield 9, 3, 3, 7, 0) := by decide +kernel
theorem s_51_1 {x0 x1 : Option Value} {o : Nat} : mw d 51 Q 1 [x0, x1] (.ref o :: st) h = (mg h o 3 ∧ mw d 51 Q 4 [x0, x1] (.int (mh_i h o 7) :: st) h) := (mw_at mj_51_1).trans (z_geti (by decide) (by decide) (Or.inl rfl))
theorem mj_51_4 : mc_P 51 4 = some (.iconst (-1), 1, 0, 0, 0) := by decide +kernel
theorem s_51_4 {x0 x1 : Option Value} : mw d 51 Q 4 [x0, x1] (st) h = mw d 51 Q 5 [x0, x1] (.int (-1) :: st) h := (mw_at mj_51_4).trans (z_iconst (by decide))
theorem mj_51_5 : mc_P 51 5 = some (.if_icmp .ne 24, 3, 0, 0, 0) := by decide +kernel
theorem s_51_5 {x0 x1 : Option Value} {x w : Int32} : mw d 51 Q 5 [x0, x1] (.int w :: .int x :: st) h = mB (¬ x = w) (mw d 51 Q) 29 8 [x0, x1] st h := (mw_at mj_51_5).trans (z_icmp_ne (by decide) rfl)
theorem mj_51_8 : mc_P 51 8 = some (.aload_n 0, 1, 0, 0, 0) := by decide +kernel
theorem s_51_8 {x1 : Option Value} {w : Value} : mw d 51 Q 8 [some w, x1] (st) h = mv_a w (mw d 51 Q 9 [some w, x1] (w :: st) h) := (mw_at mj_51_8).trans (z_aload_n rfl)
theorem mj_51_9 : mc_P 51 9 = some (.invokevirtual 108, 3, 47, 3, 1) := by decide +kernel
theorem s_51_9 {x0 x1 : Option Value} {o : Nat} : mw (d + 1) 51 Q 9 [x0, x1] (.ref o :: st) h = (mg h o 3 ∧ mca st 8 ∧ mca [.ref o] 1 ∧ mcall d 47 [.ref o] h (mK (d + 1) 51 Q 12 [x0, x1] st)) := (mw_at mj_51_9).trans ((z_invv (As := []) (by decide) rfl rfl).trans (congrArg (And _) (congrArg (And _) (mC_nl nl_47))))
theorem mj_51_12 : mc_P 51 12 = some (.iload_n 1, 1, 0, 0, 0) := by decide +kernel
theorem s_51_12 {x0 : Option Value} {w : Value} : mw d 51 Q 12 [x0, some w] (st) h = mv_i w (mw d 51 Q 13 [x0, some w] (w :: st) h) := (mw_at mj_51_12).trans (z_iload_n rfl)
theorem mj_51_13 : mc_P 51 13 = some (.if_icmp .ne 16, 3, 0, 0, 0) := by decide +kernel
theorem s_51_13 {x0 x1 : Option Value} {x w : Int32} : mw d 51 Q 13 [x0, x1] (.int w :: .int x :: st) h = mB (¬ x = w) (mw d 51 Q) 29 16 [x0, x1] st h := (mw_at mj_51_13).trans (z_icmp_ne (by decide) rfl)
theorem mj_51_16 : mc_P 51 16 = some (.aload_n 0, 1, 0, 0, 0) := by decide +kernel
theorem s_51_16 {x1 : Option Value} {w : Value} : mw d 51 Q 16 [some w, x1] (st) h = mv_a w (mw d 51 Q 17 [some w, x1] (w :: st) h) := (mw_at mj_51_16).trans (z_aload_n rfl)
theorem mj_51_17 : mc_P 51 17 = some (.dup, 1, 0, 0, 0) := by decide +kernel
theorem s_51_17 {x0 x1 : Option Value} {w : Value} : mw d 51 Q 17 [x0, x1] (w :: st) h = (w.category = 1 ∧ mw d 51 Q 18 [x0, x1] (w :: w :: st) h) := (mw_at mj_51_17).trans (z_dup)
theorem mj_51_18 : mc_P 51 18 = some (.getfield 95, 3, 3, 5, 0) := by decide +kernel
theorem s_51_18 {x0 x1 : Option Value} {o : Nat} : mw d 51 Q 18 [x0, x1] (.ref o :: st) h = (mg h o 3 ∧ mw d 51 Q 21 [x0, x1] (.int (mh_i h o 5) :: st) h) := (mw_at mj_51_18).trans (z_geti (by decide) (by decide) (Or.inl rfl))
theorem mj_51_21 : mc_P 51 21 = some (.iconst 1, 1, 0, 0, 0) := by decide +kernel
theorem s_51_21 {x0 x1 : Option Value} : mw d 51 Q 21 [x0, x1] (st) h = mw d 51 Q 22 [x0, x1] (.int 1 :: st) h := (mw_at mj_51_21).trans (z_iconst (by decide))
theorem mj_51_22 : mc_P 51 22 = some (.iadd, 1, 0, 0, 0) := by decide +kernel
theorem s_51_22 {x0 x1 : Option Value} {x w : Int32} : mw d 51 Q 22 [x0, x1] (.int w :: .int x :: st) h = mw d 51 Q 23 [x0, x1] (.int (x + w) :: st) h := (mw_at mj_51_22).trans (z_iadd)
theorem mj_51_23 : mc_P 51 23 = some (.putfield 95, 3, 3, 5, 0) := by decide +kernel
theorem s_51_23 {x0 x1 : Option Value} {o : Nat} {w : Int32} : mw d 51 Q 23 [x0, x1] (.int w :: .ref o :: st) h = (mg h o 3 ∧ mw d 51 Q 26 [x0, x1] (st) (mh_si h o 5 w)) := (mw_at mj_51_23).trans (z_puti (by decide) (by decide) rfl)
theorem mj_51_26 : mc_P 51 26 = some (.goto 7, 3, 0, 0, 0) := by decide +kernel
theorem s_51_26 {x0 x1 : Option Value} : mw d 51 Q 26 [x0, x1] (st) h = mw d 51 Q 33 [x0, x1] (st) h := (mw_at mj_51_26).trans (z_goto (by decide))
theorem mj_51_29 : mc_P 51 29 = some (.aload_n 0, 1, 0, 0, 0) := by decide +kernel
theorem s_51_29 {x1 : Option Value} {w : Value} : mw d 51 Q 29 [some w, x1] (st) h = mv_a w (mw d 51 Q 30 [some w, x1] (w :: st) h) := (mw_at mj_51_29).trans (z_aload_n rfl)
theorem mj_51_30 : mc_P 51 30 = some (.invokevirtual 111, 3, 50, 3, 1) := by decide +kernel
theorem s_51_30 {x0 x1 : Option Value} {o : Nat} : mw (d + 1) 51 Q 30 [x0, x1] (.ref o :: st) h = (mg h o 3 ∧ mca st 8 ∧ mca [.ref o] 1 ∧ mcall d 50 [.ref o] h (mK (d + 1) 51 Q 33 [x0, x1] st)) := (mw_at mj_51_30).trans ((z_invv (As := []) (by decide) rfl rfl).trans (congrArg (And _) (congrArg (And _) (mC_nl nl_50))))
theorem mj_51_33 : mc_P 51 33 = some (.return_, 1, 0, 0, 0) := by decide +kernel
theorem s_51_33 {x0 x1 : Option Value} : mw d 51 Q 33 [x0, x1] ([]) h = Q none h := (mw_at mj_51_33).trans (z_vret)
theorem e_51 {a0 : Nat} {a1 : Int32} : mcall d 51 [.ref a0, .int a1] h Q = mw d 51 Q 0 [some (.ref a0), some (.int a1)] [] h := by
  show mw d 51 Q 0 (me_en (mc_nl 51) _) [] h = _
  rw [nl_51]; rfl

/-! InvariantDesk$Parser.readFunction(I)V -/
theorem mj_55_0 : mc_P 55 0 = some (.iload_n 1, 1, 0, 0, 0) := by decide +kernel
theorem s_55_0 {x0 : Option Value} {w : Value} : mw d 55 Q 0 [x0, some w] (st) h = mv_i w (mw d 55 Q 1 [x0, some w] (w :: st) h) := (mw_at mj_55_0).trans (z_iload_n rfl)
theorem mj_55_1 : mc_P 55 1 = some (.tableswitch 266 140 145 #[39, 63, 106, 132, 171, 221], 39, 0, 0, 0) := by decide +kernel
theorem s_55_1 {x0 x1 : Option Value} {x : Int32} : mw d 55 Q 1 [x0, x1] (.int x :: st) h = mS x (mw d 55 Q) 267 [x0, x1] st h [(140, 40), (141, 64), (142, 107), (143, 133), (144, 172), (145, 222)] := (mw_at mj_55_1).trans (z_tab (by decide) (by decide) (by decide +kernel))
theorem mj_55_40 : mc_P 55 40 = some (.aload_n 0, 1, 0, 0, 0) := by decide +kernel
theorem s_55_40 {x1 : Option Value} {w : Value} : mw d 55 Q 40 [some w, x1] (st) h = mv_a w (mw d 55 Q 41 [some w, x1] (w :: st) h) := (mw_at mj_55_40).trans (z_aload_n rfl)
theorem mj_55_41 : mc_P 55 41 = some (.invokevirtual 108, 3, 47, 3, 1) := by decide +kernel
theorem s_55_41 {x0 x1 : Option Value} {o : Nat} : mw (d + 1) 55 Q 41 [x0, x1] (.ref o :: st) h = (mg h o 3 ∧ mca st 8 ∧ mca [.ref o] 1 ∧ mcall d 47 [.ref o] h (mK (d + 1) 55 Q 44 [x0, x1] st)) := (mw_at mj_55_41).trans ((z_invv (As := []) (by decide) rfl rfl).trans (congrArg (And _) (congrArg (And _) (mC_nl nl_47))))
theorem mj_55_44 : mc_P 55 44 = some (.ifCond .eq 230, 3, 0, 0, 0) := by decide +kernel
theorem s_55_44 {x0 x1 : Option Value} {x : Int32} : mw d 55 Q 44 [x0, x1] (.int x :: st) h = mB (x = 0) (mw d 55 Q) 274 47 [x0, x1] st h := (mw_at mj_55_44).trans (z_if_eq (by decide) rfl)
theorem mj_55_47 : mc_P 55 47 = some (.aload_n 0, 1, 0, 0, 0) := by decide +kernel
theorem s_55_47 {x1 : Option Value} {w : Value} : mw d 55 Q 47 [some w, x1] (st) h = mv_a w (mw d 55 Q 48 [some w, x1] (w :: st) h) := (mw_at mj_55_47).trans (z_aload_n rfl)
theorem mj_55_48 : mc_P 55 48 = some (.sipush 140, 3, 0, 0, 0) := by decide +kernel
theorem s_55_48 {x0 x1 : Option Value} : mw d 55 Q 48 [x0, x1] (st) h = mw d 55 Q 51 [x0, x1] (.int 140 :: st) h := (mw_at mj_55_48).trans (z_sipush (by decide))
theorem mj_55_51 : mc_P 55 51 = some (.invokevirtual 51, 3, 45, 3, 2) := by decide +kernel
theorem s_55_51 {x0 x1 : Option Value} {o : Nat} {a1 : Value} : mw (d + 1) 55 Q 51 [x0, x1] (a1 :: .ref o :: st) h = (mg h o 3 ∧ mca st 8 ∧ mca [.ref o, a1] 2 ∧ mcall d 45 [.ref o, a1] h (mK (d + 1) 55 Q 54 [x0, x1] st)) := (mw_at mj_55_51).trans ((z_invv (As := [a1]) (by decide) rfl rfl).trans (congrArg (And _) (congrArg (And _) (mC_nl nl_45))))
theorem mj_55_54 : mc_P 55 54 = some (.aload_n 0, 1, 0, 0, 0) := by decide +kernel
theorem s_55_54 {x1 : Option Value} {w : Value} : mw d 55 Q 54 [some w, x1] (st) h = mv_a w (mw d 55 Q 55 [some w, x1] (w :: st) h) := (mw_at mj_55_54).trans (z_aload_n rfl)
theorem mj_55_55 : mc_P 55 55 = some (.sipush 141, 3, 0, 0, 0) := by decide +kernel
theorem s_55_55 {x0 x1 : Option Value} : mw d 55 Q 55 [x0, x1] (st) h = mw d 55 Q 58 [x0, x1] (.int 141 :: st) h := (mw_at mj_55_55).trans (z_sipush (by decide))
theorem mj_55_58 : mc_P 55 58 = some (.invokevirtual 51, 3, 45, 3, 2) := by decide +kernel
theorem s_55_58 {x0 x1 : Option Value} {o : Nat} {a1 : Value} : mw (d + 1) 55 Q 58 [x0, x1] (a1 :: .ref o :: st) h = (mg h o 3 ∧ mca st 8 ∧ mca [.ref o, a1] 2 ∧ mcall d 45 [.ref o, a1] h (mK (d + 1) 55 Q 61 [x0, x1] st)) := (mw_at mj_55_58).trans ((z_invv (As := [a1]) (by decide) rfl rfl).trans (congrArg (And _) (congrArg (And _) (mC_nl nl_45))))
theorem mj_55_61 : mc_P 55 61 = some (.goto 213, 3, 0, 0, 0) := by decide +kernel
theorem s_55_61 {x0 x1 : Option Value} : mw d 55 Q 61 [x0, x1] (st) h = mw d 55 Q 274 [x0, x1] (st) h := (mw_at mj_55_61).trans (z_goto (by decide))
theorem mj_55_64 : mc_P 55 64 = some (.aload_n 0, 1, 0, 0, 0) := by decide +kernel
theorem s_55_64 {x1 : Option Value} {w : Value} : mw d 55 Q 64 [some w, x1] (st) h = mv_a w (mw d 55 Q 65 [some w, x1] (w :: st) h) := (mw_at mj_55_64).trans (z_aload_n rfl)
theorem mj_55_65 : mc_P 55 65 = some (.sipush 146, 3, 0, 0, 0) := by decide +kernel
theorem s_55_65 {x0 x1 : Option Value} : mw d 55 Q 65 [x0, x1] (st) h = mw d 55 Q 68 [x0, x1] (.int 146 :: st) h := (mw_at mj_55_65).trans (z_sipush (by decide))
theorem mj_55_68 : mc_P 55 68 = some (.invokevirtual 51, 3, 45, 3, 2) := by decide +kernel
theorem s_55_68 {x0 x1 : Option Value} {o : Nat} {a1 : Value} : mw (d + 1) 55 Q 68 [x0, x1] (a1 :: .ref o :: st) h = (mg h o 3 ∧ mca st 8 ∧ mca [.ref o, a1] 2 ∧ mcall d 45 [.ref o, a1] h (mK (d + 1) 55 Q 71 [x0, x1] st)) := (mw_at mj_55_68).trans ((z_invv (As := [a1]) (by decide) rfl rfl).trans (congrArg (And _) (congrArg (And _) (mC_nl nl_45))))
theorem mj_55_71 : mc_P 55 71 = some (.aload_n 0, 1, 0, 0, 0) := by decide +kernel
theorem s_55_71 {x1 : Option Value} {w : Value} : mw d 55 Q 71 [some w, x1] (st) h = mv_a w (mw d 55 Q 72 [some w, x1] (w :: st) h) := (mw_at mj_55_71).trans (z_aload_n rfl)
theorem mj_55_72 : mc_P 55 72 = some (.sipush 147, 3, 0, 0, 0) := by decide +kernel
theorem s_55_72 {x0 x1 : Option Value} : mw d 55 Q 72 [x0, x1] (st) h = mw d 55 Q 75 [x0, x1] (.int 147 :: st) h := (mw_at mj_55_72).trans (z_sipush (by decide))
theorem mj_55_75 : mc_P 55 75 = some (.iconst 1, 1, 0, 0, 0) := by decide +kernel
theorem s_55_75 {x0 x1 : Option Value} : mw d 55 Q 75 [x0, x1] (st) h = mw d 55 Q 76 [x0, x1] (.int 1 :: st) h := (mw_at mj_55_75).trans (z_iconst (by decide))
theorem mj_55_76 : mc_P 55 76 = some (.invokevirtual 89, 3, 46, 3, 3) := by decide +kernel
theorem s_55_76 {x0 x1 : Option Value} {o : Nat} {a1 a2 : Value} : mw (d + 1) 55 Q 76 [x0, x1] (a2 :: a1 :: .ref o :: st) h = (mg h o 3 ∧ mca st 8 ∧ mca [.ref o, a1, a2] 3 ∧ mcall d 46 [.ref o, a1, a2] h (mK (d + 1) 55 Q 79 [x0, x1] st)) := (mw_at mj_55_76).trans ((z_invv (As := [a1, a2]) (by decide) rfl rfl).trans (congrArg (And _) (congrArg (And _) (mC_nl nl_46))))
theorem mj_55_79 : mc_P 55 79 = some (.aload_n 0, 1, 0, 0, 0) := by decide +kernel
theorem s_55_79 {x1 : Option Value} {w : Value} : mw d 55 Q 79 [some w, x1] (st) h = mv_a w (mw d 55 Q 80 [some w, x1] (w :: st) h) := (mw_at mj_55_79).trans (z_aload_n rfl)
theorem mj_55_80 : mc_P 55 80 = some (.sipush 143, 3, 0, 0, 0) := by decide +kernel
theorem s_55_80 {x0 x1 : Option Value} : mw d 55 Q 80 [x0, x1] (st) h = mw d 55 Q 83 [x0, x1] (.int 143 :: st) h := (mw_at mj_55_80).trans (z_sipush (by decide))
theorem mj_55_83 : mc_P 55 83 = some (.invokevirtual 51, 3, 45, 3, 2) := by decide +kernel
theorem s_55_83 {x0 x1 : Option Value} {o : Nat} {a1 : Value} : mw (d + 1) 55 Q 83 [x0, x1] (a1 :: .ref o :: st) h = (mg h o 3 ∧ mca st 8 ∧ mca [.ref o, a1] 2 ∧ mcall d 45 [.ref o, a1] h (mK (d + 1) 55 Q 86 [x0, x1] st)) := (mw_at mj_55_83).trans ((z_invv (As := [a1]) (by decide) rfl rfl).trans (congrArg (And _) (congrArg (And _) (mC_nl nl_45))))
theorem mj_55_86 : mc_P 55 86 = some (.aload_n 0, 1, 0, 0, 0) := by decide +kernel
theorem s_55_86 {x1 : Option Value} {w : Value} : mw d 55 Q 86 [some w, x1] (st) h = mv_a w (mw d 55 Q 87 [some w, x1] (w :: st) h) := (mw_at mj_55_86).trans (z_aload_n rfl)
theorem mj_55_87 : mc_P 55 87 = some (.bipush 40, 2, 0, 0, 0) := by decide +kernel
theorem s_55_87 {x0 x1 : Option Value} : mw d 55 Q 87 [x0, x1] (st) h = mw d 55 Q 89 [x0, x1] (.int 40 :: st) h := (mw_at mj_55_87).trans (z_bipush (by decide))
theorem mj_55_89 : mc_P 55 89 = some (.invokevirtual 51, 3, 45, 3, 2) := by decide +kernel
theorem s_55_89 {x0 x1 : Option Value} {o : Nat} {a1 : Value} : mw (d + 1) 55 Q 89 [x0, x1] (a1 :: .ref o :: st) h = (mg h o 3 ∧ mca st 8 ∧ mca [.ref o, a1] 2 ∧ mcall d 45 [.ref o, a1] h (mK (d + 1) 55 Q 92 [x0, x1] st)) := (mw_at mj_55_89).trans ((z_invv (As := [a1]) (by decide) rfl rfl).trans (congrArg (And _) (congrArg (And _) (mC_nl nl_45))))
theorem mj_55_92 : mc_P 55 92 = some (.aload_n 0, 1, 0, 0, 0) := by decide +kernel
theorem s_55_92 {x1 : Option Value} {w : Value} : mw d 55 Q 92 [some w, x1] (st) h = mv_a w (mw d 55 Q 93 [some w, x1] (w :: st) h) := (mw_at mj_55_92).trans (z_aload_n rfl)
theorem mj_55_93 : mc_P 55 93 = some (.sipush 142, 3, 0, 0, 0) := by decide +kernel
theorem s_55_93 {x0 x1 : Option Value} : mw d 55 Q 93 [x0, x1] (st) h = mw d 55 Q 96 [x0, x1] (.int 142 :: st) h := (mw_at mj_55_93).trans (z_sipush (by decide))
theorem mj_55_96 : mc_P 55 96 = some (.invokevirtual 51, 3, 45, 3, 2) := by decide +kernel
theorem s_55_96 {x0 x1 : Option Value} {o : Nat} {a1 : Value} : mw (d + 1) 55 Q 96 [x0, x1] (a1 :: .ref o :: st) h = (mg h o 3 ∧ mca st 8 ∧ mca [.ref o, a1] 2 ∧ mcall d 45 [.ref o, a1] h (mK (d + 1) 55 Q 99 [x0, x1] st)) := (mw_at mj_55_96).trans ((z_invv (As := [a1]) (by decide) rfl rfl).trans (congrArg (And _) (congrArg (And _) (mC_nl nl_45))))
theorem mj_55_99 : mc_P 55 99 = some (.aload_n 0, 1, 0, 0, 0) := by decide +kernel
theorem s_55_99 {x1 : Option Value} {w : Value} : mw d 55 Q 99 [some w, x1] (st) h = mv_a w (mw d 55 Q 100 [some w, x1] (w :: st) h) := (mw_at mj_55_99).trans (z_aload_n rfl)
theorem mj_55_100 : mc_P 55 100 = some (.iconst 4, 1, 0, 0, 0) := by decide +kernel
theorem s_55_100 {x0 x1 : Option Value} : mw d 55 Q 100 [x0, x1] (st) h = mw d 55 Q 101 [x0, x1] (.int 4 :: st) h := (mw_at mj_55_100).trans (z_iconst (by decide))
theorem mj_55_101 : mc_P 55 101 = some (.invokevirtual 59, 3, 51, 3, 2) := by decide +kernel
theorem s_55_101 {x0 x1 : Option Value} {o : Nat} {a1 : Value} : mw (d + 1) 55 Q 101 [x0, x1] (a1 :: .ref o :: st) h = (mg h o 3 ∧ mca st 8 ∧ mca [.ref o, a1] 2 ∧ mcall d 51 [.ref o, a1] h (mK (d + 1) 55 Q 104 [x0, x1] st)) := (mw_at mj_55_101).trans ((z_invv (As := [a1]) (by decide) rfl rfl).trans (congrArg (And _) (congrArg (And _) (mC_nl nl_51))))
theorem mj_55_104 : mc_P 55 104 = some (.goto 170, 3, 0, 0, 0) := by decide +kernel
theorem s_55_104 {x0 x1 : Option Value} : mw d 55 Q 104 [x0, x1] (st) h = mw d 55 Q 274 [x0, x1] (st) h := (mw_at mj_55_104).trans (z_goto (by decide))
theorem mj_55_107 : mc_P 55 107 = some (.aload_n 0, 1, 0, 0, 0) := by decide +kernel
theorem s_55_107 {x1 : Option Value} {w : Value} : mw d 55 Q 107 [some w, x1] (st) h = mv_a w (mw d 55 Q 108 [some w, x1] (w :: st) h) := (mw_at mj_55_107).trans (z_aload_n rfl)
theorem mj_55_108 : mc_P 55 108 = some (.getfield 23, 3, 3, 1, 0) := by decide +kernel
theorem s_55_108 {x0 x1 : Option Value} {o : Nat} : mw d 55 Q 108 [x0, x1] (.ref o :: st) h = (mg h o 3 ∧ mw d 55 Q 111 [x0, x1] (va_rf (mh_r h o 1) :: st) h) := (mw_at mj_55_108).trans (z_getr (by decide) (by decide) rfl)
theorem mj_55_111 : mc_P 55 111 = some (.aload_n 0, 1, 0, 0, 0) := by decide +kernel
theorem s_55_111 {x1 : Option Value} {w : Value} : mw d 55 Q 111 [some w, x1] (st) h = mv_a w (mw d 55 Q 112 [some w, x1] (w :: st) h) := (mw_at mj_55_111).trans (z_aload_n rfl)
theorem mj_55_112 : mc_P 55 112 = some (.getfield 95, 3, 3, 5, 0) := by decide +kernel
theorem s_55_112 {x0 x1 : Option Value} {o : Nat} : mw d 55 Q 112 [x0, x1] (.ref o :: st) h = (mg h o 3 ∧ mw d 55 Q 115 [x0, x1] (.int (mh_i h o 5) :: st) h) := (mw_at mj_55_112).trans (z_geti (by decide) (by decide) (Or.inl rfl))
theorem mj_55_115 : mc_P 55 115 = some (.invokevirtual 132, 3, 133, 7, 2) := by decide +kernel
theorem s_55_115 {x0 x1 : Option Value} {o : Nat} {a1 : Value} : mw (d + 1) 55 Q 115 [x0, x1] (a1 :: .ref o :: st) h = (mg h o 7 ∧ mca st 8 ∧ mca [.ref o, a1] 3 ∧ mcall d 133 [.ref o, a1] h (mK (d + 1) 55 Q 118 [x0, x1] st)) := (mw_at mj_55_115).trans ((z_invv (As := [a1]) (by decide) rfl rfl).trans (congrArg (And _) (congrArg (And _) (mC_nl nl_133))))
theorem mj_55_118 : mc_P 55 118 = some (.aload_n 0, 1, 0, 0, 0) := by decide +kernel
theorem s_55_118 {x1 : Option Value} {w : Value} : mw d 55 Q 118 [some w, x1] (st) h = mv_a w (mw d 55 Q 119 [some w, x1] (w :: st) h) := (mw_at mj_55_118).trans (z_aload_n rfl)
theorem mj_55_119 : mc_P 55 119 = some (.getfield 32, 3, 3, 2, 0) := by decide +kernel
theorem s_55_119 {x0 x1 : Option Value} {o : Nat} : mw d 55 Q 119 [x0, x1] (.ref o :: st) h = (mg h o 3 ∧ mw d 55 Q 122 [x0, x1] (va_rf (mh_r h o 2) :: st) h) := (mw_at mj_55_119).trans (z_getr (by decide) (by decide) rfl)
theorem mj_55_122 : mc_P 55 122 = some (.invokevirtual 135, 3, 117, 6, 1) := by decide +kernel
theorem s_55_122 {x0 x1 : Option Value} {o : Nat} : mw (d + 1) 55 Q 122 [x0, x1] (.ref o :: st) h = (mg h o 6 ∧ mca st 8 ∧ mca [.ref o] 1 ∧ mcall d 117 [.ref o] h (mK (d + 1) 55 Q 125 [x0, x1] st)) := (mw_at mj_55_122).trans ((z_invv (As := []) (by decide) rfl rfl).trans (congrArg (And _) (congrArg (And _) (mC_nl nl_117))))
theorem mj_55_125 : mc_P 55 125 = some (.aload_n 0, 1, 0, 0, 0) := by decide +kernel
theorem s_55_125 {x1 : Option Value} {w : Value} : mw d 55 Q 125 [some w, x1] (st) h = mv_a w (mw d 55 Q 126 [some w, x1] (w :: st) h) := (mw_at mj_55_125).trans (z_aload_n rfl)
theorem mj_55_126 : mc_P 55 126 = some (.iconst 2, 1, 0, 0, 0) := by decide +kernel
theorem s_55_126 {x0 x1 : Option Value} : mw d 55 Q 126 [x0, x1] (st) h = mw d 55 Q 127 [x0, x1] (.int 2 :: st) h := (mw_at mj_55_126).trans (z_iconst (by decide))
theorem mj_55_127 : mc_P 55 127 = some (.invokevirtual 59, 3, 51, 3, 2) := by decide +kernel
theorem s_55_127 {x0 x1 : Option Value} {o : Nat} {a1 : Value} : mw (d + 1) 55 Q 127 [x0, x1] (a1 :: .ref o :: st) h = (mg h o 3 ∧ mca st 8 ∧ mca [.ref o, a1] 2 ∧ mcall d 51 [.ref o, a1] h (mK (d + 1) 55 Q 130 [x0, x1] st)) := (mw_at mj_55_127).trans ((z_invv (As := [a1]) (by decide) rfl rfl).trans (congrArg (And _) (congrArg (And _) (mC_nl nl_51))))
theorem mj_55_130 : mc_P 55 130 = some (.goto 144, 3, 0, 0, 0) := by decide +kernel
theorem s_55_130 {x0 x1 : Option Value} : mw d 55 Q 130 [x0, x1] (st) h = mw d 55 Q 274 [x0, x1] (st) h := (mw_at mj_55_130).trans (z_goto (by decide))
theorem mj_55_133 : mc_P 55 133 = some (.aload_n 0, 1, 0, 0, 0) := by decide +kernel
theorem s_55_133 {x1 : Option Value} {w : Value} : mw d 55 Q 133 [some w, x1] (st) h = mv_a w (mw d 55 Q 134 [some w, x1] (w :: st) h) := (mw_at mj_55_133).trans (z_aload_n rfl)
theorem mj_55_134 : mc_P 55 134 = some (.invokevirtual 108, 3, 47, 3, 1) := by decide +kernel
theorem s_55_134 {x0 x1 : Option Value} {o : Nat} : mw (d + 1) 55 Q 134 [x0, x1] (.ref o :: st) h = (mg h o 3 ∧ mca st 8 ∧ mca [.ref o] 1 ∧ mcall d 47 [.ref o] h (mK (d + 1) 55 Q 137 [x0, x1] st)) := (mw_at mj_55_134).trans ((z_invv (As := []) (by decide) rfl rfl).trans (congrArg (And _) (congrArg (And _) (mC_nl nl_47))))
theorem mj_55_137 : mc_P 55 137 = some (.bipush 41, 2, 0, 0, 0) := by decide +kernel
theorem s_55_137 {x0 x1 : Option Value} : mw d 55 Q 137 [x0, x1] (st) h = mw d 55 Q 139 [x0, x1] (.int 41 :: st) h := (mw_at mj_55_137).trans (z_bipush (by decide))
theorem mj_55_139 : mc_P 55 139 = some (.if_icmp .ne 16, 3, 0, 0, 0) := by decide +kernel
theorem s_55_139 {x0 x1 : Option Value} {x w : Int32} : mw d 55 Q 139 [x0, x1] (.int w :: .int x :: st) h = mB (¬ x = w) (mw d 55 Q) 155 142 [x0, x1] st h := (mw_at mj_55_139).trans (z_icmp_ne (by decide) rfl)
theorem mj_55_142 : mc_P 55 142 = some (.aload_n 0, 1, 0, 0, 0) := by decide +kernel
theorem s_55_142 {x1 : Option Value} {w : Value} : mw d 55 Q 142 [some w, x1] (st) h = mv_a w (mw d 55 Q 143 [some w, x1] (w :: st) h) := (mw_at mj_55_142).trans (z_aload_n rfl)
theorem mj_55_143 : mc_P 55 143 = some (.dup, 1, 0, 0, 0) := by decide +kernel
theorem s_55_143 {x0 x1 : Option Value} {w : Value} : mw d 55 Q 143 [x0, x1] (w :: st) h = (w.category = 1 ∧ mw d 55 Q 144 [x0, x1] (w :: w :: st) h) := (mw_at mj_55_143).trans (z_dup)
theorem mj_55_144 : mc_P 55 144 = some (.getfield 95, 3, 3, 5, 0) := by decide +kernel
theorem s_55_144 {x0 x1 : Option Value} {o : Nat} : mw d 55 Q 144 [x0, x1] (.ref o :: st) h = (mg h o 3 ∧ mw d 55 Q 147 [x0, x1] (.int (mh_i h o 5) :: st) h) := (mw_at mj_55_144).trans (z_geti (by decide) (by decide) (Or.inl rfl))
theorem mj_55_147 : mc_P 55 147 = some (.iconst 1, 1, 0, 0, 0) := by decide +kernel
theorem s_55_147 {x0 x1 : Option Value} : mw d 55 Q 147 [x0, x1] (st) h = mw d 55 Q 148 [x0, x1] (.int 1 :: st) h := (mw_at mj_55_147).trans (z_iconst (by decide))
theorem mj_55_148 : mc_P 55 148 = some (.iadd, 1, 0, 0, 0) := by decide +kernel
theorem s_55_148 {x0 x1 : Option Value} {x w : Int32} : mw d 55 Q 148 [x0, x1] (.int w :: .int x :: st) h = mw d 55 Q 149 [x0, x1] (.int (x + w) :: st) h := (mw_at mj_55_148).trans (z_iadd)
theorem mj_55_149 : mc_P 55 149 = some (.putfield 95, 3, 3, 5, 0) := by decide +kernel
theorem s_55_149 {x0 x1 : Option Value} {o : Nat} {w : Int32} : mw d 55 Q 149 [x0, x1] (.int w :: .ref o :: st) h = (mg h o 3 ∧ mw d 55 Q 152 [x0, x1] (st) (mh_si h o 5 w)) := (mw_at mj_55_149).trans (z_puti (by decide) (by decide) rfl)
theorem mj_55_152 : mc_P 55 152 = some (.goto 122, 3, 0, 0, 0) := by decide +kernel
theorem s_55_152 {x0 x1 : Option Value} : mw d 55 Q 152 [x0, x1] (st) h = mw d 55 Q 274 [x0, x1] (st) h := (mw_at mj_55_152).trans (z_goto (by decide))
theorem mj_55_155 : mc_P 55 155 = some (.aload_n 0, 1, 0, 0, 0) := by decide +kernel
theorem s_55_155 {x1 : Option Value} {w : Value} : mw d 55 Q 155 [some w, x1] (st) h = mv_a w (mw d 55 Q 156 [some w, x1] (w :: st) h) := (mw_at mj_55_155).trans (z_aload_n rfl)
theorem mj_55_156 : mc_P 55 156 = some (.sipush 145, 3, 0, 0, 0) := by decide +kernel
theorem s_55_156 {x0 x1 : Option Value} : mw d 55 Q 156 [x0, x1] (st) h = mw d 55 Q 159 [x0, x1] (.int 145 :: st) h := (mw_at mj_55_156).trans (z_sipush (by decide))
theorem mj_55_159 : mc_P 55 159 = some (.invokevirtual 51, 3, 45, 3, 2) := by decide +kernel
theorem s_55_159 {x0 x1 : Option Value} {o : Nat} {a1 : Value} : mw (d + 1) 55 Q 159 [x0, x1] (a1 :: .ref o :: st) h = (mg h o 3 ∧ mca st 8 ∧ mca [.ref o, a1] 2 ∧ mcall d 45 [.ref o, a1] h (mK (d + 1) 55 Q 162 [x0, x1] st)) := (mw_at mj_55_159).trans ((z_invv (As := [a1]) (by decide) rfl rfl).trans (congrArg (And _) (congrArg (And _) (mC_nl nl_45))))
theorem mj_55_162 : mc_P 55 162 = some (.aload_n 0, 1, 0, 0, 0) := by decide +kernel
theorem s_55_162 {x1 : Option Value} {w : Value} : mw d 55 Q 162 [some w, x1] (st) h = mv_a w (mw d 55 Q 163 [some w, x1] (w :: st) h) := (mw_at mj_55_162).trans (z_aload_n rfl)
theorem mj_55_163 : mc_P 55 163 = some (.sipush 144, 3, 0, 0, 0) := by decide +kernel
theorem s_55_163 {x0 x1 : Option Value} : mw d 55 Q 163 [x0, x1] (st) h = mw d 55 Q 166 [x0, x1] (.int 144 :: st) h := (mw_at mj_55_163).trans (z_sipush (by decide))
theorem mj_55_166 : mc_P 55 166 = some (.invokevirtual 51, 3, 45, 3, 2) := by decide +kernel
theorem s_55_166 {x0 x1 : Option Value} {o : Nat} {a1 : Value} : mw (d + 1) 55 Q 166 [x0, x1] (a1 :: .ref o :: st) h = (mg h o 3 ∧ mca st 8 ∧ mca [.ref o, a1] 2 ∧ mcall d 45 [.ref o, a1] h (mK (d + 1) 55 Q 169 [x0, x1] st)) := (mw_at mj_55_166).trans ((z_invv (As := [a1]) (by decide) rfl rfl).trans (congrArg (And _) (congrArg (And _) (mC_nl nl_45))))
theorem mj_55_169 : mc_P 55 169 = some (.goto 105, 3, 0, 0, 0) := by decide +kernel
theorem s_55_169 {x0 x1 : Option Value} : mw d 55 Q 169 [x0, x1] (st) h = mw d 55 Q 274 [x0, x1] (st) h := (mw_at mj_55_169).trans (z_goto (by decide))
theorem mj_55_172 : mc_P 55 172 = some (.aload_n 0, 1, 0, 0, 0) := by decide +kernel
theorem s_55_172 {x1 : Option Value} {w : Value} : mw d 55 Q 172 [some w, x1] (st) h = mv_a w (mw d 55 Q 173 [some w, x1] (w :: st) h) := (mw_at mj_55_172).trans (z_aload_n rfl)
theorem mj_55_173 : mc_P 55 173 = some (.invokevirtual 108, 3, 47, 3, 1) := by decide +kernel
theorem s_55_173 {x0 x1 : Option Value} {o : Nat} : mw (d + 1) 55 Q 173 [x0, x1] (.ref o :: st) h = (mg h o 3 ∧ mca st 8 ∧ mca [.ref o] 1 ∧ mcall d 47 [.ref o] h (mK (d + 1) 55 Q 176 [x0, x1] st)) := (mw_at mj_55_173).trans ((z_invv (As := []) (by decide) rfl rfl).trans (congrArg (And _) (congrArg (And _) (mC_nl nl_47))))
theorem mj_55_176 : mc_P 55 176 = some (.iconst 2, 1, 0, 0, 0) := by decide +kernel
theorem s_55_176 {x0 x1 : Option Value} : mw d 55 Q 176 [x0, x1] (st) h = mw d 55 Q 177 [x0, x1] (.int 2 :: st) h := (mw_at mj_55_176).trans (z_iconst (by decide))
theorem mj_55_177 : mc_P 55 177 = some (.if_icmp .ne 37, 3, 0, 0, 0) := by decide +kernel
theorem s_55_177 {x0 x1 : Option Value} {x w : Int32} : mw d 55 Q 177 [x0, x1] (.int w :: .int x :: st) h = mB (¬ x = w) (mw d 55 Q) 214 180 [x0, x1] st h := (mw_at mj_55_177).trans (z_icmp_ne (by decide) rfl)
theorem mj_55_180 : mc_P 55 180 = some (.aload_n 0, 1, 0, 0, 0) := by decide +kernel
theorem s_55_180 {x1 : Option Value} {w : Value} : mw d 55 Q 180 [some w, x1] (st) h = mv_a w (mw d 55 Q 181 [some w, x1] (w :: st) h) := (mw_at mj_55_180).trans (z_aload_n rfl)
theorem mj_55_181 : mc_P 55 181 = some (.getfield 23, 3, 3, 1, 0) := by decide +kernel
theorem s_55_181 {x0 x1 : Option Value} {o : Nat} : mw d 55 Q 181 [x0, x1] (.ref o :: st) h = (mg h o 3 ∧ mw d 55 Q 184 [x0, x1] (va_rf (mh_r h o 1) :: st) h) := (mw_at mj_55_181).trans (z_getr (by decide) (by decide) rfl)
theorem mj_55_184 : mc_P 55 184 = some (.aload_n 0, 1, 0, 0, 0) := by decide +kernel
theorem s_55_184 {x1 : Option Value} {w : Value} : mw d 55 Q 184 [some w, x1] (st) h = mv_a w (mw d 55 Q 185 [some w, x1] (w :: st) h) := (mw_at mj_55_184).trans (z_aload_n rfl)
theorem mj_55_185 : mc_P 55 185 = some (.getfield 32, 3, 3, 2, 0) := by decide +kernel
theorem s_55_185 {x0 x1 : Option Value} {o : Nat} : mw d 55 Q 185 [x0, x1] (.ref o :: st) h = (mg h o 3 ∧ mw d 55 Q 188 [x0, x1] (va_rf (mh_r h o 2) :: st) h) := (mw_at mj_55_185).trans (z_getr (by decide) (by decide) rfl)
theorem mj_55_188 : mc_P 55 188 = some (.aload_n 0, 1, 0, 0, 0) := by decide +kernel
theorem s_55_188 {x1 : Option Value} {w : Value} : mw d 55 Q 188 [some w, x1] (st) h = mv_a w (mw d 55 Q 189 [some w, x1] (w :: st) h) := (mw_at mj_55_188).trans (z_aload_n rfl)
theorem mj_55_189 : mc_P 55 189 = some (.getfield 95, 3, 3, 5, 0) := by decide +kernel
theorem s_55_189 {x0 x1 : Option Value} {o : Nat} : mw d 55 Q 189 [x0, x1] (.ref o :: st) h = (mg h o 3 ∧ mw d 55 Q 192 [x0, x1] (.int (mh_i h o 5) :: st) h) := (mw_at mj_55_189).trans (z_geti (by decide) (by decide) (Or.inl rfl))
theorem mj_55_192 : mc_P 55 192 = some (.invokevirtual 138, 3, 120, 6, 2) := by decide +kernel
theorem s_55_192 {x0 x1 : Option Value} {o : Nat} {a1 : Value} : mw (d + 1) 55 Q 192 [x0, x1] (a1 :: .ref o :: st) h = (mg h o 6 ∧ mca st 8 ∧ mca [.ref o, a1] 2 ∧ mcall d 120 [.ref o, a1] h (mK (d + 1) 55 Q 195 [x0, x1] st)) := (mw_at mj_55_192).trans ((z_invv (As := [a1]) (by decide) rfl rfl).trans (congrArg (And _) (congrArg (And _) (mC_nl nl_120))))
theorem mj_55_195 : mc_P 55 195 = some (.aload_n 0, 1, 0, 0, 0) := by decide +kernel
theorem s_55_195 {x1 : Option Value} {w : Value} : mw d 55 Q 195 [some w, x1] (st) h = mv_a w (mw d 55 Q 196 [some w, x1] (w :: st) h) := (mw_at mj_55_195).trans (z_aload_n rfl)
theorem mj_55_196 : mc_P 55 196 = some (.getfield 95, 3, 3, 5, 0) := by decide +kernel
theorem s_55_196 {x0 x1 : Option Value} {o : Nat} : mw d 55 Q 196 [x0, x1] (.ref o :: st) h = (mg h o 3 ∧ mw d 55 Q 199 [x0, x1] (.int (mh_i h o 5) :: st) h) := (mw_at mj_55_196).trans (z_geti (by decide) (by decide) (Or.inl rfl))
theorem mj_55_199 : mc_P 55 199 = some (.invokevirtual 142, 3, 134, 7, 3) := by decide +kernel
theorem s_55_199 {x0 x1 : Option Value} {o : Nat} {a1 a2 : Value} : mw (d + 1) 55 Q 199 [x0, x1] (a2 :: a1 :: .ref o :: st) h = (mg h o 7 ∧ mca st 8 ∧ mca [.ref o, a1, a2] 4 ∧ mcall d 134 [.ref o, a1, a2] h (mK (d + 1) 55 Q 202 [x0, x1] st)) := (mw_at mj_55_199).trans ((z_invv (As := [a1, a2]) (by decide) rfl rfl).trans (congrArg (And _) (congrArg (And _) (mC_nl nl_134))))
theorem mj_55_202 : mc_P 55 202 = some (.aload_n 0, 1, 0, 0, 0) := by decide +kernel
theorem s_55_202 {x1 : Option Value} {w : Value} : mw d 55 Q 202 [some w, x1] (st) h = mv_a w (mw d 55 Q 203 [some w, x1] (w :: st) h) := (mw_at mj_55_202).trans (z_aload_n rfl)
theorem mj_55_203 : mc_P 55 203 = some (.getfield 32, 3, 3, 2, 0) := by decide +kernel
theorem s_55_203 {x0 x1 : Option Value} {o : Nat} : mw d 55 Q 203 [x0, x1] (.ref o :: st) h = (mg h o 3 ∧ mw d 55 Q 206 [x0, x1] (va_rf (mh_r h o 2) :: st) h) := (mw_at mj_55_203).trans (z_getr (by decide) (by decide) rfl)
theorem mj_55_206 : mc_P 55 206 = some (.aload_n 0, 1, 0, 0, 0) := by decide +kernel
theorem s_55_206 {x1 : Option Value} {w : Value} : mw d 55 Q 206 [some w, x1] (st) h = mv_a w (mw d 55 Q 207 [some w, x1] (w :: st) h) := (mw_at mj_55_206).trans (z_aload_n rfl)
theorem mj_55_207 : mc_P 55 207 = some (.getfield 95, 3, 3, 5, 0) := by decide +kernel
theorem s_55_207 {x0 x1 : Option Value} {o : Nat} : mw d 55 Q 207 [x0, x1] (.ref o :: st) h = (mg h o 3 ∧ mw d 55 Q 210 [x0, x1] (.int (mh_i h o 5) :: st) h) := (mw_at mj_55_207).trans (z_geti (by decide) (by decide) (Or.inl rfl))
theorem mj_55_210 : mc_P 55 210 = some (.iconst 0, 1, 0, 0, 0) := by decide +kernel
theorem s_55_210 {x0 x1 : Option Value} : mw d 55 Q 210 [x0, x1] (st) h = mw d 55 Q 211 [x0, x1] (.int 0 :: st) h := (mw_at mj_55_210).trans (z_iconst (by decide))
theorem mj_55_211 : mc_P 55 211 = some (.invokevirtual 146, 3, 121, 6, 3) := by decide +kernel
theorem s_55_211 {x0 x1 : Option Value} {o : Nat} {a1 a2 : Value} : mw (d + 1) 55 Q 211 [x0, x1] (a2 :: a1 :: .ref o :: st) h = (mg h o 6 ∧ mca st 8 ∧ mca [.ref o, a1, a2] 3 ∧ mcall d 121 [.ref o, a1, a2] h (mK (d + 1) 55 Q 214 [x0, x1] st)) := (mw_at mj_55_211).trans ((z_invv (As := [a1, a2]) (by decide) rfl rfl).trans (congrArg (And _) (congrArg (And _) (mC_nl nl_121))))
theorem mj_55_214 : mc_P 55 214 = some (.aload_n 0, 1, 0, 0, 0) := by decide +kernel
theorem s_55_214 {x1 : Option Value} {w : Value} : mw d 55 Q 214 [some w, x1] (st) h = mv_a w (mw d 55 Q 215 [some w, x1] (w :: st) h) := (mw_at mj_55_214).trans (z_aload_n rfl)
theorem mj_55_215 : mc_P 55 215 = some (.iconst 2, 1, 0, 0, 0) := by decide +kernel
theorem s_55_215 {x0 x1 : Option Value} : mw d 55 Q 215 [x0, x1] (st) h = mw d 55 Q 216 [x0, x1] (.int 2 :: st) h := (mw_at mj_55_215).trans (z_iconst (by decide))
theorem mj_55_216 : mc_P 55 216 = some (.invokevirtual 59, 3, 51, 3, 2) := by decide +kernel
theorem s_55_216 {x0 x1 : Option Value} {o : Nat} {a1 : Value} : mw (d + 1) 55 Q 216 [x0, x1] (a1 :: .ref o :: st) h = (mg h o 3 ∧ mca st 8 ∧ mca [.ref o, a1] 2 ∧ mcall d 51 [.ref o, a1] h (mK (d + 1) 55 Q 219 [x0, x1] st)) := (mw_at mj_55_216).trans ((z_invv (As := [a1]) (by decide) rfl rfl).trans (congrArg (And _) (congrArg (And _) (mC_nl nl_51))))
theorem mj_55_219 : mc_P 55 219 = some (.goto 55, 3, 0, 0, 0) := by decide +kernel
theorem s_55_219 {x0 x1 : Option Value} : mw d 55 Q 219 [x0, x1] (st) h = mw d 55 Q 274 [x0, x1] (st) h := (mw_at mj_55_219).trans (z_goto (by decide))
theorem mj_55_222 : mc_P 55 222 = some (.aload_n 0, 1, 0, 0, 0) := by decide +kernel
theorem s_55_222 {x1 : Option Value} {w : Value} : mw d 55 Q 222 [some w, x1] (st) h = mv_a w (mw d 55 Q 223 [some w, x1] (w :: st) h) := (mw_at mj_55_222).trans (z_aload_n rfl)
theorem mj_55_223 : mc_P 55 223 = some (.invokevirtual 108, 3, 47, 3, 1) := by decide +kernel
theorem s_55_223 {x0 x1 : Option Value} {o : Nat} : mw (d + 1) 55 Q 223 [x0, x1] (.ref o :: st) h = (mg h o 3 ∧ mca st 8 ∧ mca [.ref o] 1 ∧ mcall d 47 [.ref o] h (mK (d + 1) 55 Q 226 [x0, x1] st)) := (mw_at mj_55_223).trans ((z_invv (As := []) (by decide) rfl rfl).trans (congrArg (And _) (congrArg (And _) (mC_nl nl_47))))
theorem mj_55_226 : mc_P 55 226 = some (.bipush 44, 2, 0, 0, 0) := by decide +kernel
theorem s_55_226 {x0 x1 : Option Value} : mw d 55 Q 226 [x0, x1] (st) h = mw d 55 Q 228 [x0, x1] (.int 44 :: st) h := (mw_at mj_55_226).trans (z_bipush (by decide))
theorem mj_55_228 : mc_P 55 228 = some (.if_icmp .ne 30, 3, 0, 0, 0) := by decide +kernel
theorem s_55_228 {x0 x1 : Option Value} {x w : Int32} : mw d 55 Q 228 [x0, x1] (.int w :: .int x :: st) h = mB (¬ x = w) (mw d 55 Q) 258 231 [x0, x1] st h := (mw_at mj_55_228).trans (z_icmp_ne (by decide) rfl)
theorem mj_55_231 : mc_P 55 231 = some (.aload_n 0, 1, 0, 0, 0) := by decide +kernel
theorem s_55_231 {x1 : Option Value} {w : Value} : mw d 55 Q 231 [some w, x1] (st) h = mv_a w (mw d 55 Q 232 [some w, x1] (w :: st) h) := (mw_at mj_55_231).trans (z_aload_n rfl)
theorem mj_55_232 : mc_P 55 232 = some (.dup, 1, 0, 0, 0) := by decide +kernel
theorem s_55_232 {x0 x1 : Option Value} {w : Value} : mw d 55 Q 232 [x0, x1] (w :: st) h = (w.category = 1 ∧ mw d 55 Q 233 [x0, x1] (w :: w :: st) h) := (mw_at mj_55_232).trans (z_dup)
theorem mj_55_233 : mc_P 55 233 = some (.getfield 95, 3, 3, 5, 0) := by decide +kernel
theorem s_55_233 {x0 x1 : Option Value} {o : Nat} : mw d 55 Q 233 [x0, x1] (.ref o :: st) h = (mg h o 3 ∧ mw d 55 Q 236 [x0, x1] (.int (mh_i h o 5) :: st) h) := (mw_at mj_55_233).trans (z_geti (by decide) (by decide) (Or.inl rfl))
theorem mj_55_236 : mc_P 55 236 = some (.iconst 1, 1, 0, 0, 0) := by decide +kernel
theorem s_55_236 {x0 x1 : Option Value} : mw d 55 Q 236 [x0, x1] (st) h = mw d 55 Q 237 [x0, x1] (.int 1 :: st) h := (mw_at mj_55_236).trans (z_iconst (by decide))
theorem mj_55_237 : mc_P 55 237 = some (.iadd, 1, 0, 0, 0) := by decide +kernel
theorem s_55_237 {x0 x1 : Option Value} {x w : Int32} : mw d 55 Q 237 [x0, x1] (.int w :: .int x :: st) h = mw d 55 Q 238 [x0, x1] (.int (x + w) :: st) h := (mw_at mj_55_237).trans (z_iadd)
theorem mj_55_238 : mc_P 55 238 = some (.putfield 95, 3, 3, 5, 0) := by decide +kernel
theorem s_55_238 {x0 x1 : Option Value} {o : Nat} {w : Int32} : mw d 55 Q 238 [x0, x1] (.int w :: .ref o :: st) h = (mg h o 3 ∧ mw d 55 Q 241 [x0, x1] (st) (mh_si h o 5 w)) := (mw_at mj_55_238).trans (z_puti (by decide) (by decide) rfl)
theorem mj_55_241 : mc_P 55 241 = some (.aload_n 0, 1, 0, 0, 0) := by decide +kernel
theorem s_55_241 {x1 : Option Value} {w : Value} : mw d 55 Q 241 [some w, x1] (st) h = mv_a w (mw d 55 Q 242 [some w, x1] (w :: st) h) := (mw_at mj_55_241).trans (z_aload_n rfl)
theorem mj_55_242 : mc_P 55 242 = some (.sipush 145, 3, 0, 0, 0) := by decide +kernel
theorem s_55_242 {x0 x1 : Option Value} : mw d 55 Q 242 [x0, x1] (st) h = mw d 55 Q 245 [x0, x1] (.int 145 :: st) h := (mw_at mj_55_242).trans (z_sipush (by decide))
theorem mj_55_245 : mc_P 55 245 = some (.invokevirtual 51, 3, 45, 3, 2) := by decide +kernel
theorem s_55_245 {x0 x1 : Option Value} {o : Nat} {a1 : Value} : mw (d + 1) 55 Q 245 [x0, x1] (a1 :: .ref o :: st) h = (mg h o 3 ∧ mca st 8 ∧ mca [.ref o, a1] 2 ∧ mcall d 45 [.ref o, a1] h (mK (d + 1) 55 Q 248 [x0, x1] st)) := (mw_at mj_55_245).trans ((z_invv (As := [a1]) (by decide) rfl rfl).trans (congrArg (And _) (congrArg (And _) (mC_nl nl_45))))
theorem mj_55_248 : mc_P 55 248 = some (.aload_n 0, 1, 0, 0, 0) := by decide +kernel
theorem s_55_248 {x1 : Option Value} {w : Value} : mw d 55 Q 248 [some w, x1] (st) h = mv_a w (mw d 55 Q 249 [some w, x1] (w :: st) h) := (mw_at mj_55_248).trans (z_aload_n rfl)
theorem mj_55_249 : mc_P 55 249 = some (.sipush 144, 3, 0, 0, 0) := by decide +kernel
theorem s_55_249 {x0 x1 : Option Value} : mw d 55 Q 249 [x0, x1] (st) h = mw d 55 Q 252 [x0, x1] (.int 144 :: st) h := (mw_at mj_55_249).trans (z_sipush (by decide))
theorem mj_55_252 : mc_P 55 252 = some (.invokevirtual 51, 3, 45, 3, 2) := by decide +kernel
theorem s_55_252 {x0 x1 : Option Value} {o : Nat} {a1 : Value} : mw (d + 1) 55 Q 252 [x0, x1] (a1 :: .ref o :: st) h = (mg h o 3 ∧ mca st 8 ∧ mca [.ref o, a1] 2 ∧ mcall d 45 [.ref o, a1] h (mK (d + 1) 55 Q 255 [x0, x1] st)) := (mw_at mj_55_252).trans ((z_invv (As := [a1]) (by decide) rfl rfl).trans (congrArg (And _) (congrArg (And _) (mC_nl nl_45))))
theorem mj_55_255 : mc_P 55 255 = some (.goto 19, 3, 0, 0, 0) := by decide +kernel
theorem s_55_255 {x0 x1 : Option Value} : mw d 55 Q 255 [x0, x1] (st) h = mw d 55 Q 274 [x0, x1] (st) h := (mw_at mj_55_255).trans (z_goto (by decide))
theorem mj_55_258 : mc_P 55 258 = some (.aload_n 0, 1, 0, 0, 0) := by decide +kernel
theorem s_55_258 {x1 : Option Value} {w : Value} : mw d 55 Q 258 [some w, x1] (st) h = mv_a w (mw d 55 Q 259 [some w, x1] (w :: st) h) := (mw_at mj_55_258).trans (z_aload_n rfl)
theorem mj_55_259 : mc_P 55 259 = some (.bipush 41, 2, 0, 0, 0) := by decide +kernel
theorem s_55_259 {x0 x1 : Option Value} : mw d 55 Q 259 [x0, x1] (st) h = mw d 55 Q 261 [x0, x1] (.int 41 :: st) h := (mw_at mj_55_259).trans (z_bipush (by decide))
theorem mj_55_261 : mc_P 55 261 = some (.invokevirtual 59, 3, 51, 3, 2) := by decide +kernel
theorem s_55_261 {x0 x1 : Option Value} {o : Nat} {a1 : Value} : mw (d + 1) 55 Q 261 [x0, x1] (a1 :: .ref o :: st) h = (mg h o 3 ∧ mca st 8 ∧ mca [.ref o, a1] 2 ∧ mcall d 51 [.ref o, a1] h (mK (d + 1) 55 Q 264 [x0, x1] st)) := (mw_at mj_55_261).trans ((z_invv (As := [a1]) (by decide) rfl rfl).trans (congrArg (And _) (congrArg (And _) (mC_nl nl_51))))
theorem mj_55_264 : mc_P 55 264 = some (.goto 10, 3, 0, 0, 0) := by decide +kernel
theorem s_55_264 {x0 x1 : Option Value} : mw d 55 Q 264 [x0, x1] (st) h = mw d 55 Q 274 [x0, x1] (st) h := (mw_at mj_55_264).trans (z_goto (by decide))
theorem mj_55_267 : mc_P 55 267 = some (.aload_n 0, 1, 0, 0, 0) := by decide +kernel
theorem s_55_267 {x1 : Option Value} {w : Value} : mw d 55 Q 267 [some w, x1] (st) h = mv_a w (mw d 55 Q 268 [some w, x1] (w :: st) h) := (mw_at mj_55_267).trans (z_aload_n rfl)
theorem mj_55_268 : mc_P 55 268 = some (.getfield 23, 3, 3, 1, 0) := by decide +kernel
theorem s_55_268 {x0 x1 : Option Value} {o : Nat} : mw d 55 Q 268 [x0, x1] (.ref o :: st) h = (mg h o 3 ∧ mw d 55 Q 271 [x0, x1] (va_rf (mh_r h o 1) :: st) h) := (mw_at mj_55_268).trans (z_getr (by decide) (by decide) rfl)
theorem mj_55_271 : mc_P 55 271 = some (.invokevirtual 149, 3, 136, 7, 1) := by decide +kernel
theorem s_55_271 {x0 x1 : Option Value} {o : Nat} : mw (d + 1) 55 Q 271 [x0, x1] (.ref o :: st) h = (mg h o 7 ∧ mca st 8 ∧ mca [.ref o] 1 ∧ mcall d 136 [.ref o] h (mK (d + 1) 55 Q 274 [x0, x1] st)) := (mw_at mj_55_271).trans ((z_invv (As := []) (by decide) rfl rfl).trans (congrArg (And _) (congrArg (And _) (mC_nl nl_136))))
theorem mj_55_274 : mc_P 55 274 = some (.return_, 1, 0, 0, 0) := by decide +kernel
theorem s_55_274 {x0 x1 : Option Value} : mw d 55 Q 274 [x0, x1] ([]) h = Q none h := (mw_at mj_55_274).trans (z_vret)
theorem e_55 {a0 : Nat} {a1 : Int32} : mcall d 55 [.ref a0, .int a1] h Q = mw d 55 Q 0 [some (.ref a0), some (.int a1)] [] h := by
  show mw d 55 Q 0 (me_en (mc_nl 55) _) [] h = _
  rw [nl_55]; rfl

/-! InvariantDesk$Program.clear()V -/
theorem mj_79_0 : mc_P 79 0 = some (.aload_n 0, 1, 0, 0, 0) := by decide +kernel
theorem s_79_0 {w : Value} : mw d 79 Q 0 [some w] (st) h = mv_a w (mw d 79 Q 1 [some w] (w :: st) h) := (mw_at mj_79_0).trans (z_aload_n rfl)
theorem mj_79_1 : mc_P 79 1 = some (.getfield 31, 3, 4, 3, 0) := by decide +kernel
theorem s_79_1 {x0 : Option Value} {o : Nat} : mw d 79 Q 1 [x0] (.ref o :: st) h = (mg h o 4 ∧ mw d 79 Q 4 [x0] (va_rf (mh_r h o 3) :: st) h) := (mw_at mj_79_1).trans (z_getr (by decide) (by decide) rfl)
theorem mj_79_4 : mc_P 79 4 = some (.iconst 0, 1, 0, 0, 0) := by decide +kernel
theorem s_79_4 {x0 : Option Value} : mw d 79 Q 4 [x0] (st) h = mw d 79 Q 5 [x0] (.int 0 :: st) h := (mw_at mj_79_4).trans (z_iconst (by decide))
theorem mj_79_5 : mc_P 79 5 = some (.new 29, 3, 9, 0, 0) := by decide +kernel
theorem s_79_5 {x0 : Option Value} : mw d 79 Q 5 [x0] (st) h = mw d 79 Q 8 [x0] (.ref (mh_n h) :: st) (mh_new h 9 17) := (mw_at mj_79_5).trans (z_new (by decide) rfl)
theorem mj_79_8 : mc_P 79 8 = some (.dup, 1, 0, 0, 0) := by decide +kernel
theorem s_79_8 {x0 : Option Value} {w : Value} : mw d 79 Q 8 [x0] (w :: st) h = (w.category = 1 ∧ mw d 79 Q 9 [x0] (w :: w :: st) h) := (mw_at mj_79_8).trans (z_dup)
theorem mj_79_9 : mc_P 79 9 = some (.iconst 0, 1, 0, 0, 0) := by decide +kernel
theorem s_79_9 {x0 : Option Value} : mw d 79 Q 9 [x0] (st) h = mw d 79 Q 10 [x0] (.int 0 :: st) h := (mw_at mj_79_9).trans (z_iconst (by decide))
theorem mj_79_10 : mc_P 79 10 = some (.iconst 0, 1, 0, 0, 0) := by decide +kernel
theorem s_79_10 {x0 : Option Value} : mw d 79 Q 10 [x0] (st) h = mw d 79 Q 11 [x0] (.int 0 :: st) h := (mw_at mj_79_10).trans (z_iconst (by decide))
theorem mj_79_11 : mc_P 79 11 = some (.iconst 0, 1, 0, 0, 0) := by decide +kernel
theorem s_79_11 {x0 : Option Value} : mw d 79 Q 11 [x0] (st) h = mw d 79 Q 12 [x0] (.int 0 :: st) h := (mw_at mj_79_11).trans (z_iconst (by decide))
theorem mj_79_12 : mc_P 79 12 = some (.iconst 0, 1, 0, 0, 0) := by decide +kernel
theorem s_79_12 {x0 : Option Value} : mw d 79 Q 12 [x0] (st) h = mw d 79 Q 13 [x0] (.int 0 :: st) h := (mw_at mj_79_12).trans (z_iconst (by decide))
theorem mj_79_13 : mc_P 79 13 = some (.iconst 0, 1, 0, 0, 0) := by decide +kernel
theorem s_79_13 {x0 : Option Value} : mw d 79 Q 13 [x0] (st) h = mw d 79 Q 14 [x0] (.int 0 :: st) h := (mw_at mj_79_13).trans (z_iconst (by decide))
theorem mj_79_14 : mc_P 79 14 = some (.invokespecial 76, 3, 164, 0, 6) := by decide +kernel
theorem s_79_14 {x0 : Option Value} {o : Nat} {a1 a2 a3 a4 a5 : Value} : mw (d + 1) 79 Q 14 [x0] (a5 :: a4 :: a3 :: a2 :: a1 :: .ref o :: st) h = (mca st 8 ∧ mca [.ref o, a1, a2, a3, a4, a5] 6 ∧ mcall d 164 [.ref o, a1, a2, a3, a4, a5] h (mK (d + 1) 79 Q 17 [x0] st)) := (mw_at mj_79_14).trans ((z_invsp (As := [a1, a2, a3, a4, a5]) (by decide) rfl rfl).trans (congrArg (And _) (mC_nl nl_164)))
theorem mj_79_17 : mc_P 79 17 = some (.aastore, 1, 0, 0, 0) := by decide +kernel
theorem s_79_17 {x0 : Option Value} {o w : Nat} {i : Int32} : mw d 79 Q 17 [x0] (.ref w :: .int i :: .ref o :: st) h = (mgr h o ∧ mx i (mh_l h o) ∧ mh_k h o < 107 ∧ mg h w (me_ac (mh_k h o)) ∧ mw d 79 Q 18 [x0] (st) (mh_sr h o i.toNatClampNeg (some w))) := (mw_at mj_79_17).trans (z_aast)
theorem s_79_17n {x0 : Option Value} {o : Nat} {i : Int32} : mw d 79 Q 17 [x0] (.null :: .int i :: .ref o :: st) h = (mgr h o ∧ mx i (mh_l h o) ∧ mh_k h o < 107 ∧ mw d 79 Q 18 [x0] (st) (mh_sr h o i.toNatClampNeg none)) := (mw_at mj_79_17).trans (z_aastN)
theorem mj_79_18 : mc_P 79 18 = some (.aload_n 0, 1, 0, 0, 0) := by decide +kernel
theorem s_79_18 {w : Value} : mw d 79 Q 18 [some w] (st) h = mv_a w (mw d 79 Q 19 [some w] (w :: st) h) := (mw_at mj_79_18).trans (z_aload_n rfl)
theorem mj_79_19 : mc_P 79 19 = some (.getfield 35, 3, 4, 4, 0) := by decide +kernel
theorem s_79_19 {x0 : Option Value} {o : Nat} : mw d 79 Q 19 [x0] (.ref o :: st) h = (mg h o 4 ∧ mw d 79 Q 22 [x0] (va_rf (mh_r h o 4) :: st) h) := (mw_at mj_79_19).trans (z_getr (by decide) (by decide) rfl)
theorem mj_79_22 : mc_P 79 22 = some (.iconst 0, 1, 0, 0, 0) := by decide +kernel
theorem s_79_22 {x0 : Option Value} : mw d 79 Q 22 [x0] (st) h = mw d 79 Q 23 [x0] (.int 0 :: st) h := (mw_at mj_79_22).trans (z_iconst (by decide))
theorem mj_79_23 : mc_P 79 23 = some (.iconst 0, 1, 0, 0, 0) := by decide +kernel
theorem s_79_23 {x0 : Option Value} : mw d 79 Q 23 [x0] (st) h = mw d 79 Q 24 [x0] (.int 0 :: st) h := (mw_at mj_79_23).trans (z_iconst (by decide))
theorem mj_79_24 : mc_P 79 24 = some (.iastore, 1, 0, 0, 0) := by decide +kernel
theorem s_79_24 {x0 : Option Value} {o : Nat} {i w : Int32} : mw d 79 Q 24 [x0] (.int w :: .int i :: .ref o :: st) h = (mg h o 100 ∧ mx i (mh_l h o) ∧ mw d 79 Q 25 [x0] (st) (mh_si h o i.toNatClampNeg w)) := (mw_at mj_79_24).trans (z_iast)
theorem mj_79_25 : mc_P 79 25 = some (.aload_n 0, 1, 0, 0, 0) := by decide +kernel
theorem s_79_25 {w : Value} : mw d 79 Q 25 [some w] (st) h = mv_a w (mw d 79 Q 26 [some w] (w :: st) h) := (mw_at mj_79_25).trans (z_aload_n rfl)
theorem mj_79_26 : mc_P 79 26 = some (.getfield 39, 3, 4, 5, 0) := by decide +kernel
theorem s_79_26 {x0 : Option Value} {o : Nat} : mw d 79 Q 26 [x0] (.ref o :: st) h = (mg h o 4 ∧ mw d 79 Q 29 [x0] (va_rf (mh_r h o 5) :: st) h) := (mw_at mj_79_26).trans (z_getr (by decide) (by decide) rfl)
theorem mj_79_29 : mc_P 79 29 = some (.iconst 0, 1, 0, 0, 0) := by decide +kernel
theorem s_79_29 {x0 : Option Value} : mw d 79 Q 29 [x0] (st) h = mw d 79 Q 30 [x0] (.int 0 :: st) h := (mw_at mj_79_29).trans (z_iconst (by decide))
theorem mj_79_30 : mc_P 79 30 = some (.iconst 0, 1, 0, 0, 0) := by decide +kernel
theorem s_79_30 {x0 : Option Value} : mw d 79 Q 30 [x0] (st) h = mw d 79 Q 31 [x0] (.int 0 :: st) h := (mw_at mj_79_30).trans (z_iconst (by decide))
theorem mj_79_31 : mc_P 79 31 = some (.iastore, 1, 0, 0, 0) := by decide +kernel
theorem s_79_31 {x0 : Option Value} {o : Nat} {i w : Int32} : mw d 79 Q 31 [x0] (.int w :: .int i :: .ref o :: st) h = (mg h o 100 ∧ mx i (mh_l h o) ∧ mw d 79 Q 32 [x0] (st) (mh_si h o i.toNatClampNeg w)) := (mw_at mj_79_31).trans (z_iast)
theorem mj_79_32 : mc_P 79 32 = some (.aload_n 0, 1, 0, 0, 0) := by decide +kernel
theorem s_79_32 {w : Value} : mw d 79 Q 32 [some w] (st) h = mv_a w (mw d 79 Q 33 [some w] (w :: st) h) := (mw_at mj_79_32).trans (z_aload_n rfl)
theorem mj_79_33 : mc_P 79 33 = some (.iconst 1, 1, 0, 0, 0) := by decide +kernel
theorem s_79_33 {x0 : Option Value} : mw d 79 Q 33 [x0] (st) h = mw d 79 Q 34 [x0] (.int 1 :: st) h := (mw_at mj_79_33).trans (z_iconst (by decide))
theorem mj_79_34 : mc_P 79 34 = some (.putfield 79, 3, 4, 2, 0) := by decide +kernel
theorem s_79_34 {x0 : Option Value} {o : Nat} {w : Int32} : mw d 79 Q 34 [x0] (.int w :: .ref o :: st) h = (mg h o 4 ∧ mw d 79 Q 37 [x0] (st) (mh_si h o 2 w)) := (mw_at mj_79_34).trans (z_puti (by decide) (by decide) rfl)
theorem mj_79_37 : mc_P 79 37 = some (.return_, 1, 0, 0, 0) := by decide +kernel
theorem s_79_37 {x0 : Option Value} : mw d 79 Q 37 [x0] ([]) h = Q none h := (mw_at mj_79_37).trans (z_vret)
theorem e_79 {a0 : Nat} : mcall d 79 [.ref a0] h Q = mw d 79 Q 0 [some (.ref a0)] [] h := by
  show mw d 79 Q 0 (me_en (mc_nl 79) _) [] h = _
  rw [nl_79]; rfl

/-! InvariantDesk$Program.numbersAt(I)I -/
theorem mj_80_0 : mc_P 80 0 = some (.aload_n 0, 1, 0, 0, 0) := by decide +kernel
theorem s_80_0 {x1 : Option Value} {w : Value} : mw d 80 Q 0 [some w, x1] (st) h = mv_a w (mw d 80 Q 1 [some w, x1] (w :: st) h) := (mw_at mj_80_0).trans (z_aload_n rfl)
theorem mj_80_1 : mc_P 80 1 = some (.getfield 35, 3, 4, 4, 0) := by decide +kernel
theorem s_80_1 {x0 x1 : Option Value} {o : Nat} : mw d 80 Q 1 [x0, x1] (.ref o :: st) h = (mg h o 4 ∧ mw d 80 Q 4 [x0, x1] (va_rf (mh_r h o 4) :: st) h) := (mw_at mj_80_1).trans (z_getr (by decide) (by decide) rfl)
theorem mj_80_4 : mc_P 80 4 = some (.iload_n 1, 1, 0, 0, 0) := by decide +kernel
theorem s_80_4 {x0 : Option Value} {w : Value} : mw d 80 Q 4 [x0, some w] (st) h = mv_i w (mw d 80 Q 5 [x0, some w] (w :: st) h) := (mw_at mj_80_4).trans (z_iload_n rfl)
theorem mj_80_5 : mc_P 80 5 = some (.iaload, 1, 0, 0, 0) := by decide +kernel
theorem s_80_5 {x0 x1 : Option Value} {o : Nat} {i : Int32} : mw d 80 Q 5 [x0, x1] (.int i :: .ref o :: st) h = (mg h o 100 ∧ mx i (mh_l h o) ∧ mw d 80 Q 6 [x0, x1] (.int (mh_i h o i.toNatClampNeg) :: st) h) := (mw_at mj_80_5).trans (z_iald)
theorem s_80_5x {x0 x1 : Option Value} {i : Int32} : mw d 80 Q 5 [x0, x1] (.int i :: .retAddr 2 :: st) h = (mx i 24 ∧ mw d 80 Q 6 [x0, x1] (.int (mx_row.getD i.toNatClampNeg 0) :: st) h) := (mw_at mj_80_5).trans (z_iaX)
theorem mj_80_6 : mc_P 80 6 = some (.aload_n 0, 1, 0, 0, 0) := by decide +kernel
theorem s_80_6 {x1 : Option Value} {w : Value} : mw d 80 Q 6 [some w, x1] (st) h = mv_a w (mw d 80 Q 7 [some w, x1] (w :: st) h) := (mw_at mj_80_6).trans (z_aload_n rfl)
theorem mj_80_7 : mc_P 80 7 = some (.getfield 31, 3, 4, 3, 0) := by decide +kernel
theorem s_80_7 {x0 x1 : Option Value} {o : Nat} : mw d 80 Q 7 [x0, x1] (.ref o :: st) h = (mg h o 4 ∧ mw d 80 Q 10 [x0, x1] (va_rf (mh_r h o 3) :: st) h) := (mw_at mj_80_7).trans (z_getr (by decide) (by decide) rfl)
theorem mj_80_10 : mc_P 80 10 = some (.iload_n 1, 1, 0, 0, 0) := by decide +kernel
theorem s_80_10 {x0 : Option Value} {w : Value} : mw d 80 Q 10 [x0, some w] (st) h = mv_i w (mw d 80 Q 11 [x0, some w] (w :: st) h) := (mw_at mj_80_10).trans (z_iload_n rfl)
theorem mj_80_11 : mc_P 80 11 = some (.aaload, 1, 0, 0, 0) := by decide +kernel
theorem s_80_11 {x0 x1 : Option Value} {o : Nat} {i : Int32} : mw d 80 Q 11 [x0, x1] (.int i :: .ref o :: st) h = (mgr h o ∧ mx i (mh_l h o) ∧ mw d 80 Q 12 [x0, x1] (mrd (mh_k h o) h o i.toNatClampNeg :: st) h) := (mw_at mj_80_11).trans (z_aald)
theorem mj_80_12 : mc_P 80 12 = some (.getfield 83, 3, 9, 3, 0) := by decide +kernel
theorem s_80_12 {x0 x1 : Option Value} {o : Nat} : mw d 80 Q 12 [x0, x1] (.ref o :: st) h = (mg h o 9 ∧ mw d 80 Q 15 [x0, x1] (.int (mh_i h o 3) :: st) h) := (mw_at mj_80_12).trans (z_geti (by decide) (by decide) (Or.inl rfl))
theorem mj_80_15 : mc_P 80 15 = some (.iadd, 1, 0, 0, 0) := by decide +kernel
theorem s_80_15 {x0 x1 : Option Value} {x w : Int32} : mw d 80 Q 15 [x0, x1] (.int w :: .int x :: st) h = mw d 80 Q 16 [x0, x1] (.int (x + w) :: st) h := (mw_at mj_80_15).trans (z_iadd)
theorem mj_80_16 : mc_P 80 16 = some (.ireturn, 1, 0, 0, 0) := by decide +kernel
theorem s_80_16 {x0 x1 : Option Value} {x : Int32} : mw d 80 Q 16 [x0, x1] ([.int x]) h = (Q (some (.int x)) h) := (mw_at mj_80_16).trans (z_iret)
theorem e_80 {a0 : Nat} {a1 : Int32} : mcall d 80 [.ref a0, .int a1] h Q = mw d 80 Q 0 [some (.ref a0), some (.int a1)] [] h := by
  show mw d 80 Q 0 (me_en (mc_nl 80) _) [] h = _
  rw [nl_80]; rfl

/-! InvariantDesk$Program.arraysAt(I)I -/
theorem mj_81_0 : mc_P 81 0 = some (.aload_n 0, 1, 0, 0, 0) := by decide +kernel
theorem s_81_0 {x1 : Option Value} {w : Value} : mw d 81 Q 0 [some w, x1] (st) h = mv_a w (mw d 81 Q 1 [some w, x1] (w :: st) h) := (mw_at mj_81_0).trans (z_aload_n rfl)
theorem mj_81_1 : mc_P 81 1 = some (.getfield 39, 3, 4, 5, 0) := by decide +kernel
theorem s_81_1 {x0 x1 : Option Value} {o : Nat} : mw d 81 Q 1 [x0, x1] (.ref o :: st) h = (mg h o 4 ∧ mw d 81 Q 4 [x0, x1] (va_rf (mh_r h o 5) :: st) h) := (mw_at mj_81_1).trans (z_getr (by decide) (by decide) rfl)
theorem mj_81_4 : mc_P 81 4 = some (.iload_n 1, 1, 0, 0, 0) := by decide +kernel
theorem s_81_4 {x0 : Option Value} {w : Value} : mw d 81 Q 4 [x0, some w] (st) h = mv_i w (mw d 81 Q 5 [x0, some w] (w :: st) h) := (mw_at mj_81_4).trans (z_iload_n rfl)
theorem mj_81_5 : mc_P 81 5 = some (.iaload, 1, 0, 0, 0) := by decide +kernel
theorem s_81_5 {x0 x1 : Option Value} {o : Nat} {i : Int32} : mw d 81 Q 5 [x0, x1] (.int i :: .ref o :: st) h = (mg h o 100 ∧ mx i (mh_l h o) ∧ mw d 81 Q 6 [x0, x1] (.int (mh_i h o i.toNatClampNeg) :: st) h) := (mw_at mj_81_5).trans (z_iald)
theorem s_81_5x {x0 x1 : Option Value} {i : Int32} : mw d 81 Q 5 [x0, x1] (.int i :: .retAddr 2 :: st) h = (mx i 24 ∧ mw d 81 Q 6 [x0, x1] (.int (mx_row.getD i.toNatClampNeg 0) :: st) h) := (mw_at mj_81_5).trans (z_iaX)
theorem mj_81_6 : mc_P 81 6 = some (.aload_n 0, 1, 0, 0, 0) := by decide +kernel
theorem s_81_6 {x1 : Option Value} {w : Value} : mw d 81 Q 6 [some w, x1] (st) h = mv_a w (mw d 81 Q 7 [some w, x1] (w :: st) h) := (mw_at mj_81_6).trans (z_aload_n rfl)
theorem mj_81_7 : mc_P 81 7 = some (.getfield 31, 3, 4, 3, 0) := by decide +kernel
theorem s_81_7 {x0 x1 : Option Value} {o : Nat} : mw d 81 Q 7 [x0, x1] (.ref o :: st) h = (mg h o 4 ∧ mw d 81 Q 10 [x0, x1] (va_rf (mh_r h o 3) :: st) h) := (mw_at mj_81_7).trans (z_getr (by decide) (by decide) rfl)
theorem mj_81_10 : mc_P 81 10 = some (.iload_n 1, 1, 0, 0, 0) := by decide +kernel
theorem s_81_10 {x0 : Option Value} {w : Value} : mw d 81 Q 10 [x0, some w] (st) h = mv_i w (mw d 81 Q 11 [x0, some w] (w :: st) h) := (mw_at mj_81_10).trans (z_iload_n rfl)
theorem mj_81_11 : mc_P 81 11 = some (.aaload, 1, 0, 0, 0) := by decide +kernel
theorem s_81_11 {x0 x1 : Option Value} {o : Nat} {i : Int32} : mw d 81 Q 11 [x0, x1] (.int i :: .ref o :: st) h = (mgr h o ∧ mx i (mh_l h o) ∧ mw d 81 Q 12 [x0, x1] (mrd (mh_k h o) h o i.toNatClampNeg :: st) h) := (mw_at mj_81_11).trans (z_aald)
theorem mj_81_12 : mc_P 81 12 = some (.getfield 86, 3, 9, 4, 0) := by decide +kernel
theorem s_81_12 {x0 x1 : Option Value} {o : Nat} : mw d 81 Q 12 [x0, x1] (.ref o :: st) h = (mg h o 9 ∧ mw d 81 Q 15 [x0, x1] (.int (mh_i h o 4) :: st) h) := (mw_at mj_81_12).trans (z_geti (by decide) (by decide) (Or.inl rfl))
theorem mj_81_15 : mc_P 81 15 = some (.iadd, 1, 0, 0, 0) := by decide +kernel
theorem s_81_15 {x0 x1 : Option Value} {x w : Int32} : mw d 81 Q 15 [x0, x1] (.int w :: .int x :: st) h = mw d 81 Q 16 [x0, x1] (.int (x + w) :: st) h := (mw_at mj_81_15).trans (z_iadd)
theorem mj_81_16 : mc_P 81 16 = some (.ireturn, 1, 0, 0, 0) := by decide +kernel
theorem s_81_16 {x0 x1 : Option Value} {x : Int32} : mw d 81 Q 16 [x0, x1] ([.int x]) h = (Q (some (.int x)) h) := (mw_at mj_81_16).trans (z_iret)
theorem e_81 {a0 : Nat} {a1 : Int32} : mcall d 81 [.ref a0, .int a1] h Q = mw d 81 Q 0 [some (.ref a0), some (.int a1)] [] h := by
  show mw d 81 Q 0 (me_en (mc_nl 81) _) [] h = _
  rw [nl_81]; rfl

/-! InvariantDesk$Scope.<init>(LInvariantDesk$Tokens;)V -/
theorem mj_116_0 : mc_P 116 0 = some (.aload_n 0, 1, 0, 0, 0) := by decide +kernel
theorem s_116_0 {x1 x2 : Option Value} {w : Value} : mw d 116 Q 0 [some w, x1, x2] (st) h = mv_a w (mw d 116 Q 1 [some w, x1, x2] (w :: st) h) := (mw_at mj_116_0).trans (z_aload_n rfl)
theorem mj_116_1 : mc_P 116 1 = some (.invokespecial 3, 3, 0, 1, 0) := by decide +kernel
theorem s_116_1 {x0 x1 x2 : Option Value} {o : Nat} : mw d 116 Q 1 [x0, x1, x2] (.ref o :: st) h = (mca st 8 ∧ mw d 116 Q 4 [x0, x1, x2] (st) h) := (mw_at mj_116_1).trans (z_obj)
theorem mj_116_4 : mc_P 116 4 = some (.aload_n 0, 1, 0, 0, 0) := by decide +kernel
theorem s_116_4 {x1 x2 : Option Value} {w : Value} : mw d 116 Q 4 [some w, x1, x2] (st) h = mv_a w (mw d 116 Q 5 [some w, x1, x2] (w :: st) h) := (mw_at mj_116_4).trans (z_aload_n rfl)
theorem mj_116_5 : mc_P 116 5 = some (.bipush 62, 2, 0, 0, 0) := by decide +kernel
theorem s_116_5 {x0 x1 x2 : Option Value} : mw d 116 Q 5 [x0, x1, x2] (st) h = mw d 116 Q 7 [x0, x1, x2] (.int 62 :: st) h := (mw_at mj_116_5).trans (z_bipush (by decide))
theorem mj_116_7 : mc_P 116 7 = some (.newarray .int, 2, 100, 0, 0) := by decide +kernel
theorem s_116_7 {x0 x1 x2 : Option Value} {i : Int32} : mw d 116 Q 7 [x0, x1, x2] (.int i :: st) h = (mN i ∧ mw d 116 Q 9 [x0, x1, x2] (.ref (mh_n h) :: st) (mh_new h 100 i.toNatClampNeg)) := (mw_at mj_116_7).trans (z_newa (by decide) (by decide))
theorem mj_116_9 : mc_P 116 9 = some (.putfield 9, 3, 6, 5, 0) := by decide +kernel
theorem s_116_9 {x0 x1 x2 : Option Value} {o w : Nat} : mw d 116 Q 9 [x0, x1, x2] (.ref w :: .ref o :: st) h = (mg h o 6 ∧ mw d 116 Q 12 [x0, x1, x2] (st) (mh_sr h o 5 (some w))) := (mw_at mj_116_9).trans (z_putr (by decide) (by decide) rfl)
theorem s_116_9n {x0 x1 x2 : Option Value} {o : Nat} : mw d 116 Q 9 [x0, x1, x2] (.null :: .ref o :: st) h = (mg h o 6 ∧ mw d 116 Q 12 [x0, x1, x2] (st) (mh_sr h o 5 none)) := (mw_at mj_116_9).trans (z_putn (by decide) (by decide) rfl)
theorem mj_116_12 : mc_P 116 12 = some (.aload_n 0, 1, 0, 0, 0) := by decide +kernel
theorem s_116_12 {x1 x2 : Option Value} {w : Value} : mw d 116 Q 12 [some w, x1, x2] (st) h = mv_a w (mw d 116 Q 13 [some w, x1, x2] (w :: st) h) := (mw_at mj_116_12).trans (z_aload_n rfl)
theorem mj_116_13 : mc_P 116 13 = some (.aload_n 1, 1, 0, 0, 0) := by decide +kernel
theorem s_116_13 {x0 x2 : Option Value} {w : Value} : mw d 116 Q 13 [x0, some w, x2] (st) h = mv_a w (mw d 116 Q 14 [x0, some w, x2] (w :: st) h) := (mw_at mj_116_13).trans (z_aload_n rfl)
theorem mj_116_14 : mc_P 116 14 = some (.putfield 15, 3, 6, 0, 0) := by decide +kernel
theorem s_116_14 {x0 x1 x2 : Option Value} {o w : Nat} : mw d 116 Q 14 [x0, x1, x2] (.ref w :: .ref o :: st) h = (mg h o 6 ∧ mw d 116 Q 17 [x0, x1, x2] (st) (mh_sr h o 0 (some w))) := (mw_at mj_116_14).trans (z_putr (by decide) (by decide) rfl)
theorem s_116_14n {x0 x1 x2 : Option Value} {o : Nat} : mw d 116 Q 14 [x0, x1, x2] (.null :: .ref o :: st) h = (mg h o 6 ∧ mw d 116 Q 17 [x0, x1, x2] (st) (mh_sr h o 0 none)) := (mw_at mj_116_14).trans (z_putn (by decide) (by decide) rfl)
theorem mj_116_17 : mc_P 116 17 = some (.aload_n 1, 1, 0, 0, 0) := by decide +kernel
theorem s_116_17 {x0 x2 : Option Value} {w : Value} : mw d 116 Q 17 [x0, some w, x2] (st) h = mv_a w (mw d 116 Q 18 [x0, some w, x2] (w :: st) h) := (mw_at mj_116_17).trans (z_aload_n rfl)
theorem mj_116_18 : mc_P 116 18 = some (.getfield 19, 3, 10, 0, 0) := by decide +kernel
theorem s_116_18 {x0 x1 x2 : Option Value} {o : Nat} : mw d 116 Q 18 [x0, x1, x2] (.ref o :: st) h = (mg h o 10 ∧ mw d 116 Q 21 [x0, x1, x2] (va_rf (mh_r h o 0) :: st) h) := (mw_at mj_116_18).trans (z_getr (by decide) (by decide) rfl)
theorem mj_116_21 : mc_P 116 21 = some (.arraylength, 1, 0, 0, 0) := by decide +kernel
theorem s_116_21 {x0 x1 x2 : Option Value} {o : Nat} : mw d 116 Q 21 [x0, x1, x2] (.ref o :: st) h = (mga h o ∧ mw d 116 Q 22 [x0, x1, x2] (.int (Int32.ofNat (mh_l h o)) :: st) h) := (mw_at mj_116_21).trans (z_alen)
theorem mj_116_22 : mc_P 116 22 = some (.iconst 2, 1, 0, 0, 0) := by decide +kernel
theorem s_116_22 {x0 x1 x2 : Option Value} : mw d 116 Q 22 [x0, x1, x2] (st) h = mw d 116 Q 23 [x0, x1, x2] (.int 2 :: st) h := (mw_at mj_116_22).trans (z_iconst (by decide))
theorem mj_116_23 : mc_P 116 23 = some (.idiv, 1, 0, 0, 0) := by decide +kernel
theorem s_116_23 {x0 x1 x2 : Option Value} {x w : Int32} : mw d 116 Q 23 [x0, x1, x2] (.int w :: .int x :: st) h = (¬ w = 0 ∧ mw d 116 Q 24 [x0, x1, x2] (.int (x / w) :: st) h) := (mw_at mj_116_23).trans (z_idiv)
theorem mj_116_24 : mc_P 116 24 = some (.iconst 1, 1, 0, 0, 0) := by decide +kernel
theorem s_116_24 {x0 x1 x2 : Option Value} : mw d 116 Q 24 [x0, x1, x2] (st) h = mw d 116 Q 25 [x0, x1, x2] (.int 1 :: st) h := (mw_at mj_116_24).trans (z_iconst (by decide))
theorem mj_116_25 : mc_P 116 25 = some (.iadd, 1, 0, 0, 0) := by decide +kernel
theorem s_116_25 {x0 x1 x2 : Option Value} {x w : Int32} : mw d 116 Q 25 [x0, x1, x2] (.int w :: .int x :: st) h = mw d 116 Q 26 [x0, x1, x2] (.int (x + w) :: st) h := (mw_at mj_116_25).trans (z_iadd)
theorem mj_116_26 : mc_P 116 26 = some (.istore_n 2, 1, 0, 0, 0) := by decide +kernel
theorem s_116_26 {x0 x1 x2 : Option Value} {w : Int32} : mw d 116 Q 26 [x0, x1, x2] (.int w :: st) h = mw d 116 Q 27 [x0, mk2 x1, some (.int w)] (st) h := (mw_at mj_116_26).trans (z_istore_n (Nat.le_of_ble_eq_true rfl) (me_s1_mk (j := 1) (w := x1) rfl))
theorem mj_116_27 : mc_P 116 27 = some (.aload_n 0, 1, 0, 0, 0) := by decide +kernel
theorem s_116_27 {x1 x2 : Option Value} {w : Value} : mw d 116 Q 27 [some w, x1, x2] (st) h = mv_a w (mw d 116 Q 28 [some w, x1, x2] (w :: st) h) := (mw_at mj_116_27).trans (z_aload_n rfl)
theorem mj_116_28 : mc_P 116 28 = some (.iload_n 2, 1, 0, 0, 0) := by decide +kernel
theorem s_116_28 {x0 x1 : Option Value} {w : Value} : mw d 116 Q 28 [x0, x1, some w] (st) h = mv_i w (mw d 116 Q 29 [x0, x1, some w] (w :: st) h) := (mw_at mj_116_28).trans (z_iload_n rfl)
theorem mj_116_29 : mc_P 116 29 = some (.newarray .int, 2, 100, 0, 0) := by decide +kernel
theorem s_116_29 {x0 x1 x2 : Option Value} {i : Int32} : mw d 116 Q 29 [x0, x1, x2] (.int i :: st) h = (mN i ∧ mw d 116 Q 31 [x0, x1, x2] (.ref (mh_n h) :: st) (mh_new h 100 i.toNatClampNeg)) := (mw_at mj_116_29).trans (z_newa (by decide) (by decide))
theorem mj_116_31 : mc_P 116 31 = some (.putfield 25, 3, 6, 1, 0) := by decide +kernel
theorem s_116_31 {x0 x1 x2 : Option Value} {o w : Nat} : mw d 116 Q 31 [x0, x1, x2] (.ref w :: .ref o :: st) h = (mg h o 6 ∧ mw d 116 Q 34 [x0, x1, x2] (st) (mh_sr h o 1 (some w))) := (mw_at mj_116_31).trans (z_putr (by decide) (by decide) rfl)
theorem s_116_31n {x0 x1 x2 : Option Value} {o : Nat} : mw d 116 Q 31 [x0, x1, x2] (.null :: .ref o :: st) h = (mg h o 6 ∧ mw d 116 Q 34 [x0, x1, x2] (st) (mh_sr h o 1 none)) := (mw_at mj_116_31).trans (z_putn (by decide) (by decide) rfl)
theorem mj_116_34 : mc_P 116 34 = some (.aload_n 0, 1, 0, 0, 0) := by decide +kernel
theorem s_116_34 {x1 x2 : Option Value} {w : Value} : mw d 116 Q 34 [some w, x1, x2] (st) h = mv_a w (mw d 116 Q 35 [some w, x1, x2] (w :: st) h) := (mw_at mj_116_34).trans (z_aload_n rfl)
theorem mj_116_35 : mc_P 116 35 = some (.iload_n 2, 1, 0, 0, 0) := by decide +kernel
theorem s_116_35 {x0 x1 : Option Value} {w : Value} : mw d 116 Q 35 [x0, x1, some w] (st) h = mv_i w (mw d 116 Q 36 [x0, x1, some w] (w :: st) h) := (mw_at mj_116_35).trans (z_iload_n rfl)
theorem mj_116_36 : mc_P 116 36 = some (.newarray .int, 2, 100, 0, 0) := by decide +kernel
theorem s_116_36 {x0 x1 x2 : Option Value} {i : Int32} : mw d 116 Q 36 [x0, x1, x2] (.int i :: st) h = (mN i ∧ mw d 116 Q 38 [x0, x1, x2] (.ref (mh_n h) :: st) (mh_new h 100 i.toNatClampNeg)) := (mw_at mj_116_36).trans (z_newa (by decide) (by decide))
theorem mj_116_38 : mc_P 116 38 = some (.putfield 28, 3, 6, 2, 0) := by decide +kernel
theorem s_116_38 {x0 x1 x2 : Option Value} {o w : Nat} : mw d 116 Q 38 [x0, x1, x2] (.ref w :: .ref o :: st) h = (mg h o 6 ∧ mw d 116 Q 41 [x0, x1, x2] (st) (mh_sr h o 2 (some w))) := (mw_at mj_116_38).trans (z_putr (by decide) (by decide) rfl)
theorem s_116_38n {x0 x1 x2 : Option Value} {o : Nat} : mw d 116 Q 38 [x0, x1, x2] (.null :: .ref o :: st) h = (mg h o 6 ∧ mw d 116 Q 41 [x0, x1, x2] (st) (mh_sr h o 2 none)) := (mw_at mj_116_38).trans (z_putn (by decide) (by decide) rfl)
theorem mj_116_41 : mc_P 116 41 = some (.aload_n 0, 1, 0, 0, 0) := by decide +kernel
theorem s_116_41 {x1 x2 : Option Value} {w : Value} : mw d 116 Q 41 [some w, x1, x2] (st) h = mv_a w (mw d 116 Q 42 [some w, x1, x2] (w :: st) h) := (mw_at mj_116_41).trans (z_aload_n rfl)
theorem mj_116_42 : mc_P 116 42 = some (.iload_n 2, 1, 0, 0, 0) := by decide +kernel
theorem s_116_42 {x0 x1 : Option Value} {w : Value} : mw d 116 Q 42 [x0, x1, some w] (st) h = mv_i w (mw d 116 Q 43 [x0, x1, some w] (w :: st) h) := (mw_at mj_116_42).trans (z_iload_n rfl)
theorem mj_116_43 : mc_P 116 43 = some (.newarray .int, 2, 100, 0, 0) := by decide +kernel
theorem s_116_43 {x0 x1 x2 : Option Value} {i : Int32} : mw d 116 Q 43 [x0, x1, x2] (.int i :: st) h = (mN i ∧ mw d 116 Q 45 [x0, x1, x2] (.ref (mh_n h) :: st) (mh_new h 100 i.toNatClampNeg)) := (mw_at mj_116_43).trans (z_newa (by decide) (by decide))
theorem mj_116_45 : mc_P 116 45 = some (.putfield 31, 3, 6, 3, 0) := by decide +kernel
theorem s_116_45 {x0 x1 x2 : Option Value} {o w : Nat} : mw d 116 Q 45 [x0, x1, x2] (.ref w :: .ref o :: st) h = (mg h o 6 ∧ mw d 116 Q 48 [x0, x1, x2] (st) (mh_sr h o 3 (some w))) := (mw_at mj_116_45).trans (z_putr (by decide) (by decide) rfl)
theorem s_116_45n {x0 x1 x2 : Option Value} {o : Nat} : mw d 116 Q 45 [x0, x1, x2] (.null :: .ref o :: st) h = (mg h o 6 ∧ mw d 116 Q 48 [x0, x1, x2] (st) (mh_sr h o 3 none)) := (mw_at mj_116_45).trans (z_putn (by decide) (by decide) rfl)
theorem mj_116_48 : mc_P 116 48 = some (.return_, 1, 0, 0, 0) := by decide +kernel
theorem s_116_48 {x0 x1 x2 : Option Value} : mw d 116 Q 48 [x0, x1, x2] ([]) h = Q none h := (mw_at mj_116_48).trans (z_vret)
theorem e_116 {a0 : Nat} {a1 : Nat} : mcall d 116 [.ref a0, .ref a1] h Q = mw d 116 Q 0 [some (.ref a0), some (.ref a1), none] [] h := by
  show mw d 116 Q 0 (me_en (mc_nl 116) _) [] h = _
  rw [nl_116]; rfl

/-! InvariantDesk$Source.<init>(I)V -/
theorem mj_125_0 : mc_P 125 0 = some (.aload_n 0, 1, 0, 0, 0) := by decide +kernel
theorem s_125_0 {x1 : Option Value} {w : Value} : mw d 125 Q 0 [some w, x1] (st) h = mv_a w (mw d 125 Q 1 [some w, x1] (w :: st) h) := (mw_at mj_125_0).trans (z_aload_n rfl)
theorem mj_125_1 : mc_P 125 1 = some (.invokespecial 3, 3, 0, 1, 0) := by decide +kernel
theorem s_125_1 {x0 x1 : Option Value} {o : Nat} : mw d 125 Q 1 [x0, x1] (.ref o :: st) h = (mca st 8 ∧ mw d 125 Q 4 [x0, x1] (st) h) := (mw_at mj_125_1).trans (z_obj)
theorem mj_125_4 : mc_P 125 4 = some (.aload_n 0, 1, 0, 0, 0) := by decide +kernel
theorem s_125_4 {x1 : Option Value} {w : Value} : mw d 125 Q 4 [some w, x1] (st) h = mv_a w (mw d 125 Q 5 [some w, x1] (w :: st) h) := (mw_at mj_125_4).trans (z_aload_n rfl)
theorem mj_125_5 : mc_P 125 5 = some (.iconst 3, 1, 0, 0, 0) := by decide +kernel
theorem s_125_5 {x0 x1 : Option Value} : mw d 125 Q 5 [x0, x1] (st) h = mw d 125 Q 6 [x0, x1] (.int 3 :: st) h := (mw_at mj_125_5).trans (z_iconst (by decide))
theorem mj_125_6 : mc_P 125 6 = some (.iload_n 1, 1, 0, 0, 0) := by decide +kernel
theorem s_125_6 {x0 : Option Value} {w : Value} : mw d 125 Q 6 [x0, some w] (st) h = mv_i w (mw d 125 Q 7 [x0, some w] (w :: st) h) := (mw_at mj_125_6).trans (z_iload_n rfl)
theorem mj_125_7 : mc_P 125 7 = some (.imul, 1, 0, 0, 0) := by decide +kernel
theorem s_125_7 {x0 x1 : Option Value} {x w : Int32} : mw d 125 Q 7 [x0, x1] (.int w :: .int x :: st) h = mw d 125 Q 8 [x0, x1] (.int (x * w) :: st) h := (mw_at mj_125_7).trans (z_imul)
theorem mj_125_8 : mc_P 125 8 = some (.iconst 3, 1, 0, 0, 0) := by decide +kernel
theorem s_125_8 {x0 x1 : Option Value} : mw d 125 Q 8 [x0, x1] (st) h = mw d 125 Q 9 [x0, x1] (.int 3 :: st) h := (mw_at mj_125_8).trans (z_iconst (by decide))
theorem mj_125_9 : mc_P 125 9 = some (.iadd, 1, 0, 0, 0) := by decide +kernel
theorem s_125_9 {x0 x1 : Option Value} {x w : Int32} : mw d 125 Q 9 [x0, x1] (.int w :: .int x :: st) h = mw d 125 Q 10 [x0, x1] (.int (x + w) :: st) h := (mw_at mj_125_9).trans (z_iadd)
theorem mj_125_10 : mc_P 125 10 = some (.newarray .int, 2, 100, 0, 0) := by decide +kernel
theorem s_125_10 {x0 x1 : Option Value} {i : Int32} : mw d 125 Q 10 [x0, x1] (.int i :: st) h = (mN i ∧ mw d 125 Q 12 [x0, x1] (.ref (mh_n h) :: st) (mh_new h 100 i.toNatClampNeg)) := (mw_at mj_125_10).trans (z_newa (by decide) (by decide))
theorem mj_125_12 : mc_P 125 12 = some (.putfield 9, 3, 7, 0, 0) := by decide +kernel
theorem s_125_12 {x0 x1 : Option Value} {o w : Nat} : mw d 125 Q 12 [x0, x1] (.ref w :: .ref o :: st) h = (mg h o 7 ∧ mw d 125 Q 15 [x0, x1] (st) (mh_sr h o 0 (some w))) := (mw_at mj_125_12).trans (z_putr (by decide) (by decide) rfl)
theorem s_125_12n {x0 x1 : Option Value} {o : Nat} : mw d 125 Q 12 [x0, x1] (.null :: .ref o :: st) h = (mg h o 7 ∧ mw d 125 Q 15 [x0, x1] (st) (mh_sr h o 0 none)) := (mw_at mj_125_12).trans (z_putn (by decide) (by decide) rfl)
theorem mj_125_15 : mc_P 125 15 = some (.aload_n 0, 1, 0, 0, 0) := by decide +kernel
theorem s_125_15 {x1 : Option Value} {w : Value} : mw d 125 Q 15 [some w, x1] (st) h = mv_a w (mw d 125 Q 16 [some w, x1] (w :: st) h) := (mw_at mj_125_15).trans (z_aload_n rfl)
theorem mj_125_16 : mc_P 125 16 = some (.iload_n 1, 1, 0, 0, 0) := by decide +kernel
theorem s_125_16 {x0 : Option Value} {w : Value} : mw d 125 Q 16 [x0, some w] (st) h = mv_i w (mw d 125 Q 17 [x0, some w] (w :: st) h) := (mw_at mj_125_16).trans (z_iload_n rfl)
theorem mj_125_17 : mc_P 125 17 = some (.iconst 1, 1, 0, 0, 0) := by decide +kernel
theorem s_125_17 {x0 x1 : Option Value} : mw d 125 Q 17 [x0, x1] (st) h = mw d 125 Q 18 [x0, x1] (.int 1 :: st) h := (mw_at mj_125_17).trans (z_iconst (by decide))
theorem mj_125_18 : mc_P 125 18 = some (.iadd, 1, 0, 0, 0) := by decide +kernel
theorem s_125_18 {x0 x1 : Option Value} {x w : Int32} : mw d 125 Q 18 [x0, x1] (.int w :: .int x :: st) h = mw d 125 Q 19 [x0, x1] (.int (x + w) :: st) h := (mw_at mj_125_18).trans (z_iadd)
theorem mj_125_19 : mc_P 125 19 = some (.newarray .int, 2, 100, 0, 0) := by decide +kernel
theorem s_125_19 {x0 x1 : Option Value} {i : Int32} : mw d 125 Q 19 [x0, x1] (.int i :: st) h = (mN i ∧ mw d 125 Q 21 [x0, x1] (.ref (mh_n h) :: st) (mh_new h 100 i.toNatClampNeg)) := (mw_at mj_125_19).trans (z_newa (by decide) (by decide))
theorem mj_125_21 : mc_P 125 21 = some (.putfield 15, 3, 7, 2, 0) := by decide +kernel
theorem s_125_21 {x0 x1 : Option Value} {o w : Nat} : mw d 125 Q 21 [x0, x1] (.ref w :: .ref o :: st) h = (mg h o 7 ∧ mw d 125 Q 24 [x0, x1] (st) (mh_sr h o 2 (some w))) := (mw_at mj_125_21).trans (z_putr (by decide) (by decide) rfl)
theorem s_125_21n {x0 x1 : Option Value} {o : Nat} : mw d 125 Q 21 [x0, x1] (.null :: .ref o :: st) h = (mg h o 7 ∧ mw d 125 Q 24 [x0, x1] (st) (mh_sr h o 2 none)) := (mw_at mj_125_21).trans (z_putn (by decide) (by decide) rfl)
theorem mj_125_24 : mc_P 125 24 = some (.aload_n 0, 1, 0, 0, 0) := by decide +kernel
theorem s_125_24 {x1 : Option Value} {w : Value} : mw d 125 Q 24 [some w, x1] (st) h = mv_a w (mw d 125 Q 25 [some w, x1] (w :: st) h) := (mw_at mj_125_24).trans (z_aload_n rfl)
theorem mj_125_25 : mc_P 125 25 = some (.iload_n 1, 1, 0, 0, 0) := by decide +kernel
theorem s_125_25 {x0 : Option Value} {w : Value} : mw d 125 Q 25 [x0, some w] (st) h = mv_i w (mw d 125 Q 26 [x0, some w] (w :: st) h) := (mw_at mj_125_25).trans (z_iload_n rfl)
theorem mj_125_26 : mc_P 125 26 = some (.iconst 1, 1, 0, 0, 0) := by decide +kernel
theorem s_125_26 {x0 x1 : Option Value} : mw d 125 Q 26 [x0, x1] (st) h = mw d 125 Q 27 [x0, x1] (.int 1 :: st) h := (mw_at mj_125_26).trans (z_iconst (by decide))
theorem mj_125_27 : mc_P 125 27 = some (.iadd, 1, 0, 0, 0) := by decide +kernel
theorem s_125_27 {x0 x1 : Option Value} {x w : Int32} : mw d 125 Q 27 [x0, x1] (.int w :: .int x :: st) h = mw d 125 Q 28 [x0, x1] (.int (x + w) :: st) h := (mw_at mj_125_27).trans (z_iadd)
theorem mj_125_28 : mc_P 125 28 = some (.newarray .int, 2, 100, 0, 0) := by decide +kernel
theorem s_125_28 {x0 x1 : Option Value} {i : Int32} : mw d 125 Q 28 [x0, x1] (.int i :: st) h = (mN i ∧ mw d 125 Q 30 [x0, x1] (.ref (mh_n h) :: st) (mh_new h 100 i.toNatClampNeg)) := (mw_at mj_125_28).trans (z_newa (by decide) (by decide))
theorem mj_125_30 : mc_P 125 30 = some (.putfield 18, 3, 7, 3, 0) := by decide +kernel
theorem s_125_30 {x0 x1 : Option Value} {o w : Nat} : mw d 125 Q 30 [x0, x1] (.ref w :: .ref o :: st) h = (mg h o 7 ∧ mw d 125 Q 33 [x0, x1] (st) (mh_sr h o 3 (some w))) := (mw_at mj_125_30).trans (z_putr (by decide) (by decide) rfl)
theorem s_125_30n {x0 x1 : Option Value} {o : Nat} : mw d 125 Q 30 [x0, x1] (.null :: .ref o :: st) h = (mg h o 7 ∧ mw d 125 Q 33 [x0, x1] (st) (mh_sr h o 3 none)) := (mw_at mj_125_30).trans (z_putn (by decide) (by decide) rfl)
theorem mj_125_33 : mc_P 125 33 = some (.aload_n 0, 1, 0, 0, 0) := by decide +kernel
theorem s_125_33 {x1 : Option Value} {w : Value} : mw d 125 Q 33 [some w, x1] (st) h = mv_a w (mw d 125 Q 34 [some w, x1] (w :: st) h) := (mw_at mj_125_33).trans (z_aload_n rfl)
theorem mj_125_34 : mc_P 125 34 = some (.iload_n 1, 1, 0, 0, 0) := by decide +kernel
theorem s_125_34 {x0 : Option Value} {w : Value} : mw d 125 Q 34 [x0, some w] (st) h = mv_i w (mw d 125 Q 35 [x0, some w] (w :: st) h) := (mw_at mj_125_34).trans (z_iload_n rfl)
theorem mj_125_35 : mc_P 125 35 = some (.iconst 1, 1, 0, 0, 0) := by decide +kernel
theorem s_125_35 {x0 x1 : Option Value} : mw d 125 Q 35 [x0, x1] (st) h = mw d 125 Q 36 [x0, x1] (.int 1 :: st) h := (mw_at mj_125_35).trans (z_iconst (by decide))
theorem mj_125_36 : mc_P 125 36 = some (.iadd, 1, 0, 0, 0) := by decide +kernel
theorem s_125_36 {x0 x1 : Option Value} {x w : Int32} : mw d 125 Q 36 [x0, x1] (.int w :: .int x :: st) h = mw d 125 Q 37 [x0, x1] (.int (x + w) :: st) h := (mw_at mj_125_36).trans (z_iadd)
theorem mj_125_37 : mc_P 125 37 = some (.newarray .int, 2, 100, 0, 0) := by decide +kernel
theorem s_125_37 {x0 x1 : Option Value} {i : Int32} : mw d 125 Q 37 [x0, x1] (.int i :: st) h = (mN i ∧ mw d 125 Q 39 [x0, x1] (.ref (mh_n h) :: st) (mh_new h 100 i.toNatClampNeg)) := (mw_at mj_125_37).trans (z_newa (by decide) (by decide))
theorem mj_125_39 : mc_P 125 39 = some (.putfield 21, 3, 7, 4, 0) := by decide +kernel
theorem s_125_39 {x0 x1 : Option Value} {o w : Nat} : mw d 125 Q 39 [x0, x1] (.ref w :: .ref o :: st) h = (mg h o 7 ∧ mw d 125 Q 42 [x0, x1] (st) (mh_sr h o 4 (some w))) := (mw_at mj_125_39).trans (z_putr (by decide) (by decide) rfl)
theorem s_125_39n {x0 x1 : Option Value} {o : Nat} : mw d 125 Q 39 [x0, x1] (.null :: .ref o :: st) h = (mg h o 7 ∧ mw d 125 Q 42 [x0, x1] (st) (mh_sr h o 4 none)) := (mw_at mj_125_39).trans (z_putn (by decide) (by decide) rfl)
theorem mj_125_42 : mc_P 125 42 = some (.aload_n 0, 1, 0, 0, 0) := by decide +kernel
theorem s_125_42 {x1 : Option Value} {w : Value} : mw d 125 Q 42 [some w, x1] (st) h = mv_a w (mw d 125 Q 43 [some w, x1] (w :: st) h) := (mw_at mj_125_42).trans (z_aload_n rfl)
theorem mj_125_43 : mc_P 125 43 = some (.iload_n 1, 1, 0, 0, 0) := by decide +kernel
theorem s_125_43 {x0 : Option Value} {w : Value} : mw d 125 Q 43 [x0, some w] (st) h = mv_i w (mw d 125 Q 44 [x0, some w] (w :: st) h) := (mw_at mj_125_43).trans (z_iload_n rfl)
theorem mj_125_44 : mc_P 125 44 = some (.iconst 2, 1, 0, 0, 0) := by decide +kernel
theorem s_125_44 {x0 x1 : Option Value} : mw d 125 Q 44 [x0, x1] (st) h = mw d 125 Q 45 [x0, x1] (.int 2 :: st) h := (mw_at mj_125_44).trans (z_iconst (by decide))
theorem mj_125_45 : mc_P 125 45 = some (.iadd, 1, 0, 0, 0) := by decide +kernel
theorem s_125_45 {x0 x1 : Option Value} {x w : Int32} : mw d 125 Q 45 [x0, x1] (.int w :: .int x :: st) h = mw d 125 Q 46 [x0, x1] (.int (x + w) :: st) h := (mw_at mj_125_45).trans (z_iadd)
theorem mj_125_46 : mc_P 125 46 = some (.newarray .int, 2, 100, 0, 0) := by decide +kernel
theorem s_125_46 {x0 x1 : Option Value} {i : Int32} : mw d 125 Q 46 [x0, x1] (.int i :: st) h = (mN i ∧ mw d 125 Q 48 [x0, x1] (.ref (mh_n h) :: st) (mh_new h 100 i.toNatClampNeg)) := (mw_at mj_125_46).trans (z_newa (by decide) (by decide))
theorem mj_125_48 : mc_P 125 48 = some (.putfield 24, 3, 7, 6, 0) := by decide +kernel
theorem s_125_48 {x0 x1 : Option Value} {o w : Nat} : mw d 125 Q 48 [x0, x1] (.ref w :: .ref o :: st) h = (mg h o 7 ∧ mw d 125 Q 51 [x0, x1] (st) (mh_sr h o 6 (some w))) := (mw_at mj_125_48).trans (z_putr (by decide) (by decide) rfl)
theorem s_125_48n {x0 x1 : Option Value} {o : Nat} : mw d 125 Q 48 [x0, x1] (.null :: .ref o :: st) h = (mg h o 7 ∧ mw d 125 Q 51 [x0, x1] (st) (mh_sr h o 6 none)) := (mw_at mj_125_48).trans (z_putn (by decide) (by decide) rfl)
theorem mj_125_51 : mc_P 125 51 = some (.aload_n 0, 1, 0, 0, 0) := by decide +kernel
theorem s_125_51 {x1 : Option Value} {w : Value} : mw d 125 Q 51 [some w, x1] (st) h = mv_a w (mw d 125 Q 52 [some w, x1] (w :: st) h) := (mw_at mj_125_51).trans (z_aload_n rfl)
theorem mj_125_52 : mc_P 125 52 = some (.iload_n 1, 1, 0, 0, 0) := by decide +kernel
theorem s_125_52 {x0 : Option Value} {w : Value} : mw d 125 Q 52 [x0, some w] (st) h = mv_i w (mw d 125 Q 53 [x0, some w] (w :: st) h) := (mw_at mj_125_52).trans (z_iload_n rfl)
theorem mj_125_53 : mc_P 125 53 = some (.iconst 2, 1, 0, 0, 0) := by decide +kernel
theorem s_125_53 {x0 x1 : Option Value} : mw d 125 Q 53 [x0, x1] (st) h = mw d 125 Q 54 [x0, x1] (.int 2 :: st) h := (mw_at mj_125_53).trans (z_iconst (by decide))
theorem mj_125_54 : mc_P 125 54 = some (.iadd, 1, 0, 0, 0) := by decide +kernel
theorem s_125_54 {x0 x1 : Option Value} {x w : Int32} : mw d 125 Q 54 [x0, x1] (.int w :: .int x :: st) h = mw d 125 Q 55 [x0, x1] (.int (x + w) :: st) h := (mw_at mj_125_54).trans (z_iadd)
theorem mj_125_55 : mc_P 125 55 = some (.newarray .int, 2, 100, 0, 0) := by decide +kernel
theorem s_125_55 {x0 x1 : Option Value} {i : Int32} : mw d 125 Q 55 [x0, x1] (.int i :: st) h = (mN i ∧ mw d 125 Q 57 [x0, x1] (.ref (mh_n h) :: st) (mh_new h 100 i.toNatClampNeg)) := (mw_at mj_125_55).trans (z_newa (by decide) (by decide))
theorem mj_125_57 : mc_P 125 57 = some (.putfield 27, 3, 7, 7, 0) := by decide +kernel
theorem s_125_57 {x0 x1 : Option Value} {o w : Nat} : mw d 125 Q 57 [x0, x1] (.ref w :: .ref o :: st) h = (mg h o 7 ∧ mw d 125 Q 60 [x0, x1] (st) (mh_sr h o 7 (some w))) := (mw_at mj_125_57).trans (z_putr (by decide) (by decide) rfl)
theorem s_125_57n {x0 x1 : Option Value} {o : Nat} : mw d 125 Q 57 [x0, x1] (.null :: .ref o :: st) h = (mg h o 7 ∧ mw d 125 Q 60 [x0, x1] (st) (mh_sr h o 7 none)) := (mw_at mj_125_57).trans (z_putn (by decide) (by decide) rfl)
theorem mj_125_60 : mc_P 125 60 = some (.aload_n 0, 1, 0, 0, 0) := by decide +kernel
theorem s_125_60 {x1 : Option Value} {w : Value} : mw d 125 Q 60 [some w, x1] (st) h = mv_a w (mw d 125 Q 61 [some w, x1] (w :: st) h) := (mw_at mj_125_60).trans (z_aload_n rfl)
theorem mj_125_61 : mc_P 125 61 = some (.iload_n 1, 1, 0, 0, 0) := by decide +kernel
theorem s_125_61 {x0 : Option Value} {w : Value} : mw d 125 Q 61 [x0, some w] (st) h = mv_i w (mw d 125 Q 62 [x0, some w] (w :: st) h) := (mw_at mj_125_61).trans (z_iload_n rfl)
theorem mj_125_62 : mc_P 125 62 = some (.iconst 1, 1, 0, 0, 0) := by decide +kernel
theorem s_125_62 {x0 x1 : Option Value} : mw d 125 Q 62 [x0, x1] (st) h = mw d 125 Q 63 [x0, x1] (.int 1 :: st) h := (mw_at mj_125_62).trans (z_iconst (by decide))
theorem mj_125_63 : mc_P 125 63 = some (.iadd, 1, 0, 0, 0) := by decide +kernel
theorem s_125_63 {x0 x1 : Option Value} {x w : Int32} : mw d 125 Q 63 [x0, x1] (.int w :: .int x :: st) h = mw d 125 Q 64 [x0, x1] (.int (x + w) :: st) h := (mw_at mj_125_63).trans (z_iadd)
theorem mj_125_64 : mc_P 125 64 = some (.newarray .int, 2, 100, 0, 0) := by decide +kernel
theorem s_125_64 {x0 x1 : Option Value} {i : Int32} : mw d 125 Q 64 [x0, x1] (.int i :: st) h = (mN i ∧ mw d 125 Q 66 [x0, x1] (.ref (mh_n h) :: st) (mh_new h 100 i.toNatClampNeg)) := (mw_at mj_125_64).trans (z_newa (by decide) (by decide))
theorem mj_125_66 : mc_P 125 66 = some (.putfield 30, 3, 7, 9, 0) := by decide +kernel
theorem s_125_66 {x0 x1 : Option Value} {o w : Nat} : mw d 125 Q 66 [x0, x1] (.ref w :: .ref o :: st) h = (mg h o 7 ∧ mw d 125 Q 69 [x0, x1] (st) (mh_sr h o 9 (some w))) := (mw_at mj_125_66).trans (z_putr (by decide) (by decide) rfl)
theorem s_125_66n {x0 x1 : Option Value} {o : Nat} : mw d 125 Q 66 [x0, x1] (.null :: .ref o :: st) h = (mg h o 7 ∧ mw d 125 Q 69 [x0, x1] (st) (mh_sr h o 9 none)) := (mw_at mj_125_66).trans (z_putn (by decide) (by decide) rfl)
theorem mj_125_69 : mc_P 125 69 = some (.aload_n 0, 1, 0, 0, 0) := by decide +kernel
theorem s_125_69 {x1 : Option Value} {w : Value} : mw d 125 Q 69 [some w, x1] (st) h = mv_a w (mw d 125 Q 70 [some w, x1] (w :: st) h) := (mw_at mj_125_69).trans (z_aload_n rfl)
theorem mj_125_70 : mc_P 125 70 = some (.iload_n 1, 1, 0, 0, 0) := by decide +kernel
theorem s_125_70 {x0 : Option Value} {w : Value} : mw d 125 Q 70 [x0, some w] (st) h = mv_i w (mw d 125 Q 71 [x0, some w] (w :: st) h) := (mw_at mj_125_70).trans (z_iload_n rfl)
theorem mj_125_71 : mc_P 125 71 = some (.iconst 1, 1, 0, 0, 0) := by decide +kernel
theorem s_125_71 {x0 x1 : Option Value} : mw d 125 Q 71 [x0, x1] (st) h = mw d 125 Q 72 [x0, x1] (.int 1 :: st) h := (mw_at mj_125_71).trans (z_iconst (by decide))
theorem mj_125_72 : mc_P 125 72 = some (.iadd, 1, 0, 0, 0) := by decide +kernel
theorem s_125_72 {x0 x1 : Option Value} {x w : Int32} : mw d 125 Q 72 [x0, x1] (.int w :: .int x :: st) h = mw d 125 Q 73 [x0, x1] (.int (x + w) :: st) h := (mw_at mj_125_72).trans (z_iadd)
theorem mj_125_73 : mc_P 125 73 = some (.newarray .int, 2, 100, 0, 0) := by decide +kernel
theorem s_125_73 {x0 x1 : Option Value} {i : Int32} : mw d 125 Q 73 [x0, x1] (.int i :: st) h = (mN i ∧ mw d 125 Q 75 [x0, x1] (.ref (mh_n h) :: st) (mh_new h 100 i.toNatClampNeg)) := (mw_at mj_125_73).trans (z_newa (by decide) (by decide))
theorem mj_125_75 : mc_P 125 75 = some (.putfield 33, 3, 7, 10, 0) := by decide +kernel
theorem s_125_75 {x0 x1 : Option Value} {o w : Nat} : mw d 125 Q 75 [x0, x1] (.ref w :: .ref o :: st) h = (mg h o 7 ∧ mw d 125 Q 78 [x0, x1] (st) (mh_sr h o 10 (some w))) := (mw_at mj_125_75).trans (z_putr (by decide) (by decide) rfl)
theorem s_125_75n {x0 x1 : Option Value} {o : Nat} : mw d 125 Q 75 [x0, x1] (.null :: .ref o :: st) h = (mg h o 7 ∧ mw d 125 Q 78 [x0, x1] (st) (mh_sr h o 10 none)) := (mw_at mj_125_75).trans (z_putn (by decide) (by decide) rfl)
theorem mj_125_78 : mc_P 125 78 = some (.aload_n 0, 1, 0, 0, 0) := by decide +kernel
theorem s_125_78 {x1 : Option Value} {w : Value} : mw d 125 Q 78 [some w, x1] (st) h = mv_a w (mw d 125 Q 79 [some w, x1] (w :: st) h) := (mw_at mj_125_78).trans (z_aload_n rfl)
theorem mj_125_79 : mc_P 125 79 = some (.iload_n 1, 1, 0, 0, 0) := by decide +kernel
theorem s_125_79 {x0 : Option Value} {w : Value} : mw d 125 Q 79 [x0, some w] (st) h = mv_i w (mw d 125 Q 80 [x0, some w] (w :: st) h) := (mw_at mj_125_79).trans (z_iload_n rfl)
theorem mj_125_80 : mc_P 125 80 = some (.iconst 3, 1, 0, 0, 0) := by decide +kernel
theorem s_125_80 {x0 x1 : Option Value} : mw d 125 Q 80 [x0, x1] (st) h = mw d 125 Q 81 [x0, x1] (.int 3 :: st) h := (mw_at mj_125_80).trans (z_iconst (by decide))
theorem mj_125_81 : mc_P 125 81 = some (.idiv, 1, 0, 0, 0) := by decide +kernel
theorem s_125_81 {x0 x1 : Option Value} {x w : Int32} : mw d 125 Q 81 [x0, x1] (.int w :: .int x :: st) h = (¬ w = 0 ∧ mw d 125 Q 82 [x0, x1] (.int (x / w) :: st) h) := (mw_at mj_125_81).trans (z_idiv)
theorem mj_125_82 : mc_P 125 82 = some (.iconst 2, 1, 0, 0, 0) := by decide +kernel
theorem s_125_82 {x0 x1 : Option Value} : mw d 125 Q 82 [x0, x1] (st) h = mw d 125 Q 83 [x0, x1] (.int 2 :: st) h := (mw_at mj_125_82).trans (z_iconst (by decide))
theorem mj_125_83 : mc_P 125 83 = some (.iadd, 1, 0, 0, 0) := by decide +kernel
theorem s_125_83 {x0 x1 : Option Value} {x w : Int32} : mw d 125 Q 83 [x0, x1] (.int w :: .int x :: st) h = mw d 125 Q 84 [x0, x1] (.int (x + w) :: st) h := (mw_at mj_125_83).trans (z_iadd)
theorem mj_125_84 : mc_P 125 84 = some (.anewarray 36, 3, 105, 0, 0) := by decide +kernel
theorem s_125_84 {x0 x1 : Option Value} {i : Int32} : mw d 125 Q 84 [x0, x1] (.int i :: st) h = (mN i ∧ mw d 125 Q 87 [x0, x1] (.ref (mh_n h) :: st) (mh_new h 105 i.toNatClampNeg)) := (mw_at mj_125_84).trans (z_anewa (by decide) (by decide))
theorem mj_125_87 : mc_P 125 87 = some (.putfield 38, 3, 7, 12, 0) := by decide +kernel
theorem s_125_87 {x0 x1 : Option Value} {o w : Nat} : mw d 125 Q 87 [x0, x1] (.ref w :: .ref o :: st) h = (mg h o 7 ∧ mw d 125 Q 90 [x0, x1] (st) (mh_sr h o 12 (some w))) := (mw_at mj_125_87).trans (z_putr (by decide) (by decide) rfl)
theorem s_125_87n {x0 x1 : Option Value} {o : Nat} : mw d 125 Q 87 [x0, x1] (.null :: .ref o :: st) h = (mg h o 7 ∧ mw d 125 Q 90 [x0, x1] (st) (mh_sr h o 12 none)) := (mw_at mj_125_87).trans (z_putn (by decide) (by decide) rfl)
theorem mj_125_90 : mc_P 125 90 = some (.aload_n 0, 1, 0, 0, 0) := by decide +kernel
theorem s_125_90 {x1 : Option Value} {w : Value} : mw d 125 Q 90 [some w, x1] (st) h = mv_a w (mw d 125 Q 91 [some w, x1] (w :: st) h) := (mw_at mj_125_90).trans (z_aload_n rfl)
theorem mj_125_91 : mc_P 125 91 = some (.bipush 6, 2, 0, 0, 0) := by decide +kernel
theorem s_125_91 {x0 x1 : Option Value} : mw d 125 Q 91 [x0, x1] (st) h = mw d 125 Q 93 [x0, x1] (.int 6 :: st) h := (mw_at mj_125_91).trans (z_bipush (by decide))
theorem mj_125_93 : mc_P 125 93 = some (.iload_n 1, 1, 0, 0, 0) := by decide +kernel
theorem s_125_93 {x0 : Option Value} {w : Value} : mw d 125 Q 93 [x0, some w] (st) h = mv_i w (mw d 125 Q 94 [x0, some w] (w :: st) h) := (mw_at mj_125_93).trans (z_iload_n rfl)
theorem mj_125_94 : mc_P 125 94 = some (.bipush 9, 2, 0, 0, 0) := by decide +kernel
theorem s_125_94 {x0 x1 : Option Value} : mw d 125 Q 94 [x0, x1] (st) h = mw d 125 Q 96 [x0, x1] (.int 9 :: st) h := (mw_at mj_125_94).trans (z_bipush (by decide))
theorem mj_125_96 : mc_P 125 96 = some (.idiv, 1, 0, 0, 0) := by decide +kernel
theorem s_125_96 {x0 x1 : Option Value} {x w : Int32} : mw d 125 Q 96 [x0, x1] (.int w :: .int x :: st) h = (¬ w = 0 ∧ mw d 125 Q 97 [x0, x1] (.int (x / w) :: st) h) := (mw_at mj_125_96).trans (z_idiv)
theorem mj_125_97 : mc_P 125 97 = some (.iconst 2, 1, 0, 0, 0) := by decide +kernel
theorem s_125_97 {x0 x1 : Option Value} : mw d 125 Q 97 [x0, x1] (st) h = mw d 125 Q 98 [x0, x1] (.int 2 :: st) h := (mw_at mj_125_97).trans (z_iconst (by decide))
theorem mj_125_98 : mc_P 125 98 = some (.iadd, 1, 0, 0, 0) := by decide +kernel
theorem s_125_98 {x0 x1 : Option Value} {x w : Int32} : mw d 125 Q 98 [x0, x1] (.int w :: .int x :: st) h = mw d 125 Q 99 [x0, x1] (.int (x + w) :: st) h := (mw_at mj_125_98).trans (z_iadd)
theorem mj_125_99 : mc_P 125 99 = some (.imul, 1, 0, 0, 0) := by decide +kernel
theorem s_125_99 {x0 x1 : Option Value} {x w : Int32} : mw d 125 Q 99 [x0, x1] (.int w :: .int x :: st) h = mw d 125 Q 100 [x0, x1] (.int (x * w) :: st) h := (mw_at mj_125_99).trans (z_imul)
theorem mj_125_100 : mc_P 125 100 = some (.newarray .int, 2, 100, 0, 0) := by decide +kernel
theorem s_125_100 {x0 x1 : Option Value} {i : Int32} : mw d 125 Q 100 [x0, x1] (.int i :: st) h = (mN i ∧ mw d 125 Q 102 [x0, x1] (.ref (mh_n h) :: st) (mh_new h 100 i.toNatClampNeg)) := (mw_at mj_125_100).trans (z_newa (by decide) (by decide))
theorem mj_125_102 : mc_P 125 102 = some (.putfield 42, 3, 7, 14, 0) := by decide +kernel
theorem s_125_102 {x0 x1 : Option Value} {o w : Nat} : mw d 125 Q 102 [x0, x1] (.ref w :: .ref o :: st) h = (mg h o 7 ∧ mw d 125 Q 105 [x0, x1] (st) (mh_sr h o 14 (some w))) := (mw_at mj_125_102).trans (z_putr (by decide) (by decide) rfl)
theorem s_125_102n {x0 x1 : Option Value} {o : Nat} : mw d 125 Q 102 [x0, x1] (.null :: .ref o :: st) h = (mg h o 7 ∧ mw d 125 Q 105 [x0, x1] (st) (mh_sr h o 14 none)) := (mw_at mj_125_102).trans (z_putn (by decide) (by decide) rfl)
theorem mj_125_105 : mc_P 125 105 = some (.return_, 1, 0, 0, 0) := by decide +kernel
theorem s_125_105 {x0 x1 : Option Value} : mw d 125 Q 105 [x0, x1] ([]) h = Q none h := (mw_at mj_125_105).trans (z_vret)
theorem e_125 {a0 : Nat} {a1 : Int32} : mcall d 125 [.ref a0, .int a1] h Q = mw d 125 Q 0 [some (.ref a0), some (.int a1)] [] h := by
  show mw d 125 Q 0 (me_en (mc_nl 125) _) [] h = _
  rw [nl_125]; rfl

/-! InvariantDesk$Source.finish()V -/
theorem mj_138_0 : mc_P 138 0 = some (.aload_n 0, 1, 0, 0, 0) := by decide +kernel
theorem s_138_0 {x1 : Option Value} {w : Value} : mw d 138 Q 0 [some w, x1] (st) h = mv_a w (mw d 138 Q 1 [some w, x1] (w :: st) h) := (mw_at mj_138_0).trans (z_aload_n rfl)
theorem mj_138_1 : mc_P 138 1 = some (.getfield 24, 3, 7, 6, 0) := by decide +kernel
theorem s_138_1 {x0 x1 : Option Value} {o : Nat} : mw d 138 Q 1 [x0, x1] (.ref o :: st) h = (mg h o 7 ∧ mw d 138 Q 4 [x0, x1] (va_rf (mh_r h o 6) :: st) h) := (mw_at mj_138_1).trans (z_getr (by decide) (by decide) rfl)
theorem mj_138_4 : mc_P 138 4 = some (.aload_n 0, 1, 0, 0, 0) := by decide +kernel
theorem s_138_4 {x1 : Option Value} {w : Value} : mw d 138 Q 4 [some w, x1] (st) h = mv_a w (mw d 138 Q 5 [some w, x1] (w :: st) h) := (mw_at mj_138_4).trans (z_aload_n rfl)
theorem mj_138_5 : mc_P 138 5 = some (.getfield 56, 3, 7, 8, 0) := by decide +kernel
theorem s_138_5 {x0 x1 : Option Value} {o : Nat} : mw d 138 Q 5 [x0, x1] (.ref o :: st) h = (mg h o 7 ∧ mw d 138 Q 8 [x0, x1] (.int (mh_i h o 8) :: st) h) := (mw_at mj_138_5).trans (z_geti (by decide) (by decide) (Or.inl rfl))
theorem mj_138_8 : mc_P 138 8 = some (.aload_n 0, 1, 0, 0, 0) := by decide +kernel
theorem s_138_8 {x1 : Option Value} {w : Value} : mw d 138 Q 8 [some w, x1] (st) h = mv_a w (mw d 138 Q 9 [some w, x1] (w :: st) h) := (mw_at mj_138_8).trans (z_aload_n rfl)
theorem mj_138_9 : mc_P 138 9 = some (.getfield 45, 3, 7, 1, 0) := by decide +kernel
theorem s_138_9 {x0 x1 : Option Value} {o : Nat} : mw d 138 Q 9 [x0, x1] (.ref o :: st) h = (mg h o 7 ∧ mw d 138 Q 12 [x0, x1] (.int (mh_i h o 1) :: st) h) := (mw_at mj_138_9).trans (z_geti (by decide) (by decide) (Or.inl rfl))
theorem mj_138_12 : mc_P 138 12 = some (.iastore, 1, 0, 0, 0) := by decide +kernel
theorem s_138_12 {x0 x1 : Option Value} {o : Nat} {i w : Int32} : mw d 138 Q 12 [x0, x1] (.int w :: .int i :: .ref o :: st) h = (mg h o 100 ∧ mx i (mh_l h o) ∧ mw d 138 Q 13 [x0, x1] (st) (mh_si h o i.toNatClampNeg w)) := (mw_at mj_138_12).trans (z_iast)
theorem mj_138_13 : mc_P 138 13 = some (.aload_n 0, 1, 0, 0, 0) := by decide +kernel
theorem s_138_13 {x1 : Option Value} {w : Value} : mw d 138 Q 13 [some w, x1] (st) h = mv_a w (mw d 138 Q 14 [some w, x1] (w :: st) h) := (mw_at mj_138_13).trans (z_aload_n rfl)
theorem mj_138_14 : mc_P 138 14 = some (.getfield 27, 3, 7, 7, 0) := by decide +kernel
theorem s_138_14 {x0 x1 : Option Value} {o : Nat} : mw d 138 Q 14 [x0, x1] (.ref o :: st) h = (mg h o 7 ∧ mw d 138 Q 17 [x0, x1] (va_rf (mh_r h o 7) :: st) h) := (mw_at mj_138_14).trans (z_getr (by decide) (by decide) rfl)
theorem mj_138_17 : mc_P 138 17 = some (.aload_n 0, 1, 0, 0, 0) := by decide +kernel
theorem s_138_17 {x1 : Option Value} {w : Value} : mw d 138 Q 17 [some w, x1] (st) h = mv_a w (mw d 138 Q 18 [some w, x1] (w :: st) h) := (mw_at mj_138_17).trans (z_aload_n rfl)
theorem mj_138_18 : mc_P 138 18 = some (.getfield 56, 3, 7, 8, 0) := by decide +kernel
theorem s_138_18 {x0 x1 : Option Value} {o : Nat} : mw d 138 Q 18 [x0, x1] (.ref o :: st) h = (mg h o 7 ∧ mw d 138 Q 21 [x0, x1] (.int (mh_i h o 8) :: st) h) := (mw_at mj_138_18).trans (z_geti (by decide) (by decide) (Or.inl rfl))
theorem mj_138_21 : mc_P 138 21 = some (.aload_n 0, 1, 0, 0, 0) := by decide +kernel
theorem s_138_21 {x1 : Option Value} {w : Value} : mw d 138 Q 21 [some w, x1] (st) h = mv_a w (mw d 138 Q 22 [some w, x1] (w :: st) h) := (mw_at mj_138_21).trans (z_aload_n rfl)
theorem mj_138_22 : mc_P 138 22 = some (.getfield 49, 3, 7, 5, 0) := by decide +kernel
theorem s_138_22 {x0 x1 : Option Value} {o : Nat} : mw d 138 Q 22 [x0, x1] (.ref o :: st) h = (mg h o 7 ∧ mw d 138 Q 25 [x0, x1] (.int (mh_i h o 5) :: st) h) := (mw_at mj_138_22).trans (z_geti (by decide) (by decide) (Or.inl rfl))
theorem mj_138_25 : mc_P 138 25 = some (.iastore, 1, 0, 0, 0) := by decide +kernel
theorem s_138_25 {x0 x1 : Option Value} {o : Nat} {i w : Int32} : mw d 138 Q 25 [x0, x1] (.int w :: .int i :: .ref o :: st) h = (mg h o 100 ∧ mx i (mh_l h o) ∧ mw d 138 Q 26 [x0, x1] (st) (mh_si h o i.toNatClampNeg w)) := (mw_at mj_138_25).trans (z_iast)
theorem mj_138_26 : mc_P 138 26 = some (.aload_n 0, 1, 0, 0, 0) := by decide +kernel
theorem s_138_26 {x1 : Option Value} {w : Value} : mw d 138 Q 26 [some w, x1] (st) h = mv_a w (mw d 138 Q 27 [some w, x1] (w :: st) h) := (mw_at mj_138_26).trans (z_aload_n rfl)
theorem mj_138_27 : mc_P 138 27 = some (.getfield 80, 3, 7, 15, 0) := by decide +kernel
theorem s_138_27 {x0 x1 : Option Value} {o : Nat} : mw d 138 Q 27 [x0, x1] (.ref o :: st) h = (mg h o 7 ∧ mw d 138 Q 30 [x0, x1] (.int (mh_i h o 15) :: st) h) := (mw_at mj_138_27).trans (z_geti (by decide) (by decide) (Or.inl rfl))
theorem mj_138_30 : mc_P 138 30 = some (.ifCond .le 49, 3, 0, 0, 0) := by decide +kernel
theorem s_138_30 {x0 x1 : Option Value} {x : Int32} : mw d 138 Q 30 [x0, x1] (.int x :: st) h = mB (x ≤ 0) (mw d 138 Q) 79 33 [x0, x1] st h := (mw_at mj_138_30).trans (z_if_le (by decide) rfl)
theorem mj_138_33 : mc_P 138 33 = some (.aload_n 0, 1, 0, 0, 0) := by decide +kernel
theorem s_138_33 {x1 : Option Value} {w : Value} : mw d 138 Q 33 [some w, x1] (st) h = mv_a w (mw d 138 Q 34 [some w, x1] (w :: st) h) := (mw_at mj_138_33).trans (z_aload_n rfl)
theorem mj_138_34 : mc_P 138 34 = some (.aload_n 0, 1, 0, 0, 0) := by decide +kernel
theorem s_138_34 {x1 : Option Value} {w : Value} : mw d 138 Q 34 [some w, x1] (st) h = mv_a w (mw d 138 Q 35 [some w, x1] (w :: st) h) := (mw_at mj_138_34).trans (z_aload_n rfl)
theorem mj_138_35 : mc_P 138 35 = some (.getfield 80, 3, 7, 15, 0) := by decide +kernel
theorem s_138_35 {x0 x1 : Option Value} {o : Nat} : mw d 138 Q 35 [x0, x1] (.ref o :: st) h = (mg h o 7 ∧ mw d 138 Q 38 [x0, x1] (.int (mh_i h o 15) :: st) h) := (mw_at mj_138_35).trans (z_geti (by decide) (by decide) (Or.inl rfl))
theorem mj_138_38 : mc_P 138 38 = some (.iconst 1, 1, 0, 0, 0) := by decide +kernel
theorem s_138_38 {x0 x1 : Option Value} : mw d 138 Q 38 [x0, x1] (st) h = mw d 138 Q 39 [x0, x1] (.int 1 :: st) h := (mw_at mj_138_38).trans (z_iconst (by decide))
theorem mj_138_39 : mc_P 138 39 = some (.isub, 1, 0, 0, 0) := by decide +kernel
theorem s_138_39 {x0 x1 : Option Value} {x w : Int32} : mw d 138 Q 39 [x0, x1] (.int w :: .int x :: st) h = mw d 138 Q 40 [x0, x1] (.int (x - w) :: st) h := (mw_at mj_138_39).trans (z_isub)
theorem mj_138_40 : mc_P 138 40 = some (.iconst 5, 1, 0, 0, 0) := by decide +kernel
theorem s_138_40 {x0 x1 : Option Value} : mw d 138 Q 40 [x0, x1] (st) h = mw d 138 Q 41 [x0, x1] (.int 5 :: st) h := (mw_at mj_138_40).trans (z_iconst (by decide))
theorem mj_138_41 : mc_P 138 41 = some (.invokevirtual 83, 3, 137, 7, 3) := by decide +kernel
theorem s_138_41 {x0 x1 : Option Value} {o : Nat} {a1 a2 : Value} : mw (d + 1) 138 Q 41 [x0, x1] (a2 :: a1 :: .ref o :: st) h = (mg h o 7 ∧ mca st 8 ∧ mca [.ref o, a1, a2] 3 ∧ mcall d 137 [.ref o, a1, a2] h (mK (d + 1) 138 Q 44 [x0, x1] st)) := (mw_at mj_138_41).trans ((z_invv (As := [a1, a2]) (by decide) rfl rfl).trans (congrArg (And _) (congrArg (And _) (mC_nl nl_137))))
theorem mj_138_44 : mc_P 138 44 = some (.iconst (-1), 1, 0, 0, 0) := by decide +kernel
theorem s_138_44 {x0 x1 : Option Value} : mw d 138 Q 44 [x0, x1] (st) h = mw d 138 Q 45 [x0, x1] (.int (-1) :: st) h := (mw_at mj_138_44).trans (z_iconst (by decide))
theorem mj_138_45 : mc_P 138 45 = some (.if_icmp .eq 34, 3, 0, 0, 0) := by decide +kernel
theorem s_138_45 {x0 x1 : Option Value} {x w : Int32} : mw d 138 Q 45 [x0, x1] (.int w :: .int x :: st) h = mB (x = w) (mw d 138 Q) 79 48 [x0, x1] st h := (mw_at mj_138_45).trans (z_icmp_eq (by decide) rfl)
theorem mj_138_48 : mc_P 138 48 = some (.aload_n 0, 1, 0, 0, 0) := by decide +kernel
theorem s_138_48 {x1 : Option Value} {w : Value} : mw d 138 Q 48 [some w, x1] (st) h = mv_a w (mw d 138 Q 49 [some w, x1] (w :: st) h) := (mw_at mj_138_48).trans (z_aload_n rfl)
theorem mj_138_49 : mc_P 138 49 = some (.getfield 38, 3, 7, 12, 0) := by decide +kernel
theorem s_138_49 {x0 x1 : Option Value} {o : Nat} : mw d 138 Q 49 [x0, x1] (.ref o :: st) h = (mg h o 7 ∧ mw d 138 Q 52 [x0, x1] (va_rf (mh_r h o 12) :: st) h) := (mw_at mj_138_49).trans (z_getr (by decide) (by decide) rfl)
theorem mj_138_52 : mc_P 138 52 = some (.aload_n 0, 1, 0, 0, 0) := by decide +kernel
theorem s_138_52 {x1 : Option Value} {w : Value} : mw d 138 Q 52 [some w, x1] (st) h = mv_a w (mw d 138 Q 53 [some w, x1] (w :: st) h) := (mw_at mj_138_52).trans (z_aload_n rfl)
theorem mj_138_53 : mc_P 138 53 = some (.aload_n 0, 1, 0, 0, 0) := by decide +kernel
theorem s_138_53 {x1 : Option Value} {w : Value} : mw d 138 Q 53 [some w, x1] (st) h = mv_a w (mw d 138 Q 54 [some w, x1] (w :: st) h) := (mw_at mj_138_53).trans (z_aload_n rfl)
theorem mj_138_54 : mc_P 138 54 = some (.getfield 80, 3, 7, 15, 0) := by decide +kernel
theorem s_138_54 {x0 x1 : Option Value} {o : Nat} : mw d 138 Q 54 [x0, x1] (.ref o :: st) h = (mg h o 7 ∧ mw d 138 Q 57 [x0, x1] (.int (mh_i h o 15) :: st) h) := (mw_at mj_138_54).trans (z_geti (by decide) (by decide) (Or.inl rfl))
theorem mj_138_57 : mc_P 138 57 = some (.iconst 1, 1, 0, 0, 0) := by decide +kernel
theorem s_138_57 {x0 x1 : Option Value} : mw d 138 Q 57 [x0, x1] (st) h = mw d 138 Q 58 [x0, x1] (.int 1 :: st) h := (mw_at mj_138_57).trans (z_iconst (by decide))
theorem mj_138_58 : mc_P 138 58 = some (.isub, 1, 0, 0, 0) := by decide +kernel
theorem s_138_58 {x0 x1 : Option Value} {x w : Int32} : mw d 138 Q 58 [x0, x1] (.int w :: .int x :: st) h = mw d 138 Q 59 [x0, x1] (.int (x - w) :: st) h := (mw_at mj_138_58).trans (z_isub)
theorem mj_138_59 : mc_P 138 59 = some (.iconst 5, 1, 0, 0, 0) := by decide +kernel
theorem s_138_59 {x0 x1 : Option Value} : mw d 138 Q 59 [x0, x1] (st) h = mw d 138 Q 60 [x0, x1] (.int 5 :: st) h := (mw_at mj_138_59).trans (z_iconst (by decide))
theorem mj_138_60 : mc_P 138 60 = some (.invokevirtual 83, 3, 137, 7, 3) := by decide +kernel
theorem s_138_60 {x0 x1 : Option Value} {o : Nat} {a1 a2 : Value} : mw (d + 1) 138 Q 60 [x0, x1] (a2 :: a1 :: .ref o :: st) h = (mg h o 7 ∧ mca st 8 ∧ mca [.ref o, a1, a2] 3 ∧ mcall d 137 [.ref o, a1, a2] h (mK (d + 1) 138 Q 63 [x0, x1] st)) := (mw_at mj_138_60).trans ((z_invv (As := [a1, a2]) (by decide) rfl rfl).trans (congrArg (And _) (congrArg (And _) (mC_nl nl_137))))
theorem mj_138_63 : mc_P 138 63 = some (.aaload, 1, 0, 0, 0) := by decide +kernel
theorem s_138_63 {x0 x1 : Option Value} {o : Nat} {i : Int32} : mw d 138 Q 63 [x0, x1] (.int i :: .ref o :: st) h = (mgr h o ∧ mx i (mh_l h o) ∧ mw d 138 Q 64 [x0, x1] (mrd (mh_k h o) h o i.toNatClampNeg :: st) h) := (mw_at mj_138_63).trans (z_aald)
theorem mj_138_64 : mc_P 138 64 = some (.astore_n 1, 1, 0, 0, 0) := by decide +kernel
theorem s_138_64 {x0 x1 : Option Value} {w : Nat} : mw d 138 Q 64 [x0, x1] (.ref w :: st) h = mw d 138 Q 65 [mk2 x0, some (.ref w)] (st) h := (mw_at mj_138_64).trans (z_astore_n (Nat.le_of_ble_eq_true rfl) (me_s1_mk (j := 0) (w := x0) rfl))
theorem s_138_64n {x0 x1 : Option Value} : mw d 138 Q 64 [x0, x1] (.null :: st) h = mw d 138 Q 65 [mk2 x0, some (.null)] (st) h := (mw_at mj_138_64).trans (z_astoreN_n (Nat.le_of_ble_eq_true rfl) (me_s1_mk (j := 0) (w := x0) rfl))
theorem s_138_64x {x0 x1 : Option Value} {w : Nat} : mw d 138 Q 64 [x0, x1] (.retAddr w :: st) h = mw d 138 Q 65 [mk2 x0, some (.retAddr w)] (st) h := (mw_at mj_138_64).trans (z_astoreX_n (Nat.le_of_ble_eq_true rfl) (me_s1_mk (j := 0) (w := x0) rfl))
theorem mj_138_65 : mc_P 138 65 = some (.aload_n 1, 1, 0, 0, 0) := by decide +kernel
theorem s_138_65 {x0 : Option Value} {w : Value} : mw d 138 Q 65 [x0, some w] (st) h = mv_a w (mw d 138 Q 66 [x0, some w] (w :: st) h) := (mw_at mj_138_65).trans (z_aload_n rfl)
theorem mj_138_66 : mc_P 138 66 = some (.bipush 7, 2, 0, 0, 0) := by decide +kernel
theorem s_138_66 {x0 x1 : Option Value} : mw d 138 Q 66 [x0, x1] (st) h = mw d 138 Q 68 [x0, x1] (.int 7 :: st) h := (mw_at mj_138_66).trans (z_bipush (by decide))
theorem mj_138_68 : mc_P 138 68 = some (.putfield 86, 3, 9, 5, 0) := by decide +kernel
theorem s_138_68 {x0 x1 : Option Value} {o : Nat} {w : Int32} : mw d 138 Q 68 [x0, x1] (.int w :: .ref o :: st) h = (mg h o 9 ∧ mw d 138 Q 71 [x0, x1] (st) (mh_si h o 5 w)) := (mw_at mj_138_68).trans (z_puti (by decide) (by decide) rfl)
theorem mj_138_71 : mc_P 138 71 = some (.aload_n 1, 1, 0, 0, 0) := by decide +kernel
theorem s_138_71 {x0 : Option Value} {w : Value} : mw d 138 Q 71 [x0, some w] (st) h = mv_a w (mw d 138 Q 72 [x0, some w] (w :: st) h) := (mw_at mj_138_71).trans (z_aload_n rfl)
theorem mj_138_72 : mc_P 138 72 = some (.aload_n 1, 1, 0, 0, 0) := by decide +kernel
theorem s_138_72 {x0 : Option Value} {w : Value} : mw d 138 Q 72 [x0, some w] (st) h = mv_a w (mw d 138 Q 73 [x0, some w] (w :: st) h) := (mw_at mj_138_72).trans (z_aload_n rfl)
theorem mj_138_73 : mc_P 138 73 = some (.getfield 89, 3, 9, 2, 0) := by decide +kernel
theorem s_138_73 {x0 x1 : Option Value} {o : Nat} : mw d 138 Q 73 [x0, x1] (.ref o :: st) h = (mg h o 9 ∧ mw d 138 Q 76 [x0, x1] (.int (mh_i h o 2) :: st) h) := (mw_at mj_138_73).trans (z_geti (by decide) (by decide) (Or.inl rfl))
theorem mj_138_76 : mc_P 138 76 = some (.putfield 92, 3, 9, 6, 0) := by decide +kernel
theorem s_138_76 {x0 x1 : Option Value} {o : Nat} {w : Int32} : mw d 138 Q 76 [x0, x1] (.int w :: .ref o :: st) h = (mg h o 9 ∧ mw d 138 Q 79 [x0, x1] (st) (mh_si h o 6 w)) := (mw_at mj_138_76).trans (z_puti (by decide) (by decide) rfl)
theorem mj_138_79 : mc_P 138 79 = some (.return_, 1, 0, 0, 0) := by decide +kernel
theorem s_138_79 {x0 x1 : Option Value} : mw d 138 Q 79 [x0, x1] ([]) h = Q none h := (mw_at mj_138_79).trans (z_vret)
theorem e_138 {a0 : Nat} : mcall d 138 [.ref a0] h Q = mw d 138 Q 0 [some (.ref a0), none] [] h := by
  show mw d 138 Q 0 (me_en (mc_nl 138) _) [] h = _
  rw [nl_138]; rfl

/-! InvariantDesk$State.cells()I -/
theorem mj_142_0 : mc_P 142 0 = some (.iconst 2, 1, 0, 0, 0) := by decide +kernel
theorem s_142_0 {x0 : Option Value} : mw d 142 Q 0 [x0] (st) h = mw d 142 Q 1 [x0] (.int 2 :: st) h := (mw_at mj_142_0).trans (z_iconst (by decide))
theorem mj_142_1 : mc_P 142 1 = some (.aload_n 0, 1, 0, 0, 0) := by decide +kernel
theorem s_142_1 {w : Value} : mw d 142 Q 1 [some w] (st) h = mv_a w (mw d 142 Q 2 [some w] (w :: st) h) := (mw_at mj_142_1).trans (z_aload_n rfl)
theorem mj_142_2 : mc_P 142 2 = some (.getfield 26, 3, 8, 1, 0) := by decide +kernel
theorem s_142_2 {x0 : Option Value} {o : Nat} : mw d 142 Q 2 [x0] (.ref o :: st) h = (mg h o 8 ∧ mw d 142 Q 5 [x0] (.int (mh_i h o 1) :: st) h) := (mw_at mj_142_2).trans (z_geti (by decide) (by decide) (Or.inl rfl))
theorem mj_142_5 : mc_P 142 5 = some (.imul, 1, 0, 0, 0) := by decide +kernel
theorem s_142_5 {x0 : Option Value} {x w : Int32} : mw d 142 Q 5 [x0] (.int w :: .int x :: st) h = mw d 142 Q 6 [x0] (.int (x * w) :: st) h := (mw_at mj_142_5).trans (z_imul)
theorem mj_142_6 : mc_P 142 6 = some (.aload_n 0, 1, 0, 0, 0) := by decide +kernel
theorem s_142_6 {w : Value} : mw d 142 Q 6 [some w] (st) h = mv_a w (mw d 142 Q 7 [some w] (w :: st) h) := (mw_at mj_142_6).trans (z_aload_n rfl)
theorem mj_142_7 : mc_P 142 7 = some (.getfield 26, 3, 8, 1, 0) := by decide +kernel
theorem s_142_7 {x0 : Option Value} {o : Nat} : mw d 142 Q 7 [x0] (.ref o :: st) h = (mg h o 8 ∧ mw d 142 Q 10 [x0] (.int (mh_i h o 1) :: st) h) := (mw_at mj_142_7).trans (z_geti (by decide) (by decide) (Or.inl rfl))
theorem mj_142_10 : mc_P 142 10 = some (.iconst 1, 1, 0, 0, 0) := by decide +kernel
theorem s_142_10 {x0 : Option Value} : mw d 142 Q 10 [x0] (st) h = mw d 142 Q 11 [x0] (.int 1 :: st) h := (mw_at mj_142_10).trans (z_iconst (by decide))
theorem mj_142_11 : mc_P 142 11 = some (.iadd, 1, 0, 0, 0) := by decide +kernel
theorem s_142_11 {x0 : Option Value} {x w : Int32} : mw d 142 Q 11 [x0] (.int w :: .int x :: st) h = mw d 142 Q 12 [x0] (.int (x + w) :: st) h := (mw_at mj_142_11).trans (z_iadd)
theorem mj_142_12 : mc_P 142 12 = some (.imul, 1, 0, 0, 0) := by decide +kernel
theorem s_142_12 {x0 : Option Value} {x w : Int32} : mw d 142 Q 12 [x0] (.int w :: .int x :: st) h = mw d 142 Q 13 [x0] (.int (x * w) :: st) h := (mw_at mj_142_12).trans (z_imul)
theorem mj_142_13 : mc_P 142 13 = some (.ireturn, 1, 0, 0, 0) := by decide +kernel
theorem s_142_13 {x0 : Option Value} {x : Int32} : mw d 142 Q 13 [x0] ([.int x]) h = (Q (some (.int x)) h) := (mw_at mj_142_13).trans (z_iret)
theorem e_142 {a0 : Nat} : mcall d 142 [.ref a0] h Q = mw d 142 Q 0 [some (.ref a0)] [] h := by
  show mw d 142 Q 0 (me_en (mc_nl 142) _) [] h = _
  rw [nl_142]; rfl

/-! InvariantDesk$State.begin()V -/
theorem mj_143_0 : mc_P 143 0 = some (.aload_n 0, 1, 0, 0, 0) := by decide +kernel
theorem s_143_0 {w : Value} : mw d 143 Q 0 [some w] (st) h = mv_a w (mw d 143 Q 1 [some w] (w :: st) h) := (mw_at mj_143_0).trans (z_aload_n rfl)
theorem mj_143_1 : mc_P 143 1 = some (.iconst 0, 1, 0, 0, 0) := by decide +kernel
theorem s_143_1 {x0 : Option Value} : mw d 143 Q 1 [x0] (st) h = mw d 143 Q 2 [x0] (.int 0 :: st) h := (mw_at mj_143_1).trans (z_iconst (by decide))
theorem mj_143_2 : mc_P 143 2 = some (.putfield 30, 3, 8, 0, 0) := by decide +kernel
theorem s_143_2 {x0 : Option Value} {o : Nat} {w : Int32} : mw d 143 Q 2 [x0] (.int w :: .ref o :: st) h = (mg h o 8 ∧ (w = 0 ∨ w = 1) ∧ mw d 143 Q 5 [x0] (st) (mh_si h o 0 w)) := (mw_at mj_143_2).trans (z_putz (by decide) (by decide) rfl)
theorem mj_143_5 : mc_P 143 5 = some (.aload_n 0, 1, 0, 0, 0) := by decide +kernel
theorem s_143_5 {w : Value} : mw d 143 Q 5 [some w] (st) h = mv_a w (mw d 143 Q 6 [some w] (w :: st) h) := (mw_at mj_143_5).trans (z_aload_n rfl)
theorem mj_143_6 : mc_P 143 6 = some (.iconst 0, 1, 0, 0, 0) := by decide +kernel
theorem s_143_6 {x0 : Option Value} : mw d 143 Q 6 [x0] (st) h = mw d 143 Q 7 [x0] (.int 0 :: st) h := (mw_at mj_143_6).trans (z_iconst (by decide))
theorem mj_143_7 : mc_P 143 7 = some (.putfield 26, 3, 8, 1, 0) := by decide +kernel
theorem s_143_7 {x0 : Option Value} {o : Nat} {w : Int32} : mw d 143 Q 7 [x0] (.int w :: .ref o :: st) h = (mg h o 8 ∧ mw d 143 Q 10 [x0] (st) (mh_si h o 1 w)) := (mw_at mj_143_7).trans (z_puti (by decide) (by decide) rfl)
theorem mj_143_10 : mc_P 143 10 = some (.aload_n 0, 1, 0, 0, 0) := by decide +kernel
theorem s_143_10 {w : Value} : mw d 143 Q 10 [some w] (st) h = mv_a w (mw d 143 Q 11 [some w] (w :: st) h) := (mw_at mj_143_10).trans (z_aload_n rfl)
theorem mj_143_11 : mc_P 143 11 = some (.iconst 0, 1, 0, 0, 0) := by decide +kernel
theorem s_143_11 {x0 : Option Value} : mw d 143 Q 11 [x0] (st) h = mw d 143 Q 12 [x0] (.int 0 :: st) h := (mw_at mj_143_11).trans (z_iconst (by decide))
theorem mj_143_12 : mc_P 143 12 = some (.putfield 34, 3, 8, 2, 0) := by decide +kernel
theorem s_143_12 {x0 : Option Value} {o : Nat} {w : Int32} : mw d 143 Q 12 [x0] (.int w :: .ref o :: st) h = (mg h o 8 ∧ mw d 143 Q 15 [x0] (st) (mh_si h o 2 w)) := (mw_at mj_143_12).trans (z_puti (by decide) (by decide) rfl)
theorem mj_143_15 : mc_P 143 15 = some (.aload_n 0, 1, 0, 0, 0) := by decide +kernel
theorem s_143_15 {w : Value} : mw d 143 Q 15 [some w] (st) h = mv_a w (mw d 143 Q 16 [some w] (w :: st) h) := (mw_at mj_143_15).trans (z_aload_n rfl)
theorem mj_143_16 : mc_P 143 16 = some (.iconst 0, 1, 0, 0, 0) := by decide +kernel
theorem s_143_16 {x0 : Option Value} : mw d 143 Q 16 [x0] (st) h = mw d 143 Q 17 [x0] (.int 0 :: st) h := (mw_at mj_143_16).trans (z_iconst (by decide))
theorem mj_143_17 : mc_P 143 17 = some (.putfield 37, 3, 8, 5, 0) := by decide +kernel
theorem s_143_17 {x0 : Option Value} {o : Nat} {w : Int32} : mw d 143 Q 17 [x0] (.int w :: .ref o :: st) h = (mg h o 8 ∧ mw d 143 Q 20 [x0] (st) (mh_si h o 5 w)) := (mw_at mj_143_17).trans (z_puti (by decide) (by decide) rfl)
theorem mj_143_20 : mc_P 143 20 = some (.return_, 1, 0, 0, 0) := by decide +kernel
theorem s_143_20 {x0 : Option Value} : mw d 143 Q 20 [x0] ([]) h = Q none h := (mw_at mj_143_20).trans (z_vret)
theorem e_143 {a0 : Nat} : mcall d 143 [.ref a0] h Q = mw d 143 Q 0 [some (.ref a0)] [] h := by
  show mw d 143 Q 0 (me_en (mc_nl 143) _) [] h = _
  rw [nl_143]; rfl

/-! InvariantDesk$State.copy(LInvariantDesk$State;)V -/
theorem mj_144_0 : mc_P 144 0 = some (.aload_n 0, 1, 0, 0, 0) := by decide +kernel
theorem s_144_0 {x1 : Option Value} {w : Value} : mw d 144 Q 0 [some w, x1] (st) h = mv_a w (mw d 144 Q 1 [some w, x1] (w :: st) h) := (mw_at mj_144_0).trans (z_aload_n rfl)
theorem mj_144_1 : mc_P 144 1 = some (.aload_n 1, 1, 0, 0, 0) := by decide +kernel
theorem s_144_1 {x0 : Option Value} {w : Value} : mw d 144 Q 1 [x0, some w] (st) h = mv_a w (mw d 144 Q 2 [x0, some w] (w :: st) h) := (mw_at mj_144_1).trans (z_aload_n rfl)
theorem mj_144_2 : mc_P 144 2 = some (.getfield 30, 3, 8, 0, 0) := by decide +kernel
theorem s_144_2 {x0 x1 : Option Value} {o : Nat} : mw d 144 Q 2 [x0, x1] (.ref o :: st) h = (mg h o 8 ∧ mw d 144 Q 5 [x0, x1] (.int (mh_i h o 0) :: st) h) := (mw_at mj_144_2).trans (z_geti (by decide) (by decide) (Or.inr rfl))
theorem mj_144_5 : mc_P 144 5 = some (.putfield 30, 3, 8, 0, 0) := by decide +kernel
theorem s_144_5 {x0 x1 : Option Value} {o : Nat} {w : Int32} : mw d 144 Q 5 [x0, x1] (.int w :: .ref o :: st) h = (mg h o 8 ∧ (w = 0 ∨ w = 1) ∧ mw d 144 Q 8 [x0, x1] (st) (mh_si h o 0 w)) := (mw_at mj_144_5).trans (z_putz (by decide) (by decide) rfl)
theorem mj_144_8 : mc_P 144 8 = some (.aload_n 0, 1, 0, 0, 0) := by decide +kernel
theorem s_144_8 {x1 : Option Value} {w : Value} : mw d 144 Q 8 [some w, x1] (st) h = mv_a w (mw d 144 Q 9 [some w, x1] (w :: st) h) := (mw_at mj_144_8).trans (z_aload_n rfl)
theorem mj_144_9 : mc_P 144 9 = some (.aload_n 1, 1, 0, 0, 0) := by decide +kernel
theorem s_144_9 {x0 : Option Value} {w : Value} : mw d 144 Q 9 [x0, some w] (st) h = mv_a w (mw d 144 Q 10 [x0, some w] (w :: st) h) := (mw_at mj_144_9).trans (z_aload_n rfl)
theorem mj_144_10 : mc_P 144 10 = some (.getfield 26, 3, 8, 1, 0) := by decide +kernel
theorem s_144_10 {x0 x1 : Option Value} {o : Nat} : mw d 144 Q 10 [x0, x1] (.ref o :: st) h = (mg h o 8 ∧ mw d 144 Q 13 [x0, x1] (.int (mh_i h o 1) :: st) h) := (mw_at mj_144_10).trans (z_geti (by decide) (by decide) (Or.inl rfl))
theorem mj_144_13 : mc_P 144 13 = some (.putfield 26, 3, 8, 1, 0) := by decide +kernel
theorem s_144_13 {x0 x1 : Option Value} {o : Nat} {w : Int32} : mw d 144 Q 13 [x0, x1] (.int w :: .ref o :: st) h = (mg h o 8 ∧ mw d 144 Q 16 [x0, x1] (st) (mh_si h o 1 w)) := (mw_at mj_144_13).trans (z_puti (by decide) (by decide) rfl)
theorem mj_144_16 : mc_P 144 16 = some (.aload_n 0, 1, 0, 0, 0) := by decide +kernel
theorem s_144_16 {x1 : Option Value} {w : Value} : mw d 144 Q 16 [some w, x1] (st) h = mv_a w (mw d 144 Q 17 [some w, x1] (w :: st) h) := (mw_at mj_144_16).trans (z_aload_n rfl)
theorem mj_144_17 : mc_P 144 17 = some (.aload_n 1, 1, 0, 0, 0) := by decide +kernel
theorem s_144_17 {x0 : Option Value} {w : Value} : mw d 144 Q 17 [x0, some w] (st) h = mv_a w (mw d 144 Q 18 [x0, some w] (w :: st) h) := (mw_at mj_144_17).trans (z_aload_n rfl)
theorem mj_144_18 : mc_P 144 18 = some (.getfield 34, 3, 8, 2, 0) := by decide +kernel
theorem s_144_18 {x0 x1 : Option Value} {o : Nat} : mw d 144 Q 18 [x0, x1] (.ref o :: st) h = (mg h o 8 ∧ mw d 144 Q 21 [x0, x1] (.int (mh_i h o 2) :: st) h) := (mw_at mj_144_18).trans (z_geti (by decide) (by decide) (Or.inl rfl))
theorem mj_144_21 : mc_P 144 21 = some (.putfield 34, 3, 8, 2, 0) := by decide +kernel
theorem s_144_21 {x0 x1 : Option Value} {o : Nat} {w : Int32} : mw d 144 Q 21 [x0, x1] (.int w :: .ref o :: st) h = (mg h o 8 ∧ mw d 144 Q 24 [x0, x1] (st) (mh_si h o 2 w)) := (mw_at mj_144_21).trans (z_puti (by decide) (by decide) rfl)
theorem mj_144_24 : mc_P 144 24 = some (.aload_n 0, 1, 0, 0, 0) := by decide +kernel
theorem s_144_24 {x1 : Option Value} {w : Value} : mw d 144 Q 24 [some w, x1] (st) h = mv_a w (mw d 144 Q 25 [some w, x1] (w :: st) h) := (mw_at mj_144_24).trans (z_aload_n rfl)
theorem mj_144_25 : mc_P 144 25 = some (.aload_n 1, 1, 0, 0, 0) := by decide +kernel
theorem s_144_25 {x0 : Option Value} {w : Value} : mw d 144 Q 25 [x0, some w] (st) h = mv_a w (mw d 144 Q 26 [x0, some w] (w :: st) h) := (mw_at mj_144_25).trans (z_aload_n rfl)
theorem mj_144_26 : mc_P 144 26 = some (.getfield 37, 3, 8, 5, 0) := by decide +kernel
theorem s_144_26 {x0 x1 : Option Value} {o : Nat} : mw d 144 Q 26 [x0, x1] (.ref o :: st) h = (mg h o 8 ∧ mw d 144 Q 29 [x0, x1] (.int (mh_i h o 5) :: st) h) := (mw_at mj_144_26).trans (z_geti (by decide) (by decide) (Or.inl rfl))
theorem mj_144_29 : mc_P 144 29 = some (.putfield 37, 3, 8, 5, 0) := by decide +kernel
theorem s_144_29 {x0 x1 : Option Value} {o : Nat} {w : Int32} : mw d 144 Q 29 [x0, x1] (.int w :: .ref o :: st) h = (mg h o 8 ∧ mw d 144 Q 32 [x0, x1] (st) (mh_si h o 5 w)) := (mw_at mj_144_29).trans (z_puti (by decide) (by decide) rfl)
theorem mj_144_32 : mc_P 144 32 = some (.aload_n 0, 1, 0, 0, 0) := by decide +kernel
theorem s_144_32 {x1 : Option Value} {w : Value} : mw d 144 Q 32 [some w, x1] (st) h = mv_a w (mw d 144 Q 33 [some w, x1] (w :: st) h) := (mw_at mj_144_32).trans (z_aload_n rfl)
theorem mj_144_33 : mc_P 144 33 = some (.getfield 30, 3, 8, 0, 0) := by decide +kernel
theorem s_144_33 {x0 x1 : Option Value} {o : Nat} : mw d 144 Q 33 [x0, x1] (.ref o :: st) h = (mg h o 8 ∧ mw d 144 Q 36 [x0, x1] (.int (mh_i h o 0) :: st) h) := (mw_at mj_144_33).trans (z_geti (by decide) (by decide) (Or.inr rfl))
theorem mj_144_36 : mc_P 144 36 = some (.ifCond .ne 39, 3, 0, 0, 0) := by decide +kernel
theorem s_144_36 {x0 x1 : Option Value} {x : Int32} : mw d 144 Q 36 [x0, x1] (.int x :: st) h = mB (¬ x = 0) (mw d 144 Q) 75 39 [x0, x1] st h := (mw_at mj_144_36).trans (z_if_ne (by decide) rfl)
theorem mj_144_39 : mc_P 144 39 = some (.aload_n 1, 1, 0, 0, 0) := by decide +kernel
theorem s_144_39 {x0 : Option Value} {w : Value} : mw d 144 Q 39 [x0, some w] (st) h = mv_a w (mw d 144 Q 40 [x0, some w] (w :: st) h) := (mw_at mj_144_39).trans (z_aload_n rfl)
theorem mj_144_40 : mc_P 144 40 = some (.getfield 11, 3, 8, 3, 0) := by decide +kernel
theorem s_144_40 {x0 x1 : Option Value} {o : Nat} : mw d 144 Q 40 [x0, x1] (.ref o :: st) h = (mg h o 8 ∧ mw d 144 Q 43 [x0, x1] (va_rf (mh_r h o 3) :: st) h) := (mw_at mj_144_40).trans (z_getr (by decide) (by decide) rfl)
theorem mj_144_43 : mc_P 144 43 = some (.iconst 0, 1, 0, 0, 0) := by decide +kernel
theorem s_144_43 {x0 x1 : Option Value} : mw d 144 Q 43 [x0, x1] (st) h = mw d 144 Q 44 [x0, x1] (.int 0 :: st) h := (mw_at mj_144_43).trans (z_iconst (by decide))
theorem mj_144_44 : mc_P 144 44 = some (.aload_n 0, 1, 0, 0, 0) := by decide +kernel
theorem s_144_44 {x1 : Option Value} {w : Value} : mw d 144 Q 44 [some w, x1] (st) h = mv_a w (mw d 144 Q 45 [some w, x1] (w :: st) h) := (mw_at mj_144_44).trans (z_aload_n rfl)
theorem mj_144_45 : mc_P 144 45 = some (.getfield 11, 3, 8, 3, 0) := by decide +kernel
theorem s_144_45 {x0 x1 : Option Value} {o : Nat} : mw d 144 Q 45 [x0, x1] (.ref o :: st) h = (mg h o 8 ∧ mw d 144 Q 48 [x0, x1] (va_rf (mh_r h o 3) :: st) h) := (mw_at mj_144_45).trans (z_getr (by decide) (by decide) rfl)
theorem mj_144_48 : mc_P 144 48 = some (.iconst 0, 1, 0, 0, 0) := by decide +kernel
theorem s_144_48 {x0 x1 : Option Value} : mw d 144 Q 48 [x0, x1] (st) h = mw d 144 Q 49 [x0, x1] (.int 0 :: st) h := (mw_at mj_144_48).trans (z_iconst (by decide))
theorem mj_144_49 : mc_P 144 49 = some (.aload_n 0, 1, 0, 0, 0) := by decide +kernel
theorem s_144_49 {x1 : Option Value} {w : Value} : mw d 144 Q 49 [some w, x1] (st) h = mv_a w (mw d 144 Q 50 [some w, x1] (w :: st) h) := (mw_at mj_144_49).trans (z_aload_n rfl)
theorem mj_144_50 : mc_P 144 50 = some (.invokevirtual 40, 3, 142, 8, 1) := by decide +kernel
theorem s_144_50 {x0 x1 : Option Value} {o : Nat} : mw (d + 1) 144 Q 50 [x0, x1] (.ref o :: st) h = (mg h o 8 ∧ mca st 8 ∧ mca [.ref o] 1 ∧ mcall d 142 [.ref o] h (mK (d + 1) 144 Q 53 [x0, x1] st)) := (mw_at mj_144_50).trans ((z_invv (As := []) (by decide) rfl rfl).trans (congrArg (And _) (congrArg (And _) (mC_nl nl_142))))
theorem mj_144_53 : mc_P 144 53 = some (.invokestatic 44, 3, 0, 30, 0) := by decide +kernel
theorem s_144_53 {x0 x1 : Option Value} {o dd : Nat} {sp dp n : Int32} : mw d 144 Q 53 [x0, x1] (.int n :: .int dp :: .ref dd :: .int sp :: .ref o :: st) h = (me_cpok h o dd sp dp n = true ∧ mca st 8 ∧ mw d 144 Q 56 [x0, x1] (st) (mh_cp h o sp.toNatClampNeg dd dp.toNatClampNeg n.toNatClampNeg)) := (mw_at mj_144_53).trans (z_copy)
theorem mj_144_56 : mc_P 144 56 = some (.aload_n 1, 1, 0, 0, 0) := by decide +kernel
theorem s_144_56 {x0 : Option Value} {w : Value} : mw d 144 Q 56 [x0, some w] (st) h = mv_a w (mw d 144 Q 57 [x0, some w] (w :: st) h) := (mw_at mj_144_56).trans (z_aload_n rfl)
theorem mj_144_57 : mc_P 144 57 = some (.getfield 15, 3, 8, 4, 0) := by decide +kernel
theorem s_144_57 {x0 x1 : Option Value} {o : Nat} : mw d 144 Q 57 [x0, x1] (.ref o :: st) h = (mg h o 8 ∧ mw d 144 Q 60 [x0, x1] (va_rf (mh_r h o 4) :: st) h) := (mw_at mj_144_57).trans (z_getr (by decide) (by decide) rfl)
theorem mj_144_60 : mc_P 144 60 = some (.iconst 0, 1, 0, 0, 0) := by decide +kernel
theorem s_144_60 {x0 x1 : Option Value} : mw d 144 Q 60 [x0, x1] (st) h = mw d 144 Q 61 [x0, x1] (.int 0 :: st) h := (mw_at mj_144_60).trans (z_iconst (by decide))
theorem mj_144_61 : mc_P 144 61 = some (.aload_n 0, 1, 0, 0, 0) := by decide +kernel
theorem s_144_61 {x1 : Option Value} {w : Value} : mw d 144 Q 61 [some w, x1] (st) h = mv_a w (mw d 144 Q 62 [some w, x1] (w :: st) h) := (mw_at mj_144_61).trans (z_aload_n rfl)
theorem mj_144_62 : mc_P 144 62 = some (.getfield 15, 3, 8, 4, 0) := by decide +kernel
theorem s_144_62 {x0 x1 : Option Value} {o : Nat} : mw d 144 Q 62 [x0, x1] (.ref o :: st) h = (mg h o 8 ∧ mw d 144 Q 65 [x0, x1] (va_rf (mh_r h o 4) :: st) h) := (mw_at mj_144_62).trans (z_getr (by decide) (by decide) rfl)
theorem mj_144_65 : mc_P 144 65 = some (.iconst 0, 1, 0, 0, 0) := by decide +kernel
theorem s_144_65 {x0 x1 : Option Value} : mw d 144 Q 65 [x0, x1] (st) h = mw d 144 Q 66 [x0, x1] (.int 0 :: st) h := (mw_at mj_144_65).trans (z_iconst (by decide))
theorem mj_144_66 : mc_P 144 66 = some (.iconst 2, 1, 0, 0, 0) := by decide +kernel
theorem s_144_66 {x0 x1 : Option Value} : mw d 144 Q 66 [x0, x1] (st) h = mw d 144 Q 67 [x0, x1] (.int 2 :: st) h := (mw_at mj_144_66).trans (z_iconst (by decide))
theorem mj_144_67 : mc_P 144 67 = some (.aload_n 0, 1, 0, 0, 0) := by decide +kernel
theorem s_144_67 {x1 : Option Value} {w : Value} : mw d 144 Q 67 [some w, x1] (st) h = mv_a w (mw d 144 Q 68 [some w, x1] (w :: st) h) := (mw_at mj_144_67).trans (z_aload_n rfl)
theorem mj_144_68 : mc_P 144 68 = some (.getfield 34, 3, 8, 2, 0) := by decide +kernel
theorem s_144_68 {x0 x1 : Option Value} {o : Nat} : mw d 144 Q 68 [x0, x1] (.ref o :: st) h = (mg h o 8 ∧ mw d 144 Q 71 [x0, x1] (.int (mh_i h o 2) :: st) h) := (mw_at mj_144_68).trans (z_geti (by decide) (by decide) (Or.inl rfl))
theorem mj_144_71 : mc_P 144 71 = some (.imul, 1, 0, 0, 0) := by decide +kernel
theorem s_144_71 {x0 x1 : Option Value} {x w : Int32} : mw d 144 Q 71 [x0, x1] (.int w :: .int x :: st) h = mw d 144 Q 72 [x0, x1] (.int (x * w) :: st) h := (mw_at mj_144_71).trans (z_imul)
theorem mj_144_72 : mc_P 144 72 = some (.invokestatic 44, 3, 0, 30, 0) := by decide +kernel
theorem s_144_72 {x0 x1 : Option Value} {o dd : Nat} {sp dp n : Int32} : mw d 144 Q 72 [x0, x1] (.int n :: .int dp :: .ref dd :: .int sp :: .ref o :: st) h = (me_cpok h o dd sp dp n = true ∧ mca st 8 ∧ mw d 144 Q 75 [x0, x1] (st) (mh_cp h o sp.toNatClampNeg dd dp.toNatClampNeg n.toNatClampNeg)) := (mw_at mj_144_72).trans (z_copy)
theorem mj_144_75 : mc_P 144 75 = some (.return_, 1, 0, 0, 0) := by decide +kernel
theorem s_144_75 {x0 x1 : Option Value} : mw d 144 Q 75 [x0, x1] ([]) h = Q none h := (mw_at mj_144_75).trans (z_vret)
theorem e_144 {a0 : Nat} {a1 : Nat} : mcall d 144 [.ref a0, .ref a1] h Q = mw d 144 Q 0 [some (.ref a0), some (.ref a1)] [] h := by
  show mw d 144 Q 0 (me_en (mc_nl 144) _) [] h = _
  rw [nl_144]; rfl

/-! InvariantDesk$State.keep(II)V -/
theorem mj_145_0 : mc_P 145 0 = some (.aload_n 0, 1, 0, 0, 0) := by decide +kernel
theorem s_145_0 {x1 x2 : Option Value} {w : Value} : mw d 145 Q 0 [some w, x1, x2] (st) h = mv_a w (mw d 145 Q 1 [some w, x1, x2] (w :: st) h) := (mw_at mj_145_0).trans (z_aload_n rfl)
theorem mj_145_1 : mc_P 145 1 = some (.iload_n 1, 1, 0, 0, 0) := by decide +kernel
theorem s_145_1 {x0 x2 : Option Value} {w : Value} : mw d 145 Q 1 [x0, some w, x2] (st) h = mv_i w (mw d 145 Q 2 [x0, some w, x2] (w :: st) h) := (mw_at mj_145_1).trans (z_iload_n rfl)
theorem mj_145_2 : mc_P 145 2 = some (.putfield 26, 3, 8, 1, 0) := by decide +kernel
theorem s_145_2 {x0 x1 x2 : Option Value} {o : Nat} {w : Int32} : mw d 145 Q 2 [x0, x1, x2] (.int w :: .ref o :: st) h = (mg h o 8 ∧ mw d 145 Q 5 [x0, x1, x2] (st) (mh_si h o 1 w)) := (mw_at mj_145_2).trans (z_puti (by decide) (by decide) rfl)
theorem mj_145_5 : mc_P 145 5 = some (.aload_n 0, 1, 0, 0, 0) := by decide +kernel
theorem s_145_5 {x1 x2 : Option Value} {w : Value} : mw d 145 Q 5 [some w, x1, x2] (st) h = mv_a w (mw d 145 Q 6 [some w, x1, x2] (w :: st) h) := (mw_at mj_145_5).trans (z_aload_n rfl)
theorem mj_145_6 : mc_P 145 6 = some (.iload_n 2, 1, 0, 0, 0) := by decide +kernel
theorem s_145_6 {x0 x1 : Option Value} {w : Value} : mw d 145 Q 6 [x0, x1, some w] (st) h = mv_i w (mw d 145 Q 7 [x0, x1, some w] (w :: st) h) := (mw_at mj_145_6).trans (z_iload_n rfl)
theorem mj_145_7 : mc_P 145 7 = some (.putfield 34, 3, 8, 2, 0) := by decide +kernel
theorem s_145_7 {x0 x1 x2 : Option Value} {o : Nat} {w : Int32} : mw d 145 Q 7 [x0, x1, x2] (.int w :: .ref o :: st) h = (mg h o 8 ∧ mw d 145 Q 10 [x0, x1, x2] (st) (mh_si h o 2 w)) := (mw_at mj_145_7).trans (z_puti (by decide) (by decide) rfl)
theorem mj_145_10 : mc_P 145 10 = some (.return_, 1, 0, 0, 0) := by decide +kernel
theorem s_145_10 {x0 x1 x2 : Option Value} : mw d 145 Q 10 [x0, x1, x2] ([]) h = Q none h := (mw_at mj_145_10).trans (z_vret)
theorem e_145 {a0 : Nat} {a1 : Int32} {a2 : Int32} : mcall d 145 [.ref a0, .int a1, .int a2] h Q = mw d 145 Q 0 [some (.ref a0), some (.int a1), some (.int a2)] [] h := by
  show mw d 145 Q 0 (me_en (mc_nl 145) _) [] h = _
  rw [nl_145]; rfl

/-! InvariantDesk$State.within(LInvariantDesk$State;)Z -/
theorem mj_149_0 : mc_P 149 0 = some (.aload_n 0, 1, 0, 0, 0) := by decide +kernel
theorem s_149_0 {x1 x2 : Option Value} {w : Value} : mw d 149 Q 0 [some w, x1, x2] (st) h = mv_a w (mw d 149 Q 1 [some w, x1, x2] (w :: st) h) := (mw_at mj_149_0).trans (z_aload_n rfl)
theorem mj_149_1 : mc_P 149 1 = some (.getfield 30, 3, 8, 0, 0) := by decide +kernel
theorem s_149_1 {x0 x1 x2 : Option Value} {o : Nat} : mw d 149 Q 1 [x0, x1, x2] (.ref o :: st) h = (mg h o 8 ∧ mw d 149 Q 4 [x0, x1, x2] (.int (mh_i h o 0) :: st) h) := (mw_at mj_149_1).trans (z_geti (by decide) (by decide) (Or.inr rfl))
theorem mj_149_4 : mc_P 149 4 = some (.ifCond .ne 10, 3, 0, 0, 0) := by decide +kernel
theorem s_149_4 {x0 x1 x2 : Option Value} {x : Int32} : mw d 149 Q 4 [x0, x1, x2] (.int x :: st) h = mB (¬ x = 0) (mw d 149 Q) 14 7 [x0, x1, x2] st h := (mw_at mj_149_4).trans (z_if_ne (by decide) rfl)
theorem mj_149_7 : mc_P 149 7 = some (.aload_n 1, 1, 0, 0, 0) := by decide +kernel
theorem s_149_7 {x0 x2 : Option Value} {w : Value} : mw d 149 Q 7 [x0, some w, x2] (st) h = mv_a w (mw d 149 Q 8 [x0, some w, x2] (w :: st) h) := (mw_at mj_149_7).trans (z_aload_n rfl)
theorem mj_149_8 : mc_P 149 8 = some (.getfield 30, 3, 8, 0, 0) := by decide +kernel
theorem s_149_8 {x0 x1 x2 : Option Value} {o : Nat} : mw d 149 Q 8 [x0, x1, x2] (.ref o :: st) h = (mg h o 8 ∧ mw d 149 Q 11 [x0, x1, x2] (.int (mh_i h o 0) :: st) h) := (mw_at mj_149_8).trans (z_geti (by decide) (by decide) (Or.inr rfl))
theorem mj_149_11 : mc_P 149 11 = some (.ifCond .eq 8, 3, 0, 0, 0) := by decide +kernel
theorem s_149_11 {x0 x1 x2 : Option Value} {x : Int32} : mw d 149 Q 11 [x0, x1, x2] (.int x :: st) h = mB (x = 0) (mw d 149 Q) 19 14 [x0, x1, x2] st h := (mw_at mj_149_11).trans (z_if_eq (by decide) rfl)
theorem mj_149_14 : mc_P 149 14 = some (.aload_n 0, 1, 0, 0, 0) := by decide +kernel
theorem s_149_14 {x1 x2 : Option Value} {w : Value} : mw d 149 Q 14 [some w, x1, x2] (st) h = mv_a w (mw d 149 Q 15 [some w, x1, x2] (w :: st) h) := (mw_at mj_149_14).trans (z_aload_n rfl)
theorem mj_149_15 : mc_P 149 15 = some (.getfield 30, 3, 8, 0, 0) := by decide +kernel
theorem s_149_15 {x0 x1 x2 : Option Value} {o : Nat} : mw d 149 Q 15 [x0, x1, x2] (.ref o :: st) h = (mg h o 8 ∧ mw d 149 Q 18 [x0, x1, x2] (.int (mh_i h o 0) :: st) h) := (mw_at mj_149_15).trans (z_geti (by decide) (by decide) (Or.inr rfl))
theorem mj_149_18 : mc_P 149 18 = some (.ireturn, 1, 0, 3, 0) := by decide +kernel
theorem s_149_18 {x0 x1 x2 : Option Value} {x : Int32} : mw d 149 Q 18 [x0, x1, x2] ([.int x]) h = ((x = 0 ∨ x = 1) ∧ Q (some (.int x)) h) := (mw_at mj_149_18).trans (z_zret)
theorem mj_149_19 : mc_P 149 19 = some (.iconst 0, 1, 0, 0, 0) := by decide +kernel
theorem s_149_19 {x0 x1 x2 : Option Value} : mw d 149 Q 19 [x0, x1, x2] (st) h = mw d 149 Q 20 [x0, x1, x2] (.int 0 :: st) h := (mw_at mj_149_19).trans (z_iconst (by decide))
theorem mj_149_20 : mc_P 149 20 = some (.istore_n 2, 1, 0, 0, 0) := by decide +kernel
theorem s_149_20 {x0 x1 x2 : Option Value} {w : Int32} : mw d 149 Q 20 [x0, x1, x2] (.int w :: st) h = mw d 149 Q 21 [x0, mk2 x1, some (.int w)] (st) h := (mw_at mj_149_20).trans (z_istore_n (Nat.le_of_ble_eq_true rfl) (me_s1_mk (j := 1) (w := x1) rfl))
theorem mj_149_21 : mc_P 149 21 = some (.iload_n 2, 1, 0, 0, 0) := by decide +kernel
theorem s_149_21 {x0 x1 : Option Value} {w : Value} : mw d 149 Q 21 [x0, x1, some w] (st) h = mv_i w (mw d 149 Q 22 [x0, x1, some w] (w :: st) h) := (mw_at mj_149_21).trans (z_iload_n rfl)
theorem mj_149_22 : mc_P 149 22 = some (.aload_n 0, 1, 0, 0, 0) := by decide +kernel
theorem s_149_22 {x1 x2 : Option Value} {w : Value} : mw d 149 Q 22 [some w, x1, x2] (st) h = mv_a w (mw d 149 Q 23 [some w, x1, x2] (w :: st) h) := (mw_at mj_149_22).trans (z_aload_n rfl)
theorem mj_149_23 : mc_P 149 23 = some (.invokevirtual 40, 3, 142, 8, 1) := by decide +kernel
theorem s_149_23 {x0 x1 x2 : Option Value} {o : Nat} : mw (d + 1) 149 Q 23 [x0, x1, x2] (.ref o :: st) h = (mg h o 8 ∧ mca st 8 ∧ mca [.ref o] 1 ∧ mcall d 142 [.ref o] h (mK (d + 1) 149 Q 26 [x0, x1, x2] st)) := (mw_at mj_149_23).trans ((z_invv (As := []) (by decide) rfl rfl).trans (congrArg (And _) (congrArg (And _) (mC_nl nl_142))))
theorem mj_149_26 : mc_P 149 26 = some (.if_icmp .ge 27, 3, 0, 0, 0) := by decide +kernel
theorem s_149_26 {x0 x1 x2 : Option Value} {x w : Int32} : mw d 149 Q 26 [x0, x1, x2] (.int w :: .int x :: st) h = mB (w ≤ x) (mw d 149 Q) 53 29 [x0, x1, x2] st h := (mw_at mj_149_26).trans (z_icmp_ge (by decide) rfl)
theorem mj_149_29 : mc_P 149 29 = some (.aload_n 0, 1, 0, 0, 0) := by decide +kernel
theorem s_149_29 {x1 x2 : Option Value} {w : Value} : mw d 149 Q 29 [some w, x1, x2] (st) h = mv_a w (mw d 149 Q 30 [some w, x1, x2] (w :: st) h) := (mw_at mj_149_29).trans (z_aload_n rfl)
theorem mj_149_30 : mc_P 149 30 = some (.getfield 11, 3, 8, 3, 0) := by decide +kernel
theorem s_149_30 {x0 x1 x2 : Option Value} {o : Nat} : mw d 149 Q 30 [x0, x1, x2] (.ref o :: st) h = (mg h o 8 ∧ mw d 149 Q 33 [x0, x1, x2] (va_rf (mh_r h o 3) :: st) h) := (mw_at mj_149_30).trans (z_getr (by decide) (by decide) rfl)
theorem mj_149_33 : mc_P 149 33 = some (.iload_n 2, 1, 0, 0, 0) := by decide +kernel
theorem s_149_33 {x0 x1 : Option Value} {w : Value} : mw d 149 Q 33 [x0, x1, some w] (st) h = mv_i w (mw d 149 Q 34 [x0, x1, some w] (w :: st) h) := (mw_at mj_149_33).trans (z_iload_n rfl)
theorem mj_149_34 : mc_P 149 34 = some (.laload, 1, 0, 0, 0) := by decide +kernel
theorem s_149_34 {x0 x1 x2 : Option Value} {o : Nat} {i : Int32} : mw d 149 Q 34 [x0, x1, x2] (.int i :: .ref o :: st) h = (mg h o 101 ∧ mx i (mh_l h o) ∧ mw d 149 Q 35 [x0, x1, x2] (.long (mh_j h o i.toNatClampNeg) :: st) h) := (mw_at mj_149_34).trans (z_lald)
theorem mj_149_35 : mc_P 149 35 = some (.aload_n 1, 1, 0, 0, 0) := by decide +kernel
theorem s_149_35 {x0 x2 : Option Value} {w : Value} : mw d 149 Q 35 [x0, some w, x2] (st) h = mv_a w (mw d 149 Q 36 [x0, some w, x2] (w :: st) h) := (mw_at mj_149_35).trans (z_aload_n rfl)
theorem mj_149_36 : mc_P 149 36 = some (.getfield 11, 3, 8, 3, 0) := by decide +kernel
theorem s_149_36 {x0 x1 x2 : Option Value} {o : Nat} : mw d 149 Q 36 [x0, x1, x2] (.ref o :: st) h = (mg h o 8 ∧ mw d 149 Q 39 [x0, x1, x2] (va_rf (mh_r h o 3) :: st) h) := (mw_at mj_149_36).trans (z_getr (by decide) (by decide) rfl)
theorem mj_149_39 : mc_P 149 39 = some (.iload_n 2, 1, 0, 0, 0) := by decide +kernel
theorem s_149_39 {x0 x1 : Option Value} {w : Value} : mw d 149 Q 39 [x0, x1, some w] (st) h = mv_i w (mw d 149 Q 40 [x0, x1, some w] (w :: st) h) := (mw_at mj_149_39).trans (z_iload_n rfl)
theorem mj_149_40 : mc_P 149 40 = some (.laload, 1, 0, 0, 0) := by decide +kernel
theorem s_149_40 {x0 x1 x2 : Option Value} {o : Nat} {i : Int32} : mw d 149 Q 40 [x0, x1, x2] (.int i :: .ref o :: st) h = (mg h o 101 ∧ mx i (mh_l h o) ∧ mw d 149 Q 41 [x0, x1, x2] (.long (mh_j h o i.toNatClampNeg) :: st) h) := (mw_at mj_149_40).trans (z_lald)
theorem mj_149_41 : mc_P 149 41 = some (.lcmp, 1, 0, 0, 0) := by decide +kernel
theorem s_149_41 {x0 x1 x2 : Option Value} {x w : Int64} : mw d 149 Q 41 [x0, x1, x2] (.long w :: .long x :: st) h = mw d 149 Q 42 [x0, x1, x2] (.int (lg_cmp x w) :: st) h := (mw_at mj_149_41).trans (z_lcmp)
theorem mj_149_42 : mc_P 149 42 = some (.ifCond .le 5, 3, 0, 0, 0) := by decide +kernel
theorem s_149_42 {x0 x1 x2 : Option Value} {x : Int32} : mw d 149 Q 42 [x0, x1, x2] (.int x :: st) h = mB (x ≤ 0) (mw d 149 Q) 47 45 [x0, x1, x2] st h := (mw_at mj_149_42).trans (z_if_le (by decide) rfl)
theorem mj_149_45 : mc_P 149 45 = some (.iconst 0, 1, 0, 0, 0) := by decide +kernel
theorem s_149_45 {x0 x1 x2 : Option Value} : mw d 149 Q 45 [x0, x1, x2] (st) h = mw d 149 Q 46 [x0, x1, x2] (.int 0 :: st) h := (mw_at mj_149_45).trans (z_iconst (by decide))
theorem mj_149_46 : mc_P 149 46 = some (.ireturn, 1, 0, 3, 0) := by decide +kernel
theorem s_149_46 {x0 x1 x2 : Option Value} {x : Int32} : mw d 149 Q 46 [x0, x1, x2] ([.int x]) h = ((x = 0 ∨ x = 1) ∧ Q (some (.int x)) h) := (mw_at mj_149_46).trans (z_zret)
theorem mj_149_47 : mc_P 149 47 = some (.iinc 2 1, 3, 0, 0, 0) := by decide +kernel
theorem s_149_47 {x0 x1 : Option Value} {w : Int32} : mw d 149 Q 47 [x0, x1, some (.int w)] (st) h = mw d 149 Q 50 [x0, mk2 x1, some (.int (w + 1))] (st) h := (mw_at mj_149_47).trans (z_iinc rfl (Nat.le_of_ble_eq_true rfl) (by decide) (me_s1_mk (j := 1) (w := x1) rfl))
theorem mj_149_50 : mc_P 149 50 = some (.goto (-29), 3, 0, 0, 0) := by decide +kernel
theorem s_149_50 {x0 x1 x2 : Option Value} : mw d 149 Q 50 [x0, x1, x2] (st) h = mw d 149 Q 21 [x0, x1, x2] (st) h := (mw_at mj_149_50).trans (z_goto (by decide))
theorem mj_149_53 : mc_P 149 53 = some (.iconst 0, 1, 0, 0, 0) := by decide +kernel
theorem s_149_53 {x0 x1 x2 : Option Value} : mw d 149 Q 53 [x0, x1, x2] (st) h = mw d 149 Q 54 [x0, x1, x2] (.int 0 :: st) h := (mw_at mj_149_53).trans (z_iconst (by decide))
theorem mj_149_54 : mc_P 149 54 = some (.istore_n 2, 1, 0, 0, 0) := by decide +kernel
theorem s_149_54 {x0 x1 x2 : Option Value} {w : Int32} : mw d 149 Q 54 [x0, x1, x2] (.int w :: st) h = mw d 149 Q 55 [x0, mk2 x1, some (.int w)] (st) h := (mw_at mj_149_54).trans (z_istore_n (Nat.le_of_ble_eq_true rfl) (me_s1_mk (j := 1) (w := x1) rfl))
theorem mj_149_55 : mc_P 149 55 = some (.iload_n 2, 1, 0, 0, 0) := by decide +kernel
theorem s_149_55 {x0 x1 : Option Value} {w : Value} : mw d 149 Q 55 [x0, x1, some w] (st) h = mv_i w (mw d 149 Q 56 [x0, x1, some w] (w :: st) h) := (mw_at mj_149_55).trans (z_iload_n rfl)
theorem mj_149_56 : mc_P 149 56 = some (.aload_n 0, 1, 0, 0, 0) := by decide +kernel
theorem s_149_56 {x1 x2 : Option Value} {w : Value} : mw d 149 Q 56 [some w, x1, x2] (st) h = mv_a w (mw d 149 Q 57 [some w, x1, x2] (w :: st) h) := (mw_at mj_149_56).trans (z_aload_n rfl)
theorem mj_149_57 : mc_P 149 57 = some (.getfield 34, 3, 8, 2, 0) := by decide +kernel
theorem s_149_57 {x0 x1 x2 : Option Value} {o : Nat} : mw d 149 Q 57 [x0, x1, x2] (.ref o :: st) h = (mg h o 8 ∧ mw d 149 Q 60 [x0, x1, x2] (.int (mh_i h o 2) :: st) h) := (mw_at mj_149_57).trans (z_geti (by decide) (by decide) (Or.inl rfl))
theorem mj_149_60 : mc_P 149 60 = some (.if_icmp .ge 55, 3, 0, 0, 0) := by decide +kernel
theorem s_149_60 {x0 x1 x2 : Option Value} {x w : Int32} : mw d 149 Q 60 [x0, x1, x2] (.int w :: .int x :: st) h = mB (w ≤ x) (mw d 149 Q) 115 63 [x0, x1, x2] st h := (mw_at mj_149_60).trans (z_icmp_ge (by decide) rfl)
theorem mj_149_63 : mc_P 149 63 = some (.aload_n 0, 1, 0, 0, 0) := by decide +kernel
theorem s_149_63 {x1 x2 : Option Value} {w : Value} : mw d 149 Q 63 [some w, x1, x2] (st) h = mv_a w (mw d 149 Q 64 [some w, x1, x2] (w :: st) h) := (mw_at mj_149_63).trans (z_aload_n rfl)
theorem mj_149_64 : mc_P 149 64 = some (.getfield 15, 3, 8, 4, 0) := by decide +kernel
theorem s_149_64 {x0 x1 x2 : Option Value} {o : Nat} : mw d 149 Q 64 [x0, x1, x2] (.ref o :: st) h = (mg h o 8 ∧ mw d 149 Q 67 [x0, x1, x2] (va_rf (mh_r h o 4) :: st) h) := (mw_at mj_149_64).trans (z_getr (by decide) (by decide) rfl)
theorem mj_149_67 : mc_P 149 67 = some (.iconst 2, 1, 0, 0, 0) := by decide +kernel
theorem s_149_67 {x0 x1 x2 : Option Value} : mw d 149 Q 67 [x0, x1, x2] (st) h = mw d 149 Q 68 [x0, x1, x2] (.int 2 :: st) h := (mw_at mj_149_67).trans (z_iconst (by decide))
theorem mj_149_68 : mc_P 149 68 = some (.iload_n 2, 1, 0, 0, 0) := by decide +kernel
theorem s_149_68 {x0 x1 : Option Value} {w : Value} : mw d 149 Q 68 [x0, x1, some w] (st) h = mv_i w (mw d 149 Q 69 [x0, x1, some w] (w :: st) h) := (mw_at mj_149_68).trans (z_iload_n rfl)
theorem mj_149_69 : mc_P 149 69 = some (.imul, 1, 0, 0, 0) := by decide +kernel
theorem s_149_69 {x0 x1 x2 : Option Value} {x w : Int32} : mw d 149 Q 69 [x0, x1, x2] (.int w :: .int x :: st) h = mw d 149 Q 70 [x0, x1, x2] (.int (x * w) :: st) h := (mw_at mj_149_69).trans (z_imul)
theorem mj_149_70 : mc_P 149 70 = some (.laload, 1, 0, 0, 0) := by decide +kernel
theorem s_149_70 {x0 x1 x2 : Option Value} {o : Nat} {i : Int32} : mw d 149 Q 70 [x0, x1, x2] (.int i :: .ref o :: st) h = (mg h o 101 ∧ mx i (mh_l h o) ∧ mw d 149 Q 71 [x0, x1, x2] (.long (mh_j h o i.toNatClampNeg) :: st) h) := (mw_at mj_149_70).trans (z_lald)
theorem mj_149_71 : mc_P 149 71 = some (.aload_n 1, 1, 0, 0, 0) := by decide +kernel
theorem s_149_71 {x0 x2 : Option Value} {w : Value} : mw d 149 Q 71 [x0, some w, x2] (st) h = mv_a w (mw d 149 Q 72 [x0, some w, x2] (w :: st) h) := (mw_at mj_149_71).trans (z_aload_n rfl)
theorem mj_149_72 : mc_P 149 72 = some (.getfield 15, 3, 8, 4, 0) := by decide +kernel
theorem s_149_72 {x0 x1 x2 : Option Value} {o : Nat} : mw d 149 Q 72 [x0, x1, x2] (.ref o :: st) h = (mg h o 8 ∧ mw d 149 Q 75 [x0, x1, x2] (va_rf (mh_r h o 4) :: st) h) := (mw_at mj_149_72).trans (z_getr (by decide) (by decide) rfl)
theorem mj_149_75 : mc_P 149 75 = some (.iconst 2, 1, 0, 0, 0) := by decide +kernel
theorem s_149_75 {x0 x1 x2 : Option Value} : mw d 149 Q 75 [x0, x1, x2] (st) h = mw d 149 Q 76 [x0, x1, x2] (.int 2 :: st) h := (mw_at mj_149_75).trans (z_iconst (by decide))
theorem mj_149_76 : mc_P 149 76 = some (.iload_n 2, 1, 0, 0, 0) := by decide +kernel
theorem s_149_76 {x0 x1 : Option Value} {w : Value} : mw d 149 Q 76 [x0, x1, some w] (st) h = mv_i w (mw d 149 Q 77 [x0, x1, some w] (w :: st) h) := (mw_at mj_149_76).trans (z_iload_n rfl)
theorem mj_149_77 : mc_P 149 77 = some (.imul, 1, 0, 0, 0) := by decide +kernel
theorem s_149_77 {x0 x1 x2 : Option Value} {x w : Int32} : mw d 149 Q 77 [x0, x1, x2] (.int w :: .int x :: st) h = mw d 149 Q 78 [x0, x1, x2] (.int (x * w) :: st) h := (mw_at mj_149_77).trans (z_imul)
theorem mj_149_78 : mc_P 149 78 = some (.laload, 1, 0, 0, 0) := by decide +kernel
theorem s_149_78 {x0 x1 x2 : Option Value} {o : Nat} {i : Int32} : mw d 149 Q 78 [x0, x1, x2] (.int i :: .ref o :: st) h = (mg h o 101 ∧ mx i (mh_l h o) ∧ mw d 149 Q 79 [x0, x1, x2] (.long (mh_j h o i.toNatClampNeg) :: st) h) := (mw_at mj_149_78).trans (z_lald)
theorem mj_149_79 : mc_P 149 79 = some (.lcmp, 1, 0, 0, 0) := by decide +kernel
theorem s_149_79 {x0 x1 x2 : Option Value} {x w : Int64} : mw d 149 Q 79 [x0, x1, x2] (.long w :: .long x :: st) h = mw d 149 Q 80 [x0, x1, x2] (.int (lg_cmp x w) :: st) h := (mw_at mj_149_79).trans (z_lcmp)
theorem mj_149_80 : mc_P 149 80 = some (.ifCond .lt 27, 3, 0, 0, 0) := by decide +kernel
theorem s_149_80 {x0 x1 x2 : Option Value} {x : Int32} : mw d 149 Q 80 [x0, x1, x2] (.int x :: st) h = mB (x < 0) (mw d 149 Q) 107 83 [x0, x1, x2] st h := (mw_at mj_149_80).trans (z_if_lt (by decide) rfl)
theorem mj_149_83 : mc_P 149 83 = some (.aload_n 0, 1, 0, 0, 0) := by decide +kernel
theorem s_149_83 {x1 x2 : Option Value} {w : Value} : mw d 149 Q 83 [some w, x1, x2] (st) h = mv_a w (mw d 149 Q 84 [some w, x1, x2] (w :: st) h) := (mw_at mj_149_83).trans (z_aload_n rfl)
theorem mj_149_84 : mc_P 149 84 = some (.getfield 15, 3, 8, 4, 0) := by decide +kernel
theorem s_149_84 {x0 x1 x2 : Option Value} {o : Nat} : mw d 149 Q 84 [x0, x1, x2] (.ref o :: st) h = (mg h o 8 ∧ mw d 149 Q 87 [x0, x1, x2] (va_rf (mh_r h o 4) :: st) h) := (mw_at mj_149_84).trans (z_getr (by decide) (by decide) rfl)
theorem mj_149_87 : mc_P 149 87 = some (.iconst 2, 1, 0, 0, 0) := by decide +kernel
theorem s_149_87 {x0 x1 x2 : Option Value} : mw d 149 Q 87 [x0, x1, x2] (st) h = mw d 149 Q 88 [x0, x1, x2] (.int 2 :: st) h := (mw_at mj_149_87).trans (z_iconst (by decide))
theorem mj_149_88 : mc_P 149 88 = some (.iload_n 2, 1, 0, 0, 0) := by decide +kernel
theorem s_149_88 {x0 x1 : Option Value} {w : Value} : mw d 149 Q 88 [x0, x1, some w] (st) h = mv_i w (mw d 149 Q 89 [x0, x1, some w] (w :: st) h) := (mw_at mj_149_88).trans (z_iload_n rfl)
theorem mj_149_89 : mc_P 149 89 = some (.imul, 1, 0, 0, 0) := by decide +kernel
theorem s_149_89 {x0 x1 x2 : Option Value} {x w : Int32} : mw d 149 Q 89 [x0, x1, x2] (.int w :: .int x :: st) h = mw d 149 Q 90 [x0, x1, x2] (.int (x * w) :: st) h := (mw_at mj_149_89).trans (z_imul)
theorem mj_149_90 : mc_P 149 90 = some (.iconst 1, 1, 0, 0, 0) := by decide +kernel
theorem s_149_90 {x0 x1 x2 : Option Value} : mw d 149 Q 90 [x0, x1, x2] (st) h = mw d 149 Q 91 [x0, x1, x2] (.int 1 :: st) h := (mw_at mj_149_90).trans (z_iconst (by decide))
theorem mj_149_91 : mc_P 149 91 = some (.iadd, 1, 0, 0, 0) := by decide +kernel
theorem s_149_91 {x0 x1 x2 : Option Value} {x w : Int32} : mw d 149 Q 91 [x0, x1, x2] (.int w :: .int x :: st) h = mw d 149 Q 92 [x0, x1, x2] (.int (x + w) :: st) h := (mw_at mj_149_91).trans (z_iadd)
theorem mj_149_92 : mc_P 149 92 = some (.laload, 1, 0, 0, 0) := by decide +kernel
theorem s_149_92 {x0 x1 x2 : Option Value} {o : Nat} {i : Int32} : mw d 149 Q 92 [x0, x1, x2] (.int i :: .ref o :: st) h = (mg h o 101 ∧ mx i (mh_l h o) ∧ mw d 149 Q 93 [x0, x1, x2] (.long (mh_j h o i.toNatClampNeg) :: st) h) := (mw_at mj_149_92).trans (z_lald)
theorem mj_149_93 : mc_P 149 93 = some (.aload_n 1, 1, 0, 0, 0) := by decide +kernel
theorem s_149_93 {x0 x2 : Option Value} {w : Value} : mw d 149 Q 93 [x0, some w, x2] (st) h = mv_a w (mw d 149 Q 94 [x0, some w, x2] (w :: st) h) := (mw_at mj_149_93).trans (z_aload_n rfl)
theorem mj_149_94 : mc_P 149 94 = some (.getfield 15, 3, 8, 4, 0) := by decide +kernel
theorem s_149_94 {x0 x1 x2 : Option Value} {o : Nat} : mw d 149 Q 94 [x0, x1, x2] (.ref o :: st) h = (mg h o 8 ∧ mw d 149 Q 97 [x0, x1, x2] (va_rf (mh_r h o 4) :: st) h) := (mw_at mj_149_94).trans (z_getr (by decide) (by decide) rfl)
theorem mj_149_97 : mc_P 149 97 = some (.iconst 2, 1, 0, 0, 0) := by decide +kernel
theorem s_149_97 {x0 x1 x2 : Option Value} : mw d 149 Q 97 [x0, x1, x2] (st) h = mw d 149 Q 98 [x0, x1, x2] (.int 2 :: st) h := (mw_at mj_149_97).trans (z_iconst (by decide))
theorem mj_149_98 : mc_P 149 98 = some (.iload_n 2, 1, 0, 0, 0) := by decide +kernel
theorem s_149_98 {x0 x1 : Option Value} {w : Value} : mw d 149 Q 98 [x0, x1, some w] (st) h = mv_i w (mw d 149 Q 99 [x0, x1, some w] (w :: st) h) := (mw_at mj_149_98).trans (z_iload_n rfl)
theorem mj_149_99 : mc_P 149 99 = some (.imul, 1, 0, 0, 0) := by decide +kernel
theorem s_149_99 {x0 x1 x2 : Option Value} {x w : Int32} : mw d 149 Q 99 [x0, x1, x2] (.int w :: .int x :: st) h = mw d 149 Q 100 [x0, x1, x2] (.int (x * w) :: st) h := (mw_at mj_149_99).trans (z_imul)
theorem mj_149_100 : mc_P 149 100 = some (.iconst 1, 1, 0, 0, 0) := by decide +kernel
theorem s_149_100 {x0 x1 x2 : Option Value} : mw d 149 Q 100 [x0, x1, x2] (st) h = mw d 149 Q 101 [x0, x1, x2] (.int 1 :: st) h := (mw_at mj_149_100).trans (z_iconst (by decide))
theorem mj_149_101 : mc_P 149 101 = some (.iadd, 1, 0, 0, 0) := by decide +kernel
theorem s_149_101 {x0 x1 x2 : Option Value} {x w : Int32} : mw d 149 Q 101 [x0, x1, x2] (.int w :: .int x :: st) h = mw d 149 Q 102 [x0, x1, x2] (.int (x + w) :: st) h := (mw_at mj_149_101).trans (z_iadd)
theorem mj_149_102 : mc_P 149 102 = some (.laload, 1, 0, 0, 0) := by decide +kernel
theorem s_149_102 {x0 x1 x2 : Option Value} {o : Nat} {i : Int32} : mw d 149 Q 102 [x0, x1, x2] (.int i :: .ref o :: st) h = (mg h o 101 ∧ mx i (mh_l h o) ∧ mw d 149 Q 103 [x0, x1, x2] (.long (mh_j h o i.toNatClampNeg) :: st) h) := (mw_at mj_149_102).trans (z_lald)
theorem mj_149_103 : mc_P 149 103 = some (.lcmp, 1, 0, 0, 0) := by decide +kernel
theorem s_149_103 {x0 x1 x2 : Option Value} {x w : Int64} : mw d 149 Q 103 [x0, x1, x2] (.long w :: .long x :: st) h = mw d 149 Q 104 [x0, x1, x2] (.int (lg_cmp x w) :: st) h := (mw_at mj_149_103).trans (z_lcmp)
theorem mj_149_104 : mc_P 149 104 = some (.ifCond .le 5, 3, 0, 0, 0) := by decide +kernel
theorem s_149_104 {x0 x1 x2 : Option Value} {x : Int32} : mw d 149 Q 104 [x0, x1, x2] (.int x :: st) h = mB (x ≤ 0) (mw d 149 Q) 109 107 [x0, x1, x2] st h := (mw_at mj_149_104).trans (z_if_le (by decide) rfl)
theorem mj_149_107 : mc_P 149 107 = some (.iconst 0, 1, 0, 0, 0) := by decide +kernel
theorem s_149_107 {x0 x1 x2 : Option Value} : mw d 149 Q 107 [x0, x1, x2] (st) h = mw d 149 Q 108 [x0, x1, x2] (.int 0 :: st) h := (mw_at mj_149_107).trans (z_iconst (by decide))
theorem mj_149_108 : mc_P 149 108 = some (.ireturn, 1, 0, 3, 0) := by decide +kernel
theorem s_149_108 {x0 x1 x2 : Option Value} {x : Int32} : mw d 149 Q 108 [x0, x1, x2] ([.int x]) h = ((x = 0 ∨ x = 1) ∧ Q (some (.int x)) h) := (mw_at mj_149_108).trans (z_zret)
theorem mj_149_109 : mc_P 149 109 = some (.iinc 2 1, 3, 0, 0, 0) := by decide +kernel
theorem s_149_109 {x0 x1 : Option Value} {w : Int32} : mw d 149 Q 109 [x0, x1, some (.int w)] (st) h = mw d 149 Q 112 [x0, mk2 x1, some (.int (w + 1))] (st) h := (mw_at mj_149_109).trans (z_iinc rfl (Nat.le_of_ble_eq_true rfl) (by decide) (me_s1_mk (j := 1) (w := x1) rfl))
theorem mj_149_112 : mc_P 149 112 = some (.goto (-57), 3, 0, 0, 0) := by decide +kernel
theorem s_149_112 {x0 x1 x2 : Option Value} : mw d 149 Q 112 [x0, x1, x2] (st) h = mw d 149 Q 55 [x0, x1, x2] (st) h := (mw_at mj_149_112).trans (z_goto (by decide))
theorem mj_149_115 : mc_P 149 115 = some (.iconst 1, 1, 0, 0, 0) := by decide +kernel
theorem s_149_115 {x0 x1 x2 : Option Value} : mw d 149 Q 115 [x0, x1, x2] (st) h = mw d 149 Q 116 [x0, x1, x2] (.int 1 :: st) h := (mw_at mj_149_115).trans (z_iconst (by decide))
theorem mj_149_116 : mc_P 149 116 = some (.ireturn, 1, 0, 3, 0) := by decide +kernel
theorem s_149_116 {x0 x1 x2 : Option Value} {x : Int32} : mw d 149 Q 116 [x0, x1, x2] ([.int x]) h = ((x = 0 ∨ x = 1) ∧ Q (some (.int x)) h) := (mw_at mj_149_116).trans (z_zret)
theorem e_149 {a0 : Nat} {a1 : Nat} : mcall d 149 [.ref a0, .ref a1] h Q = mw d 149 Q 0 [some (.ref a0), some (.ref a1), none] [] h := by
  show mw d 149 Q 0 (me_en (mc_nl 149) _) [] h = _
  rw [nl_149]; rfl

/-! InvariantDesk$State.same(LInvariantDesk$State;)Z -/
theorem mj_150_0 : mc_P 150 0 = some (.aload_n 0, 1, 0, 0, 0) := by decide +kernel
theorem s_150_0 {x1 : Option Value} {w : Value} : mw d 150 Q 0 [some w, x1] (st) h = mv_a w (mw d 150 Q 1 [some w, x1] (w :: st) h) := (mw_at mj_150_0).trans (z_aload_n rfl)
theorem mj_150_1 : mc_P 150 1 = some (.aload_n 1, 1, 0, 0, 0) := by decide +kernel
theorem s_150_1 {x0 : Option Value} {w : Value} : mw d 150 Q 1 [x0, some w] (st) h = mv_a w (mw d 150 Q 2 [x0, some w] (w :: st) h) := (mw_at mj_150_1).trans (z_aload_n rfl)
theorem mj_150_2 : mc_P 150 2 = some (.invokevirtual 56, 3, 149, 8, 2) := by decide +kernel
theorem s_150_2 {x0 x1 : Option Value} {o : Nat} {a1 : Value} : mw (d + 1) 150 Q 2 [x0, x1] (a1 :: .ref o :: st) h = (mg h o 8 ∧ mca st 8 ∧ mca [.ref o, a1] 3 ∧ mcall d 149 [.ref o, a1] h (mK (d + 1) 150 Q 5 [x0, x1] st)) := (mw_at mj_150_2).trans ((z_invv (As := [a1]) (by decide) rfl rfl).trans (congrArg (And _) (congrArg (And _) (mC_nl nl_149))))
theorem mj_150_5 : mc_P 150 5 = some (.ifCond .eq 15, 3, 0, 0, 0) := by decide +kernel
theorem s_150_5 {x0 x1 : Option Value} {x : Int32} : mw d 150 Q 5 [x0, x1] (.int x :: st) h = mB (x = 0) (mw d 150 Q) 20 8 [x0, x1] st h := (mw_at mj_150_5).trans (z_if_eq (by decide) rfl)
theorem mj_150_8 : mc_P 150 8 = some (.aload_n 1, 1, 0, 0, 0) := by decide +kernel
theorem s_150_8 {x0 : Option Value} {w : Value} : mw d 150 Q 8 [x0, some w] (st) h = mv_a w (mw d 150 Q 9 [x0, some w] (w :: st) h) := (mw_at mj_150_8).trans (z_aload_n rfl)
theorem mj_150_9 : mc_P 150 9 = some (.aload_n 0, 1, 0, 0, 0) := by decide +kernel
theorem s_150_9 {x1 : Option Value} {w : Value} : mw d 150 Q 9 [some w, x1] (st) h = mv_a w (mw d 150 Q 10 [some w, x1] (w :: st) h) := (mw_at mj_150_9).trans (z_aload_n rfl)
theorem mj_150_10 : mc_P 150 10 = some (.invokevirtual 56, 3, 149, 8, 2) := by decide +kernel
theorem s_150_10 {x0 x1 : Option Value} {o : Nat} {a1 : Value} : mw (d + 1) 150 Q 10 [x0, x1] (a1 :: .ref o :: st) h = (mg h o 8 ∧ mca st 8 ∧ mca [.ref o, a1] 3 ∧ mcall d 149 [.ref o, a1] h (mK (d + 1) 150 Q 13 [x0, x1] st)) := (mw_at mj_150_10).trans ((z_invv (As := [a1]) (by decide) rfl rfl).trans (congrArg (And _) (congrArg (And _) (mC_nl nl_149))))
theorem mj_150_13 : mc_P 150 13 = some (.ifCond .eq 7, 3, 0, 0, 0) := by decide +kernel
theorem s_150_13 {x0 x1 : Option Value} {x : Int32} : mw d 150 Q 13 [x0, x1] (.int x :: st) h = mB (x = 0) (mw d 150 Q) 20 16 [x0, x1] st h := (mw_at mj_150_13).trans (z_if_eq (by decide) rfl)
theorem mj_150_16 : mc_P 150 16 = some (.iconst 1, 1, 0, 0, 0) := by decide +kernel
theorem s_150_16 {x0 x1 : Option Value} : mw d 150 Q 16 [x0, x1] (st) h = mw d 150 Q 17 [x0, x1] (.int 1 :: st) h := (mw_at mj_150_16).trans (z_iconst (by decide))
theorem mj_150_17 : mc_P 150 17 = some (.goto 4, 3, 0, 0, 0) := by decide +kernel
theorem s_150_17 {x0 x1 : Option Value} : mw d 150 Q 17 [x0, x1] (st) h = mw d 150 Q 21 [x0, x1] (st) h := (mw_at mj_150_17).trans (z_goto (by decide))
theorem mj_150_20 : mc_P 150 20 = some (.iconst 0, 1, 0, 0, 0) := by decide +kernel
theorem s_150_20 {x0 x1 : Option Value} : mw d 150 Q 20 [x0, x1] (st) h = mw d 150 Q 21 [x0, x1] (.int 0 :: st) h := (mw_at mj_150_20).trans (z_iconst (by decide))
theorem mj_150_21 : mc_P 150 21 = some (.ireturn, 1, 0, 3, 0) := by decide +kernel
theorem s_150_21 {x0 x1 : Option Value} {x : Int32} : mw d 150 Q 21 [x0, x1] ([.int x]) h = ((x = 0 ∨ x = 1) ∧ Q (some (.int x)) h) := (mw_at mj_150_21).trans (z_zret)
theorem e_150 {a0 : Nat} {a1 : Nat} : mcall d 150 [.ref a0, .ref a1] h Q = mw d 150 Q 0 [some (.ref a0), some (.ref a1)] [] h := by
  show mw d 150 Q 0 (me_en (mc_nl 150) _) [] h = _
  rw [nl_150]; rfl

/-! InvariantDesk$State.admits([I[I[I)Z -/
theorem mj_163_0 : mc_P 163 0 = some (.iconst 0, 1, 0, 0, 0) := by decide +kernel
theorem s_163_0 {x0 x1 x2 x3 x4 x5 x6 x7 x8 x9 : Option Value} : mw d 163 Q 0 [x0, x1, x2, x3, x4, x5, x6, x7, x8, x9] (st) h = mw d 163 Q 1 [x0, x1, x2, x3, x4, x5, x6, x7, x8, x9] (.int 0 :: st) h := (mw_at mj_163_0).trans (z_iconst (by decide))
theorem mj_163_1 : mc_P 163 1 = some (.istore 4, 2, 0, 0, 0) := by decide +kernel
theorem s_163_1 {x0 x1 x2 x3 x4 x5 x6 x7 x8 x9 : Option Value} {w : Int32} : mw d 163 Q 1 [x0, x1, x2, x3, x4, x5, x6, x7, x8, x9] (.int w :: st) h = mw d 163 Q 3 [x0, x1, x2, mk2 x3, some (.int w), x5, x6, x7, x8, x9] (st) h := (mw_at mj_163_1).trans (z_istore (Nat.le_of_ble_eq_true rfl) (me_s1_mk (j := 3) (w := x3) rfl))
theorem mj_163_3 : mc_P 163 3 = some (.iload 4, 2, 0, 0, 0) := by decide +kernel
theorem s_163_3 {x0 x1 x2 x3 x5 x6 x7 x8 x9 : Option Value} {w : Value} : mw d 163 Q 3 [x0, x1, x2, x3, some w, x5, x6, x7, x8, x9] (st) h = mv_i w (mw d 163 Q 5 [x0, x1, x2, x3, some w, x5, x6, x7, x8, x9] (w :: st) h) := (mw_at mj_163_3).trans (z_iload rfl)
theorem mj_163_5 : mc_P 163 5 = some (.iconst 2, 1, 0, 0, 0) := by decide +kernel
theorem s_163_5 {x0 x1 x2 x3 x4 x5 x6 x7 x8 x9 : Option Value} : mw d 163 Q 5 [x0, x1, x2, x3, x4, x5, x6, x7, x8, x9] (st) h = mw d 163 Q 6 [x0, x1, x2, x3, x4, x5, x6, x7, x8, x9] (.int 2 :: st) h := (mw_at mj_163_5).trans (z_iconst (by decide))
theorem mj_163_6 : mc_P 163 6 = some (.aload_n 0, 1, 0, 0, 0) := by decide +kernel
theorem s_163_6 {x1 x2 x3 x4 x5 x6 x7 x8 x9 : Option Value} {w : Value} : mw d 163 Q 6 [some w, x1, x2, x3, x4, x5, x6, x7, x8, x9] (st) h = mv_a w (mw d 163 Q 7 [some w, x1, x2, x3, x4, x5, x6, x7, x8, x9] (w :: st) h) := (mw_at mj_163_6).trans (z_aload_n rfl)
theorem mj_163_7 : mc_P 163 7 = some (.getfield 26, 3, 8, 1, 0) := by decide +kernel
theorem s_163_7 {x0 x1 x2 x3 x4 x5 x6 x7 x8 x9 : Option Value} {o : Nat} : mw d 163 Q 7 [x0, x1, x2, x3, x4, x5, x6, x7, x8, x9] (.ref o :: st) h = (mg h o 8 ∧ mw d 163 Q 10 [x0, x1, x2, x3, x4, x5, x6, x7, x8, x9] (.int (mh_i h o 1) :: st) h) := (mw_at mj_163_7).trans (z_geti (by decide) (by decide) (Or.inl rfl))
theorem mj_163_10 : mc_P 163 10 = some (.imul, 1, 0, 0, 0) := by decide +kernel
theorem s_163_10 {x0 x1 x2 x3 x4 x5 x6 x7 x8 x9 : Option Value} {x w : Int32} : mw d 163 Q 10 [x0, x1, x2, x3, x4, x5, x6, x7, x8, x9] (.int w :: .int x :: st) h = mw d 163 Q 11 [x0, x1, x2, x3, x4, x5, x6, x7, x8, x9] (.int (x * w) :: st) h := (mw_at mj_163_10).trans (z_imul)
theorem mj_163_11 : mc_P 163 11 = some (.if_icmp .ge 113, 3, 0, 0, 0) := by decide +kernel
theorem s_163_11 {x0 x1 x2 x3 x4 x5 x6 x7 x8 x9 : Option Value} {x w : Int32} : mw d 163 Q 11 [x0, x1, x2, x3, x4, x5, x6, x7, x8, x9] (.int w :: .int x :: st) h = mB (w ≤ x) (mw d 163 Q) 124 14 [x0, x1, x2, x3, x4, x5, x6, x7, x8, x9] st h := (mw_at mj_163_11).trans (z_icmp_ge (by decide) rfl)
theorem mj_163_14 : mc_P 163 14 = some (.aload_n 0, 1, 0, 0, 0) := by decide +kernel
theorem s_163_14 {x1 x2 x3 x4 x5 x6 x7 x8 x9 : Option Value} {w : Value} : mw d 163 Q 14 [some w, x1, x2, x3, x4, x5, x6, x7, x8, x9] (st) h = mv_a w (mw d 163 Q 15 [some w, x1, x2, x3, x4, x5, x6, x7, x8, x9] (w :: st) h) := (mw_at mj_163_14).trans (z_aload_n rfl)
theorem mj_163_15 : mc_P 163 15 = some (.getfield 30, 3, 8, 0, 0) := by decide +kernel
theorem s_163_15 {x0 x1 x2 x3 x4 x5 x6 x7 x8 x9 : Option Value} {o : Nat} : mw d 163 Q 15 [x0, x1, x2, x3, x4, x5, x6, x7, x8, x9] (.ref o :: st) h = (mg h o 8 ∧ mw d 163 Q 18 [x0, x1, x2, x3, x4, x5, x6, x7, x8, x9] (.int (mh_i h o 0) :: st) h) := (mw_at mj_163_15).trans (z_geti (by decide) (by decide) (Or.inr rfl))
theorem mj_163_18 : mc_P 163 18 = some (.ifCond .ne 106, 3, 0, 0, 0) := by decide +kernel
theorem s_163_18 {x0 x1 x2 x3 x4 x5 x6 x7 x8 x9 : Option Value} {x : Int32} : mw d 163 Q 18 [x0, x1, x2, x3, x4, x5, x6, x7, x8, x9] (.int x :: st) h = mB (¬ x = 0) (mw d 163 Q) 124 21 [x0, x1, x2, x3, x4, x5, x6, x7, x8, x9] st h := (mw_at mj_163_18).trans (z_if_ne (by decide) rfl)
theorem mj_163_21 : mc_P 163 21 = some (.iload 4, 2, 0, 0, 0) := by decide +kernel
theorem s_163_21 {x0 x1 x2 x3 x5 x6 x7 x8 x9 : Option Value} {w : Value} : mw d 163 Q 21 [x0, x1, x2, x3, some w, x5, x6, x7, x8, x9] (st) h = mv_i w (mw d 163 Q 23 [x0, x1, x2, x3, some w, x5, x6, x7, x8, x9] (w :: st) h) := (mw_at mj_163_21).trans (z_iload rfl)
theorem mj_163_23 : mc_P 163 23 = some (.iconst 2, 1, 0, 0, 0) := by decide +kernel
theorem s_163_23 {x0 x1 x2 x3 x4 x5 x6 x7 x8 x9 : Option Value} : mw d 163 Q 23 [x0, x1, x2, x3, x4, x5, x6, x7, x8, x9] (st) h = mw d 163 Q 24 [x0, x1, x2, x3, x4, x5, x6, x7, x8, x9] (.int 2 :: st) h := (mw_at mj_163_23).trans (z_iconst (by decide))
theorem mj_163_24 : mc_P 163 24 = some (.irem, 1, 0, 0, 0) := by decide +kernel
theorem s_163_24 {x0 x1 x2 x3 x4 x5 x6 x7 x8 x9 : Option Value} {x w : Int32} : mw d 163 Q 24 [x0, x1, x2, x3, x4, x5, x6, x7, x8, x9] (.int w :: .int x :: st) h = (¬ w = 0 ∧ mw d 163 Q 25 [x0, x1, x2, x3, x4, x5, x6, x7, x8, x9] (.int (x - x / w * w) :: st) h) := (mw_at mj_163_24).trans (z_irem)
theorem mj_163_25 : mc_P 163 25 = some (.ifCond .ne 13, 3, 0, 0, 0) := by decide +kernel
theorem s_163_25 {x0 x1 x2 x3 x4 x5 x6 x7 x8 x9 : Option Value} {x : Int32} : mw d 163 Q 25 [x0, x1, x2, x3, x4, x5, x6, x7, x8, x9] (.int x :: st) h = mB (¬ x = 0) (mw d 163 Q) 38 28 [x0, x1, x2, x3, x4, x5, x6, x7, x8, x9] st h := (mw_at mj_163_25).trans (z_if_ne (by decide) rfl)
theorem mj_163_28 : mc_P 163 28 = some (.aload_n 1, 1, 0, 0, 0) := by decide +kernel
theorem s_163_28 {x0 x2 x3 x4 x5 x6 x7 x8 x9 : Option Value} {w : Value} : mw d 163 Q 28 [x0, some w, x2, x3, x4, x5, x6, x7, x8, x9] (st) h = mv_a w (mw d 163 Q 29 [x0, some w, x2, x3, x4, x5, x6, x7, x8, x9] (w :: st) h) := (mw_at mj_163_28).trans (z_aload_n rfl)
theorem mj_163_29 : mc_P 163 29 = some (.iload 4, 2, 0, 0, 0) := by decide +kernel
theorem s_163_29 {x0 x1 x2 x3 x5 x6 x7 x8 x9 : Option Value} {w : Value} : mw d 163 Q 29 [x0, x1, x2, x3, some w, x5, x6, x7, x8, x9] (st) h = mv_i w (mw d 163 Q 31 [x0, x1, x2, x3, some w, x5, x6, x7, x8, x9] (w :: st) h) := (mw_at mj_163_29).trans (z_iload rfl)
theorem mj_163_31 : mc_P 163 31 = some (.iconst 2, 1, 0, 0, 0) := by decide +kernel
theorem s_163_31 {x0 x1 x2 x3 x4 x5 x6 x7 x8 x9 : Option Value} : mw d 163 Q 31 [x0, x1, x2, x3, x4, x5, x6, x7, x8, x9] (st) h = mw d 163 Q 32 [x0, x1, x2, x3, x4, x5, x6, x7, x8, x9] (.int 2 :: st) h := (mw_at mj_163_31).trans (z_iconst (by decide))
theorem mj_163_32 : mc_P 163 32 = some (.idiv, 1, 0, 0, 0) := by decide +kernel
theorem s_163_32 {x0 x1 x2 x3 x4 x5 x6 x7 x8 x9 : Option Value} {x w : Int32} : mw d 163 Q 32 [x0, x1, x2, x3, x4, x5, x6, x7, x8, x9] (.int w :: .int x :: st) h = (¬ w = 0 ∧ mw d 163 Q 33 [x0, x1, x2, x3, x4, x5, x6, x7, x8, x9] (.int (x / w) :: st) h) := (mw_at mj_163_32).trans (z_idiv)
theorem mj_163_33 : mc_P 163 33 = some (.iaload, 1, 0, 0, 0) := by decide +kernel
theorem s_163_33 {x0 x1 x2 x3 x4 x5 x6 x7 x8 x9 : Option Value} {o : Nat} {i : Int32} : mw d 163 Q 33 [x0, x1, x2, x3, x4, x5, x6, x7, x8, x9] (.int i :: .ref o :: st) h = (mg h o 100 ∧ mx i (mh_l h o) ∧ mw d 163 Q 34 [x0, x1, x2, x3, x4, x5, x6, x7, x8, x9] (.int (mh_i h o i.toNatClampNeg) :: st) h) := (mw_at mj_163_33).trans (z_iald)
theorem s_163_33x {x0 x1 x2 x3 x4 x5 x6 x7 x8 x9 : Option Value} {i : Int32} : mw d 163 Q 33 [x0, x1, x2, x3, x4, x5, x6, x7, x8, x9] (.int i :: .retAddr 2 :: st) h = (mx i 24 ∧ mw d 163 Q 34 [x0, x1, x2, x3, x4, x5, x6, x7, x8, x9] (.int (mx_row.getD i.toNatClampNeg 0) :: st) h) := (mw_at mj_163_33).trans (z_iaX)
theorem mj_163_34 : mc_P 163 34 = some (.i2l, 1, 0, 0, 0) := by decide +kernel
theorem s_163_34 {x0 x1 x2 x3 x4 x5 x6 x7 x8 x9 : Option Value} {x : Int32} : mw d 163 Q 34 [x0, x1, x2, x3, x4, x5, x6, x7, x8, x9] (.int x :: st) h = mw d 163 Q 35 [x0, x1, x2, x3, x4, x5, x6, x7, x8, x9] (.long x.toInt64 :: st) h := (mw_at mj_163_34).trans (z_i2l)
theorem mj_163_35 : mc_P 163 35 = some (.goto 11, 3, 0, 0, 0) := by decide +kernel
theorem s_163_35 {x0 x1 x2 x3 x4 x5 x6 x7 x8 x9 : Option Value} : mw d 163 Q 35 [x0, x1, x2, x3, x4, x5, x6, x7, x8, x9] (st) h = mw d 163 Q 46 [x0, x1, x2, x3, x4, x5, x6, x7, x8, x9] (st) h := (mw_at mj_163_35).trans (z_goto (by decide))
theorem mj_163_38 : mc_P 163 38 = some (.aload_n 1, 1, 0, 0, 0) := by decide +kernel
theorem s_163_38 {x0 x2 x3 x4 x5 x6 x7 x8 x9 : Option Value} {w : Value} : mw d 163 Q 38 [x0, some w, x2, x3, x4, x5, x6, x7, x8, x9] (st) h = mv_a w (mw d 163 Q 39 [x0, some w, x2, x3, x4, x5, x6, x7, x8, x9] (w :: st) h) := (mw_at mj_163_38).trans (z_aload_n rfl)
theorem mj_163_39 : mc_P 163 39 = some (.iload 4, 2, 0, 0, 0) := by decide +kernel
theorem s_163_39 {x0 x1 x2 x3 x5 x6 x7 x8 x9 : Option Value} {w : Value} : mw d 163 Q 39 [x0, x1, x2, x3, some w, x5, x6, x7, x8, x9] (st) h = mv_i w (mw d 163 Q 41 [x0, x1, x2, x3, some w, x5, x6, x7, x8, x9] (w :: st) h) := (mw_at mj_163_39).trans (z_iload rfl)
theorem mj_163_41 : mc_P 163 41 = some (.iconst 2, 1, 0, 0, 0) := by decide +kernel
theorem s_163_41 {x0 x1 x2 x3 x4 x5 x6 x7 x8 x9 : Option Value} : mw d 163 Q 41 [x0, x1, x2, x3, x4, x5, x6, x7, x8, x9] (st) h = mw d 163 Q 42 [x0, x1, x2, x3, x4, x5, x6, x7, x8, x9] (.int 2 :: st) h := (mw_at mj_163_41).trans (z_iconst (by decide))
theorem mj_163_42 : mc_P 163 42 = some (.idiv, 1, 0, 0, 0) := by decide +kernel
theorem s_163_42 {x0 x1 x2 x3 x4 x5 x6 x7 x8 x9 : Option Value} {x w : Int32} : mw d 163 Q 42 [x0, x1, x2, x3, x4, x5, x6, x7, x8, x9] (.int w :: .int x :: st) h = (¬ w = 0 ∧ mw d 163 Q 43 [x0, x1, x2, x3, x4, x5, x6, x7, x8, x9] (.int (x / w) :: st) h) := (mw_at mj_163_42).trans (z_idiv)
theorem mj_163_43 : mc_P 163 43 = some (.iaload, 1, 0, 0, 0) := by decide +kernel
theorem s_163_43 {x0 x1 x2 x3 x4 x5 x6 x7 x8 x9 : Option Value} {o : Nat} {i : Int32} : mw d 163 Q 43 [x0, x1, x2, x3, x4, x5, x6, x7, x8, x9] (.int i :: .ref o :: st) h = (mg h o 100 ∧ mx i (mh_l h o) ∧ mw d 163 Q 44 [x0, x1, x2, x3, x4, x5, x6, x7, x8, x9] (.int (mh_i h o i.toNatClampNeg) :: st) h) := (mw_at mj_163_43).trans (z_iald)
theorem s_163_43x {x0 x1 x2 x3 x4 x5 x6 x7 x8 x9 : Option Value} {i : Int32} : mw d 163 Q 43 [x0, x1, x2, x3, x4, x5, x6, x7, x8, x9] (.int i :: .retAddr 2 :: st) h = (mx i 24 ∧ mw d 163 Q 44 [x0, x1, x2, x3, x4, x5, x6, x7, x8, x9] (.int (mx_row.getD i.toNatClampNeg 0) :: st) h) := (mw_at mj_163_43).trans (z_iaX)
theorem mj_163_44 : mc_P 163 44 = some (.i2l, 1, 0, 0, 0) := by decide +kernel
theorem s_163_44 {x0 x1 x2 x3 x4 x5 x6 x7 x8 x9 : Option Value} {x : Int32} : mw d 163 Q 44 [x0, x1, x2, x3, x4, x5, x6, x7, x8, x9] (.int x :: st) h = mw d 163 Q 45 [x0, x1, x2, x3, x4, x5, x6, x7, x8, x9] (.long x.toInt64 :: st) h := (mw_at mj_163_44).trans (z_i2l)
theorem mj_163_45 : mc_P 163 45 = some (.lneg, 1, 0, 0, 0) := by decide +kernel
theorem s_163_45 {x0 x1 x2 x3 x4 x5 x6 x7 x8 x9 : Option Value} {x : Int64} : mw d 163 Q 45 [x0, x1, x2, x3, x4, x5, x6, x7, x8, x9] (.long x :: st) h = mw d 163 Q 46 [x0, x1, x2, x3, x4, x5, x6, x7, x8, x9] (.long (-x) :: st) h := (mw_at mj_163_45).trans (z_lneg)
theorem mj_163_46 : mc_P 163 46 = some (.lstore 5, 2, 0, 0, 0) := by decide +kernel
theorem s_163_46 {x0 x1 x2 x3 x4 x5 x6 x7 x8 x9 : Option Value} {w : Int64} : mw d 163 Q 46 [x0, x1, x2, x3, x4, x5, x6, x7, x8, x9] (.long w :: st) h = mw d 163 Q 48 [x0, x1, x2, x3, mk2 x4, some (.long w), none, x7, x8, x9] (st) h := (mw_at mj_163_46).trans (z_lstore (Nat.le_of_ble_eq_true rfl) (me_s2_mk (j := 4) (w := x4) rfl))
theorem mj_163_48 : mc_P 163 48 = some (.iconst 0, 1, 0, 0, 0) := by decide +kernel
theorem s_163_48 {x0 x1 x2 x3 x4 x5 x6 x7 x8 x9 : Option Value} : mw d 163 Q 48 [x0, x1, x2, x3, x4, x5, x6, x7, x8, x9] (st) h = mw d 163 Q 49 [x0, x1, x2, x3, x4, x5, x6, x7, x8, x9] (.int 0 :: st) h := (mw_at mj_163_48).trans (z_iconst (by decide))
theorem mj_163_49 : mc_P 163 49 = some (.istore 7, 2, 0, 0, 0) := by decide +kernel
theorem s_163_49 {x0 x1 x2 x3 x4 x5 x6 x7 x8 x9 : Option Value} {w : Int32} : mw d 163 Q 49 [x0, x1, x2, x3, x4, x5, x6, x7, x8, x9] (.int w :: st) h = mw d 163 Q 51 [x0, x1, x2, x3, x4, x5, mk2 x6, some (.int w), x8, x9] (st) h := (mw_at mj_163_49).trans (z_istore (Nat.le_of_ble_eq_true rfl) (me_s1_mk (j := 6) (w := x6) rfl))
theorem mj_163_51 : mc_P 163 51 = some (.iload 7, 2, 0, 0, 0) := by decide +kernel
theorem s_163_51 {x0 x1 x2 x3 x4 x5 x6 x8 x9 : Option Value} {w : Value} : mw d 163 Q 51 [x0, x1, x2, x3, x4, x5, x6, some w, x8, x9] (st) h = mv_i w (mw d 163 Q 53 [x0, x1, x2, x3, x4, x5, x6, some w, x8, x9] (w :: st) h) := (mw_at mj_163_51).trans (z_iload rfl)
theorem mj_163_53 : mc_P 163 53 = some (.iload 4, 2, 0, 0, 0) := by decide +kernel
theorem s_163_53 {x0 x1 x2 x3 x5 x6 x7 x8 x9 : Option Value} {w : Value} : mw d 163 Q 53 [x0, x1, x2, x3, some w, x5, x6, x7, x8, x9] (st) h = mv_i w (mw d 163 Q 55 [x0, x1, x2, x3, some w, x5, x6, x7, x8, x9] (w :: st) h) := (mw_at mj_163_53).trans (z_iload rfl)
theorem mj_163_55 : mc_P 163 55 = some (.iconst 1, 1, 0, 0, 0) := by decide +kernel
theorem s_163_55 {x0 x1 x2 x3 x4 x5 x6 x7 x8 x9 : Option Value} : mw d 163 Q 55 [x0, x1, x2, x3, x4, x5, x6, x7, x8, x9] (st) h = mw d 163 Q 56 [x0, x1, x2, x3, x4, x5, x6, x7, x8, x9] (.int 1 :: st) h := (mw_at mj_163_55).trans (z_iconst (by decide))
theorem mj_163_56 : mc_P 163 56 = some (.ior, 1, 0, 0, 0) := by decide +kernel
theorem s_163_56 {x0 x1 x2 x3 x4 x5 x6 x7 x8 x9 : Option Value} {x w : Int32} : mw d 163 Q 56 [x0, x1, x2, x3, x4, x5, x6, x7, x8, x9] (.int w :: .int x :: st) h = mw d 163 Q 57 [x0, x1, x2, x3, x4, x5, x6, x7, x8, x9] (.int (x ||| w) :: st) h := (mw_at mj_163_56).trans (z_ior)
theorem mj_163_57 : mc_P 163 57 = some (.if_icmp .gt 61, 3, 0, 0, 0) := by decide +kernel
theorem s_163_57 {x0 x1 x2 x3 x4 x5 x6 x7 x8 x9 : Option Value} {x w : Int32} : mw d 163 Q 57 [x0, x1, x2, x3, x4, x5, x6, x7, x8, x9] (.int w :: .int x :: st) h = mB (w < x) (mw d 163 Q) 118 60 [x0, x1, x2, x3, x4, x5, x6, x7, x8, x9] st h := (mw_at mj_163_57).trans (z_icmp_gt (by decide) rfl)
theorem mj_163_60 : mc_P 163 60 = some (.iload 7, 2, 0, 0, 0) := by decide +kernel
theorem s_163_60 {x0 x1 x2 x3 x4 x5 x6 x8 x9 : Option Value} {w : Value} : mw d 163 Q 60 [x0, x1, x2, x3, x4, x5, x6, some w, x8, x9] (st) h = mv_i w (mw d 163 Q 62 [x0, x1, x2, x3, x4, x5, x6, some w, x8, x9] (w :: st) h) := (mw_at mj_163_60).trans (z_iload rfl)
theorem mj_163_62 : mc_P 163 62 = some (.iconst 2, 1, 0, 0, 0) := by decide +kernel
theorem s_163_62 {x0 x1 x2 x3 x4 x5 x6 x7 x8 x9 : Option Value} : mw d 163 Q 62 [x0, x1, x2, x3, x4, x5, x6, x7, x8, x9] (st) h = mw d 163 Q 63 [x0, x1, x2, x3, x4, x5, x6, x7, x8, x9] (.int 2 :: st) h := (mw_at mj_163_62).trans (z_iconst (by decide))
theorem mj_163_63 : mc_P 163 63 = some (.irem, 1, 0, 0, 0) := by decide +kernel
theorem s_163_63 {x0 x1 x2 x3 x4 x5 x6 x7 x8 x9 : Option Value} {x w : Int32} : mw d 163 Q 63 [x0, x1, x2, x3, x4, x5, x6, x7, x8, x9] (.int w :: .int x :: st) h = (¬ w = 0 ∧ mw d 163 Q 64 [x0, x1, x2, x3, x4, x5, x6, x7, x8, x9] (.int (x - x / w * w) :: st) h) := (mw_at mj_163_63).trans (z_irem)
theorem mj_163_64 : mc_P 163 64 = some (.ifCond .ne 13, 3, 0, 0, 0) := by decide +kernel
theorem s_163_64 {x0 x1 x2 x3 x4 x5 x6 x7 x8 x9 : Option Value} {x : Int32} : mw d 163 Q 64 [x0, x1, x2, x3, x4, x5, x6, x7, x8, x9] (.int x :: st) h = mB (¬ x = 0) (mw d 163 Q) 77 67 [x0, x1, x2, x3, x4, x5, x6, x7, x8, x9] st h := (mw_at mj_163_64).trans (z_if_ne (by decide) rfl)
theorem mj_163_67 : mc_P 163 67 = some (.aload_n 1, 1, 0, 0, 0) := by decide +kernel
theorem s_163_67 {x0 x2 x3 x4 x5 x6 x7 x8 x9 : Option Value} {w : Value} : mw d 163 Q 67 [x0, some w, x2, x3, x4, x5, x6, x7, x8, x9] (st) h = mv_a w (mw d 163 Q 68 [x0, some w, x2, x3, x4, x5, x6, x7, x8, x9] (w :: st) h) := (mw_at mj_163_67).trans (z_aload_n rfl)
theorem mj_163_68 : mc_P 163 68 = some (.iload 7, 2, 0, 0, 0) := by decide +kernel
theorem s_163_68 {x0 x1 x2 x3 x4 x5 x6 x8 x9 : Option Value} {w : Value} : mw d 163 Q 68 [x0, x1, x2, x3, x4, x5, x6, some w, x8, x9] (st) h = mv_i w (mw d 163 Q 70 [x0, x1, x2, x3, x4, x5, x6, some w, x8, x9] (w :: st) h) := (mw_at mj_163_68).trans (z_iload rfl)
theorem mj_163_70 : mc_P 163 70 = some (.iconst 2, 1, 0, 0, 0) := by decide +kernel
theorem s_163_70 {x0 x1 x2 x3 x4 x5 x6 x7 x8 x9 : Option Value} : mw d 163 Q 70 [x0, x1, x2, x3, x4, x5, x6, x7, x8, x9] (st) h = mw d 163 Q 71 [x0, x1, x2, x3, x4, x5, x6, x7, x8, x9] (.int 2 :: st) h := (mw_at mj_163_70).trans (z_iconst (by decide))
theorem mj_163_71 : mc_P 163 71 = some (.idiv, 1, 0, 0, 0) := by decide +kernel
theorem s_163_71 {x0 x1 x2 x3 x4 x5 x6 x7 x8 x9 : Option Value} {x w : Int32} : mw d 163 Q 71 [x0, x1, x2, x3, x4, x5, x6, x7, x8, x9] (.int w :: .int x :: st) h = (¬ w = 0 ∧ mw d 163 Q 72 [x0, x1, x2, x3, x4, x5, x6, x7, x8, x9] (.int (x / w) :: st) h) := (mw_at mj_163_71).trans (z_idiv)
theorem mj_163_72 : mc_P 163 72 = some (.iaload, 1, 0, 0, 0) := by decide +kernel
theorem s_163_72 {x0 x1 x2 x3 x4 x5 x6 x7 x8 x9 : Option Value} {o : Nat} {i : Int32} : mw d 163 Q 72 [x0, x1, x2, x3, x4, x5, x6, x7, x8, x9] (.int i :: .ref o :: st) h = (mg h o 100 ∧ mx i (mh_l h o) ∧ mw d 163 Q 73 [x0, x1, x2, x3, x4, x5, x6, x7, x8, x9] (.int (mh_i h o i.toNatClampNeg) :: st) h) := (mw_at mj_163_72).trans (z_iald)
theorem s_163_72x {x0 x1 x2 x3 x4 x5 x6 x7 x8 x9 : Option Value} {i : Int32} : mw d 163 Q 72 [x0, x1, x2, x3, x4, x5, x6, x7, x8, x9] (.int i :: .retAddr 2 :: st) h = (mx i 24 ∧ mw d 163 Q 73 [x0, x1, x2, x3, x4, x5, x6, x7, x8, x9] (.int (mx_row.getD i.toNatClampNeg 0) :: st) h) := (mw_at mj_163_72).trans (z_iaX)
theorem mj_163_73 : mc_P 163 73 = some (.i2l, 1, 0, 0, 0) := by decide +kernel
theorem s_163_73 {x0 x1 x2 x3 x4 x5 x6 x7 x8 x9 : Option Value} {x : Int32} : mw d 163 Q 73 [x0, x1, x2, x3, x4, x5, x6, x7, x8, x9] (.int x :: st) h = mw d 163 Q 74 [x0, x1, x2, x3, x4, x5, x6, x7, x8, x9] (.long x.toInt64 :: st) h := (mw_at mj_163_73).trans (z_i2l)
theorem mj_163_74 : mc_P 163 74 = some (.goto 11, 3, 0, 0, 0) := by decide +kernel
theorem s_163_74 {x0 x1 x2 x3 x4 x5 x6 x7 x8 x9 : Option Value} : mw d 163 Q 74 [x0, x1, x2, x3, x4, x5, x6, x7, x8, x9] (st) h = mw d 163 Q 85 [x0, x1, x2, x3, x4, x5, x6, x7, x8, x9] (st) h := (mw_at mj_163_74).trans (z_goto (by decide))
theorem mj_163_77 : mc_P 163 77 = some (.aload_n 1, 1, 0, 0, 0) := by decide +kernel
theorem s_163_77 {x0 x2 x3 x4 x5 x6 x7 x8 x9 : Option Value} {w : Value} : mw d 163 Q 77 [x0, some w, x2, x3, x4, x5, x6, x7, x8, x9] (st) h = mv_a w (mw d 163 Q 78 [x0, some w, x2, x3, x4, x5, x6, x7, x8, x9] (w :: st) h) := (mw_at mj_163_77).trans (z_aload_n rfl)
theorem mj_163_78 : mc_P 163 78 = some (.iload 7, 2, 0, 0, 0) := by decide +kernel
theorem s_163_78 {x0 x1 x2 x3 x4 x5 x6 x8 x9 : Option Value} {w : Value} : mw d 163 Q 78 [x0, x1, x2, x3, x4, x5, x6, some w, x8, x9] (st) h = mv_i w (mw d 163 Q 80 [x0, x1, x2, x3, x4, x5, x6, some w, x8, x9] (w :: st) h) := (mw_at mj_163_78).trans (z_iload rfl)
theorem mj_163_80 : mc_P 163 80 = some (.iconst 2, 1, 0, 0, 0) := by decide +kernel
theorem s_163_80 {x0 x1 x2 x3 x4 x5 x6 x7 x8 x9 : Option Value} : mw d 163 Q 80 [x0, x1, x2, x3, x4, x5, x6, x7, x8, x9] (st) h = mw d 163 Q 81 [x0, x1, x2, x3, x4, x5, x6, x7, x8, x9] (.int 2 :: st) h := (mw_at mj_163_80).trans (z_iconst (by decide))
theorem mj_163_81 : mc_P 163 81 = some (.idiv, 1, 0, 0, 0) := by decide +kernel
theorem s_163_81 {x0 x1 x2 x3 x4 x5 x6 x7 x8 x9 : Option Value} {x w : Int32} : mw d 163 Q 81 [x0, x1, x2, x3, x4, x5, x6, x7, x8, x9] (.int w :: .int x :: st) h = (¬ w = 0 ∧ mw d 163 Q 82 [x0, x1, x2, x3, x4, x5, x6, x7, x8, x9] (.int (x / w) :: st) h) := (mw_at mj_163_81).trans (z_idiv)
theorem mj_163_82 : mc_P 163 82 = some (.iaload, 1, 0, 0, 0) := by decide +kernel
theorem s_163_82 {x0 x1 x2 x3 x4 x5 x6 x7 x8 x9 : Option Value} {o : Nat} {i : Int32} : mw d 163 Q 82 [x0, x1, x2, x3, x4, x5, x6, x7, x8, x9] (.int i :: .ref o :: st) h = (mg h o 100 ∧ mx i (mh_l h o) ∧ mw d 163 Q 83 [x0, x1, x2, x3, x4, x5, x6, x7, x8, x9] (.int (mh_i h o i.toNatClampNeg) :: st) h) := (mw_at mj_163_82).trans (z_iald)
theorem s_163_82x {x0 x1 x2 x3 x4 x5 x6 x7 x8 x9 : Option Value} {i : Int32} : mw d 163 Q 82 [x0, x1, x2, x3, x4, x5, x6, x7, x8, x9] (.int i :: .retAddr 2 :: st) h = (mx i 24 ∧ mw d 163 Q 83 [x0, x1, x2, x3, x4, x5, x6, x7, x8, x9] (.int (mx_row.getD i.toNatClampNeg 0) :: st) h) := (mw_at mj_163_82).trans (z_iaX)
theorem mj_163_83 : mc_P 163 83 = some (.i2l, 1, 0, 0, 0) := by decide +kernel
theorem s_163_83 {x0 x1 x2 x3 x4 x5 x6 x7 x8 x9 : Option Value} {x : Int32} : mw d 163 Q 83 [x0, x1, x2, x3, x4, x5, x6, x7, x8, x9] (.int x :: st) h = mw d 163 Q 84 [x0, x1, x2, x3, x4, x5, x6, x7, x8, x9] (.long x.toInt64 :: st) h := (mw_at mj_163_83).trans (z_i2l)
theorem mj_163_84 : mc_P 163 84 = some (.lneg, 1, 0, 0, 0) := by decide +kernel
theorem s_163_84 {x0 x1 x2 x3 x4 x5 x6 x7 x8 x9 : Option Value} {x : Int64} : mw d 163 Q 84 [x0, x1, x2, x3, x4, x5, x6, x7, x8, x9] (.long x :: st) h = mw d 163 Q 85 [x0, x1, x2, x3, x4, x5, x6, x7, x8, x9] (.long (-x) :: st) h := (mw_at mj_163_84).trans (z_lneg)
theorem mj_163_85 : mc_P 163 85 = some (.lstore 8, 2, 0, 0, 0) := by decide +kernel
theorem s_163_85 {x0 x1 x2 x3 x4 x5 x6 x7 x8 x9 : Option Value} {w : Int64} : mw d 163 Q 85 [x0, x1, x2, x3, x4, x5, x6, x7, x8, x9] (.long w :: st) h = mw d 163 Q 87 [x0, x1, x2, x3, x4, x5, x6, mk2 x7, some (.long w), none] (st) h := (mw_at mj_163_85).trans (z_lstore (Nat.le_of_ble_eq_true rfl) (me_s2_mk (j := 7) (w := x7) rfl))
theorem mj_163_87 : mc_P 163 87 = some (.lload 8, 2, 0, 0, 0) := by decide +kernel
theorem s_163_87 {x0 x1 x2 x3 x4 x5 x6 x7 x9 : Option Value} {w : Value} : mw d 163 Q 87 [x0, x1, x2, x3, x4, x5, x6, x7, some w, x9] (st) h = mv_l w (mw d 163 Q 89 [x0, x1, x2, x3, x4, x5, x6, x7, some w, x9] (w :: st) h) := (mw_at mj_163_87).trans (z_lload rfl)
theorem mj_163_89 : mc_P 163 89 = some (.lload 5, 2, 0, 0, 0) := by decide +kernel
theorem s_163_89 {x0 x1 x2 x3 x4 x6 x7 x8 x9 : Option Value} {w : Value} : mw d 163 Q 89 [x0, x1, x2, x3, x4, some w, x6, x7, x8, x9] (st) h = mv_l w (mw d 163 Q 91 [x0, x1, x2, x3, x4, some w, x6, x7, x8, x9] (w :: st) h) := (mw_at mj_163_89).trans (z_lload rfl)
theorem mj_163_91 : mc_P 163 91 = some (.lsub, 1, 0, 0, 0) := by decide +kernel
theorem s_163_91 {x0 x1 x2 x3 x4 x5 x6 x7 x8 x9 : Option Value} {x w : Int64} : mw d 163 Q 91 [x0, x1, x2, x3, x4, x5, x6, x7, x8, x9] (.long w :: .long x :: st) h = mw d 163 Q 92 [x0, x1, x2, x3, x4, x5, x6, x7, x8, x9] (.long (x - w) :: st) h := (mw_at mj_163_91).trans (z_lsub)
theorem mj_163_92 : mc_P 163 92 = some (.aload_n 0, 1, 0, 0, 0) := by decide +kernel
theorem s_163_92 {x1 x2 x3 x4 x5 x6 x7 x8 x9 : Option Value} {w : Value} : mw d 163 Q 92 [some w, x1, x2, x3, x4, x5, x6, x7, x8, x9] (st) h = mv_a w (mw d 163 Q 93 [some w, x1, x2, x3, x4, x5, x6, x7, x8, x9] (w :: st) h) := (mw_at mj_163_92).trans (z_aload_n rfl)
theorem mj_163_93 : mc_P 163 93 = some (.getfield 11, 3, 8, 3, 0) := by decide +kernel
theorem s_163_93 {x0 x1 x2 x3 x4 x5 x6 x7 x8 x9 : Option Value} {o : Nat} : mw d 163 Q 93 [x0, x1, x2, x3, x4, x5, x6, x7, x8, x9] (.ref o :: st) h = (mg h o 8 ∧ mw d 163 Q 96 [x0, x1, x2, x3, x4, x5, x6, x7, x8, x9] (va_rf (mh_r h o 3) :: st) h) := (mw_at mj_163_93).trans (z_getr (by decide) (by decide) rfl)
theorem mj_163_96 : mc_P 163 96 = some (.getstatic 18, 3, 2, 0, 0) := by decide +kernel
theorem s_163_96 {x0 x1 x2 x3 x4 x5 x6 x7 x8 x9 : Option Value} : mw d 163 Q 96 [x0, x1, x2, x3, x4, x5, x6, x7, x8, x9] (st) h = mw d 163 Q 99 [x0, x1, x2, x3, x4, x5, x6, x7, x8, x9] (.retAddr 2 :: st) h := (mw_at mj_163_96).trans (z_gets0)
theorem mj_163_99 : mc_P 163 99 = some (.iload 4, 2, 0, 0, 0) := by decide +kernel
theorem s_163_99 {x0 x1 x2 x3 x5 x6 x7 x8 x9 : Option Value} {w : Value} : mw d 163 Q 99 [x0, x1, x2, x3, some w, x5, x6, x7, x8, x9] (st) h = mv_i w (mw d 163 Q 101 [x0, x1, x2, x3, some w, x5, x6, x7, x8, x9] (w :: st) h) := (mw_at mj_163_99).trans (z_iload rfl)
theorem mj_163_101 : mc_P 163 101 = some (.iaload, 1, 0, 0, 0) := by decide +kernel
theorem s_163_101 {x0 x1 x2 x3 x4 x5 x6 x7 x8 x9 : Option Value} {o : Nat} {i : Int32} : mw d 163 Q 101 [x0, x1, x2, x3, x4, x5, x6, x7, x8, x9] (.int i :: .ref o :: st) h = (mg h o 100 ∧ mx i (mh_l h o) ∧ mw d 163 Q 102 [x0, x1, x2, x3, x4, x5, x6, x7, x8, x9] (.int (mh_i h o i.toNatClampNeg) :: st) h) := (mw_at mj_163_101).trans (z_iald)
theorem s_163_101x {x0 x1 x2 x3 x4 x5 x6 x7 x8 x9 : Option Value} {i : Int32} : mw d 163 Q 101 [x0, x1, x2, x3, x4, x5, x6, x7, x8, x9] (.int i :: .retAddr 2 :: st) h = (mx i 24 ∧ mw d 163 Q 102 [x0, x1, x2, x3, x4, x5, x6, x7, x8, x9] (.int (mx_row.getD i.toNatClampNeg 0) :: st) h) := (mw_at mj_163_101).trans (z_iaX)
theorem mj_163_102 : mc_P 163 102 = some (.iload 7, 2, 0, 0, 0) := by decide +kernel
theorem s_163_102 {x0 x1 x2 x3 x4 x5 x6 x8 x9 : Option Value} {w : Value} : mw d 163 Q 102 [x0, x1, x2, x3, x4, x5, x6, some w, x8, x9] (st) h = mv_i w (mw d 163 Q 104 [x0, x1, x2, x3, x4, x5, x6, some w, x8, x9] (w :: st) h) := (mw_at mj_163_102).trans (z_iload rfl)
theorem mj_163_104 : mc_P 163 104 = some (.iadd, 1, 0, 0, 0) := by decide +kernel
theorem s_163_104 {x0 x1 x2 x3 x4 x5 x6 x7 x8 x9 : Option Value} {x w : Int32} : mw d 163 Q 104 [x0, x1, x2, x3, x4, x5, x6, x7, x8, x9] (.int w :: .int x :: st) h = mw d 163 Q 105 [x0, x1, x2, x3, x4, x5, x6, x7, x8, x9] (.int (x + w) :: st) h := (mw_at mj_163_104).trans (z_iadd)
theorem mj_163_105 : mc_P 163 105 = some (.laload, 1, 0, 0, 0) := by decide +kernel
theorem s_163_105 {x0 x1 x2 x3 x4 x5 x6 x7 x8 x9 : Option Value} {o : Nat} {i : Int32} : mw d 163 Q 105 [x0, x1, x2, x3, x4, x5, x6, x7, x8, x9] (.int i :: .ref o :: st) h = (mg h o 101 ∧ mx i (mh_l h o) ∧ mw d 163 Q 106 [x0, x1, x2, x3, x4, x5, x6, x7, x8, x9] (.long (mh_j h o i.toNatClampNeg) :: st) h) := (mw_at mj_163_105).trans (z_lald)
theorem mj_163_106 : mc_P 163 106 = some (.lcmp, 1, 0, 0, 0) := by decide +kernel
theorem s_163_106 {x0 x1 x2 x3 x4 x5 x6 x7 x8 x9 : Option Value} {x w : Int64} : mw d 163 Q 106 [x0, x1, x2, x3, x4, x5, x6, x7, x8, x9] (.long w :: .long x :: st) h = mw d 163 Q 107 [x0, x1, x2, x3, x4, x5, x6, x7, x8, x9] (.int (lg_cmp x w) :: st) h := (mw_at mj_163_106).trans (z_lcmp)
theorem mj_163_107 : mc_P 163 107 = some (.ifCond .le 5, 3, 0, 0, 0) := by decide +kernel
theorem s_163_107 {x0 x1 x2 x3 x4 x5 x6 x7 x8 x9 : Option Value} {x : Int32} : mw d 163 Q 107 [x0, x1, x2, x3, x4, x5, x6, x7, x8, x9] (.int x :: st) h = mB (x ≤ 0) (mw d 163 Q) 112 110 [x0, x1, x2, x3, x4, x5, x6, x7, x8, x9] st h := (mw_at mj_163_107).trans (z_if_le (by decide) rfl)
theorem mj_163_110 : mc_P 163 110 = some (.iconst 0, 1, 0, 0, 0) := by decide +kernel
theorem s_163_110 {x0 x1 x2 x3 x4 x5 x6 x7 x8 x9 : Option Value} : mw d 163 Q 110 [x0, x1, x2, x3, x4, x5, x6, x7, x8, x9] (st) h = mw d 163 Q 111 [x0, x1, x2, x3, x4, x5, x6, x7, x8, x9] (.int 0 :: st) h := (mw_at mj_163_110).trans (z_iconst (by decide))
theorem mj_163_111 : mc_P 163 111 = some (.ireturn, 1, 0, 3, 0) := by decide +kernel
theorem s_163_111 {x0 x1 x2 x3 x4 x5 x6 x7 x8 x9 : Option Value} {x : Int32} : mw d 163 Q 111 [x0, x1, x2, x3, x4, x5, x6, x7, x8, x9] ([.int x]) h = ((x = 0 ∨ x = 1) ∧ Q (some (.int x)) h) := (mw_at mj_163_111).trans (z_zret)
theorem mj_163_112 : mc_P 163 112 = some (.iinc 7 1, 3, 0, 0, 0) := by decide +kernel
theorem s_163_112 {x0 x1 x2 x3 x4 x5 x6 x8 x9 : Option Value} {w : Int32} : mw d 163 Q 112 [x0, x1, x2, x3, x4, x5, x6, some (.int w), x8, x9] (st) h = mw d 163 Q 115 [x0, x1, x2, x3, x4, x5, mk2 x6, some (.int (w + 1)), x8, x9] (st) h := (mw_at mj_163_112).trans (z_iinc rfl (Nat.le_of_ble_eq_true rfl) (by decide) (me_s1_mk (j := 6) (w := x6) rfl))
theorem mj_163_115 : mc_P 163 115 = some (.goto (-64), 3, 0, 0, 0) := by decide +kernel
theorem s_163_115 {x0 x1 x2 x3 x4 x5 x6 x7 x8 x9 : Option Value} : mw d 163 Q 115 [x0, x1, x2, x3, x4, x5, x6, x7, x8, x9] (st) h = mw d 163 Q 51 [x0, x1, x2, x3, x4, x5, x6, x7, x8, x9] (st) h := (mw_at mj_163_115).trans (z_goto (by decide))
theorem mj_163_118 : mc_P 163 118 = some (.iinc 4 1, 3, 0, 0, 0) := by decide +kernel
theorem s_163_118 {x0 x1 x2 x3 x5 x6 x7 x8 x9 : Option Value} {w : Int32} : mw d 163 Q 118 [x0, x1, x2, x3, some (.int w), x5, x6, x7, x8, x9] (st) h = mw d 163 Q 121 [x0, x1, x2, mk2 x3, some (.int (w + 1)), x5, x6, x7, x8, x9] (st) h := (mw_at mj_163_118).trans (z_iinc rfl (Nat.le_of_ble_eq_true rfl) (by decide) (me_s1_mk (j := 3) (w := x3) rfl))
theorem mj_163_121 : mc_P 163 121 = some (.goto (-118), 3, 0, 0, 0) := by decide +kernel
theorem s_163_121 {x0 x1 x2 x3 x4 x5 x6 x7 x8 x9 : Option Value} : mw d 163 Q 121 [x0, x1, x2, x3, x4, x5, x6, x7, x8, x9] (st) h = mw d 163 Q 3 [x0, x1, x2, x3, x4, x5, x6, x7, x8, x9] (st) h := (mw_at mj_163_121).trans (z_goto (by decide))
theorem mj_163_124 : mc_P 163 124 = some (.iconst 0, 1, 0, 0, 0) := by decide +kernel
theorem s_163_124 {x0 x1 x2 x3 x4 x5 x6 x7 x8 x9 : Option Value} : mw d 163 Q 124 [x0, x1, x2, x3, x4, x5, x6, x7, x8, x9] (st) h = mw d 163 Q 125 [x0, x1, x2, x3, x4, x5, x6, x7, x8, x9] (.int 0 :: st) h := (mw_at mj_163_124).trans (z_iconst (by decide))
theorem mj_163_125 : mc_P 163 125 = some (.istore 4, 2, 0, 0, 0) := by decide +kernel
theorem s_163_125 {x0 x1 x2 x3 x4 x5 x6 x7 x8 x9 : Option Value} {w : Int32} : mw d 163 Q 125 [x0, x1, x2, x3, x4, x5, x6, x7, x8, x9] (.int w :: st) h = mw d 163 Q 127 [x0, x1, x2, mk2 x3, some (.int w), x5, x6, x7, x8, x9] (st) h := (mw_at mj_163_125).trans (z_istore (Nat.le_of_ble_eq_true rfl) (me_s1_mk (j := 3) (w := x3) rfl))
theorem mj_163_127 : mc_P 163 127 = some (.iload 4, 2, 0, 0, 0) := by decide +kernel
theorem s_163_127 {x0 x1 x2 x3 x5 x6 x7 x8 x9 : Option Value} {w : Value} : mw d 163 Q 127 [x0, x1, x2, x3, some w, x5, x6, x7, x8, x9] (st) h = mv_i w (mw d 163 Q 129 [x0, x1, x2, x3, some w, x5, x6, x7, x8, x9] (w :: st) h) := (mw_at mj_163_127).trans (z_iload rfl)
theorem mj_163_129 : mc_P 163 129 = some (.aload_n 0, 1, 0, 0, 0) := by decide +kernel
theorem s_163_129 {x1 x2 x3 x4 x5 x6 x7 x8 x9 : Option Value} {w : Value} : mw d 163 Q 129 [some w, x1, x2, x3, x4, x5, x6, x7, x8, x9] (st) h = mv_a w (mw d 163 Q 130 [some w, x1, x2, x3, x4, x5, x6, x7, x8, x9] (w :: st) h) := (mw_at mj_163_129).trans (z_aload_n rfl)
theorem mj_163_130 : mc_P 163 130 = some (.getfield 34, 3, 8, 2, 0) := by decide +kernel
theorem s_163_130 {x0 x1 x2 x3 x4 x5 x6 x7 x8 x9 : Option Value} {o : Nat} : mw d 163 Q 130 [x0, x1, x2, x3, x4, x5, x6, x7, x8, x9] (.ref o :: st) h = (mg h o 8 ∧ mw d 163 Q 133 [x0, x1, x2, x3, x4, x5, x6, x7, x8, x9] (.int (mh_i h o 2) :: st) h) := (mw_at mj_163_130).trans (z_geti (by decide) (by decide) (Or.inl rfl))
theorem mj_163_133 : mc_P 163 133 = some (.if_icmp .ge 82, 3, 0, 0, 0) := by decide +kernel
theorem s_163_133 {x0 x1 x2 x3 x4 x5 x6 x7 x8 x9 : Option Value} {x w : Int32} : mw d 163 Q 133 [x0, x1, x2, x3, x4, x5, x6, x7, x8, x9] (.int w :: .int x :: st) h = mB (w ≤ x) (mw d 163 Q) 215 136 [x0, x1, x2, x3, x4, x5, x6, x7, x8, x9] st h := (mw_at mj_163_133).trans (z_icmp_ge (by decide) rfl)
theorem mj_163_136 : mc_P 163 136 = some (.aload_n 0, 1, 0, 0, 0) := by decide +kernel
theorem s_163_136 {x1 x2 x3 x4 x5 x6 x7 x8 x9 : Option Value} {w : Value} : mw d 163 Q 136 [some w, x1, x2, x3, x4, x5, x6, x7, x8, x9] (st) h = mv_a w (mw d 163 Q 137 [some w, x1, x2, x3, x4, x5, x6, x7, x8, x9] (w :: st) h) := (mw_at mj_163_136).trans (z_aload_n rfl)
theorem mj_163_137 : mc_P 163 137 = some (.getfield 30, 3, 8, 0, 0) := by decide +kernel
theorem s_163_137 {x0 x1 x2 x3 x4 x5 x6 x7 x8 x9 : Option Value} {o : Nat} : mw d 163 Q 137 [x0, x1, x2, x3, x4, x5, x6, x7, x8, x9] (.ref o :: st) h = (mg h o 8 ∧ mw d 163 Q 140 [x0, x1, x2, x3, x4, x5, x6, x7, x8, x9] (.int (mh_i h o 0) :: st) h) := (mw_at mj_163_137).trans (z_geti (by decide) (by decide) (Or.inr rfl))
theorem mj_163_140 : mc_P 163 140 = some (.ifCond .ne 75, 3, 0, 0, 0) := by decide +kernel
theorem s_163_140 {x0 x1 x2 x3 x4 x5 x6 x7 x8 x9 : Option Value} {x : Int32} : mw d 163 Q 140 [x0, x1, x2, x3, x4, x5, x6, x7, x8, x9] (.int x :: st) h = mB (¬ x = 0) (mw d 163 Q) 215 143 [x0, x1, x2, x3, x4, x5, x6, x7, x8, x9] st h := (mw_at mj_163_140).trans (z_if_ne (by decide) rfl)
theorem mj_163_143 : mc_P 163 143 = some (.iconst 0, 1, 0, 0, 0) := by decide +kernel
theorem s_163_143 {x0 x1 x2 x3 x4 x5 x6 x7 x8 x9 : Option Value} : mw d 163 Q 143 [x0, x1, x2, x3, x4, x5, x6, x7, x8, x9] (st) h = mw d 163 Q 144 [x0, x1, x2, x3, x4, x5, x6, x7, x8, x9] (.int 0 :: st) h := (mw_at mj_163_143).trans (z_iconst (by decide))
theorem mj_163_144 : mc_P 163 144 = some (.istore 5, 2, 0, 0, 0) := by decide +kernel
theorem s_163_144 {x0 x1 x2 x3 x4 x5 x6 x7 x8 x9 : Option Value} {w : Int32} : mw d 163 Q 144 [x0, x1, x2, x3, x4, x5, x6, x7, x8, x9] (.int w :: st) h = mw d 163 Q 146 [x0, x1, x2, x3, mk2 x4, some (.int w), x6, x7, x8, x9] (st) h := (mw_at mj_163_144).trans (z_istore (Nat.le_of_ble_eq_true rfl) (me_s1_mk (j := 4) (w := x4) rfl))
theorem mj_163_146 : mc_P 163 146 = some (.iload 5, 2, 0, 0, 0) := by decide +kernel
theorem s_163_146 {x0 x1 x2 x3 x4 x6 x7 x8 x9 : Option Value} {w : Value} : mw d 163 Q 146 [x0, x1, x2, x3, x4, some w, x6, x7, x8, x9] (st) h = mv_i w (mw d 163 Q 148 [x0, x1, x2, x3, x4, some w, x6, x7, x8, x9] (w :: st) h) := (mw_at mj_163_146).trans (z_iload rfl)
theorem mj_163_148 : mc_P 163 148 = some (.aload_n 3, 1, 0, 0, 0) := by decide +kernel
theorem s_163_148 {x0 x1 x2 x4 x5 x6 x7 x8 x9 : Option Value} {w : Value} : mw d 163 Q 148 [x0, x1, x2, some w, x4, x5, x6, x7, x8, x9] (st) h = mv_a w (mw d 163 Q 149 [x0, x1, x2, some w, x4, x5, x6, x7, x8, x9] (w :: st) h) := (mw_at mj_163_148).trans (z_aload_n rfl)
theorem mj_163_149 : mc_P 163 149 = some (.iload 4, 2, 0, 0, 0) := by decide +kernel
theorem s_163_149 {x0 x1 x2 x3 x5 x6 x7 x8 x9 : Option Value} {w : Value} : mw d 163 Q 149 [x0, x1, x2, x3, some w, x5, x6, x7, x8, x9] (st) h = mv_i w (mw d 163 Q 151 [x0, x1, x2, x3, some w, x5, x6, x7, x8, x9] (w :: st) h) := (mw_at mj_163_149).trans (z_iload rfl)
theorem mj_163_151 : mc_P 163 151 = some (.iaload, 1, 0, 0, 0) := by decide +kernel
theorem s_163_151 {x0 x1 x2 x3 x4 x5 x6 x7 x8 x9 : Option Value} {o : Nat} {i : Int32} : mw d 163 Q 151 [x0, x1, x2, x3, x4, x5, x6, x7, x8, x9] (.int i :: .ref o :: st) h = (mg h o 100 ∧ mx i (mh_l h o) ∧ mw d 163 Q 152 [x0, x1, x2, x3, x4, x5, x6, x7, x8, x9] (.int (mh_i h o i.toNatClampNeg) :: st) h) := (mw_at mj_163_151).trans (z_iald)
theorem s_163_151x {x0 x1 x2 x3 x4 x5 x6 x7 x8 x9 : Option Value} {i : Int32} : mw d 163 Q 151 [x0, x1, x2, x3, x4, x5, x6, x7, x8, x9] (.int i :: .retAddr 2 :: st) h = (mx i 24 ∧ mw d 163 Q 152 [x0, x1, x2, x3, x4, x5, x6, x7, x8, x9] (.int (mx_row.getD i.toNatClampNeg 0) :: st) h) := (mw_at mj_163_151).trans (z_iaX)
theorem mj_163_152 : mc_P 163 152 = some (.if_icmp .ge 57, 3, 0, 0, 0) := by decide +kernel
theorem s_163_152 {x0 x1 x2 x3 x4 x5 x6 x7 x8 x9 : Option Value} {x w : Int32} : mw d 163 Q 152 [x0, x1, x2, x3, x4, x5, x6, x7, x8, x9] (.int w :: .int x :: st) h = mB (w ≤ x) (mw d 163 Q) 209 155 [x0, x1, x2, x3, x4, x5, x6, x7, x8, x9] st h := (mw_at mj_163_152).trans (z_icmp_ge (by decide) rfl)
theorem mj_163_155 : mc_P 163 155 = some (.aload_n 2, 1, 0, 0, 0) := by decide +kernel
theorem s_163_155 {x0 x1 x3 x4 x5 x6 x7 x8 x9 : Option Value} {w : Value} : mw d 163 Q 155 [x0, x1, some w, x3, x4, x5, x6, x7, x8, x9] (st) h = mv_a w (mw d 163 Q 156 [x0, x1, some w, x3, x4, x5, x6, x7, x8, x9] (w :: st) h) := (mw_at mj_163_155).trans (z_aload_n rfl)
theorem mj_163_156 : mc_P 163 156 = some (.iload 4, 2, 0, 0, 0) := by decide +kernel
theorem s_163_156 {x0 x1 x2 x3 x5 x6 x7 x8 x9 : Option Value} {w : Value} : mw d 163 Q 156 [x0, x1, x2, x3, some w, x5, x6, x7, x8, x9] (st) h = mv_i w (mw d 163 Q 158 [x0, x1, x2, x3, some w, x5, x6, x7, x8, x9] (w :: st) h) := (mw_at mj_163_156).trans (z_iload rfl)
theorem mj_163_158 : mc_P 163 158 = some (.bipush 64, 2, 0, 0, 0) := by decide +kernel
theorem s_163_158 {x0 x1 x2 x3 x4 x5 x6 x7 x8 x9 : Option Value} : mw d 163 Q 158 [x0, x1, x2, x3, x4, x5, x6, x7, x8, x9] (st) h = mw d 163 Q 160 [x0, x1, x2, x3, x4, x5, x6, x7, x8, x9] (.int 64 :: st) h := (mw_at mj_163_158).trans (z_bipush (by decide))
theorem mj_163_160 : mc_P 163 160 = some (.imul, 1, 0, 0, 0) := by decide +kernel
theorem s_163_160 {x0 x1 x2 x3 x4 x5 x6 x7 x8 x9 : Option Value} {x w : Int32} : mw d 163 Q 160 [x0, x1, x2, x3, x4, x5, x6, x7, x8, x9] (.int w :: .int x :: st) h = mw d 163 Q 161 [x0, x1, x2, x3, x4, x5, x6, x7, x8, x9] (.int (x * w) :: st) h := (mw_at mj_163_160).trans (z_imul)
theorem mj_163_161 : mc_P 163 161 = some (.iload 5, 2, 0, 0, 0) := by decide +kernel
theorem s_163_161 {x0 x1 x2 x3 x4 x6 x7 x8 x9 : Option Value} {w : Value} : mw d 163 Q 161 [x0, x1, x2, x3, x4, some w, x6, x7, x8, x9] (st) h = mv_i w (mw d 163 Q 163 [x0, x1, x2, x3, x4, some w, x6, x7, x8, x9] (w :: st) h) := (mw_at mj_163_161).trans (z_iload rfl)
theorem mj_163_163 : mc_P 163 163 = some (.iadd, 1, 0, 0, 0) := by decide +kernel
theorem s_163_163 {x0 x1 x2 x3 x4 x5 x6 x7 x8 x9 : Option Value} {x w : Int32} : mw d 163 Q 163 [x0, x1, x2, x3, x4, x5, x6, x7, x8, x9] (.int w :: .int x :: st) h = mw d 163 Q 164 [x0, x1, x2, x3, x4, x5, x6, x7, x8, x9] (.int (x + w) :: st) h := (mw_at mj_163_163).trans (z_iadd)
theorem mj_163_164 : mc_P 163 164 = some (.iaload, 1, 0, 0, 0) := by decide +kernel
theorem s_163_164 {x0 x1 x2 x3 x4 x5 x6 x7 x8 x9 : Option Value} {o : Nat} {i : Int32} : mw d 163 Q 164 [x0, x1, x2, x3, x4, x5, x6, x7, x8, x9] (.int i :: .ref o :: st) h = (mg h o 100 ∧ mx i (mh_l h o) ∧ mw d 163 Q 165 [x0, x1, x2, x3, x4, x5, x6, x7, x8, x9] (.int (mh_i h o i.toNatClampNeg) :: st) h) := (mw_at mj_163_164).trans (z_iald)
theorem s_163_164x {x0 x1 x2 x3 x4 x5 x6 x7 x8 x9 : Option Value} {i : Int32} : mw d 163 Q 164 [x0, x1, x2, x3, x4, x5, x6, x7, x8, x9] (.int i :: .retAddr 2 :: st) h = (mx i 24 ∧ mw d 163 Q 165 [x0, x1, x2, x3, x4, x5, x6, x7, x8, x9] (.int (mx_row.getD i.toNatClampNeg 0) :: st) h) := (mw_at mj_163_164).trans (z_iaX)
theorem mj_163_165 : mc_P 163 165 = some (.istore 6, 2, 0, 0, 0) := by decide +kernel
theorem s_163_165 {x0 x1 x2 x3 x4 x5 x6 x7 x8 x9 : Option Value} {w : Int32} : mw d 163 Q 165 [x0, x1, x2, x3, x4, x5, x6, x7, x8, x9] (.int w :: st) h = mw d 163 Q 167 [x0, x1, x2, x3, x4, mk2 x5, some (.int w), x7, x8, x9] (st) h := (mw_at mj_163_165).trans (z_istore (Nat.le_of_ble_eq_true rfl) (me_s1_mk (j := 5) (w := x5) rfl))
theorem mj_163_167 : mc_P 163 167 = some (.iload 6, 2, 0, 0, 0) := by decide +kernel
theorem s_163_167 {x0 x1 x2 x3 x4 x5 x7 x8 x9 : Option Value} {w : Value} : mw d 163 Q 167 [x0, x1, x2, x3, x4, x5, some w, x7, x8, x9] (st) h = mv_i w (mw d 163 Q 169 [x0, x1, x2, x3, x4, x5, some w, x7, x8, x9] (w :: st) h) := (mw_at mj_163_167).trans (z_iload rfl)
theorem mj_163_169 : mc_P 163 169 = some (.i2l, 1, 0, 0, 0) := by decide +kernel
theorem s_163_169 {x0 x1 x2 x3 x4 x5 x6 x7 x8 x9 : Option Value} {x : Int32} : mw d 163 Q 169 [x0, x1, x2, x3, x4, x5, x6, x7, x8, x9] (.int x :: st) h = mw d 163 Q 170 [x0, x1, x2, x3, x4, x5, x6, x7, x8, x9] (.long x.toInt64 :: st) h := (mw_at mj_163_169).trans (z_i2l)
theorem mj_163_170 : mc_P 163 170 = some (.aload_n 0, 1, 0, 0, 0) := by decide +kernel
theorem s_163_170 {x1 x2 x3 x4 x5 x6 x7 x8 x9 : Option Value} {w : Value} : mw d 163 Q 170 [some w, x1, x2, x3, x4, x5, x6, x7, x8, x9] (st) h = mv_a w (mw d 163 Q 171 [some w, x1, x2, x3, x4, x5, x6, x7, x8, x9] (w :: st) h) := (mw_at mj_163_170).trans (z_aload_n rfl)
theorem mj_163_171 : mc_P 163 171 = some (.getfield 15, 3, 8, 4, 0) := by decide +kernel
theorem s_163_171 {x0 x1 x2 x3 x4 x5 x6 x7 x8 x9 : Option Value} {o : Nat} : mw d 163 Q 171 [x0, x1, x2, x3, x4, x5, x6, x7, x8, x9] (.ref o :: st) h = (mg h o 8 ∧ mw d 163 Q 174 [x0, x1, x2, x3, x4, x5, x6, x7, x8, x9] (va_rf (mh_r h o 4) :: st) h) := (mw_at mj_163_171).trans (z_getr (by decide) (by decide) rfl)
theorem mj_163_174 : mc_P 163 174 = some (.iconst 2, 1, 0, 0, 0) := by decide +kernel
theorem s_163_174 {x0 x1 x2 x3 x4 x5 x6 x7 x8 x9 : Option Value} : mw d 163 Q 174 [x0, x1, x2, x3, x4, x5, x6, x7, x8, x9] (st) h = mw d 163 Q 175 [x0, x1, x2, x3, x4, x5, x6, x7, x8, x9] (.int 2 :: st) h := (mw_at mj_163_174).trans (z_iconst (by decide))
theorem mj_163_175 : mc_P 163 175 = some (.iload 4, 2, 0, 0, 0) := by decide +kernel
theorem s_163_175 {x0 x1 x2 x3 x5 x6 x7 x8 x9 : Option Value} {w : Value} : mw d 163 Q 175 [x0, x1, x2, x3, some w, x5, x6, x7, x8, x9] (st) h = mv_i w (mw d 163 Q 177 [x0, x1, x2, x3, some w, x5, x6, x7, x8, x9] (w :: st) h) := (mw_at mj_163_175).trans (z_iload rfl)
theorem mj_163_177 : mc_P 163 177 = some (.imul, 1, 0, 0, 0) := by decide +kernel
theorem s_163_177 {x0 x1 x2 x3 x4 x5 x6 x7 x8 x9 : Option Value} {x w : Int32} : mw d 163 Q 177 [x0, x1, x2, x3, x4, x5, x6, x7, x8, x9] (.int w :: .int x :: st) h = mw d 163 Q 178 [x0, x1, x2, x3, x4, x5, x6, x7, x8, x9] (.int (x * w) :: st) h := (mw_at mj_163_177).trans (z_imul)
theorem mj_163_178 : mc_P 163 178 = some (.laload, 1, 0, 0, 0) := by decide +kernel
theorem s_163_178 {x0 x1 x2 x3 x4 x5 x6 x7 x8 x9 : Option Value} {o : Nat} {i : Int32} : mw d 163 Q 178 [x0, x1, x2, x3, x4, x5, x6, x7, x8, x9] (.int i :: .ref o :: st) h = (mg h o 101 ∧ mx i (mh_l h o) ∧ mw d 163 Q 179 [x0, x1, x2, x3, x4, x5, x6, x7, x8, x9] (.long (mh_j h o i.toNatClampNeg) :: st) h) := (mw_at mj_163_178).trans (z_lald)
theorem mj_163_179 : mc_P 163 179 = some (.lcmp, 1, 0, 0, 0) := by decide +kernel
theorem s_163_179 {x0 x1 x2 x3 x4 x5 x6 x7 x8 x9 : Option Value} {x w : Int64} : mw d 163 Q 179 [x0, x1, x2, x3, x4, x5, x6, x7, x8, x9] (.long w :: .long x :: st) h = mw d 163 Q 180 [x0, x1, x2, x3, x4, x5, x6, x7, x8, x9] (.int (lg_cmp x w) :: st) h := (mw_at mj_163_179).trans (z_lcmp)
theorem mj_163_180 : mc_P 163 180 = some (.ifCond .lt 21, 3, 0, 0, 0) := by decide +kernel
theorem s_163_180 {x0 x1 x2 x3 x4 x5 x6 x7 x8 x9 : Option Value} {x : Int32} : mw d 163 Q 180 [x0, x1, x2, x3, x4, x5, x6, x7, x8, x9] (.int x :: st) h = mB (x < 0) (mw d 163 Q) 201 183 [x0, x1, x2, x3, x4, x5, x6, x7, x8, x9] st h := (mw_at mj_163_180).trans (z_if_lt (by decide) rfl)
theorem mj_163_183 : mc_P 163 183 = some (.iload 6, 2, 0, 0, 0) := by decide +kernel
theorem s_163_183 {x0 x1 x2 x3 x4 x5 x7 x8 x9 : Option Value} {w : Value} : mw d 163 Q 183 [x0, x1, x2, x3, x4, x5, some w, x7, x8, x9] (st) h = mv_i w (mw d 163 Q 185 [x0, x1, x2, x3, x4, x5, some w, x7, x8, x9] (w :: st) h) := (mw_at mj_163_183).trans (z_iload rfl)
theorem mj_163_185 : mc_P 163 185 = some (.i2l, 1, 0, 0, 0) := by decide +kernel
theorem s_163_185 {x0 x1 x2 x3 x4 x5 x6 x7 x8 x9 : Option Value} {x : Int32} : mw d 163 Q 185 [x0, x1, x2, x3, x4, x5, x6, x7, x8, x9] (.int x :: st) h = mw d 163 Q 186 [x0, x1, x2, x3, x4, x5, x6, x7, x8, x9] (.long x.toInt64 :: st) h := (mw_at mj_163_185).trans (z_i2l)
theorem mj_163_186 : mc_P 163 186 = some (.aload_n 0, 1, 0, 0, 0) := by decide +kernel
theorem s_163_186 {x1 x2 x3 x4 x5 x6 x7 x8 x9 : Option Value} {w : Value} : mw d 163 Q 186 [some w, x1, x2, x3, x4, x5, x6, x7, x8, x9] (st) h = mv_a w (mw d 163 Q 187 [some w, x1, x2, x3, x4, x5, x6, x7, x8, x9] (w :: st) h) := (mw_at mj_163_186).trans (z_aload_n rfl)
theorem mj_163_187 : mc_P 163 187 = some (.getfield 15, 3, 8, 4, 0) := by decide +kernel
theorem s_163_187 {x0 x1 x2 x3 x4 x5 x6 x7 x8 x9 : Option Value} {o : Nat} : mw d 163 Q 187 [x0, x1, x2, x3, x4, x5, x6, x7, x8, x9] (.ref o :: st) h = (mg h o 8 ∧ mw d 163 Q 190 [x0, x1, x2, x3, x4, x5, x6, x7, x8, x9] (va_rf (mh_r h o 4) :: st) h) := (mw_at mj_163_187).trans (z_getr (by decide) (by decide) rfl)
theorem mj_163_190 : mc_P 163 190 = some (.iconst 2, 1, 0, 0, 0) := by decide +kernel
theorem s_163_190 {x0 x1 x2 x3 x4 x5 x6 x7 x8 x9 : Option Value} : mw d 163 Q 190 [x0, x1, x2, x3, x4, x5, x6, x7, x8, x9] (st) h = mw d 163 Q 191 [x0, x1, x2, x3, x4, x5, x6, x7, x8, x9] (.int 2 :: st) h := (mw_at mj_163_190).trans (z_iconst (by decide))
theorem mj_163_191 : mc_P 163 191 = some (.iload 4, 2, 0, 0, 0) := by decide +kernel
theorem s_163_191 {x0 x1 x2 x3 x5 x6 x7 x8 x9 : Option Value} {w : Value} : mw d 163 Q 191 [x0, x1, x2, x3, some w, x5, x6, x7, x8, x9] (st) h = mv_i w (mw d 163 Q 193 [x0, x1, x2, x3, some w, x5, x6, x7, x8, x9] (w :: st) h) := (mw_at mj_163_191).trans (z_iload rfl)
theorem mj_163_193 : mc_P 163 193 = some (.imul, 1, 0, 0, 0) := by decide +kernel
theorem s_163_193 {x0 x1 x2 x3 x4 x5 x6 x7 x8 x9 : Option Value} {x w : Int32} : mw d 163 Q 193 [x0, x1, x2, x3, x4, x5, x6, x7, x8, x9] (.int w :: .int x :: st) h = mw d 163 Q 194 [x0, x1, x2, x3, x4, x5, x6, x7, x8, x9] (.int (x * w) :: st) h := (mw_at mj_163_193).trans (z_imul)
theorem mj_163_194 : mc_P 163 194 = some (.iconst 1, 1, 0, 0, 0) := by decide +kernel
theorem s_163_194 {x0 x1 x2 x3 x4 x5 x6 x7 x8 x9 : Option Value} : mw d 163 Q 194 [x0, x1, x2, x3, x4, x5, x6, x7, x8, x9] (st) h = mw d 163 Q 195 [x0, x1, x2, x3, x4, x5, x6, x7, x8, x9] (.int 1 :: st) h := (mw_at mj_163_194).trans (z_iconst (by decide))
theorem mj_163_195 : mc_P 163 195 = some (.iadd, 1, 0, 0, 0) := by decide +kernel
theorem s_163_195 {x0 x1 x2 x3 x4 x5 x6 x7 x8 x9 : Option Value} {x w : Int32} : mw d 163 Q 195 [x0, x1, x2, x3, x4, x5, x6, x7, x8, x9] (.int w :: .int x :: st) h = mw d 163 Q 196 [x0, x1, x2, x3, x4, x5, x6, x7, x8, x9] (.int (x + w) :: st) h := (mw_at mj_163_195).trans (z_iadd)
theorem mj_163_196 : mc_P 163 196 = some (.laload, 1, 0, 0, 0) := by decide +kernel
theorem s_163_196 {x0 x1 x2 x3 x4 x5 x6 x7 x8 x9 : Option Value} {o : Nat} {i : Int32} : mw d 163 Q 196 [x0, x1, x2, x3, x4, x5, x6, x7, x8, x9] (.int i :: .ref o :: st) h = (mg h o 101 ∧ mx i (mh_l h o) ∧ mw d 163 Q 197 [x0, x1, x2, x3, x4, x5, x6, x7, x8, x9] (.long (mh_j h o i.toNatClampNeg) :: st) h) := (mw_at mj_163_196).trans (z_lald)
theorem mj_163_197 : mc_P 163 197 = some (.lcmp, 1, 0, 0, 0) := by decide +kernel
theorem s_163_197 {x0 x1 x2 x3 x4 x5 x6 x7 x8 x9 : Option Value} {x w : Int64} : mw d 163 Q 197 [x0, x1, x2, x3, x4, x5, x6, x7, x8, x9] (.long w :: .long x :: st) h = mw d 163 Q 198 [x0, x1, x2, x3, x4, x5, x6, x7, x8, x9] (.int (lg_cmp x w) :: st) h := (mw_at mj_163_197).trans (z_lcmp)
theorem mj_163_198 : mc_P 163 198 = some (.ifCond .le 5, 3, 0, 0, 0) := by decide +kernel
theorem s_163_198 {x0 x1 x2 x3 x4 x5 x6 x7 x8 x9 : Option Value} {x : Int32} : mw d 163 Q 198 [x0, x1, x2, x3, x4, x5, x6, x7, x8, x9] (.int x :: st) h = mB (x ≤ 0) (mw d 163 Q) 203 201 [x0, x1, x2, x3, x4, x5, x6, x7, x8, x9] st h := (mw_at mj_163_198).trans (z_if_le (by decide) rfl)
theorem mj_163_201 : mc_P 163 201 = some (.iconst 0, 1, 0, 0, 0) := by decide +kernel
theorem s_163_201 {x0 x1 x2 x3 x4 x5 x6 x7 x8 x9 : Option Value} : mw d 163 Q 201 [x0, x1, x2, x3, x4, x5, x6, x7, x8, x9] (st) h = mw d 163 Q 202 [x0, x1, x2, x3, x4, x5, x6, x7, x8, x9] (.int 0 :: st) h := (mw_at mj_163_201).trans (z_iconst (by decide))
theorem mj_163_202 : mc_P 163 202 = some (.ireturn, 1, 0, 3, 0) := by decide +kernel
theorem s_163_202 {x0 x1 x2 x3 x4 x5 x6 x7 x8 x9 : Option Value} {x : Int32} : mw d 163 Q 202 [x0, x1, x2, x3, x4, x5, x6, x7, x8, x9] ([.int x]) h = ((x = 0 ∨ x = 1) ∧ Q (some (.int x)) h) := (mw_at mj_163_202).trans (z_zret)
theorem mj_163_203 : mc_P 163 203 = some (.iinc 5 1, 3, 0, 0, 0) := by decide +kernel
theorem s_163_203 {x0 x1 x2 x3 x4 x6 x7 x8 x9 : Option Value} {w : Int32} : mw d 163 Q 203 [x0, x1, x2, x3, x4, some (.int w), x6, x7, x8, x9] (st) h = mw d 163 Q 206 [x0, x1, x2, x3, mk2 x4, some (.int (w + 1)), x6, x7, x8, x9] (st) h := (mw_at mj_163_203).trans (z_iinc rfl (Nat.le_of_ble_eq_true rfl) (by decide) (me_s1_mk (j := 4) (w := x4) rfl))
theorem mj_163_206 : mc_P 163 206 = some (.goto (-60), 3, 0, 0, 0) := by decide +kernel
theorem s_163_206 {x0 x1 x2 x3 x4 x5 x6 x7 x8 x9 : Option Value} : mw d 163 Q 206 [x0, x1, x2, x3, x4, x5, x6, x7, x8, x9] (st) h = mw d 163 Q 146 [x0, x1, x2, x3, x4, x5, x6, x7, x8, x9] (st) h := (mw_at mj_163_206).trans (z_goto (by decide))
theorem mj_163_209 : mc_P 163 209 = some (.iinc 4 1, 3, 0, 0, 0) := by decide +kernel
theorem s_163_209 {x0 x1 x2 x3 x5 x6 x7 x8 x9 : Option Value} {w : Int32} : mw d 163 Q 209 [x0, x1, x2, x3, some (.int w), x5, x6, x7, x8, x9] (st) h = mw d 163 Q 212 [x0, x1, x2, mk2 x3, some (.int (w + 1)), x5, x6, x7, x8, x9] (st) h := (mw_at mj_163_209).trans (z_iinc rfl (Nat.le_of_ble_eq_true rfl) (by decide) (me_s1_mk (j := 3) (w := x3) rfl))
theorem mj_163_212 : mc_P 163 212 = some (.goto (-85), 3, 0, 0, 0) := by decide +kernel
theorem s_163_212 {x0 x1 x2 x3 x4 x5 x6 x7 x8 x9 : Option Value} : mw d 163 Q 212 [x0, x1, x2, x3, x4, x5, x6, x7, x8, x9] (st) h = mw d 163 Q 127 [x0, x1, x2, x3, x4, x5, x6, x7, x8, x9] (st) h := (mw_at mj_163_212).trans (z_goto (by decide))
theorem mj_163_215 : mc_P 163 215 = some (.aload_n 0, 1, 0, 0, 0) := by decide +kernel
theorem s_163_215 {x1 x2 x3 x4 x5 x6 x7 x8 x9 : Option Value} {w : Value} : mw d 163 Q 215 [some w, x1, x2, x3, x4, x5, x6, x7, x8, x9] (st) h = mv_a w (mw d 163 Q 216 [some w, x1, x2, x3, x4, x5, x6, x7, x8, x9] (w :: st) h) := (mw_at mj_163_215).trans (z_aload_n rfl)
theorem mj_163_216 : mc_P 163 216 = some (.getfield 30, 3, 8, 0, 0) := by decide +kernel
theorem s_163_216 {x0 x1 x2 x3 x4 x5 x6 x7 x8 x9 : Option Value} {o : Nat} : mw d 163 Q 216 [x0, x1, x2, x3, x4, x5, x6, x7, x8, x9] (.ref o :: st) h = (mg h o 8 ∧ mw d 163 Q 219 [x0, x1, x2, x3, x4, x5, x6, x7, x8, x9] (.int (mh_i h o 0) :: st) h) := (mw_at mj_163_216).trans (z_geti (by decide) (by decide) (Or.inr rfl))
theorem mj_163_219 : mc_P 163 219 = some (.ifCond .ne 7, 3, 0, 0, 0) := by decide +kernel
theorem s_163_219 {x0 x1 x2 x3 x4 x5 x6 x7 x8 x9 : Option Value} {x : Int32} : mw d 163 Q 219 [x0, x1, x2, x3, x4, x5, x6, x7, x8, x9] (.int x :: st) h = mB (¬ x = 0) (mw d 163 Q) 226 222 [x0, x1, x2, x3, x4, x5, x6, x7, x8, x9] st h := (mw_at mj_163_219).trans (z_if_ne (by decide) rfl)
theorem mj_163_222 : mc_P 163 222 = some (.iconst 1, 1, 0, 0, 0) := by decide +kernel
theorem s_163_222 {x0 x1 x2 x3 x4 x5 x6 x7 x8 x9 : Option Value} : mw d 163 Q 222 [x0, x1, x2, x3, x4, x5, x6, x7, x8, x9] (st) h = mw d 163 Q 223 [x0, x1, x2, x3, x4, x5, x6, x7, x8, x9] (.int 1 :: st) h := (mw_at mj_163_222).trans (z_iconst (by decide))
theorem mj_163_223 : mc_P 163 223 = some (.goto 4, 3, 0, 0, 0) := by decide +kernel
theorem s_163_223 {x0 x1 x2 x3 x4 x5 x6 x7 x8 x9 : Option Value} : mw d 163 Q 223 [x0, x1, x2, x3, x4, x5, x6, x7, x8, x9] (st) h = mw d 163 Q 227 [x0, x1, x2, x3, x4, x5, x6, x7, x8, x9] (st) h := (mw_at mj_163_223).trans (z_goto (by decide))
theorem mj_163_226 : mc_P 163 226 = some (.iconst 0, 1, 0, 0, 0) := by decide +kernel
theorem s_163_226 {x0 x1 x2 x3 x4 x5 x6 x7 x8 x9 : Option Value} : mw d 163 Q 226 [x0, x1, x2, x3, x4, x5, x6, x7, x8, x9] (st) h = mw d 163 Q 227 [x0, x1, x2, x3, x4, x5, x6, x7, x8, x9] (.int 0 :: st) h := (mw_at mj_163_226).trans (z_iconst (by decide))
theorem mj_163_227 : mc_P 163 227 = some (.ireturn, 1, 0, 3, 0) := by decide +kernel
theorem s_163_227 {x0 x1 x2 x3 x4 x5 x6 x7 x8 x9 : Option Value} {x : Int32} : mw d 163 Q 227 [x0, x1, x2, x3, x4, x5, x6, x7, x8, x9] ([.int x]) h = ((x = 0 ∨ x = 1) ∧ Q (some (.int x)) h) := (mw_at mj_163_227).trans (z_zret)
theorem e_163 {a0 : Nat} {a1 : Nat} {a2 : Nat} {a3 : Nat} : mcall d 163 [.ref a0, .ref a1, .ref a2, .ref a3] h Q = mw d 163 Q 0 [some (.ref a0), some (.ref a1), some (.ref a2), some (.ref a3), none, none, none, none, none, none] [] h := by
  show mw d 163 Q 0 (me_en (mc_nl 163) _) [] h = _
  rw [nl_163]; rfl

/-! InvariantDesk$Statement.<init>(IIIII)V -/
theorem mj_164_0 : mc_P 164 0 = some (.aload_n 0, 1, 0, 0, 0) := by decide +kernel
theorem s_164_0 {x1 x2 x3 x4 x5 : Option Value} {w : Value} : mw d 164 Q 0 [some w, x1, x2, x3, x4, x5] (st) h = mv_a w (mw d 164 Q 1 [some w, x1, x2, x3, x4, x5] (w :: st) h) := (mw_at mj_164_0).trans (z_aload_n rfl)
theorem mj_164_1 : mc_P 164 1 = some (.invokespecial 3, 3, 0, 1, 0) := by decide +kernel
theorem s_164_1 {x0 x1 x2 x3 x4 x5 : Option Value} {o : Nat} : mw d 164 Q 1 [x0, x1, x2, x3, x4, x5] (.ref o :: st) h = (mca st 8 ∧ mw d 164 Q 4 [x0, x1, x2, x3, x4, x5] (st) h) := (mw_at mj_164_1).trans (z_obj)
theorem mj_164_4 : mc_P 164 4 = some (.aload_n 0, 1, 0, 0, 0) := by decide +kernel
theorem s_164_4 {x1 x2 x3 x4 x5 : Option Value} {w : Value} : mw d 164 Q 4 [some w, x1, x2, x3, x4, x5] (st) h = mv_a w (mw d 164 Q 5 [some w, x1, x2, x3, x4, x5] (w :: st) h) := (mw_at mj_164_4).trans (z_aload_n rfl)
theorem mj_164_5 : mc_P 164 5 = some (.iconst (-1), 1, 0, 0, 0) := by decide +kernel
theorem s_164_5 {x0 x1 x2 x3 x4 x5 : Option Value} : mw d 164 Q 5 [x0, x1, x2, x3, x4, x5] (st) h = mw d 164 Q 6 [x0, x1, x2, x3, x4, x5] (.int (-1) :: st) h := (mw_at mj_164_5).trans (z_iconst (by decide))
theorem mj_164_6 : mc_P 164 6 = some (.putfield 9, 3, 9, 8, 0) := by decide +kernel
theorem s_164_6 {x0 x1 x2 x3 x4 x5 : Option Value} {o : Nat} {w : Int32} : mw d 164 Q 6 [x0, x1, x2, x3, x4, x5] (.int w :: .ref o :: st) h = (mg h o 9 ∧ mw d 164 Q 9 [x0, x1, x2, x3, x4, x5] (st) (mh_si h o 8 w)) := (mw_at mj_164_6).trans (z_puti (by decide) (by decide) rfl)
theorem mj_164_9 : mc_P 164 9 = some (.aload_n 0, 1, 0, 0, 0) := by decide +kernel
theorem s_164_9 {x1 x2 x3 x4 x5 : Option Value} {w : Value} : mw d 164 Q 9 [some w, x1, x2, x3, x4, x5] (st) h = mv_a w (mw d 164 Q 10 [some w, x1, x2, x3, x4, x5] (w :: st) h) := (mw_at mj_164_9).trans (z_aload_n rfl)
theorem mj_164_10 : mc_P 164 10 = some (.iload_n 1, 1, 0, 0, 0) := by decide +kernel
theorem s_164_10 {x0 x2 x3 x4 x5 : Option Value} {w : Value} : mw d 164 Q 10 [x0, some w, x2, x3, x4, x5] (st) h = mv_i w (mw d 164 Q 11 [x0, some w, x2, x3, x4, x5] (w :: st) h) := (mw_at mj_164_10).trans (z_iload_n rfl)
theorem mj_164_11 : mc_P 164 11 = some (.putfield 15, 3, 9, 0, 0) := by decide +kernel
theorem s_164_11 {x0 x1 x2 x3 x4 x5 : Option Value} {o : Nat} {w : Int32} : mw d 164 Q 11 [x0, x1, x2, x3, x4, x5] (.int w :: .ref o :: st) h = (mg h o 9 ∧ mw d 164 Q 14 [x0, x1, x2, x3, x4, x5] (st) (mh_si h o 0 w)) := (mw_at mj_164_11).trans (z_puti (by decide) (by decide) rfl)
theorem mj_164_14 : mc_P 164 14 = some (.aload_n 0, 1, 0, 0, 0) := by decide +kernel
theorem s_164_14 {x1 x2 x3 x4 x5 : Option Value} {w : Value} : mw d 164 Q 14 [some w, x1, x2, x3, x4, x5] (st) h = mv_a w (mw d 164 Q 15 [some w, x1, x2, x3, x4, x5] (w :: st) h) := (mw_at mj_164_14).trans (z_aload_n rfl)
theorem mj_164_15 : mc_P 164 15 = some (.iload_n 2, 1, 0, 0, 0) := by decide +kernel
theorem s_164_15 {x0 x1 x3 x4 x5 : Option Value} {w : Value} : mw d 164 Q 15 [x0, x1, some w, x3, x4, x5] (st) h = mv_i w (mw d 164 Q 16 [x0, x1, some w, x3, x4, x5] (w :: st) h) := (mw_at mj_164_15).trans (z_iload_n rfl)
theorem mj_164_16 : mc_P 164 16 = some (.putfield 18, 3, 9, 1, 0) := by decide +kernel
theorem s_164_16 {x0 x1 x2 x3 x4 x5 : Option Value} {o : Nat} {w : Int32} : mw d 164 Q 16 [x0, x1, x2, x3, x4, x5] (.int w :: .ref o :: st) h = (mg h o 9 ∧ mw d 164 Q 19 [x0, x1, x2, x3, x4, x5] (st) (mh_si h o 1 w)) := (mw_at mj_164_16).trans (z_puti (by decide) (by decide) rfl)
theorem mj_164_19 : mc_P 164 19 = some (.aload_n 0, 1, 0, 0, 0) := by decide +kernel
theorem s_164_19 {x1 x2 x3 x4 x5 : Option Value} {w : Value} : mw d 164 Q 19 [some w, x1, x2, x3, x4, x5] (st) h = mv_a w (mw d 164 Q 20 [some w, x1, x2, x3, x4, x5] (w :: st) h) := (mw_at mj_164_19).trans (z_aload_n rfl)
theorem mj_164_20 : mc_P 164 20 = some (.iload_n 3, 1, 0, 0, 0) := by decide +kernel
theorem s_164_20 {x0 x1 x2 x4 x5 : Option Value} {w : Value} : mw d 164 Q 20 [x0, x1, x2, some w, x4, x5] (st) h = mv_i w (mw d 164 Q 21 [x0, x1, x2, some w, x4, x5] (w :: st) h) := (mw_at mj_164_20).trans (z_iload_n rfl)
theorem mj_164_21 : mc_P 164 21 = some (.putfield 21, 3, 9, 2, 0) := by decide +kernel
theorem s_164_21 {x0 x1 x2 x3 x4 x5 : Option Value} {o : Nat} {w : Int32} : mw d 164 Q 21 [x0, x1, x2, x3, x4, x5] (.int w :: .ref o :: st) h = (mg h o 9 ∧ mw d 164 Q 24 [x0, x1, x2, x3, x4, x5] (st) (mh_si h o 2 w)) := (mw_at mj_164_21).trans (z_puti (by decide) (by decide) rfl)
theorem mj_164_24 : mc_P 164 24 = some (.aload_n 0, 1, 0, 0, 0) := by decide +kernel
theorem s_164_24 {x1 x2 x3 x4 x5 : Option Value} {w : Value} : mw d 164 Q 24 [some w, x1, x2, x3, x4, x5] (st) h = mv_a w (mw d 164 Q 25 [some w, x1, x2, x3, x4, x5] (w :: st) h) := (mw_at mj_164_24).trans (z_aload_n rfl)
theorem mj_164_25 : mc_P 164 25 = some (.iload 4, 2, 0, 0, 0) := by decide +kernel
theorem s_164_25 {x0 x1 x2 x3 x5 : Option Value} {w : Value} : mw d 164 Q 25 [x0, x1, x2, x3, some w, x5] (st) h = mv_i w (mw d 164 Q 27 [x0, x1, x2, x3, some w, x5] (w :: st) h) := (mw_at mj_164_25).trans (z_iload rfl)
theorem mj_164_27 : mc_P 164 27 = some (.putfield 24, 3, 9, 3, 0) := by decide +kernel
theorem s_164_27 {x0 x1 x2 x3 x4 x5 : Option Value} {o : Nat} {w : Int32} : mw d 164 Q 27 [x0, x1, x2, x3, x4, x5] (.int w :: .ref o :: st) h = (mg h o 9 ∧ mw d 164 Q 30 [x0, x1, x2, x3, x4, x5] (st) (mh_si h o 3 w)) := (mw_at mj_164_27).trans (z_puti (by decide) (by decide) rfl)
theorem mj_164_30 : mc_P 164 30 = some (.aload_n 0, 1, 0, 0, 0) := by decide +kernel
theorem s_164_30 {x1 x2 x3 x4 x5 : Option Value} {w : Value} : mw d 164 Q 30 [some w, x1, x2, x3, x4, x5] (st) h = mv_a w (mw d 164 Q 31 [some w, x1, x2, x3, x4, x5] (w :: st) h) := (mw_at mj_164_30).trans (z_aload_n rfl)
theorem mj_164_31 : mc_P 164 31 = some (.iload 5, 2, 0, 0, 0) := by decide +kernel
theorem s_164_31 {x0 x1 x2 x3 x4 : Option Value} {w : Value} : mw d 164 Q 31 [x0, x1, x2, x3, x4, some w] (st) h = mv_i w (mw d 164 Q 33 [x0, x1, x2, x3, x4, some w] (w :: st) h) := (mw_at mj_164_31).trans (z_iload rfl)
theorem mj_164_33 : mc_P 164 33 = some (.putfield 27, 3, 9, 4, 0) := by decide +kernel
theorem s_164_33 {x0 x1 x2 x3 x4 x5 : Option Value} {o : Nat} {w : Int32} : mw d 164 Q 33 [x0, x1, x2, x3, x4, x5] (.int w :: .ref o :: st) h = (mg h o 9 ∧ mw d 164 Q 36 [x0, x1, x2, x3, x4, x5] (st) (mh_si h o 4 w)) := (mw_at mj_164_33).trans (z_puti (by decide) (by decide) rfl)
theorem mj_164_36 : mc_P 164 36 = some (.return_, 1, 0, 0, 0) := by decide +kernel
theorem s_164_36 {x0 x1 x2 x3 x4 x5 : Option Value} : mw d 164 Q 36 [x0, x1, x2, x3, x4, x5] ([]) h = Q none h := (mw_at mj_164_36).trans (z_vret)
theorem e_164 {a0 : Nat} {a1 : Int32} {a2 : Int32} {a3 : Int32} {a4 : Int32} {a5 : Int32} : mcall d 164 [.ref a0, .int a1, .int a2, .int a3, .int a4, .int a5] h Q = mw d 164 Q 0 [some (.ref a0), some (.int a1), some (.int a2), some (.int a3), some (.int a4), some (.int a5)] [] h := by
  show mw d 164 Q 0 (me_en (mc_nl 164) _) [] h = _
  rw [nl_164]; rfl

/-! InvariantDesk$Tokens.<init>([BI)V -/
theorem mj_167_0 : mc_P 167 0 = some (.aload_n 0, 1, 0, 0, 0) := by decide +kernel
theorem s_167_0 {x1 x2 : Option Value} {w : Value} : mw d 167 Q 0 [some w, x1, x2] (st) h = mv_a w (mw d 167 Q 1 [some w, x1, x2] (w :: st) h) := (mw_at mj_167_0).trans (z_aload_n rfl)
theorem mj_167_1 : mc_P 167 1 = some (.invokespecial 3, 3, 0, 1, 0) := by decide +kernel
theorem s_167_1 {x0 x1 x2 : Option Value} {o : Nat} : mw d 167 Q 1 [x0, x1, x2] (.ref o :: st) h = (mca st 8 ∧ mw d 167 Q 4 [x0, x1, x2] (st) h) := (mw_at mj_167_1).trans (z_obj)
theorem mj_167_4 : mc_P 167 4 = some (.aload_n 0, 1, 0, 0, 0) := by decide +kernel
theorem s_167_4 {x1 x2 : Option Value} {w : Value} : mw d 167 Q 4 [some w, x1, x2] (st) h = mv_a w (mw d 167 Q 5 [some w, x1, x2] (w :: st) h) := (mw_at mj_167_4).trans (z_aload_n rfl)
theorem mj_167_5 : mc_P 167 5 = some (.aload_n 1, 1, 0, 0, 0) := by decide +kernel
theorem s_167_5 {x0 x2 : Option Value} {w : Value} : mw d 167 Q 5 [x0, some w, x2] (st) h = mv_a w (mw d 167 Q 6 [x0, some w, x2] (w :: st) h) := (mw_at mj_167_5).trans (z_aload_n rfl)
theorem mj_167_6 : mc_P 167 6 = some (.iload_n 2, 1, 0, 0, 0) := by decide +kernel
theorem s_167_6 {x0 x1 : Option Value} {w : Value} : mw d 167 Q 6 [x0, x1, some w] (st) h = mv_i w (mw d 167 Q 7 [x0, x1, some w] (w :: st) h) := (mw_at mj_167_6).trans (z_iload_n rfl)
theorem mj_167_7 : mc_P 167 7 = some (.invokestatic 9, 3, 392, 0, 2) := by decide +kernel
theorem s_167_7 {x0 x1 x2 : Option Value} {a0 a1 : Value} : mw (d + 1) 167 Q 7 [x0, x1, x2] (a1 :: a0 :: st) h = (mca st 8 ∧ mca [a0, a1] 3 ∧ mcall d 392 [a0, a1] h (mK (d + 1) 167 Q 10 [x0, x1, x2] st)) := (mw_at mj_167_7).trans ((z_invs (As := [a0, a1]) rfl rfl).trans (congrArg (And _) (mC_nl nl_392)))
theorem mj_167_10 : mc_P 167 10 = some (.putfield 15, 3, 10, 0, 0) := by decide +kernel
theorem s_167_10 {x0 x1 x2 : Option Value} {o w : Nat} : mw d 167 Q 10 [x0, x1, x2] (.ref w :: .ref o :: st) h = (mg h o 10 ∧ mw d 167 Q 13 [x0, x1, x2] (st) (mh_sr h o 0 (some w))) := (mw_at mj_167_10).trans (z_putr (by decide) (by decide) rfl)
theorem s_167_10n {x0 x1 x2 : Option Value} {o : Nat} : mw d 167 Q 10 [x0, x1, x2] (.null :: .ref o :: st) h = (mg h o 10 ∧ mw d 167 Q 13 [x0, x1, x2] (st) (mh_sr h o 0 none)) := (mw_at mj_167_10).trans (z_putn (by decide) (by decide) rfl)
theorem mj_167_13 : mc_P 167 13 = some (.aload_n 0, 1, 0, 0, 0) := by decide +kernel
theorem s_167_13 {x1 x2 : Option Value} {w : Value} : mw d 167 Q 13 [some w, x1, x2] (st) h = mv_a w (mw d 167 Q 14 [some w, x1, x2] (w :: st) h) := (mw_at mj_167_13).trans (z_aload_n rfl)
theorem mj_167_14 : mc_P 167 14 = some (.iload_n 2, 1, 0, 0, 0) := by decide +kernel
theorem s_167_14 {x0 x1 : Option Value} {w : Value} : mw d 167 Q 14 [x0, x1, some w] (st) h = mv_i w (mw d 167 Q 15 [x0, x1, some w] (w :: st) h) := (mw_at mj_167_14).trans (z_iload_n rfl)
theorem mj_167_15 : mc_P 167 15 = some (.iconst 1, 1, 0, 0, 0) := by decide +kernel
theorem s_167_15 {x0 x1 x2 : Option Value} : mw d 167 Q 15 [x0, x1, x2] (st) h = mw d 167 Q 16 [x0, x1, x2] (.int 1 :: st) h := (mw_at mj_167_15).trans (z_iconst (by decide))
theorem mj_167_16 : mc_P 167 16 = some (.iadd, 1, 0, 0, 0) := by decide +kernel
theorem s_167_16 {x0 x1 x2 : Option Value} {x w : Int32} : mw d 167 Q 16 [x0, x1, x2] (.int w :: .int x :: st) h = mw d 167 Q 17 [x0, x1, x2] (.int (x + w) :: st) h := (mw_at mj_167_16).trans (z_iadd)
theorem mj_167_17 : mc_P 167 17 = some (.newarray .int, 2, 100, 0, 0) := by decide +kernel
theorem s_167_17 {x0 x1 x2 : Option Value} {i : Int32} : mw d 167 Q 17 [x0, x1, x2] (.int i :: st) h = (mN i ∧ mw d 167 Q 19 [x0, x1, x2] (.ref (mh_n h) :: st) (mh_new h 100 i.toNatClampNeg)) := (mw_at mj_167_17).trans (z_newa (by decide) (by decide))
theorem mj_167_19 : mc_P 167 19 = some (.putfield 21, 3, 10, 1, 0) := by decide +kernel
theorem s_167_19 {x0 x1 x2 : Option Value} {o w : Nat} : mw d 167 Q 19 [x0, x1, x2] (.ref w :: .ref o :: st) h = (mg h o 10 ∧ mw d 167 Q 22 [x0, x1, x2] (st) (mh_sr h o 1 (some w))) := (mw_at mj_167_19).trans (z_putr (by decide) (by decide) rfl)
theorem s_167_19n {x0 x1 x2 : Option Value} {o : Nat} : mw d 167 Q 19 [x0, x1, x2] (.null :: .ref o :: st) h = (mg h o 10 ∧ mw d 167 Q 22 [x0, x1, x2] (st) (mh_sr h o 1 none)) := (mw_at mj_167_19).trans (z_putn (by decide) (by decide) rfl)
theorem mj_167_22 : mc_P 167 22 = some (.aload_n 0, 1, 0, 0, 0) := by decide +kernel
theorem s_167_22 {x1 x2 : Option Value} {w : Value} : mw d 167 Q 22 [some w, x1, x2] (st) h = mv_a w (mw d 167 Q 23 [some w, x1, x2] (w :: st) h) := (mw_at mj_167_22).trans (z_aload_n rfl)
theorem mj_167_23 : mc_P 167 23 = some (.iload_n 2, 1, 0, 0, 0) := by decide +kernel
theorem s_167_23 {x0 x1 : Option Value} {w : Value} : mw d 167 Q 23 [x0, x1, some w] (st) h = mv_i w (mw d 167 Q 24 [x0, x1, some w] (w :: st) h) := (mw_at mj_167_23).trans (z_iload_n rfl)
theorem mj_167_24 : mc_P 167 24 = some (.iconst 1, 1, 0, 0, 0) := by decide +kernel
theorem s_167_24 {x0 x1 x2 : Option Value} : mw d 167 Q 24 [x0, x1, x2] (st) h = mw d 167 Q 25 [x0, x1, x2] (.int 1 :: st) h := (mw_at mj_167_24).trans (z_iconst (by decide))
theorem mj_167_25 : mc_P 167 25 = some (.iadd, 1, 0, 0, 0) := by decide +kernel
theorem s_167_25 {x0 x1 x2 : Option Value} {x w : Int32} : mw d 167 Q 25 [x0, x1, x2] (.int w :: .int x :: st) h = mw d 167 Q 26 [x0, x1, x2] (.int (x + w) :: st) h := (mw_at mj_167_25).trans (z_iadd)
theorem mj_167_26 : mc_P 167 26 = some (.newarray .int, 2, 100, 0, 0) := by decide +kernel
theorem s_167_26 {x0 x1 x2 : Option Value} {i : Int32} : mw d 167 Q 26 [x0, x1, x2] (.int i :: st) h = (mN i ∧ mw d 167 Q 28 [x0, x1, x2] (.ref (mh_n h) :: st) (mh_new h 100 i.toNatClampNeg)) := (mw_at mj_167_26).trans (z_newa (by decide) (by decide))
theorem mj_167_28 : mc_P 167 28 = some (.putfield 25, 3, 10, 2, 0) := by decide +kernel
theorem s_167_28 {x0 x1 x2 : Option Value} {o w : Nat} : mw d 167 Q 28 [x0, x1, x2] (.ref w :: .ref o :: st) h = (mg h o 10 ∧ mw d 167 Q 31 [x0, x1, x2] (st) (mh_sr h o 2 (some w))) := (mw_at mj_167_28).trans (z_putr (by decide) (by decide) rfl)
theorem s_167_28n {x0 x1 x2 : Option Value} {o : Nat} : mw d 167 Q 28 [x0, x1, x2] (.null :: .ref o :: st) h = (mg h o 10 ∧ mw d 167 Q 31 [x0, x1, x2] (st) (mh_sr h o 2 none)) := (mw_at mj_167_28).trans (z_putn (by decide) (by decide) rfl)
theorem mj_167_31 : mc_P 167 31 = some (.aload_n 0, 1, 0, 0, 0) := by decide +kernel
theorem s_167_31 {x1 x2 : Option Value} {w : Value} : mw d 167 Q 31 [some w, x1, x2] (st) h = mv_a w (mw d 167 Q 32 [some w, x1, x2] (w :: st) h) := (mw_at mj_167_31).trans (z_aload_n rfl)
theorem mj_167_32 : mc_P 167 32 = some (.iload_n 2, 1, 0, 0, 0) := by decide +kernel
theorem s_167_32 {x0 x1 : Option Value} {w : Value} : mw d 167 Q 32 [x0, x1, some w] (st) h = mv_i w (mw d 167 Q 33 [x0, x1, some w] (w :: st) h) := (mw_at mj_167_32).trans (z_iload_n rfl)
theorem mj_167_33 : mc_P 167 33 = some (.iconst 1, 1, 0, 0, 0) := by decide +kernel
theorem s_167_33 {x0 x1 x2 : Option Value} : mw d 167 Q 33 [x0, x1, x2] (st) h = mw d 167 Q 34 [x0, x1, x2] (.int 1 :: st) h := (mw_at mj_167_33).trans (z_iconst (by decide))
theorem mj_167_34 : mc_P 167 34 = some (.iadd, 1, 0, 0, 0) := by decide +kernel
theorem s_167_34 {x0 x1 x2 : Option Value} {x w : Int32} : mw d 167 Q 34 [x0, x1, x2] (.int w :: .int x :: st) h = mw d 167 Q 35 [x0, x1, x2] (.int (x + w) :: st) h := (mw_at mj_167_34).trans (z_iadd)
theorem mj_167_35 : mc_P 167 35 = some (.newarray .int, 2, 100, 0, 0) := by decide +kernel
theorem s_167_35 {x0 x1 x2 : Option Value} {i : Int32} : mw d 167 Q 35 [x0, x1, x2] (.int i :: st) h = (mN i ∧ mw d 167 Q 37 [x0, x1, x2] (.ref (mh_n h) :: st) (mh_new h 100 i.toNatClampNeg)) := (mw_at mj_167_35).trans (z_newa (by decide) (by decide))
theorem mj_167_37 : mc_P 167 37 = some (.putfield 28, 3, 10, 3, 0) := by decide +kernel
theorem s_167_37 {x0 x1 x2 : Option Value} {o w : Nat} : mw d 167 Q 37 [x0, x1, x2] (.ref w :: .ref o :: st) h = (mg h o 10 ∧ mw d 167 Q 40 [x0, x1, x2] (st) (mh_sr h o 3 (some w))) := (mw_at mj_167_37).trans (z_putr (by decide) (by decide) rfl)
theorem s_167_37n {x0 x1 x2 : Option Value} {o : Nat} : mw d 167 Q 37 [x0, x1, x2] (.null :: .ref o :: st) h = (mg h o 10 ∧ mw d 167 Q 40 [x0, x1, x2] (st) (mh_sr h o 3 none)) := (mw_at mj_167_37).trans (z_putn (by decide) (by decide) rfl)
theorem mj_167_40 : mc_P 167 40 = some (.return_, 1, 0, 0, 0) := by decide +kernel
theorem s_167_40 {x0 x1 x2 : Option Value} : mw d 167 Q 40 [x0, x1, x2] ([]) h = Q none h := (mw_at mj_167_40).trans (z_vret)
theorem e_167 {a0 : Nat} {a1 : Nat} {a2 : Int32} : mcall d 167 [.ref a0, .ref a1, .int a2] h Q = mw d 167 Q 0 [some (.ref a0), some (.ref a1), some (.int a2)] [] h := by
  show mw d 167 Q 0 (me_en (mc_nl 167) _) [] h = _
  rw [nl_167]; rfl

end SR
