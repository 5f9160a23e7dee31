/-! rules of methods, by program (wip/whole/srule.py) -/
section SR
variable {d : Nat} {Q : Option Value → mh_H → Prop} {st : List Value} {h : mh_H}
/-! InvariantDesk$Program.lay(LInvariantDesk$Tokens;LInvariantDesk$Source;)Z -/
theorem mj_85_0 : mc_P 85 0 = some (.aload_n 0, 1, 0, 0, 0) := by decide +kernel
theorem s_85_0 {x1 x2 x3 x4 x5 x6 : Option Value} {w : Value} : mw d 85 Q 0 [some w, x1, x2, x3, x4, x5, x6] (st) h = mv_a w (mw d 85 Q 1 [some w, x1, x2, x3, x4, x5, x6] (w :: st) h) := (mw_at mj_85_0).trans (z_aload_n rfl)
theorem mj_85_1 : mc_P 85 1 = some (.aload_n 1, 1, 0, 0, 0) := by decide +kernel
theorem s_85_1 {x0 x2 x3 x4 x5 x6 : Option Value} {w : Value} : mw d 85 Q 1 [x0, some w, x2, x3, x4, x5, x6] (st) h = mv_a w (mw d 85 Q 2 [x0, some w, x2, x3, x4, x5, x6] (w :: st) h) := (mw_at mj_85_1).trans (z_aload_n rfl)
theorem mj_85_2 : mc_P 85 2 = some (.putfield 14, 3, 4, 0, 0) := by decide +kernel
theorem s_85_2 {x0 x1 x2 x3 x4 x5 x6 : Option Value} {o w : Nat} : mw d 85 Q 2 [x0, x1, x2, x3, x4, x5, x6] (.ref w :: .ref o :: st) h = (mg h o 4 ∧ mw d 85 Q 5 [x0, x1, x2, x3, x4, x5, x6] (st) (mh_sr h o 0 (some w))) := (mw_at mj_85_2).trans (z_putr (by decide) (by decide) rfl)
theorem s_85_2n {x0 x1 x2 x3 x4 x5 x6 : Option Value} {o : Nat} : mw d 85 Q 2 [x0, x1, x2, x3, x4, x5, x6] (.null :: .ref o :: st) h = (mg h o 4 ∧ mw d 85 Q 5 [x0, x1, x2, x3, x4, x5, x6] (st) (mh_sr h o 0 none)) := (mw_at mj_85_2).trans (z_putn (by decide) (by decide) rfl)
theorem mj_85_5 : mc_P 85 5 = some (.aload_n 0, 1, 0, 0, 0) := by decide +kernel
theorem s_85_5 {x1 x2 x3 x4 x5 x6 : Option Value} {w : Value} : mw d 85 Q 5 [some w, x1, x2, x3, x4, x5, x6] (st) h = mv_a w (mw d 85 Q 6 [some w, x1, x2, x3, x4, x5, x6] (w :: st) h) := (mw_at mj_85_5).trans (z_aload_n rfl)
theorem mj_85_6 : mc_P 85 6 = some (.aload_n 2, 1, 0, 0, 0) := by decide +kernel
theorem s_85_6 {x0 x1 x3 x4 x5 x6 : Option Value} {w : Value} : mw d 85 Q 6 [x0, x1, some w, x3, x4, x5, x6] (st) h = mv_a w (mw d 85 Q 7 [x0, x1, some w, x3, x4, x5, x6] (w :: st) h) := (mw_at mj_85_6).trans (z_aload_n rfl)
theorem mj_85_7 : mc_P 85 7 = some (.putfield 25, 3, 4, 1, 0) := by decide +kernel
theorem s_85_7 {x0 x1 x2 x3 x4 x5 x6 : Option Value} {o w : Nat} : mw d 85 Q 7 [x0, x1, x2, x3, x4, x5, x6] (.ref w :: .ref o :: st) h = (mg h o 4 ∧ mw d 85 Q 10 [x0, x1, x2, x3, x4, x5, x6] (st) (mh_sr h o 1 (some w))) := (mw_at mj_85_7).trans (z_putr (by decide) (by decide) rfl)
theorem s_85_7n {x0 x1 x2 x3 x4 x5 x6 : Option Value} {o : Nat} : mw d 85 Q 7 [x0, x1, x2, x3, x4, x5, x6] (.null :: .ref o :: st) h = (mg h o 4 ∧ mw d 85 Q 10 [x0, x1, x2, x3, x4, x5, x6] (st) (mh_sr h o 1 none)) := (mw_at mj_85_7).trans (z_putn (by decide) (by decide) rfl)
theorem mj_85_10 : mc_P 85 10 = some (.aload_n 0, 1, 0, 0, 0) := by decide +kernel
theorem s_85_10 {x1 x2 x3 x4 x5 x6 : Option Value} {w : Value} : mw d 85 Q 10 [some w, x1, x2, x3, x4, x5, x6] (st) h = mv_a w (mw d 85 Q 11 [some w, x1, x2, x3, x4, x5, x6] (w :: st) h) := (mw_at mj_85_10).trans (z_aload_n rfl)
theorem mj_85_11 : mc_P 85 11 = some (.iconst 0, 1, 0, 0, 0) := by decide +kernel
theorem s_85_11 {x0 x1 x2 x3 x4 x5 x6 : Option Value} : mw d 85 Q 11 [x0, x1, x2, x3, x4, x5, x6] (st) h = mw d 85 Q 12 [x0, x1, x2, x3, x4, x5, x6] (.int 0 :: st) h := (mw_at mj_85_11).trans (z_iconst (by decide))
theorem mj_85_12 : mc_P 85 12 = some (.putfield 79, 3, 4, 2, 0) := by decide +kernel
theorem s_85_12 {x0 x1 x2 x3 x4 x5 x6 : Option Value} {o : Nat} {w : Int32} : mw d 85 Q 12 [x0, x1, x2, x3, x4, x5, x6] (.int w :: .ref o :: st) h = (mg h o 4 ∧ mw d 85 Q 15 [x0, x1, x2, x3, x4, x5, x6] (st) (mh_si h o 2 w)) := (mw_at mj_85_12).trans (z_puti (by decide) (by decide) rfl)
theorem mj_85_15 : mc_P 85 15 = some (.aload_n 0, 1, 0, 0, 0) := by decide +kernel
theorem s_85_15 {x1 x2 x3 x4 x5 x6 : Option Value} {w : Value} : mw d 85 Q 15 [some w, x1, x2, x3, x4, x5, x6] (st) h = mv_a w (mw d 85 Q 16 [some w, x1, x2, x3, x4, x5, x6] (w :: st) h) := (mw_at mj_85_15).trans (z_aload_n rfl)
theorem mj_85_16 : mc_P 85 16 = some (.iconst 0, 1, 0, 0, 0) := by decide +kernel
theorem s_85_16 {x0 x1 x2 x3 x4 x5 x6 : Option Value} : mw d 85 Q 16 [x0, x1, x2, x3, x4, x5, x6] (st) h = mw d 85 Q 17 [x0, x1, x2, x3, x4, x5, x6] (.int 0 :: st) h := (mw_at mj_85_16).trans (z_iconst (by decide))
theorem mj_85_17 : mc_P 85 17 = some (.putfield 92, 3, 4, 16, 0) := by decide +kernel
theorem s_85_17 {x0 x1 x2 x3 x4 x5 x6 : Option Value} {o : Nat} {w : Int32} : mw d 85 Q 17 [x0, x1, x2, x3, x4, x5, x6] (.int w :: .ref o :: st) h = (mg h o 4 ∧ mw d 85 Q 20 [x0, x1, x2, x3, x4, x5, x6] (st) (mh_si h o 16 w)) := (mw_at mj_85_17).trans (z_puti (by decide) (by decide) rfl)
theorem mj_85_20 : mc_P 85 20 = some (.aload_n 0, 1, 0, 0, 0) := by decide +kernel
theorem s_85_20 {x1 x2 x3 x4 x5 x6 : Option Value} {w : Value} : mw d 85 Q 20 [some w, x1, x2, x3, x4, x5, x6] (st) h = mv_a w (mw d 85 Q 21 [some w, x1, x2, x3, x4, x5, x6] (w :: st) h) := (mw_at mj_85_20).trans (z_aload_n rfl)
theorem mj_85_21 : mc_P 85 21 = some (.iconst (-1), 1, 0, 0, 0) := by decide +kernel
theorem s_85_21 {x0 x1 x2 x3 x4 x5 x6 : Option Value} : mw d 85 Q 21 [x0, x1, x2, x3, x4, x5, x6] (st) h = mw d 85 Q 22 [x0, x1, x2, x3, x4, x5, x6] (.int (-1) :: st) h := (mw_at mj_85_21).trans (z_iconst (by decide))
theorem mj_85_22 : mc_P 85 22 = some (.putfield 95, 3, 4, 17, 0) := by decide +kernel
theorem s_85_22 {x0 x1 x2 x3 x4 x5 x6 : Option Value} {o : Nat} {w : Int32} : mw d 85 Q 22 [x0, x1, x2, x3, x4, x5, x6] (.int w :: .ref o :: st) h = (mg h o 4 ∧ mw d 85 Q 25 [x0, x1, x2, x3, x4, x5, x6] (st) (mh_si h o 17 w)) := (mw_at mj_85_22).trans (z_puti (by decide) (by decide) rfl)
theorem mj_85_25 : mc_P 85 25 = some (.aload_n 0, 1, 0, 0, 0) := by decide +kernel
theorem s_85_25 {x1 x2 x3 x4 x5 x6 : Option Value} {w : Value} : mw d 85 Q 25 [some w, x1, x2, x3, x4, x5, x6] (st) h = mv_a w (mw d 85 Q 26 [some w, x1, x2, x3, x4, x5, x6] (w :: st) h) := (mw_at mj_85_25).trans (z_aload_n rfl)
theorem mj_85_26 : mc_P 85 26 = some (.iconst 0, 1, 0, 0, 0) := by decide +kernel
theorem s_85_26 {x0 x1 x2 x3 x4 x5 x6 : Option Value} : mw d 85 Q 26 [x0, x1, x2, x3, x4, x5, x6] (st) h = mw d 85 Q 27 [x0, x1, x2, x3, x4, x5, x6] (.int 0 :: st) h := (mw_at mj_85_26).trans (z_iconst (by decide))
theorem mj_85_27 : mc_P 85 27 = some (.putfield 98, 3, 4, 18, 0) := by decide +kernel
theorem s_85_27 {x0 x1 x2 x3 x4 x5 x6 : Option Value} {o : Nat} {w : Int32} : mw d 85 Q 27 [x0, x1, x2, x3, x4, x5, x6] (.int w :: .ref o :: st) h = (mg h o 4 ∧ mw d 85 Q 30 [x0, x1, x2, x3, x4, x5, x6] (st) (mh_si h o 18 w)) := (mw_at mj_85_27).trans (z_puti (by decide) (by decide) rfl)
theorem mj_85_30 : mc_P 85 30 = some (.aload_n 0, 1, 0, 0, 0) := by decide +kernel
theorem s_85_30 {x1 x2 x3 x4 x5 x6 : Option Value} {w : Value} : mw d 85 Q 30 [some w, x1, x2, x3, x4, x5, x6] (st) h = mv_a w (mw d 85 Q 31 [some w, x1, x2, x3, x4, x5, x6] (w :: st) h) := (mw_at mj_85_30).trans (z_aload_n rfl)
theorem mj_85_31 : mc_P 85 31 = some (.getfield 25, 3, 4, 1, 0) := by decide +kernel
theorem s_85_31 {x0 x1 x2 x3 x4 x5 x6 : Option Value} {o : Nat} : mw d 85 Q 31 [x0, x1, x2, x3, x4, x5, x6] (.ref o :: st) h = (mg h o 4 ∧ mw d 85 Q 34 [x0, x1, x2, x3, x4, x5, x6] (va_rf (mh_r h o 1) :: st) h) := (mw_at mj_85_31).trans (z_getr (by decide) (by decide) rfl)
theorem mj_85_34 : mc_P 85 34 = some (.getfield 101, 3, 7, 15, 0) := by decide +kernel
theorem s_85_34 {x0 x1 x2 x3 x4 x5 x6 : Option Value} {o : Nat} : mw d 85 Q 34 [x0, x1, x2, x3, x4, x5, x6] (.ref o :: st) h = (mg h o 7 ∧ mw d 85 Q 37 [x0, x1, x2, x3, x4, x5, x6] (.int (mh_i h o 15) :: st) h) := (mw_at mj_85_34).trans (z_geti (by decide) (by decide) (Or.inl rfl))
theorem mj_85_37 : mc_P 85 37 = some (.iconst 1, 1, 0, 0, 0) := by decide +kernel
theorem s_85_37 {x0 x1 x2 x3 x4 x5 x6 : Option Value} : mw d 85 Q 37 [x0, x1, x2, x3, x4, x5, x6] (st) h = mw d 85 Q 38 [x0, x1, x2, x3, x4, x5, x6] (.int 1 :: st) h := (mw_at mj_85_37).trans (z_iconst (by decide))
theorem mj_85_38 : mc_P 85 38 = some (.isub, 1, 0, 0, 0) := by decide +kernel
theorem s_85_38 {x0 x1 x2 x3 x4 x5 x6 : Option Value} {x w : Int32} : mw d 85 Q 38 [x0, x1, x2, x3, x4, x5, x6] (.int w :: .int x :: st) h = mw d 85 Q 39 [x0, x1, x2, x3, x4, x5, x6] (.int (x - w) :: st) h := (mw_at mj_85_38).trans (z_isub)
theorem mj_85_39 : mc_P 85 39 = some (.istore_n 3, 1, 0, 0, 0) := by decide +kernel
theorem s_85_39 {x0 x1 x2 x3 x4 x5 x6 : Option Value} {w : Int32} : mw d 85 Q 39 [x0, x1, x2, x3, x4, x5, x6] (.int w :: st) h = mw d 85 Q 40 [x0, x1, mk2 x2, some (.int w), x4, x5, x6] (st) h := (mw_at mj_85_39).trans (z_istore_n (Nat.le_of_ble_eq_true rfl) (me_s1_mk (j := 2) (w := x2) rfl))
theorem mj_85_40 : mc_P 85 40 = some (.aload_n 0, 1, 0, 0, 0) := by decide +kernel
theorem s_85_40 {x1 x2 x3 x4 x5 x6 : Option Value} {w : Value} : mw d 85 Q 40 [some w, x1, x2, x3, x4, x5, x6] (st) h = mv_a w (mw d 85 Q 41 [some w, x1, x2, x3, x4, x5, x6] (w :: st) h) := (mw_at mj_85_40).trans (z_aload_n rfl)
theorem mj_85_41 : mc_P 85 41 = some (.getfield 25, 3, 4, 1, 0) := by decide +kernel
theorem s_85_41 {x0 x1 x2 x3 x4 x5 x6 : Option Value} {o : Nat} : mw d 85 Q 41 [x0, x1, x2, x3, x4, x5, x6] (.ref o :: st) h = (mg h o 4 ∧ mw d 85 Q 44 [x0, x1, x2, x3, x4, x5, x6] (va_rf (mh_r h o 1) :: st) h) := (mw_at mj_85_41).trans (z_getr (by decide) (by decide) rfl)
theorem mj_85_44 : mc_P 85 44 = some (.iload_n 3, 1, 0, 0, 0) := by decide +kernel
theorem s_85_44 {x0 x1 x2 x4 x5 x6 : Option Value} {w : Value} : mw d 85 Q 44 [x0, x1, x2, some w, x4, x5, x6] (st) h = mv_i w (mw d 85 Q 45 [x0, x1, x2, some w, x4, x5, x6] (w :: st) h) := (mw_at mj_85_44).trans (z_iload_n rfl)
theorem mj_85_45 : mc_P 85 45 = some (.iconst 1, 1, 0, 0, 0) := by decide +kernel
theorem s_85_45 {x0 x1 x2 x3 x4 x5 x6 : Option Value} : mw d 85 Q 45 [x0, x1, x2, x3, x4, x5, x6] (st) h = mw d 85 Q 46 [x0, x1, x2, x3, x4, x5, x6] (.int 1 :: st) h := (mw_at mj_85_45).trans (z_iconst (by decide))
theorem mj_85_46 : mc_P 85 46 = some (.invokevirtual 104, 3, 137, 7, 3) := by decide +kernel
theorem s_85_46 {x0 x1 x2 x3 x4 x5 x6 : Option Value} {o : Nat} {a1 a2 : Value} : mw (d + 1) 85 Q 46 [x0, x1, x2, x3, x4, x5, x6] (a2 :: a1 :: .ref o :: st) h = (mg h o 7 ∧ mca st 8 ∧ mca [.ref o, a1, a2] 3 ∧ mcall d 137 [.ref o, a1, a2] h (mK (d + 1) 85 Q 49 [x0, x1, x2, x3, x4, x5, x6] st)) := (mw_at mj_85_46).trans ((z_invv (As := [a1, a2]) (by decide) rfl rfl).trans (congrArg (And _) (congrArg (And _) (mC_nl nl_137))))
theorem mj_85_49 : mc_P 85 49 = some (.ifCond .le 26, 3, 0, 0, 0) := by decide +kernel
theorem s_85_49 {x0 x1 x2 x3 x4 x5 x6 : Option Value} {x : Int32} : mw d 85 Q 49 [x0, x1, x2, x3, x4, x5, x6] (.int x :: st) h = mB (x ≤ 0) (mw d 85 Q) 75 52 [x0, x1, x2, x3, x4, x5, x6] st h := (mw_at mj_85_49).trans (z_if_le (by decide) rfl)
theorem mj_85_52 : mc_P 85 52 = some (.aload_n 0, 1, 0, 0, 0) := by decide +kernel
theorem s_85_52 {x1 x2 x3 x4 x5 x6 : Option Value} {w : Value} : mw d 85 Q 52 [some w, x1, x2, x3, x4, x5, x6] (st) h = mv_a w (mw d 85 Q 53 [some w, x1, x2, x3, x4, x5, x6] (w :: st) h) := (mw_at mj_85_52).trans (z_aload_n rfl)
theorem mj_85_53 : mc_P 85 53 = some (.bipush 7, 2, 0, 0, 0) := by decide +kernel
theorem s_85_53 {x0 x1 x2 x3 x4 x5 x6 : Option Value} : mw d 85 Q 53 [x0, x1, x2, x3, x4, x5, x6] (st) h = mw d 85 Q 55 [x0, x1, x2, x3, x4, x5, x6] (.int 7 :: st) h := (mw_at mj_85_53).trans (z_bipush (by decide))
theorem mj_85_55 : mc_P 85 55 = some (.aload_n 0, 1, 0, 0, 0) := by decide +kernel
theorem s_85_55 {x1 x2 x3 x4 x5 x6 : Option Value} {w : Value} : mw d 85 Q 55 [some w, x1, x2, x3, x4, x5, x6] (st) h = mv_a w (mw d 85 Q 56 [some w, x1, x2, x3, x4, x5, x6] (w :: st) h) := (mw_at mj_85_55).trans (z_aload_n rfl)
theorem mj_85_56 : mc_P 85 56 = some (.getfield 14, 3, 4, 0, 0) := by decide +kernel
theorem s_85_56 {x0 x1 x2 x3 x4 x5 x6 : Option Value} {o : Nat} : mw d 85 Q 56 [x0, x1, x2, x3, x4, x5, x6] (.ref o :: st) h = (mg h o 4 ∧ mw d 85 Q 59 [x0, x1, x2, x3, x4, x5, x6] (va_rf (mh_r h o 0) :: st) h) := (mw_at mj_85_56).trans (z_getr (by decide) (by decide) rfl)
theorem mj_85_59 : mc_P 85 59 = some (.getfield 108, 3, 10, 2, 0) := by decide +kernel
theorem s_85_59 {x0 x1 x2 x3 x4 x5 x6 : Option Value} {o : Nat} : mw d 85 Q 59 [x0, x1, x2, x3, x4, x5, x6] (.ref o :: st) h = (mg h o 10 ∧ mw d 85 Q 62 [x0, x1, x2, x3, x4, x5, x6] (va_rf (mh_r h o 2) :: st) h) := (mw_at mj_85_59).trans (z_getr (by decide) (by decide) rfl)
theorem mj_85_62 : mc_P 85 62 = some (.aload_n 0, 1, 0, 0, 0) := by decide +kernel
theorem s_85_62 {x1 x2 x3 x4 x5 x6 : Option Value} {w : Value} : mw d 85 Q 62 [some w, x1, x2, x3, x4, x5, x6] (st) h = mv_a w (mw d 85 Q 63 [some w, x1, x2, x3, x4, x5, x6] (w :: st) h) := (mw_at mj_85_62).trans (z_aload_n rfl)
theorem mj_85_63 : mc_P 85 63 = some (.getfield 25, 3, 4, 1, 0) := by decide +kernel
theorem s_85_63 {x0 x1 x2 x3 x4 x5 x6 : Option Value} {o : Nat} : mw d 85 Q 63 [x0, x1, x2, x3, x4, x5, x6] (.ref o :: st) h = (mg h o 4 ∧ mw d 85 Q 66 [x0, x1, x2, x3, x4, x5, x6] (va_rf (mh_r h o 1) :: st) h) := (mw_at mj_85_63).trans (z_getr (by decide) (by decide) rfl)
theorem mj_85_66 : mc_P 85 66 = some (.iload_n 3, 1, 0, 0, 0) := by decide +kernel
theorem s_85_66 {x0 x1 x2 x4 x5 x6 : Option Value} {w : Value} : mw d 85 Q 66 [x0, x1, x2, some w, x4, x5, x6] (st) h = mv_i w (mw d 85 Q 67 [x0, x1, x2, some w, x4, x5, x6] (w :: st) h) := (mw_at mj_85_66).trans (z_iload_n rfl)
theorem mj_85_67 : mc_P 85 67 = some (.iconst 0, 1, 0, 0, 0) := by decide +kernel
theorem s_85_67 {x0 x1 x2 x3 x4 x5 x6 : Option Value} : mw d 85 Q 67 [x0, x1, x2, x3, x4, x5, x6] (st) h = mw d 85 Q 68 [x0, x1, x2, x3, x4, x5, x6] (.int 0 :: st) h := (mw_at mj_85_67).trans (z_iconst (by decide))
theorem mj_85_68 : mc_P 85 68 = some (.invokevirtual 104, 3, 137, 7, 3) := by decide +kernel
theorem s_85_68 {x0 x1 x2 x3 x4 x5 x6 : Option Value} {o : Nat} {a1 a2 : Value} : mw (d + 1) 85 Q 68 [x0, x1, x2, x3, x4, x5, x6] (a2 :: a1 :: .ref o :: st) h = (mg h o 7 ∧ mca st 8 ∧ mca [.ref o, a1, a2] 3 ∧ mcall d 137 [.ref o, a1, a2] h (mK (d + 1) 85 Q 71 [x0, x1, x2, x3, x4, x5, x6] st)) := (mw_at mj_85_68).trans ((z_invv (As := [a1, a2]) (by decide) rfl rfl).trans (congrArg (And _) (congrArg (And _) (mC_nl nl_137))))
theorem mj_85_71 : mc_P 85 71 = some (.iaload, 1, 0, 0, 0) := by decide +kernel
theorem s_85_71 {x0 x1 x2 x3 x4 x5 x6 : Option Value} {o : Nat} {i : Int32} : mw d 85 Q 71 [x0, x1, x2, x3, x4, x5, x6] (.int i :: .ref o :: st) h = (mg h o 100 ∧ mx i (mh_l h o) ∧ mw d 85 Q 72 [x0, x1, x2, x3, x4, x5, x6] (.int (mh_i h o i.toNatClampNeg) :: st) h) := (mw_at mj_85_71).trans (z_iald)
theorem s_85_71x {x0 x1 x2 x3 x4 x5 x6 : Option Value} {i : Int32} : mw d 85 Q 71 [x0, x1, x2, x3, x4, x5, x6] (.int i :: .retAddr 2 :: st) h = (mx i 24 ∧ mw d 85 Q 72 [x0, x1, x2, x3, x4, x5, x6] (.int (mx_row.getD i.toNatClampNeg 0) :: st) h) := (mw_at mj_85_71).trans (z_iaX)
theorem mj_85_72 : mc_P 85 72 = some (.invokevirtual 111, 3, 86, 4, 3) := by decide +kernel
theorem s_85_72 {x0 x1 x2 x3 x4 x5 x6 : Option Value} {o : Nat} {a1 a2 : Value} : mw (d + 1) 85 Q 72 [x0, x1, x2, x3, x4, x5, x6] (a2 :: a1 :: .ref o :: st) h = (mg h o 4 ∧ mca st 8 ∧ mca [.ref o, a1, a2] 3 ∧ mcall d 86 [.ref o, a1, a2] h (mK (d + 1) 85 Q 75 [x0, x1, x2, x3, x4, x5, x6] st)) := (mw_at mj_85_72).trans ((z_invv (As := [a1, a2]) (by decide) rfl rfl).trans (congrArg (And _) (congrArg (And _) (mC_nl nl_86))))
theorem mj_85_75 : mc_P 85 75 = some (.aload_n 0, 1, 0, 0, 0) := by decide +kernel
theorem s_85_75 {x1 x2 x3 x4 x5 x6 : Option Value} {w : Value} : mw d 85 Q 75 [some w, x1, x2, x3, x4, x5, x6] (st) h = mv_a w (mw d 85 Q 76 [some w, x1, x2, x3, x4, x5, x6] (w :: st) h) := (mw_at mj_85_75).trans (z_aload_n rfl)
theorem mj_85_76 : mc_P 85 76 = some (.getfield 25, 3, 4, 1, 0) := by decide +kernel
theorem s_85_76 {x0 x1 x2 x3 x4 x5 x6 : Option Value} {o : Nat} : mw d 85 Q 76 [x0, x1, x2, x3, x4, x5, x6] (.ref o :: st) h = (mg h o 4 ∧ mw d 85 Q 79 [x0, x1, x2, x3, x4, x5, x6] (va_rf (mh_r h o 1) :: st) h) := (mw_at mj_85_76).trans (z_getr (by decide) (by decide) rfl)
theorem mj_85_79 : mc_P 85 79 = some (.iload_n 3, 1, 0, 0, 0) := by decide +kernel
theorem s_85_79 {x0 x1 x2 x4 x5 x6 : Option Value} {w : Value} : mw d 85 Q 79 [x0, x1, x2, some w, x4, x5, x6] (st) h = mv_i w (mw d 85 Q 80 [x0, x1, x2, some w, x4, x5, x6] (w :: st) h) := (mw_at mj_85_79).trans (z_iload_n rfl)
theorem mj_85_80 : mc_P 85 80 = some (.iconst 3, 1, 0, 0, 0) := by decide +kernel
theorem s_85_80 {x0 x1 x2 x3 x4 x5 x6 : Option Value} : mw d 85 Q 80 [x0, x1, x2, x3, x4, x5, x6] (st) h = mw d 85 Q 81 [x0, x1, x2, x3, x4, x5, x6] (.int 3 :: st) h := (mw_at mj_85_80).trans (z_iconst (by decide))
theorem mj_85_81 : mc_P 85 81 = some (.invokevirtual 104, 3, 137, 7, 3) := by decide +kernel
theorem s_85_81 {x0 x1 x2 x3 x4 x5 x6 : Option Value} {o : Nat} {a1 a2 : Value} : mw (d + 1) 85 Q 81 [x0, x1, x2, x3, x4, x5, x6] (a2 :: a1 :: .ref o :: st) h = (mg h o 7 ∧ mca st 8 ∧ mca [.ref o, a1, a2] 3 ∧ mcall d 137 [.ref o, a1, a2] h (mK (d + 1) 85 Q 84 [x0, x1, x2, x3, x4, x5, x6] st)) := (mw_at mj_85_81).trans ((z_invv (As := [a1, a2]) (by decide) rfl rfl).trans (congrArg (And _) (congrArg (And _) (mC_nl nl_137))))
theorem mj_85_84 : mc_P 85 84 = some (.istore 4, 2, 0, 0, 0) := by decide +kernel
theorem s_85_84 {x0 x1 x2 x3 x4 x5 x6 : Option Value} {w : Int32} : mw d 85 Q 84 [x0, x1, x2, x3, x4, x5, x6] (.int w :: st) h = mw d 85 Q 86 [x0, x1, x2, mk2 x3, some (.int w), x5, x6] (st) h := (mw_at mj_85_84).trans (z_istore (Nat.le_of_ble_eq_true rfl) (me_s1_mk (j := 3) (w := x3) rfl))
theorem mj_85_86 : mc_P 85 86 = some (.iconst 0, 1, 0, 0, 0) := by decide +kernel
theorem s_85_86 {x0 x1 x2 x3 x4 x5 x6 : Option Value} : mw d 85 Q 86 [x0, x1, x2, x3, x4, x5, x6] (st) h = mw d 85 Q 87 [x0, x1, x2, x3, x4, x5, x6] (.int 0 :: st) h := (mw_at mj_85_86).trans (z_iconst (by decide))
theorem mj_85_87 : mc_P 85 87 = some (.istore 5, 2, 0, 0, 0) := by decide +kernel
theorem s_85_87 {x0 x1 x2 x3 x4 x5 x6 : Option Value} {w : Int32} : mw d 85 Q 87 [x0, x1, x2, x3, x4, x5, x6] (.int w :: st) h = mw d 85 Q 89 [x0, x1, x2, x3, mk2 x4, some (.int w), x6] (st) h := (mw_at mj_85_87).trans (z_istore (Nat.le_of_ble_eq_true rfl) (me_s1_mk (j := 4) (w := x4) rfl))
theorem mj_85_89 : mc_P 85 89 = some (.iload 5, 2, 0, 0, 0) := by decide +kernel
theorem s_85_89 {x0 x1 x2 x3 x4 x6 : Option Value} {w : Value} : mw d 85 Q 89 [x0, x1, x2, x3, x4, some w, x6] (st) h = mv_i w (mw d 85 Q 91 [x0, x1, x2, x3, x4, some w, x6] (w :: st) h) := (mw_at mj_85_89).trans (z_iload rfl)
theorem mj_85_91 : mc_P 85 91 = some (.ldc 115, 2, 0, 0, 1000000) := by decide +kernel
theorem s_85_91 {x0 x1 x2 x3 x4 x5 x6 : Option Value} : mw d 85 Q 91 [x0, x1, x2, x3, x4, x5, x6] (st) h = mw d 85 Q 93 [x0, x1, x2, x3, x4, x5, x6] (.int 1000000 :: st) h := (mw_at mj_85_91).trans (z_ldc (by decide))
theorem mj_85_93 : mc_P 85 93 = some (.if_icmp .ge 106, 3, 0, 0, 0) := by decide +kernel
theorem s_85_93 {x0 x1 x2 x3 x4 x5 x6 : Option Value} {x w : Int32} : mw d 85 Q 93 [x0, x1, x2, x3, x4, x5, x6] (.int w :: .int x :: st) h = mB (w ≤ x) (mw d 85 Q) 199 96 [x0, x1, x2, x3, x4, x5, x6] st h := (mw_at mj_85_93).trans (z_icmp_ge (by decide) rfl)
theorem mj_85_96 : mc_P 85 96 = some (.aload_n 0, 1, 0, 0, 0) := by decide +kernel
theorem s_85_96 {x1 x2 x3 x4 x5 x6 : Option Value} {w : Value} : mw d 85 Q 96 [some w, x1, x2, x3, x4, x5, x6] (st) h = mv_a w (mw d 85 Q 97 [some w, x1, x2, x3, x4, x5, x6] (w :: st) h) := (mw_at mj_85_96).trans (z_aload_n rfl)
theorem mj_85_97 : mc_P 85 97 = some (.getfield 98, 3, 4, 18, 0) := by decide +kernel
theorem s_85_97 {x0 x1 x2 x3 x4 x5 x6 : Option Value} {o : Nat} : mw d 85 Q 97 [x0, x1, x2, x3, x4, x5, x6] (.ref o :: st) h = (mg h o 4 ∧ mw d 85 Q 100 [x0, x1, x2, x3, x4, x5, x6] (.int (mh_i h o 18) :: st) h) := (mw_at mj_85_97).trans (z_geti (by decide) (by decide) (Or.inl rfl))
theorem mj_85_100 : mc_P 85 100 = some (.ifCond .ne 99, 3, 0, 0, 0) := by decide +kernel
theorem s_85_100 {x0 x1 x2 x3 x4 x5 x6 : Option Value} {x : Int32} : mw d 85 Q 100 [x0, x1, x2, x3, x4, x5, x6] (.int x :: st) h = mB (¬ x = 0) (mw d 85 Q) 199 103 [x0, x1, x2, x3, x4, x5, x6] st h := (mw_at mj_85_100).trans (z_if_ne (by decide) rfl)
theorem mj_85_103 : mc_P 85 103 = some (.aload_n 0, 1, 0, 0, 0) := by decide +kernel
theorem s_85_103 {x1 x2 x3 x4 x5 x6 : Option Value} {w : Value} : mw d 85 Q 103 [some w, x1, x2, x3, x4, x5, x6] (st) h = mv_a w (mw d 85 Q 104 [some w, x1, x2, x3, x4, x5, x6] (w :: st) h) := (mw_at mj_85_103).trans (z_aload_n rfl)
theorem mj_85_104 : mc_P 85 104 = some (.getfield 92, 3, 4, 16, 0) := by decide +kernel
theorem s_85_104 {x0 x1 x2 x3 x4 x5 x6 : Option Value} {o : Nat} : mw d 85 Q 104 [x0, x1, x2, x3, x4, x5, x6] (.ref o :: st) h = (mg h o 4 ∧ mw d 85 Q 107 [x0, x1, x2, x3, x4, x5, x6] (.int (mh_i h o 16) :: st) h) := (mw_at mj_85_104).trans (z_geti (by decide) (by decide) (Or.inl rfl))
theorem mj_85_107 : mc_P 85 107 = some (.ifCond .ne 15, 3, 0, 0, 0) := by decide +kernel
theorem s_85_107 {x0 x1 x2 x3 x4 x5 x6 : Option Value} {x : Int32} : mw d 85 Q 107 [x0, x1, x2, x3, x4, x5, x6] (.int x :: st) h = mB (¬ x = 0) (mw d 85 Q) 122 110 [x0, x1, x2, x3, x4, x5, x6] st h := (mw_at mj_85_107).trans (z_if_ne (by decide) rfl)
theorem mj_85_110 : mc_P 85 110 = some (.aload_n 0, 1, 0, 0, 0) := by decide +kernel
theorem s_85_110 {x1 x2 x3 x4 x5 x6 : Option Value} {w : Value} : mw d 85 Q 110 [some w, x1, x2, x3, x4, x5, x6] (st) h = mv_a w (mw d 85 Q 111 [some w, x1, x2, x3, x4, x5, x6] (w :: st) h) := (mw_at mj_85_110).trans (z_aload_n rfl)
theorem mj_85_111 : mc_P 85 111 = some (.getfield 25, 3, 4, 1, 0) := by decide +kernel
theorem s_85_111 {x0 x1 x2 x3 x4 x5 x6 : Option Value} {o : Nat} : mw d 85 Q 111 [x0, x1, x2, x3, x4, x5, x6] (.ref o :: st) h = (mg h o 4 ∧ mw d 85 Q 114 [x0, x1, x2, x3, x4, x5, x6] (va_rf (mh_r h o 1) :: st) h) := (mw_at mj_85_111).trans (z_getr (by decide) (by decide) rfl)
theorem mj_85_114 : mc_P 85 114 = some (.iload_n 3, 1, 0, 0, 0) := by decide +kernel
theorem s_85_114 {x0 x1 x2 x4 x5 x6 : Option Value} {w : Value} : mw d 85 Q 114 [x0, x1, x2, some w, x4, x5, x6] (st) h = mv_i w (mw d 85 Q 115 [x0, x1, x2, some w, x4, x5, x6] (w :: st) h) := (mw_at mj_85_114).trans (z_iload_n rfl)
theorem mj_85_115 : mc_P 85 115 = some (.iconst 4, 1, 0, 0, 0) := by decide +kernel
theorem s_85_115 {x0 x1 x2 x3 x4 x5 x6 : Option Value} : mw d 85 Q 115 [x0, x1, x2, x3, x4, x5, x6] (st) h = mw d 85 Q 116 [x0, x1, x2, x3, x4, x5, x6] (.int 4 :: st) h := (mw_at mj_85_115).trans (z_iconst (by decide))
theorem mj_85_116 : mc_P 85 116 = some (.invokevirtual 104, 3, 137, 7, 3) := by decide +kernel
theorem s_85_116 {x0 x1 x2 x3 x4 x5 x6 : Option Value} {o : Nat} {a1 a2 : Value} : mw (d + 1) 85 Q 116 [x0, x1, x2, x3, x4, x5, x6] (a2 :: a1 :: .ref o :: st) h = (mg h o 7 ∧ mca st 8 ∧ mca [.ref o, a1, a2] 3 ∧ mcall d 137 [.ref o, a1, a2] h (mK (d + 1) 85 Q 119 [x0, x1, x2, x3, x4, x5, x6] st)) := (mw_at mj_85_116).trans ((z_invv (As := [a1, a2]) (by decide) rfl rfl).trans (congrArg (And _) (congrArg (And _) (mC_nl nl_137))))
theorem mj_85_119 : mc_P 85 119 = some (.goto 18, 3, 0, 0, 0) := by decide +kernel
theorem s_85_119 {x0 x1 x2 x3 x4 x5 x6 : Option Value} : mw d 85 Q 119 [x0, x1, x2, x3, x4, x5, x6] (st) h = mw d 85 Q 137 [x0, x1, x2, x3, x4, x5, x6] (st) h := (mw_at mj_85_119).trans (z_goto (by decide))
theorem mj_85_122 : mc_P 85 122 = some (.aload_n 0, 1, 0, 0, 0) := by decide +kernel
theorem s_85_122 {x1 x2 x3 x4 x5 x6 : Option Value} {w : Value} : mw d 85 Q 122 [some w, x1, x2, x3, x4, x5, x6] (st) h = mv_a w (mw d 85 Q 123 [some w, x1, x2, x3, x4, x5, x6] (w :: st) h) := (mw_at mj_85_122).trans (z_aload_n rfl)
theorem mj_85_123 : mc_P 85 123 = some (.aload_n 0, 1, 0, 0, 0) := by decide +kernel
theorem s_85_123 {x1 x2 x3 x4 x5 x6 : Option Value} {w : Value} : mw d 85 Q 123 [some w, x1, x2, x3, x4, x5, x6] (st) h = mv_a w (mw d 85 Q 124 [some w, x1, x2, x3, x4, x5, x6] (w :: st) h) := (mw_at mj_85_123).trans (z_aload_n rfl)
theorem mj_85_124 : mc_P 85 124 = some (.getfield 66, 3, 4, 14, 0) := by decide +kernel
theorem s_85_124 {x0 x1 x2 x3 x4 x5 x6 : Option Value} {o : Nat} : mw d 85 Q 124 [x0, x1, x2, x3, x4, x5, x6] (.ref o :: st) h = (mg h o 4 ∧ mw d 85 Q 127 [x0, x1, x2, x3, x4, x5, x6] (va_rf (mh_r h o 14) :: st) h) := (mw_at mj_85_124).trans (z_getr (by decide) (by decide) rfl)
theorem mj_85_127 : mc_P 85 127 = some (.aload_n 0, 1, 0, 0, 0) := by decide +kernel
theorem s_85_127 {x1 x2 x3 x4 x5 x6 : Option Value} {w : Value} : mw d 85 Q 127 [some w, x1, x2, x3, x4, x5, x6] (st) h = mv_a w (mw d 85 Q 128 [some w, x1, x2, x3, x4, x5, x6] (w :: st) h) := (mw_at mj_85_127).trans (z_aload_n rfl)
theorem mj_85_128 : mc_P 85 128 = some (.getfield 92, 3, 4, 16, 0) := by decide +kernel
theorem s_85_128 {x0 x1 x2 x3 x4 x5 x6 : Option Value} {o : Nat} : mw d 85 Q 128 [x0, x1, x2, x3, x4, x5, x6] (.ref o :: st) h = (mg h o 4 ∧ mw d 85 Q 131 [x0, x1, x2, x3, x4, x5, x6] (.int (mh_i h o 16) :: st) h) := (mw_at mj_85_128).trans (z_geti (by decide) (by decide) (Or.inl rfl))
theorem mj_85_131 : mc_P 85 131 = some (.iconst 1, 1, 0, 0, 0) := by decide +kernel
theorem s_85_131 {x0 x1 x2 x3 x4 x5 x6 : Option Value} : mw d 85 Q 131 [x0, x1, x2, x3, x4, x5, x6] (st) h = mw d 85 Q 132 [x0, x1, x2, x3, x4, x5, x6] (.int 1 :: st) h := (mw_at mj_85_131).trans (z_iconst (by decide))
theorem mj_85_132 : mc_P 85 132 = some (.isub, 1, 0, 0, 0) := by decide +kernel
theorem s_85_132 {x0 x1 x2 x3 x4 x5 x6 : Option Value} {x w : Int32} : mw d 85 Q 132 [x0, x1, x2, x3, x4, x5, x6] (.int w :: .int x :: st) h = mw d 85 Q 133 [x0, x1, x2, x3, x4, x5, x6] (.int (x - w) :: st) h := (mw_at mj_85_132).trans (z_isub)
theorem mj_85_133 : mc_P 85 133 = some (.iaload, 1, 0, 0, 0) := by decide +kernel
theorem s_85_133 {x0 x1 x2 x3 x4 x5 x6 : Option Value} {o : Nat} {i : Int32} : mw d 85 Q 133 [x0, x1, x2, x3, x4, x5, x6] (.int i :: .ref o :: st) h = (mg h o 100 ∧ mx i (mh_l h o) ∧ mw d 85 Q 134 [x0, x1, x2, x3, x4, x5, x6] (.int (mh_i h o i.toNatClampNeg) :: st) h) := (mw_at mj_85_133).trans (z_iald)
theorem s_85_133x {x0 x1 x2 x3 x4 x5 x6 : Option Value} {i : Int32} : mw d 85 Q 133 [x0, x1, x2, x3, x4, x5, x6] (.int i :: .retAddr 2 :: st) h = (mx i 24 ∧ mw d 85 Q 134 [x0, x1, x2, x3, x4, x5, x6] (.int (mx_row.getD i.toNatClampNeg 0) :: st) h) := (mw_at mj_85_133).trans (z_iaX)
theorem mj_85_134 : mc_P 85 134 = some (.invokevirtual 116, 3, 87, 4, 2) := by decide +kernel
theorem s_85_134 {x0 x1 x2 x3 x4 x5 x6 : Option Value} {o : Nat} {a1 : Value} : mw (d + 1) 85 Q 134 [x0, x1, x2, x3, x4, x5, x6] (a1 :: .ref o :: st) h = (mg h o 4 ∧ mca st 8 ∧ mca [.ref o, a1] 4 ∧ mcall d 87 [.ref o, a1] h (mK (d + 1) 85 Q 137 [x0, x1, x2, x3, x4, x5, x6] st)) := (mw_at mj_85_134).trans ((z_invv (As := [a1]) (by decide) rfl rfl).trans (congrArg (And _) (congrArg (And _) (mC_nl nl_87))))
theorem mj_85_137 : mc_P 85 137 = some (.istore 6, 2, 0, 0, 0) := by decide +kernel
theorem s_85_137 {x0 x1 x2 x3 x4 x5 x6 : Option Value} {w : Int32} : mw d 85 Q 137 [x0, x1, x2, x3, x4, x5, x6] (.int w :: st) h = mw d 85 Q 139 [x0, x1, x2, x3, x4, mk2 x5, some (.int w)] (st) h := (mw_at mj_85_137).trans (z_istore (Nat.le_of_ble_eq_true rfl) (me_s1_mk (j := 5) (w := x5) rfl))
theorem mj_85_139 : mc_P 85 139 = some (.iload 4, 2, 0, 0, 0) := by decide +kernel
theorem s_85_139 {x0 x1 x2 x3 x5 x6 : Option Value} {w : Value} : mw d 85 Q 139 [x0, x1, x2, x3, some w, x5, x6] (st) h = mv_i w (mw d 85 Q 141 [x0, x1, x2, x3, some w, x5, x6] (w :: st) h) := (mw_at mj_85_139).trans (z_iload rfl)
theorem mj_85_141 : mc_P 85 141 = some (.iload 6, 2, 0, 0, 0) := by decide +kernel
theorem s_85_141 {x0 x1 x2 x3 x4 x5 : Option Value} {w : Value} : mw d 85 Q 141 [x0, x1, x2, x3, x4, x5, some w] (st) h = mv_i w (mw d 85 Q 143 [x0, x1, x2, x3, x4, x5, some w] (w :: st) h) := (mw_at mj_85_141).trans (z_iload rfl)
theorem mj_85_143 : mc_P 85 143 = some (.if_icmp .ge 22, 3, 0, 0, 0) := by decide +kernel
theorem s_85_143 {x0 x1 x2 x3 x4 x5 x6 : Option Value} {x w : Int32} : mw d 85 Q 143 [x0, x1, x2, x3, x4, x5, x6] (.int w :: .int x :: st) h = mB (w ≤ x) (mw d 85 Q) 165 146 [x0, x1, x2, x3, x4, x5, x6] st h := (mw_at mj_85_143).trans (z_icmp_ge (by decide) rfl)
theorem mj_85_146 : mc_P 85 146 = some (.aload_n 0, 1, 0, 0, 0) := by decide +kernel
theorem s_85_146 {x1 x2 x3 x4 x5 x6 : Option Value} {w : Value} : mw d 85 Q 146 [some w, x1, x2, x3, x4, x5, x6] (st) h = mv_a w (mw d 85 Q 147 [some w, x1, x2, x3, x4, x5, x6] (w :: st) h) := (mw_at mj_85_146).trans (z_aload_n rfl)
theorem mj_85_147 : mc_P 85 147 = some (.aload_n 0, 1, 0, 0, 0) := by decide +kernel
theorem s_85_147 {x1 x2 x3 x4 x5 x6 : Option Value} {w : Value} : mw d 85 Q 147 [some w, x1, x2, x3, x4, x5, x6] (st) h = mv_a w (mw d 85 Q 148 [some w, x1, x2, x3, x4, x5, x6] (w :: st) h) := (mw_at mj_85_147).trans (z_aload_n rfl)
theorem mj_85_148 : mc_P 85 148 = some (.getfield 25, 3, 4, 1, 0) := by decide +kernel
theorem s_85_148 {x0 x1 x2 x3 x4 x5 x6 : Option Value} {o : Nat} : mw d 85 Q 148 [x0, x1, x2, x3, x4, x5, x6] (.ref o :: st) h = (mg h o 4 ∧ mw d 85 Q 151 [x0, x1, x2, x3, x4, x5, x6] (va_rf (mh_r h o 1) :: st) h) := (mw_at mj_85_148).trans (z_getr (by decide) (by decide) rfl)
theorem mj_85_151 : mc_P 85 151 = some (.getfield 120, 3, 7, 12, 0) := by decide +kernel
theorem s_85_151 {x0 x1 x2 x3 x4 x5 x6 : Option Value} {o : Nat} : mw d 85 Q 151 [x0, x1, x2, x3, x4, x5, x6] (.ref o :: st) h = (mg h o 7 ∧ mw d 85 Q 154 [x0, x1, x2, x3, x4, x5, x6] (va_rf (mh_r h o 12) :: st) h) := (mw_at mj_85_151).trans (z_getr (by decide) (by decide) rfl)
theorem mj_85_154 : mc_P 85 154 = some (.iload 4, 2, 0, 0, 0) := by decide +kernel
theorem s_85_154 {x0 x1 x2 x3 x5 x6 : Option Value} {w : Value} : mw d 85 Q 154 [x0, x1, x2, x3, some w, x5, x6] (st) h = mv_i w (mw d 85 Q 156 [x0, x1, x2, x3, some w, x5, x6] (w :: st) h) := (mw_at mj_85_154).trans (z_iload rfl)
theorem mj_85_156 : mc_P 85 156 = some (.aaload, 1, 0, 0, 0) := by decide +kernel
theorem s_85_156 {x0 x1 x2 x3 x4 x5 x6 : Option Value} {o : Nat} {i : Int32} : mw d 85 Q 156 [x0, x1, x2, x3, x4, x5, x6] (.int i :: .ref o :: st) h = (mgr h o ∧ mx i (mh_l h o) ∧ mw d 85 Q 157 [x0, x1, x2, x3, x4, x5, x6] (mrd (mh_k h o) h o i.toNatClampNeg :: st) h) := (mw_at mj_85_156).trans (z_aald)
theorem mj_85_157 : mc_P 85 157 = some (.invokevirtual 121, 3, 89, 4, 2) := by decide +kernel
theorem s_85_157 {x0 x1 x2 x3 x4 x5 x6 : Option Value} {o : Nat} {a1 : Value} : mw (d + 1) 85 Q 157 [x0, x1, x2, x3, x4, x5, x6] (a1 :: .ref o :: st) h = (mg h o 4 ∧ mca st 8 ∧ mca [.ref o, a1] 3 ∧ mcall d 89 [.ref o, a1] h (mK (d + 1) 85 Q 160 [x0, x1, x2, x3, x4, x5, x6] st)) := (mw_at mj_85_157).trans ((z_invv (As := [a1]) (by decide) rfl rfl).trans (congrArg (And _) (congrArg (And _) (mC_nl nl_89))))
theorem mj_85_160 : mc_P 85 160 = some (.istore 4, 2, 0, 0, 0) := by decide +kernel
theorem s_85_160 {x0 x1 x2 x3 x4 x5 x6 : Option Value} {w : Int32} : mw d 85 Q 160 [x0, x1, x2, x3, x4, x5, x6] (.int w :: st) h = mw d 85 Q 162 [x0, x1, x2, mk2 x3, some (.int w), x5, x6] (st) h := (mw_at mj_85_160).trans (z_istore (Nat.le_of_ble_eq_true rfl) (me_s1_mk (j := 3) (w := x3) rfl))
theorem mj_85_162 : mc_P 85 162 = some (.goto 31, 3, 0, 0, 0) := by decide +kernel
theorem s_85_162 {x0 x1 x2 x3 x4 x5 x6 : Option Value} : mw d 85 Q 162 [x0, x1, x2, x3, x4, x5, x6] (st) h = mw d 85 Q 193 [x0, x1, x2, x3, x4, x5, x6] (st) h := (mw_at mj_85_162).trans (z_goto (by decide))
theorem mj_85_165 : mc_P 85 165 = some (.aload_n 0, 1, 0, 0, 0) := by decide +kernel
theorem s_85_165 {x1 x2 x3 x4 x5 x6 : Option Value} {w : Value} : mw d 85 Q 165 [some w, x1, x2, x3, x4, x5, x6] (st) h = mv_a w (mw d 85 Q 166 [some w, x1, x2, x3, x4, x5, x6] (w :: st) h) := (mw_at mj_85_165).trans (z_aload_n rfl)
theorem mj_85_166 : mc_P 85 166 = some (.getfield 92, 3, 4, 16, 0) := by decide +kernel
theorem s_85_166 {x0 x1 x2 x3 x4 x5 x6 : Option Value} {o : Nat} : mw d 85 Q 166 [x0, x1, x2, x3, x4, x5, x6] (.ref o :: st) h = (mg h o 4 ∧ mw d 85 Q 169 [x0, x1, x2, x3, x4, x5, x6] (.int (mh_i h o 16) :: st) h) := (mw_at mj_85_166).trans (z_geti (by decide) (by decide) (Or.inl rfl))
theorem mj_85_169 : mc_P 85 169 = some (.ifCond .le 14, 3, 0, 0, 0) := by decide +kernel
theorem s_85_169 {x0 x1 x2 x3 x4 x5 x6 : Option Value} {x : Int32} : mw d 85 Q 169 [x0, x1, x2, x3, x4, x5, x6] (.int x :: st) h = mB (x ≤ 0) (mw d 85 Q) 183 172 [x0, x1, x2, x3, x4, x5, x6] st h := (mw_at mj_85_169).trans (z_if_le (by decide) rfl)
theorem mj_85_172 : mc_P 85 172 = some (.aload_n 0, 1, 0, 0, 0) := by decide +kernel
theorem s_85_172 {x1 x2 x3 x4 x5 x6 : Option Value} {w : Value} : mw d 85 Q 172 [some w, x1, x2, x3, x4, x5, x6] (st) h = mv_a w (mw d 85 Q 173 [some w, x1, x2, x3, x4, x5, x6] (w :: st) h) := (mw_at mj_85_172).trans (z_aload_n rfl)
theorem mj_85_173 : mc_P 85 173 = some (.iload 4, 2, 0, 0, 0) := by decide +kernel
theorem s_85_173 {x0 x1 x2 x3 x5 x6 : Option Value} {w : Value} : mw d 85 Q 173 [x0, x1, x2, x3, some w, x5, x6] (st) h = mv_i w (mw d 85 Q 175 [x0, x1, x2, x3, some w, x5, x6] (w :: st) h) := (mw_at mj_85_173).trans (z_iload rfl)
theorem mj_85_175 : mc_P 85 175 = some (.invokevirtual 125, 3, 88, 4, 2) := by decide +kernel
theorem s_85_175 {x0 x1 x2 x3 x4 x5 x6 : Option Value} {o : Nat} {a1 : Value} : mw (d + 1) 85 Q 175 [x0, x1, x2, x3, x4, x5, x6] (a1 :: .ref o :: st) h = (mg h o 4 ∧ mca st 8 ∧ mca [.ref o, a1] 4 ∧ mcall d 88 [.ref o, a1] h (mK (d + 1) 85 Q 178 [x0, x1, x2, x3, x4, x5, x6] st)) := (mw_at mj_85_175).trans ((z_invv (As := [a1]) (by decide) rfl rfl).trans (congrArg (And _) (congrArg (And _) (mC_nl nl_88))))
theorem mj_85_178 : mc_P 85 178 = some (.istore 4, 2, 0, 0, 0) := by decide +kernel
theorem s_85_178 {x0 x1 x2 x3 x4 x5 x6 : Option Value} {w : Int32} : mw d 85 Q 178 [x0, x1, x2, x3, x4, x5, x6] (.int w :: st) h = mw d 85 Q 180 [x0, x1, x2, mk2 x3, some (.int w), x5, x6] (st) h := (mw_at mj_85_178).trans (z_istore (Nat.le_of_ble_eq_true rfl) (me_s1_mk (j := 3) (w := x3) rfl))
theorem mj_85_180 : mc_P 85 180 = some (.goto 13, 3, 0, 0, 0) := by decide +kernel
theorem s_85_180 {x0 x1 x2 x3 x4 x5 x6 : Option Value} : mw d 85 Q 180 [x0, x1, x2, x3, x4, x5, x6] (st) h = mw d 85 Q 193 [x0, x1, x2, x3, x4, x5, x6] (st) h := (mw_at mj_85_180).trans (z_goto (by decide))
theorem mj_85_183 : mc_P 85 183 = some (.aload_n 0, 1, 0, 0, 0) := by decide +kernel
theorem s_85_183 {x1 x2 x3 x4 x5 x6 : Option Value} {w : Value} : mw d 85 Q 183 [some w, x1, x2, x3, x4, x5, x6] (st) h = mv_a w (mw d 85 Q 184 [some w, x1, x2, x3, x4, x5, x6] (w :: st) h) := (mw_at mj_85_183).trans (z_aload_n rfl)
theorem mj_85_184 : mc_P 85 184 = some (.invokevirtual 128, 3, 92, 4, 1) := by decide +kernel
theorem s_85_184 {x0 x1 x2 x3 x4 x5 x6 : Option Value} {o : Nat} : mw (d + 1) 85 Q 184 [x0, x1, x2, x3, x4, x5, x6] (.ref o :: st) h = (mg h o 4 ∧ mca st 8 ∧ mca [.ref o] 1 ∧ mcall d 92 [.ref o] h (mK (d + 1) 85 Q 187 [x0, x1, x2, x3, x4, x5, x6] st)) := (mw_at mj_85_184).trans ((z_invv (As := []) (by decide) rfl rfl).trans (congrArg (And _) (congrArg (And _) (mC_nl nl_92))))
theorem mj_85_187 : mc_P 85 187 = some (.aload_n 0, 1, 0, 0, 0) := by decide +kernel
theorem s_85_187 {x1 x2 x3 x4 x5 x6 : Option Value} {w : Value} : mw d 85 Q 187 [some w, x1, x2, x3, x4, x5, x6] (st) h = mv_a w (mw d 85 Q 188 [some w, x1, x2, x3, x4, x5, x6] (w :: st) h) := (mw_at mj_85_187).trans (z_aload_n rfl)
theorem mj_85_188 : mc_P 85 188 = some (.invokevirtual 131, 3, 93, 4, 1) := by decide +kernel
theorem s_85_188 {x0 x1 x2 x3 x4 x5 x6 : Option Value} {o : Nat} : mw (d + 1) 85 Q 188 [x0, x1, x2, x3, x4, x5, x6] (.ref o :: st) h = (mg h o 4 ∧ mca st 8 ∧ mca [.ref o] 4 ∧ mcall d 93 [.ref o] h (mK (d + 1) 85 Q 191 [x0, x1, x2, x3, x4, x5, x6] st)) := (mw_at mj_85_188).trans ((z_invv (As := []) (by decide) rfl rfl).trans (congrArg (And _) (congrArg (And _) (mC_nl nl_93))))
theorem mj_85_191 : mc_P 85 191 = some (.iconst 1, 1, 0, 0, 0) := by decide +kernel
theorem s_85_191 {x0 x1 x2 x3 x4 x5 x6 : Option Value} : mw d 85 Q 191 [x0, x1, x2, x3, x4, x5, x6] (st) h = mw d 85 Q 192 [x0, x1, x2, x3, x4, x5, x6] (.int 1 :: st) h := (mw_at mj_85_191).trans (z_iconst (by decide))
theorem mj_85_192 : mc_P 85 192 = some (.ireturn, 1, 0, 3, 0) := by decide +kernel
theorem s_85_192 {x0 x1 x2 x3 x4 x5 x6 : Option Value} {x : Int32} : mw d 85 Q 192 [x0, x1, x2, x3, x4, x5, x6] ([.int x]) h = ((x = 0 ∨ x = 1) ∧ Q (some (.int x)) h) := (mw_at mj_85_192).trans (z_zret)
theorem mj_85_193 : mc_P 85 193 = some (.iinc 5 1, 3, 0, 0, 0) := by decide +kernel
theorem s_85_193 {x0 x1 x2 x3 x4 x6 : Option Value} {w : Int32} : mw d 85 Q 193 [x0, x1, x2, x3, x4, some (.int w), x6] (st) h = mw d 85 Q 196 [x0, x1, x2, x3, mk2 x4, some (.int (w + 1)), x6] (st) h := (mw_at mj_85_193).trans (z_iinc rfl (Nat.le_of_ble_eq_true rfl) (by decide) (me_s1_mk (j := 4) (w := x4) rfl))
theorem mj_85_196 : mc_P 85 196 = some (.goto (-107), 3, 0, 0, 0) := by decide +kernel
theorem s_85_196 {x0 x1 x2 x3 x4 x5 x6 : Option Value} : mw d 85 Q 196 [x0, x1, x2, x3, x4, x5, x6] (st) h = mw d 85 Q 89 [x0, x1, x2, x3, x4, x5, x6] (st) h := (mw_at mj_85_196).trans (z_goto (by decide))
theorem mj_85_199 : mc_P 85 199 = some (.iconst 0, 1, 0, 0, 0) := by decide +kernel
theorem s_85_199 {x0 x1 x2 x3 x4 x5 x6 : Option Value} : mw d 85 Q 199 [x0, x1, x2, x3, x4, x5, x6] (st) h = mw d 85 Q 200 [x0, x1, x2, x3, x4, x5, x6] (.int 0 :: st) h := (mw_at mj_85_199).trans (z_iconst (by decide))
theorem mj_85_200 : mc_P 85 200 = some (.ireturn, 1, 0, 3, 0) := by decide +kernel
theorem s_85_200 {x0 x1 x2 x3 x4 x5 x6 : Option Value} {x : Int32} : mw d 85 Q 200 [x0, x1, x2, x3, x4, x5, x6] ([.int x]) h = ((x = 0 ∨ x = 1) ∧ Q (some (.int x)) h) := (mw_at mj_85_200).trans (z_zret)
theorem e_85 {a0 : Nat} {a1 : Nat} {a2 : Nat} : mcall d 85 [.ref a0, .ref a1, .ref a2] h Q = mw d 85 Q 0 [some (.ref a0), some (.ref a1), some (.ref a2), none, none, none, none] [] h := by
  show mw d 85 Q 0 (me_en (mc_nl 85) _) [] h = _
  rw [nl_85]; rfl

/-! InvariantDesk$Program.note(II)V -/
theorem mj_86_0 : mc_P 86 0 = some (.aload_n 0, 1, 0, 0, 0) := by decide +kernel
theorem s_86_0 {x1 x2 : Option Value} {w : Value} : mw d 86 Q 0 [some w, x1, x2] (st) h = mv_a w (mw d 86 Q 1 [some w, x1, x2] (w :: st) h) := (mw_at mj_86_0).trans (z_aload_n rfl)
theorem mj_86_1 : mc_P 86 1 = some (.iload_n 1, 1, 0, 0, 0) := by decide +kernel
theorem s_86_1 {x0 x2 : Option Value} {w : Value} : mw d 86 Q 1 [x0, some w, x2] (st) h = mv_i w (mw d 86 Q 2 [x0, some w, x2] (w :: st) h) := (mw_at mj_86_1).trans (z_iload_n rfl)
theorem mj_86_2 : mc_P 86 2 = some (.putfield 98, 3, 4, 18, 0) := by decide +kernel
theorem s_86_2 {x0 x1 x2 : Option Value} {o : Nat} {w : Int32} : mw d 86 Q 2 [x0, x1, x2] (.int w :: .ref o :: st) h = (mg h o 4 ∧ mw d 86 Q 5 [x0, x1, x2] (st) (mh_si h o 18 w)) := (mw_at mj_86_2).trans (z_puti (by decide) (by decide) rfl)
theorem mj_86_5 : mc_P 86 5 = some (.aload_n 0, 1, 0, 0, 0) := by decide +kernel
theorem s_86_5 {x1 x2 : Option Value} {w : Value} : mw d 86 Q 5 [some w, x1, x2] (st) h = mv_a w (mw d 86 Q 6 [some w, x1, x2] (w :: st) h) := (mw_at mj_86_5).trans (z_aload_n rfl)
theorem mj_86_6 : mc_P 86 6 = some (.iload_n 2, 1, 0, 0, 0) := by decide +kernel
theorem s_86_6 {x0 x1 : Option Value} {w : Value} : mw d 86 Q 6 [x0, x1, some w] (st) h = mv_i w (mw d 86 Q 7 [x0, x1, some w] (w :: st) h) := (mw_at mj_86_6).trans (z_iload_n rfl)
theorem mj_86_7 : mc_P 86 7 = some (.putfield 134, 3, 4, 19, 0) := by decide +kernel
theorem s_86_7 {x0 x1 x2 : Option Value} {o : Nat} {w : Int32} : mw d 86 Q 7 [x0, x1, x2] (.int w :: .ref o :: st) h = (mg h o 4 ∧ mw d 86 Q 10 [x0, x1, x2] (st) (mh_si h o 19 w)) := (mw_at mj_86_7).trans (z_puti (by decide) (by decide) rfl)
theorem mj_86_10 : mc_P 86 10 = some (.return_, 1, 0, 0, 0) := by decide +kernel
theorem s_86_10 {x0 x1 x2 : Option Value} : mw d 86 Q 10 [x0, x1, x2] ([]) h = Q none h := (mw_at mj_86_10).trans (z_vret)
theorem e_86 {a0 : Nat} {a1 : Int32} {a2 : Int32} : mcall d 86 [.ref a0, .int a1, .int a2] h Q = mw d 86 Q 0 [some (.ref a0), some (.int a1), some (.int a2)] [] h := by
  show mw d 86 Q 0 (me_en (mc_nl 86) _) [] h = _
  rw [nl_86]; rfl

/-! InvariantDesk$Program.limitOf(I)I -/
theorem mj_87_0 : mc_P 87 0 = some (.aload_n 0, 1, 0, 0, 0) := by decide +kernel
theorem s_87_0 {x1 x2 x3 : Option Value} {w : Value} : mw d 87 Q 0 [some w, x1, x2, x3] (st) h = mv_a w (mw d 87 Q 1 [some w, x1, x2, x3] (w :: st) h) := (mw_at mj_87_0).trans (z_aload_n rfl)
theorem mj_87_1 : mc_P 87 1 = some (.getfield 31, 3, 4, 3, 0) := by decide +kernel
theorem s_87_1 {x0 x1 x2 x3 : Option Value} {o : Nat} : mw d 87 Q 1 [x0, x1, x2, x3] (.ref o :: st) h = (mg h o 4 ∧ mw d 87 Q 4 [x0, x1, x2, x3] (va_rf (mh_r h o 3) :: st) h) := (mw_at mj_87_1).trans (z_getr (by decide) (by decide) rfl)
theorem mj_87_4 : mc_P 87 4 = some (.iload_n 1, 1, 0, 0, 0) := by decide +kernel
theorem s_87_4 {x0 x2 x3 : Option Value} {w : Value} : mw d 87 Q 4 [x0, some w, x2, x3] (st) h = mv_i w (mw d 87 Q 5 [x0, some w, x2, x3] (w :: st) h) := (mw_at mj_87_4).trans (z_iload_n rfl)
theorem mj_87_5 : mc_P 87 5 = some (.aaload, 1, 0, 0, 0) := by decide +kernel
theorem s_87_5 {x0 x1 x2 x3 : Option Value} {o : Nat} {i : Int32} : mw d 87 Q 5 [x0, x1, x2, x3] (.int i :: .ref o :: st) h = (mgr h o ∧ mx i (mh_l h o) ∧ mw d 87 Q 6 [x0, x1, x2, x3] (mrd (mh_k h o) h o i.toNatClampNeg :: st) h) := (mw_at mj_87_5).trans (z_aald)
theorem mj_87_6 : mc_P 87 6 = some (.astore_n 2, 1, 0, 0, 0) := by decide +kernel
theorem s_87_6 {x0 x1 x2 x3 : Option Value} {w : Nat} : mw d 87 Q 6 [x0, x1, x2, x3] (.ref w :: st) h = mw d 87 Q 7 [x0, mk2 x1, some (.ref w), x3] (st) h := (mw_at mj_87_6).trans (z_astore_n (Nat.le_of_ble_eq_true rfl) (me_s1_mk (j := 1) (w := x1) rfl))
theorem s_87_6n {x0 x1 x2 x3 : Option Value} : mw d 87 Q 6 [x0, x1, x2, x3] (.null :: st) h = mw d 87 Q 7 [x0, mk2 x1, some (.null), x3] (st) h := (mw_at mj_87_6).trans (z_astoreN_n (Nat.le_of_ble_eq_true rfl) (me_s1_mk (j := 1) (w := x1) rfl))
theorem s_87_6x {x0 x1 x2 x3 : Option Value} {w : Nat} : mw d 87 Q 6 [x0, x1, x2, x3] (.retAddr w :: st) h = mw d 87 Q 7 [x0, mk2 x1, some (.retAddr w), x3] (st) h := (mw_at mj_87_6).trans (z_astoreX_n (Nat.le_of_ble_eq_true rfl) (me_s1_mk (j := 1) (w := x1) rfl))
theorem mj_87_7 : mc_P 87 7 = some (.aload_n 2, 1, 0, 0, 0) := by decide +kernel
theorem s_87_7 {x0 x1 x3 : Option Value} {w : Value} : mw d 87 Q 7 [x0, x1, some w, x3] (st) h = mv_a w (mw d 87 Q 8 [x0, x1, some w, x3] (w :: st) h) := (mw_at mj_87_7).trans (z_aload_n rfl)
theorem mj_87_8 : mc_P 87 8 = some (.getfield 137, 3, 9, 0, 0) := by decide +kernel
theorem s_87_8 {x0 x1 x2 x3 : Option Value} {o : Nat} : mw d 87 Q 8 [x0, x1, x2, x3] (.ref o :: st) h = (mg h o 9 ∧ mw d 87 Q 11 [x0, x1, x2, x3] (.int (mh_i h o 0) :: st) h) := (mw_at mj_87_8).trans (z_geti (by decide) (by decide) (Or.inl rfl))
theorem mj_87_11 : mc_P 87 11 = some (.iconst 4, 1, 0, 0, 0) := by decide +kernel
theorem s_87_11 {x0 x1 x2 x3 : Option Value} : mw d 87 Q 11 [x0, x1, x2, x3] (st) h = mw d 87 Q 12 [x0, x1, x2, x3] (.int 4 :: st) h := (mw_at mj_87_11).trans (z_iconst (by decide))
theorem mj_87_12 : mc_P 87 12 = some (.if_icmp .ne 16, 3, 0, 0, 0) := by decide +kernel
theorem s_87_12 {x0 x1 x2 x3 : Option Value} {x w : Int32} : mw d 87 Q 12 [x0, x1, x2, x3] (.int w :: .int x :: st) h = mB (¬ x = w) (mw d 87 Q) 28 15 [x0, x1, x2, x3] st h := (mw_at mj_87_12).trans (z_icmp_ne (by decide) rfl)
theorem mj_87_15 : mc_P 87 15 = some (.aload_n 0, 1, 0, 0, 0) := by decide +kernel
theorem s_87_15 {x1 x2 x3 : Option Value} {w : Value} : mw d 87 Q 15 [some w, x1, x2, x3] (st) h = mv_a w (mw d 87 Q 16 [some w, x1, x2, x3] (w :: st) h) := (mw_at mj_87_15).trans (z_aload_n rfl)
theorem mj_87_16 : mc_P 87 16 = some (.getfield 25, 3, 4, 1, 0) := by decide +kernel
theorem s_87_16 {x0 x1 x2 x3 : Option Value} {o : Nat} : mw d 87 Q 16 [x0, x1, x2, x3] (.ref o :: st) h = (mg h o 4 ∧ mw d 87 Q 19 [x0, x1, x2, x3] (va_rf (mh_r h o 1) :: st) h) := (mw_at mj_87_16).trans (z_getr (by decide) (by decide) rfl)
theorem mj_87_19 : mc_P 87 19 = some (.aload_n 2, 1, 0, 0, 0) := by decide +kernel
theorem s_87_19 {x0 x1 x3 : Option Value} {w : Value} : mw d 87 Q 19 [x0, x1, some w, x3] (st) h = mv_a w (mw d 87 Q 20 [x0, x1, some w, x3] (w :: st) h) := (mw_at mj_87_19).trans (z_aload_n rfl)
theorem mj_87_20 : mc_P 87 20 = some (.getfield 140, 3, 9, 14, 0) := by decide +kernel
theorem s_87_20 {x0 x1 x2 x3 : Option Value} {o : Nat} : mw d 87 Q 20 [x0, x1, x2, x3] (.ref o :: st) h = (mg h o 9 ∧ mw d 87 Q 23 [x0, x1, x2, x3] (.int (mh_i h o 14) :: st) h) := (mw_at mj_87_20).trans (z_geti (by decide) (by decide) (Or.inl rfl))
theorem mj_87_23 : mc_P 87 23 = some (.iconst 4, 1, 0, 0, 0) := by decide +kernel
theorem s_87_23 {x0 x1 x2 x3 : Option Value} : mw d 87 Q 23 [x0, x1, x2, x3] (st) h = mw d 87 Q 24 [x0, x1, x2, x3] (.int 4 :: st) h := (mw_at mj_87_23).trans (z_iconst (by decide))
theorem mj_87_24 : mc_P 87 24 = some (.invokevirtual 104, 3, 137, 7, 3) := by decide +kernel
theorem s_87_24 {x0 x1 x2 x3 : Option Value} {o : Nat} {a1 a2 : Value} : mw (d + 1) 87 Q 24 [x0, x1, x2, x3] (a2 :: a1 :: .ref o :: st) h = (mg h o 7 ∧ mca st 8 ∧ mca [.ref o, a1, a2] 3 ∧ mcall d 137 [.ref o, a1, a2] h (mK (d + 1) 87 Q 27 [x0, x1, x2, x3] st)) := (mw_at mj_87_24).trans ((z_invv (As := [a1, a2]) (by decide) rfl rfl).trans (congrArg (And _) (congrArg (And _) (mC_nl nl_137))))
theorem mj_87_27 : mc_P 87 27 = some (.ireturn, 1, 0, 0, 0) := by decide +kernel
theorem s_87_27 {x0 x1 x2 x3 : Option Value} {x : Int32} : mw d 87 Q 27 [x0, x1, x2, x3] ([.int x]) h = (Q (some (.int x)) h) := (mw_at mj_87_27).trans (z_iret)
theorem mj_87_28 : mc_P 87 28 = some (.aload_n 2, 1, 0, 0, 0) := by decide +kernel
theorem s_87_28 {x0 x1 x3 : Option Value} {w : Value} : mw d 87 Q 28 [x0, x1, some w, x3] (st) h = mv_a w (mw d 87 Q 29 [x0, x1, some w, x3] (w :: st) h) := (mw_at mj_87_28).trans (z_aload_n rfl)
theorem mj_87_29 : mc_P 87 29 = some (.getfield 137, 3, 9, 0, 0) := by decide +kernel
theorem s_87_29 {x0 x1 x2 x3 : Option Value} {o : Nat} : mw d 87 Q 29 [x0, x1, x2, x3] (.ref o :: st) h = (mg h o 9 ∧ mw d 87 Q 32 [x0, x1, x2, x3] (.int (mh_i h o 0) :: st) h) := (mw_at mj_87_29).trans (z_geti (by decide) (by decide) (Or.inl rfl))
theorem mj_87_32 : mc_P 87 32 = some (.iconst 5, 1, 0, 0, 0) := by decide +kernel
theorem s_87_32 {x0 x1 x2 x3 : Option Value} : mw d 87 Q 32 [x0, x1, x2, x3] (st) h = mw d 87 Q 33 [x0, x1, x2, x3] (.int 5 :: st) h := (mw_at mj_87_32).trans (z_iconst (by decide))
theorem mj_87_33 : mc_P 87 33 = some (.if_icmp .ne 21, 3, 0, 0, 0) := by decide +kernel
theorem s_87_33 {x0 x1 x2 x3 : Option Value} {x w : Int32} : mw d 87 Q 33 [x0, x1, x2, x3] (.int w :: .int x :: st) h = mB (¬ x = w) (mw d 87 Q) 54 36 [x0, x1, x2, x3] st h := (mw_at mj_87_33).trans (z_icmp_ne (by decide) rfl)
theorem mj_87_36 : mc_P 87 36 = some (.aload_n 0, 1, 0, 0, 0) := by decide +kernel
theorem s_87_36 {x1 x2 x3 : Option Value} {w : Value} : mw d 87 Q 36 [some w, x1, x2, x3] (st) h = mv_a w (mw d 87 Q 37 [some w, x1, x2, x3] (w :: st) h) := (mw_at mj_87_36).trans (z_aload_n rfl)
theorem mj_87_37 : mc_P 87 37 = some (.getfield 69, 3, 4, 15, 0) := by decide +kernel
theorem s_87_37 {x0 x1 x2 x3 : Option Value} {o : Nat} : mw d 87 Q 37 [x0, x1, x2, x3] (.ref o :: st) h = (mg h o 4 ∧ mw d 87 Q 40 [x0, x1, x2, x3] (va_rf (mh_r h o 15) :: st) h) := (mw_at mj_87_37).trans (z_getr (by decide) (by decide) rfl)
theorem mj_87_40 : mc_P 87 40 = some (.aload_n 0, 1, 0, 0, 0) := by decide +kernel
theorem s_87_40 {x1 x2 x3 : Option Value} {w : Value} : mw d 87 Q 40 [some w, x1, x2, x3] (st) h = mv_a w (mw d 87 Q 41 [some w, x1, x2, x3] (w :: st) h) := (mw_at mj_87_40).trans (z_aload_n rfl)
theorem mj_87_41 : mc_P 87 41 = some (.getfield 92, 3, 4, 16, 0) := by decide +kernel
theorem s_87_41 {x0 x1 x2 x3 : Option Value} {o : Nat} : mw d 87 Q 41 [x0, x1, x2, x3] (.ref o :: st) h = (mg h o 4 ∧ mw d 87 Q 44 [x0, x1, x2, x3] (.int (mh_i h o 16) :: st) h) := (mw_at mj_87_41).trans (z_geti (by decide) (by decide) (Or.inl rfl))
theorem mj_87_44 : mc_P 87 44 = some (.iconst 1, 1, 0, 0, 0) := by decide +kernel
theorem s_87_44 {x0 x1 x2 x3 : Option Value} : mw d 87 Q 44 [x0, x1, x2, x3] (st) h = mw d 87 Q 45 [x0, x1, x2, x3] (.int 1 :: st) h := (mw_at mj_87_44).trans (z_iconst (by decide))
theorem mj_87_45 : mc_P 87 45 = some (.isub, 1, 0, 0, 0) := by decide +kernel
theorem s_87_45 {x0 x1 x2 x3 : Option Value} {x w : Int32} : mw d 87 Q 45 [x0, x1, x2, x3] (.int w :: .int x :: st) h = mw d 87 Q 46 [x0, x1, x2, x3] (.int (x - w) :: st) h := (mw_at mj_87_45).trans (z_isub)
theorem mj_87_46 : mc_P 87 46 = some (.baload, 1, 0, 0, 0) := by decide +kernel
theorem s_87_46 {x0 x1 x2 x3 : Option Value} {o : Nat} {i : Int32} : mw d 87 Q 46 [x0, x1, x2, x3] (.int i :: .ref o :: st) h = (mgb h o ∧ mx i (mh_l h o) ∧ mw d 87 Q 47 [x0, x1, x2, x3] (.int (mh_i h o i.toNatClampNeg) :: st) h) := (mw_at mj_87_46).trans (z_bald)
theorem mj_87_47 : mc_P 87 47 = some (.ifCond .ne 7, 3, 0, 0, 0) := by decide +kernel
theorem s_87_47 {x0 x1 x2 x3 : Option Value} {x : Int32} : mw d 87 Q 47 [x0, x1, x2, x3] (.int x :: st) h = mB (¬ x = 0) (mw d 87 Q) 54 50 [x0, x1, x2, x3] st h := (mw_at mj_87_47).trans (z_if_ne (by decide) rfl)
theorem mj_87_50 : mc_P 87 50 = some (.iconst 1, 1, 0, 0, 0) := by decide +kernel
theorem s_87_50 {x0 x1 x2 x3 : Option Value} : mw d 87 Q 50 [x0, x1, x2, x3] (st) h = mw d 87 Q 51 [x0, x1, x2, x3] (.int 1 :: st) h := (mw_at mj_87_50).trans (z_iconst (by decide))
theorem mj_87_51 : mc_P 87 51 = some (.goto 4, 3, 0, 0, 0) := by decide +kernel
theorem s_87_51 {x0 x1 x2 x3 : Option Value} : mw d 87 Q 51 [x0, x1, x2, x3] (st) h = mw d 87 Q 55 [x0, x1, x2, x3] (st) h := (mw_at mj_87_51).trans (z_goto (by decide))
theorem mj_87_54 : mc_P 87 54 = some (.iconst 0, 1, 0, 0, 0) := by decide +kernel
theorem s_87_54 {x0 x1 x2 x3 : Option Value} : mw d 87 Q 54 [x0, x1, x2, x3] (st) h = mw d 87 Q 55 [x0, x1, x2, x3] (.int 0 :: st) h := (mw_at mj_87_54).trans (z_iconst (by decide))
theorem mj_87_55 : mc_P 87 55 = some (.istore_n 3, 1, 0, 0, 0) := by decide +kernel
theorem s_87_55 {x0 x1 x2 x3 : Option Value} {w : Int32} : mw d 87 Q 55 [x0, x1, x2, x3] (.int w :: st) h = mw d 87 Q 56 [x0, x1, mk2 x2, some (.int w)] (st) h := (mw_at mj_87_55).trans (z_istore_n (Nat.le_of_ble_eq_true rfl) (me_s1_mk (j := 2) (w := x2) rfl))
theorem mj_87_56 : mc_P 87 56 = some (.iload_n 3, 1, 0, 0, 0) := by decide +kernel
theorem s_87_56 {x0 x1 x2 : Option Value} {w : Value} : mw d 87 Q 56 [x0, x1, x2, some w] (st) h = mv_i w (mw d 87 Q 57 [x0, x1, x2, some w] (w :: st) h) := (mw_at mj_87_56).trans (z_iload_n rfl)
theorem mj_87_57 : mc_P 87 57 = some (.ifCond .eq 10, 3, 0, 0, 0) := by decide +kernel
theorem s_87_57 {x0 x1 x2 x3 : Option Value} {x : Int32} : mw d 87 Q 57 [x0, x1, x2, x3] (.int x :: st) h = mB (x = 0) (mw d 87 Q) 67 60 [x0, x1, x2, x3] st h := (mw_at mj_87_57).trans (z_if_eq (by decide) rfl)
theorem mj_87_60 : mc_P 87 60 = some (.aload_n 2, 1, 0, 0, 0) := by decide +kernel
theorem s_87_60 {x0 x1 x3 : Option Value} {w : Value} : mw d 87 Q 60 [x0, x1, some w, x3] (st) h = mv_a w (mw d 87 Q 61 [x0, x1, some w, x3] (w :: st) h) := (mw_at mj_87_60).trans (z_aload_n rfl)
theorem mj_87_61 : mc_P 87 61 = some (.getfield 143, 3, 9, 15, 0) := by decide +kernel
theorem s_87_61 {x0 x1 x2 x3 : Option Value} {o : Nat} : mw d 87 Q 61 [x0, x1, x2, x3] (.ref o :: st) h = (mg h o 9 ∧ mw d 87 Q 64 [x0, x1, x2, x3] (.int (mh_i h o 15) :: st) h) := (mw_at mj_87_61).trans (z_geti (by decide) (by decide) (Or.inl rfl))
theorem mj_87_64 : mc_P 87 64 = some (.goto 7, 3, 0, 0, 0) := by decide +kernel
theorem s_87_64 {x0 x1 x2 x3 : Option Value} : mw d 87 Q 64 [x0, x1, x2, x3] (st) h = mw d 87 Q 71 [x0, x1, x2, x3] (st) h := (mw_at mj_87_64).trans (z_goto (by decide))
theorem mj_87_67 : mc_P 87 67 = some (.aload_n 2, 1, 0, 0, 0) := by decide +kernel
theorem s_87_67 {x0 x1 x3 : Option Value} {w : Value} : mw d 87 Q 67 [x0, x1, some w, x3] (st) h = mv_a w (mw d 87 Q 68 [x0, x1, some w, x3] (w :: st) h) := (mw_at mj_87_67).trans (z_aload_n rfl)
theorem mj_87_68 : mc_P 87 68 = some (.getfield 145, 3, 9, 16, 0) := by decide +kernel
theorem s_87_68 {x0 x1 x2 x3 : Option Value} {o : Nat} : mw d 87 Q 68 [x0, x1, x2, x3] (.ref o :: st) h = (mg h o 9 ∧ mw d 87 Q 71 [x0, x1, x2, x3] (.int (mh_i h o 16) :: st) h) := (mw_at mj_87_68).trans (z_geti (by decide) (by decide) (Or.inl rfl))
theorem mj_87_71 : mc_P 87 71 = some (.ireturn, 1, 0, 0, 0) := by decide +kernel
theorem s_87_71 {x0 x1 x2 x3 : Option Value} {x : Int32} : mw d 87 Q 71 [x0, x1, x2, x3] ([.int x]) h = (Q (some (.int x)) h) := (mw_at mj_87_71).trans (z_iret)
theorem e_87 {a0 : Nat} {a1 : Int32} : mcall d 87 [.ref a0, .int a1] h Q = mw d 87 Q 0 [some (.ref a0), some (.int a1), none, none] [] h := by
  show mw d 87 Q 0 (me_en (mc_nl 87) _) [] h = _
  rw [nl_87]; rfl

/-! InvariantDesk$Program.shutBlock(I)I -/
theorem mj_88_0 : mc_P 88 0 = some (.aload_n 0, 1, 0, 0, 0) := by decide +kernel
theorem s_88_0 {x1 x2 x3 : Option Value} {w : Value} : mw d 88 Q 0 [some w, x1, x2, x3] (st) h = mv_a w (mw d 88 Q 1 [some w, x1, x2, x3] (w :: st) h) := (mw_at mj_88_0).trans (z_aload_n rfl)
theorem mj_88_1 : mc_P 88 1 = some (.getfield 66, 3, 4, 14, 0) := by decide +kernel
theorem s_88_1 {x0 x1 x2 x3 : Option Value} {o : Nat} : mw d 88 Q 1 [x0, x1, x2, x3] (.ref o :: st) h = (mg h o 4 ∧ mw d 88 Q 4 [x0, x1, x2, x3] (va_rf (mh_r h o 14) :: st) h) := (mw_at mj_88_1).trans (z_getr (by decide) (by decide) rfl)
theorem mj_88_4 : mc_P 88 4 = some (.aload_n 0, 1, 0, 0, 0) := by decide +kernel
theorem s_88_4 {x1 x2 x3 : Option Value} {w : Value} : mw d 88 Q 4 [some w, x1, x2, x3] (st) h = mv_a w (mw d 88 Q 5 [some w, x1, x2, x3] (w :: st) h) := (mw_at mj_88_4).trans (z_aload_n rfl)
theorem mj_88_5 : mc_P 88 5 = some (.getfield 92, 3, 4, 16, 0) := by decide +kernel
theorem s_88_5 {x0 x1 x2 x3 : Option Value} {o : Nat} : mw d 88 Q 5 [x0, x1, x2, x3] (.ref o :: st) h = (mg h o 4 ∧ mw d 88 Q 8 [x0, x1, x2, x3] (.int (mh_i h o 16) :: st) h) := (mw_at mj_88_5).trans (z_geti (by decide) (by decide) (Or.inl rfl))
theorem mj_88_8 : mc_P 88 8 = some (.iconst 1, 1, 0, 0, 0) := by decide +kernel
theorem s_88_8 {x0 x1 x2 x3 : Option Value} : mw d 88 Q 8 [x0, x1, x2, x3] (st) h = mw d 88 Q 9 [x0, x1, x2, x3] (.int 1 :: st) h := (mw_at mj_88_8).trans (z_iconst (by decide))
theorem mj_88_9 : mc_P 88 9 = some (.isub, 1, 0, 0, 0) := by decide +kernel
theorem s_88_9 {x0 x1 x2 x3 : Option Value} {x w : Int32} : mw d 88 Q 9 [x0, x1, x2, x3] (.int w :: .int x :: st) h = mw d 88 Q 10 [x0, x1, x2, x3] (.int (x - w) :: st) h := (mw_at mj_88_9).trans (z_isub)
theorem mj_88_10 : mc_P 88 10 = some (.iaload, 1, 0, 0, 0) := by decide +kernel
theorem s_88_10 {x0 x1 x2 x3 : Option Value} {o : Nat} {i : Int32} : mw d 88 Q 10 [x0, x1, x2, x3] (.int i :: .ref o :: st) h = (mg h o 100 ∧ mx i (mh_l h o) ∧ mw d 88 Q 11 [x0, x1, x2, x3] (.int (mh_i h o i.toNatClampNeg) :: st) h) := (mw_at mj_88_10).trans (z_iald)
theorem s_88_10x {x0 x1 x2 x3 : Option Value} {i : Int32} : mw d 88 Q 10 [x0, x1, x2, x3] (.int i :: .retAddr 2 :: st) h = (mx i 24 ∧ mw d 88 Q 11 [x0, x1, x2, x3] (.int (mx_row.getD i.toNatClampNeg 0) :: st) h) := (mw_at mj_88_10).trans (z_iaX)
theorem mj_88_11 : mc_P 88 11 = some (.istore_n 2, 1, 0, 0, 0) := by decide +kernel
theorem s_88_11 {x0 x1 x2 x3 : Option Value} {w : Int32} : mw d 88 Q 11 [x0, x1, x2, x3] (.int w :: st) h = mw d 88 Q 12 [x0, mk2 x1, some (.int w), x3] (st) h := (mw_at mj_88_11).trans (z_istore_n (Nat.le_of_ble_eq_true rfl) (me_s1_mk (j := 1) (w := x1) rfl))
theorem mj_88_12 : mc_P 88 12 = some (.aload_n 0, 1, 0, 0, 0) := by decide +kernel
theorem s_88_12 {x1 x2 x3 : Option Value} {w : Value} : mw d 88 Q 12 [some w, x1, x2, x3] (st) h = mv_a w (mw d 88 Q 13 [some w, x1, x2, x3] (w :: st) h) := (mw_at mj_88_12).trans (z_aload_n rfl)
theorem mj_88_13 : mc_P 88 13 = some (.getfield 31, 3, 4, 3, 0) := by decide +kernel
theorem s_88_13 {x0 x1 x2 x3 : Option Value} {o : Nat} : mw d 88 Q 13 [x0, x1, x2, x3] (.ref o :: st) h = (mg h o 4 ∧ mw d 88 Q 16 [x0, x1, x2, x3] (va_rf (mh_r h o 3) :: st) h) := (mw_at mj_88_13).trans (z_getr (by decide) (by decide) rfl)
theorem mj_88_16 : mc_P 88 16 = some (.iload_n 2, 1, 0, 0, 0) := by decide +kernel
theorem s_88_16 {x0 x1 x3 : Option Value} {w : Value} : mw d 88 Q 16 [x0, x1, some w, x3] (st) h = mv_i w (mw d 88 Q 17 [x0, x1, some w, x3] (w :: st) h) := (mw_at mj_88_16).trans (z_iload_n rfl)
theorem mj_88_17 : mc_P 88 17 = some (.aaload, 1, 0, 0, 0) := by decide +kernel
theorem s_88_17 {x0 x1 x2 x3 : Option Value} {o : Nat} {i : Int32} : mw d 88 Q 17 [x0, x1, x2, x3] (.int i :: .ref o :: st) h = (mgr h o ∧ mx i (mh_l h o) ∧ mw d 88 Q 18 [x0, x1, x2, x3] (mrd (mh_k h o) h o i.toNatClampNeg :: st) h) := (mw_at mj_88_17).trans (z_aald)
theorem mj_88_18 : mc_P 88 18 = some (.astore_n 3, 1, 0, 0, 0) := by decide +kernel
theorem s_88_18 {x0 x1 x2 x3 : Option Value} {w : Nat} : mw d 88 Q 18 [x0, x1, x2, x3] (.ref w :: st) h = mw d 88 Q 19 [x0, x1, mk2 x2, some (.ref w)] (st) h := (mw_at mj_88_18).trans (z_astore_n (Nat.le_of_ble_eq_true rfl) (me_s1_mk (j := 2) (w := x2) rfl))
theorem s_88_18n {x0 x1 x2 x3 : Option Value} : mw d 88 Q 18 [x0, x1, x2, x3] (.null :: st) h = mw d 88 Q 19 [x0, x1, mk2 x2, some (.null)] (st) h := (mw_at mj_88_18).trans (z_astoreN_n (Nat.le_of_ble_eq_true rfl) (me_s1_mk (j := 2) (w := x2) rfl))
theorem s_88_18x {x0 x1 x2 x3 : Option Value} {w : Nat} : mw d 88 Q 18 [x0, x1, x2, x3] (.retAddr w :: st) h = mw d 88 Q 19 [x0, x1, mk2 x2, some (.retAddr w)] (st) h := (mw_at mj_88_18).trans (z_astoreX_n (Nat.le_of_ble_eq_true rfl) (me_s1_mk (j := 2) (w := x2) rfl))
theorem mj_88_19 : mc_P 88 19 = some (.aload_n 3, 1, 0, 0, 0) := by decide +kernel
theorem s_88_19 {x0 x1 x2 : Option Value} {w : Value} : mw d 88 Q 19 [x0, x1, x2, some w] (st) h = mv_a w (mw d 88 Q 20 [x0, x1, x2, some w] (w :: st) h) := (mw_at mj_88_19).trans (z_aload_n rfl)
theorem mj_88_20 : mc_P 88 20 = some (.getfield 137, 3, 9, 0, 0) := by decide +kernel
theorem s_88_20 {x0 x1 x2 x3 : Option Value} {o : Nat} : mw d 88 Q 20 [x0, x1, x2, x3] (.ref o :: st) h = (mg h o 9 ∧ mw d 88 Q 23 [x0, x1, x2, x3] (.int (mh_i h o 0) :: st) h) := (mw_at mj_88_20).trans (z_geti (by decide) (by decide) (Or.inl rfl))
theorem mj_88_23 : mc_P 88 23 = some (.iconst 5, 1, 0, 0, 0) := by decide +kernel
theorem s_88_23 {x0 x1 x2 x3 : Option Value} : mw d 88 Q 23 [x0, x1, x2, x3] (st) h = mw d 88 Q 24 [x0, x1, x2, x3] (.int 5 :: st) h := (mw_at mj_88_23).trans (z_iconst (by decide))
theorem mj_88_24 : mc_P 88 24 = some (.if_icmp .ne 41, 3, 0, 0, 0) := by decide +kernel
theorem s_88_24 {x0 x1 x2 x3 : Option Value} {x w : Int32} : mw d 88 Q 24 [x0, x1, x2, x3] (.int w :: .int x :: st) h = mB (¬ x = w) (mw d 88 Q) 65 27 [x0, x1, x2, x3] st h := (mw_at mj_88_24).trans (z_icmp_ne (by decide) rfl)
theorem mj_88_27 : mc_P 88 27 = some (.aload_n 0, 1, 0, 0, 0) := by decide +kernel
theorem s_88_27 {x1 x2 x3 : Option Value} {w : Value} : mw d 88 Q 27 [some w, x1, x2, x3] (st) h = mv_a w (mw d 88 Q 28 [some w, x1, x2, x3] (w :: st) h) := (mw_at mj_88_27).trans (z_aload_n rfl)
theorem mj_88_28 : mc_P 88 28 = some (.getfield 69, 3, 4, 15, 0) := by decide +kernel
theorem s_88_28 {x0 x1 x2 x3 : Option Value} {o : Nat} : mw d 88 Q 28 [x0, x1, x2, x3] (.ref o :: st) h = (mg h o 4 ∧ mw d 88 Q 31 [x0, x1, x2, x3] (va_rf (mh_r h o 15) :: st) h) := (mw_at mj_88_28).trans (z_getr (by decide) (by decide) rfl)
theorem mj_88_31 : mc_P 88 31 = some (.aload_n 0, 1, 0, 0, 0) := by decide +kernel
theorem s_88_31 {x1 x2 x3 : Option Value} {w : Value} : mw d 88 Q 31 [some w, x1, x2, x3] (st) h = mv_a w (mw d 88 Q 32 [some w, x1, x2, x3] (w :: st) h) := (mw_at mj_88_31).trans (z_aload_n rfl)
theorem mj_88_32 : mc_P 88 32 = some (.getfield 92, 3, 4, 16, 0) := by decide +kernel
theorem s_88_32 {x0 x1 x2 x3 : Option Value} {o : Nat} : mw d 88 Q 32 [x0, x1, x2, x3] (.ref o :: st) h = (mg h o 4 ∧ mw d 88 Q 35 [x0, x1, x2, x3] (.int (mh_i h o 16) :: st) h) := (mw_at mj_88_32).trans (z_geti (by decide) (by decide) (Or.inl rfl))
theorem mj_88_35 : mc_P 88 35 = some (.iconst 1, 1, 0, 0, 0) := by decide +kernel
theorem s_88_35 {x0 x1 x2 x3 : Option Value} : mw d 88 Q 35 [x0, x1, x2, x3] (st) h = mw d 88 Q 36 [x0, x1, x2, x3] (.int 1 :: st) h := (mw_at mj_88_35).trans (z_iconst (by decide))
theorem mj_88_36 : mc_P 88 36 = some (.isub, 1, 0, 0, 0) := by decide +kernel
theorem s_88_36 {x0 x1 x2 x3 : Option Value} {x w : Int32} : mw d 88 Q 36 [x0, x1, x2, x3] (.int w :: .int x :: st) h = mw d 88 Q 37 [x0, x1, x2, x3] (.int (x - w) :: st) h := (mw_at mj_88_36).trans (z_isub)
theorem mj_88_37 : mc_P 88 37 = some (.baload, 1, 0, 0, 0) := by decide +kernel
theorem s_88_37 {x0 x1 x2 x3 : Option Value} {o : Nat} {i : Int32} : mw d 88 Q 37 [x0, x1, x2, x3] (.int i :: .ref o :: st) h = (mgb h o ∧ mx i (mh_l h o) ∧ mw d 88 Q 38 [x0, x1, x2, x3] (.int (mh_i h o i.toNatClampNeg) :: st) h) := (mw_at mj_88_37).trans (z_bald)
theorem mj_88_38 : mc_P 88 38 = some (.ifCond .ne 27, 3, 0, 0, 0) := by decide +kernel
theorem s_88_38 {x0 x1 x2 x3 : Option Value} {x : Int32} : mw d 88 Q 38 [x0, x1, x2, x3] (.int x :: st) h = mB (¬ x = 0) (mw d 88 Q) 65 41 [x0, x1, x2, x3] st h := (mw_at mj_88_38).trans (z_if_ne (by decide) rfl)
theorem mj_88_41 : mc_P 88 41 = some (.aload_n 0, 1, 0, 0, 0) := by decide +kernel
theorem s_88_41 {x1 x2 x3 : Option Value} {w : Value} : mw d 88 Q 41 [some w, x1, x2, x3] (st) h = mv_a w (mw d 88 Q 42 [some w, x1, x2, x3] (w :: st) h) := (mw_at mj_88_41).trans (z_aload_n rfl)
theorem mj_88_42 : mc_P 88 42 = some (.getfield 69, 3, 4, 15, 0) := by decide +kernel
theorem s_88_42 {x0 x1 x2 x3 : Option Value} {o : Nat} : mw d 88 Q 42 [x0, x1, x2, x3] (.ref o :: st) h = (mg h o 4 ∧ mw d 88 Q 45 [x0, x1, x2, x3] (va_rf (mh_r h o 15) :: st) h) := (mw_at mj_88_42).trans (z_getr (by decide) (by decide) rfl)
theorem mj_88_45 : mc_P 88 45 = some (.aload_n 0, 1, 0, 0, 0) := by decide +kernel
theorem s_88_45 {x1 x2 x3 : Option Value} {w : Value} : mw d 88 Q 45 [some w, x1, x2, x3] (st) h = mv_a w (mw d 88 Q 46 [some w, x1, x2, x3] (w :: st) h) := (mw_at mj_88_45).trans (z_aload_n rfl)
theorem mj_88_46 : mc_P 88 46 = some (.getfield 92, 3, 4, 16, 0) := by decide +kernel
theorem s_88_46 {x0 x1 x2 x3 : Option Value} {o : Nat} : mw d 88 Q 46 [x0, x1, x2, x3] (.ref o :: st) h = (mg h o 4 ∧ mw d 88 Q 49 [x0, x1, x2, x3] (.int (mh_i h o 16) :: st) h) := (mw_at mj_88_46).trans (z_geti (by decide) (by decide) (Or.inl rfl))
theorem mj_88_49 : mc_P 88 49 = some (.iconst 1, 1, 0, 0, 0) := by decide +kernel
theorem s_88_49 {x0 x1 x2 x3 : Option Value} : mw d 88 Q 49 [x0, x1, x2, x3] (st) h = mw d 88 Q 50 [x0, x1, x2, x3] (.int 1 :: st) h := (mw_at mj_88_49).trans (z_iconst (by decide))
theorem mj_88_50 : mc_P 88 50 = some (.isub, 1, 0, 0, 0) := by decide +kernel
theorem s_88_50 {x0 x1 x2 x3 : Option Value} {x w : Int32} : mw d 88 Q 50 [x0, x1, x2, x3] (.int w :: .int x :: st) h = mw d 88 Q 51 [x0, x1, x2, x3] (.int (x - w) :: st) h := (mw_at mj_88_50).trans (z_isub)
theorem mj_88_51 : mc_P 88 51 = some (.iconst 1, 1, 0, 0, 0) := by decide +kernel
theorem s_88_51 {x0 x1 x2 x3 : Option Value} : mw d 88 Q 51 [x0, x1, x2, x3] (st) h = mw d 88 Q 52 [x0, x1, x2, x3] (.int 1 :: st) h := (mw_at mj_88_51).trans (z_iconst (by decide))
theorem mj_88_52 : mc_P 88 52 = some (.bastore, 1, 0, 0, 0) := by decide +kernel
theorem s_88_52 {x0 x1 x2 x3 : Option Value} {o : Nat} {i w : Int32} : mw d 88 Q 52 [x0, x1, x2, x3] (.int w :: .int i :: .ref o :: st) h = (mgb h o ∧ mx i (mh_l h o) ∧ mw d 88 Q 53 [x0, x1, x2, x3] (st) (mh_si h o i.toNatClampNeg (mna h o w))) := (mw_at mj_88_52).trans (z_bast)
theorem mj_88_53 : mc_P 88 53 = some (.aload_n 0, 1, 0, 0, 0) := by decide +kernel
theorem s_88_53 {x1 x2 x3 : Option Value} {w : Value} : mw d 88 Q 53 [some w, x1, x2, x3] (st) h = mv_a w (mw d 88 Q 54 [some w, x1, x2, x3] (w :: st) h) := (mw_at mj_88_53).trans (z_aload_n rfl)
theorem mj_88_54 : mc_P 88 54 = some (.getfield 48, 3, 4, 8, 0) := by decide +kernel
theorem s_88_54 {x0 x1 x2 x3 : Option Value} {o : Nat} : mw d 88 Q 54 [x0, x1, x2, x3] (.ref o :: st) h = (mg h o 4 ∧ mw d 88 Q 57 [x0, x1, x2, x3] (va_rf (mh_r h o 8) :: st) h) := (mw_at mj_88_54).trans (z_getr (by decide) (by decide) rfl)
theorem mj_88_57 : mc_P 88 57 = some (.iload_n 2, 1, 0, 0, 0) := by decide +kernel
theorem s_88_57 {x0 x1 x3 : Option Value} {w : Value} : mw d 88 Q 57 [x0, x1, some w, x3] (st) h = mv_i w (mw d 88 Q 58 [x0, x1, some w, x3] (w :: st) h) := (mw_at mj_88_57).trans (z_iload_n rfl)
theorem mj_88_58 : mc_P 88 58 = some (.aload_n 0, 1, 0, 0, 0) := by decide +kernel
theorem s_88_58 {x1 x2 x3 : Option Value} {w : Value} : mw d 88 Q 58 [some w, x1, x2, x3] (st) h = mv_a w (mw d 88 Q 59 [some w, x1, x2, x3] (w :: st) h) := (mw_at mj_88_58).trans (z_aload_n rfl)
theorem mj_88_59 : mc_P 88 59 = some (.getfield 79, 3, 4, 2, 0) := by decide +kernel
theorem s_88_59 {x0 x1 x2 x3 : Option Value} {o : Nat} : mw d 88 Q 59 [x0, x1, x2, x3] (.ref o :: st) h = (mg h o 4 ∧ mw d 88 Q 62 [x0, x1, x2, x3] (.int (mh_i h o 2) :: st) h) := (mw_at mj_88_59).trans (z_geti (by decide) (by decide) (Or.inl rfl))
theorem mj_88_62 : mc_P 88 62 = some (.iastore, 1, 0, 0, 0) := by decide +kernel
theorem s_88_62 {x0 x1 x2 x3 : Option Value} {o : Nat} {i w : Int32} : mw d 88 Q 62 [x0, x1, x2, x3] (.int w :: .int i :: .ref o :: st) h = (mg h o 100 ∧ mx i (mh_l h o) ∧ mw d 88 Q 63 [x0, x1, x2, x3] (st) (mh_si h o i.toNatClampNeg w)) := (mw_at mj_88_62).trans (z_iast)
theorem mj_88_63 : mc_P 88 63 = some (.iload_n 1, 1, 0, 0, 0) := by decide +kernel
theorem s_88_63 {x0 x2 x3 : Option Value} {w : Value} : mw d 88 Q 63 [x0, some w, x2, x3] (st) h = mv_i w (mw d 88 Q 64 [x0, some w, x2, x3] (w :: st) h) := (mw_at mj_88_63).trans (z_iload_n rfl)
theorem mj_88_64 : mc_P 88 64 = some (.ireturn, 1, 0, 0, 0) := by decide +kernel
theorem s_88_64 {x0 x1 x2 x3 : Option Value} {x : Int32} : mw d 88 Q 64 [x0, x1, x2, x3] ([.int x]) h = (Q (some (.int x)) h) := (mw_at mj_88_64).trans (z_iret)
theorem mj_88_65 : mc_P 88 65 = some (.aload_n 0, 1, 0, 0, 0) := by decide +kernel
theorem s_88_65 {x1 x2 x3 : Option Value} {w : Value} : mw d 88 Q 65 [some w, x1, x2, x3] (st) h = mv_a w (mw d 88 Q 66 [some w, x1, x2, x3] (w :: st) h) := (mw_at mj_88_65).trans (z_aload_n rfl)
theorem mj_88_66 : mc_P 88 66 = some (.getfield 51, 3, 4, 9, 0) := by decide +kernel
theorem s_88_66 {x0 x1 x2 x3 : Option Value} {o : Nat} : mw d 88 Q 66 [x0, x1, x2, x3] (.ref o :: st) h = (mg h o 4 ∧ mw d 88 Q 69 [x0, x1, x2, x3] (va_rf (mh_r h o 9) :: st) h) := (mw_at mj_88_66).trans (z_getr (by decide) (by decide) rfl)
theorem mj_88_69 : mc_P 88 69 = some (.iload_n 2, 1, 0, 0, 0) := by decide +kernel
theorem s_88_69 {x0 x1 x3 : Option Value} {w : Value} : mw d 88 Q 69 [x0, x1, some w, x3] (st) h = mv_i w (mw d 88 Q 70 [x0, x1, some w, x3] (w :: st) h) := (mw_at mj_88_69).trans (z_iload_n rfl)
theorem mj_88_70 : mc_P 88 70 = some (.aload_n 0, 1, 0, 0, 0) := by decide +kernel
theorem s_88_70 {x1 x2 x3 : Option Value} {w : Value} : mw d 88 Q 70 [some w, x1, x2, x3] (st) h = mv_a w (mw d 88 Q 71 [some w, x1, x2, x3] (w :: st) h) := (mw_at mj_88_70).trans (z_aload_n rfl)
theorem mj_88_71 : mc_P 88 71 = some (.getfield 79, 3, 4, 2, 0) := by decide +kernel
theorem s_88_71 {x0 x1 x2 x3 : Option Value} {o : Nat} : mw d 88 Q 71 [x0, x1, x2, x3] (.ref o :: st) h = (mg h o 4 ∧ mw d 88 Q 74 [x0, x1, x2, x3] (.int (mh_i h o 2) :: st) h) := (mw_at mj_88_71).trans (z_geti (by decide) (by decide) (Or.inl rfl))
theorem mj_88_74 : mc_P 88 74 = some (.iastore, 1, 0, 0, 0) := by decide +kernel
theorem s_88_74 {x0 x1 x2 x3 : Option Value} {o : Nat} {i w : Int32} : mw d 88 Q 74 [x0, x1, x2, x3] (.int w :: .int i :: .ref o :: st) h = (mg h o 100 ∧ mx i (mh_l h o) ∧ mw d 88 Q 75 [x0, x1, x2, x3] (st) (mh_si h o i.toNatClampNeg w)) := (mw_at mj_88_74).trans (z_iast)
theorem mj_88_75 : mc_P 88 75 = some (.aload_n 0, 1, 0, 0, 0) := by decide +kernel
theorem s_88_75 {x1 x2 x3 : Option Value} {w : Value} : mw d 88 Q 75 [some w, x1, x2, x3] (st) h = mv_a w (mw d 88 Q 76 [some w, x1, x2, x3] (w :: st) h) := (mw_at mj_88_75).trans (z_aload_n rfl)
theorem mj_88_76 : mc_P 88 76 = some (.dup, 1, 0, 0, 0) := by decide +kernel
theorem s_88_76 {x0 x1 x2 x3 : Option Value} {w : Value} : mw d 88 Q 76 [x0, x1, x2, x3] (w :: st) h = (w.category = 1 ∧ mw d 88 Q 77 [x0, x1, x2, x3] (w :: w :: st) h) := (mw_at mj_88_76).trans (z_dup)
theorem mj_88_77 : mc_P 88 77 = some (.getfield 92, 3, 4, 16, 0) := by decide +kernel
theorem s_88_77 {x0 x1 x2 x3 : Option Value} {o : Nat} : mw d 88 Q 77 [x0, x1, x2, x3] (.ref o :: st) h = (mg h o 4 ∧ mw d 88 Q 80 [x0, x1, x2, x3] (.int (mh_i h o 16) :: st) h) := (mw_at mj_88_77).trans (z_geti (by decide) (by decide) (Or.inl rfl))
theorem mj_88_80 : mc_P 88 80 = some (.iconst 1, 1, 0, 0, 0) := by decide +kernel
theorem s_88_80 {x0 x1 x2 x3 : Option Value} : mw d 88 Q 80 [x0, x1, x2, x3] (st) h = mw d 88 Q 81 [x0, x1, x2, x3] (.int 1 :: st) h := (mw_at mj_88_80).trans (z_iconst (by decide))
theorem mj_88_81 : mc_P 88 81 = some (.isub, 1, 0, 0, 0) := by decide +kernel
theorem s_88_81 {x0 x1 x2 x3 : Option Value} {x w : Int32} : mw d 88 Q 81 [x0, x1, x2, x3] (.int w :: .int x :: st) h = mw d 88 Q 82 [x0, x1, x2, x3] (.int (x - w) :: st) h := (mw_at mj_88_81).trans (z_isub)
theorem mj_88_82 : mc_P 88 82 = some (.putfield 92, 3, 4, 16, 0) := by decide +kernel
theorem s_88_82 {x0 x1 x2 x3 : Option Value} {o : Nat} {w : Int32} : mw d 88 Q 82 [x0, x1, x2, x3] (.int w :: .ref o :: st) h = (mg h o 4 ∧ mw d 88 Q 85 [x0, x1, x2, x3] (st) (mh_si h o 16 w)) := (mw_at mj_88_82).trans (z_puti (by decide) (by decide) rfl)
theorem mj_88_85 : mc_P 88 85 = some (.aload_n 3, 1, 0, 0, 0) := by decide +kernel
theorem s_88_85 {x0 x1 x2 : Option Value} {w : Value} : mw d 88 Q 85 [x0, x1, x2, some w] (st) h = mv_a w (mw d 88 Q 86 [x0, x1, x2, some w] (w :: st) h) := (mw_at mj_88_85).trans (z_aload_n rfl)
theorem mj_88_86 : mc_P 88 86 = some (.getfield 137, 3, 9, 0, 0) := by decide +kernel
theorem s_88_86 {x0 x1 x2 x3 : Option Value} {o : Nat} : mw d 88 Q 86 [x0, x1, x2, x3] (.ref o :: st) h = (mg h o 9 ∧ mw d 88 Q 89 [x0, x1, x2, x3] (.int (mh_i h o 0) :: st) h) := (mw_at mj_88_86).trans (z_geti (by decide) (by decide) (Or.inl rfl))
theorem mj_88_89 : mc_P 88 89 = some (.iconst 4, 1, 0, 0, 0) := by decide +kernel
theorem s_88_89 {x0 x1 x2 x3 : Option Value} : mw d 88 Q 89 [x0, x1, x2, x3] (st) h = mw d 88 Q 90 [x0, x1, x2, x3] (.int 4 :: st) h := (mw_at mj_88_89).trans (z_iconst (by decide))
theorem mj_88_90 : mc_P 88 90 = some (.if_icmp .ne 20, 3, 0, 0, 0) := by decide +kernel
theorem s_88_90 {x0 x1 x2 x3 : Option Value} {x w : Int32} : mw d 88 Q 90 [x0, x1, x2, x3] (.int w :: .int x :: st) h = mB (¬ x = w) (mw d 88 Q) 110 93 [x0, x1, x2, x3] st h := (mw_at mj_88_90).trans (z_icmp_ne (by decide) rfl)
theorem mj_88_93 : mc_P 88 93 = some (.aload_n 0, 1, 0, 0, 0) := by decide +kernel
theorem s_88_93 {x1 x2 x3 : Option Value} {w : Value} : mw d 88 Q 93 [some w, x1, x2, x3] (st) h = mv_a w (mw d 88 Q 94 [some w, x1, x2, x3] (w :: st) h) := (mw_at mj_88_93).trans (z_aload_n rfl)
theorem mj_88_94 : mc_P 88 94 = some (.aload_n 0, 1, 0, 0, 0) := by decide +kernel
theorem s_88_94 {x1 x2 x3 : Option Value} {w : Value} : mw d 88 Q 94 [some w, x1, x2, x3] (st) h = mv_a w (mw d 88 Q 95 [some w, x1, x2, x3] (w :: st) h) := (mw_at mj_88_94).trans (z_aload_n rfl)
theorem mj_88_95 : mc_P 88 95 = some (.getfield 42, 3, 4, 6, 0) := by decide +kernel
theorem s_88_95 {x0 x1 x2 x3 : Option Value} {o : Nat} : mw d 88 Q 95 [x0, x1, x2, x3] (.ref o :: st) h = (mg h o 4 ∧ mw d 88 Q 98 [x0, x1, x2, x3] (va_rf (mh_r h o 6) :: st) h) := (mw_at mj_88_95).trans (z_getr (by decide) (by decide) rfl)
theorem mj_88_98 : mc_P 88 98 = some (.iload_n 2, 1, 0, 0, 0) := by decide +kernel
theorem s_88_98 {x0 x1 x3 : Option Value} {w : Value} : mw d 88 Q 98 [x0, x1, some w, x3] (st) h = mv_i w (mw d 88 Q 99 [x0, x1, some w, x3] (w :: st) h) := (mw_at mj_88_98).trans (z_iload_n rfl)
theorem mj_88_99 : mc_P 88 99 = some (.iaload, 1, 0, 0, 0) := by decide +kernel
theorem s_88_99 {x0 x1 x2 x3 : Option Value} {o : Nat} {i : Int32} : mw d 88 Q 99 [x0, x1, x2, x3] (.int i :: .ref o :: st) h = (mg h o 100 ∧ mx i (mh_l h o) ∧ mw d 88 Q 100 [x0, x1, x2, x3] (.int (mh_i h o i.toNatClampNeg) :: st) h) := (mw_at mj_88_99).trans (z_iald)
theorem s_88_99x {x0 x1 x2 x3 : Option Value} {i : Int32} : mw d 88 Q 99 [x0, x1, x2, x3] (.int i :: .retAddr 2 :: st) h = (mx i 24 ∧ mw d 88 Q 100 [x0, x1, x2, x3] (.int (mx_row.getD i.toNatClampNeg 0) :: st) h) := (mw_at mj_88_99).trans (z_iaX)
theorem mj_88_100 : mc_P 88 100 = some (.putfield 95, 3, 4, 17, 0) := by decide +kernel
theorem s_88_100 {x0 x1 x2 x3 : Option Value} {o : Nat} {w : Int32} : mw d 88 Q 100 [x0, x1, x2, x3] (.int w :: .ref o :: st) h = (mg h o 4 ∧ mw d 88 Q 103 [x0, x1, x2, x3] (st) (mh_si h o 17 w)) := (mw_at mj_88_100).trans (z_puti (by decide) (by decide) rfl)
theorem mj_88_103 : mc_P 88 103 = some (.aload_n 3, 1, 0, 0, 0) := by decide +kernel
theorem s_88_103 {x0 x1 x2 : Option Value} {w : Value} : mw d 88 Q 103 [x0, x1, x2, some w] (st) h = mv_a w (mw d 88 Q 104 [x0, x1, x2, some w] (w :: st) h) := (mw_at mj_88_103).trans (z_aload_n rfl)
theorem mj_88_104 : mc_P 88 104 = some (.getfield 147, 3, 9, 1, 0) := by decide +kernel
theorem s_88_104 {x0 x1 x2 x3 : Option Value} {o : Nat} : mw d 88 Q 104 [x0, x1, x2, x3] (.ref o :: st) h = (mg h o 9 ∧ mw d 88 Q 107 [x0, x1, x2, x3] (.int (mh_i h o 1) :: st) h) := (mw_at mj_88_104).trans (z_geti (by decide) (by decide) (Or.inl rfl))
theorem mj_88_107 : mc_P 88 107 = some (.iconst 1, 1, 0, 0, 0) := by decide +kernel
theorem s_88_107 {x0 x1 x2 x3 : Option Value} : mw d 88 Q 107 [x0, x1, x2, x3] (st) h = mw d 88 Q 108 [x0, x1, x2, x3] (.int 1 :: st) h := (mw_at mj_88_107).trans (z_iconst (by decide))
theorem mj_88_108 : mc_P 88 108 = some (.iadd, 1, 0, 0, 0) := by decide +kernel
theorem s_88_108 {x0 x1 x2 x3 : Option Value} {x w : Int32} : mw d 88 Q 108 [x0, x1, x2, x3] (.int w :: .int x :: st) h = mw d 88 Q 109 [x0, x1, x2, x3] (.int (x + w) :: st) h := (mw_at mj_88_108).trans (z_iadd)
theorem mj_88_109 : mc_P 88 109 = some (.ireturn, 1, 0, 0, 0) := by decide +kernel
theorem s_88_109 {x0 x1 x2 x3 : Option Value} {x : Int32} : mw d 88 Q 109 [x0, x1, x2, x3] ([.int x]) h = (Q (some (.int x)) h) := (mw_at mj_88_109).trans (z_iret)
theorem mj_88_110 : mc_P 88 110 = some (.iload_n 1, 1, 0, 0, 0) := by decide +kernel
theorem s_88_110 {x0 x2 x3 : Option Value} {w : Value} : mw d 88 Q 110 [x0, some w, x2, x3] (st) h = mv_i w (mw d 88 Q 111 [x0, some w, x2, x3] (w :: st) h) := (mw_at mj_88_110).trans (z_iload_n rfl)
theorem mj_88_111 : mc_P 88 111 = some (.ireturn, 1, 0, 0, 0) := by decide +kernel
theorem s_88_111 {x0 x1 x2 x3 : Option Value} {x : Int32} : mw d 88 Q 111 [x0, x1, x2, x3] ([.int x]) h = (Q (some (.int x)) h) := (mw_at mj_88_111).trans (z_iret)
theorem e_88 {a0 : Nat} {a1 : Int32} : mcall d 88 [.ref a0, .int a1] h Q = mw d 88 Q 0 [some (.ref a0), some (.int a1), none, none] [] h := by
  show mw d 88 Q 0 (me_en (mc_nl 88) _) [] h = _
  rw [nl_88]; rfl

/-! InvariantDesk$Program.layStatement(LInvariantDesk$Statement;)I -/
theorem mj_89_0 : mc_P 89 0 = some (.aload_n 0, 1, 0, 0, 0) := by decide +kernel
theorem s_89_0 {x1 x2 : Option Value} {w : Value} : mw d 89 Q 0 [some w, x1, x2] (st) h = mv_a w (mw d 89 Q 1 [some w, x1, x2] (w :: st) h) := (mw_at mj_89_0).trans (z_aload_n rfl)
theorem mj_89_1 : mc_P 89 1 = some (.getfield 79, 3, 4, 2, 0) := by decide +kernel
theorem s_89_1 {x0 x1 x2 : Option Value} {o : Nat} : mw d 89 Q 1 [x0, x1, x2] (.ref o :: st) h = (mg h o 4 ∧ mw d 89 Q 4 [x0, x1, x2] (.int (mh_i h o 2) :: st) h) := (mw_at mj_89_1).trans (z_geti (by decide) (by decide) (Or.inl rfl))
theorem mj_89_4 : mc_P 89 4 = some (.istore_n 2, 1, 0, 0, 0) := by decide +kernel
theorem s_89_4 {x0 x1 x2 : Option Value} {w : Int32} : mw d 89 Q 4 [x0, x1, x2] (.int w :: st) h = mw d 89 Q 5 [x0, mk2 x1, some (.int w)] (st) h := (mw_at mj_89_4).trans (z_istore_n (Nat.le_of_ble_eq_true rfl) (me_s1_mk (j := 1) (w := x1) rfl))
theorem mj_89_5 : mc_P 89 5 = some (.aload_n 0, 1, 0, 0, 0) := by decide +kernel
theorem s_89_5 {x1 x2 : Option Value} {w : Value} : mw d 89 Q 5 [some w, x1, x2] (st) h = mv_a w (mw d 89 Q 6 [some w, x1, x2] (w :: st) h) := (mw_at mj_89_5).trans (z_aload_n rfl)
theorem mj_89_6 : mc_P 89 6 = some (.aload_n 1, 1, 0, 0, 0) := by decide +kernel
theorem s_89_6 {x0 x2 : Option Value} {w : Value} : mw d 89 Q 6 [x0, some w, x2] (st) h = mv_a w (mw d 89 Q 7 [x0, some w, x2] (w :: st) h) := (mw_at mj_89_6).trans (z_aload_n rfl)
theorem mj_89_7 : mc_P 89 7 = some (.invokevirtual 150, 3, 90, 4, 2) := by decide +kernel
theorem s_89_7 {x0 x1 x2 : Option Value} {o : Nat} {a1 : Value} : mw (d + 1) 89 Q 7 [x0, x1, x2] (a1 :: .ref o :: st) h = (mg h o 4 ∧ mca st 8 ∧ mca [.ref o, a1] 5 ∧ mcall d 90 [.ref o, a1] h (mK (d + 1) 89 Q 10 [x0, x1, x2] st)) := (mw_at mj_89_7).trans ((z_invv (As := [a1]) (by decide) rfl rfl).trans (congrArg (And _) (congrArg (And _) (mC_nl nl_90))))
theorem mj_89_10 : mc_P 89 10 = some (.aload_n 0, 1, 0, 0, 0) := by decide +kernel
theorem s_89_10 {x1 x2 : Option Value} {w : Value} : mw d 89 Q 10 [some w, x1, x2] (st) h = mv_a w (mw d 89 Q 11 [some w, x1, x2] (w :: st) h) := (mw_at mj_89_10).trans (z_aload_n rfl)
theorem mj_89_11 : mc_P 89 11 = some (.getfield 98, 3, 4, 18, 0) := by decide +kernel
theorem s_89_11 {x0 x1 x2 : Option Value} {o : Nat} : mw d 89 Q 11 [x0, x1, x2] (.ref o :: st) h = (mg h o 4 ∧ mw d 89 Q 14 [x0, x1, x2] (.int (mh_i h o 18) :: st) h) := (mw_at mj_89_11).trans (z_geti (by decide) (by decide) (Or.inl rfl))
theorem mj_89_14 : mc_P 89 14 = some (.ifCond .eq 5, 3, 0, 0, 0) := by decide +kernel
theorem s_89_14 {x0 x1 x2 : Option Value} {x : Int32} : mw d 89 Q 14 [x0, x1, x2] (.int x :: st) h = mB (x = 0) (mw d 89 Q) 19 17 [x0, x1, x2] st h := (mw_at mj_89_14).trans (z_if_eq (by decide) rfl)
theorem mj_89_17 : mc_P 89 17 = some (.iconst 0, 1, 0, 0, 0) := by decide +kernel
theorem s_89_17 {x0 x1 x2 : Option Value} : mw d 89 Q 17 [x0, x1, x2] (st) h = mw d 89 Q 18 [x0, x1, x2] (.int 0 :: st) h := (mw_at mj_89_17).trans (z_iconst (by decide))
theorem mj_89_18 : mc_P 89 18 = some (.ireturn, 1, 0, 0, 0) := by decide +kernel
theorem s_89_18 {x0 x1 x2 : Option Value} {x : Int32} : mw d 89 Q 18 [x0, x1, x2] ([.int x]) h = (Q (some (.int x)) h) := (mw_at mj_89_18).trans (z_iret)
theorem mj_89_19 : mc_P 89 19 = some (.aload_n 0, 1, 0, 0, 0) := by decide +kernel
theorem s_89_19 {x1 x2 : Option Value} {w : Value} : mw d 89 Q 19 [some w, x1, x2] (st) h = mv_a w (mw d 89 Q 20 [some w, x1, x2] (w :: st) h) := (mw_at mj_89_19).trans (z_aload_n rfl)
theorem mj_89_20 : mc_P 89 20 = some (.getfield 31, 3, 4, 3, 0) := by decide +kernel
theorem s_89_20 {x0 x1 x2 : Option Value} {o : Nat} : mw d 89 Q 20 [x0, x1, x2] (.ref o :: st) h = (mg h o 4 ∧ mw d 89 Q 23 [x0, x1, x2] (va_rf (mh_r h o 3) :: st) h) := (mw_at mj_89_20).trans (z_getr (by decide) (by decide) rfl)
theorem mj_89_23 : mc_P 89 23 = some (.iload_n 2, 1, 0, 0, 0) := by decide +kernel
theorem s_89_23 {x0 x1 : Option Value} {w : Value} : mw d 89 Q 23 [x0, x1, some w] (st) h = mv_i w (mw d 89 Q 24 [x0, x1, some w] (w :: st) h) := (mw_at mj_89_23).trans (z_iload_n rfl)
theorem mj_89_24 : mc_P 89 24 = some (.aload_n 1, 1, 0, 0, 0) := by decide +kernel
theorem s_89_24 {x0 x2 : Option Value} {w : Value} : mw d 89 Q 24 [x0, some w, x2] (st) h = mv_a w (mw d 89 Q 25 [x0, some w, x2] (w :: st) h) := (mw_at mj_89_24).trans (z_aload_n rfl)
theorem mj_89_25 : mc_P 89 25 = some (.aastore, 1, 0, 0, 0) := by decide +kernel
theorem s_89_25 {x0 x1 x2 : Option Value} {o w : Nat} {i : Int32} : mw d 89 Q 25 [x0, x1, x2] (.ref w :: .int i :: .ref o :: st) h = (mgr h o ∧ mx i (mh_l h o) ∧ mh_k h o < 107 ∧ mg h w (me_ac (mh_k h o)) ∧ mw d 89 Q 26 [x0, x1, x2] (st) (mh_sr h o i.toNatClampNeg (some w))) := (mw_at mj_89_25).trans (z_aast)
theorem s_89_25n {x0 x1 x2 : Option Value} {o : Nat} {i : Int32} : mw d 89 Q 25 [x0, x1, x2] (.null :: .int i :: .ref o :: st) h = (mgr h o ∧ mx i (mh_l h o) ∧ mh_k h o < 107 ∧ mw d 89 Q 26 [x0, x1, x2] (st) (mh_sr h o i.toNatClampNeg none)) := (mw_at mj_89_25).trans (z_aastN)
theorem mj_89_26 : mc_P 89 26 = some (.aload_n 0, 1, 0, 0, 0) := by decide +kernel
theorem s_89_26 {x1 x2 : Option Value} {w : Value} : mw d 89 Q 26 [some w, x1, x2] (st) h = mv_a w (mw d 89 Q 27 [some w, x1, x2] (w :: st) h) := (mw_at mj_89_26).trans (z_aload_n rfl)
theorem mj_89_27 : mc_P 89 27 = some (.getfield 35, 3, 4, 4, 0) := by decide +kernel
theorem s_89_27 {x0 x1 x2 : Option Value} {o : Nat} : mw d 89 Q 27 [x0, x1, x2] (.ref o :: st) h = (mg h o 4 ∧ mw d 89 Q 30 [x0, x1, x2] (va_rf (mh_r h o 4) :: st) h) := (mw_at mj_89_27).trans (z_getr (by decide) (by decide) rfl)
theorem mj_89_30 : mc_P 89 30 = some (.iload_n 2, 1, 0, 0, 0) := by decide +kernel
theorem s_89_30 {x0 x1 : Option Value} {w : Value} : mw d 89 Q 30 [x0, x1, some w] (st) h = mv_i w (mw d 89 Q 31 [x0, x1, some w] (w :: st) h) := (mw_at mj_89_30).trans (z_iload_n rfl)
theorem mj_89_31 : mc_P 89 31 = some (.aload_n 0, 1, 0, 0, 0) := by decide +kernel
theorem s_89_31 {x1 x2 : Option Value} {w : Value} : mw d 89 Q 31 [some w, x1, x2] (st) h = mv_a w (mw d 89 Q 32 [some w, x1, x2] (w :: st) h) := (mw_at mj_89_31).trans (z_aload_n rfl)
theorem mj_89_32 : mc_P 89 32 = some (.getfield 95, 3, 4, 17, 0) := by decide +kernel
theorem s_89_32 {x0 x1 x2 : Option Value} {o : Nat} : mw d 89 Q 32 [x0, x1, x2] (.ref o :: st) h = (mg h o 4 ∧ mw d 89 Q 35 [x0, x1, x2] (.int (mh_i h o 17) :: st) h) := (mw_at mj_89_32).trans (z_geti (by decide) (by decide) (Or.inl rfl))
theorem mj_89_35 : mc_P 89 35 = some (.iconst (-1), 1, 0, 0, 0) := by decide +kernel
theorem s_89_35 {x0 x1 x2 : Option Value} : mw d 89 Q 35 [x0, x1, x2] (st) h = mw d 89 Q 36 [x0, x1, x2] (.int (-1) :: st) h := (mw_at mj_89_35).trans (z_iconst (by decide))
theorem mj_89_36 : mc_P 89 36 = some (.if_icmp .ne 7, 3, 0, 0, 0) := by decide +kernel
theorem s_89_36 {x0 x1 x2 : Option Value} {x w : Int32} : mw d 89 Q 36 [x0, x1, x2] (.int w :: .int x :: st) h = mB (¬ x = w) (mw d 89 Q) 43 39 [x0, x1, x2] st h := (mw_at mj_89_36).trans (z_icmp_ne (by decide) rfl)
theorem mj_89_39 : mc_P 89 39 = some (.iconst 0, 1, 0, 0, 0) := by decide +kernel
theorem s_89_39 {x0 x1 x2 : Option Value} : mw d 89 Q 39 [x0, x1, x2] (st) h = mw d 89 Q 40 [x0, x1, x2] (.int 0 :: st) h := (mw_at mj_89_39).trans (z_iconst (by decide))
theorem mj_89_40 : mc_P 89 40 = some (.goto 11, 3, 0, 0, 0) := by decide +kernel
theorem s_89_40 {x0 x1 x2 : Option Value} : mw d 89 Q 40 [x0, x1, x2] (st) h = mw d 89 Q 51 [x0, x1, x2] (st) h := (mw_at mj_89_40).trans (z_goto (by decide))
theorem mj_89_43 : mc_P 89 43 = some (.aload_n 0, 1, 0, 0, 0) := by decide +kernel
theorem s_89_43 {x1 x2 : Option Value} {w : Value} : mw d 89 Q 43 [some w, x1, x2] (st) h = mv_a w (mw d 89 Q 44 [some w, x1, x2] (w :: st) h) := (mw_at mj_89_43).trans (z_aload_n rfl)
theorem mj_89_44 : mc_P 89 44 = some (.aload_n 0, 1, 0, 0, 0) := by decide +kernel
theorem s_89_44 {x1 x2 : Option Value} {w : Value} : mw d 89 Q 44 [some w, x1, x2] (st) h = mv_a w (mw d 89 Q 45 [some w, x1, x2] (w :: st) h) := (mw_at mj_89_44).trans (z_aload_n rfl)
theorem mj_89_45 : mc_P 89 45 = some (.getfield 95, 3, 4, 17, 0) := by decide +kernel
theorem s_89_45 {x0 x1 x2 : Option Value} {o : Nat} : mw d 89 Q 45 [x0, x1, x2] (.ref o :: st) h = (mg h o 4 ∧ mw d 89 Q 48 [x0, x1, x2] (.int (mh_i h o 17) :: st) h) := (mw_at mj_89_45).trans (z_geti (by decide) (by decide) (Or.inl rfl))
theorem mj_89_48 : mc_P 89 48 = some (.invokevirtual 154, 3, 80, 4, 2) := by decide +kernel
theorem s_89_48 {x0 x1 x2 : Option Value} {o : Nat} {a1 : Value} : mw (d + 1) 89 Q 48 [x0, x1, x2] (a1 :: .ref o :: st) h = (mg h o 4 ∧ mca st 8 ∧ mca [.ref o, a1] 2 ∧ mcall d 80 [.ref o, a1] h (mK (d + 1) 89 Q 51 [x0, x1, x2] st)) := (mw_at mj_89_48).trans ((z_invv (As := [a1]) (by decide) rfl rfl).trans (congrArg (And _) (congrArg (And _) (mC_nl nl_80))))
theorem mj_89_51 : mc_P 89 51 = some (.iastore, 1, 0, 0, 0) := by decide +kernel
theorem s_89_51 {x0 x1 x2 : Option Value} {o : Nat} {i w : Int32} : mw d 89 Q 51 [x0, x1, x2] (.int w :: .int i :: .ref o :: st) h = (mg h o 100 ∧ mx i (mh_l h o) ∧ mw d 89 Q 52 [x0, x1, x2] (st) (mh_si h o i.toNatClampNeg w)) := (mw_at mj_89_51).trans (z_iast)
theorem mj_89_52 : mc_P 89 52 = some (.aload_n 0, 1, 0, 0, 0) := by decide +kernel
theorem s_89_52 {x1 x2 : Option Value} {w : Value} : mw d 89 Q 52 [some w, x1, x2] (st) h = mv_a w (mw d 89 Q 53 [some w, x1, x2] (w :: st) h) := (mw_at mj_89_52).trans (z_aload_n rfl)
theorem mj_89_53 : mc_P 89 53 = some (.getfield 39, 3, 4, 5, 0) := by decide +kernel
theorem s_89_53 {x0 x1 x2 : Option Value} {o : Nat} : mw d 89 Q 53 [x0, x1, x2] (.ref o :: st) h = (mg h o 4 ∧ mw d 89 Q 56 [x0, x1, x2] (va_rf (mh_r h o 5) :: st) h) := (mw_at mj_89_53).trans (z_getr (by decide) (by decide) rfl)
theorem mj_89_56 : mc_P 89 56 = some (.iload_n 2, 1, 0, 0, 0) := by decide +kernel
theorem s_89_56 {x0 x1 : Option Value} {w : Value} : mw d 89 Q 56 [x0, x1, some w] (st) h = mv_i w (mw d 89 Q 57 [x0, x1, some w] (w :: st) h) := (mw_at mj_89_56).trans (z_iload_n rfl)
theorem mj_89_57 : mc_P 89 57 = some (.aload_n 0, 1, 0, 0, 0) := by decide +kernel
theorem s_89_57 {x1 x2 : Option Value} {w : Value} : mw d 89 Q 57 [some w, x1, x2] (st) h = mv_a w (mw d 89 Q 58 [some w, x1, x2] (w :: st) h) := (mw_at mj_89_57).trans (z_aload_n rfl)
theorem mj_89_58 : mc_P 89 58 = some (.getfield 95, 3, 4, 17, 0) := by decide +kernel
theorem s_89_58 {x0 x1 x2 : Option Value} {o : Nat} : mw d 89 Q 58 [x0, x1, x2] (.ref o :: st) h = (mg h o 4 ∧ mw d 89 Q 61 [x0, x1, x2] (.int (mh_i h o 17) :: st) h) := (mw_at mj_89_58).trans (z_geti (by decide) (by decide) (Or.inl rfl))
theorem mj_89_61 : mc_P 89 61 = some (.iconst (-1), 1, 0, 0, 0) := by decide +kernel
theorem s_89_61 {x0 x1 x2 : Option Value} : mw d 89 Q 61 [x0, x1, x2] (st) h = mw d 89 Q 62 [x0, x1, x2] (.int (-1) :: st) h := (mw_at mj_89_61).trans (z_iconst (by decide))
theorem mj_89_62 : mc_P 89 62 = some (.if_icmp .ne 7, 3, 0, 0, 0) := by decide +kernel
theorem s_89_62 {x0 x1 x2 : Option Value} {x w : Int32} : mw d 89 Q 62 [x0, x1, x2] (.int w :: .int x :: st) h = mB (¬ x = w) (mw d 89 Q) 69 65 [x0, x1, x2] st h := (mw_at mj_89_62).trans (z_icmp_ne (by decide) rfl)
theorem mj_89_65 : mc_P 89 65 = some (.iconst 0, 1, 0, 0, 0) := by decide +kernel
theorem s_89_65 {x0 x1 x2 : Option Value} : mw d 89 Q 65 [x0, x1, x2] (st) h = mw d 89 Q 66 [x0, x1, x2] (.int 0 :: st) h := (mw_at mj_89_65).trans (z_iconst (by decide))
theorem mj_89_66 : mc_P 89 66 = some (.goto 11, 3, 0, 0, 0) := by decide +kernel
theorem s_89_66 {x0 x1 x2 : Option Value} : mw d 89 Q 66 [x0, x1, x2] (st) h = mw d 89 Q 77 [x0, x1, x2] (st) h := (mw_at mj_89_66).trans (z_goto (by decide))
theorem mj_89_69 : mc_P 89 69 = some (.aload_n 0, 1, 0, 0, 0) := by decide +kernel
theorem s_89_69 {x1 x2 : Option Value} {w : Value} : mw d 89 Q 69 [some w, x1, x2] (st) h = mv_a w (mw d 89 Q 70 [some w, x1, x2] (w :: st) h) := (mw_at mj_89_69).trans (z_aload_n rfl)
theorem mj_89_70 : mc_P 89 70 = some (.aload_n 0, 1, 0, 0, 0) := by decide +kernel
theorem s_89_70 {x1 x2 : Option Value} {w : Value} : mw d 89 Q 70 [some w, x1, x2] (st) h = mv_a w (mw d 89 Q 71 [some w, x1, x2] (w :: st) h) := (mw_at mj_89_70).trans (z_aload_n rfl)
theorem mj_89_71 : mc_P 89 71 = some (.getfield 95, 3, 4, 17, 0) := by decide +kernel
theorem s_89_71 {x0 x1 x2 : Option Value} {o : Nat} : mw d 89 Q 71 [x0, x1, x2] (.ref o :: st) h = (mg h o 4 ∧ mw d 89 Q 74 [x0, x1, x2] (.int (mh_i h o 17) :: st) h) := (mw_at mj_89_71).trans (z_geti (by decide) (by decide) (Or.inl rfl))
theorem mj_89_74 : mc_P 89 74 = some (.invokevirtual 157, 3, 81, 4, 2) := by decide +kernel
theorem s_89_74 {x0 x1 x2 : Option Value} {o : Nat} {a1 : Value} : mw (d + 1) 89 Q 74 [x0, x1, x2] (a1 :: .ref o :: st) h = (mg h o 4 ∧ mca st 8 ∧ mca [.ref o, a1] 2 ∧ mcall d 81 [.ref o, a1] h (mK (d + 1) 89 Q 77 [x0, x1, x2] st)) := (mw_at mj_89_74).trans ((z_invv (As := [a1]) (by decide) rfl rfl).trans (congrArg (And _) (congrArg (And _) (mC_nl nl_81))))
theorem mj_89_77 : mc_P 89 77 = some (.iastore, 1, 0, 0, 0) := by decide +kernel
theorem s_89_77 {x0 x1 x2 : Option Value} {o : Nat} {i w : Int32} : mw d 89 Q 77 [x0, x1, x2] (.int w :: .int i :: .ref o :: st) h = (mg h o 100 ∧ mx i (mh_l h o) ∧ mw d 89 Q 78 [x0, x1, x2] (st) (mh_si h o i.toNatClampNeg w)) := (mw_at mj_89_77).trans (z_iast)
theorem mj_89_78 : mc_P 89 78 = some (.aload_n 0, 1, 0, 0, 0) := by decide +kernel
theorem s_89_78 {x1 x2 : Option Value} {w : Value} : mw d 89 Q 78 [some w, x1, x2] (st) h = mv_a w (mw d 89 Q 79 [some w, x1, x2] (w :: st) h) := (mw_at mj_89_78).trans (z_aload_n rfl)
theorem mj_89_79 : mc_P 89 79 = some (.getfield 42, 3, 4, 6, 0) := by decide +kernel
theorem s_89_79 {x0 x1 x2 : Option Value} {o : Nat} : mw d 89 Q 79 [x0, x1, x2] (.ref o :: st) h = (mg h o 4 ∧ mw d 89 Q 82 [x0, x1, x2] (va_rf (mh_r h o 6) :: st) h) := (mw_at mj_89_79).trans (z_getr (by decide) (by decide) rfl)
theorem mj_89_82 : mc_P 89 82 = some (.iload_n 2, 1, 0, 0, 0) := by decide +kernel
theorem s_89_82 {x0 x1 : Option Value} {w : Value} : mw d 89 Q 82 [x0, x1, some w] (st) h = mv_i w (mw d 89 Q 83 [x0, x1, some w] (w :: st) h) := (mw_at mj_89_82).trans (z_iload_n rfl)
theorem mj_89_83 : mc_P 89 83 = some (.aload_n 0, 1, 0, 0, 0) := by decide +kernel
theorem s_89_83 {x1 x2 : Option Value} {w : Value} : mw d 89 Q 83 [some w, x1, x2] (st) h = mv_a w (mw d 89 Q 84 [some w, x1, x2] (w :: st) h) := (mw_at mj_89_83).trans (z_aload_n rfl)
theorem mj_89_84 : mc_P 89 84 = some (.getfield 95, 3, 4, 17, 0) := by decide +kernel
theorem s_89_84 {x0 x1 x2 : Option Value} {o : Nat} : mw d 89 Q 84 [x0, x1, x2] (.ref o :: st) h = (mg h o 4 ∧ mw d 89 Q 87 [x0, x1, x2] (.int (mh_i h o 17) :: st) h) := (mw_at mj_89_84).trans (z_geti (by decide) (by decide) (Or.inl rfl))
theorem mj_89_87 : mc_P 89 87 = some (.iastore, 1, 0, 0, 0) := by decide +kernel
theorem s_89_87 {x0 x1 x2 : Option Value} {o : Nat} {i w : Int32} : mw d 89 Q 87 [x0, x1, x2] (.int w :: .int i :: .ref o :: st) h = (mg h o 100 ∧ mx i (mh_l h o) ∧ mw d 89 Q 88 [x0, x1, x2] (st) (mh_si h o i.toNatClampNeg w)) := (mw_at mj_89_87).trans (z_iast)
theorem mj_89_88 : mc_P 89 88 = some (.aload_n 0, 1, 0, 0, 0) := by decide +kernel
theorem s_89_88 {x1 x2 : Option Value} {w : Value} : mw d 89 Q 88 [some w, x1, x2] (st) h = mv_a w (mw d 89 Q 89 [some w, x1, x2] (w :: st) h) := (mw_at mj_89_88).trans (z_aload_n rfl)
theorem mj_89_89 : mc_P 89 89 = some (.getfield 45, 3, 4, 7, 0) := by decide +kernel
theorem s_89_89 {x0 x1 x2 : Option Value} {o : Nat} : mw d 89 Q 89 [x0, x1, x2] (.ref o :: st) h = (mg h o 4 ∧ mw d 89 Q 92 [x0, x1, x2] (va_rf (mh_r h o 7) :: st) h) := (mw_at mj_89_89).trans (z_getr (by decide) (by decide) rfl)
theorem mj_89_92 : mc_P 89 92 = some (.iload_n 2, 1, 0, 0, 0) := by decide +kernel
theorem s_89_92 {x0 x1 : Option Value} {w : Value} : mw d 89 Q 92 [x0, x1, some w] (st) h = mv_i w (mw d 89 Q 93 [x0, x1, some w] (w :: st) h) := (mw_at mj_89_92).trans (z_iload_n rfl)
theorem mj_89_93 : mc_P 89 93 = some (.aload_n 0, 1, 0, 0, 0) := by decide +kernel
theorem s_89_93 {x1 x2 : Option Value} {w : Value} : mw d 89 Q 93 [some w, x1, x2] (st) h = mv_a w (mw d 89 Q 94 [some w, x1, x2] (w :: st) h) := (mw_at mj_89_93).trans (z_aload_n rfl)
theorem mj_89_94 : mc_P 89 94 = some (.getfield 92, 3, 4, 16, 0) := by decide +kernel
theorem s_89_94 {x0 x1 x2 : Option Value} {o : Nat} : mw d 89 Q 94 [x0, x1, x2] (.ref o :: st) h = (mg h o 4 ∧ mw d 89 Q 97 [x0, x1, x2] (.int (mh_i h o 16) :: st) h) := (mw_at mj_89_94).trans (z_geti (by decide) (by decide) (Or.inl rfl))
theorem mj_89_97 : mc_P 89 97 = some (.ifCond .ne 7, 3, 0, 0, 0) := by decide +kernel
theorem s_89_97 {x0 x1 x2 : Option Value} {x : Int32} : mw d 89 Q 97 [x0, x1, x2] (.int x :: st) h = mB (¬ x = 0) (mw d 89 Q) 104 100 [x0, x1, x2] st h := (mw_at mj_89_97).trans (z_if_ne (by decide) rfl)
theorem mj_89_100 : mc_P 89 100 = some (.iconst (-1), 1, 0, 0, 0) := by decide +kernel
theorem s_89_100 {x0 x1 x2 : Option Value} : mw d 89 Q 100 [x0, x1, x2] (st) h = mw d 89 Q 101 [x0, x1, x2] (.int (-1) :: st) h := (mw_at mj_89_100).trans (z_iconst (by decide))
theorem mj_89_101 : mc_P 89 101 = some (.goto 14, 3, 0, 0, 0) := by decide +kernel
theorem s_89_101 {x0 x1 x2 : Option Value} : mw d 89 Q 101 [x0, x1, x2] (st) h = mw d 89 Q 115 [x0, x1, x2] (st) h := (mw_at mj_89_101).trans (z_goto (by decide))
theorem mj_89_104 : mc_P 89 104 = some (.aload_n 0, 1, 0, 0, 0) := by decide +kernel
theorem s_89_104 {x1 x2 : Option Value} {w : Value} : mw d 89 Q 104 [some w, x1, x2] (st) h = mv_a w (mw d 89 Q 105 [some w, x1, x2] (w :: st) h) := (mw_at mj_89_104).trans (z_aload_n rfl)
theorem mj_89_105 : mc_P 89 105 = some (.getfield 66, 3, 4, 14, 0) := by decide +kernel
theorem s_89_105 {x0 x1 x2 : Option Value} {o : Nat} : mw d 89 Q 105 [x0, x1, x2] (.ref o :: st) h = (mg h o 4 ∧ mw d 89 Q 108 [x0, x1, x2] (va_rf (mh_r h o 14) :: st) h) := (mw_at mj_89_105).trans (z_getr (by decide) (by decide) rfl)
theorem mj_89_108 : mc_P 89 108 = some (.aload_n 0, 1, 0, 0, 0) := by decide +kernel
theorem s_89_108 {x1 x2 : Option Value} {w : Value} : mw d 89 Q 108 [some w, x1, x2] (st) h = mv_a w (mw d 89 Q 109 [some w, x1, x2] (w :: st) h) := (mw_at mj_89_108).trans (z_aload_n rfl)
theorem mj_89_109 : mc_P 89 109 = some (.getfield 92, 3, 4, 16, 0) := by decide +kernel
theorem s_89_109 {x0 x1 x2 : Option Value} {o : Nat} : mw d 89 Q 109 [x0, x1, x2] (.ref o :: st) h = (mg h o 4 ∧ mw d 89 Q 112 [x0, x1, x2] (.int (mh_i h o 16) :: st) h) := (mw_at mj_89_109).trans (z_geti (by decide) (by decide) (Or.inl rfl))
theorem mj_89_112 : mc_P 89 112 = some (.iconst 1, 1, 0, 0, 0) := by decide +kernel
theorem s_89_112 {x0 x1 x2 : Option Value} : mw d 89 Q 112 [x0, x1, x2] (st) h = mw d 89 Q 113 [x0, x1, x2] (.int 1 :: st) h := (mw_at mj_89_112).trans (z_iconst (by decide))
theorem mj_89_113 : mc_P 89 113 = some (.isub, 1, 0, 0, 0) := by decide +kernel
theorem s_89_113 {x0 x1 x2 : Option Value} {x w : Int32} : mw d 89 Q 113 [x0, x1, x2] (.int w :: .int x :: st) h = mw d 89 Q 114 [x0, x1, x2] (.int (x - w) :: st) h := (mw_at mj_89_113).trans (z_isub)
theorem mj_89_114 : mc_P 89 114 = some (.iaload, 1, 0, 0, 0) := by decide +kernel
theorem s_89_114 {x0 x1 x2 : Option Value} {o : Nat} {i : Int32} : mw d 89 Q 114 [x0, x1, x2] (.int i :: .ref o :: st) h = (mg h o 100 ∧ mx i (mh_l h o) ∧ mw d 89 Q 115 [x0, x1, x2] (.int (mh_i h o i.toNatClampNeg) :: st) h) := (mw_at mj_89_114).trans (z_iald)
theorem mj_89_115 : mc_P 89 115 = some (.iastore, 1, 0, 0, 0) := by decide +kernel
theorem s_89_115 {x0 x1 x2 : Option Value} {o : Nat} {i w : Int32} : mw d 89 Q 115 [x0, x1, x2] (.int w :: .int i :: .ref o :: st) h = (mg h o 100 ∧ mx i (mh_l h o) ∧ mw d 89 Q 116 [x0, x1, x2] (st) (mh_si h o i.toNatClampNeg w)) := (mw_at mj_89_115).trans (z_iast)
theorem mj_89_116 : mc_P 89 116 = some (.aload_n 0, 1, 0, 0, 0) := by decide +kernel
theorem s_89_116 {x1 x2 : Option Value} {w : Value} : mw d 89 Q 116 [some w, x1, x2] (st) h = mv_a w (mw d 89 Q 117 [some w, x1, x2] (w :: st) h) := (mw_at mj_89_116).trans (z_aload_n rfl)
theorem mj_89_117 : mc_P 89 117 = some (.getfield 51, 3, 4, 9, 0) := by decide +kernel
theorem s_89_117 {x0 x1 x2 : Option Value} {o : Nat} : mw d 89 Q 117 [x0, x1, x2] (.ref o :: st) h = (mg h o 4 ∧ mw d 89 Q 120 [x0, x1, x2] (va_rf (mh_r h o 9) :: st) h) := (mw_at mj_89_117).trans (z_getr (by decide) (by decide) rfl)
theorem mj_89_120 : mc_P 89 120 = some (.iload_n 2, 1, 0, 0, 0) := by decide +kernel
theorem s_89_120 {x0 x1 : Option Value} {w : Value} : mw d 89 Q 120 [x0, x1, some w] (st) h = mv_i w (mw d 89 Q 121 [x0, x1, some w] (w :: st) h) := (mw_at mj_89_120).trans (z_iload_n rfl)
theorem mj_89_121 : mc_P 89 121 = some (.iload_n 2, 1, 0, 0, 0) := by decide +kernel
theorem s_89_121 {x0 x1 : Option Value} {w : Value} : mw d 89 Q 121 [x0, x1, some w] (st) h = mv_i w (mw d 89 Q 122 [x0, x1, some w] (w :: st) h) := (mw_at mj_89_121).trans (z_iload_n rfl)
theorem mj_89_122 : mc_P 89 122 = some (.iconst 1, 1, 0, 0, 0) := by decide +kernel
theorem s_89_122 {x0 x1 x2 : Option Value} : mw d 89 Q 122 [x0, x1, x2] (st) h = mw d 89 Q 123 [x0, x1, x2] (.int 1 :: st) h := (mw_at mj_89_122).trans (z_iconst (by decide))
theorem mj_89_123 : mc_P 89 123 = some (.iadd, 1, 0, 0, 0) := by decide +kernel
theorem s_89_123 {x0 x1 x2 : Option Value} {x w : Int32} : mw d 89 Q 123 [x0, x1, x2] (.int w :: .int x :: st) h = mw d 89 Q 124 [x0, x1, x2] (.int (x + w) :: st) h := (mw_at mj_89_123).trans (z_iadd)
theorem mj_89_124 : mc_P 89 124 = some (.iastore, 1, 0, 0, 0) := by decide +kernel
theorem s_89_124 {x0 x1 x2 : Option Value} {o : Nat} {i w : Int32} : mw d 89 Q 124 [x0, x1, x2] (.int w :: .int i :: .ref o :: st) h = (mg h o 100 ∧ mx i (mh_l h o) ∧ mw d 89 Q 125 [x0, x1, x2] (st) (mh_si h o i.toNatClampNeg w)) := (mw_at mj_89_124).trans (z_iast)
theorem mj_89_125 : mc_P 89 125 = some (.aload_n 0, 1, 0, 0, 0) := by decide +kernel
theorem s_89_125 {x1 x2 : Option Value} {w : Value} : mw d 89 Q 125 [some w, x1, x2] (st) h = mv_a w (mw d 89 Q 126 [some w, x1, x2] (w :: st) h) := (mw_at mj_89_125).trans (z_aload_n rfl)
theorem mj_89_126 : mc_P 89 126 = some (.dup, 1, 0, 0, 0) := by decide +kernel
theorem s_89_126 {x0 x1 x2 : Option Value} {w : Value} : mw d 89 Q 126 [x0, x1, x2] (w :: st) h = (w.category = 1 ∧ mw d 89 Q 127 [x0, x1, x2] (w :: w :: st) h) := (mw_at mj_89_126).trans (z_dup)
theorem mj_89_127 : mc_P 89 127 = some (.getfield 79, 3, 4, 2, 0) := by decide +kernel
theorem s_89_127 {x0 x1 x2 : Option Value} {o : Nat} : mw d 89 Q 127 [x0, x1, x2] (.ref o :: st) h = (mg h o 4 ∧ mw d 89 Q 130 [x0, x1, x2] (.int (mh_i h o 2) :: st) h) := (mw_at mj_89_127).trans (z_geti (by decide) (by decide) (Or.inl rfl))
theorem mj_89_130 : mc_P 89 130 = some (.iconst 1, 1, 0, 0, 0) := by decide +kernel
theorem s_89_130 {x0 x1 x2 : Option Value} : mw d 89 Q 130 [x0, x1, x2] (st) h = mw d 89 Q 131 [x0, x1, x2] (.int 1 :: st) h := (mw_at mj_89_130).trans (z_iconst (by decide))
theorem mj_89_131 : mc_P 89 131 = some (.iadd, 1, 0, 0, 0) := by decide +kernel
theorem s_89_131 {x0 x1 x2 : Option Value} {x w : Int32} : mw d 89 Q 131 [x0, x1, x2] (.int w :: .int x :: st) h = mw d 89 Q 132 [x0, x1, x2] (.int (x + w) :: st) h := (mw_at mj_89_131).trans (z_iadd)
theorem mj_89_132 : mc_P 89 132 = some (.putfield 79, 3, 4, 2, 0) := by decide +kernel
theorem s_89_132 {x0 x1 x2 : Option Value} {o : Nat} {w : Int32} : mw d 89 Q 132 [x0, x1, x2] (.int w :: .ref o :: st) h = (mg h o 4 ∧ mw d 89 Q 135 [x0, x1, x2] (st) (mh_si h o 2 w)) := (mw_at mj_89_132).trans (z_puti (by decide) (by decide) rfl)
theorem mj_89_135 : mc_P 89 135 = some (.aload_n 0, 1, 0, 0, 0) := by decide +kernel
theorem s_89_135 {x1 x2 : Option Value} {w : Value} : mw d 89 Q 135 [some w, x1, x2] (st) h = mv_a w (mw d 89 Q 136 [some w, x1, x2] (w :: st) h) := (mw_at mj_89_135).trans (z_aload_n rfl)
theorem mj_89_136 : mc_P 89 136 = some (.iload_n 2, 1, 0, 0, 0) := by decide +kernel
theorem s_89_136 {x0 x1 : Option Value} {w : Value} : mw d 89 Q 136 [x0, x1, some w] (st) h = mv_i w (mw d 89 Q 137 [x0, x1, some w] (w :: st) h) := (mw_at mj_89_136).trans (z_iload_n rfl)
theorem mj_89_137 : mc_P 89 137 = some (.invokevirtual 160, 3, 91, 4, 2) := by decide +kernel
theorem s_89_137 {x0 x1 x2 : Option Value} {o : Nat} {a1 : Value} : mw (d + 1) 89 Q 137 [x0, x1, x2] (a1 :: .ref o :: st) h = (mg h o 4 ∧ mca st 8 ∧ mca [.ref o, a1] 6 ∧ mcall d 91 [.ref o, a1] h (mK (d + 1) 89 Q 140 [x0, x1, x2] st)) := (mw_at mj_89_137).trans ((z_invv (As := [a1]) (by decide) rfl rfl).trans (congrArg (And _) (congrArg (And _) (mC_nl nl_91))))
theorem mj_89_140 : mc_P 89 140 = some (.aload_n 1, 1, 0, 0, 0) := by decide +kernel
theorem s_89_140 {x0 x2 : Option Value} {w : Value} : mw d 89 Q 140 [x0, some w, x2] (st) h = mv_a w (mw d 89 Q 141 [x0, some w, x2] (w :: st) h) := (mw_at mj_89_140).trans (z_aload_n rfl)
theorem mj_89_141 : mc_P 89 141 = some (.invokevirtual 163, 3, 166, 9, 1) := by decide +kernel
theorem s_89_141 {x0 x1 x2 : Option Value} {o : Nat} : mw (d + 1) 89 Q 141 [x0, x1, x2] (.ref o :: st) h = (mg h o 9 ∧ mca st 8 ∧ mca [.ref o] 1 ∧ mcall d 166 [.ref o] h (mK (d + 1) 89 Q 144 [x0, x1, x2] st)) := (mw_at mj_89_141).trans ((z_invv (As := []) (by decide) rfl rfl).trans (congrArg (And _) (congrArg (And _) (mC_nl nl_166))))
theorem mj_89_144 : mc_P 89 144 = some (.ifCond .ne 11, 3, 0, 0, 0) := by decide +kernel
theorem s_89_144 {x0 x1 x2 : Option Value} {x : Int32} : mw d 89 Q 144 [x0, x1, x2] (.int x :: st) h = mB (¬ x = 0) (mw d 89 Q) 155 147 [x0, x1, x2] st h := (mw_at mj_89_144).trans (z_if_ne (by decide) rfl)
theorem mj_89_147 : mc_P 89 147 = some (.aload_n 1, 1, 0, 0, 0) := by decide +kernel
theorem s_89_147 {x0 x2 : Option Value} {w : Value} : mw d 89 Q 147 [x0, some w, x2] (st) h = mv_a w (mw d 89 Q 148 [x0, some w, x2] (w :: st) h) := (mw_at mj_89_147).trans (z_aload_n rfl)
theorem mj_89_148 : mc_P 89 148 = some (.getfield 137, 3, 9, 0, 0) := by decide +kernel
theorem s_89_148 {x0 x1 x2 : Option Value} {o : Nat} : mw d 89 Q 148 [x0, x1, x2] (.ref o :: st) h = (mg h o 9 ∧ mw d 89 Q 151 [x0, x1, x2] (.int (mh_i h o 0) :: st) h) := (mw_at mj_89_148).trans (z_geti (by decide) (by decide) (Or.inl rfl))
theorem mj_89_151 : mc_P 89 151 = some (.iconst 4, 1, 0, 0, 0) := by decide +kernel
theorem s_89_151 {x0 x1 x2 : Option Value} : mw d 89 Q 151 [x0, x1, x2] (st) h = mw d 89 Q 152 [x0, x1, x2] (.int 4 :: st) h := (mw_at mj_89_151).trans (z_iconst (by decide))
theorem mj_89_152 : mc_P 89 152 = some (.if_icmp .ne 33, 3, 0, 0, 0) := by decide +kernel
theorem s_89_152 {x0 x1 x2 : Option Value} {x w : Int32} : mw d 89 Q 152 [x0, x1, x2] (.int w :: .int x :: st) h = mB (¬ x = w) (mw d 89 Q) 185 155 [x0, x1, x2] st h := (mw_at mj_89_152).trans (z_icmp_ne (by decide) rfl)
theorem mj_89_155 : mc_P 89 155 = some (.aload_n 0, 1, 0, 0, 0) := by decide +kernel
theorem s_89_155 {x1 x2 : Option Value} {w : Value} : mw d 89 Q 155 [some w, x1, x2] (st) h = mv_a w (mw d 89 Q 156 [some w, x1, x2] (w :: st) h) := (mw_at mj_89_155).trans (z_aload_n rfl)
theorem mj_89_156 : mc_P 89 156 = some (.getfield 66, 3, 4, 14, 0) := by decide +kernel
theorem s_89_156 {x0 x1 x2 : Option Value} {o : Nat} : mw d 89 Q 156 [x0, x1, x2] (.ref o :: st) h = (mg h o 4 ∧ mw d 89 Q 159 [x0, x1, x2] (va_rf (mh_r h o 14) :: st) h) := (mw_at mj_89_156).trans (z_getr (by decide) (by decide) rfl)
theorem mj_89_159 : mc_P 89 159 = some (.aload_n 0, 1, 0, 0, 0) := by decide +kernel
theorem s_89_159 {x1 x2 : Option Value} {w : Value} : mw d 89 Q 159 [some w, x1, x2] (st) h = mv_a w (mw d 89 Q 160 [some w, x1, x2] (w :: st) h) := (mw_at mj_89_159).trans (z_aload_n rfl)
theorem mj_89_160 : mc_P 89 160 = some (.getfield 92, 3, 4, 16, 0) := by decide +kernel
theorem s_89_160 {x0 x1 x2 : Option Value} {o : Nat} : mw d 89 Q 160 [x0, x1, x2] (.ref o :: st) h = (mg h o 4 ∧ mw d 89 Q 163 [x0, x1, x2] (.int (mh_i h o 16) :: st) h) := (mw_at mj_89_160).trans (z_geti (by decide) (by decide) (Or.inl rfl))
theorem mj_89_163 : mc_P 89 163 = some (.iload_n 2, 1, 0, 0, 0) := by decide +kernel
theorem s_89_163 {x0 x1 : Option Value} {w : Value} : mw d 89 Q 163 [x0, x1, some w] (st) h = mv_i w (mw d 89 Q 164 [x0, x1, some w] (w :: st) h) := (mw_at mj_89_163).trans (z_iload_n rfl)
theorem mj_89_164 : mc_P 89 164 = some (.iastore, 1, 0, 0, 0) := by decide +kernel
theorem s_89_164 {x0 x1 x2 : Option Value} {o : Nat} {i w : Int32} : mw d 89 Q 164 [x0, x1, x2] (.int w :: .int i :: .ref o :: st) h = (mg h o 100 ∧ mx i (mh_l h o) ∧ mw d 89 Q 165 [x0, x1, x2] (st) (mh_si h o i.toNatClampNeg w)) := (mw_at mj_89_164).trans (z_iast)
theorem mj_89_165 : mc_P 89 165 = some (.aload_n 0, 1, 0, 0, 0) := by decide +kernel
theorem s_89_165 {x1 x2 : Option Value} {w : Value} : mw d 89 Q 165 [some w, x1, x2] (st) h = mv_a w (mw d 89 Q 166 [some w, x1, x2] (w :: st) h) := (mw_at mj_89_165).trans (z_aload_n rfl)
theorem mj_89_166 : mc_P 89 166 = some (.getfield 69, 3, 4, 15, 0) := by decide +kernel
theorem s_89_166 {x0 x1 x2 : Option Value} {o : Nat} : mw d 89 Q 166 [x0, x1, x2] (.ref o :: st) h = (mg h o 4 ∧ mw d 89 Q 169 [x0, x1, x2] (va_rf (mh_r h o 15) :: st) h) := (mw_at mj_89_166).trans (z_getr (by decide) (by decide) rfl)
theorem mj_89_169 : mc_P 89 169 = some (.aload_n 0, 1, 0, 0, 0) := by decide +kernel
theorem s_89_169 {x1 x2 : Option Value} {w : Value} : mw d 89 Q 169 [some w, x1, x2] (st) h = mv_a w (mw d 89 Q 170 [some w, x1, x2] (w :: st) h) := (mw_at mj_89_169).trans (z_aload_n rfl)
theorem mj_89_170 : mc_P 89 170 = some (.getfield 92, 3, 4, 16, 0) := by decide +kernel
theorem s_89_170 {x0 x1 x2 : Option Value} {o : Nat} : mw d 89 Q 170 [x0, x1, x2] (.ref o :: st) h = (mg h o 4 ∧ mw d 89 Q 173 [x0, x1, x2] (.int (mh_i h o 16) :: st) h) := (mw_at mj_89_170).trans (z_geti (by decide) (by decide) (Or.inl rfl))
theorem mj_89_173 : mc_P 89 173 = some (.iconst 0, 1, 0, 0, 0) := by decide +kernel
theorem s_89_173 {x0 x1 x2 : Option Value} : mw d 89 Q 173 [x0, x1, x2] (st) h = mw d 89 Q 174 [x0, x1, x2] (.int 0 :: st) h := (mw_at mj_89_173).trans (z_iconst (by decide))
theorem mj_89_174 : mc_P 89 174 = some (.bastore, 1, 0, 0, 0) := by decide +kernel
theorem s_89_174 {x0 x1 x2 : Option Value} {o : Nat} {i w : Int32} : mw d 89 Q 174 [x0, x1, x2] (.int w :: .int i :: .ref o :: st) h = (mgb h o ∧ mx i (mh_l h o) ∧ mw d 89 Q 175 [x0, x1, x2] (st) (mh_si h o i.toNatClampNeg (mna h o w))) := (mw_at mj_89_174).trans (z_bast)
theorem mj_89_175 : mc_P 89 175 = some (.aload_n 0, 1, 0, 0, 0) := by decide +kernel
theorem s_89_175 {x1 x2 : Option Value} {w : Value} : mw d 89 Q 175 [some w, x1, x2] (st) h = mv_a w (mw d 89 Q 176 [some w, x1, x2] (w :: st) h) := (mw_at mj_89_175).trans (z_aload_n rfl)
theorem mj_89_176 : mc_P 89 176 = some (.dup, 1, 0, 0, 0) := by decide +kernel
theorem s_89_176 {x0 x1 x2 : Option Value} {w : Value} : mw d 89 Q 176 [x0, x1, x2] (w :: st) h = (w.category = 1 ∧ mw d 89 Q 177 [x0, x1, x2] (w :: w :: st) h) := (mw_at mj_89_176).trans (z_dup)
theorem mj_89_177 : mc_P 89 177 = some (.getfield 92, 3, 4, 16, 0) := by decide +kernel
theorem s_89_177 {x0 x1 x2 : Option Value} {o : Nat} : mw d 89 Q 177 [x0, x1, x2] (.ref o :: st) h = (mg h o 4 ∧ mw d 89 Q 180 [x0, x1, x2] (.int (mh_i h o 16) :: st) h) := (mw_at mj_89_177).trans (z_geti (by decide) (by decide) (Or.inl rfl))
theorem mj_89_180 : mc_P 89 180 = some (.iconst 1, 1, 0, 0, 0) := by decide +kernel
theorem s_89_180 {x0 x1 x2 : Option Value} : mw d 89 Q 180 [x0, x1, x2] (st) h = mw d 89 Q 181 [x0, x1, x2] (.int 1 :: st) h := (mw_at mj_89_180).trans (z_iconst (by decide))
theorem mj_89_181 : mc_P 89 181 = some (.iadd, 1, 0, 0, 0) := by decide +kernel
theorem s_89_181 {x0 x1 x2 : Option Value} {x w : Int32} : mw d 89 Q 181 [x0, x1, x2] (.int w :: .int x :: st) h = mw d 89 Q 182 [x0, x1, x2] (.int (x + w) :: st) h := (mw_at mj_89_181).trans (z_iadd)
theorem mj_89_182 : mc_P 89 182 = some (.putfield 92, 3, 4, 16, 0) := by decide +kernel
theorem s_89_182 {x0 x1 x2 : Option Value} {o : Nat} {w : Int32} : mw d 89 Q 182 [x0, x1, x2] (.int w :: .ref o :: st) h = (mg h o 4 ∧ mw d 89 Q 185 [x0, x1, x2] (st) (mh_si h o 16 w)) := (mw_at mj_89_182).trans (z_puti (by decide) (by decide) rfl)
theorem mj_89_185 : mc_P 89 185 = some (.aload_n 1, 1, 0, 0, 0) := by decide +kernel
theorem s_89_185 {x0 x2 : Option Value} {w : Value} : mw d 89 Q 185 [x0, some w, x2] (st) h = mv_a w (mw d 89 Q 186 [x0, some w, x2] (w :: st) h) := (mw_at mj_89_185).trans (z_aload_n rfl)
theorem mj_89_186 : mc_P 89 186 = some (.getfield 137, 3, 9, 0, 0) := by decide +kernel
theorem s_89_186 {x0 x1 x2 : Option Value} {o : Nat} : mw d 89 Q 186 [x0, x1, x2] (.ref o :: st) h = (mg h o 9 ∧ mw d 89 Q 189 [x0, x1, x2] (.int (mh_i h o 0) :: st) h) := (mw_at mj_89_186).trans (z_geti (by decide) (by decide) (Or.inl rfl))
theorem mj_89_189 : mc_P 89 189 = some (.iconst 4, 1, 0, 0, 0) := by decide +kernel
theorem s_89_189 {x0 x1 x2 : Option Value} : mw d 89 Q 189 [x0, x1, x2] (st) h = mw d 89 Q 190 [x0, x1, x2] (.int 4 :: st) h := (mw_at mj_89_189).trans (z_iconst (by decide))
theorem mj_89_190 : mc_P 89 190 = some (.if_icmp .ne 21, 3, 0, 0, 0) := by decide +kernel
theorem s_89_190 {x0 x1 x2 : Option Value} {x w : Int32} : mw d 89 Q 190 [x0, x1, x2] (.int w :: .int x :: st) h = mB (¬ x = w) (mw d 89 Q) 211 193 [x0, x1, x2] st h := (mw_at mj_89_190).trans (z_icmp_ne (by decide) rfl)
theorem mj_89_193 : mc_P 89 193 = some (.aload_n 0, 1, 0, 0, 0) := by decide +kernel
theorem s_89_193 {x1 x2 : Option Value} {w : Value} : mw d 89 Q 193 [some w, x1, x2] (st) h = mv_a w (mw d 89 Q 194 [some w, x1, x2] (w :: st) h) := (mw_at mj_89_193).trans (z_aload_n rfl)
theorem mj_89_194 : mc_P 89 194 = some (.iload_n 2, 1, 0, 0, 0) := by decide +kernel
theorem s_89_194 {x0 x1 : Option Value} {w : Value} : mw d 89 Q 194 [x0, x1, some w] (st) h = mv_i w (mw d 89 Q 195 [x0, x1, some w] (w :: st) h) := (mw_at mj_89_194).trans (z_iload_n rfl)
theorem mj_89_195 : mc_P 89 195 = some (.putfield 95, 3, 4, 17, 0) := by decide +kernel
theorem s_89_195 {x0 x1 x2 : Option Value} {o : Nat} {w : Int32} : mw d 89 Q 195 [x0, x1, x2] (.int w :: .ref o :: st) h = (mg h o 4 ∧ mw d 89 Q 198 [x0, x1, x2] (st) (mh_si h o 17 w)) := (mw_at mj_89_195).trans (z_puti (by decide) (by decide) rfl)
theorem mj_89_198 : mc_P 89 198 = some (.aload_n 0, 1, 0, 0, 0) := by decide +kernel
theorem s_89_198 {x1 x2 : Option Value} {w : Value} : mw d 89 Q 198 [some w, x1, x2] (st) h = mv_a w (mw d 89 Q 199 [some w, x1, x2] (w :: st) h) := (mw_at mj_89_198).trans (z_aload_n rfl)
theorem mj_89_199 : mc_P 89 199 = some (.getfield 25, 3, 4, 1, 0) := by decide +kernel
theorem s_89_199 {x0 x1 x2 : Option Value} {o : Nat} : mw d 89 Q 199 [x0, x1, x2] (.ref o :: st) h = (mg h o 4 ∧ mw d 89 Q 202 [x0, x1, x2] (va_rf (mh_r h o 1) :: st) h) := (mw_at mj_89_199).trans (z_getr (by decide) (by decide) rfl)
theorem mj_89_202 : mc_P 89 202 = some (.aload_n 1, 1, 0, 0, 0) := by decide +kernel
theorem s_89_202 {x0 x2 : Option Value} {w : Value} : mw d 89 Q 202 [x0, some w, x2] (st) h = mv_a w (mw d 89 Q 203 [x0, some w, x2] (w :: st) h) := (mw_at mj_89_202).trans (z_aload_n rfl)
theorem mj_89_203 : mc_P 89 203 = some (.getfield 140, 3, 9, 14, 0) := by decide +kernel
theorem s_89_203 {x0 x1 x2 : Option Value} {o : Nat} : mw d 89 Q 203 [x0, x1, x2] (.ref o :: st) h = (mg h o 9 ∧ mw d 89 Q 206 [x0, x1, x2] (.int (mh_i h o 14) :: st) h) := (mw_at mj_89_203).trans (z_geti (by decide) (by decide) (Or.inl rfl))
theorem mj_89_206 : mc_P 89 206 = some (.iconst 3, 1, 0, 0, 0) := by decide +kernel
theorem s_89_206 {x0 x1 x2 : Option Value} : mw d 89 Q 206 [x0, x1, x2] (st) h = mw d 89 Q 207 [x0, x1, x2] (.int 3 :: st) h := (mw_at mj_89_206).trans (z_iconst (by decide))
theorem mj_89_207 : mc_P 89 207 = some (.invokevirtual 104, 3, 137, 7, 3) := by decide +kernel
theorem s_89_207 {x0 x1 x2 : Option Value} {o : Nat} {a1 a2 : Value} : mw (d + 1) 89 Q 207 [x0, x1, x2] (a2 :: a1 :: .ref o :: st) h = (mg h o 7 ∧ mca st 8 ∧ mca [.ref o, a1, a2] 3 ∧ mcall d 137 [.ref o, a1, a2] h (mK (d + 1) 89 Q 210 [x0, x1, x2] st)) := (mw_at mj_89_207).trans ((z_invv (As := [a1, a2]) (by decide) rfl rfl).trans (congrArg (And _) (congrArg (And _) (mC_nl nl_137))))
theorem mj_89_210 : mc_P 89 210 = some (.ireturn, 1, 0, 0, 0) := by decide +kernel
theorem s_89_210 {x0 x1 x2 : Option Value} {x : Int32} : mw d 89 Q 210 [x0, x1, x2] ([.int x]) h = (Q (some (.int x)) h) := (mw_at mj_89_210).trans (z_iret)
theorem mj_89_211 : mc_P 89 211 = some (.aload_n 1, 1, 0, 0, 0) := by decide +kernel
theorem s_89_211 {x0 x2 : Option Value} {w : Value} : mw d 89 Q 211 [x0, some w, x2] (st) h = mv_a w (mw d 89 Q 212 [x0, some w, x2] (w :: st) h) := (mw_at mj_89_211).trans (z_aload_n rfl)
theorem mj_89_212 : mc_P 89 212 = some (.getfield 147, 3, 9, 1, 0) := by decide +kernel
theorem s_89_212 {x0 x1 x2 : Option Value} {o : Nat} : mw d 89 Q 212 [x0, x1, x2] (.ref o :: st) h = (mg h o 9 ∧ mw d 89 Q 215 [x0, x1, x2] (.int (mh_i h o 1) :: st) h) := (mw_at mj_89_212).trans (z_geti (by decide) (by decide) (Or.inl rfl))
theorem mj_89_215 : mc_P 89 215 = some (.iconst 1, 1, 0, 0, 0) := by decide +kernel
theorem s_89_215 {x0 x1 x2 : Option Value} : mw d 89 Q 215 [x0, x1, x2] (st) h = mw d 89 Q 216 [x0, x1, x2] (.int 1 :: st) h := (mw_at mj_89_215).trans (z_iconst (by decide))
theorem mj_89_216 : mc_P 89 216 = some (.iadd, 1, 0, 0, 0) := by decide +kernel
theorem s_89_216 {x0 x1 x2 : Option Value} {x w : Int32} : mw d 89 Q 216 [x0, x1, x2] (.int w :: .int x :: st) h = mw d 89 Q 217 [x0, x1, x2] (.int (x + w) :: st) h := (mw_at mj_89_216).trans (z_iadd)
theorem mj_89_217 : mc_P 89 217 = some (.ireturn, 1, 0, 0, 0) := by decide +kernel
theorem s_89_217 {x0 x1 x2 : Option Value} {x : Int32} : mw d 89 Q 217 [x0, x1, x2] ([.int x]) h = (Q (some (.int x)) h) := (mw_at mj_89_217).trans (z_iret)
theorem e_89 {a0 : Nat} {a1 : Nat} : mcall d 89 [.ref a0, .ref a1] h Q = mw d 89 Q 0 [some (.ref a0), some (.ref a1), none] [] h := by
  show mw d 89 Q 0 (me_en (mc_nl 89) _) [] h = _
  rw [nl_89]; rfl

/-! InvariantDesk$Program.findWrong(LInvariantDesk$Statement;)V -/
theorem mj_90_0 : mc_P 90 0 = some (.aload_n 0, 1, 0, 0, 0) := by decide +kernel
theorem s_90_0 {x1 x2 x3 x4 : Option Value} {w : Value} : mw d 90 Q 0 [some w, x1, x2, x3, x4] (st) h = mv_a w (mw d 90 Q 1 [some w, x1, x2, x3, x4] (w :: st) h) := (mw_at mj_90_0).trans (z_aload_n rfl)
theorem mj_90_1 : mc_P 90 1 = some (.getfield 79, 3, 4, 2, 0) := by decide +kernel
theorem s_90_1 {x0 x1 x2 x3 x4 : Option Value} {o : Nat} : mw d 90 Q 1 [x0, x1, x2, x3, x4] (.ref o :: st) h = (mg h o 4 ∧ mw d 90 Q 4 [x0, x1, x2, x3, x4] (.int (mh_i h o 2) :: st) h) := (mw_at mj_90_1).trans (z_geti (by decide) (by decide) (Or.inl rfl))
theorem mj_90_4 : mc_P 90 4 = some (.sipush 249, 3, 0, 0, 0) := by decide +kernel
theorem s_90_4 {x0 x1 x2 x3 x4 : Option Value} : mw d 90 Q 4 [x0, x1, x2, x3, x4] (st) h = mw d 90 Q 7 [x0, x1, x2, x3, x4] (.int 249 :: st) h := (mw_at mj_90_4).trans (z_sipush (by decide))
theorem mj_90_7 : mc_P 90 7 = some (.if_icmp .ne 14, 3, 0, 0, 0) := by decide +kernel
theorem s_90_7 {x0 x1 x2 x3 x4 : Option Value} {x w : Int32} : mw d 90 Q 7 [x0, x1, x2, x3, x4] (.int w :: .int x :: st) h = mB (¬ x = w) (mw d 90 Q) 21 10 [x0, x1, x2, x3, x4] st h := (mw_at mj_90_7).trans (z_icmp_ne (by decide) rfl)
theorem mj_90_10 : mc_P 90 10 = some (.aload_n 0, 1, 0, 0, 0) := by decide +kernel
theorem s_90_10 {x1 x2 x3 x4 : Option Value} {w : Value} : mw d 90 Q 10 [some w, x1, x2, x3, x4] (st) h = mv_a w (mw d 90 Q 11 [some w, x1, x2, x3, x4] (w :: st) h) := (mw_at mj_90_10).trans (z_aload_n rfl)
theorem mj_90_11 : mc_P 90 11 = some (.bipush 11, 2, 0, 0, 0) := by decide +kernel
theorem s_90_11 {x0 x1 x2 x3 x4 : Option Value} : mw d 90 Q 11 [x0, x1, x2, x3, x4] (st) h = mw d 90 Q 13 [x0, x1, x2, x3, x4] (.int 11 :: st) h := (mw_at mj_90_11).trans (z_bipush (by decide))
theorem mj_90_13 : mc_P 90 13 = some (.aload_n 1, 1, 0, 0, 0) := by decide +kernel
theorem s_90_13 {x0 x2 x3 x4 : Option Value} {w : Value} : mw d 90 Q 13 [x0, some w, x2, x3, x4] (st) h = mv_a w (mw d 90 Q 14 [x0, some w, x2, x3, x4] (w :: st) h) := (mw_at mj_90_13).trans (z_aload_n rfl)
theorem mj_90_14 : mc_P 90 14 = some (.getfield 167, 3, 9, 2, 0) := by decide +kernel
theorem s_90_14 {x0 x1 x2 x3 x4 : Option Value} {o : Nat} : mw d 90 Q 14 [x0, x1, x2, x3, x4] (.ref o :: st) h = (mg h o 9 ∧ mw d 90 Q 17 [x0, x1, x2, x3, x4] (.int (mh_i h o 2) :: st) h) := (mw_at mj_90_14).trans (z_geti (by decide) (by decide) (Or.inl rfl))
theorem mj_90_17 : mc_P 90 17 = some (.invokevirtual 111, 3, 86, 4, 3) := by decide +kernel
theorem s_90_17 {x0 x1 x2 x3 x4 : Option Value} {o : Nat} {a1 a2 : Value} : mw (d + 1) 90 Q 17 [x0, x1, x2, x3, x4] (a2 :: a1 :: .ref o :: st) h = (mg h o 4 ∧ mca st 8 ∧ mca [.ref o, a1, a2] 3 ∧ mcall d 86 [.ref o, a1, a2] h (mK (d + 1) 90 Q 20 [x0, x1, x2, x3, x4] st)) := (mw_at mj_90_17).trans ((z_invv (As := [a1, a2]) (by decide) rfl rfl).trans (congrArg (And _) (congrArg (And _) (mC_nl nl_86))))
theorem mj_90_20 : mc_P 90 20 = some (.return_, 1, 0, 0, 0) := by decide +kernel
theorem s_90_20 {x0 x1 x2 x3 x4 : Option Value} : mw d 90 Q 20 [x0, x1, x2, x3, x4] ([]) h = Q none h := (mw_at mj_90_20).trans (z_vret)
theorem mj_90_21 : mc_P 90 21 = some (.aload_n 1, 1, 0, 0, 0) := by decide +kernel
theorem s_90_21 {x0 x2 x3 x4 : Option Value} {w : Value} : mw d 90 Q 21 [x0, some w, x2, x3, x4] (st) h = mv_a w (mw d 90 Q 22 [x0, some w, x2, x3, x4] (w :: st) h) := (mw_at mj_90_21).trans (z_aload_n rfl)
theorem mj_90_22 : mc_P 90 22 = some (.getfield 170, 3, 9, 5, 0) := by decide +kernel
theorem s_90_22 {x0 x1 x2 x3 x4 : Option Value} {o : Nat} : mw d 90 Q 22 [x0, x1, x2, x3, x4] (.ref o :: st) h = (mg h o 9 ∧ mw d 90 Q 25 [x0, x1, x2, x3, x4] (.int (mh_i h o 5) :: st) h) := (mw_at mj_90_22).trans (z_geti (by decide) (by decide) (Or.inl rfl))
theorem mj_90_25 : mc_P 90 25 = some (.ifCond .eq 16, 3, 0, 0, 0) := by decide +kernel
theorem s_90_25 {x0 x1 x2 x3 x4 : Option Value} {x : Int32} : mw d 90 Q 25 [x0, x1, x2, x3, x4] (.int x :: st) h = mB (x = 0) (mw d 90 Q) 41 28 [x0, x1, x2, x3, x4] st h := (mw_at mj_90_25).trans (z_if_eq (by decide) rfl)
theorem mj_90_28 : mc_P 90 28 = some (.aload_n 0, 1, 0, 0, 0) := by decide +kernel
theorem s_90_28 {x1 x2 x3 x4 : Option Value} {w : Value} : mw d 90 Q 28 [some w, x1, x2, x3, x4] (st) h = mv_a w (mw d 90 Q 29 [some w, x1, x2, x3, x4] (w :: st) h) := (mw_at mj_90_28).trans (z_aload_n rfl)
theorem mj_90_29 : mc_P 90 29 = some (.aload_n 1, 1, 0, 0, 0) := by decide +kernel
theorem s_90_29 {x0 x2 x3 x4 : Option Value} {w : Value} : mw d 90 Q 29 [x0, some w, x2, x3, x4] (st) h = mv_a w (mw d 90 Q 30 [x0, some w, x2, x3, x4] (w :: st) h) := (mw_at mj_90_29).trans (z_aload_n rfl)
theorem mj_90_30 : mc_P 90 30 = some (.getfield 170, 3, 9, 5, 0) := by decide +kernel
theorem s_90_30 {x0 x1 x2 x3 x4 : Option Value} {o : Nat} : mw d 90 Q 30 [x0, x1, x2, x3, x4] (.ref o :: st) h = (mg h o 9 ∧ mw d 90 Q 33 [x0, x1, x2, x3, x4] (.int (mh_i h o 5) :: st) h) := (mw_at mj_90_30).trans (z_geti (by decide) (by decide) (Or.inl rfl))
theorem mj_90_33 : mc_P 90 33 = some (.aload_n 1, 1, 0, 0, 0) := by decide +kernel
theorem s_90_33 {x0 x2 x3 x4 : Option Value} {w : Value} : mw d 90 Q 33 [x0, some w, x2, x3, x4] (st) h = mv_a w (mw d 90 Q 34 [x0, some w, x2, x3, x4] (w :: st) h) := (mw_at mj_90_33).trans (z_aload_n rfl)
theorem mj_90_34 : mc_P 90 34 = some (.getfield 171, 3, 9, 6, 0) := by decide +kernel
theorem s_90_34 {x0 x1 x2 x3 x4 : Option Value} {o : Nat} : mw d 90 Q 34 [x0, x1, x2, x3, x4] (.ref o :: st) h = (mg h o 9 ∧ mw d 90 Q 37 [x0, x1, x2, x3, x4] (.int (mh_i h o 6) :: st) h) := (mw_at mj_90_34).trans (z_geti (by decide) (by decide) (Or.inl rfl))
theorem mj_90_37 : mc_P 90 37 = some (.invokevirtual 111, 3, 86, 4, 3) := by decide +kernel
theorem s_90_37 {x0 x1 x2 x3 x4 : Option Value} {o : Nat} {a1 a2 : Value} : mw (d + 1) 90 Q 37 [x0, x1, x2, x3, x4] (a2 :: a1 :: .ref o :: st) h = (mg h o 4 ∧ mca st 8 ∧ mca [.ref o, a1, a2] 3 ∧ mcall d 86 [.ref o, a1, a2] h (mK (d + 1) 90 Q 40 [x0, x1, x2, x3, x4] st)) := (mw_at mj_90_37).trans ((z_invv (As := [a1, a2]) (by decide) rfl rfl).trans (congrArg (And _) (congrArg (And _) (mC_nl nl_86))))
theorem mj_90_40 : mc_P 90 40 = some (.return_, 1, 0, 0, 0) := by decide +kernel
theorem s_90_40 {x0 x1 x2 x3 x4 : Option Value} : mw d 90 Q 40 [x0, x1, x2, x3, x4] ([]) h = Q none h := (mw_at mj_90_40).trans (z_vret)
theorem mj_90_41 : mc_P 90 41 = some (.aload_n 1, 1, 0, 0, 0) := by decide +kernel
theorem s_90_41 {x0 x2 x3 x4 : Option Value} {w : Value} : mw d 90 Q 41 [x0, some w, x2, x3, x4] (st) h = mv_a w (mw d 90 Q 42 [x0, some w, x2, x3, x4] (w :: st) h) := (mw_at mj_90_41).trans (z_aload_n rfl)
theorem mj_90_42 : mc_P 90 42 = some (.getfield 83, 3, 9, 3, 0) := by decide +kernel
theorem s_90_42 {x0 x1 x2 x3 x4 : Option Value} {o : Nat} : mw d 90 Q 42 [x0, x1, x2, x3, x4] (.ref o :: st) h = (mg h o 9 ∧ mw d 90 Q 45 [x0, x1, x2, x3, x4] (.int (mh_i h o 3) :: st) h) := (mw_at mj_90_42).trans (z_geti (by decide) (by decide) (Or.inl rfl))
theorem mj_90_45 : mc_P 90 45 = some (.aload_n 0, 1, 0, 0, 0) := by decide +kernel
theorem s_90_45 {x1 x2 x3 x4 : Option Value} {w : Value} : mw d 90 Q 45 [some w, x1, x2, x3, x4] (st) h = mv_a w (mw d 90 Q 46 [some w, x1, x2, x3, x4] (w :: st) h) := (mw_at mj_90_45).trans (z_aload_n rfl)
theorem mj_90_46 : mc_P 90 46 = some (.getfield 95, 3, 4, 17, 0) := by decide +kernel
theorem s_90_46 {x0 x1 x2 x3 x4 : Option Value} {o : Nat} : mw d 90 Q 46 [x0, x1, x2, x3, x4] (.ref o :: st) h = (mg h o 4 ∧ mw d 90 Q 49 [x0, x1, x2, x3, x4] (.int (mh_i h o 17) :: st) h) := (mw_at mj_90_46).trans (z_geti (by decide) (by decide) (Or.inl rfl))
theorem mj_90_49 : mc_P 90 49 = some (.iconst (-1), 1, 0, 0, 0) := by decide +kernel
theorem s_90_49 {x0 x1 x2 x3 x4 : Option Value} : mw d 90 Q 49 [x0, x1, x2, x3, x4] (st) h = mw d 90 Q 50 [x0, x1, x2, x3, x4] (.int (-1) :: st) h := (mw_at mj_90_49).trans (z_iconst (by decide))
theorem mj_90_50 : mc_P 90 50 = some (.if_icmp .ne 7, 3, 0, 0, 0) := by decide +kernel
theorem s_90_50 {x0 x1 x2 x3 x4 : Option Value} {x w : Int32} : mw d 90 Q 50 [x0, x1, x2, x3, x4] (.int w :: .int x :: st) h = mB (¬ x = w) (mw d 90 Q) 57 53 [x0, x1, x2, x3, x4] st h := (mw_at mj_90_50).trans (z_icmp_ne (by decide) rfl)
theorem mj_90_53 : mc_P 90 53 = some (.iconst 0, 1, 0, 0, 0) := by decide +kernel
theorem s_90_53 {x0 x1 x2 x3 x4 : Option Value} : mw d 90 Q 53 [x0, x1, x2, x3, x4] (st) h = mw d 90 Q 54 [x0, x1, x2, x3, x4] (.int 0 :: st) h := (mw_at mj_90_53).trans (z_iconst (by decide))
theorem mj_90_54 : mc_P 90 54 = some (.goto 11, 3, 0, 0, 0) := by decide +kernel
theorem s_90_54 {x0 x1 x2 x3 x4 : Option Value} : mw d 90 Q 54 [x0, x1, x2, x3, x4] (st) h = mw d 90 Q 65 [x0, x1, x2, x3, x4] (st) h := (mw_at mj_90_54).trans (z_goto (by decide))
theorem mj_90_57 : mc_P 90 57 = some (.aload_n 0, 1, 0, 0, 0) := by decide +kernel
theorem s_90_57 {x1 x2 x3 x4 : Option Value} {w : Value} : mw d 90 Q 57 [some w, x1, x2, x3, x4] (st) h = mv_a w (mw d 90 Q 58 [some w, x1, x2, x3, x4] (w :: st) h) := (mw_at mj_90_57).trans (z_aload_n rfl)
theorem mj_90_58 : mc_P 90 58 = some (.aload_n 0, 1, 0, 0, 0) := by decide +kernel
theorem s_90_58 {x1 x2 x3 x4 : Option Value} {w : Value} : mw d 90 Q 58 [some w, x1, x2, x3, x4] (st) h = mv_a w (mw d 90 Q 59 [some w, x1, x2, x3, x4] (w :: st) h) := (mw_at mj_90_58).trans (z_aload_n rfl)
theorem mj_90_59 : mc_P 90 59 = some (.getfield 95, 3, 4, 17, 0) := by decide +kernel
theorem s_90_59 {x0 x1 x2 x3 x4 : Option Value} {o : Nat} : mw d 90 Q 59 [x0, x1, x2, x3, x4] (.ref o :: st) h = (mg h o 4 ∧ mw d 90 Q 62 [x0, x1, x2, x3, x4] (.int (mh_i h o 17) :: st) h) := (mw_at mj_90_59).trans (z_geti (by decide) (by decide) (Or.inl rfl))
theorem mj_90_62 : mc_P 90 62 = some (.invokevirtual 154, 3, 80, 4, 2) := by decide +kernel
theorem s_90_62 {x0 x1 x2 x3 x4 : Option Value} {o : Nat} {a1 : Value} : mw (d + 1) 90 Q 62 [x0, x1, x2, x3, x4] (a1 :: .ref o :: st) h = (mg h o 4 ∧ mca st 8 ∧ mca [.ref o, a1] 2 ∧ mcall d 80 [.ref o, a1] h (mK (d + 1) 90 Q 65 [x0, x1, x2, x3, x4] st)) := (mw_at mj_90_62).trans ((z_invv (As := [a1]) (by decide) rfl rfl).trans (congrArg (And _) (congrArg (And _) (mC_nl nl_80))))
theorem mj_90_65 : mc_P 90 65 = some (.iadd, 1, 0, 0, 0) := by decide +kernel
theorem s_90_65 {x0 x1 x2 x3 x4 : Option Value} {x w : Int32} : mw d 90 Q 65 [x0, x1, x2, x3, x4] (.int w :: .int x :: st) h = mw d 90 Q 66 [x0, x1, x2, x3, x4] (.int (x + w) :: st) h := (mw_at mj_90_65).trans (z_iadd)
theorem mj_90_66 : mc_P 90 66 = some (.istore_n 2, 1, 0, 0, 0) := by decide +kernel
theorem s_90_66 {x0 x1 x2 x3 x4 : Option Value} {w : Int32} : mw d 90 Q 66 [x0, x1, x2, x3, x4] (.int w :: st) h = mw d 90 Q 67 [x0, mk2 x1, some (.int w), x3, x4] (st) h := (mw_at mj_90_66).trans (z_istore_n (Nat.le_of_ble_eq_true rfl) (me_s1_mk (j := 1) (w := x1) rfl))
theorem mj_90_67 : mc_P 90 67 = some (.aload_n 1, 1, 0, 0, 0) := by decide +kernel
theorem s_90_67 {x0 x2 x3 x4 : Option Value} {w : Value} : mw d 90 Q 67 [x0, some w, x2, x3, x4] (st) h = mv_a w (mw d 90 Q 68 [x0, some w, x2, x3, x4] (w :: st) h) := (mw_at mj_90_67).trans (z_aload_n rfl)
theorem mj_90_68 : mc_P 90 68 = some (.getfield 86, 3, 9, 4, 0) := by decide +kernel
theorem s_90_68 {x0 x1 x2 x3 x4 : Option Value} {o : Nat} : mw d 90 Q 68 [x0, x1, x2, x3, x4] (.ref o :: st) h = (mg h o 9 ∧ mw d 90 Q 71 [x0, x1, x2, x3, x4] (.int (mh_i h o 4) :: st) h) := (mw_at mj_90_68).trans (z_geti (by decide) (by decide) (Or.inl rfl))
theorem mj_90_71 : mc_P 90 71 = some (.aload_n 0, 1, 0, 0, 0) := by decide +kernel
theorem s_90_71 {x1 x2 x3 x4 : Option Value} {w : Value} : mw d 90 Q 71 [some w, x1, x2, x3, x4] (st) h = mv_a w (mw d 90 Q 72 [some w, x1, x2, x3, x4] (w :: st) h) := (mw_at mj_90_71).trans (z_aload_n rfl)
theorem mj_90_72 : mc_P 90 72 = some (.getfield 95, 3, 4, 17, 0) := by decide +kernel
theorem s_90_72 {x0 x1 x2 x3 x4 : Option Value} {o : Nat} : mw d 90 Q 72 [x0, x1, x2, x3, x4] (.ref o :: st) h = (mg h o 4 ∧ mw d 90 Q 75 [x0, x1, x2, x3, x4] (.int (mh_i h o 17) :: st) h) := (mw_at mj_90_72).trans (z_geti (by decide) (by decide) (Or.inl rfl))
theorem mj_90_75 : mc_P 90 75 = some (.iconst (-1), 1, 0, 0, 0) := by decide +kernel
theorem s_90_75 {x0 x1 x2 x3 x4 : Option Value} : mw d 90 Q 75 [x0, x1, x2, x3, x4] (st) h = mw d 90 Q 76 [x0, x1, x2, x3, x4] (.int (-1) :: st) h := (mw_at mj_90_75).trans (z_iconst (by decide))
theorem mj_90_76 : mc_P 90 76 = some (.if_icmp .ne 7, 3, 0, 0, 0) := by decide +kernel
theorem s_90_76 {x0 x1 x2 x3 x4 : Option Value} {x w : Int32} : mw d 90 Q 76 [x0, x1, x2, x3, x4] (.int w :: .int x :: st) h = mB (¬ x = w) (mw d 90 Q) 83 79 [x0, x1, x2, x3, x4] st h := (mw_at mj_90_76).trans (z_icmp_ne (by decide) rfl)
theorem mj_90_79 : mc_P 90 79 = some (.iconst 0, 1, 0, 0, 0) := by decide +kernel
theorem s_90_79 {x0 x1 x2 x3 x4 : Option Value} : mw d 90 Q 79 [x0, x1, x2, x3, x4] (st) h = mw d 90 Q 80 [x0, x1, x2, x3, x4] (.int 0 :: st) h := (mw_at mj_90_79).trans (z_iconst (by decide))
theorem mj_90_80 : mc_P 90 80 = some (.goto 11, 3, 0, 0, 0) := by decide +kernel
theorem s_90_80 {x0 x1 x2 x3 x4 : Option Value} : mw d 90 Q 80 [x0, x1, x2, x3, x4] (st) h = mw d 90 Q 91 [x0, x1, x2, x3, x4] (st) h := (mw_at mj_90_80).trans (z_goto (by decide))
theorem mj_90_83 : mc_P 90 83 = some (.aload_n 0, 1, 0, 0, 0) := by decide +kernel
theorem s_90_83 {x1 x2 x3 x4 : Option Value} {w : Value} : mw d 90 Q 83 [some w, x1, x2, x3, x4] (st) h = mv_a w (mw d 90 Q 84 [some w, x1, x2, x3, x4] (w :: st) h) := (mw_at mj_90_83).trans (z_aload_n rfl)
theorem mj_90_84 : mc_P 90 84 = some (.aload_n 0, 1, 0, 0, 0) := by decide +kernel
theorem s_90_84 {x1 x2 x3 x4 : Option Value} {w : Value} : mw d 90 Q 84 [some w, x1, x2, x3, x4] (st) h = mv_a w (mw d 90 Q 85 [some w, x1, x2, x3, x4] (w :: st) h) := (mw_at mj_90_84).trans (z_aload_n rfl)
theorem mj_90_85 : mc_P 90 85 = some (.getfield 95, 3, 4, 17, 0) := by decide +kernel
theorem s_90_85 {x0 x1 x2 x3 x4 : Option Value} {o : Nat} : mw d 90 Q 85 [x0, x1, x2, x3, x4] (.ref o :: st) h = (mg h o 4 ∧ mw d 90 Q 88 [x0, x1, x2, x3, x4] (.int (mh_i h o 17) :: st) h) := (mw_at mj_90_85).trans (z_geti (by decide) (by decide) (Or.inl rfl))
theorem mj_90_88 : mc_P 90 88 = some (.invokevirtual 157, 3, 81, 4, 2) := by decide +kernel
theorem s_90_88 {x0 x1 x2 x3 x4 : Option Value} {o : Nat} {a1 : Value} : mw (d + 1) 90 Q 88 [x0, x1, x2, x3, x4] (a1 :: .ref o :: st) h = (mg h o 4 ∧ mca st 8 ∧ mca [.ref o, a1] 2 ∧ mcall d 81 [.ref o, a1] h (mK (d + 1) 90 Q 91 [x0, x1, x2, x3, x4] st)) := (mw_at mj_90_88).trans ((z_invv (As := [a1]) (by decide) rfl rfl).trans (congrArg (And _) (congrArg (And _) (mC_nl nl_81))))
theorem mj_90_91 : mc_P 90 91 = some (.iadd, 1, 0, 0, 0) := by decide +kernel
theorem s_90_91 {x0 x1 x2 x3 x4 : Option Value} {x w : Int32} : mw d 90 Q 91 [x0, x1, x2, x3, x4] (.int w :: .int x :: st) h = mw d 90 Q 92 [x0, x1, x2, x3, x4] (.int (x + w) :: st) h := (mw_at mj_90_91).trans (z_iadd)
theorem mj_90_92 : mc_P 90 92 = some (.istore_n 3, 1, 0, 0, 0) := by decide +kernel
theorem s_90_92 {x0 x1 x2 x3 x4 : Option Value} {w : Int32} : mw d 90 Q 92 [x0, x1, x2, x3, x4] (.int w :: st) h = mw d 90 Q 93 [x0, x1, mk2 x2, some (.int w), x4] (st) h := (mw_at mj_90_92).trans (z_istore_n (Nat.le_of_ble_eq_true rfl) (me_s1_mk (j := 2) (w := x2) rfl))
theorem mj_90_93 : mc_P 90 93 = some (.aload_n 1, 1, 0, 0, 0) := by decide +kernel
theorem s_90_93 {x0 x2 x3 x4 : Option Value} {w : Value} : mw d 90 Q 93 [x0, some w, x2, x3, x4] (st) h = mv_a w (mw d 90 Q 94 [x0, some w, x2, x3, x4] (w :: st) h) := (mw_at mj_90_93).trans (z_aload_n rfl)
theorem mj_90_94 : mc_P 90 94 = some (.getfield 137, 3, 9, 0, 0) := by decide +kernel
theorem s_90_94 {x0 x1 x2 x3 x4 : Option Value} {o : Nat} : mw d 90 Q 94 [x0, x1, x2, x3, x4] (.ref o :: st) h = (mg h o 9 ∧ mw d 90 Q 97 [x0, x1, x2, x3, x4] (.int (mh_i h o 0) :: st) h) := (mw_at mj_90_94).trans (z_geti (by decide) (by decide) (Or.inl rfl))
theorem mj_90_97 : mc_P 90 97 = some (.iconst 4, 1, 0, 0, 0) := by decide +kernel
theorem s_90_97 {x0 x1 x2 x3 x4 : Option Value} : mw d 90 Q 97 [x0, x1, x2, x3, x4] (st) h = mw d 90 Q 98 [x0, x1, x2, x3, x4] (.int 4 :: st) h := (mw_at mj_90_97).trans (z_iconst (by decide))
theorem mj_90_98 : mc_P 90 98 = some (.if_icmp .ne 73, 3, 0, 0, 0) := by decide +kernel
theorem s_90_98 {x0 x1 x2 x3 x4 : Option Value} {x w : Int32} : mw d 90 Q 98 [x0, x1, x2, x3, x4] (.int w :: .int x :: st) h = mB (¬ x = w) (mw d 90 Q) 171 101 [x0, x1, x2, x3, x4] st h := (mw_at mj_90_98).trans (z_icmp_ne (by decide) rfl)
theorem mj_90_101 : mc_P 90 101 = some (.aload_n 0, 1, 0, 0, 0) := by decide +kernel
theorem s_90_101 {x1 x2 x3 x4 : Option Value} {w : Value} : mw d 90 Q 101 [some w, x1, x2, x3, x4] (st) h = mv_a w (mw d 90 Q 102 [some w, x1, x2, x3, x4] (w :: st) h) := (mw_at mj_90_101).trans (z_aload_n rfl)
theorem mj_90_102 : mc_P 90 102 = some (.getfield 25, 3, 4, 1, 0) := by decide +kernel
theorem s_90_102 {x0 x1 x2 x3 x4 : Option Value} {o : Nat} : mw d 90 Q 102 [x0, x1, x2, x3, x4] (.ref o :: st) h = (mg h o 4 ∧ mw d 90 Q 105 [x0, x1, x2, x3, x4] (va_rf (mh_r h o 1) :: st) h) := (mw_at mj_90_102).trans (z_getr (by decide) (by decide) rfl)
theorem mj_90_105 : mc_P 90 105 = some (.aload_n 1, 1, 0, 0, 0) := by decide +kernel
theorem s_90_105 {x0 x2 x3 x4 : Option Value} {w : Value} : mw d 90 Q 105 [x0, some w, x2, x3, x4] (st) h = mv_a w (mw d 90 Q 106 [x0, some w, x2, x3, x4] (w :: st) h) := (mw_at mj_90_105).trans (z_aload_n rfl)
theorem mj_90_106 : mc_P 90 106 = some (.getfield 140, 3, 9, 14, 0) := by decide +kernel
theorem s_90_106 {x0 x1 x2 x3 x4 : Option Value} {o : Nat} : mw d 90 Q 106 [x0, x1, x2, x3, x4] (.ref o :: st) h = (mg h o 9 ∧ mw d 90 Q 109 [x0, x1, x2, x3, x4] (.int (mh_i h o 14) :: st) h) := (mw_at mj_90_106).trans (z_geti (by decide) (by decide) (Or.inl rfl))
theorem mj_90_109 : mc_P 90 109 = some (.iconst 2, 1, 0, 0, 0) := by decide +kernel
theorem s_90_109 {x0 x1 x2 x3 x4 : Option Value} : mw d 90 Q 109 [x0, x1, x2, x3, x4] (st) h = mw d 90 Q 110 [x0, x1, x2, x3, x4] (.int 2 :: st) h := (mw_at mj_90_109).trans (z_iconst (by decide))
theorem mj_90_110 : mc_P 90 110 = some (.invokevirtual 104, 3, 137, 7, 3) := by decide +kernel
theorem s_90_110 {x0 x1 x2 x3 x4 : Option Value} {o : Nat} {a1 a2 : Value} : mw (d + 1) 90 Q 110 [x0, x1, x2, x3, x4] (a2 :: a1 :: .ref o :: st) h = (mg h o 7 ∧ mca st 8 ∧ mca [.ref o, a1, a2] 3 ∧ mcall d 137 [.ref o, a1, a2] h (mK (d + 1) 90 Q 113 [x0, x1, x2, x3, x4] st)) := (mw_at mj_90_110).trans ((z_invv (As := [a1, a2]) (by decide) rfl rfl).trans (congrArg (And _) (congrArg (And _) (mC_nl nl_137))))
theorem mj_90_113 : mc_P 90 113 = some (.istore 4, 2, 0, 0, 0) := by decide +kernel
theorem s_90_113 {x0 x1 x2 x3 x4 : Option Value} {w : Int32} : mw d 90 Q 113 [x0, x1, x2, x3, x4] (.int w :: st) h = mw d 90 Q 115 [x0, x1, x2, mk2 x3, some (.int w)] (st) h := (mw_at mj_90_113).trans (z_istore (Nat.le_of_ble_eq_true rfl) (me_s1_mk (j := 3) (w := x3) rfl))
theorem mj_90_115 : mc_P 90 115 = some (.iload 4, 2, 0, 0, 0) := by decide +kernel
theorem s_90_115 {x0 x1 x2 x3 : Option Value} {w : Value} : mw d 90 Q 115 [x0, x1, x2, x3, some w] (st) h = mv_i w (mw d 90 Q 117 [x0, x1, x2, x3, some w] (w :: st) h) := (mw_at mj_90_115).trans (z_iload rfl)
theorem mj_90_117 : mc_P 90 117 = some (.iconst (-1), 1, 0, 0, 0) := by decide +kernel
theorem s_90_117 {x0 x1 x2 x3 x4 : Option Value} : mw d 90 Q 117 [x0, x1, x2, x3, x4] (st) h = mw d 90 Q 118 [x0, x1, x2, x3, x4] (.int (-1) :: st) h := (mw_at mj_90_117).trans (z_iconst (by decide))
theorem mj_90_118 : mc_P 90 118 = some (.if_icmp .eq 21, 3, 0, 0, 0) := by decide +kernel
theorem s_90_118 {x0 x1 x2 x3 x4 : Option Value} {x w : Int32} : mw d 90 Q 118 [x0, x1, x2, x3, x4] (.int w :: .int x :: st) h = mB (x = w) (mw d 90 Q) 139 121 [x0, x1, x2, x3, x4] st h := (mw_at mj_90_118).trans (z_icmp_eq (by decide) rfl)
theorem mj_90_121 : mc_P 90 121 = some (.aload_n 0, 1, 0, 0, 0) := by decide +kernel
theorem s_90_121 {x1 x2 x3 x4 : Option Value} {w : Value} : mw d 90 Q 121 [some w, x1, x2, x3, x4] (st) h = mv_a w (mw d 90 Q 122 [some w, x1, x2, x3, x4] (w :: st) h) := (mw_at mj_90_121).trans (z_aload_n rfl)
theorem mj_90_122 : mc_P 90 122 = some (.iconst 2, 1, 0, 0, 0) := by decide +kernel
theorem s_90_122 {x0 x1 x2 x3 x4 : Option Value} : mw d 90 Q 122 [x0, x1, x2, x3, x4] (st) h = mw d 90 Q 123 [x0, x1, x2, x3, x4] (.int 2 :: st) h := (mw_at mj_90_122).trans (z_iconst (by decide))
theorem mj_90_123 : mc_P 90 123 = some (.aload_n 0, 1, 0, 0, 0) := by decide +kernel
theorem s_90_123 {x1 x2 x3 x4 : Option Value} {w : Value} : mw d 90 Q 123 [some w, x1, x2, x3, x4] (st) h = mv_a w (mw d 90 Q 124 [some w, x1, x2, x3, x4] (w :: st) h) := (mw_at mj_90_123).trans (z_aload_n rfl)
theorem mj_90_124 : mc_P 90 124 = some (.getfield 14, 3, 4, 0, 0) := by decide +kernel
theorem s_90_124 {x0 x1 x2 x3 x4 : Option Value} {o : Nat} : mw d 90 Q 124 [x0, x1, x2, x3, x4] (.ref o :: st) h = (mg h o 4 ∧ mw d 90 Q 127 [x0, x1, x2, x3, x4] (va_rf (mh_r h o 0) :: st) h) := (mw_at mj_90_124).trans (z_getr (by decide) (by decide) rfl)
theorem mj_90_127 : mc_P 90 127 = some (.getfield 108, 3, 10, 2, 0) := by decide +kernel
theorem s_90_127 {x0 x1 x2 x3 x4 : Option Value} {o : Nat} : mw d 90 Q 127 [x0, x1, x2, x3, x4] (.ref o :: st) h = (mg h o 10 ∧ mw d 90 Q 130 [x0, x1, x2, x3, x4] (va_rf (mh_r h o 2) :: st) h) := (mw_at mj_90_127).trans (z_getr (by decide) (by decide) rfl)
theorem mj_90_130 : mc_P 90 130 = some (.iload 4, 2, 0, 0, 0) := by decide +kernel
theorem s_90_130 {x0 x1 x2 x3 : Option Value} {w : Value} : mw d 90 Q 130 [x0, x1, x2, x3, some w] (st) h = mv_i w (mw d 90 Q 132 [x0, x1, x2, x3, some w] (w :: st) h) := (mw_at mj_90_130).trans (z_iload rfl)
theorem mj_90_132 : mc_P 90 132 = some (.iaload, 1, 0, 0, 0) := by decide +kernel
theorem s_90_132 {x0 x1 x2 x3 x4 : Option Value} {o : Nat} {i : Int32} : mw d 90 Q 132 [x0, x1, x2, x3, x4] (.int i :: .ref o :: st) h = (mg h o 100 ∧ mx i (mh_l h o) ∧ mw d 90 Q 133 [x0, x1, x2, x3, x4] (.int (mh_i h o i.toNatClampNeg) :: st) h) := (mw_at mj_90_132).trans (z_iald)
theorem mj_90_133 : mc_P 90 133 = some (.invokevirtual 111, 3, 86, 4, 3) := by decide +kernel
theorem s_90_133 {x0 x1 x2 x3 x4 : Option Value} {o : Nat} {a1 a2 : Value} : mw (d + 1) 90 Q 133 [x0, x1, x2, x3, x4] (a2 :: a1 :: .ref o :: st) h = (mg h o 4 ∧ mca st 8 ∧ mca [.ref o, a1, a2] 3 ∧ mcall d 86 [.ref o, a1, a2] h (mK (d + 1) 90 Q 136 [x0, x1, x2, x3, x4] st)) := (mw_at mj_90_133).trans ((z_invv (As := [a1, a2]) (by decide) rfl rfl).trans (congrArg (And _) (congrArg (And _) (mC_nl nl_86))))
theorem mj_90_136 : mc_P 90 136 = some (.goto 32, 3, 0, 0, 0) := by decide +kernel
theorem s_90_136 {x0 x1 x2 x3 x4 : Option Value} : mw d 90 Q 136 [x0, x1, x2, x3, x4] (st) h = mw d 90 Q 168 [x0, x1, x2, x3, x4] (st) h := (mw_at mj_90_136).trans (z_goto (by decide))
theorem mj_90_139 : mc_P 90 139 = some (.iload_n 2, 1, 0, 0, 0) := by decide +kernel
theorem s_90_139 {x0 x1 x3 x4 : Option Value} {w : Value} : mw d 90 Q 139 [x0, x1, some w, x3, x4] (st) h = mv_i w (mw d 90 Q 140 [x0, x1, some w, x3, x4] (w :: st) h) := (mw_at mj_90_139).trans (z_iload_n rfl)
theorem mj_90_140 : mc_P 90 140 = some (.aload_n 0, 1, 0, 0, 0) := by decide +kernel
theorem s_90_140 {x1 x2 x3 x4 : Option Value} {w : Value} : mw d 90 Q 140 [some w, x1, x2, x3, x4] (st) h = mv_a w (mw d 90 Q 141 [some w, x1, x2, x3, x4] (w :: st) h) := (mw_at mj_90_140).trans (z_aload_n rfl)
theorem mj_90_141 : mc_P 90 141 = some (.getfield 25, 3, 4, 1, 0) := by decide +kernel
theorem s_90_141 {x0 x1 x2 x3 x4 : Option Value} {o : Nat} : mw d 90 Q 141 [x0, x1, x2, x3, x4] (.ref o :: st) h = (mg h o 4 ∧ mw d 90 Q 144 [x0, x1, x2, x3, x4] (va_rf (mh_r h o 1) :: st) h) := (mw_at mj_90_141).trans (z_getr (by decide) (by decide) rfl)
theorem mj_90_144 : mc_P 90 144 = some (.aload_n 1, 1, 0, 0, 0) := by decide +kernel
theorem s_90_144 {x0 x2 x3 x4 : Option Value} {w : Value} : mw d 90 Q 144 [x0, some w, x2, x3, x4] (st) h = mv_a w (mw d 90 Q 145 [x0, some w, x2, x3, x4] (w :: st) h) := (mw_at mj_90_144).trans (z_aload_n rfl)
theorem mj_90_145 : mc_P 90 145 = some (.getfield 140, 3, 9, 14, 0) := by decide +kernel
theorem s_90_145 {x0 x1 x2 x3 x4 : Option Value} {o : Nat} : mw d 90 Q 145 [x0, x1, x2, x3, x4] (.ref o :: st) h = (mg h o 9 ∧ mw d 90 Q 148 [x0, x1, x2, x3, x4] (.int (mh_i h o 14) :: st) h) := (mw_at mj_90_145).trans (z_geti (by decide) (by decide) (Or.inl rfl))
theorem mj_90_148 : mc_P 90 148 = some (.iconst 1, 1, 0, 0, 0) := by decide +kernel
theorem s_90_148 {x0 x1 x2 x3 x4 : Option Value} : mw d 90 Q 148 [x0, x1, x2, x3, x4] (st) h = mw d 90 Q 149 [x0, x1, x2, x3, x4] (.int 1 :: st) h := (mw_at mj_90_148).trans (z_iconst (by decide))
theorem mj_90_149 : mc_P 90 149 = some (.invokevirtual 104, 3, 137, 7, 3) := by decide +kernel
theorem s_90_149 {x0 x1 x2 x3 x4 : Option Value} {o : Nat} {a1 a2 : Value} : mw (d + 1) 90 Q 149 [x0, x1, x2, x3, x4] (a2 :: a1 :: .ref o :: st) h = (mg h o 7 ∧ mca st 8 ∧ mca [.ref o, a1, a2] 3 ∧ mcall d 137 [.ref o, a1, a2] h (mK (d + 1) 90 Q 152 [x0, x1, x2, x3, x4] st)) := (mw_at mj_90_149).trans ((z_invv (As := [a1, a2]) (by decide) rfl rfl).trans (congrArg (And _) (congrArg (And _) (mC_nl nl_137))))
theorem mj_90_152 : mc_P 90 152 = some (.iadd, 1, 0, 0, 0) := by decide +kernel
theorem s_90_152 {x0 x1 x2 x3 x4 : Option Value} {x w : Int32} : mw d 90 Q 152 [x0, x1, x2, x3, x4] (.int w :: .int x :: st) h = mw d 90 Q 153 [x0, x1, x2, x3, x4] (.int (x + w) :: st) h := (mw_at mj_90_152).trans (z_iadd)
theorem mj_90_153 : mc_P 90 153 = some (.bipush 12, 2, 0, 0, 0) := by decide +kernel
theorem s_90_153 {x0 x1 x2 x3 x4 : Option Value} : mw d 90 Q 153 [x0, x1, x2, x3, x4] (st) h = mw d 90 Q 155 [x0, x1, x2, x3, x4] (.int 12 :: st) h := (mw_at mj_90_153).trans (z_bipush (by decide))
theorem mj_90_155 : mc_P 90 155 = some (.if_icmp .le 13, 3, 0, 0, 0) := by decide +kernel
theorem s_90_155 {x0 x1 x2 x3 x4 : Option Value} {x w : Int32} : mw d 90 Q 155 [x0, x1, x2, x3, x4] (.int w :: .int x :: st) h = mB (x ≤ w) (mw d 90 Q) 168 158 [x0, x1, x2, x3, x4] st h := (mw_at mj_90_155).trans (z_icmp_le (by decide) rfl)
theorem mj_90_158 : mc_P 90 158 = some (.aload_n 0, 1, 0, 0, 0) := by decide +kernel
theorem s_90_158 {x1 x2 x3 x4 : Option Value} {w : Value} : mw d 90 Q 158 [some w, x1, x2, x3, x4] (st) h = mv_a w (mw d 90 Q 159 [some w, x1, x2, x3, x4] (w :: st) h) := (mw_at mj_90_158).trans (z_aload_n rfl)
theorem mj_90_159 : mc_P 90 159 = some (.bipush 10, 2, 0, 0, 0) := by decide +kernel
theorem s_90_159 {x0 x1 x2 x3 x4 : Option Value} : mw d 90 Q 159 [x0, x1, x2, x3, x4] (st) h = mw d 90 Q 161 [x0, x1, x2, x3, x4] (.int 10 :: st) h := (mw_at mj_90_159).trans (z_bipush (by decide))
theorem mj_90_161 : mc_P 90 161 = some (.aload_n 1, 1, 0, 0, 0) := by decide +kernel
theorem s_90_161 {x0 x2 x3 x4 : Option Value} {w : Value} : mw d 90 Q 161 [x0, some w, x2, x3, x4] (st) h = mv_a w (mw d 90 Q 162 [x0, some w, x2, x3, x4] (w :: st) h) := (mw_at mj_90_161).trans (z_aload_n rfl)
theorem mj_90_162 : mc_P 90 162 = some (.getfield 167, 3, 9, 2, 0) := by decide +kernel
theorem s_90_162 {x0 x1 x2 x3 x4 : Option Value} {o : Nat} : mw d 90 Q 162 [x0, x1, x2, x3, x4] (.ref o :: st) h = (mg h o 9 ∧ mw d 90 Q 165 [x0, x1, x2, x3, x4] (.int (mh_i h o 2) :: st) h) := (mw_at mj_90_162).trans (z_geti (by decide) (by decide) (Or.inl rfl))
theorem mj_90_165 : mc_P 90 165 = some (.invokevirtual 111, 3, 86, 4, 3) := by decide +kernel
theorem s_90_165 {x0 x1 x2 x3 x4 : Option Value} {o : Nat} {a1 a2 : Value} : mw (d + 1) 90 Q 165 [x0, x1, x2, x3, x4] (a2 :: a1 :: .ref o :: st) h = (mg h o 4 ∧ mca st 8 ∧ mca [.ref o, a1, a2] 3 ∧ mcall d 86 [.ref o, a1, a2] h (mK (d + 1) 90 Q 168 [x0, x1, x2, x3, x4] st)) := (mw_at mj_90_165).trans ((z_invv (As := [a1, a2]) (by decide) rfl rfl).trans (congrArg (And _) (congrArg (And _) (mC_nl nl_86))))
theorem mj_90_168 : mc_P 90 168 = some (.goto 68, 3, 0, 0, 0) := by decide +kernel
theorem s_90_168 {x0 x1 x2 x3 x4 : Option Value} : mw d 90 Q 168 [x0, x1, x2, x3, x4] (st) h = mw d 90 Q 236 [x0, x1, x2, x3, x4] (st) h := (mw_at mj_90_168).trans (z_goto (by decide))
theorem mj_90_171 : mc_P 90 171 = some (.aload_n 1, 1, 0, 0, 0) := by decide +kernel
theorem s_90_171 {x0 x2 x3 x4 : Option Value} {w : Value} : mw d 90 Q 171 [x0, some w, x2, x3, x4] (st) h = mv_a w (mw d 90 Q 172 [x0, some w, x2, x3, x4] (w :: st) h) := (mw_at mj_90_171).trans (z_aload_n rfl)
theorem mj_90_172 : mc_P 90 172 = some (.getfield 137, 3, 9, 0, 0) := by decide +kernel
theorem s_90_172 {x0 x1 x2 x3 x4 : Option Value} {o : Nat} : mw d 90 Q 172 [x0, x1, x2, x3, x4] (.ref o :: st) h = (mg h o 9 ∧ mw d 90 Q 175 [x0, x1, x2, x3, x4] (.int (mh_i h o 0) :: st) h) := (mw_at mj_90_172).trans (z_geti (by decide) (by decide) (Or.inl rfl))
theorem mj_90_175 : mc_P 90 175 = some (.iconst 1, 1, 0, 0, 0) := by decide +kernel
theorem s_90_175 {x0 x1 x2 x3 x4 : Option Value} : mw d 90 Q 175 [x0, x1, x2, x3, x4] (st) h = mw d 90 Q 176 [x0, x1, x2, x3, x4] (.int 1 :: st) h := (mw_at mj_90_175).trans (z_iconst (by decide))
theorem mj_90_176 : mc_P 90 176 = some (.if_icmp .ne 29, 3, 0, 0, 0) := by decide +kernel
theorem s_90_176 {x0 x1 x2 x3 x4 : Option Value} {x w : Int32} : mw d 90 Q 176 [x0, x1, x2, x3, x4] (.int w :: .int x :: st) h = mB (¬ x = w) (mw d 90 Q) 205 179 [x0, x1, x2, x3, x4] st h := (mw_at mj_90_176).trans (z_icmp_ne (by decide) rfl)
theorem mj_90_179 : mc_P 90 179 = some (.aload_n 1, 1, 0, 0, 0) := by decide +kernel
theorem s_90_179 {x0 x2 x3 x4 : Option Value} {w : Value} : mw d 90 Q 179 [x0, some w, x2, x3, x4] (st) h = mv_a w (mw d 90 Q 180 [x0, some w, x2, x3, x4] (w :: st) h) := (mw_at mj_90_179).trans (z_aload_n rfl)
theorem mj_90_180 : mc_P 90 180 = some (.getfield 172, 3, 9, 9, 0) := by decide +kernel
theorem s_90_180 {x0 x1 x2 x3 x4 : Option Value} {o : Nat} : mw d 90 Q 180 [x0, x1, x2, x3, x4] (.ref o :: st) h = (mg h o 9 ∧ mw d 90 Q 183 [x0, x1, x2, x3, x4] (.int (mh_i h o 9) :: st) h) := (mw_at mj_90_180).trans (z_geti (by decide) (by decide) (Or.inl rfl))
theorem mj_90_183 : mc_P 90 183 = some (.ifCond .ne 22, 3, 0, 0, 0) := by decide +kernel
theorem s_90_183 {x0 x1 x2 x3 x4 : Option Value} {x : Int32} : mw d 90 Q 183 [x0, x1, x2, x3, x4] (.int x :: st) h = mB (¬ x = 0) (mw d 90 Q) 205 186 [x0, x1, x2, x3, x4] st h := (mw_at mj_90_183).trans (z_if_ne (by decide) rfl)
theorem mj_90_186 : mc_P 90 186 = some (.iload_n 2, 1, 0, 0, 0) := by decide +kernel
theorem s_90_186 {x0 x1 x3 x4 : Option Value} {w : Value} : mw d 90 Q 186 [x0, x1, some w, x3, x4] (st) h = mv_i w (mw d 90 Q 187 [x0, x1, some w, x3, x4] (w :: st) h) := (mw_at mj_90_186).trans (z_iload_n rfl)
theorem mj_90_187 : mc_P 90 187 = some (.bipush 12, 2, 0, 0, 0) := by decide +kernel
theorem s_90_187 {x0 x1 x2 x3 x4 : Option Value} : mw d 90 Q 187 [x0, x1, x2, x3, x4] (st) h = mw d 90 Q 189 [x0, x1, x2, x3, x4] (.int 12 :: st) h := (mw_at mj_90_187).trans (z_bipush (by decide))
theorem mj_90_189 : mc_P 90 189 = some (.if_icmp .ne 16, 3, 0, 0, 0) := by decide +kernel
theorem s_90_189 {x0 x1 x2 x3 x4 : Option Value} {x w : Int32} : mw d 90 Q 189 [x0, x1, x2, x3, x4] (.int w :: .int x :: st) h = mB (¬ x = w) (mw d 90 Q) 205 192 [x0, x1, x2, x3, x4] st h := (mw_at mj_90_189).trans (z_icmp_ne (by decide) rfl)
theorem mj_90_192 : mc_P 90 192 = some (.aload_n 0, 1, 0, 0, 0) := by decide +kernel
theorem s_90_192 {x1 x2 x3 x4 : Option Value} {w : Value} : mw d 90 Q 192 [some w, x1, x2, x3, x4] (st) h = mv_a w (mw d 90 Q 193 [some w, x1, x2, x3, x4] (w :: st) h) := (mw_at mj_90_192).trans (z_aload_n rfl)
theorem mj_90_193 : mc_P 90 193 = some (.bipush 10, 2, 0, 0, 0) := by decide +kernel
theorem s_90_193 {x0 x1 x2 x3 x4 : Option Value} : mw d 90 Q 193 [x0, x1, x2, x3, x4] (st) h = mw d 90 Q 195 [x0, x1, x2, x3, x4] (.int 10 :: st) h := (mw_at mj_90_193).trans (z_bipush (by decide))
theorem mj_90_195 : mc_P 90 195 = some (.aload_n 1, 1, 0, 0, 0) := by decide +kernel
theorem s_90_195 {x0 x2 x3 x4 : Option Value} {w : Value} : mw d 90 Q 195 [x0, some w, x2, x3, x4] (st) h = mv_a w (mw d 90 Q 196 [x0, some w, x2, x3, x4] (w :: st) h) := (mw_at mj_90_195).trans (z_aload_n rfl)
theorem mj_90_196 : mc_P 90 196 = some (.getfield 167, 3, 9, 2, 0) := by decide +kernel
theorem s_90_196 {x0 x1 x2 x3 x4 : Option Value} {o : Nat} : mw d 90 Q 196 [x0, x1, x2, x3, x4] (.ref o :: st) h = (mg h o 9 ∧ mw d 90 Q 199 [x0, x1, x2, x3, x4] (.int (mh_i h o 2) :: st) h) := (mw_at mj_90_196).trans (z_geti (by decide) (by decide) (Or.inl rfl))
theorem mj_90_199 : mc_P 90 199 = some (.invokevirtual 111, 3, 86, 4, 3) := by decide +kernel
theorem s_90_199 {x0 x1 x2 x3 x4 : Option Value} {o : Nat} {a1 a2 : Value} : mw (d + 1) 90 Q 199 [x0, x1, x2, x3, x4] (a2 :: a1 :: .ref o :: st) h = (mg h o 4 ∧ mca st 8 ∧ mca [.ref o, a1, a2] 3 ∧ mcall d 86 [.ref o, a1, a2] h (mK (d + 1) 90 Q 202 [x0, x1, x2, x3, x4] st)) := (mw_at mj_90_199).trans ((z_invv (As := [a1, a2]) (by decide) rfl rfl).trans (congrArg (And _) (congrArg (And _) (mC_nl nl_86))))
theorem mj_90_202 : mc_P 90 202 = some (.goto 34, 3, 0, 0, 0) := by decide +kernel
theorem s_90_202 {x0 x1 x2 x3 x4 : Option Value} : mw d 90 Q 202 [x0, x1, x2, x3, x4] (st) h = mw d 90 Q 236 [x0, x1, x2, x3, x4] (st) h := (mw_at mj_90_202).trans (z_goto (by decide))
theorem mj_90_205 : mc_P 90 205 = some (.aload_n 1, 1, 0, 0, 0) := by decide +kernel
theorem s_90_205 {x0 x2 x3 x4 : Option Value} {w : Value} : mw d 90 Q 205 [x0, some w, x2, x3, x4] (st) h = mv_a w (mw d 90 Q 206 [x0, some w, x2, x3, x4] (w :: st) h) := (mw_at mj_90_205).trans (z_aload_n rfl)
theorem mj_90_206 : mc_P 90 206 = some (.getfield 137, 3, 9, 0, 0) := by decide +kernel
theorem s_90_206 {x0 x1 x2 x3 x4 : Option Value} {o : Nat} : mw d 90 Q 206 [x0, x1, x2, x3, x4] (.ref o :: st) h = (mg h o 9 ∧ mw d 90 Q 209 [x0, x1, x2, x3, x4] (.int (mh_i h o 0) :: st) h) := (mw_at mj_90_206).trans (z_geti (by decide) (by decide) (Or.inl rfl))
theorem mj_90_209 : mc_P 90 209 = some (.iconst 1, 1, 0, 0, 0) := by decide +kernel
theorem s_90_209 {x0 x1 x2 x3 x4 : Option Value} : mw d 90 Q 209 [x0, x1, x2, x3, x4] (st) h = mw d 90 Q 210 [x0, x1, x2, x3, x4] (.int 1 :: st) h := (mw_at mj_90_209).trans (z_iconst (by decide))
theorem mj_90_210 : mc_P 90 210 = some (.if_icmp .ne 26, 3, 0, 0, 0) := by decide +kernel
theorem s_90_210 {x0 x1 x2 x3 x4 : Option Value} {x w : Int32} : mw d 90 Q 210 [x0, x1, x2, x3, x4] (.int w :: .int x :: st) h = mB (¬ x = w) (mw d 90 Q) 236 213 [x0, x1, x2, x3, x4] st h := (mw_at mj_90_210).trans (z_icmp_ne (by decide) rfl)
theorem mj_90_213 : mc_P 90 213 = some (.aload_n 1, 1, 0, 0, 0) := by decide +kernel
theorem s_90_213 {x0 x2 x3 x4 : Option Value} {w : Value} : mw d 90 Q 213 [x0, some w, x2, x3, x4] (st) h = mv_a w (mw d 90 Q 214 [x0, some w, x2, x3, x4] (w :: st) h) := (mw_at mj_90_213).trans (z_aload_n rfl)
theorem mj_90_214 : mc_P 90 214 = some (.getfield 172, 3, 9, 9, 0) := by decide +kernel
theorem s_90_214 {x0 x1 x2 x3 x4 : Option Value} {o : Nat} : mw d 90 Q 214 [x0, x1, x2, x3, x4] (.ref o :: st) h = (mg h o 9 ∧ mw d 90 Q 217 [x0, x1, x2, x3, x4] (.int (mh_i h o 9) :: st) h) := (mw_at mj_90_214).trans (z_geti (by decide) (by decide) (Or.inl rfl))
theorem mj_90_217 : mc_P 90 217 = some (.ifCond .le 19, 3, 0, 0, 0) := by decide +kernel
theorem s_90_217 {x0 x1 x2 x3 x4 : Option Value} {x : Int32} : mw d 90 Q 217 [x0, x1, x2, x3, x4] (.int x :: st) h = mB (x ≤ 0) (mw d 90 Q) 236 220 [x0, x1, x2, x3, x4] st h := (mw_at mj_90_217).trans (z_if_le (by decide) rfl)
theorem mj_90_220 : mc_P 90 220 = some (.iload_n 3, 1, 0, 0, 0) := by decide +kernel
theorem s_90_220 {x0 x1 x2 x4 : Option Value} {w : Value} : mw d 90 Q 220 [x0, x1, x2, some w, x4] (st) h = mv_i w (mw d 90 Q 221 [x0, x1, x2, some w, x4] (w :: st) h) := (mw_at mj_90_220).trans (z_iload_n rfl)
theorem mj_90_221 : mc_P 90 221 = some (.bipush 6, 2, 0, 0, 0) := by decide +kernel
theorem s_90_221 {x0 x1 x2 x3 x4 : Option Value} : mw d 90 Q 221 [x0, x1, x2, x3, x4] (st) h = mw d 90 Q 223 [x0, x1, x2, x3, x4] (.int 6 :: st) h := (mw_at mj_90_221).trans (z_bipush (by decide))
theorem mj_90_223 : mc_P 90 223 = some (.if_icmp .ne 13, 3, 0, 0, 0) := by decide +kernel
theorem s_90_223 {x0 x1 x2 x3 x4 : Option Value} {x w : Int32} : mw d 90 Q 223 [x0, x1, x2, x3, x4] (.int w :: .int x :: st) h = mB (¬ x = w) (mw d 90 Q) 236 226 [x0, x1, x2, x3, x4] st h := (mw_at mj_90_223).trans (z_icmp_ne (by decide) rfl)
theorem mj_90_226 : mc_P 90 226 = some (.aload_n 0, 1, 0, 0, 0) := by decide +kernel
theorem s_90_226 {x1 x2 x3 x4 : Option Value} {w : Value} : mw d 90 Q 226 [some w, x1, x2, x3, x4] (st) h = mv_a w (mw d 90 Q 227 [some w, x1, x2, x3, x4] (w :: st) h) := (mw_at mj_90_226).trans (z_aload_n rfl)
theorem mj_90_227 : mc_P 90 227 = some (.bipush 13, 2, 0, 0, 0) := by decide +kernel
theorem s_90_227 {x0 x1 x2 x3 x4 : Option Value} : mw d 90 Q 227 [x0, x1, x2, x3, x4] (st) h = mw d 90 Q 229 [x0, x1, x2, x3, x4] (.int 13 :: st) h := (mw_at mj_90_227).trans (z_bipush (by decide))
theorem mj_90_229 : mc_P 90 229 = some (.aload_n 1, 1, 0, 0, 0) := by decide +kernel
theorem s_90_229 {x0 x2 x3 x4 : Option Value} {w : Value} : mw d 90 Q 229 [x0, some w, x2, x3, x4] (st) h = mv_a w (mw d 90 Q 230 [x0, some w, x2, x3, x4] (w :: st) h) := (mw_at mj_90_229).trans (z_aload_n rfl)
theorem mj_90_230 : mc_P 90 230 = some (.getfield 167, 3, 9, 2, 0) := by decide +kernel
theorem s_90_230 {x0 x1 x2 x3 x4 : Option Value} {o : Nat} : mw d 90 Q 230 [x0, x1, x2, x3, x4] (.ref o :: st) h = (mg h o 9 ∧ mw d 90 Q 233 [x0, x1, x2, x3, x4] (.int (mh_i h o 2) :: st) h) := (mw_at mj_90_230).trans (z_geti (by decide) (by decide) (Or.inl rfl))
theorem mj_90_233 : mc_P 90 233 = some (.invokevirtual 111, 3, 86, 4, 3) := by decide +kernel
theorem s_90_233 {x0 x1 x2 x3 x4 : Option Value} {o : Nat} {a1 a2 : Value} : mw (d + 1) 90 Q 233 [x0, x1, x2, x3, x4] (a2 :: a1 :: .ref o :: st) h = (mg h o 4 ∧ mca st 8 ∧ mca [.ref o, a1, a2] 3 ∧ mcall d 86 [.ref o, a1, a2] h (mK (d + 1) 90 Q 236 [x0, x1, x2, x3, x4] st)) := (mw_at mj_90_233).trans ((z_invv (As := [a1, a2]) (by decide) rfl rfl).trans (congrArg (And _) (congrArg (And _) (mC_nl nl_86))))
theorem mj_90_236 : mc_P 90 236 = some (.return_, 1, 0, 0, 0) := by decide +kernel
theorem s_90_236 {x0 x1 x2 x3 x4 : Option Value} : mw d 90 Q 236 [x0, x1, x2, x3, x4] ([]) h = Q none h := (mw_at mj_90_236).trans (z_vret)
theorem e_90 {a0 : Nat} {a1 : Nat} : mcall d 90 [.ref a0, .ref a1] h Q = mw d 90 Q 0 [some (.ref a0), some (.ref a1), none, none, none] [] h := by
  show mw d 90 Q 0 (me_en (mc_nl 90) _) [] h = _
  rw [nl_90]; rfl

/-! InvariantDesk$Program.layNames(I)V -/
theorem mj_91_0 : mc_P 91 0 = some (.iload_n 1, 1, 0, 0, 0) := by decide +kernel
theorem s_91_0 {x0 x2 x3 x4 x5 : Option Value} {w : Value} : mw d 91 Q 0 [x0, some w, x2, x3, x4, x5] (st) h = mv_i w (mw d 91 Q 1 [x0, some w, x2, x3, x4, x5] (w :: st) h) := (mw_at mj_91_0).trans (z_iload_n rfl)
theorem mj_91_1 : mc_P 91 1 = some (.ifCond .ne 4, 3, 0, 0, 0) := by decide +kernel
theorem s_91_1 {x0 x1 x2 x3 x4 x5 : Option Value} {x : Int32} : mw d 91 Q 1 [x0, x1, x2, x3, x4, x5] (.int x :: st) h = mB (¬ x = 0) (mw d 91 Q) 5 4 [x0, x1, x2, x3, x4, x5] st h := (mw_at mj_91_1).trans (z_if_ne (by decide) rfl)
theorem mj_91_4 : mc_P 91 4 = some (.return_, 1, 0, 0, 0) := by decide +kernel
theorem s_91_4 {x0 x1 x2 x3 x4 x5 : Option Value} : mw d 91 Q 4 [x0, x1, x2, x3, x4, x5] ([]) h = Q none h := (mw_at mj_91_4).trans (z_vret)
theorem mj_91_5 : mc_P 91 5 = some (.bipush 18, 2, 0, 0, 0) := by decide +kernel
theorem s_91_5 {x0 x1 x2 x3 x4 x5 : Option Value} : mw d 91 Q 5 [x0, x1, x2, x3, x4, x5] (st) h = mw d 91 Q 7 [x0, x1, x2, x3, x4, x5] (.int 18 :: st) h := (mw_at mj_91_5).trans (z_bipush (by decide))
theorem mj_91_7 : mc_P 91 7 = some (.iload_n 1, 1, 0, 0, 0) := by decide +kernel
theorem s_91_7 {x0 x2 x3 x4 x5 : Option Value} {w : Value} : mw d 91 Q 7 [x0, some w, x2, x3, x4, x5] (st) h = mv_i w (mw d 91 Q 8 [x0, some w, x2, x3, x4, x5] (w :: st) h) := (mw_at mj_91_7).trans (z_iload_n rfl)
theorem mj_91_8 : mc_P 91 8 = some (.iconst 1, 1, 0, 0, 0) := by decide +kernel
theorem s_91_8 {x0 x1 x2 x3 x4 x5 : Option Value} : mw d 91 Q 8 [x0, x1, x2, x3, x4, x5] (st) h = mw d 91 Q 9 [x0, x1, x2, x3, x4, x5] (.int 1 :: st) h := (mw_at mj_91_8).trans (z_iconst (by decide))
theorem mj_91_9 : mc_P 91 9 = some (.isub, 1, 0, 0, 0) := by decide +kernel
theorem s_91_9 {x0 x1 x2 x3 x4 x5 : Option Value} {x w : Int32} : mw d 91 Q 9 [x0, x1, x2, x3, x4, x5] (.int w :: .int x :: st) h = mw d 91 Q 10 [x0, x1, x2, x3, x4, x5] (.int (x - w) :: st) h := (mw_at mj_91_9).trans (z_isub)
theorem mj_91_10 : mc_P 91 10 = some (.imul, 1, 0, 0, 0) := by decide +kernel
theorem s_91_10 {x0 x1 x2 x3 x4 x5 : Option Value} {x w : Int32} : mw d 91 Q 10 [x0, x1, x2, x3, x4, x5] (.int w :: .int x :: st) h = mw d 91 Q 11 [x0, x1, x2, x3, x4, x5] (.int (x * w) :: st) h := (mw_at mj_91_10).trans (z_imul)
theorem mj_91_11 : mc_P 91 11 = some (.istore_n 2, 1, 0, 0, 0) := by decide +kernel
theorem s_91_11 {x0 x1 x2 x3 x4 x5 : Option Value} {w : Int32} : mw d 91 Q 11 [x0, x1, x2, x3, x4, x5] (.int w :: st) h = mw d 91 Q 12 [x0, mk2 x1, some (.int w), x3, x4, x5] (st) h := (mw_at mj_91_11).trans (z_istore_n (Nat.le_of_ble_eq_true rfl) (me_s1_mk (j := 1) (w := x1) rfl))
theorem mj_91_12 : mc_P 91 12 = some (.aload_n 0, 1, 0, 0, 0) := by decide +kernel
theorem s_91_12 {x1 x2 x3 x4 x5 : Option Value} {w : Value} : mw d 91 Q 12 [some w, x1, x2, x3, x4, x5] (st) h = mv_a w (mw d 91 Q 13 [some w, x1, x2, x3, x4, x5] (w :: st) h) := (mw_at mj_91_12).trans (z_aload_n rfl)
theorem mj_91_13 : mc_P 91 13 = some (.getfield 63, 3, 4, 13, 0) := by decide +kernel
theorem s_91_13 {x0 x1 x2 x3 x4 x5 : Option Value} {o : Nat} : mw d 91 Q 13 [x0, x1, x2, x3, x4, x5] (.ref o :: st) h = (mg h o 4 ∧ mw d 91 Q 16 [x0, x1, x2, x3, x4, x5] (va_rf (mh_r h o 13) :: st) h) := (mw_at mj_91_13).trans (z_getr (by decide) (by decide) rfl)
theorem mj_91_16 : mc_P 91 16 = some (.iload_n 2, 1, 0, 0, 0) := by decide +kernel
theorem s_91_16 {x0 x1 x3 x4 x5 : Option Value} {w : Value} : mw d 91 Q 16 [x0, x1, some w, x3, x4, x5] (st) h = mv_i w (mw d 91 Q 17 [x0, x1, some w, x3, x4, x5] (w :: st) h) := (mw_at mj_91_16).trans (z_iload_n rfl)
theorem mj_91_17 : mc_P 91 17 = some (.aload_n 0, 1, 0, 0, 0) := by decide +kernel
theorem s_91_17 {x1 x2 x3 x4 x5 : Option Value} {w : Value} : mw d 91 Q 17 [some w, x1, x2, x3, x4, x5] (st) h = mv_a w (mw d 91 Q 18 [some w, x1, x2, x3, x4, x5] (w :: st) h) := (mw_at mj_91_17).trans (z_aload_n rfl)
theorem mj_91_18 : mc_P 91 18 = some (.getfield 63, 3, 4, 13, 0) := by decide +kernel
theorem s_91_18 {x0 x1 x2 x3 x4 x5 : Option Value} {o : Nat} : mw d 91 Q 18 [x0, x1, x2, x3, x4, x5] (.ref o :: st) h = (mg h o 4 ∧ mw d 91 Q 21 [x0, x1, x2, x3, x4, x5] (va_rf (mh_r h o 13) :: st) h) := (mw_at mj_91_18).trans (z_getr (by decide) (by decide) rfl)
theorem mj_91_21 : mc_P 91 21 = some (.bipush 18, 2, 0, 0, 0) := by decide +kernel
theorem s_91_21 {x0 x1 x2 x3 x4 x5 : Option Value} : mw d 91 Q 21 [x0, x1, x2, x3, x4, x5] (st) h = mw d 91 Q 23 [x0, x1, x2, x3, x4, x5] (.int 18 :: st) h := (mw_at mj_91_21).trans (z_bipush (by decide))
theorem mj_91_23 : mc_P 91 23 = some (.iload_n 1, 1, 0, 0, 0) := by decide +kernel
theorem s_91_23 {x0 x2 x3 x4 x5 : Option Value} {w : Value} : mw d 91 Q 23 [x0, some w, x2, x3, x4, x5] (st) h = mv_i w (mw d 91 Q 24 [x0, some w, x2, x3, x4, x5] (w :: st) h) := (mw_at mj_91_23).trans (z_iload_n rfl)
theorem mj_91_24 : mc_P 91 24 = some (.imul, 1, 0, 0, 0) := by decide +kernel
theorem s_91_24 {x0 x1 x2 x3 x4 x5 : Option Value} {x w : Int32} : mw d 91 Q 24 [x0, x1, x2, x3, x4, x5] (.int w :: .int x :: st) h = mw d 91 Q 25 [x0, x1, x2, x3, x4, x5] (.int (x * w) :: st) h := (mw_at mj_91_24).trans (z_imul)
theorem mj_91_25 : mc_P 91 25 = some (.bipush 18, 2, 0, 0, 0) := by decide +kernel
theorem s_91_25 {x0 x1 x2 x3 x4 x5 : Option Value} : mw d 91 Q 25 [x0, x1, x2, x3, x4, x5] (st) h = mw d 91 Q 27 [x0, x1, x2, x3, x4, x5] (.int 18 :: st) h := (mw_at mj_91_25).trans (z_bipush (by decide))
theorem mj_91_27 : mc_P 91 27 = some (.invokestatic 175, 3, 0, 30, 0) := by decide +kernel
theorem s_91_27 {x0 x1 x2 x3 x4 x5 : Option Value} {o dd : Nat} {sp dp n : Int32} : mw d 91 Q 27 [x0, x1, x2, x3, x4, x5] (.int n :: .int dp :: .ref dd :: .int sp :: .ref o :: st) h = (me_cpok h o dd sp dp n = true ∧ mca st 8 ∧ mw d 91 Q 30 [x0, x1, x2, x3, x4, x5] (st) (mh_cp h o sp.toNatClampNeg dd dp.toNatClampNeg n.toNatClampNeg)) := (mw_at mj_91_27).trans (z_copy)
theorem mj_91_30 : mc_P 91 30 = some (.aload_n 0, 1, 0, 0, 0) := by decide +kernel
theorem s_91_30 {x1 x2 x3 x4 x5 : Option Value} {w : Value} : mw d 91 Q 30 [some w, x1, x2, x3, x4, x5] (st) h = mv_a w (mw d 91 Q 31 [some w, x1, x2, x3, x4, x5] (w :: st) h) := (mw_at mj_91_30).trans (z_aload_n rfl)
theorem mj_91_31 : mc_P 91 31 = some (.getfield 31, 3, 4, 3, 0) := by decide +kernel
theorem s_91_31 {x0 x1 x2 x3 x4 x5 : Option Value} {o : Nat} : mw d 91 Q 31 [x0, x1, x2, x3, x4, x5] (.ref o :: st) h = (mg h o 4 ∧ mw d 91 Q 34 [x0, x1, x2, x3, x4, x5] (va_rf (mh_r h o 3) :: st) h) := (mw_at mj_91_31).trans (z_getr (by decide) (by decide) rfl)
theorem mj_91_34 : mc_P 91 34 = some (.iload_n 1, 1, 0, 0, 0) := by decide +kernel
theorem s_91_34 {x0 x2 x3 x4 x5 : Option Value} {w : Value} : mw d 91 Q 34 [x0, some w, x2, x3, x4, x5] (st) h = mv_i w (mw d 91 Q 35 [x0, some w, x2, x3, x4, x5] (w :: st) h) := (mw_at mj_91_34).trans (z_iload_n rfl)
theorem mj_91_35 : mc_P 91 35 = some (.iconst 1, 1, 0, 0, 0) := by decide +kernel
theorem s_91_35 {x0 x1 x2 x3 x4 x5 : Option Value} : mw d 91 Q 35 [x0, x1, x2, x3, x4, x5] (st) h = mw d 91 Q 36 [x0, x1, x2, x3, x4, x5] (.int 1 :: st) h := (mw_at mj_91_35).trans (z_iconst (by decide))
theorem mj_91_36 : mc_P 91 36 = some (.isub, 1, 0, 0, 0) := by decide +kernel
theorem s_91_36 {x0 x1 x2 x3 x4 x5 : Option Value} {x w : Int32} : mw d 91 Q 36 [x0, x1, x2, x3, x4, x5] (.int w :: .int x :: st) h = mw d 91 Q 37 [x0, x1, x2, x3, x4, x5] (.int (x - w) :: st) h := (mw_at mj_91_36).trans (z_isub)
theorem mj_91_37 : mc_P 91 37 = some (.aaload, 1, 0, 0, 0) := by decide +kernel
theorem s_91_37 {x0 x1 x2 x3 x4 x5 : Option Value} {o : Nat} {i : Int32} : mw d 91 Q 37 [x0, x1, x2, x3, x4, x5] (.int i :: .ref o :: st) h = (mgr h o ∧ mx i (mh_l h o) ∧ mw d 91 Q 38 [x0, x1, x2, x3, x4, x5] (mrd (mh_k h o) h o i.toNatClampNeg :: st) h) := (mw_at mj_91_37).trans (z_aald)
theorem mj_91_38 : mc_P 91 38 = some (.astore_n 3, 1, 0, 0, 0) := by decide +kernel
theorem s_91_38 {x0 x1 x2 x3 x4 x5 : Option Value} {w : Nat} : mw d 91 Q 38 [x0, x1, x2, x3, x4, x5] (.ref w :: st) h = mw d 91 Q 39 [x0, x1, mk2 x2, some (.ref w), x4, x5] (st) h := (mw_at mj_91_38).trans (z_astore_n (Nat.le_of_ble_eq_true rfl) (me_s1_mk (j := 2) (w := x2) rfl))
theorem s_91_38n {x0 x1 x2 x3 x4 x5 : Option Value} : mw d 91 Q 38 [x0, x1, x2, x3, x4, x5] (.null :: st) h = mw d 91 Q 39 [x0, x1, mk2 x2, some (.null), x4, x5] (st) h := (mw_at mj_91_38).trans (z_astoreN_n (Nat.le_of_ble_eq_true rfl) (me_s1_mk (j := 2) (w := x2) rfl))
theorem s_91_38x {x0 x1 x2 x3 x4 x5 : Option Value} {w : Nat} : mw d 91 Q 38 [x0, x1, x2, x3, x4, x5] (.retAddr w :: st) h = mw d 91 Q 39 [x0, x1, mk2 x2, some (.retAddr w), x4, x5] (st) h := (mw_at mj_91_38).trans (z_astoreX_n (Nat.le_of_ble_eq_true rfl) (me_s1_mk (j := 2) (w := x2) rfl))
theorem mj_91_39 : mc_P 91 39 = some (.aload_n 3, 1, 0, 0, 0) := by decide +kernel
theorem s_91_39 {x0 x1 x2 x4 x5 : Option Value} {w : Value} : mw d 91 Q 39 [x0, x1, x2, some w, x4, x5] (st) h = mv_a w (mw d 91 Q 40 [x0, x1, x2, some w, x4, x5] (w :: st) h) := (mw_at mj_91_39).trans (z_aload_n rfl)
theorem mj_91_40 : mc_P 91 40 = some (.getfield 137, 3, 9, 0, 0) := by decide +kernel
theorem s_91_40 {x0 x1 x2 x3 x4 x5 : Option Value} {o : Nat} : mw d 91 Q 40 [x0, x1, x2, x3, x4, x5] (.ref o :: st) h = (mg h o 9 ∧ mw d 91 Q 43 [x0, x1, x2, x3, x4, x5] (.int (mh_i h o 0) :: st) h) := (mw_at mj_91_40).trans (z_geti (by decide) (by decide) (Or.inl rfl))
theorem mj_91_43 : mc_P 91 43 = some (.iconst 1, 1, 0, 0, 0) := by decide +kernel
theorem s_91_43 {x0 x1 x2 x3 x4 x5 : Option Value} : mw d 91 Q 43 [x0, x1, x2, x3, x4, x5] (st) h = mw d 91 Q 44 [x0, x1, x2, x3, x4, x5] (.int 1 :: st) h := (mw_at mj_91_43).trans (z_iconst (by decide))
theorem mj_91_44 : mc_P 91 44 = some (.if_icmp .ne 59, 3, 0, 0, 0) := by decide +kernel
theorem s_91_44 {x0 x1 x2 x3 x4 x5 : Option Value} {x w : Int32} : mw d 91 Q 44 [x0, x1, x2, x3, x4, x5] (.int w :: .int x :: st) h = mB (¬ x = w) (mw d 91 Q) 103 47 [x0, x1, x2, x3, x4, x5] st h := (mw_at mj_91_44).trans (z_icmp_ne (by decide) rfl)
theorem mj_91_47 : mc_P 91 47 = some (.aload_n 3, 1, 0, 0, 0) := by decide +kernel
theorem s_91_47 {x0 x1 x2 x4 x5 : Option Value} {w : Value} : mw d 91 Q 47 [x0, x1, x2, some w, x4, x5] (st) h = mv_a w (mw d 91 Q 48 [x0, x1, x2, some w, x4, x5] (w :: st) h) := (mw_at mj_91_47).trans (z_aload_n rfl)
theorem mj_91_48 : mc_P 91 48 = some (.getfield 172, 3, 9, 9, 0) := by decide +kernel
theorem s_91_48 {x0 x1 x2 x3 x4 x5 : Option Value} {o : Nat} : mw d 91 Q 48 [x0, x1, x2, x3, x4, x5] (.ref o :: st) h = (mg h o 9 ∧ mw d 91 Q 51 [x0, x1, x2, x3, x4, x5] (.int (mh_i h o 9) :: st) h) := (mw_at mj_91_48).trans (z_geti (by decide) (by decide) (Or.inl rfl))
theorem mj_91_51 : mc_P 91 51 = some (.ifCond .ne 13, 3, 0, 0, 0) := by decide +kernel
theorem s_91_51 {x0 x1 x2 x3 x4 x5 : Option Value} {x : Int32} : mw d 91 Q 51 [x0, x1, x2, x3, x4, x5] (.int x :: st) h = mB (¬ x = 0) (mw d 91 Q) 64 54 [x0, x1, x2, x3, x4, x5] st h := (mw_at mj_91_51).trans (z_if_ne (by decide) rfl)
theorem mj_91_54 : mc_P 91 54 = some (.aload_n 0, 1, 0, 0, 0) := by decide +kernel
theorem s_91_54 {x1 x2 x3 x4 x5 : Option Value} {w : Value} : mw d 91 Q 54 [some w, x1, x2, x3, x4, x5] (st) h = mv_a w (mw d 91 Q 55 [some w, x1, x2, x3, x4, x5] (w :: st) h) := (mw_at mj_91_54).trans (z_aload_n rfl)
theorem mj_91_55 : mc_P 91 55 = some (.iload_n 1, 1, 0, 0, 0) := by decide +kernel
theorem s_91_55 {x0 x2 x3 x4 x5 : Option Value} {w : Value} : mw d 91 Q 55 [x0, some w, x2, x3, x4, x5] (st) h = mv_i w (mw d 91 Q 56 [x0, some w, x2, x3, x4, x5] (w :: st) h) := (mw_at mj_91_55).trans (z_iload_n rfl)
theorem mj_91_56 : mc_P 91 56 = some (.iconst 1, 1, 0, 0, 0) := by decide +kernel
theorem s_91_56 {x0 x1 x2 x3 x4 x5 : Option Value} : mw d 91 Q 56 [x0, x1, x2, x3, x4, x5] (st) h = mw d 91 Q 57 [x0, x1, x2, x3, x4, x5] (.int 1 :: st) h := (mw_at mj_91_56).trans (z_iconst (by decide))
theorem mj_91_57 : mc_P 91 57 = some (.isub, 1, 0, 0, 0) := by decide +kernel
theorem s_91_57 {x0 x1 x2 x3 x4 x5 : Option Value} {x w : Int32} : mw d 91 Q 57 [x0, x1, x2, x3, x4, x5] (.int w :: .int x :: st) h = mw d 91 Q 58 [x0, x1, x2, x3, x4, x5] (.int (x - w) :: st) h := (mw_at mj_91_57).trans (z_isub)
theorem mj_91_58 : mc_P 91 58 = some (.invokevirtual 154, 3, 80, 4, 2) := by decide +kernel
theorem s_91_58 {x0 x1 x2 x3 x4 x5 : Option Value} {o : Nat} {a1 : Value} : mw (d + 1) 91 Q 58 [x0, x1, x2, x3, x4, x5] (a1 :: .ref o :: st) h = (mg h o 4 ∧ mca st 8 ∧ mca [.ref o, a1] 2 ∧ mcall d 80 [.ref o, a1] h (mK (d + 1) 91 Q 61 [x0, x1, x2, x3, x4, x5] st)) := (mw_at mj_91_58).trans ((z_invv (As := [a1]) (by decide) rfl rfl).trans (congrArg (And _) (congrArg (And _) (mC_nl nl_80))))
theorem mj_91_61 : mc_P 91 61 = some (.goto 13, 3, 0, 0, 0) := by decide +kernel
theorem s_91_61 {x0 x1 x2 x3 x4 x5 : Option Value} : mw d 91 Q 61 [x0, x1, x2, x3, x4, x5] (st) h = mw d 91 Q 74 [x0, x1, x2, x3, x4, x5] (st) h := (mw_at mj_91_61).trans (z_goto (by decide))
theorem mj_91_64 : mc_P 91 64 = some (.bipush 12, 2, 0, 0, 0) := by decide +kernel
theorem s_91_64 {x0 x1 x2 x3 x4 x5 : Option Value} : mw d 91 Q 64 [x0, x1, x2, x3, x4, x5] (st) h = mw d 91 Q 66 [x0, x1, x2, x3, x4, x5] (.int 12 :: st) h := (mw_at mj_91_64).trans (z_bipush (by decide))
theorem mj_91_66 : mc_P 91 66 = some (.aload_n 0, 1, 0, 0, 0) := by decide +kernel
theorem s_91_66 {x1 x2 x3 x4 x5 : Option Value} {w : Value} : mw d 91 Q 66 [some w, x1, x2, x3, x4, x5] (st) h = mv_a w (mw d 91 Q 67 [some w, x1, x2, x3, x4, x5] (w :: st) h) := (mw_at mj_91_66).trans (z_aload_n rfl)
theorem mj_91_67 : mc_P 91 67 = some (.iload_n 1, 1, 0, 0, 0) := by decide +kernel
theorem s_91_67 {x0 x2 x3 x4 x5 : Option Value} {w : Value} : mw d 91 Q 67 [x0, some w, x2, x3, x4, x5] (st) h = mv_i w (mw d 91 Q 68 [x0, some w, x2, x3, x4, x5] (w :: st) h) := (mw_at mj_91_67).trans (z_iload_n rfl)
theorem mj_91_68 : mc_P 91 68 = some (.iconst 1, 1, 0, 0, 0) := by decide +kernel
theorem s_91_68 {x0 x1 x2 x3 x4 x5 : Option Value} : mw d 91 Q 68 [x0, x1, x2, x3, x4, x5] (st) h = mw d 91 Q 69 [x0, x1, x2, x3, x4, x5] (.int 1 :: st) h := (mw_at mj_91_68).trans (z_iconst (by decide))
theorem mj_91_69 : mc_P 91 69 = some (.isub, 1, 0, 0, 0) := by decide +kernel
theorem s_91_69 {x0 x1 x2 x3 x4 x5 : Option Value} {x w : Int32} : mw d 91 Q 69 [x0, x1, x2, x3, x4, x5] (.int w :: .int x :: st) h = mw d 91 Q 70 [x0, x1, x2, x3, x4, x5] (.int (x - w) :: st) h := (mw_at mj_91_69).trans (z_isub)
theorem mj_91_70 : mc_P 91 70 = some (.invokevirtual 157, 3, 81, 4, 2) := by decide +kernel
theorem s_91_70 {x0 x1 x2 x3 x4 x5 : Option Value} {o : Nat} {a1 : Value} : mw (d + 1) 91 Q 70 [x0, x1, x2, x3, x4, x5] (a1 :: .ref o :: st) h = (mg h o 4 ∧ mca st 8 ∧ mca [.ref o, a1] 2 ∧ mcall d 81 [.ref o, a1] h (mK (d + 1) 91 Q 73 [x0, x1, x2, x3, x4, x5] st)) := (mw_at mj_91_70).trans ((z_invv (As := [a1]) (by decide) rfl rfl).trans (congrArg (And _) (congrArg (And _) (mC_nl nl_81))))
theorem mj_91_73 : mc_P 91 73 = some (.iadd, 1, 0, 0, 0) := by decide +kernel
theorem s_91_73 {x0 x1 x2 x3 x4 x5 : Option Value} {x w : Int32} : mw d 91 Q 73 [x0, x1, x2, x3, x4, x5] (.int w :: .int x :: st) h = mw d 91 Q 74 [x0, x1, x2, x3, x4, x5] (.int (x + w) :: st) h := (mw_at mj_91_73).trans (z_iadd)
theorem mj_91_74 : mc_P 91 74 = some (.istore 4, 2, 0, 0, 0) := by decide +kernel
theorem s_91_74 {x0 x1 x2 x3 x4 x5 : Option Value} {w : Int32} : mw d 91 Q 74 [x0, x1, x2, x3, x4, x5] (.int w :: st) h = mw d 91 Q 76 [x0, x1, x2, mk2 x3, some (.int w), x5] (st) h := (mw_at mj_91_74).trans (z_istore (Nat.le_of_ble_eq_true rfl) (me_s1_mk (j := 3) (w := x3) rfl))
theorem mj_91_76 : mc_P 91 76 = some (.aload_n 0, 1, 0, 0, 0) := by decide +kernel
theorem s_91_76 {x1 x2 x3 x4 x5 : Option Value} {w : Value} : mw d 91 Q 76 [some w, x1, x2, x3, x4, x5] (st) h = mv_a w (mw d 91 Q 77 [some w, x1, x2, x3, x4, x5] (w :: st) h) := (mw_at mj_91_76).trans (z_aload_n rfl)
theorem mj_91_77 : mc_P 91 77 = some (.getfield 63, 3, 4, 13, 0) := by decide +kernel
theorem s_91_77 {x0 x1 x2 x3 x4 x5 : Option Value} {o : Nat} : mw d 91 Q 77 [x0, x1, x2, x3, x4, x5] (.ref o :: st) h = (mg h o 4 ∧ mw d 91 Q 80 [x0, x1, x2, x3, x4, x5] (va_rf (mh_r h o 13) :: st) h) := (mw_at mj_91_77).trans (z_getr (by decide) (by decide) rfl)
theorem mj_91_80 : mc_P 91 80 = some (.bipush 18, 2, 0, 0, 0) := by decide +kernel
theorem s_91_80 {x0 x1 x2 x3 x4 x5 : Option Value} : mw d 91 Q 80 [x0, x1, x2, x3, x4, x5] (st) h = mw d 91 Q 82 [x0, x1, x2, x3, x4, x5] (.int 18 :: st) h := (mw_at mj_91_80).trans (z_bipush (by decide))
theorem mj_91_82 : mc_P 91 82 = some (.iload_n 1, 1, 0, 0, 0) := by decide +kernel
theorem s_91_82 {x0 x2 x3 x4 x5 : Option Value} {w : Value} : mw d 91 Q 82 [x0, some w, x2, x3, x4, x5] (st) h = mv_i w (mw d 91 Q 83 [x0, some w, x2, x3, x4, x5] (w :: st) h) := (mw_at mj_91_82).trans (z_iload_n rfl)
theorem mj_91_83 : mc_P 91 83 = some (.imul, 1, 0, 0, 0) := by decide +kernel
theorem s_91_83 {x0 x1 x2 x3 x4 x5 : Option Value} {x w : Int32} : mw d 91 Q 83 [x0, x1, x2, x3, x4, x5] (.int w :: .int x :: st) h = mw d 91 Q 84 [x0, x1, x2, x3, x4, x5] (.int (x * w) :: st) h := (mw_at mj_91_83).trans (z_imul)
theorem mj_91_84 : mc_P 91 84 = some (.iload 4, 2, 0, 0, 0) := by decide +kernel
theorem s_91_84 {x0 x1 x2 x3 x5 : Option Value} {w : Value} : mw d 91 Q 84 [x0, x1, x2, x3, some w, x5] (st) h = mv_i w (mw d 91 Q 86 [x0, x1, x2, x3, some w, x5] (w :: st) h) := (mw_at mj_91_84).trans (z_iload rfl)
theorem mj_91_86 : mc_P 91 86 = some (.iadd, 1, 0, 0, 0) := by decide +kernel
theorem s_91_86 {x0 x1 x2 x3 x4 x5 : Option Value} {x w : Int32} : mw d 91 Q 86 [x0, x1, x2, x3, x4, x5] (.int w :: .int x :: st) h = mw d 91 Q 87 [x0, x1, x2, x3, x4, x5] (.int (x + w) :: st) h := (mw_at mj_91_86).trans (z_iadd)
theorem mj_91_87 : mc_P 91 87 = some (.aload_n 0, 1, 0, 0, 0) := by decide +kernel
theorem s_91_87 {x1 x2 x3 x4 x5 : Option Value} {w : Value} : mw d 91 Q 87 [some w, x1, x2, x3, x4, x5] (st) h = mv_a w (mw d 91 Q 88 [some w, x1, x2, x3, x4, x5] (w :: st) h) := (mw_at mj_91_87).trans (z_aload_n rfl)
theorem mj_91_88 : mc_P 91 88 = some (.getfield 14, 3, 4, 0, 0) := by decide +kernel
theorem s_91_88 {x0 x1 x2 x3 x4 x5 : Option Value} {o : Nat} : mw d 91 Q 88 [x0, x1, x2, x3, x4, x5] (.ref o :: st) h = (mg h o 4 ∧ mw d 91 Q 91 [x0, x1, x2, x3, x4, x5] (va_rf (mh_r h o 0) :: st) h) := (mw_at mj_91_88).trans (z_getr (by decide) (by decide) rfl)
theorem mj_91_91 : mc_P 91 91 = some (.getfield 108, 3, 10, 2, 0) := by decide +kernel
theorem s_91_91 {x0 x1 x2 x3 x4 x5 : Option Value} {o : Nat} : mw d 91 Q 91 [x0, x1, x2, x3, x4, x5] (.ref o :: st) h = (mg h o 10 ∧ mw d 91 Q 94 [x0, x1, x2, x3, x4, x5] (va_rf (mh_r h o 2) :: st) h) := (mw_at mj_91_91).trans (z_getr (by decide) (by decide) rfl)
theorem mj_91_94 : mc_P 91 94 = some (.aload_n 3, 1, 0, 0, 0) := by decide +kernel
theorem s_91_94 {x0 x1 x2 x4 x5 : Option Value} {w : Value} : mw d 91 Q 94 [x0, x1, x2, some w, x4, x5] (st) h = mv_a w (mw d 91 Q 95 [x0, x1, x2, some w, x4, x5] (w :: st) h) := (mw_at mj_91_94).trans (z_aload_n rfl)
theorem mj_91_95 : mc_P 91 95 = some (.getfield 181, 3, 9, 7, 0) := by decide +kernel
theorem s_91_95 {x0 x1 x2 x3 x4 x5 : Option Value} {o : Nat} : mw d 91 Q 95 [x0, x1, x2, x3, x4, x5] (.ref o :: st) h = (mg h o 9 ∧ mw d 91 Q 98 [x0, x1, x2, x3, x4, x5] (.int (mh_i h o 7) :: st) h) := (mw_at mj_91_95).trans (z_geti (by decide) (by decide) (Or.inl rfl))
theorem mj_91_98 : mc_P 91 98 = some (.iaload, 1, 0, 0, 0) := by decide +kernel
theorem s_91_98 {x0 x1 x2 x3 x4 x5 : Option Value} {o : Nat} {i : Int32} : mw d 91 Q 98 [x0, x1, x2, x3, x4, x5] (.int i :: .ref o :: st) h = (mg h o 100 ∧ mx i (mh_l h o) ∧ mw d 91 Q 99 [x0, x1, x2, x3, x4, x5] (.int (mh_i h o i.toNatClampNeg) :: st) h) := (mw_at mj_91_98).trans (z_iald)
theorem s_91_98x {x0 x1 x2 x3 x4 x5 : Option Value} {i : Int32} : mw d 91 Q 98 [x0, x1, x2, x3, x4, x5] (.int i :: .retAddr 2 :: st) h = (mx i 24 ∧ mw d 91 Q 99 [x0, x1, x2, x3, x4, x5] (.int (mx_row.getD i.toNatClampNeg 0) :: st) h) := (mw_at mj_91_98).trans (z_iaX)
theorem mj_91_99 : mc_P 91 99 = some (.iastore, 1, 0, 0, 0) := by decide +kernel
theorem s_91_99 {x0 x1 x2 x3 x4 x5 : Option Value} {o : Nat} {i w : Int32} : mw d 91 Q 99 [x0, x1, x2, x3, x4, x5] (.int w :: .int i :: .ref o :: st) h = (mg h o 100 ∧ mx i (mh_l h o) ∧ mw d 91 Q 100 [x0, x1, x2, x3, x4, x5] (st) (mh_si h o i.toNatClampNeg w)) := (mw_at mj_91_99).trans (z_iast)
theorem mj_91_100 : mc_P 91 100 = some (.goto 80, 3, 0, 0, 0) := by decide +kernel
theorem s_91_100 {x0 x1 x2 x3 x4 x5 : Option Value} : mw d 91 Q 100 [x0, x1, x2, x3, x4, x5] (st) h = mw d 91 Q 180 [x0, x1, x2, x3, x4, x5] (st) h := (mw_at mj_91_100).trans (z_goto (by decide))
theorem mj_91_103 : mc_P 91 103 = some (.aload_n 3, 1, 0, 0, 0) := by decide +kernel
theorem s_91_103 {x0 x1 x2 x4 x5 : Option Value} {w : Value} : mw d 91 Q 103 [x0, x1, x2, some w, x4, x5] (st) h = mv_a w (mw d 91 Q 104 [x0, x1, x2, some w, x4, x5] (w :: st) h) := (mw_at mj_91_103).trans (z_aload_n rfl)
theorem mj_91_104 : mc_P 91 104 = some (.getfield 137, 3, 9, 0, 0) := by decide +kernel
theorem s_91_104 {x0 x1 x2 x3 x4 x5 : Option Value} {o : Nat} : mw d 91 Q 104 [x0, x1, x2, x3, x4, x5] (.ref o :: st) h = (mg h o 9 ∧ mw d 91 Q 107 [x0, x1, x2, x3, x4, x5] (.int (mh_i h o 0) :: st) h) := (mw_at mj_91_104).trans (z_geti (by decide) (by decide) (Or.inl rfl))
theorem mj_91_107 : mc_P 91 107 = some (.iconst 4, 1, 0, 0, 0) := by decide +kernel
theorem s_91_107 {x0 x1 x2 x3 x4 x5 : Option Value} : mw d 91 Q 107 [x0, x1, x2, x3, x4, x5] (st) h = mw d 91 Q 108 [x0, x1, x2, x3, x4, x5] (.int 4 :: st) h := (mw_at mj_91_107).trans (z_iconst (by decide))
theorem mj_91_108 : mc_P 91 108 = some (.if_icmp .ne 72, 3, 0, 0, 0) := by decide +kernel
theorem s_91_108 {x0 x1 x2 x3 x4 x5 : Option Value} {x w : Int32} : mw d 91 Q 108 [x0, x1, x2, x3, x4, x5] (.int w :: .int x :: st) h = mB (¬ x = w) (mw d 91 Q) 180 111 [x0, x1, x2, x3, x4, x5] st h := (mw_at mj_91_108).trans (z_icmp_ne (by decide) rfl)
theorem mj_91_111 : mc_P 91 111 = some (.aload_n 0, 1, 0, 0, 0) := by decide +kernel
theorem s_91_111 {x1 x2 x3 x4 x5 : Option Value} {w : Value} : mw d 91 Q 111 [some w, x1, x2, x3, x4, x5] (st) h = mv_a w (mw d 91 Q 112 [some w, x1, x2, x3, x4, x5] (w :: st) h) := (mw_at mj_91_111).trans (z_aload_n rfl)
theorem mj_91_112 : mc_P 91 112 = some (.getfield 25, 3, 4, 1, 0) := by decide +kernel
theorem s_91_112 {x0 x1 x2 x3 x4 x5 : Option Value} {o : Nat} : mw d 91 Q 112 [x0, x1, x2, x3, x4, x5] (.ref o :: st) h = (mg h o 4 ∧ mw d 91 Q 115 [x0, x1, x2, x3, x4, x5] (va_rf (mh_r h o 1) :: st) h) := (mw_at mj_91_112).trans (z_getr (by decide) (by decide) rfl)
theorem mj_91_115 : mc_P 91 115 = some (.aload_n 3, 1, 0, 0, 0) := by decide +kernel
theorem s_91_115 {x0 x1 x2 x4 x5 : Option Value} {w : Value} : mw d 91 Q 115 [x0, x1, x2, some w, x4, x5] (st) h = mv_a w (mw d 91 Q 116 [x0, x1, x2, some w, x4, x5] (w :: st) h) := (mw_at mj_91_115).trans (z_aload_n rfl)
theorem mj_91_116 : mc_P 91 116 = some (.getfield 140, 3, 9, 14, 0) := by decide +kernel
theorem s_91_116 {x0 x1 x2 x3 x4 x5 : Option Value} {o : Nat} : mw d 91 Q 116 [x0, x1, x2, x3, x4, x5] (.ref o :: st) h = (mg h o 9 ∧ mw d 91 Q 119 [x0, x1, x2, x3, x4, x5] (.int (mh_i h o 14) :: st) h) := (mw_at mj_91_116).trans (z_geti (by decide) (by decide) (Or.inl rfl))
theorem mj_91_119 : mc_P 91 119 = some (.iconst 0, 1, 0, 0, 0) := by decide +kernel
theorem s_91_119 {x0 x1 x2 x3 x4 x5 : Option Value} : mw d 91 Q 119 [x0, x1, x2, x3, x4, x5] (st) h = mw d 91 Q 120 [x0, x1, x2, x3, x4, x5] (.int 0 :: st) h := (mw_at mj_91_119).trans (z_iconst (by decide))
theorem mj_91_120 : mc_P 91 120 = some (.invokevirtual 104, 3, 137, 7, 3) := by decide +kernel
theorem s_91_120 {x0 x1 x2 x3 x4 x5 : Option Value} {o : Nat} {a1 a2 : Value} : mw (d + 1) 91 Q 120 [x0, x1, x2, x3, x4, x5] (a2 :: a1 :: .ref o :: st) h = (mg h o 7 ∧ mca st 8 ∧ mca [.ref o, a1, a2] 3 ∧ mcall d 137 [.ref o, a1, a2] h (mK (d + 1) 91 Q 123 [x0, x1, x2, x3, x4, x5] st)) := (mw_at mj_91_120).trans ((z_invv (As := [a1, a2]) (by decide) rfl rfl).trans (congrArg (And _) (congrArg (And _) (mC_nl nl_137))))
theorem mj_91_123 : mc_P 91 123 = some (.iconst 2, 1, 0, 0, 0) := by decide +kernel
theorem s_91_123 {x0 x1 x2 x3 x4 x5 : Option Value} : mw d 91 Q 123 [x0, x1, x2, x3, x4, x5] (st) h = mw d 91 Q 124 [x0, x1, x2, x3, x4, x5] (.int 2 :: st) h := (mw_at mj_91_123).trans (z_iconst (by decide))
theorem mj_91_124 : mc_P 91 124 = some (.iadd, 1, 0, 0, 0) := by decide +kernel
theorem s_91_124 {x0 x1 x2 x3 x4 x5 : Option Value} {x w : Int32} : mw d 91 Q 124 [x0, x1, x2, x3, x4, x5] (.int w :: .int x :: st) h = mw d 91 Q 125 [x0, x1, x2, x3, x4, x5] (.int (x + w) :: st) h := (mw_at mj_91_124).trans (z_iadd)
theorem mj_91_125 : mc_P 91 125 = some (.istore 4, 2, 0, 0, 0) := by decide +kernel
theorem s_91_125 {x0 x1 x2 x3 x4 x5 : Option Value} {w : Int32} : mw d 91 Q 125 [x0, x1, x2, x3, x4, x5] (.int w :: st) h = mw d 91 Q 127 [x0, x1, x2, mk2 x3, some (.int w), x5] (st) h := (mw_at mj_91_125).trans (z_istore (Nat.le_of_ble_eq_true rfl) (me_s1_mk (j := 3) (w := x3) rfl))
theorem mj_91_127 : mc_P 91 127 = some (.iconst 0, 1, 0, 0, 0) := by decide +kernel
theorem s_91_127 {x0 x1 x2 x3 x4 x5 : Option Value} : mw d 91 Q 127 [x0, x1, x2, x3, x4, x5] (st) h = mw d 91 Q 128 [x0, x1, x2, x3, x4, x5] (.int 0 :: st) h := (mw_at mj_91_127).trans (z_iconst (by decide))
theorem mj_91_128 : mc_P 91 128 = some (.istore 5, 2, 0, 0, 0) := by decide +kernel
theorem s_91_128 {x0 x1 x2 x3 x4 x5 : Option Value} {w : Int32} : mw d 91 Q 128 [x0, x1, x2, x3, x4, x5] (.int w :: st) h = mw d 91 Q 130 [x0, x1, x2, x3, mk2 x4, some (.int w)] (st) h := (mw_at mj_91_128).trans (z_istore (Nat.le_of_ble_eq_true rfl) (me_s1_mk (j := 4) (w := x4) rfl))
theorem mj_91_130 : mc_P 91 130 = some (.iload 5, 2, 0, 0, 0) := by decide +kernel
theorem s_91_130 {x0 x1 x2 x3 x4 : Option Value} {w : Value} : mw d 91 Q 130 [x0, x1, x2, x3, x4, some w] (st) h = mv_i w (mw d 91 Q 132 [x0, x1, x2, x3, x4, some w] (w :: st) h) := (mw_at mj_91_130).trans (z_iload rfl)
theorem mj_91_132 : mc_P 91 132 = some (.aload_n 3, 1, 0, 0, 0) := by decide +kernel
theorem s_91_132 {x0 x1 x2 x4 x5 : Option Value} {w : Value} : mw d 91 Q 132 [x0, x1, x2, some w, x4, x5] (st) h = mv_a w (mw d 91 Q 133 [x0, x1, x2, some w, x4, x5] (w :: st) h) := (mw_at mj_91_132).trans (z_aload_n rfl)
theorem mj_91_133 : mc_P 91 133 = some (.getfield 184, 3, 9, 11, 0) := by decide +kernel
theorem s_91_133 {x0 x1 x2 x3 x4 x5 : Option Value} {o : Nat} : mw d 91 Q 133 [x0, x1, x2, x3, x4, x5] (.ref o :: st) h = (mg h o 9 ∧ mw d 91 Q 136 [x0, x1, x2, x3, x4, x5] (.int (mh_i h o 11) :: st) h) := (mw_at mj_91_133).trans (z_geti (by decide) (by decide) (Or.inl rfl))
theorem mj_91_136 : mc_P 91 136 = some (.if_icmp .ge 44, 3, 0, 0, 0) := by decide +kernel
theorem s_91_136 {x0 x1 x2 x3 x4 x5 : Option Value} {x w : Int32} : mw d 91 Q 136 [x0, x1, x2, x3, x4, x5] (.int w :: .int x :: st) h = mB (w ≤ x) (mw d 91 Q) 180 139 [x0, x1, x2, x3, x4, x5] st h := (mw_at mj_91_136).trans (z_icmp_ge (by decide) rfl)
theorem mj_91_139 : mc_P 91 139 = some (.aload_n 0, 1, 0, 0, 0) := by decide +kernel
theorem s_91_139 {x1 x2 x3 x4 x5 : Option Value} {w : Value} : mw d 91 Q 139 [some w, x1, x2, x3, x4, x5] (st) h = mv_a w (mw d 91 Q 140 [some w, x1, x2, x3, x4, x5] (w :: st) h) := (mw_at mj_91_139).trans (z_aload_n rfl)
theorem mj_91_140 : mc_P 91 140 = some (.getfield 63, 3, 4, 13, 0) := by decide +kernel
theorem s_91_140 {x0 x1 x2 x3 x4 x5 : Option Value} {o : Nat} : mw d 91 Q 140 [x0, x1, x2, x3, x4, x5] (.ref o :: st) h = (mg h o 4 ∧ mw d 91 Q 143 [x0, x1, x2, x3, x4, x5] (va_rf (mh_r h o 13) :: st) h) := (mw_at mj_91_140).trans (z_getr (by decide) (by decide) rfl)
theorem mj_91_143 : mc_P 91 143 = some (.bipush 18, 2, 0, 0, 0) := by decide +kernel
theorem s_91_143 {x0 x1 x2 x3 x4 x5 : Option Value} : mw d 91 Q 143 [x0, x1, x2, x3, x4, x5] (st) h = mw d 91 Q 145 [x0, x1, x2, x3, x4, x5] (.int 18 :: st) h := (mw_at mj_91_143).trans (z_bipush (by decide))
theorem mj_91_145 : mc_P 91 145 = some (.iload_n 1, 1, 0, 0, 0) := by decide +kernel
theorem s_91_145 {x0 x2 x3 x4 x5 : Option Value} {w : Value} : mw d 91 Q 145 [x0, some w, x2, x3, x4, x5] (st) h = mv_i w (mw d 91 Q 146 [x0, some w, x2, x3, x4, x5] (w :: st) h) := (mw_at mj_91_145).trans (z_iload_n rfl)
theorem mj_91_146 : mc_P 91 146 = some (.imul, 1, 0, 0, 0) := by decide +kernel
theorem s_91_146 {x0 x1 x2 x3 x4 x5 : Option Value} {x w : Int32} : mw d 91 Q 146 [x0, x1, x2, x3, x4, x5] (.int w :: .int x :: st) h = mw d 91 Q 147 [x0, x1, x2, x3, x4, x5] (.int (x * w) :: st) h := (mw_at mj_91_146).trans (z_imul)
theorem mj_91_147 : mc_P 91 147 = some (.aload_n 0, 1, 0, 0, 0) := by decide +kernel
theorem s_91_147 {x1 x2 x3 x4 x5 : Option Value} {w : Value} : mw d 91 Q 147 [some w, x1, x2, x3, x4, x5] (st) h = mv_a w (mw d 91 Q 148 [some w, x1, x2, x3, x4, x5] (w :: st) h) := (mw_at mj_91_147).trans (z_aload_n rfl)
theorem mj_91_148 : mc_P 91 148 = some (.iload_n 1, 1, 0, 0, 0) := by decide +kernel
theorem s_91_148 {x0 x2 x3 x4 x5 : Option Value} {w : Value} : mw d 91 Q 148 [x0, some w, x2, x3, x4, x5] (st) h = mv_i w (mw d 91 Q 149 [x0, some w, x2, x3, x4, x5] (w :: st) h) := (mw_at mj_91_148).trans (z_iload_n rfl)
theorem mj_91_149 : mc_P 91 149 = some (.iconst 1, 1, 0, 0, 0) := by decide +kernel
theorem s_91_149 {x0 x1 x2 x3 x4 x5 : Option Value} : mw d 91 Q 149 [x0, x1, x2, x3, x4, x5] (st) h = mw d 91 Q 150 [x0, x1, x2, x3, x4, x5] (.int 1 :: st) h := (mw_at mj_91_149).trans (z_iconst (by decide))
theorem mj_91_150 : mc_P 91 150 = some (.isub, 1, 0, 0, 0) := by decide +kernel
theorem s_91_150 {x0 x1 x2 x3 x4 x5 : Option Value} {x w : Int32} : mw d 91 Q 150 [x0, x1, x2, x3, x4, x5] (.int w :: .int x :: st) h = mw d 91 Q 151 [x0, x1, x2, x3, x4, x5] (.int (x - w) :: st) h := (mw_at mj_91_150).trans (z_isub)
theorem mj_91_151 : mc_P 91 151 = some (.invokevirtual 154, 3, 80, 4, 2) := by decide +kernel
theorem s_91_151 {x0 x1 x2 x3 x4 x5 : Option Value} {o : Nat} {a1 : Value} : mw (d + 1) 91 Q 151 [x0, x1, x2, x3, x4, x5] (a1 :: .ref o :: st) h = (mg h o 4 ∧ mca st 8 ∧ mca [.ref o, a1] 2 ∧ mcall d 80 [.ref o, a1] h (mK (d + 1) 91 Q 154 [x0, x1, x2, x3, x4, x5] st)) := (mw_at mj_91_151).trans ((z_invv (As := [a1]) (by decide) rfl rfl).trans (congrArg (And _) (congrArg (And _) (mC_nl nl_80))))
theorem mj_91_154 : mc_P 91 154 = some (.iadd, 1, 0, 0, 0) := by decide +kernel
theorem s_91_154 {x0 x1 x2 x3 x4 x5 : Option Value} {x w : Int32} : mw d 91 Q 154 [x0, x1, x2, x3, x4, x5] (.int w :: .int x :: st) h = mw d 91 Q 155 [x0, x1, x2, x3, x4, x5] (.int (x + w) :: st) h := (mw_at mj_91_154).trans (z_iadd)
theorem mj_91_155 : mc_P 91 155 = some (.iload 5, 2, 0, 0, 0) := by decide +kernel
theorem s_91_155 {x0 x1 x2 x3 x4 : Option Value} {w : Value} : mw d 91 Q 155 [x0, x1, x2, x3, x4, some w] (st) h = mv_i w (mw d 91 Q 157 [x0, x1, x2, x3, x4, some w] (w :: st) h) := (mw_at mj_91_155).trans (z_iload rfl)
theorem mj_91_157 : mc_P 91 157 = some (.iadd, 1, 0, 0, 0) := by decide +kernel
theorem s_91_157 {x0 x1 x2 x3 x4 x5 : Option Value} {x w : Int32} : mw d 91 Q 157 [x0, x1, x2, x3, x4, x5] (.int w :: .int x :: st) h = mw d 91 Q 158 [x0, x1, x2, x3, x4, x5] (.int (x + w) :: st) h := (mw_at mj_91_157).trans (z_iadd)
theorem mj_91_158 : mc_P 91 158 = some (.aload_n 0, 1, 0, 0, 0) := by decide +kernel
theorem s_91_158 {x1 x2 x3 x4 x5 : Option Value} {w : Value} : mw d 91 Q 158 [some w, x1, x2, x3, x4, x5] (st) h = mv_a w (mw d 91 Q 159 [some w, x1, x2, x3, x4, x5] (w :: st) h) := (mw_at mj_91_158).trans (z_aload_n rfl)
theorem mj_91_159 : mc_P 91 159 = some (.getfield 14, 3, 4, 0, 0) := by decide +kernel
theorem s_91_159 {x0 x1 x2 x3 x4 x5 : Option Value} {o : Nat} : mw d 91 Q 159 [x0, x1, x2, x3, x4, x5] (.ref o :: st) h = (mg h o 4 ∧ mw d 91 Q 162 [x0, x1, x2, x3, x4, x5] (va_rf (mh_r h o 0) :: st) h) := (mw_at mj_91_159).trans (z_getr (by decide) (by decide) rfl)
theorem mj_91_162 : mc_P 91 162 = some (.getfield 108, 3, 10, 2, 0) := by decide +kernel
theorem s_91_162 {x0 x1 x2 x3 x4 x5 : Option Value} {o : Nat} : mw d 91 Q 162 [x0, x1, x2, x3, x4, x5] (.ref o :: st) h = (mg h o 10 ∧ mw d 91 Q 165 [x0, x1, x2, x3, x4, x5] (va_rf (mh_r h o 2) :: st) h) := (mw_at mj_91_162).trans (z_getr (by decide) (by decide) rfl)
theorem mj_91_165 : mc_P 91 165 = some (.iload 4, 2, 0, 0, 0) := by decide +kernel
theorem s_91_165 {x0 x1 x2 x3 x5 : Option Value} {w : Value} : mw d 91 Q 165 [x0, x1, x2, x3, some w, x5] (st) h = mv_i w (mw d 91 Q 167 [x0, x1, x2, x3, some w, x5] (w :: st) h) := (mw_at mj_91_165).trans (z_iload rfl)
theorem mj_91_167 : mc_P 91 167 = some (.iconst 2, 1, 0, 0, 0) := by decide +kernel
theorem s_91_167 {x0 x1 x2 x3 x4 x5 : Option Value} : mw d 91 Q 167 [x0, x1, x2, x3, x4, x5] (st) h = mw d 91 Q 168 [x0, x1, x2, x3, x4, x5] (.int 2 :: st) h := (mw_at mj_91_167).trans (z_iconst (by decide))
theorem mj_91_168 : mc_P 91 168 = some (.iload 5, 2, 0, 0, 0) := by decide +kernel
theorem s_91_168 {x0 x1 x2 x3 x4 : Option Value} {w : Value} : mw d 91 Q 168 [x0, x1, x2, x3, x4, some w] (st) h = mv_i w (mw d 91 Q 170 [x0, x1, x2, x3, x4, some w] (w :: st) h) := (mw_at mj_91_168).trans (z_iload rfl)
theorem mj_91_170 : mc_P 91 170 = some (.imul, 1, 0, 0, 0) := by decide +kernel
theorem s_91_170 {x0 x1 x2 x3 x4 x5 : Option Value} {x w : Int32} : mw d 91 Q 170 [x0, x1, x2, x3, x4, x5] (.int w :: .int x :: st) h = mw d 91 Q 171 [x0, x1, x2, x3, x4, x5] (.int (x * w) :: st) h := (mw_at mj_91_170).trans (z_imul)
theorem mj_91_171 : mc_P 91 171 = some (.iadd, 1, 0, 0, 0) := by decide +kernel
theorem s_91_171 {x0 x1 x2 x3 x4 x5 : Option Value} {x w : Int32} : mw d 91 Q 171 [x0, x1, x2, x3, x4, x5] (.int w :: .int x :: st) h = mw d 91 Q 172 [x0, x1, x2, x3, x4, x5] (.int (x + w) :: st) h := (mw_at mj_91_171).trans (z_iadd)
theorem mj_91_172 : mc_P 91 172 = some (.iaload, 1, 0, 0, 0) := by decide +kernel
theorem s_91_172 {x0 x1 x2 x3 x4 x5 : Option Value} {o : Nat} {i : Int32} : mw d 91 Q 172 [x0, x1, x2, x3, x4, x5] (.int i :: .ref o :: st) h = (mg h o 100 ∧ mx i (mh_l h o) ∧ mw d 91 Q 173 [x0, x1, x2, x3, x4, x5] (.int (mh_i h o i.toNatClampNeg) :: st) h) := (mw_at mj_91_172).trans (z_iald)
theorem s_91_172x {x0 x1 x2 x3 x4 x5 : Option Value} {i : Int32} : mw d 91 Q 172 [x0, x1, x2, x3, x4, x5] (.int i :: .retAddr 2 :: st) h = (mx i 24 ∧ mw d 91 Q 173 [x0, x1, x2, x3, x4, x5] (.int (mx_row.getD i.toNatClampNeg 0) :: st) h) := (mw_at mj_91_172).trans (z_iaX)
theorem mj_91_173 : mc_P 91 173 = some (.iastore, 1, 0, 0, 0) := by decide +kernel
theorem s_91_173 {x0 x1 x2 x3 x4 x5 : Option Value} {o : Nat} {i w : Int32} : mw d 91 Q 173 [x0, x1, x2, x3, x4, x5] (.int w :: .int i :: .ref o :: st) h = (mg h o 100 ∧ mx i (mh_l h o) ∧ mw d 91 Q 174 [x0, x1, x2, x3, x4, x5] (st) (mh_si h o i.toNatClampNeg w)) := (mw_at mj_91_173).trans (z_iast)
theorem mj_91_174 : mc_P 91 174 = some (.iinc 5 1, 3, 0, 0, 0) := by decide +kernel
theorem s_91_174 {x0 x1 x2 x3 x4 : Option Value} {w : Int32} : mw d 91 Q 174 [x0, x1, x2, x3, x4, some (.int w)] (st) h = mw d 91 Q 177 [x0, x1, x2, x3, mk2 x4, some (.int (w + 1))] (st) h := (mw_at mj_91_174).trans (z_iinc rfl (Nat.le_of_ble_eq_true rfl) (by decide) (me_s1_mk (j := 4) (w := x4) rfl))
theorem mj_91_177 : mc_P 91 177 = some (.goto (-47), 3, 0, 0, 0) := by decide +kernel
theorem s_91_177 {x0 x1 x2 x3 x4 x5 : Option Value} : mw d 91 Q 177 [x0, x1, x2, x3, x4, x5] (st) h = mw d 91 Q 130 [x0, x1, x2, x3, x4, x5] (st) h := (mw_at mj_91_177).trans (z_goto (by decide))
theorem mj_91_180 : mc_P 91 180 = some (.return_, 1, 0, 0, 0) := by decide +kernel
theorem s_91_180 {x0 x1 x2 x3 x4 x5 : Option Value} : mw d 91 Q 180 [x0, x1, x2, x3, x4, x5] ([]) h = Q none h := (mw_at mj_91_180).trans (z_vret)
theorem e_91 {a0 : Nat} {a1 : Int32} : mcall d 91 [.ref a0, .int a1] h Q = mw d 91 Q 0 [some (.ref a0), some (.int a1), none, none, none, none] [] h := by
  show mw d 91 Q 0 (me_en (mc_nl 91) _) [] h = _
  rw [nl_91]; rfl

/-! InvariantDesk$Program.layEnd()V -/
theorem mj_92_0 : mc_P 92 0 = some (.aload_n 0, 1, 0, 0, 0) := by decide +kernel
theorem s_92_0 {w : Value} : mw d 92 Q 0 [some w] (st) h = mv_a w (mw d 92 Q 1 [some w] (w :: st) h) := (mw_at mj_92_0).trans (z_aload_n rfl)
theorem mj_92_1 : mc_P 92 1 = some (.getfield 31, 3, 4, 3, 0) := by decide +kernel
theorem s_92_1 {x0 : Option Value} {o : Nat} : mw d 92 Q 1 [x0] (.ref o :: st) h = (mg h o 4 ∧ mw d 92 Q 4 [x0] (va_rf (mh_r h o 3) :: st) h) := (mw_at mj_92_1).trans (z_getr (by decide) (by decide) rfl)
theorem mj_92_4 : mc_P 92 4 = some (.aload_n 0, 1, 0, 0, 0) := by decide +kernel
theorem s_92_4 {w : Value} : mw d 92 Q 4 [some w] (st) h = mv_a w (mw d 92 Q 5 [some w] (w :: st) h) := (mw_at mj_92_4).trans (z_aload_n rfl)
theorem mj_92_5 : mc_P 92 5 = some (.getfield 79, 3, 4, 2, 0) := by decide +kernel
theorem s_92_5 {x0 : Option Value} {o : Nat} : mw d 92 Q 5 [x0] (.ref o :: st) h = (mg h o 4 ∧ mw d 92 Q 8 [x0] (.int (mh_i h o 2) :: st) h) := (mw_at mj_92_5).trans (z_geti (by decide) (by decide) (Or.inl rfl))
theorem mj_92_8 : mc_P 92 8 = some (.new 29, 3, 9, 0, 0) := by decide +kernel
theorem s_92_8 {x0 : Option Value} : mw d 92 Q 8 [x0] (st) h = mw d 92 Q 11 [x0] (.ref (mh_n h) :: st) (mh_new h 9 17) := (mw_at mj_92_8).trans (z_new (by decide) rfl)
theorem mj_92_11 : mc_P 92 11 = some (.dup, 1, 0, 0, 0) := by decide +kernel
theorem s_92_11 {x0 : Option Value} {w : Value} : mw d 92 Q 11 [x0] (w :: st) h = (w.category = 1 ∧ mw d 92 Q 12 [x0] (w :: w :: st) h) := (mw_at mj_92_11).trans (z_dup)
theorem mj_92_12 : mc_P 92 12 = some (.iconst 0, 1, 0, 0, 0) := by decide +kernel
theorem s_92_12 {x0 : Option Value} : mw d 92 Q 12 [x0] (st) h = mw d 92 Q 13 [x0] (.int 0 :: st) h := (mw_at mj_92_12).trans (z_iconst (by decide))
theorem mj_92_13 : mc_P 92 13 = some (.iconst 0, 1, 0, 0, 0) := by decide +kernel
theorem s_92_13 {x0 : Option Value} : mw d 92 Q 13 [x0] (st) h = mw d 92 Q 14 [x0] (.int 0 :: st) h := (mw_at mj_92_13).trans (z_iconst (by decide))
theorem mj_92_14 : mc_P 92 14 = some (.iconst 0, 1, 0, 0, 0) := by decide +kernel
theorem s_92_14 {x0 : Option Value} : mw d 92 Q 14 [x0] (st) h = mw d 92 Q 15 [x0] (.int 0 :: st) h := (mw_at mj_92_14).trans (z_iconst (by decide))
theorem mj_92_15 : mc_P 92 15 = some (.iconst 0, 1, 0, 0, 0) := by decide +kernel
theorem s_92_15 {x0 : Option Value} : mw d 92 Q 15 [x0] (st) h = mw d 92 Q 16 [x0] (.int 0 :: st) h := (mw_at mj_92_15).trans (z_iconst (by decide))
theorem mj_92_16 : mc_P 92 16 = some (.iconst 0, 1, 0, 0, 0) := by decide +kernel
theorem s_92_16 {x0 : Option Value} : mw d 92 Q 16 [x0] (st) h = mw d 92 Q 17 [x0] (.int 0 :: st) h := (mw_at mj_92_16).trans (z_iconst (by decide))
theorem mj_92_17 : mc_P 92 17 = some (.invokespecial 76, 3, 164, 0, 6) := by decide +kernel
theorem s_92_17 {x0 : Option Value} {o : Nat} {a1 a2 a3 a4 a5 : Value} : mw (d + 1) 92 Q 17 [x0] (a5 :: a4 :: a3 :: a2 :: a1 :: .ref o :: st) h = (mca st 8 ∧ mca [.ref o, a1, a2, a3, a4, a5] 6 ∧ mcall d 164 [.ref o, a1, a2, a3, a4, a5] h (mK (d + 1) 92 Q 20 [x0] st)) := (mw_at mj_92_17).trans ((z_invsp (As := [a1, a2, a3, a4, a5]) (by decide) rfl rfl).trans (congrArg (And _) (mC_nl nl_164)))
theorem mj_92_20 : mc_P 92 20 = some (.aastore, 1, 0, 0, 0) := by decide +kernel
theorem s_92_20 {x0 : Option Value} {o w : Nat} {i : Int32} : mw d 92 Q 20 [x0] (.ref w :: .int i :: .ref o :: st) h = (mgr h o ∧ mx i (mh_l h o) ∧ mh_k h o < 107 ∧ mg h w (me_ac (mh_k h o)) ∧ mw d 92 Q 21 [x0] (st) (mh_sr h o i.toNatClampNeg (some w))) := (mw_at mj_92_20).trans (z_aast)
theorem s_92_20n {x0 : Option Value} {o : Nat} {i : Int32} : mw d 92 Q 20 [x0] (.null :: .int i :: .ref o :: st) h = (mgr h o ∧ mx i (mh_l h o) ∧ mh_k h o < 107 ∧ mw d 92 Q 21 [x0] (st) (mh_sr h o i.toNatClampNeg none)) := (mw_at mj_92_20).trans (z_aastN)
theorem mj_92_21 : mc_P 92 21 = some (.aload_n 0, 1, 0, 0, 0) := by decide +kernel
theorem s_92_21 {w : Value} : mw d 92 Q 21 [some w] (st) h = mv_a w (mw d 92 Q 22 [some w] (w :: st) h) := (mw_at mj_92_21).trans (z_aload_n rfl)
theorem mj_92_22 : mc_P 92 22 = some (.getfield 35, 3, 4, 4, 0) := by decide +kernel
theorem s_92_22 {x0 : Option Value} {o : Nat} : mw d 92 Q 22 [x0] (.ref o :: st) h = (mg h o 4 ∧ mw d 92 Q 25 [x0] (va_rf (mh_r h o 4) :: st) h) := (mw_at mj_92_22).trans (z_getr (by decide) (by decide) rfl)
theorem mj_92_25 : mc_P 92 25 = some (.aload_n 0, 1, 0, 0, 0) := by decide +kernel
theorem s_92_25 {w : Value} : mw d 92 Q 25 [some w] (st) h = mv_a w (mw d 92 Q 26 [some w] (w :: st) h) := (mw_at mj_92_25).trans (z_aload_n rfl)
theorem mj_92_26 : mc_P 92 26 = some (.getfield 79, 3, 4, 2, 0) := by decide +kernel
theorem s_92_26 {x0 : Option Value} {o : Nat} : mw d 92 Q 26 [x0] (.ref o :: st) h = (mg h o 4 ∧ mw d 92 Q 29 [x0] (.int (mh_i h o 2) :: st) h) := (mw_at mj_92_26).trans (z_geti (by decide) (by decide) (Or.inl rfl))
theorem mj_92_29 : mc_P 92 29 = some (.iconst 0, 1, 0, 0, 0) := by decide +kernel
theorem s_92_29 {x0 : Option Value} : mw d 92 Q 29 [x0] (st) h = mw d 92 Q 30 [x0] (.int 0 :: st) h := (mw_at mj_92_29).trans (z_iconst (by decide))
theorem mj_92_30 : mc_P 92 30 = some (.iastore, 1, 0, 0, 0) := by decide +kernel
theorem s_92_30 {x0 : Option Value} {o : Nat} {i w : Int32} : mw d 92 Q 30 [x0] (.int w :: .int i :: .ref o :: st) h = (mg h o 100 ∧ mx i (mh_l h o) ∧ mw d 92 Q 31 [x0] (st) (mh_si h o i.toNatClampNeg w)) := (mw_at mj_92_30).trans (z_iast)
theorem mj_92_31 : mc_P 92 31 = some (.aload_n 0, 1, 0, 0, 0) := by decide +kernel
theorem s_92_31 {w : Value} : mw d 92 Q 31 [some w] (st) h = mv_a w (mw d 92 Q 32 [some w] (w :: st) h) := (mw_at mj_92_31).trans (z_aload_n rfl)
theorem mj_92_32 : mc_P 92 32 = some (.getfield 39, 3, 4, 5, 0) := by decide +kernel
theorem s_92_32 {x0 : Option Value} {o : Nat} : mw d 92 Q 32 [x0] (.ref o :: st) h = (mg h o 4 ∧ mw d 92 Q 35 [x0] (va_rf (mh_r h o 5) :: st) h) := (mw_at mj_92_32).trans (z_getr (by decide) (by decide) rfl)
theorem mj_92_35 : mc_P 92 35 = some (.aload_n 0, 1, 0, 0, 0) := by decide +kernel
theorem s_92_35 {w : Value} : mw d 92 Q 35 [some w] (st) h = mv_a w (mw d 92 Q 36 [some w] (w :: st) h) := (mw_at mj_92_35).trans (z_aload_n rfl)
theorem mj_92_36 : mc_P 92 36 = some (.getfield 79, 3, 4, 2, 0) := by decide +kernel
theorem s_92_36 {x0 : Option Value} {o : Nat} : mw d 92 Q 36 [x0] (.ref o :: st) h = (mg h o 4 ∧ mw d 92 Q 39 [x0] (.int (mh_i h o 2) :: st) h) := (mw_at mj_92_36).trans (z_geti (by decide) (by decide) (Or.inl rfl))
theorem mj_92_39 : mc_P 92 39 = some (.iconst 0, 1, 0, 0, 0) := by decide +kernel
theorem s_92_39 {x0 : Option Value} : mw d 92 Q 39 [x0] (st) h = mw d 92 Q 40 [x0] (.int 0 :: st) h := (mw_at mj_92_39).trans (z_iconst (by decide))
theorem mj_92_40 : mc_P 92 40 = some (.iastore, 1, 0, 0, 0) := by decide +kernel
theorem s_92_40 {x0 : Option Value} {o : Nat} {i w : Int32} : mw d 92 Q 40 [x0] (.int w :: .int i :: .ref o :: st) h = (mg h o 100 ∧ mx i (mh_l h o) ∧ mw d 92 Q 41 [x0] (st) (mh_si h o i.toNatClampNeg w)) := (mw_at mj_92_40).trans (z_iast)
theorem mj_92_41 : mc_P 92 41 = some (.aload_n 0, 1, 0, 0, 0) := by decide +kernel
theorem s_92_41 {w : Value} : mw d 92 Q 41 [some w] (st) h = mv_a w (mw d 92 Q 42 [some w] (w :: st) h) := (mw_at mj_92_41).trans (z_aload_n rfl)
theorem mj_92_42 : mc_P 92 42 = some (.dup, 1, 0, 0, 0) := by decide +kernel
theorem s_92_42 {x0 : Option Value} {w : Value} : mw d 92 Q 42 [x0] (w :: st) h = (w.category = 1 ∧ mw d 92 Q 43 [x0] (w :: w :: st) h) := (mw_at mj_92_42).trans (z_dup)
theorem mj_92_43 : mc_P 92 43 = some (.getfield 79, 3, 4, 2, 0) := by decide +kernel
theorem s_92_43 {x0 : Option Value} {o : Nat} : mw d 92 Q 43 [x0] (.ref o :: st) h = (mg h o 4 ∧ mw d 92 Q 46 [x0] (.int (mh_i h o 2) :: st) h) := (mw_at mj_92_43).trans (z_geti (by decide) (by decide) (Or.inl rfl))
theorem mj_92_46 : mc_P 92 46 = some (.iconst 1, 1, 0, 0, 0) := by decide +kernel
theorem s_92_46 {x0 : Option Value} : mw d 92 Q 46 [x0] (st) h = mw d 92 Q 47 [x0] (.int 1 :: st) h := (mw_at mj_92_46).trans (z_iconst (by decide))
theorem mj_92_47 : mc_P 92 47 = some (.iadd, 1, 0, 0, 0) := by decide +kernel
theorem s_92_47 {x0 : Option Value} {x w : Int32} : mw d 92 Q 47 [x0] (.int w :: .int x :: st) h = mw d 92 Q 48 [x0] (.int (x + w) :: st) h := (mw_at mj_92_47).trans (z_iadd)
theorem mj_92_48 : mc_P 92 48 = some (.putfield 79, 3, 4, 2, 0) := by decide +kernel
theorem s_92_48 {x0 : Option Value} {o : Nat} {w : Int32} : mw d 92 Q 48 [x0] (.int w :: .ref o :: st) h = (mg h o 4 ∧ mw d 92 Q 51 [x0] (st) (mh_si h o 2 w)) := (mw_at mj_92_48).trans (z_puti (by decide) (by decide) rfl)
theorem mj_92_51 : mc_P 92 51 = some (.return_, 1, 0, 0, 0) := by decide +kernel
theorem s_92_51 {x0 : Option Value} : mw d 92 Q 51 [x0] ([]) h = Q none h := (mw_at mj_92_51).trans (z_vret)
theorem e_92 {a0 : Nat} : mcall d 92 [.ref a0] h Q = mw d 92 Q 0 [some (.ref a0)] [] h := by
  show mw d 92 Q 0 (me_en (mc_nl 92) _) [] h = _
  rw [nl_92]; rfl

/-! InvariantDesk$Program.link()V -/
theorem mj_93_0 : mc_P 93 0 = some (.iconst 0, 1, 0, 0, 0) := by decide +kernel
theorem s_93_0 {x0 x1 x2 x3 : Option Value} : mw d 93 Q 0 [x0, x1, x2, x3] (st) h = mw d 93 Q 1 [x0, x1, x2, x3] (.int 0 :: st) h := (mw_at mj_93_0).trans (z_iconst (by decide))
theorem mj_93_1 : mc_P 93 1 = some (.istore_n 1, 1, 0, 0, 0) := by decide +kernel
theorem s_93_1 {x0 x1 x2 x3 : Option Value} {w : Int32} : mw d 93 Q 1 [x0, x1, x2, x3] (.int w :: st) h = mw d 93 Q 2 [mk2 x0, some (.int w), x2, x3] (st) h := (mw_at mj_93_1).trans (z_istore_n (Nat.le_of_ble_eq_true rfl) (me_s1_mk (j := 0) (w := x0) rfl))
theorem mj_93_2 : mc_P 93 2 = some (.iload_n 1, 1, 0, 0, 0) := by decide +kernel
theorem s_93_2 {x0 x2 x3 : Option Value} {w : Value} : mw d 93 Q 2 [x0, some w, x2, x3] (st) h = mv_i w (mw d 93 Q 3 [x0, some w, x2, x3] (w :: st) h) := (mw_at mj_93_2).trans (z_iload_n rfl)
theorem mj_93_3 : mc_P 93 3 = some (.aload_n 0, 1, 0, 0, 0) := by decide +kernel
theorem s_93_3 {x1 x2 x3 : Option Value} {w : Value} : mw d 93 Q 3 [some w, x1, x2, x3] (st) h = mv_a w (mw d 93 Q 4 [some w, x1, x2, x3] (w :: st) h) := (mw_at mj_93_3).trans (z_aload_n rfl)
theorem mj_93_4 : mc_P 93 4 = some (.getfield 79, 3, 4, 2, 0) := by decide +kernel
theorem s_93_4 {x0 x1 x2 x3 : Option Value} {o : Nat} : mw d 93 Q 4 [x0, x1, x2, x3] (.ref o :: st) h = (mg h o 4 ∧ mw d 93 Q 7 [x0, x1, x2, x3] (.int (mh_i h o 2) :: st) h) := (mw_at mj_93_4).trans (z_geti (by decide) (by decide) (Or.inl rfl))
theorem mj_93_7 : mc_P 93 7 = some (.iconst 1, 1, 0, 0, 0) := by decide +kernel
theorem s_93_7 {x0 x1 x2 x3 : Option Value} : mw d 93 Q 7 [x0, x1, x2, x3] (st) h = mw d 93 Q 8 [x0, x1, x2, x3] (.int 1 :: st) h := (mw_at mj_93_7).trans (z_iconst (by decide))
theorem mj_93_8 : mc_P 93 8 = some (.isub, 1, 0, 0, 0) := by decide +kernel
theorem s_93_8 {x0 x1 x2 x3 : Option Value} {x w : Int32} : mw d 93 Q 8 [x0, x1, x2, x3] (.int w :: .int x :: st) h = mw d 93 Q 9 [x0, x1, x2, x3] (.int (x - w) :: st) h := (mw_at mj_93_8).trans (z_isub)
theorem mj_93_9 : mc_P 93 9 = some (.if_icmp .ge 177, 3, 0, 0, 0) := by decide +kernel
theorem s_93_9 {x0 x1 x2 x3 : Option Value} {x w : Int32} : mw d 93 Q 9 [x0, x1, x2, x3] (.int w :: .int x :: st) h = mB (w ≤ x) (mw d 93 Q) 186 12 [x0, x1, x2, x3] st h := (mw_at mj_93_9).trans (z_icmp_ge (by decide) rfl)
theorem mj_93_12 : mc_P 93 12 = some (.aload_n 0, 1, 0, 0, 0) := by decide +kernel
theorem s_93_12 {x1 x2 x3 : Option Value} {w : Value} : mw d 93 Q 12 [some w, x1, x2, x3] (st) h = mv_a w (mw d 93 Q 13 [some w, x1, x2, x3] (w :: st) h) := (mw_at mj_93_12).trans (z_aload_n rfl)
theorem mj_93_13 : mc_P 93 13 = some (.getfield 31, 3, 4, 3, 0) := by decide +kernel
theorem s_93_13 {x0 x1 x2 x3 : Option Value} {o : Nat} : mw d 93 Q 13 [x0, x1, x2, x3] (.ref o :: st) h = (mg h o 4 ∧ mw d 93 Q 16 [x0, x1, x2, x3] (va_rf (mh_r h o 3) :: st) h) := (mw_at mj_93_13).trans (z_getr (by decide) (by decide) rfl)
theorem mj_93_16 : mc_P 93 16 = some (.iload_n 1, 1, 0, 0, 0) := by decide +kernel
theorem s_93_16 {x0 x2 x3 : Option Value} {w : Value} : mw d 93 Q 16 [x0, some w, x2, x3] (st) h = mv_i w (mw d 93 Q 17 [x0, some w, x2, x3] (w :: st) h) := (mw_at mj_93_16).trans (z_iload_n rfl)
theorem mj_93_17 : mc_P 93 17 = some (.aaload, 1, 0, 0, 0) := by decide +kernel
theorem s_93_17 {x0 x1 x2 x3 : Option Value} {o : Nat} {i : Int32} : mw d 93 Q 17 [x0, x1, x2, x3] (.int i :: .ref o :: st) h = (mgr h o ∧ mx i (mh_l h o) ∧ mw d 93 Q 18 [x0, x1, x2, x3] (mrd (mh_k h o) h o i.toNatClampNeg :: st) h) := (mw_at mj_93_17).trans (z_aald)
theorem mj_93_18 : mc_P 93 18 = some (.astore_n 2, 1, 0, 0, 0) := by decide +kernel
theorem s_93_18 {x0 x1 x2 x3 : Option Value} {w : Nat} : mw d 93 Q 18 [x0, x1, x2, x3] (.ref w :: st) h = mw d 93 Q 19 [x0, mk2 x1, some (.ref w), x3] (st) h := (mw_at mj_93_18).trans (z_astore_n (Nat.le_of_ble_eq_true rfl) (me_s1_mk (j := 1) (w := x1) rfl))
theorem s_93_18n {x0 x1 x2 x3 : Option Value} : mw d 93 Q 18 [x0, x1, x2, x3] (.null :: st) h = mw d 93 Q 19 [x0, mk2 x1, some (.null), x3] (st) h := (mw_at mj_93_18).trans (z_astoreN_n (Nat.le_of_ble_eq_true rfl) (me_s1_mk (j := 1) (w := x1) rfl))
theorem s_93_18x {x0 x1 x2 x3 : Option Value} {w : Nat} : mw d 93 Q 18 [x0, x1, x2, x3] (.retAddr w :: st) h = mw d 93 Q 19 [x0, mk2 x1, some (.retAddr w), x3] (st) h := (mw_at mj_93_18).trans (z_astoreX_n (Nat.le_of_ble_eq_true rfl) (me_s1_mk (j := 1) (w := x1) rfl))
theorem mj_93_19 : mc_P 93 19 = some (.aload_n 0, 1, 0, 0, 0) := by decide +kernel
theorem s_93_19 {x1 x2 x3 : Option Value} {w : Value} : mw d 93 Q 19 [some w, x1, x2, x3] (st) h = mv_a w (mw d 93 Q 20 [some w, x1, x2, x3] (w :: st) h) := (mw_at mj_93_19).trans (z_aload_n rfl)
theorem mj_93_20 : mc_P 93 20 = some (.getfield 60, 3, 4, 12, 0) := by decide +kernel
theorem s_93_20 {x0 x1 x2 x3 : Option Value} {o : Nat} : mw d 93 Q 20 [x0, x1, x2, x3] (.ref o :: st) h = (mg h o 4 ∧ mw d 93 Q 23 [x0, x1, x2, x3] (va_rf (mh_r h o 12) :: st) h) := (mw_at mj_93_20).trans (z_getr (by decide) (by decide) rfl)
theorem mj_93_23 : mc_P 93 23 = some (.iload_n 1, 1, 0, 0, 0) := by decide +kernel
theorem s_93_23 {x0 x2 x3 : Option Value} {w : Value} : mw d 93 Q 23 [x0, some w, x2, x3] (st) h = mv_i w (mw d 93 Q 24 [x0, some w, x2, x3] (w :: st) h) := (mw_at mj_93_23).trans (z_iload_n rfl)
theorem mj_93_24 : mc_P 93 24 = some (.aload_n 0, 1, 0, 0, 0) := by decide +kernel
theorem s_93_24 {x1 x2 x3 : Option Value} {w : Value} : mw d 93 Q 24 [some w, x1, x2, x3] (st) h = mv_a w (mw d 93 Q 25 [some w, x1, x2, x3] (w :: st) h) := (mw_at mj_93_24).trans (z_aload_n rfl)
theorem mj_93_25 : mc_P 93 25 = some (.getfield 51, 3, 4, 9, 0) := by decide +kernel
theorem s_93_25 {x0 x1 x2 x3 : Option Value} {o : Nat} : mw d 93 Q 25 [x0, x1, x2, x3] (.ref o :: st) h = (mg h o 4 ∧ mw d 93 Q 28 [x0, x1, x2, x3] (va_rf (mh_r h o 9) :: st) h) := (mw_at mj_93_25).trans (z_getr (by decide) (by decide) rfl)
theorem mj_93_28 : mc_P 93 28 = some (.iload_n 1, 1, 0, 0, 0) := by decide +kernel
theorem s_93_28 {x0 x2 x3 : Option Value} {w : Value} : mw d 93 Q 28 [x0, some w, x2, x3] (st) h = mv_i w (mw d 93 Q 29 [x0, some w, x2, x3] (w :: st) h) := (mw_at mj_93_28).trans (z_iload_n rfl)
theorem mj_93_29 : mc_P 93 29 = some (.iaload, 1, 0, 0, 0) := by decide +kernel
theorem s_93_29 {x0 x1 x2 x3 : Option Value} {o : Nat} {i : Int32} : mw d 93 Q 29 [x0, x1, x2, x3] (.int i :: .ref o :: st) h = (mg h o 100 ∧ mx i (mh_l h o) ∧ mw d 93 Q 30 [x0, x1, x2, x3] (.int (mh_i h o i.toNatClampNeg) :: st) h) := (mw_at mj_93_29).trans (z_iald)
theorem s_93_29x {x0 x1 x2 x3 : Option Value} {i : Int32} : mw d 93 Q 29 [x0, x1, x2, x3] (.int i :: .retAddr 2 :: st) h = (mx i 24 ∧ mw d 93 Q 30 [x0, x1, x2, x3] (.int (mx_row.getD i.toNatClampNeg 0) :: st) h) := (mw_at mj_93_29).trans (z_iaX)
theorem mj_93_30 : mc_P 93 30 = some (.aload_n 0, 1, 0, 0, 0) := by decide +kernel
theorem s_93_30 {x1 x2 x3 : Option Value} {w : Value} : mw d 93 Q 30 [some w, x1, x2, x3] (st) h = mv_a w (mw d 93 Q 31 [some w, x1, x2, x3] (w :: st) h) := (mw_at mj_93_30).trans (z_aload_n rfl)
theorem mj_93_31 : mc_P 93 31 = some (.iload_n 1, 1, 0, 0, 0) := by decide +kernel
theorem s_93_31 {x0 x2 x3 : Option Value} {w : Value} : mw d 93 Q 31 [x0, some w, x2, x3] (st) h = mv_i w (mw d 93 Q 32 [x0, some w, x2, x3] (w :: st) h) := (mw_at mj_93_31).trans (z_iload_n rfl)
theorem mj_93_32 : mc_P 93 32 = some (.invokevirtual 187, 3, 94, 4, 2) := by decide +kernel
theorem s_93_32 {x0 x1 x2 x3 : Option Value} {o : Nat} {a1 : Value} : mw (d + 1) 93 Q 32 [x0, x1, x2, x3] (a1 :: .ref o :: st) h = (mg h o 4 ∧ mca st 8 ∧ mca [.ref o, a1] 4 ∧ mcall d 94 [.ref o, a1] h (mK (d + 1) 93 Q 35 [x0, x1, x2, x3] st)) := (mw_at mj_93_32).trans ((z_invv (As := [a1]) (by decide) rfl rfl).trans (congrArg (And _) (congrArg (And _) (mC_nl nl_94))))
theorem mj_93_35 : mc_P 93 35 = some (.if_icmp .ge 12, 3, 0, 0, 0) := by decide +kernel
theorem s_93_35 {x0 x1 x2 x3 : Option Value} {x w : Int32} : mw d 93 Q 35 [x0, x1, x2, x3] (.int w :: .int x :: st) h = mB (w ≤ x) (mw d 93 Q) 47 38 [x0, x1, x2, x3] st h := (mw_at mj_93_35).trans (z_icmp_ge (by decide) rfl)
theorem mj_93_38 : mc_P 93 38 = some (.aload_n 0, 1, 0, 0, 0) := by decide +kernel
theorem s_93_38 {x1 x2 x3 : Option Value} {w : Value} : mw d 93 Q 38 [some w, x1, x2, x3] (st) h = mv_a w (mw d 93 Q 39 [some w, x1, x2, x3] (w :: st) h) := (mw_at mj_93_38).trans (z_aload_n rfl)
theorem mj_93_39 : mc_P 93 39 = some (.getfield 51, 3, 4, 9, 0) := by decide +kernel
theorem s_93_39 {x0 x1 x2 x3 : Option Value} {o : Nat} : mw d 93 Q 39 [x0, x1, x2, x3] (.ref o :: st) h = (mg h o 4 ∧ mw d 93 Q 42 [x0, x1, x2, x3] (va_rf (mh_r h o 9) :: st) h) := (mw_at mj_93_39).trans (z_getr (by decide) (by decide) rfl)
theorem mj_93_42 : mc_P 93 42 = some (.iload_n 1, 1, 0, 0, 0) := by decide +kernel
theorem s_93_42 {x0 x2 x3 : Option Value} {w : Value} : mw d 93 Q 42 [x0, some w, x2, x3] (st) h = mv_i w (mw d 93 Q 43 [x0, some w, x2, x3] (w :: st) h) := (mw_at mj_93_42).trans (z_iload_n rfl)
theorem mj_93_43 : mc_P 93 43 = some (.iaload, 1, 0, 0, 0) := by decide +kernel
theorem s_93_43 {x0 x1 x2 x3 : Option Value} {o : Nat} {i : Int32} : mw d 93 Q 43 [x0, x1, x2, x3] (.int i :: .ref o :: st) h = (mg h o 100 ∧ mx i (mh_l h o) ∧ mw d 93 Q 44 [x0, x1, x2, x3] (.int (mh_i h o i.toNatClampNeg) :: st) h) := (mw_at mj_93_43).trans (z_iald)
theorem s_93_43x {x0 x1 x2 x3 : Option Value} {i : Int32} : mw d 93 Q 43 [x0, x1, x2, x3] (.int i :: .retAddr 2 :: st) h = (mx i 24 ∧ mw d 93 Q 44 [x0, x1, x2, x3] (.int (mx_row.getD i.toNatClampNeg 0) :: st) h) := (mw_at mj_93_43).trans (z_iaX)
theorem mj_93_44 : mc_P 93 44 = some (.goto 13, 3, 0, 0, 0) := by decide +kernel
theorem s_93_44 {x0 x1 x2 x3 : Option Value} : mw d 93 Q 44 [x0, x1, x2, x3] (st) h = mw d 93 Q 57 [x0, x1, x2, x3] (st) h := (mw_at mj_93_44).trans (z_goto (by decide))
theorem mj_93_47 : mc_P 93 47 = some (.aload_n 0, 1, 0, 0, 0) := by decide +kernel
theorem s_93_47 {x1 x2 x3 : Option Value} {w : Value} : mw d 93 Q 47 [some w, x1, x2, x3] (st) h = mv_a w (mw d 93 Q 48 [some w, x1, x2, x3] (w :: st) h) := (mw_at mj_93_47).trans (z_aload_n rfl)
theorem mj_93_48 : mc_P 93 48 = some (.aload_n 0, 1, 0, 0, 0) := by decide +kernel
theorem s_93_48 {x1 x2 x3 : Option Value} {w : Value} : mw d 93 Q 48 [some w, x1, x2, x3] (st) h = mv_a w (mw d 93 Q 49 [some w, x1, x2, x3] (w :: st) h) := (mw_at mj_93_48).trans (z_aload_n rfl)
theorem mj_93_49 : mc_P 93 49 = some (.getfield 45, 3, 4, 7, 0) := by decide +kernel
theorem s_93_49 {x0 x1 x2 x3 : Option Value} {o : Nat} : mw d 93 Q 49 [x0, x1, x2, x3] (.ref o :: st) h = (mg h o 4 ∧ mw d 93 Q 52 [x0, x1, x2, x3] (va_rf (mh_r h o 7) :: st) h) := (mw_at mj_93_49).trans (z_getr (by decide) (by decide) rfl)
theorem mj_93_52 : mc_P 93 52 = some (.iload_n 1, 1, 0, 0, 0) := by decide +kernel
theorem s_93_52 {x0 x2 x3 : Option Value} {w : Value} : mw d 93 Q 52 [x0, some w, x2, x3] (st) h = mv_i w (mw d 93 Q 53 [x0, some w, x2, x3] (w :: st) h) := (mw_at mj_93_52).trans (z_iload_n rfl)
theorem mj_93_53 : mc_P 93 53 = some (.iaload, 1, 0, 0, 0) := by decide +kernel
theorem s_93_53 {x0 x1 x2 x3 : Option Value} {o : Nat} {i : Int32} : mw d 93 Q 53 [x0, x1, x2, x3] (.int i :: .ref o :: st) h = (mg h o 100 ∧ mx i (mh_l h o) ∧ mw d 93 Q 54 [x0, x1, x2, x3] (.int (mh_i h o i.toNatClampNeg) :: st) h) := (mw_at mj_93_53).trans (z_iald)
theorem s_93_53x {x0 x1 x2 x3 : Option Value} {i : Int32} : mw d 93 Q 53 [x0, x1, x2, x3] (.int i :: .retAddr 2 :: st) h = (mx i 24 ∧ mw d 93 Q 54 [x0, x1, x2, x3] (.int (mx_row.getD i.toNatClampNeg 0) :: st) h) := (mw_at mj_93_53).trans (z_iaX)
theorem mj_93_54 : mc_P 93 54 = some (.invokevirtual 190, 3, 95, 4, 2) := by decide +kernel
theorem s_93_54 {x0 x1 x2 x3 : Option Value} {o : Nat} {a1 : Value} : mw (d + 1) 93 Q 54 [x0, x1, x2, x3] (a1 :: .ref o :: st) h = (mg h o 4 ∧ mca st 8 ∧ mca [.ref o, a1] 2 ∧ mcall d 95 [.ref o, a1] h (mK (d + 1) 93 Q 57 [x0, x1, x2, x3] st)) := (mw_at mj_93_54).trans ((z_invv (As := [a1]) (by decide) rfl rfl).trans (congrArg (And _) (congrArg (And _) (mC_nl nl_95))))
theorem mj_93_57 : mc_P 93 57 = some (.iastore, 1, 0, 0, 0) := by decide +kernel
theorem s_93_57 {x0 x1 x2 x3 : Option Value} {o : Nat} {i w : Int32} : mw d 93 Q 57 [x0, x1, x2, x3] (.int w :: .int i :: .ref o :: st) h = (mg h o 100 ∧ mx i (mh_l h o) ∧ mw d 93 Q 58 [x0, x1, x2, x3] (st) (mh_si h o i.toNatClampNeg w)) := (mw_at mj_93_57).trans (z_iast)
theorem mj_93_58 : mc_P 93 58 = some (.aload_n 0, 1, 0, 0, 0) := by decide +kernel
theorem s_93_58 {x1 x2 x3 : Option Value} {w : Value} : mw d 93 Q 58 [some w, x1, x2, x3] (st) h = mv_a w (mw d 93 Q 59 [some w, x1, x2, x3] (w :: st) h) := (mw_at mj_93_58).trans (z_aload_n rfl)
theorem mj_93_59 : mc_P 93 59 = some (.getfield 54, 3, 4, 10, 0) := by decide +kernel
theorem s_93_59 {x0 x1 x2 x3 : Option Value} {o : Nat} : mw d 93 Q 59 [x0, x1, x2, x3] (.ref o :: st) h = (mg h o 4 ∧ mw d 93 Q 62 [x0, x1, x2, x3] (va_rf (mh_r h o 10) :: st) h) := (mw_at mj_93_59).trans (z_getr (by decide) (by decide) rfl)
theorem mj_93_62 : mc_P 93 62 = some (.iload_n 1, 1, 0, 0, 0) := by decide +kernel
theorem s_93_62 {x0 x2 x3 : Option Value} {w : Value} : mw d 93 Q 62 [x0, some w, x2, x3] (st) h = mv_i w (mw d 93 Q 63 [x0, some w, x2, x3] (w :: st) h) := (mw_at mj_93_62).trans (z_iload_n rfl)
theorem mj_93_63 : mc_P 93 63 = some (.aload_n 0, 1, 0, 0, 0) := by decide +kernel
theorem s_93_63 {x1 x2 x3 : Option Value} {w : Value} : mw d 93 Q 63 [some w, x1, x2, x3] (st) h = mv_a w (mw d 93 Q 64 [some w, x1, x2, x3] (w :: st) h) := (mw_at mj_93_63).trans (z_aload_n rfl)
theorem mj_93_64 : mc_P 93 64 = some (.getfield 60, 3, 4, 12, 0) := by decide +kernel
theorem s_93_64 {x0 x1 x2 x3 : Option Value} {o : Nat} : mw d 93 Q 64 [x0, x1, x2, x3] (.ref o :: st) h = (mg h o 4 ∧ mw d 93 Q 67 [x0, x1, x2, x3] (va_rf (mh_r h o 12) :: st) h) := (mw_at mj_93_64).trans (z_getr (by decide) (by decide) rfl)
theorem mj_93_67 : mc_P 93 67 = some (.iload_n 1, 1, 0, 0, 0) := by decide +kernel
theorem s_93_67 {x0 x2 x3 : Option Value} {w : Value} : mw d 93 Q 67 [x0, some w, x2, x3] (st) h = mv_i w (mw d 93 Q 68 [x0, some w, x2, x3] (w :: st) h) := (mw_at mj_93_67).trans (z_iload_n rfl)
theorem mj_93_68 : mc_P 93 68 = some (.iaload, 1, 0, 0, 0) := by decide +kernel
theorem s_93_68 {x0 x1 x2 x3 : Option Value} {o : Nat} {i : Int32} : mw d 93 Q 68 [x0, x1, x2, x3] (.int i :: .ref o :: st) h = (mg h o 100 ∧ mx i (mh_l h o) ∧ mw d 93 Q 69 [x0, x1, x2, x3] (.int (mh_i h o i.toNatClampNeg) :: st) h) := (mw_at mj_93_68).trans (z_iald)
theorem s_93_68x {x0 x1 x2 x3 : Option Value} {i : Int32} : mw d 93 Q 68 [x0, x1, x2, x3] (.int i :: .retAddr 2 :: st) h = (mx i 24 ∧ mw d 93 Q 69 [x0, x1, x2, x3] (.int (mx_row.getD i.toNatClampNeg 0) :: st) h) := (mw_at mj_93_68).trans (z_iaX)
theorem mj_93_69 : mc_P 93 69 = some (.iastore, 1, 0, 0, 0) := by decide +kernel
theorem s_93_69 {x0 x1 x2 x3 : Option Value} {o : Nat} {i w : Int32} : mw d 93 Q 69 [x0, x1, x2, x3] (.int w :: .int i :: .ref o :: st) h = (mg h o 100 ∧ mx i (mh_l h o) ∧ mw d 93 Q 70 [x0, x1, x2, x3] (st) (mh_si h o i.toNatClampNeg w)) := (mw_at mj_93_69).trans (z_iast)
theorem mj_93_70 : mc_P 93 70 = some (.aload_n 0, 1, 0, 0, 0) := by decide +kernel
theorem s_93_70 {x1 x2 x3 : Option Value} {w : Value} : mw d 93 Q 70 [some w, x1, x2, x3] (st) h = mv_a w (mw d 93 Q 71 [some w, x1, x2, x3] (w :: st) h) := (mw_at mj_93_70).trans (z_aload_n rfl)
theorem mj_93_71 : mc_P 93 71 = some (.getfield 57, 3, 4, 11, 0) := by decide +kernel
theorem s_93_71 {x0 x1 x2 x3 : Option Value} {o : Nat} : mw d 93 Q 71 [x0, x1, x2, x3] (.ref o :: st) h = (mg h o 4 ∧ mw d 93 Q 74 [x0, x1, x2, x3] (va_rf (mh_r h o 11) :: st) h) := (mw_at mj_93_71).trans (z_getr (by decide) (by decide) rfl)
theorem mj_93_74 : mc_P 93 74 = some (.iload_n 1, 1, 0, 0, 0) := by decide +kernel
theorem s_93_74 {x0 x2 x3 : Option Value} {w : Value} : mw d 93 Q 74 [x0, some w, x2, x3] (st) h = mv_i w (mw d 93 Q 75 [x0, some w, x2, x3] (w :: st) h) := (mw_at mj_93_74).trans (z_iload_n rfl)
theorem mj_93_75 : mc_P 93 75 = some (.aload_n 0, 1, 0, 0, 0) := by decide +kernel
theorem s_93_75 {x1 x2 x3 : Option Value} {w : Value} : mw d 93 Q 75 [some w, x1, x2, x3] (st) h = mv_a w (mw d 93 Q 76 [some w, x1, x2, x3] (w :: st) h) := (mw_at mj_93_75).trans (z_aload_n rfl)
theorem mj_93_76 : mc_P 93 76 = some (.getfield 60, 3, 4, 12, 0) := by decide +kernel
theorem s_93_76 {x0 x1 x2 x3 : Option Value} {o : Nat} : mw d 93 Q 76 [x0, x1, x2, x3] (.ref o :: st) h = (mg h o 4 ∧ mw d 93 Q 79 [x0, x1, x2, x3] (va_rf (mh_r h o 12) :: st) h) := (mw_at mj_93_76).trans (z_getr (by decide) (by decide) rfl)
theorem mj_93_79 : mc_P 93 79 = some (.iload_n 1, 1, 0, 0, 0) := by decide +kernel
theorem s_93_79 {x0 x2 x3 : Option Value} {w : Value} : mw d 93 Q 79 [x0, some w, x2, x3] (st) h = mv_i w (mw d 93 Q 80 [x0, some w, x2, x3] (w :: st) h) := (mw_at mj_93_79).trans (z_iload_n rfl)
theorem mj_93_80 : mc_P 93 80 = some (.iaload, 1, 0, 0, 0) := by decide +kernel
theorem s_93_80 {x0 x1 x2 x3 : Option Value} {o : Nat} {i : Int32} : mw d 93 Q 80 [x0, x1, x2, x3] (.int i :: .ref o :: st) h = (mg h o 100 ∧ mx i (mh_l h o) ∧ mw d 93 Q 81 [x0, x1, x2, x3] (.int (mh_i h o i.toNatClampNeg) :: st) h) := (mw_at mj_93_80).trans (z_iald)
theorem s_93_80x {x0 x1 x2 x3 : Option Value} {i : Int32} : mw d 93 Q 80 [x0, x1, x2, x3] (.int i :: .retAddr 2 :: st) h = (mx i 24 ∧ mw d 93 Q 81 [x0, x1, x2, x3] (.int (mx_row.getD i.toNatClampNeg 0) :: st) h) := (mw_at mj_93_80).trans (z_iaX)
theorem mj_93_81 : mc_P 93 81 = some (.iastore, 1, 0, 0, 0) := by decide +kernel
theorem s_93_81 {x0 x1 x2 x3 : Option Value} {o : Nat} {i w : Int32} : mw d 93 Q 81 [x0, x1, x2, x3] (.int w :: .int i :: .ref o :: st) h = (mg h o 100 ∧ mx i (mh_l h o) ∧ mw d 93 Q 82 [x0, x1, x2, x3] (st) (mh_si h o i.toNatClampNeg w)) := (mw_at mj_93_81).trans (z_iast)
theorem mj_93_82 : mc_P 93 82 = some (.aload_n 2, 1, 0, 0, 0) := by decide +kernel
theorem s_93_82 {x0 x1 x3 : Option Value} {w : Value} : mw d 93 Q 82 [x0, x1, some w, x3] (st) h = mv_a w (mw d 93 Q 83 [x0, x1, some w, x3] (w :: st) h) := (mw_at mj_93_82).trans (z_aload_n rfl)
theorem mj_93_83 : mc_P 93 83 = some (.getfield 137, 3, 9, 0, 0) := by decide +kernel
theorem s_93_83 {x0 x1 x2 x3 : Option Value} {o : Nat} : mw d 93 Q 83 [x0, x1, x2, x3] (.ref o :: st) h = (mg h o 9 ∧ mw d 93 Q 86 [x0, x1, x2, x3] (.int (mh_i h o 0) :: st) h) := (mw_at mj_93_83).trans (z_geti (by decide) (by decide) (Or.inl rfl))
theorem mj_93_86 : mc_P 93 86 = some (.iconst 5, 1, 0, 0, 0) := by decide +kernel
theorem s_93_86 {x0 x1 x2 x3 : Option Value} : mw d 93 Q 86 [x0, x1, x2, x3] (st) h = mw d 93 Q 87 [x0, x1, x2, x3] (.int 5 :: st) h := (mw_at mj_93_86).trans (z_iconst (by decide))
theorem mj_93_87 : mc_P 93 87 = some (.if_icmp .ne 7, 3, 0, 0, 0) := by decide +kernel
theorem s_93_87 {x0 x1 x2 x3 : Option Value} {x w : Int32} : mw d 93 Q 87 [x0, x1, x2, x3] (.int w :: .int x :: st) h = mB (¬ x = w) (mw d 93 Q) 94 90 [x0, x1, x2, x3] st h := (mw_at mj_93_87).trans (z_icmp_ne (by decide) rfl)
theorem mj_93_90 : mc_P 93 90 = some (.iconst 1, 1, 0, 0, 0) := by decide +kernel
theorem s_93_90 {x0 x1 x2 x3 : Option Value} : mw d 93 Q 90 [x0, x1, x2, x3] (st) h = mw d 93 Q 91 [x0, x1, x2, x3] (.int 1 :: st) h := (mw_at mj_93_90).trans (z_iconst (by decide))
theorem mj_93_91 : mc_P 93 91 = some (.goto 4, 3, 0, 0, 0) := by decide +kernel
theorem s_93_91 {x0 x1 x2 x3 : Option Value} : mw d 93 Q 91 [x0, x1, x2, x3] (st) h = mw d 93 Q 95 [x0, x1, x2, x3] (st) h := (mw_at mj_93_91).trans (z_goto (by decide))
theorem mj_93_94 : mc_P 93 94 = some (.iconst 0, 1, 0, 0, 0) := by decide +kernel
theorem s_93_94 {x0 x1 x2 x3 : Option Value} : mw d 93 Q 94 [x0, x1, x2, x3] (st) h = mw d 93 Q 95 [x0, x1, x2, x3] (.int 0 :: st) h := (mw_at mj_93_94).trans (z_iconst (by decide))
theorem mj_93_95 : mc_P 93 95 = some (.istore_n 3, 1, 0, 0, 0) := by decide +kernel
theorem s_93_95 {x0 x1 x2 x3 : Option Value} {w : Int32} : mw d 93 Q 95 [x0, x1, x2, x3] (.int w :: st) h = mw d 93 Q 96 [x0, x1, mk2 x2, some (.int w)] (st) h := (mw_at mj_93_95).trans (z_istore_n (Nat.le_of_ble_eq_true rfl) (me_s1_mk (j := 2) (w := x2) rfl))
theorem mj_93_96 : mc_P 93 96 = some (.iload_n 1, 1, 0, 0, 0) := by decide +kernel
theorem s_93_96 {x0 x2 x3 : Option Value} {w : Value} : mw d 93 Q 96 [x0, some w, x2, x3] (st) h = mv_i w (mw d 93 Q 97 [x0, some w, x2, x3] (w :: st) h) := (mw_at mj_93_96).trans (z_iload_n rfl)
theorem mj_93_97 : mc_P 93 97 = some (.iconst 1, 1, 0, 0, 0) := by decide +kernel
theorem s_93_97 {x0 x1 x2 x3 : Option Value} : mw d 93 Q 97 [x0, x1, x2, x3] (st) h = mw d 93 Q 98 [x0, x1, x2, x3] (.int 1 :: st) h := (mw_at mj_93_97).trans (z_iconst (by decide))
theorem mj_93_98 : mc_P 93 98 = some (.iadd, 1, 0, 0, 0) := by decide +kernel
theorem s_93_98 {x0 x1 x2 x3 : Option Value} {x w : Int32} : mw d 93 Q 98 [x0, x1, x2, x3] (.int w :: .int x :: st) h = mw d 93 Q 99 [x0, x1, x2, x3] (.int (x + w) :: st) h := (mw_at mj_93_98).trans (z_iadd)
theorem mj_93_99 : mc_P 93 99 = some (.iload_n 3, 1, 0, 0, 0) := by decide +kernel
theorem s_93_99 {x0 x1 x2 : Option Value} {w : Value} : mw d 93 Q 99 [x0, x1, x2, some w] (st) h = mv_i w (mw d 93 Q 100 [x0, x1, x2, some w] (w :: st) h) := (mw_at mj_93_99).trans (z_iload_n rfl)
theorem mj_93_100 : mc_P 93 100 = some (.ifCond .eq 12, 3, 0, 0, 0) := by decide +kernel
theorem s_93_100 {x0 x1 x2 x3 : Option Value} {x : Int32} : mw d 93 Q 100 [x0, x1, x2, x3] (.int x :: st) h = mB (x = 0) (mw d 93 Q) 112 103 [x0, x1, x2, x3] st h := (mw_at mj_93_100).trans (z_if_eq (by decide) rfl)
theorem mj_93_103 : mc_P 93 103 = some (.aload_n 0, 1, 0, 0, 0) := by decide +kernel
theorem s_93_103 {x1 x2 x3 : Option Value} {w : Value} : mw d 93 Q 103 [some w, x1, x2, x3] (st) h = mv_a w (mw d 93 Q 104 [some w, x1, x2, x3] (w :: st) h) := (mw_at mj_93_103).trans (z_aload_n rfl)
theorem mj_93_104 : mc_P 93 104 = some (.getfield 48, 3, 4, 8, 0) := by decide +kernel
theorem s_93_104 {x0 x1 x2 x3 : Option Value} {o : Nat} : mw d 93 Q 104 [x0, x1, x2, x3] (.ref o :: st) h = (mg h o 4 ∧ mw d 93 Q 107 [x0, x1, x2, x3] (va_rf (mh_r h o 8) :: st) h) := (mw_at mj_93_104).trans (z_getr (by decide) (by decide) rfl)
theorem mj_93_107 : mc_P 93 107 = some (.iload_n 1, 1, 0, 0, 0) := by decide +kernel
theorem s_93_107 {x0 x2 x3 : Option Value} {w : Value} : mw d 93 Q 107 [x0, some w, x2, x3] (st) h = mv_i w (mw d 93 Q 108 [x0, some w, x2, x3] (w :: st) h) := (mw_at mj_93_107).trans (z_iload_n rfl)
theorem mj_93_108 : mc_P 93 108 = some (.iaload, 1, 0, 0, 0) := by decide +kernel
theorem s_93_108 {x0 x1 x2 x3 : Option Value} {o : Nat} {i : Int32} : mw d 93 Q 108 [x0, x1, x2, x3] (.int i :: .ref o :: st) h = (mg h o 100 ∧ mx i (mh_l h o) ∧ mw d 93 Q 109 [x0, x1, x2, x3] (.int (mh_i h o i.toNatClampNeg) :: st) h) := (mw_at mj_93_108).trans (z_iald)
theorem s_93_108x {x0 x1 x2 x3 : Option Value} {i : Int32} : mw d 93 Q 108 [x0, x1, x2, x3] (.int i :: .retAddr 2 :: st) h = (mx i 24 ∧ mw d 93 Q 109 [x0, x1, x2, x3] (.int (mx_row.getD i.toNatClampNeg 0) :: st) h) := (mw_at mj_93_108).trans (z_iaX)
theorem mj_93_109 : mc_P 93 109 = some (.goto 9, 3, 0, 0, 0) := by decide +kernel
theorem s_93_109 {x0 x1 x2 x3 : Option Value} : mw d 93 Q 109 [x0, x1, x2, x3] (st) h = mw d 93 Q 118 [x0, x1, x2, x3] (st) h := (mw_at mj_93_109).trans (z_goto (by decide))
theorem mj_93_112 : mc_P 93 112 = some (.aload_n 0, 1, 0, 0, 0) := by decide +kernel
theorem s_93_112 {x1 x2 x3 : Option Value} {w : Value} : mw d 93 Q 112 [some w, x1, x2, x3] (st) h = mv_a w (mw d 93 Q 113 [some w, x1, x2, x3] (w :: st) h) := (mw_at mj_93_112).trans (z_aload_n rfl)
theorem mj_93_113 : mc_P 93 113 = some (.getfield 51, 3, 4, 9, 0) := by decide +kernel
theorem s_93_113 {x0 x1 x2 x3 : Option Value} {o : Nat} : mw d 93 Q 113 [x0, x1, x2, x3] (.ref o :: st) h = (mg h o 4 ∧ mw d 93 Q 116 [x0, x1, x2, x3] (va_rf (mh_r h o 9) :: st) h) := (mw_at mj_93_113).trans (z_getr (by decide) (by decide) rfl)
theorem mj_93_116 : mc_P 93 116 = some (.iload_n 1, 1, 0, 0, 0) := by decide +kernel
theorem s_93_116 {x0 x2 x3 : Option Value} {w : Value} : mw d 93 Q 116 [x0, some w, x2, x3] (st) h = mv_i w (mw d 93 Q 117 [x0, some w, x2, x3] (w :: st) h) := (mw_at mj_93_116).trans (z_iload_n rfl)
theorem mj_93_117 : mc_P 93 117 = some (.iaload, 1, 0, 0, 0) := by decide +kernel
theorem s_93_117 {x0 x1 x2 x3 : Option Value} {o : Nat} {i : Int32} : mw d 93 Q 117 [x0, x1, x2, x3] (.int i :: .ref o :: st) h = (mg h o 100 ∧ mx i (mh_l h o) ∧ mw d 93 Q 118 [x0, x1, x2, x3] (.int (mh_i h o i.toNatClampNeg) :: st) h) := (mw_at mj_93_117).trans (z_iald)
theorem s_93_117x {x0 x1 x2 x3 : Option Value} {i : Int32} : mw d 93 Q 117 [x0, x1, x2, x3] (.int i :: .retAddr 2 :: st) h = (mx i 24 ∧ mw d 93 Q 118 [x0, x1, x2, x3] (.int (mx_row.getD i.toNatClampNeg 0) :: st) h) := (mw_at mj_93_117).trans (z_iaX)
theorem mj_93_118 : mc_P 93 118 = some (.if_icmp .ge 15, 3, 0, 0, 0) := by decide +kernel
theorem s_93_118 {x0 x1 x2 x3 : Option Value} {x w : Int32} : mw d 93 Q 118 [x0, x1, x2, x3] (.int w :: .int x :: st) h = mB (w ≤ x) (mw d 93 Q) 133 121 [x0, x1, x2, x3] st h := (mw_at mj_93_118).trans (z_icmp_ge (by decide) rfl)
theorem mj_93_121 : mc_P 93 121 = some (.aload_n 0, 1, 0, 0, 0) := by decide +kernel
theorem s_93_121 {x1 x2 x3 : Option Value} {w : Value} : mw d 93 Q 121 [some w, x1, x2, x3] (st) h = mv_a w (mw d 93 Q 122 [some w, x1, x2, x3] (w :: st) h) := (mw_at mj_93_121).trans (z_aload_n rfl)
theorem mj_93_122 : mc_P 93 122 = some (.getfield 54, 3, 4, 10, 0) := by decide +kernel
theorem s_93_122 {x0 x1 x2 x3 : Option Value} {o : Nat} : mw d 93 Q 122 [x0, x1, x2, x3] (.ref o :: st) h = (mg h o 4 ∧ mw d 93 Q 125 [x0, x1, x2, x3] (va_rf (mh_r h o 10) :: st) h) := (mw_at mj_93_122).trans (z_getr (by decide) (by decide) rfl)
theorem mj_93_125 : mc_P 93 125 = some (.iload_n 1, 1, 0, 0, 0) := by decide +kernel
theorem s_93_125 {x0 x2 x3 : Option Value} {w : Value} : mw d 93 Q 125 [x0, some w, x2, x3] (st) h = mv_i w (mw d 93 Q 126 [x0, some w, x2, x3] (w :: st) h) := (mw_at mj_93_125).trans (z_iload_n rfl)
theorem mj_93_126 : mc_P 93 126 = some (.iload_n 1, 1, 0, 0, 0) := by decide +kernel
theorem s_93_126 {x0 x2 x3 : Option Value} {w : Value} : mw d 93 Q 126 [x0, some w, x2, x3] (st) h = mv_i w (mw d 93 Q 127 [x0, some w, x2, x3] (w :: st) h) := (mw_at mj_93_126).trans (z_iload_n rfl)
theorem mj_93_127 : mc_P 93 127 = some (.iconst 1, 1, 0, 0, 0) := by decide +kernel
theorem s_93_127 {x0 x1 x2 x3 : Option Value} : mw d 93 Q 127 [x0, x1, x2, x3] (st) h = mw d 93 Q 128 [x0, x1, x2, x3] (.int 1 :: st) h := (mw_at mj_93_127).trans (z_iconst (by decide))
theorem mj_93_128 : mc_P 93 128 = some (.iadd, 1, 0, 0, 0) := by decide +kernel
theorem s_93_128 {x0 x1 x2 x3 : Option Value} {x w : Int32} : mw d 93 Q 128 [x0, x1, x2, x3] (.int w :: .int x :: st) h = mw d 93 Q 129 [x0, x1, x2, x3] (.int (x + w) :: st) h := (mw_at mj_93_128).trans (z_iadd)
theorem mj_93_129 : mc_P 93 129 = some (.iastore, 1, 0, 0, 0) := by decide +kernel
theorem s_93_129 {x0 x1 x2 x3 : Option Value} {o : Nat} {i w : Int32} : mw d 93 Q 129 [x0, x1, x2, x3] (.int w :: .int i :: .ref o :: st) h = (mg h o 100 ∧ mx i (mh_l h o) ∧ mw d 93 Q 130 [x0, x1, x2, x3] (st) (mh_si h o i.toNatClampNeg w)) := (mw_at mj_93_129).trans (z_iast)
theorem mj_93_130 : mc_P 93 130 = some (.goto 19, 3, 0, 0, 0) := by decide +kernel
theorem s_93_130 {x0 x1 x2 x3 : Option Value} : mw d 93 Q 130 [x0, x1, x2, x3] (st) h = mw d 93 Q 149 [x0, x1, x2, x3] (st) h := (mw_at mj_93_130).trans (z_goto (by decide))
theorem mj_93_133 : mc_P 93 133 = some (.aload_n 2, 1, 0, 0, 0) := by decide +kernel
theorem s_93_133 {x0 x1 x3 : Option Value} {w : Value} : mw d 93 Q 133 [x0, x1, some w, x3] (st) h = mv_a w (mw d 93 Q 134 [x0, x1, some w, x3] (w :: st) h) := (mw_at mj_93_133).trans (z_aload_n rfl)
theorem mj_93_134 : mc_P 93 134 = some (.getfield 137, 3, 9, 0, 0) := by decide +kernel
theorem s_93_134 {x0 x1 x2 x3 : Option Value} {o : Nat} : mw d 93 Q 134 [x0, x1, x2, x3] (.ref o :: st) h = (mg h o 9 ∧ mw d 93 Q 137 [x0, x1, x2, x3] (.int (mh_i h o 0) :: st) h) := (mw_at mj_93_134).trans (z_geti (by decide) (by decide) (Or.inl rfl))
theorem mj_93_137 : mc_P 93 137 = some (.bipush 6, 2, 0, 0, 0) := by decide +kernel
theorem s_93_137 {x0 x1 x2 x3 : Option Value} : mw d 93 Q 137 [x0, x1, x2, x3] (st) h = mw d 93 Q 139 [x0, x1, x2, x3] (.int 6 :: st) h := (mw_at mj_93_137).trans (z_bipush (by decide))
theorem mj_93_139 : mc_P 93 139 = some (.if_icmp .ne 10, 3, 0, 0, 0) := by decide +kernel
theorem s_93_139 {x0 x1 x2 x3 : Option Value} {x w : Int32} : mw d 93 Q 139 [x0, x1, x2, x3] (.int w :: .int x :: st) h = mB (¬ x = w) (mw d 93 Q) 149 142 [x0, x1, x2, x3] st h := (mw_at mj_93_139).trans (z_icmp_ne (by decide) rfl)
theorem mj_93_142 : mc_P 93 142 = some (.aload_n 0, 1, 0, 0, 0) := by decide +kernel
theorem s_93_142 {x1 x2 x3 : Option Value} {w : Value} : mw d 93 Q 142 [some w, x1, x2, x3] (st) h = mv_a w (mw d 93 Q 143 [some w, x1, x2, x3] (w :: st) h) := (mw_at mj_93_142).trans (z_aload_n rfl)
theorem mj_93_143 : mc_P 93 143 = some (.getfield 54, 3, 4, 10, 0) := by decide +kernel
theorem s_93_143 {x0 x1 x2 x3 : Option Value} {o : Nat} : mw d 93 Q 143 [x0, x1, x2, x3] (.ref o :: st) h = (mg h o 4 ∧ mw d 93 Q 146 [x0, x1, x2, x3] (va_rf (mh_r h o 10) :: st) h) := (mw_at mj_93_143).trans (z_getr (by decide) (by decide) rfl)
theorem mj_93_146 : mc_P 93 146 = some (.iload_n 1, 1, 0, 0, 0) := by decide +kernel
theorem s_93_146 {x0 x2 x3 : Option Value} {w : Value} : mw d 93 Q 146 [x0, some w, x2, x3] (st) h = mv_i w (mw d 93 Q 147 [x0, some w, x2, x3] (w :: st) h) := (mw_at mj_93_146).trans (z_iload_n rfl)
theorem mj_93_147 : mc_P 93 147 = some (.iload_n 1, 1, 0, 0, 0) := by decide +kernel
theorem s_93_147 {x0 x2 x3 : Option Value} {w : Value} : mw d 93 Q 147 [x0, some w, x2, x3] (st) h = mv_i w (mw d 93 Q 148 [x0, some w, x2, x3] (w :: st) h) := (mw_at mj_93_147).trans (z_iload_n rfl)
theorem mj_93_148 : mc_P 93 148 = some (.iastore, 1, 0, 0, 0) := by decide +kernel
theorem s_93_148 {x0 x1 x2 x3 : Option Value} {o : Nat} {i w : Int32} : mw d 93 Q 148 [x0, x1, x2, x3] (.int w :: .int i :: .ref o :: st) h = (mg h o 100 ∧ mx i (mh_l h o) ∧ mw d 93 Q 149 [x0, x1, x2, x3] (st) (mh_si h o i.toNatClampNeg w)) := (mw_at mj_93_148).trans (z_iast)
theorem mj_93_149 : mc_P 93 149 = some (.iload_n 3, 1, 0, 0, 0) := by decide +kernel
theorem s_93_149 {x0 x1 x2 : Option Value} {w : Value} : mw d 93 Q 149 [x0, x1, x2, some w] (st) h = mv_i w (mw d 93 Q 150 [x0, x1, x2, some w] (w :: st) h) := (mw_at mj_93_149).trans (z_iload_n rfl)
theorem mj_93_150 : mc_P 93 150 = some (.ifCond .eq 30, 3, 0, 0, 0) := by decide +kernel
theorem s_93_150 {x0 x1 x2 x3 : Option Value} {x : Int32} : mw d 93 Q 150 [x0, x1, x2, x3] (.int x :: st) h = mB (x = 0) (mw d 93 Q) 180 153 [x0, x1, x2, x3] st h := (mw_at mj_93_150).trans (z_if_eq (by decide) rfl)
theorem mj_93_153 : mc_P 93 153 = some (.aload_n 0, 1, 0, 0, 0) := by decide +kernel
theorem s_93_153 {x1 x2 x3 : Option Value} {w : Value} : mw d 93 Q 153 [some w, x1, x2, x3] (st) h = mv_a w (mw d 93 Q 154 [some w, x1, x2, x3] (w :: st) h) := (mw_at mj_93_153).trans (z_aload_n rfl)
theorem mj_93_154 : mc_P 93 154 = some (.getfield 48, 3, 4, 8, 0) := by decide +kernel
theorem s_93_154 {x0 x1 x2 x3 : Option Value} {o : Nat} : mw d 93 Q 154 [x0, x1, x2, x3] (.ref o :: st) h = (mg h o 4 ∧ mw d 93 Q 157 [x0, x1, x2, x3] (va_rf (mh_r h o 8) :: st) h) := (mw_at mj_93_154).trans (z_getr (by decide) (by decide) rfl)
theorem mj_93_157 : mc_P 93 157 = some (.iload_n 1, 1, 0, 0, 0) := by decide +kernel
theorem s_93_157 {x0 x2 x3 : Option Value} {w : Value} : mw d 93 Q 157 [x0, some w, x2, x3] (st) h = mv_i w (mw d 93 Q 158 [x0, some w, x2, x3] (w :: st) h) := (mw_at mj_93_157).trans (z_iload_n rfl)
theorem mj_93_158 : mc_P 93 158 = some (.iaload, 1, 0, 0, 0) := by decide +kernel
theorem s_93_158 {x0 x1 x2 x3 : Option Value} {o : Nat} {i : Int32} : mw d 93 Q 158 [x0, x1, x2, x3] (.int i :: .ref o :: st) h = (mg h o 100 ∧ mx i (mh_l h o) ∧ mw d 93 Q 159 [x0, x1, x2, x3] (.int (mh_i h o i.toNatClampNeg) :: st) h) := (mw_at mj_93_158).trans (z_iald)
theorem s_93_158x {x0 x1 x2 x3 : Option Value} {i : Int32} : mw d 93 Q 158 [x0, x1, x2, x3] (.int i :: .retAddr 2 :: st) h = (mx i 24 ∧ mw d 93 Q 159 [x0, x1, x2, x3] (.int (mx_row.getD i.toNatClampNeg 0) :: st) h) := (mw_at mj_93_158).trans (z_iaX)
theorem mj_93_159 : mc_P 93 159 = some (.aload_n 0, 1, 0, 0, 0) := by decide +kernel
theorem s_93_159 {x1 x2 x3 : Option Value} {w : Value} : mw d 93 Q 159 [some w, x1, x2, x3] (st) h = mv_a w (mw d 93 Q 160 [some w, x1, x2, x3] (w :: st) h) := (mw_at mj_93_159).trans (z_aload_n rfl)
theorem mj_93_160 : mc_P 93 160 = some (.getfield 51, 3, 4, 9, 0) := by decide +kernel
theorem s_93_160 {x0 x1 x2 x3 : Option Value} {o : Nat} : mw d 93 Q 160 [x0, x1, x2, x3] (.ref o :: st) h = (mg h o 4 ∧ mw d 93 Q 163 [x0, x1, x2, x3] (va_rf (mh_r h o 9) :: st) h) := (mw_at mj_93_160).trans (z_getr (by decide) (by decide) rfl)
theorem mj_93_163 : mc_P 93 163 = some (.iload_n 1, 1, 0, 0, 0) := by decide +kernel
theorem s_93_163 {x0 x2 x3 : Option Value} {w : Value} : mw d 93 Q 163 [x0, some w, x2, x3] (st) h = mv_i w (mw d 93 Q 164 [x0, some w, x2, x3] (w :: st) h) := (mw_at mj_93_163).trans (z_iload_n rfl)
theorem mj_93_164 : mc_P 93 164 = some (.iaload, 1, 0, 0, 0) := by decide +kernel
theorem s_93_164 {x0 x1 x2 x3 : Option Value} {o : Nat} {i : Int32} : mw d 93 Q 164 [x0, x1, x2, x3] (.int i :: .ref o :: st) h = (mg h o 100 ∧ mx i (mh_l h o) ∧ mw d 93 Q 165 [x0, x1, x2, x3] (.int (mh_i h o i.toNatClampNeg) :: st) h) := (mw_at mj_93_164).trans (z_iald)
theorem s_93_164x {x0 x1 x2 x3 : Option Value} {i : Int32} : mw d 93 Q 164 [x0, x1, x2, x3] (.int i :: .retAddr 2 :: st) h = (mx i 24 ∧ mw d 93 Q 165 [x0, x1, x2, x3] (.int (mx_row.getD i.toNatClampNeg 0) :: st) h) := (mw_at mj_93_164).trans (z_iaX)
theorem mj_93_165 : mc_P 93 165 = some (.if_icmp .ge 15, 3, 0, 0, 0) := by decide +kernel
theorem s_93_165 {x0 x1 x2 x3 : Option Value} {x w : Int32} : mw d 93 Q 165 [x0, x1, x2, x3] (.int w :: .int x :: st) h = mB (w ≤ x) (mw d 93 Q) 180 168 [x0, x1, x2, x3] st h := (mw_at mj_93_165).trans (z_icmp_ge (by decide) rfl)
theorem mj_93_168 : mc_P 93 168 = some (.aload_n 0, 1, 0, 0, 0) := by decide +kernel
theorem s_93_168 {x1 x2 x3 : Option Value} {w : Value} : mw d 93 Q 168 [some w, x1, x2, x3] (st) h = mv_a w (mw d 93 Q 169 [some w, x1, x2, x3] (w :: st) h) := (mw_at mj_93_168).trans (z_aload_n rfl)
theorem mj_93_169 : mc_P 93 169 = some (.getfield 57, 3, 4, 11, 0) := by decide +kernel
theorem s_93_169 {x0 x1 x2 x3 : Option Value} {o : Nat} : mw d 93 Q 169 [x0, x1, x2, x3] (.ref o :: st) h = (mg h o 4 ∧ mw d 93 Q 172 [x0, x1, x2, x3] (va_rf (mh_r h o 11) :: st) h) := (mw_at mj_93_169).trans (z_getr (by decide) (by decide) rfl)
theorem mj_93_172 : mc_P 93 172 = some (.iload_n 1, 1, 0, 0, 0) := by decide +kernel
theorem s_93_172 {x0 x2 x3 : Option Value} {w : Value} : mw d 93 Q 172 [x0, some w, x2, x3] (st) h = mv_i w (mw d 93 Q 173 [x0, some w, x2, x3] (w :: st) h) := (mw_at mj_93_172).trans (z_iload_n rfl)
theorem mj_93_173 : mc_P 93 173 = some (.aload_n 0, 1, 0, 0, 0) := by decide +kernel
theorem s_93_173 {x1 x2 x3 : Option Value} {w : Value} : mw d 93 Q 173 [some w, x1, x2, x3] (st) h = mv_a w (mw d 93 Q 174 [some w, x1, x2, x3] (w :: st) h) := (mw_at mj_93_173).trans (z_aload_n rfl)
theorem mj_93_174 : mc_P 93 174 = some (.getfield 48, 3, 4, 8, 0) := by decide +kernel
theorem s_93_174 {x0 x1 x2 x3 : Option Value} {o : Nat} : mw d 93 Q 174 [x0, x1, x2, x3] (.ref o :: st) h = (mg h o 4 ∧ mw d 93 Q 177 [x0, x1, x2, x3] (va_rf (mh_r h o 8) :: st) h) := (mw_at mj_93_174).trans (z_getr (by decide) (by decide) rfl)
theorem mj_93_177 : mc_P 93 177 = some (.iload_n 1, 1, 0, 0, 0) := by decide +kernel
theorem s_93_177 {x0 x2 x3 : Option Value} {w : Value} : mw d 93 Q 177 [x0, some w, x2, x3] (st) h = mv_i w (mw d 93 Q 178 [x0, some w, x2, x3] (w :: st) h) := (mw_at mj_93_177).trans (z_iload_n rfl)
theorem mj_93_178 : mc_P 93 178 = some (.iaload, 1, 0, 0, 0) := by decide +kernel
theorem s_93_178 {x0 x1 x2 x3 : Option Value} {o : Nat} {i : Int32} : mw d 93 Q 178 [x0, x1, x2, x3] (.int i :: .ref o :: st) h = (mg h o 100 ∧ mx i (mh_l h o) ∧ mw d 93 Q 179 [x0, x1, x2, x3] (.int (mh_i h o i.toNatClampNeg) :: st) h) := (mw_at mj_93_178).trans (z_iald)
theorem s_93_178x {x0 x1 x2 x3 : Option Value} {i : Int32} : mw d 93 Q 178 [x0, x1, x2, x3] (.int i :: .retAddr 2 :: st) h = (mx i 24 ∧ mw d 93 Q 179 [x0, x1, x2, x3] (.int (mx_row.getD i.toNatClampNeg 0) :: st) h) := (mw_at mj_93_178).trans (z_iaX)
theorem mj_93_179 : mc_P 93 179 = some (.iastore, 1, 0, 0, 0) := by decide +kernel
theorem s_93_179 {x0 x1 x2 x3 : Option Value} {o : Nat} {i w : Int32} : mw d 93 Q 179 [x0, x1, x2, x3] (.int w :: .int i :: .ref o :: st) h = (mg h o 100 ∧ mx i (mh_l h o) ∧ mw d 93 Q 180 [x0, x1, x2, x3] (st) (mh_si h o i.toNatClampNeg w)) := (mw_at mj_93_179).trans (z_iast)
theorem mj_93_180 : mc_P 93 180 = some (.iinc 1 1, 3, 0, 0, 0) := by decide +kernel
theorem s_93_180 {x0 x2 x3 : Option Value} {w : Int32} : mw d 93 Q 180 [x0, some (.int w), x2, x3] (st) h = mw d 93 Q 183 [mk2 x0, some (.int (w + 1)), x2, x3] (st) h := (mw_at mj_93_180).trans (z_iinc rfl (Nat.le_of_ble_eq_true rfl) (by decide) (me_s1_mk (j := 0) (w := x0) rfl))
theorem mj_93_183 : mc_P 93 183 = some (.goto (-181), 3, 0, 0, 0) := by decide +kernel
theorem s_93_183 {x0 x1 x2 x3 : Option Value} : mw d 93 Q 183 [x0, x1, x2, x3] (st) h = mw d 93 Q 2 [x0, x1, x2, x3] (st) h := (mw_at mj_93_183).trans (z_goto (by decide))
theorem mj_93_186 : mc_P 93 186 = some (.return_, 1, 0, 0, 0) := by decide +kernel
theorem s_93_186 {x0 x1 x2 x3 : Option Value} : mw d 93 Q 186 [x0, x1, x2, x3] ([]) h = Q none h := (mw_at mj_93_186).trans (z_vret)
theorem e_93 {a0 : Nat} : mcall d 93 [.ref a0] h Q = mw d 93 Q 0 [some (.ref a0), none, none, none] [] h := by
  show mw d 93 Q 0 (me_en (mc_nl 93) _) [] h = _
  rw [nl_93]; rfl

/-! InvariantDesk$Program.blockEnd(I)I -/
theorem mj_94_0 : mc_P 94 0 = some (.aload_n 0, 1, 0, 0, 0) := by decide +kernel
theorem s_94_0 {x1 x2 x3 : Option Value} {w : Value} : mw d 94 Q 0 [some w, x1, x2, x3] (st) h = mv_a w (mw d 94 Q 1 [some w, x1, x2, x3] (w :: st) h) := (mw_at mj_94_0).trans (z_aload_n rfl)
theorem mj_94_1 : mc_P 94 1 = some (.getfield 45, 3, 4, 7, 0) := by decide +kernel
theorem s_94_1 {x0 x1 x2 x3 : Option Value} {o : Nat} : mw d 94 Q 1 [x0, x1, x2, x3] (.ref o :: st) h = (mg h o 4 ∧ mw d 94 Q 4 [x0, x1, x2, x3] (va_rf (mh_r h o 7) :: st) h) := (mw_at mj_94_1).trans (z_getr (by decide) (by decide) rfl)
theorem mj_94_4 : mc_P 94 4 = some (.iload_n 1, 1, 0, 0, 0) := by decide +kernel
theorem s_94_4 {x0 x2 x3 : Option Value} {w : Value} : mw d 94 Q 4 [x0, some w, x2, x3] (st) h = mv_i w (mw d 94 Q 5 [x0, some w, x2, x3] (w :: st) h) := (mw_at mj_94_4).trans (z_iload_n rfl)
theorem mj_94_5 : mc_P 94 5 = some (.iaload, 1, 0, 0, 0) := by decide +kernel
theorem s_94_5 {x0 x1 x2 x3 : Option Value} {o : Nat} {i : Int32} : mw d 94 Q 5 [x0, x1, x2, x3] (.int i :: .ref o :: st) h = (mg h o 100 ∧ mx i (mh_l h o) ∧ mw d 94 Q 6 [x0, x1, x2, x3] (.int (mh_i h o i.toNatClampNeg) :: st) h) := (mw_at mj_94_5).trans (z_iald)
theorem s_94_5x {x0 x1 x2 x3 : Option Value} {i : Int32} : mw d 94 Q 5 [x0, x1, x2, x3] (.int i :: .retAddr 2 :: st) h = (mx i 24 ∧ mw d 94 Q 6 [x0, x1, x2, x3] (.int (mx_row.getD i.toNatClampNeg 0) :: st) h) := (mw_at mj_94_5).trans (z_iaX)
theorem mj_94_6 : mc_P 94 6 = some (.istore_n 2, 1, 0, 0, 0) := by decide +kernel
theorem s_94_6 {x0 x1 x2 x3 : Option Value} {w : Int32} : mw d 94 Q 6 [x0, x1, x2, x3] (.int w :: st) h = mw d 94 Q 7 [x0, mk2 x1, some (.int w), x3] (st) h := (mw_at mj_94_6).trans (z_istore_n (Nat.le_of_ble_eq_true rfl) (me_s1_mk (j := 1) (w := x1) rfl))
theorem mj_94_7 : mc_P 94 7 = some (.iload_n 2, 1, 0, 0, 0) := by decide +kernel
theorem s_94_7 {x0 x1 x3 : Option Value} {w : Value} : mw d 94 Q 7 [x0, x1, some w, x3] (st) h = mv_i w (mw d 94 Q 8 [x0, x1, some w, x3] (w :: st) h) := (mw_at mj_94_7).trans (z_iload_n rfl)
theorem mj_94_8 : mc_P 94 8 = some (.iconst (-1), 1, 0, 0, 0) := by decide +kernel
theorem s_94_8 {x0 x1 x2 x3 : Option Value} : mw d 94 Q 8 [x0, x1, x2, x3] (st) h = mw d 94 Q 9 [x0, x1, x2, x3] (.int (-1) :: st) h := (mw_at mj_94_8).trans (z_iconst (by decide))
theorem mj_94_9 : mc_P 94 9 = some (.if_icmp .ne 8, 3, 0, 0, 0) := by decide +kernel
theorem s_94_9 {x0 x1 x2 x3 : Option Value} {x w : Int32} : mw d 94 Q 9 [x0, x1, x2, x3] (.int w :: .int x :: st) h = mB (¬ x = w) (mw d 94 Q) 17 12 [x0, x1, x2, x3] st h := (mw_at mj_94_9).trans (z_icmp_ne (by decide) rfl)
theorem mj_94_12 : mc_P 94 12 = some (.aload_n 0, 1, 0, 0, 0) := by decide +kernel
theorem s_94_12 {x1 x2 x3 : Option Value} {w : Value} : mw d 94 Q 12 [some w, x1, x2, x3] (st) h = mv_a w (mw d 94 Q 13 [some w, x1, x2, x3] (w :: st) h) := (mw_at mj_94_12).trans (z_aload_n rfl)
theorem mj_94_13 : mc_P 94 13 = some (.getfield 79, 3, 4, 2, 0) := by decide +kernel
theorem s_94_13 {x0 x1 x2 x3 : Option Value} {o : Nat} : mw d 94 Q 13 [x0, x1, x2, x3] (.ref o :: st) h = (mg h o 4 ∧ mw d 94 Q 16 [x0, x1, x2, x3] (.int (mh_i h o 2) :: st) h) := (mw_at mj_94_13).trans (z_geti (by decide) (by decide) (Or.inl rfl))
theorem mj_94_16 : mc_P 94 16 = some (.ireturn, 1, 0, 0, 0) := by decide +kernel
theorem s_94_16 {x0 x1 x2 x3 : Option Value} {x : Int32} : mw d 94 Q 16 [x0, x1, x2, x3] ([.int x]) h = (Q (some (.int x)) h) := (mw_at mj_94_16).trans (z_iret)
theorem mj_94_17 : mc_P 94 17 = some (.aload_n 0, 1, 0, 0, 0) := by decide +kernel
theorem s_94_17 {x1 x2 x3 : Option Value} {w : Value} : mw d 94 Q 17 [some w, x1, x2, x3] (st) h = mv_a w (mw d 94 Q 18 [some w, x1, x2, x3] (w :: st) h) := (mw_at mj_94_17).trans (z_aload_n rfl)
theorem mj_94_18 : mc_P 94 18 = some (.getfield 31, 3, 4, 3, 0) := by decide +kernel
theorem s_94_18 {x0 x1 x2 x3 : Option Value} {o : Nat} : mw d 94 Q 18 [x0, x1, x2, x3] (.ref o :: st) h = (mg h o 4 ∧ mw d 94 Q 21 [x0, x1, x2, x3] (va_rf (mh_r h o 3) :: st) h) := (mw_at mj_94_18).trans (z_getr (by decide) (by decide) rfl)
theorem mj_94_21 : mc_P 94 21 = some (.iload_n 2, 1, 0, 0, 0) := by decide +kernel
theorem s_94_21 {x0 x1 x3 : Option Value} {w : Value} : mw d 94 Q 21 [x0, x1, some w, x3] (st) h = mv_i w (mw d 94 Q 22 [x0, x1, some w, x3] (w :: st) h) := (mw_at mj_94_21).trans (z_iload_n rfl)
theorem mj_94_22 : mc_P 94 22 = some (.aaload, 1, 0, 0, 0) := by decide +kernel
theorem s_94_22 {x0 x1 x2 x3 : Option Value} {o : Nat} {i : Int32} : mw d 94 Q 22 [x0, x1, x2, x3] (.int i :: .ref o :: st) h = (mgr h o ∧ mx i (mh_l h o) ∧ mw d 94 Q 23 [x0, x1, x2, x3] (mrd (mh_k h o) h o i.toNatClampNeg :: st) h) := (mw_at mj_94_22).trans (z_aald)
theorem mj_94_23 : mc_P 94 23 = some (.getfield 137, 3, 9, 0, 0) := by decide +kernel
theorem s_94_23 {x0 x1 x2 x3 : Option Value} {o : Nat} : mw d 94 Q 23 [x0, x1, x2, x3] (.ref o :: st) h = (mg h o 9 ∧ mw d 94 Q 26 [x0, x1, x2, x3] (.int (mh_i h o 0) :: st) h) := (mw_at mj_94_23).trans (z_geti (by decide) (by decide) (Or.inl rfl))
theorem mj_94_26 : mc_P 94 26 = some (.iconst 5, 1, 0, 0, 0) := by decide +kernel
theorem s_94_26 {x0 x1 x2 x3 : Option Value} : mw d 94 Q 26 [x0, x1, x2, x3] (st) h = mw d 94 Q 27 [x0, x1, x2, x3] (.int 5 :: st) h := (mw_at mj_94_26).trans (z_iconst (by decide))
theorem mj_94_27 : mc_P 94 27 = some (.if_icmp .ne 17, 3, 0, 0, 0) := by decide +kernel
theorem s_94_27 {x0 x1 x2 x3 : Option Value} {x w : Int32} : mw d 94 Q 27 [x0, x1, x2, x3] (.int w :: .int x :: st) h = mB (¬ x = w) (mw d 94 Q) 44 30 [x0, x1, x2, x3] st h := (mw_at mj_94_27).trans (z_icmp_ne (by decide) rfl)
theorem mj_94_30 : mc_P 94 30 = some (.iload_n 1, 1, 0, 0, 0) := by decide +kernel
theorem s_94_30 {x0 x2 x3 : Option Value} {w : Value} : mw d 94 Q 30 [x0, some w, x2, x3] (st) h = mv_i w (mw d 94 Q 31 [x0, some w, x2, x3] (w :: st) h) := (mw_at mj_94_30).trans (z_iload_n rfl)
theorem mj_94_31 : mc_P 94 31 = some (.aload_n 0, 1, 0, 0, 0) := by decide +kernel
theorem s_94_31 {x1 x2 x3 : Option Value} {w : Value} : mw d 94 Q 31 [some w, x1, x2, x3] (st) h = mv_a w (mw d 94 Q 32 [some w, x1, x2, x3] (w :: st) h) := (mw_at mj_94_31).trans (z_aload_n rfl)
theorem mj_94_32 : mc_P 94 32 = some (.getfield 48, 3, 4, 8, 0) := by decide +kernel
theorem s_94_32 {x0 x1 x2 x3 : Option Value} {o : Nat} : mw d 94 Q 32 [x0, x1, x2, x3] (.ref o :: st) h = (mg h o 4 ∧ mw d 94 Q 35 [x0, x1, x2, x3] (va_rf (mh_r h o 8) :: st) h) := (mw_at mj_94_32).trans (z_getr (by decide) (by decide) rfl)
theorem mj_94_35 : mc_P 94 35 = some (.iload_n 2, 1, 0, 0, 0) := by decide +kernel
theorem s_94_35 {x0 x1 x3 : Option Value} {w : Value} : mw d 94 Q 35 [x0, x1, some w, x3] (st) h = mv_i w (mw d 94 Q 36 [x0, x1, some w, x3] (w :: st) h) := (mw_at mj_94_35).trans (z_iload_n rfl)
theorem mj_94_36 : mc_P 94 36 = some (.iaload, 1, 0, 0, 0) := by decide +kernel
theorem s_94_36 {x0 x1 x2 x3 : Option Value} {o : Nat} {i : Int32} : mw d 94 Q 36 [x0, x1, x2, x3] (.int i :: .ref o :: st) h = (mg h o 100 ∧ mx i (mh_l h o) ∧ mw d 94 Q 37 [x0, x1, x2, x3] (.int (mh_i h o i.toNatClampNeg) :: st) h) := (mw_at mj_94_36).trans (z_iald)
theorem s_94_36x {x0 x1 x2 x3 : Option Value} {i : Int32} : mw d 94 Q 36 [x0, x1, x2, x3] (.int i :: .retAddr 2 :: st) h = (mx i 24 ∧ mw d 94 Q 37 [x0, x1, x2, x3] (.int (mx_row.getD i.toNatClampNeg 0) :: st) h) := (mw_at mj_94_36).trans (z_iaX)
theorem mj_94_37 : mc_P 94 37 = some (.if_icmp .ge 7, 3, 0, 0, 0) := by decide +kernel
theorem s_94_37 {x0 x1 x2 x3 : Option Value} {x w : Int32} : mw d 94 Q 37 [x0, x1, x2, x3] (.int w :: .int x :: st) h = mB (w ≤ x) (mw d 94 Q) 44 40 [x0, x1, x2, x3] st h := (mw_at mj_94_37).trans (z_icmp_ge (by decide) rfl)
theorem mj_94_40 : mc_P 94 40 = some (.iconst 1, 1, 0, 0, 0) := by decide +kernel
theorem s_94_40 {x0 x1 x2 x3 : Option Value} : mw d 94 Q 40 [x0, x1, x2, x3] (st) h = mw d 94 Q 41 [x0, x1, x2, x3] (.int 1 :: st) h := (mw_at mj_94_40).trans (z_iconst (by decide))
theorem mj_94_41 : mc_P 94 41 = some (.goto 4, 3, 0, 0, 0) := by decide +kernel
theorem s_94_41 {x0 x1 x2 x3 : Option Value} : mw d 94 Q 41 [x0, x1, x2, x3] (st) h = mw d 94 Q 45 [x0, x1, x2, x3] (st) h := (mw_at mj_94_41).trans (z_goto (by decide))
theorem mj_94_44 : mc_P 94 44 = some (.iconst 0, 1, 0, 0, 0) := by decide +kernel
theorem s_94_44 {x0 x1 x2 x3 : Option Value} : mw d 94 Q 44 [x0, x1, x2, x3] (st) h = mw d 94 Q 45 [x0, x1, x2, x3] (.int 0 :: st) h := (mw_at mj_94_44).trans (z_iconst (by decide))
theorem mj_94_45 : mc_P 94 45 = some (.istore_n 3, 1, 0, 0, 0) := by decide +kernel
theorem s_94_45 {x0 x1 x2 x3 : Option Value} {w : Int32} : mw d 94 Q 45 [x0, x1, x2, x3] (.int w :: st) h = mw d 94 Q 46 [x0, x1, mk2 x2, some (.int w)] (st) h := (mw_at mj_94_45).trans (z_istore_n (Nat.le_of_ble_eq_true rfl) (me_s1_mk (j := 2) (w := x2) rfl))
theorem mj_94_46 : mc_P 94 46 = some (.iload_n 3, 1, 0, 0, 0) := by decide +kernel
theorem s_94_46 {x0 x1 x2 : Option Value} {w : Value} : mw d 94 Q 46 [x0, x1, x2, some w] (st) h = mv_i w (mw d 94 Q 47 [x0, x1, x2, some w] (w :: st) h) := (mw_at mj_94_46).trans (z_iload_n rfl)
theorem mj_94_47 : mc_P 94 47 = some (.ifCond .eq 12, 3, 0, 0, 0) := by decide +kernel
theorem s_94_47 {x0 x1 x2 x3 : Option Value} {x : Int32} : mw d 94 Q 47 [x0, x1, x2, x3] (.int x :: st) h = mB (x = 0) (mw d 94 Q) 59 50 [x0, x1, x2, x3] st h := (mw_at mj_94_47).trans (z_if_eq (by decide) rfl)
theorem mj_94_50 : mc_P 94 50 = some (.aload_n 0, 1, 0, 0, 0) := by decide +kernel
theorem s_94_50 {x1 x2 x3 : Option Value} {w : Value} : mw d 94 Q 50 [some w, x1, x2, x3] (st) h = mv_a w (mw d 94 Q 51 [some w, x1, x2, x3] (w :: st) h) := (mw_at mj_94_50).trans (z_aload_n rfl)
theorem mj_94_51 : mc_P 94 51 = some (.getfield 48, 3, 4, 8, 0) := by decide +kernel
theorem s_94_51 {x0 x1 x2 x3 : Option Value} {o : Nat} : mw d 94 Q 51 [x0, x1, x2, x3] (.ref o :: st) h = (mg h o 4 ∧ mw d 94 Q 54 [x0, x1, x2, x3] (va_rf (mh_r h o 8) :: st) h) := (mw_at mj_94_51).trans (z_getr (by decide) (by decide) rfl)
theorem mj_94_54 : mc_P 94 54 = some (.iload_n 2, 1, 0, 0, 0) := by decide +kernel
theorem s_94_54 {x0 x1 x3 : Option Value} {w : Value} : mw d 94 Q 54 [x0, x1, some w, x3] (st) h = mv_i w (mw d 94 Q 55 [x0, x1, some w, x3] (w :: st) h) := (mw_at mj_94_54).trans (z_iload_n rfl)
theorem mj_94_55 : mc_P 94 55 = some (.iaload, 1, 0, 0, 0) := by decide +kernel
theorem s_94_55 {x0 x1 x2 x3 : Option Value} {o : Nat} {i : Int32} : mw d 94 Q 55 [x0, x1, x2, x3] (.int i :: .ref o :: st) h = (mg h o 100 ∧ mx i (mh_l h o) ∧ mw d 94 Q 56 [x0, x1, x2, x3] (.int (mh_i h o i.toNatClampNeg) :: st) h) := (mw_at mj_94_55).trans (z_iald)
theorem s_94_55x {x0 x1 x2 x3 : Option Value} {i : Int32} : mw d 94 Q 55 [x0, x1, x2, x3] (.int i :: .retAddr 2 :: st) h = (mx i 24 ∧ mw d 94 Q 56 [x0, x1, x2, x3] (.int (mx_row.getD i.toNatClampNeg 0) :: st) h) := (mw_at mj_94_55).trans (z_iaX)
theorem mj_94_56 : mc_P 94 56 = some (.goto 9, 3, 0, 0, 0) := by decide +kernel
theorem s_94_56 {x0 x1 x2 x3 : Option Value} : mw d 94 Q 56 [x0, x1, x2, x3] (st) h = mw d 94 Q 65 [x0, x1, x2, x3] (st) h := (mw_at mj_94_56).trans (z_goto (by decide))
theorem mj_94_59 : mc_P 94 59 = some (.aload_n 0, 1, 0, 0, 0) := by decide +kernel
theorem s_94_59 {x1 x2 x3 : Option Value} {w : Value} : mw d 94 Q 59 [some w, x1, x2, x3] (st) h = mv_a w (mw d 94 Q 60 [some w, x1, x2, x3] (w :: st) h) := (mw_at mj_94_59).trans (z_aload_n rfl)
theorem mj_94_60 : mc_P 94 60 = some (.getfield 51, 3, 4, 9, 0) := by decide +kernel
theorem s_94_60 {x0 x1 x2 x3 : Option Value} {o : Nat} : mw d 94 Q 60 [x0, x1, x2, x3] (.ref o :: st) h = (mg h o 4 ∧ mw d 94 Q 63 [x0, x1, x2, x3] (va_rf (mh_r h o 9) :: st) h) := (mw_at mj_94_60).trans (z_getr (by decide) (by decide) rfl)
theorem mj_94_63 : mc_P 94 63 = some (.iload_n 2, 1, 0, 0, 0) := by decide +kernel
theorem s_94_63 {x0 x1 x3 : Option Value} {w : Value} : mw d 94 Q 63 [x0, x1, some w, x3] (st) h = mv_i w (mw d 94 Q 64 [x0, x1, some w, x3] (w :: st) h) := (mw_at mj_94_63).trans (z_iload_n rfl)
theorem mj_94_64 : mc_P 94 64 = some (.iaload, 1, 0, 0, 0) := by decide +kernel
theorem s_94_64 {x0 x1 x2 x3 : Option Value} {o : Nat} {i : Int32} : mw d 94 Q 64 [x0, x1, x2, x3] (.int i :: .ref o :: st) h = (mg h o 100 ∧ mx i (mh_l h o) ∧ mw d 94 Q 65 [x0, x1, x2, x3] (.int (mh_i h o i.toNatClampNeg) :: st) h) := (mw_at mj_94_64).trans (z_iald)
theorem s_94_64x {x0 x1 x2 x3 : Option Value} {i : Int32} : mw d 94 Q 64 [x0, x1, x2, x3] (.int i :: .retAddr 2 :: st) h = (mx i 24 ∧ mw d 94 Q 65 [x0, x1, x2, x3] (.int (mx_row.getD i.toNatClampNeg 0) :: st) h) := (mw_at mj_94_64).trans (z_iaX)
theorem mj_94_65 : mc_P 94 65 = some (.ireturn, 1, 0, 0, 0) := by decide +kernel
theorem s_94_65 {x0 x1 x2 x3 : Option Value} {x : Int32} : mw d 94 Q 65 [x0, x1, x2, x3] ([.int x]) h = (Q (some (.int x)) h) := (mw_at mj_94_65).trans (z_iret)
theorem e_94 {a0 : Nat} {a1 : Int32} : mcall d 94 [.ref a0, .int a1] h Q = mw d 94 Q 0 [some (.ref a0), some (.int a1), none, none] [] h := by
  show mw d 94 Q 0 (me_en (mc_nl 94) _) [] h = _
  rw [nl_94]; rfl

/-! InvariantDesk$Program.behindBlock(I)I -/
theorem mj_95_0 : mc_P 95 0 = some (.iload_n 1, 1, 0, 0, 0) := by decide +kernel
theorem s_95_0 {x0 : Option Value} {w : Value} : mw d 95 Q 0 [x0, some w] (st) h = mv_i w (mw d 95 Q 1 [x0, some w] (w :: st) h) := (mw_at mj_95_0).trans (z_iload_n rfl)
theorem mj_95_1 : mc_P 95 1 = some (.iconst (-1), 1, 0, 0, 0) := by decide +kernel
theorem s_95_1 {x0 x1 : Option Value} : mw d 95 Q 1 [x0, x1] (st) h = mw d 95 Q 2 [x0, x1] (.int (-1) :: st) h := (mw_at mj_95_1).trans (z_iconst (by decide))
theorem mj_95_2 : mc_P 95 2 = some (.if_icmp .ne 10, 3, 0, 0, 0) := by decide +kernel
theorem s_95_2 {x0 x1 : Option Value} {x w : Int32} : mw d 95 Q 2 [x0, x1] (.int w :: .int x :: st) h = mB (¬ x = w) (mw d 95 Q) 12 5 [x0, x1] st h := (mw_at mj_95_2).trans (z_icmp_ne (by decide) rfl)
theorem mj_95_5 : mc_P 95 5 = some (.aload_n 0, 1, 0, 0, 0) := by decide +kernel
theorem s_95_5 {x1 : Option Value} {w : Value} : mw d 95 Q 5 [some w, x1] (st) h = mv_a w (mw d 95 Q 6 [some w, x1] (w :: st) h) := (mw_at mj_95_5).trans (z_aload_n rfl)
theorem mj_95_6 : mc_P 95 6 = some (.getfield 79, 3, 4, 2, 0) := by decide +kernel
theorem s_95_6 {x0 x1 : Option Value} {o : Nat} : mw d 95 Q 6 [x0, x1] (.ref o :: st) h = (mg h o 4 ∧ mw d 95 Q 9 [x0, x1] (.int (mh_i h o 2) :: st) h) := (mw_at mj_95_6).trans (z_geti (by decide) (by decide) (Or.inl rfl))
theorem mj_95_9 : mc_P 95 9 = some (.iconst 1, 1, 0, 0, 0) := by decide +kernel
theorem s_95_9 {x0 x1 : Option Value} : mw d 95 Q 9 [x0, x1] (st) h = mw d 95 Q 10 [x0, x1] (.int 1 :: st) h := (mw_at mj_95_9).trans (z_iconst (by decide))
theorem mj_95_10 : mc_P 95 10 = some (.isub, 1, 0, 0, 0) := by decide +kernel
theorem s_95_10 {x0 x1 : Option Value} {x w : Int32} : mw d 95 Q 10 [x0, x1] (.int w :: .int x :: st) h = mw d 95 Q 11 [x0, x1] (.int (x - w) :: st) h := (mw_at mj_95_10).trans (z_isub)
theorem mj_95_11 : mc_P 95 11 = some (.ireturn, 1, 0, 0, 0) := by decide +kernel
theorem s_95_11 {x0 x1 : Option Value} {x : Int32} : mw d 95 Q 11 [x0, x1] ([.int x]) h = (Q (some (.int x)) h) := (mw_at mj_95_11).trans (z_iret)
theorem mj_95_12 : mc_P 95 12 = some (.aload_n 0, 1, 0, 0, 0) := by decide +kernel
theorem s_95_12 {x1 : Option Value} {w : Value} : mw d 95 Q 12 [some w, x1] (st) h = mv_a w (mw d 95 Q 13 [some w, x1] (w :: st) h) := (mw_at mj_95_12).trans (z_aload_n rfl)
theorem mj_95_13 : mc_P 95 13 = some (.getfield 31, 3, 4, 3, 0) := by decide +kernel
theorem s_95_13 {x0 x1 : Option Value} {o : Nat} : mw d 95 Q 13 [x0, x1] (.ref o :: st) h = (mg h o 4 ∧ mw d 95 Q 16 [x0, x1] (va_rf (mh_r h o 3) :: st) h) := (mw_at mj_95_13).trans (z_getr (by decide) (by decide) rfl)
theorem mj_95_16 : mc_P 95 16 = some (.iload_n 1, 1, 0, 0, 0) := by decide +kernel
theorem s_95_16 {x0 : Option Value} {w : Value} : mw d 95 Q 16 [x0, some w] (st) h = mv_i w (mw d 95 Q 17 [x0, some w] (w :: st) h) := (mw_at mj_95_16).trans (z_iload_n rfl)
theorem mj_95_17 : mc_P 95 17 = some (.aaload, 1, 0, 0, 0) := by decide +kernel
theorem s_95_17 {x0 x1 : Option Value} {o : Nat} {i : Int32} : mw d 95 Q 17 [x0, x1] (.int i :: .ref o :: st) h = (mgr h o ∧ mx i (mh_l h o) ∧ mw d 95 Q 18 [x0, x1] (mrd (mh_k h o) h o i.toNatClampNeg :: st) h) := (mw_at mj_95_17).trans (z_aald)
theorem mj_95_18 : mc_P 95 18 = some (.getfield 137, 3, 9, 0, 0) := by decide +kernel
theorem s_95_18 {x0 x1 : Option Value} {o : Nat} : mw d 95 Q 18 [x0, x1] (.ref o :: st) h = (mg h o 9 ∧ mw d 95 Q 21 [x0, x1] (.int (mh_i h o 0) :: st) h) := (mw_at mj_95_18).trans (z_geti (by decide) (by decide) (Or.inl rfl))
theorem mj_95_21 : mc_P 95 21 = some (.bipush 6, 2, 0, 0, 0) := by decide +kernel
theorem s_95_21 {x0 x1 : Option Value} : mw d 95 Q 21 [x0, x1] (st) h = mw d 95 Q 23 [x0, x1] (.int 6 :: st) h := (mw_at mj_95_21).trans (z_bipush (by decide))
theorem mj_95_23 : mc_P 95 23 = some (.if_icmp .ne 7, 3, 0, 0, 0) := by decide +kernel
theorem s_95_23 {x0 x1 : Option Value} {x w : Int32} : mw d 95 Q 23 [x0, x1] (.int w :: .int x :: st) h = mB (¬ x = w) (mw d 95 Q) 30 26 [x0, x1] st h := (mw_at mj_95_23).trans (z_icmp_ne (by decide) rfl)
theorem mj_95_26 : mc_P 95 26 = some (.iload_n 1, 1, 0, 0, 0) := by decide +kernel
theorem s_95_26 {x0 : Option Value} {w : Value} : mw d 95 Q 26 [x0, some w] (st) h = mv_i w (mw d 95 Q 27 [x0, some w] (w :: st) h) := (mw_at mj_95_26).trans (z_iload_n rfl)
theorem mj_95_27 : mc_P 95 27 = some (.goto 9, 3, 0, 0, 0) := by decide +kernel
theorem s_95_27 {x0 x1 : Option Value} : mw d 95 Q 27 [x0, x1] (st) h = mw d 95 Q 36 [x0, x1] (st) h := (mw_at mj_95_27).trans (z_goto (by decide))
theorem mj_95_30 : mc_P 95 30 = some (.aload_n 0, 1, 0, 0, 0) := by decide +kernel
theorem s_95_30 {x1 : Option Value} {w : Value} : mw d 95 Q 30 [some w, x1] (st) h = mv_a w (mw d 95 Q 31 [some w, x1] (w :: st) h) := (mw_at mj_95_30).trans (z_aload_n rfl)
theorem mj_95_31 : mc_P 95 31 = some (.getfield 60, 3, 4, 12, 0) := by decide +kernel
theorem s_95_31 {x0 x1 : Option Value} {o : Nat} : mw d 95 Q 31 [x0, x1] (.ref o :: st) h = (mg h o 4 ∧ mw d 95 Q 34 [x0, x1] (va_rf (mh_r h o 12) :: st) h) := (mw_at mj_95_31).trans (z_getr (by decide) (by decide) rfl)
theorem mj_95_34 : mc_P 95 34 = some (.iload_n 1, 1, 0, 0, 0) := by decide +kernel
theorem s_95_34 {x0 : Option Value} {w : Value} : mw d 95 Q 34 [x0, some w] (st) h = mv_i w (mw d 95 Q 35 [x0, some w] (w :: st) h) := (mw_at mj_95_34).trans (z_iload_n rfl)
theorem mj_95_35 : mc_P 95 35 = some (.iaload, 1, 0, 0, 0) := by decide +kernel
theorem s_95_35 {x0 x1 : Option Value} {o : Nat} {i : Int32} : mw d 95 Q 35 [x0, x1] (.int i :: .ref o :: st) h = (mg h o 100 ∧ mx i (mh_l h o) ∧ mw d 95 Q 36 [x0, x1] (.int (mh_i h o i.toNatClampNeg) :: st) h) := (mw_at mj_95_35).trans (z_iald)
theorem s_95_35x {x0 x1 : Option Value} {i : Int32} : mw d 95 Q 35 [x0, x1] (.int i :: .retAddr 2 :: st) h = (mx i 24 ∧ mw d 95 Q 36 [x0, x1] (.int (mx_row.getD i.toNatClampNeg 0) :: st) h) := (mw_at mj_95_35).trans (z_iaX)
theorem mj_95_36 : mc_P 95 36 = some (.ireturn, 1, 0, 0, 0) := by decide +kernel
theorem s_95_36 {x0 x1 : Option Value} {x : Int32} : mw d 95 Q 36 [x0, x1] ([.int x]) h = (Q (some (.int x)) h) := (mw_at mj_95_36).trans (z_iret)
theorem e_95 {a0 : Nat} {a1 : Int32} : mcall d 95 [.ref a0, .int a1] h Q = mw d 95 Q 0 [some (.ref a0), some (.int a1)] [] h := by
  show mw d 95 Q 0 (me_en (mc_nl 95) _) [] h = _
  rw [nl_95]; rfl

/-! InvariantDeskModel.wrong(II)Z -/
theorem mj_335_0 : mc_P 335 0 = some (.aload_n 0, 1, 0, 0, 0) := by decide +kernel
theorem s_335_0 {x1 x2 : Option Value} {w : Value} : mw d 335 Q 0 [some w, x1, x2] (st) h = mv_a w (mw d 335 Q 1 [some w, x1, x2] (w :: st) h) := (mw_at mj_335_0).trans (z_aload_n rfl)
theorem mj_335_1 : mc_P 335 1 = some (.getfield 328, 3, 14, 47, 0) := by decide +kernel
theorem s_335_1 {x0 x1 x2 : Option Value} {o : Nat} : mw d 335 Q 1 [x0, x1, x2] (.ref o :: st) h = (mg h o 14 ∧ mw d 335 Q 4 [x0, x1, x2] (.int (mh_i h o 47) :: st) h) := (mw_at mj_335_1).trans (z_geti (by decide) (by decide) (Or.inl rfl))
theorem mj_335_4 : mc_P 335 4 = some (.ifCond .ne 18, 3, 0, 0, 0) := by decide +kernel
theorem s_335_4 {x0 x1 x2 : Option Value} {x : Int32} : mw d 335 Q 4 [x0, x1, x2] (.int x :: st) h = mB (¬ x = 0) (mw d 335 Q) 22 7 [x0, x1, x2] st h := (mw_at mj_335_4).trans (z_if_ne (by decide) rfl)
theorem mj_335_7 : mc_P 335 7 = some (.aload_n 0, 1, 0, 0, 0) := by decide +kernel
theorem s_335_7 {x1 x2 : Option Value} {w : Value} : mw d 335 Q 7 [some w, x1, x2] (st) h = mv_a w (mw d 335 Q 8 [some w, x1, x2] (w :: st) h) := (mw_at mj_335_7).trans (z_aload_n rfl)
theorem mj_335_8 : mc_P 335 8 = some (.iload_n 1, 1, 0, 0, 0) := by decide +kernel
theorem s_335_8 {x0 x2 : Option Value} {w : Value} : mw d 335 Q 8 [x0, some w, x2] (st) h = mv_i w (mw d 335 Q 9 [x0, some w, x2] (w :: st) h) := (mw_at mj_335_8).trans (z_iload_n rfl)
theorem mj_335_9 : mc_P 335 9 = some (.putfield 328, 3, 14, 47, 0) := by decide +kernel
theorem s_335_9 {x0 x1 x2 : Option Value} {o : Nat} {w : Int32} : mw d 335 Q 9 [x0, x1, x2] (.int w :: .ref o :: st) h = (mg h o 14 ∧ mw d 335 Q 12 [x0, x1, x2] (st) (mh_si h o 47 w)) := (mw_at mj_335_9).trans (z_puti (by decide) (by decide) rfl)
theorem mj_335_12 : mc_P 335 12 = some (.aload_n 0, 1, 0, 0, 0) := by decide +kernel
theorem s_335_12 {x1 x2 : Option Value} {w : Value} : mw d 335 Q 12 [some w, x1, x2] (st) h = mv_a w (mw d 335 Q 13 [some w, x1, x2] (w :: st) h) := (mw_at mj_335_12).trans (z_aload_n rfl)
theorem mj_335_13 : mc_P 335 13 = some (.aload_n 0, 1, 0, 0, 0) := by decide +kernel
theorem s_335_13 {x1 x2 : Option Value} {w : Value} : mw d 335 Q 13 [some w, x1, x2] (st) h = mv_a w (mw d 335 Q 14 [some w, x1, x2] (w :: st) h) := (mw_at mj_335_13).trans (z_aload_n rfl)
theorem mj_335_14 : mc_P 335 14 = some (.getfield 52, 3, 14, 20, 0) := by decide +kernel
theorem s_335_14 {x0 x1 x2 : Option Value} {o : Nat} : mw d 335 Q 14 [x0, x1, x2] (.ref o :: st) h = (mg h o 14 ∧ mw d 335 Q 17 [x0, x1, x2] (va_rf (mh_r h o 20) :: st) h) := (mw_at mj_335_14).trans (z_getr (by decide) (by decide) rfl)
theorem mj_335_17 : mc_P 335 17 = some (.iload_n 2, 1, 0, 0, 0) := by decide +kernel
theorem s_335_17 {x0 x1 : Option Value} {w : Value} : mw d 335 Q 17 [x0, x1, some w] (st) h = mv_i w (mw d 335 Q 18 [x0, x1, some w] (w :: st) h) := (mw_at mj_335_17).trans (z_iload_n rfl)
theorem mj_335_18 : mc_P 335 18 = some (.iaload, 1, 0, 0, 0) := by decide +kernel
theorem s_335_18 {x0 x1 x2 : Option Value} {o : Nat} {i : Int32} : mw d 335 Q 18 [x0, x1, x2] (.int i :: .ref o :: st) h = (mg h o 100 ∧ mx i (mh_l h o) ∧ mw d 335 Q 19 [x0, x1, x2] (.int (mh_i h o i.toNatClampNeg) :: st) h) := (mw_at mj_335_18).trans (z_iald)
theorem mj_335_19 : mc_P 335 19 = some (.putfield 331, 3, 14, 48, 0) := by decide +kernel
theorem s_335_19 {x0 x1 x2 : Option Value} {o : Nat} {w : Int32} : mw d 335 Q 19 [x0, x1, x2] (.int w :: .ref o :: st) h = (mg h o 14 ∧ mw d 335 Q 22 [x0, x1, x2] (st) (mh_si h o 48 w)) := (mw_at mj_335_19).trans (z_puti (by decide) (by decide) rfl)
theorem mj_335_22 : mc_P 335 22 = some (.iconst 0, 1, 0, 0, 0) := by decide +kernel
theorem s_335_22 {x0 x1 x2 : Option Value} : mw d 335 Q 22 [x0, x1, x2] (st) h = mw d 335 Q 23 [x0, x1, x2] (.int 0 :: st) h := (mw_at mj_335_22).trans (z_iconst (by decide))
theorem mj_335_23 : mc_P 335 23 = some (.ireturn, 1, 0, 3, 0) := by decide +kernel
theorem s_335_23 {x0 x1 x2 : Option Value} {x : Int32} : mw d 335 Q 23 [x0, x1, x2] ([.int x]) h = ((x = 0 ∨ x = 1) ∧ Q (some (.int x)) h) := (mw_at mj_335_23).trans (z_zret)
theorem e_335 {a0 : Nat} {a1 : Int32} {a2 : Int32} : mcall d 335 [.ref a0, .int a1, .int a2] h Q = mw d 335 Q 0 [some (.ref a0), some (.int a1), some (.int a2)] [] h := by
  show mw d 335 Q 0 (me_en (mc_nl 335) _) [] h = _
  rw [nl_335]; rfl

/-! InvariantDeskModel.lastStatement(I)I -/
theorem mj_336_0 : mc_P 336 0 = some (.iconst (-1), 1, 0, 0, 0) := by decide +kernel
theorem s_336_0 {x0 x1 x2 x3 : Option Value} : mw d 336 Q 0 [x0, x1, x2, x3] (st) h = mw d 336 Q 1 [x0, x1, x2, x3] (.int (-1) :: st) h := (mw_at mj_336_0).trans (z_iconst (by decide))
theorem mj_336_1 : mc_P 336 1 = some (.istore_n 2, 1, 0, 0, 0) := by decide +kernel
theorem s_336_1 {x0 x1 x2 x3 : Option Value} {w : Int32} : mw d 336 Q 1 [x0, x1, x2, x3] (.int w :: st) h = mw d 336 Q 2 [x0, mk2 x1, some (.int w), x3] (st) h := (mw_at mj_336_1).trans (z_istore_n (Nat.le_of_ble_eq_true rfl) (me_s1_mk (j := 1) (w := x1) rfl))
theorem mj_336_2 : mc_P 336 2 = some (.iload_n 1, 1, 0, 0, 0) := by decide +kernel
theorem s_336_2 {x0 x2 x3 : Option Value} {w : Value} : mw d 336 Q 2 [x0, some w, x2, x3] (st) h = mv_i w (mw d 336 Q 3 [x0, some w, x2, x3] (w :: st) h) := (mw_at mj_336_2).trans (z_iload_n rfl)
theorem mj_336_3 : mc_P 336 3 = some (.iconst 1, 1, 0, 0, 0) := by decide +kernel
theorem s_336_3 {x0 x1 x2 x3 : Option Value} : mw d 336 Q 3 [x0, x1, x2, x3] (st) h = mw d 336 Q 4 [x0, x1, x2, x3] (.int 1 :: st) h := (mw_at mj_336_3).trans (z_iconst (by decide))
theorem mj_336_4 : mc_P 336 4 = some (.iadd, 1, 0, 0, 0) := by decide +kernel
theorem s_336_4 {x0 x1 x2 x3 : Option Value} {x w : Int32} : mw d 336 Q 4 [x0, x1, x2, x3] (.int w :: .int x :: st) h = mw d 336 Q 5 [x0, x1, x2, x3] (.int (x + w) :: st) h := (mw_at mj_336_4).trans (z_iadd)
theorem mj_336_5 : mc_P 336 5 = some (.istore_n 3, 1, 0, 0, 0) := by decide +kernel
theorem s_336_5 {x0 x1 x2 x3 : Option Value} {w : Int32} : mw d 336 Q 5 [x0, x1, x2, x3] (.int w :: st) h = mw d 336 Q 6 [x0, x1, mk2 x2, some (.int w)] (st) h := (mw_at mj_336_5).trans (z_istore_n (Nat.le_of_ble_eq_true rfl) (me_s1_mk (j := 2) (w := x2) rfl))
theorem mj_336_6 : mc_P 336 6 = some (.iload_n 3, 1, 0, 0, 0) := by decide +kernel
theorem s_336_6 {x0 x1 x2 : Option Value} {w : Value} : mw d 336 Q 6 [x0, x1, x2, some w] (st) h = mv_i w (mw d 336 Q 7 [x0, x1, x2, some w] (w :: st) h) := (mw_at mj_336_6).trans (z_iload_n rfl)
theorem mj_336_7 : mc_P 336 7 = some (.aload_n 0, 1, 0, 0, 0) := by decide +kernel
theorem s_336_7 {x1 x2 x3 : Option Value} {w : Value} : mw d 336 Q 7 [some w, x1, x2, x3] (st) h = mv_a w (mw d 336 Q 8 [some w, x1, x2, x3] (w :: st) h) := (mw_at mj_336_7).trans (z_aload_n rfl)
theorem mj_336_8 : mc_P 336 8 = some (.iload_n 1, 1, 0, 0, 0) := by decide +kernel
theorem s_336_8 {x0 x2 x3 : Option Value} {w : Value} : mw d 336 Q 8 [x0, some w, x2, x3] (st) h = mv_i w (mw d 336 Q 9 [x0, some w, x2, x3] (w :: st) h) := (mw_at mj_336_8).trans (z_iload_n rfl)
theorem mj_336_9 : mc_P 336 9 = some (.invokevirtual 348, 3, 333, 14, 2) := by decide +kernel
theorem s_336_9 {x0 x1 x2 x3 : Option Value} {o : Nat} {a1 : Value} : mw (d + 1) 336 Q 9 [x0, x1, x2, x3] (a1 :: .ref o :: st) h = (mg h o 14 ∧ mca st 8 ∧ mca [.ref o, a1] 2 ∧ mcall d 333 [.ref o, a1] h (mK (d + 1) 336 Q 12 [x0, x1, x2, x3] st)) := (mw_at mj_336_9).trans ((z_invv (As := [a1]) (by decide) rfl rfl).trans (congrArg (And _) (congrArg (And _) (mC_nl nl_333))))
theorem mj_336_12 : mc_P 336 12 = some (.if_icmp .ge 14, 3, 0, 0, 0) := by decide +kernel
theorem s_336_12 {x0 x1 x2 x3 : Option Value} {x w : Int32} : mw d 336 Q 12 [x0, x1, x2, x3] (.int w :: .int x :: st) h = mB (w ≤ x) (mw d 336 Q) 26 15 [x0, x1, x2, x3] st h := (mw_at mj_336_12).trans (z_icmp_ge (by decide) rfl)
theorem mj_336_15 : mc_P 336 15 = some (.iload_n 3, 1, 0, 0, 0) := by decide +kernel
theorem s_336_15 {x0 x1 x2 : Option Value} {w : Value} : mw d 336 Q 15 [x0, x1, x2, some w] (st) h = mv_i w (mw d 336 Q 16 [x0, x1, x2, some w] (w :: st) h) := (mw_at mj_336_15).trans (z_iload_n rfl)
theorem mj_336_16 : mc_P 336 16 = some (.istore_n 2, 1, 0, 0, 0) := by decide +kernel
theorem s_336_16 {x0 x1 x2 x3 : Option Value} {w : Int32} : mw d 336 Q 16 [x0, x1, x2, x3] (.int w :: st) h = mw d 336 Q 17 [x0, mk2 x1, some (.int w), x3] (st) h := (mw_at mj_336_16).trans (z_istore_n (Nat.le_of_ble_eq_true rfl) (me_s1_mk (j := 1) (w := x1) rfl))
theorem mj_336_17 : mc_P 336 17 = some (.aload_n 0, 1, 0, 0, 0) := by decide +kernel
theorem s_336_17 {x1 x2 x3 : Option Value} {w : Value} : mw d 336 Q 17 [some w, x1, x2, x3] (st) h = mv_a w (mw d 336 Q 18 [some w, x1, x2, x3] (w :: st) h) := (mw_at mj_336_17).trans (z_aload_n rfl)
theorem mj_336_18 : mc_P 336 18 = some (.iload_n 3, 1, 0, 0, 0) := by decide +kernel
theorem s_336_18 {x0 x1 x2 : Option Value} {w : Value} : mw d 336 Q 18 [x0, x1, x2, some w] (st) h = mv_i w (mw d 336 Q 19 [x0, x1, x2, some w] (w :: st) h) := (mw_at mj_336_18).trans (z_iload_n rfl)
theorem mj_336_19 : mc_P 336 19 = some (.invokevirtual 348, 3, 333, 14, 2) := by decide +kernel
theorem s_336_19 {x0 x1 x2 x3 : Option Value} {o : Nat} {a1 : Value} : mw (d + 1) 336 Q 19 [x0, x1, x2, x3] (a1 :: .ref o :: st) h = (mg h o 14 ∧ mca st 8 ∧ mca [.ref o, a1] 2 ∧ mcall d 333 [.ref o, a1] h (mK (d + 1) 336 Q 22 [x0, x1, x2, x3] st)) := (mw_at mj_336_19).trans ((z_invv (As := [a1]) (by decide) rfl rfl).trans (congrArg (And _) (congrArg (And _) (mC_nl nl_333))))
theorem mj_336_22 : mc_P 336 22 = some (.istore_n 3, 1, 0, 0, 0) := by decide +kernel
theorem s_336_22 {x0 x1 x2 x3 : Option Value} {w : Int32} : mw d 336 Q 22 [x0, x1, x2, x3] (.int w :: st) h = mw d 336 Q 23 [x0, x1, mk2 x2, some (.int w)] (st) h := (mw_at mj_336_22).trans (z_istore_n (Nat.le_of_ble_eq_true rfl) (me_s1_mk (j := 2) (w := x2) rfl))
theorem mj_336_23 : mc_P 336 23 = some (.goto (-17), 3, 0, 0, 0) := by decide +kernel
theorem s_336_23 {x0 x1 x2 x3 : Option Value} : mw d 336 Q 23 [x0, x1, x2, x3] (st) h = mw d 336 Q 6 [x0, x1, x2, x3] (st) h := (mw_at mj_336_23).trans (z_goto (by decide))
theorem mj_336_26 : mc_P 336 26 = some (.iload_n 2, 1, 0, 0, 0) := by decide +kernel
theorem s_336_26 {x0 x1 x3 : Option Value} {w : Value} : mw d 336 Q 26 [x0, x1, some w, x3] (st) h = mv_i w (mw d 336 Q 27 [x0, x1, some w, x3] (w :: st) h) := (mw_at mj_336_26).trans (z_iload_n rfl)
theorem mj_336_27 : mc_P 336 27 = some (.ireturn, 1, 0, 0, 0) := by decide +kernel
theorem s_336_27 {x0 x1 x2 x3 : Option Value} {x : Int32} : mw d 336 Q 27 [x0, x1, x2, x3] ([.int x]) h = (Q (some (.int x)) h) := (mw_at mj_336_27).trans (z_iret)
theorem e_336 {a0 : Nat} {a1 : Int32} : mcall d 336 [.ref a0, .int a1] h Q = mw d 336 Q 0 [some (.ref a0), some (.int a1), none, none] [] h := by
  show mw d 336 Q 0 (me_en (mc_nl 336) _) [] h = _
  rw [nl_336]; rfl

/-! InvariantDeskModel.blockOf(I)I -/
theorem mj_337_0 : mc_P 337 0 = some (.iload_n 1, 1, 0, 0, 0) := by decide +kernel
theorem s_337_0 {x0 x2 : Option Value} {w : Value} : mw d 337 Q 0 [x0, some w, x2] (st) h = mv_i w (mw d 337 Q 1 [x0, some w, x2] (w :: st) h) := (mw_at mj_337_0).trans (z_iload_n rfl)
theorem mj_337_1 : mc_P 337 1 = some (.iconst 1, 1, 0, 0, 0) := by decide +kernel
theorem s_337_1 {x0 x1 x2 : Option Value} : mw d 337 Q 1 [x0, x1, x2] (st) h = mw d 337 Q 2 [x0, x1, x2] (.int 1 :: st) h := (mw_at mj_337_1).trans (z_iconst (by decide))
theorem mj_337_2 : mc_P 337 2 = some (.iadd, 1, 0, 0, 0) := by decide +kernel
theorem s_337_2 {x0 x1 x2 : Option Value} {x w : Int32} : mw d 337 Q 2 [x0, x1, x2] (.int w :: .int x :: st) h = mw d 337 Q 3 [x0, x1, x2] (.int (x + w) :: st) h := (mw_at mj_337_2).trans (z_iadd)
theorem mj_337_3 : mc_P 337 3 = some (.istore_n 2, 1, 0, 0, 0) := by decide +kernel
theorem s_337_3 {x0 x1 x2 : Option Value} {w : Int32} : mw d 337 Q 3 [x0, x1, x2] (.int w :: st) h = mw d 337 Q 4 [x0, mk2 x1, some (.int w)] (st) h := (mw_at mj_337_3).trans (z_istore_n (Nat.le_of_ble_eq_true rfl) (me_s1_mk (j := 1) (w := x1) rfl))
theorem mj_337_4 : mc_P 337 4 = some (.aload_n 0, 1, 0, 0, 0) := by decide +kernel
theorem s_337_4 {x1 x2 : Option Value} {w : Value} : mw d 337 Q 4 [some w, x1, x2] (st) h = mv_a w (mw d 337 Q 5 [some w, x1, x2] (w :: st) h) := (mw_at mj_337_4).trans (z_aload_n rfl)
theorem mj_337_5 : mc_P 337 5 = some (.getfield 48, 3, 14, 19, 0) := by decide +kernel
theorem s_337_5 {x0 x1 x2 : Option Value} {o : Nat} : mw d 337 Q 5 [x0, x1, x2] (.ref o :: st) h = (mg h o 14 ∧ mw d 337 Q 8 [x0, x1, x2] (va_rf (mh_r h o 19) :: st) h) := (mw_at mj_337_5).trans (z_getr (by decide) (by decide) rfl)
theorem mj_337_8 : mc_P 337 8 = some (.iload_n 2, 1, 0, 0, 0) := by decide +kernel
theorem s_337_8 {x0 x1 : Option Value} {w : Value} : mw d 337 Q 8 [x0, x1, some w] (st) h = mv_i w (mw d 337 Q 9 [x0, x1, some w] (w :: st) h) := (mw_at mj_337_8).trans (z_iload_n rfl)
theorem mj_337_9 : mc_P 337 9 = some (.baload, 1, 0, 0, 0) := by decide +kernel
theorem s_337_9 {x0 x1 x2 : Option Value} {o : Nat} {i : Int32} : mw d 337 Q 9 [x0, x1, x2] (.int i :: .ref o :: st) h = (mgb h o ∧ mx i (mh_l h o) ∧ mw d 337 Q 10 [x0, x1, x2] (.int (mh_i h o i.toNatClampNeg) :: st) h) := (mw_at mj_337_9).trans (z_bald)
theorem mj_337_10 : mc_P 337 10 = some (.bipush 13, 2, 0, 0, 0) := by decide +kernel
theorem s_337_10 {x0 x1 x2 : Option Value} : mw d 337 Q 10 [x0, x1, x2] (st) h = mw d 337 Q 12 [x0, x1, x2] (.int 13 :: st) h := (mw_at mj_337_10).trans (z_bipush (by decide))
theorem mj_337_12 : mc_P 337 12 = some (.if_icmp .ne 9, 3, 0, 0, 0) := by decide +kernel
theorem s_337_12 {x0 x1 x2 : Option Value} {x w : Int32} : mw d 337 Q 12 [x0, x1, x2] (.int w :: .int x :: st) h = mB (¬ x = w) (mw d 337 Q) 21 15 [x0, x1, x2] st h := (mw_at mj_337_12).trans (z_icmp_ne (by decide) rfl)
theorem mj_337_15 : mc_P 337 15 = some (.iinc 2 1, 3, 0, 0, 0) := by decide +kernel
theorem s_337_15 {x0 x1 : Option Value} {w : Int32} : mw d 337 Q 15 [x0, x1, some (.int w)] (st) h = mw d 337 Q 18 [x0, mk2 x1, some (.int (w + 1))] (st) h := (mw_at mj_337_15).trans (z_iinc rfl (Nat.le_of_ble_eq_true rfl) (by decide) (me_s1_mk (j := 1) (w := x1) rfl))
theorem mj_337_18 : mc_P 337 18 = some (.goto (-14), 3, 0, 0, 0) := by decide +kernel
theorem s_337_18 {x0 x1 x2 : Option Value} : mw d 337 Q 18 [x0, x1, x2] (st) h = mw d 337 Q 4 [x0, x1, x2] (st) h := (mw_at mj_337_18).trans (z_goto (by decide))
theorem mj_337_21 : mc_P 337 21 = some (.iload_n 2, 1, 0, 0, 0) := by decide +kernel
theorem s_337_21 {x0 x1 : Option Value} {w : Value} : mw d 337 Q 21 [x0, x1, some w] (st) h = mv_i w (mw d 337 Q 22 [x0, x1, some w] (w :: st) h) := (mw_at mj_337_21).trans (z_iload_n rfl)
theorem mj_337_22 : mc_P 337 22 = some (.ireturn, 1, 0, 0, 0) := by decide +kernel
theorem s_337_22 {x0 x1 x2 : Option Value} {x : Int32} : mw d 337 Q 22 [x0, x1, x2] ([.int x]) h = (Q (some (.int x)) h) := (mw_at mj_337_22).trans (z_iret)
theorem e_337 {a0 : Nat} {a1 : Int32} : mcall d 337 [.ref a0, .int a1] h Q = mw d 337 Q 0 [some (.ref a0), some (.int a1), none] [] h := by
  show mw d 337 Q 0 (me_en (mc_nl 337) _) [] h = _
  rw [nl_337]; rfl

/-! InvariantDeskModel.returns(I)Z -/
theorem mj_338_0 : mc_P 338 0 = some (.aload_n 0, 1, 0, 0, 0) := by decide +kernel
theorem s_338_0 {x1 x2 : Option Value} {w : Value} : mw d 338 Q 0 [some w, x1, x2] (st) h = mv_a w (mw d 338 Q 1 [some w, x1, x2] (w :: st) h) := (mw_at mj_338_0).trans (z_aload_n rfl)
theorem mj_338_1 : mc_P 338 1 = some (.aload_n 0, 1, 0, 0, 0) := by decide +kernel
theorem s_338_1 {x1 x2 : Option Value} {w : Value} : mw d 338 Q 1 [some w, x1, x2] (st) h = mv_a w (mw d 338 Q 2 [some w, x1, x2] (w :: st) h) := (mw_at mj_338_1).trans (z_aload_n rfl)
theorem mj_338_2 : mc_P 338 2 = some (.iload_n 1, 1, 0, 0, 0) := by decide +kernel
theorem s_338_2 {x0 x2 : Option Value} {w : Value} : mw d 338 Q 2 [x0, some w, x2] (st) h = mv_i w (mw d 338 Q 3 [x0, some w, x2] (w :: st) h) := (mw_at mj_338_2).trans (z_iload_n rfl)
theorem mj_338_3 : mc_P 338 3 = some (.invokevirtual 351, 3, 337, 14, 2) := by decide +kernel
theorem s_338_3 {x0 x1 x2 : Option Value} {o : Nat} {a1 : Value} : mw (d + 1) 338 Q 3 [x0, x1, x2] (a1 :: .ref o :: st) h = (mg h o 14 ∧ mca st 8 ∧ mca [.ref o, a1] 3 ∧ mcall d 337 [.ref o, a1] h (mK (d + 1) 338 Q 6 [x0, x1, x2] st)) := (mw_at mj_338_3).trans ((z_invv (As := [a1]) (by decide) rfl rfl).trans (congrArg (And _) (congrArg (And _) (mC_nl nl_337))))
theorem mj_338_6 : mc_P 338 6 = some (.invokevirtual 354, 3, 336, 14, 2) := by decide +kernel
theorem s_338_6 {x0 x1 x2 : Option Value} {o : Nat} {a1 : Value} : mw (d + 1) 338 Q 6 [x0, x1, x2] (a1 :: .ref o :: st) h = (mg h o 14 ∧ mca st 8 ∧ mca [.ref o, a1] 4 ∧ mcall d 336 [.ref o, a1] h (mK (d + 1) 338 Q 9 [x0, x1, x2] st)) := (mw_at mj_338_6).trans ((z_invv (As := [a1]) (by decide) rfl rfl).trans (congrArg (And _) (congrArg (And _) (mC_nl nl_336))))
theorem mj_338_9 : mc_P 338 9 = some (.istore_n 2, 1, 0, 0, 0) := by decide +kernel
theorem s_338_9 {x0 x1 x2 : Option Value} {w : Int32} : mw d 338 Q 9 [x0, x1, x2] (.int w :: st) h = mw d 338 Q 10 [x0, mk2 x1, some (.int w)] (st) h := (mw_at mj_338_9).trans (z_istore_n (Nat.le_of_ble_eq_true rfl) (me_s1_mk (j := 1) (w := x1) rfl))
theorem mj_338_10 : mc_P 338 10 = some (.iload_n 2, 1, 0, 0, 0) := by decide +kernel
theorem s_338_10 {x0 x1 : Option Value} {w : Value} : mw d 338 Q 10 [x0, x1, some w] (st) h = mv_i w (mw d 338 Q 11 [x0, x1, some w] (w :: st) h) := (mw_at mj_338_10).trans (z_iload_n rfl)
theorem mj_338_11 : mc_P 338 11 = some (.iconst (-1), 1, 0, 0, 0) := by decide +kernel
theorem s_338_11 {x0 x1 x2 : Option Value} : mw d 338 Q 11 [x0, x1, x2] (st) h = mw d 338 Q 12 [x0, x1, x2] (.int (-1) :: st) h := (mw_at mj_338_11).trans (z_iconst (by decide))
theorem mj_338_12 : mc_P 338 12 = some (.if_icmp .eq 18, 3, 0, 0, 0) := by decide +kernel
theorem s_338_12 {x0 x1 x2 : Option Value} {x w : Int32} : mw d 338 Q 12 [x0, x1, x2] (.int w :: .int x :: st) h = mB (x = w) (mw d 338 Q) 30 15 [x0, x1, x2] st h := (mw_at mj_338_12).trans (z_icmp_eq (by decide) rfl)
theorem mj_338_15 : mc_P 338 15 = some (.aload_n 0, 1, 0, 0, 0) := by decide +kernel
theorem s_338_15 {x1 x2 : Option Value} {w : Value} : mw d 338 Q 15 [some w, x1, x2] (st) h = mv_a w (mw d 338 Q 16 [some w, x1, x2] (w :: st) h) := (mw_at mj_338_15).trans (z_aload_n rfl)
theorem mj_338_16 : mc_P 338 16 = some (.getfield 48, 3, 14, 19, 0) := by decide +kernel
theorem s_338_16 {x0 x1 x2 : Option Value} {o : Nat} : mw d 338 Q 16 [x0, x1, x2] (.ref o :: st) h = (mg h o 14 ∧ mw d 338 Q 19 [x0, x1, x2] (va_rf (mh_r h o 19) :: st) h) := (mw_at mj_338_16).trans (z_getr (by decide) (by decide) rfl)
theorem mj_338_19 : mc_P 338 19 = some (.iload_n 2, 1, 0, 0, 0) := by decide +kernel
theorem s_338_19 {x0 x1 : Option Value} {w : Value} : mw d 338 Q 19 [x0, x1, some w] (st) h = mv_i w (mw d 338 Q 20 [x0, x1, some w] (w :: st) h) := (mw_at mj_338_19).trans (z_iload_n rfl)
theorem mj_338_20 : mc_P 338 20 = some (.baload, 1, 0, 0, 0) := by decide +kernel
theorem s_338_20 {x0 x1 x2 : Option Value} {o : Nat} {i : Int32} : mw d 338 Q 20 [x0, x1, x2] (.int i :: .ref o :: st) h = (mgb h o ∧ mx i (mh_l h o) ∧ mw d 338 Q 21 [x0, x1, x2] (.int (mh_i h o i.toNatClampNeg) :: st) h) := (mw_at mj_338_20).trans (z_bald)
theorem mj_338_21 : mc_P 338 21 = some (.bipush 11, 2, 0, 0, 0) := by decide +kernel
theorem s_338_21 {x0 x1 x2 : Option Value} : mw d 338 Q 21 [x0, x1, x2] (st) h = mw d 338 Q 23 [x0, x1, x2] (.int 11 :: st) h := (mw_at mj_338_21).trans (z_bipush (by decide))
theorem mj_338_23 : mc_P 338 23 = some (.if_icmp .ne 7, 3, 0, 0, 0) := by decide +kernel
theorem s_338_23 {x0 x1 x2 : Option Value} {x w : Int32} : mw d 338 Q 23 [x0, x1, x2] (.int w :: .int x :: st) h = mB (¬ x = w) (mw d 338 Q) 30 26 [x0, x1, x2] st h := (mw_at mj_338_23).trans (z_icmp_ne (by decide) rfl)
theorem mj_338_26 : mc_P 338 26 = some (.iconst 1, 1, 0, 0, 0) := by decide +kernel
theorem s_338_26 {x0 x1 x2 : Option Value} : mw d 338 Q 26 [x0, x1, x2] (st) h = mw d 338 Q 27 [x0, x1, x2] (.int 1 :: st) h := (mw_at mj_338_26).trans (z_iconst (by decide))
theorem mj_338_27 : mc_P 338 27 = some (.goto 4, 3, 0, 0, 0) := by decide +kernel
theorem s_338_27 {x0 x1 x2 : Option Value} : mw d 338 Q 27 [x0, x1, x2] (st) h = mw d 338 Q 31 [x0, x1, x2] (st) h := (mw_at mj_338_27).trans (z_goto (by decide))
theorem mj_338_30 : mc_P 338 30 = some (.iconst 0, 1, 0, 0, 0) := by decide +kernel
theorem s_338_30 {x0 x1 x2 : Option Value} : mw d 338 Q 30 [x0, x1, x2] (st) h = mw d 338 Q 31 [x0, x1, x2] (.int 0 :: st) h := (mw_at mj_338_30).trans (z_iconst (by decide))
theorem mj_338_31 : mc_P 338 31 = some (.ireturn, 1, 0, 3, 0) := by decide +kernel
theorem s_338_31 {x0 x1 x2 : Option Value} {x : Int32} : mw d 338 Q 31 [x0, x1, x2] ([.int x]) h = ((x = 0 ∨ x = 1) ∧ Q (some (.int x)) h) := (mw_at mj_338_31).trans (z_zret)
theorem e_338 {a0 : Nat} {a1 : Int32} : mcall d 338 [.ref a0, .int a1] h Q = mw d 338 Q 0 [some (.ref a0), some (.int a1), none] [] h := by
  show mw d 338 Q 0 (me_en (mc_nl 338) _) [] h = _
  rw [nl_338]; rfl

/-! InvariantDeskModel.functionOf(II)I -/
theorem mj_339_0 : mc_P 339 0 = some (.iconst (-1), 1, 0, 0, 0) := by decide +kernel
theorem s_339_0 {x0 x1 x2 x3 x4 : Option Value} : mw d 339 Q 0 [x0, x1, x2, x3, x4] (st) h = mw d 339 Q 1 [x0, x1, x2, x3, x4] (.int (-1) :: st) h := (mw_at mj_339_0).trans (z_iconst (by decide))
theorem mj_339_1 : mc_P 339 1 = some (.istore_n 3, 1, 0, 0, 0) := by decide +kernel
theorem s_339_1 {x0 x1 x2 x3 x4 : Option Value} {w : Int32} : mw d 339 Q 1 [x0, x1, x2, x3, x4] (.int w :: st) h = mw d 339 Q 2 [x0, x1, mk2 x2, some (.int w), x4] (st) h := (mw_at mj_339_1).trans (z_istore_n (Nat.le_of_ble_eq_true rfl) (me_s1_mk (j := 2) (w := x2) rfl))
theorem mj_339_2 : mc_P 339 2 = some (.iconst 1, 1, 0, 0, 0) := by decide +kernel
theorem s_339_2 {x0 x1 x2 x3 x4 : Option Value} : mw d 339 Q 2 [x0, x1, x2, x3, x4] (st) h = mw d 339 Q 3 [x0, x1, x2, x3, x4] (.int 1 :: st) h := (mw_at mj_339_2).trans (z_iconst (by decide))
theorem mj_339_3 : mc_P 339 3 = some (.istore 4, 2, 0, 0, 0) := by decide +kernel
theorem s_339_3 {x0 x1 x2 x3 x4 : Option Value} {w : Int32} : mw d 339 Q 3 [x0, x1, x2, x3, x4] (.int w :: st) h = mw d 339 Q 5 [x0, x1, x2, mk2 x3, some (.int w)] (st) h := (mw_at mj_339_3).trans (z_istore (Nat.le_of_ble_eq_true rfl) (me_s1_mk (j := 3) (w := x3) rfl))
theorem mj_339_5 : mc_P 339 5 = some (.iload 4, 2, 0, 0, 0) := by decide +kernel
theorem s_339_5 {x0 x1 x2 x3 : Option Value} {w : Value} : mw d 339 Q 5 [x0, x1, x2, x3, some w] (st) h = mv_i w (mw d 339 Q 7 [x0, x1, x2, x3, some w] (w :: st) h) := (mw_at mj_339_5).trans (z_iload rfl)
theorem mj_339_7 : mc_P 339 7 = some (.aload_n 0, 1, 0, 0, 0) := by decide +kernel
theorem s_339_7 {x1 x2 x3 x4 : Option Value} {w : Value} : mw d 339 Q 7 [some w, x1, x2, x3, x4] (st) h = mv_a w (mw d 339 Q 8 [some w, x1, x2, x3, x4] (w :: st) h) := (mw_at mj_339_7).trans (z_aload_n rfl)
theorem mj_339_8 : mc_P 339 8 = some (.getfield 191, 3, 14, 24, 0) := by decide +kernel
theorem s_339_8 {x0 x1 x2 x3 x4 : Option Value} {o : Nat} : mw d 339 Q 8 [x0, x1, x2, x3, x4] (.ref o :: st) h = (mg h o 14 ∧ mw d 339 Q 11 [x0, x1, x2, x3, x4] (.int (mh_i h o 24) :: st) h) := (mw_at mj_339_8).trans (z_geti (by decide) (by decide) (Or.inl rfl))
theorem mj_339_11 : mc_P 339 11 = some (.if_icmp .ge 44, 3, 0, 0, 0) := by decide +kernel
theorem s_339_11 {x0 x1 x2 x3 x4 : Option Value} {x w : Int32} : mw d 339 Q 11 [x0, x1, x2, x3, x4] (.int w :: .int x :: st) h = mB (w ≤ x) (mw d 339 Q) 55 14 [x0, x1, x2, x3, x4] st h := (mw_at mj_339_11).trans (z_icmp_ge (by decide) rfl)
theorem mj_339_14 : mc_P 339 14 = some (.aload_n 0, 1, 0, 0, 0) := by decide +kernel
theorem s_339_14 {x1 x2 x3 x4 : Option Value} {w : Value} : mw d 339 Q 14 [some w, x1, x2, x3, x4] (st) h = mv_a w (mw d 339 Q 15 [some w, x1, x2, x3, x4] (w :: st) h) := (mw_at mj_339_14).trans (z_aload_n rfl)
theorem mj_339_15 : mc_P 339 15 = some (.iload 4, 2, 0, 0, 0) := by decide +kernel
theorem s_339_15 {x0 x1 x2 x3 : Option Value} {w : Value} : mw d 339 Q 15 [x0, x1, x2, x3, some w] (st) h = mv_i w (mw d 339 Q 17 [x0, x1, x2, x3, some w] (w :: st) h) := (mw_at mj_339_15).trans (z_iload rfl)
theorem mj_339_17 : mc_P 339 17 = some (.invokevirtual 348, 3, 333, 14, 2) := by decide +kernel
theorem s_339_17 {x0 x1 x2 x3 x4 : Option Value} {o : Nat} {a1 : Value} : mw (d + 1) 339 Q 17 [x0, x1, x2, x3, x4] (a1 :: .ref o :: st) h = (mg h o 14 ∧ mca st 8 ∧ mca [.ref o, a1] 2 ∧ mcall d 333 [.ref o, a1] h (mK (d + 1) 339 Q 20 [x0, x1, x2, x3, x4] st)) := (mw_at mj_339_17).trans ((z_invv (As := [a1]) (by decide) rfl rfl).trans (congrArg (And _) (congrArg (And _) (mC_nl nl_333))))
theorem mj_339_20 : mc_P 339 20 = some (.iload_n 2, 1, 0, 0, 0) := by decide +kernel
theorem s_339_20 {x0 x1 x3 x4 : Option Value} {w : Value} : mw d 339 Q 20 [x0, x1, some w, x3, x4] (st) h = mv_i w (mw d 339 Q 21 [x0, x1, some w, x3, x4] (w :: st) h) := (mw_at mj_339_20).trans (z_iload_n rfl)
theorem mj_339_21 : mc_P 339 21 = some (.if_icmp .gt 21, 3, 0, 0, 0) := by decide +kernel
theorem s_339_21 {x0 x1 x2 x3 x4 : Option Value} {x w : Int32} : mw d 339 Q 21 [x0, x1, x2, x3, x4] (.int w :: .int x :: st) h = mB (w < x) (mw d 339 Q) 42 24 [x0, x1, x2, x3, x4] st h := (mw_at mj_339_21).trans (z_icmp_gt (by decide) rfl)
theorem mj_339_24 : mc_P 339 24 = some (.aload_n 0, 1, 0, 0, 0) := by decide +kernel
theorem s_339_24 {x1 x2 x3 x4 : Option Value} {w : Value} : mw d 339 Q 24 [some w, x1, x2, x3, x4] (st) h = mv_a w (mw d 339 Q 25 [some w, x1, x2, x3, x4] (w :: st) h) := (mw_at mj_339_24).trans (z_aload_n rfl)
theorem mj_339_25 : mc_P 339 25 = some (.getfield 55, 3, 14, 21, 0) := by decide +kernel
theorem s_339_25 {x0 x1 x2 x3 x4 : Option Value} {o : Nat} : mw d 339 Q 25 [x0, x1, x2, x3, x4] (.ref o :: st) h = (mg h o 14 ∧ mw d 339 Q 28 [x0, x1, x2, x3, x4] (va_rf (mh_r h o 21) :: st) h) := (mw_at mj_339_25).trans (z_getr (by decide) (by decide) rfl)
theorem mj_339_28 : mc_P 339 28 = some (.iload 4, 2, 0, 0, 0) := by decide +kernel
theorem s_339_28 {x0 x1 x2 x3 : Option Value} {w : Value} : mw d 339 Q 28 [x0, x1, x2, x3, some w] (st) h = mv_i w (mw d 339 Q 30 [x0, x1, x2, x3, some w] (w :: st) h) := (mw_at mj_339_28).trans (z_iload rfl)
theorem mj_339_30 : mc_P 339 30 = some (.iconst 1, 1, 0, 0, 0) := by decide +kernel
theorem s_339_30 {x0 x1 x2 x3 x4 : Option Value} : mw d 339 Q 30 [x0, x1, x2, x3, x4] (st) h = mw d 339 Q 31 [x0, x1, x2, x3, x4] (.int 1 :: st) h := (mw_at mj_339_30).trans (z_iconst (by decide))
theorem mj_339_31 : mc_P 339 31 = some (.iadd, 1, 0, 0, 0) := by decide +kernel
theorem s_339_31 {x0 x1 x2 x3 x4 : Option Value} {x w : Int32} : mw d 339 Q 31 [x0, x1, x2, x3, x4] (.int w :: .int x :: st) h = mw d 339 Q 32 [x0, x1, x2, x3, x4] (.int (x + w) :: st) h := (mw_at mj_339_31).trans (z_iadd)
theorem mj_339_32 : mc_P 339 32 = some (.iaload, 1, 0, 0, 0) := by decide +kernel
theorem s_339_32 {x0 x1 x2 x3 x4 : Option Value} {o : Nat} {i : Int32} : mw d 339 Q 32 [x0, x1, x2, x3, x4] (.int i :: .ref o :: st) h = (mg h o 100 ∧ mx i (mh_l h o) ∧ mw d 339 Q 33 [x0, x1, x2, x3, x4] (.int (mh_i h o i.toNatClampNeg) :: st) h) := (mw_at mj_339_32).trans (z_iald)
theorem mj_339_33 : mc_P 339 33 = some (.iload_n 1, 1, 0, 0, 0) := by decide +kernel
theorem s_339_33 {x0 x2 x3 x4 : Option Value} {w : Value} : mw d 339 Q 33 [x0, some w, x2, x3, x4] (st) h = mv_i w (mw d 339 Q 34 [x0, some w, x2, x3, x4] (w :: st) h) := (mw_at mj_339_33).trans (z_iload_n rfl)
theorem mj_339_34 : mc_P 339 34 = some (.if_icmp .ne 8, 3, 0, 0, 0) := by decide +kernel
theorem s_339_34 {x0 x1 x2 x3 x4 : Option Value} {x w : Int32} : mw d 339 Q 34 [x0, x1, x2, x3, x4] (.int w :: .int x :: st) h = mB (¬ x = w) (mw d 339 Q) 42 37 [x0, x1, x2, x3, x4] st h := (mw_at mj_339_34).trans (z_icmp_ne (by decide) rfl)
theorem mj_339_37 : mc_P 339 37 = some (.iload 4, 2, 0, 0, 0) := by decide +kernel
theorem s_339_37 {x0 x1 x2 x3 : Option Value} {w : Value} : mw d 339 Q 37 [x0, x1, x2, x3, some w] (st) h = mv_i w (mw d 339 Q 39 [x0, x1, x2, x3, some w] (w :: st) h) := (mw_at mj_339_37).trans (z_iload rfl)
theorem mj_339_39 : mc_P 339 39 = some (.goto 4, 3, 0, 0, 0) := by decide +kernel
theorem s_339_39 {x0 x1 x2 x3 x4 : Option Value} : mw d 339 Q 39 [x0, x1, x2, x3, x4] (st) h = mw d 339 Q 43 [x0, x1, x2, x3, x4] (st) h := (mw_at mj_339_39).trans (z_goto (by decide))
theorem mj_339_42 : mc_P 339 42 = some (.iload_n 3, 1, 0, 0, 0) := by decide +kernel
theorem s_339_42 {x0 x1 x2 x4 : Option Value} {w : Value} : mw d 339 Q 42 [x0, x1, x2, some w, x4] (st) h = mv_i w (mw d 339 Q 43 [x0, x1, x2, some w, x4] (w :: st) h) := (mw_at mj_339_42).trans (z_iload_n rfl)
theorem mj_339_43 : mc_P 339 43 = some (.istore_n 3, 1, 0, 0, 0) := by decide +kernel
theorem s_339_43 {x0 x1 x2 x3 x4 : Option Value} {w : Int32} : mw d 339 Q 43 [x0, x1, x2, x3, x4] (.int w :: st) h = mw d 339 Q 44 [x0, x1, mk2 x2, some (.int w), x4] (st) h := (mw_at mj_339_43).trans (z_istore_n (Nat.le_of_ble_eq_true rfl) (me_s1_mk (j := 2) (w := x2) rfl))
theorem mj_339_44 : mc_P 339 44 = some (.aload_n 0, 1, 0, 0, 0) := by decide +kernel
theorem s_339_44 {x1 x2 x3 x4 : Option Value} {w : Value} : mw d 339 Q 44 [some w, x1, x2, x3, x4] (st) h = mv_a w (mw d 339 Q 45 [some w, x1, x2, x3, x4] (w :: st) h) := (mw_at mj_339_44).trans (z_aload_n rfl)
theorem mj_339_45 : mc_P 339 45 = some (.iload 4, 2, 0, 0, 0) := by decide +kernel
theorem s_339_45 {x0 x1 x2 x3 : Option Value} {w : Value} : mw d 339 Q 45 [x0, x1, x2, x3, some w] (st) h = mv_i w (mw d 339 Q 47 [x0, x1, x2, x3, some w] (w :: st) h) := (mw_at mj_339_45).trans (z_iload rfl)
theorem mj_339_47 : mc_P 339 47 = some (.invokevirtual 348, 3, 333, 14, 2) := by decide +kernel
theorem s_339_47 {x0 x1 x2 x3 x4 : Option Value} {o : Nat} {a1 : Value} : mw (d + 1) 339 Q 47 [x0, x1, x2, x3, x4] (a1 :: .ref o :: st) h = (mg h o 14 ∧ mca st 8 ∧ mca [.ref o, a1] 2 ∧ mcall d 333 [.ref o, a1] h (mK (d + 1) 339 Q 50 [x0, x1, x2, x3, x4] st)) := (mw_at mj_339_47).trans ((z_invv (As := [a1]) (by decide) rfl rfl).trans (congrArg (And _) (congrArg (And _) (mC_nl nl_333))))
theorem mj_339_50 : mc_P 339 50 = some (.istore 4, 2, 0, 0, 0) := by decide +kernel
theorem s_339_50 {x0 x1 x2 x3 x4 : Option Value} {w : Int32} : mw d 339 Q 50 [x0, x1, x2, x3, x4] (.int w :: st) h = mw d 339 Q 52 [x0, x1, x2, mk2 x3, some (.int w)] (st) h := (mw_at mj_339_50).trans (z_istore (Nat.le_of_ble_eq_true rfl) (me_s1_mk (j := 3) (w := x3) rfl))
theorem mj_339_52 : mc_P 339 52 = some (.goto (-47), 3, 0, 0, 0) := by decide +kernel
theorem s_339_52 {x0 x1 x2 x3 x4 : Option Value} : mw d 339 Q 52 [x0, x1, x2, x3, x4] (st) h = mw d 339 Q 5 [x0, x1, x2, x3, x4] (st) h := (mw_at mj_339_52).trans (z_goto (by decide))
theorem mj_339_55 : mc_P 339 55 = some (.iload_n 3, 1, 0, 0, 0) := by decide +kernel
theorem s_339_55 {x0 x1 x2 x4 : Option Value} {w : Value} : mw d 339 Q 55 [x0, x1, x2, some w, x4] (st) h = mv_i w (mw d 339 Q 56 [x0, x1, x2, some w, x4] (w :: st) h) := (mw_at mj_339_55).trans (z_iload_n rfl)
theorem mj_339_56 : mc_P 339 56 = some (.ireturn, 1, 0, 0, 0) := by decide +kernel
theorem s_339_56 {x0 x1 x2 x3 x4 : Option Value} {x : Int32} : mw d 339 Q 56 [x0, x1, x2, x3, x4] ([.int x]) h = (Q (some (.int x)) h) := (mw_at mj_339_56).trans (z_iret)
theorem e_339 {a0 : Nat} {a1 : Int32} {a2 : Int32} : mcall d 339 [.ref a0, .int a1, .int a2] h Q = mw d 339 Q 0 [some (.ref a0), some (.int a1), some (.int a2), none, none] [] h := by
  show mw d 339 Q 0 (me_en (mc_nl 339) _) [] h = _
  rw [nl_339]; rfl

/-! InvariantDeskModel.meantNow(I)I -/
theorem mj_340_0 : mc_P 340 0 = some (.aload_n 0, 1, 0, 0, 0) := by decide +kernel
theorem s_340_0 {x1 x2 : Option Value} {w : Value} : mw d 340 Q 0 [some w, x1, x2] (st) h = mv_a w (mw d 340 Q 1 [some w, x1, x2] (w :: st) h) := (mw_at mj_340_0).trans (z_aload_n rfl)
theorem mj_340_1 : mc_P 340 1 = some (.getfield 357, 3, 14, 42, 0) := by decide +kernel
theorem s_340_1 {x0 x1 x2 : Option Value} {o : Nat} : mw d 340 Q 1 [x0, x1, x2] (.ref o :: st) h = (mg h o 14 ∧ mw d 340 Q 4 [x0, x1, x2] (.int (mh_i h o 42) :: st) h) := (mw_at mj_340_1).trans (z_geti (by decide) (by decide) (Or.inl rfl))
theorem mj_340_4 : mc_P 340 4 = some (.iconst 1, 1, 0, 0, 0) := by decide +kernel
theorem s_340_4 {x0 x1 x2 : Option Value} : mw d 340 Q 4 [x0, x1, x2] (st) h = mw d 340 Q 5 [x0, x1, x2] (.int 1 :: st) h := (mw_at mj_340_4).trans (z_iconst (by decide))
theorem mj_340_5 : mc_P 340 5 = some (.isub, 1, 0, 0, 0) := by decide +kernel
theorem s_340_5 {x0 x1 x2 : Option Value} {x w : Int32} : mw d 340 Q 5 [x0, x1, x2] (.int w :: .int x :: st) h = mw d 340 Q 6 [x0, x1, x2] (.int (x - w) :: st) h := (mw_at mj_340_5).trans (z_isub)
theorem mj_340_6 : mc_P 340 6 = some (.istore_n 2, 1, 0, 0, 0) := by decide +kernel
theorem s_340_6 {x0 x1 x2 : Option Value} {w : Int32} : mw d 340 Q 6 [x0, x1, x2] (.int w :: st) h = mw d 340 Q 7 [x0, mk2 x1, some (.int w)] (st) h := (mw_at mj_340_6).trans (z_istore_n (Nat.le_of_ble_eq_true rfl) (me_s1_mk (j := 1) (w := x1) rfl))
theorem mj_340_7 : mc_P 340 7 = some (.iload_n 2, 1, 0, 0, 0) := by decide +kernel
theorem s_340_7 {x0 x1 : Option Value} {w : Value} : mw d 340 Q 7 [x0, x1, some w] (st) h = mv_i w (mw d 340 Q 8 [x0, x1, some w] (w :: st) h) := (mw_at mj_340_7).trans (z_iload_n rfl)
theorem mj_340_8 : mc_P 340 8 = some (.aload_n 0, 1, 0, 0, 0) := by decide +kernel
theorem s_340_8 {x1 x2 : Option Value} {w : Value} : mw d 340 Q 8 [some w, x1, x2] (st) h = mv_a w (mw d 340 Q 9 [some w, x1, x2] (w :: st) h) := (mw_at mj_340_8).trans (z_aload_n rfl)
theorem mj_340_9 : mc_P 340 9 = some (.getfield 360, 3, 14, 43, 0) := by decide +kernel
theorem s_340_9 {x0 x1 x2 : Option Value} {o : Nat} : mw d 340 Q 9 [x0, x1, x2] (.ref o :: st) h = (mg h o 14 ∧ mw d 340 Q 12 [x0, x1, x2] (.int (mh_i h o 43) :: st) h) := (mw_at mj_340_9).trans (z_geti (by decide) (by decide) (Or.inl rfl))
theorem mj_340_12 : mc_P 340 12 = some (.if_icmp .lt 21, 3, 0, 0, 0) := by decide +kernel
theorem s_340_12 {x0 x1 x2 : Option Value} {x w : Int32} : mw d 340 Q 12 [x0, x1, x2] (.int w :: .int x :: st) h = mB (x < w) (mw d 340 Q) 33 15 [x0, x1, x2] st h := (mw_at mj_340_12).trans (z_icmp_lt (by decide) rfl)
theorem mj_340_15 : mc_P 340 15 = some (.aload_n 0, 1, 0, 0, 0) := by decide +kernel
theorem s_340_15 {x1 x2 : Option Value} {w : Value} : mw d 340 Q 15 [some w, x1, x2] (st) h = mv_a w (mw d 340 Q 16 [some w, x1, x2] (w :: st) h) := (mw_at mj_340_15).trans (z_aload_n rfl)
theorem mj_340_16 : mc_P 340 16 = some (.getfield 97, 3, 14, 38, 0) := by decide +kernel
theorem s_340_16 {x0 x1 x2 : Option Value} {o : Nat} : mw d 340 Q 16 [x0, x1, x2] (.ref o :: st) h = (mg h o 14 ∧ mw d 340 Q 19 [x0, x1, x2] (va_rf (mh_r h o 38) :: st) h) := (mw_at mj_340_16).trans (z_getr (by decide) (by decide) rfl)
theorem mj_340_19 : mc_P 340 19 = some (.iload_n 2, 1, 0, 0, 0) := by decide +kernel
theorem s_340_19 {x0 x1 : Option Value} {w : Value} : mw d 340 Q 19 [x0, x1, some w] (st) h = mv_i w (mw d 340 Q 20 [x0, x1, some w] (w :: st) h) := (mw_at mj_340_19).trans (z_iload_n rfl)
theorem mj_340_20 : mc_P 340 20 = some (.iaload, 1, 0, 0, 0) := by decide +kernel
theorem s_340_20 {x0 x1 x2 : Option Value} {o : Nat} {i : Int32} : mw d 340 Q 20 [x0, x1, x2] (.int i :: .ref o :: st) h = (mg h o 100 ∧ mx i (mh_l h o) ∧ mw d 340 Q 21 [x0, x1, x2] (.int (mh_i h o i.toNatClampNeg) :: st) h) := (mw_at mj_340_20).trans (z_iald)
theorem mj_340_21 : mc_P 340 21 = some (.iload_n 1, 1, 0, 0, 0) := by decide +kernel
theorem s_340_21 {x0 x2 : Option Value} {w : Value} : mw d 340 Q 21 [x0, some w, x2] (st) h = mv_i w (mw d 340 Q 22 [x0, some w, x2] (w :: st) h) := (mw_at mj_340_21).trans (z_iload_n rfl)
theorem mj_340_22 : mc_P 340 22 = some (.if_icmp .ne 5, 3, 0, 0, 0) := by decide +kernel
theorem s_340_22 {x0 x1 x2 : Option Value} {x w : Int32} : mw d 340 Q 22 [x0, x1, x2] (.int w :: .int x :: st) h = mB (¬ x = w) (mw d 340 Q) 27 25 [x0, x1, x2] st h := (mw_at mj_340_22).trans (z_icmp_ne (by decide) rfl)
theorem mj_340_25 : mc_P 340 25 = some (.iload_n 2, 1, 0, 0, 0) := by decide +kernel
theorem s_340_25 {x0 x1 : Option Value} {w : Value} : mw d 340 Q 25 [x0, x1, some w] (st) h = mv_i w (mw d 340 Q 26 [x0, x1, some w] (w :: st) h) := (mw_at mj_340_25).trans (z_iload_n rfl)
theorem mj_340_26 : mc_P 340 26 = some (.ireturn, 1, 0, 0, 0) := by decide +kernel
theorem s_340_26 {x0 x1 x2 : Option Value} {x : Int32} : mw d 340 Q 26 [x0, x1, x2] ([.int x]) h = (Q (some (.int x)) h) := (mw_at mj_340_26).trans (z_iret)
theorem mj_340_27 : mc_P 340 27 = some (.iinc 2 (-1), 3, 0, 0, 0) := by decide +kernel
theorem s_340_27 {x0 x1 : Option Value} {w : Int32} : mw d 340 Q 27 [x0, x1, some (.int w)] (st) h = mw d 340 Q 30 [x0, mk2 x1, some (.int (w + (-1)))] (st) h := (mw_at mj_340_27).trans (z_iinc rfl (Nat.le_of_ble_eq_true rfl) (by decide) (me_s1_mk (j := 1) (w := x1) rfl))
theorem mj_340_30 : mc_P 340 30 = some (.goto (-23), 3, 0, 0, 0) := by decide +kernel
theorem s_340_30 {x0 x1 x2 : Option Value} : mw d 340 Q 30 [x0, x1, x2] (st) h = mw d 340 Q 7 [x0, x1, x2] (st) h := (mw_at mj_340_30).trans (z_goto (by decide))
theorem mj_340_33 : mc_P 340 33 = some (.iconst (-1), 1, 0, 0, 0) := by decide +kernel
theorem s_340_33 {x0 x1 x2 : Option Value} : mw d 340 Q 33 [x0, x1, x2] (st) h = mw d 340 Q 34 [x0, x1, x2] (.int (-1) :: st) h := (mw_at mj_340_33).trans (z_iconst (by decide))
theorem mj_340_34 : mc_P 340 34 = some (.ireturn, 1, 0, 0, 0) := by decide +kernel
theorem s_340_34 {x0 x1 x2 : Option Value} {x : Int32} : mw d 340 Q 34 [x0, x1, x2] ([.int x]) h = (Q (some (.int x)) h) := (mw_at mj_340_34).trans (z_iret)
theorem e_340 {a0 : Nat} {a1 : Int32} : mcall d 340 [.ref a0, .int a1] h Q = mw d 340 Q 0 [some (.ref a0), some (.int a1), none] [] h := by
  show mw d 340 Q 0 (me_en (mc_nl 340) _) [] h = _
  rw [nl_340]; rfl

/-! InvariantDeskModel.lookName(IZ)Z -/
theorem mj_341_0 : mc_P 341 0 = some (.aload_n 0, 1, 0, 0, 0) := by decide +kernel
theorem s_341_0 {x1 x2 x3 : Option Value} {w : Value} : mw d 341 Q 0 [some w, x1, x2, x3] (st) h = mv_a w (mw d 341 Q 1 [some w, x1, x2, x3] (w :: st) h) := (mw_at mj_341_0).trans (z_aload_n rfl)
theorem mj_341_1 : mc_P 341 1 = some (.aload_n 0, 1, 0, 0, 0) := by decide +kernel
theorem s_341_1 {x1 x2 x3 : Option Value} {w : Value} : mw d 341 Q 1 [some w, x1, x2, x3] (st) h = mv_a w (mw d 341 Q 2 [some w, x1, x2, x3] (w :: st) h) := (mw_at mj_341_1).trans (z_aload_n rfl)
theorem mj_341_2 : mc_P 341 2 = some (.getfield 55, 3, 14, 21, 0) := by decide +kernel
theorem s_341_2 {x0 x1 x2 x3 : Option Value} {o : Nat} : mw d 341 Q 2 [x0, x1, x2, x3] (.ref o :: st) h = (mg h o 14 ∧ mw d 341 Q 5 [x0, x1, x2, x3] (va_rf (mh_r h o 21) :: st) h) := (mw_at mj_341_2).trans (z_getr (by decide) (by decide) rfl)
theorem mj_341_5 : mc_P 341 5 = some (.iload_n 1, 1, 0, 0, 0) := by decide +kernel
theorem s_341_5 {x0 x2 x3 : Option Value} {w : Value} : mw d 341 Q 5 [x0, some w, x2, x3] (st) h = mv_i w (mw d 341 Q 6 [x0, some w, x2, x3] (w :: st) h) := (mw_at mj_341_5).trans (z_iload_n rfl)
theorem mj_341_6 : mc_P 341 6 = some (.iaload, 1, 0, 0, 0) := by decide +kernel
theorem s_341_6 {x0 x1 x2 x3 : Option Value} {o : Nat} {i : Int32} : mw d 341 Q 6 [x0, x1, x2, x3] (.int i :: .ref o :: st) h = (mg h o 100 ∧ mx i (mh_l h o) ∧ mw d 341 Q 7 [x0, x1, x2, x3] (.int (mh_i h o i.toNatClampNeg) :: st) h) := (mw_at mj_341_6).trans (z_iald)
theorem mj_341_7 : mc_P 341 7 = some (.invokevirtual 363, 3, 340, 14, 2) := by decide +kernel
theorem s_341_7 {x0 x1 x2 x3 : Option Value} {o : Nat} {a1 : Value} : mw (d + 1) 341 Q 7 [x0, x1, x2, x3] (a1 :: .ref o :: st) h = (mg h o 14 ∧ mca st 8 ∧ mca [.ref o, a1] 3 ∧ mcall d 340 [.ref o, a1] h (mK (d + 1) 341 Q 10 [x0, x1, x2, x3] st)) := (mw_at mj_341_7).trans ((z_invv (As := [a1]) (by decide) rfl rfl).trans (congrArg (And _) (congrArg (And _) (mC_nl nl_340))))
theorem mj_341_10 : mc_P 341 10 = some (.istore_n 3, 1, 0, 0, 0) := by decide +kernel
theorem s_341_10 {x0 x1 x2 x3 : Option Value} {w : Int32} : mw d 341 Q 10 [x0, x1, x2, x3] (.int w :: st) h = mw d 341 Q 11 [x0, x1, mk2 x2, some (.int w)] (st) h := (mw_at mj_341_10).trans (z_istore_n (Nat.le_of_ble_eq_true rfl) (me_s1_mk (j := 2) (w := x2) rfl))
theorem mj_341_11 : mc_P 341 11 = some (.iload_n 3, 1, 0, 0, 0) := by decide +kernel
theorem s_341_11 {x0 x1 x2 : Option Value} {w : Value} : mw d 341 Q 11 [x0, x1, x2, some w] (st) h = mv_i w (mw d 341 Q 12 [x0, x1, x2, some w] (w :: st) h) := (mw_at mj_341_11).trans (z_iload_n rfl)
theorem mj_341_12 : mc_P 341 12 = some (.iconst (-1), 1, 0, 0, 0) := by decide +kernel
theorem s_341_12 {x0 x1 x2 x3 : Option Value} : mw d 341 Q 12 [x0, x1, x2, x3] (st) h = mw d 341 Q 13 [x0, x1, x2, x3] (.int (-1) :: st) h := (mw_at mj_341_12).trans (z_iconst (by decide))
theorem mj_341_13 : mc_P 341 13 = some (.if_icmp .ne 12, 3, 0, 0, 0) := by decide +kernel
theorem s_341_13 {x0 x1 x2 x3 : Option Value} {x w : Int32} : mw d 341 Q 13 [x0, x1, x2, x3] (.int w :: .int x :: st) h = mB (¬ x = w) (mw d 341 Q) 25 16 [x0, x1, x2, x3] st h := (mw_at mj_341_13).trans (z_icmp_ne (by decide) rfl)
theorem mj_341_16 : mc_P 341 16 = some (.aload_n 0, 1, 0, 0, 0) := by decide +kernel
theorem s_341_16 {x1 x2 x3 : Option Value} {w : Value} : mw d 341 Q 16 [some w, x1, x2, x3] (st) h = mv_a w (mw d 341 Q 17 [some w, x1, x2, x3] (w :: st) h) := (mw_at mj_341_16).trans (z_aload_n rfl)
theorem mj_341_17 : mc_P 341 17 = some (.iconst 1, 1, 0, 0, 0) := by decide +kernel
theorem s_341_17 {x0 x1 x2 x3 : Option Value} : mw d 341 Q 17 [x0, x1, x2, x3] (st) h = mw d 341 Q 18 [x0, x1, x2, x3] (.int 1 :: st) h := (mw_at mj_341_17).trans (z_iconst (by decide))
theorem mj_341_18 : mc_P 341 18 = some (.iload_n 1, 1, 0, 0, 0) := by decide +kernel
theorem s_341_18 {x0 x2 x3 : Option Value} {w : Value} : mw d 341 Q 18 [x0, some w, x2, x3] (st) h = mv_i w (mw d 341 Q 19 [x0, some w, x2, x3] (w :: st) h) := (mw_at mj_341_18).trans (z_iload_n rfl)
theorem mj_341_19 : mc_P 341 19 = some (.invokevirtual 366, 3, 335, 14, 3) := by decide +kernel
theorem s_341_19 {x0 x1 x2 x3 : Option Value} {o : Nat} {a1 a2 : Value} : mw (d + 1) 341 Q 19 [x0, x1, x2, x3] (a2 :: a1 :: .ref o :: st) h = (mg h o 14 ∧ mca st 8 ∧ mca [.ref o, a1, a2] 3 ∧ mcall d 335 [.ref o, a1, a2] h (mK (d + 1) 341 Q 22 [x0, x1, x2, x3] st)) := (mw_at mj_341_19).trans ((z_invv (As := [a1, a2]) (by decide) rfl rfl).trans (congrArg (And _) (congrArg (And _) (mC_nl nl_335))))
theorem mj_341_22 : mc_P 341 22 = some (.goto 35, 3, 0, 0, 0) := by decide +kernel
theorem s_341_22 {x0 x1 x2 x3 : Option Value} : mw d 341 Q 22 [x0, x1, x2, x3] (st) h = mw d 341 Q 57 [x0, x1, x2, x3] (st) h := (mw_at mj_341_22).trans (z_goto (by decide))
theorem mj_341_25 : mc_P 341 25 = some (.aload_n 0, 1, 0, 0, 0) := by decide +kernel
theorem s_341_25 {x1 x2 x3 : Option Value} {w : Value} : mw d 341 Q 25 [some w, x1, x2, x3] (st) h = mv_a w (mw d 341 Q 26 [some w, x1, x2, x3] (w :: st) h) := (mw_at mj_341_25).trans (z_aload_n rfl)
theorem mj_341_26 : mc_P 341 26 = some (.getfield 103, 3, 14, 40, 0) := by decide +kernel
theorem s_341_26 {x0 x1 x2 x3 : Option Value} {o : Nat} : mw d 341 Q 26 [x0, x1, x2, x3] (.ref o :: st) h = (mg h o 14 ∧ mw d 341 Q 29 [x0, x1, x2, x3] (va_rf (mh_r h o 40) :: st) h) := (mw_at mj_341_26).trans (z_getr (by decide) (by decide) rfl)
theorem mj_341_29 : mc_P 341 29 = some (.iload_n 3, 1, 0, 0, 0) := by decide +kernel
theorem s_341_29 {x0 x1 x2 : Option Value} {w : Value} : mw d 341 Q 29 [x0, x1, x2, some w] (st) h = mv_i w (mw d 341 Q 30 [x0, x1, x2, some w] (w :: st) h) := (mw_at mj_341_29).trans (z_iload_n rfl)
theorem mj_341_30 : mc_P 341 30 = some (.iaload, 1, 0, 0, 0) := by decide +kernel
theorem s_341_30 {x0 x1 x2 x3 : Option Value} {o : Nat} {i : Int32} : mw d 341 Q 30 [x0, x1, x2, x3] (.int i :: .ref o :: st) h = (mg h o 100 ∧ mx i (mh_l h o) ∧ mw d 341 Q 31 [x0, x1, x2, x3] (.int (mh_i h o i.toNatClampNeg) :: st) h) := (mw_at mj_341_30).trans (z_iald)
theorem mj_341_31 : mc_P 341 31 = some (.ifCond .le 7, 3, 0, 0, 0) := by decide +kernel
theorem s_341_31 {x0 x1 x2 x3 : Option Value} {x : Int32} : mw d 341 Q 31 [x0, x1, x2, x3] (.int x :: st) h = mB (x ≤ 0) (mw d 341 Q) 38 34 [x0, x1, x2, x3] st h := (mw_at mj_341_31).trans (z_if_le (by decide) rfl)
theorem mj_341_34 : mc_P 341 34 = some (.iconst 1, 1, 0, 0, 0) := by decide +kernel
theorem s_341_34 {x0 x1 x2 x3 : Option Value} : mw d 341 Q 34 [x0, x1, x2, x3] (st) h = mw d 341 Q 35 [x0, x1, x2, x3] (.int 1 :: st) h := (mw_at mj_341_34).trans (z_iconst (by decide))
theorem mj_341_35 : mc_P 341 35 = some (.goto 4, 3, 0, 0, 0) := by decide +kernel
theorem s_341_35 {x0 x1 x2 x3 : Option Value} : mw d 341 Q 35 [x0, x1, x2, x3] (st) h = mw d 341 Q 39 [x0, x1, x2, x3] (st) h := (mw_at mj_341_35).trans (z_goto (by decide))
theorem mj_341_38 : mc_P 341 38 = some (.iconst 0, 1, 0, 0, 0) := by decide +kernel
theorem s_341_38 {x0 x1 x2 x3 : Option Value} : mw d 341 Q 38 [x0, x1, x2, x3] (st) h = mw d 341 Q 39 [x0, x1, x2, x3] (.int 0 :: st) h := (mw_at mj_341_38).trans (z_iconst (by decide))
theorem mj_341_39 : mc_P 341 39 = some (.iload_n 2, 1, 0, 0, 0) := by decide +kernel
theorem s_341_39 {x0 x1 x3 : Option Value} {w : Value} : mw d 341 Q 39 [x0, x1, some w, x3] (st) h = mv_i w (mw d 341 Q 40 [x0, x1, some w, x3] (w :: st) h) := (mw_at mj_341_39).trans (z_iload_n rfl)
theorem mj_341_40 : mc_P 341 40 = some (.if_icmp .eq 12, 3, 0, 0, 0) := by decide +kernel
theorem s_341_40 {x0 x1 x2 x3 : Option Value} {x w : Int32} : mw d 341 Q 40 [x0, x1, x2, x3] (.int w :: .int x :: st) h = mB (x = w) (mw d 341 Q) 52 43 [x0, x1, x2, x3] st h := (mw_at mj_341_40).trans (z_icmp_eq (by decide) rfl)
theorem mj_341_43 : mc_P 341 43 = some (.aload_n 0, 1, 0, 0, 0) := by decide +kernel
theorem s_341_43 {x1 x2 x3 : Option Value} {w : Value} : mw d 341 Q 43 [some w, x1, x2, x3] (st) h = mv_a w (mw d 341 Q 44 [some w, x1, x2, x3] (w :: st) h) := (mw_at mj_341_43).trans (z_aload_n rfl)
theorem mj_341_44 : mc_P 341 44 = some (.iconst 3, 1, 0, 0, 0) := by decide +kernel
theorem s_341_44 {x0 x1 x2 x3 : Option Value} : mw d 341 Q 44 [x0, x1, x2, x3] (st) h = mw d 341 Q 45 [x0, x1, x2, x3] (.int 3 :: st) h := (mw_at mj_341_44).trans (z_iconst (by decide))
theorem mj_341_45 : mc_P 341 45 = some (.iload_n 1, 1, 0, 0, 0) := by decide +kernel
theorem s_341_45 {x0 x2 x3 : Option Value} {w : Value} : mw d 341 Q 45 [x0, some w, x2, x3] (st) h = mv_i w (mw d 341 Q 46 [x0, some w, x2, x3] (w :: st) h) := (mw_at mj_341_45).trans (z_iload_n rfl)
theorem mj_341_46 : mc_P 341 46 = some (.invokevirtual 366, 3, 335, 14, 3) := by decide +kernel
theorem s_341_46 {x0 x1 x2 x3 : Option Value} {o : Nat} {a1 a2 : Value} : mw (d + 1) 341 Q 46 [x0, x1, x2, x3] (a2 :: a1 :: .ref o :: st) h = (mg h o 14 ∧ mca st 8 ∧ mca [.ref o, a1, a2] 3 ∧ mcall d 335 [.ref o, a1, a2] h (mK (d + 1) 341 Q 49 [x0, x1, x2, x3] st)) := (mw_at mj_341_46).trans ((z_invv (As := [a1, a2]) (by decide) rfl rfl).trans (congrArg (And _) (congrArg (And _) (mC_nl nl_335))))
theorem mj_341_49 : mc_P 341 49 = some (.ifCond .eq 7, 3, 0, 0, 0) := by decide +kernel
theorem s_341_49 {x0 x1 x2 x3 : Option Value} {x : Int32} : mw d 341 Q 49 [x0, x1, x2, x3] (.int x :: st) h = mB (x = 0) (mw d 341 Q) 56 52 [x0, x1, x2, x3] st h := (mw_at mj_341_49).trans (z_if_eq (by decide) rfl)
theorem mj_341_52 : mc_P 341 52 = some (.iconst 1, 1, 0, 0, 0) := by decide +kernel
theorem s_341_52 {x0 x1 x2 x3 : Option Value} : mw d 341 Q 52 [x0, x1, x2, x3] (st) h = mw d 341 Q 53 [x0, x1, x2, x3] (.int 1 :: st) h := (mw_at mj_341_52).trans (z_iconst (by decide))
theorem mj_341_53 : mc_P 341 53 = some (.goto 4, 3, 0, 0, 0) := by decide +kernel
theorem s_341_53 {x0 x1 x2 x3 : Option Value} : mw d 341 Q 53 [x0, x1, x2, x3] (st) h = mw d 341 Q 57 [x0, x1, x2, x3] (st) h := (mw_at mj_341_53).trans (z_goto (by decide))
theorem mj_341_56 : mc_P 341 56 = some (.iconst 0, 1, 0, 0, 0) := by decide +kernel
theorem s_341_56 {x0 x1 x2 x3 : Option Value} : mw d 341 Q 56 [x0, x1, x2, x3] (st) h = mw d 341 Q 57 [x0, x1, x2, x3] (.int 0 :: st) h := (mw_at mj_341_56).trans (z_iconst (by decide))
theorem mj_341_57 : mc_P 341 57 = some (.ireturn, 1, 0, 3, 0) := by decide +kernel
theorem s_341_57 {x0 x1 x2 x3 : Option Value} {x : Int32} : mw d 341 Q 57 [x0, x1, x2, x3] ([.int x]) h = ((x = 0 ∨ x = 1) ∧ Q (some (.int x)) h) := (mw_at mj_341_57).trans (z_zret)
theorem e_341 {a0 : Nat} {a1 : Int32} {a2 : Int32} : mcall d 341 [.ref a0, .int a1, .int a2] h Q = mw d 341 Q 0 [some (.ref a0), some (.int a1), some (.int a2), none] [] h := by
  show mw d 341 Q 0 (me_en (mc_nl 341) _) [] h = _
  rw [nl_341]; rfl

/-! InvariantDeskModel.lookAll(I)Z -/
theorem mj_342_0 : mc_P 342 0 = some (.iload_n 1, 1, 0, 0, 0) := by decide +kernel
theorem s_342_0 {x0 x2 x3 : Option Value} {w : Value} : mw d 342 Q 0 [x0, some w, x2, x3] (st) h = mv_i w (mw d 342 Q 1 [x0, some w, x2, x3] (w :: st) h) := (mw_at mj_342_0).trans (z_iload_n rfl)
theorem mj_342_1 : mc_P 342 1 = some (.istore_n 2, 1, 0, 0, 0) := by decide +kernel
theorem s_342_1 {x0 x1 x2 x3 : Option Value} {w : Int32} : mw d 342 Q 1 [x0, x1, x2, x3] (.int w :: st) h = mw d 342 Q 2 [x0, mk2 x1, some (.int w), x3] (st) h := (mw_at mj_342_1).trans (z_istore_n (Nat.le_of_ble_eq_true rfl) (me_s1_mk (j := 1) (w := x1) rfl))
theorem mj_342_2 : mc_P 342 2 = some (.iload_n 2, 1, 0, 0, 0) := by decide +kernel
theorem s_342_2 {x0 x1 x3 : Option Value} {w : Value} : mw d 342 Q 2 [x0, x1, some w, x3] (st) h = mv_i w (mw d 342 Q 3 [x0, x1, some w, x3] (w :: st) h) := (mw_at mj_342_2).trans (z_iload_n rfl)
theorem mj_342_3 : mc_P 342 3 = some (.aload_n 0, 1, 0, 0, 0) := by decide +kernel
theorem s_342_3 {x1 x2 x3 : Option Value} {w : Value} : mw d 342 Q 3 [some w, x1, x2, x3] (st) h = mv_a w (mw d 342 Q 4 [some w, x1, x2, x3] (w :: st) h) := (mw_at mj_342_3).trans (z_aload_n rfl)
theorem mj_342_4 : mc_P 342 4 = some (.iload_n 1, 1, 0, 0, 0) := by decide +kernel
theorem s_342_4 {x0 x2 x3 : Option Value} {w : Value} : mw d 342 Q 4 [x0, some w, x2, x3] (st) h = mv_i w (mw d 342 Q 5 [x0, some w, x2, x3] (w :: st) h) := (mw_at mj_342_4).trans (z_iload_n rfl)
theorem mj_342_5 : mc_P 342 5 = some (.invokevirtual 348, 3, 333, 14, 2) := by decide +kernel
theorem s_342_5 {x0 x1 x2 x3 : Option Value} {o : Nat} {a1 : Value} : mw (d + 1) 342 Q 5 [x0, x1, x2, x3] (a1 :: .ref o :: st) h = (mg h o 14 ∧ mca st 8 ∧ mca [.ref o, a1] 2 ∧ mcall d 333 [.ref o, a1] h (mK (d + 1) 342 Q 8 [x0, x1, x2, x3] st)) := (mw_at mj_342_5).trans ((z_invv (As := [a1]) (by decide) rfl rfl).trans (congrArg (And _) (congrArg (And _) (mC_nl nl_333))))
theorem mj_342_8 : mc_P 342 8 = some (.if_icmp .ge 124, 3, 0, 0, 0) := by decide +kernel
theorem s_342_8 {x0 x1 x2 x3 : Option Value} {x w : Int32} : mw d 342 Q 8 [x0, x1, x2, x3] (.int w :: .int x :: st) h = mB (w ≤ x) (mw d 342 Q) 132 11 [x0, x1, x2, x3] st h := (mw_at mj_342_8).trans (z_icmp_ge (by decide) rfl)
theorem mj_342_11 : mc_P 342 11 = some (.aload_n 0, 1, 0, 0, 0) := by decide +kernel
theorem s_342_11 {x1 x2 x3 : Option Value} {w : Value} : mw d 342 Q 11 [some w, x1, x2, x3] (st) h = mv_a w (mw d 342 Q 12 [some w, x1, x2, x3] (w :: st) h) := (mw_at mj_342_11).trans (z_aload_n rfl)
theorem mj_342_12 : mc_P 342 12 = some (.getfield 58, 3, 14, 22, 0) := by decide +kernel
theorem s_342_12 {x0 x1 x2 x3 : Option Value} {o : Nat} : mw d 342 Q 12 [x0, x1, x2, x3] (.ref o :: st) h = (mg h o 14 ∧ mw d 342 Q 15 [x0, x1, x2, x3] (va_rf (mh_r h o 22) :: st) h) := (mw_at mj_342_12).trans (z_getr (by decide) (by decide) rfl)
theorem mj_342_15 : mc_P 342 15 = some (.iload_n 2, 1, 0, 0, 0) := by decide +kernel
theorem s_342_15 {x0 x1 x3 : Option Value} {w : Value} : mw d 342 Q 15 [x0, x1, some w, x3] (st) h = mv_i w (mw d 342 Q 16 [x0, x1, some w, x3] (w :: st) h) := (mw_at mj_342_15).trans (z_iload_n rfl)
theorem mj_342_16 : mc_P 342 16 = some (.iaload, 1, 0, 0, 0) := by decide +kernel
theorem s_342_16 {x0 x1 x2 x3 : Option Value} {o : Nat} {i : Int32} : mw d 342 Q 16 [x0, x1, x2, x3] (.int i :: .ref o :: st) h = (mg h o 100 ∧ mx i (mh_l h o) ∧ mw d 342 Q 17 [x0, x1, x2, x3] (.int (mh_i h o i.toNatClampNeg) :: st) h) := (mw_at mj_342_16).trans (z_iald)
theorem mj_342_17 : mc_P 342 17 = some (.ifCond .lt 35, 3, 0, 0, 0) := by decide +kernel
theorem s_342_17 {x0 x1 x2 x3 : Option Value} {x : Int32} : mw d 342 Q 17 [x0, x1, x2, x3] (.int x :: st) h = mB (x < 0) (mw d 342 Q) 52 20 [x0, x1, x2, x3] st h := (mw_at mj_342_17).trans (z_if_lt (by decide) rfl)
theorem mj_342_20 : mc_P 342 20 = some (.aload_n 0, 1, 0, 0, 0) := by decide +kernel
theorem s_342_20 {x1 x2 x3 : Option Value} {w : Value} : mw d 342 Q 20 [some w, x1, x2, x3] (st) h = mv_a w (mw d 342 Q 21 [some w, x1, x2, x3] (w :: st) h) := (mw_at mj_342_20).trans (z_aload_n rfl)
theorem mj_342_21 : mc_P 342 21 = some (.getfield 48, 3, 14, 19, 0) := by decide +kernel
theorem s_342_21 {x0 x1 x2 x3 : Option Value} {o : Nat} : mw d 342 Q 21 [x0, x1, x2, x3] (.ref o :: st) h = (mg h o 14 ∧ mw d 342 Q 24 [x0, x1, x2, x3] (va_rf (mh_r h o 19) :: st) h) := (mw_at mj_342_21).trans (z_getr (by decide) (by decide) rfl)
theorem mj_342_24 : mc_P 342 24 = some (.aload_n 0, 1, 0, 0, 0) := by decide +kernel
theorem s_342_24 {x1 x2 x3 : Option Value} {w : Value} : mw d 342 Q 24 [some w, x1, x2, x3] (st) h = mv_a w (mw d 342 Q 25 [some w, x1, x2, x3] (w :: st) h) := (mw_at mj_342_24).trans (z_aload_n rfl)
theorem mj_342_25 : mc_P 342 25 = some (.getfield 58, 3, 14, 22, 0) := by decide +kernel
theorem s_342_25 {x0 x1 x2 x3 : Option Value} {o : Nat} : mw d 342 Q 25 [x0, x1, x2, x3] (.ref o :: st) h = (mg h o 14 ∧ mw d 342 Q 28 [x0, x1, x2, x3] (va_rf (mh_r h o 22) :: st) h) := (mw_at mj_342_25).trans (z_getr (by decide) (by decide) rfl)
theorem mj_342_28 : mc_P 342 28 = some (.iload_n 2, 1, 0, 0, 0) := by decide +kernel
theorem s_342_28 {x0 x1 x3 : Option Value} {w : Value} : mw d 342 Q 28 [x0, x1, some w, x3] (st) h = mv_i w (mw d 342 Q 29 [x0, x1, some w, x3] (w :: st) h) := (mw_at mj_342_28).trans (z_iload_n rfl)
theorem mj_342_29 : mc_P 342 29 = some (.iaload, 1, 0, 0, 0) := by decide +kernel
theorem s_342_29 {x0 x1 x2 x3 : Option Value} {o : Nat} {i : Int32} : mw d 342 Q 29 [x0, x1, x2, x3] (.int i :: .ref o :: st) h = (mg h o 100 ∧ mx i (mh_l h o) ∧ mw d 342 Q 30 [x0, x1, x2, x3] (.int (mh_i h o i.toNatClampNeg) :: st) h) := (mw_at mj_342_29).trans (z_iald)
theorem mj_342_30 : mc_P 342 30 = some (.baload, 1, 0, 0, 0) := by decide +kernel
theorem s_342_30 {x0 x1 x2 x3 : Option Value} {o : Nat} {i : Int32} : mw d 342 Q 30 [x0, x1, x2, x3] (.int i :: .ref o :: st) h = (mgb h o ∧ mx i (mh_l h o) ∧ mw d 342 Q 31 [x0, x1, x2, x3] (.int (mh_i h o i.toNatClampNeg) :: st) h) := (mw_at mj_342_30).trans (z_bald)
theorem mj_342_31 : mc_P 342 31 = some (.bipush 14, 2, 0, 0, 0) := by decide +kernel
theorem s_342_31 {x0 x1 x2 x3 : Option Value} : mw d 342 Q 31 [x0, x1, x2, x3] (st) h = mw d 342 Q 33 [x0, x1, x2, x3] (.int 14 :: st) h := (mw_at mj_342_31).trans (z_bipush (by decide))
theorem mj_342_33 : mc_P 342 33 = some (.if_icmp .ne 19, 3, 0, 0, 0) := by decide +kernel
theorem s_342_33 {x0 x1 x2 x3 : Option Value} {x w : Int32} : mw d 342 Q 33 [x0, x1, x2, x3] (.int w :: .int x :: st) h = mB (¬ x = w) (mw d 342 Q) 52 36 [x0, x1, x2, x3] st h := (mw_at mj_342_33).trans (z_icmp_ne (by decide) rfl)
theorem mj_342_36 : mc_P 342 36 = some (.aload_n 0, 1, 0, 0, 0) := by decide +kernel
theorem s_342_36 {x1 x2 x3 : Option Value} {w : Value} : mw d 342 Q 36 [some w, x1, x2, x3] (st) h = mv_a w (mw d 342 Q 37 [some w, x1, x2, x3] (w :: st) h) := (mw_at mj_342_36).trans (z_aload_n rfl)
theorem mj_342_37 : mc_P 342 37 = some (.getfield 58, 3, 14, 22, 0) := by decide +kernel
theorem s_342_37 {x0 x1 x2 x3 : Option Value} {o : Nat} : mw d 342 Q 37 [x0, x1, x2, x3] (.ref o :: st) h = (mg h o 14 ∧ mw d 342 Q 40 [x0, x1, x2, x3] (va_rf (mh_r h o 22) :: st) h) := (mw_at mj_342_37).trans (z_getr (by decide) (by decide) rfl)
theorem mj_342_40 : mc_P 342 40 = some (.iload_n 2, 1, 0, 0, 0) := by decide +kernel
theorem s_342_40 {x0 x1 x3 : Option Value} {w : Value} : mw d 342 Q 40 [x0, x1, some w, x3] (st) h = mv_i w (mw d 342 Q 41 [x0, x1, some w, x3] (w :: st) h) := (mw_at mj_342_40).trans (z_iload_n rfl)
theorem mj_342_41 : mc_P 342 41 = some (.iaload, 1, 0, 0, 0) := by decide +kernel
theorem s_342_41 {x0 x1 x2 x3 : Option Value} {o : Nat} {i : Int32} : mw d 342 Q 41 [x0, x1, x2, x3] (.int i :: .ref o :: st) h = (mg h o 100 ∧ mx i (mh_l h o) ∧ mw d 342 Q 42 [x0, x1, x2, x3] (.int (mh_i h o i.toNatClampNeg) :: st) h) := (mw_at mj_342_41).trans (z_iald)
theorem mj_342_42 : mc_P 342 42 = some (.iload_n 2, 1, 0, 0, 0) := by decide +kernel
theorem s_342_42 {x0 x1 x3 : Option Value} {w : Value} : mw d 342 Q 42 [x0, x1, some w, x3] (st) h = mv_i w (mw d 342 Q 43 [x0, x1, some w, x3] (w :: st) h) := (mw_at mj_342_42).trans (z_iload_n rfl)
theorem mj_342_43 : mc_P 342 43 = some (.iconst 1, 1, 0, 0, 0) := by decide +kernel
theorem s_342_43 {x0 x1 x2 x3 : Option Value} : mw d 342 Q 43 [x0, x1, x2, x3] (st) h = mw d 342 Q 44 [x0, x1, x2, x3] (.int 1 :: st) h := (mw_at mj_342_43).trans (z_iconst (by decide))
theorem mj_342_44 : mc_P 342 44 = some (.isub, 1, 0, 0, 0) := by decide +kernel
theorem s_342_44 {x0 x1 x2 x3 : Option Value} {x w : Int32} : mw d 342 Q 44 [x0, x1, x2, x3] (.int w :: .int x :: st) h = mw d 342 Q 45 [x0, x1, x2, x3] (.int (x - w) :: st) h := (mw_at mj_342_44).trans (z_isub)
theorem mj_342_45 : mc_P 342 45 = some (.if_icmp .ne 7, 3, 0, 0, 0) := by decide +kernel
theorem s_342_45 {x0 x1 x2 x3 : Option Value} {x w : Int32} : mw d 342 Q 45 [x0, x1, x2, x3] (.int w :: .int x :: st) h = mB (¬ x = w) (mw d 342 Q) 52 48 [x0, x1, x2, x3] st h := (mw_at mj_342_45).trans (z_icmp_ne (by decide) rfl)
theorem mj_342_48 : mc_P 342 48 = some (.iconst 1, 1, 0, 0, 0) := by decide +kernel
theorem s_342_48 {x0 x1 x2 x3 : Option Value} : mw d 342 Q 48 [x0, x1, x2, x3] (st) h = mw d 342 Q 49 [x0, x1, x2, x3] (.int 1 :: st) h := (mw_at mj_342_48).trans (z_iconst (by decide))
theorem mj_342_49 : mc_P 342 49 = some (.goto 4, 3, 0, 0, 0) := by decide +kernel
theorem s_342_49 {x0 x1 x2 x3 : Option Value} : mw d 342 Q 49 [x0, x1, x2, x3] (st) h = mw d 342 Q 53 [x0, x1, x2, x3] (st) h := (mw_at mj_342_49).trans (z_goto (by decide))
theorem mj_342_52 : mc_P 342 52 = some (.iconst 0, 1, 0, 0, 0) := by decide +kernel
theorem s_342_52 {x0 x1 x2 x3 : Option Value} : mw d 342 Q 52 [x0, x1, x2, x3] (st) h = mw d 342 Q 53 [x0, x1, x2, x3] (.int 0 :: st) h := (mw_at mj_342_52).trans (z_iconst (by decide))
theorem mj_342_53 : mc_P 342 53 = some (.istore_n 3, 1, 0, 0, 0) := by decide +kernel
theorem s_342_53 {x0 x1 x2 x3 : Option Value} {w : Int32} : mw d 342 Q 53 [x0, x1, x2, x3] (.int w :: st) h = mw d 342 Q 54 [x0, x1, mk2 x2, some (.int w)] (st) h := (mw_at mj_342_53).trans (z_istore_n (Nat.le_of_ble_eq_true rfl) (me_s1_mk (j := 2) (w := x2) rfl))
theorem mj_342_54 : mc_P 342 54 = some (.aload_n 0, 1, 0, 0, 0) := by decide +kernel
theorem s_342_54 {x1 x2 x3 : Option Value} {w : Value} : mw d 342 Q 54 [some w, x1, x2, x3] (st) h = mv_a w (mw d 342 Q 55 [some w, x1, x2, x3] (w :: st) h) := (mw_at mj_342_54).trans (z_aload_n rfl)
theorem mj_342_55 : mc_P 342 55 = some (.getfield 48, 3, 14, 19, 0) := by decide +kernel
theorem s_342_55 {x0 x1 x2 x3 : Option Value} {o : Nat} : mw d 342 Q 55 [x0, x1, x2, x3] (.ref o :: st) h = (mg h o 14 ∧ mw d 342 Q 58 [x0, x1, x2, x3] (va_rf (mh_r h o 19) :: st) h) := (mw_at mj_342_55).trans (z_getr (by decide) (by decide) rfl)
theorem mj_342_58 : mc_P 342 58 = some (.iload_n 2, 1, 0, 0, 0) := by decide +kernel
theorem s_342_58 {x0 x1 x3 : Option Value} {w : Value} : mw d 342 Q 58 [x0, x1, some w, x3] (st) h = mv_i w (mw d 342 Q 59 [x0, x1, some w, x3] (w :: st) h) := (mw_at mj_342_58).trans (z_iload_n rfl)
theorem mj_342_59 : mc_P 342 59 = some (.baload, 1, 0, 0, 0) := by decide +kernel
theorem s_342_59 {x0 x1 x2 x3 : Option Value} {o : Nat} {i : Int32} : mw d 342 Q 59 [x0, x1, x2, x3] (.int i :: .ref o :: st) h = (mgb h o ∧ mx i (mh_l h o) ∧ mw d 342 Q 60 [x0, x1, x2, x3] (.int (mh_i h o i.toNatClampNeg) :: st) h) := (mw_at mj_342_59).trans (z_bald)
theorem mj_342_60 : mc_P 342 60 = some (.bipush 13, 2, 0, 0, 0) := by decide +kernel
theorem s_342_60 {x0 x1 x2 x3 : Option Value} : mw d 342 Q 60 [x0, x1, x2, x3] (st) h = mw d 342 Q 62 [x0, x1, x2, x3] (.int 13 :: st) h := (mw_at mj_342_60).trans (z_bipush (by decide))
theorem mj_342_62 : mc_P 342 62 = some (.if_icmp .ne 14, 3, 0, 0, 0) := by decide +kernel
theorem s_342_62 {x0 x1 x2 x3 : Option Value} {x w : Int32} : mw d 342 Q 62 [x0, x1, x2, x3] (.int w :: .int x :: st) h = mB (¬ x = w) (mw d 342 Q) 76 65 [x0, x1, x2, x3] st h := (mw_at mj_342_62).trans (z_icmp_ne (by decide) rfl)
theorem mj_342_65 : mc_P 342 65 = some (.aload_n 0, 1, 0, 0, 0) := by decide +kernel
theorem s_342_65 {x1 x2 x3 : Option Value} {w : Value} : mw d 342 Q 65 [some w, x1, x2, x3] (st) h = mv_a w (mw d 342 Q 66 [some w, x1, x2, x3] (w :: st) h) := (mw_at mj_342_65).trans (z_aload_n rfl)
theorem mj_342_66 : mc_P 342 66 = some (.iload_n 2, 1, 0, 0, 0) := by decide +kernel
theorem s_342_66 {x0 x1 x3 : Option Value} {w : Value} : mw d 342 Q 66 [x0, x1, some w, x3] (st) h = mv_i w (mw d 342 Q 67 [x0, x1, some w, x3] (w :: st) h) := (mw_at mj_342_66).trans (z_iload_n rfl)
theorem mj_342_67 : mc_P 342 67 = some (.iload_n 3, 1, 0, 0, 0) := by decide +kernel
theorem s_342_67 {x0 x1 x2 : Option Value} {w : Value} : mw d 342 Q 67 [x0, x1, x2, some w] (st) h = mv_i w (mw d 342 Q 68 [x0, x1, x2, some w] (w :: st) h) := (mw_at mj_342_67).trans (z_iload_n rfl)
theorem mj_342_68 : mc_P 342 68 = some (.invokevirtual 369, 3, 341, 14, 3) := by decide +kernel
theorem s_342_68 {x0 x1 x2 x3 : Option Value} {o : Nat} {a1 a2 : Value} : mw (d + 1) 342 Q 68 [x0, x1, x2, x3] (a2 :: a1 :: .ref o :: st) h = (mg h o 14 ∧ mca st 8 ∧ mca [.ref o, a1, a2] 4 ∧ mcall d 341 [.ref o, a1, a2] h (mK (d + 1) 342 Q 71 [x0, x1, x2, x3] st)) := (mw_at mj_342_68).trans ((z_invv (As := [a1, a2]) (by decide) rfl rfl).trans (congrArg (And _) (congrArg (And _) (mC_nl nl_341))))
theorem mj_342_71 : mc_P 342 71 = some (.ifCond .ne 5, 3, 0, 0, 0) := by decide +kernel
theorem s_342_71 {x0 x1 x2 x3 : Option Value} {x : Int32} : mw d 342 Q 71 [x0, x1, x2, x3] (.int x :: st) h = mB (¬ x = 0) (mw d 342 Q) 76 74 [x0, x1, x2, x3] st h := (mw_at mj_342_71).trans (z_if_ne (by decide) rfl)
theorem mj_342_74 : mc_P 342 74 = some (.iconst 0, 1, 0, 0, 0) := by decide +kernel
theorem s_342_74 {x0 x1 x2 x3 : Option Value} : mw d 342 Q 74 [x0, x1, x2, x3] (st) h = mw d 342 Q 75 [x0, x1, x2, x3] (.int 0 :: st) h := (mw_at mj_342_74).trans (z_iconst (by decide))
theorem mj_342_75 : mc_P 342 75 = some (.ireturn, 1, 0, 3, 0) := by decide +kernel
theorem s_342_75 {x0 x1 x2 x3 : Option Value} {x : Int32} : mw d 342 Q 75 [x0, x1, x2, x3] ([.int x]) h = ((x = 0 ∨ x = 1) ∧ Q (some (.int x)) h) := (mw_at mj_342_75).trans (z_zret)
theorem mj_342_76 : mc_P 342 76 = some (.aload_n 0, 1, 0, 0, 0) := by decide +kernel
theorem s_342_76 {x1 x2 x3 : Option Value} {w : Value} : mw d 342 Q 76 [some w, x1, x2, x3] (st) h = mv_a w (mw d 342 Q 77 [some w, x1, x2, x3] (w :: st) h) := (mw_at mj_342_76).trans (z_aload_n rfl)
theorem mj_342_77 : mc_P 342 77 = some (.getfield 48, 3, 14, 19, 0) := by decide +kernel
theorem s_342_77 {x0 x1 x2 x3 : Option Value} {o : Nat} : mw d 342 Q 77 [x0, x1, x2, x3] (.ref o :: st) h = (mg h o 14 ∧ mw d 342 Q 80 [x0, x1, x2, x3] (va_rf (mh_r h o 19) :: st) h) := (mw_at mj_342_77).trans (z_getr (by decide) (by decide) rfl)
theorem mj_342_80 : mc_P 342 80 = some (.iload_n 2, 1, 0, 0, 0) := by decide +kernel
theorem s_342_80 {x0 x1 x3 : Option Value} {w : Value} : mw d 342 Q 80 [x0, x1, some w, x3] (st) h = mv_i w (mw d 342 Q 81 [x0, x1, some w, x3] (w :: st) h) := (mw_at mj_342_80).trans (z_iload_n rfl)
theorem mj_342_81 : mc_P 342 81 = some (.baload, 1, 0, 0, 0) := by decide +kernel
theorem s_342_81 {x0 x1 x2 x3 : Option Value} {o : Nat} {i : Int32} : mw d 342 Q 81 [x0, x1, x2, x3] (.int i :: .ref o :: st) h = (mgb h o ∧ mx i (mh_l h o) ∧ mw d 342 Q 82 [x0, x1, x2, x3] (.int (mh_i h o i.toNatClampNeg) :: st) h) := (mw_at mj_342_81).trans (z_bald)
theorem mj_342_82 : mc_P 342 82 = some (.bipush 16, 2, 0, 0, 0) := by decide +kernel
theorem s_342_82 {x0 x1 x2 x3 : Option Value} : mw d 342 Q 82 [x0, x1, x2, x3] (st) h = mw d 342 Q 84 [x0, x1, x2, x3] (.int 16 :: st) h := (mw_at mj_342_82).trans (z_bipush (by decide))
theorem mj_342_84 : mc_P 342 84 = some (.if_icmp .ne 42, 3, 0, 0, 0) := by decide +kernel
theorem s_342_84 {x0 x1 x2 x3 : Option Value} {x w : Int32} : mw d 342 Q 84 [x0, x1, x2, x3] (.int w :: .int x :: st) h = mB (¬ x = w) (mw d 342 Q) 126 87 [x0, x1, x2, x3] st h := (mw_at mj_342_84).trans (z_icmp_ne (by decide) rfl)
theorem mj_342_87 : mc_P 342 87 = some (.aload_n 0, 1, 0, 0, 0) := by decide +kernel
theorem s_342_87 {x1 x2 x3 : Option Value} {w : Value} : mw d 342 Q 87 [some w, x1, x2, x3] (st) h = mv_a w (mw d 342 Q 88 [some w, x1, x2, x3] (w :: st) h) := (mw_at mj_342_87).trans (z_aload_n rfl)
theorem mj_342_88 : mc_P 342 88 = some (.getfield 61, 3, 14, 23, 0) := by decide +kernel
theorem s_342_88 {x0 x1 x2 x3 : Option Value} {o : Nat} : mw d 342 Q 88 [x0, x1, x2, x3] (.ref o :: st) h = (mg h o 14 ∧ mw d 342 Q 91 [x0, x1, x2, x3] (va_rf (mh_r h o 23) :: st) h) := (mw_at mj_342_88).trans (z_getr (by decide) (by decide) rfl)
theorem mj_342_91 : mc_P 342 91 = some (.iload_n 2, 1, 0, 0, 0) := by decide +kernel
theorem s_342_91 {x0 x1 x3 : Option Value} {w : Value} : mw d 342 Q 91 [x0, x1, some w, x3] (st) h = mv_i w (mw d 342 Q 92 [x0, x1, some w, x3] (w :: st) h) := (mw_at mj_342_91).trans (z_iload_n rfl)
theorem mj_342_92 : mc_P 342 92 = some (.iaload, 1, 0, 0, 0) := by decide +kernel
theorem s_342_92 {x0 x1 x2 x3 : Option Value} {o : Nat} {i : Int32} : mw d 342 Q 92 [x0, x1, x2, x3] (.int i :: .ref o :: st) h = (mg h o 100 ∧ mx i (mh_l h o) ∧ mw d 342 Q 93 [x0, x1, x2, x3] (.int (mh_i h o i.toNatClampNeg) :: st) h) := (mw_at mj_342_92).trans (z_iald)
theorem mj_342_93 : mc_P 342 93 = some (.iconst 1, 1, 0, 0, 0) := by decide +kernel
theorem s_342_93 {x0 x1 x2 x3 : Option Value} : mw d 342 Q 93 [x0, x1, x2, x3] (st) h = mw d 342 Q 94 [x0, x1, x2, x3] (.int 1 :: st) h := (mw_at mj_342_93).trans (z_iconst (by decide))
theorem mj_342_94 : mc_P 342 94 = some (.if_icmp .le 32, 3, 0, 0, 0) := by decide +kernel
theorem s_342_94 {x0 x1 x2 x3 : Option Value} {x w : Int32} : mw d 342 Q 94 [x0, x1, x2, x3] (.int w :: .int x :: st) h = mB (x ≤ w) (mw d 342 Q) 126 97 [x0, x1, x2, x3] st h := (mw_at mj_342_94).trans (z_icmp_le (by decide) rfl)
theorem mj_342_97 : mc_P 342 97 = some (.aload_n 0, 1, 0, 0, 0) := by decide +kernel
theorem s_342_97 {x1 x2 x3 : Option Value} {w : Value} : mw d 342 Q 97 [some w, x1, x2, x3] (st) h = mv_a w (mw d 342 Q 98 [some w, x1, x2, x3] (w :: st) h) := (mw_at mj_342_97).trans (z_aload_n rfl)
theorem mj_342_98 : mc_P 342 98 = some (.getfield 55, 3, 14, 21, 0) := by decide +kernel
theorem s_342_98 {x0 x1 x2 x3 : Option Value} {o : Nat} : mw d 342 Q 98 [x0, x1, x2, x3] (.ref o :: st) h = (mg h o 14 ∧ mw d 342 Q 101 [x0, x1, x2, x3] (va_rf (mh_r h o 21) :: st) h) := (mw_at mj_342_98).trans (z_getr (by decide) (by decide) rfl)
theorem mj_342_101 : mc_P 342 101 = some (.iload_n 2, 1, 0, 0, 0) := by decide +kernel
theorem s_342_101 {x0 x1 x3 : Option Value} {w : Value} : mw d 342 Q 101 [x0, x1, some w, x3] (st) h = mv_i w (mw d 342 Q 102 [x0, x1, some w, x3] (w :: st) h) := (mw_at mj_342_101).trans (z_iload_n rfl)
theorem mj_342_102 : mc_P 342 102 = some (.iconst 1, 1, 0, 0, 0) := by decide +kernel
theorem s_342_102 {x0 x1 x2 x3 : Option Value} : mw d 342 Q 102 [x0, x1, x2, x3] (st) h = mw d 342 Q 103 [x0, x1, x2, x3] (.int 1 :: st) h := (mw_at mj_342_102).trans (z_iconst (by decide))
theorem mj_342_103 : mc_P 342 103 = some (.iadd, 1, 0, 0, 0) := by decide +kernel
theorem s_342_103 {x0 x1 x2 x3 : Option Value} {x w : Int32} : mw d 342 Q 103 [x0, x1, x2, x3] (.int w :: .int x :: st) h = mw d 342 Q 104 [x0, x1, x2, x3] (.int (x + w) :: st) h := (mw_at mj_342_103).trans (z_iadd)
theorem mj_342_104 : mc_P 342 104 = some (.iaload, 1, 0, 0, 0) := by decide +kernel
theorem s_342_104 {x0 x1 x2 x3 : Option Value} {o : Nat} {i : Int32} : mw d 342 Q 104 [x0, x1, x2, x3] (.int i :: .ref o :: st) h = (mg h o 100 ∧ mx i (mh_l h o) ∧ mw d 342 Q 105 [x0, x1, x2, x3] (.int (mh_i h o i.toNatClampNeg) :: st) h) := (mw_at mj_342_104).trans (z_iald)
theorem mj_342_105 : mc_P 342 105 = some (.aload_n 0, 1, 0, 0, 0) := by decide +kernel
theorem s_342_105 {x1 x2 x3 : Option Value} {w : Value} : mw d 342 Q 105 [some w, x1, x2, x3] (st) h = mv_a w (mw d 342 Q 106 [some w, x1, x2, x3] (w :: st) h) := (mw_at mj_342_105).trans (z_aload_n rfl)
theorem mj_342_106 : mc_P 342 106 = some (.getfield 55, 3, 14, 21, 0) := by decide +kernel
theorem s_342_106 {x0 x1 x2 x3 : Option Value} {o : Nat} : mw d 342 Q 106 [x0, x1, x2, x3] (.ref o :: st) h = (mg h o 14 ∧ mw d 342 Q 109 [x0, x1, x2, x3] (va_rf (mh_r h o 21) :: st) h) := (mw_at mj_342_106).trans (z_getr (by decide) (by decide) rfl)
theorem mj_342_109 : mc_P 342 109 = some (.iload_n 2, 1, 0, 0, 0) := by decide +kernel
theorem s_342_109 {x0 x1 x3 : Option Value} {w : Value} : mw d 342 Q 109 [x0, x1, some w, x3] (st) h = mv_i w (mw d 342 Q 110 [x0, x1, some w, x3] (w :: st) h) := (mw_at mj_342_109).trans (z_iload_n rfl)
theorem mj_342_110 : mc_P 342 110 = some (.iconst 2, 1, 0, 0, 0) := by decide +kernel
theorem s_342_110 {x0 x1 x2 x3 : Option Value} : mw d 342 Q 110 [x0, x1, x2, x3] (st) h = mw d 342 Q 111 [x0, x1, x2, x3] (.int 2 :: st) h := (mw_at mj_342_110).trans (z_iconst (by decide))
theorem mj_342_111 : mc_P 342 111 = some (.iadd, 1, 0, 0, 0) := by decide +kernel
theorem s_342_111 {x0 x1 x2 x3 : Option Value} {x w : Int32} : mw d 342 Q 111 [x0, x1, x2, x3] (.int w :: .int x :: st) h = mw d 342 Q 112 [x0, x1, x2, x3] (.int (x + w) :: st) h := (mw_at mj_342_111).trans (z_iadd)
theorem mj_342_112 : mc_P 342 112 = some (.iaload, 1, 0, 0, 0) := by decide +kernel
theorem s_342_112 {x0 x1 x2 x3 : Option Value} {o : Nat} {i : Int32} : mw d 342 Q 112 [x0, x1, x2, x3] (.int i :: .ref o :: st) h = (mg h o 100 ∧ mx i (mh_l h o) ∧ mw d 342 Q 113 [x0, x1, x2, x3] (.int (mh_i h o i.toNatClampNeg) :: st) h) := (mw_at mj_342_112).trans (z_iald)
theorem mj_342_113 : mc_P 342 113 = some (.if_icmp .le 13, 3, 0, 0, 0) := by decide +kernel
theorem s_342_113 {x0 x1 x2 x3 : Option Value} {x w : Int32} : mw d 342 Q 113 [x0, x1, x2, x3] (.int w :: .int x :: st) h = mB (x ≤ w) (mw d 342 Q) 126 116 [x0, x1, x2, x3] st h := (mw_at mj_342_113).trans (z_icmp_le (by decide) rfl)
theorem mj_342_116 : mc_P 342 116 = some (.aload_n 0, 1, 0, 0, 0) := by decide +kernel
theorem s_342_116 {x1 x2 x3 : Option Value} {w : Value} : mw d 342 Q 116 [some w, x1, x2, x3] (st) h = mv_a w (mw d 342 Q 117 [some w, x1, x2, x3] (w :: st) h) := (mw_at mj_342_116).trans (z_aload_n rfl)
theorem mj_342_117 : mc_P 342 117 = some (.bipush 8, 2, 0, 0, 0) := by decide +kernel
theorem s_342_117 {x0 x1 x2 x3 : Option Value} : mw d 342 Q 117 [x0, x1, x2, x3] (st) h = mw d 342 Q 119 [x0, x1, x2, x3] (.int 8 :: st) h := (mw_at mj_342_117).trans (z_bipush (by decide))
theorem mj_342_119 : mc_P 342 119 = some (.iload_n 2, 1, 0, 0, 0) := by decide +kernel
theorem s_342_119 {x0 x1 x3 : Option Value} {w : Value} : mw d 342 Q 119 [x0, x1, some w, x3] (st) h = mv_i w (mw d 342 Q 120 [x0, x1, some w, x3] (w :: st) h) := (mw_at mj_342_119).trans (z_iload_n rfl)
theorem mj_342_120 : mc_P 342 120 = some (.iconst 1, 1, 0, 0, 0) := by decide +kernel
theorem s_342_120 {x0 x1 x2 x3 : Option Value} : mw d 342 Q 120 [x0, x1, x2, x3] (st) h = mw d 342 Q 121 [x0, x1, x2, x3] (.int 1 :: st) h := (mw_at mj_342_120).trans (z_iconst (by decide))
theorem mj_342_121 : mc_P 342 121 = some (.iadd, 1, 0, 0, 0) := by decide +kernel
theorem s_342_121 {x0 x1 x2 x3 : Option Value} {x w : Int32} : mw d 342 Q 121 [x0, x1, x2, x3] (.int w :: .int x :: st) h = mw d 342 Q 122 [x0, x1, x2, x3] (.int (x + w) :: st) h := (mw_at mj_342_121).trans (z_iadd)
theorem mj_342_122 : mc_P 342 122 = some (.invokevirtual 366, 3, 335, 14, 3) := by decide +kernel
theorem s_342_122 {x0 x1 x2 x3 : Option Value} {o : Nat} {a1 a2 : Value} : mw (d + 1) 342 Q 122 [x0, x1, x2, x3] (a2 :: a1 :: .ref o :: st) h = (mg h o 14 ∧ mca st 8 ∧ mca [.ref o, a1, a2] 3 ∧ mcall d 335 [.ref o, a1, a2] h (mK (d + 1) 342 Q 125 [x0, x1, x2, x3] st)) := (mw_at mj_342_122).trans ((z_invv (As := [a1, a2]) (by decide) rfl rfl).trans (congrArg (And _) (congrArg (And _) (mC_nl nl_335))))
theorem mj_342_125 : mc_P 342 125 = some (.ireturn, 1, 0, 3, 0) := by decide +kernel
theorem s_342_125 {x0 x1 x2 x3 : Option Value} {x : Int32} : mw d 342 Q 125 [x0, x1, x2, x3] ([.int x]) h = ((x = 0 ∨ x = 1) ∧ Q (some (.int x)) h) := (mw_at mj_342_125).trans (z_zret)
theorem mj_342_126 : mc_P 342 126 = some (.iinc 2 1, 3, 0, 0, 0) := by decide +kernel
theorem s_342_126 {x0 x1 x3 : Option Value} {w : Int32} : mw d 342 Q 126 [x0, x1, some (.int w), x3] (st) h = mw d 342 Q 129 [x0, mk2 x1, some (.int (w + 1)), x3] (st) h := (mw_at mj_342_126).trans (z_iinc rfl (Nat.le_of_ble_eq_true rfl) (by decide) (me_s1_mk (j := 1) (w := x1) rfl))
theorem mj_342_129 : mc_P 342 129 = some (.goto (-127), 3, 0, 0, 0) := by decide +kernel
theorem s_342_129 {x0 x1 x2 x3 : Option Value} : mw d 342 Q 129 [x0, x1, x2, x3] (st) h = mw d 342 Q 2 [x0, x1, x2, x3] (st) h := (mw_at mj_342_129).trans (z_goto (by decide))
theorem mj_342_132 : mc_P 342 132 = some (.iconst 1, 1, 0, 0, 0) := by decide +kernel
theorem s_342_132 {x0 x1 x2 x3 : Option Value} : mw d 342 Q 132 [x0, x1, x2, x3] (st) h = mw d 342 Q 133 [x0, x1, x2, x3] (.int 1 :: st) h := (mw_at mj_342_132).trans (z_iconst (by decide))
theorem mj_342_133 : mc_P 342 133 = some (.ireturn, 1, 0, 3, 0) := by decide +kernel
theorem s_342_133 {x0 x1 x2 x3 : Option Value} {x : Int32} : mw d 342 Q 133 [x0, x1, x2, x3] ([.int x]) h = ((x = 0 ∨ x = 1) ∧ Q (some (.int x)) h) := (mw_at mj_342_133).trans (z_zret)
theorem e_342 {a0 : Nat} {a1 : Int32} : mcall d 342 [.ref a0, .int a1] h Q = mw d 342 Q 0 [some (.ref a0), some (.int a1), none, none] [] h := by
  show mw d 342 Q 0 (me_en (mc_nl 342) _) [] h = _
  rw [nl_342]; rfl

/-! InvariantDeskModel.isNew(II)Z -/
theorem mj_343_0 : mc_P 343 0 = some (.aload_n 0, 1, 0, 0, 0) := by decide +kernel
theorem s_343_0 {x1 x2 x3 : Option Value} {w : Value} : mw d 343 Q 0 [some w, x1, x2, x3] (st) h = mv_a w (mw d 343 Q 1 [some w, x1, x2, x3] (w :: st) h) := (mw_at mj_343_0).trans (z_aload_n rfl)
theorem mj_343_1 : mc_P 343 1 = some (.getfield 360, 3, 14, 43, 0) := by decide +kernel
theorem s_343_1 {x0 x1 x2 x3 : Option Value} {o : Nat} : mw d 343 Q 1 [x0, x1, x2, x3] (.ref o :: st) h = (mg h o 14 ∧ mw d 343 Q 4 [x0, x1, x2, x3] (.int (mh_i h o 43) :: st) h) := (mw_at mj_343_1).trans (z_geti (by decide) (by decide) (Or.inl rfl))
theorem mj_343_4 : mc_P 343 4 = some (.istore_n 3, 1, 0, 0, 0) := by decide +kernel
theorem s_343_4 {x0 x1 x2 x3 : Option Value} {w : Int32} : mw d 343 Q 4 [x0, x1, x2, x3] (.int w :: st) h = mw d 343 Q 5 [x0, x1, mk2 x2, some (.int w)] (st) h := (mw_at mj_343_4).trans (z_istore_n (Nat.le_of_ble_eq_true rfl) (me_s1_mk (j := 2) (w := x2) rfl))
theorem mj_343_5 : mc_P 343 5 = some (.iload_n 3, 1, 0, 0, 0) := by decide +kernel
theorem s_343_5 {x0 x1 x2 : Option Value} {w : Value} : mw d 343 Q 5 [x0, x1, x2, some w] (st) h = mv_i w (mw d 343 Q 6 [x0, x1, x2, some w] (w :: st) h) := (mw_at mj_343_5).trans (z_iload_n rfl)
theorem mj_343_6 : mc_P 343 6 = some (.aload_n 0, 1, 0, 0, 0) := by decide +kernel
theorem s_343_6 {x1 x2 x3 : Option Value} {w : Value} : mw d 343 Q 6 [some w, x1, x2, x3] (st) h = mv_a w (mw d 343 Q 7 [some w, x1, x2, x3] (w :: st) h) := (mw_at mj_343_6).trans (z_aload_n rfl)
theorem mj_343_7 : mc_P 343 7 = some (.getfield 357, 3, 14, 42, 0) := by decide +kernel
theorem s_343_7 {x0 x1 x2 x3 : Option Value} {o : Nat} : mw d 343 Q 7 [x0, x1, x2, x3] (.ref o :: st) h = (mg h o 14 ∧ mw d 343 Q 10 [x0, x1, x2, x3] (.int (mh_i h o 42) :: st) h) := (mw_at mj_343_7).trans (z_geti (by decide) (by decide) (Or.inl rfl))
theorem mj_343_10 : mc_P 343 10 = some (.if_icmp .ge 41, 3, 0, 0, 0) := by decide +kernel
theorem s_343_10 {x0 x1 x2 x3 : Option Value} {x w : Int32} : mw d 343 Q 10 [x0, x1, x2, x3] (.int w :: .int x :: st) h = mB (w ≤ x) (mw d 343 Q) 51 13 [x0, x1, x2, x3] st h := (mw_at mj_343_10).trans (z_icmp_ge (by decide) rfl)
theorem mj_343_13 : mc_P 343 13 = some (.aload_n 0, 1, 0, 0, 0) := by decide +kernel
theorem s_343_13 {x1 x2 x3 : Option Value} {w : Value} : mw d 343 Q 13 [some w, x1, x2, x3] (st) h = mv_a w (mw d 343 Q 14 [some w, x1, x2, x3] (w :: st) h) := (mw_at mj_343_13).trans (z_aload_n rfl)
theorem mj_343_14 : mc_P 343 14 = some (.getfield 106, 3, 14, 41, 0) := by decide +kernel
theorem s_343_14 {x0 x1 x2 x3 : Option Value} {o : Nat} : mw d 343 Q 14 [x0, x1, x2, x3] (.ref o :: st) h = (mg h o 14 ∧ mw d 343 Q 17 [x0, x1, x2, x3] (va_rf (mh_r h o 41) :: st) h) := (mw_at mj_343_14).trans (z_getr (by decide) (by decide) rfl)
theorem mj_343_17 : mc_P 343 17 = some (.iload_n 3, 1, 0, 0, 0) := by decide +kernel
theorem s_343_17 {x0 x1 x2 : Option Value} {w : Value} : mw d 343 Q 17 [x0, x1, x2, some w] (st) h = mv_i w (mw d 343 Q 18 [x0, x1, x2, some w] (w :: st) h) := (mw_at mj_343_17).trans (z_iload_n rfl)
theorem mj_343_18 : mc_P 343 18 = some (.iaload, 1, 0, 0, 0) := by decide +kernel
theorem s_343_18 {x0 x1 x2 x3 : Option Value} {o : Nat} {i : Int32} : mw d 343 Q 18 [x0, x1, x2, x3] (.int i :: .ref o :: st) h = (mg h o 100 ∧ mx i (mh_l h o) ∧ mw d 343 Q 19 [x0, x1, x2, x3] (.int (mh_i h o i.toNatClampNeg) :: st) h) := (mw_at mj_343_18).trans (z_iald)
theorem mj_343_19 : mc_P 343 19 = some (.iload_n 2, 1, 0, 0, 0) := by decide +kernel
theorem s_343_19 {x0 x1 x3 : Option Value} {w : Value} : mw d 343 Q 19 [x0, x1, some w, x3] (st) h = mv_i w (mw d 343 Q 20 [x0, x1, some w, x3] (w :: st) h) := (mw_at mj_343_19).trans (z_iload_n rfl)
theorem mj_343_20 : mc_P 343 20 = some (.if_icmp .ne 25, 3, 0, 0, 0) := by decide +kernel
theorem s_343_20 {x0 x1 x2 x3 : Option Value} {x w : Int32} : mw d 343 Q 20 [x0, x1, x2, x3] (.int w :: .int x :: st) h = mB (¬ x = w) (mw d 343 Q) 45 23 [x0, x1, x2, x3] st h := (mw_at mj_343_20).trans (z_icmp_ne (by decide) rfl)
theorem mj_343_23 : mc_P 343 23 = some (.aload_n 0, 1, 0, 0, 0) := by decide +kernel
theorem s_343_23 {x1 x2 x3 : Option Value} {w : Value} : mw d 343 Q 23 [some w, x1, x2, x3] (st) h = mv_a w (mw d 343 Q 24 [some w, x1, x2, x3] (w :: st) h) := (mw_at mj_343_23).trans (z_aload_n rfl)
theorem mj_343_24 : mc_P 343 24 = some (.getfield 97, 3, 14, 38, 0) := by decide +kernel
theorem s_343_24 {x0 x1 x2 x3 : Option Value} {o : Nat} : mw d 343 Q 24 [x0, x1, x2, x3] (.ref o :: st) h = (mg h o 14 ∧ mw d 343 Q 27 [x0, x1, x2, x3] (va_rf (mh_r h o 38) :: st) h) := (mw_at mj_343_24).trans (z_getr (by decide) (by decide) rfl)
theorem mj_343_27 : mc_P 343 27 = some (.iload_n 3, 1, 0, 0, 0) := by decide +kernel
theorem s_343_27 {x0 x1 x2 : Option Value} {w : Value} : mw d 343 Q 27 [x0, x1, x2, some w] (st) h = mv_i w (mw d 343 Q 28 [x0, x1, x2, some w] (w :: st) h) := (mw_at mj_343_27).trans (z_iload_n rfl)
theorem mj_343_28 : mc_P 343 28 = some (.iaload, 1, 0, 0, 0) := by decide +kernel
theorem s_343_28 {x0 x1 x2 x3 : Option Value} {o : Nat} {i : Int32} : mw d 343 Q 28 [x0, x1, x2, x3] (.int i :: .ref o :: st) h = (mg h o 100 ∧ mx i (mh_l h o) ∧ mw d 343 Q 29 [x0, x1, x2, x3] (.int (mh_i h o i.toNatClampNeg) :: st) h) := (mw_at mj_343_28).trans (z_iald)
theorem mj_343_29 : mc_P 343 29 = some (.aload_n 0, 1, 0, 0, 0) := by decide +kernel
theorem s_343_29 {x1 x2 x3 : Option Value} {w : Value} : mw d 343 Q 29 [some w, x1, x2, x3] (st) h = mv_a w (mw d 343 Q 30 [some w, x1, x2, x3] (w :: st) h) := (mw_at mj_343_29).trans (z_aload_n rfl)
theorem mj_343_30 : mc_P 343 30 = some (.getfield 55, 3, 14, 21, 0) := by decide +kernel
theorem s_343_30 {x0 x1 x2 x3 : Option Value} {o : Nat} : mw d 343 Q 30 [x0, x1, x2, x3] (.ref o :: st) h = (mg h o 14 ∧ mw d 343 Q 33 [x0, x1, x2, x3] (va_rf (mh_r h o 21) :: st) h) := (mw_at mj_343_30).trans (z_getr (by decide) (by decide) rfl)
theorem mj_343_33 : mc_P 343 33 = some (.iload_n 1, 1, 0, 0, 0) := by decide +kernel
theorem s_343_33 {x0 x2 x3 : Option Value} {w : Value} : mw d 343 Q 33 [x0, some w, x2, x3] (st) h = mv_i w (mw d 343 Q 34 [x0, some w, x2, x3] (w :: st) h) := (mw_at mj_343_33).trans (z_iload_n rfl)
theorem mj_343_34 : mc_P 343 34 = some (.iaload, 1, 0, 0, 0) := by decide +kernel
theorem s_343_34 {x0 x1 x2 x3 : Option Value} {o : Nat} {i : Int32} : mw d 343 Q 34 [x0, x1, x2, x3] (.int i :: .ref o :: st) h = (mg h o 100 ∧ mx i (mh_l h o) ∧ mw d 343 Q 35 [x0, x1, x2, x3] (.int (mh_i h o i.toNatClampNeg) :: st) h) := (mw_at mj_343_34).trans (z_iald)
theorem mj_343_35 : mc_P 343 35 = some (.if_icmp .ne 10, 3, 0, 0, 0) := by decide +kernel
theorem s_343_35 {x0 x1 x2 x3 : Option Value} {x w : Int32} : mw d 343 Q 35 [x0, x1, x2, x3] (.int w :: .int x :: st) h = mB (¬ x = w) (mw d 343 Q) 45 38 [x0, x1, x2, x3] st h := (mw_at mj_343_35).trans (z_icmp_ne (by decide) rfl)
theorem mj_343_38 : mc_P 343 38 = some (.aload_n 0, 1, 0, 0, 0) := by decide +kernel
theorem s_343_38 {x1 x2 x3 : Option Value} {w : Value} : mw d 343 Q 38 [some w, x1, x2, x3] (st) h = mv_a w (mw d 343 Q 39 [some w, x1, x2, x3] (w :: st) h) := (mw_at mj_343_38).trans (z_aload_n rfl)
theorem mj_343_39 : mc_P 343 39 = some (.iconst 2, 1, 0, 0, 0) := by decide +kernel
theorem s_343_39 {x0 x1 x2 x3 : Option Value} : mw d 343 Q 39 [x0, x1, x2, x3] (st) h = mw d 343 Q 40 [x0, x1, x2, x3] (.int 2 :: st) h := (mw_at mj_343_39).trans (z_iconst (by decide))
theorem mj_343_40 : mc_P 343 40 = some (.iload_n 1, 1, 0, 0, 0) := by decide +kernel
theorem s_343_40 {x0 x2 x3 : Option Value} {w : Value} : mw d 343 Q 40 [x0, some w, x2, x3] (st) h = mv_i w (mw d 343 Q 41 [x0, some w, x2, x3] (w :: st) h) := (mw_at mj_343_40).trans (z_iload_n rfl)
theorem mj_343_41 : mc_P 343 41 = some (.invokevirtual 366, 3, 335, 14, 3) := by decide +kernel
theorem s_343_41 {x0 x1 x2 x3 : Option Value} {o : Nat} {a1 a2 : Value} : mw (d + 1) 343 Q 41 [x0, x1, x2, x3] (a2 :: a1 :: .ref o :: st) h = (mg h o 14 ∧ mca st 8 ∧ mca [.ref o, a1, a2] 3 ∧ mcall d 335 [.ref o, a1, a2] h (mK (d + 1) 343 Q 44 [x0, x1, x2, x3] st)) := (mw_at mj_343_41).trans ((z_invv (As := [a1, a2]) (by decide) rfl rfl).trans (congrArg (And _) (congrArg (And _) (mC_nl nl_335))))
theorem mj_343_44 : mc_P 343 44 = some (.ireturn, 1, 0, 3, 0) := by decide +kernel
theorem s_343_44 {x0 x1 x2 x3 : Option Value} {x : Int32} : mw d 343 Q 44 [x0, x1, x2, x3] ([.int x]) h = ((x = 0 ∨ x = 1) ∧ Q (some (.int x)) h) := (mw_at mj_343_44).trans (z_zret)
theorem mj_343_45 : mc_P 343 45 = some (.iinc 3 1, 3, 0, 0, 0) := by decide +kernel
theorem s_343_45 {x0 x1 x2 : Option Value} {w : Int32} : mw d 343 Q 45 [x0, x1, x2, some (.int w)] (st) h = mw d 343 Q 48 [x0, x1, mk2 x2, some (.int (w + 1))] (st) h := (mw_at mj_343_45).trans (z_iinc rfl (Nat.le_of_ble_eq_true rfl) (by decide) (me_s1_mk (j := 2) (w := x2) rfl))
theorem mj_343_48 : mc_P 343 48 = some (.goto (-43), 3, 0, 0, 0) := by decide +kernel
theorem s_343_48 {x0 x1 x2 x3 : Option Value} : mw d 343 Q 48 [x0, x1, x2, x3] (st) h = mw d 343 Q 5 [x0, x1, x2, x3] (st) h := (mw_at mj_343_48).trans (z_goto (by decide))
theorem mj_343_51 : mc_P 343 51 = some (.iconst 1, 1, 0, 0, 0) := by decide +kernel
theorem s_343_51 {x0 x1 x2 x3 : Option Value} : mw d 343 Q 51 [x0, x1, x2, x3] (st) h = mw d 343 Q 52 [x0, x1, x2, x3] (.int 1 :: st) h := (mw_at mj_343_51).trans (z_iconst (by decide))
theorem mj_343_52 : mc_P 343 52 = some (.ireturn, 1, 0, 3, 0) := by decide +kernel
theorem s_343_52 {x0 x1 x2 x3 : Option Value} {x : Int32} : mw d 343 Q 52 [x0, x1, x2, x3] ([.int x]) h = ((x = 0 ∨ x = 1) ∧ Q (some (.int x)) h) := (mw_at mj_343_52).trans (z_zret)
theorem e_343 {a0 : Nat} {a1 : Int32} {a2 : Int32} : mcall d 343 [.ref a0, .int a1, .int a2] h Q = mw d 343 Q 0 [some (.ref a0), some (.int a1), some (.int a2), none] [] h := by
  show mw d 343 Q 0 (me_en (mc_nl 343) _) [] h = _
  rw [nl_343]; rfl

/-! InvariantDeskModel.give(IIII)V -/
theorem mj_344_0 : mc_P 344 0 = some (.aload_n 0, 1, 0, 0, 0) := by decide +kernel
theorem s_344_0 {x1 x2 x3 x4 : Option Value} {w : Value} : mw d 344 Q 0 [some w, x1, x2, x3, x4] (st) h = mv_a w (mw d 344 Q 1 [some w, x1, x2, x3, x4] (w :: st) h) := (mw_at mj_344_0).trans (z_aload_n rfl)
theorem mj_344_1 : mc_P 344 1 = some (.getfield 97, 3, 14, 38, 0) := by decide +kernel
theorem s_344_1 {x0 x1 x2 x3 x4 : Option Value} {o : Nat} : mw d 344 Q 1 [x0, x1, x2, x3, x4] (.ref o :: st) h = (mg h o 14 ∧ mw d 344 Q 4 [x0, x1, x2, x3, x4] (va_rf (mh_r h o 38) :: st) h) := (mw_at mj_344_1).trans (z_getr (by decide) (by decide) rfl)
theorem mj_344_4 : mc_P 344 4 = some (.aload_n 0, 1, 0, 0, 0) := by decide +kernel
theorem s_344_4 {x1 x2 x3 x4 : Option Value} {w : Value} : mw d 344 Q 4 [some w, x1, x2, x3, x4] (st) h = mv_a w (mw d 344 Q 5 [some w, x1, x2, x3, x4] (w :: st) h) := (mw_at mj_344_4).trans (z_aload_n rfl)
theorem mj_344_5 : mc_P 344 5 = some (.getfield 357, 3, 14, 42, 0) := by decide +kernel
theorem s_344_5 {x0 x1 x2 x3 x4 : Option Value} {o : Nat} : mw d 344 Q 5 [x0, x1, x2, x3, x4] (.ref o :: st) h = (mg h o 14 ∧ mw d 344 Q 8 [x0, x1, x2, x3, x4] (.int (mh_i h o 42) :: st) h) := (mw_at mj_344_5).trans (z_geti (by decide) (by decide) (Or.inl rfl))
theorem mj_344_8 : mc_P 344 8 = some (.iload_n 1, 1, 0, 0, 0) := by decide +kernel
theorem s_344_8 {x0 x2 x3 x4 : Option Value} {w : Value} : mw d 344 Q 8 [x0, some w, x2, x3, x4] (st) h = mv_i w (mw d 344 Q 9 [x0, some w, x2, x3, x4] (w :: st) h) := (mw_at mj_344_8).trans (z_iload_n rfl)
theorem mj_344_9 : mc_P 344 9 = some (.iastore, 1, 0, 0, 0) := by decide +kernel
theorem s_344_9 {x0 x1 x2 x3 x4 : Option Value} {o : Nat} {i w : Int32} : mw d 344 Q 9 [x0, x1, x2, x3, x4] (.int w :: .int i :: .ref o :: st) h = (mg h o 100 ∧ mx i (mh_l h o) ∧ mw d 344 Q 10 [x0, x1, x2, x3, x4] (st) (mh_si h o i.toNatClampNeg w)) := (mw_at mj_344_9).trans (z_iast)
theorem mj_344_10 : mc_P 344 10 = some (.aload_n 0, 1, 0, 0, 0) := by decide +kernel
theorem s_344_10 {x1 x2 x3 x4 : Option Value} {w : Value} : mw d 344 Q 10 [some w, x1, x2, x3, x4] (st) h = mv_a w (mw d 344 Q 11 [some w, x1, x2, x3, x4] (w :: st) h) := (mw_at mj_344_10).trans (z_aload_n rfl)
theorem mj_344_11 : mc_P 344 11 = some (.getfield 100, 3, 14, 39, 0) := by decide +kernel
theorem s_344_11 {x0 x1 x2 x3 x4 : Option Value} {o : Nat} : mw d 344 Q 11 [x0, x1, x2, x3, x4] (.ref o :: st) h = (mg h o 14 ∧ mw d 344 Q 14 [x0, x1, x2, x3, x4] (va_rf (mh_r h o 39) :: st) h) := (mw_at mj_344_11).trans (z_getr (by decide) (by decide) rfl)
theorem mj_344_14 : mc_P 344 14 = some (.aload_n 0, 1, 0, 0, 0) := by decide +kernel
theorem s_344_14 {x1 x2 x3 x4 : Option Value} {w : Value} : mw d 344 Q 14 [some w, x1, x2, x3, x4] (st) h = mv_a w (mw d 344 Q 15 [some w, x1, x2, x3, x4] (w :: st) h) := (mw_at mj_344_14).trans (z_aload_n rfl)
theorem mj_344_15 : mc_P 344 15 = some (.getfield 357, 3, 14, 42, 0) := by decide +kernel
theorem s_344_15 {x0 x1 x2 x3 x4 : Option Value} {o : Nat} : mw d 344 Q 15 [x0, x1, x2, x3, x4] (.ref o :: st) h = (mg h o 14 ∧ mw d 344 Q 18 [x0, x1, x2, x3, x4] (.int (mh_i h o 42) :: st) h) := (mw_at mj_344_15).trans (z_geti (by decide) (by decide) (Or.inl rfl))
theorem mj_344_18 : mc_P 344 18 = some (.iload_n 2, 1, 0, 0, 0) := by decide +kernel
theorem s_344_18 {x0 x1 x3 x4 : Option Value} {w : Value} : mw d 344 Q 18 [x0, x1, some w, x3, x4] (st) h = mv_i w (mw d 344 Q 19 [x0, x1, some w, x3, x4] (w :: st) h) := (mw_at mj_344_18).trans (z_iload_n rfl)
theorem mj_344_19 : mc_P 344 19 = some (.iastore, 1, 0, 0, 0) := by decide +kernel
theorem s_344_19 {x0 x1 x2 x3 x4 : Option Value} {o : Nat} {i w : Int32} : mw d 344 Q 19 [x0, x1, x2, x3, x4] (.int w :: .int i :: .ref o :: st) h = (mg h o 100 ∧ mx i (mh_l h o) ∧ mw d 344 Q 20 [x0, x1, x2, x3, x4] (st) (mh_si h o i.toNatClampNeg w)) := (mw_at mj_344_19).trans (z_iast)
theorem mj_344_20 : mc_P 344 20 = some (.aload_n 0, 1, 0, 0, 0) := by decide +kernel
theorem s_344_20 {x1 x2 x3 x4 : Option Value} {w : Value} : mw d 344 Q 20 [some w, x1, x2, x3, x4] (st) h = mv_a w (mw d 344 Q 21 [some w, x1, x2, x3, x4] (w :: st) h) := (mw_at mj_344_20).trans (z_aload_n rfl)
theorem mj_344_21 : mc_P 344 21 = some (.getfield 103, 3, 14, 40, 0) := by decide +kernel
theorem s_344_21 {x0 x1 x2 x3 x4 : Option Value} {o : Nat} : mw d 344 Q 21 [x0, x1, x2, x3, x4] (.ref o :: st) h = (mg h o 14 ∧ mw d 344 Q 24 [x0, x1, x2, x3, x4] (va_rf (mh_r h o 40) :: st) h) := (mw_at mj_344_21).trans (z_getr (by decide) (by decide) rfl)
theorem mj_344_24 : mc_P 344 24 = some (.aload_n 0, 1, 0, 0, 0) := by decide +kernel
theorem s_344_24 {x1 x2 x3 x4 : Option Value} {w : Value} : mw d 344 Q 24 [some w, x1, x2, x3, x4] (st) h = mv_a w (mw d 344 Q 25 [some w, x1, x2, x3, x4] (w :: st) h) := (mw_at mj_344_24).trans (z_aload_n rfl)
theorem mj_344_25 : mc_P 344 25 = some (.getfield 357, 3, 14, 42, 0) := by decide +kernel
theorem s_344_25 {x0 x1 x2 x3 x4 : Option Value} {o : Nat} : mw d 344 Q 25 [x0, x1, x2, x3, x4] (.ref o :: st) h = (mg h o 14 ∧ mw d 344 Q 28 [x0, x1, x2, x3, x4] (.int (mh_i h o 42) :: st) h) := (mw_at mj_344_25).trans (z_geti (by decide) (by decide) (Or.inl rfl))
theorem mj_344_28 : mc_P 344 28 = some (.iload_n 3, 1, 0, 0, 0) := by decide +kernel
theorem s_344_28 {x0 x1 x2 x4 : Option Value} {w : Value} : mw d 344 Q 28 [x0, x1, x2, some w, x4] (st) h = mv_i w (mw d 344 Q 29 [x0, x1, x2, some w, x4] (w :: st) h) := (mw_at mj_344_28).trans (z_iload_n rfl)
theorem mj_344_29 : mc_P 344 29 = some (.iastore, 1, 0, 0, 0) := by decide +kernel
theorem s_344_29 {x0 x1 x2 x3 x4 : Option Value} {o : Nat} {i w : Int32} : mw d 344 Q 29 [x0, x1, x2, x3, x4] (.int w :: .int i :: .ref o :: st) h = (mg h o 100 ∧ mx i (mh_l h o) ∧ mw d 344 Q 30 [x0, x1, x2, x3, x4] (st) (mh_si h o i.toNatClampNeg w)) := (mw_at mj_344_29).trans (z_iast)
theorem mj_344_30 : mc_P 344 30 = some (.aload_n 0, 1, 0, 0, 0) := by decide +kernel
theorem s_344_30 {x1 x2 x3 x4 : Option Value} {w : Value} : mw d 344 Q 30 [some w, x1, x2, x3, x4] (st) h = mv_a w (mw d 344 Q 31 [some w, x1, x2, x3, x4] (w :: st) h) := (mw_at mj_344_30).trans (z_aload_n rfl)
theorem mj_344_31 : mc_P 344 31 = some (.getfield 106, 3, 14, 41, 0) := by decide +kernel
theorem s_344_31 {x0 x1 x2 x3 x4 : Option Value} {o : Nat} : mw d 344 Q 31 [x0, x1, x2, x3, x4] (.ref o :: st) h = (mg h o 14 ∧ mw d 344 Q 34 [x0, x1, x2, x3, x4] (va_rf (mh_r h o 41) :: st) h) := (mw_at mj_344_31).trans (z_getr (by decide) (by decide) rfl)
theorem mj_344_34 : mc_P 344 34 = some (.aload_n 0, 1, 0, 0, 0) := by decide +kernel
theorem s_344_34 {x1 x2 x3 x4 : Option Value} {w : Value} : mw d 344 Q 34 [some w, x1, x2, x3, x4] (st) h = mv_a w (mw d 344 Q 35 [some w, x1, x2, x3, x4] (w :: st) h) := (mw_at mj_344_34).trans (z_aload_n rfl)
theorem mj_344_35 : mc_P 344 35 = some (.getfield 357, 3, 14, 42, 0) := by decide +kernel
theorem s_344_35 {x0 x1 x2 x3 x4 : Option Value} {o : Nat} : mw d 344 Q 35 [x0, x1, x2, x3, x4] (.ref o :: st) h = (mg h o 14 ∧ mw d 344 Q 38 [x0, x1, x2, x3, x4] (.int (mh_i h o 42) :: st) h) := (mw_at mj_344_35).trans (z_geti (by decide) (by decide) (Or.inl rfl))
theorem mj_344_38 : mc_P 344 38 = some (.iload 4, 2, 0, 0, 0) := by decide +kernel
theorem s_344_38 {x0 x1 x2 x3 : Option Value} {w : Value} : mw d 344 Q 38 [x0, x1, x2, x3, some w] (st) h = mv_i w (mw d 344 Q 40 [x0, x1, x2, x3, some w] (w :: st) h) := (mw_at mj_344_38).trans (z_iload rfl)
theorem mj_344_40 : mc_P 344 40 = some (.iastore, 1, 0, 0, 0) := by decide +kernel
theorem s_344_40 {x0 x1 x2 x3 x4 : Option Value} {o : Nat} {i w : Int32} : mw d 344 Q 40 [x0, x1, x2, x3, x4] (.int w :: .int i :: .ref o :: st) h = (mg h o 100 ∧ mx i (mh_l h o) ∧ mw d 344 Q 41 [x0, x1, x2, x3, x4] (st) (mh_si h o i.toNatClampNeg w)) := (mw_at mj_344_40).trans (z_iast)
theorem mj_344_41 : mc_P 344 41 = some (.aload_n 0, 1, 0, 0, 0) := by decide +kernel
theorem s_344_41 {x1 x2 x3 x4 : Option Value} {w : Value} : mw d 344 Q 41 [some w, x1, x2, x3, x4] (st) h = mv_a w (mw d 344 Q 42 [some w, x1, x2, x3, x4] (w :: st) h) := (mw_at mj_344_41).trans (z_aload_n rfl)
theorem mj_344_42 : mc_P 344 42 = some (.dup, 1, 0, 0, 0) := by decide +kernel
theorem s_344_42 {x0 x1 x2 x3 x4 : Option Value} {w : Value} : mw d 344 Q 42 [x0, x1, x2, x3, x4] (w :: st) h = (w.category = 1 ∧ mw d 344 Q 43 [x0, x1, x2, x3, x4] (w :: w :: st) h) := (mw_at mj_344_42).trans (z_dup)
theorem mj_344_43 : mc_P 344 43 = some (.getfield 357, 3, 14, 42, 0) := by decide +kernel
theorem s_344_43 {x0 x1 x2 x3 x4 : Option Value} {o : Nat} : mw d 344 Q 43 [x0, x1, x2, x3, x4] (.ref o :: st) h = (mg h o 14 ∧ mw d 344 Q 46 [x0, x1, x2, x3, x4] (.int (mh_i h o 42) :: st) h) := (mw_at mj_344_43).trans (z_geti (by decide) (by decide) (Or.inl rfl))
theorem mj_344_46 : mc_P 344 46 = some (.iconst 1, 1, 0, 0, 0) := by decide +kernel
theorem s_344_46 {x0 x1 x2 x3 x4 : Option Value} : mw d 344 Q 46 [x0, x1, x2, x3, x4] (st) h = mw d 344 Q 47 [x0, x1, x2, x3, x4] (.int 1 :: st) h := (mw_at mj_344_46).trans (z_iconst (by decide))
theorem mj_344_47 : mc_P 344 47 = some (.iadd, 1, 0, 0, 0) := by decide +kernel
theorem s_344_47 {x0 x1 x2 x3 x4 : Option Value} {x w : Int32} : mw d 344 Q 47 [x0, x1, x2, x3, x4] (.int w :: .int x :: st) h = mw d 344 Q 48 [x0, x1, x2, x3, x4] (.int (x + w) :: st) h := (mw_at mj_344_47).trans (z_iadd)
theorem mj_344_48 : mc_P 344 48 = some (.putfield 357, 3, 14, 42, 0) := by decide +kernel
theorem s_344_48 {x0 x1 x2 x3 x4 : Option Value} {o : Nat} {w : Int32} : mw d 344 Q 48 [x0, x1, x2, x3, x4] (.int w :: .ref o :: st) h = (mg h o 14 ∧ mw d 344 Q 51 [x0, x1, x2, x3, x4] (st) (mh_si h o 42 w)) := (mw_at mj_344_48).trans (z_puti (by decide) (by decide) rfl)
theorem mj_344_51 : mc_P 344 51 = some (.return_, 1, 0, 0, 0) := by decide +kernel
theorem s_344_51 {x0 x1 x2 x3 x4 : Option Value} : mw d 344 Q 51 [x0, x1, x2, x3, x4] ([]) h = Q none h := (mw_at mj_344_51).trans (z_vret)
theorem e_344 {a0 : Nat} {a1 : Int32} {a2 : Int32} {a3 : Int32} {a4 : Int32} : mcall d 344 [.ref a0, .int a1, .int a2, .int a3, .int a4] h Q = mw d 344 Q 0 [some (.ref a0), some (.int a1), some (.int a2), some (.int a3), some (.int a4)] [] h := by
  show mw d 344 Q 0 (me_en (mc_nl 344) _) [] h = _
  rw [nl_344]; rfl

/-! InvariantDeskModel.layout()V -/
theorem mj_345_0 : mc_P 345 0 = some (.iconst (-1), 1, 0, 0, 0) := by decide +kernel
theorem s_345_0 {x0 x1 x2 : Option Value} : mw d 345 Q 0 [x0, x1, x2] (st) h = mw d 345 Q 1 [x0, x1, x2] (.int (-1) :: st) h := (mw_at mj_345_0).trans (z_iconst (by decide))
theorem mj_345_1 : mc_P 345 1 = some (.istore_n 1, 1, 0, 0, 0) := by decide +kernel
theorem s_345_1 {x0 x1 x2 : Option Value} {w : Int32} : mw d 345 Q 1 [x0, x1, x2] (.int w :: st) h = mw d 345 Q 2 [mk2 x0, some (.int w), x2] (st) h := (mw_at mj_345_1).trans (z_istore_n (Nat.le_of_ble_eq_true rfl) (me_s1_mk (j := 0) (w := x0) rfl))
theorem mj_345_2 : mc_P 345 2 = some (.iconst 1, 1, 0, 0, 0) := by decide +kernel
theorem s_345_2 {x0 x1 x2 : Option Value} : mw d 345 Q 2 [x0, x1, x2] (st) h = mw d 345 Q 3 [x0, x1, x2] (.int 1 :: st) h := (mw_at mj_345_2).trans (z_iconst (by decide))
theorem mj_345_3 : mc_P 345 3 = some (.istore_n 2, 1, 0, 0, 0) := by decide +kernel
theorem s_345_3 {x0 x1 x2 : Option Value} {w : Int32} : mw d 345 Q 3 [x0, x1, x2] (.int w :: st) h = mw d 345 Q 4 [x0, mk2 x1, some (.int w)] (st) h := (mw_at mj_345_3).trans (z_istore_n (Nat.le_of_ble_eq_true rfl) (me_s1_mk (j := 1) (w := x1) rfl))
theorem mj_345_4 : mc_P 345 4 = some (.iload_n 2, 1, 0, 0, 0) := by decide +kernel
theorem s_345_4 {x0 x1 : Option Value} {w : Value} : mw d 345 Q 4 [x0, x1, some w] (st) h = mv_i w (mw d 345 Q 5 [x0, x1, some w] (w :: st) h) := (mw_at mj_345_4).trans (z_iload_n rfl)
theorem mj_345_5 : mc_P 345 5 = some (.aload_n 0, 1, 0, 0, 0) := by decide +kernel
theorem s_345_5 {x1 x2 : Option Value} {w : Value} : mw d 345 Q 5 [some w, x1, x2] (st) h = mv_a w (mw d 345 Q 6 [some w, x1, x2] (w :: st) h) := (mw_at mj_345_5).trans (z_aload_n rfl)
theorem mj_345_6 : mc_P 345 6 = some (.getfield 191, 3, 14, 24, 0) := by decide +kernel
theorem s_345_6 {x0 x1 x2 : Option Value} {o : Nat} : mw d 345 Q 6 [x0, x1, x2] (.ref o :: st) h = (mg h o 14 ∧ mw d 345 Q 9 [x0, x1, x2] (.int (mh_i h o 24) :: st) h) := (mw_at mj_345_6).trans (z_geti (by decide) (by decide) (Or.inl rfl))
theorem mj_345_9 : mc_P 345 9 = some (.if_icmp .ge 14, 3, 0, 0, 0) := by decide +kernel
theorem s_345_9 {x0 x1 x2 : Option Value} {x w : Int32} : mw d 345 Q 9 [x0, x1, x2] (.int w :: .int x :: st) h = mB (w ≤ x) (mw d 345 Q) 23 12 [x0, x1, x2] st h := (mw_at mj_345_9).trans (z_icmp_ge (by decide) rfl)
theorem mj_345_12 : mc_P 345 12 = some (.iload_n 2, 1, 0, 0, 0) := by decide +kernel
theorem s_345_12 {x0 x1 : Option Value} {w : Value} : mw d 345 Q 12 [x0, x1, some w] (st) h = mv_i w (mw d 345 Q 13 [x0, x1, some w] (w :: st) h) := (mw_at mj_345_12).trans (z_iload_n rfl)
theorem mj_345_13 : mc_P 345 13 = some (.istore_n 1, 1, 0, 0, 0) := by decide +kernel
theorem s_345_13 {x0 x1 x2 : Option Value} {w : Int32} : mw d 345 Q 13 [x0, x1, x2] (.int w :: st) h = mw d 345 Q 14 [mk2 x0, some (.int w), x2] (st) h := (mw_at mj_345_13).trans (z_istore_n (Nat.le_of_ble_eq_true rfl) (me_s1_mk (j := 0) (w := x0) rfl))
theorem mj_345_14 : mc_P 345 14 = some (.aload_n 0, 1, 0, 0, 0) := by decide +kernel
theorem s_345_14 {x1 x2 : Option Value} {w : Value} : mw d 345 Q 14 [some w, x1, x2] (st) h = mv_a w (mw d 345 Q 15 [some w, x1, x2] (w :: st) h) := (mw_at mj_345_14).trans (z_aload_n rfl)
theorem mj_345_15 : mc_P 345 15 = some (.iload_n 2, 1, 0, 0, 0) := by decide +kernel
theorem s_345_15 {x0 x1 : Option Value} {w : Value} : mw d 345 Q 15 [x0, x1, some w] (st) h = mv_i w (mw d 345 Q 16 [x0, x1, some w] (w :: st) h) := (mw_at mj_345_15).trans (z_iload_n rfl)
theorem mj_345_16 : mc_P 345 16 = some (.invokevirtual 348, 3, 333, 14, 2) := by decide +kernel
theorem s_345_16 {x0 x1 x2 : Option Value} {o : Nat} {a1 : Value} : mw (d + 1) 345 Q 16 [x0, x1, x2] (a1 :: .ref o :: st) h = (mg h o 14 ∧ mca st 8 ∧ mca [.ref o, a1] 2 ∧ mcall d 333 [.ref o, a1] h (mK (d + 1) 345 Q 19 [x0, x1, x2] st)) := (mw_at mj_345_16).trans ((z_invv (As := [a1]) (by decide) rfl rfl).trans (congrArg (And _) (congrArg (And _) (mC_nl nl_333))))
theorem mj_345_19 : mc_P 345 19 = some (.istore_n 2, 1, 0, 0, 0) := by decide +kernel
theorem s_345_19 {x0 x1 x2 : Option Value} {w : Int32} : mw d 345 Q 19 [x0, x1, x2] (.int w :: st) h = mw d 345 Q 20 [x0, mk2 x1, some (.int w)] (st) h := (mw_at mj_345_19).trans (z_istore_n (Nat.le_of_ble_eq_true rfl) (me_s1_mk (j := 1) (w := x1) rfl))
theorem mj_345_20 : mc_P 345 20 = some (.goto (-16), 3, 0, 0, 0) := by decide +kernel
theorem s_345_20 {x0 x1 x2 : Option Value} : mw d 345 Q 20 [x0, x1, x2] (st) h = mw d 345 Q 4 [x0, x1, x2] (st) h := (mw_at mj_345_20).trans (z_goto (by decide))
theorem mj_345_23 : mc_P 345 23 = some (.aload_n 0, 1, 0, 0, 0) := by decide +kernel
theorem s_345_23 {x1 x2 : Option Value} {w : Value} : mw d 345 Q 23 [some w, x1, x2] (st) h = mv_a w (mw d 345 Q 24 [some w, x1, x2] (w :: st) h) := (mw_at mj_345_23).trans (z_aload_n rfl)
theorem mj_345_24 : mc_P 345 24 = some (.iconst 0, 1, 0, 0, 0) := by decide +kernel
theorem s_345_24 {x0 x1 x2 : Option Value} : mw d 345 Q 24 [x0, x1, x2] (st) h = mw d 345 Q 25 [x0, x1, x2] (.int 0 :: st) h := (mw_at mj_345_24).trans (z_iconst (by decide))
theorem mj_345_25 : mc_P 345 25 = some (.putfield 176, 3, 14, 33, 0) := by decide +kernel
theorem s_345_25 {x0 x1 x2 : Option Value} {o : Nat} {w : Int32} : mw d 345 Q 25 [x0, x1, x2] (.int w :: .ref o :: st) h = (mg h o 14 ∧ mw d 345 Q 28 [x0, x1, x2] (st) (mh_si h o 33 w)) := (mw_at mj_345_25).trans (z_puti (by decide) (by decide) rfl)
theorem mj_345_28 : mc_P 345 28 = some (.aload_n 0, 1, 0, 0, 0) := by decide +kernel
theorem s_345_28 {x1 x2 : Option Value} {w : Value} : mw d 345 Q 28 [some w, x1, x2] (st) h = mv_a w (mw d 345 Q 29 [some w, x1, x2] (w :: st) h) := (mw_at mj_345_28).trans (z_aload_n rfl)
theorem mj_345_29 : mc_P 345 29 = some (.iconst 0, 1, 0, 0, 0) := by decide +kernel
theorem s_345_29 {x0 x1 x2 : Option Value} : mw d 345 Q 29 [x0, x1, x2] (st) h = mw d 345 Q 30 [x0, x1, x2] (.int 0 :: st) h := (mw_at mj_345_29).trans (z_iconst (by decide))
theorem mj_345_30 : mc_P 345 30 = some (.putfield 357, 3, 14, 42, 0) := by decide +kernel
theorem s_345_30 {x0 x1 x2 : Option Value} {o : Nat} {w : Int32} : mw d 345 Q 30 [x0, x1, x2] (.int w :: .ref o :: st) h = (mg h o 14 ∧ mw d 345 Q 33 [x0, x1, x2] (st) (mh_si h o 42 w)) := (mw_at mj_345_30).trans (z_puti (by decide) (by decide) rfl)
theorem mj_345_33 : mc_P 345 33 = some (.aload_n 0, 1, 0, 0, 0) := by decide +kernel
theorem s_345_33 {x1 x2 : Option Value} {w : Value} : mw d 345 Q 33 [some w, x1, x2] (st) h = mv_a w (mw d 345 Q 34 [some w, x1, x2] (w :: st) h) := (mw_at mj_345_33).trans (z_aload_n rfl)
theorem mj_345_34 : mc_P 345 34 = some (.iconst 0, 1, 0, 0, 0) := by decide +kernel
theorem s_345_34 {x0 x1 x2 : Option Value} : mw d 345 Q 34 [x0, x1, x2] (st) h = mw d 345 Q 35 [x0, x1, x2] (.int 0 :: st) h := (mw_at mj_345_34).trans (z_iconst (by decide))
theorem mj_345_35 : mc_P 345 35 = some (.putfield 360, 3, 14, 43, 0) := by decide +kernel
theorem s_345_35 {x0 x1 x2 : Option Value} {o : Nat} {w : Int32} : mw d 345 Q 35 [x0, x1, x2] (.int w :: .ref o :: st) h = (mg h o 14 ∧ mw d 345 Q 38 [x0, x1, x2] (st) (mh_si h o 43 w)) := (mw_at mj_345_35).trans (z_puti (by decide) (by decide) rfl)
theorem mj_345_38 : mc_P 345 38 = some (.aload_n 0, 1, 0, 0, 0) := by decide +kernel
theorem s_345_38 {x1 x2 : Option Value} {w : Value} : mw d 345 Q 38 [some w, x1, x2] (st) h = mv_a w (mw d 345 Q 39 [some w, x1, x2] (w :: st) h) := (mw_at mj_345_38).trans (z_aload_n rfl)
theorem mj_345_39 : mc_P 345 39 = some (.iconst 0, 1, 0, 0, 0) := by decide +kernel
theorem s_345_39 {x0 x1 x2 : Option Value} : mw d 345 Q 39 [x0, x1, x2] (st) h = mw d 345 Q 40 [x0, x1, x2] (.int 0 :: st) h := (mw_at mj_345_39).trans (z_iconst (by decide))
theorem mj_345_40 : mc_P 345 40 = some (.putfield 373, 3, 14, 44, 0) := by decide +kernel
theorem s_345_40 {x0 x1 x2 : Option Value} {o : Nat} {w : Int32} : mw d 345 Q 40 [x0, x1, x2] (.int w :: .ref o :: st) h = (mg h o 14 ∧ mw d 345 Q 43 [x0, x1, x2] (st) (mh_si h o 44 w)) := (mw_at mj_345_40).trans (z_puti (by decide) (by decide) rfl)
theorem mj_345_43 : mc_P 345 43 = some (.aload_n 0, 1, 0, 0, 0) := by decide +kernel
theorem s_345_43 {x1 x2 : Option Value} {w : Value} : mw d 345 Q 43 [some w, x1, x2] (st) h = mv_a w (mw d 345 Q 44 [some w, x1, x2] (w :: st) h) := (mw_at mj_345_43).trans (z_aload_n rfl)
theorem mj_345_44 : mc_P 345 44 = some (.iconst 0, 1, 0, 0, 0) := by decide +kernel
theorem s_345_44 {x0 x1 x2 : Option Value} : mw d 345 Q 44 [x0, x1, x2] (st) h = mw d 345 Q 45 [x0, x1, x2] (.int 0 :: st) h := (mw_at mj_345_44).trans (z_iconst (by decide))
theorem mj_345_45 : mc_P 345 45 = some (.putfield 376, 3, 14, 45, 0) := by decide +kernel
theorem s_345_45 {x0 x1 x2 : Option Value} {o : Nat} {w : Int32} : mw d 345 Q 45 [x0, x1, x2] (.int w :: .ref o :: st) h = (mg h o 14 ∧ mw d 345 Q 48 [x0, x1, x2] (st) (mh_si h o 45 w)) := (mw_at mj_345_45).trans (z_puti (by decide) (by decide) rfl)
theorem mj_345_48 : mc_P 345 48 = some (.aload_n 0, 1, 0, 0, 0) := by decide +kernel
theorem s_345_48 {x1 x2 : Option Value} {w : Value} : mw d 345 Q 48 [some w, x1, x2] (st) h = mv_a w (mw d 345 Q 49 [some w, x1, x2] (w :: st) h) := (mw_at mj_345_48).trans (z_aload_n rfl)
theorem mj_345_49 : mc_P 345 49 = some (.iconst 0, 1, 0, 0, 0) := by decide +kernel
theorem s_345_49 {x0 x1 x2 : Option Value} : mw d 345 Q 49 [x0, x1, x2] (st) h = mw d 345 Q 50 [x0, x1, x2] (.int 0 :: st) h := (mw_at mj_345_49).trans (z_iconst (by decide))
theorem mj_345_50 : mc_P 345 50 = some (.putfield 379, 3, 14, 46, 0) := by decide +kernel
theorem s_345_50 {x0 x1 x2 : Option Value} {o : Nat} {w : Int32} : mw d 345 Q 50 [x0, x1, x2] (.int w :: .ref o :: st) h = (mg h o 14 ∧ mw d 345 Q 53 [x0, x1, x2] (st) (mh_si h o 46 w)) := (mw_at mj_345_50).trans (z_puti (by decide) (by decide) rfl)
theorem mj_345_53 : mc_P 345 53 = some (.aload_n 0, 1, 0, 0, 0) := by decide +kernel
theorem s_345_53 {x1 x2 : Option Value} {w : Value} : mw d 345 Q 53 [some w, x1, x2] (st) h = mv_a w (mw d 345 Q 54 [some w, x1, x2] (w :: st) h) := (mw_at mj_345_53).trans (z_aload_n rfl)
theorem mj_345_54 : mc_P 345 54 = some (.getfield 48, 3, 14, 19, 0) := by decide +kernel
theorem s_345_54 {x0 x1 x2 : Option Value} {o : Nat} : mw d 345 Q 54 [x0, x1, x2] (.ref o :: st) h = (mg h o 14 ∧ mw d 345 Q 57 [x0, x1, x2] (va_rf (mh_r h o 19) :: st) h) := (mw_at mj_345_54).trans (z_getr (by decide) (by decide) rfl)
theorem mj_345_57 : mc_P 345 57 = some (.iload_n 1, 1, 0, 0, 0) := by decide +kernel
theorem s_345_57 {x0 x2 : Option Value} {w : Value} : mw d 345 Q 57 [x0, some w, x2] (st) h = mv_i w (mw d 345 Q 58 [x0, some w, x2] (w :: st) h) := (mw_at mj_345_57).trans (z_iload_n rfl)
theorem mj_345_58 : mc_P 345 58 = some (.iconst 2, 1, 0, 0, 0) := by decide +kernel
theorem s_345_58 {x0 x1 x2 : Option Value} : mw d 345 Q 58 [x0, x1, x2] (st) h = mw d 345 Q 59 [x0, x1, x2] (.int 2 :: st) h := (mw_at mj_345_58).trans (z_iconst (by decide))
theorem mj_345_59 : mc_P 345 59 = some (.iadd, 1, 0, 0, 0) := by decide +kernel
theorem s_345_59 {x0 x1 x2 : Option Value} {x w : Int32} : mw d 345 Q 59 [x0, x1, x2] (.int w :: .int x :: st) h = mw d 345 Q 60 [x0, x1, x2] (.int (x + w) :: st) h := (mw_at mj_345_59).trans (z_iadd)
theorem mj_345_60 : mc_P 345 60 = some (.baload, 1, 0, 0, 0) := by decide +kernel
theorem s_345_60 {x0 x1 x2 : Option Value} {o : Nat} {i : Int32} : mw d 345 Q 60 [x0, x1, x2] (.int i :: .ref o :: st) h = (mgb h o ∧ mx i (mh_l h o) ∧ mw d 345 Q 61 [x0, x1, x2] (.int (mh_i h o i.toNatClampNeg) :: st) h) := (mw_at mj_345_60).trans (z_bald)
theorem mj_345_61 : mc_P 345 61 = some (.bipush 13, 2, 0, 0, 0) := by decide +kernel
theorem s_345_61 {x0 x1 x2 : Option Value} : mw d 345 Q 61 [x0, x1, x2] (st) h = mw d 345 Q 63 [x0, x1, x2] (.int 13 :: st) h := (mw_at mj_345_61).trans (z_bipush (by decide))
theorem mj_345_63 : mc_P 345 63 = some (.if_icmp .ne 14, 3, 0, 0, 0) := by decide +kernel
theorem s_345_63 {x0 x1 x2 : Option Value} {x w : Int32} : mw d 345 Q 63 [x0, x1, x2] (.int w :: .int x :: st) h = mB (¬ x = w) (mw d 345 Q) 77 66 [x0, x1, x2] st h := (mw_at mj_345_63).trans (z_icmp_ne (by decide) rfl)
theorem mj_345_66 : mc_P 345 66 = some (.aload_n 0, 1, 0, 0, 0) := by decide +kernel
theorem s_345_66 {x1 x2 : Option Value} {w : Value} : mw d 345 Q 66 [some w, x1, x2] (st) h = mv_a w (mw d 345 Q 67 [some w, x1, x2] (w :: st) h) := (mw_at mj_345_66).trans (z_aload_n rfl)
theorem mj_345_67 : mc_P 345 67 = some (.bipush 7, 2, 0, 0, 0) := by decide +kernel
theorem s_345_67 {x0 x1 x2 : Option Value} : mw d 345 Q 67 [x0, x1, x2] (st) h = mw d 345 Q 69 [x0, x1, x2] (.int 7 :: st) h := (mw_at mj_345_67).trans (z_bipush (by decide))
theorem mj_345_69 : mc_P 345 69 = some (.iload_n 1, 1, 0, 0, 0) := by decide +kernel
theorem s_345_69 {x0 x2 : Option Value} {w : Value} : mw d 345 Q 69 [x0, some w, x2] (st) h = mv_i w (mw d 345 Q 70 [x0, some w, x2] (w :: st) h) := (mw_at mj_345_69).trans (z_iload_n rfl)
theorem mj_345_70 : mc_P 345 70 = some (.iconst 1, 1, 0, 0, 0) := by decide +kernel
theorem s_345_70 {x0 x1 x2 : Option Value} : mw d 345 Q 70 [x0, x1, x2] (st) h = mw d 345 Q 71 [x0, x1, x2] (.int 1 :: st) h := (mw_at mj_345_70).trans (z_iconst (by decide))
theorem mj_345_71 : mc_P 345 71 = some (.iadd, 1, 0, 0, 0) := by decide +kernel
theorem s_345_71 {x0 x1 x2 : Option Value} {x w : Int32} : mw d 345 Q 71 [x0, x1, x2] (.int w :: .int x :: st) h = mw d 345 Q 72 [x0, x1, x2] (.int (x + w) :: st) h := (mw_at mj_345_71).trans (z_iadd)
theorem mj_345_72 : mc_P 345 72 = some (.invokevirtual 366, 3, 335, 14, 3) := by decide +kernel
theorem s_345_72 {x0 x1 x2 : Option Value} {o : Nat} {a1 a2 : Value} : mw (d + 1) 345 Q 72 [x0, x1, x2] (a2 :: a1 :: .ref o :: st) h = (mg h o 14 ∧ mca st 8 ∧ mca [.ref o, a1, a2] 3 ∧ mcall d 335 [.ref o, a1, a2] h (mK (d + 1) 345 Q 75 [x0, x1, x2] st)) := (mw_at mj_345_72).trans ((z_invv (As := [a1, a2]) (by decide) rfl rfl).trans (congrArg (And _) (congrArg (And _) (mC_nl nl_335))))
theorem mj_345_75 : mc_P 345 75 = some (.pop, 1, 0, 0, 0) := by decide +kernel
theorem s_345_75 {x0 x1 x2 : Option Value} {w : Value} : mw d 345 Q 75 [x0, x1, x2] (w :: st) h = (w.category = 1 ∧ mw d 345 Q 76 [x0, x1, x2] (st) h) := (mw_at mj_345_75).trans (z_pop)
theorem mj_345_76 : mc_P 345 76 = some (.return_, 1, 0, 0, 0) := by decide +kernel
theorem s_345_76 {x0 x1 x2 : Option Value} : mw d 345 Q 76 [x0, x1, x2] ([]) h = Q none h := (mw_at mj_345_76).trans (z_vret)
theorem mj_345_77 : mc_P 345 77 = some (.aload_n 0, 1, 0, 0, 0) := by decide +kernel
theorem s_345_77 {x1 x2 : Option Value} {w : Value} : mw d 345 Q 77 [some w, x1, x2] (st) h = mv_a w (mw d 345 Q 78 [some w, x1, x2] (w :: st) h) := (mw_at mj_345_77).trans (z_aload_n rfl)
theorem mj_345_78 : mc_P 345 78 = some (.aload_n 0, 1, 0, 0, 0) := by decide +kernel
theorem s_345_78 {x1 x2 : Option Value} {w : Value} : mw d 345 Q 78 [some w, x1, x2] (st) h = mv_a w (mw d 345 Q 79 [some w, x1, x2] (w :: st) h) := (mw_at mj_345_78).trans (z_aload_n rfl)
theorem mj_345_79 : mc_P 345 79 = some (.iload_n 1, 1, 0, 0, 0) := by decide +kernel
theorem s_345_79 {x0 x2 : Option Value} {w : Value} : mw d 345 Q 79 [x0, some w, x2] (st) h = mv_i w (mw d 345 Q 80 [x0, some w, x2] (w :: st) h) := (mw_at mj_345_79).trans (z_iload_n rfl)
theorem mj_345_80 : mc_P 345 80 = some (.invokevirtual 351, 3, 337, 14, 2) := by decide +kernel
theorem s_345_80 {x0 x1 x2 : Option Value} {o : Nat} {a1 : Value} : mw (d + 1) 345 Q 80 [x0, x1, x2] (a1 :: .ref o :: st) h = (mg h o 14 ∧ mca st 8 ∧ mca [.ref o, a1] 3 ∧ mcall d 337 [.ref o, a1] h (mK (d + 1) 345 Q 83 [x0, x1, x2] st)) := (mw_at mj_345_80).trans ((z_invv (As := [a1]) (by decide) rfl rfl).trans (congrArg (And _) (congrArg (And _) (mC_nl nl_337))))
theorem mj_345_83 : mc_P 345 83 = some (.iload_n 1, 1, 0, 0, 0) := by decide +kernel
theorem s_345_83 {x0 x2 : Option Value} {w : Value} : mw d 345 Q 83 [x0, some w, x2] (st) h = mv_i w (mw d 345 Q 84 [x0, some w, x2] (w :: st) h) := (mw_at mj_345_83).trans (z_iload_n rfl)
theorem mj_345_84 : mc_P 345 84 = some (.iconst (-1), 1, 0, 0, 0) := by decide +kernel
theorem s_345_84 {x0 x1 x2 : Option Value} : mw d 345 Q 84 [x0, x1, x2] (st) h = mw d 345 Q 85 [x0, x1, x2] (.int (-1) :: st) h := (mw_at mj_345_84).trans (z_iconst (by decide))
theorem mj_345_85 : mc_P 345 85 = some (.iconst 0, 1, 0, 0, 0) := by decide +kernel
theorem s_345_85 {x0 x1 x2 : Option Value} : mw d 345 Q 85 [x0, x1, x2] (st) h = mw d 345 Q 86 [x0, x1, x2] (.int 0 :: st) h := (mw_at mj_345_85).trans (z_iconst (by decide))
theorem mj_345_86 : mc_P 345 86 = some (.invokevirtual 382, 3, 346, 14, 5) := by decide +kernel
theorem s_345_86 {x0 x1 x2 : Option Value} {o : Nat} {a1 a2 a3 a4 : Value} : mw (d + 1) 345 Q 86 [x0, x1, x2] (a4 :: a3 :: a2 :: a1 :: .ref o :: st) h = (mg h o 14 ∧ mca st 8 ∧ mca [.ref o, a1, a2, a3, a4] 9 ∧ mcall d 346 [.ref o, a1, a2, a3, a4] h (mK (d + 1) 345 Q 89 [x0, x1, x2] st)) := (mw_at mj_345_86).trans ((z_invv (As := [a1, a2, a3, a4]) (by decide) rfl rfl).trans (congrArg (And _) (congrArg (And _) (mC_nl nl_346))))
theorem mj_345_89 : mc_P 345 89 = some (.aload_n 0, 1, 0, 0, 0) := by decide +kernel
theorem s_345_89 {x1 x2 : Option Value} {w : Value} : mw d 345 Q 89 [some w, x1, x2] (st) h = mv_a w (mw d 345 Q 90 [some w, x1, x2] (w :: st) h) := (mw_at mj_345_89).trans (z_aload_n rfl)
theorem mj_345_90 : mc_P 345 90 = some (.getfield 328, 3, 14, 47, 0) := by decide +kernel
theorem s_345_90 {x0 x1 x2 : Option Value} {o : Nat} : mw d 345 Q 90 [x0, x1, x2] (.ref o :: st) h = (mg h o 14 ∧ mw d 345 Q 93 [x0, x1, x2] (.int (mh_i h o 47) :: st) h) := (mw_at mj_345_90).trans (z_geti (by decide) (by decide) (Or.inl rfl))
theorem mj_345_93 : mc_P 345 93 = some (.ifCond .ne 78, 3, 0, 0, 0) := by decide +kernel
theorem s_345_93 {x0 x1 x2 : Option Value} {x : Int32} : mw d 345 Q 93 [x0, x1, x2] (.int x :: st) h = mB (¬ x = 0) (mw d 345 Q) 171 96 [x0, x1, x2] st h := (mw_at mj_345_93).trans (z_if_ne (by decide) rfl)
theorem mj_345_96 : mc_P 345 96 = some (.aload_n 0, 1, 0, 0, 0) := by decide +kernel
theorem s_345_96 {x1 x2 : Option Value} {w : Value} : mw d 345 Q 96 [some w, x1, x2] (st) h = mv_a w (mw d 345 Q 97 [some w, x1, x2] (w :: st) h) := (mw_at mj_345_96).trans (z_aload_n rfl)
theorem mj_345_97 : mc_P 345 97 = some (.getfield 70, 3, 14, 28, 0) := by decide +kernel
theorem s_345_97 {x0 x1 x2 : Option Value} {o : Nat} : mw d 345 Q 97 [x0, x1, x2] (.ref o :: st) h = (mg h o 14 ∧ mw d 345 Q 100 [x0, x1, x2] (va_rf (mh_r h o 28) :: st) h) := (mw_at mj_345_97).trans (z_getr (by decide) (by decide) rfl)
theorem mj_345_100 : mc_P 345 100 = some (.aload_n 0, 1, 0, 0, 0) := by decide +kernel
theorem s_345_100 {x1 x2 : Option Value} {w : Value} : mw d 345 Q 100 [some w, x1, x2] (st) h = mv_a w (mw d 345 Q 101 [some w, x1, x2] (w :: st) h) := (mw_at mj_345_100).trans (z_aload_n rfl)
theorem mj_345_101 : mc_P 345 101 = some (.getfield 176, 3, 14, 33, 0) := by decide +kernel
theorem s_345_101 {x0 x1 x2 : Option Value} {o : Nat} : mw d 345 Q 101 [x0, x1, x2] (.ref o :: st) h = (mg h o 14 ∧ mw d 345 Q 104 [x0, x1, x2] (.int (mh_i h o 33) :: st) h) := (mw_at mj_345_101).trans (z_geti (by decide) (by decide) (Or.inl rfl))
theorem mj_345_104 : mc_P 345 104 = some (.iconst (-1), 1, 0, 0, 0) := by decide +kernel
theorem s_345_104 {x0 x1 x2 : Option Value} : mw d 345 Q 104 [x0, x1, x2] (st) h = mw d 345 Q 105 [x0, x1, x2] (.int (-1) :: st) h := (mw_at mj_345_104).trans (z_iconst (by decide))
theorem mj_345_105 : mc_P 345 105 = some (.iastore, 1, 0, 0, 0) := by decide +kernel
theorem s_345_105 {x0 x1 x2 : Option Value} {o : Nat} {i w : Int32} : mw d 345 Q 105 [x0, x1, x2] (.int w :: .int i :: .ref o :: st) h = (mg h o 100 ∧ mx i (mh_l h o) ∧ mw d 345 Q 106 [x0, x1, x2] (st) (mh_si h o i.toNatClampNeg w)) := (mw_at mj_345_105).trans (z_iast)
theorem mj_345_106 : mc_P 345 106 = some (.aload_n 0, 1, 0, 0, 0) := by decide +kernel
theorem s_345_106 {x1 x2 : Option Value} {w : Value} : mw d 345 Q 106 [some w, x1, x2] (st) h = mv_a w (mw d 345 Q 107 [some w, x1, x2] (w :: st) h) := (mw_at mj_345_106).trans (z_aload_n rfl)
theorem mj_345_107 : mc_P 345 107 = some (.getfield 73, 3, 14, 29, 0) := by decide +kernel
theorem s_345_107 {x0 x1 x2 : Option Value} {o : Nat} : mw d 345 Q 107 [x0, x1, x2] (.ref o :: st) h = (mg h o 14 ∧ mw d 345 Q 110 [x0, x1, x2] (va_rf (mh_r h o 29) :: st) h) := (mw_at mj_345_107).trans (z_getr (by decide) (by decide) rfl)
theorem mj_345_110 : mc_P 345 110 = some (.aload_n 0, 1, 0, 0, 0) := by decide +kernel
theorem s_345_110 {x1 x2 : Option Value} {w : Value} : mw d 345 Q 110 [some w, x1, x2] (st) h = mv_a w (mw d 345 Q 111 [some w, x1, x2] (w :: st) h) := (mw_at mj_345_110).trans (z_aload_n rfl)
theorem mj_345_111 : mc_P 345 111 = some (.getfield 176, 3, 14, 33, 0) := by decide +kernel
theorem s_345_111 {x0 x1 x2 : Option Value} {o : Nat} : mw d 345 Q 111 [x0, x1, x2] (.ref o :: st) h = (mg h o 14 ∧ mw d 345 Q 114 [x0, x1, x2] (.int (mh_i h o 33) :: st) h) := (mw_at mj_345_111).trans (z_geti (by decide) (by decide) (Or.inl rfl))
theorem mj_345_114 : mc_P 345 114 = some (.iconst (-1), 1, 0, 0, 0) := by decide +kernel
theorem s_345_114 {x0 x1 x2 : Option Value} : mw d 345 Q 114 [x0, x1, x2] (st) h = mw d 345 Q 115 [x0, x1, x2] (.int (-1) :: st) h := (mw_at mj_345_114).trans (z_iconst (by decide))
theorem mj_345_115 : mc_P 345 115 = some (.iastore, 1, 0, 0, 0) := by decide +kernel
theorem s_345_115 {x0 x1 x2 : Option Value} {o : Nat} {i w : Int32} : mw d 345 Q 115 [x0, x1, x2] (.int w :: .int i :: .ref o :: st) h = (mg h o 100 ∧ mx i (mh_l h o) ∧ mw d 345 Q 116 [x0, x1, x2] (st) (mh_si h o i.toNatClampNeg w)) := (mw_at mj_345_115).trans (z_iast)
theorem mj_345_116 : mc_P 345 116 = some (.aload_n 0, 1, 0, 0, 0) := by decide +kernel
theorem s_345_116 {x1 x2 : Option Value} {w : Value} : mw d 345 Q 116 [some w, x1, x2] (st) h = mv_a w (mw d 345 Q 117 [some w, x1, x2] (w :: st) h) := (mw_at mj_345_116).trans (z_aload_n rfl)
theorem mj_345_117 : mc_P 345 117 = some (.getfield 79, 3, 14, 31, 0) := by decide +kernel
theorem s_345_117 {x0 x1 x2 : Option Value} {o : Nat} : mw d 345 Q 117 [x0, x1, x2] (.ref o :: st) h = (mg h o 14 ∧ mw d 345 Q 120 [x0, x1, x2] (va_rf (mh_r h o 31) :: st) h) := (mw_at mj_345_117).trans (z_getr (by decide) (by decide) rfl)
theorem mj_345_120 : mc_P 345 120 = some (.aload_n 0, 1, 0, 0, 0) := by decide +kernel
theorem s_345_120 {x1 x2 : Option Value} {w : Value} : mw d 345 Q 120 [some w, x1, x2] (st) h = mv_a w (mw d 345 Q 121 [some w, x1, x2] (w :: st) h) := (mw_at mj_345_120).trans (z_aload_n rfl)
theorem mj_345_121 : mc_P 345 121 = some (.getfield 176, 3, 14, 33, 0) := by decide +kernel
theorem s_345_121 {x0 x1 x2 : Option Value} {o : Nat} : mw d 345 Q 121 [x0, x1, x2] (.ref o :: st) h = (mg h o 14 ∧ mw d 345 Q 124 [x0, x1, x2] (.int (mh_i h o 33) :: st) h) := (mw_at mj_345_121).trans (z_geti (by decide) (by decide) (Or.inl rfl))
theorem mj_345_124 : mc_P 345 124 = some (.iconst 0, 1, 0, 0, 0) := by decide +kernel
theorem s_345_124 {x0 x1 x2 : Option Value} : mw d 345 Q 124 [x0, x1, x2] (st) h = mw d 345 Q 125 [x0, x1, x2] (.int 0 :: st) h := (mw_at mj_345_124).trans (z_iconst (by decide))
theorem mj_345_125 : mc_P 345 125 = some (.iastore, 1, 0, 0, 0) := by decide +kernel
theorem s_345_125 {x0 x1 x2 : Option Value} {o : Nat} {i w : Int32} : mw d 345 Q 125 [x0, x1, x2] (.int w :: .int i :: .ref o :: st) h = (mg h o 100 ∧ mx i (mh_l h o) ∧ mw d 345 Q 126 [x0, x1, x2] (st) (mh_si h o i.toNatClampNeg w)) := (mw_at mj_345_125).trans (z_iast)
theorem mj_345_126 : mc_P 345 126 = some (.aload_n 0, 1, 0, 0, 0) := by decide +kernel
theorem s_345_126 {x1 x2 : Option Value} {w : Value} : mw d 345 Q 126 [some w, x1, x2] (st) h = mv_a w (mw d 345 Q 127 [some w, x1, x2] (w :: st) h) := (mw_at mj_345_126).trans (z_aload_n rfl)
theorem mj_345_127 : mc_P 345 127 = some (.getfield 82, 3, 14, 32, 0) := by decide +kernel
theorem s_345_127 {x0 x1 x2 : Option Value} {o : Nat} : mw d 345 Q 127 [x0, x1, x2] (.ref o :: st) h = (mg h o 14 ∧ mw d 345 Q 130 [x0, x1, x2] (va_rf (mh_r h o 32) :: st) h) := (mw_at mj_345_127).trans (z_getr (by decide) (by decide) rfl)
theorem mj_345_130 : mc_P 345 130 = some (.aload_n 0, 1, 0, 0, 0) := by decide +kernel
theorem s_345_130 {x1 x2 : Option Value} {w : Value} : mw d 345 Q 130 [some w, x1, x2] (st) h = mv_a w (mw d 345 Q 131 [some w, x1, x2] (w :: st) h) := (mw_at mj_345_130).trans (z_aload_n rfl)
theorem mj_345_131 : mc_P 345 131 = some (.getfield 176, 3, 14, 33, 0) := by decide +kernel
theorem s_345_131 {x0 x1 x2 : Option Value} {o : Nat} : mw d 345 Q 131 [x0, x1, x2] (.ref o :: st) h = (mg h o 14 ∧ mw d 345 Q 134 [x0, x1, x2] (.int (mh_i h o 33) :: st) h) := (mw_at mj_345_131).trans (z_geti (by decide) (by decide) (Or.inl rfl))
theorem mj_345_134 : mc_P 345 134 = some (.iconst 0, 1, 0, 0, 0) := by decide +kernel
theorem s_345_134 {x0 x1 x2 : Option Value} : mw d 345 Q 134 [x0, x1, x2] (st) h = mw d 345 Q 135 [x0, x1, x2] (.int 0 :: st) h := (mw_at mj_345_134).trans (z_iconst (by decide))
theorem mj_345_135 : mc_P 345 135 = some (.iastore, 1, 0, 0, 0) := by decide +kernel
theorem s_345_135 {x0 x1 x2 : Option Value} {o : Nat} {i w : Int32} : mw d 345 Q 135 [x0, x1, x2] (.int w :: .int i :: .ref o :: st) h = (mg h o 100 ∧ mx i (mh_l h o) ∧ mw d 345 Q 136 [x0, x1, x2] (st) (mh_si h o i.toNatClampNeg w)) := (mw_at mj_345_135).trans (z_iast)
theorem mj_345_136 : mc_P 345 136 = some (.aload_n 0, 1, 0, 0, 0) := by decide +kernel
theorem s_345_136 {x1 x2 : Option Value} {w : Value} : mw d 345 Q 136 [some w, x1, x2] (st) h = mv_a w (mw d 345 Q 137 [some w, x1, x2] (w :: st) h) := (mw_at mj_345_136).trans (z_aload_n rfl)
theorem mj_345_137 : mc_P 345 137 = some (.getfield 76, 3, 14, 30, 0) := by decide +kernel
theorem s_345_137 {x0 x1 x2 : Option Value} {o : Nat} : mw d 345 Q 137 [x0, x1, x2] (.ref o :: st) h = (mg h o 14 ∧ mw d 345 Q 140 [x0, x1, x2] (va_rf (mh_r h o 30) :: st) h) := (mw_at mj_345_137).trans (z_getr (by decide) (by decide) rfl)
theorem mj_345_140 : mc_P 345 140 = some (.aload_n 0, 1, 0, 0, 0) := by decide +kernel
theorem s_345_140 {x1 x2 : Option Value} {w : Value} : mw d 345 Q 140 [some w, x1, x2] (st) h = mv_a w (mw d 345 Q 141 [some w, x1, x2] (w :: st) h) := (mw_at mj_345_140).trans (z_aload_n rfl)
theorem mj_345_141 : mc_P 345 141 = some (.getfield 176, 3, 14, 33, 0) := by decide +kernel
theorem s_345_141 {x0 x1 x2 : Option Value} {o : Nat} : mw d 345 Q 141 [x0, x1, x2] (.ref o :: st) h = (mg h o 14 ∧ mw d 345 Q 144 [x0, x1, x2] (.int (mh_i h o 33) :: st) h) := (mw_at mj_345_141).trans (z_geti (by decide) (by decide) (Or.inl rfl))
theorem mj_345_144 : mc_P 345 144 = some (.aload_n 0, 1, 0, 0, 0) := by decide +kernel
theorem s_345_144 {x1 x2 : Option Value} {w : Value} : mw d 345 Q 144 [some w, x1, x2] (st) h = mv_a w (mw d 345 Q 145 [some w, x1, x2] (w :: st) h) := (mw_at mj_345_144).trans (z_aload_n rfl)
theorem mj_345_145 : mc_P 345 145 = some (.getfield 176, 3, 14, 33, 0) := by decide +kernel
theorem s_345_145 {x0 x1 x2 : Option Value} {o : Nat} : mw d 345 Q 145 [x0, x1, x2] (.ref o :: st) h = (mg h o 14 ∧ mw d 345 Q 148 [x0, x1, x2] (.int (mh_i h o 33) :: st) h) := (mw_at mj_345_145).trans (z_geti (by decide) (by decide) (Or.inl rfl))
theorem mj_345_148 : mc_P 345 148 = some (.iconst 1, 1, 0, 0, 0) := by decide +kernel
theorem s_345_148 {x0 x1 x2 : Option Value} : mw d 345 Q 148 [x0, x1, x2] (st) h = mw d 345 Q 149 [x0, x1, x2] (.int 1 :: st) h := (mw_at mj_345_148).trans (z_iconst (by decide))
theorem mj_345_149 : mc_P 345 149 = some (.iadd, 1, 0, 0, 0) := by decide +kernel
theorem s_345_149 {x0 x1 x2 : Option Value} {x w : Int32} : mw d 345 Q 149 [x0, x1, x2] (.int w :: .int x :: st) h = mw d 345 Q 150 [x0, x1, x2] (.int (x + w) :: st) h := (mw_at mj_345_149).trans (z_iadd)
theorem mj_345_150 : mc_P 345 150 = some (.iastore, 1, 0, 0, 0) := by decide +kernel
theorem s_345_150 {x0 x1 x2 : Option Value} {o : Nat} {i w : Int32} : mw d 345 Q 150 [x0, x1, x2] (.int w :: .int i :: .ref o :: st) h = (mg h o 100 ∧ mx i (mh_l h o) ∧ mw d 345 Q 151 [x0, x1, x2] (st) (mh_si h o i.toNatClampNeg w)) := (mw_at mj_345_150).trans (z_iast)
theorem mj_345_151 : mc_P 345 151 = some (.aload_n 0, 1, 0, 0, 0) := by decide +kernel
theorem s_345_151 {x1 x2 : Option Value} {w : Value} : mw d 345 Q 151 [some w, x1, x2] (st) h = mv_a w (mw d 345 Q 152 [some w, x1, x2] (w :: st) h) := (mw_at mj_345_151).trans (z_aload_n rfl)
theorem mj_345_152 : mc_P 345 152 = some (.getfield 85, 3, 14, 34, 0) := by decide +kernel
theorem s_345_152 {x0 x1 x2 : Option Value} {o : Nat} : mw d 345 Q 152 [x0, x1, x2] (.ref o :: st) h = (mg h o 14 ∧ mw d 345 Q 155 [x0, x1, x2] (va_rf (mh_r h o 34) :: st) h) := (mw_at mj_345_152).trans (z_getr (by decide) (by decide) rfl)
theorem mj_345_155 : mc_P 345 155 = some (.aload_n 0, 1, 0, 0, 0) := by decide +kernel
theorem s_345_155 {x1 x2 : Option Value} {w : Value} : mw d 345 Q 155 [some w, x1, x2] (st) h = mv_a w (mw d 345 Q 156 [some w, x1, x2] (w :: st) h) := (mw_at mj_345_155).trans (z_aload_n rfl)
theorem mj_345_156 : mc_P 345 156 = some (.getfield 176, 3, 14, 33, 0) := by decide +kernel
theorem s_345_156 {x0 x1 x2 : Option Value} {o : Nat} : mw d 345 Q 156 [x0, x1, x2] (.ref o :: st) h = (mg h o 14 ∧ mw d 345 Q 159 [x0, x1, x2] (.int (mh_i h o 33) :: st) h) := (mw_at mj_345_156).trans (z_geti (by decide) (by decide) (Or.inl rfl))
theorem mj_345_159 : mc_P 345 159 = some (.iconst 0, 1, 0, 0, 0) := by decide +kernel
theorem s_345_159 {x0 x1 x2 : Option Value} : mw d 345 Q 159 [x0, x1, x2] (st) h = mw d 345 Q 160 [x0, x1, x2] (.int 0 :: st) h := (mw_at mj_345_159).trans (z_iconst (by decide))
theorem mj_345_160 : mc_P 345 160 = some (.iastore, 1, 0, 0, 0) := by decide +kernel
theorem s_345_160 {x0 x1 x2 : Option Value} {o : Nat} {i w : Int32} : mw d 345 Q 160 [x0, x1, x2] (.int w :: .int i :: .ref o :: st) h = (mg h o 100 ∧ mx i (mh_l h o) ∧ mw d 345 Q 161 [x0, x1, x2] (st) (mh_si h o i.toNatClampNeg w)) := (mw_at mj_345_160).trans (z_iast)
theorem mj_345_161 : mc_P 345 161 = some (.aload_n 0, 1, 0, 0, 0) := by decide +kernel
theorem s_345_161 {x1 x2 : Option Value} {w : Value} : mw d 345 Q 161 [some w, x1, x2] (st) h = mv_a w (mw d 345 Q 162 [some w, x1, x2] (w :: st) h) := (mw_at mj_345_161).trans (z_aload_n rfl)
theorem mj_345_162 : mc_P 345 162 = some (.dup, 1, 0, 0, 0) := by decide +kernel
theorem s_345_162 {x0 x1 x2 : Option Value} {w : Value} : mw d 345 Q 162 [x0, x1, x2] (w :: st) h = (w.category = 1 ∧ mw d 345 Q 163 [x0, x1, x2] (w :: w :: st) h) := (mw_at mj_345_162).trans (z_dup)
theorem mj_345_163 : mc_P 345 163 = some (.getfield 176, 3, 14, 33, 0) := by decide +kernel
theorem s_345_163 {x0 x1 x2 : Option Value} {o : Nat} : mw d 345 Q 163 [x0, x1, x2] (.ref o :: st) h = (mg h o 14 ∧ mw d 345 Q 166 [x0, x1, x2] (.int (mh_i h o 33) :: st) h) := (mw_at mj_345_163).trans (z_geti (by decide) (by decide) (Or.inl rfl))
theorem mj_345_166 : mc_P 345 166 = some (.iconst 1, 1, 0, 0, 0) := by decide +kernel
theorem s_345_166 {x0 x1 x2 : Option Value} : mw d 345 Q 166 [x0, x1, x2] (st) h = mw d 345 Q 167 [x0, x1, x2] (.int 1 :: st) h := (mw_at mj_345_166).trans (z_iconst (by decide))
theorem mj_345_167 : mc_P 345 167 = some (.iadd, 1, 0, 0, 0) := by decide +kernel
theorem s_345_167 {x0 x1 x2 : Option Value} {x w : Int32} : mw d 345 Q 167 [x0, x1, x2] (.int w :: .int x :: st) h = mw d 345 Q 168 [x0, x1, x2] (.int (x + w) :: st) h := (mw_at mj_345_167).trans (z_iadd)
theorem mj_345_168 : mc_P 345 168 = some (.putfield 176, 3, 14, 33, 0) := by decide +kernel
theorem s_345_168 {x0 x1 x2 : Option Value} {o : Nat} {w : Int32} : mw d 345 Q 168 [x0, x1, x2] (.int w :: .ref o :: st) h = (mg h o 14 ∧ mw d 345 Q 171 [x0, x1, x2] (st) (mh_si h o 33 w)) := (mw_at mj_345_168).trans (z_puti (by decide) (by decide) rfl)
theorem mj_345_171 : mc_P 345 171 = some (.return_, 1, 0, 0, 0) := by decide +kernel
theorem s_345_171 {x0 x1 x2 : Option Value} : mw d 345 Q 171 [x0, x1, x2] ([]) h = Q none h := (mw_at mj_345_171).trans (z_vret)
theorem e_345 {a0 : Nat} : mcall d 345 [.ref a0] h Q = mw d 345 Q 0 [some (.ref a0), none, none] [] h := by
  show mw d 345 Q 0 (me_en (mc_nl 345) _) [] h = _
  rw [nl_345]; rfl

/-! InvariantDeskModel.block(IIII)V -/
theorem mj_346_0 : mc_P 346 0 = some (.aload_n 0, 1, 0, 0, 0) := by decide +kernel
theorem s_346_0 {x1 x2 x3 x4 x5 x6 x7 x8 : Option Value} {w : Value} : mw d 346 Q 0 [some w, x1, x2, x3, x4, x5, x6, x7, x8] (st) h = mv_a w (mw d 346 Q 1 [some w, x1, x2, x3, x4, x5, x6, x7, x8] (w :: st) h) := (mw_at mj_346_0).trans (z_aload_n rfl)
theorem mj_346_1 : mc_P 346 1 = some (.getfield 357, 3, 14, 42, 0) := by decide +kernel
theorem s_346_1 {x0 x1 x2 x3 x4 x5 x6 x7 x8 : Option Value} {o : Nat} : mw d 346 Q 1 [x0, x1, x2, x3, x4, x5, x6, x7, x8] (.ref o :: st) h = (mg h o 14 ∧ mw d 346 Q 4 [x0, x1, x2, x3, x4, x5, x6, x7, x8] (.int (mh_i h o 42) :: st) h) := (mw_at mj_346_1).trans (z_geti (by decide) (by decide) (Or.inl rfl))
theorem mj_346_4 : mc_P 346 4 = some (.istore 5, 2, 0, 0, 0) := by decide +kernel
theorem s_346_4 {x0 x1 x2 x3 x4 x5 x6 x7 x8 : Option Value} {w : Int32} : mw d 346 Q 4 [x0, x1, x2, x3, x4, x5, x6, x7, x8] (.int w :: st) h = mw d 346 Q 6 [x0, x1, x2, x3, mk2 x4, some (.int w), x6, x7, x8] (st) h := (mw_at mj_346_4).trans (z_istore (Nat.le_of_ble_eq_true rfl) (me_s1_mk (j := 4) (w := x4) rfl))
theorem mj_346_6 : mc_P 346 6 = some (.aload_n 0, 1, 0, 0, 0) := by decide +kernel
theorem s_346_6 {x1 x2 x3 x4 x5 x6 x7 x8 : Option Value} {w : Value} : mw d 346 Q 6 [some w, x1, x2, x3, x4, x5, x6, x7, x8] (st) h = mv_a w (mw d 346 Q 7 [some w, x1, x2, x3, x4, x5, x6, x7, x8] (w :: st) h) := (mw_at mj_346_6).trans (z_aload_n rfl)
theorem mj_346_7 : mc_P 346 7 = some (.getfield 376, 3, 14, 45, 0) := by decide +kernel
theorem s_346_7 {x0 x1 x2 x3 x4 x5 x6 x7 x8 : Option Value} {o : Nat} : mw d 346 Q 7 [x0, x1, x2, x3, x4, x5, x6, x7, x8] (.ref o :: st) h = (mg h o 14 ∧ mw d 346 Q 10 [x0, x1, x2, x3, x4, x5, x6, x7, x8] (.int (mh_i h o 45) :: st) h) := (mw_at mj_346_7).trans (z_geti (by decide) (by decide) (Or.inl rfl))
theorem mj_346_10 : mc_P 346 10 = some (.istore 6, 2, 0, 0, 0) := by decide +kernel
theorem s_346_10 {x0 x1 x2 x3 x4 x5 x6 x7 x8 : Option Value} {w : Int32} : mw d 346 Q 10 [x0, x1, x2, x3, x4, x5, x6, x7, x8] (.int w :: st) h = mw d 346 Q 12 [x0, x1, x2, x3, x4, mk2 x5, some (.int w), x7, x8] (st) h := (mw_at mj_346_10).trans (z_istore (Nat.le_of_ble_eq_true rfl) (me_s1_mk (j := 5) (w := x5) rfl))
theorem mj_346_12 : mc_P 346 12 = some (.aload_n 0, 1, 0, 0, 0) := by decide +kernel
theorem s_346_12 {x1 x2 x3 x4 x5 x6 x7 x8 : Option Value} {w : Value} : mw d 346 Q 12 [some w, x1, x2, x3, x4, x5, x6, x7, x8] (st) h = mv_a w (mw d 346 Q 13 [some w, x1, x2, x3, x4, x5, x6, x7, x8] (w :: st) h) := (mw_at mj_346_12).trans (z_aload_n rfl)
theorem mj_346_13 : mc_P 346 13 = some (.getfield 379, 3, 14, 46, 0) := by decide +kernel
theorem s_346_13 {x0 x1 x2 x3 x4 x5 x6 x7 x8 : Option Value} {o : Nat} : mw d 346 Q 13 [x0, x1, x2, x3, x4, x5, x6, x7, x8] (.ref o :: st) h = (mg h o 14 ∧ mw d 346 Q 16 [x0, x1, x2, x3, x4, x5, x6, x7, x8] (.int (mh_i h o 46) :: st) h) := (mw_at mj_346_13).trans (z_geti (by decide) (by decide) (Or.inl rfl))
theorem mj_346_16 : mc_P 346 16 = some (.istore 7, 2, 0, 0, 0) := by decide +kernel
theorem s_346_16 {x0 x1 x2 x3 x4 x5 x6 x7 x8 : Option Value} {w : Int32} : mw d 346 Q 16 [x0, x1, x2, x3, x4, x5, x6, x7, x8] (.int w :: st) h = mw d 346 Q 18 [x0, x1, x2, x3, x4, x5, mk2 x6, some (.int w), x8] (st) h := (mw_at mj_346_16).trans (z_istore (Nat.le_of_ble_eq_true rfl) (me_s1_mk (j := 6) (w := x6) rfl))
theorem mj_346_18 : mc_P 346 18 = some (.iload_n 1, 1, 0, 0, 0) := by decide +kernel
theorem s_346_18 {x0 x2 x3 x4 x5 x6 x7 x8 : Option Value} {w : Value} : mw d 346 Q 18 [x0, some w, x2, x3, x4, x5, x6, x7, x8] (st) h = mv_i w (mw d 346 Q 19 [x0, some w, x2, x3, x4, x5, x6, x7, x8] (w :: st) h) := (mw_at mj_346_18).trans (z_iload_n rfl)
theorem mj_346_19 : mc_P 346 19 = some (.iconst 1, 1, 0, 0, 0) := by decide +kernel
theorem s_346_19 {x0 x1 x2 x3 x4 x5 x6 x7 x8 : Option Value} : mw d 346 Q 19 [x0, x1, x2, x3, x4, x5, x6, x7, x8] (st) h = mw d 346 Q 20 [x0, x1, x2, x3, x4, x5, x6, x7, x8] (.int 1 :: st) h := (mw_at mj_346_19).trans (z_iconst (by decide))
theorem mj_346_20 : mc_P 346 20 = some (.iadd, 1, 0, 0, 0) := by decide +kernel
theorem s_346_20 {x0 x1 x2 x3 x4 x5 x6 x7 x8 : Option Value} {x w : Int32} : mw d 346 Q 20 [x0, x1, x2, x3, x4, x5, x6, x7, x8] (.int w :: .int x :: st) h = mw d 346 Q 21 [x0, x1, x2, x3, x4, x5, x6, x7, x8] (.int (x + w) :: st) h := (mw_at mj_346_20).trans (z_iadd)
theorem mj_346_21 : mc_P 346 21 = some (.istore 8, 2, 0, 0, 0) := by decide +kernel
theorem s_346_21 {x0 x1 x2 x3 x4 x5 x6 x7 x8 : Option Value} {w : Int32} : mw d 346 Q 21 [x0, x1, x2, x3, x4, x5, x6, x7, x8] (.int w :: st) h = mw d 346 Q 23 [x0, x1, x2, x3, x4, x5, x6, mk2 x7, some (.int w)] (st) h := (mw_at mj_346_21).trans (z_istore (Nat.le_of_ble_eq_true rfl) (me_s1_mk (j := 7) (w := x7) rfl))
theorem mj_346_23 : mc_P 346 23 = some (.iload 8, 2, 0, 0, 0) := by decide +kernel
theorem s_346_23 {x0 x1 x2 x3 x4 x5 x6 x7 : Option Value} {w : Value} : mw d 346 Q 23 [x0, x1, x2, x3, x4, x5, x6, x7, some w] (st) h = mv_i w (mw d 346 Q 25 [x0, x1, x2, x3, x4, x5, x6, x7, some w] (w :: st) h) := (mw_at mj_346_23).trans (z_iload rfl)
theorem mj_346_25 : mc_P 346 25 = some (.aload_n 0, 1, 0, 0, 0) := by decide +kernel
theorem s_346_25 {x1 x2 x3 x4 x5 x6 x7 x8 : Option Value} {w : Value} : mw d 346 Q 25 [some w, x1, x2, x3, x4, x5, x6, x7, x8] (st) h = mv_a w (mw d 346 Q 26 [some w, x1, x2, x3, x4, x5, x6, x7, x8] (w :: st) h) := (mw_at mj_346_25).trans (z_aload_n rfl)
theorem mj_346_26 : mc_P 346 26 = some (.iload_n 1, 1, 0, 0, 0) := by decide +kernel
theorem s_346_26 {x0 x2 x3 x4 x5 x6 x7 x8 : Option Value} {w : Value} : mw d 346 Q 26 [x0, some w, x2, x3, x4, x5, x6, x7, x8] (st) h = mv_i w (mw d 346 Q 27 [x0, some w, x2, x3, x4, x5, x6, x7, x8] (w :: st) h) := (mw_at mj_346_26).trans (z_iload_n rfl)
theorem mj_346_27 : mc_P 346 27 = some (.invokevirtual 348, 3, 333, 14, 2) := by decide +kernel
theorem s_346_27 {x0 x1 x2 x3 x4 x5 x6 x7 x8 : Option Value} {o : Nat} {a1 : Value} : mw (d + 1) 346 Q 27 [x0, x1, x2, x3, x4, x5, x6, x7, x8] (a1 :: .ref o :: st) h = (mg h o 14 ∧ mca st 8 ∧ mca [.ref o, a1] 2 ∧ mcall d 333 [.ref o, a1] h (mK (d + 1) 346 Q 30 [x0, x1, x2, x3, x4, x5, x6, x7, x8] st)) := (mw_at mj_346_27).trans ((z_invv (As := [a1]) (by decide) rfl rfl).trans (congrArg (And _) (congrArg (And _) (mC_nl nl_333))))
theorem mj_346_30 : mc_P 346 30 = some (.if_icmp .ge 32, 3, 0, 0, 0) := by decide +kernel
theorem s_346_30 {x0 x1 x2 x3 x4 x5 x6 x7 x8 : Option Value} {x w : Int32} : mw d 346 Q 30 [x0, x1, x2, x3, x4, x5, x6, x7, x8] (.int w :: .int x :: st) h = mB (w ≤ x) (mw d 346 Q) 62 33 [x0, x1, x2, x3, x4, x5, x6, x7, x8] st h := (mw_at mj_346_30).trans (z_icmp_ge (by decide) rfl)
theorem mj_346_33 : mc_P 346 33 = some (.aload_n 0, 1, 0, 0, 0) := by decide +kernel
theorem s_346_33 {x1 x2 x3 x4 x5 x6 x7 x8 : Option Value} {w : Value} : mw d 346 Q 33 [some w, x1, x2, x3, x4, x5, x6, x7, x8] (st) h = mv_a w (mw d 346 Q 34 [some w, x1, x2, x3, x4, x5, x6, x7, x8] (w :: st) h) := (mw_at mj_346_33).trans (z_aload_n rfl)
theorem mj_346_34 : mc_P 346 34 = some (.getfield 328, 3, 14, 47, 0) := by decide +kernel
theorem s_346_34 {x0 x1 x2 x3 x4 x5 x6 x7 x8 : Option Value} {o : Nat} : mw d 346 Q 34 [x0, x1, x2, x3, x4, x5, x6, x7, x8] (.ref o :: st) h = (mg h o 14 ∧ mw d 346 Q 37 [x0, x1, x2, x3, x4, x5, x6, x7, x8] (.int (mh_i h o 47) :: st) h) := (mw_at mj_346_34).trans (z_geti (by decide) (by decide) (Or.inl rfl))
theorem mj_346_37 : mc_P 346 37 = some (.ifCond .ne 25, 3, 0, 0, 0) := by decide +kernel
theorem s_346_37 {x0 x1 x2 x3 x4 x5 x6 x7 x8 : Option Value} {x : Int32} : mw d 346 Q 37 [x0, x1, x2, x3, x4, x5, x6, x7, x8] (.int x :: st) h = mB (¬ x = 0) (mw d 346 Q) 62 40 [x0, x1, x2, x3, x4, x5, x6, x7, x8] st h := (mw_at mj_346_37).trans (z_if_ne (by decide) rfl)
theorem mj_346_40 : mc_P 346 40 = some (.aload_n 0, 1, 0, 0, 0) := by decide +kernel
theorem s_346_40 {x1 x2 x3 x4 x5 x6 x7 x8 : Option Value} {w : Value} : mw d 346 Q 40 [some w, x1, x2, x3, x4, x5, x6, x7, x8] (st) h = mv_a w (mw d 346 Q 41 [some w, x1, x2, x3, x4, x5, x6, x7, x8] (w :: st) h) := (mw_at mj_346_40).trans (z_aload_n rfl)
theorem mj_346_41 : mc_P 346 41 = some (.iload 8, 2, 0, 0, 0) := by decide +kernel
theorem s_346_41 {x0 x1 x2 x3 x4 x5 x6 x7 : Option Value} {w : Value} : mw d 346 Q 41 [x0, x1, x2, x3, x4, x5, x6, x7, some w] (st) h = mv_i w (mw d 346 Q 43 [x0, x1, x2, x3, x4, x5, x6, x7, some w] (w :: st) h) := (mw_at mj_346_41).trans (z_iload rfl)
theorem mj_346_43 : mc_P 346 43 = some (.iload_n 1, 1, 0, 0, 0) := by decide +kernel
theorem s_346_43 {x0 x2 x3 x4 x5 x6 x7 x8 : Option Value} {w : Value} : mw d 346 Q 43 [x0, some w, x2, x3, x4, x5, x6, x7, x8] (st) h = mv_i w (mw d 346 Q 44 [x0, some w, x2, x3, x4, x5, x6, x7, x8] (w :: st) h) := (mw_at mj_346_43).trans (z_iload_n rfl)
theorem mj_346_44 : mc_P 346 44 = some (.iload_n 2, 1, 0, 0, 0) := by decide +kernel
theorem s_346_44 {x0 x1 x3 x4 x5 x6 x7 x8 : Option Value} {w : Value} : mw d 346 Q 44 [x0, x1, some w, x3, x4, x5, x6, x7, x8] (st) h = mv_i w (mw d 346 Q 45 [x0, x1, some w, x3, x4, x5, x6, x7, x8] (w :: st) h) := (mw_at mj_346_44).trans (z_iload_n rfl)
theorem mj_346_45 : mc_P 346 45 = some (.iload_n 3, 1, 0, 0, 0) := by decide +kernel
theorem s_346_45 {x0 x1 x2 x4 x5 x6 x7 x8 : Option Value} {w : Value} : mw d 346 Q 45 [x0, x1, x2, some w, x4, x5, x6, x7, x8] (st) h = mv_i w (mw d 346 Q 46 [x0, x1, x2, some w, x4, x5, x6, x7, x8] (w :: st) h) := (mw_at mj_346_45).trans (z_iload_n rfl)
theorem mj_346_46 : mc_P 346 46 = some (.iload 4, 2, 0, 0, 0) := by decide +kernel
theorem s_346_46 {x0 x1 x2 x3 x5 x6 x7 x8 : Option Value} {w : Value} : mw d 346 Q 46 [x0, x1, x2, x3, some w, x5, x6, x7, x8] (st) h = mv_i w (mw d 346 Q 48 [x0, x1, x2, x3, some w, x5, x6, x7, x8] (w :: st) h) := (mw_at mj_346_46).trans (z_iload rfl)
theorem mj_346_48 : mc_P 346 48 = some (.invokevirtual 385, 3, 347, 14, 6) := by decide +kernel
theorem s_346_48 {x0 x1 x2 x3 x4 x5 x6 x7 x8 : Option Value} {o : Nat} {a1 a2 a3 a4 a5 : Value} : mw (d + 1) 346 Q 48 [x0, x1, x2, x3, x4, x5, x6, x7, x8] (a5 :: a4 :: a3 :: a2 :: a1 :: .ref o :: st) h = (mg h o 14 ∧ mca st 8 ∧ mca [.ref o, a1, a2, a3, a4, a5] 10 ∧ mcall d 347 [.ref o, a1, a2, a3, a4, a5] h (mK (d + 1) 346 Q 51 [x0, x1, x2, x3, x4, x5, x6, x7, x8] st)) := (mw_at mj_346_48).trans ((z_invv (As := [a1, a2, a3, a4, a5]) (by decide) rfl rfl).trans (congrArg (And _) (congrArg (And _) (mC_nl nl_347))))
theorem mj_346_51 : mc_P 346 51 = some (.aload_n 0, 1, 0, 0, 0) := by decide +kernel
theorem s_346_51 {x1 x2 x3 x4 x5 x6 x7 x8 : Option Value} {w : Value} : mw d 346 Q 51 [some w, x1, x2, x3, x4, x5, x6, x7, x8] (st) h = mv_a w (mw d 346 Q 52 [some w, x1, x2, x3, x4, x5, x6, x7, x8] (w :: st) h) := (mw_at mj_346_51).trans (z_aload_n rfl)
theorem mj_346_52 : mc_P 346 52 = some (.iload 8, 2, 0, 0, 0) := by decide +kernel
theorem s_346_52 {x0 x1 x2 x3 x4 x5 x6 x7 : Option Value} {w : Value} : mw d 346 Q 52 [x0, x1, x2, x3, x4, x5, x6, x7, some w] (st) h = mv_i w (mw d 346 Q 54 [x0, x1, x2, x3, x4, x5, x6, x7, some w] (w :: st) h) := (mw_at mj_346_52).trans (z_iload rfl)
theorem mj_346_54 : mc_P 346 54 = some (.invokevirtual 348, 3, 333, 14, 2) := by decide +kernel
theorem s_346_54 {x0 x1 x2 x3 x4 x5 x6 x7 x8 : Option Value} {o : Nat} {a1 : Value} : mw (d + 1) 346 Q 54 [x0, x1, x2, x3, x4, x5, x6, x7, x8] (a1 :: .ref o :: st) h = (mg h o 14 ∧ mca st 8 ∧ mca [.ref o, a1] 2 ∧ mcall d 333 [.ref o, a1] h (mK (d + 1) 346 Q 57 [x0, x1, x2, x3, x4, x5, x6, x7, x8] st)) := (mw_at mj_346_54).trans ((z_invv (As := [a1]) (by decide) rfl rfl).trans (congrArg (And _) (congrArg (And _) (mC_nl nl_333))))
theorem mj_346_57 : mc_P 346 57 = some (.istore 8, 2, 0, 0, 0) := by decide +kernel
theorem s_346_57 {x0 x1 x2 x3 x4 x5 x6 x7 x8 : Option Value} {w : Int32} : mw d 346 Q 57 [x0, x1, x2, x3, x4, x5, x6, x7, x8] (.int w :: st) h = mw d 346 Q 59 [x0, x1, x2, x3, x4, x5, x6, mk2 x7, some (.int w)] (st) h := (mw_at mj_346_57).trans (z_istore (Nat.le_of_ble_eq_true rfl) (me_s1_mk (j := 7) (w := x7) rfl))
theorem mj_346_59 : mc_P 346 59 = some (.goto (-36), 3, 0, 0, 0) := by decide +kernel
theorem s_346_59 {x0 x1 x2 x3 x4 x5 x6 x7 x8 : Option Value} : mw d 346 Q 59 [x0, x1, x2, x3, x4, x5, x6, x7, x8] (st) h = mw d 346 Q 23 [x0, x1, x2, x3, x4, x5, x6, x7, x8] (st) h := (mw_at mj_346_59).trans (z_goto (by decide))
theorem mj_346_62 : mc_P 346 62 = some (.aload_n 0, 1, 0, 0, 0) := by decide +kernel
theorem s_346_62 {x1 x2 x3 x4 x5 x6 x7 x8 : Option Value} {w : Value} : mw d 346 Q 62 [some w, x1, x2, x3, x4, x5, x6, x7, x8] (st) h = mv_a w (mw d 346 Q 63 [some w, x1, x2, x3, x4, x5, x6, x7, x8] (w :: st) h) := (mw_at mj_346_62).trans (z_aload_n rfl)
theorem mj_346_63 : mc_P 346 63 = some (.iload 5, 2, 0, 0, 0) := by decide +kernel
theorem s_346_63 {x0 x1 x2 x3 x4 x6 x7 x8 : Option Value} {w : Value} : mw d 346 Q 63 [x0, x1, x2, x3, x4, some w, x6, x7, x8] (st) h = mv_i w (mw d 346 Q 65 [x0, x1, x2, x3, x4, some w, x6, x7, x8] (w :: st) h) := (mw_at mj_346_63).trans (z_iload rfl)
theorem mj_346_65 : mc_P 346 65 = some (.putfield 357, 3, 14, 42, 0) := by decide +kernel
theorem s_346_65 {x0 x1 x2 x3 x4 x5 x6 x7 x8 : Option Value} {o : Nat} {w : Int32} : mw d 346 Q 65 [x0, x1, x2, x3, x4, x5, x6, x7, x8] (.int w :: .ref o :: st) h = (mg h o 14 ∧ mw d 346 Q 68 [x0, x1, x2, x3, x4, x5, x6, x7, x8] (st) (mh_si h o 42 w)) := (mw_at mj_346_65).trans (z_puti (by decide) (by decide) rfl)
theorem mj_346_68 : mc_P 346 68 = some (.aload_n 0, 1, 0, 0, 0) := by decide +kernel
theorem s_346_68 {x1 x2 x3 x4 x5 x6 x7 x8 : Option Value} {w : Value} : mw d 346 Q 68 [some w, x1, x2, x3, x4, x5, x6, x7, x8] (st) h = mv_a w (mw d 346 Q 69 [some w, x1, x2, x3, x4, x5, x6, x7, x8] (w :: st) h) := (mw_at mj_346_68).trans (z_aload_n rfl)
theorem mj_346_69 : mc_P 346 69 = some (.iload 6, 2, 0, 0, 0) := by decide +kernel
theorem s_346_69 {x0 x1 x2 x3 x4 x5 x7 x8 : Option Value} {w : Value} : mw d 346 Q 69 [x0, x1, x2, x3, x4, x5, some w, x7, x8] (st) h = mv_i w (mw d 346 Q 71 [x0, x1, x2, x3, x4, x5, some w, x7, x8] (w :: st) h) := (mw_at mj_346_69).trans (z_iload rfl)
theorem mj_346_71 : mc_P 346 71 = some (.putfield 376, 3, 14, 45, 0) := by decide +kernel
theorem s_346_71 {x0 x1 x2 x3 x4 x5 x6 x7 x8 : Option Value} {o : Nat} {w : Int32} : mw d 346 Q 71 [x0, x1, x2, x3, x4, x5, x6, x7, x8] (.int w :: .ref o :: st) h = (mg h o 14 ∧ mw d 346 Q 74 [x0, x1, x2, x3, x4, x5, x6, x7, x8] (st) (mh_si h o 45 w)) := (mw_at mj_346_71).trans (z_puti (by decide) (by decide) rfl)
theorem mj_346_74 : mc_P 346 74 = some (.aload_n 0, 1, 0, 0, 0) := by decide +kernel
theorem s_346_74 {x1 x2 x3 x4 x5 x6 x7 x8 : Option Value} {w : Value} : mw d 346 Q 74 [some w, x1, x2, x3, x4, x5, x6, x7, x8] (st) h = mv_a w (mw d 346 Q 75 [some w, x1, x2, x3, x4, x5, x6, x7, x8] (w :: st) h) := (mw_at mj_346_74).trans (z_aload_n rfl)
theorem mj_346_75 : mc_P 346 75 = some (.iload 7, 2, 0, 0, 0) := by decide +kernel
theorem s_346_75 {x0 x1 x2 x3 x4 x5 x6 x8 : Option Value} {w : Value} : mw d 346 Q 75 [x0, x1, x2, x3, x4, x5, x6, some w, x8] (st) h = mv_i w (mw d 346 Q 77 [x0, x1, x2, x3, x4, x5, x6, some w, x8] (w :: st) h) := (mw_at mj_346_75).trans (z_iload rfl)
theorem mj_346_77 : mc_P 346 77 = some (.putfield 379, 3, 14, 46, 0) := by decide +kernel
theorem s_346_77 {x0 x1 x2 x3 x4 x5 x6 x7 x8 : Option Value} {o : Nat} {w : Int32} : mw d 346 Q 77 [x0, x1, x2, x3, x4, x5, x6, x7, x8] (.int w :: .ref o :: st) h = (mg h o 14 ∧ mw d 346 Q 80 [x0, x1, x2, x3, x4, x5, x6, x7, x8] (st) (mh_si h o 46 w)) := (mw_at mj_346_77).trans (z_puti (by decide) (by decide) rfl)
theorem mj_346_80 : mc_P 346 80 = some (.return_, 1, 0, 0, 0) := by decide +kernel
theorem s_346_80 {x0 x1 x2 x3 x4 x5 x6 x7 x8 : Option Value} : mw d 346 Q 80 [x0, x1, x2, x3, x4, x5, x6, x7, x8] ([]) h = Q none h := (mw_at mj_346_80).trans (z_vret)
theorem e_346 {a0 : Nat} {a1 : Int32} {a2 : Int32} {a3 : Int32} {a4 : Int32} : mcall d 346 [.ref a0, .int a1, .int a2, .int a3, .int a4] h Q = mw d 346 Q 0 [some (.ref a0), some (.int a1), some (.int a2), some (.int a3), some (.int a4), none, none, none, none] [] h := by
  show mw d 346 Q 0 (me_en (mc_nl 346) _) [] h = _
  rw [nl_346]; rfl

/-! InvariantDeskModel.statement(IIIII)V -/
theorem mj_347_0 : mc_P 347 0 = some (.aload_n 0, 1, 0, 0, 0) := by decide +kernel
theorem s_347_0 {x1 x2 x3 x4 x5 x6 x7 x8 x9 : Option Value} {w : Value} : mw d 347 Q 0 [some w, x1, x2, x3, x4, x5, x6, x7, x8, x9] (st) h = mv_a w (mw d 347 Q 1 [some w, x1, x2, x3, x4, x5, x6, x7, x8, x9] (w :: st) h) := (mw_at mj_347_0).trans (z_aload_n rfl)
theorem mj_347_1 : mc_P 347 1 = some (.getfield 176, 3, 14, 33, 0) := by decide +kernel
theorem s_347_1 {x0 x1 x2 x3 x4 x5 x6 x7 x8 x9 : Option Value} {o : Nat} : mw d 347 Q 1 [x0, x1, x2, x3, x4, x5, x6, x7, x8, x9] (.ref o :: st) h = (mg h o 14 ∧ mw d 347 Q 4 [x0, x1, x2, x3, x4, x5, x6, x7, x8, x9] (.int (mh_i h o 33) :: st) h) := (mw_at mj_347_1).trans (z_geti (by decide) (by decide) (Or.inl rfl))
theorem mj_347_4 : mc_P 347 4 = some (.sipush 249, 3, 0, 0, 0) := by decide +kernel
theorem s_347_4 {x0 x1 x2 x3 x4 x5 x6 x7 x8 x9 : Option Value} : mw d 347 Q 4 [x0, x1, x2, x3, x4, x5, x6, x7, x8, x9] (st) h = mw d 347 Q 7 [x0, x1, x2, x3, x4, x5, x6, x7, x8, x9] (.int 249 :: st) h := (mw_at mj_347_4).trans (z_sipush (by decide))
theorem mj_347_7 : mc_P 347 7 = some (.if_icmp .ne 12, 3, 0, 0, 0) := by decide +kernel
theorem s_347_7 {x0 x1 x2 x3 x4 x5 x6 x7 x8 x9 : Option Value} {x w : Int32} : mw d 347 Q 7 [x0, x1, x2, x3, x4, x5, x6, x7, x8, x9] (.int w :: .int x :: st) h = mB (¬ x = w) (mw d 347 Q) 19 10 [x0, x1, x2, x3, x4, x5, x6, x7, x8, x9] st h := (mw_at mj_347_7).trans (z_icmp_ne (by decide) rfl)
theorem mj_347_10 : mc_P 347 10 = some (.aload_n 0, 1, 0, 0, 0) := by decide +kernel
theorem s_347_10 {x1 x2 x3 x4 x5 x6 x7 x8 x9 : Option Value} {w : Value} : mw d 347 Q 10 [some w, x1, x2, x3, x4, x5, x6, x7, x8, x9] (st) h = mv_a w (mw d 347 Q 11 [some w, x1, x2, x3, x4, x5, x6, x7, x8, x9] (w :: st) h) := (mw_at mj_347_10).trans (z_aload_n rfl)
theorem mj_347_11 : mc_P 347 11 = some (.bipush 11, 2, 0, 0, 0) := by decide +kernel
theorem s_347_11 {x0 x1 x2 x3 x4 x5 x6 x7 x8 x9 : Option Value} : mw d 347 Q 11 [x0, x1, x2, x3, x4, x5, x6, x7, x8, x9] (st) h = mw d 347 Q 13 [x0, x1, x2, x3, x4, x5, x6, x7, x8, x9] (.int 11 :: st) h := (mw_at mj_347_11).trans (z_bipush (by decide))
theorem mj_347_13 : mc_P 347 13 = some (.iload_n 1, 1, 0, 0, 0) := by decide +kernel
theorem s_347_13 {x0 x2 x3 x4 x5 x6 x7 x8 x9 : Option Value} {w : Value} : mw d 347 Q 13 [x0, some w, x2, x3, x4, x5, x6, x7, x8, x9] (st) h = mv_i w (mw d 347 Q 14 [x0, some w, x2, x3, x4, x5, x6, x7, x8, x9] (w :: st) h) := (mw_at mj_347_13).trans (z_iload_n rfl)
theorem mj_347_14 : mc_P 347 14 = some (.invokevirtual 366, 3, 335, 14, 3) := by decide +kernel
theorem s_347_14 {x0 x1 x2 x3 x4 x5 x6 x7 x8 x9 : Option Value} {o : Nat} {a1 a2 : Value} : mw (d + 1) 347 Q 14 [x0, x1, x2, x3, x4, x5, x6, x7, x8, x9] (a2 :: a1 :: .ref o :: st) h = (mg h o 14 ∧ mca st 8 ∧ mca [.ref o, a1, a2] 3 ∧ mcall d 335 [.ref o, a1, a2] h (mK (d + 1) 347 Q 17 [x0, x1, x2, x3, x4, x5, x6, x7, x8, x9] st)) := (mw_at mj_347_14).trans ((z_invv (As := [a1, a2]) (by decide) rfl rfl).trans (congrArg (And _) (congrArg (And _) (mC_nl nl_335))))
theorem mj_347_17 : mc_P 347 17 = some (.pop, 1, 0, 0, 0) := by decide +kernel
theorem s_347_17 {x0 x1 x2 x3 x4 x5 x6 x7 x8 x9 : Option Value} {w : Value} : mw d 347 Q 17 [x0, x1, x2, x3, x4, x5, x6, x7, x8, x9] (w :: st) h = (w.category = 1 ∧ mw d 347 Q 18 [x0, x1, x2, x3, x4, x5, x6, x7, x8, x9] (st) h) := (mw_at mj_347_17).trans (z_pop)
theorem mj_347_18 : mc_P 347 18 = some (.return_, 1, 0, 0, 0) := by decide +kernel
theorem s_347_18 {x0 x1 x2 x3 x4 x5 x6 x7 x8 x9 : Option Value} : mw d 347 Q 18 [x0, x1, x2, x3, x4, x5, x6, x7, x8, x9] ([]) h = Q none h := (mw_at mj_347_18).trans (z_vret)
theorem mj_347_19 : mc_P 347 19 = some (.aload_n 0, 1, 0, 0, 0) := by decide +kernel
theorem s_347_19 {x1 x2 x3 x4 x5 x6 x7 x8 x9 : Option Value} {w : Value} : mw d 347 Q 19 [some w, x1, x2, x3, x4, x5, x6, x7, x8, x9] (st) h = mv_a w (mw d 347 Q 20 [some w, x1, x2, x3, x4, x5, x6, x7, x8, x9] (w :: st) h) := (mw_at mj_347_19).trans (z_aload_n rfl)
theorem mj_347_20 : mc_P 347 20 = some (.getfield 176, 3, 14, 33, 0) := by decide +kernel
theorem s_347_20 {x0 x1 x2 x3 x4 x5 x6 x7 x8 x9 : Option Value} {o : Nat} : mw d 347 Q 20 [x0, x1, x2, x3, x4, x5, x6, x7, x8, x9] (.ref o :: st) h = (mg h o 14 ∧ mw d 347 Q 23 [x0, x1, x2, x3, x4, x5, x6, x7, x8, x9] (.int (mh_i h o 33) :: st) h) := (mw_at mj_347_20).trans (z_geti (by decide) (by decide) (Or.inl rfl))
theorem mj_347_23 : mc_P 347 23 = some (.istore 6, 2, 0, 0, 0) := by decide +kernel
theorem s_347_23 {x0 x1 x2 x3 x4 x5 x6 x7 x8 x9 : Option Value} {w : Int32} : mw d 347 Q 23 [x0, x1, x2, x3, x4, x5, x6, x7, x8, x9] (.int w :: st) h = mw d 347 Q 25 [x0, x1, x2, x3, x4, mk2 x5, some (.int w), x7, x8, x9] (st) h := (mw_at mj_347_23).trans (z_istore (Nat.le_of_ble_eq_true rfl) (me_s1_mk (j := 5) (w := x5) rfl))
theorem mj_347_25 : mc_P 347 25 = some (.aload_n 0, 1, 0, 0, 0) := by decide +kernel
theorem s_347_25 {x1 x2 x3 x4 x5 x6 x7 x8 x9 : Option Value} {w : Value} : mw d 347 Q 25 [some w, x1, x2, x3, x4, x5, x6, x7, x8, x9] (st) h = mv_a w (mw d 347 Q 26 [some w, x1, x2, x3, x4, x5, x6, x7, x8, x9] (w :: st) h) := (mw_at mj_347_25).trans (z_aload_n rfl)
theorem mj_347_26 : mc_P 347 26 = some (.dup, 1, 0, 0, 0) := by decide +kernel
theorem s_347_26 {x0 x1 x2 x3 x4 x5 x6 x7 x8 x9 : Option Value} {w : Value} : mw d 347 Q 26 [x0, x1, x2, x3, x4, x5, x6, x7, x8, x9] (w :: st) h = (w.category = 1 ∧ mw d 347 Q 27 [x0, x1, x2, x3, x4, x5, x6, x7, x8, x9] (w :: w :: st) h) := (mw_at mj_347_26).trans (z_dup)
theorem mj_347_27 : mc_P 347 27 = some (.getfield 176, 3, 14, 33, 0) := by decide +kernel
theorem s_347_27 {x0 x1 x2 x3 x4 x5 x6 x7 x8 x9 : Option Value} {o : Nat} : mw d 347 Q 27 [x0, x1, x2, x3, x4, x5, x6, x7, x8, x9] (.ref o :: st) h = (mg h o 14 ∧ mw d 347 Q 30 [x0, x1, x2, x3, x4, x5, x6, x7, x8, x9] (.int (mh_i h o 33) :: st) h) := (mw_at mj_347_27).trans (z_geti (by decide) (by decide) (Or.inl rfl))
theorem mj_347_30 : mc_P 347 30 = some (.iconst 1, 1, 0, 0, 0) := by decide +kernel
theorem s_347_30 {x0 x1 x2 x3 x4 x5 x6 x7 x8 x9 : Option Value} : mw d 347 Q 30 [x0, x1, x2, x3, x4, x5, x6, x7, x8, x9] (st) h = mw d 347 Q 31 [x0, x1, x2, x3, x4, x5, x6, x7, x8, x9] (.int 1 :: st) h := (mw_at mj_347_30).trans (z_iconst (by decide))
theorem mj_347_31 : mc_P 347 31 = some (.iadd, 1, 0, 0, 0) := by decide +kernel
theorem s_347_31 {x0 x1 x2 x3 x4 x5 x6 x7 x8 x9 : Option Value} {x w : Int32} : mw d 347 Q 31 [x0, x1, x2, x3, x4, x5, x6, x7, x8, x9] (.int w :: .int x :: st) h = mw d 347 Q 32 [x0, x1, x2, x3, x4, x5, x6, x7, x8, x9] (.int (x + w) :: st) h := (mw_at mj_347_31).trans (z_iadd)
theorem mj_347_32 : mc_P 347 32 = some (.putfield 176, 3, 14, 33, 0) := by decide +kernel
theorem s_347_32 {x0 x1 x2 x3 x4 x5 x6 x7 x8 x9 : Option Value} {o : Nat} {w : Int32} : mw d 347 Q 32 [x0, x1, x2, x3, x4, x5, x6, x7, x8, x9] (.int w :: .ref o :: st) h = (mg h o 14 ∧ mw d 347 Q 35 [x0, x1, x2, x3, x4, x5, x6, x7, x8, x9] (st) (mh_si h o 33 w)) := (mw_at mj_347_32).trans (z_puti (by decide) (by decide) rfl)
theorem mj_347_35 : mc_P 347 35 = some (.aload_n 0, 1, 0, 0, 0) := by decide +kernel
theorem s_347_35 {x1 x2 x3 x4 x5 x6 x7 x8 x9 : Option Value} {w : Value} : mw d 347 Q 35 [some w, x1, x2, x3, x4, x5, x6, x7, x8, x9] (st) h = mv_a w (mw d 347 Q 36 [some w, x1, x2, x3, x4, x5, x6, x7, x8, x9] (w :: st) h) := (mw_at mj_347_35).trans (z_aload_n rfl)
theorem mj_347_36 : mc_P 347 36 = some (.getfield 70, 3, 14, 28, 0) := by decide +kernel
theorem s_347_36 {x0 x1 x2 x3 x4 x5 x6 x7 x8 x9 : Option Value} {o : Nat} : mw d 347 Q 36 [x0, x1, x2, x3, x4, x5, x6, x7, x8, x9] (.ref o :: st) h = (mg h o 14 ∧ mw d 347 Q 39 [x0, x1, x2, x3, x4, x5, x6, x7, x8, x9] (va_rf (mh_r h o 28) :: st) h) := (mw_at mj_347_36).trans (z_getr (by decide) (by decide) rfl)
theorem mj_347_39 : mc_P 347 39 = some (.iload 6, 2, 0, 0, 0) := by decide +kernel
theorem s_347_39 {x0 x1 x2 x3 x4 x5 x7 x8 x9 : Option Value} {w : Value} : mw d 347 Q 39 [x0, x1, x2, x3, x4, x5, some w, x7, x8, x9] (st) h = mv_i w (mw d 347 Q 41 [x0, x1, x2, x3, x4, x5, some w, x7, x8, x9] (w :: st) h) := (mw_at mj_347_39).trans (z_iload rfl)
theorem mj_347_41 : mc_P 347 41 = some (.iload_n 1, 1, 0, 0, 0) := by decide +kernel
theorem s_347_41 {x0 x2 x3 x4 x5 x6 x7 x8 x9 : Option Value} {w : Value} : mw d 347 Q 41 [x0, some w, x2, x3, x4, x5, x6, x7, x8, x9] (st) h = mv_i w (mw d 347 Q 42 [x0, some w, x2, x3, x4, x5, x6, x7, x8, x9] (w :: st) h) := (mw_at mj_347_41).trans (z_iload_n rfl)
theorem mj_347_42 : mc_P 347 42 = some (.iastore, 1, 0, 0, 0) := by decide +kernel
theorem s_347_42 {x0 x1 x2 x3 x4 x5 x6 x7 x8 x9 : Option Value} {o : Nat} {i w : Int32} : mw d 347 Q 42 [x0, x1, x2, x3, x4, x5, x6, x7, x8, x9] (.int w :: .int i :: .ref o :: st) h = (mg h o 100 ∧ mx i (mh_l h o) ∧ mw d 347 Q 43 [x0, x1, x2, x3, x4, x5, x6, x7, x8, x9] (st) (mh_si h o i.toNatClampNeg w)) := (mw_at mj_347_42).trans (z_iast)
theorem mj_347_43 : mc_P 347 43 = some (.aload_n 0, 1, 0, 0, 0) := by decide +kernel
theorem s_347_43 {x1 x2 x3 x4 x5 x6 x7 x8 x9 : Option Value} {w : Value} : mw d 347 Q 43 [some w, x1, x2, x3, x4, x5, x6, x7, x8, x9] (st) h = mv_a w (mw d 347 Q 44 [some w, x1, x2, x3, x4, x5, x6, x7, x8, x9] (w :: st) h) := (mw_at mj_347_43).trans (z_aload_n rfl)
theorem mj_347_44 : mc_P 347 44 = some (.getfield 73, 3, 14, 29, 0) := by decide +kernel
theorem s_347_44 {x0 x1 x2 x3 x4 x5 x6 x7 x8 x9 : Option Value} {o : Nat} : mw d 347 Q 44 [x0, x1, x2, x3, x4, x5, x6, x7, x8, x9] (.ref o :: st) h = (mg h o 14 ∧ mw d 347 Q 47 [x0, x1, x2, x3, x4, x5, x6, x7, x8, x9] (va_rf (mh_r h o 29) :: st) h) := (mw_at mj_347_44).trans (z_getr (by decide) (by decide) rfl)
theorem mj_347_47 : mc_P 347 47 = some (.iload 6, 2, 0, 0, 0) := by decide +kernel
theorem s_347_47 {x0 x1 x2 x3 x4 x5 x7 x8 x9 : Option Value} {w : Value} : mw d 347 Q 47 [x0, x1, x2, x3, x4, x5, some w, x7, x8, x9] (st) h = mv_i w (mw d 347 Q 49 [x0, x1, x2, x3, x4, x5, some w, x7, x8, x9] (w :: st) h) := (mw_at mj_347_47).trans (z_iload rfl)
theorem mj_347_49 : mc_P 347 49 = some (.iload 4, 2, 0, 0, 0) := by decide +kernel
theorem s_347_49 {x0 x1 x2 x3 x5 x6 x7 x8 x9 : Option Value} {w : Value} : mw d 347 Q 49 [x0, x1, x2, x3, some w, x5, x6, x7, x8, x9] (st) h = mv_i w (mw d 347 Q 51 [x0, x1, x2, x3, some w, x5, x6, x7, x8, x9] (w :: st) h) := (mw_at mj_347_49).trans (z_iload rfl)
theorem mj_347_51 : mc_P 347 51 = some (.iastore, 1, 0, 0, 0) := by decide +kernel
theorem s_347_51 {x0 x1 x2 x3 x4 x5 x6 x7 x8 x9 : Option Value} {o : Nat} {i w : Int32} : mw d 347 Q 51 [x0, x1, x2, x3, x4, x5, x6, x7, x8, x9] (.int w :: .int i :: .ref o :: st) h = (mg h o 100 ∧ mx i (mh_l h o) ∧ mw d 347 Q 52 [x0, x1, x2, x3, x4, x5, x6, x7, x8, x9] (st) (mh_si h o i.toNatClampNeg w)) := (mw_at mj_347_51).trans (z_iast)
theorem mj_347_52 : mc_P 347 52 = some (.aload_n 0, 1, 0, 0, 0) := by decide +kernel
theorem s_347_52 {x1 x2 x3 x4 x5 x6 x7 x8 x9 : Option Value} {w : Value} : mw d 347 Q 52 [some w, x1, x2, x3, x4, x5, x6, x7, x8, x9] (st) h = mv_a w (mw d 347 Q 53 [some w, x1, x2, x3, x4, x5, x6, x7, x8, x9] (w :: st) h) := (mw_at mj_347_52).trans (z_aload_n rfl)
theorem mj_347_53 : mc_P 347 53 = some (.getfield 79, 3, 14, 31, 0) := by decide +kernel
theorem s_347_53 {x0 x1 x2 x3 x4 x5 x6 x7 x8 x9 : Option Value} {o : Nat} : mw d 347 Q 53 [x0, x1, x2, x3, x4, x5, x6, x7, x8, x9] (.ref o :: st) h = (mg h o 14 ∧ mw d 347 Q 56 [x0, x1, x2, x3, x4, x5, x6, x7, x8, x9] (va_rf (mh_r h o 31) :: st) h) := (mw_at mj_347_53).trans (z_getr (by decide) (by decide) rfl)
theorem mj_347_56 : mc_P 347 56 = some (.iload 6, 2, 0, 0, 0) := by decide +kernel
theorem s_347_56 {x0 x1 x2 x3 x4 x5 x7 x8 x9 : Option Value} {w : Value} : mw d 347 Q 56 [x0, x1, x2, x3, x4, x5, some w, x7, x8, x9] (st) h = mv_i w (mw d 347 Q 58 [x0, x1, x2, x3, x4, x5, some w, x7, x8, x9] (w :: st) h) := (mw_at mj_347_56).trans (z_iload rfl)
theorem mj_347_58 : mc_P 347 58 = some (.aload_n 0, 1, 0, 0, 0) := by decide +kernel
theorem s_347_58 {x1 x2 x3 x4 x5 x6 x7 x8 x9 : Option Value} {w : Value} : mw d 347 Q 58 [some w, x1, x2, x3, x4, x5, x6, x7, x8, x9] (st) h = mv_a w (mw d 347 Q 59 [some w, x1, x2, x3, x4, x5, x6, x7, x8, x9] (w :: st) h) := (mw_at mj_347_58).trans (z_aload_n rfl)
theorem mj_347_59 : mc_P 347 59 = some (.getfield 376, 3, 14, 45, 0) := by decide +kernel
theorem s_347_59 {x0 x1 x2 x3 x4 x5 x6 x7 x8 x9 : Option Value} {o : Nat} : mw d 347 Q 59 [x0, x1, x2, x3, x4, x5, x6, x7, x8, x9] (.ref o :: st) h = (mg h o 14 ∧ mw d 347 Q 62 [x0, x1, x2, x3, x4, x5, x6, x7, x8, x9] (.int (mh_i h o 45) :: st) h) := (mw_at mj_347_59).trans (z_geti (by decide) (by decide) (Or.inl rfl))
theorem mj_347_62 : mc_P 347 62 = some (.iastore, 1, 0, 0, 0) := by decide +kernel
theorem s_347_62 {x0 x1 x2 x3 x4 x5 x6 x7 x8 x9 : Option Value} {o : Nat} {i w : Int32} : mw d 347 Q 62 [x0, x1, x2, x3, x4, x5, x6, x7, x8, x9] (.int w :: .int i :: .ref o :: st) h = (mg h o 100 ∧ mx i (mh_l h o) ∧ mw d 347 Q 63 [x0, x1, x2, x3, x4, x5, x6, x7, x8, x9] (st) (mh_si h o i.toNatClampNeg w)) := (mw_at mj_347_62).trans (z_iast)
theorem mj_347_63 : mc_P 347 63 = some (.aload_n 0, 1, 0, 0, 0) := by decide +kernel
theorem s_347_63 {x1 x2 x3 x4 x5 x6 x7 x8 x9 : Option Value} {w : Value} : mw d 347 Q 63 [some w, x1, x2, x3, x4, x5, x6, x7, x8, x9] (st) h = mv_a w (mw d 347 Q 64 [some w, x1, x2, x3, x4, x5, x6, x7, x8, x9] (w :: st) h) := (mw_at mj_347_63).trans (z_aload_n rfl)
theorem mj_347_64 : mc_P 347 64 = some (.getfield 82, 3, 14, 32, 0) := by decide +kernel
theorem s_347_64 {x0 x1 x2 x3 x4 x5 x6 x7 x8 x9 : Option Value} {o : Nat} : mw d 347 Q 64 [x0, x1, x2, x3, x4, x5, x6, x7, x8, x9] (.ref o :: st) h = (mg h o 14 ∧ mw d 347 Q 67 [x0, x1, x2, x3, x4, x5, x6, x7, x8, x9] (va_rf (mh_r h o 32) :: st) h) := (mw_at mj_347_64).trans (z_getr (by decide) (by decide) rfl)
theorem mj_347_67 : mc_P 347 67 = some (.iload 6, 2, 0, 0, 0) := by decide +kernel
theorem s_347_67 {x0 x1 x2 x3 x4 x5 x7 x8 x9 : Option Value} {w : Value} : mw d 347 Q 67 [x0, x1, x2, x3, x4, x5, some w, x7, x8, x9] (st) h = mv_i w (mw d 347 Q 69 [x0, x1, x2, x3, x4, x5, some w, x7, x8, x9] (w :: st) h) := (mw_at mj_347_67).trans (z_iload rfl)
theorem mj_347_69 : mc_P 347 69 = some (.aload_n 0, 1, 0, 0, 0) := by decide +kernel
theorem s_347_69 {x1 x2 x3 x4 x5 x6 x7 x8 x9 : Option Value} {w : Value} : mw d 347 Q 69 [some w, x1, x2, x3, x4, x5, x6, x7, x8, x9] (st) h = mv_a w (mw d 347 Q 70 [some w, x1, x2, x3, x4, x5, x6, x7, x8, x9] (w :: st) h) := (mw_at mj_347_69).trans (z_aload_n rfl)
theorem mj_347_70 : mc_P 347 70 = some (.getfield 379, 3, 14, 46, 0) := by decide +kernel
theorem s_347_70 {x0 x1 x2 x3 x4 x5 x6 x7 x8 x9 : Option Value} {o : Nat} : mw d 347 Q 70 [x0, x1, x2, x3, x4, x5, x6, x7, x8, x9] (.ref o :: st) h = (mg h o 14 ∧ mw d 347 Q 73 [x0, x1, x2, x3, x4, x5, x6, x7, x8, x9] (.int (mh_i h o 46) :: st) h) := (mw_at mj_347_70).trans (z_geti (by decide) (by decide) (Or.inl rfl))
theorem mj_347_73 : mc_P 347 73 = some (.iastore, 1, 0, 0, 0) := by decide +kernel
theorem s_347_73 {x0 x1 x2 x3 x4 x5 x6 x7 x8 x9 : Option Value} {o : Nat} {i w : Int32} : mw d 347 Q 73 [x0, x1, x2, x3, x4, x5, x6, x7, x8, x9] (.int w :: .int i :: .ref o :: st) h = (mg h o 100 ∧ mx i (mh_l h o) ∧ mw d 347 Q 74 [x0, x1, x2, x3, x4, x5, x6, x7, x8, x9] (st) (mh_si h o i.toNatClampNeg w)) := (mw_at mj_347_73).trans (z_iast)
theorem mj_347_74 : mc_P 347 74 = some (.iconst 0, 1, 0, 0, 0) := by decide +kernel
theorem s_347_74 {x0 x1 x2 x3 x4 x5 x6 x7 x8 x9 : Option Value} : mw d 347 Q 74 [x0, x1, x2, x3, x4, x5, x6, x7, x8, x9] (st) h = mw d 347 Q 75 [x0, x1, x2, x3, x4, x5, x6, x7, x8, x9] (.int 0 :: st) h := (mw_at mj_347_74).trans (z_iconst (by decide))
theorem mj_347_75 : mc_P 347 75 = some (.istore 7, 2, 0, 0, 0) := by decide +kernel
theorem s_347_75 {x0 x1 x2 x3 x4 x5 x6 x7 x8 x9 : Option Value} {w : Int32} : mw d 347 Q 75 [x0, x1, x2, x3, x4, x5, x6, x7, x8, x9] (.int w :: st) h = mw d 347 Q 77 [x0, x1, x2, x3, x4, x5, mk2 x6, some (.int w), x8, x9] (st) h := (mw_at mj_347_75).trans (z_istore (Nat.le_of_ble_eq_true rfl) (me_s1_mk (j := 6) (w := x6) rfl))
theorem mj_347_77 : mc_P 347 77 = some (.iload 7, 2, 0, 0, 0) := by decide +kernel
theorem s_347_77 {x0 x1 x2 x3 x4 x5 x6 x8 x9 : Option Value} {w : Value} : mw d 347 Q 77 [x0, x1, x2, x3, x4, x5, x6, some w, x8, x9] (st) h = mv_i w (mw d 347 Q 79 [x0, x1, x2, x3, x4, x5, x6, some w, x8, x9] (w :: st) h) := (mw_at mj_347_77).trans (z_iload rfl)
theorem mj_347_79 : mc_P 347 79 = some (.aload_n 0, 1, 0, 0, 0) := by decide +kernel
theorem s_347_79 {x1 x2 x3 x4 x5 x6 x7 x8 x9 : Option Value} {w : Value} : mw d 347 Q 79 [some w, x1, x2, x3, x4, x5, x6, x7, x8, x9] (st) h = mv_a w (mw d 347 Q 80 [some w, x1, x2, x3, x4, x5, x6, x7, x8, x9] (w :: st) h) := (mw_at mj_347_79).trans (z_aload_n rfl)
theorem mj_347_80 : mc_P 347 80 = some (.getfield 357, 3, 14, 42, 0) := by decide +kernel
theorem s_347_80 {x0 x1 x2 x3 x4 x5 x6 x7 x8 x9 : Option Value} {o : Nat} : mw d 347 Q 80 [x0, x1, x2, x3, x4, x5, x6, x7, x8, x9] (.ref o :: st) h = (mg h o 14 ∧ mw d 347 Q 83 [x0, x1, x2, x3, x4, x5, x6, x7, x8, x9] (.int (mh_i h o 42) :: st) h) := (mw_at mj_347_80).trans (z_geti (by decide) (by decide) (Or.inl rfl))
theorem mj_347_83 : mc_P 347 83 = some (.if_icmp .ge 72, 3, 0, 0, 0) := by decide +kernel
theorem s_347_83 {x0 x1 x2 x3 x4 x5 x6 x7 x8 x9 : Option Value} {x w : Int32} : mw d 347 Q 83 [x0, x1, x2, x3, x4, x5, x6, x7, x8, x9] (.int w :: .int x :: st) h = mB (w ≤ x) (mw d 347 Q) 155 86 [x0, x1, x2, x3, x4, x5, x6, x7, x8, x9] st h := (mw_at mj_347_83).trans (z_icmp_ge (by decide) rfl)
theorem mj_347_86 : mc_P 347 86 = some (.aload_n 0, 1, 0, 0, 0) := by decide +kernel
theorem s_347_86 {x1 x2 x3 x4 x5 x6 x7 x8 x9 : Option Value} {w : Value} : mw d 347 Q 86 [some w, x1, x2, x3, x4, x5, x6, x7, x8, x9] (st) h = mv_a w (mw d 347 Q 87 [some w, x1, x2, x3, x4, x5, x6, x7, x8, x9] (w :: st) h) := (mw_at mj_347_86).trans (z_aload_n rfl)
theorem mj_347_87 : mc_P 347 87 = some (.getfield 103, 3, 14, 40, 0) := by decide +kernel
theorem s_347_87 {x0 x1 x2 x3 x4 x5 x6 x7 x8 x9 : Option Value} {o : Nat} : mw d 347 Q 87 [x0, x1, x2, x3, x4, x5, x6, x7, x8, x9] (.ref o :: st) h = (mg h o 14 ∧ mw d 347 Q 90 [x0, x1, x2, x3, x4, x5, x6, x7, x8, x9] (va_rf (mh_r h o 40) :: st) h) := (mw_at mj_347_87).trans (z_getr (by decide) (by decide) rfl)
theorem mj_347_90 : mc_P 347 90 = some (.iload 7, 2, 0, 0, 0) := by decide +kernel
theorem s_347_90 {x0 x1 x2 x3 x4 x5 x6 x8 x9 : Option Value} {w : Value} : mw d 347 Q 90 [x0, x1, x2, x3, x4, x5, x6, some w, x8, x9] (st) h = mv_i w (mw d 347 Q 92 [x0, x1, x2, x3, x4, x5, x6, some w, x8, x9] (w :: st) h) := (mw_at mj_347_90).trans (z_iload rfl)
theorem mj_347_92 : mc_P 347 92 = some (.iaload, 1, 0, 0, 0) := by decide +kernel
theorem s_347_92 {x0 x1 x2 x3 x4 x5 x6 x7 x8 x9 : Option Value} {o : Nat} {i : Int32} : mw d 347 Q 92 [x0, x1, x2, x3, x4, x5, x6, x7, x8, x9] (.int i :: .ref o :: st) h = (mg h o 100 ∧ mx i (mh_l h o) ∧ mw d 347 Q 93 [x0, x1, x2, x3, x4, x5, x6, x7, x8, x9] (.int (mh_i h o i.toNatClampNeg) :: st) h) := (mw_at mj_347_92).trans (z_iald)
theorem mj_347_93 : mc_P 347 93 = some (.ifCond .ne 31, 3, 0, 0, 0) := by decide +kernel
theorem s_347_93 {x0 x1 x2 x3 x4 x5 x6 x7 x8 x9 : Option Value} {x : Int32} : mw d 347 Q 93 [x0, x1, x2, x3, x4, x5, x6, x7, x8, x9] (.int x :: st) h = mB (¬ x = 0) (mw d 347 Q) 124 96 [x0, x1, x2, x3, x4, x5, x6, x7, x8, x9] st h := (mw_at mj_347_93).trans (z_if_ne (by decide) rfl)
theorem mj_347_96 : mc_P 347 96 = some (.aload_n 0, 1, 0, 0, 0) := by decide +kernel
theorem s_347_96 {x1 x2 x3 x4 x5 x6 x7 x8 x9 : Option Value} {w : Value} : mw d 347 Q 96 [some w, x1, x2, x3, x4, x5, x6, x7, x8, x9] (st) h = mv_a w (mw d 347 Q 97 [some w, x1, x2, x3, x4, x5, x6, x7, x8, x9] (w :: st) h) := (mw_at mj_347_96).trans (z_aload_n rfl)
theorem mj_347_97 : mc_P 347 97 = some (.getfield 112, 3, 14, 50, 0) := by decide +kernel
theorem s_347_97 {x0 x1 x2 x3 x4 x5 x6 x7 x8 x9 : Option Value} {o : Nat} : mw d 347 Q 97 [x0, x1, x2, x3, x4, x5, x6, x7, x8, x9] (.ref o :: st) h = (mg h o 14 ∧ mw d 347 Q 100 [x0, x1, x2, x3, x4, x5, x6, x7, x8, x9] (va_rf (mh_r h o 50) :: st) h) := (mw_at mj_347_97).trans (z_getr (by decide) (by decide) rfl)
theorem mj_347_100 : mc_P 347 100 = some (.bipush 12, 2, 0, 0, 0) := by decide +kernel
theorem s_347_100 {x0 x1 x2 x3 x4 x5 x6 x7 x8 x9 : Option Value} : mw d 347 Q 100 [x0, x1, x2, x3, x4, x5, x6, x7, x8, x9] (st) h = mw d 347 Q 102 [x0, x1, x2, x3, x4, x5, x6, x7, x8, x9] (.int 12 :: st) h := (mw_at mj_347_100).trans (z_bipush (by decide))
theorem mj_347_102 : mc_P 347 102 = some (.iload 6, 2, 0, 0, 0) := by decide +kernel
theorem s_347_102 {x0 x1 x2 x3 x4 x5 x7 x8 x9 : Option Value} {w : Value} : mw d 347 Q 102 [x0, x1, x2, x3, x4, x5, some w, x7, x8, x9] (st) h = mv_i w (mw d 347 Q 104 [x0, x1, x2, x3, x4, x5, some w, x7, x8, x9] (w :: st) h) := (mw_at mj_347_102).trans (z_iload rfl)
theorem mj_347_104 : mc_P 347 104 = some (.imul, 1, 0, 0, 0) := by decide +kernel
theorem s_347_104 {x0 x1 x2 x3 x4 x5 x6 x7 x8 x9 : Option Value} {x w : Int32} : mw d 347 Q 104 [x0, x1, x2, x3, x4, x5, x6, x7, x8, x9] (.int w :: .int x :: st) h = mw d 347 Q 105 [x0, x1, x2, x3, x4, x5, x6, x7, x8, x9] (.int (x * w) :: st) h := (mw_at mj_347_104).trans (z_imul)
theorem mj_347_105 : mc_P 347 105 = some (.aload_n 0, 1, 0, 0, 0) := by decide +kernel
theorem s_347_105 {x1 x2 x3 x4 x5 x6 x7 x8 x9 : Option Value} {w : Value} : mw d 347 Q 105 [some w, x1, x2, x3, x4, x5, x6, x7, x8, x9] (st) h = mv_a w (mw d 347 Q 106 [some w, x1, x2, x3, x4, x5, x6, x7, x8, x9] (w :: st) h) := (mw_at mj_347_105).trans (z_aload_n rfl)
theorem mj_347_106 : mc_P 347 106 = some (.getfield 100, 3, 14, 39, 0) := by decide +kernel
theorem s_347_106 {x0 x1 x2 x3 x4 x5 x6 x7 x8 x9 : Option Value} {o : Nat} : mw d 347 Q 106 [x0, x1, x2, x3, x4, x5, x6, x7, x8, x9] (.ref o :: st) h = (mg h o 14 ∧ mw d 347 Q 109 [x0, x1, x2, x3, x4, x5, x6, x7, x8, x9] (va_rf (mh_r h o 39) :: st) h) := (mw_at mj_347_106).trans (z_getr (by decide) (by decide) rfl)
theorem mj_347_109 : mc_P 347 109 = some (.iload 7, 2, 0, 0, 0) := by decide +kernel
theorem s_347_109 {x0 x1 x2 x3 x4 x5 x6 x8 x9 : Option Value} {w : Value} : mw d 347 Q 109 [x0, x1, x2, x3, x4, x5, x6, some w, x8, x9] (st) h = mv_i w (mw d 347 Q 111 [x0, x1, x2, x3, x4, x5, x6, some w, x8, x9] (w :: st) h) := (mw_at mj_347_109).trans (z_iload rfl)
theorem mj_347_111 : mc_P 347 111 = some (.iaload, 1, 0, 0, 0) := by decide +kernel
theorem s_347_111 {x0 x1 x2 x3 x4 x5 x6 x7 x8 x9 : Option Value} {o : Nat} {i : Int32} : mw d 347 Q 111 [x0, x1, x2, x3, x4, x5, x6, x7, x8, x9] (.int i :: .ref o :: st) h = (mg h o 100 ∧ mx i (mh_l h o) ∧ mw d 347 Q 112 [x0, x1, x2, x3, x4, x5, x6, x7, x8, x9] (.int (mh_i h o i.toNatClampNeg) :: st) h) := (mw_at mj_347_111).trans (z_iald)
theorem mj_347_112 : mc_P 347 112 = some (.iadd, 1, 0, 0, 0) := by decide +kernel
theorem s_347_112 {x0 x1 x2 x3 x4 x5 x6 x7 x8 x9 : Option Value} {x w : Int32} : mw d 347 Q 112 [x0, x1, x2, x3, x4, x5, x6, x7, x8, x9] (.int w :: .int x :: st) h = mw d 347 Q 113 [x0, x1, x2, x3, x4, x5, x6, x7, x8, x9] (.int (x + w) :: st) h := (mw_at mj_347_112).trans (z_iadd)
theorem mj_347_113 : mc_P 347 113 = some (.aload_n 0, 1, 0, 0, 0) := by decide +kernel
theorem s_347_113 {x1 x2 x3 x4 x5 x6 x7 x8 x9 : Option Value} {w : Value} : mw d 347 Q 113 [some w, x1, x2, x3, x4, x5, x6, x7, x8, x9] (st) h = mv_a w (mw d 347 Q 114 [some w, x1, x2, x3, x4, x5, x6, x7, x8, x9] (w :: st) h) := (mw_at mj_347_113).trans (z_aload_n rfl)
theorem mj_347_114 : mc_P 347 114 = some (.getfield 97, 3, 14, 38, 0) := by decide +kernel
theorem s_347_114 {x0 x1 x2 x3 x4 x5 x6 x7 x8 x9 : Option Value} {o : Nat} : mw d 347 Q 114 [x0, x1, x2, x3, x4, x5, x6, x7, x8, x9] (.ref o :: st) h = (mg h o 14 ∧ mw d 347 Q 117 [x0, x1, x2, x3, x4, x5, x6, x7, x8, x9] (va_rf (mh_r h o 38) :: st) h) := (mw_at mj_347_114).trans (z_getr (by decide) (by decide) rfl)
theorem mj_347_117 : mc_P 347 117 = some (.iload 7, 2, 0, 0, 0) := by decide +kernel
theorem s_347_117 {x0 x1 x2 x3 x4 x5 x6 x8 x9 : Option Value} {w : Value} : mw d 347 Q 117 [x0, x1, x2, x3, x4, x5, x6, some w, x8, x9] (st) h = mv_i w (mw d 347 Q 119 [x0, x1, x2, x3, x4, x5, x6, some w, x8, x9] (w :: st) h) := (mw_at mj_347_117).trans (z_iload rfl)
theorem mj_347_119 : mc_P 347 119 = some (.iaload, 1, 0, 0, 0) := by decide +kernel
theorem s_347_119 {x0 x1 x2 x3 x4 x5 x6 x7 x8 x9 : Option Value} {o : Nat} {i : Int32} : mw d 347 Q 119 [x0, x1, x2, x3, x4, x5, x6, x7, x8, x9] (.int i :: .ref o :: st) h = (mg h o 100 ∧ mx i (mh_l h o) ∧ mw d 347 Q 120 [x0, x1, x2, x3, x4, x5, x6, x7, x8, x9] (.int (mh_i h o i.toNatClampNeg) :: st) h) := (mw_at mj_347_119).trans (z_iald)
theorem mj_347_120 : mc_P 347 120 = some (.iastore, 1, 0, 0, 0) := by decide +kernel
theorem s_347_120 {x0 x1 x2 x3 x4 x5 x6 x7 x8 x9 : Option Value} {o : Nat} {i w : Int32} : mw d 347 Q 120 [x0, x1, x2, x3, x4, x5, x6, x7, x8, x9] (.int w :: .int i :: .ref o :: st) h = (mg h o 100 ∧ mx i (mh_l h o) ∧ mw d 347 Q 121 [x0, x1, x2, x3, x4, x5, x6, x7, x8, x9] (st) (mh_si h o i.toNatClampNeg w)) := (mw_at mj_347_120).trans (z_iast)
theorem mj_347_121 : mc_P 347 121 = some (.goto 28, 3, 0, 0, 0) := by decide +kernel
theorem s_347_121 {x0 x1 x2 x3 x4 x5 x6 x7 x8 x9 : Option Value} : mw d 347 Q 121 [x0, x1, x2, x3, x4, x5, x6, x7, x8, x9] (st) h = mw d 347 Q 149 [x0, x1, x2, x3, x4, x5, x6, x7, x8, x9] (st) h := (mw_at mj_347_121).trans (z_goto (by decide))
theorem mj_347_124 : mc_P 347 124 = some (.aload_n 0, 1, 0, 0, 0) := by decide +kernel
theorem s_347_124 {x1 x2 x3 x4 x5 x6 x7 x8 x9 : Option Value} {w : Value} : mw d 347 Q 124 [some w, x1, x2, x3, x4, x5, x6, x7, x8, x9] (st) h = mv_a w (mw d 347 Q 125 [some w, x1, x2, x3, x4, x5, x6, x7, x8, x9] (w :: st) h) := (mw_at mj_347_124).trans (z_aload_n rfl)
theorem mj_347_125 : mc_P 347 125 = some (.getfield 115, 3, 14, 51, 0) := by decide +kernel
theorem s_347_125 {x0 x1 x2 x3 x4 x5 x6 x7 x8 x9 : Option Value} {o : Nat} : mw d 347 Q 125 [x0, x1, x2, x3, x4, x5, x6, x7, x8, x9] (.ref o :: st) h = (mg h o 14 ∧ mw d 347 Q 128 [x0, x1, x2, x3, x4, x5, x6, x7, x8, x9] (va_rf (mh_r h o 51) :: st) h) := (mw_at mj_347_125).trans (z_getr (by decide) (by decide) rfl)
theorem mj_347_128 : mc_P 347 128 = some (.bipush 6, 2, 0, 0, 0) := by decide +kernel
theorem s_347_128 {x0 x1 x2 x3 x4 x5 x6 x7 x8 x9 : Option Value} : mw d 347 Q 128 [x0, x1, x2, x3, x4, x5, x6, x7, x8, x9] (st) h = mw d 347 Q 130 [x0, x1, x2, x3, x4, x5, x6, x7, x8, x9] (.int 6 :: st) h := (mw_at mj_347_128).trans (z_bipush (by decide))
theorem mj_347_130 : mc_P 347 130 = some (.iload 6, 2, 0, 0, 0) := by decide +kernel
theorem s_347_130 {x0 x1 x2 x3 x4 x5 x7 x8 x9 : Option Value} {w : Value} : mw d 347 Q 130 [x0, x1, x2, x3, x4, x5, some w, x7, x8, x9] (st) h = mv_i w (mw d 347 Q 132 [x0, x1, x2, x3, x4, x5, some w, x7, x8, x9] (w :: st) h) := (mw_at mj_347_130).trans (z_iload rfl)
theorem mj_347_132 : mc_P 347 132 = some (.imul, 1, 0, 0, 0) := by decide +kernel
theorem s_347_132 {x0 x1 x2 x3 x4 x5 x6 x7 x8 x9 : Option Value} {x w : Int32} : mw d 347 Q 132 [x0, x1, x2, x3, x4, x5, x6, x7, x8, x9] (.int w :: .int x :: st) h = mw d 347 Q 133 [x0, x1, x2, x3, x4, x5, x6, x7, x8, x9] (.int (x * w) :: st) h := (mw_at mj_347_132).trans (z_imul)
theorem mj_347_133 : mc_P 347 133 = some (.aload_n 0, 1, 0, 0, 0) := by decide +kernel
theorem s_347_133 {x1 x2 x3 x4 x5 x6 x7 x8 x9 : Option Value} {w : Value} : mw d 347 Q 133 [some w, x1, x2, x3, x4, x5, x6, x7, x8, x9] (st) h = mv_a w (mw d 347 Q 134 [some w, x1, x2, x3, x4, x5, x6, x7, x8, x9] (w :: st) h) := (mw_at mj_347_133).trans (z_aload_n rfl)
theorem mj_347_134 : mc_P 347 134 = some (.getfield 100, 3, 14, 39, 0) := by decide +kernel
theorem s_347_134 {x0 x1 x2 x3 x4 x5 x6 x7 x8 x9 : Option Value} {o : Nat} : mw d 347 Q 134 [x0, x1, x2, x3, x4, x5, x6, x7, x8, x9] (.ref o :: st) h = (mg h o 14 ∧ mw d 347 Q 137 [x0, x1, x2, x3, x4, x5, x6, x7, x8, x9] (va_rf (mh_r h o 39) :: st) h) := (mw_at mj_347_134).trans (z_getr (by decide) (by decide) rfl)
theorem mj_347_137 : mc_P 347 137 = some (.iload 7, 2, 0, 0, 0) := by decide +kernel
theorem s_347_137 {x0 x1 x2 x3 x4 x5 x6 x8 x9 : Option Value} {w : Value} : mw d 347 Q 137 [x0, x1, x2, x3, x4, x5, x6, some w, x8, x9] (st) h = mv_i w (mw d 347 Q 139 [x0, x1, x2, x3, x4, x5, x6, some w, x8, x9] (w :: st) h) := (mw_at mj_347_137).trans (z_iload rfl)
theorem mj_347_139 : mc_P 347 139 = some (.iaload, 1, 0, 0, 0) := by decide +kernel
theorem s_347_139 {x0 x1 x2 x3 x4 x5 x6 x7 x8 x9 : Option Value} {o : Nat} {i : Int32} : mw d 347 Q 139 [x0, x1, x2, x3, x4, x5, x6, x7, x8, x9] (.int i :: .ref o :: st) h = (mg h o 100 ∧ mx i (mh_l h o) ∧ mw d 347 Q 140 [x0, x1, x2, x3, x4, x5, x6, x7, x8, x9] (.int (mh_i h o i.toNatClampNeg) :: st) h) := (mw_at mj_347_139).trans (z_iald)
theorem mj_347_140 : mc_P 347 140 = some (.iadd, 1, 0, 0, 0) := by decide +kernel
theorem s_347_140 {x0 x1 x2 x3 x4 x5 x6 x7 x8 x9 : Option Value} {x w : Int32} : mw d 347 Q 140 [x0, x1, x2, x3, x4, x5, x6, x7, x8, x9] (.int w :: .int x :: st) h = mw d 347 Q 141 [x0, x1, x2, x3, x4, x5, x6, x7, x8, x9] (.int (x + w) :: st) h := (mw_at mj_347_140).trans (z_iadd)
theorem mj_347_141 : mc_P 347 141 = some (.aload_n 0, 1, 0, 0, 0) := by decide +kernel
theorem s_347_141 {x1 x2 x3 x4 x5 x6 x7 x8 x9 : Option Value} {w : Value} : mw d 347 Q 141 [some w, x1, x2, x3, x4, x5, x6, x7, x8, x9] (st) h = mv_a w (mw d 347 Q 142 [some w, x1, x2, x3, x4, x5, x6, x7, x8, x9] (w :: st) h) := (mw_at mj_347_141).trans (z_aload_n rfl)
theorem mj_347_142 : mc_P 347 142 = some (.getfield 97, 3, 14, 38, 0) := by decide +kernel
theorem s_347_142 {x0 x1 x2 x3 x4 x5 x6 x7 x8 x9 : Option Value} {o : Nat} : mw d 347 Q 142 [x0, x1, x2, x3, x4, x5, x6, x7, x8, x9] (.ref o :: st) h = (mg h o 14 ∧ mw d 347 Q 145 [x0, x1, x2, x3, x4, x5, x6, x7, x8, x9] (va_rf (mh_r h o 38) :: st) h) := (mw_at mj_347_142).trans (z_getr (by decide) (by decide) rfl)
theorem mj_347_145 : mc_P 347 145 = some (.iload 7, 2, 0, 0, 0) := by decide +kernel
theorem s_347_145 {x0 x1 x2 x3 x4 x5 x6 x8 x9 : Option Value} {w : Value} : mw d 347 Q 145 [x0, x1, x2, x3, x4, x5, x6, some w, x8, x9] (st) h = mv_i w (mw d 347 Q 147 [x0, x1, x2, x3, x4, x5, x6, some w, x8, x9] (w :: st) h) := (mw_at mj_347_145).trans (z_iload rfl)
theorem mj_347_147 : mc_P 347 147 = some (.iaload, 1, 0, 0, 0) := by decide +kernel
theorem s_347_147 {x0 x1 x2 x3 x4 x5 x6 x7 x8 x9 : Option Value} {o : Nat} {i : Int32} : mw d 347 Q 147 [x0, x1, x2, x3, x4, x5, x6, x7, x8, x9] (.int i :: .ref o :: st) h = (mg h o 100 ∧ mx i (mh_l h o) ∧ mw d 347 Q 148 [x0, x1, x2, x3, x4, x5, x6, x7, x8, x9] (.int (mh_i h o i.toNatClampNeg) :: st) h) := (mw_at mj_347_147).trans (z_iald)
theorem mj_347_148 : mc_P 347 148 = some (.iastore, 1, 0, 0, 0) := by decide +kernel
theorem s_347_148 {x0 x1 x2 x3 x4 x5 x6 x7 x8 x9 : Option Value} {o : Nat} {i w : Int32} : mw d 347 Q 148 [x0, x1, x2, x3, x4, x5, x6, x7, x8, x9] (.int w :: .int i :: .ref o :: st) h = (mg h o 100 ∧ mx i (mh_l h o) ∧ mw d 347 Q 149 [x0, x1, x2, x3, x4, x5, x6, x7, x8, x9] (st) (mh_si h o i.toNatClampNeg w)) := (mw_at mj_347_148).trans (z_iast)
theorem mj_347_149 : mc_P 347 149 = some (.iinc 7 1, 3, 0, 0, 0) := by decide +kernel
theorem s_347_149 {x0 x1 x2 x3 x4 x5 x6 x8 x9 : Option Value} {w : Int32} : mw d 347 Q 149 [x0, x1, x2, x3, x4, x5, x6, some (.int w), x8, x9] (st) h = mw d 347 Q 152 [x0, x1, x2, x3, x4, x5, mk2 x6, some (.int (w + 1)), x8, x9] (st) h := (mw_at mj_347_149).trans (z_iinc rfl (Nat.le_of_ble_eq_true rfl) (by decide) (me_s1_mk (j := 6) (w := x6) rfl))
theorem mj_347_152 : mc_P 347 152 = some (.goto (-75), 3, 0, 0, 0) := by decide +kernel
theorem s_347_152 {x0 x1 x2 x3 x4 x5 x6 x7 x8 x9 : Option Value} : mw d 347 Q 152 [x0, x1, x2, x3, x4, x5, x6, x7, x8, x9] (st) h = mw d 347 Q 77 [x0, x1, x2, x3, x4, x5, x6, x7, x8, x9] (st) h := (mw_at mj_347_152).trans (z_goto (by decide))
theorem mj_347_155 : mc_P 347 155 = some (.aload_n 0, 1, 0, 0, 0) := by decide +kernel
theorem s_347_155 {x1 x2 x3 x4 x5 x6 x7 x8 x9 : Option Value} {w : Value} : mw d 347 Q 155 [some w, x1, x2, x3, x4, x5, x6, x7, x8, x9] (st) h = mv_a w (mw d 347 Q 156 [some w, x1, x2, x3, x4, x5, x6, x7, x8, x9] (w :: st) h) := (mw_at mj_347_155).trans (z_aload_n rfl)
theorem mj_347_156 : mc_P 347 156 = some (.getfield 85, 3, 14, 34, 0) := by decide +kernel
theorem s_347_156 {x0 x1 x2 x3 x4 x5 x6 x7 x8 x9 : Option Value} {o : Nat} : mw d 347 Q 156 [x0, x1, x2, x3, x4, x5, x6, x7, x8, x9] (.ref o :: st) h = (mg h o 14 ∧ mw d 347 Q 159 [x0, x1, x2, x3, x4, x5, x6, x7, x8, x9] (va_rf (mh_r h o 34) :: st) h) := (mw_at mj_347_156).trans (z_getr (by decide) (by decide) rfl)
theorem mj_347_159 : mc_P 347 159 = some (.iload 6, 2, 0, 0, 0) := by decide +kernel
theorem s_347_159 {x0 x1 x2 x3 x4 x5 x7 x8 x9 : Option Value} {w : Value} : mw d 347 Q 159 [x0, x1, x2, x3, x4, x5, some w, x7, x8, x9] (st) h = mv_i w (mw d 347 Q 161 [x0, x1, x2, x3, x4, x5, some w, x7, x8, x9] (w :: st) h) := (mw_at mj_347_159).trans (z_iload rfl)
theorem mj_347_161 : mc_P 347 161 = some (.aload_n 0, 1, 0, 0, 0) := by decide +kernel
theorem s_347_161 {x1 x2 x3 x4 x5 x6 x7 x8 x9 : Option Value} {w : Value} : mw d 347 Q 161 [some w, x1, x2, x3, x4, x5, x6, x7, x8, x9] (st) h = mv_a w (mw d 347 Q 162 [some w, x1, x2, x3, x4, x5, x6, x7, x8, x9] (w :: st) h) := (mw_at mj_347_161).trans (z_aload_n rfl)
theorem mj_347_162 : mc_P 347 162 = some (.getfield 357, 3, 14, 42, 0) := by decide +kernel
theorem s_347_162 {x0 x1 x2 x3 x4 x5 x6 x7 x8 x9 : Option Value} {o : Nat} : mw d 347 Q 162 [x0, x1, x2, x3, x4, x5, x6, x7, x8, x9] (.ref o :: st) h = (mg h o 14 ∧ mw d 347 Q 165 [x0, x1, x2, x3, x4, x5, x6, x7, x8, x9] (.int (mh_i h o 42) :: st) h) := (mw_at mj_347_162).trans (z_geti (by decide) (by decide) (Or.inl rfl))
theorem mj_347_165 : mc_P 347 165 = some (.aload_n 0, 1, 0, 0, 0) := by decide +kernel
theorem s_347_165 {x1 x2 x3 x4 x5 x6 x7 x8 x9 : Option Value} {w : Value} : mw d 347 Q 165 [some w, x1, x2, x3, x4, x5, x6, x7, x8, x9] (st) h = mv_a w (mw d 347 Q 166 [some w, x1, x2, x3, x4, x5, x6, x7, x8, x9] (w :: st) h) := (mw_at mj_347_165).trans (z_aload_n rfl)
theorem mj_347_166 : mc_P 347 166 = some (.getfield 360, 3, 14, 43, 0) := by decide +kernel
theorem s_347_166 {x0 x1 x2 x3 x4 x5 x6 x7 x8 x9 : Option Value} {o : Nat} : mw d 347 Q 166 [x0, x1, x2, x3, x4, x5, x6, x7, x8, x9] (.ref o :: st) h = (mg h o 14 ∧ mw d 347 Q 169 [x0, x1, x2, x3, x4, x5, x6, x7, x8, x9] (.int (mh_i h o 43) :: st) h) := (mw_at mj_347_166).trans (z_geti (by decide) (by decide) (Or.inl rfl))
theorem mj_347_169 : mc_P 347 169 = some (.isub, 1, 0, 0, 0) := by decide +kernel
theorem s_347_169 {x0 x1 x2 x3 x4 x5 x6 x7 x8 x9 : Option Value} {x w : Int32} : mw d 347 Q 169 [x0, x1, x2, x3, x4, x5, x6, x7, x8, x9] (.int w :: .int x :: st) h = mw d 347 Q 170 [x0, x1, x2, x3, x4, x5, x6, x7, x8, x9] (.int (x - w) :: st) h := (mw_at mj_347_169).trans (z_isub)
theorem mj_347_170 : mc_P 347 170 = some (.iastore, 1, 0, 0, 0) := by decide +kernel
theorem s_347_170 {x0 x1 x2 x3 x4 x5 x6 x7 x8 x9 : Option Value} {o : Nat} {i w : Int32} : mw d 347 Q 170 [x0, x1, x2, x3, x4, x5, x6, x7, x8, x9] (.int w :: .int i :: .ref o :: st) h = (mg h o 100 ∧ mx i (mh_l h o) ∧ mw d 347 Q 171 [x0, x1, x2, x3, x4, x5, x6, x7, x8, x9] (st) (mh_si h o i.toNatClampNeg w)) := (mw_at mj_347_170).trans (z_iast)
theorem mj_347_171 : mc_P 347 171 = some (.aload_n 0, 1, 0, 0, 0) := by decide +kernel
theorem s_347_171 {x1 x2 x3 x4 x5 x6 x7 x8 x9 : Option Value} {w : Value} : mw d 347 Q 171 [some w, x1, x2, x3, x4, x5, x6, x7, x8, x9] (st) h = mv_a w (mw d 347 Q 172 [some w, x1, x2, x3, x4, x5, x6, x7, x8, x9] (w :: st) h) := (mw_at mj_347_171).trans (z_aload_n rfl)
theorem mj_347_172 : mc_P 347 172 = some (.getfield 360, 3, 14, 43, 0) := by decide +kernel
theorem s_347_172 {x0 x1 x2 x3 x4 x5 x6 x7 x8 x9 : Option Value} {o : Nat} : mw d 347 Q 172 [x0, x1, x2, x3, x4, x5, x6, x7, x8, x9] (.ref o :: st) h = (mg h o 14 ∧ mw d 347 Q 175 [x0, x1, x2, x3, x4, x5, x6, x7, x8, x9] (.int (mh_i h o 43) :: st) h) := (mw_at mj_347_172).trans (z_geti (by decide) (by decide) (Or.inl rfl))
theorem mj_347_175 : mc_P 347 175 = some (.istore 7, 2, 0, 0, 0) := by decide +kernel
theorem s_347_175 {x0 x1 x2 x3 x4 x5 x6 x7 x8 x9 : Option Value} {w : Int32} : mw d 347 Q 175 [x0, x1, x2, x3, x4, x5, x6, x7, x8, x9] (.int w :: st) h = mw d 347 Q 177 [x0, x1, x2, x3, x4, x5, mk2 x6, some (.int w), x8, x9] (st) h := (mw_at mj_347_175).trans (z_istore (Nat.le_of_ble_eq_true rfl) (me_s1_mk (j := 6) (w := x6) rfl))
theorem mj_347_177 : mc_P 347 177 = some (.iload 7, 2, 0, 0, 0) := by decide +kernel
theorem s_347_177 {x0 x1 x2 x3 x4 x5 x6 x8 x9 : Option Value} {w : Value} : mw d 347 Q 177 [x0, x1, x2, x3, x4, x5, x6, some w, x8, x9] (st) h = mv_i w (mw d 347 Q 179 [x0, x1, x2, x3, x4, x5, x6, some w, x8, x9] (w :: st) h) := (mw_at mj_347_177).trans (z_iload rfl)
theorem mj_347_179 : mc_P 347 179 = some (.aload_n 0, 1, 0, 0, 0) := by decide +kernel
theorem s_347_179 {x1 x2 x3 x4 x5 x6 x7 x8 x9 : Option Value} {w : Value} : mw d 347 Q 179 [some w, x1, x2, x3, x4, x5, x6, x7, x8, x9] (st) h = mv_a w (mw d 347 Q 180 [some w, x1, x2, x3, x4, x5, x6, x7, x8, x9] (w :: st) h) := (mw_at mj_347_179).trans (z_aload_n rfl)
theorem mj_347_180 : mc_P 347 180 = some (.getfield 357, 3, 14, 42, 0) := by decide +kernel
theorem s_347_180 {x0 x1 x2 x3 x4 x5 x6 x7 x8 x9 : Option Value} {o : Nat} : mw d 347 Q 180 [x0, x1, x2, x3, x4, x5, x6, x7, x8, x9] (.ref o :: st) h = (mg h o 14 ∧ mw d 347 Q 183 [x0, x1, x2, x3, x4, x5, x6, x7, x8, x9] (.int (mh_i h o 42) :: st) h) := (mw_at mj_347_180).trans (z_geti (by decide) (by decide) (Or.inl rfl))
theorem mj_347_183 : mc_P 347 183 = some (.if_icmp .ge 84, 3, 0, 0, 0) := by decide +kernel
theorem s_347_183 {x0 x1 x2 x3 x4 x5 x6 x7 x8 x9 : Option Value} {x w : Int32} : mw d 347 Q 183 [x0, x1, x2, x3, x4, x5, x6, x7, x8, x9] (.int w :: .int x :: st) h = mB (w ≤ x) (mw d 347 Q) 267 186 [x0, x1, x2, x3, x4, x5, x6, x7, x8, x9] st h := (mw_at mj_347_183).trans (z_icmp_ge (by decide) rfl)
theorem mj_347_186 : mc_P 347 186 = some (.aload_n 0, 1, 0, 0, 0) := by decide +kernel
theorem s_347_186 {x1 x2 x3 x4 x5 x6 x7 x8 x9 : Option Value} {w : Value} : mw d 347 Q 186 [some w, x1, x2, x3, x4, x5, x6, x7, x8, x9] (st) h = mv_a w (mw d 347 Q 187 [some w, x1, x2, x3, x4, x5, x6, x7, x8, x9] (w :: st) h) := (mw_at mj_347_186).trans (z_aload_n rfl)
theorem mj_347_187 : mc_P 347 187 = some (.getfield 88, 3, 14, 35, 0) := by decide +kernel
theorem s_347_187 {x0 x1 x2 x3 x4 x5 x6 x7 x8 x9 : Option Value} {o : Nat} : mw d 347 Q 187 [x0, x1, x2, x3, x4, x5, x6, x7, x8, x9] (.ref o :: st) h = (mg h o 14 ∧ mw d 347 Q 190 [x0, x1, x2, x3, x4, x5, x6, x7, x8, x9] (va_rf (mh_r h o 35) :: st) h) := (mw_at mj_347_187).trans (z_getr (by decide) (by decide) rfl)
theorem mj_347_190 : mc_P 347 190 = some (.bipush 40, 2, 0, 0, 0) := by decide +kernel
theorem s_347_190 {x0 x1 x2 x3 x4 x5 x6 x7 x8 x9 : Option Value} : mw d 347 Q 190 [x0, x1, x2, x3, x4, x5, x6, x7, x8, x9] (st) h = mw d 347 Q 192 [x0, x1, x2, x3, x4, x5, x6, x7, x8, x9] (.int 40 :: st) h := (mw_at mj_347_190).trans (z_bipush (by decide))
theorem mj_347_192 : mc_P 347 192 = some (.iload 6, 2, 0, 0, 0) := by decide +kernel
theorem s_347_192 {x0 x1 x2 x3 x4 x5 x7 x8 x9 : Option Value} {w : Value} : mw d 347 Q 192 [x0, x1, x2, x3, x4, x5, some w, x7, x8, x9] (st) h = mv_i w (mw d 347 Q 194 [x0, x1, x2, x3, x4, x5, some w, x7, x8, x9] (w :: st) h) := (mw_at mj_347_192).trans (z_iload rfl)
theorem mj_347_194 : mc_P 347 194 = some (.imul, 1, 0, 0, 0) := by decide +kernel
theorem s_347_194 {x0 x1 x2 x3 x4 x5 x6 x7 x8 x9 : Option Value} {x w : Int32} : mw d 347 Q 194 [x0, x1, x2, x3, x4, x5, x6, x7, x8, x9] (.int w :: .int x :: st) h = mw d 347 Q 195 [x0, x1, x2, x3, x4, x5, x6, x7, x8, x9] (.int (x * w) :: st) h := (mw_at mj_347_194).trans (z_imul)
theorem mj_347_195 : mc_P 347 195 = some (.iload 7, 2, 0, 0, 0) := by decide +kernel
theorem s_347_195 {x0 x1 x2 x3 x4 x5 x6 x8 x9 : Option Value} {w : Value} : mw d 347 Q 195 [x0, x1, x2, x3, x4, x5, x6, some w, x8, x9] (st) h = mv_i w (mw d 347 Q 197 [x0, x1, x2, x3, x4, x5, x6, some w, x8, x9] (w :: st) h) := (mw_at mj_347_195).trans (z_iload rfl)
theorem mj_347_197 : mc_P 347 197 = some (.iadd, 1, 0, 0, 0) := by decide +kernel
theorem s_347_197 {x0 x1 x2 x3 x4 x5 x6 x7 x8 x9 : Option Value} {x w : Int32} : mw d 347 Q 197 [x0, x1, x2, x3, x4, x5, x6, x7, x8, x9] (.int w :: .int x :: st) h = mw d 347 Q 198 [x0, x1, x2, x3, x4, x5, x6, x7, x8, x9] (.int (x + w) :: st) h := (mw_at mj_347_197).trans (z_iadd)
theorem mj_347_198 : mc_P 347 198 = some (.aload_n 0, 1, 0, 0, 0) := by decide +kernel
theorem s_347_198 {x1 x2 x3 x4 x5 x6 x7 x8 x9 : Option Value} {w : Value} : mw d 347 Q 198 [some w, x1, x2, x3, x4, x5, x6, x7, x8, x9] (st) h = mv_a w (mw d 347 Q 199 [some w, x1, x2, x3, x4, x5, x6, x7, x8, x9] (w :: st) h) := (mw_at mj_347_198).trans (z_aload_n rfl)
theorem mj_347_199 : mc_P 347 199 = some (.getfield 360, 3, 14, 43, 0) := by decide +kernel
theorem s_347_199 {x0 x1 x2 x3 x4 x5 x6 x7 x8 x9 : Option Value} {o : Nat} : mw d 347 Q 199 [x0, x1, x2, x3, x4, x5, x6, x7, x8, x9] (.ref o :: st) h = (mg h o 14 ∧ mw d 347 Q 202 [x0, x1, x2, x3, x4, x5, x6, x7, x8, x9] (.int (mh_i h o 43) :: st) h) := (mw_at mj_347_199).trans (z_geti (by decide) (by decide) (Or.inl rfl))
theorem mj_347_202 : mc_P 347 202 = some (.isub, 1, 0, 0, 0) := by decide +kernel
theorem s_347_202 {x0 x1 x2 x3 x4 x5 x6 x7 x8 x9 : Option Value} {x w : Int32} : mw d 347 Q 202 [x0, x1, x2, x3, x4, x5, x6, x7, x8, x9] (.int w :: .int x :: st) h = mw d 347 Q 203 [x0, x1, x2, x3, x4, x5, x6, x7, x8, x9] (.int (x - w) :: st) h := (mw_at mj_347_202).trans (z_isub)
theorem mj_347_203 : mc_P 347 203 = some (.aload_n 0, 1, 0, 0, 0) := by decide +kernel
theorem s_347_203 {x1 x2 x3 x4 x5 x6 x7 x8 x9 : Option Value} {w : Value} : mw d 347 Q 203 [some w, x1, x2, x3, x4, x5, x6, x7, x8, x9] (st) h = mv_a w (mw d 347 Q 204 [some w, x1, x2, x3, x4, x5, x6, x7, x8, x9] (w :: st) h) := (mw_at mj_347_203).trans (z_aload_n rfl)
theorem mj_347_204 : mc_P 347 204 = some (.getfield 97, 3, 14, 38, 0) := by decide +kernel
theorem s_347_204 {x0 x1 x2 x3 x4 x5 x6 x7 x8 x9 : Option Value} {o : Nat} : mw d 347 Q 204 [x0, x1, x2, x3, x4, x5, x6, x7, x8, x9] (.ref o :: st) h = (mg h o 14 ∧ mw d 347 Q 207 [x0, x1, x2, x3, x4, x5, x6, x7, x8, x9] (va_rf (mh_r h o 38) :: st) h) := (mw_at mj_347_204).trans (z_getr (by decide) (by decide) rfl)
theorem mj_347_207 : mc_P 347 207 = some (.iload 7, 2, 0, 0, 0) := by decide +kernel
theorem s_347_207 {x0 x1 x2 x3 x4 x5 x6 x8 x9 : Option Value} {w : Value} : mw d 347 Q 207 [x0, x1, x2, x3, x4, x5, x6, some w, x8, x9] (st) h = mv_i w (mw d 347 Q 209 [x0, x1, x2, x3, x4, x5, x6, some w, x8, x9] (w :: st) h) := (mw_at mj_347_207).trans (z_iload rfl)
theorem mj_347_209 : mc_P 347 209 = some (.iaload, 1, 0, 0, 0) := by decide +kernel
theorem s_347_209 {x0 x1 x2 x3 x4 x5 x6 x7 x8 x9 : Option Value} {o : Nat} {i : Int32} : mw d 347 Q 209 [x0, x1, x2, x3, x4, x5, x6, x7, x8, x9] (.int i :: .ref o :: st) h = (mg h o 100 ∧ mx i (mh_l h o) ∧ mw d 347 Q 210 [x0, x1, x2, x3, x4, x5, x6, x7, x8, x9] (.int (mh_i h o i.toNatClampNeg) :: st) h) := (mw_at mj_347_209).trans (z_iald)
theorem mj_347_210 : mc_P 347 210 = some (.iastore, 1, 0, 0, 0) := by decide +kernel
theorem s_347_210 {x0 x1 x2 x3 x4 x5 x6 x7 x8 x9 : Option Value} {o : Nat} {i w : Int32} : mw d 347 Q 210 [x0, x1, x2, x3, x4, x5, x6, x7, x8, x9] (.int w :: .int i :: .ref o :: st) h = (mg h o 100 ∧ mx i (mh_l h o) ∧ mw d 347 Q 211 [x0, x1, x2, x3, x4, x5, x6, x7, x8, x9] (st) (mh_si h o i.toNatClampNeg w)) := (mw_at mj_347_210).trans (z_iast)
theorem mj_347_211 : mc_P 347 211 = some (.aload_n 0, 1, 0, 0, 0) := by decide +kernel
theorem s_347_211 {x1 x2 x3 x4 x5 x6 x7 x8 x9 : Option Value} {w : Value} : mw d 347 Q 211 [some w, x1, x2, x3, x4, x5, x6, x7, x8, x9] (st) h = mv_a w (mw d 347 Q 212 [some w, x1, x2, x3, x4, x5, x6, x7, x8, x9] (w :: st) h) := (mw_at mj_347_211).trans (z_aload_n rfl)
theorem mj_347_212 : mc_P 347 212 = some (.getfield 91, 3, 14, 36, 0) := by decide +kernel
theorem s_347_212 {x0 x1 x2 x3 x4 x5 x6 x7 x8 x9 : Option Value} {o : Nat} : mw d 347 Q 212 [x0, x1, x2, x3, x4, x5, x6, x7, x8, x9] (.ref o :: st) h = (mg h o 14 ∧ mw d 347 Q 215 [x0, x1, x2, x3, x4, x5, x6, x7, x8, x9] (va_rf (mh_r h o 36) :: st) h) := (mw_at mj_347_212).trans (z_getr (by decide) (by decide) rfl)
theorem mj_347_215 : mc_P 347 215 = some (.bipush 40, 2, 0, 0, 0) := by decide +kernel
theorem s_347_215 {x0 x1 x2 x3 x4 x5 x6 x7 x8 x9 : Option Value} : mw d 347 Q 215 [x0, x1, x2, x3, x4, x5, x6, x7, x8, x9] (st) h = mw d 347 Q 217 [x0, x1, x2, x3, x4, x5, x6, x7, x8, x9] (.int 40 :: st) h := (mw_at mj_347_215).trans (z_bipush (by decide))
theorem mj_347_217 : mc_P 347 217 = some (.iload 6, 2, 0, 0, 0) := by decide +kernel
theorem s_347_217 {x0 x1 x2 x3 x4 x5 x7 x8 x9 : Option Value} {w : Value} : mw d 347 Q 217 [x0, x1, x2, x3, x4, x5, some w, x7, x8, x9] (st) h = mv_i w (mw d 347 Q 219 [x0, x1, x2, x3, x4, x5, some w, x7, x8, x9] (w :: st) h) := (mw_at mj_347_217).trans (z_iload rfl)
theorem mj_347_219 : mc_P 347 219 = some (.imul, 1, 0, 0, 0) := by decide +kernel
theorem s_347_219 {x0 x1 x2 x3 x4 x5 x6 x7 x8 x9 : Option Value} {x w : Int32} : mw d 347 Q 219 [x0, x1, x2, x3, x4, x5, x6, x7, x8, x9] (.int w :: .int x :: st) h = mw d 347 Q 220 [x0, x1, x2, x3, x4, x5, x6, x7, x8, x9] (.int (x * w) :: st) h := (mw_at mj_347_219).trans (z_imul)
theorem mj_347_220 : mc_P 347 220 = some (.iload 7, 2, 0, 0, 0) := by decide +kernel
theorem s_347_220 {x0 x1 x2 x3 x4 x5 x6 x8 x9 : Option Value} {w : Value} : mw d 347 Q 220 [x0, x1, x2, x3, x4, x5, x6, some w, x8, x9] (st) h = mv_i w (mw d 347 Q 222 [x0, x1, x2, x3, x4, x5, x6, some w, x8, x9] (w :: st) h) := (mw_at mj_347_220).trans (z_iload rfl)
theorem mj_347_222 : mc_P 347 222 = some (.iadd, 1, 0, 0, 0) := by decide +kernel
theorem s_347_222 {x0 x1 x2 x3 x4 x5 x6 x7 x8 x9 : Option Value} {x w : Int32} : mw d 347 Q 222 [x0, x1, x2, x3, x4, x5, x6, x7, x8, x9] (.int w :: .int x :: st) h = mw d 347 Q 223 [x0, x1, x2, x3, x4, x5, x6, x7, x8, x9] (.int (x + w) :: st) h := (mw_at mj_347_222).trans (z_iadd)
theorem mj_347_223 : mc_P 347 223 = some (.aload_n 0, 1, 0, 0, 0) := by decide +kernel
theorem s_347_223 {x1 x2 x3 x4 x5 x6 x7 x8 x9 : Option Value} {w : Value} : mw d 347 Q 223 [some w, x1, x2, x3, x4, x5, x6, x7, x8, x9] (st) h = mv_a w (mw d 347 Q 224 [some w, x1, x2, x3, x4, x5, x6, x7, x8, x9] (w :: st) h) := (mw_at mj_347_223).trans (z_aload_n rfl)
theorem mj_347_224 : mc_P 347 224 = some (.getfield 360, 3, 14, 43, 0) := by decide +kernel
theorem s_347_224 {x0 x1 x2 x3 x4 x5 x6 x7 x8 x9 : Option Value} {o : Nat} : mw d 347 Q 224 [x0, x1, x2, x3, x4, x5, x6, x7, x8, x9] (.ref o :: st) h = (mg h o 14 ∧ mw d 347 Q 227 [x0, x1, x2, x3, x4, x5, x6, x7, x8, x9] (.int (mh_i h o 43) :: st) h) := (mw_at mj_347_224).trans (z_geti (by decide) (by decide) (Or.inl rfl))
theorem mj_347_227 : mc_P 347 227 = some (.isub, 1, 0, 0, 0) := by decide +kernel
theorem s_347_227 {x0 x1 x2 x3 x4 x5 x6 x7 x8 x9 : Option Value} {x w : Int32} : mw d 347 Q 227 [x0, x1, x2, x3, x4, x5, x6, x7, x8, x9] (.int w :: .int x :: st) h = mw d 347 Q 228 [x0, x1, x2, x3, x4, x5, x6, x7, x8, x9] (.int (x - w) :: st) h := (mw_at mj_347_227).trans (z_isub)
theorem mj_347_228 : mc_P 347 228 = some (.aload_n 0, 1, 0, 0, 0) := by decide +kernel
theorem s_347_228 {x1 x2 x3 x4 x5 x6 x7 x8 x9 : Option Value} {w : Value} : mw d 347 Q 228 [some w, x1, x2, x3, x4, x5, x6, x7, x8, x9] (st) h = mv_a w (mw d 347 Q 229 [some w, x1, x2, x3, x4, x5, x6, x7, x8, x9] (w :: st) h) := (mw_at mj_347_228).trans (z_aload_n rfl)
theorem mj_347_229 : mc_P 347 229 = some (.getfield 100, 3, 14, 39, 0) := by decide +kernel
theorem s_347_229 {x0 x1 x2 x3 x4 x5 x6 x7 x8 x9 : Option Value} {o : Nat} : mw d 347 Q 229 [x0, x1, x2, x3, x4, x5, x6, x7, x8, x9] (.ref o :: st) h = (mg h o 14 ∧ mw d 347 Q 232 [x0, x1, x2, x3, x4, x5, x6, x7, x8, x9] (va_rf (mh_r h o 39) :: st) h) := (mw_at mj_347_229).trans (z_getr (by decide) (by decide) rfl)
theorem mj_347_232 : mc_P 347 232 = some (.iload 7, 2, 0, 0, 0) := by decide +kernel
theorem s_347_232 {x0 x1 x2 x3 x4 x5 x6 x8 x9 : Option Value} {w : Value} : mw d 347 Q 232 [x0, x1, x2, x3, x4, x5, x6, some w, x8, x9] (st) h = mv_i w (mw d 347 Q 234 [x0, x1, x2, x3, x4, x5, x6, some w, x8, x9] (w :: st) h) := (mw_at mj_347_232).trans (z_iload rfl)
theorem mj_347_234 : mc_P 347 234 = some (.iaload, 1, 0, 0, 0) := by decide +kernel
theorem s_347_234 {x0 x1 x2 x3 x4 x5 x6 x7 x8 x9 : Option Value} {o : Nat} {i : Int32} : mw d 347 Q 234 [x0, x1, x2, x3, x4, x5, x6, x7, x8, x9] (.int i :: .ref o :: st) h = (mg h o 100 ∧ mx i (mh_l h o) ∧ mw d 347 Q 235 [x0, x1, x2, x3, x4, x5, x6, x7, x8, x9] (.int (mh_i h o i.toNatClampNeg) :: st) h) := (mw_at mj_347_234).trans (z_iald)
theorem mj_347_235 : mc_P 347 235 = some (.iastore, 1, 0, 0, 0) := by decide +kernel
theorem s_347_235 {x0 x1 x2 x3 x4 x5 x6 x7 x8 x9 : Option Value} {o : Nat} {i w : Int32} : mw d 347 Q 235 [x0, x1, x2, x3, x4, x5, x6, x7, x8, x9] (.int w :: .int i :: .ref o :: st) h = (mg h o 100 ∧ mx i (mh_l h o) ∧ mw d 347 Q 236 [x0, x1, x2, x3, x4, x5, x6, x7, x8, x9] (st) (mh_si h o i.toNatClampNeg w)) := (mw_at mj_347_235).trans (z_iast)
theorem mj_347_236 : mc_P 347 236 = some (.aload_n 0, 1, 0, 0, 0) := by decide +kernel
theorem s_347_236 {x1 x2 x3 x4 x5 x6 x7 x8 x9 : Option Value} {w : Value} : mw d 347 Q 236 [some w, x1, x2, x3, x4, x5, x6, x7, x8, x9] (st) h = mv_a w (mw d 347 Q 237 [some w, x1, x2, x3, x4, x5, x6, x7, x8, x9] (w :: st) h) := (mw_at mj_347_236).trans (z_aload_n rfl)
theorem mj_347_237 : mc_P 347 237 = some (.getfield 94, 3, 14, 37, 0) := by decide +kernel
theorem s_347_237 {x0 x1 x2 x3 x4 x5 x6 x7 x8 x9 : Option Value} {o : Nat} : mw d 347 Q 237 [x0, x1, x2, x3, x4, x5, x6, x7, x8, x9] (.ref o :: st) h = (mg h o 14 ∧ mw d 347 Q 240 [x0, x1, x2, x3, x4, x5, x6, x7, x8, x9] (va_rf (mh_r h o 37) :: st) h) := (mw_at mj_347_237).trans (z_getr (by decide) (by decide) rfl)
theorem mj_347_240 : mc_P 347 240 = some (.bipush 40, 2, 0, 0, 0) := by decide +kernel
theorem s_347_240 {x0 x1 x2 x3 x4 x5 x6 x7 x8 x9 : Option Value} : mw d 347 Q 240 [x0, x1, x2, x3, x4, x5, x6, x7, x8, x9] (st) h = mw d 347 Q 242 [x0, x1, x2, x3, x4, x5, x6, x7, x8, x9] (.int 40 :: st) h := (mw_at mj_347_240).trans (z_bipush (by decide))
theorem mj_347_242 : mc_P 347 242 = some (.iload 6, 2, 0, 0, 0) := by decide +kernel
theorem s_347_242 {x0 x1 x2 x3 x4 x5 x7 x8 x9 : Option Value} {w : Value} : mw d 347 Q 242 [x0, x1, x2, x3, x4, x5, some w, x7, x8, x9] (st) h = mv_i w (mw d 347 Q 244 [x0, x1, x2, x3, x4, x5, some w, x7, x8, x9] (w :: st) h) := (mw_at mj_347_242).trans (z_iload rfl)
theorem mj_347_244 : mc_P 347 244 = some (.imul, 1, 0, 0, 0) := by decide +kernel
theorem s_347_244 {x0 x1 x2 x3 x4 x5 x6 x7 x8 x9 : Option Value} {x w : Int32} : mw d 347 Q 244 [x0, x1, x2, x3, x4, x5, x6, x7, x8, x9] (.int w :: .int x :: st) h = mw d 347 Q 245 [x0, x1, x2, x3, x4, x5, x6, x7, x8, x9] (.int (x * w) :: st) h := (mw_at mj_347_244).trans (z_imul)
theorem mj_347_245 : mc_P 347 245 = some (.iload 7, 2, 0, 0, 0) := by decide +kernel
theorem s_347_245 {x0 x1 x2 x3 x4 x5 x6 x8 x9 : Option Value} {w : Value} : mw d 347 Q 245 [x0, x1, x2, x3, x4, x5, x6, some w, x8, x9] (st) h = mv_i w (mw d 347 Q 247 [x0, x1, x2, x3, x4, x5, x6, some w, x8, x9] (w :: st) h) := (mw_at mj_347_245).trans (z_iload rfl)
theorem mj_347_247 : mc_P 347 247 = some (.iadd, 1, 0, 0, 0) := by decide +kernel
theorem s_347_247 {x0 x1 x2 x3 x4 x5 x6 x7 x8 x9 : Option Value} {x w : Int32} : mw d 347 Q 247 [x0, x1, x2, x3, x4, x5, x6, x7, x8, x9] (.int w :: .int x :: st) h = mw d 347 Q 248 [x0, x1, x2, x3, x4, x5, x6, x7, x8, x9] (.int (x + w) :: st) h := (mw_at mj_347_247).trans (z_iadd)
theorem mj_347_248 : mc_P 347 248 = some (.aload_n 0, 1, 0, 0, 0) := by decide +kernel
theorem s_347_248 {x1 x2 x3 x4 x5 x6 x7 x8 x9 : Option Value} {w : Value} : mw d 347 Q 248 [some w, x1, x2, x3, x4, x5, x6, x7, x8, x9] (st) h = mv_a w (mw d 347 Q 249 [some w, x1, x2, x3, x4, x5, x6, x7, x8, x9] (w :: st) h) := (mw_at mj_347_248).trans (z_aload_n rfl)
theorem mj_347_249 : mc_P 347 249 = some (.getfield 360, 3, 14, 43, 0) := by decide +kernel
theorem s_347_249 {x0 x1 x2 x3 x4 x5 x6 x7 x8 x9 : Option Value} {o : Nat} : mw d 347 Q 249 [x0, x1, x2, x3, x4, x5, x6, x7, x8, x9] (.ref o :: st) h = (mg h o 14 ∧ mw d 347 Q 252 [x0, x1, x2, x3, x4, x5, x6, x7, x8, x9] (.int (mh_i h o 43) :: st) h) := (mw_at mj_347_249).trans (z_geti (by decide) (by decide) (Or.inl rfl))
theorem mj_347_252 : mc_P 347 252 = some (.isub, 1, 0, 0, 0) := by decide +kernel
theorem s_347_252 {x0 x1 x2 x3 x4 x5 x6 x7 x8 x9 : Option Value} {x w : Int32} : mw d 347 Q 252 [x0, x1, x2, x3, x4, x5, x6, x7, x8, x9] (.int w :: .int x :: st) h = mw d 347 Q 253 [x0, x1, x2, x3, x4, x5, x6, x7, x8, x9] (.int (x - w) :: st) h := (mw_at mj_347_252).trans (z_isub)
theorem mj_347_253 : mc_P 347 253 = some (.aload_n 0, 1, 0, 0, 0) := by decide +kernel
theorem s_347_253 {x1 x2 x3 x4 x5 x6 x7 x8 x9 : Option Value} {w : Value} : mw d 347 Q 253 [some w, x1, x2, x3, x4, x5, x6, x7, x8, x9] (st) h = mv_a w (mw d 347 Q 254 [some w, x1, x2, x3, x4, x5, x6, x7, x8, x9] (w :: st) h) := (mw_at mj_347_253).trans (z_aload_n rfl)
theorem mj_347_254 : mc_P 347 254 = some (.getfield 103, 3, 14, 40, 0) := by decide +kernel
theorem s_347_254 {x0 x1 x2 x3 x4 x5 x6 x7 x8 x9 : Option Value} {o : Nat} : mw d 347 Q 254 [x0, x1, x2, x3, x4, x5, x6, x7, x8, x9] (.ref o :: st) h = (mg h o 14 ∧ mw d 347 Q 257 [x0, x1, x2, x3, x4, x5, x6, x7, x8, x9] (va_rf (mh_r h o 40) :: st) h) := (mw_at mj_347_254).trans (z_getr (by decide) (by decide) rfl)
theorem mj_347_257 : mc_P 347 257 = some (.iload 7, 2, 0, 0, 0) := by decide +kernel
theorem s_347_257 {x0 x1 x2 x3 x4 x5 x6 x8 x9 : Option Value} {w : Value} : mw d 347 Q 257 [x0, x1, x2, x3, x4, x5, x6, some w, x8, x9] (st) h = mv_i w (mw d 347 Q 259 [x0, x1, x2, x3, x4, x5, x6, some w, x8, x9] (w :: st) h) := (mw_at mj_347_257).trans (z_iload rfl)
theorem mj_347_259 : mc_P 347 259 = some (.iaload, 1, 0, 0, 0) := by decide +kernel
theorem s_347_259 {x0 x1 x2 x3 x4 x5 x6 x7 x8 x9 : Option Value} {o : Nat} {i : Int32} : mw d 347 Q 259 [x0, x1, x2, x3, x4, x5, x6, x7, x8, x9] (.int i :: .ref o :: st) h = (mg h o 100 ∧ mx i (mh_l h o) ∧ mw d 347 Q 260 [x0, x1, x2, x3, x4, x5, x6, x7, x8, x9] (.int (mh_i h o i.toNatClampNeg) :: st) h) := (mw_at mj_347_259).trans (z_iald)
theorem mj_347_260 : mc_P 347 260 = some (.iastore, 1, 0, 0, 0) := by decide +kernel
theorem s_347_260 {x0 x1 x2 x3 x4 x5 x6 x7 x8 x9 : Option Value} {o : Nat} {i w : Int32} : mw d 347 Q 260 [x0, x1, x2, x3, x4, x5, x6, x7, x8, x9] (.int w :: .int i :: .ref o :: st) h = (mg h o 100 ∧ mx i (mh_l h o) ∧ mw d 347 Q 261 [x0, x1, x2, x3, x4, x5, x6, x7, x8, x9] (st) (mh_si h o i.toNatClampNeg w)) := (mw_at mj_347_260).trans (z_iast)
theorem mj_347_261 : mc_P 347 261 = some (.iinc 7 1, 3, 0, 0, 0) := by decide +kernel
theorem s_347_261 {x0 x1 x2 x3 x4 x5 x6 x8 x9 : Option Value} {w : Int32} : mw d 347 Q 261 [x0, x1, x2, x3, x4, x5, x6, some (.int w), x8, x9] (st) h = mw d 347 Q 264 [x0, x1, x2, x3, x4, x5, mk2 x6, some (.int (w + 1)), x8, x9] (st) h := (mw_at mj_347_261).trans (z_iinc rfl (Nat.le_of_ble_eq_true rfl) (by decide) (me_s1_mk (j := 6) (w := x6) rfl))
theorem mj_347_264 : mc_P 347 264 = some (.goto (-87), 3, 0, 0, 0) := by decide +kernel
theorem s_347_264 {x0 x1 x2 x3 x4 x5 x6 x7 x8 x9 : Option Value} : mw d 347 Q 264 [x0, x1, x2, x3, x4, x5, x6, x7, x8, x9] (st) h = mw d 347 Q 177 [x0, x1, x2, x3, x4, x5, x6, x7, x8, x9] (st) h := (mw_at mj_347_264).trans (z_goto (by decide))
theorem mj_347_267 : mc_P 347 267 = some (.aload_n 0, 1, 0, 0, 0) := by decide +kernel
theorem s_347_267 {x1 x2 x3 x4 x5 x6 x7 x8 x9 : Option Value} {w : Value} : mw d 347 Q 267 [some w, x1, x2, x3, x4, x5, x6, x7, x8, x9] (st) h = mv_a w (mw d 347 Q 268 [some w, x1, x2, x3, x4, x5, x6, x7, x8, x9] (w :: st) h) := (mw_at mj_347_267).trans (z_aload_n rfl)
theorem mj_347_268 : mc_P 347 268 = some (.getfield 48, 3, 14, 19, 0) := by decide +kernel
theorem s_347_268 {x0 x1 x2 x3 x4 x5 x6 x7 x8 x9 : Option Value} {o : Nat} : mw d 347 Q 268 [x0, x1, x2, x3, x4, x5, x6, x7, x8, x9] (.ref o :: st) h = (mg h o 14 ∧ mw d 347 Q 271 [x0, x1, x2, x3, x4, x5, x6, x7, x8, x9] (va_rf (mh_r h o 19) :: st) h) := (mw_at mj_347_268).trans (z_getr (by decide) (by decide) rfl)
theorem mj_347_271 : mc_P 347 271 = some (.iload_n 1, 1, 0, 0, 0) := by decide +kernel
theorem s_347_271 {x0 x2 x3 x4 x5 x6 x7 x8 x9 : Option Value} {w : Value} : mw d 347 Q 271 [x0, some w, x2, x3, x4, x5, x6, x7, x8, x9] (st) h = mv_i w (mw d 347 Q 272 [x0, some w, x2, x3, x4, x5, x6, x7, x8, x9] (w :: st) h) := (mw_at mj_347_271).trans (z_iload_n rfl)
theorem mj_347_272 : mc_P 347 272 = some (.baload, 1, 0, 0, 0) := by decide +kernel
theorem s_347_272 {x0 x1 x2 x3 x4 x5 x6 x7 x8 x9 : Option Value} {o : Nat} {i : Int32} : mw d 347 Q 272 [x0, x1, x2, x3, x4, x5, x6, x7, x8, x9] (.int i :: .ref o :: st) h = (mgb h o ∧ mx i (mh_l h o) ∧ mw d 347 Q 273 [x0, x1, x2, x3, x4, x5, x6, x7, x8, x9] (.int (mh_i h o i.toNatClampNeg) :: st) h) := (mw_at mj_347_272).trans (z_bald)
theorem mj_347_273 : mc_P 347 273 = some (.tableswitch 402 3 10 #[47, 132, 231, 255, 295, 305, 305, 391], 47, 0, 0, 0) := by decide +kernel
theorem s_347_273 {x0 x1 x2 x3 x4 x5 x6 x7 x8 x9 : Option Value} {x : Int32} : mw d 347 Q 273 [x0, x1, x2, x3, x4, x5, x6, x7, x8, x9] (.int x :: st) h = mS x (mw d 347 Q) 675 [x0, x1, x2, x3, x4, x5, x6, x7, x8, x9] st h [(3, 320), (4, 405), (5, 504), (6, 528), (7, 568), (8, 578), (9, 578), (10, 664)] := (mw_at mj_347_273).trans (z_tab (by decide) (by decide) (by decide +kernel))
theorem mj_347_320 : mc_P 347 320 = some (.aload_n 0, 1, 0, 0, 0) := by decide +kernel
theorem s_347_320 {x1 x2 x3 x4 x5 x6 x7 x8 x9 : Option Value} {w : Value} : mw d 347 Q 320 [some w, x1, x2, x3, x4, x5, x6, x7, x8, x9] (st) h = mv_a w (mw d 347 Q 321 [some w, x1, x2, x3, x4, x5, x6, x7, x8, x9] (w :: st) h) := (mw_at mj_347_320).trans (z_aload_n rfl)
theorem mj_347_321 : mc_P 347 321 = some (.iload_n 1, 1, 0, 0, 0) := by decide +kernel
theorem s_347_321 {x0 x2 x3 x4 x5 x6 x7 x8 x9 : Option Value} {w : Value} : mw d 347 Q 321 [x0, some w, x2, x3, x4, x5, x6, x7, x8, x9] (st) h = mv_i w (mw d 347 Q 322 [x0, some w, x2, x3, x4, x5, x6, x7, x8, x9] (w :: st) h) := (mw_at mj_347_321).trans (z_iload_n rfl)
theorem mj_347_322 : mc_P 347 322 = some (.iconst 1, 1, 0, 0, 0) := by decide +kernel
theorem s_347_322 {x0 x1 x2 x3 x4 x5 x6 x7 x8 x9 : Option Value} : mw d 347 Q 322 [x0, x1, x2, x3, x4, x5, x6, x7, x8, x9] (st) h = mw d 347 Q 323 [x0, x1, x2, x3, x4, x5, x6, x7, x8, x9] (.int 1 :: st) h := (mw_at mj_347_322).trans (z_iconst (by decide))
theorem mj_347_323 : mc_P 347 323 = some (.iadd, 1, 0, 0, 0) := by decide +kernel
theorem s_347_323 {x0 x1 x2 x3 x4 x5 x6 x7 x8 x9 : Option Value} {x w : Int32} : mw d 347 Q 323 [x0, x1, x2, x3, x4, x5, x6, x7, x8, x9] (.int w :: .int x :: st) h = mw d 347 Q 324 [x0, x1, x2, x3, x4, x5, x6, x7, x8, x9] (.int (x + w) :: st) h := (mw_at mj_347_323).trans (z_iadd)
theorem mj_347_324 : mc_P 347 324 = some (.iload 5, 2, 0, 0, 0) := by decide +kernel
theorem s_347_324 {x0 x1 x2 x3 x4 x6 x7 x8 x9 : Option Value} {w : Value} : mw d 347 Q 324 [x0, x1, x2, x3, x4, some w, x6, x7, x8, x9] (st) h = mv_i w (mw d 347 Q 326 [x0, x1, x2, x3, x4, some w, x6, x7, x8, x9] (w :: st) h) := (mw_at mj_347_324).trans (z_iload rfl)
theorem mj_347_326 : mc_P 347 326 = some (.invokevirtual 388, 3, 343, 14, 3) := by decide +kernel
theorem s_347_326 {x0 x1 x2 x3 x4 x5 x6 x7 x8 x9 : Option Value} {o : Nat} {a1 a2 : Value} : mw (d + 1) 347 Q 326 [x0, x1, x2, x3, x4, x5, x6, x7, x8, x9] (a2 :: a1 :: .ref o :: st) h = (mg h o 14 ∧ mca st 8 ∧ mca [.ref o, a1, a2] 4 ∧ mcall d 343 [.ref o, a1, a2] h (mK (d + 1) 347 Q 329 [x0, x1, x2, x3, x4, x5, x6, x7, x8, x9] st)) := (mw_at mj_347_326).trans ((z_invv (As := [a1, a2]) (by decide) rfl rfl).trans (congrArg (And _) (congrArg (And _) (mC_nl nl_343))))
theorem mj_347_329 : mc_P 347 329 = some (.ifCond .eq 428, 3, 0, 0, 0) := by decide +kernel
theorem s_347_329 {x0 x1 x2 x3 x4 x5 x6 x7 x8 x9 : Option Value} {x : Int32} : mw d 347 Q 329 [x0, x1, x2, x3, x4, x5, x6, x7, x8, x9] (.int x :: st) h = mB (x = 0) (mw d 347 Q) 757 332 [x0, x1, x2, x3, x4, x5, x6, x7, x8, x9] st h := (mw_at mj_347_329).trans (z_if_eq (by decide) rfl)
theorem mj_347_332 : mc_P 347 332 = some (.aload_n 0, 1, 0, 0, 0) := by decide +kernel
theorem s_347_332 {x1 x2 x3 x4 x5 x6 x7 x8 x9 : Option Value} {w : Value} : mw d 347 Q 332 [some w, x1, x2, x3, x4, x5, x6, x7, x8, x9] (st) h = mv_a w (mw d 347 Q 333 [some w, x1, x2, x3, x4, x5, x6, x7, x8, x9] (w :: st) h) := (mw_at mj_347_332).trans (z_aload_n rfl)
theorem mj_347_333 : mc_P 347 333 = some (.getfield 61, 3, 14, 23, 0) := by decide +kernel
theorem s_347_333 {x0 x1 x2 x3 x4 x5 x6 x7 x8 x9 : Option Value} {o : Nat} : mw d 347 Q 333 [x0, x1, x2, x3, x4, x5, x6, x7, x8, x9] (.ref o :: st) h = (mg h o 14 ∧ mw d 347 Q 336 [x0, x1, x2, x3, x4, x5, x6, x7, x8, x9] (va_rf (mh_r h o 23) :: st) h) := (mw_at mj_347_333).trans (z_getr (by decide) (by decide) rfl)
theorem mj_347_336 : mc_P 347 336 = some (.iload_n 1, 1, 0, 0, 0) := by decide +kernel
theorem s_347_336 {x0 x2 x3 x4 x5 x6 x7 x8 x9 : Option Value} {w : Value} : mw d 347 Q 336 [x0, some w, x2, x3, x4, x5, x6, x7, x8, x9] (st) h = mv_i w (mw d 347 Q 337 [x0, some w, x2, x3, x4, x5, x6, x7, x8, x9] (w :: st) h) := (mw_at mj_347_336).trans (z_iload_n rfl)
theorem mj_347_337 : mc_P 347 337 = some (.iaload, 1, 0, 0, 0) := by decide +kernel
theorem s_347_337 {x0 x1 x2 x3 x4 x5 x6 x7 x8 x9 : Option Value} {o : Nat} {i : Int32} : mw d 347 Q 337 [x0, x1, x2, x3, x4, x5, x6, x7, x8, x9] (.int i :: .ref o :: st) h = (mg h o 100 ∧ mx i (mh_l h o) ∧ mw d 347 Q 338 [x0, x1, x2, x3, x4, x5, x6, x7, x8, x9] (.int (mh_i h o i.toNatClampNeg) :: st) h) := (mw_at mj_347_337).trans (z_iald)
theorem mj_347_338 : mc_P 347 338 = some (.iconst 2, 1, 0, 0, 0) := by decide +kernel
theorem s_347_338 {x0 x1 x2 x3 x4 x5 x6 x7 x8 x9 : Option Value} : mw d 347 Q 338 [x0, x1, x2, x3, x4, x5, x6, x7, x8, x9] (st) h = mw d 347 Q 339 [x0, x1, x2, x3, x4, x5, x6, x7, x8, x9] (.int 2 :: st) h := (mw_at mj_347_338).trans (z_iconst (by decide))
theorem mj_347_339 : mc_P 347 339 = some (.if_icmp .eq 15, 3, 0, 0, 0) := by decide +kernel
theorem s_347_339 {x0 x1 x2 x3 x4 x5 x6 x7 x8 x9 : Option Value} {x w : Int32} : mw d 347 Q 339 [x0, x1, x2, x3, x4, x5, x6, x7, x8, x9] (.int w :: .int x :: st) h = mB (x = w) (mw d 347 Q) 354 342 [x0, x1, x2, x3, x4, x5, x6, x7, x8, x9] st h := (mw_at mj_347_339).trans (z_icmp_eq (by decide) rfl)
theorem mj_347_342 : mc_P 347 342 = some (.aload_n 0, 1, 0, 0, 0) := by decide +kernel
theorem s_347_342 {x1 x2 x3 x4 x5 x6 x7 x8 x9 : Option Value} {w : Value} : mw d 347 Q 342 [some w, x1, x2, x3, x4, x5, x6, x7, x8, x9] (st) h = mv_a w (mw d 347 Q 343 [some w, x1, x2, x3, x4, x5, x6, x7, x8, x9] (w :: st) h) := (mw_at mj_347_342).trans (z_aload_n rfl)
theorem mj_347_343 : mc_P 347 343 = some (.aload_n 0, 1, 0, 0, 0) := by decide +kernel
theorem s_347_343 {x1 x2 x3 x4 x5 x6 x7 x8 x9 : Option Value} {w : Value} : mw d 347 Q 343 [some w, x1, x2, x3, x4, x5, x6, x7, x8, x9] (st) h = mv_a w (mw d 347 Q 344 [some w, x1, x2, x3, x4, x5, x6, x7, x8, x9] (w :: st) h) := (mw_at mj_347_343).trans (z_aload_n rfl)
theorem mj_347_344 : mc_P 347 344 = some (.iload_n 1, 1, 0, 0, 0) := by decide +kernel
theorem s_347_344 {x0 x2 x3 x4 x5 x6 x7 x8 x9 : Option Value} {w : Value} : mw d 347 Q 344 [x0, some w, x2, x3, x4, x5, x6, x7, x8, x9] (st) h = mv_i w (mw d 347 Q 345 [x0, some w, x2, x3, x4, x5, x6, x7, x8, x9] (w :: st) h) := (mw_at mj_347_344).trans (z_iload_n rfl)
theorem mj_347_345 : mc_P 347 345 = some (.invokevirtual 391, 3, 334, 14, 2) := by decide +kernel
theorem s_347_345 {x0 x1 x2 x3 x4 x5 x6 x7 x8 x9 : Option Value} {o : Nat} {a1 : Value} : mw (d + 1) 347 Q 345 [x0, x1, x2, x3, x4, x5, x6, x7, x8, x9] (a1 :: .ref o :: st) h = (mg h o 14 ∧ mca st 8 ∧ mca [.ref o, a1] 2 ∧ mcall d 334 [.ref o, a1] h (mK (d + 1) 347 Q 348 [x0, x1, x2, x3, x4, x5, x6, x7, x8, x9] st)) := (mw_at mj_347_345).trans ((z_invv (As := [a1]) (by decide) rfl rfl).trans (congrArg (And _) (congrArg (And _) (mC_nl nl_334))))
theorem mj_347_348 : mc_P 347 348 = some (.invokevirtual 394, 3, 342, 14, 2) := by decide +kernel
theorem s_347_348 {x0 x1 x2 x3 x4 x5 x6 x7 x8 x9 : Option Value} {o : Nat} {a1 : Value} : mw (d + 1) 347 Q 348 [x0, x1, x2, x3, x4, x5, x6, x7, x8, x9] (a1 :: .ref o :: st) h = (mg h o 14 ∧ mca st 8 ∧ mca [.ref o, a1] 4 ∧ mcall d 342 [.ref o, a1] h (mK (d + 1) 347 Q 351 [x0, x1, x2, x3, x4, x5, x6, x7, x8, x9] st)) := (mw_at mj_347_348).trans ((z_invv (As := [a1]) (by decide) rfl rfl).trans (congrArg (And _) (congrArg (And _) (mC_nl nl_342))))
theorem mj_347_351 : mc_P 347 351 = some (.ifCond .eq 406, 3, 0, 0, 0) := by decide +kernel
theorem s_347_351 {x0 x1 x2 x3 x4 x5 x6 x7 x8 x9 : Option Value} {x : Int32} : mw d 347 Q 351 [x0, x1, x2, x3, x4, x5, x6, x7, x8, x9] (.int x :: st) h = mB (x = 0) (mw d 347 Q) 757 354 [x0, x1, x2, x3, x4, x5, x6, x7, x8, x9] st h := (mw_at mj_347_351).trans (z_if_eq (by decide) rfl)
theorem mj_347_354 : mc_P 347 354 = some (.aload_n 0, 1, 0, 0, 0) := by decide +kernel
theorem s_347_354 {x1 x2 x3 x4 x5 x6 x7 x8 x9 : Option Value} {w : Value} : mw d 347 Q 354 [some w, x1, x2, x3, x4, x5, x6, x7, x8, x9] (st) h = mv_a w (mw d 347 Q 355 [some w, x1, x2, x3, x4, x5, x6, x7, x8, x9] (w :: st) h) := (mw_at mj_347_354).trans (z_aload_n rfl)
theorem mj_347_355 : mc_P 347 355 = some (.getfield 376, 3, 14, 45, 0) := by decide +kernel
theorem s_347_355 {x0 x1 x2 x3 x4 x5 x6 x7 x8 x9 : Option Value} {o : Nat} : mw d 347 Q 355 [x0, x1, x2, x3, x4, x5, x6, x7, x8, x9] (.ref o :: st) h = (mg h o 14 ∧ mw d 347 Q 358 [x0, x1, x2, x3, x4, x5, x6, x7, x8, x9] (.int (mh_i h o 45) :: st) h) := (mw_at mj_347_355).trans (z_geti (by decide) (by decide) (Or.inl rfl))
theorem mj_347_358 : mc_P 347 358 = some (.bipush 12, 2, 0, 0, 0) := by decide +kernel
theorem s_347_358 {x0 x1 x2 x3 x4 x5 x6 x7 x8 x9 : Option Value} : mw d 347 Q 358 [x0, x1, x2, x3, x4, x5, x6, x7, x8, x9] (st) h = mw d 347 Q 360 [x0, x1, x2, x3, x4, x5, x6, x7, x8, x9] (.int 12 :: st) h := (mw_at mj_347_358).trans (z_bipush (by decide))
theorem mj_347_360 : mc_P 347 360 = some (.if_icmp .lt 13, 3, 0, 0, 0) := by decide +kernel
theorem s_347_360 {x0 x1 x2 x3 x4 x5 x6 x7 x8 x9 : Option Value} {x w : Int32} : mw d 347 Q 360 [x0, x1, x2, x3, x4, x5, x6, x7, x8, x9] (.int w :: .int x :: st) h = mB (x < w) (mw d 347 Q) 373 363 [x0, x1, x2, x3, x4, x5, x6, x7, x8, x9] st h := (mw_at mj_347_360).trans (z_icmp_lt (by decide) rfl)
theorem mj_347_363 : mc_P 347 363 = some (.aload_n 0, 1, 0, 0, 0) := by decide +kernel
theorem s_347_363 {x1 x2 x3 x4 x5 x6 x7 x8 x9 : Option Value} {w : Value} : mw d 347 Q 363 [some w, x1, x2, x3, x4, x5, x6, x7, x8, x9] (st) h = mv_a w (mw d 347 Q 364 [some w, x1, x2, x3, x4, x5, x6, x7, x8, x9] (w :: st) h) := (mw_at mj_347_363).trans (z_aload_n rfl)
theorem mj_347_364 : mc_P 347 364 = some (.bipush 10, 2, 0, 0, 0) := by decide +kernel
theorem s_347_364 {x0 x1 x2 x3 x4 x5 x6 x7 x8 x9 : Option Value} : mw d 347 Q 364 [x0, x1, x2, x3, x4, x5, x6, x7, x8, x9] (st) h = mw d 347 Q 366 [x0, x1, x2, x3, x4, x5, x6, x7, x8, x9] (.int 10 :: st) h := (mw_at mj_347_364).trans (z_bipush (by decide))
theorem mj_347_366 : mc_P 347 366 = some (.iload_n 1, 1, 0, 0, 0) := by decide +kernel
theorem s_347_366 {x0 x2 x3 x4 x5 x6 x7 x8 x9 : Option Value} {w : Value} : mw d 347 Q 366 [x0, some w, x2, x3, x4, x5, x6, x7, x8, x9] (st) h = mv_i w (mw d 347 Q 367 [x0, some w, x2, x3, x4, x5, x6, x7, x8, x9] (w :: st) h) := (mw_at mj_347_366).trans (z_iload_n rfl)
theorem mj_347_367 : mc_P 347 367 = some (.invokevirtual 366, 3, 335, 14, 3) := by decide +kernel
theorem s_347_367 {x0 x1 x2 x3 x4 x5 x6 x7 x8 x9 : Option Value} {o : Nat} {a1 a2 : Value} : mw (d + 1) 347 Q 367 [x0, x1, x2, x3, x4, x5, x6, x7, x8, x9] (a2 :: a1 :: .ref o :: st) h = (mg h o 14 ∧ mca st 8 ∧ mca [.ref o, a1, a2] 3 ∧ mcall d 335 [.ref o, a1, a2] h (mK (d + 1) 347 Q 370 [x0, x1, x2, x3, x4, x5, x6, x7, x8, x9] st)) := (mw_at mj_347_367).trans ((z_invv (As := [a1, a2]) (by decide) rfl rfl).trans (congrArg (And _) (congrArg (And _) (mC_nl nl_335))))
theorem mj_347_370 : mc_P 347 370 = some (.ifCond .eq 387, 3, 0, 0, 0) := by decide +kernel
theorem s_347_370 {x0 x1 x2 x3 x4 x5 x6 x7 x8 x9 : Option Value} {x : Int32} : mw d 347 Q 370 [x0, x1, x2, x3, x4, x5, x6, x7, x8, x9] (.int x :: st) h = mB (x = 0) (mw d 347 Q) 757 373 [x0, x1, x2, x3, x4, x5, x6, x7, x8, x9] st h := (mw_at mj_347_370).trans (z_if_eq (by decide) rfl)
theorem mj_347_373 : mc_P 347 373 = some (.aload_n 0, 1, 0, 0, 0) := by decide +kernel
theorem s_347_373 {x1 x2 x3 x4 x5 x6 x7 x8 x9 : Option Value} {w : Value} : mw d 347 Q 373 [some w, x1, x2, x3, x4, x5, x6, x7, x8, x9] (st) h = mv_a w (mw d 347 Q 374 [some w, x1, x2, x3, x4, x5, x6, x7, x8, x9] (w :: st) h) := (mw_at mj_347_373).trans (z_aload_n rfl)
theorem mj_347_374 : mc_P 347 374 = some (.aload_n 0, 1, 0, 0, 0) := by decide +kernel
theorem s_347_374 {x1 x2 x3 x4 x5 x6 x7 x8 x9 : Option Value} {w : Value} : mw d 347 Q 374 [some w, x1, x2, x3, x4, x5, x6, x7, x8, x9] (st) h = mv_a w (mw d 347 Q 375 [some w, x1, x2, x3, x4, x5, x6, x7, x8, x9] (w :: st) h) := (mw_at mj_347_374).trans (z_aload_n rfl)
theorem mj_347_375 : mc_P 347 375 = some (.getfield 55, 3, 14, 21, 0) := by decide +kernel
theorem s_347_375 {x0 x1 x2 x3 x4 x5 x6 x7 x8 x9 : Option Value} {o : Nat} : mw d 347 Q 375 [x0, x1, x2, x3, x4, x5, x6, x7, x8, x9] (.ref o :: st) h = (mg h o 14 ∧ mw d 347 Q 378 [x0, x1, x2, x3, x4, x5, x6, x7, x8, x9] (va_rf (mh_r h o 21) :: st) h) := (mw_at mj_347_375).trans (z_getr (by decide) (by decide) rfl)
theorem mj_347_378 : mc_P 347 378 = some (.iload_n 1, 1, 0, 0, 0) := by decide +kernel
theorem s_347_378 {x0 x2 x3 x4 x5 x6 x7 x8 x9 : Option Value} {w : Value} : mw d 347 Q 378 [x0, some w, x2, x3, x4, x5, x6, x7, x8, x9] (st) h = mv_i w (mw d 347 Q 379 [x0, some w, x2, x3, x4, x5, x6, x7, x8, x9] (w :: st) h) := (mw_at mj_347_378).trans (z_iload_n rfl)
theorem mj_347_379 : mc_P 347 379 = some (.iconst 1, 1, 0, 0, 0) := by decide +kernel
theorem s_347_379 {x0 x1 x2 x3 x4 x5 x6 x7 x8 x9 : Option Value} : mw d 347 Q 379 [x0, x1, x2, x3, x4, x5, x6, x7, x8, x9] (st) h = mw d 347 Q 380 [x0, x1, x2, x3, x4, x5, x6, x7, x8, x9] (.int 1 :: st) h := (mw_at mj_347_379).trans (z_iconst (by decide))
theorem mj_347_380 : mc_P 347 380 = some (.iadd, 1, 0, 0, 0) := by decide +kernel
theorem s_347_380 {x0 x1 x2 x3 x4 x5 x6 x7 x8 x9 : Option Value} {x w : Int32} : mw d 347 Q 380 [x0, x1, x2, x3, x4, x5, x6, x7, x8, x9] (.int w :: .int x :: st) h = mw d 347 Q 381 [x0, x1, x2, x3, x4, x5, x6, x7, x8, x9] (.int (x + w) :: st) h := (mw_at mj_347_380).trans (z_iadd)
theorem mj_347_381 : mc_P 347 381 = some (.iaload, 1, 0, 0, 0) := by decide +kernel
theorem s_347_381 {x0 x1 x2 x3 x4 x5 x6 x7 x8 x9 : Option Value} {o : Nat} {i : Int32} : mw d 347 Q 381 [x0, x1, x2, x3, x4, x5, x6, x7, x8, x9] (.int i :: .ref o :: st) h = (mg h o 100 ∧ mx i (mh_l h o) ∧ mw d 347 Q 382 [x0, x1, x2, x3, x4, x5, x6, x7, x8, x9] (.int (mh_i h o i.toNatClampNeg) :: st) h) := (mw_at mj_347_381).trans (z_iald)
theorem mj_347_382 : mc_P 347 382 = some (.aload_n 0, 1, 0, 0, 0) := by decide +kernel
theorem s_347_382 {x1 x2 x3 x4 x5 x6 x7 x8 x9 : Option Value} {w : Value} : mw d 347 Q 382 [some w, x1, x2, x3, x4, x5, x6, x7, x8, x9] (st) h = mv_a w (mw d 347 Q 383 [some w, x1, x2, x3, x4, x5, x6, x7, x8, x9] (w :: st) h) := (mw_at mj_347_382).trans (z_aload_n rfl)
theorem mj_347_383 : mc_P 347 383 = some (.getfield 376, 3, 14, 45, 0) := by decide +kernel
theorem s_347_383 {x0 x1 x2 x3 x4 x5 x6 x7 x8 x9 : Option Value} {o : Nat} : mw d 347 Q 383 [x0, x1, x2, x3, x4, x5, x6, x7, x8, x9] (.ref o :: st) h = (mg h o 14 ∧ mw d 347 Q 386 [x0, x1, x2, x3, x4, x5, x6, x7, x8, x9] (.int (mh_i h o 45) :: st) h) := (mw_at mj_347_383).trans (z_geti (by decide) (by decide) (Or.inl rfl))
theorem mj_347_386 : mc_P 347 386 = some (.iconst 0, 1, 0, 0, 0) := by decide +kernel
theorem s_347_386 {x0 x1 x2 x3 x4 x5 x6 x7 x8 x9 : Option Value} : mw d 347 Q 386 [x0, x1, x2, x3, x4, x5, x6, x7, x8, x9] (st) h = mw d 347 Q 387 [x0, x1, x2, x3, x4, x5, x6, x7, x8, x9] (.int 0 :: st) h := (mw_at mj_347_386).trans (z_iconst (by decide))
theorem mj_347_387 : mc_P 347 387 = some (.iload 5, 2, 0, 0, 0) := by decide +kernel
theorem s_347_387 {x0 x1 x2 x3 x4 x6 x7 x8 x9 : Option Value} {w : Value} : mw d 347 Q 387 [x0, x1, x2, x3, x4, some w, x6, x7, x8, x9] (st) h = mv_i w (mw d 347 Q 389 [x0, x1, x2, x3, x4, some w, x6, x7, x8, x9] (w :: st) h) := (mw_at mj_347_387).trans (z_iload rfl)
theorem mj_347_389 : mc_P 347 389 = some (.invokevirtual 397, 3, 344, 14, 5) := by decide +kernel
theorem s_347_389 {x0 x1 x2 x3 x4 x5 x6 x7 x8 x9 : Option Value} {o : Nat} {a1 a2 a3 a4 : Value} : mw (d + 1) 347 Q 389 [x0, x1, x2, x3, x4, x5, x6, x7, x8, x9] (a4 :: a3 :: a2 :: a1 :: .ref o :: st) h = (mg h o 14 ∧ mca st 8 ∧ mca [.ref o, a1, a2, a3, a4] 5 ∧ mcall d 344 [.ref o, a1, a2, a3, a4] h (mK (d + 1) 347 Q 392 [x0, x1, x2, x3, x4, x5, x6, x7, x8, x9] st)) := (mw_at mj_347_389).trans ((z_invv (As := [a1, a2, a3, a4]) (by decide) rfl rfl).trans (congrArg (And _) (congrArg (And _) (mC_nl nl_344))))
theorem mj_347_392 : mc_P 347 392 = some (.aload_n 0, 1, 0, 0, 0) := by decide +kernel
theorem s_347_392 {x1 x2 x3 x4 x5 x6 x7 x8 x9 : Option Value} {w : Value} : mw d 347 Q 392 [some w, x1, x2, x3, x4, x5, x6, x7, x8, x9] (st) h = mv_a w (mw d 347 Q 393 [some w, x1, x2, x3, x4, x5, x6, x7, x8, x9] (w :: st) h) := (mw_at mj_347_392).trans (z_aload_n rfl)
theorem mj_347_393 : mc_P 347 393 = some (.dup, 1, 0, 0, 0) := by decide +kernel
theorem s_347_393 {x0 x1 x2 x3 x4 x5 x6 x7 x8 x9 : Option Value} {w : Value} : mw d 347 Q 393 [x0, x1, x2, x3, x4, x5, x6, x7, x8, x9] (w :: st) h = (w.category = 1 ∧ mw d 347 Q 394 [x0, x1, x2, x3, x4, x5, x6, x7, x8, x9] (w :: w :: st) h) := (mw_at mj_347_393).trans (z_dup)
theorem mj_347_394 : mc_P 347 394 = some (.getfield 376, 3, 14, 45, 0) := by decide +kernel
theorem s_347_394 {x0 x1 x2 x3 x4 x5 x6 x7 x8 x9 : Option Value} {o : Nat} : mw d 347 Q 394 [x0, x1, x2, x3, x4, x5, x6, x7, x8, x9] (.ref o :: st) h = (mg h o 14 ∧ mw d 347 Q 397 [x0, x1, x2, x3, x4, x5, x6, x7, x8, x9] (.int (mh_i h o 45) :: st) h) := (mw_at mj_347_394).trans (z_geti (by decide) (by decide) (Or.inl rfl))
theorem mj_347_397 : mc_P 347 397 = some (.iconst 1, 1, 0, 0, 0) := by decide +kernel
theorem s_347_397 {x0 x1 x2 x3 x4 x5 x6 x7 x8 x9 : Option Value} : mw d 347 Q 397 [x0, x1, x2, x3, x4, x5, x6, x7, x8, x9] (st) h = mw d 347 Q 398 [x0, x1, x2, x3, x4, x5, x6, x7, x8, x9] (.int 1 :: st) h := (mw_at mj_347_397).trans (z_iconst (by decide))
theorem mj_347_398 : mc_P 347 398 = some (.iadd, 1, 0, 0, 0) := by decide +kernel
theorem s_347_398 {x0 x1 x2 x3 x4 x5 x6 x7 x8 x9 : Option Value} {x w : Int32} : mw d 347 Q 398 [x0, x1, x2, x3, x4, x5, x6, x7, x8, x9] (.int w :: .int x :: st) h = mw d 347 Q 399 [x0, x1, x2, x3, x4, x5, x6, x7, x8, x9] (.int (x + w) :: st) h := (mw_at mj_347_398).trans (z_iadd)
theorem mj_347_399 : mc_P 347 399 = some (.putfield 376, 3, 14, 45, 0) := by decide +kernel
theorem s_347_399 {x0 x1 x2 x3 x4 x5 x6 x7 x8 x9 : Option Value} {o : Nat} {w : Int32} : mw d 347 Q 399 [x0, x1, x2, x3, x4, x5, x6, x7, x8, x9] (.int w :: .ref o :: st) h = (mg h o 14 ∧ mw d 347 Q 402 [x0, x1, x2, x3, x4, x5, x6, x7, x8, x9] (st) (mh_si h o 45 w)) := (mw_at mj_347_399).trans (z_puti (by decide) (by decide) rfl)
theorem mj_347_402 : mc_P 347 402 = some (.goto 355, 3, 0, 0, 0) := by decide +kernel
theorem s_347_402 {x0 x1 x2 x3 x4 x5 x6 x7 x8 x9 : Option Value} : mw d 347 Q 402 [x0, x1, x2, x3, x4, x5, x6, x7, x8, x9] (st) h = mw d 347 Q 757 [x0, x1, x2, x3, x4, x5, x6, x7, x8, x9] (st) h := (mw_at mj_347_402).trans (z_goto (by decide))
theorem mj_347_405 : mc_P 347 405 = some (.aload_n 0, 1, 0, 0, 0) := by decide +kernel
theorem s_347_405 {x1 x2 x3 x4 x5 x6 x7 x8 x9 : Option Value} {w : Value} : mw d 347 Q 405 [some w, x1, x2, x3, x4, x5, x6, x7, x8, x9] (st) h = mv_a w (mw d 347 Q 406 [some w, x1, x2, x3, x4, x5, x6, x7, x8, x9] (w :: st) h) := (mw_at mj_347_405).trans (z_aload_n rfl)
theorem mj_347_406 : mc_P 347 406 = some (.getfield 55, 3, 14, 21, 0) := by decide +kernel
theorem s_347_406 {x0 x1 x2 x3 x4 x5 x6 x7 x8 x9 : Option Value} {o : Nat} : mw d 347 Q 406 [x0, x1, x2, x3, x4, x5, x6, x7, x8, x9] (.ref o :: st) h = (mg h o 14 ∧ mw d 347 Q 409 [x0, x1, x2, x3, x4, x5, x6, x7, x8, x9] (va_rf (mh_r h o 21) :: st) h) := (mw_at mj_347_406).trans (z_getr (by decide) (by decide) rfl)
theorem mj_347_409 : mc_P 347 409 = some (.iload_n 1, 1, 0, 0, 0) := by decide +kernel
theorem s_347_409 {x0 x2 x3 x4 x5 x6 x7 x8 x9 : Option Value} {w : Value} : mw d 347 Q 409 [x0, some w, x2, x3, x4, x5, x6, x7, x8, x9] (st) h = mv_i w (mw d 347 Q 410 [x0, some w, x2, x3, x4, x5, x6, x7, x8, x9] (w :: st) h) := (mw_at mj_347_409).trans (z_iload_n rfl)
theorem mj_347_410 : mc_P 347 410 = some (.iconst 2, 1, 0, 0, 0) := by decide +kernel
theorem s_347_410 {x0 x1 x2 x3 x4 x5 x6 x7 x8 x9 : Option Value} : mw d 347 Q 410 [x0, x1, x2, x3, x4, x5, x6, x7, x8, x9] (st) h = mw d 347 Q 411 [x0, x1, x2, x3, x4, x5, x6, x7, x8, x9] (.int 2 :: st) h := (mw_at mj_347_410).trans (z_iconst (by decide))
theorem mj_347_411 : mc_P 347 411 = some (.iadd, 1, 0, 0, 0) := by decide +kernel
theorem s_347_411 {x0 x1 x2 x3 x4 x5 x6 x7 x8 x9 : Option Value} {x w : Int32} : mw d 347 Q 411 [x0, x1, x2, x3, x4, x5, x6, x7, x8, x9] (.int w :: .int x :: st) h = mw d 347 Q 412 [x0, x1, x2, x3, x4, x5, x6, x7, x8, x9] (.int (x + w) :: st) h := (mw_at mj_347_411).trans (z_iadd)
theorem mj_347_412 : mc_P 347 412 = some (.iaload, 1, 0, 0, 0) := by decide +kernel
theorem s_347_412 {x0 x1 x2 x3 x4 x5 x6 x7 x8 x9 : Option Value} {o : Nat} {i : Int32} : mw d 347 Q 412 [x0, x1, x2, x3, x4, x5, x6, x7, x8, x9] (.int i :: .ref o :: st) h = (mg h o 100 ∧ mx i (mh_l h o) ∧ mw d 347 Q 413 [x0, x1, x2, x3, x4, x5, x6, x7, x8, x9] (.int (mh_i h o i.toNatClampNeg) :: st) h) := (mw_at mj_347_412).trans (z_iald)
theorem mj_347_413 : mc_P 347 413 = some (.istore 7, 2, 0, 0, 0) := by decide +kernel
theorem s_347_413 {x0 x1 x2 x3 x4 x5 x6 x7 x8 x9 : Option Value} {w : Int32} : mw d 347 Q 413 [x0, x1, x2, x3, x4, x5, x6, x7, x8, x9] (.int w :: st) h = mw d 347 Q 415 [x0, x1, x2, x3, x4, x5, mk2 x6, some (.int w), x8, x9] (st) h := (mw_at mj_347_413).trans (z_istore (Nat.le_of_ble_eq_true rfl) (me_s1_mk (j := 6) (w := x6) rfl))
theorem mj_347_415 : mc_P 347 415 = some (.aload_n 0, 1, 0, 0, 0) := by decide +kernel
theorem s_347_415 {x1 x2 x3 x4 x5 x6 x7 x8 x9 : Option Value} {w : Value} : mw d 347 Q 415 [some w, x1, x2, x3, x4, x5, x6, x7, x8, x9] (st) h = mv_a w (mw d 347 Q 416 [some w, x1, x2, x3, x4, x5, x6, x7, x8, x9] (w :: st) h) := (mw_at mj_347_415).trans (z_aload_n rfl)
theorem mj_347_416 : mc_P 347 416 = some (.iload_n 1, 1, 0, 0, 0) := by decide +kernel
theorem s_347_416 {x0 x2 x3 x4 x5 x6 x7 x8 x9 : Option Value} {w : Value} : mw d 347 Q 416 [x0, some w, x2, x3, x4, x5, x6, x7, x8, x9] (st) h = mv_i w (mw d 347 Q 417 [x0, some w, x2, x3, x4, x5, x6, x7, x8, x9] (w :: st) h) := (mw_at mj_347_416).trans (z_iload_n rfl)
theorem mj_347_417 : mc_P 347 417 = some (.iconst 1, 1, 0, 0, 0) := by decide +kernel
theorem s_347_417 {x0 x1 x2 x3 x4 x5 x6 x7 x8 x9 : Option Value} : mw d 347 Q 417 [x0, x1, x2, x3, x4, x5, x6, x7, x8, x9] (st) h = mw d 347 Q 418 [x0, x1, x2, x3, x4, x5, x6, x7, x8, x9] (.int 1 :: st) h := (mw_at mj_347_417).trans (z_iconst (by decide))
theorem mj_347_418 : mc_P 347 418 = some (.iadd, 1, 0, 0, 0) := by decide +kernel
theorem s_347_418 {x0 x1 x2 x3 x4 x5 x6 x7 x8 x9 : Option Value} {x w : Int32} : mw d 347 Q 418 [x0, x1, x2, x3, x4, x5, x6, x7, x8, x9] (.int w :: .int x :: st) h = mw d 347 Q 419 [x0, x1, x2, x3, x4, x5, x6, x7, x8, x9] (.int (x + w) :: st) h := (mw_at mj_347_418).trans (z_iadd)
theorem mj_347_419 : mc_P 347 419 = some (.iload 5, 2, 0, 0, 0) := by decide +kernel
theorem s_347_419 {x0 x1 x2 x3 x4 x6 x7 x8 x9 : Option Value} {w : Value} : mw d 347 Q 419 [x0, x1, x2, x3, x4, some w, x6, x7, x8, x9] (st) h = mv_i w (mw d 347 Q 421 [x0, x1, x2, x3, x4, some w, x6, x7, x8, x9] (w :: st) h) := (mw_at mj_347_419).trans (z_iload rfl)
theorem mj_347_421 : mc_P 347 421 = some (.invokevirtual 388, 3, 343, 14, 3) := by decide +kernel
theorem s_347_421 {x0 x1 x2 x3 x4 x5 x6 x7 x8 x9 : Option Value} {o : Nat} {a1 a2 : Value} : mw (d + 1) 347 Q 421 [x0, x1, x2, x3, x4, x5, x6, x7, x8, x9] (a2 :: a1 :: .ref o :: st) h = (mg h o 14 ∧ mca st 8 ∧ mca [.ref o, a1, a2] 4 ∧ mcall d 343 [.ref o, a1, a2] h (mK (d + 1) 347 Q 424 [x0, x1, x2, x3, x4, x5, x6, x7, x8, x9] st)) := (mw_at mj_347_421).trans ((z_invv (As := [a1, a2]) (by decide) rfl rfl).trans (congrArg (And _) (congrArg (And _) (mC_nl nl_343))))
theorem mj_347_424 : mc_P 347 424 = some (.ifCond .eq 333, 3, 0, 0, 0) := by decide +kernel
theorem s_347_424 {x0 x1 x2 x3 x4 x5 x6 x7 x8 x9 : Option Value} {x : Int32} : mw d 347 Q 424 [x0, x1, x2, x3, x4, x5, x6, x7, x8, x9] (.int x :: st) h = mB (x = 0) (mw d 347 Q) 757 427 [x0, x1, x2, x3, x4, x5, x6, x7, x8, x9] st h := (mw_at mj_347_424).trans (z_if_eq (by decide) rfl)
theorem mj_347_427 : mc_P 347 427 = some (.iload 7, 2, 0, 0, 0) := by decide +kernel
theorem s_347_427 {x0 x1 x2 x3 x4 x5 x6 x8 x9 : Option Value} {w : Value} : mw d 347 Q 427 [x0, x1, x2, x3, x4, x5, x6, some w, x8, x9] (st) h = mv_i w (mw d 347 Q 429 [x0, x1, x2, x3, x4, x5, x6, some w, x8, x9] (w :: st) h) := (mw_at mj_347_427).trans (z_iload rfl)
theorem mj_347_429 : mc_P 347 429 = some (.iconst 1, 1, 0, 0, 0) := by decide +kernel
theorem s_347_429 {x0 x1 x2 x3 x4 x5 x6 x7 x8 x9 : Option Value} : mw d 347 Q 429 [x0, x1, x2, x3, x4, x5, x6, x7, x8, x9] (st) h = mw d 347 Q 430 [x0, x1, x2, x3, x4, x5, x6, x7, x8, x9] (.int 1 :: st) h := (mw_at mj_347_429).trans (z_iconst (by decide))
theorem mj_347_430 : mc_P 347 430 = some (.if_icmp .lt 10, 3, 0, 0, 0) := by decide +kernel
theorem s_347_430 {x0 x1 x2 x3 x4 x5 x6 x7 x8 x9 : Option Value} {x w : Int32} : mw d 347 Q 430 [x0, x1, x2, x3, x4, x5, x6, x7, x8, x9] (.int w :: .int x :: st) h = mB (x < w) (mw d 347 Q) 440 433 [x0, x1, x2, x3, x4, x5, x6, x7, x8, x9] st h := (mw_at mj_347_430).trans (z_icmp_lt (by decide) rfl)
theorem mj_347_433 : mc_P 347 433 = some (.iload 7, 2, 0, 0, 0) := by decide +kernel
theorem s_347_433 {x0 x1 x2 x3 x4 x5 x6 x8 x9 : Option Value} {w : Value} : mw d 347 Q 433 [x0, x1, x2, x3, x4, x5, x6, some w, x8, x9] (st) h = mv_i w (mw d 347 Q 435 [x0, x1, x2, x3, x4, x5, x6, some w, x8, x9] (w :: st) h) := (mw_at mj_347_433).trans (z_iload rfl)
theorem mj_347_435 : mc_P 347 435 = some (.bipush 64, 2, 0, 0, 0) := by decide +kernel
theorem s_347_435 {x0 x1 x2 x3 x4 x5 x6 x7 x8 x9 : Option Value} : mw d 347 Q 435 [x0, x1, x2, x3, x4, x5, x6, x7, x8, x9] (st) h = mw d 347 Q 437 [x0, x1, x2, x3, x4, x5, x6, x7, x8, x9] (.int 64 :: st) h := (mw_at mj_347_435).trans (z_bipush (by decide))
theorem mj_347_437 : mc_P 347 437 = some (.if_icmp .le 15, 3, 0, 0, 0) := by decide +kernel
theorem s_347_437 {x0 x1 x2 x3 x4 x5 x6 x7 x8 x9 : Option Value} {x w : Int32} : mw d 347 Q 437 [x0, x1, x2, x3, x4, x5, x6, x7, x8, x9] (.int w :: .int x :: st) h = mB (x ≤ w) (mw d 347 Q) 452 440 [x0, x1, x2, x3, x4, x5, x6, x7, x8, x9] st h := (mw_at mj_347_437).trans (z_icmp_le (by decide) rfl)
theorem mj_347_440 : mc_P 347 440 = some (.aload_n 0, 1, 0, 0, 0) := by decide +kernel
theorem s_347_440 {x1 x2 x3 x4 x5 x6 x7 x8 x9 : Option Value} {w : Value} : mw d 347 Q 440 [some w, x1, x2, x3, x4, x5, x6, x7, x8, x9] (st) h = mv_a w (mw d 347 Q 441 [some w, x1, x2, x3, x4, x5, x6, x7, x8, x9] (w :: st) h) := (mw_at mj_347_440).trans (z_aload_n rfl)
theorem mj_347_441 : mc_P 347 441 = some (.bipush 9, 2, 0, 0, 0) := by decide +kernel
theorem s_347_441 {x0 x1 x2 x3 x4 x5 x6 x7 x8 x9 : Option Value} : mw d 347 Q 441 [x0, x1, x2, x3, x4, x5, x6, x7, x8, x9] (st) h = mw d 347 Q 443 [x0, x1, x2, x3, x4, x5, x6, x7, x8, x9] (.int 9 :: st) h := (mw_at mj_347_441).trans (z_bipush (by decide))
theorem mj_347_443 : mc_P 347 443 = some (.iload_n 1, 1, 0, 0, 0) := by decide +kernel
theorem s_347_443 {x0 x2 x3 x4 x5 x6 x7 x8 x9 : Option Value} {w : Value} : mw d 347 Q 443 [x0, some w, x2, x3, x4, x5, x6, x7, x8, x9] (st) h = mv_i w (mw d 347 Q 444 [x0, some w, x2, x3, x4, x5, x6, x7, x8, x9] (w :: st) h) := (mw_at mj_347_443).trans (z_iload_n rfl)
theorem mj_347_444 : mc_P 347 444 = some (.iconst 2, 1, 0, 0, 0) := by decide +kernel
theorem s_347_444 {x0 x1 x2 x3 x4 x5 x6 x7 x8 x9 : Option Value} : mw d 347 Q 444 [x0, x1, x2, x3, x4, x5, x6, x7, x8, x9] (st) h = mw d 347 Q 445 [x0, x1, x2, x3, x4, x5, x6, x7, x8, x9] (.int 2 :: st) h := (mw_at mj_347_444).trans (z_iconst (by decide))
theorem mj_347_445 : mc_P 347 445 = some (.iadd, 1, 0, 0, 0) := by decide +kernel
theorem s_347_445 {x0 x1 x2 x3 x4 x5 x6 x7 x8 x9 : Option Value} {x w : Int32} : mw d 347 Q 445 [x0, x1, x2, x3, x4, x5, x6, x7, x8, x9] (.int w :: .int x :: st) h = mw d 347 Q 446 [x0, x1, x2, x3, x4, x5, x6, x7, x8, x9] (.int (x + w) :: st) h := (mw_at mj_347_445).trans (z_iadd)
theorem mj_347_446 : mc_P 347 446 = some (.invokevirtual 366, 3, 335, 14, 3) := by decide +kernel
theorem s_347_446 {x0 x1 x2 x3 x4 x5 x6 x7 x8 x9 : Option Value} {o : Nat} {a1 a2 : Value} : mw (d + 1) 347 Q 446 [x0, x1, x2, x3, x4, x5, x6, x7, x8, x9] (a2 :: a1 :: .ref o :: st) h = (mg h o 14 ∧ mca st 8 ∧ mca [.ref o, a1, a2] 3 ∧ mcall d 335 [.ref o, a1, a2] h (mK (d + 1) 347 Q 449 [x0, x1, x2, x3, x4, x5, x6, x7, x8, x9] st)) := (mw_at mj_347_446).trans ((z_invv (As := [a1, a2]) (by decide) rfl rfl).trans (congrArg (And _) (congrArg (And _) (mC_nl nl_335))))
theorem mj_347_449 : mc_P 347 449 = some (.ifCond .eq 308, 3, 0, 0, 0) := by decide +kernel
theorem s_347_449 {x0 x1 x2 x3 x4 x5 x6 x7 x8 x9 : Option Value} {x : Int32} : mw d 347 Q 449 [x0, x1, x2, x3, x4, x5, x6, x7, x8, x9] (.int x :: st) h = mB (x = 0) (mw d 347 Q) 757 452 [x0, x1, x2, x3, x4, x5, x6, x7, x8, x9] st h := (mw_at mj_347_449).trans (z_if_eq (by decide) rfl)
theorem mj_347_452 : mc_P 347 452 = some (.aload_n 0, 1, 0, 0, 0) := by decide +kernel
theorem s_347_452 {x1 x2 x3 x4 x5 x6 x7 x8 x9 : Option Value} {w : Value} : mw d 347 Q 452 [some w, x1, x2, x3, x4, x5, x6, x7, x8, x9] (st) h = mv_a w (mw d 347 Q 453 [some w, x1, x2, x3, x4, x5, x6, x7, x8, x9] (w :: st) h) := (mw_at mj_347_452).trans (z_aload_n rfl)
theorem mj_347_453 : mc_P 347 453 = some (.getfield 379, 3, 14, 46, 0) := by decide +kernel
theorem s_347_453 {x0 x1 x2 x3 x4 x5 x6 x7 x8 x9 : Option Value} {o : Nat} : mw d 347 Q 453 [x0, x1, x2, x3, x4, x5, x6, x7, x8, x9] (.ref o :: st) h = (mg h o 14 ∧ mw d 347 Q 456 [x0, x1, x2, x3, x4, x5, x6, x7, x8, x9] (.int (mh_i h o 46) :: st) h) := (mw_at mj_347_453).trans (z_geti (by decide) (by decide) (Or.inl rfl))
theorem mj_347_456 : mc_P 347 456 = some (.bipush 6, 2, 0, 0, 0) := by decide +kernel
theorem s_347_456 {x0 x1 x2 x3 x4 x5 x6 x7 x8 x9 : Option Value} : mw d 347 Q 456 [x0, x1, x2, x3, x4, x5, x6, x7, x8, x9] (st) h = mw d 347 Q 458 [x0, x1, x2, x3, x4, x5, x6, x7, x8, x9] (.int 6 :: st) h := (mw_at mj_347_456).trans (z_bipush (by decide))
theorem mj_347_458 : mc_P 347 458 = some (.if_icmp .lt 13, 3, 0, 0, 0) := by decide +kernel
theorem s_347_458 {x0 x1 x2 x3 x4 x5 x6 x7 x8 x9 : Option Value} {x w : Int32} : mw d 347 Q 458 [x0, x1, x2, x3, x4, x5, x6, x7, x8, x9] (.int w :: .int x :: st) h = mB (x < w) (mw d 347 Q) 471 461 [x0, x1, x2, x3, x4, x5, x6, x7, x8, x9] st h := (mw_at mj_347_458).trans (z_icmp_lt (by decide) rfl)
theorem mj_347_461 : mc_P 347 461 = some (.aload_n 0, 1, 0, 0, 0) := by decide +kernel
theorem s_347_461 {x1 x2 x3 x4 x5 x6 x7 x8 x9 : Option Value} {w : Value} : mw d 347 Q 461 [some w, x1, x2, x3, x4, x5, x6, x7, x8, x9] (st) h = mv_a w (mw d 347 Q 462 [some w, x1, x2, x3, x4, x5, x6, x7, x8, x9] (w :: st) h) := (mw_at mj_347_461).trans (z_aload_n rfl)
theorem mj_347_462 : mc_P 347 462 = some (.bipush 13, 2, 0, 0, 0) := by decide +kernel
theorem s_347_462 {x0 x1 x2 x3 x4 x5 x6 x7 x8 x9 : Option Value} : mw d 347 Q 462 [x0, x1, x2, x3, x4, x5, x6, x7, x8, x9] (st) h = mw d 347 Q 464 [x0, x1, x2, x3, x4, x5, x6, x7, x8, x9] (.int 13 :: st) h := (mw_at mj_347_462).trans (z_bipush (by decide))
theorem mj_347_464 : mc_P 347 464 = some (.iload_n 1, 1, 0, 0, 0) := by decide +kernel
theorem s_347_464 {x0 x2 x3 x4 x5 x6 x7 x8 x9 : Option Value} {w : Value} : mw d 347 Q 464 [x0, some w, x2, x3, x4, x5, x6, x7, x8, x9] (st) h = mv_i w (mw d 347 Q 465 [x0, some w, x2, x3, x4, x5, x6, x7, x8, x9] (w :: st) h) := (mw_at mj_347_464).trans (z_iload_n rfl)
theorem mj_347_465 : mc_P 347 465 = some (.invokevirtual 366, 3, 335, 14, 3) := by decide +kernel
theorem s_347_465 {x0 x1 x2 x3 x4 x5 x6 x7 x8 x9 : Option Value} {o : Nat} {a1 a2 : Value} : mw (d + 1) 347 Q 465 [x0, x1, x2, x3, x4, x5, x6, x7, x8, x9] (a2 :: a1 :: .ref o :: st) h = (mg h o 14 ∧ mca st 8 ∧ mca [.ref o, a1, a2] 3 ∧ mcall d 335 [.ref o, a1, a2] h (mK (d + 1) 347 Q 468 [x0, x1, x2, x3, x4, x5, x6, x7, x8, x9] st)) := (mw_at mj_347_465).trans ((z_invv (As := [a1, a2]) (by decide) rfl rfl).trans (congrArg (And _) (congrArg (And _) (mC_nl nl_335))))
theorem mj_347_468 : mc_P 347 468 = some (.ifCond .eq 289, 3, 0, 0, 0) := by decide +kernel
theorem s_347_468 {x0 x1 x2 x3 x4 x5 x6 x7 x8 x9 : Option Value} {x : Int32} : mw d 347 Q 468 [x0, x1, x2, x3, x4, x5, x6, x7, x8, x9] (.int x :: st) h = mB (x = 0) (mw d 347 Q) 757 471 [x0, x1, x2, x3, x4, x5, x6, x7, x8, x9] st h := (mw_at mj_347_468).trans (z_if_eq (by decide) rfl)
theorem mj_347_471 : mc_P 347 471 = some (.aload_n 0, 1, 0, 0, 0) := by decide +kernel
theorem s_347_471 {x1 x2 x3 x4 x5 x6 x7 x8 x9 : Option Value} {w : Value} : mw d 347 Q 471 [some w, x1, x2, x3, x4, x5, x6, x7, x8, x9] (st) h = mv_a w (mw d 347 Q 472 [some w, x1, x2, x3, x4, x5, x6, x7, x8, x9] (w :: st) h) := (mw_at mj_347_471).trans (z_aload_n rfl)
theorem mj_347_472 : mc_P 347 472 = some (.aload_n 0, 1, 0, 0, 0) := by decide +kernel
theorem s_347_472 {x1 x2 x3 x4 x5 x6 x7 x8 x9 : Option Value} {w : Value} : mw d 347 Q 472 [some w, x1, x2, x3, x4, x5, x6, x7, x8, x9] (st) h = mv_a w (mw d 347 Q 473 [some w, x1, x2, x3, x4, x5, x6, x7, x8, x9] (w :: st) h) := (mw_at mj_347_472).trans (z_aload_n rfl)
theorem mj_347_473 : mc_P 347 473 = some (.getfield 55, 3, 14, 21, 0) := by decide +kernel
theorem s_347_473 {x0 x1 x2 x3 x4 x5 x6 x7 x8 x9 : Option Value} {o : Nat} : mw d 347 Q 473 [x0, x1, x2, x3, x4, x5, x6, x7, x8, x9] (.ref o :: st) h = (mg h o 14 ∧ mw d 347 Q 476 [x0, x1, x2, x3, x4, x5, x6, x7, x8, x9] (va_rf (mh_r h o 21) :: st) h) := (mw_at mj_347_473).trans (z_getr (by decide) (by decide) rfl)
theorem mj_347_476 : mc_P 347 476 = some (.iload_n 1, 1, 0, 0, 0) := by decide +kernel
theorem s_347_476 {x0 x2 x3 x4 x5 x6 x7 x8 x9 : Option Value} {w : Value} : mw d 347 Q 476 [x0, some w, x2, x3, x4, x5, x6, x7, x8, x9] (st) h = mv_i w (mw d 347 Q 477 [x0, some w, x2, x3, x4, x5, x6, x7, x8, x9] (w :: st) h) := (mw_at mj_347_476).trans (z_iload_n rfl)
theorem mj_347_477 : mc_P 347 477 = some (.iconst 1, 1, 0, 0, 0) := by decide +kernel
theorem s_347_477 {x0 x1 x2 x3 x4 x5 x6 x7 x8 x9 : Option Value} : mw d 347 Q 477 [x0, x1, x2, x3, x4, x5, x6, x7, x8, x9] (st) h = mw d 347 Q 478 [x0, x1, x2, x3, x4, x5, x6, x7, x8, x9] (.int 1 :: st) h := (mw_at mj_347_477).trans (z_iconst (by decide))
theorem mj_347_478 : mc_P 347 478 = some (.iadd, 1, 0, 0, 0) := by decide +kernel
theorem s_347_478 {x0 x1 x2 x3 x4 x5 x6 x7 x8 x9 : Option Value} {x w : Int32} : mw d 347 Q 478 [x0, x1, x2, x3, x4, x5, x6, x7, x8, x9] (.int w :: .int x :: st) h = mw d 347 Q 479 [x0, x1, x2, x3, x4, x5, x6, x7, x8, x9] (.int (x + w) :: st) h := (mw_at mj_347_478).trans (z_iadd)
theorem mj_347_479 : mc_P 347 479 = some (.iaload, 1, 0, 0, 0) := by decide +kernel
theorem s_347_479 {x0 x1 x2 x3 x4 x5 x6 x7 x8 x9 : Option Value} {o : Nat} {i : Int32} : mw d 347 Q 479 [x0, x1, x2, x3, x4, x5, x6, x7, x8, x9] (.int i :: .ref o :: st) h = (mg h o 100 ∧ mx i (mh_l h o) ∧ mw d 347 Q 480 [x0, x1, x2, x3, x4, x5, x6, x7, x8, x9] (.int (mh_i h o i.toNatClampNeg) :: st) h) := (mw_at mj_347_479).trans (z_iald)
theorem mj_347_480 : mc_P 347 480 = some (.aload_n 0, 1, 0, 0, 0) := by decide +kernel
theorem s_347_480 {x1 x2 x3 x4 x5 x6 x7 x8 x9 : Option Value} {w : Value} : mw d 347 Q 480 [some w, x1, x2, x3, x4, x5, x6, x7, x8, x9] (st) h = mv_a w (mw d 347 Q 481 [some w, x1, x2, x3, x4, x5, x6, x7, x8, x9] (w :: st) h) := (mw_at mj_347_480).trans (z_aload_n rfl)
theorem mj_347_481 : mc_P 347 481 = some (.getfield 379, 3, 14, 46, 0) := by decide +kernel
theorem s_347_481 {x0 x1 x2 x3 x4 x5 x6 x7 x8 x9 : Option Value} {o : Nat} : mw d 347 Q 481 [x0, x1, x2, x3, x4, x5, x6, x7, x8, x9] (.ref o :: st) h = (mg h o 14 ∧ mw d 347 Q 484 [x0, x1, x2, x3, x4, x5, x6, x7, x8, x9] (.int (mh_i h o 46) :: st) h) := (mw_at mj_347_481).trans (z_geti (by decide) (by decide) (Or.inl rfl))
theorem mj_347_484 : mc_P 347 484 = some (.iload 7, 2, 0, 0, 0) := by decide +kernel
theorem s_347_484 {x0 x1 x2 x3 x4 x5 x6 x8 x9 : Option Value} {w : Value} : mw d 347 Q 484 [x0, x1, x2, x3, x4, x5, x6, some w, x8, x9] (st) h = mv_i w (mw d 347 Q 486 [x0, x1, x2, x3, x4, x5, x6, some w, x8, x9] (w :: st) h) := (mw_at mj_347_484).trans (z_iload rfl)
theorem mj_347_486 : mc_P 347 486 = some (.iload 5, 2, 0, 0, 0) := by decide +kernel
theorem s_347_486 {x0 x1 x2 x3 x4 x6 x7 x8 x9 : Option Value} {w : Value} : mw d 347 Q 486 [x0, x1, x2, x3, x4, some w, x6, x7, x8, x9] (st) h = mv_i w (mw d 347 Q 488 [x0, x1, x2, x3, x4, some w, x6, x7, x8, x9] (w :: st) h) := (mw_at mj_347_486).trans (z_iload rfl)
theorem mj_347_488 : mc_P 347 488 = some (.invokevirtual 397, 3, 344, 14, 5) := by decide +kernel
theorem s_347_488 {x0 x1 x2 x3 x4 x5 x6 x7 x8 x9 : Option Value} {o : Nat} {a1 a2 a3 a4 : Value} : mw (d + 1) 347 Q 488 [x0, x1, x2, x3, x4, x5, x6, x7, x8, x9] (a4 :: a3 :: a2 :: a1 :: .ref o :: st) h = (mg h o 14 ∧ mca st 8 ∧ mca [.ref o, a1, a2, a3, a4] 5 ∧ mcall d 344 [.ref o, a1, a2, a3, a4] h (mK (d + 1) 347 Q 491 [x0, x1, x2, x3, x4, x5, x6, x7, x8, x9] st)) := (mw_at mj_347_488).trans ((z_invv (As := [a1, a2, a3, a4]) (by decide) rfl rfl).trans (congrArg (And _) (congrArg (And _) (mC_nl nl_344))))
theorem mj_347_491 : mc_P 347 491 = some (.aload_n 0, 1, 0, 0, 0) := by decide +kernel
theorem s_347_491 {x1 x2 x3 x4 x5 x6 x7 x8 x9 : Option Value} {w : Value} : mw d 347 Q 491 [some w, x1, x2, x3, x4, x5, x6, x7, x8, x9] (st) h = mv_a w (mw d 347 Q 492 [some w, x1, x2, x3, x4, x5, x6, x7, x8, x9] (w :: st) h) := (mw_at mj_347_491).trans (z_aload_n rfl)
theorem mj_347_492 : mc_P 347 492 = some (.dup, 1, 0, 0, 0) := by decide +kernel
theorem s_347_492 {x0 x1 x2 x3 x4 x5 x6 x7 x8 x9 : Option Value} {w : Value} : mw d 347 Q 492 [x0, x1, x2, x3, x4, x5, x6, x7, x8, x9] (w :: st) h = (w.category = 1 ∧ mw d 347 Q 493 [x0, x1, x2, x3, x4, x5, x6, x7, x8, x9] (w :: w :: st) h) := (mw_at mj_347_492).trans (z_dup)
theorem mj_347_493 : mc_P 347 493 = some (.getfield 379, 3, 14, 46, 0) := by decide +kernel
theorem s_347_493 {x0 x1 x2 x3 x4 x5 x6 x7 x8 x9 : Option Value} {o : Nat} : mw d 347 Q 493 [x0, x1, x2, x3, x4, x5, x6, x7, x8, x9] (.ref o :: st) h = (mg h o 14 ∧ mw d 347 Q 496 [x0, x1, x2, x3, x4, x5, x6, x7, x8, x9] (.int (mh_i h o 46) :: st) h) := (mw_at mj_347_493).trans (z_geti (by decide) (by decide) (Or.inl rfl))
theorem mj_347_496 : mc_P 347 496 = some (.iconst 1, 1, 0, 0, 0) := by decide +kernel
theorem s_347_496 {x0 x1 x2 x3 x4 x5 x6 x7 x8 x9 : Option Value} : mw d 347 Q 496 [x0, x1, x2, x3, x4, x5, x6, x7, x8, x9] (st) h = mw d 347 Q 497 [x0, x1, x2, x3, x4, x5, x6, x7, x8, x9] (.int 1 :: st) h := (mw_at mj_347_496).trans (z_iconst (by decide))
theorem mj_347_497 : mc_P 347 497 = some (.iadd, 1, 0, 0, 0) := by decide +kernel
theorem s_347_497 {x0 x1 x2 x3 x4 x5 x6 x7 x8 x9 : Option Value} {x w : Int32} : mw d 347 Q 497 [x0, x1, x2, x3, x4, x5, x6, x7, x8, x9] (.int w :: .int x :: st) h = mw d 347 Q 498 [x0, x1, x2, x3, x4, x5, x6, x7, x8, x9] (.int (x + w) :: st) h := (mw_at mj_347_497).trans (z_iadd)
theorem mj_347_498 : mc_P 347 498 = some (.putfield 379, 3, 14, 46, 0) := by decide +kernel
theorem s_347_498 {x0 x1 x2 x3 x4 x5 x6 x7 x8 x9 : Option Value} {o : Nat} {w : Int32} : mw d 347 Q 498 [x0, x1, x2, x3, x4, x5, x6, x7, x8, x9] (.int w :: .ref o :: st) h = (mg h o 14 ∧ mw d 347 Q 501 [x0, x1, x2, x3, x4, x5, x6, x7, x8, x9] (st) (mh_si h o 46 w)) := (mw_at mj_347_498).trans (z_puti (by decide) (by decide) rfl)
theorem mj_347_501 : mc_P 347 501 = some (.goto 256, 3, 0, 0, 0) := by decide +kernel
theorem s_347_501 {x0 x1 x2 x3 x4 x5 x6 x7 x8 x9 : Option Value} : mw d 347 Q 501 [x0, x1, x2, x3, x4, x5, x6, x7, x8, x9] (st) h = mw d 347 Q 757 [x0, x1, x2, x3, x4, x5, x6, x7, x8, x9] (st) h := (mw_at mj_347_501).trans (z_goto (by decide))
theorem mj_347_504 : mc_P 347 504 = some (.aload_n 0, 1, 0, 0, 0) := by decide +kernel
theorem s_347_504 {x1 x2 x3 x4 x5 x6 x7 x8 x9 : Option Value} {w : Value} : mw d 347 Q 504 [some w, x1, x2, x3, x4, x5, x6, x7, x8, x9] (st) h = mv_a w (mw d 347 Q 505 [some w, x1, x2, x3, x4, x5, x6, x7, x8, x9] (w :: st) h) := (mw_at mj_347_504).trans (z_aload_n rfl)
theorem mj_347_505 : mc_P 347 505 = some (.iload_n 1, 1, 0, 0, 0) := by decide +kernel
theorem s_347_505 {x0 x2 x3 x4 x5 x6 x7 x8 x9 : Option Value} {w : Value} : mw d 347 Q 505 [x0, some w, x2, x3, x4, x5, x6, x7, x8, x9] (st) h = mv_i w (mw d 347 Q 506 [x0, some w, x2, x3, x4, x5, x6, x7, x8, x9] (w :: st) h) := (mw_at mj_347_505).trans (z_iload_n rfl)
theorem mj_347_506 : mc_P 347 506 = some (.iconst 1, 1, 0, 0, 0) := by decide +kernel
theorem s_347_506 {x0 x1 x2 x3 x4 x5 x6 x7 x8 x9 : Option Value} : mw d 347 Q 506 [x0, x1, x2, x3, x4, x5, x6, x7, x8, x9] (st) h = mw d 347 Q 507 [x0, x1, x2, x3, x4, x5, x6, x7, x8, x9] (.int 1 :: st) h := (mw_at mj_347_506).trans (z_iconst (by decide))
theorem mj_347_507 : mc_P 347 507 = some (.iadd, 1, 0, 0, 0) := by decide +kernel
theorem s_347_507 {x0 x1 x2 x3 x4 x5 x6 x7 x8 x9 : Option Value} {x w : Int32} : mw d 347 Q 507 [x0, x1, x2, x3, x4, x5, x6, x7, x8, x9] (.int w :: .int x :: st) h = mw d 347 Q 508 [x0, x1, x2, x3, x4, x5, x6, x7, x8, x9] (.int (x + w) :: st) h := (mw_at mj_347_507).trans (z_iadd)
theorem mj_347_508 : mc_P 347 508 = some (.iconst 0, 1, 0, 0, 0) := by decide +kernel
theorem s_347_508 {x0 x1 x2 x3 x4 x5 x6 x7 x8 x9 : Option Value} : mw d 347 Q 508 [x0, x1, x2, x3, x4, x5, x6, x7, x8, x9] (st) h = mw d 347 Q 509 [x0, x1, x2, x3, x4, x5, x6, x7, x8, x9] (.int 0 :: st) h := (mw_at mj_347_508).trans (z_iconst (by decide))
theorem mj_347_509 : mc_P 347 509 = some (.invokevirtual 369, 3, 341, 14, 3) := by decide +kernel
theorem s_347_509 {x0 x1 x2 x3 x4 x5 x6 x7 x8 x9 : Option Value} {o : Nat} {a1 a2 : Value} : mw (d + 1) 347 Q 509 [x0, x1, x2, x3, x4, x5, x6, x7, x8, x9] (a2 :: a1 :: .ref o :: st) h = (mg h o 14 ∧ mca st 8 ∧ mca [.ref o, a1, a2] 4 ∧ mcall d 341 [.ref o, a1, a2] h (mK (d + 1) 347 Q 512 [x0, x1, x2, x3, x4, x5, x6, x7, x8, x9] st)) := (mw_at mj_347_509).trans ((z_invv (As := [a1, a2]) (by decide) rfl rfl).trans (congrArg (And _) (congrArg (And _) (mC_nl nl_341))))
theorem mj_347_512 : mc_P 347 512 = some (.ifCond .eq 245, 3, 0, 0, 0) := by decide +kernel
theorem s_347_512 {x0 x1 x2 x3 x4 x5 x6 x7 x8 x9 : Option Value} {x : Int32} : mw d 347 Q 512 [x0, x1, x2, x3, x4, x5, x6, x7, x8, x9] (.int x :: st) h = mB (x = 0) (mw d 347 Q) 757 515 [x0, x1, x2, x3, x4, x5, x6, x7, x8, x9] st h := (mw_at mj_347_512).trans (z_if_eq (by decide) rfl)
theorem mj_347_515 : mc_P 347 515 = some (.aload_n 0, 1, 0, 0, 0) := by decide +kernel
theorem s_347_515 {x1 x2 x3 x4 x5 x6 x7 x8 x9 : Option Value} {w : Value} : mw d 347 Q 515 [some w, x1, x2, x3, x4, x5, x6, x7, x8, x9] (st) h = mv_a w (mw d 347 Q 516 [some w, x1, x2, x3, x4, x5, x6, x7, x8, x9] (w :: st) h) := (mw_at mj_347_515).trans (z_aload_n rfl)
theorem mj_347_516 : mc_P 347 516 = some (.aload_n 0, 1, 0, 0, 0) := by decide +kernel
theorem s_347_516 {x1 x2 x3 x4 x5 x6 x7 x8 x9 : Option Value} {w : Value} : mw d 347 Q 516 [some w, x1, x2, x3, x4, x5, x6, x7, x8, x9] (st) h = mv_a w (mw d 347 Q 517 [some w, x1, x2, x3, x4, x5, x6, x7, x8, x9] (w :: st) h) := (mw_at mj_347_516).trans (z_aload_n rfl)
theorem mj_347_517 : mc_P 347 517 = some (.iload_n 1, 1, 0, 0, 0) := by decide +kernel
theorem s_347_517 {x0 x2 x3 x4 x5 x6 x7 x8 x9 : Option Value} {w : Value} : mw d 347 Q 517 [x0, some w, x2, x3, x4, x5, x6, x7, x8, x9] (st) h = mv_i w (mw d 347 Q 518 [x0, some w, x2, x3, x4, x5, x6, x7, x8, x9] (w :: st) h) := (mw_at mj_347_517).trans (z_iload_n rfl)
theorem mj_347_518 : mc_P 347 518 = some (.invokevirtual 391, 3, 334, 14, 2) := by decide +kernel
theorem s_347_518 {x0 x1 x2 x3 x4 x5 x6 x7 x8 x9 : Option Value} {o : Nat} {a1 : Value} : mw (d + 1) 347 Q 518 [x0, x1, x2, x3, x4, x5, x6, x7, x8, x9] (a1 :: .ref o :: st) h = (mg h o 14 ∧ mca st 8 ∧ mca [.ref o, a1] 2 ∧ mcall d 334 [.ref o, a1] h (mK (d + 1) 347 Q 521 [x0, x1, x2, x3, x4, x5, x6, x7, x8, x9] st)) := (mw_at mj_347_518).trans ((z_invv (As := [a1]) (by decide) rfl rfl).trans (congrArg (And _) (congrArg (And _) (mC_nl nl_334))))
theorem mj_347_521 : mc_P 347 521 = some (.invokevirtual 394, 3, 342, 14, 2) := by decide +kernel
theorem s_347_521 {x0 x1 x2 x3 x4 x5 x6 x7 x8 x9 : Option Value} {o : Nat} {a1 : Value} : mw (d + 1) 347 Q 521 [x0, x1, x2, x3, x4, x5, x6, x7, x8, x9] (a1 :: .ref o :: st) h = (mg h o 14 ∧ mca st 8 ∧ mca [.ref o, a1] 4 ∧ mcall d 342 [.ref o, a1] h (mK (d + 1) 347 Q 524 [x0, x1, x2, x3, x4, x5, x6, x7, x8, x9] st)) := (mw_at mj_347_521).trans ((z_invv (As := [a1]) (by decide) rfl rfl).trans (congrArg (And _) (congrArg (And _) (mC_nl nl_342))))
theorem mj_347_524 : mc_P 347 524 = some (.pop, 1, 0, 0, 0) := by decide +kernel
theorem s_347_524 {x0 x1 x2 x3 x4 x5 x6 x7 x8 x9 : Option Value} {w : Value} : mw d 347 Q 524 [x0, x1, x2, x3, x4, x5, x6, x7, x8, x9] (w :: st) h = (w.category = 1 ∧ mw d 347 Q 525 [x0, x1, x2, x3, x4, x5, x6, x7, x8, x9] (st) h) := (mw_at mj_347_524).trans (z_pop)
theorem mj_347_525 : mc_P 347 525 = some (.goto 232, 3, 0, 0, 0) := by decide +kernel
theorem s_347_525 {x0 x1 x2 x3 x4 x5 x6 x7 x8 x9 : Option Value} : mw d 347 Q 525 [x0, x1, x2, x3, x4, x5, x6, x7, x8, x9] (st) h = mw d 347 Q 757 [x0, x1, x2, x3, x4, x5, x6, x7, x8, x9] (st) h := (mw_at mj_347_525).trans (z_goto (by decide))
theorem mj_347_528 : mc_P 347 528 = some (.aload_n 0, 1, 0, 0, 0) := by decide +kernel
theorem s_347_528 {x1 x2 x3 x4 x5 x6 x7 x8 x9 : Option Value} {w : Value} : mw d 347 Q 528 [some w, x1, x2, x3, x4, x5, x6, x7, x8, x9] (st) h = mv_a w (mw d 347 Q 529 [some w, x1, x2, x3, x4, x5, x6, x7, x8, x9] (w :: st) h) := (mw_at mj_347_528).trans (z_aload_n rfl)
theorem mj_347_529 : mc_P 347 529 = some (.iload_n 1, 1, 0, 0, 0) := by decide +kernel
theorem s_347_529 {x0 x2 x3 x4 x5 x6 x7 x8 x9 : Option Value} {w : Value} : mw d 347 Q 529 [x0, some w, x2, x3, x4, x5, x6, x7, x8, x9] (st) h = mv_i w (mw d 347 Q 530 [x0, some w, x2, x3, x4, x5, x6, x7, x8, x9] (w :: st) h) := (mw_at mj_347_529).trans (z_iload_n rfl)
theorem mj_347_530 : mc_P 347 530 = some (.iconst 1, 1, 0, 0, 0) := by decide +kernel
theorem s_347_530 {x0 x1 x2 x3 x4 x5 x6 x7 x8 x9 : Option Value} : mw d 347 Q 530 [x0, x1, x2, x3, x4, x5, x6, x7, x8, x9] (st) h = mw d 347 Q 531 [x0, x1, x2, x3, x4, x5, x6, x7, x8, x9] (.int 1 :: st) h := (mw_at mj_347_530).trans (z_iconst (by decide))
theorem mj_347_531 : mc_P 347 531 = some (.iadd, 1, 0, 0, 0) := by decide +kernel
theorem s_347_531 {x0 x1 x2 x3 x4 x5 x6 x7 x8 x9 : Option Value} {x w : Int32} : mw d 347 Q 531 [x0, x1, x2, x3, x4, x5, x6, x7, x8, x9] (.int w :: .int x :: st) h = mw d 347 Q 532 [x0, x1, x2, x3, x4, x5, x6, x7, x8, x9] (.int (x + w) :: st) h := (mw_at mj_347_531).trans (z_iadd)
theorem mj_347_532 : mc_P 347 532 = some (.iconst 1, 1, 0, 0, 0) := by decide +kernel
theorem s_347_532 {x0 x1 x2 x3 x4 x5 x6 x7 x8 x9 : Option Value} : mw d 347 Q 532 [x0, x1, x2, x3, x4, x5, x6, x7, x8, x9] (st) h = mw d 347 Q 533 [x0, x1, x2, x3, x4, x5, x6, x7, x8, x9] (.int 1 :: st) h := (mw_at mj_347_532).trans (z_iconst (by decide))
theorem mj_347_533 : mc_P 347 533 = some (.invokevirtual 369, 3, 341, 14, 3) := by decide +kernel
theorem s_347_533 {x0 x1 x2 x3 x4 x5 x6 x7 x8 x9 : Option Value} {o : Nat} {a1 a2 : Value} : mw (d + 1) 347 Q 533 [x0, x1, x2, x3, x4, x5, x6, x7, x8, x9] (a2 :: a1 :: .ref o :: st) h = (mg h o 14 ∧ mca st 8 ∧ mca [.ref o, a1, a2] 4 ∧ mcall d 341 [.ref o, a1, a2] h (mK (d + 1) 347 Q 536 [x0, x1, x2, x3, x4, x5, x6, x7, x8, x9] st)) := (mw_at mj_347_533).trans ((z_invv (As := [a1, a2]) (by decide) rfl rfl).trans (congrArg (And _) (congrArg (And _) (mC_nl nl_341))))
theorem mj_347_536 : mc_P 347 536 = some (.ifCond .eq 221, 3, 0, 0, 0) := by decide +kernel
theorem s_347_536 {x0 x1 x2 x3 x4 x5 x6 x7 x8 x9 : Option Value} {x : Int32} : mw d 347 Q 536 [x0, x1, x2, x3, x4, x5, x6, x7, x8, x9] (.int x :: st) h = mB (x = 0) (mw d 347 Q) 757 539 [x0, x1, x2, x3, x4, x5, x6, x7, x8, x9] st h := (mw_at mj_347_536).trans (z_if_eq (by decide) rfl)
theorem mj_347_539 : mc_P 347 539 = some (.aload_n 0, 1, 0, 0, 0) := by decide +kernel
theorem s_347_539 {x1 x2 x3 x4 x5 x6 x7 x8 x9 : Option Value} {w : Value} : mw d 347 Q 539 [some w, x1, x2, x3, x4, x5, x6, x7, x8, x9] (st) h = mv_a w (mw d 347 Q 540 [some w, x1, x2, x3, x4, x5, x6, x7, x8, x9] (w :: st) h) := (mw_at mj_347_539).trans (z_aload_n rfl)
theorem mj_347_540 : mc_P 347 540 = some (.aload_n 0, 1, 0, 0, 0) := by decide +kernel
theorem s_347_540 {x1 x2 x3 x4 x5 x6 x7 x8 x9 : Option Value} {w : Value} : mw d 347 Q 540 [some w, x1, x2, x3, x4, x5, x6, x7, x8, x9] (st) h = mv_a w (mw d 347 Q 541 [some w, x1, x2, x3, x4, x5, x6, x7, x8, x9] (w :: st) h) := (mw_at mj_347_540).trans (z_aload_n rfl)
theorem mj_347_541 : mc_P 347 541 = some (.iload_n 1, 1, 0, 0, 0) := by decide +kernel
theorem s_347_541 {x0 x2 x3 x4 x5 x6 x7 x8 x9 : Option Value} {w : Value} : mw d 347 Q 541 [x0, some w, x2, x3, x4, x5, x6, x7, x8, x9] (st) h = mv_i w (mw d 347 Q 542 [x0, some w, x2, x3, x4, x5, x6, x7, x8, x9] (w :: st) h) := (mw_at mj_347_541).trans (z_iload_n rfl)
theorem mj_347_542 : mc_P 347 542 = some (.invokevirtual 391, 3, 334, 14, 2) := by decide +kernel
theorem s_347_542 {x0 x1 x2 x3 x4 x5 x6 x7 x8 x9 : Option Value} {o : Nat} {a1 : Value} : mw (d + 1) 347 Q 542 [x0, x1, x2, x3, x4, x5, x6, x7, x8, x9] (a1 :: .ref o :: st) h = (mg h o 14 ∧ mca st 8 ∧ mca [.ref o, a1] 2 ∧ mcall d 334 [.ref o, a1] h (mK (d + 1) 347 Q 545 [x0, x1, x2, x3, x4, x5, x6, x7, x8, x9] st)) := (mw_at mj_347_542).trans ((z_invv (As := [a1]) (by decide) rfl rfl).trans (congrArg (And _) (congrArg (And _) (mC_nl nl_334))))
theorem mj_347_545 : mc_P 347 545 = some (.invokevirtual 394, 3, 342, 14, 2) := by decide +kernel
theorem s_347_545 {x0 x1 x2 x3 x4 x5 x6 x7 x8 x9 : Option Value} {o : Nat} {a1 : Value} : mw (d + 1) 347 Q 545 [x0, x1, x2, x3, x4, x5, x6, x7, x8, x9] (a1 :: .ref o :: st) h = (mg h o 14 ∧ mca st 8 ∧ mca [.ref o, a1] 4 ∧ mcall d 342 [.ref o, a1] h (mK (d + 1) 347 Q 548 [x0, x1, x2, x3, x4, x5, x6, x7, x8, x9] st)) := (mw_at mj_347_545).trans ((z_invv (As := [a1]) (by decide) rfl rfl).trans (congrArg (And _) (congrArg (And _) (mC_nl nl_342))))
theorem mj_347_548 : mc_P 347 548 = some (.ifCond .eq 209, 3, 0, 0, 0) := by decide +kernel
theorem s_347_548 {x0 x1 x2 x3 x4 x5 x6 x7 x8 x9 : Option Value} {x : Int32} : mw d 347 Q 548 [x0, x1, x2, x3, x4, x5, x6, x7, x8, x9] (.int x :: st) h = mB (x = 0) (mw d 347 Q) 757 551 [x0, x1, x2, x3, x4, x5, x6, x7, x8, x9] st h := (mw_at mj_347_548).trans (z_if_eq (by decide) rfl)
theorem mj_347_551 : mc_P 347 551 = some (.aload_n 0, 1, 0, 0, 0) := by decide +kernel
theorem s_347_551 {x1 x2 x3 x4 x5 x6 x7 x8 x9 : Option Value} {w : Value} : mw d 347 Q 551 [some w, x1, x2, x3, x4, x5, x6, x7, x8, x9] (st) h = mv_a w (mw d 347 Q 552 [some w, x1, x2, x3, x4, x5, x6, x7, x8, x9] (w :: st) h) := (mw_at mj_347_551).trans (z_aload_n rfl)
theorem mj_347_552 : mc_P 347 552 = some (.aload_n 0, 1, 0, 0, 0) := by decide +kernel
theorem s_347_552 {x1 x2 x3 x4 x5 x6 x7 x8 x9 : Option Value} {w : Value} : mw d 347 Q 552 [some w, x1, x2, x3, x4, x5, x6, x7, x8, x9] (st) h = mv_a w (mw d 347 Q 553 [some w, x1, x2, x3, x4, x5, x6, x7, x8, x9] (w :: st) h) := (mw_at mj_347_552).trans (z_aload_n rfl)
theorem mj_347_553 : mc_P 347 553 = some (.aload_n 0, 1, 0, 0, 0) := by decide +kernel
theorem s_347_553 {x1 x2 x3 x4 x5 x6 x7 x8 x9 : Option Value} {w : Value} : mw d 347 Q 553 [some w, x1, x2, x3, x4, x5, x6, x7, x8, x9] (st) h = mv_a w (mw d 347 Q 554 [some w, x1, x2, x3, x4, x5, x6, x7, x8, x9] (w :: st) h) := (mw_at mj_347_553).trans (z_aload_n rfl)
theorem mj_347_554 : mc_P 347 554 = some (.iload_n 1, 1, 0, 0, 0) := by decide +kernel
theorem s_347_554 {x0 x2 x3 x4 x5 x6 x7 x8 x9 : Option Value} {w : Value} : mw d 347 Q 554 [x0, some w, x2, x3, x4, x5, x6, x7, x8, x9] (st) h = mv_i w (mw d 347 Q 555 [x0, some w, x2, x3, x4, x5, x6, x7, x8, x9] (w :: st) h) := (mw_at mj_347_554).trans (z_iload_n rfl)
theorem mj_347_555 : mc_P 347 555 = some (.invokevirtual 391, 3, 334, 14, 2) := by decide +kernel
theorem s_347_555 {x0 x1 x2 x3 x4 x5 x6 x7 x8 x9 : Option Value} {o : Nat} {a1 : Value} : mw (d + 1) 347 Q 555 [x0, x1, x2, x3, x4, x5, x6, x7, x8, x9] (a1 :: .ref o :: st) h = (mg h o 14 ∧ mca st 8 ∧ mca [.ref o, a1] 2 ∧ mcall d 334 [.ref o, a1] h (mK (d + 1) 347 Q 558 [x0, x1, x2, x3, x4, x5, x6, x7, x8, x9] st)) := (mw_at mj_347_555).trans ((z_invv (As := [a1]) (by decide) rfl rfl).trans (congrArg (And _) (congrArg (And _) (mC_nl nl_334))))
theorem mj_347_558 : mc_P 347 558 = some (.invokevirtual 348, 3, 333, 14, 2) := by decide +kernel
theorem s_347_558 {x0 x1 x2 x3 x4 x5 x6 x7 x8 x9 : Option Value} {o : Nat} {a1 : Value} : mw (d + 1) 347 Q 558 [x0, x1, x2, x3, x4, x5, x6, x7, x8, x9] (a1 :: .ref o :: st) h = (mg h o 14 ∧ mca st 8 ∧ mca [.ref o, a1] 2 ∧ mcall d 333 [.ref o, a1] h (mK (d + 1) 347 Q 561 [x0, x1, x2, x3, x4, x5, x6, x7, x8, x9] st)) := (mw_at mj_347_558).trans ((z_invv (As := [a1]) (by decide) rfl rfl).trans (congrArg (And _) (congrArg (And _) (mC_nl nl_333))))
theorem mj_347_561 : mc_P 347 561 = some (.invokevirtual 394, 3, 342, 14, 2) := by decide +kernel
theorem s_347_561 {x0 x1 x2 x3 x4 x5 x6 x7 x8 x9 : Option Value} {o : Nat} {a1 : Value} : mw (d + 1) 347 Q 561 [x0, x1, x2, x3, x4, x5, x6, x7, x8, x9] (a1 :: .ref o :: st) h = (mg h o 14 ∧ mca st 8 ∧ mca [.ref o, a1] 4 ∧ mcall d 342 [.ref o, a1] h (mK (d + 1) 347 Q 564 [x0, x1, x2, x3, x4, x5, x6, x7, x8, x9] st)) := (mw_at mj_347_561).trans ((z_invv (As := [a1]) (by decide) rfl rfl).trans (congrArg (And _) (congrArg (And _) (mC_nl nl_342))))
theorem mj_347_564 : mc_P 347 564 = some (.pop, 1, 0, 0, 0) := by decide +kernel
theorem s_347_564 {x0 x1 x2 x3 x4 x5 x6 x7 x8 x9 : Option Value} {w : Value} : mw d 347 Q 564 [x0, x1, x2, x3, x4, x5, x6, x7, x8, x9] (w :: st) h = (w.category = 1 ∧ mw d 347 Q 565 [x0, x1, x2, x3, x4, x5, x6, x7, x8, x9] (st) h) := (mw_at mj_347_564).trans (z_pop)
theorem mj_347_565 : mc_P 347 565 = some (.goto 192, 3, 0, 0, 0) := by decide +kernel
theorem s_347_565 {x0 x1 x2 x3 x4 x5 x6 x7 x8 x9 : Option Value} : mw d 347 Q 565 [x0, x1, x2, x3, x4, x5, x6, x7, x8, x9] (st) h = mw d 347 Q 757 [x0, x1, x2, x3, x4, x5, x6, x7, x8, x9] (st) h := (mw_at mj_347_565).trans (z_goto (by decide))
theorem mj_347_568 : mc_P 347 568 = some (.aload_n 0, 1, 0, 0, 0) := by decide +kernel
theorem s_347_568 {x1 x2 x3 x4 x5 x6 x7 x8 x9 : Option Value} {w : Value} : mw d 347 Q 568 [some w, x1, x2, x3, x4, x5, x6, x7, x8, x9] (st) h = mv_a w (mw d 347 Q 569 [some w, x1, x2, x3, x4, x5, x6, x7, x8, x9] (w :: st) h) := (mw_at mj_347_568).trans (z_aload_n rfl)
theorem mj_347_569 : mc_P 347 569 = some (.iload_n 1, 1, 0, 0, 0) := by decide +kernel
theorem s_347_569 {x0 x2 x3 x4 x5 x6 x7 x8 x9 : Option Value} {w : Value} : mw d 347 Q 569 [x0, some w, x2, x3, x4, x5, x6, x7, x8, x9] (st) h = mv_i w (mw d 347 Q 570 [x0, some w, x2, x3, x4, x5, x6, x7, x8, x9] (w :: st) h) := (mw_at mj_347_569).trans (z_iload_n rfl)
theorem mj_347_570 : mc_P 347 570 = some (.iload 6, 2, 0, 0, 0) := by decide +kernel
theorem s_347_570 {x0 x1 x2 x3 x4 x5 x7 x8 x9 : Option Value} {w : Value} : mw d 347 Q 570 [x0, x1, x2, x3, x4, x5, some w, x7, x8, x9] (st) h = mv_i w (mw d 347 Q 572 [x0, x1, x2, x3, x4, x5, some w, x7, x8, x9] (w :: st) h) := (mw_at mj_347_570).trans (z_iload rfl)
theorem mj_347_572 : mc_P 347 572 = some (.invokevirtual 400, 3, 348, 14, 3) := by decide +kernel
theorem s_347_572 {x0 x1 x2 x3 x4 x5 x6 x7 x8 x9 : Option Value} {o : Nat} {a1 a2 : Value} : mw (d + 1) 347 Q 572 [x0, x1, x2, x3, x4, x5, x6, x7, x8, x9] (a2 :: a1 :: .ref o :: st) h = (mg h o 14 ∧ mca st 8 ∧ mca [.ref o, a1, a2] 13 ∧ mcall d 348 [.ref o, a1, a2] h (mK (d + 1) 347 Q 575 [x0, x1, x2, x3, x4, x5, x6, x7, x8, x9] st)) := (mw_at mj_347_572).trans ((z_invv (As := [a1, a2]) (by decide) rfl rfl).trans (congrArg (And _) (congrArg (And _) (mC_nl nl_348))))
theorem mj_347_575 : mc_P 347 575 = some (.goto 182, 3, 0, 0, 0) := by decide +kernel
theorem s_347_575 {x0 x1 x2 x3 x4 x5 x6 x7 x8 x9 : Option Value} : mw d 347 Q 575 [x0, x1, x2, x3, x4, x5, x6, x7, x8, x9] (st) h = mw d 347 Q 757 [x0, x1, x2, x3, x4, x5, x6, x7, x8, x9] (st) h := (mw_at mj_347_575).trans (z_goto (by decide))
theorem mj_347_578 : mc_P 347 578 = some (.aload_n 0, 1, 0, 0, 0) := by decide +kernel
theorem s_347_578 {x1 x2 x3 x4 x5 x6 x7 x8 x9 : Option Value} {w : Value} : mw d 347 Q 578 [some w, x1, x2, x3, x4, x5, x6, x7, x8, x9] (st) h = mv_a w (mw d 347 Q 579 [some w, x1, x2, x3, x4, x5, x6, x7, x8, x9] (w :: st) h) := (mw_at mj_347_578).trans (z_aload_n rfl)
theorem mj_347_579 : mc_P 347 579 = some (.iload_n 1, 1, 0, 0, 0) := by decide +kernel
theorem s_347_579 {x0 x2 x3 x4 x5 x6 x7 x8 x9 : Option Value} {w : Value} : mw d 347 Q 579 [x0, some w, x2, x3, x4, x5, x6, x7, x8, x9] (st) h = mv_i w (mw d 347 Q 580 [x0, some w, x2, x3, x4, x5, x6, x7, x8, x9] (w :: st) h) := (mw_at mj_347_579).trans (z_iload_n rfl)
theorem mj_347_580 : mc_P 347 580 = some (.iconst 1, 1, 0, 0, 0) := by decide +kernel
theorem s_347_580 {x0 x1 x2 x3 x4 x5 x6 x7 x8 x9 : Option Value} : mw d 347 Q 580 [x0, x1, x2, x3, x4, x5, x6, x7, x8, x9] (st) h = mw d 347 Q 581 [x0, x1, x2, x3, x4, x5, x6, x7, x8, x9] (.int 1 :: st) h := (mw_at mj_347_580).trans (z_iconst (by decide))
theorem mj_347_581 : mc_P 347 581 = some (.iadd, 1, 0, 0, 0) := by decide +kernel
theorem s_347_581 {x0 x1 x2 x3 x4 x5 x6 x7 x8 x9 : Option Value} {x w : Int32} : mw d 347 Q 581 [x0, x1, x2, x3, x4, x5, x6, x7, x8, x9] (.int w :: .int x :: st) h = mw d 347 Q 582 [x0, x1, x2, x3, x4, x5, x6, x7, x8, x9] (.int (x + w) :: st) h := (mw_at mj_347_581).trans (z_iadd)
theorem mj_347_582 : mc_P 347 582 = some (.invokevirtual 394, 3, 342, 14, 2) := by decide +kernel
theorem s_347_582 {x0 x1 x2 x3 x4 x5 x6 x7 x8 x9 : Option Value} {o : Nat} {a1 : Value} : mw (d + 1) 347 Q 582 [x0, x1, x2, x3, x4, x5, x6, x7, x8, x9] (a1 :: .ref o :: st) h = (mg h o 14 ∧ mca st 8 ∧ mca [.ref o, a1] 4 ∧ mcall d 342 [.ref o, a1] h (mK (d + 1) 347 Q 585 [x0, x1, x2, x3, x4, x5, x6, x7, x8, x9] st)) := (mw_at mj_347_582).trans ((z_invv (As := [a1]) (by decide) rfl rfl).trans (congrArg (And _) (congrArg (And _) (mC_nl nl_342))))
theorem mj_347_585 : mc_P 347 585 = some (.ifCond .eq 172, 3, 0, 0, 0) := by decide +kernel
theorem s_347_585 {x0 x1 x2 x3 x4 x5 x6 x7 x8 x9 : Option Value} {x : Int32} : mw d 347 Q 585 [x0, x1, x2, x3, x4, x5, x6, x7, x8, x9] (.int x :: st) h = mB (x = 0) (mw d 347 Q) 757 588 [x0, x1, x2, x3, x4, x5, x6, x7, x8, x9] st h := (mw_at mj_347_585).trans (z_if_eq (by decide) rfl)
theorem mj_347_588 : mc_P 347 588 = some (.aload_n 0, 1, 0, 0, 0) := by decide +kernel
theorem s_347_588 {x1 x2 x3 x4 x5 x6 x7 x8 x9 : Option Value} {w : Value} : mw d 347 Q 588 [some w, x1, x2, x3, x4, x5, x6, x7, x8, x9] (st) h = mv_a w (mw d 347 Q 589 [some w, x1, x2, x3, x4, x5, x6, x7, x8, x9] (w :: st) h) := (mw_at mj_347_588).trans (z_aload_n rfl)
theorem mj_347_589 : mc_P 347 589 = some (.dup, 1, 0, 0, 0) := by decide +kernel
theorem s_347_589 {x0 x1 x2 x3 x4 x5 x6 x7 x8 x9 : Option Value} {w : Value} : mw d 347 Q 589 [x0, x1, x2, x3, x4, x5, x6, x7, x8, x9] (w :: st) h = (w.category = 1 ∧ mw d 347 Q 590 [x0, x1, x2, x3, x4, x5, x6, x7, x8, x9] (w :: w :: st) h) := (mw_at mj_347_589).trans (z_dup)
theorem mj_347_590 : mc_P 347 590 = some (.getfield 373, 3, 14, 44, 0) := by decide +kernel
theorem s_347_590 {x0 x1 x2 x3 x4 x5 x6 x7 x8 x9 : Option Value} {o : Nat} : mw d 347 Q 590 [x0, x1, x2, x3, x4, x5, x6, x7, x8, x9] (.ref o :: st) h = (mg h o 14 ∧ mw d 347 Q 593 [x0, x1, x2, x3, x4, x5, x6, x7, x8, x9] (.int (mh_i h o 44) :: st) h) := (mw_at mj_347_590).trans (z_geti (by decide) (by decide) (Or.inl rfl))
theorem mj_347_593 : mc_P 347 593 = some (.iconst 1, 1, 0, 0, 0) := by decide +kernel
theorem s_347_593 {x0 x1 x2 x3 x4 x5 x6 x7 x8 x9 : Option Value} : mw d 347 Q 593 [x0, x1, x2, x3, x4, x5, x6, x7, x8, x9] (st) h = mw d 347 Q 594 [x0, x1, x2, x3, x4, x5, x6, x7, x8, x9] (.int 1 :: st) h := (mw_at mj_347_593).trans (z_iconst (by decide))
theorem mj_347_594 : mc_P 347 594 = some (.iadd, 1, 0, 0, 0) := by decide +kernel
theorem s_347_594 {x0 x1 x2 x3 x4 x5 x6 x7 x8 x9 : Option Value} {x w : Int32} : mw d 347 Q 594 [x0, x1, x2, x3, x4, x5, x6, x7, x8, x9] (.int w :: .int x :: st) h = mw d 347 Q 595 [x0, x1, x2, x3, x4, x5, x6, x7, x8, x9] (.int (x + w) :: st) h := (mw_at mj_347_594).trans (z_iadd)
theorem mj_347_595 : mc_P 347 595 = some (.putfield 373, 3, 14, 44, 0) := by decide +kernel
theorem s_347_595 {x0 x1 x2 x3 x4 x5 x6 x7 x8 x9 : Option Value} {o : Nat} {w : Int32} : mw d 347 Q 595 [x0, x1, x2, x3, x4, x5, x6, x7, x8, x9] (.int w :: .ref o :: st) h = (mg h o 14 ∧ mw d 347 Q 598 [x0, x1, x2, x3, x4, x5, x6, x7, x8, x9] (st) (mh_si h o 44 w)) := (mw_at mj_347_595).trans (z_puti (by decide) (by decide) rfl)
theorem mj_347_598 : mc_P 347 598 = some (.aload_n 0, 1, 0, 0, 0) := by decide +kernel
theorem s_347_598 {x1 x2 x3 x4 x5 x6 x7 x8 x9 : Option Value} {w : Value} : mw d 347 Q 598 [some w, x1, x2, x3, x4, x5, x6, x7, x8, x9] (st) h = mv_a w (mw d 347 Q 599 [some w, x1, x2, x3, x4, x5, x6, x7, x8, x9] (w :: st) h) := (mw_at mj_347_598).trans (z_aload_n rfl)
theorem mj_347_599 : mc_P 347 599 = some (.aload_n 0, 1, 0, 0, 0) := by decide +kernel
theorem s_347_599 {x1 x2 x3 x4 x5 x6 x7 x8 x9 : Option Value} {w : Value} : mw d 347 Q 599 [some w, x1, x2, x3, x4, x5, x6, x7, x8, x9] (st) h = mv_a w (mw d 347 Q 600 [some w, x1, x2, x3, x4, x5, x6, x7, x8, x9] (w :: st) h) := (mw_at mj_347_599).trans (z_aload_n rfl)
theorem mj_347_600 : mc_P 347 600 = some (.iload_n 1, 1, 0, 0, 0) := by decide +kernel
theorem s_347_600 {x0 x2 x3 x4 x5 x6 x7 x8 x9 : Option Value} {w : Value} : mw d 347 Q 600 [x0, some w, x2, x3, x4, x5, x6, x7, x8, x9] (st) h = mv_i w (mw d 347 Q 601 [x0, some w, x2, x3, x4, x5, x6, x7, x8, x9] (w :: st) h) := (mw_at mj_347_600).trans (z_iload_n rfl)
theorem mj_347_601 : mc_P 347 601 = some (.invokevirtual 391, 3, 334, 14, 2) := by decide +kernel
theorem s_347_601 {x0 x1 x2 x3 x4 x5 x6 x7 x8 x9 : Option Value} {o : Nat} {a1 : Value} : mw (d + 1) 347 Q 601 [x0, x1, x2, x3, x4, x5, x6, x7, x8, x9] (a1 :: .ref o :: st) h = (mg h o 14 ∧ mca st 8 ∧ mca [.ref o, a1] 2 ∧ mcall d 334 [.ref o, a1] h (mK (d + 1) 347 Q 604 [x0, x1, x2, x3, x4, x5, x6, x7, x8, x9] st)) := (mw_at mj_347_601).trans ((z_invv (As := [a1]) (by decide) rfl rfl).trans (congrArg (And _) (congrArg (And _) (mC_nl nl_334))))
theorem mj_347_604 : mc_P 347 604 = some (.iload_n 3, 1, 0, 0, 0) := by decide +kernel
theorem s_347_604 {x0 x1 x2 x4 x5 x6 x7 x8 x9 : Option Value} {w : Value} : mw d 347 Q 604 [x0, x1, x2, some w, x4, x5, x6, x7, x8, x9] (st) h = mv_i w (mw d 347 Q 605 [x0, x1, x2, some w, x4, x5, x6, x7, x8, x9] (w :: st) h) := (mw_at mj_347_604).trans (z_iload_n rfl)
theorem mj_347_605 : mc_P 347 605 = some (.iload 6, 2, 0, 0, 0) := by decide +kernel
theorem s_347_605 {x0 x1 x2 x3 x4 x5 x7 x8 x9 : Option Value} {w : Value} : mw d 347 Q 605 [x0, x1, x2, x3, x4, x5, some w, x7, x8, x9] (st) h = mv_i w (mw d 347 Q 607 [x0, x1, x2, x3, x4, x5, some w, x7, x8, x9] (w :: st) h) := (mw_at mj_347_605).trans (z_iload rfl)
theorem mj_347_607 : mc_P 347 607 = some (.aload_n 0, 1, 0, 0, 0) := by decide +kernel
theorem s_347_607 {x1 x2 x3 x4 x5 x6 x7 x8 x9 : Option Value} {w : Value} : mw d 347 Q 607 [some w, x1, x2, x3, x4, x5, x6, x7, x8, x9] (st) h = mv_a w (mw d 347 Q 608 [some w, x1, x2, x3, x4, x5, x6, x7, x8, x9] (w :: st) h) := (mw_at mj_347_607).trans (z_aload_n rfl)
theorem mj_347_608 : mc_P 347 608 = some (.getfield 373, 3, 14, 44, 0) := by decide +kernel
theorem s_347_608 {x0 x1 x2 x3 x4 x5 x6 x7 x8 x9 : Option Value} {o : Nat} : mw d 347 Q 608 [x0, x1, x2, x3, x4, x5, x6, x7, x8, x9] (.ref o :: st) h = (mg h o 14 ∧ mw d 347 Q 611 [x0, x1, x2, x3, x4, x5, x6, x7, x8, x9] (.int (mh_i h o 44) :: st) h) := (mw_at mj_347_608).trans (z_geti (by decide) (by decide) (Or.inl rfl))
theorem mj_347_611 : mc_P 347 611 = some (.invokevirtual 382, 3, 346, 14, 5) := by decide +kernel
theorem s_347_611 {x0 x1 x2 x3 x4 x5 x6 x7 x8 x9 : Option Value} {o : Nat} {a1 a2 a3 a4 : Value} : mw (d + 1) 347 Q 611 [x0, x1, x2, x3, x4, x5, x6, x7, x8, x9] (a4 :: a3 :: a2 :: a1 :: .ref o :: st) h = (mg h o 14 ∧ mca st 8 ∧ mca [.ref o, a1, a2, a3, a4] 9 ∧ mcall d 346 [.ref o, a1, a2, a3, a4] h (mK (d + 1) 347 Q 614 [x0, x1, x2, x3, x4, x5, x6, x7, x8, x9] st)) := (mw_at mj_347_611).trans ((z_invv (As := [a1, a2, a3, a4]) (by decide) rfl rfl).trans (congrArg (And _) (congrArg (And _) (mC_nl nl_346))))
theorem mj_347_614 : mc_P 347 614 = some (.aload_n 0, 1, 0, 0, 0) := by decide +kernel
theorem s_347_614 {x1 x2 x3 x4 x5 x6 x7 x8 x9 : Option Value} {w : Value} : mw d 347 Q 614 [some w, x1, x2, x3, x4, x5, x6, x7, x8, x9] (st) h = mv_a w (mw d 347 Q 615 [some w, x1, x2, x3, x4, x5, x6, x7, x8, x9] (w :: st) h) := (mw_at mj_347_614).trans (z_aload_n rfl)
theorem mj_347_615 : mc_P 347 615 = some (.aload_n 0, 1, 0, 0, 0) := by decide +kernel
theorem s_347_615 {x1 x2 x3 x4 x5 x6 x7 x8 x9 : Option Value} {w : Value} : mw d 347 Q 615 [some w, x1, x2, x3, x4, x5, x6, x7, x8, x9] (st) h = mv_a w (mw d 347 Q 616 [some w, x1, x2, x3, x4, x5, x6, x7, x8, x9] (w :: st) h) := (mw_at mj_347_615).trans (z_aload_n rfl)
theorem mj_347_616 : mc_P 347 616 = some (.iload_n 1, 1, 0, 0, 0) := by decide +kernel
theorem s_347_616 {x0 x2 x3 x4 x5 x6 x7 x8 x9 : Option Value} {w : Value} : mw d 347 Q 616 [x0, some w, x2, x3, x4, x5, x6, x7, x8, x9] (st) h = mv_i w (mw d 347 Q 617 [x0, some w, x2, x3, x4, x5, x6, x7, x8, x9] (w :: st) h) := (mw_at mj_347_616).trans (z_iload_n rfl)
theorem mj_347_617 : mc_P 347 617 = some (.invokevirtual 391, 3, 334, 14, 2) := by decide +kernel
theorem s_347_617 {x0 x1 x2 x3 x4 x5 x6 x7 x8 x9 : Option Value} {o : Nat} {a1 : Value} : mw (d + 1) 347 Q 617 [x0, x1, x2, x3, x4, x5, x6, x7, x8, x9] (a1 :: .ref o :: st) h = (mg h o 14 ∧ mca st 8 ∧ mca [.ref o, a1] 2 ∧ mcall d 334 [.ref o, a1] h (mK (d + 1) 347 Q 620 [x0, x1, x2, x3, x4, x5, x6, x7, x8, x9] st)) := (mw_at mj_347_617).trans ((z_invv (As := [a1]) (by decide) rfl rfl).trans (congrArg (And _) (congrArg (And _) (mC_nl nl_334))))
theorem mj_347_620 : mc_P 347 620 = some (.invokevirtual 348, 3, 333, 14, 2) := by decide +kernel
theorem s_347_620 {x0 x1 x2 x3 x4 x5 x6 x7 x8 x9 : Option Value} {o : Nat} {a1 : Value} : mw (d + 1) 347 Q 620 [x0, x1, x2, x3, x4, x5, x6, x7, x8, x9] (a1 :: .ref o :: st) h = (mg h o 14 ∧ mca st 8 ∧ mca [.ref o, a1] 2 ∧ mcall d 333 [.ref o, a1] h (mK (d + 1) 347 Q 623 [x0, x1, x2, x3, x4, x5, x6, x7, x8, x9] st)) := (mw_at mj_347_620).trans ((z_invv (As := [a1]) (by decide) rfl rfl).trans (congrArg (And _) (congrArg (And _) (mC_nl nl_333))))
theorem mj_347_623 : mc_P 347 623 = some (.aload_n 0, 1, 0, 0, 0) := by decide +kernel
theorem s_347_623 {x1 x2 x3 x4 x5 x6 x7 x8 x9 : Option Value} {w : Value} : mw d 347 Q 623 [some w, x1, x2, x3, x4, x5, x6, x7, x8, x9] (st) h = mv_a w (mw d 347 Q 624 [some w, x1, x2, x3, x4, x5, x6, x7, x8, x9] (w :: st) h) := (mw_at mj_347_623).trans (z_aload_n rfl)
theorem mj_347_624 : mc_P 347 624 = some (.iload_n 1, 1, 0, 0, 0) := by decide +kernel
theorem s_347_624 {x0 x2 x3 x4 x5 x6 x7 x8 x9 : Option Value} {w : Value} : mw d 347 Q 624 [x0, some w, x2, x3, x4, x5, x6, x7, x8, x9] (st) h = mv_i w (mw d 347 Q 625 [x0, some w, x2, x3, x4, x5, x6, x7, x8, x9] (w :: st) h) := (mw_at mj_347_624).trans (z_iload_n rfl)
theorem mj_347_625 : mc_P 347 625 = some (.invokevirtual 348, 3, 333, 14, 2) := by decide +kernel
theorem s_347_625 {x0 x1 x2 x3 x4 x5 x6 x7 x8 x9 : Option Value} {o : Nat} {a1 : Value} : mw (d + 1) 347 Q 625 [x0, x1, x2, x3, x4, x5, x6, x7, x8, x9] (a1 :: .ref o :: st) h = (mg h o 14 ∧ mca st 8 ∧ mca [.ref o, a1] 2 ∧ mcall d 333 [.ref o, a1] h (mK (d + 1) 347 Q 628 [x0, x1, x2, x3, x4, x5, x6, x7, x8, x9] st)) := (mw_at mj_347_625).trans ((z_invv (As := [a1]) (by decide) rfl rfl).trans (congrArg (And _) (congrArg (And _) (mC_nl nl_333))))
theorem mj_347_628 : mc_P 347 628 = some (.if_icmp .ge 129, 3, 0, 0, 0) := by decide +kernel
theorem s_347_628 {x0 x1 x2 x3 x4 x5 x6 x7 x8 x9 : Option Value} {x w : Int32} : mw d 347 Q 628 [x0, x1, x2, x3, x4, x5, x6, x7, x8, x9] (.int w :: .int x :: st) h = mB (w ≤ x) (mw d 347 Q) 757 631 [x0, x1, x2, x3, x4, x5, x6, x7, x8, x9] st h := (mw_at mj_347_628).trans (z_icmp_ge (by decide) rfl)
theorem mj_347_631 : mc_P 347 631 = some (.aload_n 0, 1, 0, 0, 0) := by decide +kernel
theorem s_347_631 {x1 x2 x3 x4 x5 x6 x7 x8 x9 : Option Value} {w : Value} : mw d 347 Q 631 [some w, x1, x2, x3, x4, x5, x6, x7, x8, x9] (st) h = mv_a w (mw d 347 Q 632 [some w, x1, x2, x3, x4, x5, x6, x7, x8, x9] (w :: st) h) := (mw_at mj_347_631).trans (z_aload_n rfl)
theorem mj_347_632 : mc_P 347 632 = some (.dup, 1, 0, 0, 0) := by decide +kernel
theorem s_347_632 {x0 x1 x2 x3 x4 x5 x6 x7 x8 x9 : Option Value} {w : Value} : mw d 347 Q 632 [x0, x1, x2, x3, x4, x5, x6, x7, x8, x9] (w :: st) h = (w.category = 1 ∧ mw d 347 Q 633 [x0, x1, x2, x3, x4, x5, x6, x7, x8, x9] (w :: w :: st) h) := (mw_at mj_347_632).trans (z_dup)
theorem mj_347_633 : mc_P 347 633 = some (.getfield 373, 3, 14, 44, 0) := by decide +kernel
theorem s_347_633 {x0 x1 x2 x3 x4 x5 x6 x7 x8 x9 : Option Value} {o : Nat} : mw d 347 Q 633 [x0, x1, x2, x3, x4, x5, x6, x7, x8, x9] (.ref o :: st) h = (mg h o 14 ∧ mw d 347 Q 636 [x0, x1, x2, x3, x4, x5, x6, x7, x8, x9] (.int (mh_i h o 44) :: st) h) := (mw_at mj_347_633).trans (z_geti (by decide) (by decide) (Or.inl rfl))
theorem mj_347_636 : mc_P 347 636 = some (.iconst 1, 1, 0, 0, 0) := by decide +kernel
theorem s_347_636 {x0 x1 x2 x3 x4 x5 x6 x7 x8 x9 : Option Value} : mw d 347 Q 636 [x0, x1, x2, x3, x4, x5, x6, x7, x8, x9] (st) h = mw d 347 Q 637 [x0, x1, x2, x3, x4, x5, x6, x7, x8, x9] (.int 1 :: st) h := (mw_at mj_347_636).trans (z_iconst (by decide))
theorem mj_347_637 : mc_P 347 637 = some (.iadd, 1, 0, 0, 0) := by decide +kernel
theorem s_347_637 {x0 x1 x2 x3 x4 x5 x6 x7 x8 x9 : Option Value} {x w : Int32} : mw d 347 Q 637 [x0, x1, x2, x3, x4, x5, x6, x7, x8, x9] (.int w :: .int x :: st) h = mw d 347 Q 638 [x0, x1, x2, x3, x4, x5, x6, x7, x8, x9] (.int (x + w) :: st) h := (mw_at mj_347_637).trans (z_iadd)
theorem mj_347_638 : mc_P 347 638 = some (.putfield 373, 3, 14, 44, 0) := by decide +kernel
theorem s_347_638 {x0 x1 x2 x3 x4 x5 x6 x7 x8 x9 : Option Value} {o : Nat} {w : Int32} : mw d 347 Q 638 [x0, x1, x2, x3, x4, x5, x6, x7, x8, x9] (.int w :: .ref o :: st) h = (mg h o 14 ∧ mw d 347 Q 641 [x0, x1, x2, x3, x4, x5, x6, x7, x8, x9] (st) (mh_si h o 44 w)) := (mw_at mj_347_638).trans (z_puti (by decide) (by decide) rfl)
theorem mj_347_641 : mc_P 347 641 = some (.aload_n 0, 1, 0, 0, 0) := by decide +kernel
theorem s_347_641 {x1 x2 x3 x4 x5 x6 x7 x8 x9 : Option Value} {w : Value} : mw d 347 Q 641 [some w, x1, x2, x3, x4, x5, x6, x7, x8, x9] (st) h = mv_a w (mw d 347 Q 642 [some w, x1, x2, x3, x4, x5, x6, x7, x8, x9] (w :: st) h) := (mw_at mj_347_641).trans (z_aload_n rfl)
theorem mj_347_642 : mc_P 347 642 = some (.aload_n 0, 1, 0, 0, 0) := by decide +kernel
theorem s_347_642 {x1 x2 x3 x4 x5 x6 x7 x8 x9 : Option Value} {w : Value} : mw d 347 Q 642 [some w, x1, x2, x3, x4, x5, x6, x7, x8, x9] (st) h = mv_a w (mw d 347 Q 643 [some w, x1, x2, x3, x4, x5, x6, x7, x8, x9] (w :: st) h) := (mw_at mj_347_642).trans (z_aload_n rfl)
theorem mj_347_643 : mc_P 347 643 = some (.aload_n 0, 1, 0, 0, 0) := by decide +kernel
theorem s_347_643 {x1 x2 x3 x4 x5 x6 x7 x8 x9 : Option Value} {w : Value} : mw d 347 Q 643 [some w, x1, x2, x3, x4, x5, x6, x7, x8, x9] (st) h = mv_a w (mw d 347 Q 644 [some w, x1, x2, x3, x4, x5, x6, x7, x8, x9] (w :: st) h) := (mw_at mj_347_643).trans (z_aload_n rfl)
theorem mj_347_644 : mc_P 347 644 = some (.iload_n 1, 1, 0, 0, 0) := by decide +kernel
theorem s_347_644 {x0 x2 x3 x4 x5 x6 x7 x8 x9 : Option Value} {w : Value} : mw d 347 Q 644 [x0, some w, x2, x3, x4, x5, x6, x7, x8, x9] (st) h = mv_i w (mw d 347 Q 645 [x0, some w, x2, x3, x4, x5, x6, x7, x8, x9] (w :: st) h) := (mw_at mj_347_644).trans (z_iload_n rfl)
theorem mj_347_645 : mc_P 347 645 = some (.invokevirtual 391, 3, 334, 14, 2) := by decide +kernel
theorem s_347_645 {x0 x1 x2 x3 x4 x5 x6 x7 x8 x9 : Option Value} {o : Nat} {a1 : Value} : mw (d + 1) 347 Q 645 [x0, x1, x2, x3, x4, x5, x6, x7, x8, x9] (a1 :: .ref o :: st) h = (mg h o 14 ∧ mca st 8 ∧ mca [.ref o, a1] 2 ∧ mcall d 334 [.ref o, a1] h (mK (d + 1) 347 Q 648 [x0, x1, x2, x3, x4, x5, x6, x7, x8, x9] st)) := (mw_at mj_347_645).trans ((z_invv (As := [a1]) (by decide) rfl rfl).trans (congrArg (And _) (congrArg (And _) (mC_nl nl_334))))
theorem mj_347_648 : mc_P 347 648 = some (.invokevirtual 348, 3, 333, 14, 2) := by decide +kernel
theorem s_347_648 {x0 x1 x2 x3 x4 x5 x6 x7 x8 x9 : Option Value} {o : Nat} {a1 : Value} : mw (d + 1) 347 Q 648 [x0, x1, x2, x3, x4, x5, x6, x7, x8, x9] (a1 :: .ref o :: st) h = (mg h o 14 ∧ mca st 8 ∧ mca [.ref o, a1] 2 ∧ mcall d 333 [.ref o, a1] h (mK (d + 1) 347 Q 651 [x0, x1, x2, x3, x4, x5, x6, x7, x8, x9] st)) := (mw_at mj_347_648).trans ((z_invv (As := [a1]) (by decide) rfl rfl).trans (congrArg (And _) (congrArg (And _) (mC_nl nl_333))))
theorem mj_347_651 : mc_P 347 651 = some (.iload_n 3, 1, 0, 0, 0) := by decide +kernel
theorem s_347_651 {x0 x1 x2 x4 x5 x6 x7 x8 x9 : Option Value} {w : Value} : mw d 347 Q 651 [x0, x1, x2, some w, x4, x5, x6, x7, x8, x9] (st) h = mv_i w (mw d 347 Q 652 [x0, x1, x2, some w, x4, x5, x6, x7, x8, x9] (w :: st) h) := (mw_at mj_347_651).trans (z_iload_n rfl)
theorem mj_347_652 : mc_P 347 652 = some (.iload 6, 2, 0, 0, 0) := by decide +kernel
theorem s_347_652 {x0 x1 x2 x3 x4 x5 x7 x8 x9 : Option Value} {w : Value} : mw d 347 Q 652 [x0, x1, x2, x3, x4, x5, some w, x7, x8, x9] (st) h = mv_i w (mw d 347 Q 654 [x0, x1, x2, x3, x4, x5, some w, x7, x8, x9] (w :: st) h) := (mw_at mj_347_652).trans (z_iload rfl)
theorem mj_347_654 : mc_P 347 654 = some (.aload_n 0, 1, 0, 0, 0) := by decide +kernel
theorem s_347_654 {x1 x2 x3 x4 x5 x6 x7 x8 x9 : Option Value} {w : Value} : mw d 347 Q 654 [some w, x1, x2, x3, x4, x5, x6, x7, x8, x9] (st) h = mv_a w (mw d 347 Q 655 [some w, x1, x2, x3, x4, x5, x6, x7, x8, x9] (w :: st) h) := (mw_at mj_347_654).trans (z_aload_n rfl)
theorem mj_347_655 : mc_P 347 655 = some (.getfield 373, 3, 14, 44, 0) := by decide +kernel
theorem s_347_655 {x0 x1 x2 x3 x4 x5 x6 x7 x8 x9 : Option Value} {o : Nat} : mw d 347 Q 655 [x0, x1, x2, x3, x4, x5, x6, x7, x8, x9] (.ref o :: st) h = (mg h o 14 ∧ mw d 347 Q 658 [x0, x1, x2, x3, x4, x5, x6, x7, x8, x9] (.int (mh_i h o 44) :: st) h) := (mw_at mj_347_655).trans (z_geti (by decide) (by decide) (Or.inl rfl))
theorem mj_347_658 : mc_P 347 658 = some (.invokevirtual 382, 3, 346, 14, 5) := by decide +kernel
theorem s_347_658 {x0 x1 x2 x3 x4 x5 x6 x7 x8 x9 : Option Value} {o : Nat} {a1 a2 a3 a4 : Value} : mw (d + 1) 347 Q 658 [x0, x1, x2, x3, x4, x5, x6, x7, x8, x9] (a4 :: a3 :: a2 :: a1 :: .ref o :: st) h = (mg h o 14 ∧ mca st 8 ∧ mca [.ref o, a1, a2, a3, a4] 9 ∧ mcall d 346 [.ref o, a1, a2, a3, a4] h (mK (d + 1) 347 Q 661 [x0, x1, x2, x3, x4, x5, x6, x7, x8, x9] st)) := (mw_at mj_347_658).trans ((z_invv (As := [a1, a2, a3, a4]) (by decide) rfl rfl).trans (congrArg (And _) (congrArg (And _) (mC_nl nl_346))))
theorem mj_347_661 : mc_P 347 661 = some (.goto 96, 3, 0, 0, 0) := by decide +kernel
theorem s_347_661 {x0 x1 x2 x3 x4 x5 x6 x7 x8 x9 : Option Value} : mw d 347 Q 661 [x0, x1, x2, x3, x4, x5, x6, x7, x8, x9] (st) h = mw d 347 Q 757 [x0, x1, x2, x3, x4, x5, x6, x7, x8, x9] (st) h := (mw_at mj_347_661).trans (z_goto (by decide))
theorem mj_347_664 : mc_P 347 664 = some (.aload_n 0, 1, 0, 0, 0) := by decide +kernel
theorem s_347_664 {x1 x2 x3 x4 x5 x6 x7 x8 x9 : Option Value} {w : Value} : mw d 347 Q 664 [some w, x1, x2, x3, x4, x5, x6, x7, x8, x9] (st) h = mv_a w (mw d 347 Q 665 [some w, x1, x2, x3, x4, x5, x6, x7, x8, x9] (w :: st) h) := (mw_at mj_347_664).trans (z_aload_n rfl)
theorem mj_347_665 : mc_P 347 665 = some (.iload_n 1, 1, 0, 0, 0) := by decide +kernel
theorem s_347_665 {x0 x2 x3 x4 x5 x6 x7 x8 x9 : Option Value} {w : Value} : mw d 347 Q 665 [x0, some w, x2, x3, x4, x5, x6, x7, x8, x9] (st) h = mv_i w (mw d 347 Q 666 [x0, some w, x2, x3, x4, x5, x6, x7, x8, x9] (w :: st) h) := (mw_at mj_347_665).trans (z_iload_n rfl)
theorem mj_347_666 : mc_P 347 666 = some (.iconst 1, 1, 0, 0, 0) := by decide +kernel
theorem s_347_666 {x0 x1 x2 x3 x4 x5 x6 x7 x8 x9 : Option Value} : mw d 347 Q 666 [x0, x1, x2, x3, x4, x5, x6, x7, x8, x9] (st) h = mw d 347 Q 667 [x0, x1, x2, x3, x4, x5, x6, x7, x8, x9] (.int 1 :: st) h := (mw_at mj_347_666).trans (z_iconst (by decide))
theorem mj_347_667 : mc_P 347 667 = some (.iadd, 1, 0, 0, 0) := by decide +kernel
theorem s_347_667 {x0 x1 x2 x3 x4 x5 x6 x7 x8 x9 : Option Value} {x w : Int32} : mw d 347 Q 667 [x0, x1, x2, x3, x4, x5, x6, x7, x8, x9] (.int w :: .int x :: st) h = mw d 347 Q 668 [x0, x1, x2, x3, x4, x5, x6, x7, x8, x9] (.int (x + w) :: st) h := (mw_at mj_347_667).trans (z_iadd)
theorem mj_347_668 : mc_P 347 668 = some (.invokevirtual 394, 3, 342, 14, 2) := by decide +kernel
theorem s_347_668 {x0 x1 x2 x3 x4 x5 x6 x7 x8 x9 : Option Value} {o : Nat} {a1 : Value} : mw (d + 1) 347 Q 668 [x0, x1, x2, x3, x4, x5, x6, x7, x8, x9] (a1 :: .ref o :: st) h = (mg h o 14 ∧ mca st 8 ∧ mca [.ref o, a1] 4 ∧ mcall d 342 [.ref o, a1] h (mK (d + 1) 347 Q 671 [x0, x1, x2, x3, x4, x5, x6, x7, x8, x9] st)) := (mw_at mj_347_668).trans ((z_invv (As := [a1]) (by decide) rfl rfl).trans (congrArg (And _) (congrArg (And _) (mC_nl nl_342))))
theorem mj_347_671 : mc_P 347 671 = some (.pop, 1, 0, 0, 0) := by decide +kernel
theorem s_347_671 {x0 x1 x2 x3 x4 x5 x6 x7 x8 x9 : Option Value} {w : Value} : mw d 347 Q 671 [x0, x1, x2, x3, x4, x5, x6, x7, x8, x9] (w :: st) h = (w.category = 1 ∧ mw d 347 Q 672 [x0, x1, x2, x3, x4, x5, x6, x7, x8, x9] (st) h) := (mw_at mj_347_671).trans (z_pop)
theorem mj_347_672 : mc_P 347 672 = some (.goto 85, 3, 0, 0, 0) := by decide +kernel
theorem s_347_672 {x0 x1 x2 x3 x4 x5 x6 x7 x8 x9 : Option Value} : mw d 347 Q 672 [x0, x1, x2, x3, x4, x5, x6, x7, x8, x9] (st) h = mw d 347 Q 757 [x0, x1, x2, x3, x4, x5, x6, x7, x8, x9] (st) h := (mw_at mj_347_672).trans (z_goto (by decide))
theorem mj_347_675 : mc_P 347 675 = some (.aload_n 0, 1, 0, 0, 0) := by decide +kernel
theorem s_347_675 {x1 x2 x3 x4 x5 x6 x7 x8 x9 : Option Value} {w : Value} : mw d 347 Q 675 [some w, x1, x2, x3, x4, x5, x6, x7, x8, x9] (st) h = mv_a w (mw d 347 Q 676 [some w, x1, x2, x3, x4, x5, x6, x7, x8, x9] (w :: st) h) := (mw_at mj_347_675).trans (z_aload_n rfl)
theorem mj_347_676 : mc_P 347 676 = some (.iload_n 3, 1, 0, 0, 0) := by decide +kernel
theorem s_347_676 {x0 x1 x2 x4 x5 x6 x7 x8 x9 : Option Value} {w : Value} : mw d 347 Q 676 [x0, x1, x2, some w, x4, x5, x6, x7, x8, x9] (st) h = mv_i w (mw d 347 Q 677 [x0, x1, x2, some w, x4, x5, x6, x7, x8, x9] (w :: st) h) := (mw_at mj_347_676).trans (z_iload_n rfl)
theorem mj_347_677 : mc_P 347 677 = some (.invokevirtual 351, 3, 337, 14, 2) := by decide +kernel
theorem s_347_677 {x0 x1 x2 x3 x4 x5 x6 x7 x8 x9 : Option Value} {o : Nat} {a1 : Value} : mw (d + 1) 347 Q 677 [x0, x1, x2, x3, x4, x5, x6, x7, x8, x9] (a1 :: .ref o :: st) h = (mg h o 14 ∧ mca st 8 ∧ mca [.ref o, a1] 3 ∧ mcall d 337 [.ref o, a1] h (mK (d + 1) 347 Q 680 [x0, x1, x2, x3, x4, x5, x6, x7, x8, x9] st)) := (mw_at mj_347_677).trans ((z_invv (As := [a1]) (by decide) rfl rfl).trans (congrArg (And _) (congrArg (And _) (mC_nl nl_337))))
theorem mj_347_680 : mc_P 347 680 = some (.iload_n 2, 1, 0, 0, 0) := by decide +kernel
theorem s_347_680 {x0 x1 x3 x4 x5 x6 x7 x8 x9 : Option Value} {w : Value} : mw d 347 Q 680 [x0, x1, some w, x3, x4, x5, x6, x7, x8, x9] (st) h = mv_i w (mw d 347 Q 681 [x0, x1, some w, x3, x4, x5, x6, x7, x8, x9] (w :: st) h) := (mw_at mj_347_680).trans (z_iload_n rfl)
theorem mj_347_681 : mc_P 347 681 = some (.if_icmp .ne 16, 3, 0, 0, 0) := by decide +kernel
theorem s_347_681 {x0 x1 x2 x3 x4 x5 x6 x7 x8 x9 : Option Value} {x w : Int32} : mw d 347 Q 681 [x0, x1, x2, x3, x4, x5, x6, x7, x8, x9] (.int w :: .int x :: st) h = mB (¬ x = w) (mw d 347 Q) 697 684 [x0, x1, x2, x3, x4, x5, x6, x7, x8, x9] st h := (mw_at mj_347_681).trans (z_icmp_ne (by decide) rfl)
theorem mj_347_684 : mc_P 347 684 = some (.aload_n 0, 1, 0, 0, 0) := by decide +kernel
theorem s_347_684 {x1 x2 x3 x4 x5 x6 x7 x8 x9 : Option Value} {w : Value} : mw d 347 Q 684 [some w, x1, x2, x3, x4, x5, x6, x7, x8, x9] (st) h = mv_a w (mw d 347 Q 685 [some w, x1, x2, x3, x4, x5, x6, x7, x8, x9] (w :: st) h) := (mw_at mj_347_684).trans (z_aload_n rfl)
theorem mj_347_685 : mc_P 347 685 = some (.iload_n 2, 1, 0, 0, 0) := by decide +kernel
theorem s_347_685 {x0 x1 x3 x4 x5 x6 x7 x8 x9 : Option Value} {w : Value} : mw d 347 Q 685 [x0, x1, some w, x3, x4, x5, x6, x7, x8, x9] (st) h = mv_i w (mw d 347 Q 686 [x0, x1, some w, x3, x4, x5, x6, x7, x8, x9] (w :: st) h) := (mw_at mj_347_685).trans (z_iload_n rfl)
theorem mj_347_686 : mc_P 347 686 = some (.invokevirtual 354, 3, 336, 14, 2) := by decide +kernel
theorem s_347_686 {x0 x1 x2 x3 x4 x5 x6 x7 x8 x9 : Option Value} {o : Nat} {a1 : Value} : mw (d + 1) 347 Q 686 [x0, x1, x2, x3, x4, x5, x6, x7, x8, x9] (a1 :: .ref o :: st) h = (mg h o 14 ∧ mca st 8 ∧ mca [.ref o, a1] 4 ∧ mcall d 336 [.ref o, a1] h (mK (d + 1) 347 Q 689 [x0, x1, x2, x3, x4, x5, x6, x7, x8, x9] st)) := (mw_at mj_347_686).trans ((z_invv (As := [a1]) (by decide) rfl rfl).trans (congrArg (And _) (congrArg (And _) (mC_nl nl_336))))
theorem mj_347_689 : mc_P 347 689 = some (.iload_n 1, 1, 0, 0, 0) := by decide +kernel
theorem s_347_689 {x0 x2 x3 x4 x5 x6 x7 x8 x9 : Option Value} {w : Value} : mw d 347 Q 689 [x0, some w, x2, x3, x4, x5, x6, x7, x8, x9] (st) h = mv_i w (mw d 347 Q 690 [x0, some w, x2, x3, x4, x5, x6, x7, x8, x9] (w :: st) h) := (mw_at mj_347_689).trans (z_iload_n rfl)
theorem mj_347_690 : mc_P 347 690 = some (.if_icmp .ne 7, 3, 0, 0, 0) := by decide +kernel
theorem s_347_690 {x0 x1 x2 x3 x4 x5 x6 x7 x8 x9 : Option Value} {x w : Int32} : mw d 347 Q 690 [x0, x1, x2, x3, x4, x5, x6, x7, x8, x9] (.int w :: .int x :: st) h = mB (¬ x = w) (mw d 347 Q) 697 693 [x0, x1, x2, x3, x4, x5, x6, x7, x8, x9] st h := (mw_at mj_347_690).trans (z_icmp_ne (by decide) rfl)
theorem mj_347_693 : mc_P 347 693 = some (.iconst 1, 1, 0, 0, 0) := by decide +kernel
theorem s_347_693 {x0 x1 x2 x3 x4 x5 x6 x7 x8 x9 : Option Value} : mw d 347 Q 693 [x0, x1, x2, x3, x4, x5, x6, x7, x8, x9] (st) h = mw d 347 Q 694 [x0, x1, x2, x3, x4, x5, x6, x7, x8, x9] (.int 1 :: st) h := (mw_at mj_347_693).trans (z_iconst (by decide))
theorem mj_347_694 : mc_P 347 694 = some (.goto 4, 3, 0, 0, 0) := by decide +kernel
theorem s_347_694 {x0 x1 x2 x3 x4 x5 x6 x7 x8 x9 : Option Value} : mw d 347 Q 694 [x0, x1, x2, x3, x4, x5, x6, x7, x8, x9] (st) h = mw d 347 Q 698 [x0, x1, x2, x3, x4, x5, x6, x7, x8, x9] (st) h := (mw_at mj_347_694).trans (z_goto (by decide))
theorem mj_347_697 : mc_P 347 697 = some (.iconst 0, 1, 0, 0, 0) := by decide +kernel
theorem s_347_697 {x0 x1 x2 x3 x4 x5 x6 x7 x8 x9 : Option Value} : mw d 347 Q 697 [x0, x1, x2, x3, x4, x5, x6, x7, x8, x9] (st) h = mw d 347 Q 698 [x0, x1, x2, x3, x4, x5, x6, x7, x8, x9] (.int 0 :: st) h := (mw_at mj_347_697).trans (z_iconst (by decide))
theorem mj_347_698 : mc_P 347 698 = some (.istore 8, 2, 0, 0, 0) := by decide +kernel
theorem s_347_698 {x0 x1 x2 x3 x4 x5 x6 x7 x8 x9 : Option Value} {w : Int32} : mw d 347 Q 698 [x0, x1, x2, x3, x4, x5, x6, x7, x8, x9] (.int w :: st) h = mw d 347 Q 700 [x0, x1, x2, x3, x4, x5, x6, mk2 x7, some (.int w), x9] (st) h := (mw_at mj_347_698).trans (z_istore (Nat.le_of_ble_eq_true rfl) (me_s1_mk (j := 7) (w := x7) rfl))
theorem mj_347_700 : mc_P 347 700 = some (.aload_n 0, 1, 0, 0, 0) := by decide +kernel
theorem s_347_700 {x1 x2 x3 x4 x5 x6 x7 x8 x9 : Option Value} {w : Value} : mw d 347 Q 700 [some w, x1, x2, x3, x4, x5, x6, x7, x8, x9] (st) h = mv_a w (mw d 347 Q 701 [some w, x1, x2, x3, x4, x5, x6, x7, x8, x9] (w :: st) h) := (mw_at mj_347_700).trans (z_aload_n rfl)
theorem mj_347_701 : mc_P 347 701 = some (.iload_n 3, 1, 0, 0, 0) := by decide +kernel
theorem s_347_701 {x0 x1 x2 x4 x5 x6 x7 x8 x9 : Option Value} {w : Value} : mw d 347 Q 701 [x0, x1, x2, some w, x4, x5, x6, x7, x8, x9] (st) h = mv_i w (mw d 347 Q 702 [x0, x1, x2, some w, x4, x5, x6, x7, x8, x9] (w :: st) h) := (mw_at mj_347_701).trans (z_iload_n rfl)
theorem mj_347_702 : mc_P 347 702 = some (.invokevirtual 348, 3, 333, 14, 2) := by decide +kernel
theorem s_347_702 {x0 x1 x2 x3 x4 x5 x6 x7 x8 x9 : Option Value} {o : Nat} {a1 : Value} : mw (d + 1) 347 Q 702 [x0, x1, x2, x3, x4, x5, x6, x7, x8, x9] (a1 :: .ref o :: st) h = (mg h o 14 ∧ mca st 8 ∧ mca [.ref o, a1] 2 ∧ mcall d 333 [.ref o, a1] h (mK (d + 1) 347 Q 705 [x0, x1, x2, x3, x4, x5, x6, x7, x8, x9] st)) := (mw_at mj_347_702).trans ((z_invv (As := [a1]) (by decide) rfl rfl).trans (congrArg (And _) (congrArg (And _) (mC_nl nl_333))))
theorem mj_347_705 : mc_P 347 705 = some (.aload_n 0, 1, 0, 0, 0) := by decide +kernel
theorem s_347_705 {x1 x2 x3 x4 x5 x6 x7 x8 x9 : Option Value} {w : Value} : mw d 347 Q 705 [some w, x1, x2, x3, x4, x5, x6, x7, x8, x9] (st) h = mv_a w (mw d 347 Q 706 [some w, x1, x2, x3, x4, x5, x6, x7, x8, x9] (w :: st) h) := (mw_at mj_347_705).trans (z_aload_n rfl)
theorem mj_347_706 : mc_P 347 706 = some (.getfield 191, 3, 14, 24, 0) := by decide +kernel
theorem s_347_706 {x0 x1 x2 x3 x4 x5 x6 x7 x8 x9 : Option Value} {o : Nat} : mw d 347 Q 706 [x0, x1, x2, x3, x4, x5, x6, x7, x8, x9] (.ref o :: st) h = (mg h o 14 ∧ mw d 347 Q 709 [x0, x1, x2, x3, x4, x5, x6, x7, x8, x9] (.int (mh_i h o 24) :: st) h) := (mw_at mj_347_706).trans (z_geti (by decide) (by decide) (Or.inl rfl))
theorem mj_347_709 : mc_P 347 709 = some (.if_icmp .ne 7, 3, 0, 0, 0) := by decide +kernel
theorem s_347_709 {x0 x1 x2 x3 x4 x5 x6 x7 x8 x9 : Option Value} {x w : Int32} : mw d 347 Q 709 [x0, x1, x2, x3, x4, x5, x6, x7, x8, x9] (.int w :: .int x :: st) h = mB (¬ x = w) (mw d 347 Q) 716 712 [x0, x1, x2, x3, x4, x5, x6, x7, x8, x9] st h := (mw_at mj_347_709).trans (z_icmp_ne (by decide) rfl)
theorem mj_347_712 : mc_P 347 712 = some (.iconst 1, 1, 0, 0, 0) := by decide +kernel
theorem s_347_712 {x0 x1 x2 x3 x4 x5 x6 x7 x8 x9 : Option Value} : mw d 347 Q 712 [x0, x1, x2, x3, x4, x5, x6, x7, x8, x9] (st) h = mw d 347 Q 713 [x0, x1, x2, x3, x4, x5, x6, x7, x8, x9] (.int 1 :: st) h := (mw_at mj_347_712).trans (z_iconst (by decide))
theorem mj_347_713 : mc_P 347 713 = some (.goto 4, 3, 0, 0, 0) := by decide +kernel
theorem s_347_713 {x0 x1 x2 x3 x4 x5 x6 x7 x8 x9 : Option Value} : mw d 347 Q 713 [x0, x1, x2, x3, x4, x5, x6, x7, x8, x9] (st) h = mw d 347 Q 717 [x0, x1, x2, x3, x4, x5, x6, x7, x8, x9] (st) h := (mw_at mj_347_713).trans (z_goto (by decide))
theorem mj_347_716 : mc_P 347 716 = some (.iconst 0, 1, 0, 0, 0) := by decide +kernel
theorem s_347_716 {x0 x1 x2 x3 x4 x5 x6 x7 x8 x9 : Option Value} : mw d 347 Q 716 [x0, x1, x2, x3, x4, x5, x6, x7, x8, x9] (st) h = mw d 347 Q 717 [x0, x1, x2, x3, x4, x5, x6, x7, x8, x9] (.int 0 :: st) h := (mw_at mj_347_716).trans (z_iconst (by decide))
theorem mj_347_717 : mc_P 347 717 = some (.istore 9, 2, 0, 0, 0) := by decide +kernel
theorem s_347_717 {x0 x1 x2 x3 x4 x5 x6 x7 x8 x9 : Option Value} {w : Int32} : mw d 347 Q 717 [x0, x1, x2, x3, x4, x5, x6, x7, x8, x9] (.int w :: st) h = mw d 347 Q 719 [x0, x1, x2, x3, x4, x5, x6, x7, mk2 x8, some (.int w)] (st) h := (mw_at mj_347_717).trans (z_istore (Nat.le_of_ble_eq_true rfl) (me_s1_mk (j := 8) (w := x8) rfl))
theorem mj_347_719 : mc_P 347 719 = some (.iload 8, 2, 0, 0, 0) := by decide +kernel
theorem s_347_719 {x0 x1 x2 x3 x4 x5 x6 x7 x9 : Option Value} {w : Value} : mw d 347 Q 719 [x0, x1, x2, x3, x4, x5, x6, x7, some w, x9] (st) h = mv_i w (mw d 347 Q 721 [x0, x1, x2, x3, x4, x5, x6, x7, some w, x9] (w :: st) h) := (mw_at mj_347_719).trans (z_iload rfl)
theorem mj_347_721 : mc_P 347 721 = some (.ifCond .ne 13, 3, 0, 0, 0) := by decide +kernel
theorem s_347_721 {x0 x1 x2 x3 x4 x5 x6 x7 x8 x9 : Option Value} {x : Int32} : mw d 347 Q 721 [x0, x1, x2, x3, x4, x5, x6, x7, x8, x9] (.int x :: st) h = mB (¬ x = 0) (mw d 347 Q) 734 724 [x0, x1, x2, x3, x4, x5, x6, x7, x8, x9] st h := (mw_at mj_347_721).trans (z_if_ne (by decide) rfl)
theorem mj_347_724 : mc_P 347 724 = some (.aload_n 0, 1, 0, 0, 0) := by decide +kernel
theorem s_347_724 {x1 x2 x3 x4 x5 x6 x7 x8 x9 : Option Value} {w : Value} : mw d 347 Q 724 [some w, x1, x2, x3, x4, x5, x6, x7, x8, x9] (st) h = mv_a w (mw d 347 Q 725 [some w, x1, x2, x3, x4, x5, x6, x7, x8, x9] (w :: st) h) := (mw_at mj_347_724).trans (z_aload_n rfl)
theorem mj_347_725 : mc_P 347 725 = some (.bipush 6, 2, 0, 0, 0) := by decide +kernel
theorem s_347_725 {x0 x1 x2 x3 x4 x5 x6 x7 x8 x9 : Option Value} : mw d 347 Q 725 [x0, x1, x2, x3, x4, x5, x6, x7, x8, x9] (st) h = mw d 347 Q 727 [x0, x1, x2, x3, x4, x5, x6, x7, x8, x9] (.int 6 :: st) h := (mw_at mj_347_725).trans (z_bipush (by decide))
theorem mj_347_727 : mc_P 347 727 = some (.iload_n 1, 1, 0, 0, 0) := by decide +kernel
theorem s_347_727 {x0 x2 x3 x4 x5 x6 x7 x8 x9 : Option Value} {w : Value} : mw d 347 Q 727 [x0, some w, x2, x3, x4, x5, x6, x7, x8, x9] (st) h = mv_i w (mw d 347 Q 728 [x0, some w, x2, x3, x4, x5, x6, x7, x8, x9] (w :: st) h) := (mw_at mj_347_727).trans (z_iload_n rfl)
theorem mj_347_728 : mc_P 347 728 = some (.invokevirtual 366, 3, 335, 14, 3) := by decide +kernel
theorem s_347_728 {x0 x1 x2 x3 x4 x5 x6 x7 x8 x9 : Option Value} {o : Nat} {a1 a2 : Value} : mw (d + 1) 347 Q 728 [x0, x1, x2, x3, x4, x5, x6, x7, x8, x9] (a2 :: a1 :: .ref o :: st) h = (mg h o 14 ∧ mca st 8 ∧ mca [.ref o, a1, a2] 3 ∧ mcall d 335 [.ref o, a1, a2] h (mK (d + 1) 347 Q 731 [x0, x1, x2, x3, x4, x5, x6, x7, x8, x9] st)) := (mw_at mj_347_728).trans ((z_invv (As := [a1, a2]) (by decide) rfl rfl).trans (congrArg (And _) (congrArg (And _) (mC_nl nl_335))))
theorem mj_347_731 : mc_P 347 731 = some (.ifCond .eq 26, 3, 0, 0, 0) := by decide +kernel
theorem s_347_731 {x0 x1 x2 x3 x4 x5 x6 x7 x8 x9 : Option Value} {x : Int32} : mw d 347 Q 731 [x0, x1, x2, x3, x4, x5, x6, x7, x8, x9] (.int x :: st) h = mB (x = 0) (mw d 347 Q) 757 734 [x0, x1, x2, x3, x4, x5, x6, x7, x8, x9] st h := (mw_at mj_347_731).trans (z_if_eq (by decide) rfl)
theorem mj_347_734 : mc_P 347 734 = some (.iload 9, 2, 0, 0, 0) := by decide +kernel
theorem s_347_734 {x0 x1 x2 x3 x4 x5 x6 x7 x8 : Option Value} {w : Value} : mw d 347 Q 734 [x0, x1, x2, x3, x4, x5, x6, x7, x8, some w] (st) h = mv_i w (mw d 347 Q 736 [x0, x1, x2, x3, x4, x5, x6, x7, x8, some w] (w :: st) h) := (mw_at mj_347_734).trans (z_iload rfl)
theorem mj_347_736 : mc_P 347 736 = some (.ifCond .eq 13, 3, 0, 0, 0) := by decide +kernel
theorem s_347_736 {x0 x1 x2 x3 x4 x5 x6 x7 x8 x9 : Option Value} {x : Int32} : mw d 347 Q 736 [x0, x1, x2, x3, x4, x5, x6, x7, x8, x9] (.int x :: st) h = mB (x = 0) (mw d 347 Q) 749 739 [x0, x1, x2, x3, x4, x5, x6, x7, x8, x9] st h := (mw_at mj_347_736).trans (z_if_eq (by decide) rfl)
theorem mj_347_739 : mc_P 347 739 = some (.aload_n 0, 1, 0, 0, 0) := by decide +kernel
theorem s_347_739 {x1 x2 x3 x4 x5 x6 x7 x8 x9 : Option Value} {w : Value} : mw d 347 Q 739 [some w, x1, x2, x3, x4, x5, x6, x7, x8, x9] (st) h = mv_a w (mw d 347 Q 740 [some w, x1, x2, x3, x4, x5, x6, x7, x8, x9] (w :: st) h) := (mw_at mj_347_739).trans (z_aload_n rfl)
theorem mj_347_740 : mc_P 347 740 = some (.bipush 7, 2, 0, 0, 0) := by decide +kernel
theorem s_347_740 {x0 x1 x2 x3 x4 x5 x6 x7 x8 x9 : Option Value} : mw d 347 Q 740 [x0, x1, x2, x3, x4, x5, x6, x7, x8, x9] (st) h = mw d 347 Q 742 [x0, x1, x2, x3, x4, x5, x6, x7, x8, x9] (.int 7 :: st) h := (mw_at mj_347_740).trans (z_bipush (by decide))
theorem mj_347_742 : mc_P 347 742 = some (.iload_n 1, 1, 0, 0, 0) := by decide +kernel
theorem s_347_742 {x0 x2 x3 x4 x5 x6 x7 x8 x9 : Option Value} {w : Value} : mw d 347 Q 742 [x0, some w, x2, x3, x4, x5, x6, x7, x8, x9] (st) h = mv_i w (mw d 347 Q 743 [x0, some w, x2, x3, x4, x5, x6, x7, x8, x9] (w :: st) h) := (mw_at mj_347_742).trans (z_iload_n rfl)
theorem mj_347_743 : mc_P 347 743 = some (.invokevirtual 366, 3, 335, 14, 3) := by decide +kernel
theorem s_347_743 {x0 x1 x2 x3 x4 x5 x6 x7 x8 x9 : Option Value} {o : Nat} {a1 a2 : Value} : mw (d + 1) 347 Q 743 [x0, x1, x2, x3, x4, x5, x6, x7, x8, x9] (a2 :: a1 :: .ref o :: st) h = (mg h o 14 ∧ mca st 8 ∧ mca [.ref o, a1, a2] 3 ∧ mcall d 335 [.ref o, a1, a2] h (mK (d + 1) 347 Q 746 [x0, x1, x2, x3, x4, x5, x6, x7, x8, x9] st)) := (mw_at mj_347_743).trans ((z_invv (As := [a1, a2]) (by decide) rfl rfl).trans (congrArg (And _) (congrArg (And _) (mC_nl nl_335))))
theorem mj_347_746 : mc_P 347 746 = some (.ifCond .eq 11, 3, 0, 0, 0) := by decide +kernel
theorem s_347_746 {x0 x1 x2 x3 x4 x5 x6 x7 x8 x9 : Option Value} {x : Int32} : mw d 347 Q 746 [x0, x1, x2, x3, x4, x5, x6, x7, x8, x9] (.int x :: st) h = mB (x = 0) (mw d 347 Q) 757 749 [x0, x1, x2, x3, x4, x5, x6, x7, x8, x9] st h := (mw_at mj_347_746).trans (z_if_eq (by decide) rfl)
theorem mj_347_749 : mc_P 347 749 = some (.aload_n 0, 1, 0, 0, 0) := by decide +kernel
theorem s_347_749 {x1 x2 x3 x4 x5 x6 x7 x8 x9 : Option Value} {w : Value} : mw d 347 Q 749 [some w, x1, x2, x3, x4, x5, x6, x7, x8, x9] (st) h = mv_a w (mw d 347 Q 750 [some w, x1, x2, x3, x4, x5, x6, x7, x8, x9] (w :: st) h) := (mw_at mj_347_749).trans (z_aload_n rfl)
theorem mj_347_750 : mc_P 347 750 = some (.iload_n 1, 1, 0, 0, 0) := by decide +kernel
theorem s_347_750 {x0 x2 x3 x4 x5 x6 x7 x8 x9 : Option Value} {w : Value} : mw d 347 Q 750 [x0, some w, x2, x3, x4, x5, x6, x7, x8, x9] (st) h = mv_i w (mw d 347 Q 751 [x0, some w, x2, x3, x4, x5, x6, x7, x8, x9] (w :: st) h) := (mw_at mj_347_750).trans (z_iload_n rfl)
theorem mj_347_751 : mc_P 347 751 = some (.iconst 1, 1, 0, 0, 0) := by decide +kernel
theorem s_347_751 {x0 x1 x2 x3 x4 x5 x6 x7 x8 x9 : Option Value} : mw d 347 Q 751 [x0, x1, x2, x3, x4, x5, x6, x7, x8, x9] (st) h = mw d 347 Q 752 [x0, x1, x2, x3, x4, x5, x6, x7, x8, x9] (.int 1 :: st) h := (mw_at mj_347_751).trans (z_iconst (by decide))
theorem mj_347_752 : mc_P 347 752 = some (.iadd, 1, 0, 0, 0) := by decide +kernel
theorem s_347_752 {x0 x1 x2 x3 x4 x5 x6 x7 x8 x9 : Option Value} {x w : Int32} : mw d 347 Q 752 [x0, x1, x2, x3, x4, x5, x6, x7, x8, x9] (.int w :: .int x :: st) h = mw d 347 Q 753 [x0, x1, x2, x3, x4, x5, x6, x7, x8, x9] (.int (x + w) :: st) h := (mw_at mj_347_752).trans (z_iadd)
theorem mj_347_753 : mc_P 347 753 = some (.invokevirtual 394, 3, 342, 14, 2) := by decide +kernel
theorem s_347_753 {x0 x1 x2 x3 x4 x5 x6 x7 x8 x9 : Option Value} {o : Nat} {a1 : Value} : mw (d + 1) 347 Q 753 [x0, x1, x2, x3, x4, x5, x6, x7, x8, x9] (a1 :: .ref o :: st) h = (mg h o 14 ∧ mca st 8 ∧ mca [.ref o, a1] 4 ∧ mcall d 342 [.ref o, a1] h (mK (d + 1) 347 Q 756 [x0, x1, x2, x3, x4, x5, x6, x7, x8, x9] st)) := (mw_at mj_347_753).trans ((z_invv (As := [a1]) (by decide) rfl rfl).trans (congrArg (And _) (congrArg (And _) (mC_nl nl_342))))
theorem mj_347_756 : mc_P 347 756 = some (.pop, 1, 0, 0, 0) := by decide +kernel
theorem s_347_756 {x0 x1 x2 x3 x4 x5 x6 x7 x8 x9 : Option Value} {w : Value} : mw d 347 Q 756 [x0, x1, x2, x3, x4, x5, x6, x7, x8, x9] (w :: st) h = (w.category = 1 ∧ mw d 347 Q 757 [x0, x1, x2, x3, x4, x5, x6, x7, x8, x9] (st) h) := (mw_at mj_347_756).trans (z_pop)
theorem mj_347_757 : mc_P 347 757 = some (.aload_n 0, 1, 0, 0, 0) := by decide +kernel
theorem s_347_757 {x1 x2 x3 x4 x5 x6 x7 x8 x9 : Option Value} {w : Value} : mw d 347 Q 757 [some w, x1, x2, x3, x4, x5, x6, x7, x8, x9] (st) h = mv_a w (mw d 347 Q 758 [some w, x1, x2, x3, x4, x5, x6, x7, x8, x9] (w :: st) h) := (mw_at mj_347_757).trans (z_aload_n rfl)
theorem mj_347_758 : mc_P 347 758 = some (.getfield 76, 3, 14, 30, 0) := by decide +kernel
theorem s_347_758 {x0 x1 x2 x3 x4 x5 x6 x7 x8 x9 : Option Value} {o : Nat} : mw d 347 Q 758 [x0, x1, x2, x3, x4, x5, x6, x7, x8, x9] (.ref o :: st) h = (mg h o 14 ∧ mw d 347 Q 761 [x0, x1, x2, x3, x4, x5, x6, x7, x8, x9] (va_rf (mh_r h o 30) :: st) h) := (mw_at mj_347_758).trans (z_getr (by decide) (by decide) rfl)
theorem mj_347_761 : mc_P 347 761 = some (.iload 6, 2, 0, 0, 0) := by decide +kernel
theorem s_347_761 {x0 x1 x2 x3 x4 x5 x7 x8 x9 : Option Value} {w : Value} : mw d 347 Q 761 [x0, x1, x2, x3, x4, x5, some w, x7, x8, x9] (st) h = mv_i w (mw d 347 Q 763 [x0, x1, x2, x3, x4, x5, some w, x7, x8, x9] (w :: st) h) := (mw_at mj_347_761).trans (z_iload rfl)
theorem mj_347_763 : mc_P 347 763 = some (.aload_n 0, 1, 0, 0, 0) := by decide +kernel
theorem s_347_763 {x1 x2 x3 x4 x5 x6 x7 x8 x9 : Option Value} {w : Value} : mw d 347 Q 763 [some w, x1, x2, x3, x4, x5, x6, x7, x8, x9] (st) h = mv_a w (mw d 347 Q 764 [some w, x1, x2, x3, x4, x5, x6, x7, x8, x9] (w :: st) h) := (mw_at mj_347_763).trans (z_aload_n rfl)
theorem mj_347_764 : mc_P 347 764 = some (.getfield 176, 3, 14, 33, 0) := by decide +kernel
theorem s_347_764 {x0 x1 x2 x3 x4 x5 x6 x7 x8 x9 : Option Value} {o : Nat} : mw d 347 Q 764 [x0, x1, x2, x3, x4, x5, x6, x7, x8, x9] (.ref o :: st) h = (mg h o 14 ∧ mw d 347 Q 767 [x0, x1, x2, x3, x4, x5, x6, x7, x8, x9] (.int (mh_i h o 33) :: st) h) := (mw_at mj_347_764).trans (z_geti (by decide) (by decide) (Or.inl rfl))
theorem mj_347_767 : mc_P 347 767 = some (.iastore, 1, 0, 0, 0) := by decide +kernel
theorem s_347_767 {x0 x1 x2 x3 x4 x5 x6 x7 x8 x9 : Option Value} {o : Nat} {i w : Int32} : mw d 347 Q 767 [x0, x1, x2, x3, x4, x5, x6, x7, x8, x9] (.int w :: .int i :: .ref o :: st) h = (mg h o 100 ∧ mx i (mh_l h o) ∧ mw d 347 Q 768 [x0, x1, x2, x3, x4, x5, x6, x7, x8, x9] (st) (mh_si h o i.toNatClampNeg w)) := (mw_at mj_347_767).trans (z_iast)
theorem mj_347_768 : mc_P 347 768 = some (.return_, 1, 0, 0, 0) := by decide +kernel
theorem s_347_768 {x0 x1 x2 x3 x4 x5 x6 x7 x8 x9 : Option Value} : mw d 347 Q 768 [x0, x1, x2, x3, x4, x5, x6, x7, x8, x9] ([]) h = Q none h := (mw_at mj_347_768).trans (z_vret)
theorem e_347 {a0 : Nat} {a1 : Int32} {a2 : Int32} {a3 : Int32} {a4 : Int32} {a5 : Int32} : mcall d 347 [.ref a0, .int a1, .int a2, .int a3, .int a4, .int a5] h Q = mw d 347 Q 0 [some (.ref a0), some (.int a1), some (.int a2), some (.int a3), some (.int a4), some (.int a5), none, none, none, none] [] h := by
  show mw d 347 Q 0 (me_en (mc_nl 347) _) [] h = _
  rw [nl_347]; rfl

/-! InvariantDeskModel.call(II)V -/
theorem mj_348_0 : mc_P 348 0 = some (.iload_n 1, 1, 0, 0, 0) := by decide +kernel
theorem s_348_0 {x0 x2 x3 x4 x5 x6 x7 x8 x9 x10 x11 x12 : Option Value} {w : Value} : mw d 348 Q 0 [x0, some w, x2, x3, x4, x5, x6, x7, x8, x9, x10, x11, x12] (st) h = mv_i w (mw d 348 Q 1 [x0, some w, x2, x3, x4, x5, x6, x7, x8, x9, x10, x11, x12] (w :: st) h) := (mw_at mj_348_0).trans (z_iload_n rfl)
theorem mj_348_1 : mc_P 348 1 = some (.iconst 2, 1, 0, 0, 0) := by decide +kernel
theorem s_348_1 {x0 x1 x2 x3 x4 x5 x6 x7 x8 x9 x10 x11 x12 : Option Value} : mw d 348 Q 1 [x0, x1, x2, x3, x4, x5, x6, x7, x8, x9, x10, x11, x12] (st) h = mw d 348 Q 2 [x0, x1, x2, x3, x4, x5, x6, x7, x8, x9, x10, x11, x12] (.int 2 :: st) h := (mw_at mj_348_1).trans (z_iconst (by decide))
theorem mj_348_2 : mc_P 348 2 = some (.iadd, 1, 0, 0, 0) := by decide +kernel
theorem s_348_2 {x0 x1 x2 x3 x4 x5 x6 x7 x8 x9 x10 x11 x12 : Option Value} {x w : Int32} : mw d 348 Q 2 [x0, x1, x2, x3, x4, x5, x6, x7, x8, x9, x10, x11, x12] (.int w :: .int x :: st) h = mw d 348 Q 3 [x0, x1, x2, x3, x4, x5, x6, x7, x8, x9, x10, x11, x12] (.int (x + w) :: st) h := (mw_at mj_348_2).trans (z_iadd)
theorem mj_348_3 : mc_P 348 3 = some (.istore_n 3, 1, 0, 0, 0) := by decide +kernel
theorem s_348_3 {x0 x1 x2 x3 x4 x5 x6 x7 x8 x9 x10 x11 x12 : Option Value} {w : Int32} : mw d 348 Q 3 [x0, x1, x2, x3, x4, x5, x6, x7, x8, x9, x10, x11, x12] (.int w :: st) h = mw d 348 Q 4 [x0, x1, mk2 x2, some (.int w), x4, x5, x6, x7, x8, x9, x10, x11, x12] (st) h := (mw_at mj_348_3).trans (z_istore_n (Nat.le_of_ble_eq_true rfl) (me_s1_mk (j := 2) (w := x2) rfl))
theorem mj_348_4 : mc_P 348 4 = some (.iconst (-1), 1, 0, 0, 0) := by decide +kernel
theorem s_348_4 {x0 x1 x2 x3 x4 x5 x6 x7 x8 x9 x10 x11 x12 : Option Value} : mw d 348 Q 4 [x0, x1, x2, x3, x4, x5, x6, x7, x8, x9, x10, x11, x12] (st) h = mw d 348 Q 5 [x0, x1, x2, x3, x4, x5, x6, x7, x8, x9, x10, x11, x12] (.int (-1) :: st) h := (mw_at mj_348_4).trans (z_iconst (by decide))
theorem mj_348_5 : mc_P 348 5 = some (.istore 4, 2, 0, 0, 0) := by decide +kernel
theorem s_348_5 {x0 x1 x2 x3 x4 x5 x6 x7 x8 x9 x10 x11 x12 : Option Value} {w : Int32} : mw d 348 Q 5 [x0, x1, x2, x3, x4, x5, x6, x7, x8, x9, x10, x11, x12] (.int w :: st) h = mw d 348 Q 7 [x0, x1, x2, mk2 x3, some (.int w), x5, x6, x7, x8, x9, x10, x11, x12] (st) h := (mw_at mj_348_5).trans (z_istore (Nat.le_of_ble_eq_true rfl) (me_s1_mk (j := 3) (w := x3) rfl))
theorem mj_348_7 : mc_P 348 7 = some (.aload_n 0, 1, 0, 0, 0) := by decide +kernel
theorem s_348_7 {x1 x2 x3 x4 x5 x6 x7 x8 x9 x10 x11 x12 : Option Value} {w : Value} : mw d 348 Q 7 [some w, x1, x2, x3, x4, x5, x6, x7, x8, x9, x10, x11, x12] (st) h = mv_a w (mw d 348 Q 8 [some w, x1, x2, x3, x4, x5, x6, x7, x8, x9, x10, x11, x12] (w :: st) h) := (mw_at mj_348_7).trans (z_aload_n rfl)
theorem mj_348_8 : mc_P 348 8 = some (.getfield 48, 3, 14, 19, 0) := by decide +kernel
theorem s_348_8 {x0 x1 x2 x3 x4 x5 x6 x7 x8 x9 x10 x11 x12 : Option Value} {o : Nat} : mw d 348 Q 8 [x0, x1, x2, x3, x4, x5, x6, x7, x8, x9, x10, x11, x12] (.ref o :: st) h = (mg h o 14 ∧ mw d 348 Q 11 [x0, x1, x2, x3, x4, x5, x6, x7, x8, x9, x10, x11, x12] (va_rf (mh_r h o 19) :: st) h) := (mw_at mj_348_8).trans (z_getr (by decide) (by decide) rfl)
theorem mj_348_11 : mc_P 348 11 = some (.iload_n 1, 1, 0, 0, 0) := by decide +kernel
theorem s_348_11 {x0 x2 x3 x4 x5 x6 x7 x8 x9 x10 x11 x12 : Option Value} {w : Value} : mw d 348 Q 11 [x0, some w, x2, x3, x4, x5, x6, x7, x8, x9, x10, x11, x12] (st) h = mv_i w (mw d 348 Q 12 [x0, some w, x2, x3, x4, x5, x6, x7, x8, x9, x10, x11, x12] (w :: st) h) := (mw_at mj_348_11).trans (z_iload_n rfl)
theorem mj_348_12 : mc_P 348 12 = some (.iconst 1, 1, 0, 0, 0) := by decide +kernel
theorem s_348_12 {x0 x1 x2 x3 x4 x5 x6 x7 x8 x9 x10 x11 x12 : Option Value} : mw d 348 Q 12 [x0, x1, x2, x3, x4, x5, x6, x7, x8, x9, x10, x11, x12] (st) h = mw d 348 Q 13 [x0, x1, x2, x3, x4, x5, x6, x7, x8, x9, x10, x11, x12] (.int 1 :: st) h := (mw_at mj_348_12).trans (z_iconst (by decide))
theorem mj_348_13 : mc_P 348 13 = some (.iadd, 1, 0, 0, 0) := by decide +kernel
theorem s_348_13 {x0 x1 x2 x3 x4 x5 x6 x7 x8 x9 x10 x11 x12 : Option Value} {x w : Int32} : mw d 348 Q 13 [x0, x1, x2, x3, x4, x5, x6, x7, x8, x9, x10, x11, x12] (.int w :: .int x :: st) h = mw d 348 Q 14 [x0, x1, x2, x3, x4, x5, x6, x7, x8, x9, x10, x11, x12] (.int (x + w) :: st) h := (mw_at mj_348_13).trans (z_iadd)
theorem mj_348_14 : mc_P 348 14 = some (.baload, 1, 0, 0, 0) := by decide +kernel
theorem s_348_14 {x0 x1 x2 x3 x4 x5 x6 x7 x8 x9 x10 x11 x12 : Option Value} {o : Nat} {i : Int32} : mw d 348 Q 14 [x0, x1, x2, x3, x4, x5, x6, x7, x8, x9, x10, x11, x12] (.int i :: .ref o :: st) h = (mgb h o ∧ mx i (mh_l h o) ∧ mw d 348 Q 15 [x0, x1, x2, x3, x4, x5, x6, x7, x8, x9, x10, x11, x12] (.int (mh_i h o i.toNatClampNeg) :: st) h) := (mw_at mj_348_14).trans (z_bald)
theorem mj_348_15 : mc_P 348 15 = some (.bipush 33, 2, 0, 0, 0) := by decide +kernel
theorem s_348_15 {x0 x1 x2 x3 x4 x5 x6 x7 x8 x9 x10 x11 x12 : Option Value} : mw d 348 Q 15 [x0, x1, x2, x3, x4, x5, x6, x7, x8, x9, x10, x11, x12] (st) h = mw d 348 Q 17 [x0, x1, x2, x3, x4, x5, x6, x7, x8, x9, x10, x11, x12] (.int 33 :: st) h := (mw_at mj_348_15).trans (z_bipush (by decide))
theorem mj_348_17 : mc_P 348 17 = some (.if_icmp .eq 14, 3, 0, 0, 0) := by decide +kernel
theorem s_348_17 {x0 x1 x2 x3 x4 x5 x6 x7 x8 x9 x10 x11 x12 : Option Value} {x w : Int32} : mw d 348 Q 17 [x0, x1, x2, x3, x4, x5, x6, x7, x8, x9, x10, x11, x12] (.int w :: .int x :: st) h = mB (x = w) (mw d 348 Q) 31 20 [x0, x1, x2, x3, x4, x5, x6, x7, x8, x9, x10, x11, x12] st h := (mw_at mj_348_17).trans (z_icmp_eq (by decide) rfl)
theorem mj_348_20 : mc_P 348 20 = some (.aload_n 0, 1, 0, 0, 0) := by decide +kernel
theorem s_348_20 {x1 x2 x3 x4 x5 x6 x7 x8 x9 x10 x11 x12 : Option Value} {w : Value} : mw d 348 Q 20 [some w, x1, x2, x3, x4, x5, x6, x7, x8, x9, x10, x11, x12] (st) h = mv_a w (mw d 348 Q 21 [some w, x1, x2, x3, x4, x5, x6, x7, x8, x9, x10, x11, x12] (w :: st) h) := (mw_at mj_348_20).trans (z_aload_n rfl)
theorem mj_348_21 : mc_P 348 21 = some (.iload_n 1, 1, 0, 0, 0) := by decide +kernel
theorem s_348_21 {x0 x2 x3 x4 x5 x6 x7 x8 x9 x10 x11 x12 : Option Value} {w : Value} : mw d 348 Q 21 [x0, some w, x2, x3, x4, x5, x6, x7, x8, x9, x10, x11, x12] (st) h = mv_i w (mw d 348 Q 22 [x0, some w, x2, x3, x4, x5, x6, x7, x8, x9, x10, x11, x12] (w :: st) h) := (mw_at mj_348_21).trans (z_iload_n rfl)
theorem mj_348_22 : mc_P 348 22 = some (.iconst 1, 1, 0, 0, 0) := by decide +kernel
theorem s_348_22 {x0 x1 x2 x3 x4 x5 x6 x7 x8 x9 x10 x11 x12 : Option Value} : mw d 348 Q 22 [x0, x1, x2, x3, x4, x5, x6, x7, x8, x9, x10, x11, x12] (st) h = mw d 348 Q 23 [x0, x1, x2, x3, x4, x5, x6, x7, x8, x9, x10, x11, x12] (.int 1 :: st) h := (mw_at mj_348_22).trans (z_iconst (by decide))
theorem mj_348_23 : mc_P 348 23 = some (.iadd, 1, 0, 0, 0) := by decide +kernel
theorem s_348_23 {x0 x1 x2 x3 x4 x5 x6 x7 x8 x9 x10 x11 x12 : Option Value} {x w : Int32} : mw d 348 Q 23 [x0, x1, x2, x3, x4, x5, x6, x7, x8, x9, x10, x11, x12] (.int w :: .int x :: st) h = mw d 348 Q 24 [x0, x1, x2, x3, x4, x5, x6, x7, x8, x9, x10, x11, x12] (.int (x + w) :: st) h := (mw_at mj_348_23).trans (z_iadd)
theorem mj_348_24 : mc_P 348 24 = some (.iconst 0, 1, 0, 0, 0) := by decide +kernel
theorem s_348_24 {x0 x1 x2 x3 x4 x5 x6 x7 x8 x9 x10 x11 x12 : Option Value} : mw d 348 Q 24 [x0, x1, x2, x3, x4, x5, x6, x7, x8, x9, x10, x11, x12] (st) h = mw d 348 Q 25 [x0, x1, x2, x3, x4, x5, x6, x7, x8, x9, x10, x11, x12] (.int 0 :: st) h := (mw_at mj_348_24).trans (z_iconst (by decide))
theorem mj_348_25 : mc_P 348 25 = some (.invokevirtual 369, 3, 341, 14, 3) := by decide +kernel
theorem s_348_25 {x0 x1 x2 x3 x4 x5 x6 x7 x8 x9 x10 x11 x12 : Option Value} {o : Nat} {a1 a2 : Value} : mw (d + 1) 348 Q 25 [x0, x1, x2, x3, x4, x5, x6, x7, x8, x9, x10, x11, x12] (a2 :: a1 :: .ref o :: st) h = (mg h o 14 ∧ mca st 8 ∧ mca [.ref o, a1, a2] 4 ∧ mcall d 341 [.ref o, a1, a2] h (mK (d + 1) 348 Q 28 [x0, x1, x2, x3, x4, x5, x6, x7, x8, x9, x10, x11, x12] st)) := (mw_at mj_348_25).trans ((z_invv (As := [a1, a2]) (by decide) rfl rfl).trans (congrArg (And _) (congrArg (And _) (mC_nl nl_341))))
theorem mj_348_28 : mc_P 348 28 = some (.ifCond .eq 20, 3, 0, 0, 0) := by decide +kernel
theorem s_348_28 {x0 x1 x2 x3 x4 x5 x6 x7 x8 x9 x10 x11 x12 : Option Value} {x : Int32} : mw d 348 Q 28 [x0, x1, x2, x3, x4, x5, x6, x7, x8, x9, x10, x11, x12] (.int x :: st) h = mB (x = 0) (mw d 348 Q) 48 31 [x0, x1, x2, x3, x4, x5, x6, x7, x8, x9, x10, x11, x12] st h := (mw_at mj_348_28).trans (z_if_eq (by decide) rfl)
theorem mj_348_31 : mc_P 348 31 = some (.aload_n 0, 1, 0, 0, 0) := by decide +kernel
theorem s_348_31 {x1 x2 x3 x4 x5 x6 x7 x8 x9 x10 x11 x12 : Option Value} {w : Value} : mw d 348 Q 31 [some w, x1, x2, x3, x4, x5, x6, x7, x8, x9, x10, x11, x12] (st) h = mv_a w (mw d 348 Q 32 [some w, x1, x2, x3, x4, x5, x6, x7, x8, x9, x10, x11, x12] (w :: st) h) := (mw_at mj_348_31).trans (z_aload_n rfl)
theorem mj_348_32 : mc_P 348 32 = some (.aload_n 0, 1, 0, 0, 0) := by decide +kernel
theorem s_348_32 {x1 x2 x3 x4 x5 x6 x7 x8 x9 x10 x11 x12 : Option Value} {w : Value} : mw d 348 Q 32 [some w, x1, x2, x3, x4, x5, x6, x7, x8, x9, x10, x11, x12] (st) h = mv_a w (mw d 348 Q 33 [some w, x1, x2, x3, x4, x5, x6, x7, x8, x9, x10, x11, x12] (w :: st) h) := (mw_at mj_348_32).trans (z_aload_n rfl)
theorem mj_348_33 : mc_P 348 33 = some (.getfield 55, 3, 14, 21, 0) := by decide +kernel
theorem s_348_33 {x0 x1 x2 x3 x4 x5 x6 x7 x8 x9 x10 x11 x12 : Option Value} {o : Nat} : mw d 348 Q 33 [x0, x1, x2, x3, x4, x5, x6, x7, x8, x9, x10, x11, x12] (.ref o :: st) h = (mg h o 14 ∧ mw d 348 Q 36 [x0, x1, x2, x3, x4, x5, x6, x7, x8, x9, x10, x11, x12] (va_rf (mh_r h o 21) :: st) h) := (mw_at mj_348_33).trans (z_getr (by decide) (by decide) rfl)
theorem mj_348_36 : mc_P 348 36 = some (.iload_n 3, 1, 0, 0, 0) := by decide +kernel
theorem s_348_36 {x0 x1 x2 x4 x5 x6 x7 x8 x9 x10 x11 x12 : Option Value} {w : Value} : mw d 348 Q 36 [x0, x1, x2, some w, x4, x5, x6, x7, x8, x9, x10, x11, x12] (st) h = mv_i w (mw d 348 Q 37 [x0, x1, x2, some w, x4, x5, x6, x7, x8, x9, x10, x11, x12] (w :: st) h) := (mw_at mj_348_36).trans (z_iload_n rfl)
theorem mj_348_37 : mc_P 348 37 = some (.iaload, 1, 0, 0, 0) := by decide +kernel
theorem s_348_37 {x0 x1 x2 x3 x4 x5 x6 x7 x8 x9 x10 x11 x12 : Option Value} {o : Nat} {i : Int32} : mw d 348 Q 37 [x0, x1, x2, x3, x4, x5, x6, x7, x8, x9, x10, x11, x12] (.int i :: .ref o :: st) h = (mg h o 100 ∧ mx i (mh_l h o) ∧ mw d 348 Q 38 [x0, x1, x2, x3, x4, x5, x6, x7, x8, x9, x10, x11, x12] (.int (mh_i h o i.toNatClampNeg) :: st) h) := (mw_at mj_348_37).trans (z_iald)
theorem mj_348_38 : mc_P 348 38 = some (.aload_n 0, 1, 0, 0, 0) := by decide +kernel
theorem s_348_38 {x1 x2 x3 x4 x5 x6 x7 x8 x9 x10 x11 x12 : Option Value} {w : Value} : mw d 348 Q 38 [some w, x1, x2, x3, x4, x5, x6, x7, x8, x9, x10, x11, x12] (st) h = mv_a w (mw d 348 Q 39 [some w, x1, x2, x3, x4, x5, x6, x7, x8, x9, x10, x11, x12] (w :: st) h) := (mw_at mj_348_38).trans (z_aload_n rfl)
theorem mj_348_39 : mc_P 348 39 = some (.iload_n 1, 1, 0, 0, 0) := by decide +kernel
theorem s_348_39 {x0 x2 x3 x4 x5 x6 x7 x8 x9 x10 x11 x12 : Option Value} {w : Value} : mw d 348 Q 39 [x0, some w, x2, x3, x4, x5, x6, x7, x8, x9, x10, x11, x12] (st) h = mv_i w (mw d 348 Q 40 [x0, some w, x2, x3, x4, x5, x6, x7, x8, x9, x10, x11, x12] (w :: st) h) := (mw_at mj_348_39).trans (z_iload_n rfl)
theorem mj_348_40 : mc_P 348 40 = some (.invokevirtual 403, 3, 349, 14, 2) := by decide +kernel
theorem s_348_40 {x0 x1 x2 x3 x4 x5 x6 x7 x8 x9 x10 x11 x12 : Option Value} {o : Nat} {a1 : Value} : mw (d + 1) 348 Q 40 [x0, x1, x2, x3, x4, x5, x6, x7, x8, x9, x10, x11, x12] (a1 :: .ref o :: st) h = (mg h o 14 ∧ mca st 8 ∧ mca [.ref o, a1] 3 ∧ mcall d 349 [.ref o, a1] h (mK (d + 1) 348 Q 43 [x0, x1, x2, x3, x4, x5, x6, x7, x8, x9, x10, x11, x12] st)) := (mw_at mj_348_40).trans ((z_invv (As := [a1]) (by decide) rfl rfl).trans (congrArg (And _) (congrArg (And _) (mC_nl nl_349))))
theorem mj_348_43 : mc_P 348 43 = some (.invokevirtual 406, 3, 339, 14, 3) := by decide +kernel
theorem s_348_43 {x0 x1 x2 x3 x4 x5 x6 x7 x8 x9 x10 x11 x12 : Option Value} {o : Nat} {a1 a2 : Value} : mw (d + 1) 348 Q 43 [x0, x1, x2, x3, x4, x5, x6, x7, x8, x9, x10, x11, x12] (a2 :: a1 :: .ref o :: st) h = (mg h o 14 ∧ mca st 8 ∧ mca [.ref o, a1, a2] 5 ∧ mcall d 339 [.ref o, a1, a2] h (mK (d + 1) 348 Q 46 [x0, x1, x2, x3, x4, x5, x6, x7, x8, x9, x10, x11, x12] st)) := (mw_at mj_348_43).trans ((z_invv (As := [a1, a2]) (by decide) rfl rfl).trans (congrArg (And _) (congrArg (And _) (mC_nl nl_339))))
theorem mj_348_46 : mc_P 348 46 = some (.istore 4, 2, 0, 0, 0) := by decide +kernel
theorem s_348_46 {x0 x1 x2 x3 x4 x5 x6 x7 x8 x9 x10 x11 x12 : Option Value} {w : Int32} : mw d 348 Q 46 [x0, x1, x2, x3, x4, x5, x6, x7, x8, x9, x10, x11, x12] (.int w :: st) h = mw d 348 Q 48 [x0, x1, x2, mk2 x3, some (.int w), x5, x6, x7, x8, x9, x10, x11, x12] (st) h := (mw_at mj_348_46).trans (z_istore (Nat.le_of_ble_eq_true rfl) (me_s1_mk (j := 3) (w := x3) rfl))
theorem mj_348_48 : mc_P 348 48 = some (.aload_n 0, 1, 0, 0, 0) := by decide +kernel
theorem s_348_48 {x1 x2 x3 x4 x5 x6 x7 x8 x9 x10 x11 x12 : Option Value} {w : Value} : mw d 348 Q 48 [some w, x1, x2, x3, x4, x5, x6, x7, x8, x9, x10, x11, x12] (st) h = mv_a w (mw d 348 Q 49 [some w, x1, x2, x3, x4, x5, x6, x7, x8, x9, x10, x11, x12] (w :: st) h) := (mw_at mj_348_48).trans (z_aload_n rfl)
theorem mj_348_49 : mc_P 348 49 = some (.getfield 328, 3, 14, 47, 0) := by decide +kernel
theorem s_348_49 {x0 x1 x2 x3 x4 x5 x6 x7 x8 x9 x10 x11 x12 : Option Value} {o : Nat} : mw d 348 Q 49 [x0, x1, x2, x3, x4, x5, x6, x7, x8, x9, x10, x11, x12] (.ref o :: st) h = (mg h o 14 ∧ mw d 348 Q 52 [x0, x1, x2, x3, x4, x5, x6, x7, x8, x9, x10, x11, x12] (.int (mh_i h o 47) :: st) h) := (mw_at mj_348_49).trans (z_geti (by decide) (by decide) (Or.inl rfl))
theorem mj_348_52 : mc_P 348 52 = some (.ifCond .le 4, 3, 0, 0, 0) := by decide +kernel
theorem s_348_52 {x0 x1 x2 x3 x4 x5 x6 x7 x8 x9 x10 x11 x12 : Option Value} {x : Int32} : mw d 348 Q 52 [x0, x1, x2, x3, x4, x5, x6, x7, x8, x9, x10, x11, x12] (.int x :: st) h = mB (x ≤ 0) (mw d 348 Q) 56 55 [x0, x1, x2, x3, x4, x5, x6, x7, x8, x9, x10, x11, x12] st h := (mw_at mj_348_52).trans (z_if_le (by decide) rfl)
theorem mj_348_55 : mc_P 348 55 = some (.return_, 1, 0, 0, 0) := by decide +kernel
theorem s_348_55 {x0 x1 x2 x3 x4 x5 x6 x7 x8 x9 x10 x11 x12 : Option Value} : mw d 348 Q 55 [x0, x1, x2, x3, x4, x5, x6, x7, x8, x9, x10, x11, x12] ([]) h = Q none h := (mw_at mj_348_55).trans (z_vret)
theorem mj_348_56 : mc_P 348 56 = some (.iload 4, 2, 0, 0, 0) := by decide +kernel
theorem s_348_56 {x0 x1 x2 x3 x5 x6 x7 x8 x9 x10 x11 x12 : Option Value} {w : Value} : mw d 348 Q 56 [x0, x1, x2, x3, some w, x5, x6, x7, x8, x9, x10, x11, x12] (st) h = mv_i w (mw d 348 Q 58 [x0, x1, x2, x3, some w, x5, x6, x7, x8, x9, x10, x11, x12] (w :: st) h) := (mw_at mj_348_56).trans (z_iload rfl)
theorem mj_348_58 : mc_P 348 58 = some (.iconst (-1), 1, 0, 0, 0) := by decide +kernel
theorem s_348_58 {x0 x1 x2 x3 x4 x5 x6 x7 x8 x9 x10 x11 x12 : Option Value} : mw d 348 Q 58 [x0, x1, x2, x3, x4, x5, x6, x7, x8, x9, x10, x11, x12] (st) h = mw d 348 Q 59 [x0, x1, x2, x3, x4, x5, x6, x7, x8, x9, x10, x11, x12] (.int (-1) :: st) h := (mw_at mj_348_58).trans (z_iconst (by decide))
theorem mj_348_59 : mc_P 348 59 = some (.if_icmp .ne 11, 3, 0, 0, 0) := by decide +kernel
theorem s_348_59 {x0 x1 x2 x3 x4 x5 x6 x7 x8 x9 x10 x11 x12 : Option Value} {x w : Int32} : mw d 348 Q 59 [x0, x1, x2, x3, x4, x5, x6, x7, x8, x9, x10, x11, x12] (.int w :: .int x :: st) h = mB (¬ x = w) (mw d 348 Q) 70 62 [x0, x1, x2, x3, x4, x5, x6, x7, x8, x9, x10, x11, x12] st h := (mw_at mj_348_59).trans (z_icmp_ne (by decide) rfl)
theorem mj_348_62 : mc_P 348 62 = some (.aload_n 0, 1, 0, 0, 0) := by decide +kernel
theorem s_348_62 {x1 x2 x3 x4 x5 x6 x7 x8 x9 x10 x11 x12 : Option Value} {w : Value} : mw d 348 Q 62 [some w, x1, x2, x3, x4, x5, x6, x7, x8, x9, x10, x11, x12] (st) h = mv_a w (mw d 348 Q 63 [some w, x1, x2, x3, x4, x5, x6, x7, x8, x9, x10, x11, x12] (w :: st) h) := (mw_at mj_348_62).trans (z_aload_n rfl)
theorem mj_348_63 : mc_P 348 63 = some (.iconst 4, 1, 0, 0, 0) := by decide +kernel
theorem s_348_63 {x0 x1 x2 x3 x4 x5 x6 x7 x8 x9 x10 x11 x12 : Option Value} : mw d 348 Q 63 [x0, x1, x2, x3, x4, x5, x6, x7, x8, x9, x10, x11, x12] (st) h = mw d 348 Q 64 [x0, x1, x2, x3, x4, x5, x6, x7, x8, x9, x10, x11, x12] (.int 4 :: st) h := (mw_at mj_348_63).trans (z_iconst (by decide))
theorem mj_348_64 : mc_P 348 64 = some (.iload_n 3, 1, 0, 0, 0) := by decide +kernel
theorem s_348_64 {x0 x1 x2 x4 x5 x6 x7 x8 x9 x10 x11 x12 : Option Value} {w : Value} : mw d 348 Q 64 [x0, x1, x2, some w, x4, x5, x6, x7, x8, x9, x10, x11, x12] (st) h = mv_i w (mw d 348 Q 65 [x0, x1, x2, some w, x4, x5, x6, x7, x8, x9, x10, x11, x12] (w :: st) h) := (mw_at mj_348_64).trans (z_iload_n rfl)
theorem mj_348_65 : mc_P 348 65 = some (.invokevirtual 366, 3, 335, 14, 3) := by decide +kernel
theorem s_348_65 {x0 x1 x2 x3 x4 x5 x6 x7 x8 x9 x10 x11 x12 : Option Value} {o : Nat} {a1 a2 : Value} : mw (d + 1) 348 Q 65 [x0, x1, x2, x3, x4, x5, x6, x7, x8, x9, x10, x11, x12] (a2 :: a1 :: .ref o :: st) h = (mg h o 14 ∧ mca st 8 ∧ mca [.ref o, a1, a2] 3 ∧ mcall d 335 [.ref o, a1, a2] h (mK (d + 1) 348 Q 68 [x0, x1, x2, x3, x4, x5, x6, x7, x8, x9, x10, x11, x12] st)) := (mw_at mj_348_65).trans ((z_invv (As := [a1, a2]) (by decide) rfl rfl).trans (congrArg (And _) (congrArg (And _) (mC_nl nl_335))))
theorem mj_348_68 : mc_P 348 68 = some (.pop, 1, 0, 0, 0) := by decide +kernel
theorem s_348_68 {x0 x1 x2 x3 x4 x5 x6 x7 x8 x9 x10 x11 x12 : Option Value} {w : Value} : mw d 348 Q 68 [x0, x1, x2, x3, x4, x5, x6, x7, x8, x9, x10, x11, x12] (w :: st) h = (w.category = 1 ∧ mw d 348 Q 69 [x0, x1, x2, x3, x4, x5, x6, x7, x8, x9, x10, x11, x12] (st) h) := (mw_at mj_348_68).trans (z_pop)
theorem mj_348_69 : mc_P 348 69 = some (.return_, 1, 0, 0, 0) := by decide +kernel
theorem s_348_69 {x0 x1 x2 x3 x4 x5 x6 x7 x8 x9 x10 x11 x12 : Option Value} : mw d 348 Q 69 [x0, x1, x2, x3, x4, x5, x6, x7, x8, x9, x10, x11, x12] ([]) h = Q none h := (mw_at mj_348_69).trans (z_vret)
theorem mj_348_70 : mc_P 348 70 = some (.aload_n 0, 1, 0, 0, 0) := by decide +kernel
theorem s_348_70 {x1 x2 x3 x4 x5 x6 x7 x8 x9 x10 x11 x12 : Option Value} {w : Value} : mw d 348 Q 70 [some w, x1, x2, x3, x4, x5, x6, x7, x8, x9, x10, x11, x12] (st) h = mv_a w (mw d 348 Q 71 [some w, x1, x2, x3, x4, x5, x6, x7, x8, x9, x10, x11, x12] (w :: st) h) := (mw_at mj_348_70).trans (z_aload_n rfl)
theorem mj_348_71 : mc_P 348 71 = some (.iload 4, 2, 0, 0, 0) := by decide +kernel
theorem s_348_71 {x0 x1 x2 x3 x5 x6 x7 x8 x9 x10 x11 x12 : Option Value} {w : Value} : mw d 348 Q 71 [x0, x1, x2, x3, some w, x5, x6, x7, x8, x9, x10, x11, x12] (st) h = mv_i w (mw d 348 Q 73 [x0, x1, x2, x3, some w, x5, x6, x7, x8, x9, x10, x11, x12] (w :: st) h) := (mw_at mj_348_71).trans (z_iload rfl)
theorem mj_348_73 : mc_P 348 73 = some (.invokevirtual 351, 3, 337, 14, 2) := by decide +kernel
theorem s_348_73 {x0 x1 x2 x3 x4 x5 x6 x7 x8 x9 x10 x11 x12 : Option Value} {o : Nat} {a1 : Value} : mw (d + 1) 348 Q 73 [x0, x1, x2, x3, x4, x5, x6, x7, x8, x9, x10, x11, x12] (a1 :: .ref o :: st) h = (mg h o 14 ∧ mca st 8 ∧ mca [.ref o, a1] 3 ∧ mcall d 337 [.ref o, a1] h (mK (d + 1) 348 Q 76 [x0, x1, x2, x3, x4, x5, x6, x7, x8, x9, x10, x11, x12] st)) := (mw_at mj_348_73).trans ((z_invv (As := [a1]) (by decide) rfl rfl).trans (congrArg (And _) (congrArg (And _) (mC_nl nl_337))))
theorem mj_348_76 : mc_P 348 76 = some (.iload 4, 2, 0, 0, 0) := by decide +kernel
theorem s_348_76 {x0 x1 x2 x3 x5 x6 x7 x8 x9 x10 x11 x12 : Option Value} {w : Value} : mw d 348 Q 76 [x0, x1, x2, x3, some w, x5, x6, x7, x8, x9, x10, x11, x12] (st) h = mv_i w (mw d 348 Q 78 [x0, x1, x2, x3, some w, x5, x6, x7, x8, x9, x10, x11, x12] (w :: st) h) := (mw_at mj_348_76).trans (z_iload rfl)
theorem mj_348_78 : mc_P 348 78 = some (.isub, 1, 0, 0, 0) := by decide +kernel
theorem s_348_78 {x0 x1 x2 x3 x4 x5 x6 x7 x8 x9 x10 x11 x12 : Option Value} {x w : Int32} : mw d 348 Q 78 [x0, x1, x2, x3, x4, x5, x6, x7, x8, x9, x10, x11, x12] (.int w :: .int x :: st) h = mw d 348 Q 79 [x0, x1, x2, x3, x4, x5, x6, x7, x8, x9, x10, x11, x12] (.int (x - w) :: st) h := (mw_at mj_348_78).trans (z_isub)
theorem mj_348_79 : mc_P 348 79 = some (.iconst 2, 1, 0, 0, 0) := by decide +kernel
theorem s_348_79 {x0 x1 x2 x3 x4 x5 x6 x7 x8 x9 x10 x11 x12 : Option Value} : mw d 348 Q 79 [x0, x1, x2, x3, x4, x5, x6, x7, x8, x9, x10, x11, x12] (st) h = mw d 348 Q 80 [x0, x1, x2, x3, x4, x5, x6, x7, x8, x9, x10, x11, x12] (.int 2 :: st) h := (mw_at mj_348_79).trans (z_iconst (by decide))
theorem mj_348_80 : mc_P 348 80 = some (.isub, 1, 0, 0, 0) := by decide +kernel
theorem s_348_80 {x0 x1 x2 x3 x4 x5 x6 x7 x8 x9 x10 x11 x12 : Option Value} {x w : Int32} : mw d 348 Q 80 [x0, x1, x2, x3, x4, x5, x6, x7, x8, x9, x10, x11, x12] (.int w :: .int x :: st) h = mw d 348 Q 81 [x0, x1, x2, x3, x4, x5, x6, x7, x8, x9, x10, x11, x12] (.int (x - w) :: st) h := (mw_at mj_348_80).trans (z_isub)
theorem mj_348_81 : mc_P 348 81 = some (.istore 5, 2, 0, 0, 0) := by decide +kernel
theorem s_348_81 {x0 x1 x2 x3 x4 x5 x6 x7 x8 x9 x10 x11 x12 : Option Value} {w : Int32} : mw d 348 Q 81 [x0, x1, x2, x3, x4, x5, x6, x7, x8, x9, x10, x11, x12] (.int w :: st) h = mw d 348 Q 83 [x0, x1, x2, x3, mk2 x4, some (.int w), x6, x7, x8, x9, x10, x11, x12] (st) h := (mw_at mj_348_81).trans (z_istore (Nat.le_of_ble_eq_true rfl) (me_s1_mk (j := 4) (w := x4) rfl))
theorem mj_348_83 : mc_P 348 83 = some (.iconst 0, 1, 0, 0, 0) := by decide +kernel
theorem s_348_83 {x0 x1 x2 x3 x4 x5 x6 x7 x8 x9 x10 x11 x12 : Option Value} : mw d 348 Q 83 [x0, x1, x2, x3, x4, x5, x6, x7, x8, x9, x10, x11, x12] (st) h = mw d 348 Q 84 [x0, x1, x2, x3, x4, x5, x6, x7, x8, x9, x10, x11, x12] (.int 0 :: st) h := (mw_at mj_348_83).trans (z_iconst (by decide))
theorem mj_348_84 : mc_P 348 84 = some (.istore 6, 2, 0, 0, 0) := by decide +kernel
theorem s_348_84 {x0 x1 x2 x3 x4 x5 x6 x7 x8 x9 x10 x11 x12 : Option Value} {w : Int32} : mw d 348 Q 84 [x0, x1, x2, x3, x4, x5, x6, x7, x8, x9, x10, x11, x12] (.int w :: st) h = mw d 348 Q 86 [x0, x1, x2, x3, x4, mk2 x5, some (.int w), x7, x8, x9, x10, x11, x12] (st) h := (mw_at mj_348_84).trans (z_istore (Nat.le_of_ble_eq_true rfl) (me_s1_mk (j := 5) (w := x5) rfl))
theorem mj_348_86 : mc_P 348 86 = some (.iload_n 3, 1, 0, 0, 0) := by decide +kernel
theorem s_348_86 {x0 x1 x2 x4 x5 x6 x7 x8 x9 x10 x11 x12 : Option Value} {w : Value} : mw d 348 Q 86 [x0, x1, x2, some w, x4, x5, x6, x7, x8, x9, x10, x11, x12] (st) h = mv_i w (mw d 348 Q 87 [x0, x1, x2, some w, x4, x5, x6, x7, x8, x9, x10, x11, x12] (w :: st) h) := (mw_at mj_348_86).trans (z_iload_n rfl)
theorem mj_348_87 : mc_P 348 87 = some (.iconst 1, 1, 0, 0, 0) := by decide +kernel
theorem s_348_87 {x0 x1 x2 x3 x4 x5 x6 x7 x8 x9 x10 x11 x12 : Option Value} : mw d 348 Q 87 [x0, x1, x2, x3, x4, x5, x6, x7, x8, x9, x10, x11, x12] (st) h = mw d 348 Q 88 [x0, x1, x2, x3, x4, x5, x6, x7, x8, x9, x10, x11, x12] (.int 1 :: st) h := (mw_at mj_348_87).trans (z_iconst (by decide))
theorem mj_348_88 : mc_P 348 88 = some (.iadd, 1, 0, 0, 0) := by decide +kernel
theorem s_348_88 {x0 x1 x2 x3 x4 x5 x6 x7 x8 x9 x10 x11 x12 : Option Value} {x w : Int32} : mw d 348 Q 88 [x0, x1, x2, x3, x4, x5, x6, x7, x8, x9, x10, x11, x12] (.int w :: .int x :: st) h = mw d 348 Q 89 [x0, x1, x2, x3, x4, x5, x6, x7, x8, x9, x10, x11, x12] (.int (x + w) :: st) h := (mw_at mj_348_88).trans (z_iadd)
theorem mj_348_89 : mc_P 348 89 = some (.istore 7, 2, 0, 0, 0) := by decide +kernel
theorem s_348_89 {x0 x1 x2 x3 x4 x5 x6 x7 x8 x9 x10 x11 x12 : Option Value} {w : Int32} : mw d 348 Q 89 [x0, x1, x2, x3, x4, x5, x6, x7, x8, x9, x10, x11, x12] (.int w :: st) h = mw d 348 Q 91 [x0, x1, x2, x3, x4, x5, mk2 x6, some (.int w), x8, x9, x10, x11, x12] (st) h := (mw_at mj_348_89).trans (z_istore (Nat.le_of_ble_eq_true rfl) (me_s1_mk (j := 6) (w := x6) rfl))
theorem mj_348_91 : mc_P 348 91 = some (.iload 7, 2, 0, 0, 0) := by decide +kernel
theorem s_348_91 {x0 x1 x2 x3 x4 x5 x6 x8 x9 x10 x11 x12 : Option Value} {w : Value} : mw d 348 Q 91 [x0, x1, x2, x3, x4, x5, x6, some w, x8, x9, x10, x11, x12] (st) h = mv_i w (mw d 348 Q 93 [x0, x1, x2, x3, x4, x5, x6, some w, x8, x9, x10, x11, x12] (w :: st) h) := (mw_at mj_348_91).trans (z_iload rfl)
theorem mj_348_93 : mc_P 348 93 = some (.aload_n 0, 1, 0, 0, 0) := by decide +kernel
theorem s_348_93 {x1 x2 x3 x4 x5 x6 x7 x8 x9 x10 x11 x12 : Option Value} {w : Value} : mw d 348 Q 93 [some w, x1, x2, x3, x4, x5, x6, x7, x8, x9, x10, x11, x12] (st) h = mv_a w (mw d 348 Q 94 [some w, x1, x2, x3, x4, x5, x6, x7, x8, x9, x10, x11, x12] (w :: st) h) := (mw_at mj_348_93).trans (z_aload_n rfl)
theorem mj_348_94 : mc_P 348 94 = some (.iload_n 1, 1, 0, 0, 0) := by decide +kernel
theorem s_348_94 {x0 x2 x3 x4 x5 x6 x7 x8 x9 x10 x11 x12 : Option Value} {w : Value} : mw d 348 Q 94 [x0, some w, x2, x3, x4, x5, x6, x7, x8, x9, x10, x11, x12] (st) h = mv_i w (mw d 348 Q 95 [x0, some w, x2, x3, x4, x5, x6, x7, x8, x9, x10, x11, x12] (w :: st) h) := (mw_at mj_348_94).trans (z_iload_n rfl)
theorem mj_348_95 : mc_P 348 95 = some (.invokevirtual 348, 3, 333, 14, 2) := by decide +kernel
theorem s_348_95 {x0 x1 x2 x3 x4 x5 x6 x7 x8 x9 x10 x11 x12 : Option Value} {o : Nat} {a1 : Value} : mw (d + 1) 348 Q 95 [x0, x1, x2, x3, x4, x5, x6, x7, x8, x9, x10, x11, x12] (a1 :: .ref o :: st) h = (mg h o 14 ∧ mca st 8 ∧ mca [.ref o, a1] 2 ∧ mcall d 333 [.ref o, a1] h (mK (d + 1) 348 Q 98 [x0, x1, x2, x3, x4, x5, x6, x7, x8, x9, x10, x11, x12] st)) := (mw_at mj_348_95).trans ((z_invv (As := [a1]) (by decide) rfl rfl).trans (congrArg (And _) (congrArg (And _) (mC_nl nl_333))))
theorem mj_348_98 : mc_P 348 98 = some (.if_icmp .ge 17, 3, 0, 0, 0) := by decide +kernel
theorem s_348_98 {x0 x1 x2 x3 x4 x5 x6 x7 x8 x9 x10 x11 x12 : Option Value} {x w : Int32} : mw d 348 Q 98 [x0, x1, x2, x3, x4, x5, x6, x7, x8, x9, x10, x11, x12] (.int w :: .int x :: st) h = mB (w ≤ x) (mw d 348 Q) 115 101 [x0, x1, x2, x3, x4, x5, x6, x7, x8, x9, x10, x11, x12] st h := (mw_at mj_348_98).trans (z_icmp_ge (by decide) rfl)
theorem mj_348_101 : mc_P 348 101 = some (.iinc 6 1, 3, 0, 0, 0) := by decide +kernel
theorem s_348_101 {x0 x1 x2 x3 x4 x5 x7 x8 x9 x10 x11 x12 : Option Value} {w : Int32} : mw d 348 Q 101 [x0, x1, x2, x3, x4, x5, some (.int w), x7, x8, x9, x10, x11, x12] (st) h = mw d 348 Q 104 [x0, x1, x2, x3, x4, mk2 x5, some (.int (w + 1)), x7, x8, x9, x10, x11, x12] (st) h := (mw_at mj_348_101).trans (z_iinc rfl (Nat.le_of_ble_eq_true rfl) (by decide) (me_s1_mk (j := 5) (w := x5) rfl))
theorem mj_348_104 : mc_P 348 104 = some (.aload_n 0, 1, 0, 0, 0) := by decide +kernel
theorem s_348_104 {x1 x2 x3 x4 x5 x6 x7 x8 x9 x10 x11 x12 : Option Value} {w : Value} : mw d 348 Q 104 [some w, x1, x2, x3, x4, x5, x6, x7, x8, x9, x10, x11, x12] (st) h = mv_a w (mw d 348 Q 105 [some w, x1, x2, x3, x4, x5, x6, x7, x8, x9, x10, x11, x12] (w :: st) h) := (mw_at mj_348_104).trans (z_aload_n rfl)
theorem mj_348_105 : mc_P 348 105 = some (.iload 7, 2, 0, 0, 0) := by decide +kernel
theorem s_348_105 {x0 x1 x2 x3 x4 x5 x6 x8 x9 x10 x11 x12 : Option Value} {w : Value} : mw d 348 Q 105 [x0, x1, x2, x3, x4, x5, x6, some w, x8, x9, x10, x11, x12] (st) h = mv_i w (mw d 348 Q 107 [x0, x1, x2, x3, x4, x5, x6, some w, x8, x9, x10, x11, x12] (w :: st) h) := (mw_at mj_348_105).trans (z_iload rfl)
theorem mj_348_107 : mc_P 348 107 = some (.invokevirtual 348, 3, 333, 14, 2) := by decide +kernel
theorem s_348_107 {x0 x1 x2 x3 x4 x5 x6 x7 x8 x9 x10 x11 x12 : Option Value} {o : Nat} {a1 : Value} : mw (d + 1) 348 Q 107 [x0, x1, x2, x3, x4, x5, x6, x7, x8, x9, x10, x11, x12] (a1 :: .ref o :: st) h = (mg h o 14 ∧ mca st 8 ∧ mca [.ref o, a1] 2 ∧ mcall d 333 [.ref o, a1] h (mK (d + 1) 348 Q 110 [x0, x1, x2, x3, x4, x5, x6, x7, x8, x9, x10, x11, x12] st)) := (mw_at mj_348_107).trans ((z_invv (As := [a1]) (by decide) rfl rfl).trans (congrArg (And _) (congrArg (And _) (mC_nl nl_333))))
theorem mj_348_110 : mc_P 348 110 = some (.istore 7, 2, 0, 0, 0) := by decide +kernel
theorem s_348_110 {x0 x1 x2 x3 x4 x5 x6 x7 x8 x9 x10 x11 x12 : Option Value} {w : Int32} : mw d 348 Q 110 [x0, x1, x2, x3, x4, x5, x6, x7, x8, x9, x10, x11, x12] (.int w :: st) h = mw d 348 Q 112 [x0, x1, x2, x3, x4, x5, mk2 x6, some (.int w), x8, x9, x10, x11, x12] (st) h := (mw_at mj_348_110).trans (z_istore (Nat.le_of_ble_eq_true rfl) (me_s1_mk (j := 6) (w := x6) rfl))
theorem mj_348_112 : mc_P 348 112 = some (.goto (-21), 3, 0, 0, 0) := by decide +kernel
theorem s_348_112 {x0 x1 x2 x3 x4 x5 x6 x7 x8 x9 x10 x11 x12 : Option Value} : mw d 348 Q 112 [x0, x1, x2, x3, x4, x5, x6, x7, x8, x9, x10, x11, x12] (st) h = mw d 348 Q 91 [x0, x1, x2, x3, x4, x5, x6, x7, x8, x9, x10, x11, x12] (st) h := (mw_at mj_348_112).trans (z_goto (by decide))
theorem mj_348_115 : mc_P 348 115 = some (.iload 6, 2, 0, 0, 0) := by decide +kernel
theorem s_348_115 {x0 x1 x2 x3 x4 x5 x7 x8 x9 x10 x11 x12 : Option Value} {w : Value} : mw d 348 Q 115 [x0, x1, x2, x3, x4, x5, some w, x7, x8, x9, x10, x11, x12] (st) h = mv_i w (mw d 348 Q 117 [x0, x1, x2, x3, x4, x5, some w, x7, x8, x9, x10, x11, x12] (w :: st) h) := (mw_at mj_348_115).trans (z_iload rfl)
theorem mj_348_117 : mc_P 348 117 = some (.iload 5, 2, 0, 0, 0) := by decide +kernel
theorem s_348_117 {x0 x1 x2 x3 x4 x6 x7 x8 x9 x10 x11 x12 : Option Value} {w : Value} : mw d 348 Q 117 [x0, x1, x2, x3, x4, some w, x6, x7, x8, x9, x10, x11, x12] (st) h = mv_i w (mw d 348 Q 119 [x0, x1, x2, x3, x4, some w, x6, x7, x8, x9, x10, x11, x12] (w :: st) h) := (mw_at mj_348_117).trans (z_iload rfl)
theorem mj_348_119 : mc_P 348 119 = some (.if_icmp .eq 11, 3, 0, 0, 0) := by decide +kernel
theorem s_348_119 {x0 x1 x2 x3 x4 x5 x6 x7 x8 x9 x10 x11 x12 : Option Value} {x w : Int32} : mw d 348 Q 119 [x0, x1, x2, x3, x4, x5, x6, x7, x8, x9, x10, x11, x12] (.int w :: .int x :: st) h = mB (x = w) (mw d 348 Q) 130 122 [x0, x1, x2, x3, x4, x5, x6, x7, x8, x9, x10, x11, x12] st h := (mw_at mj_348_119).trans (z_icmp_eq (by decide) rfl)
theorem mj_348_122 : mc_P 348 122 = some (.aload_n 0, 1, 0, 0, 0) := by decide +kernel
theorem s_348_122 {x1 x2 x3 x4 x5 x6 x7 x8 x9 x10 x11 x12 : Option Value} {w : Value} : mw d 348 Q 122 [some w, x1, x2, x3, x4, x5, x6, x7, x8, x9, x10, x11, x12] (st) h = mv_a w (mw d 348 Q 123 [some w, x1, x2, x3, x4, x5, x6, x7, x8, x9, x10, x11, x12] (w :: st) h) := (mw_at mj_348_122).trans (z_aload_n rfl)
theorem mj_348_123 : mc_P 348 123 = some (.iconst 5, 1, 0, 0, 0) := by decide +kernel
theorem s_348_123 {x0 x1 x2 x3 x4 x5 x6 x7 x8 x9 x10 x11 x12 : Option Value} : mw d 348 Q 123 [x0, x1, x2, x3, x4, x5, x6, x7, x8, x9, x10, x11, x12] (st) h = mw d 348 Q 124 [x0, x1, x2, x3, x4, x5, x6, x7, x8, x9, x10, x11, x12] (.int 5 :: st) h := (mw_at mj_348_123).trans (z_iconst (by decide))
theorem mj_348_124 : mc_P 348 124 = some (.iload_n 3, 1, 0, 0, 0) := by decide +kernel
theorem s_348_124 {x0 x1 x2 x4 x5 x6 x7 x8 x9 x10 x11 x12 : Option Value} {w : Value} : mw d 348 Q 124 [x0, x1, x2, some w, x4, x5, x6, x7, x8, x9, x10, x11, x12] (st) h = mv_i w (mw d 348 Q 125 [x0, x1, x2, some w, x4, x5, x6, x7, x8, x9, x10, x11, x12] (w :: st) h) := (mw_at mj_348_124).trans (z_iload_n rfl)
theorem mj_348_125 : mc_P 348 125 = some (.invokevirtual 366, 3, 335, 14, 3) := by decide +kernel
theorem s_348_125 {x0 x1 x2 x3 x4 x5 x6 x7 x8 x9 x10 x11 x12 : Option Value} {o : Nat} {a1 a2 : Value} : mw (d + 1) 348 Q 125 [x0, x1, x2, x3, x4, x5, x6, x7, x8, x9, x10, x11, x12] (a2 :: a1 :: .ref o :: st) h = (mg h o 14 ∧ mca st 8 ∧ mca [.ref o, a1, a2] 3 ∧ mcall d 335 [.ref o, a1, a2] h (mK (d + 1) 348 Q 128 [x0, x1, x2, x3, x4, x5, x6, x7, x8, x9, x10, x11, x12] st)) := (mw_at mj_348_125).trans ((z_invv (As := [a1, a2]) (by decide) rfl rfl).trans (congrArg (And _) (congrArg (And _) (mC_nl nl_335))))
theorem mj_348_128 : mc_P 348 128 = some (.pop, 1, 0, 0, 0) := by decide +kernel
theorem s_348_128 {x0 x1 x2 x3 x4 x5 x6 x7 x8 x9 x10 x11 x12 : Option Value} {w : Value} : mw d 348 Q 128 [x0, x1, x2, x3, x4, x5, x6, x7, x8, x9, x10, x11, x12] (w :: st) h = (w.category = 1 ∧ mw d 348 Q 129 [x0, x1, x2, x3, x4, x5, x6, x7, x8, x9, x10, x11, x12] (st) h) := (mw_at mj_348_128).trans (z_pop)
theorem mj_348_129 : mc_P 348 129 = some (.return_, 1, 0, 0, 0) := by decide +kernel
theorem s_348_129 {x0 x1 x2 x3 x4 x5 x6 x7 x8 x9 x10 x11 x12 : Option Value} : mw d 348 Q 129 [x0, x1, x2, x3, x4, x5, x6, x7, x8, x9, x10, x11, x12] ([]) h = Q none h := (mw_at mj_348_129).trans (z_vret)
theorem mj_348_130 : mc_P 348 130 = some (.aload_n 0, 1, 0, 0, 0) := by decide +kernel
theorem s_348_130 {x1 x2 x3 x4 x5 x6 x7 x8 x9 x10 x11 x12 : Option Value} {w : Value} : mw d 348 Q 130 [some w, x1, x2, x3, x4, x5, x6, x7, x8, x9, x10, x11, x12] (st) h = mv_a w (mw d 348 Q 131 [some w, x1, x2, x3, x4, x5, x6, x7, x8, x9, x10, x11, x12] (w :: st) h) := (mw_at mj_348_130).trans (z_aload_n rfl)
theorem mj_348_131 : mc_P 348 131 = some (.getfield 48, 3, 14, 19, 0) := by decide +kernel
theorem s_348_131 {x0 x1 x2 x3 x4 x5 x6 x7 x8 x9 x10 x11 x12 : Option Value} {o : Nat} : mw d 348 Q 131 [x0, x1, x2, x3, x4, x5, x6, x7, x8, x9, x10, x11, x12] (.ref o :: st) h = (mg h o 14 ∧ mw d 348 Q 134 [x0, x1, x2, x3, x4, x5, x6, x7, x8, x9, x10, x11, x12] (va_rf (mh_r h o 19) :: st) h) := (mw_at mj_348_131).trans (z_getr (by decide) (by decide) rfl)
theorem mj_348_134 : mc_P 348 134 = some (.iload_n 1, 1, 0, 0, 0) := by decide +kernel
theorem s_348_134 {x0 x2 x3 x4 x5 x6 x7 x8 x9 x10 x11 x12 : Option Value} {w : Value} : mw d 348 Q 134 [x0, some w, x2, x3, x4, x5, x6, x7, x8, x9, x10, x11, x12] (st) h = mv_i w (mw d 348 Q 135 [x0, some w, x2, x3, x4, x5, x6, x7, x8, x9, x10, x11, x12] (w :: st) h) := (mw_at mj_348_134).trans (z_iload_n rfl)
theorem mj_348_135 : mc_P 348 135 = some (.iconst 1, 1, 0, 0, 0) := by decide +kernel
theorem s_348_135 {x0 x1 x2 x3 x4 x5 x6 x7 x8 x9 x10 x11 x12 : Option Value} : mw d 348 Q 135 [x0, x1, x2, x3, x4, x5, x6, x7, x8, x9, x10, x11, x12] (st) h = mw d 348 Q 136 [x0, x1, x2, x3, x4, x5, x6, x7, x8, x9, x10, x11, x12] (.int 1 :: st) h := (mw_at mj_348_135).trans (z_iconst (by decide))
theorem mj_348_136 : mc_P 348 136 = some (.iadd, 1, 0, 0, 0) := by decide +kernel
theorem s_348_136 {x0 x1 x2 x3 x4 x5 x6 x7 x8 x9 x10 x11 x12 : Option Value} {x w : Int32} : mw d 348 Q 136 [x0, x1, x2, x3, x4, x5, x6, x7, x8, x9, x10, x11, x12] (.int w :: .int x :: st) h = mw d 348 Q 137 [x0, x1, x2, x3, x4, x5, x6, x7, x8, x9, x10, x11, x12] (.int (x + w) :: st) h := (mw_at mj_348_136).trans (z_iadd)
theorem mj_348_137 : mc_P 348 137 = some (.baload, 1, 0, 0, 0) := by decide +kernel
theorem s_348_137 {x0 x1 x2 x3 x4 x5 x6 x7 x8 x9 x10 x11 x12 : Option Value} {o : Nat} {i : Int32} : mw d 348 Q 137 [x0, x1, x2, x3, x4, x5, x6, x7, x8, x9, x10, x11, x12] (.int i :: .ref o :: st) h = (mgb h o ∧ mx i (mh_l h o) ∧ mw d 348 Q 138 [x0, x1, x2, x3, x4, x5, x6, x7, x8, x9, x10, x11, x12] (.int (mh_i h o i.toNatClampNeg) :: st) h) := (mw_at mj_348_137).trans (z_bald)
theorem mj_348_138 : mc_P 348 138 = some (.bipush 13, 2, 0, 0, 0) := by decide +kernel
theorem s_348_138 {x0 x1 x2 x3 x4 x5 x6 x7 x8 x9 x10 x11 x12 : Option Value} : mw d 348 Q 138 [x0, x1, x2, x3, x4, x5, x6, x7, x8, x9, x10, x11, x12] (st) h = mw d 348 Q 140 [x0, x1, x2, x3, x4, x5, x6, x7, x8, x9, x10, x11, x12] (.int 13 :: st) h := (mw_at mj_348_138).trans (z_bipush (by decide))
theorem mj_348_140 : mc_P 348 140 = some (.if_icmp .ne 21, 3, 0, 0, 0) := by decide +kernel
theorem s_348_140 {x0 x1 x2 x3 x4 x5 x6 x7 x8 x9 x10 x11 x12 : Option Value} {x w : Int32} : mw d 348 Q 140 [x0, x1, x2, x3, x4, x5, x6, x7, x8, x9, x10, x11, x12] (.int w :: .int x :: st) h = mB (¬ x = w) (mw d 348 Q) 161 143 [x0, x1, x2, x3, x4, x5, x6, x7, x8, x9, x10, x11, x12] st h := (mw_at mj_348_140).trans (z_icmp_ne (by decide) rfl)
theorem mj_348_143 : mc_P 348 143 = some (.aload_n 0, 1, 0, 0, 0) := by decide +kernel
theorem s_348_143 {x1 x2 x3 x4 x5 x6 x7 x8 x9 x10 x11 x12 : Option Value} {w : Value} : mw d 348 Q 143 [some w, x1, x2, x3, x4, x5, x6, x7, x8, x9, x10, x11, x12] (st) h = mv_a w (mw d 348 Q 144 [some w, x1, x2, x3, x4, x5, x6, x7, x8, x9, x10, x11, x12] (w :: st) h) := (mw_at mj_348_143).trans (z_aload_n rfl)
theorem mj_348_144 : mc_P 348 144 = some (.iload 4, 2, 0, 0, 0) := by decide +kernel
theorem s_348_144 {x0 x1 x2 x3 x5 x6 x7 x8 x9 x10 x11 x12 : Option Value} {w : Value} : mw d 348 Q 144 [x0, x1, x2, x3, some w, x5, x6, x7, x8, x9, x10, x11, x12] (st) h = mv_i w (mw d 348 Q 146 [x0, x1, x2, x3, some w, x5, x6, x7, x8, x9, x10, x11, x12] (w :: st) h) := (mw_at mj_348_144).trans (z_iload rfl)
theorem mj_348_146 : mc_P 348 146 = some (.invokevirtual 409, 3, 338, 14, 2) := by decide +kernel
theorem s_348_146 {x0 x1 x2 x3 x4 x5 x6 x7 x8 x9 x10 x11 x12 : Option Value} {o : Nat} {a1 : Value} : mw (d + 1) 348 Q 146 [x0, x1, x2, x3, x4, x5, x6, x7, x8, x9, x10, x11, x12] (a1 :: .ref o :: st) h = (mg h o 14 ∧ mca st 8 ∧ mca [.ref o, a1] 3 ∧ mcall d 338 [.ref o, a1] h (mK (d + 1) 348 Q 149 [x0, x1, x2, x3, x4, x5, x6, x7, x8, x9, x10, x11, x12] st)) := (mw_at mj_348_146).trans ((z_invv (As := [a1]) (by decide) rfl rfl).trans (congrArg (And _) (congrArg (And _) (mC_nl nl_338))))
theorem mj_348_149 : mc_P 348 149 = some (.ifCond .ne 12, 3, 0, 0, 0) := by decide +kernel
theorem s_348_149 {x0 x1 x2 x3 x4 x5 x6 x7 x8 x9 x10 x11 x12 : Option Value} {x : Int32} : mw d 348 Q 149 [x0, x1, x2, x3, x4, x5, x6, x7, x8, x9, x10, x11, x12] (.int x :: st) h = mB (¬ x = 0) (mw d 348 Q) 161 152 [x0, x1, x2, x3, x4, x5, x6, x7, x8, x9, x10, x11, x12] st h := (mw_at mj_348_149).trans (z_if_ne (by decide) rfl)
theorem mj_348_152 : mc_P 348 152 = some (.aload_n 0, 1, 0, 0, 0) := by decide +kernel
theorem s_348_152 {x1 x2 x3 x4 x5 x6 x7 x8 x9 x10 x11 x12 : Option Value} {w : Value} : mw d 348 Q 152 [some w, x1, x2, x3, x4, x5, x6, x7, x8, x9, x10, x11, x12] (st) h = mv_a w (mw d 348 Q 153 [some w, x1, x2, x3, x4, x5, x6, x7, x8, x9, x10, x11, x12] (w :: st) h) := (mw_at mj_348_152).trans (z_aload_n rfl)
theorem mj_348_153 : mc_P 348 153 = some (.bipush 6, 2, 0, 0, 0) := by decide +kernel
theorem s_348_153 {x0 x1 x2 x3 x4 x5 x6 x7 x8 x9 x10 x11 x12 : Option Value} : mw d 348 Q 153 [x0, x1, x2, x3, x4, x5, x6, x7, x8, x9, x10, x11, x12] (st) h = mw d 348 Q 155 [x0, x1, x2, x3, x4, x5, x6, x7, x8, x9, x10, x11, x12] (.int 6 :: st) h := (mw_at mj_348_153).trans (z_bipush (by decide))
theorem mj_348_155 : mc_P 348 155 = some (.iload_n 3, 1, 0, 0, 0) := by decide +kernel
theorem s_348_155 {x0 x1 x2 x4 x5 x6 x7 x8 x9 x10 x11 x12 : Option Value} {w : Value} : mw d 348 Q 155 [x0, x1, x2, some w, x4, x5, x6, x7, x8, x9, x10, x11, x12] (st) h = mv_i w (mw d 348 Q 156 [x0, x1, x2, some w, x4, x5, x6, x7, x8, x9, x10, x11, x12] (w :: st) h) := (mw_at mj_348_155).trans (z_iload_n rfl)
theorem mj_348_156 : mc_P 348 156 = some (.invokevirtual 366, 3, 335, 14, 3) := by decide +kernel
theorem s_348_156 {x0 x1 x2 x3 x4 x5 x6 x7 x8 x9 x10 x11 x12 : Option Value} {o : Nat} {a1 a2 : Value} : mw (d + 1) 348 Q 156 [x0, x1, x2, x3, x4, x5, x6, x7, x8, x9, x10, x11, x12] (a2 :: a1 :: .ref o :: st) h = (mg h o 14 ∧ mca st 8 ∧ mca [.ref o, a1, a2] 3 ∧ mcall d 335 [.ref o, a1, a2] h (mK (d + 1) 348 Q 159 [x0, x1, x2, x3, x4, x5, x6, x7, x8, x9, x10, x11, x12] st)) := (mw_at mj_348_156).trans ((z_invv (As := [a1, a2]) (by decide) rfl rfl).trans (congrArg (And _) (congrArg (And _) (mC_nl nl_335))))
theorem mj_348_159 : mc_P 348 159 = some (.pop, 1, 0, 0, 0) := by decide +kernel
theorem s_348_159 {x0 x1 x2 x3 x4 x5 x6 x7 x8 x9 x10 x11 x12 : Option Value} {w : Value} : mw d 348 Q 159 [x0, x1, x2, x3, x4, x5, x6, x7, x8, x9, x10, x11, x12] (w :: st) h = (w.category = 1 ∧ mw d 348 Q 160 [x0, x1, x2, x3, x4, x5, x6, x7, x8, x9, x10, x11, x12] (st) h) := (mw_at mj_348_159).trans (z_pop)
theorem mj_348_160 : mc_P 348 160 = some (.return_, 1, 0, 0, 0) := by decide +kernel
theorem s_348_160 {x0 x1 x2 x3 x4 x5 x6 x7 x8 x9 x10 x11 x12 : Option Value} : mw d 348 Q 160 [x0, x1, x2, x3, x4, x5, x6, x7, x8, x9, x10, x11, x12] ([]) h = Q none h := (mw_at mj_348_160).trans (z_vret)
theorem mj_348_161 : mc_P 348 161 = some (.iload_n 3, 1, 0, 0, 0) := by decide +kernel
theorem s_348_161 {x0 x1 x2 x4 x5 x6 x7 x8 x9 x10 x11 x12 : Option Value} {w : Value} : mw d 348 Q 161 [x0, x1, x2, some w, x4, x5, x6, x7, x8, x9, x10, x11, x12] (st) h = mv_i w (mw d 348 Q 162 [x0, x1, x2, some w, x4, x5, x6, x7, x8, x9, x10, x11, x12] (w :: st) h) := (mw_at mj_348_161).trans (z_iload_n rfl)
theorem mj_348_162 : mc_P 348 162 = some (.iconst 1, 1, 0, 0, 0) := by decide +kernel
theorem s_348_162 {x0 x1 x2 x3 x4 x5 x6 x7 x8 x9 x10 x11 x12 : Option Value} : mw d 348 Q 162 [x0, x1, x2, x3, x4, x5, x6, x7, x8, x9, x10, x11, x12] (st) h = mw d 348 Q 163 [x0, x1, x2, x3, x4, x5, x6, x7, x8, x9, x10, x11, x12] (.int 1 :: st) h := (mw_at mj_348_162).trans (z_iconst (by decide))
theorem mj_348_163 : mc_P 348 163 = some (.iadd, 1, 0, 0, 0) := by decide +kernel
theorem s_348_163 {x0 x1 x2 x3 x4 x5 x6 x7 x8 x9 x10 x11 x12 : Option Value} {x w : Int32} : mw d 348 Q 163 [x0, x1, x2, x3, x4, x5, x6, x7, x8, x9, x10, x11, x12] (.int w :: .int x :: st) h = mw d 348 Q 164 [x0, x1, x2, x3, x4, x5, x6, x7, x8, x9, x10, x11, x12] (.int (x + w) :: st) h := (mw_at mj_348_163).trans (z_iadd)
theorem mj_348_164 : mc_P 348 164 = some (.istore 7, 2, 0, 0, 0) := by decide +kernel
theorem s_348_164 {x0 x1 x2 x3 x4 x5 x6 x7 x8 x9 x10 x11 x12 : Option Value} {w : Int32} : mw d 348 Q 164 [x0, x1, x2, x3, x4, x5, x6, x7, x8, x9, x10, x11, x12] (.int w :: st) h = mw d 348 Q 166 [x0, x1, x2, x3, x4, x5, mk2 x6, some (.int w), x8, x9, x10, x11, x12] (st) h := (mw_at mj_348_164).trans (z_istore (Nat.le_of_ble_eq_true rfl) (me_s1_mk (j := 6) (w := x6) rfl))
theorem mj_348_166 : mc_P 348 166 = some (.iload 7, 2, 0, 0, 0) := by decide +kernel
theorem s_348_166 {x0 x1 x2 x3 x4 x5 x6 x8 x9 x10 x11 x12 : Option Value} {w : Value} : mw d 348 Q 166 [x0, x1, x2, x3, x4, x5, x6, some w, x8, x9, x10, x11, x12] (st) h = mv_i w (mw d 348 Q 168 [x0, x1, x2, x3, x4, x5, x6, some w, x8, x9, x10, x11, x12] (w :: st) h) := (mw_at mj_348_166).trans (z_iload rfl)
theorem mj_348_168 : mc_P 348 168 = some (.aload_n 0, 1, 0, 0, 0) := by decide +kernel
theorem s_348_168 {x1 x2 x3 x4 x5 x6 x7 x8 x9 x10 x11 x12 : Option Value} {w : Value} : mw d 348 Q 168 [some w, x1, x2, x3, x4, x5, x6, x7, x8, x9, x10, x11, x12] (st) h = mv_a w (mw d 348 Q 169 [some w, x1, x2, x3, x4, x5, x6, x7, x8, x9, x10, x11, x12] (w :: st) h) := (mw_at mj_348_168).trans (z_aload_n rfl)
theorem mj_348_169 : mc_P 348 169 = some (.iload_n 1, 1, 0, 0, 0) := by decide +kernel
theorem s_348_169 {x0 x2 x3 x4 x5 x6 x7 x8 x9 x10 x11 x12 : Option Value} {w : Value} : mw d 348 Q 169 [x0, some w, x2, x3, x4, x5, x6, x7, x8, x9, x10, x11, x12] (st) h = mv_i w (mw d 348 Q 170 [x0, some w, x2, x3, x4, x5, x6, x7, x8, x9, x10, x11, x12] (w :: st) h) := (mw_at mj_348_169).trans (z_iload_n rfl)
theorem mj_348_170 : mc_P 348 170 = some (.invokevirtual 348, 3, 333, 14, 2) := by decide +kernel
theorem s_348_170 {x0 x1 x2 x3 x4 x5 x6 x7 x8 x9 x10 x11 x12 : Option Value} {o : Nat} {a1 : Value} : mw (d + 1) 348 Q 170 [x0, x1, x2, x3, x4, x5, x6, x7, x8, x9, x10, x11, x12] (a1 :: .ref o :: st) h = (mg h o 14 ∧ mca st 8 ∧ mca [.ref o, a1] 2 ∧ mcall d 333 [.ref o, a1] h (mK (d + 1) 348 Q 173 [x0, x1, x2, x3, x4, x5, x6, x7, x8, x9, x10, x11, x12] st)) := (mw_at mj_348_170).trans ((z_invv (As := [a1]) (by decide) rfl rfl).trans (congrArg (And _) (congrArg (And _) (mC_nl nl_333))))
theorem mj_348_173 : mc_P 348 173 = some (.if_icmp .ge 24, 3, 0, 0, 0) := by decide +kernel
theorem s_348_173 {x0 x1 x2 x3 x4 x5 x6 x7 x8 x9 x10 x11 x12 : Option Value} {x w : Int32} : mw d 348 Q 173 [x0, x1, x2, x3, x4, x5, x6, x7, x8, x9, x10, x11, x12] (.int w :: .int x :: st) h = mB (w ≤ x) (mw d 348 Q) 197 176 [x0, x1, x2, x3, x4, x5, x6, x7, x8, x9, x10, x11, x12] st h := (mw_at mj_348_173).trans (z_icmp_ge (by decide) rfl)
theorem mj_348_176 : mc_P 348 176 = some (.aload_n 0, 1, 0, 0, 0) := by decide +kernel
theorem s_348_176 {x1 x2 x3 x4 x5 x6 x7 x8 x9 x10 x11 x12 : Option Value} {w : Value} : mw d 348 Q 176 [some w, x1, x2, x3, x4, x5, x6, x7, x8, x9, x10, x11, x12] (st) h = mv_a w (mw d 348 Q 177 [some w, x1, x2, x3, x4, x5, x6, x7, x8, x9, x10, x11, x12] (w :: st) h) := (mw_at mj_348_176).trans (z_aload_n rfl)
theorem mj_348_177 : mc_P 348 177 = some (.iload 7, 2, 0, 0, 0) := by decide +kernel
theorem s_348_177 {x0 x1 x2 x3 x4 x5 x6 x8 x9 x10 x11 x12 : Option Value} {w : Value} : mw d 348 Q 177 [x0, x1, x2, x3, x4, x5, x6, some w, x8, x9, x10, x11, x12] (st) h = mv_i w (mw d 348 Q 179 [x0, x1, x2, x3, x4, x5, x6, some w, x8, x9, x10, x11, x12] (w :: st) h) := (mw_at mj_348_177).trans (z_iload rfl)
theorem mj_348_179 : mc_P 348 179 = some (.invokevirtual 394, 3, 342, 14, 2) := by decide +kernel
theorem s_348_179 {x0 x1 x2 x3 x4 x5 x6 x7 x8 x9 x10 x11 x12 : Option Value} {o : Nat} {a1 : Value} : mw (d + 1) 348 Q 179 [x0, x1, x2, x3, x4, x5, x6, x7, x8, x9, x10, x11, x12] (a1 :: .ref o :: st) h = (mg h o 14 ∧ mca st 8 ∧ mca [.ref o, a1] 4 ∧ mcall d 342 [.ref o, a1] h (mK (d + 1) 348 Q 182 [x0, x1, x2, x3, x4, x5, x6, x7, x8, x9, x10, x11, x12] st)) := (mw_at mj_348_179).trans ((z_invv (As := [a1]) (by decide) rfl rfl).trans (congrArg (And _) (congrArg (And _) (mC_nl nl_342))))
theorem mj_348_182 : mc_P 348 182 = some (.ifCond .ne 4, 3, 0, 0, 0) := by decide +kernel
theorem s_348_182 {x0 x1 x2 x3 x4 x5 x6 x7 x8 x9 x10 x11 x12 : Option Value} {x : Int32} : mw d 348 Q 182 [x0, x1, x2, x3, x4, x5, x6, x7, x8, x9, x10, x11, x12] (.int x :: st) h = mB (¬ x = 0) (mw d 348 Q) 186 185 [x0, x1, x2, x3, x4, x5, x6, x7, x8, x9, x10, x11, x12] st h := (mw_at mj_348_182).trans (z_if_ne (by decide) rfl)
theorem mj_348_185 : mc_P 348 185 = some (.return_, 1, 0, 0, 0) := by decide +kernel
theorem s_348_185 {x0 x1 x2 x3 x4 x5 x6 x7 x8 x9 x10 x11 x12 : Option Value} : mw d 348 Q 185 [x0, x1, x2, x3, x4, x5, x6, x7, x8, x9, x10, x11, x12] ([]) h = Q none h := (mw_at mj_348_185).trans (z_vret)
theorem mj_348_186 : mc_P 348 186 = some (.aload_n 0, 1, 0, 0, 0) := by decide +kernel
theorem s_348_186 {x1 x2 x3 x4 x5 x6 x7 x8 x9 x10 x11 x12 : Option Value} {w : Value} : mw d 348 Q 186 [some w, x1, x2, x3, x4, x5, x6, x7, x8, x9, x10, x11, x12] (st) h = mv_a w (mw d 348 Q 187 [some w, x1, x2, x3, x4, x5, x6, x7, x8, x9, x10, x11, x12] (w :: st) h) := (mw_at mj_348_186).trans (z_aload_n rfl)
theorem mj_348_187 : mc_P 348 187 = some (.iload 7, 2, 0, 0, 0) := by decide +kernel
theorem s_348_187 {x0 x1 x2 x3 x4 x5 x6 x8 x9 x10 x11 x12 : Option Value} {w : Value} : mw d 348 Q 187 [x0, x1, x2, x3, x4, x5, x6, some w, x8, x9, x10, x11, x12] (st) h = mv_i w (mw d 348 Q 189 [x0, x1, x2, x3, x4, x5, x6, some w, x8, x9, x10, x11, x12] (w :: st) h) := (mw_at mj_348_187).trans (z_iload rfl)
theorem mj_348_189 : mc_P 348 189 = some (.invokevirtual 348, 3, 333, 14, 2) := by decide +kernel
theorem s_348_189 {x0 x1 x2 x3 x4 x5 x6 x7 x8 x9 x10 x11 x12 : Option Value} {o : Nat} {a1 : Value} : mw (d + 1) 348 Q 189 [x0, x1, x2, x3, x4, x5, x6, x7, x8, x9, x10, x11, x12] (a1 :: .ref o :: st) h = (mg h o 14 ∧ mca st 8 ∧ mca [.ref o, a1] 2 ∧ mcall d 333 [.ref o, a1] h (mK (d + 1) 348 Q 192 [x0, x1, x2, x3, x4, x5, x6, x7, x8, x9, x10, x11, x12] st)) := (mw_at mj_348_189).trans ((z_invv (As := [a1]) (by decide) rfl rfl).trans (congrArg (And _) (congrArg (And _) (mC_nl nl_333))))
theorem mj_348_192 : mc_P 348 192 = some (.istore 7, 2, 0, 0, 0) := by decide +kernel
theorem s_348_192 {x0 x1 x2 x3 x4 x5 x6 x7 x8 x9 x10 x11 x12 : Option Value} {w : Int32} : mw d 348 Q 192 [x0, x1, x2, x3, x4, x5, x6, x7, x8, x9, x10, x11, x12] (.int w :: st) h = mw d 348 Q 194 [x0, x1, x2, x3, x4, x5, mk2 x6, some (.int w), x8, x9, x10, x11, x12] (st) h := (mw_at mj_348_192).trans (z_istore (Nat.le_of_ble_eq_true rfl) (me_s1_mk (j := 6) (w := x6) rfl))
theorem mj_348_194 : mc_P 348 194 = some (.goto (-28), 3, 0, 0, 0) := by decide +kernel
theorem s_348_194 {x0 x1 x2 x3 x4 x5 x6 x7 x8 x9 x10 x11 x12 : Option Value} : mw d 348 Q 194 [x0, x1, x2, x3, x4, x5, x6, x7, x8, x9, x10, x11, x12] (st) h = mw d 348 Q 166 [x0, x1, x2, x3, x4, x5, x6, x7, x8, x9, x10, x11, x12] (st) h := (mw_at mj_348_194).trans (z_goto (by decide))
theorem mj_348_197 : mc_P 348 197 = some (.aload_n 0, 1, 0, 0, 0) := by decide +kernel
theorem s_348_197 {x1 x2 x3 x4 x5 x6 x7 x8 x9 x10 x11 x12 : Option Value} {w : Value} : mw d 348 Q 197 [some w, x1, x2, x3, x4, x5, x6, x7, x8, x9, x10, x11, x12] (st) h = mv_a w (mw d 348 Q 198 [some w, x1, x2, x3, x4, x5, x6, x7, x8, x9, x10, x11, x12] (w :: st) h) := (mw_at mj_348_197).trans (z_aload_n rfl)
theorem mj_348_198 : mc_P 348 198 = some (.getfield 357, 3, 14, 42, 0) := by decide +kernel
theorem s_348_198 {x0 x1 x2 x3 x4 x5 x6 x7 x8 x9 x10 x11 x12 : Option Value} {o : Nat} : mw d 348 Q 198 [x0, x1, x2, x3, x4, x5, x6, x7, x8, x9, x10, x11, x12] (.ref o :: st) h = (mg h o 14 ∧ mw d 348 Q 201 [x0, x1, x2, x3, x4, x5, x6, x7, x8, x9, x10, x11, x12] (.int (mh_i h o 42) :: st) h) := (mw_at mj_348_198).trans (z_geti (by decide) (by decide) (Or.inl rfl))
theorem mj_348_201 : mc_P 348 201 = some (.istore 7, 2, 0, 0, 0) := by decide +kernel
theorem s_348_201 {x0 x1 x2 x3 x4 x5 x6 x7 x8 x9 x10 x11 x12 : Option Value} {w : Int32} : mw d 348 Q 201 [x0, x1, x2, x3, x4, x5, x6, x7, x8, x9, x10, x11, x12] (.int w :: st) h = mw d 348 Q 203 [x0, x1, x2, x3, x4, x5, mk2 x6, some (.int w), x8, x9, x10, x11, x12] (st) h := (mw_at mj_348_201).trans (z_istore (Nat.le_of_ble_eq_true rfl) (me_s1_mk (j := 6) (w := x6) rfl))
theorem mj_348_203 : mc_P 348 203 = some (.aload_n 0, 1, 0, 0, 0) := by decide +kernel
theorem s_348_203 {x1 x2 x3 x4 x5 x6 x7 x8 x9 x10 x11 x12 : Option Value} {w : Value} : mw d 348 Q 203 [some w, x1, x2, x3, x4, x5, x6, x7, x8, x9, x10, x11, x12] (st) h = mv_a w (mw d 348 Q 204 [some w, x1, x2, x3, x4, x5, x6, x7, x8, x9, x10, x11, x12] (w :: st) h) := (mw_at mj_348_203).trans (z_aload_n rfl)
theorem mj_348_204 : mc_P 348 204 = some (.getfield 360, 3, 14, 43, 0) := by decide +kernel
theorem s_348_204 {x0 x1 x2 x3 x4 x5 x6 x7 x8 x9 x10 x11 x12 : Option Value} {o : Nat} : mw d 348 Q 204 [x0, x1, x2, x3, x4, x5, x6, x7, x8, x9, x10, x11, x12] (.ref o :: st) h = (mg h o 14 ∧ mw d 348 Q 207 [x0, x1, x2, x3, x4, x5, x6, x7, x8, x9, x10, x11, x12] (.int (mh_i h o 43) :: st) h) := (mw_at mj_348_204).trans (z_geti (by decide) (by decide) (Or.inl rfl))
theorem mj_348_207 : mc_P 348 207 = some (.istore 8, 2, 0, 0, 0) := by decide +kernel
theorem s_348_207 {x0 x1 x2 x3 x4 x5 x6 x7 x8 x9 x10 x11 x12 : Option Value} {w : Int32} : mw d 348 Q 207 [x0, x1, x2, x3, x4, x5, x6, x7, x8, x9, x10, x11, x12] (.int w :: st) h = mw d 348 Q 209 [x0, x1, x2, x3, x4, x5, x6, mk2 x7, some (.int w), x9, x10, x11, x12] (st) h := (mw_at mj_348_207).trans (z_istore (Nat.le_of_ble_eq_true rfl) (me_s1_mk (j := 7) (w := x7) rfl))
theorem mj_348_209 : mc_P 348 209 = some (.aload_n 0, 1, 0, 0, 0) := by decide +kernel
theorem s_348_209 {x1 x2 x3 x4 x5 x6 x7 x8 x9 x10 x11 x12 : Option Value} {w : Value} : mw d 348 Q 209 [some w, x1, x2, x3, x4, x5, x6, x7, x8, x9, x10, x11, x12] (st) h = mv_a w (mw d 348 Q 210 [some w, x1, x2, x3, x4, x5, x6, x7, x8, x9, x10, x11, x12] (w :: st) h) := (mw_at mj_348_209).trans (z_aload_n rfl)
theorem mj_348_210 : mc_P 348 210 = some (.getfield 376, 3, 14, 45, 0) := by decide +kernel
theorem s_348_210 {x0 x1 x2 x3 x4 x5 x6 x7 x8 x9 x10 x11 x12 : Option Value} {o : Nat} : mw d 348 Q 210 [x0, x1, x2, x3, x4, x5, x6, x7, x8, x9, x10, x11, x12] (.ref o :: st) h = (mg h o 14 ∧ mw d 348 Q 213 [x0, x1, x2, x3, x4, x5, x6, x7, x8, x9, x10, x11, x12] (.int (mh_i h o 45) :: st) h) := (mw_at mj_348_210).trans (z_geti (by decide) (by decide) (Or.inl rfl))
theorem mj_348_213 : mc_P 348 213 = some (.istore 9, 2, 0, 0, 0) := by decide +kernel
theorem s_348_213 {x0 x1 x2 x3 x4 x5 x6 x7 x8 x9 x10 x11 x12 : Option Value} {w : Int32} : mw d 348 Q 213 [x0, x1, x2, x3, x4, x5, x6, x7, x8, x9, x10, x11, x12] (.int w :: st) h = mw d 348 Q 215 [x0, x1, x2, x3, x4, x5, x6, x7, mk2 x8, some (.int w), x10, x11, x12] (st) h := (mw_at mj_348_213).trans (z_istore (Nat.le_of_ble_eq_true rfl) (me_s1_mk (j := 8) (w := x8) rfl))
theorem mj_348_215 : mc_P 348 215 = some (.aload_n 0, 1, 0, 0, 0) := by decide +kernel
theorem s_348_215 {x1 x2 x3 x4 x5 x6 x7 x8 x9 x10 x11 x12 : Option Value} {w : Value} : mw d 348 Q 215 [some w, x1, x2, x3, x4, x5, x6, x7, x8, x9, x10, x11, x12] (st) h = mv_a w (mw d 348 Q 216 [some w, x1, x2, x3, x4, x5, x6, x7, x8, x9, x10, x11, x12] (w :: st) h) := (mw_at mj_348_215).trans (z_aload_n rfl)
theorem mj_348_216 : mc_P 348 216 = some (.aload_n 0, 1, 0, 0, 0) := by decide +kernel
theorem s_348_216 {x1 x2 x3 x4 x5 x6 x7 x8 x9 x10 x11 x12 : Option Value} {w : Value} : mw d 348 Q 216 [some w, x1, x2, x3, x4, x5, x6, x7, x8, x9, x10, x11, x12] (st) h = mv_a w (mw d 348 Q 217 [some w, x1, x2, x3, x4, x5, x6, x7, x8, x9, x10, x11, x12] (w :: st) h) := (mw_at mj_348_216).trans (z_aload_n rfl)
theorem mj_348_217 : mc_P 348 217 = some (.getfield 357, 3, 14, 42, 0) := by decide +kernel
theorem s_348_217 {x0 x1 x2 x3 x4 x5 x6 x7 x8 x9 x10 x11 x12 : Option Value} {o : Nat} : mw d 348 Q 217 [x0, x1, x2, x3, x4, x5, x6, x7, x8, x9, x10, x11, x12] (.ref o :: st) h = (mg h o 14 ∧ mw d 348 Q 220 [x0, x1, x2, x3, x4, x5, x6, x7, x8, x9, x10, x11, x12] (.int (mh_i h o 42) :: st) h) := (mw_at mj_348_217).trans (z_geti (by decide) (by decide) (Or.inl rfl))
theorem mj_348_220 : mc_P 348 220 = some (.putfield 360, 3, 14, 43, 0) := by decide +kernel
theorem s_348_220 {x0 x1 x2 x3 x4 x5 x6 x7 x8 x9 x10 x11 x12 : Option Value} {o : Nat} {w : Int32} : mw d 348 Q 220 [x0, x1, x2, x3, x4, x5, x6, x7, x8, x9, x10, x11, x12] (.int w :: .ref o :: st) h = (mg h o 14 ∧ mw d 348 Q 223 [x0, x1, x2, x3, x4, x5, x6, x7, x8, x9, x10, x11, x12] (st) (mh_si h o 43 w)) := (mw_at mj_348_220).trans (z_puti (by decide) (by decide) rfl)
theorem mj_348_223 : mc_P 348 223 = some (.aload_n 0, 1, 0, 0, 0) := by decide +kernel
theorem s_348_223 {x1 x2 x3 x4 x5 x6 x7 x8 x9 x10 x11 x12 : Option Value} {w : Value} : mw d 348 Q 223 [some w, x1, x2, x3, x4, x5, x6, x7, x8, x9, x10, x11, x12] (st) h = mv_a w (mw d 348 Q 224 [some w, x1, x2, x3, x4, x5, x6, x7, x8, x9, x10, x11, x12] (w :: st) h) := (mw_at mj_348_223).trans (z_aload_n rfl)
theorem mj_348_224 : mc_P 348 224 = some (.dup, 1, 0, 0, 0) := by decide +kernel
theorem s_348_224 {x0 x1 x2 x3 x4 x5 x6 x7 x8 x9 x10 x11 x12 : Option Value} {w : Value} : mw d 348 Q 224 [x0, x1, x2, x3, x4, x5, x6, x7, x8, x9, x10, x11, x12] (w :: st) h = (w.category = 1 ∧ mw d 348 Q 225 [x0, x1, x2, x3, x4, x5, x6, x7, x8, x9, x10, x11, x12] (w :: w :: st) h) := (mw_at mj_348_224).trans (z_dup)
theorem mj_348_225 : mc_P 348 225 = some (.getfield 373, 3, 14, 44, 0) := by decide +kernel
theorem s_348_225 {x0 x1 x2 x3 x4 x5 x6 x7 x8 x9 x10 x11 x12 : Option Value} {o : Nat} : mw d 348 Q 225 [x0, x1, x2, x3, x4, x5, x6, x7, x8, x9, x10, x11, x12] (.ref o :: st) h = (mg h o 14 ∧ mw d 348 Q 228 [x0, x1, x2, x3, x4, x5, x6, x7, x8, x9, x10, x11, x12] (.int (mh_i h o 44) :: st) h) := (mw_at mj_348_225).trans (z_geti (by decide) (by decide) (Or.inl rfl))
theorem mj_348_228 : mc_P 348 228 = some (.iconst 1, 1, 0, 0, 0) := by decide +kernel
theorem s_348_228 {x0 x1 x2 x3 x4 x5 x6 x7 x8 x9 x10 x11 x12 : Option Value} : mw d 348 Q 228 [x0, x1, x2, x3, x4, x5, x6, x7, x8, x9, x10, x11, x12] (st) h = mw d 348 Q 229 [x0, x1, x2, x3, x4, x5, x6, x7, x8, x9, x10, x11, x12] (.int 1 :: st) h := (mw_at mj_348_228).trans (z_iconst (by decide))
theorem mj_348_229 : mc_P 348 229 = some (.iadd, 1, 0, 0, 0) := by decide +kernel
theorem s_348_229 {x0 x1 x2 x3 x4 x5 x6 x7 x8 x9 x10 x11 x12 : Option Value} {x w : Int32} : mw d 348 Q 229 [x0, x1, x2, x3, x4, x5, x6, x7, x8, x9, x10, x11, x12] (.int w :: .int x :: st) h = mw d 348 Q 230 [x0, x1, x2, x3, x4, x5, x6, x7, x8, x9, x10, x11, x12] (.int (x + w) :: st) h := (mw_at mj_348_229).trans (z_iadd)
theorem mj_348_230 : mc_P 348 230 = some (.putfield 373, 3, 14, 44, 0) := by decide +kernel
theorem s_348_230 {x0 x1 x2 x3 x4 x5 x6 x7 x8 x9 x10 x11 x12 : Option Value} {o : Nat} {w : Int32} : mw d 348 Q 230 [x0, x1, x2, x3, x4, x5, x6, x7, x8, x9, x10, x11, x12] (.int w :: .ref o :: st) h = (mg h o 14 ∧ mw d 348 Q 233 [x0, x1, x2, x3, x4, x5, x6, x7, x8, x9, x10, x11, x12] (st) (mh_si h o 44 w)) := (mw_at mj_348_230).trans (z_puti (by decide) (by decide) rfl)
theorem mj_348_233 : mc_P 348 233 = some (.aload_n 0, 1, 0, 0, 0) := by decide +kernel
theorem s_348_233 {x1 x2 x3 x4 x5 x6 x7 x8 x9 x10 x11 x12 : Option Value} {w : Value} : mw d 348 Q 233 [some w, x1, x2, x3, x4, x5, x6, x7, x8, x9, x10, x11, x12] (st) h = mv_a w (mw d 348 Q 234 [some w, x1, x2, x3, x4, x5, x6, x7, x8, x9, x10, x11, x12] (w :: st) h) := (mw_at mj_348_233).trans (z_aload_n rfl)
theorem mj_348_234 : mc_P 348 234 = some (.getfield 373, 3, 14, 44, 0) := by decide +kernel
theorem s_348_234 {x0 x1 x2 x3 x4 x5 x6 x7 x8 x9 x10 x11 x12 : Option Value} {o : Nat} : mw d 348 Q 234 [x0, x1, x2, x3, x4, x5, x6, x7, x8, x9, x10, x11, x12] (.ref o :: st) h = (mg h o 14 ∧ mw d 348 Q 237 [x0, x1, x2, x3, x4, x5, x6, x7, x8, x9, x10, x11, x12] (.int (mh_i h o 44) :: st) h) := (mw_at mj_348_234).trans (z_geti (by decide) (by decide) (Or.inl rfl))
theorem mj_348_237 : mc_P 348 237 = some (.istore 10, 2, 0, 0, 0) := by decide +kernel
theorem s_348_237 {x0 x1 x2 x3 x4 x5 x6 x7 x8 x9 x10 x11 x12 : Option Value} {w : Int32} : mw d 348 Q 237 [x0, x1, x2, x3, x4, x5, x6, x7, x8, x9, x10, x11, x12] (.int w :: st) h = mw d 348 Q 239 [x0, x1, x2, x3, x4, x5, x6, x7, x8, mk2 x9, some (.int w), x11, x12] (st) h := (mw_at mj_348_237).trans (z_istore (Nat.le_of_ble_eq_true rfl) (me_s1_mk (j := 9) (w := x9) rfl))
theorem mj_348_239 : mc_P 348 239 = some (.iconst 0, 1, 0, 0, 0) := by decide +kernel
theorem s_348_239 {x0 x1 x2 x3 x4 x5 x6 x7 x8 x9 x10 x11 x12 : Option Value} : mw d 348 Q 239 [x0, x1, x2, x3, x4, x5, x6, x7, x8, x9, x10, x11, x12] (st) h = mw d 348 Q 240 [x0, x1, x2, x3, x4, x5, x6, x7, x8, x9, x10, x11, x12] (.int 0 :: st) h := (mw_at mj_348_239).trans (z_iconst (by decide))
theorem mj_348_240 : mc_P 348 240 = some (.istore 11, 2, 0, 0, 0) := by decide +kernel
theorem s_348_240 {x0 x1 x2 x3 x4 x5 x6 x7 x8 x9 x10 x11 x12 : Option Value} {w : Int32} : mw d 348 Q 240 [x0, x1, x2, x3, x4, x5, x6, x7, x8, x9, x10, x11, x12] (.int w :: st) h = mw d 348 Q 242 [x0, x1, x2, x3, x4, x5, x6, x7, x8, x9, mk2 x10, some (.int w), x12] (st) h := (mw_at mj_348_240).trans (z_istore (Nat.le_of_ble_eq_true rfl) (me_s1_mk (j := 10) (w := x10) rfl))
theorem mj_348_242 : mc_P 348 242 = some (.iload 11, 2, 0, 0, 0) := by decide +kernel
theorem s_348_242 {x0 x1 x2 x3 x4 x5 x6 x7 x8 x9 x10 x12 : Option Value} {w : Value} : mw d 348 Q 242 [x0, x1, x2, x3, x4, x5, x6, x7, x8, x9, x10, some w, x12] (st) h = mv_i w (mw d 348 Q 244 [x0, x1, x2, x3, x4, x5, x6, x7, x8, x9, x10, some w, x12] (w :: st) h) := (mw_at mj_348_242).trans (z_iload rfl)
theorem mj_348_244 : mc_P 348 244 = some (.iload 5, 2, 0, 0, 0) := by decide +kernel
theorem s_348_244 {x0 x1 x2 x3 x4 x6 x7 x8 x9 x10 x11 x12 : Option Value} {w : Value} : mw d 348 Q 244 [x0, x1, x2, x3, x4, some w, x6, x7, x8, x9, x10, x11, x12] (st) h = mv_i w (mw d 348 Q 246 [x0, x1, x2, x3, x4, some w, x6, x7, x8, x9, x10, x11, x12] (w :: st) h) := (mw_at mj_348_244).trans (z_iload rfl)
theorem mj_348_246 : mc_P 348 246 = some (.if_icmp .ge 66, 3, 0, 0, 0) := by decide +kernel
theorem s_348_246 {x0 x1 x2 x3 x4 x5 x6 x7 x8 x9 x10 x11 x12 : Option Value} {x w : Int32} : mw d 348 Q 246 [x0, x1, x2, x3, x4, x5, x6, x7, x8, x9, x10, x11, x12] (.int w :: .int x :: st) h = mB (w ≤ x) (mw d 348 Q) 312 249 [x0, x1, x2, x3, x4, x5, x6, x7, x8, x9, x10, x11, x12] st h := (mw_at mj_348_246).trans (z_icmp_ge (by decide) rfl)
theorem mj_348_249 : mc_P 348 249 = some (.iconst 0, 1, 0, 0, 0) := by decide +kernel
theorem s_348_249 {x0 x1 x2 x3 x4 x5 x6 x7 x8 x9 x10 x11 x12 : Option Value} : mw d 348 Q 249 [x0, x1, x2, x3, x4, x5, x6, x7, x8, x9, x10, x11, x12] (st) h = mw d 348 Q 250 [x0, x1, x2, x3, x4, x5, x6, x7, x8, x9, x10, x11, x12] (.int 0 :: st) h := (mw_at mj_348_249).trans (z_iconst (by decide))
theorem mj_348_250 : mc_P 348 250 = some (.istore 12, 2, 0, 0, 0) := by decide +kernel
theorem s_348_250 {x0 x1 x2 x3 x4 x5 x6 x7 x8 x9 x10 x11 x12 : Option Value} {w : Int32} : mw d 348 Q 250 [x0, x1, x2, x3, x4, x5, x6, x7, x8, x9, x10, x11, x12] (.int w :: st) h = mw d 348 Q 252 [x0, x1, x2, x3, x4, x5, x6, x7, x8, x9, x10, mk2 x11, some (.int w)] (st) h := (mw_at mj_348_250).trans (z_istore (Nat.le_of_ble_eq_true rfl) (me_s1_mk (j := 11) (w := x11) rfl))
theorem mj_348_252 : mc_P 348 252 = some (.iload 12, 2, 0, 0, 0) := by decide +kernel
theorem s_348_252 {x0 x1 x2 x3 x4 x5 x6 x7 x8 x9 x10 x11 : Option Value} {w : Value} : mw d 348 Q 252 [x0, x1, x2, x3, x4, x5, x6, x7, x8, x9, x10, x11, some w] (st) h = mv_i w (mw d 348 Q 254 [x0, x1, x2, x3, x4, x5, x6, x7, x8, x9, x10, x11, some w] (w :: st) h) := (mw_at mj_348_252).trans (z_iload rfl)
theorem mj_348_254 : mc_P 348 254 = some (.iload 11, 2, 0, 0, 0) := by decide +kernel
theorem s_348_254 {x0 x1 x2 x3 x4 x5 x6 x7 x8 x9 x10 x12 : Option Value} {w : Value} : mw d 348 Q 254 [x0, x1, x2, x3, x4, x5, x6, x7, x8, x9, x10, some w, x12] (st) h = mv_i w (mw d 348 Q 256 [x0, x1, x2, x3, x4, x5, x6, x7, x8, x9, x10, some w, x12] (w :: st) h) := (mw_at mj_348_254).trans (z_iload rfl)
theorem mj_348_256 : mc_P 348 256 = some (.if_icmp .ge 50, 3, 0, 0, 0) := by decide +kernel
theorem s_348_256 {x0 x1 x2 x3 x4 x5 x6 x7 x8 x9 x10 x11 x12 : Option Value} {x w : Int32} : mw d 348 Q 256 [x0, x1, x2, x3, x4, x5, x6, x7, x8, x9, x10, x11, x12] (.int w :: .int x :: st) h = mB (w ≤ x) (mw d 348 Q) 306 259 [x0, x1, x2, x3, x4, x5, x6, x7, x8, x9, x10, x11, x12] st h := (mw_at mj_348_256).trans (z_icmp_ge (by decide) rfl)
theorem mj_348_259 : mc_P 348 259 = some (.aload_n 0, 1, 0, 0, 0) := by decide +kernel
theorem s_348_259 {x1 x2 x3 x4 x5 x6 x7 x8 x9 x10 x11 x12 : Option Value} {w : Value} : mw d 348 Q 259 [some w, x1, x2, x3, x4, x5, x6, x7, x8, x9, x10, x11, x12] (st) h = mv_a w (mw d 348 Q 260 [some w, x1, x2, x3, x4, x5, x6, x7, x8, x9, x10, x11, x12] (w :: st) h) := (mw_at mj_348_259).trans (z_aload_n rfl)
theorem mj_348_260 : mc_P 348 260 = some (.getfield 55, 3, 14, 21, 0) := by decide +kernel
theorem s_348_260 {x0 x1 x2 x3 x4 x5 x6 x7 x8 x9 x10 x11 x12 : Option Value} {o : Nat} : mw d 348 Q 260 [x0, x1, x2, x3, x4, x5, x6, x7, x8, x9, x10, x11, x12] (.ref o :: st) h = (mg h o 14 ∧ mw d 348 Q 263 [x0, x1, x2, x3, x4, x5, x6, x7, x8, x9, x10, x11, x12] (va_rf (mh_r h o 21) :: st) h) := (mw_at mj_348_260).trans (z_getr (by decide) (by decide) rfl)
theorem mj_348_263 : mc_P 348 263 = some (.iload 4, 2, 0, 0, 0) := by decide +kernel
theorem s_348_263 {x0 x1 x2 x3 x5 x6 x7 x8 x9 x10 x11 x12 : Option Value} {w : Value} : mw d 348 Q 263 [x0, x1, x2, x3, some w, x5, x6, x7, x8, x9, x10, x11, x12] (st) h = mv_i w (mw d 348 Q 265 [x0, x1, x2, x3, some w, x5, x6, x7, x8, x9, x10, x11, x12] (w :: st) h) := (mw_at mj_348_263).trans (z_iload rfl)
theorem mj_348_265 : mc_P 348 265 = some (.iconst 2, 1, 0, 0, 0) := by decide +kernel
theorem s_348_265 {x0 x1 x2 x3 x4 x5 x6 x7 x8 x9 x10 x11 x12 : Option Value} : mw d 348 Q 265 [x0, x1, x2, x3, x4, x5, x6, x7, x8, x9, x10, x11, x12] (st) h = mw d 348 Q 266 [x0, x1, x2, x3, x4, x5, x6, x7, x8, x9, x10, x11, x12] (.int 2 :: st) h := (mw_at mj_348_265).trans (z_iconst (by decide))
theorem mj_348_266 : mc_P 348 266 = some (.iadd, 1, 0, 0, 0) := by decide +kernel
theorem s_348_266 {x0 x1 x2 x3 x4 x5 x6 x7 x8 x9 x10 x11 x12 : Option Value} {x w : Int32} : mw d 348 Q 266 [x0, x1, x2, x3, x4, x5, x6, x7, x8, x9, x10, x11, x12] (.int w :: .int x :: st) h = mw d 348 Q 267 [x0, x1, x2, x3, x4, x5, x6, x7, x8, x9, x10, x11, x12] (.int (x + w) :: st) h := (mw_at mj_348_266).trans (z_iadd)
theorem mj_348_267 : mc_P 348 267 = some (.iload 11, 2, 0, 0, 0) := by decide +kernel
theorem s_348_267 {x0 x1 x2 x3 x4 x5 x6 x7 x8 x9 x10 x12 : Option Value} {w : Value} : mw d 348 Q 267 [x0, x1, x2, x3, x4, x5, x6, x7, x8, x9, x10, some w, x12] (st) h = mv_i w (mw d 348 Q 269 [x0, x1, x2, x3, x4, x5, x6, x7, x8, x9, x10, some w, x12] (w :: st) h) := (mw_at mj_348_267).trans (z_iload rfl)
theorem mj_348_269 : mc_P 348 269 = some (.iadd, 1, 0, 0, 0) := by decide +kernel
theorem s_348_269 {x0 x1 x2 x3 x4 x5 x6 x7 x8 x9 x10 x11 x12 : Option Value} {x w : Int32} : mw d 348 Q 269 [x0, x1, x2, x3, x4, x5, x6, x7, x8, x9, x10, x11, x12] (.int w :: .int x :: st) h = mw d 348 Q 270 [x0, x1, x2, x3, x4, x5, x6, x7, x8, x9, x10, x11, x12] (.int (x + w) :: st) h := (mw_at mj_348_269).trans (z_iadd)
theorem mj_348_270 : mc_P 348 270 = some (.iaload, 1, 0, 0, 0) := by decide +kernel
theorem s_348_270 {x0 x1 x2 x3 x4 x5 x6 x7 x8 x9 x10 x11 x12 : Option Value} {o : Nat} {i : Int32} : mw d 348 Q 270 [x0, x1, x2, x3, x4, x5, x6, x7, x8, x9, x10, x11, x12] (.int i :: .ref o :: st) h = (mg h o 100 ∧ mx i (mh_l h o) ∧ mw d 348 Q 271 [x0, x1, x2, x3, x4, x5, x6, x7, x8, x9, x10, x11, x12] (.int (mh_i h o i.toNatClampNeg) :: st) h) := (mw_at mj_348_270).trans (z_iald)
theorem mj_348_271 : mc_P 348 271 = some (.aload_n 0, 1, 0, 0, 0) := by decide +kernel
theorem s_348_271 {x1 x2 x3 x4 x5 x6 x7 x8 x9 x10 x11 x12 : Option Value} {w : Value} : mw d 348 Q 271 [some w, x1, x2, x3, x4, x5, x6, x7, x8, x9, x10, x11, x12] (st) h = mv_a w (mw d 348 Q 272 [some w, x1, x2, x3, x4, x5, x6, x7, x8, x9, x10, x11, x12] (w :: st) h) := (mw_at mj_348_271).trans (z_aload_n rfl)
theorem mj_348_272 : mc_P 348 272 = some (.getfield 55, 3, 14, 21, 0) := by decide +kernel
theorem s_348_272 {x0 x1 x2 x3 x4 x5 x6 x7 x8 x9 x10 x11 x12 : Option Value} {o : Nat} : mw d 348 Q 272 [x0, x1, x2, x3, x4, x5, x6, x7, x8, x9, x10, x11, x12] (.ref o :: st) h = (mg h o 14 ∧ mw d 348 Q 275 [x0, x1, x2, x3, x4, x5, x6, x7, x8, x9, x10, x11, x12] (va_rf (mh_r h o 21) :: st) h) := (mw_at mj_348_272).trans (z_getr (by decide) (by decide) rfl)
theorem mj_348_275 : mc_P 348 275 = some (.iload 4, 2, 0, 0, 0) := by decide +kernel
theorem s_348_275 {x0 x1 x2 x3 x5 x6 x7 x8 x9 x10 x11 x12 : Option Value} {w : Value} : mw d 348 Q 275 [x0, x1, x2, x3, some w, x5, x6, x7, x8, x9, x10, x11, x12] (st) h = mv_i w (mw d 348 Q 277 [x0, x1, x2, x3, some w, x5, x6, x7, x8, x9, x10, x11, x12] (w :: st) h) := (mw_at mj_348_275).trans (z_iload rfl)
theorem mj_348_277 : mc_P 348 277 = some (.iconst 2, 1, 0, 0, 0) := by decide +kernel
theorem s_348_277 {x0 x1 x2 x3 x4 x5 x6 x7 x8 x9 x10 x11 x12 : Option Value} : mw d 348 Q 277 [x0, x1, x2, x3, x4, x5, x6, x7, x8, x9, x10, x11, x12] (st) h = mw d 348 Q 278 [x0, x1, x2, x3, x4, x5, x6, x7, x8, x9, x10, x11, x12] (.int 2 :: st) h := (mw_at mj_348_277).trans (z_iconst (by decide))
theorem mj_348_278 : mc_P 348 278 = some (.iadd, 1, 0, 0, 0) := by decide +kernel
theorem s_348_278 {x0 x1 x2 x3 x4 x5 x6 x7 x8 x9 x10 x11 x12 : Option Value} {x w : Int32} : mw d 348 Q 278 [x0, x1, x2, x3, x4, x5, x6, x7, x8, x9, x10, x11, x12] (.int w :: .int x :: st) h = mw d 348 Q 279 [x0, x1, x2, x3, x4, x5, x6, x7, x8, x9, x10, x11, x12] (.int (x + w) :: st) h := (mw_at mj_348_278).trans (z_iadd)
theorem mj_348_279 : mc_P 348 279 = some (.iload 12, 2, 0, 0, 0) := by decide +kernel
theorem s_348_279 {x0 x1 x2 x3 x4 x5 x6 x7 x8 x9 x10 x11 : Option Value} {w : Value} : mw d 348 Q 279 [x0, x1, x2, x3, x4, x5, x6, x7, x8, x9, x10, x11, some w] (st) h = mv_i w (mw d 348 Q 281 [x0, x1, x2, x3, x4, x5, x6, x7, x8, x9, x10, x11, some w] (w :: st) h) := (mw_at mj_348_279).trans (z_iload rfl)
theorem mj_348_281 : mc_P 348 281 = some (.iadd, 1, 0, 0, 0) := by decide +kernel
theorem s_348_281 {x0 x1 x2 x3 x4 x5 x6 x7 x8 x9 x10 x11 x12 : Option Value} {x w : Int32} : mw d 348 Q 281 [x0, x1, x2, x3, x4, x5, x6, x7, x8, x9, x10, x11, x12] (.int w :: .int x :: st) h = mw d 348 Q 282 [x0, x1, x2, x3, x4, x5, x6, x7, x8, x9, x10, x11, x12] (.int (x + w) :: st) h := (mw_at mj_348_281).trans (z_iadd)
theorem mj_348_282 : mc_P 348 282 = some (.iaload, 1, 0, 0, 0) := by decide +kernel
theorem s_348_282 {x0 x1 x2 x3 x4 x5 x6 x7 x8 x9 x10 x11 x12 : Option Value} {o : Nat} {i : Int32} : mw d 348 Q 282 [x0, x1, x2, x3, x4, x5, x6, x7, x8, x9, x10, x11, x12] (.int i :: .ref o :: st) h = (mg h o 100 ∧ mx i (mh_l h o) ∧ mw d 348 Q 283 [x0, x1, x2, x3, x4, x5, x6, x7, x8, x9, x10, x11, x12] (.int (mh_i h o i.toNatClampNeg) :: st) h) := (mw_at mj_348_282).trans (z_iald)
theorem mj_348_283 : mc_P 348 283 = some (.if_icmp .ne 17, 3, 0, 0, 0) := by decide +kernel
theorem s_348_283 {x0 x1 x2 x3 x4 x5 x6 x7 x8 x9 x10 x11 x12 : Option Value} {x w : Int32} : mw d 348 Q 283 [x0, x1, x2, x3, x4, x5, x6, x7, x8, x9, x10, x11, x12] (.int w :: .int x :: st) h = mB (¬ x = w) (mw d 348 Q) 300 286 [x0, x1, x2, x3, x4, x5, x6, x7, x8, x9, x10, x11, x12] st h := (mw_at mj_348_283).trans (z_icmp_ne (by decide) rfl)
theorem mj_348_286 : mc_P 348 286 = some (.aload_n 0, 1, 0, 0, 0) := by decide +kernel
theorem s_348_286 {x1 x2 x3 x4 x5 x6 x7 x8 x9 x10 x11 x12 : Option Value} {w : Value} : mw d 348 Q 286 [some w, x1, x2, x3, x4, x5, x6, x7, x8, x9, x10, x11, x12] (st) h = mv_a w (mw d 348 Q 287 [some w, x1, x2, x3, x4, x5, x6, x7, x8, x9, x10, x11, x12] (w :: st) h) := (mw_at mj_348_286).trans (z_aload_n rfl)
theorem mj_348_287 : mc_P 348 287 = some (.iconst 2, 1, 0, 0, 0) := by decide +kernel
theorem s_348_287 {x0 x1 x2 x3 x4 x5 x6 x7 x8 x9 x10 x11 x12 : Option Value} : mw d 348 Q 287 [x0, x1, x2, x3, x4, x5, x6, x7, x8, x9, x10, x11, x12] (st) h = mw d 348 Q 288 [x0, x1, x2, x3, x4, x5, x6, x7, x8, x9, x10, x11, x12] (.int 2 :: st) h := (mw_at mj_348_287).trans (z_iconst (by decide))
theorem mj_348_288 : mc_P 348 288 = some (.iload 4, 2, 0, 0, 0) := by decide +kernel
theorem s_348_288 {x0 x1 x2 x3 x5 x6 x7 x8 x9 x10 x11 x12 : Option Value} {w : Value} : mw d 348 Q 288 [x0, x1, x2, x3, some w, x5, x6, x7, x8, x9, x10, x11, x12] (st) h = mv_i w (mw d 348 Q 290 [x0, x1, x2, x3, some w, x5, x6, x7, x8, x9, x10, x11, x12] (w :: st) h) := (mw_at mj_348_288).trans (z_iload rfl)
theorem mj_348_290 : mc_P 348 290 = some (.iconst 2, 1, 0, 0, 0) := by decide +kernel
theorem s_348_290 {x0 x1 x2 x3 x4 x5 x6 x7 x8 x9 x10 x11 x12 : Option Value} : mw d 348 Q 290 [x0, x1, x2, x3, x4, x5, x6, x7, x8, x9, x10, x11, x12] (st) h = mw d 348 Q 291 [x0, x1, x2, x3, x4, x5, x6, x7, x8, x9, x10, x11, x12] (.int 2 :: st) h := (mw_at mj_348_290).trans (z_iconst (by decide))
theorem mj_348_291 : mc_P 348 291 = some (.iadd, 1, 0, 0, 0) := by decide +kernel
theorem s_348_291 {x0 x1 x2 x3 x4 x5 x6 x7 x8 x9 x10 x11 x12 : Option Value} {x w : Int32} : mw d 348 Q 291 [x0, x1, x2, x3, x4, x5, x6, x7, x8, x9, x10, x11, x12] (.int w :: .int x :: st) h = mw d 348 Q 292 [x0, x1, x2, x3, x4, x5, x6, x7, x8, x9, x10, x11, x12] (.int (x + w) :: st) h := (mw_at mj_348_291).trans (z_iadd)
theorem mj_348_292 : mc_P 348 292 = some (.iload 11, 2, 0, 0, 0) := by decide +kernel
theorem s_348_292 {x0 x1 x2 x3 x4 x5 x6 x7 x8 x9 x10 x12 : Option Value} {w : Value} : mw d 348 Q 292 [x0, x1, x2, x3, x4, x5, x6, x7, x8, x9, x10, some w, x12] (st) h = mv_i w (mw d 348 Q 294 [x0, x1, x2, x3, x4, x5, x6, x7, x8, x9, x10, some w, x12] (w :: st) h) := (mw_at mj_348_292).trans (z_iload rfl)
theorem mj_348_294 : mc_P 348 294 = some (.iadd, 1, 0, 0, 0) := by decide +kernel
theorem s_348_294 {x0 x1 x2 x3 x4 x5 x6 x7 x8 x9 x10 x11 x12 : Option Value} {x w : Int32} : mw d 348 Q 294 [x0, x1, x2, x3, x4, x5, x6, x7, x8, x9, x10, x11, x12] (.int w :: .int x :: st) h = mw d 348 Q 295 [x0, x1, x2, x3, x4, x5, x6, x7, x8, x9, x10, x11, x12] (.int (x + w) :: st) h := (mw_at mj_348_294).trans (z_iadd)
theorem mj_348_295 : mc_P 348 295 = some (.invokevirtual 366, 3, 335, 14, 3) := by decide +kernel
theorem s_348_295 {x0 x1 x2 x3 x4 x5 x6 x7 x8 x9 x10 x11 x12 : Option Value} {o : Nat} {a1 a2 : Value} : mw (d + 1) 348 Q 295 [x0, x1, x2, x3, x4, x5, x6, x7, x8, x9, x10, x11, x12] (a2 :: a1 :: .ref o :: st) h = (mg h o 14 ∧ mca st 8 ∧ mca [.ref o, a1, a2] 3 ∧ mcall d 335 [.ref o, a1, a2] h (mK (d + 1) 348 Q 298 [x0, x1, x2, x3, x4, x5, x6, x7, x8, x9, x10, x11, x12] st)) := (mw_at mj_348_295).trans ((z_invv (As := [a1, a2]) (by decide) rfl rfl).trans (congrArg (And _) (congrArg (And _) (mC_nl nl_335))))
theorem mj_348_298 : mc_P 348 298 = some (.pop, 1, 0, 0, 0) := by decide +kernel
theorem s_348_298 {x0 x1 x2 x3 x4 x5 x6 x7 x8 x9 x10 x11 x12 : Option Value} {w : Value} : mw d 348 Q 298 [x0, x1, x2, x3, x4, x5, x6, x7, x8, x9, x10, x11, x12] (w :: st) h = (w.category = 1 ∧ mw d 348 Q 299 [x0, x1, x2, x3, x4, x5, x6, x7, x8, x9, x10, x11, x12] (st) h) := (mw_at mj_348_298).trans (z_pop)
theorem mj_348_299 : mc_P 348 299 = some (.return_, 1, 0, 0, 0) := by decide +kernel
theorem s_348_299 {x0 x1 x2 x3 x4 x5 x6 x7 x8 x9 x10 x11 x12 : Option Value} : mw d 348 Q 299 [x0, x1, x2, x3, x4, x5, x6, x7, x8, x9, x10, x11, x12] ([]) h = Q none h := (mw_at mj_348_299).trans (z_vret)
theorem mj_348_300 : mc_P 348 300 = some (.iinc 12 1, 3, 0, 0, 0) := by decide +kernel
theorem s_348_300 {x0 x1 x2 x3 x4 x5 x6 x7 x8 x9 x10 x11 : Option Value} {w : Int32} : mw d 348 Q 300 [x0, x1, x2, x3, x4, x5, x6, x7, x8, x9, x10, x11, some (.int w)] (st) h = mw d 348 Q 303 [x0, x1, x2, x3, x4, x5, x6, x7, x8, x9, x10, mk2 x11, some (.int (w + 1))] (st) h := (mw_at mj_348_300).trans (z_iinc rfl (Nat.le_of_ble_eq_true rfl) (by decide) (me_s1_mk (j := 11) (w := x11) rfl))
theorem mj_348_303 : mc_P 348 303 = some (.goto (-51), 3, 0, 0, 0) := by decide +kernel
theorem s_348_303 {x0 x1 x2 x3 x4 x5 x6 x7 x8 x9 x10 x11 x12 : Option Value} : mw d 348 Q 303 [x0, x1, x2, x3, x4, x5, x6, x7, x8, x9, x10, x11, x12] (st) h = mw d 348 Q 252 [x0, x1, x2, x3, x4, x5, x6, x7, x8, x9, x10, x11, x12] (st) h := (mw_at mj_348_303).trans (z_goto (by decide))
theorem mj_348_306 : mc_P 348 306 = some (.iinc 11 1, 3, 0, 0, 0) := by decide +kernel
theorem s_348_306 {x0 x1 x2 x3 x4 x5 x6 x7 x8 x9 x10 x12 : Option Value} {w : Int32} : mw d 348 Q 306 [x0, x1, x2, x3, x4, x5, x6, x7, x8, x9, x10, some (.int w), x12] (st) h = mw d 348 Q 309 [x0, x1, x2, x3, x4, x5, x6, x7, x8, x9, mk2 x10, some (.int (w + 1)), x12] (st) h := (mw_at mj_348_306).trans (z_iinc rfl (Nat.le_of_ble_eq_true rfl) (by decide) (me_s1_mk (j := 10) (w := x10) rfl))
theorem mj_348_309 : mc_P 348 309 = some (.goto (-67), 3, 0, 0, 0) := by decide +kernel
theorem s_348_309 {x0 x1 x2 x3 x4 x5 x6 x7 x8 x9 x10 x11 x12 : Option Value} : mw d 348 Q 309 [x0, x1, x2, x3, x4, x5, x6, x7, x8, x9, x10, x11, x12] (st) h = mw d 348 Q 242 [x0, x1, x2, x3, x4, x5, x6, x7, x8, x9, x10, x11, x12] (st) h := (mw_at mj_348_309).trans (z_goto (by decide))
theorem mj_348_312 : mc_P 348 312 = some (.aload_n 0, 1, 0, 0, 0) := by decide +kernel
theorem s_348_312 {x1 x2 x3 x4 x5 x6 x7 x8 x9 x10 x11 x12 : Option Value} {w : Value} : mw d 348 Q 312 [some w, x1, x2, x3, x4, x5, x6, x7, x8, x9, x10, x11, x12] (st) h = mv_a w (mw d 348 Q 313 [some w, x1, x2, x3, x4, x5, x6, x7, x8, x9, x10, x11, x12] (w :: st) h) := (mw_at mj_348_312).trans (z_aload_n rfl)
theorem mj_348_313 : mc_P 348 313 = some (.getfield 376, 3, 14, 45, 0) := by decide +kernel
theorem s_348_313 {x0 x1 x2 x3 x4 x5 x6 x7 x8 x9 x10 x11 x12 : Option Value} {o : Nat} : mw d 348 Q 313 [x0, x1, x2, x3, x4, x5, x6, x7, x8, x9, x10, x11, x12] (.ref o :: st) h = (mg h o 14 ∧ mw d 348 Q 316 [x0, x1, x2, x3, x4, x5, x6, x7, x8, x9, x10, x11, x12] (.int (mh_i h o 45) :: st) h) := (mw_at mj_348_313).trans (z_geti (by decide) (by decide) (Or.inl rfl))
theorem mj_348_316 : mc_P 348 316 = some (.iload 5, 2, 0, 0, 0) := by decide +kernel
theorem s_348_316 {x0 x1 x2 x3 x4 x6 x7 x8 x9 x10 x11 x12 : Option Value} {w : Value} : mw d 348 Q 316 [x0, x1, x2, x3, x4, some w, x6, x7, x8, x9, x10, x11, x12] (st) h = mv_i w (mw d 348 Q 318 [x0, x1, x2, x3, x4, some w, x6, x7, x8, x9, x10, x11, x12] (w :: st) h) := (mw_at mj_348_316).trans (z_iload rfl)
theorem mj_348_318 : mc_P 348 318 = some (.iadd, 1, 0, 0, 0) := by decide +kernel
theorem s_348_318 {x0 x1 x2 x3 x4 x5 x6 x7 x8 x9 x10 x11 x12 : Option Value} {x w : Int32} : mw d 348 Q 318 [x0, x1, x2, x3, x4, x5, x6, x7, x8, x9, x10, x11, x12] (.int w :: .int x :: st) h = mw d 348 Q 319 [x0, x1, x2, x3, x4, x5, x6, x7, x8, x9, x10, x11, x12] (.int (x + w) :: st) h := (mw_at mj_348_318).trans (z_iadd)
theorem mj_348_319 : mc_P 348 319 = some (.bipush 12, 2, 0, 0, 0) := by decide +kernel
theorem s_348_319 {x0 x1 x2 x3 x4 x5 x6 x7 x8 x9 x10 x11 x12 : Option Value} : mw d 348 Q 319 [x0, x1, x2, x3, x4, x5, x6, x7, x8, x9, x10, x11, x12] (st) h = mw d 348 Q 321 [x0, x1, x2, x3, x4, x5, x6, x7, x8, x9, x10, x11, x12] (.int 12 :: st) h := (mw_at mj_348_319).trans (z_bipush (by decide))
theorem mj_348_321 : mc_P 348 321 = some (.if_icmp .le 12, 3, 0, 0, 0) := by decide +kernel
theorem s_348_321 {x0 x1 x2 x3 x4 x5 x6 x7 x8 x9 x10 x11 x12 : Option Value} {x w : Int32} : mw d 348 Q 321 [x0, x1, x2, x3, x4, x5, x6, x7, x8, x9, x10, x11, x12] (.int w :: .int x :: st) h = mB (x ≤ w) (mw d 348 Q) 333 324 [x0, x1, x2, x3, x4, x5, x6, x7, x8, x9, x10, x11, x12] st h := (mw_at mj_348_321).trans (z_icmp_le (by decide) rfl)
theorem mj_348_324 : mc_P 348 324 = some (.aload_n 0, 1, 0, 0, 0) := by decide +kernel
theorem s_348_324 {x1 x2 x3 x4 x5 x6 x7 x8 x9 x10 x11 x12 : Option Value} {w : Value} : mw d 348 Q 324 [some w, x1, x2, x3, x4, x5, x6, x7, x8, x9, x10, x11, x12] (st) h = mv_a w (mw d 348 Q 325 [some w, x1, x2, x3, x4, x5, x6, x7, x8, x9, x10, x11, x12] (w :: st) h) := (mw_at mj_348_324).trans (z_aload_n rfl)
theorem mj_348_325 : mc_P 348 325 = some (.bipush 10, 2, 0, 0, 0) := by decide +kernel
theorem s_348_325 {x0 x1 x2 x3 x4 x5 x6 x7 x8 x9 x10 x11 x12 : Option Value} : mw d 348 Q 325 [x0, x1, x2, x3, x4, x5, x6, x7, x8, x9, x10, x11, x12] (st) h = mw d 348 Q 327 [x0, x1, x2, x3, x4, x5, x6, x7, x8, x9, x10, x11, x12] (.int 10 :: st) h := (mw_at mj_348_325).trans (z_bipush (by decide))
theorem mj_348_327 : mc_P 348 327 = some (.iload_n 1, 1, 0, 0, 0) := by decide +kernel
theorem s_348_327 {x0 x2 x3 x4 x5 x6 x7 x8 x9 x10 x11 x12 : Option Value} {w : Value} : mw d 348 Q 327 [x0, some w, x2, x3, x4, x5, x6, x7, x8, x9, x10, x11, x12] (st) h = mv_i w (mw d 348 Q 328 [x0, some w, x2, x3, x4, x5, x6, x7, x8, x9, x10, x11, x12] (w :: st) h) := (mw_at mj_348_327).trans (z_iload_n rfl)
theorem mj_348_328 : mc_P 348 328 = some (.invokevirtual 366, 3, 335, 14, 3) := by decide +kernel
theorem s_348_328 {x0 x1 x2 x3 x4 x5 x6 x7 x8 x9 x10 x11 x12 : Option Value} {o : Nat} {a1 a2 : Value} : mw (d + 1) 348 Q 328 [x0, x1, x2, x3, x4, x5, x6, x7, x8, x9, x10, x11, x12] (a2 :: a1 :: .ref o :: st) h = (mg h o 14 ∧ mca st 8 ∧ mca [.ref o, a1, a2] 3 ∧ mcall d 335 [.ref o, a1, a2] h (mK (d + 1) 348 Q 331 [x0, x1, x2, x3, x4, x5, x6, x7, x8, x9, x10, x11, x12] st)) := (mw_at mj_348_328).trans ((z_invv (As := [a1, a2]) (by decide) rfl rfl).trans (congrArg (And _) (congrArg (And _) (mC_nl nl_335))))
theorem mj_348_331 : mc_P 348 331 = some (.pop, 1, 0, 0, 0) := by decide +kernel
theorem s_348_331 {x0 x1 x2 x3 x4 x5 x6 x7 x8 x9 x10 x11 x12 : Option Value} {w : Value} : mw d 348 Q 331 [x0, x1, x2, x3, x4, x5, x6, x7, x8, x9, x10, x11, x12] (w :: st) h = (w.category = 1 ∧ mw d 348 Q 332 [x0, x1, x2, x3, x4, x5, x6, x7, x8, x9, x10, x11, x12] (st) h) := (mw_at mj_348_331).trans (z_pop)
theorem mj_348_332 : mc_P 348 332 = some (.return_, 1, 0, 0, 0) := by decide +kernel
theorem s_348_332 {x0 x1 x2 x3 x4 x5 x6 x7 x8 x9 x10 x11 x12 : Option Value} : mw d 348 Q 332 [x0, x1, x2, x3, x4, x5, x6, x7, x8, x9, x10, x11, x12] ([]) h = Q none h := (mw_at mj_348_332).trans (z_vret)
theorem mj_348_333 : mc_P 348 333 = some (.iconst 0, 1, 0, 0, 0) := by decide +kernel
theorem s_348_333 {x0 x1 x2 x3 x4 x5 x6 x7 x8 x9 x10 x11 x12 : Option Value} : mw d 348 Q 333 [x0, x1, x2, x3, x4, x5, x6, x7, x8, x9, x10, x11, x12] (st) h = mw d 348 Q 334 [x0, x1, x2, x3, x4, x5, x6, x7, x8, x9, x10, x11, x12] (.int 0 :: st) h := (mw_at mj_348_333).trans (z_iconst (by decide))
theorem mj_348_334 : mc_P 348 334 = some (.istore 11, 2, 0, 0, 0) := by decide +kernel
theorem s_348_334 {x0 x1 x2 x3 x4 x5 x6 x7 x8 x9 x10 x11 x12 : Option Value} {w : Int32} : mw d 348 Q 334 [x0, x1, x2, x3, x4, x5, x6, x7, x8, x9, x10, x11, x12] (.int w :: st) h = mw d 348 Q 336 [x0, x1, x2, x3, x4, x5, x6, x7, x8, x9, mk2 x10, some (.int w), x12] (st) h := (mw_at mj_348_334).trans (z_istore (Nat.le_of_ble_eq_true rfl) (me_s1_mk (j := 10) (w := x10) rfl))
theorem mj_348_336 : mc_P 348 336 = some (.iload 11, 2, 0, 0, 0) := by decide +kernel
theorem s_348_336 {x0 x1 x2 x3 x4 x5 x6 x7 x8 x9 x10 x12 : Option Value} {w : Value} : mw d 348 Q 336 [x0, x1, x2, x3, x4, x5, x6, x7, x8, x9, x10, some w, x12] (st) h = mv_i w (mw d 348 Q 338 [x0, x1, x2, x3, x4, x5, x6, x7, x8, x9, x10, some w, x12] (w :: st) h) := (mw_at mj_348_336).trans (z_iload rfl)
theorem mj_348_338 : mc_P 348 338 = some (.iload 5, 2, 0, 0, 0) := by decide +kernel
theorem s_348_338 {x0 x1 x2 x3 x4 x6 x7 x8 x9 x10 x11 x12 : Option Value} {w : Value} : mw d 348 Q 338 [x0, x1, x2, x3, x4, some w, x6, x7, x8, x9, x10, x11, x12] (st) h = mv_i w (mw d 348 Q 340 [x0, x1, x2, x3, x4, some w, x6, x7, x8, x9, x10, x11, x12] (w :: st) h) := (mw_at mj_348_338).trans (z_iload rfl)
theorem mj_348_340 : mc_P 348 340 = some (.if_icmp .ge 42, 3, 0, 0, 0) := by decide +kernel
theorem s_348_340 {x0 x1 x2 x3 x4 x5 x6 x7 x8 x9 x10 x11 x12 : Option Value} {x w : Int32} : mw d 348 Q 340 [x0, x1, x2, x3, x4, x5, x6, x7, x8, x9, x10, x11, x12] (.int w :: .int x :: st) h = mB (w ≤ x) (mw d 348 Q) 382 343 [x0, x1, x2, x3, x4, x5, x6, x7, x8, x9, x10, x11, x12] st h := (mw_at mj_348_340).trans (z_icmp_ge (by decide) rfl)
theorem mj_348_343 : mc_P 348 343 = some (.aload_n 0, 1, 0, 0, 0) := by decide +kernel
theorem s_348_343 {x1 x2 x3 x4 x5 x6 x7 x8 x9 x10 x11 x12 : Option Value} {w : Value} : mw d 348 Q 343 [some w, x1, x2, x3, x4, x5, x6, x7, x8, x9, x10, x11, x12] (st) h = mv_a w (mw d 348 Q 344 [some w, x1, x2, x3, x4, x5, x6, x7, x8, x9, x10, x11, x12] (w :: st) h) := (mw_at mj_348_343).trans (z_aload_n rfl)
theorem mj_348_344 : mc_P 348 344 = some (.aload_n 0, 1, 0, 0, 0) := by decide +kernel
theorem s_348_344 {x1 x2 x3 x4 x5 x6 x7 x8 x9 x10 x11 x12 : Option Value} {w : Value} : mw d 348 Q 344 [some w, x1, x2, x3, x4, x5, x6, x7, x8, x9, x10, x11, x12] (st) h = mv_a w (mw d 348 Q 345 [some w, x1, x2, x3, x4, x5, x6, x7, x8, x9, x10, x11, x12] (w :: st) h) := (mw_at mj_348_344).trans (z_aload_n rfl)
theorem mj_348_345 : mc_P 348 345 = some (.getfield 55, 3, 14, 21, 0) := by decide +kernel
theorem s_348_345 {x0 x1 x2 x3 x4 x5 x6 x7 x8 x9 x10 x11 x12 : Option Value} {o : Nat} : mw d 348 Q 345 [x0, x1, x2, x3, x4, x5, x6, x7, x8, x9, x10, x11, x12] (.ref o :: st) h = (mg h o 14 ∧ mw d 348 Q 348 [x0, x1, x2, x3, x4, x5, x6, x7, x8, x9, x10, x11, x12] (va_rf (mh_r h o 21) :: st) h) := (mw_at mj_348_345).trans (z_getr (by decide) (by decide) rfl)
theorem mj_348_348 : mc_P 348 348 = some (.iload 4, 2, 0, 0, 0) := by decide +kernel
theorem s_348_348 {x0 x1 x2 x3 x5 x6 x7 x8 x9 x10 x11 x12 : Option Value} {w : Value} : mw d 348 Q 348 [x0, x1, x2, x3, some w, x5, x6, x7, x8, x9, x10, x11, x12] (st) h = mv_i w (mw d 348 Q 350 [x0, x1, x2, x3, some w, x5, x6, x7, x8, x9, x10, x11, x12] (w :: st) h) := (mw_at mj_348_348).trans (z_iload rfl)
theorem mj_348_350 : mc_P 348 350 = some (.iconst 2, 1, 0, 0, 0) := by decide +kernel
theorem s_348_350 {x0 x1 x2 x3 x4 x5 x6 x7 x8 x9 x10 x11 x12 : Option Value} : mw d 348 Q 350 [x0, x1, x2, x3, x4, x5, x6, x7, x8, x9, x10, x11, x12] (st) h = mw d 348 Q 351 [x0, x1, x2, x3, x4, x5, x6, x7, x8, x9, x10, x11, x12] (.int 2 :: st) h := (mw_at mj_348_350).trans (z_iconst (by decide))
theorem mj_348_351 : mc_P 348 351 = some (.iadd, 1, 0, 0, 0) := by decide +kernel
theorem s_348_351 {x0 x1 x2 x3 x4 x5 x6 x7 x8 x9 x10 x11 x12 : Option Value} {x w : Int32} : mw d 348 Q 351 [x0, x1, x2, x3, x4, x5, x6, x7, x8, x9, x10, x11, x12] (.int w :: .int x :: st) h = mw d 348 Q 352 [x0, x1, x2, x3, x4, x5, x6, x7, x8, x9, x10, x11, x12] (.int (x + w) :: st) h := (mw_at mj_348_351).trans (z_iadd)
theorem mj_348_352 : mc_P 348 352 = some (.iload 11, 2, 0, 0, 0) := by decide +kernel
theorem s_348_352 {x0 x1 x2 x3 x4 x5 x6 x7 x8 x9 x10 x12 : Option Value} {w : Value} : mw d 348 Q 352 [x0, x1, x2, x3, x4, x5, x6, x7, x8, x9, x10, some w, x12] (st) h = mv_i w (mw d 348 Q 354 [x0, x1, x2, x3, x4, x5, x6, x7, x8, x9, x10, some w, x12] (w :: st) h) := (mw_at mj_348_352).trans (z_iload rfl)
theorem mj_348_354 : mc_P 348 354 = some (.iadd, 1, 0, 0, 0) := by decide +kernel
theorem s_348_354 {x0 x1 x2 x3 x4 x5 x6 x7 x8 x9 x10 x11 x12 : Option Value} {x w : Int32} : mw d 348 Q 354 [x0, x1, x2, x3, x4, x5, x6, x7, x8, x9, x10, x11, x12] (.int w :: .int x :: st) h = mw d 348 Q 355 [x0, x1, x2, x3, x4, x5, x6, x7, x8, x9, x10, x11, x12] (.int (x + w) :: st) h := (mw_at mj_348_354).trans (z_iadd)
theorem mj_348_355 : mc_P 348 355 = some (.iaload, 1, 0, 0, 0) := by decide +kernel
theorem s_348_355 {x0 x1 x2 x3 x4 x5 x6 x7 x8 x9 x10 x11 x12 : Option Value} {o : Nat} {i : Int32} : mw d 348 Q 355 [x0, x1, x2, x3, x4, x5, x6, x7, x8, x9, x10, x11, x12] (.int i :: .ref o :: st) h = (mg h o 100 ∧ mx i (mh_l h o) ∧ mw d 348 Q 356 [x0, x1, x2, x3, x4, x5, x6, x7, x8, x9, x10, x11, x12] (.int (mh_i h o i.toNatClampNeg) :: st) h) := (mw_at mj_348_355).trans (z_iald)
theorem mj_348_356 : mc_P 348 356 = some (.aload_n 0, 1, 0, 0, 0) := by decide +kernel
theorem s_348_356 {x1 x2 x3 x4 x5 x6 x7 x8 x9 x10 x11 x12 : Option Value} {w : Value} : mw d 348 Q 356 [some w, x1, x2, x3, x4, x5, x6, x7, x8, x9, x10, x11, x12] (st) h = mv_a w (mw d 348 Q 357 [some w, x1, x2, x3, x4, x5, x6, x7, x8, x9, x10, x11, x12] (w :: st) h) := (mw_at mj_348_356).trans (z_aload_n rfl)
theorem mj_348_357 : mc_P 348 357 = some (.getfield 376, 3, 14, 45, 0) := by decide +kernel
theorem s_348_357 {x0 x1 x2 x3 x4 x5 x6 x7 x8 x9 x10 x11 x12 : Option Value} {o : Nat} : mw d 348 Q 357 [x0, x1, x2, x3, x4, x5, x6, x7, x8, x9, x10, x11, x12] (.ref o :: st) h = (mg h o 14 ∧ mw d 348 Q 360 [x0, x1, x2, x3, x4, x5, x6, x7, x8, x9, x10, x11, x12] (.int (mh_i h o 45) :: st) h) := (mw_at mj_348_357).trans (z_geti (by decide) (by decide) (Or.inl rfl))
theorem mj_348_360 : mc_P 348 360 = some (.iconst 0, 1, 0, 0, 0) := by decide +kernel
theorem s_348_360 {x0 x1 x2 x3 x4 x5 x6 x7 x8 x9 x10 x11 x12 : Option Value} : mw d 348 Q 360 [x0, x1, x2, x3, x4, x5, x6, x7, x8, x9, x10, x11, x12] (st) h = mw d 348 Q 361 [x0, x1, x2, x3, x4, x5, x6, x7, x8, x9, x10, x11, x12] (.int 0 :: st) h := (mw_at mj_348_360).trans (z_iconst (by decide))
theorem mj_348_361 : mc_P 348 361 = some (.iload 10, 2, 0, 0, 0) := by decide +kernel
theorem s_348_361 {x0 x1 x2 x3 x4 x5 x6 x7 x8 x9 x11 x12 : Option Value} {w : Value} : mw d 348 Q 361 [x0, x1, x2, x3, x4, x5, x6, x7, x8, x9, some w, x11, x12] (st) h = mv_i w (mw d 348 Q 363 [x0, x1, x2, x3, x4, x5, x6, x7, x8, x9, some w, x11, x12] (w :: st) h) := (mw_at mj_348_361).trans (z_iload rfl)
theorem mj_348_363 : mc_P 348 363 = some (.invokevirtual 397, 3, 344, 14, 5) := by decide +kernel
theorem s_348_363 {x0 x1 x2 x3 x4 x5 x6 x7 x8 x9 x10 x11 x12 : Option Value} {o : Nat} {a1 a2 a3 a4 : Value} : mw (d + 1) 348 Q 363 [x0, x1, x2, x3, x4, x5, x6, x7, x8, x9, x10, x11, x12] (a4 :: a3 :: a2 :: a1 :: .ref o :: st) h = (mg h o 14 ∧ mca st 8 ∧ mca [.ref o, a1, a2, a3, a4] 5 ∧ mcall d 344 [.ref o, a1, a2, a3, a4] h (mK (d + 1) 348 Q 366 [x0, x1, x2, x3, x4, x5, x6, x7, x8, x9, x10, x11, x12] st)) := (mw_at mj_348_363).trans ((z_invv (As := [a1, a2, a3, a4]) (by decide) rfl rfl).trans (congrArg (And _) (congrArg (And _) (mC_nl nl_344))))
theorem mj_348_366 : mc_P 348 366 = some (.aload_n 0, 1, 0, 0, 0) := by decide +kernel
theorem s_348_366 {x1 x2 x3 x4 x5 x6 x7 x8 x9 x10 x11 x12 : Option Value} {w : Value} : mw d 348 Q 366 [some w, x1, x2, x3, x4, x5, x6, x7, x8, x9, x10, x11, x12] (st) h = mv_a w (mw d 348 Q 367 [some w, x1, x2, x3, x4, x5, x6, x7, x8, x9, x10, x11, x12] (w :: st) h) := (mw_at mj_348_366).trans (z_aload_n rfl)
theorem mj_348_367 : mc_P 348 367 = some (.dup, 1, 0, 0, 0) := by decide +kernel
theorem s_348_367 {x0 x1 x2 x3 x4 x5 x6 x7 x8 x9 x10 x11 x12 : Option Value} {w : Value} : mw d 348 Q 367 [x0, x1, x2, x3, x4, x5, x6, x7, x8, x9, x10, x11, x12] (w :: st) h = (w.category = 1 ∧ mw d 348 Q 368 [x0, x1, x2, x3, x4, x5, x6, x7, x8, x9, x10, x11, x12] (w :: w :: st) h) := (mw_at mj_348_367).trans (z_dup)
theorem mj_348_368 : mc_P 348 368 = some (.getfield 376, 3, 14, 45, 0) := by decide +kernel
theorem s_348_368 {x0 x1 x2 x3 x4 x5 x6 x7 x8 x9 x10 x11 x12 : Option Value} {o : Nat} : mw d 348 Q 368 [x0, x1, x2, x3, x4, x5, x6, x7, x8, x9, x10, x11, x12] (.ref o :: st) h = (mg h o 14 ∧ mw d 348 Q 371 [x0, x1, x2, x3, x4, x5, x6, x7, x8, x9, x10, x11, x12] (.int (mh_i h o 45) :: st) h) := (mw_at mj_348_368).trans (z_geti (by decide) (by decide) (Or.inl rfl))
theorem mj_348_371 : mc_P 348 371 = some (.iconst 1, 1, 0, 0, 0) := by decide +kernel
theorem s_348_371 {x0 x1 x2 x3 x4 x5 x6 x7 x8 x9 x10 x11 x12 : Option Value} : mw d 348 Q 371 [x0, x1, x2, x3, x4, x5, x6, x7, x8, x9, x10, x11, x12] (st) h = mw d 348 Q 372 [x0, x1, x2, x3, x4, x5, x6, x7, x8, x9, x10, x11, x12] (.int 1 :: st) h := (mw_at mj_348_371).trans (z_iconst (by decide))
theorem mj_348_372 : mc_P 348 372 = some (.iadd, 1, 0, 0, 0) := by decide +kernel
theorem s_348_372 {x0 x1 x2 x3 x4 x5 x6 x7 x8 x9 x10 x11 x12 : Option Value} {x w : Int32} : mw d 348 Q 372 [x0, x1, x2, x3, x4, x5, x6, x7, x8, x9, x10, x11, x12] (.int w :: .int x :: st) h = mw d 348 Q 373 [x0, x1, x2, x3, x4, x5, x6, x7, x8, x9, x10, x11, x12] (.int (x + w) :: st) h := (mw_at mj_348_372).trans (z_iadd)
theorem mj_348_373 : mc_P 348 373 = some (.putfield 376, 3, 14, 45, 0) := by decide +kernel
theorem s_348_373 {x0 x1 x2 x3 x4 x5 x6 x7 x8 x9 x10 x11 x12 : Option Value} {o : Nat} {w : Int32} : mw d 348 Q 373 [x0, x1, x2, x3, x4, x5, x6, x7, x8, x9, x10, x11, x12] (.int w :: .ref o :: st) h = (mg h o 14 ∧ mw d 348 Q 376 [x0, x1, x2, x3, x4, x5, x6, x7, x8, x9, x10, x11, x12] (st) (mh_si h o 45 w)) := (mw_at mj_348_373).trans (z_puti (by decide) (by decide) rfl)
theorem mj_348_376 : mc_P 348 376 = some (.iinc 11 1, 3, 0, 0, 0) := by decide +kernel
theorem s_348_376 {x0 x1 x2 x3 x4 x5 x6 x7 x8 x9 x10 x12 : Option Value} {w : Int32} : mw d 348 Q 376 [x0, x1, x2, x3, x4, x5, x6, x7, x8, x9, x10, some (.int w), x12] (st) h = mw d 348 Q 379 [x0, x1, x2, x3, x4, x5, x6, x7, x8, x9, mk2 x10, some (.int (w + 1)), x12] (st) h := (mw_at mj_348_376).trans (z_iinc rfl (Nat.le_of_ble_eq_true rfl) (by decide) (me_s1_mk (j := 10) (w := x10) rfl))
theorem mj_348_379 : mc_P 348 379 = some (.goto (-43), 3, 0, 0, 0) := by decide +kernel
theorem s_348_379 {x0 x1 x2 x3 x4 x5 x6 x7 x8 x9 x10 x11 x12 : Option Value} : mw d 348 Q 379 [x0, x1, x2, x3, x4, x5, x6, x7, x8, x9, x10, x11, x12] (st) h = mw d 348 Q 336 [x0, x1, x2, x3, x4, x5, x6, x7, x8, x9, x10, x11, x12] (st) h := (mw_at mj_348_379).trans (z_goto (by decide))
theorem mj_348_382 : mc_P 348 382 = some (.aload_n 0, 1, 0, 0, 0) := by decide +kernel
theorem s_348_382 {x1 x2 x3 x4 x5 x6 x7 x8 x9 x10 x11 x12 : Option Value} {w : Value} : mw d 348 Q 382 [some w, x1, x2, x3, x4, x5, x6, x7, x8, x9, x10, x11, x12] (st) h = mv_a w (mw d 348 Q 383 [some w, x1, x2, x3, x4, x5, x6, x7, x8, x9, x10, x11, x12] (w :: st) h) := (mw_at mj_348_382).trans (z_aload_n rfl)
theorem mj_348_383 : mc_P 348 383 = some (.aload_n 0, 1, 0, 0, 0) := by decide +kernel
theorem s_348_383 {x1 x2 x3 x4 x5 x6 x7 x8 x9 x10 x11 x12 : Option Value} {w : Value} : mw d 348 Q 383 [some w, x1, x2, x3, x4, x5, x6, x7, x8, x9, x10, x11, x12] (st) h = mv_a w (mw d 348 Q 384 [some w, x1, x2, x3, x4, x5, x6, x7, x8, x9, x10, x11, x12] (w :: st) h) := (mw_at mj_348_383).trans (z_aload_n rfl)
theorem mj_348_384 : mc_P 348 384 = some (.iload 4, 2, 0, 0, 0) := by decide +kernel
theorem s_348_384 {x0 x1 x2 x3 x5 x6 x7 x8 x9 x10 x11 x12 : Option Value} {w : Value} : mw d 348 Q 384 [x0, x1, x2, x3, some w, x5, x6, x7, x8, x9, x10, x11, x12] (st) h = mv_i w (mw d 348 Q 386 [x0, x1, x2, x3, some w, x5, x6, x7, x8, x9, x10, x11, x12] (w :: st) h) := (mw_at mj_348_384).trans (z_iload rfl)
theorem mj_348_386 : mc_P 348 386 = some (.invokevirtual 351, 3, 337, 14, 2) := by decide +kernel
theorem s_348_386 {x0 x1 x2 x3 x4 x5 x6 x7 x8 x9 x10 x11 x12 : Option Value} {o : Nat} {a1 : Value} : mw (d + 1) 348 Q 386 [x0, x1, x2, x3, x4, x5, x6, x7, x8, x9, x10, x11, x12] (a1 :: .ref o :: st) h = (mg h o 14 ∧ mca st 8 ∧ mca [.ref o, a1] 3 ∧ mcall d 337 [.ref o, a1] h (mK (d + 1) 348 Q 389 [x0, x1, x2, x3, x4, x5, x6, x7, x8, x9, x10, x11, x12] st)) := (mw_at mj_348_386).trans ((z_invv (As := [a1]) (by decide) rfl rfl).trans (congrArg (And _) (congrArg (And _) (mC_nl nl_337))))
theorem mj_348_389 : mc_P 348 389 = some (.iload 4, 2, 0, 0, 0) := by decide +kernel
theorem s_348_389 {x0 x1 x2 x3 x5 x6 x7 x8 x9 x10 x11 x12 : Option Value} {w : Value} : mw d 348 Q 389 [x0, x1, x2, x3, some w, x5, x6, x7, x8, x9, x10, x11, x12] (st) h = mv_i w (mw d 348 Q 391 [x0, x1, x2, x3, some w, x5, x6, x7, x8, x9, x10, x11, x12] (w :: st) h) := (mw_at mj_348_389).trans (z_iload rfl)
theorem mj_348_391 : mc_P 348 391 = some (.iload_n 2, 1, 0, 0, 0) := by decide +kernel
theorem s_348_391 {x0 x1 x3 x4 x5 x6 x7 x8 x9 x10 x11 x12 : Option Value} {w : Value} : mw d 348 Q 391 [x0, x1, some w, x3, x4, x5, x6, x7, x8, x9, x10, x11, x12] (st) h = mv_i w (mw d 348 Q 392 [x0, x1, some w, x3, x4, x5, x6, x7, x8, x9, x10, x11, x12] (w :: st) h) := (mw_at mj_348_391).trans (z_iload_n rfl)
theorem mj_348_392 : mc_P 348 392 = some (.iload 10, 2, 0, 0, 0) := by decide +kernel
theorem s_348_392 {x0 x1 x2 x3 x4 x5 x6 x7 x8 x9 x11 x12 : Option Value} {w : Value} : mw d 348 Q 392 [x0, x1, x2, x3, x4, x5, x6, x7, x8, x9, some w, x11, x12] (st) h = mv_i w (mw d 348 Q 394 [x0, x1, x2, x3, x4, x5, x6, x7, x8, x9, some w, x11, x12] (w :: st) h) := (mw_at mj_348_392).trans (z_iload rfl)
theorem mj_348_394 : mc_P 348 394 = some (.invokevirtual 382, 3, 346, 14, 5) := by decide +kernel
theorem s_348_394 {x0 x1 x2 x3 x4 x5 x6 x7 x8 x9 x10 x11 x12 : Option Value} {o : Nat} {a1 a2 a3 a4 : Value} : mw (d + 1) 348 Q 394 [x0, x1, x2, x3, x4, x5, x6, x7, x8, x9, x10, x11, x12] (a4 :: a3 :: a2 :: a1 :: .ref o :: st) h = (mg h o 14 ∧ mca st 8 ∧ mca [.ref o, a1, a2, a3, a4] 9 ∧ mcall d 346 [.ref o, a1, a2, a3, a4] h (mK (d + 1) 348 Q 397 [x0, x1, x2, x3, x4, x5, x6, x7, x8, x9, x10, x11, x12] st)) := (mw_at mj_348_394).trans ((z_invv (As := [a1, a2, a3, a4]) (by decide) rfl rfl).trans (congrArg (And _) (congrArg (And _) (mC_nl nl_346))))
theorem mj_348_397 : mc_P 348 397 = some (.aload_n 0, 1, 0, 0, 0) := by decide +kernel
theorem s_348_397 {x1 x2 x3 x4 x5 x6 x7 x8 x9 x10 x11 x12 : Option Value} {w : Value} : mw d 348 Q 397 [some w, x1, x2, x3, x4, x5, x6, x7, x8, x9, x10, x11, x12] (st) h = mv_a w (mw d 348 Q 398 [some w, x1, x2, x3, x4, x5, x6, x7, x8, x9, x10, x11, x12] (w :: st) h) := (mw_at mj_348_397).trans (z_aload_n rfl)
theorem mj_348_398 : mc_P 348 398 = some (.iload 7, 2, 0, 0, 0) := by decide +kernel
theorem s_348_398 {x0 x1 x2 x3 x4 x5 x6 x8 x9 x10 x11 x12 : Option Value} {w : Value} : mw d 348 Q 398 [x0, x1, x2, x3, x4, x5, x6, some w, x8, x9, x10, x11, x12] (st) h = mv_i w (mw d 348 Q 400 [x0, x1, x2, x3, x4, x5, x6, some w, x8, x9, x10, x11, x12] (w :: st) h) := (mw_at mj_348_398).trans (z_iload rfl)
theorem mj_348_400 : mc_P 348 400 = some (.putfield 357, 3, 14, 42, 0) := by decide +kernel
theorem s_348_400 {x0 x1 x2 x3 x4 x5 x6 x7 x8 x9 x10 x11 x12 : Option Value} {o : Nat} {w : Int32} : mw d 348 Q 400 [x0, x1, x2, x3, x4, x5, x6, x7, x8, x9, x10, x11, x12] (.int w :: .ref o :: st) h = (mg h o 14 ∧ mw d 348 Q 403 [x0, x1, x2, x3, x4, x5, x6, x7, x8, x9, x10, x11, x12] (st) (mh_si h o 42 w)) := (mw_at mj_348_400).trans (z_puti (by decide) (by decide) rfl)
theorem mj_348_403 : mc_P 348 403 = some (.aload_n 0, 1, 0, 0, 0) := by decide +kernel
theorem s_348_403 {x1 x2 x3 x4 x5 x6 x7 x8 x9 x10 x11 x12 : Option Value} {w : Value} : mw d 348 Q 403 [some w, x1, x2, x3, x4, x5, x6, x7, x8, x9, x10, x11, x12] (st) h = mv_a w (mw d 348 Q 404 [some w, x1, x2, x3, x4, x5, x6, x7, x8, x9, x10, x11, x12] (w :: st) h) := (mw_at mj_348_403).trans (z_aload_n rfl)
theorem mj_348_404 : mc_P 348 404 = some (.iload 8, 2, 0, 0, 0) := by decide +kernel
theorem s_348_404 {x0 x1 x2 x3 x4 x5 x6 x7 x9 x10 x11 x12 : Option Value} {w : Value} : mw d 348 Q 404 [x0, x1, x2, x3, x4, x5, x6, x7, some w, x9, x10, x11, x12] (st) h = mv_i w (mw d 348 Q 406 [x0, x1, x2, x3, x4, x5, x6, x7, some w, x9, x10, x11, x12] (w :: st) h) := (mw_at mj_348_404).trans (z_iload rfl)
theorem mj_348_406 : mc_P 348 406 = some (.putfield 360, 3, 14, 43, 0) := by decide +kernel
theorem s_348_406 {x0 x1 x2 x3 x4 x5 x6 x7 x8 x9 x10 x11 x12 : Option Value} {o : Nat} {w : Int32} : mw d 348 Q 406 [x0, x1, x2, x3, x4, x5, x6, x7, x8, x9, x10, x11, x12] (.int w :: .ref o :: st) h = (mg h o 14 ∧ mw d 348 Q 409 [x0, x1, x2, x3, x4, x5, x6, x7, x8, x9, x10, x11, x12] (st) (mh_si h o 43 w)) := (mw_at mj_348_406).trans (z_puti (by decide) (by decide) rfl)
theorem mj_348_409 : mc_P 348 409 = some (.aload_n 0, 1, 0, 0, 0) := by decide +kernel
theorem s_348_409 {x1 x2 x3 x4 x5 x6 x7 x8 x9 x10 x11 x12 : Option Value} {w : Value} : mw d 348 Q 409 [some w, x1, x2, x3, x4, x5, x6, x7, x8, x9, x10, x11, x12] (st) h = mv_a w (mw d 348 Q 410 [some w, x1, x2, x3, x4, x5, x6, x7, x8, x9, x10, x11, x12] (w :: st) h) := (mw_at mj_348_409).trans (z_aload_n rfl)
theorem mj_348_410 : mc_P 348 410 = some (.iload 9, 2, 0, 0, 0) := by decide +kernel
theorem s_348_410 {x0 x1 x2 x3 x4 x5 x6 x7 x8 x10 x11 x12 : Option Value} {w : Value} : mw d 348 Q 410 [x0, x1, x2, x3, x4, x5, x6, x7, x8, some w, x10, x11, x12] (st) h = mv_i w (mw d 348 Q 412 [x0, x1, x2, x3, x4, x5, x6, x7, x8, some w, x10, x11, x12] (w :: st) h) := (mw_at mj_348_410).trans (z_iload rfl)
theorem mj_348_412 : mc_P 348 412 = some (.putfield 376, 3, 14, 45, 0) := by decide +kernel
theorem s_348_412 {x0 x1 x2 x3 x4 x5 x6 x7 x8 x9 x10 x11 x12 : Option Value} {o : Nat} {w : Int32} : mw d 348 Q 412 [x0, x1, x2, x3, x4, x5, x6, x7, x8, x9, x10, x11, x12] (.int w :: .ref o :: st) h = (mg h o 14 ∧ mw d 348 Q 415 [x0, x1, x2, x3, x4, x5, x6, x7, x8, x9, x10, x11, x12] (st) (mh_si h o 45 w)) := (mw_at mj_348_412).trans (z_puti (by decide) (by decide) rfl)
theorem mj_348_415 : mc_P 348 415 = some (.return_, 1, 0, 0, 0) := by decide +kernel
theorem s_348_415 {x0 x1 x2 x3 x4 x5 x6 x7 x8 x9 x10 x11 x12 : Option Value} : mw d 348 Q 415 [x0, x1, x2, x3, x4, x5, x6, x7, x8, x9, x10, x11, x12] ([]) h = Q none h := (mw_at mj_348_415).trans (z_vret)
theorem e_348 {a0 : Nat} {a1 : Int32} {a2 : Int32} : mcall d 348 [.ref a0, .int a1, .int a2] h Q = mw d 348 Q 0 [some (.ref a0), some (.int a1), some (.int a2), none, none, none, none, none, none, none, none, none, none] [] h := by
  show mw d 348 Q 0 (me_en (mc_nl 348) _) [] h = _
  rw [nl_348]; rfl

/-! InvariantDeskModel.whichFunction(I)I -/
theorem mj_349_0 : mc_P 349 0 = some (.iload_n 1, 1, 0, 0, 0) := by decide +kernel
theorem s_349_0 {x0 x2 : Option Value} {w : Value} : mw d 349 Q 0 [x0, some w, x2] (st) h = mv_i w (mw d 349 Q 1 [x0, some w, x2] (w :: st) h) := (mw_at mj_349_0).trans (z_iload_n rfl)
theorem mj_349_1 : mc_P 349 1 = some (.istore_n 2, 1, 0, 0, 0) := by decide +kernel
theorem s_349_1 {x0 x1 x2 : Option Value} {w : Int32} : mw d 349 Q 1 [x0, x1, x2] (.int w :: st) h = mw d 349 Q 2 [x0, mk2 x1, some (.int w)] (st) h := (mw_at mj_349_1).trans (z_istore_n (Nat.le_of_ble_eq_true rfl) (me_s1_mk (j := 1) (w := x1) rfl))
theorem mj_349_2 : mc_P 349 2 = some (.aload_n 0, 1, 0, 0, 0) := by decide +kernel
theorem s_349_2 {x1 x2 : Option Value} {w : Value} : mw d 349 Q 2 [some w, x1, x2] (st) h = mv_a w (mw d 349 Q 3 [some w, x1, x2] (w :: st) h) := (mw_at mj_349_2).trans (z_aload_n rfl)
theorem mj_349_3 : mc_P 349 3 = some (.getfield 58, 3, 14, 22, 0) := by decide +kernel
theorem s_349_3 {x0 x1 x2 : Option Value} {o : Nat} : mw d 349 Q 3 [x0, x1, x2] (.ref o :: st) h = (mg h o 14 ∧ mw d 349 Q 6 [x0, x1, x2] (va_rf (mh_r h o 22) :: st) h) := (mw_at mj_349_3).trans (z_getr (by decide) (by decide) rfl)
theorem mj_349_6 : mc_P 349 6 = some (.iload_n 2, 1, 0, 0, 0) := by decide +kernel
theorem s_349_6 {x0 x1 : Option Value} {w : Value} : mw d 349 Q 6 [x0, x1, some w] (st) h = mv_i w (mw d 349 Q 7 [x0, x1, some w] (w :: st) h) := (mw_at mj_349_6).trans (z_iload_n rfl)
theorem mj_349_7 : mc_P 349 7 = some (.iaload, 1, 0, 0, 0) := by decide +kernel
theorem s_349_7 {x0 x1 x2 : Option Value} {o : Nat} {i : Int32} : mw d 349 Q 7 [x0, x1, x2] (.int i :: .ref o :: st) h = (mg h o 100 ∧ mx i (mh_l h o) ∧ mw d 349 Q 8 [x0, x1, x2] (.int (mh_i h o i.toNatClampNeg) :: st) h) := (mw_at mj_349_7).trans (z_iald)
theorem mj_349_8 : mc_P 349 8 = some (.ifCond .eq 13, 3, 0, 0, 0) := by decide +kernel
theorem s_349_8 {x0 x1 x2 : Option Value} {x : Int32} : mw d 349 Q 8 [x0, x1, x2] (.int x :: st) h = mB (x = 0) (mw d 349 Q) 21 11 [x0, x1, x2] st h := (mw_at mj_349_8).trans (z_if_eq (by decide) rfl)
theorem mj_349_11 : mc_P 349 11 = some (.aload_n 0, 1, 0, 0, 0) := by decide +kernel
theorem s_349_11 {x1 x2 : Option Value} {w : Value} : mw d 349 Q 11 [some w, x1, x2] (st) h = mv_a w (mw d 349 Q 12 [some w, x1, x2] (w :: st) h) := (mw_at mj_349_11).trans (z_aload_n rfl)
theorem mj_349_12 : mc_P 349 12 = some (.getfield 58, 3, 14, 22, 0) := by decide +kernel
theorem s_349_12 {x0 x1 x2 : Option Value} {o : Nat} : mw d 349 Q 12 [x0, x1, x2] (.ref o :: st) h = (mg h o 14 ∧ mw d 349 Q 15 [x0, x1, x2] (va_rf (mh_r h o 22) :: st) h) := (mw_at mj_349_12).trans (z_getr (by decide) (by decide) rfl)
theorem mj_349_15 : mc_P 349 15 = some (.iload_n 2, 1, 0, 0, 0) := by decide +kernel
theorem s_349_15 {x0 x1 : Option Value} {w : Value} : mw d 349 Q 15 [x0, x1, some w] (st) h = mv_i w (mw d 349 Q 16 [x0, x1, some w] (w :: st) h) := (mw_at mj_349_15).trans (z_iload_n rfl)
theorem mj_349_16 : mc_P 349 16 = some (.iaload, 1, 0, 0, 0) := by decide +kernel
theorem s_349_16 {x0 x1 x2 : Option Value} {o : Nat} {i : Int32} : mw d 349 Q 16 [x0, x1, x2] (.int i :: .ref o :: st) h = (mg h o 100 ∧ mx i (mh_l h o) ∧ mw d 349 Q 17 [x0, x1, x2] (.int (mh_i h o i.toNatClampNeg) :: st) h) := (mw_at mj_349_16).trans (z_iald)
theorem mj_349_17 : mc_P 349 17 = some (.istore_n 2, 1, 0, 0, 0) := by decide +kernel
theorem s_349_17 {x0 x1 x2 : Option Value} {w : Int32} : mw d 349 Q 17 [x0, x1, x2] (.int w :: st) h = mw d 349 Q 18 [x0, mk2 x1, some (.int w)] (st) h := (mw_at mj_349_17).trans (z_istore_n (Nat.le_of_ble_eq_true rfl) (me_s1_mk (j := 1) (w := x1) rfl))
theorem mj_349_18 : mc_P 349 18 = some (.goto (-16), 3, 0, 0, 0) := by decide +kernel
theorem s_349_18 {x0 x1 x2 : Option Value} : mw d 349 Q 18 [x0, x1, x2] (st) h = mw d 349 Q 2 [x0, x1, x2] (st) h := (mw_at mj_349_18).trans (z_goto (by decide))
theorem mj_349_21 : mc_P 349 21 = some (.iload_n 2, 1, 0, 0, 0) := by decide +kernel
theorem s_349_21 {x0 x1 : Option Value} {w : Value} : mw d 349 Q 21 [x0, x1, some w] (st) h = mv_i w (mw d 349 Q 22 [x0, x1, some w] (w :: st) h) := (mw_at mj_349_21).trans (z_iload_n rfl)
theorem mj_349_22 : mc_P 349 22 = some (.ireturn, 1, 0, 0, 0) := by decide +kernel
theorem s_349_22 {x0 x1 x2 : Option Value} {x : Int32} : mw d 349 Q 22 [x0, x1, x2] ([.int x]) h = (Q (some (.int x)) h) := (mw_at mj_349_22).trans (z_iret)
theorem e_349 {a0 : Nat} {a1 : Int32} : mcall d 349 [.ref a0, .int a1] h Q = mw d 349 Q 0 [some (.ref a0), some (.int a1), none] [] h := by
  show mw d 349 Q 0 (me_en (mc_nl 349) _) [] h = _
  rw [nl_349]; rfl

end SR
