/-! rules of methods, by program (wip/whole/srule.py) -/
section SR
variable {d : Nat} {Q : Option Value → mh_H → Prop} {st : List Value} {h : mh_H}
/-! InvariantDeskModel$Analysis.inductive()I -/
theorem mj_275_0 : mc_P 275 0 = some (.aload_n 0, 1, 0, 0, 0) := by decide +kernel
theorem s_275_0 {x1 : Option Value} {w : Value} : mw d 275 Q 0 [some w, x1] (st) h = mv_a w (mw d 275 Q 1 [some w, x1] (w :: st) h) := (mw_at mj_275_0).trans (z_aload_n rfl)
theorem mj_275_1 : mc_P 275 1 = some (.getfield 289, 3, 12, 9, 0) := by decide +kernel
theorem s_275_1 {x0 x1 : Option Value} {o : Nat} : mw d 275 Q 1 [x0, x1] (.ref o :: st) h = (mg h o 12 ∧ mw d 275 Q 4 [x0, x1] (.int (mh_i h o 9) :: st) h) := (mw_at mj_275_1).trans (z_geti (by decide) (by decide) (Or.inr rfl))
theorem mj_275_4 : mc_P 275 4 = some (.ifCond .eq 6, 3, 0, 0, 0) := by decide +kernel
theorem s_275_4 {x0 x1 : Option Value} {x : Int32} : mw d 275 Q 4 [x0, x1] (.int x :: st) h = mB (x = 0) (mw d 275 Q) 10 7 [x0, x1] st h := (mw_at mj_275_4).trans (z_if_eq (by decide) rfl)
theorem mj_275_7 : mc_P 275 7 = some (.bipush (-3), 2, 0, 0, 0) := by decide +kernel
theorem s_275_7 {x0 x1 : Option Value} : mw d 275 Q 7 [x0, x1] (st) h = mw d 275 Q 9 [x0, x1] (.int (-3) :: st) h := (mw_at mj_275_7).trans (z_bipush (by decide))
theorem mj_275_9 : mc_P 275 9 = some (.ireturn, 1, 0, 0, 0) := by decide +kernel
theorem s_275_9 {x0 x1 : Option Value} {x : Int32} : mw d 275 Q 9 [x0, x1] ([.int x]) h = (Q (some (.int x)) h) := (mw_at mj_275_9).trans (z_iret)
theorem mj_275_10 : mc_P 275 10 = some (.aload_n 0, 1, 0, 0, 0) := by decide +kernel
theorem s_275_10 {x1 : Option Value} {w : Value} : mw d 275 Q 10 [some w, x1] (st) h = mv_a w (mw d 275 Q 11 [some w, x1] (w :: st) h) := (mw_at mj_275_10).trans (z_aload_n rfl)
theorem mj_275_11 : mc_P 275 11 = some (.getfield 15, 3, 12, 5, 0) := by decide +kernel
theorem s_275_11 {x0 x1 : Option Value} {o : Nat} : mw d 275 Q 11 [x0, x1] (.ref o :: st) h = (mg h o 12 ∧ mw d 275 Q 14 [x0, x1] (va_rf (mh_r h o 5) :: st) h) := (mw_at mj_275_11).trans (z_getr (by decide) (by decide) rfl)
theorem mj_275_14 : mc_P 275 14 = some (.iconst 0, 1, 0, 0, 0) := by decide +kernel
theorem s_275_14 {x0 x1 : Option Value} : mw d 275 Q 14 [x0, x1] (st) h = mw d 275 Q 15 [x0, x1] (.int 0 :: st) h := (mw_at mj_275_14).trans (z_iconst (by decide))
theorem mj_275_15 : mc_P 275 15 = some (.aaload, 1, 0, 0, 0) := by decide +kernel
theorem s_275_15 {x0 x1 : Option Value} {o : Nat} {i : Int32} : mw d 275 Q 15 [x0, x1] (.int i :: .ref o :: st) h = (mgr h o ∧ mx i (mh_l h o) ∧ mw d 275 Q 16 [x0, x1] (mrd (mh_k h o) h o i.toNatClampNeg :: st) h) := (mw_at mj_275_15).trans (z_aald)
theorem mj_275_16 : mc_P 275 16 = some (.getfield 217, 3, 13, 0, 0) := by decide +kernel
theorem s_275_16 {x0 x1 : Option Value} {o : Nat} : mw d 275 Q 16 [x0, x1] (.ref o :: st) h = (mg h o 13 ∧ mw d 275 Q 19 [x0, x1] (.int (mh_i h o 0) :: st) h) := (mw_at mj_275_16).trans (z_geti (by decide) (by decide) (Or.inr rfl))
theorem mj_275_19 : mc_P 275 19 = some (.ifCond .eq 6, 3, 0, 0, 0) := by decide +kernel
theorem s_275_19 {x0 x1 : Option Value} {x : Int32} : mw d 275 Q 19 [x0, x1] (.int x :: st) h = mB (x = 0) (mw d 275 Q) 25 22 [x0, x1] st h := (mw_at mj_275_19).trans (z_if_eq (by decide) rfl)
theorem mj_275_22 : mc_P 275 22 = some (.bipush (-2), 2, 0, 0, 0) := by decide +kernel
theorem s_275_22 {x0 x1 : Option Value} : mw d 275 Q 22 [x0, x1] (st) h = mw d 275 Q 24 [x0, x1] (.int (-2) :: st) h := (mw_at mj_275_22).trans (z_bipush (by decide))
theorem mj_275_24 : mc_P 275 24 = some (.ireturn, 1, 0, 0, 0) := by decide +kernel
theorem s_275_24 {x0 x1 : Option Value} {x : Int32} : mw d 275 Q 24 [x0, x1] ([.int x]) h = (Q (some (.int x)) h) := (mw_at mj_275_24).trans (z_iret)
theorem mj_275_25 : mc_P 275 25 = some (.aload_n 0, 1, 0, 0, 0) := by decide +kernel
theorem s_275_25 {x1 : Option Value} {w : Value} : mw d 275 Q 25 [some w, x1] (st) h = mv_a w (mw d 275 Q 26 [some w, x1] (w :: st) h) := (mw_at mj_275_25).trans (z_aload_n rfl)
theorem mj_275_26 : mc_P 275 26 = some (.getfield 381, 3, 12, 13, 0) := by decide +kernel
theorem s_275_26 {x0 x1 : Option Value} {o : Nat} : mw d 275 Q 26 [x0, x1] (.ref o :: st) h = (mg h o 12 ∧ mw d 275 Q 29 [x0, x1] (.int (mh_i h o 13) :: st) h) := (mw_at mj_275_26).trans (z_geti (by decide) (by decide) (Or.inl rfl))
theorem mj_275_29 : mc_P 275 29 = some (.ifCond .ne 5, 3, 0, 0, 0) := by decide +kernel
theorem s_275_29 {x0 x1 : Option Value} {x : Int32} : mw d 275 Q 29 [x0, x1] (.int x :: st) h = mB (¬ x = 0) (mw d 275 Q) 34 32 [x0, x1] st h := (mw_at mj_275_29).trans (z_if_ne (by decide) rfl)
theorem mj_275_32 : mc_P 275 32 = some (.iconst (-1), 1, 0, 0, 0) := by decide +kernel
theorem s_275_32 {x0 x1 : Option Value} : mw d 275 Q 32 [x0, x1] (st) h = mw d 275 Q 33 [x0, x1] (.int (-1) :: st) h := (mw_at mj_275_32).trans (z_iconst (by decide))
theorem mj_275_33 : mc_P 275 33 = some (.ireturn, 1, 0, 0, 0) := by decide +kernel
theorem s_275_33 {x0 x1 : Option Value} {x : Int32} : mw d 275 Q 33 [x0, x1] ([.int x]) h = (Q (some (.int x)) h) := (mw_at mj_275_33).trans (z_iret)
theorem mj_275_34 : mc_P 275 34 = some (.aload_n 0, 1, 0, 0, 0) := by decide +kernel
theorem s_275_34 {x1 : Option Value} {w : Value} : mw d 275 Q 34 [some w, x1] (st) h = mv_a w (mw d 275 Q 35 [some w, x1] (w :: st) h) := (mw_at mj_275_34).trans (z_aload_n rfl)
theorem mj_275_35 : mc_P 275 35 = some (.invokevirtual 394, 3, 271, 12, 1) := by decide +kernel
theorem s_275_35 {x0 x1 : Option Value} {o : Nat} : mw (d + 1) 275 Q 35 [x0, x1] (.ref o :: st) h = (mg h o 12 ∧ mca st 8 ∧ mca [.ref o] 1 ∧ mcall d 271 [.ref o] h (mK (d + 1) 275 Q 38 [x0, x1] st)) := (mw_at mj_275_35).trans ((z_invv (As := []) (by decide) rfl rfl).trans (congrArg (And _) (congrArg (And _) (mC_nl nl_271))))
theorem mj_275_38 : mc_P 275 38 = some (.aload_n 0, 1, 0, 0, 0) := by decide +kernel
theorem s_275_38 {x1 : Option Value} {w : Value} : mw d 275 Q 38 [some w, x1] (st) h = mv_a w (mw d 275 Q 39 [some w, x1] (w :: st) h) := (mw_at mj_275_38).trans (z_aload_n rfl)
theorem mj_275_39 : mc_P 275 39 = some (.iconst 1, 1, 0, 0, 0) := by decide +kernel
theorem s_275_39 {x0 x1 : Option Value} : mw d 275 Q 39 [x0, x1] (st) h = mw d 275 Q 40 [x0, x1] (.int 1 :: st) h := (mw_at mj_275_39).trans (z_iconst (by decide))
theorem mj_275_40 : mc_P 275 40 = some (.putfield 299, 3, 12, 34, 0) := by decide +kernel
theorem s_275_40 {x0 x1 : Option Value} {o : Nat} {w : Int32} : mw d 275 Q 40 [x0, x1] (.int w :: .ref o :: st) h = (mg h o 12 ∧ (w = 0 ∨ w = 1) ∧ mw d 275 Q 43 [x0, x1] (st) (mh_si h o 34 w)) := (mw_at mj_275_40).trans (z_putz (by decide) (by decide) rfl)
theorem mj_275_43 : mc_P 275 43 = some (.aload_n 0, 1, 0, 0, 0) := by decide +kernel
theorem s_275_43 {x1 : Option Value} {w : Value} : mw d 275 Q 43 [some w, x1] (st) h = mv_a w (mw d 275 Q 44 [some w, x1] (w :: st) h) := (mw_at mj_275_43).trans (z_aload_n rfl)
theorem mj_275_44 : mc_P 275 44 = some (.sipush 250, 3, 0, 0, 0) := by decide +kernel
theorem s_275_44 {x0 x1 : Option Value} : mw d 275 Q 44 [x0, x1] (st) h = mw d 275 Q 47 [x0, x1] (.int 250 :: st) h := (mw_at mj_275_44).trans (z_sipush (by decide))
theorem mj_275_47 : mc_P 275 47 = some (.putfield 309, 3, 12, 35, 0) := by decide +kernel
theorem s_275_47 {x0 x1 : Option Value} {o : Nat} {w : Int32} : mw d 275 Q 47 [x0, x1] (.int w :: .ref o :: st) h = (mg h o 12 ∧ mw d 275 Q 50 [x0, x1] (st) (mh_si h o 35 w)) := (mw_at mj_275_47).trans (z_puti (by decide) (by decide) rfl)
theorem mj_275_50 : mc_P 275 50 = some (.aload_n 0, 1, 0, 0, 0) := by decide +kernel
theorem s_275_50 {x1 : Option Value} {w : Value} : mw d 275 Q 50 [some w, x1] (st) h = mv_a w (mw d 275 Q 51 [some w, x1] (w :: st) h) := (mw_at mj_275_50).trans (z_aload_n rfl)
theorem mj_275_51 : mc_P 275 51 = some (.invokevirtual 68, 3, 226, 12, 1) := by decide +kernel
theorem s_275_51 {x0 x1 : Option Value} {o : Nat} : mw (d + 1) 275 Q 51 [x0, x1] (.ref o :: st) h = (mg h o 12 ∧ mca st 8 ∧ mca [.ref o] 1 ∧ mcall d 226 [.ref o] h (mK (d + 1) 275 Q 54 [x0, x1] st)) := (mw_at mj_275_51).trans ((z_invv (As := []) (by decide) rfl rfl).trans (congrArg (And _) (congrArg (And _) (mC_nl nl_226))))
theorem mj_275_54 : mc_P 275 54 = some (.astore_n 1, 1, 0, 0, 0) := by decide +kernel
theorem s_275_54 {x0 x1 : Option Value} {w : Nat} : mw d 275 Q 54 [x0, x1] (.ref w :: st) h = mw d 275 Q 55 [mk2 x0, some (.ref w)] (st) h := (mw_at mj_275_54).trans (z_astore_n (Nat.le_of_ble_eq_true rfl) (me_s1_mk (j := 0) (w := x0) rfl))
theorem s_275_54n {x0 x1 : Option Value} : mw d 275 Q 54 [x0, x1] (.null :: st) h = mw d 275 Q 55 [mk2 x0, some (.null)] (st) h := (mw_at mj_275_54).trans (z_astoreN_n (Nat.le_of_ble_eq_true rfl) (me_s1_mk (j := 0) (w := x0) rfl))
theorem s_275_54x {x0 x1 : Option Value} {w : Nat} : mw d 275 Q 54 [x0, x1] (.retAddr w :: st) h = mw d 275 Q 55 [mk2 x0, some (.retAddr w)] (st) h := (mw_at mj_275_54).trans (z_astoreX_n (Nat.le_of_ble_eq_true rfl) (me_s1_mk (j := 0) (w := x0) rfl))
theorem mj_275_55 : mc_P 275 55 = some (.aload_n 1, 1, 0, 0, 0) := by decide +kernel
theorem s_275_55 {x0 : Option Value} {w : Value} : mw d 275 Q 55 [x0, some w] (st) h = mv_a w (mw d 275 Q 56 [x0, some w] (w :: st) h) := (mw_at mj_275_55).trans (z_aload_n rfl)
theorem mj_275_56 : mc_P 275 56 = some (.invokevirtual 387, 3, 280, 13, 1) := by decide +kernel
theorem s_275_56 {x0 x1 : Option Value} {o : Nat} : mw (d + 1) 275 Q 56 [x0, x1] (.ref o :: st) h = (mg h o 13 ∧ mca st 8 ∧ mca [.ref o] 1 ∧ mcall d 280 [.ref o] h (mK (d + 1) 275 Q 59 [x0, x1] st)) := (mw_at mj_275_56).trans ((z_invv (As := []) (by decide) rfl rfl).trans (congrArg (And _) (congrArg (And _) (mC_nl nl_280))))
theorem mj_275_59 : mc_P 275 59 = some (.aload_n 0, 1, 0, 0, 0) := by decide +kernel
theorem s_275_59 {x1 : Option Value} {w : Value} : mw d 275 Q 59 [some w, x1] (st) h = mv_a w (mw d 275 Q 60 [some w, x1] (w :: st) h) := (mw_at mj_275_59).trans (z_aload_n rfl)
theorem mj_275_60 : mc_P 275 60 = some (.aload_n 0, 1, 0, 0, 0) := by decide +kernel
theorem s_275_60 {x1 : Option Value} {w : Value} : mw d 275 Q 60 [some w, x1] (st) h = mv_a w (mw d 275 Q 61 [some w, x1] (w :: st) h) := (mw_at mj_275_60).trans (z_aload_n rfl)
theorem mj_275_61 : mc_P 275 61 = some (.aload_n 0, 1, 0, 0, 0) := by decide +kernel
theorem s_275_61 {x1 : Option Value} {w : Value} : mw d 275 Q 61 [some w, x1] (st) h = mv_a w (mw d 275 Q 62 [some w, x1] (w :: st) h) := (mw_at mj_275_61).trans (z_aload_n rfl)
theorem mj_275_62 : mc_P 275 62 = some (.getfield 277, 3, 12, 14, 0) := by decide +kernel
theorem s_275_62 {x0 x1 : Option Value} {o : Nat} : mw d 275 Q 62 [x0, x1] (.ref o :: st) h = (mg h o 12 ∧ mw d 275 Q 65 [x0, x1] (.int (mh_i h o 14) :: st) h) := (mw_at mj_275_62).trans (z_geti (by decide) (by decide) (Or.inl rfl))
theorem mj_275_65 : mc_P 275 65 = some (.invokevirtual 283, 3, 256, 12, 2) := by decide +kernel
theorem s_275_65 {x0 x1 : Option Value} {o : Nat} {a1 : Value} : mw (d + 1) 275 Q 65 [x0, x1] (a1 :: .ref o :: st) h = (mg h o 12 ∧ mca st 8 ∧ mca [.ref o, a1] 3 ∧ mcall d 256 [.ref o, a1] h (mK (d + 1) 275 Q 68 [x0, x1] st)) := (mw_at mj_275_65).trans ((z_invv (As := [a1]) (by decide) rfl rfl).trans (congrArg (And _) (congrArg (And _) (mC_nl nl_256))))
theorem mj_275_68 : mc_P 275 68 = some (.iconst 0, 1, 0, 0, 0) := by decide +kernel
theorem s_275_68 {x0 x1 : Option Value} : mw d 275 Q 68 [x0, x1] (st) h = mw d 275 Q 69 [x0, x1] (.int 0 :: st) h := (mw_at mj_275_68).trans (z_iconst (by decide))
theorem mj_275_69 : mc_P 275 69 = some (.aload_n 0, 1, 0, 0, 0) := by decide +kernel
theorem s_275_69 {x1 : Option Value} {w : Value} : mw d 275 Q 69 [some w, x1] (st) h = mv_a w (mw d 275 Q 70 [some w, x1] (w :: st) h) := (mw_at mj_275_69).trans (z_aload_n rfl)
theorem mj_275_70 : mc_P 275 70 = some (.getfield 384, 3, 12, 7, 0) := by decide +kernel
theorem s_275_70 {x0 x1 : Option Value} {o : Nat} : mw d 275 Q 70 [x0, x1] (.ref o :: st) h = (mg h o 12 ∧ mw d 275 Q 73 [x0, x1] (.int (mh_i h o 7) :: st) h) := (mw_at mj_275_70).trans (z_geti (by decide) (by decide) (Or.inl rfl))
theorem mj_275_73 : mc_P 275 73 = some (.iconst 1, 1, 0, 0, 0) := by decide +kernel
theorem s_275_73 {x0 x1 : Option Value} : mw d 275 Q 73 [x0, x1] (st) h = mw d 275 Q 74 [x0, x1] (.int 1 :: st) h := (mw_at mj_275_73).trans (z_iconst (by decide))
theorem mj_275_74 : mc_P 275 74 = some (.isub, 1, 0, 0, 0) := by decide +kernel
theorem s_275_74 {x0 x1 : Option Value} {x w : Int32} : mw d 275 Q 74 [x0, x1] (.int w :: .int x :: st) h = mw d 275 Q 75 [x0, x1] (.int (x - w) :: st) h := (mw_at mj_275_74).trans (z_isub)
theorem mj_275_75 : mc_P 275 75 = some (.aload_n 1, 1, 0, 0, 0) := by decide +kernel
theorem s_275_75 {x0 : Option Value} {w : Value} : mw d 275 Q 75 [x0, some w] (st) h = mv_a w (mw d 275 Q 76 [x0, some w] (w :: st) h) := (mw_at mj_275_75).trans (z_aload_n rfl)
theorem mj_275_76 : mc_P 275 76 = some (.invokevirtual 359, 3, 257, 12, 5) := by decide +kernel
theorem s_275_76 {x0 x1 : Option Value} {o : Nat} {a1 a2 a3 a4 : Value} : mw (d + 1) 275 Q 76 [x0, x1] (a4 :: a3 :: a2 :: a1 :: .ref o :: st) h = (mg h o 12 ∧ mca st 8 ∧ mca [.ref o, a1, a2, a3, a4] 12 ∧ mcall d 257 [.ref o, a1, a2, a3, a4] h (mK (d + 1) 275 Q 79 [x0, x1] st)) := (mw_at mj_275_76).trans ((z_invv (As := [a1, a2, a3, a4]) (by decide) rfl rfl).trans (congrArg (And _) (congrArg (And _) (mC_nl nl_257))))
theorem mj_275_79 : mc_P 275 79 = some (.aload_n 0, 1, 0, 0, 0) := by decide +kernel
theorem s_275_79 {x1 : Option Value} {w : Value} : mw d 275 Q 79 [some w, x1] (st) h = mv_a w (mw d 275 Q 80 [some w, x1] (w :: st) h) := (mw_at mj_275_79).trans (z_aload_n rfl)
theorem mj_275_80 : mc_P 275 80 = some (.iconst 0, 1, 0, 0, 0) := by decide +kernel
theorem s_275_80 {x0 x1 : Option Value} : mw d 275 Q 80 [x0, x1] (st) h = mw d 275 Q 81 [x0, x1] (.int 0 :: st) h := (mw_at mj_275_80).trans (z_iconst (by decide))
theorem mj_275_81 : mc_P 275 81 = some (.putfield 299, 3, 12, 34, 0) := by decide +kernel
theorem s_275_81 {x0 x1 : Option Value} {o : Nat} {w : Int32} : mw d 275 Q 81 [x0, x1] (.int w :: .ref o :: st) h = (mg h o 12 ∧ (w = 0 ∨ w = 1) ∧ mw d 275 Q 84 [x0, x1] (st) (mh_si h o 34 w)) := (mw_at mj_275_81).trans (z_putz (by decide) (by decide) rfl)
theorem mj_275_84 : mc_P 275 84 = some (.aload_n 0, 1, 0, 0, 0) := by decide +kernel
theorem s_275_84 {x1 : Option Value} {w : Value} : mw d 275 Q 84 [some w, x1] (st) h = mv_a w (mw d 275 Q 85 [some w, x1] (w :: st) h) := (mw_at mj_275_84).trans (z_aload_n rfl)
theorem mj_275_85 : mc_P 275 85 = some (.getfield 309, 3, 12, 35, 0) := by decide +kernel
theorem s_275_85 {x0 x1 : Option Value} {o : Nat} : mw d 275 Q 85 [x0, x1] (.ref o :: st) h = (mg h o 12 ∧ mw d 275 Q 88 [x0, x1] (.int (mh_i h o 35) :: st) h) := (mw_at mj_275_85).trans (z_geti (by decide) (by decide) (Or.inl rfl))
theorem mj_275_88 : mc_P 275 88 = some (.sipush 250, 3, 0, 0, 0) := by decide +kernel
theorem s_275_88 {x0 x1 : Option Value} : mw d 275 Q 88 [x0, x1] (st) h = mw d 275 Q 91 [x0, x1] (.int 250 :: st) h := (mw_at mj_275_88).trans (z_sipush (by decide))
theorem mj_275_91 : mc_P 275 91 = some (.if_icmp .ne 7, 3, 0, 0, 0) := by decide +kernel
theorem s_275_91 {x0 x1 : Option Value} {x w : Int32} : mw d 275 Q 91 [x0, x1] (.int w :: .int x :: st) h = mB (¬ x = w) (mw d 275 Q) 98 94 [x0, x1] st h := (mw_at mj_275_91).trans (z_icmp_ne (by decide) rfl)
theorem mj_275_94 : mc_P 275 94 = some (.iconst (-1), 1, 0, 0, 0) := by decide +kernel
theorem s_275_94 {x0 x1 : Option Value} : mw d 275 Q 94 [x0, x1] (st) h = mw d 275 Q 95 [x0, x1] (.int (-1) :: st) h := (mw_at mj_275_94).trans (z_iconst (by decide))
theorem mj_275_95 : mc_P 275 95 = some (.goto 7, 3, 0, 0, 0) := by decide +kernel
theorem s_275_95 {x0 x1 : Option Value} : mw d 275 Q 95 [x0, x1] (st) h = mw d 275 Q 102 [x0, x1] (st) h := (mw_at mj_275_95).trans (z_goto (by decide))
theorem mj_275_98 : mc_P 275 98 = some (.aload_n 0, 1, 0, 0, 0) := by decide +kernel
theorem s_275_98 {x1 : Option Value} {w : Value} : mw d 275 Q 98 [some w, x1] (st) h = mv_a w (mw d 275 Q 99 [some w, x1] (w :: st) h) := (mw_at mj_275_98).trans (z_aload_n rfl)
theorem mj_275_99 : mc_P 275 99 = some (.getfield 309, 3, 12, 35, 0) := by decide +kernel
theorem s_275_99 {x0 x1 : Option Value} {o : Nat} : mw d 275 Q 99 [x0, x1] (.ref o :: st) h = (mg h o 12 ∧ mw d 275 Q 102 [x0, x1] (.int (mh_i h o 35) :: st) h) := (mw_at mj_275_99).trans (z_geti (by decide) (by decide) (Or.inl rfl))
theorem mj_275_102 : mc_P 275 102 = some (.ireturn, 1, 0, 0, 0) := by decide +kernel
theorem s_275_102 {x0 x1 : Option Value} {x : Int32} : mw d 275 Q 102 [x0, x1] ([.int x]) h = (Q (some (.int x)) h) := (mw_at mj_275_102).trans (z_iret)
theorem e_275 {a0 : Nat} : mcall d 275 [.ref a0] h Q = mw d 275 Q 0 [some (.ref a0), none] [] h := by
  show mw d 275 Q 0 (me_en (mc_nl 275) _) [] h = _
  rw [nl_275]; rfl

/-! InvariantDeskModel$Known.begin()V -/
theorem mj_280_0 : mc_P 280 0 = some (.aload_n 0, 1, 0, 0, 0) := by decide +kernel
theorem s_280_0 {w : Value} : mw d 280 Q 0 [some w] (st) h = mv_a w (mw d 280 Q 1 [some w] (w :: st) h) := (mw_at mj_280_0).trans (z_aload_n rfl)
theorem mj_280_1 : mc_P 280 1 = some (.iconst 0, 1, 0, 0, 0) := by decide +kernel
theorem s_280_1 {x0 : Option Value} : mw d 280 Q 1 [x0] (st) h = mw d 280 Q 2 [x0] (.int 0 :: st) h := (mw_at mj_280_1).trans (z_iconst (by decide))
theorem mj_280_2 : mc_P 280 2 = some (.putfield 35, 3, 13, 0, 0) := by decide +kernel
theorem s_280_2 {x0 : Option Value} {o : Nat} {w : Int32} : mw d 280 Q 2 [x0] (.int w :: .ref o :: st) h = (mg h o 13 ∧ (w = 0 ∨ w = 1) ∧ mw d 280 Q 5 [x0] (st) (mh_si h o 0 w)) := (mw_at mj_280_2).trans (z_putz (by decide) (by decide) rfl)
theorem mj_280_5 : mc_P 280 5 = some (.aload_n 0, 1, 0, 0, 0) := by decide +kernel
theorem s_280_5 {w : Value} : mw d 280 Q 5 [some w] (st) h = mv_a w (mw d 280 Q 6 [some w] (w :: st) h) := (mw_at mj_280_5).trans (z_aload_n rfl)
theorem mj_280_6 : mc_P 280 6 = some (.iconst 0, 1, 0, 0, 0) := by decide +kernel
theorem s_280_6 {x0 : Option Value} : mw d 280 Q 6 [x0] (st) h = mw d 280 Q 7 [x0] (.int 0 :: st) h := (mw_at mj_280_6).trans (z_iconst (by decide))
theorem mj_280_7 : mc_P 280 7 = some (.putfield 39, 3, 13, 1, 0) := by decide +kernel
theorem s_280_7 {x0 : Option Value} {o : Nat} {w : Int32} : mw d 280 Q 7 [x0] (.int w :: .ref o :: st) h = (mg h o 13 ∧ mw d 280 Q 10 [x0] (st) (mh_si h o 1 w)) := (mw_at mj_280_7).trans (z_puti (by decide) (by decide) rfl)
theorem mj_280_10 : mc_P 280 10 = some (.aload_n 0, 1, 0, 0, 0) := by decide +kernel
theorem s_280_10 {w : Value} : mw d 280 Q 10 [some w] (st) h = mv_a w (mw d 280 Q 11 [some w] (w :: st) h) := (mw_at mj_280_10).trans (z_aload_n rfl)
theorem mj_280_11 : mc_P 280 11 = some (.iconst 0, 1, 0, 0, 0) := by decide +kernel
theorem s_280_11 {x0 : Option Value} : mw d 280 Q 11 [x0] (st) h = mw d 280 Q 12 [x0] (.int 0 :: st) h := (mw_at mj_280_11).trans (z_iconst (by decide))
theorem mj_280_12 : mc_P 280 12 = some (.putfield 43, 3, 13, 2, 0) := by decide +kernel
theorem s_280_12 {x0 : Option Value} {o : Nat} {w : Int32} : mw d 280 Q 12 [x0] (.int w :: .ref o :: st) h = (mg h o 13 ∧ mw d 280 Q 15 [x0] (st) (mh_si h o 2 w)) := (mw_at mj_280_12).trans (z_puti (by decide) (by decide) rfl)
theorem mj_280_15 : mc_P 280 15 = some (.return_, 1, 0, 0, 0) := by decide +kernel
theorem s_280_15 {x0 : Option Value} : mw d 280 Q 15 [x0] ([]) h = Q none h := (mw_at mj_280_15).trans (z_vret)
theorem e_280 {a0 : Nat} : mcall d 280 [.ref a0] h Q = mw d 280 Q 0 [some (.ref a0)] [] h := by
  show mw d 280 Q 0 (me_en (mc_nl 280) _) [] h = _
  rw [nl_280]; rfl

/-! InvariantDeskModel$Known.become(LInvariantDeskModel$Known;)V -/
theorem mj_281_0 : mc_P 281 0 = some (.aload_n 0, 1, 0, 0, 0) := by decide +kernel
theorem s_281_0 {x1 : Option Value} {w : Value} : mw d 281 Q 0 [some w, x1] (st) h = mv_a w (mw d 281 Q 1 [some w, x1] (w :: st) h) := (mw_at mj_281_0).trans (z_aload_n rfl)
theorem mj_281_1 : mc_P 281 1 = some (.aload_n 1, 1, 0, 0, 0) := by decide +kernel
theorem s_281_1 {x0 : Option Value} {w : Value} : mw d 281 Q 1 [x0, some w] (st) h = mv_a w (mw d 281 Q 2 [x0, some w] (w :: st) h) := (mw_at mj_281_1).trans (z_aload_n rfl)
theorem mj_281_2 : mc_P 281 2 = some (.getfield 35, 3, 13, 0, 0) := by decide +kernel
theorem s_281_2 {x0 x1 : Option Value} {o : Nat} : mw d 281 Q 2 [x0, x1] (.ref o :: st) h = (mg h o 13 ∧ mw d 281 Q 5 [x0, x1] (.int (mh_i h o 0) :: st) h) := (mw_at mj_281_2).trans (z_geti (by decide) (by decide) (Or.inr rfl))
theorem mj_281_5 : mc_P 281 5 = some (.putfield 35, 3, 13, 0, 0) := by decide +kernel
theorem s_281_5 {x0 x1 : Option Value} {o : Nat} {w : Int32} : mw d 281 Q 5 [x0, x1] (.int w :: .ref o :: st) h = (mg h o 13 ∧ (w = 0 ∨ w = 1) ∧ mw d 281 Q 8 [x0, x1] (st) (mh_si h o 0 w)) := (mw_at mj_281_5).trans (z_putz (by decide) (by decide) rfl)
theorem mj_281_8 : mc_P 281 8 = some (.aload_n 0, 1, 0, 0, 0) := by decide +kernel
theorem s_281_8 {x1 : Option Value} {w : Value} : mw d 281 Q 8 [some w, x1] (st) h = mv_a w (mw d 281 Q 9 [some w, x1] (w :: st) h) := (mw_at mj_281_8).trans (z_aload_n rfl)
theorem mj_281_9 : mc_P 281 9 = some (.aload_n 1, 1, 0, 0, 0) := by decide +kernel
theorem s_281_9 {x0 : Option Value} {w : Value} : mw d 281 Q 9 [x0, some w] (st) h = mv_a w (mw d 281 Q 10 [x0, some w] (w :: st) h) := (mw_at mj_281_9).trans (z_aload_n rfl)
theorem mj_281_10 : mc_P 281 10 = some (.getfield 39, 3, 13, 1, 0) := by decide +kernel
theorem s_281_10 {x0 x1 : Option Value} {o : Nat} : mw d 281 Q 10 [x0, x1] (.ref o :: st) h = (mg h o 13 ∧ mw d 281 Q 13 [x0, x1] (.int (mh_i h o 1) :: st) h) := (mw_at mj_281_10).trans (z_geti (by decide) (by decide) (Or.inl rfl))
theorem mj_281_13 : mc_P 281 13 = some (.putfield 39, 3, 13, 1, 0) := by decide +kernel
theorem s_281_13 {x0 x1 : Option Value} {o : Nat} {w : Int32} : mw d 281 Q 13 [x0, x1] (.int w :: .ref o :: st) h = (mg h o 13 ∧ mw d 281 Q 16 [x0, x1] (st) (mh_si h o 1 w)) := (mw_at mj_281_13).trans (z_puti (by decide) (by decide) rfl)
theorem mj_281_16 : mc_P 281 16 = some (.aload_n 0, 1, 0, 0, 0) := by decide +kernel
theorem s_281_16 {x1 : Option Value} {w : Value} : mw d 281 Q 16 [some w, x1] (st) h = mv_a w (mw d 281 Q 17 [some w, x1] (w :: st) h) := (mw_at mj_281_16).trans (z_aload_n rfl)
theorem mj_281_17 : mc_P 281 17 = some (.aload_n 1, 1, 0, 0, 0) := by decide +kernel
theorem s_281_17 {x0 : Option Value} {w : Value} : mw d 281 Q 17 [x0, some w] (st) h = mv_a w (mw d 281 Q 18 [x0, some w] (w :: st) h) := (mw_at mj_281_17).trans (z_aload_n rfl)
theorem mj_281_18 : mc_P 281 18 = some (.getfield 43, 3, 13, 2, 0) := by decide +kernel
theorem s_281_18 {x0 x1 : Option Value} {o : Nat} : mw d 281 Q 18 [x0, x1] (.ref o :: st) h = (mg h o 13 ∧ mw d 281 Q 21 [x0, x1] (.int (mh_i h o 2) :: st) h) := (mw_at mj_281_18).trans (z_geti (by decide) (by decide) (Or.inl rfl))
theorem mj_281_21 : mc_P 281 21 = some (.putfield 43, 3, 13, 2, 0) := by decide +kernel
theorem s_281_21 {x0 x1 : Option Value} {o : Nat} {w : Int32} : mw d 281 Q 21 [x0, x1] (.int w :: .ref o :: st) h = (mg h o 13 ∧ mw d 281 Q 24 [x0, x1] (st) (mh_si h o 2 w)) := (mw_at mj_281_21).trans (z_puti (by decide) (by decide) rfl)
theorem mj_281_24 : mc_P 281 24 = some (.aload_n 1, 1, 0, 0, 0) := by decide +kernel
theorem s_281_24 {x0 : Option Value} {w : Value} : mw d 281 Q 24 [x0, some w] (st) h = mv_a w (mw d 281 Q 25 [x0, some w] (w :: st) h) := (mw_at mj_281_24).trans (z_aload_n rfl)
theorem mj_281_25 : mc_P 281 25 = some (.getfield 9, 3, 13, 3, 0) := by decide +kernel
theorem s_281_25 {x0 x1 : Option Value} {o : Nat} : mw d 281 Q 25 [x0, x1] (.ref o :: st) h = (mg h o 13 ∧ mw d 281 Q 28 [x0, x1] (va_rf (mh_r h o 3) :: st) h) := (mw_at mj_281_25).trans (z_getr (by decide) (by decide) rfl)
theorem mj_281_28 : mc_P 281 28 = some (.iconst 0, 1, 0, 0, 0) := by decide +kernel
theorem s_281_28 {x0 x1 : Option Value} : mw d 281 Q 28 [x0, x1] (st) h = mw d 281 Q 29 [x0, x1] (.int 0 :: st) h := (mw_at mj_281_28).trans (z_iconst (by decide))
theorem mj_281_29 : mc_P 281 29 = some (.aload_n 0, 1, 0, 0, 0) := by decide +kernel
theorem s_281_29 {x1 : Option Value} {w : Value} : mw d 281 Q 29 [some w, x1] (st) h = mv_a w (mw d 281 Q 30 [some w, x1] (w :: st) h) := (mw_at mj_281_29).trans (z_aload_n rfl)
theorem mj_281_30 : mc_P 281 30 = some (.getfield 9, 3, 13, 3, 0) := by decide +kernel
theorem s_281_30 {x0 x1 : Option Value} {o : Nat} : mw d 281 Q 30 [x0, x1] (.ref o :: st) h = (mg h o 13 ∧ mw d 281 Q 33 [x0, x1] (va_rf (mh_r h o 3) :: st) h) := (mw_at mj_281_30).trans (z_getr (by decide) (by decide) rfl)
theorem mj_281_33 : mc_P 281 33 = some (.iconst 0, 1, 0, 0, 0) := by decide +kernel
theorem s_281_33 {x0 x1 : Option Value} : mw d 281 Q 33 [x0, x1] (st) h = mw d 281 Q 34 [x0, x1] (.int 0 :: st) h := (mw_at mj_281_33).trans (z_iconst (by decide))
theorem mj_281_34 : mc_P 281 34 = some (.aload_n 0, 1, 0, 0, 0) := by decide +kernel
theorem s_281_34 {x1 : Option Value} {w : Value} : mw d 281 Q 34 [some w, x1] (st) h = mv_a w (mw d 281 Q 35 [some w, x1] (w :: st) h) := (mw_at mj_281_34).trans (z_aload_n rfl)
theorem mj_281_35 : mc_P 281 35 = some (.getfield 9, 3, 13, 3, 0) := by decide +kernel
theorem s_281_35 {x0 x1 : Option Value} {o : Nat} : mw d 281 Q 35 [x0, x1] (.ref o :: st) h = (mg h o 13 ∧ mw d 281 Q 38 [x0, x1] (va_rf (mh_r h o 3) :: st) h) := (mw_at mj_281_35).trans (z_getr (by decide) (by decide) rfl)
theorem mj_281_38 : mc_P 281 38 = some (.arraylength, 1, 0, 0, 0) := by decide +kernel
theorem s_281_38 {x0 x1 : Option Value} {o : Nat} : mw d 281 Q 38 [x0, x1] (.ref o :: st) h = (mga h o ∧ mw d 281 Q 39 [x0, x1] (.int (Int32.ofNat (mh_l h o)) :: st) h) := (mw_at mj_281_38).trans (z_alen)
theorem mj_281_39 : mc_P 281 39 = some (.invokestatic 46, 3, 0, 30, 0) := by decide +kernel
theorem s_281_39 {x0 x1 : Option Value} {o dd : Nat} {sp dp n : Int32} : mw d 281 Q 39 [x0, x1] (.int n :: .int dp :: .ref dd :: .int sp :: .ref o :: st) h = (me_cpok h o dd sp dp n = true ∧ mca st 8 ∧ mw d 281 Q 42 [x0, x1] (st) (mh_cp h o sp.toNatClampNeg dd dp.toNatClampNeg n.toNatClampNeg)) := (mw_at mj_281_39).trans (z_copy)
theorem mj_281_42 : mc_P 281 42 = some (.aload_n 1, 1, 0, 0, 0) := by decide +kernel
theorem s_281_42 {x0 : Option Value} {w : Value} : mw d 281 Q 42 [x0, some w] (st) h = mv_a w (mw d 281 Q 43 [x0, some w] (w :: st) h) := (mw_at mj_281_42).trans (z_aload_n rfl)
theorem mj_281_43 : mc_P 281 43 = some (.getfield 13, 3, 13, 4, 0) := by decide +kernel
theorem s_281_43 {x0 x1 : Option Value} {o : Nat} : mw d 281 Q 43 [x0, x1] (.ref o :: st) h = (mg h o 13 ∧ mw d 281 Q 46 [x0, x1] (va_rf (mh_r h o 4) :: st) h) := (mw_at mj_281_43).trans (z_getr (by decide) (by decide) rfl)
theorem mj_281_46 : mc_P 281 46 = some (.iconst 0, 1, 0, 0, 0) := by decide +kernel
theorem s_281_46 {x0 x1 : Option Value} : mw d 281 Q 46 [x0, x1] (st) h = mw d 281 Q 47 [x0, x1] (.int 0 :: st) h := (mw_at mj_281_46).trans (z_iconst (by decide))
theorem mj_281_47 : mc_P 281 47 = some (.aload_n 0, 1, 0, 0, 0) := by decide +kernel
theorem s_281_47 {x1 : Option Value} {w : Value} : mw d 281 Q 47 [some w, x1] (st) h = mv_a w (mw d 281 Q 48 [some w, x1] (w :: st) h) := (mw_at mj_281_47).trans (z_aload_n rfl)
theorem mj_281_48 : mc_P 281 48 = some (.getfield 13, 3, 13, 4, 0) := by decide +kernel
theorem s_281_48 {x0 x1 : Option Value} {o : Nat} : mw d 281 Q 48 [x0, x1] (.ref o :: st) h = (mg h o 13 ∧ mw d 281 Q 51 [x0, x1] (va_rf (mh_r h o 4) :: st) h) := (mw_at mj_281_48).trans (z_getr (by decide) (by decide) rfl)
theorem mj_281_51 : mc_P 281 51 = some (.iconst 0, 1, 0, 0, 0) := by decide +kernel
theorem s_281_51 {x0 x1 : Option Value} : mw d 281 Q 51 [x0, x1] (st) h = mw d 281 Q 52 [x0, x1] (.int 0 :: st) h := (mw_at mj_281_51).trans (z_iconst (by decide))
theorem mj_281_52 : mc_P 281 52 = some (.bipush 6, 2, 0, 0, 0) := by decide +kernel
theorem s_281_52 {x0 x1 : Option Value} : mw d 281 Q 52 [x0, x1] (st) h = mw d 281 Q 54 [x0, x1] (.int 6 :: st) h := (mw_at mj_281_52).trans (z_bipush (by decide))
theorem mj_281_54 : mc_P 281 54 = some (.invokestatic 46, 3, 0, 30, 0) := by decide +kernel
theorem s_281_54 {x0 x1 : Option Value} {o dd : Nat} {sp dp n : Int32} : mw d 281 Q 54 [x0, x1] (.int n :: .int dp :: .ref dd :: .int sp :: .ref o :: st) h = (me_cpok h o dd sp dp n = true ∧ mca st 8 ∧ mw d 281 Q 57 [x0, x1] (st) (mh_cp h o sp.toNatClampNeg dd dp.toNatClampNeg n.toNatClampNeg)) := (mw_at mj_281_54).trans (z_copy)
theorem mj_281_57 : mc_P 281 57 = some (.aload_n 1, 1, 0, 0, 0) := by decide +kernel
theorem s_281_57 {x0 : Option Value} {w : Value} : mw d 281 Q 57 [x0, some w] (st) h = mv_a w (mw d 281 Q 58 [x0, some w] (w :: st) h) := (mw_at mj_281_57).trans (z_aload_n rfl)
theorem mj_281_58 : mc_P 281 58 = some (.getfield 16, 3, 13, 5, 0) := by decide +kernel
theorem s_281_58 {x0 x1 : Option Value} {o : Nat} : mw d 281 Q 58 [x0, x1] (.ref o :: st) h = (mg h o 13 ∧ mw d 281 Q 61 [x0, x1] (va_rf (mh_r h o 5) :: st) h) := (mw_at mj_281_58).trans (z_getr (by decide) (by decide) rfl)
theorem mj_281_61 : mc_P 281 61 = some (.iconst 0, 1, 0, 0, 0) := by decide +kernel
theorem s_281_61 {x0 x1 : Option Value} : mw d 281 Q 61 [x0, x1] (st) h = mw d 281 Q 62 [x0, x1] (.int 0 :: st) h := (mw_at mj_281_61).trans (z_iconst (by decide))
theorem mj_281_62 : mc_P 281 62 = some (.aload_n 0, 1, 0, 0, 0) := by decide +kernel
theorem s_281_62 {x1 : Option Value} {w : Value} : mw d 281 Q 62 [some w, x1] (st) h = mv_a w (mw d 281 Q 63 [some w, x1] (w :: st) h) := (mw_at mj_281_62).trans (z_aload_n rfl)
theorem mj_281_63 : mc_P 281 63 = some (.getfield 16, 3, 13, 5, 0) := by decide +kernel
theorem s_281_63 {x0 x1 : Option Value} {o : Nat} : mw d 281 Q 63 [x0, x1] (.ref o :: st) h = (mg h o 13 ∧ mw d 281 Q 66 [x0, x1] (va_rf (mh_r h o 5) :: st) h) := (mw_at mj_281_63).trans (z_getr (by decide) (by decide) rfl)
theorem mj_281_66 : mc_P 281 66 = some (.iconst 0, 1, 0, 0, 0) := by decide +kernel
theorem s_281_66 {x0 x1 : Option Value} : mw d 281 Q 66 [x0, x1] (st) h = mw d 281 Q 67 [x0, x1] (.int 0 :: st) h := (mw_at mj_281_66).trans (z_iconst (by decide))
theorem mj_281_67 : mc_P 281 67 = some (.bipush 6, 2, 0, 0, 0) := by decide +kernel
theorem s_281_67 {x0 x1 : Option Value} : mw d 281 Q 67 [x0, x1] (st) h = mw d 281 Q 69 [x0, x1] (.int 6 :: st) h := (mw_at mj_281_67).trans (z_bipush (by decide))
theorem mj_281_69 : mc_P 281 69 = some (.invokestatic 46, 3, 0, 30, 0) := by decide +kernel
theorem s_281_69 {x0 x1 : Option Value} {o dd : Nat} {sp dp n : Int32} : mw d 281 Q 69 [x0, x1] (.int n :: .int dp :: .ref dd :: .int sp :: .ref o :: st) h = (me_cpok h o dd sp dp n = true ∧ mca st 8 ∧ mw d 281 Q 72 [x0, x1] (st) (mh_cp h o sp.toNatClampNeg dd dp.toNatClampNeg n.toNatClampNeg)) := (mw_at mj_281_69).trans (z_copy)
theorem mj_281_72 : mc_P 281 72 = some (.aload_n 1, 1, 0, 0, 0) := by decide +kernel
theorem s_281_72 {x0 : Option Value} {w : Value} : mw d 281 Q 72 [x0, some w] (st) h = mv_a w (mw d 281 Q 73 [x0, some w] (w :: st) h) := (mw_at mj_281_72).trans (z_aload_n rfl)
theorem mj_281_73 : mc_P 281 73 = some (.getfield 19, 3, 13, 6, 0) := by decide +kernel
theorem s_281_73 {x0 x1 : Option Value} {o : Nat} : mw d 281 Q 73 [x0, x1] (.ref o :: st) h = (mg h o 13 ∧ mw d 281 Q 76 [x0, x1] (va_rf (mh_r h o 6) :: st) h) := (mw_at mj_281_73).trans (z_getr (by decide) (by decide) rfl)
theorem mj_281_76 : mc_P 281 76 = some (.iconst 0, 1, 0, 0, 0) := by decide +kernel
theorem s_281_76 {x0 x1 : Option Value} : mw d 281 Q 76 [x0, x1] (st) h = mw d 281 Q 77 [x0, x1] (.int 0 :: st) h := (mw_at mj_281_76).trans (z_iconst (by decide))
theorem mj_281_77 : mc_P 281 77 = some (.aload_n 0, 1, 0, 0, 0) := by decide +kernel
theorem s_281_77 {x1 : Option Value} {w : Value} : mw d 281 Q 77 [some w, x1] (st) h = mv_a w (mw d 281 Q 78 [some w, x1] (w :: st) h) := (mw_at mj_281_77).trans (z_aload_n rfl)
theorem mj_281_78 : mc_P 281 78 = some (.getfield 19, 3, 13, 6, 0) := by decide +kernel
theorem s_281_78 {x0 x1 : Option Value} {o : Nat} : mw d 281 Q 78 [x0, x1] (.ref o :: st) h = (mg h o 13 ∧ mw d 281 Q 81 [x0, x1] (va_rf (mh_r h o 6) :: st) h) := (mw_at mj_281_78).trans (z_getr (by decide) (by decide) rfl)
theorem mj_281_81 : mc_P 281 81 = some (.iconst 0, 1, 0, 0, 0) := by decide +kernel
theorem s_281_81 {x0 x1 : Option Value} : mw d 281 Q 81 [x0, x1] (st) h = mw d 281 Q 82 [x0, x1] (.int 0 :: st) h := (mw_at mj_281_81).trans (z_iconst (by decide))
theorem mj_281_82 : mc_P 281 82 = some (.bipush 6, 2, 0, 0, 0) := by decide +kernel
theorem s_281_82 {x0 x1 : Option Value} : mw d 281 Q 82 [x0, x1] (st) h = mw d 281 Q 84 [x0, x1] (.int 6 :: st) h := (mw_at mj_281_82).trans (z_bipush (by decide))
theorem mj_281_84 : mc_P 281 84 = some (.invokestatic 46, 3, 0, 30, 0) := by decide +kernel
theorem s_281_84 {x0 x1 : Option Value} {o dd : Nat} {sp dp n : Int32} : mw d 281 Q 84 [x0, x1] (.int n :: .int dp :: .ref dd :: .int sp :: .ref o :: st) h = (me_cpok h o dd sp dp n = true ∧ mca st 8 ∧ mw d 281 Q 87 [x0, x1] (st) (mh_cp h o sp.toNatClampNeg dd dp.toNatClampNeg n.toNatClampNeg)) := (mw_at mj_281_84).trans (z_copy)
theorem mj_281_87 : mc_P 281 87 = some (.return_, 1, 0, 0, 0) := by decide +kernel
theorem s_281_87 {x0 x1 : Option Value} : mw d 281 Q 87 [x0, x1] ([]) h = Q none h := (mw_at mj_281_87).trans (z_vret)
theorem e_281 {a0 : Nat} {a1 : Nat} : mcall d 281 [.ref a0, .ref a1] h Q = mw d 281 Q 0 [some (.ref a0), some (.ref a1)] [] h := by
  show mw d 281 Q 0 (me_en (mc_nl 281) _) [] h = _
  rw [nl_281]; rfl

/-! InvariantDeskModel$Known.lies(LInvariantDeskModel$Known;)Z -/
theorem mj_294_0 : mc_P 294 0 = some (.aload_n 0, 1, 0, 0, 0) := by decide +kernel
theorem s_294_0 {x1 x2 x3 x4 : Option Value} {w : Value} : mw d 294 Q 0 [some w, x1, x2, x3, x4] (st) h = mv_a w (mw d 294 Q 1 [some w, x1, x2, x3, x4] (w :: st) h) := (mw_at mj_294_0).trans (z_aload_n rfl)
theorem mj_294_1 : mc_P 294 1 = some (.getfield 35, 3, 13, 0, 0) := by decide +kernel
theorem s_294_1 {x0 x1 x2 x3 x4 : Option Value} {o : Nat} : mw d 294 Q 1 [x0, x1, x2, x3, x4] (.ref o :: st) h = (mg h o 13 ∧ mw d 294 Q 4 [x0, x1, x2, x3, x4] (.int (mh_i h o 0) :: st) h) := (mw_at mj_294_1).trans (z_geti (by decide) (by decide) (Or.inr rfl))
theorem mj_294_4 : mc_P 294 4 = some (.ifCond .ne 10, 3, 0, 0, 0) := by decide +kernel
theorem s_294_4 {x0 x1 x2 x3 x4 : Option Value} {x : Int32} : mw d 294 Q 4 [x0, x1, x2, x3, x4] (.int x :: st) h = mB (¬ x = 0) (mw d 294 Q) 14 7 [x0, x1, x2, x3, x4] st h := (mw_at mj_294_4).trans (z_if_ne (by decide) rfl)
theorem mj_294_7 : mc_P 294 7 = some (.aload_n 1, 1, 0, 0, 0) := by decide +kernel
theorem s_294_7 {x0 x2 x3 x4 : Option Value} {w : Value} : mw d 294 Q 7 [x0, some w, x2, x3, x4] (st) h = mv_a w (mw d 294 Q 8 [x0, some w, x2, x3, x4] (w :: st) h) := (mw_at mj_294_7).trans (z_aload_n rfl)
theorem mj_294_8 : mc_P 294 8 = some (.getfield 35, 3, 13, 0, 0) := by decide +kernel
theorem s_294_8 {x0 x1 x2 x3 x4 : Option Value} {o : Nat} : mw d 294 Q 8 [x0, x1, x2, x3, x4] (.ref o :: st) h = (mg h o 13 ∧ mw d 294 Q 11 [x0, x1, x2, x3, x4] (.int (mh_i h o 0) :: st) h) := (mw_at mj_294_8).trans (z_geti (by decide) (by decide) (Or.inr rfl))
theorem mj_294_11 : mc_P 294 11 = some (.ifCond .eq 8, 3, 0, 0, 0) := by decide +kernel
theorem s_294_11 {x0 x1 x2 x3 x4 : Option Value} {x : Int32} : mw d 294 Q 11 [x0, x1, x2, x3, x4] (.int x :: st) h = mB (x = 0) (mw d 294 Q) 19 14 [x0, x1, x2, x3, x4] st h := (mw_at mj_294_11).trans (z_if_eq (by decide) rfl)
theorem mj_294_14 : mc_P 294 14 = some (.aload_n 0, 1, 0, 0, 0) := by decide +kernel
theorem s_294_14 {x1 x2 x3 x4 : Option Value} {w : Value} : mw d 294 Q 14 [some w, x1, x2, x3, x4] (st) h = mv_a w (mw d 294 Q 15 [some w, x1, x2, x3, x4] (w :: st) h) := (mw_at mj_294_14).trans (z_aload_n rfl)
theorem mj_294_15 : mc_P 294 15 = some (.getfield 35, 3, 13, 0, 0) := by decide +kernel
theorem s_294_15 {x0 x1 x2 x3 x4 : Option Value} {o : Nat} : mw d 294 Q 15 [x0, x1, x2, x3, x4] (.ref o :: st) h = (mg h o 13 ∧ mw d 294 Q 18 [x0, x1, x2, x3, x4] (.int (mh_i h o 0) :: st) h) := (mw_at mj_294_15).trans (z_geti (by decide) (by decide) (Or.inr rfl))
theorem mj_294_18 : mc_P 294 18 = some (.ireturn, 1, 0, 3, 0) := by decide +kernel
theorem s_294_18 {x0 x1 x2 x3 x4 : Option Value} {x : Int32} : mw d 294 Q 18 [x0, x1, x2, x3, x4] ([.int x]) h = ((x = 0 ∨ x = 1) ∧ Q (some (.int x)) h) := (mw_at mj_294_18).trans (z_zret)
theorem mj_294_19 : mc_P 294 19 = some (.iconst 1, 1, 0, 0, 0) := by decide +kernel
theorem s_294_19 {x0 x1 x2 x3 x4 : Option Value} : mw d 294 Q 19 [x0, x1, x2, x3, x4] (st) h = mw d 294 Q 20 [x0, x1, x2, x3, x4] (.int 1 :: st) h := (mw_at mj_294_19).trans (z_iconst (by decide))
theorem mj_294_20 : mc_P 294 20 = some (.istore_n 2, 1, 0, 0, 0) := by decide +kernel
theorem s_294_20 {x0 x1 x2 x3 x4 : Option Value} {w : Int32} : mw d 294 Q 20 [x0, x1, x2, x3, x4] (.int w :: st) h = mw d 294 Q 21 [x0, mk2 x1, some (.int w), x3, x4] (st) h := (mw_at mj_294_20).trans (z_istore_n (Nat.le_of_ble_eq_true rfl) (me_s1_mk (j := 1) (w := x1) rfl))
theorem mj_294_21 : mc_P 294 21 = some (.iconst 0, 1, 0, 0, 0) := by decide +kernel
theorem s_294_21 {x0 x1 x2 x3 x4 : Option Value} : mw d 294 Q 21 [x0, x1, x2, x3, x4] (st) h = mw d 294 Q 22 [x0, x1, x2, x3, x4] (.int 0 :: st) h := (mw_at mj_294_21).trans (z_iconst (by decide))
theorem mj_294_22 : mc_P 294 22 = some (.istore_n 3, 1, 0, 0, 0) := by decide +kernel
theorem s_294_22 {x0 x1 x2 x3 x4 : Option Value} {w : Int32} : mw d 294 Q 22 [x0, x1, x2, x3, x4] (.int w :: st) h = mw d 294 Q 23 [x0, x1, mk2 x2, some (.int w), x4] (st) h := (mw_at mj_294_22).trans (z_istore_n (Nat.le_of_ble_eq_true rfl) (me_s1_mk (j := 2) (w := x2) rfl))
theorem mj_294_23 : mc_P 294 23 = some (.iload_n 3, 1, 0, 0, 0) := by decide +kernel
theorem s_294_23 {x0 x1 x2 x4 : Option Value} {w : Value} : mw d 294 Q 23 [x0, x1, x2, some w, x4] (st) h = mv_i w (mw d 294 Q 24 [x0, x1, x2, some w, x4] (w :: st) h) := (mw_at mj_294_23).trans (z_iload_n rfl)
theorem mj_294_24 : mc_P 294 24 = some (.iconst 2, 1, 0, 0, 0) := by decide +kernel
theorem s_294_24 {x0 x1 x2 x3 x4 : Option Value} : mw d 294 Q 24 [x0, x1, x2, x3, x4] (st) h = mw d 294 Q 25 [x0, x1, x2, x3, x4] (.int 2 :: st) h := (mw_at mj_294_24).trans (z_iconst (by decide))
theorem mj_294_25 : mc_P 294 25 = some (.aload_n 0, 1, 0, 0, 0) := by decide +kernel
theorem s_294_25 {x1 x2 x3 x4 : Option Value} {w : Value} : mw d 294 Q 25 [some w, x1, x2, x3, x4] (st) h = mv_a w (mw d 294 Q 26 [some w, x1, x2, x3, x4] (w :: st) h) := (mw_at mj_294_25).trans (z_aload_n rfl)
theorem mj_294_26 : mc_P 294 26 = some (.getfield 39, 3, 13, 1, 0) := by decide +kernel
theorem s_294_26 {x0 x1 x2 x3 x4 : Option Value} {o : Nat} : mw d 294 Q 26 [x0, x1, x2, x3, x4] (.ref o :: st) h = (mg h o 13 ∧ mw d 294 Q 29 [x0, x1, x2, x3, x4] (.int (mh_i h o 1) :: st) h) := (mw_at mj_294_26).trans (z_geti (by decide) (by decide) (Or.inl rfl))
theorem mj_294_29 : mc_P 294 29 = some (.imul, 1, 0, 0, 0) := by decide +kernel
theorem s_294_29 {x0 x1 x2 x3 x4 : Option Value} {x w : Int32} : mw d 294 Q 29 [x0, x1, x2, x3, x4] (.int w :: .int x :: st) h = mw d 294 Q 30 [x0, x1, x2, x3, x4] (.int (x * w) :: st) h := (mw_at mj_294_29).trans (z_imul)
theorem mj_294_30 : mc_P 294 30 = some (.if_icmp .ge 65, 3, 0, 0, 0) := by decide +kernel
theorem s_294_30 {x0 x1 x2 x3 x4 : Option Value} {x w : Int32} : mw d 294 Q 30 [x0, x1, x2, x3, x4] (.int w :: .int x :: st) h = mB (w ≤ x) (mw d 294 Q) 95 33 [x0, x1, x2, x3, x4] st h := (mw_at mj_294_30).trans (z_icmp_ge (by decide) rfl)
theorem mj_294_33 : mc_P 294 33 = some (.iconst 0, 1, 0, 0, 0) := by decide +kernel
theorem s_294_33 {x0 x1 x2 x3 x4 : Option Value} : mw d 294 Q 33 [x0, x1, x2, x3, x4] (st) h = mw d 294 Q 34 [x0, x1, x2, x3, x4] (.int 0 :: st) h := (mw_at mj_294_33).trans (z_iconst (by decide))
theorem mj_294_34 : mc_P 294 34 = some (.istore 4, 2, 0, 0, 0) := by decide +kernel
theorem s_294_34 {x0 x1 x2 x3 x4 : Option Value} {w : Int32} : mw d 294 Q 34 [x0, x1, x2, x3, x4] (.int w :: st) h = mw d 294 Q 36 [x0, x1, x2, mk2 x3, some (.int w)] (st) h := (mw_at mj_294_34).trans (z_istore (Nat.le_of_ble_eq_true rfl) (me_s1_mk (j := 3) (w := x3) rfl))
theorem mj_294_36 : mc_P 294 36 = some (.iload 4, 2, 0, 0, 0) := by decide +kernel
theorem s_294_36 {x0 x1 x2 x3 : Option Value} {w : Value} : mw d 294 Q 36 [x0, x1, x2, x3, some w] (st) h = mv_i w (mw d 294 Q 38 [x0, x1, x2, x3, some w] (w :: st) h) := (mw_at mj_294_36).trans (z_iload rfl)
theorem mj_294_38 : mc_P 294 38 = some (.iconst 2, 1, 0, 0, 0) := by decide +kernel
theorem s_294_38 {x0 x1 x2 x3 x4 : Option Value} : mw d 294 Q 38 [x0, x1, x2, x3, x4] (st) h = mw d 294 Q 39 [x0, x1, x2, x3, x4] (.int 2 :: st) h := (mw_at mj_294_38).trans (z_iconst (by decide))
theorem mj_294_39 : mc_P 294 39 = some (.aload_n 0, 1, 0, 0, 0) := by decide +kernel
theorem s_294_39 {x1 x2 x3 x4 : Option Value} {w : Value} : mw d 294 Q 39 [some w, x1, x2, x3, x4] (st) h = mv_a w (mw d 294 Q 40 [some w, x1, x2, x3, x4] (w :: st) h) := (mw_at mj_294_39).trans (z_aload_n rfl)
theorem mj_294_40 : mc_P 294 40 = some (.getfield 39, 3, 13, 1, 0) := by decide +kernel
theorem s_294_40 {x0 x1 x2 x3 x4 : Option Value} {o : Nat} : mw d 294 Q 40 [x0, x1, x2, x3, x4] (.ref o :: st) h = (mg h o 13 ∧ mw d 294 Q 43 [x0, x1, x2, x3, x4] (.int (mh_i h o 1) :: st) h) := (mw_at mj_294_40).trans (z_geti (by decide) (by decide) (Or.inl rfl))
theorem mj_294_43 : mc_P 294 43 = some (.imul, 1, 0, 0, 0) := by decide +kernel
theorem s_294_43 {x0 x1 x2 x3 x4 : Option Value} {x w : Int32} : mw d 294 Q 43 [x0, x1, x2, x3, x4] (.int w :: .int x :: st) h = mw d 294 Q 44 [x0, x1, x2, x3, x4] (.int (x * w) :: st) h := (mw_at mj_294_43).trans (z_imul)
theorem mj_294_44 : mc_P 294 44 = some (.if_icmp .ge 45, 3, 0, 0, 0) := by decide +kernel
theorem s_294_44 {x0 x1 x2 x3 x4 : Option Value} {x w : Int32} : mw d 294 Q 44 [x0, x1, x2, x3, x4] (.int w :: .int x :: st) h = mB (w ≤ x) (mw d 294 Q) 89 47 [x0, x1, x2, x3, x4] st h := (mw_at mj_294_44).trans (z_icmp_ge (by decide) rfl)
theorem mj_294_47 : mc_P 294 47 = some (.iload_n 2, 1, 0, 0, 0) := by decide +kernel
theorem s_294_47 {x0 x1 x3 x4 : Option Value} {w : Value} : mw d 294 Q 47 [x0, x1, some w, x3, x4] (st) h = mv_i w (mw d 294 Q 48 [x0, x1, some w, x3, x4] (w :: st) h) := (mw_at mj_294_47).trans (z_iload_n rfl)
theorem mj_294_48 : mc_P 294 48 = some (.aload_n 0, 1, 0, 0, 0) := by decide +kernel
theorem s_294_48 {x1 x2 x3 x4 : Option Value} {w : Value} : mw d 294 Q 48 [some w, x1, x2, x3, x4] (st) h = mv_a w (mw d 294 Q 49 [some w, x1, x2, x3, x4] (w :: st) h) := (mw_at mj_294_48).trans (z_aload_n rfl)
theorem mj_294_49 : mc_P 294 49 = some (.getfield 9, 3, 13, 3, 0) := by decide +kernel
theorem s_294_49 {x0 x1 x2 x3 x4 : Option Value} {o : Nat} : mw d 294 Q 49 [x0, x1, x2, x3, x4] (.ref o :: st) h = (mg h o 13 ∧ mw d 294 Q 52 [x0, x1, x2, x3, x4] (va_rf (mh_r h o 3) :: st) h) := (mw_at mj_294_49).trans (z_getr (by decide) (by decide) rfl)
theorem mj_294_52 : mc_P 294 52 = some (.bipush 24, 2, 0, 0, 0) := by decide +kernel
theorem s_294_52 {x0 x1 x2 x3 x4 : Option Value} : mw d 294 Q 52 [x0, x1, x2, x3, x4] (st) h = mw d 294 Q 54 [x0, x1, x2, x3, x4] (.int 24 :: st) h := (mw_at mj_294_52).trans (z_bipush (by decide))
theorem mj_294_54 : mc_P 294 54 = some (.iload_n 3, 1, 0, 0, 0) := by decide +kernel
theorem s_294_54 {x0 x1 x2 x4 : Option Value} {w : Value} : mw d 294 Q 54 [x0, x1, x2, some w, x4] (st) h = mv_i w (mw d 294 Q 55 [x0, x1, x2, some w, x4] (w :: st) h) := (mw_at mj_294_54).trans (z_iload_n rfl)
theorem mj_294_55 : mc_P 294 55 = some (.imul, 1, 0, 0, 0) := by decide +kernel
theorem s_294_55 {x0 x1 x2 x3 x4 : Option Value} {x w : Int32} : mw d 294 Q 55 [x0, x1, x2, x3, x4] (.int w :: .int x :: st) h = mw d 294 Q 56 [x0, x1, x2, x3, x4] (.int (x * w) :: st) h := (mw_at mj_294_55).trans (z_imul)
theorem mj_294_56 : mc_P 294 56 = some (.iload 4, 2, 0, 0, 0) := by decide +kernel
theorem s_294_56 {x0 x1 x2 x3 : Option Value} {w : Value} : mw d 294 Q 56 [x0, x1, x2, x3, some w] (st) h = mv_i w (mw d 294 Q 58 [x0, x1, x2, x3, some w] (w :: st) h) := (mw_at mj_294_56).trans (z_iload rfl)
theorem mj_294_58 : mc_P 294 58 = some (.iadd, 1, 0, 0, 0) := by decide +kernel
theorem s_294_58 {x0 x1 x2 x3 x4 : Option Value} {x w : Int32} : mw d 294 Q 58 [x0, x1, x2, x3, x4] (.int w :: .int x :: st) h = mw d 294 Q 59 [x0, x1, x2, x3, x4] (.int (x + w) :: st) h := (mw_at mj_294_58).trans (z_iadd)
theorem mj_294_59 : mc_P 294 59 = some (.laload, 1, 0, 0, 0) := by decide +kernel
theorem s_294_59 {x0 x1 x2 x3 x4 : Option Value} {o : Nat} {i : Int32} : mw d 294 Q 59 [x0, x1, x2, x3, x4] (.int i :: .ref o :: st) h = (mg h o 101 ∧ mx i (mh_l h o) ∧ mw d 294 Q 60 [x0, x1, x2, x3, x4] (.long (mh_j h o i.toNatClampNeg) :: st) h) := (mw_at mj_294_59).trans (z_lald)
theorem mj_294_60 : mc_P 294 60 = some (.aload_n 1, 1, 0, 0, 0) := by decide +kernel
theorem s_294_60 {x0 x2 x3 x4 : Option Value} {w : Value} : mw d 294 Q 60 [x0, some w, x2, x3, x4] (st) h = mv_a w (mw d 294 Q 61 [x0, some w, x2, x3, x4] (w :: st) h) := (mw_at mj_294_60).trans (z_aload_n rfl)
theorem mj_294_61 : mc_P 294 61 = some (.getfield 9, 3, 13, 3, 0) := by decide +kernel
theorem s_294_61 {x0 x1 x2 x3 x4 : Option Value} {o : Nat} : mw d 294 Q 61 [x0, x1, x2, x3, x4] (.ref o :: st) h = (mg h o 13 ∧ mw d 294 Q 64 [x0, x1, x2, x3, x4] (va_rf (mh_r h o 3) :: st) h) := (mw_at mj_294_61).trans (z_getr (by decide) (by decide) rfl)
theorem mj_294_64 : mc_P 294 64 = some (.bipush 24, 2, 0, 0, 0) := by decide +kernel
theorem s_294_64 {x0 x1 x2 x3 x4 : Option Value} : mw d 294 Q 64 [x0, x1, x2, x3, x4] (st) h = mw d 294 Q 66 [x0, x1, x2, x3, x4] (.int 24 :: st) h := (mw_at mj_294_64).trans (z_bipush (by decide))
theorem mj_294_66 : mc_P 294 66 = some (.iload_n 3, 1, 0, 0, 0) := by decide +kernel
theorem s_294_66 {x0 x1 x2 x4 : Option Value} {w : Value} : mw d 294 Q 66 [x0, x1, x2, some w, x4] (st) h = mv_i w (mw d 294 Q 67 [x0, x1, x2, some w, x4] (w :: st) h) := (mw_at mj_294_66).trans (z_iload_n rfl)
theorem mj_294_67 : mc_P 294 67 = some (.imul, 1, 0, 0, 0) := by decide +kernel
theorem s_294_67 {x0 x1 x2 x3 x4 : Option Value} {x w : Int32} : mw d 294 Q 67 [x0, x1, x2, x3, x4] (.int w :: .int x :: st) h = mw d 294 Q 68 [x0, x1, x2, x3, x4] (.int (x * w) :: st) h := (mw_at mj_294_67).trans (z_imul)
theorem mj_294_68 : mc_P 294 68 = some (.iload 4, 2, 0, 0, 0) := by decide +kernel
theorem s_294_68 {x0 x1 x2 x3 : Option Value} {w : Value} : mw d 294 Q 68 [x0, x1, x2, x3, some w] (st) h = mv_i w (mw d 294 Q 70 [x0, x1, x2, x3, some w] (w :: st) h) := (mw_at mj_294_68).trans (z_iload rfl)
theorem mj_294_70 : mc_P 294 70 = some (.iadd, 1, 0, 0, 0) := by decide +kernel
theorem s_294_70 {x0 x1 x2 x3 x4 : Option Value} {x w : Int32} : mw d 294 Q 70 [x0, x1, x2, x3, x4] (.int w :: .int x :: st) h = mw d 294 Q 71 [x0, x1, x2, x3, x4] (.int (x + w) :: st) h := (mw_at mj_294_70).trans (z_iadd)
theorem mj_294_71 : mc_P 294 71 = some (.laload, 1, 0, 0, 0) := by decide +kernel
theorem s_294_71 {x0 x1 x2 x3 x4 : Option Value} {o : Nat} {i : Int32} : mw d 294 Q 71 [x0, x1, x2, x3, x4] (.int i :: .ref o :: st) h = (mg h o 101 ∧ mx i (mh_l h o) ∧ mw d 294 Q 72 [x0, x1, x2, x3, x4] (.long (mh_j h o i.toNatClampNeg) :: st) h) := (mw_at mj_294_71).trans (z_lald)
theorem mj_294_72 : mc_P 294 72 = some (.lcmp, 1, 0, 0, 0) := by decide +kernel
theorem s_294_72 {x0 x1 x2 x3 x4 : Option Value} {x w : Int64} : mw d 294 Q 72 [x0, x1, x2, x3, x4] (.long w :: .long x :: st) h = mw d 294 Q 73 [x0, x1, x2, x3, x4] (.int (lg_cmp x w) :: st) h := (mw_at mj_294_72).trans (z_lcmp)
theorem mj_294_73 : mc_P 294 73 = some (.ifCond .gt 7, 3, 0, 0, 0) := by decide +kernel
theorem s_294_73 {x0 x1 x2 x3 x4 : Option Value} {x : Int32} : mw d 294 Q 73 [x0, x1, x2, x3, x4] (.int x :: st) h = mB (0 < x) (mw d 294 Q) 80 76 [x0, x1, x2, x3, x4] st h := (mw_at mj_294_73).trans (z_if_gt (by decide) rfl)
theorem mj_294_76 : mc_P 294 76 = some (.iconst 1, 1, 0, 0, 0) := by decide +kernel
theorem s_294_76 {x0 x1 x2 x3 x4 : Option Value} : mw d 294 Q 76 [x0, x1, x2, x3, x4] (st) h = mw d 294 Q 77 [x0, x1, x2, x3, x4] (.int 1 :: st) h := (mw_at mj_294_76).trans (z_iconst (by decide))
theorem mj_294_77 : mc_P 294 77 = some (.goto 4, 3, 0, 0, 0) := by decide +kernel
theorem s_294_77 {x0 x1 x2 x3 x4 : Option Value} : mw d 294 Q 77 [x0, x1, x2, x3, x4] (st) h = mw d 294 Q 81 [x0, x1, x2, x3, x4] (st) h := (mw_at mj_294_77).trans (z_goto (by decide))
theorem mj_294_80 : mc_P 294 80 = some (.iconst 0, 1, 0, 0, 0) := by decide +kernel
theorem s_294_80 {x0 x1 x2 x3 x4 : Option Value} : mw d 294 Q 80 [x0, x1, x2, x3, x4] (st) h = mw d 294 Q 81 [x0, x1, x2, x3, x4] (.int 0 :: st) h := (mw_at mj_294_80).trans (z_iconst (by decide))
theorem mj_294_81 : mc_P 294 81 = some (.iand, 1, 0, 0, 0) := by decide +kernel
theorem s_294_81 {x0 x1 x2 x3 x4 : Option Value} {x w : Int32} : mw d 294 Q 81 [x0, x1, x2, x3, x4] (.int w :: .int x :: st) h = mw d 294 Q 82 [x0, x1, x2, x3, x4] (.int (x &&& w) :: st) h := (mw_at mj_294_81).trans (z_iand)
theorem mj_294_82 : mc_P 294 82 = some (.istore_n 2, 1, 0, 0, 0) := by decide +kernel
theorem s_294_82 {x0 x1 x2 x3 x4 : Option Value} {w : Int32} : mw d 294 Q 82 [x0, x1, x2, x3, x4] (.int w :: st) h = mw d 294 Q 83 [x0, mk2 x1, some (.int w), x3, x4] (st) h := (mw_at mj_294_82).trans (z_istore_n (Nat.le_of_ble_eq_true rfl) (me_s1_mk (j := 1) (w := x1) rfl))
theorem mj_294_83 : mc_P 294 83 = some (.iinc 4 1, 3, 0, 0, 0) := by decide +kernel
theorem s_294_83 {x0 x1 x2 x3 : Option Value} {w : Int32} : mw d 294 Q 83 [x0, x1, x2, x3, some (.int w)] (st) h = mw d 294 Q 86 [x0, x1, x2, mk2 x3, some (.int (w + 1))] (st) h := (mw_at mj_294_83).trans (z_iinc rfl (Nat.le_of_ble_eq_true rfl) (by decide) (me_s1_mk (j := 3) (w := x3) rfl))
theorem mj_294_86 : mc_P 294 86 = some (.goto (-50), 3, 0, 0, 0) := by decide +kernel
theorem s_294_86 {x0 x1 x2 x3 x4 : Option Value} : mw d 294 Q 86 [x0, x1, x2, x3, x4] (st) h = mw d 294 Q 36 [x0, x1, x2, x3, x4] (st) h := (mw_at mj_294_86).trans (z_goto (by decide))
theorem mj_294_89 : mc_P 294 89 = some (.iinc 3 1, 3, 0, 0, 0) := by decide +kernel
theorem s_294_89 {x0 x1 x2 x4 : Option Value} {w : Int32} : mw d 294 Q 89 [x0, x1, x2, some (.int w), x4] (st) h = mw d 294 Q 92 [x0, x1, mk2 x2, some (.int (w + 1)), x4] (st) h := (mw_at mj_294_89).trans (z_iinc rfl (Nat.le_of_ble_eq_true rfl) (by decide) (me_s1_mk (j := 2) (w := x2) rfl))
theorem mj_294_92 : mc_P 294 92 = some (.goto (-69), 3, 0, 0, 0) := by decide +kernel
theorem s_294_92 {x0 x1 x2 x3 x4 : Option Value} : mw d 294 Q 92 [x0, x1, x2, x3, x4] (st) h = mw d 294 Q 23 [x0, x1, x2, x3, x4] (st) h := (mw_at mj_294_92).trans (z_goto (by decide))
theorem mj_294_95 : mc_P 294 95 = some (.iconst 0, 1, 0, 0, 0) := by decide +kernel
theorem s_294_95 {x0 x1 x2 x3 x4 : Option Value} : mw d 294 Q 95 [x0, x1, x2, x3, x4] (st) h = mw d 294 Q 96 [x0, x1, x2, x3, x4] (.int 0 :: st) h := (mw_at mj_294_95).trans (z_iconst (by decide))
theorem mj_294_96 : mc_P 294 96 = some (.istore_n 3, 1, 0, 0, 0) := by decide +kernel
theorem s_294_96 {x0 x1 x2 x3 x4 : Option Value} {w : Int32} : mw d 294 Q 96 [x0, x1, x2, x3, x4] (.int w :: st) h = mw d 294 Q 97 [x0, x1, mk2 x2, some (.int w), x4] (st) h := (mw_at mj_294_96).trans (z_istore_n (Nat.le_of_ble_eq_true rfl) (me_s1_mk (j := 2) (w := x2) rfl))
theorem mj_294_97 : mc_P 294 97 = some (.iload_n 3, 1, 0, 0, 0) := by decide +kernel
theorem s_294_97 {x0 x1 x2 x4 : Option Value} {w : Value} : mw d 294 Q 97 [x0, x1, x2, some w, x4] (st) h = mv_i w (mw d 294 Q 98 [x0, x1, x2, some w, x4] (w :: st) h) := (mw_at mj_294_97).trans (z_iload_n rfl)
theorem mj_294_98 : mc_P 294 98 = some (.aload_n 0, 1, 0, 0, 0) := by decide +kernel
theorem s_294_98 {x1 x2 x3 x4 : Option Value} {w : Value} : mw d 294 Q 98 [some w, x1, x2, x3, x4] (st) h = mv_a w (mw d 294 Q 99 [some w, x1, x2, x3, x4] (w :: st) h) := (mw_at mj_294_98).trans (z_aload_n rfl)
theorem mj_294_99 : mc_P 294 99 = some (.getfield 43, 3, 13, 2, 0) := by decide +kernel
theorem s_294_99 {x0 x1 x2 x3 x4 : Option Value} {o : Nat} : mw d 294 Q 99 [x0, x1, x2, x3, x4] (.ref o :: st) h = (mg h o 13 ∧ mw d 294 Q 102 [x0, x1, x2, x3, x4] (.int (mh_i h o 2) :: st) h) := (mw_at mj_294_99).trans (z_geti (by decide) (by decide) (Or.inl rfl))
theorem mj_294_102 : mc_P 294 102 = some (.if_icmp .ge 49, 3, 0, 0, 0) := by decide +kernel
theorem s_294_102 {x0 x1 x2 x3 x4 : Option Value} {x w : Int32} : mw d 294 Q 102 [x0, x1, x2, x3, x4] (.int w :: .int x :: st) h = mB (w ≤ x) (mw d 294 Q) 151 105 [x0, x1, x2, x3, x4] st h := (mw_at mj_294_102).trans (z_icmp_ge (by decide) rfl)
theorem mj_294_105 : mc_P 294 105 = some (.iload_n 2, 1, 0, 0, 0) := by decide +kernel
theorem s_294_105 {x0 x1 x3 x4 : Option Value} {w : Value} : mw d 294 Q 105 [x0, x1, some w, x3, x4] (st) h = mv_i w (mw d 294 Q 106 [x0, x1, some w, x3, x4] (w :: st) h) := (mw_at mj_294_105).trans (z_iload_n rfl)
theorem mj_294_106 : mc_P 294 106 = some (.aload_n 0, 1, 0, 0, 0) := by decide +kernel
theorem s_294_106 {x1 x2 x3 x4 : Option Value} {w : Value} : mw d 294 Q 106 [some w, x1, x2, x3, x4] (st) h = mv_a w (mw d 294 Q 107 [some w, x1, x2, x3, x4] (w :: st) h) := (mw_at mj_294_106).trans (z_aload_n rfl)
theorem mj_294_107 : mc_P 294 107 = some (.getfield 13, 3, 13, 4, 0) := by decide +kernel
theorem s_294_107 {x0 x1 x2 x3 x4 : Option Value} {o : Nat} : mw d 294 Q 107 [x0, x1, x2, x3, x4] (.ref o :: st) h = (mg h o 13 ∧ mw d 294 Q 110 [x0, x1, x2, x3, x4] (va_rf (mh_r h o 4) :: st) h) := (mw_at mj_294_107).trans (z_getr (by decide) (by decide) rfl)
theorem mj_294_110 : mc_P 294 110 = some (.iload_n 3, 1, 0, 0, 0) := by decide +kernel
theorem s_294_110 {x0 x1 x2 x4 : Option Value} {w : Value} : mw d 294 Q 110 [x0, x1, x2, some w, x4] (st) h = mv_i w (mw d 294 Q 111 [x0, x1, x2, some w, x4] (w :: st) h) := (mw_at mj_294_110).trans (z_iload_n rfl)
theorem mj_294_111 : mc_P 294 111 = some (.laload, 1, 0, 0, 0) := by decide +kernel
theorem s_294_111 {x0 x1 x2 x3 x4 : Option Value} {o : Nat} {i : Int32} : mw d 294 Q 111 [x0, x1, x2, x3, x4] (.int i :: .ref o :: st) h = (mg h o 101 ∧ mx i (mh_l h o) ∧ mw d 294 Q 112 [x0, x1, x2, x3, x4] (.long (mh_j h o i.toNatClampNeg) :: st) h) := (mw_at mj_294_111).trans (z_lald)
theorem mj_294_112 : mc_P 294 112 = some (.aload_n 1, 1, 0, 0, 0) := by decide +kernel
theorem s_294_112 {x0 x2 x3 x4 : Option Value} {w : Value} : mw d 294 Q 112 [x0, some w, x2, x3, x4] (st) h = mv_a w (mw d 294 Q 113 [x0, some w, x2, x3, x4] (w :: st) h) := (mw_at mj_294_112).trans (z_aload_n rfl)
theorem mj_294_113 : mc_P 294 113 = some (.getfield 13, 3, 13, 4, 0) := by decide +kernel
theorem s_294_113 {x0 x1 x2 x3 x4 : Option Value} {o : Nat} : mw d 294 Q 113 [x0, x1, x2, x3, x4] (.ref o :: st) h = (mg h o 13 ∧ mw d 294 Q 116 [x0, x1, x2, x3, x4] (va_rf (mh_r h o 4) :: st) h) := (mw_at mj_294_113).trans (z_getr (by decide) (by decide) rfl)
theorem mj_294_116 : mc_P 294 116 = some (.iload_n 3, 1, 0, 0, 0) := by decide +kernel
theorem s_294_116 {x0 x1 x2 x4 : Option Value} {w : Value} : mw d 294 Q 116 [x0, x1, x2, some w, x4] (st) h = mv_i w (mw d 294 Q 117 [x0, x1, x2, some w, x4] (w :: st) h) := (mw_at mj_294_116).trans (z_iload_n rfl)
theorem mj_294_117 : mc_P 294 117 = some (.laload, 1, 0, 0, 0) := by decide +kernel
theorem s_294_117 {x0 x1 x2 x3 x4 : Option Value} {o : Nat} {i : Int32} : mw d 294 Q 117 [x0, x1, x2, x3, x4] (.int i :: .ref o :: st) h = (mg h o 101 ∧ mx i (mh_l h o) ∧ mw d 294 Q 118 [x0, x1, x2, x3, x4] (.long (mh_j h o i.toNatClampNeg) :: st) h) := (mw_at mj_294_117).trans (z_lald)
theorem mj_294_118 : mc_P 294 118 = some (.lcmp, 1, 0, 0, 0) := by decide +kernel
theorem s_294_118 {x0 x1 x2 x3 x4 : Option Value} {x w : Int64} : mw d 294 Q 118 [x0, x1, x2, x3, x4] (.long w :: .long x :: st) h = mw d 294 Q 119 [x0, x1, x2, x3, x4] (.int (lg_cmp x w) :: st) h := (mw_at mj_294_118).trans (z_lcmp)
theorem mj_294_119 : mc_P 294 119 = some (.ifCond .lt 23, 3, 0, 0, 0) := by decide +kernel
theorem s_294_119 {x0 x1 x2 x3 x4 : Option Value} {x : Int32} : mw d 294 Q 119 [x0, x1, x2, x3, x4] (.int x :: st) h = mB (x < 0) (mw d 294 Q) 142 122 [x0, x1, x2, x3, x4] st h := (mw_at mj_294_119).trans (z_if_lt (by decide) rfl)
theorem mj_294_122 : mc_P 294 122 = some (.aload_n 0, 1, 0, 0, 0) := by decide +kernel
theorem s_294_122 {x1 x2 x3 x4 : Option Value} {w : Value} : mw d 294 Q 122 [some w, x1, x2, x3, x4] (st) h = mv_a w (mw d 294 Q 123 [some w, x1, x2, x3, x4] (w :: st) h) := (mw_at mj_294_122).trans (z_aload_n rfl)
theorem mj_294_123 : mc_P 294 123 = some (.getfield 16, 3, 13, 5, 0) := by decide +kernel
theorem s_294_123 {x0 x1 x2 x3 x4 : Option Value} {o : Nat} : mw d 294 Q 123 [x0, x1, x2, x3, x4] (.ref o :: st) h = (mg h o 13 ∧ mw d 294 Q 126 [x0, x1, x2, x3, x4] (va_rf (mh_r h o 5) :: st) h) := (mw_at mj_294_123).trans (z_getr (by decide) (by decide) rfl)
theorem mj_294_126 : mc_P 294 126 = some (.iload_n 3, 1, 0, 0, 0) := by decide +kernel
theorem s_294_126 {x0 x1 x2 x4 : Option Value} {w : Value} : mw d 294 Q 126 [x0, x1, x2, some w, x4] (st) h = mv_i w (mw d 294 Q 127 [x0, x1, x2, some w, x4] (w :: st) h) := (mw_at mj_294_126).trans (z_iload_n rfl)
theorem mj_294_127 : mc_P 294 127 = some (.laload, 1, 0, 0, 0) := by decide +kernel
theorem s_294_127 {x0 x1 x2 x3 x4 : Option Value} {o : Nat} {i : Int32} : mw d 294 Q 127 [x0, x1, x2, x3, x4] (.int i :: .ref o :: st) h = (mg h o 101 ∧ mx i (mh_l h o) ∧ mw d 294 Q 128 [x0, x1, x2, x3, x4] (.long (mh_j h o i.toNatClampNeg) :: st) h) := (mw_at mj_294_127).trans (z_lald)
theorem mj_294_128 : mc_P 294 128 = some (.aload_n 1, 1, 0, 0, 0) := by decide +kernel
theorem s_294_128 {x0 x2 x3 x4 : Option Value} {w : Value} : mw d 294 Q 128 [x0, some w, x2, x3, x4] (st) h = mv_a w (mw d 294 Q 129 [x0, some w, x2, x3, x4] (w :: st) h) := (mw_at mj_294_128).trans (z_aload_n rfl)
theorem mj_294_129 : mc_P 294 129 = some (.getfield 16, 3, 13, 5, 0) := by decide +kernel
theorem s_294_129 {x0 x1 x2 x3 x4 : Option Value} {o : Nat} : mw d 294 Q 129 [x0, x1, x2, x3, x4] (.ref o :: st) h = (mg h o 13 ∧ mw d 294 Q 132 [x0, x1, x2, x3, x4] (va_rf (mh_r h o 5) :: st) h) := (mw_at mj_294_129).trans (z_getr (by decide) (by decide) rfl)
theorem mj_294_132 : mc_P 294 132 = some (.iload_n 3, 1, 0, 0, 0) := by decide +kernel
theorem s_294_132 {x0 x1 x2 x4 : Option Value} {w : Value} : mw d 294 Q 132 [x0, x1, x2, some w, x4] (st) h = mv_i w (mw d 294 Q 133 [x0, x1, x2, some w, x4] (w :: st) h) := (mw_at mj_294_132).trans (z_iload_n rfl)
theorem mj_294_133 : mc_P 294 133 = some (.laload, 1, 0, 0, 0) := by decide +kernel
theorem s_294_133 {x0 x1 x2 x3 x4 : Option Value} {o : Nat} {i : Int32} : mw d 294 Q 133 [x0, x1, x2, x3, x4] (.int i :: .ref o :: st) h = (mg h o 101 ∧ mx i (mh_l h o) ∧ mw d 294 Q 134 [x0, x1, x2, x3, x4] (.long (mh_j h o i.toNatClampNeg) :: st) h) := (mw_at mj_294_133).trans (z_lald)
theorem mj_294_134 : mc_P 294 134 = some (.lcmp, 1, 0, 0, 0) := by decide +kernel
theorem s_294_134 {x0 x1 x2 x3 x4 : Option Value} {x w : Int64} : mw d 294 Q 134 [x0, x1, x2, x3, x4] (.long w :: .long x :: st) h = mw d 294 Q 135 [x0, x1, x2, x3, x4] (.int (lg_cmp x w) :: st) h := (mw_at mj_294_134).trans (z_lcmp)
theorem mj_294_135 : mc_P 294 135 = some (.ifCond .gt 7, 3, 0, 0, 0) := by decide +kernel
theorem s_294_135 {x0 x1 x2 x3 x4 : Option Value} {x : Int32} : mw d 294 Q 135 [x0, x1, x2, x3, x4] (.int x :: st) h = mB (0 < x) (mw d 294 Q) 142 138 [x0, x1, x2, x3, x4] st h := (mw_at mj_294_135).trans (z_if_gt (by decide) rfl)
theorem mj_294_138 : mc_P 294 138 = some (.iconst 1, 1, 0, 0, 0) := by decide +kernel
theorem s_294_138 {x0 x1 x2 x3 x4 : Option Value} : mw d 294 Q 138 [x0, x1, x2, x3, x4] (st) h = mw d 294 Q 139 [x0, x1, x2, x3, x4] (.int 1 :: st) h := (mw_at mj_294_138).trans (z_iconst (by decide))
theorem mj_294_139 : mc_P 294 139 = some (.goto 4, 3, 0, 0, 0) := by decide +kernel
theorem s_294_139 {x0 x1 x2 x3 x4 : Option Value} : mw d 294 Q 139 [x0, x1, x2, x3, x4] (st) h = mw d 294 Q 143 [x0, x1, x2, x3, x4] (st) h := (mw_at mj_294_139).trans (z_goto (by decide))
theorem mj_294_142 : mc_P 294 142 = some (.iconst 0, 1, 0, 0, 0) := by decide +kernel
theorem s_294_142 {x0 x1 x2 x3 x4 : Option Value} : mw d 294 Q 142 [x0, x1, x2, x3, x4] (st) h = mw d 294 Q 143 [x0, x1, x2, x3, x4] (.int 0 :: st) h := (mw_at mj_294_142).trans (z_iconst (by decide))
theorem mj_294_143 : mc_P 294 143 = some (.iand, 1, 0, 0, 0) := by decide +kernel
theorem s_294_143 {x0 x1 x2 x3 x4 : Option Value} {x w : Int32} : mw d 294 Q 143 [x0, x1, x2, x3, x4] (.int w :: .int x :: st) h = mw d 294 Q 144 [x0, x1, x2, x3, x4] (.int (x &&& w) :: st) h := (mw_at mj_294_143).trans (z_iand)
theorem mj_294_144 : mc_P 294 144 = some (.istore_n 2, 1, 0, 0, 0) := by decide +kernel
theorem s_294_144 {x0 x1 x2 x3 x4 : Option Value} {w : Int32} : mw d 294 Q 144 [x0, x1, x2, x3, x4] (.int w :: st) h = mw d 294 Q 145 [x0, mk2 x1, some (.int w), x3, x4] (st) h := (mw_at mj_294_144).trans (z_istore_n (Nat.le_of_ble_eq_true rfl) (me_s1_mk (j := 1) (w := x1) rfl))
theorem mj_294_145 : mc_P 294 145 = some (.iinc 3 1, 3, 0, 0, 0) := by decide +kernel
theorem s_294_145 {x0 x1 x2 x4 : Option Value} {w : Int32} : mw d 294 Q 145 [x0, x1, x2, some (.int w), x4] (st) h = mw d 294 Q 148 [x0, x1, mk2 x2, some (.int (w + 1)), x4] (st) h := (mw_at mj_294_145).trans (z_iinc rfl (Nat.le_of_ble_eq_true rfl) (by decide) (me_s1_mk (j := 2) (w := x2) rfl))
theorem mj_294_148 : mc_P 294 148 = some (.goto (-51), 3, 0, 0, 0) := by decide +kernel
theorem s_294_148 {x0 x1 x2 x3 x4 : Option Value} : mw d 294 Q 148 [x0, x1, x2, x3, x4] (st) h = mw d 294 Q 97 [x0, x1, x2, x3, x4] (st) h := (mw_at mj_294_148).trans (z_goto (by decide))
theorem mj_294_151 : mc_P 294 151 = some (.iload_n 2, 1, 0, 0, 0) := by decide +kernel
theorem s_294_151 {x0 x1 x3 x4 : Option Value} {w : Value} : mw d 294 Q 151 [x0, x1, some w, x3, x4] (st) h = mv_i w (mw d 294 Q 152 [x0, x1, some w, x3, x4] (w :: st) h) := (mw_at mj_294_151).trans (z_iload_n rfl)
theorem mj_294_152 : mc_P 294 152 = some (.ireturn, 1, 0, 3, 0) := by decide +kernel
theorem s_294_152 {x0 x1 x2 x3 x4 : Option Value} {x : Int32} : mw d 294 Q 152 [x0, x1, x2, x3, x4] ([.int x]) h = ((x = 0 ∨ x = 1) ∧ Q (some (.int x)) h) := (mw_at mj_294_152).trans (z_zret)
theorem e_294 {a0 : Nat} {a1 : Nat} : mcall d 294 [.ref a0, .ref a1] h Q = mw d 294 Q 0 [some (.ref a0), some (.ref a1), none, none, none] [] h := by
  show mw d 294 Q 0 (me_en (mc_nl 294) _) [] h = _
  rw [nl_294]; rfl

/-! InvariantDeskModel$Known.has([I[I)Z -/
theorem mj_297_0 : mc_P 297 0 = some (.aload_n 0, 1, 0, 0, 0) := by decide +kernel
theorem s_297_0 {x1 x2 x3 x4 x5 : Option Value} {w : Value} : mw d 297 Q 0 [some w, x1, x2, x3, x4, x5] (st) h = mv_a w (mw d 297 Q 1 [some w, x1, x2, x3, x4, x5] (w :: st) h) := (mw_at mj_297_0).trans (z_aload_n rfl)
theorem mj_297_1 : mc_P 297 1 = some (.getfield 35, 3, 13, 0, 0) := by decide +kernel
theorem s_297_1 {x0 x1 x2 x3 x4 x5 : Option Value} {o : Nat} : mw d 297 Q 1 [x0, x1, x2, x3, x4, x5] (.ref o :: st) h = (mg h o 13 ∧ mw d 297 Q 4 [x0, x1, x2, x3, x4, x5] (.int (mh_i h o 0) :: st) h) := (mw_at mj_297_1).trans (z_geti (by decide) (by decide) (Or.inr rfl))
theorem mj_297_4 : mc_P 297 4 = some (.ifCond .ne 7, 3, 0, 0, 0) := by decide +kernel
theorem s_297_4 {x0 x1 x2 x3 x4 x5 : Option Value} {x : Int32} : mw d 297 Q 4 [x0, x1, x2, x3, x4, x5] (.int x :: st) h = mB (¬ x = 0) (mw d 297 Q) 11 7 [x0, x1, x2, x3, x4, x5] st h := (mw_at mj_297_4).trans (z_if_ne (by decide) rfl)
theorem mj_297_7 : mc_P 297 7 = some (.iconst 1, 1, 0, 0, 0) := by decide +kernel
theorem s_297_7 {x0 x1 x2 x3 x4 x5 : Option Value} : mw d 297 Q 7 [x0, x1, x2, x3, x4, x5] (st) h = mw d 297 Q 8 [x0, x1, x2, x3, x4, x5] (.int 1 :: st) h := (mw_at mj_297_7).trans (z_iconst (by decide))
theorem mj_297_8 : mc_P 297 8 = some (.goto 4, 3, 0, 0, 0) := by decide +kernel
theorem s_297_8 {x0 x1 x2 x3 x4 x5 : Option Value} : mw d 297 Q 8 [x0, x1, x2, x3, x4, x5] (st) h = mw d 297 Q 12 [x0, x1, x2, x3, x4, x5] (st) h := (mw_at mj_297_8).trans (z_goto (by decide))
theorem mj_297_11 : mc_P 297 11 = some (.iconst 0, 1, 0, 0, 0) := by decide +kernel
theorem s_297_11 {x0 x1 x2 x3 x4 x5 : Option Value} : mw d 297 Q 11 [x0, x1, x2, x3, x4, x5] (st) h = mw d 297 Q 12 [x0, x1, x2, x3, x4, x5] (.int 0 :: st) h := (mw_at mj_297_11).trans (z_iconst (by decide))
theorem mj_297_12 : mc_P 297 12 = some (.istore_n 3, 1, 0, 0, 0) := by decide +kernel
theorem s_297_12 {x0 x1 x2 x3 x4 x5 : Option Value} {w : Int32} : mw d 297 Q 12 [x0, x1, x2, x3, x4, x5] (.int w :: st) h = mw d 297 Q 13 [x0, x1, mk2 x2, some (.int w), x4, x5] (st) h := (mw_at mj_297_12).trans (z_istore_n (Nat.le_of_ble_eq_true rfl) (me_s1_mk (j := 2) (w := x2) rfl))
theorem mj_297_13 : mc_P 297 13 = some (.iconst 0, 1, 0, 0, 0) := by decide +kernel
theorem s_297_13 {x0 x1 x2 x3 x4 x5 : Option Value} : mw d 297 Q 13 [x0, x1, x2, x3, x4, x5] (st) h = mw d 297 Q 14 [x0, x1, x2, x3, x4, x5] (.int 0 :: st) h := (mw_at mj_297_13).trans (z_iconst (by decide))
theorem mj_297_14 : mc_P 297 14 = some (.istore 4, 2, 0, 0, 0) := by decide +kernel
theorem s_297_14 {x0 x1 x2 x3 x4 x5 : Option Value} {w : Int32} : mw d 297 Q 14 [x0, x1, x2, x3, x4, x5] (.int w :: st) h = mw d 297 Q 16 [x0, x1, x2, mk2 x3, some (.int w), x5] (st) h := (mw_at mj_297_14).trans (z_istore (Nat.le_of_ble_eq_true rfl) (me_s1_mk (j := 3) (w := x3) rfl))
theorem mj_297_16 : mc_P 297 16 = some (.iload 4, 2, 0, 0, 0) := by decide +kernel
theorem s_297_16 {x0 x1 x2 x3 x5 : Option Value} {w : Value} : mw d 297 Q 16 [x0, x1, x2, x3, some w, x5] (st) h = mv_i w (mw d 297 Q 18 [x0, x1, x2, x3, some w, x5] (w :: st) h) := (mw_at mj_297_16).trans (z_iload rfl)
theorem mj_297_18 : mc_P 297 18 = some (.iconst 2, 1, 0, 0, 0) := by decide +kernel
theorem s_297_18 {x0 x1 x2 x3 x4 x5 : Option Value} : mw d 297 Q 18 [x0, x1, x2, x3, x4, x5] (st) h = mw d 297 Q 19 [x0, x1, x2, x3, x4, x5] (.int 2 :: st) h := (mw_at mj_297_18).trans (z_iconst (by decide))
theorem mj_297_19 : mc_P 297 19 = some (.aload_n 0, 1, 0, 0, 0) := by decide +kernel
theorem s_297_19 {x1 x2 x3 x4 x5 : Option Value} {w : Value} : mw d 297 Q 19 [some w, x1, x2, x3, x4, x5] (st) h = mv_a w (mw d 297 Q 20 [some w, x1, x2, x3, x4, x5] (w :: st) h) := (mw_at mj_297_19).trans (z_aload_n rfl)
theorem mj_297_20 : mc_P 297 20 = some (.getfield 39, 3, 13, 1, 0) := by decide +kernel
theorem s_297_20 {x0 x1 x2 x3 x4 x5 : Option Value} {o : Nat} : mw d 297 Q 20 [x0, x1, x2, x3, x4, x5] (.ref o :: st) h = (mg h o 13 ∧ mw d 297 Q 23 [x0, x1, x2, x3, x4, x5] (.int (mh_i h o 1) :: st) h) := (mw_at mj_297_20).trans (z_geti (by decide) (by decide) (Or.inl rfl))
theorem mj_297_23 : mc_P 297 23 = some (.imul, 1, 0, 0, 0) := by decide +kernel
theorem s_297_23 {x0 x1 x2 x3 x4 x5 : Option Value} {x w : Int32} : mw d 297 Q 23 [x0, x1, x2, x3, x4, x5] (.int w :: .int x :: st) h = mw d 297 Q 24 [x0, x1, x2, x3, x4, x5] (.int (x * w) :: st) h := (mw_at mj_297_23).trans (z_imul)
theorem mj_297_24 : mc_P 297 24 = some (.if_icmp .ge 71, 3, 0, 0, 0) := by decide +kernel
theorem s_297_24 {x0 x1 x2 x3 x4 x5 : Option Value} {x w : Int32} : mw d 297 Q 24 [x0, x1, x2, x3, x4, x5] (.int w :: .int x :: st) h = mB (w ≤ x) (mw d 297 Q) 95 27 [x0, x1, x2, x3, x4, x5] st h := (mw_at mj_297_24).trans (z_icmp_ge (by decide) rfl)
theorem mj_297_27 : mc_P 297 27 = some (.iload_n 3, 1, 0, 0, 0) := by decide +kernel
theorem s_297_27 {x0 x1 x2 x4 x5 : Option Value} {w : Value} : mw d 297 Q 27 [x0, x1, x2, some w, x4, x5] (st) h = mv_i w (mw d 297 Q 28 [x0, x1, x2, some w, x4, x5] (w :: st) h) := (mw_at mj_297_27).trans (z_iload_n rfl)
theorem mj_297_28 : mc_P 297 28 = some (.ifCond .eq 67, 3, 0, 0, 0) := by decide +kernel
theorem s_297_28 {x0 x1 x2 x3 x4 x5 : Option Value} {x : Int32} : mw d 297 Q 28 [x0, x1, x2, x3, x4, x5] (.int x :: st) h = mB (x = 0) (mw d 297 Q) 95 31 [x0, x1, x2, x3, x4, x5] st h := (mw_at mj_297_28).trans (z_if_eq (by decide) rfl)
theorem mj_297_31 : mc_P 297 31 = some (.iconst 0, 1, 0, 0, 0) := by decide +kernel
theorem s_297_31 {x0 x1 x2 x3 x4 x5 : Option Value} : mw d 297 Q 31 [x0, x1, x2, x3, x4, x5] (st) h = mw d 297 Q 32 [x0, x1, x2, x3, x4, x5] (.int 0 :: st) h := (mw_at mj_297_31).trans (z_iconst (by decide))
theorem mj_297_32 : mc_P 297 32 = some (.istore 5, 2, 0, 0, 0) := by decide +kernel
theorem s_297_32 {x0 x1 x2 x3 x4 x5 : Option Value} {w : Int32} : mw d 297 Q 32 [x0, x1, x2, x3, x4, x5] (.int w :: st) h = mw d 297 Q 34 [x0, x1, x2, x3, mk2 x4, some (.int w)] (st) h := (mw_at mj_297_32).trans (z_istore (Nat.le_of_ble_eq_true rfl) (me_s1_mk (j := 4) (w := x4) rfl))
theorem mj_297_34 : mc_P 297 34 = some (.iload 5, 2, 0, 0, 0) := by decide +kernel
theorem s_297_34 {x0 x1 x2 x3 x4 : Option Value} {w : Value} : mw d 297 Q 34 [x0, x1, x2, x3, x4, some w] (st) h = mv_i w (mw d 297 Q 36 [x0, x1, x2, x3, x4, some w] (w :: st) h) := (mw_at mj_297_34).trans (z_iload rfl)
theorem mj_297_36 : mc_P 297 36 = some (.iconst 2, 1, 0, 0, 0) := by decide +kernel
theorem s_297_36 {x0 x1 x2 x3 x4 x5 : Option Value} : mw d 297 Q 36 [x0, x1, x2, x3, x4, x5] (st) h = mw d 297 Q 37 [x0, x1, x2, x3, x4, x5] (.int 2 :: st) h := (mw_at mj_297_36).trans (z_iconst (by decide))
theorem mj_297_37 : mc_P 297 37 = some (.aload_n 0, 1, 0, 0, 0) := by decide +kernel
theorem s_297_37 {x1 x2 x3 x4 x5 : Option Value} {w : Value} : mw d 297 Q 37 [some w, x1, x2, x3, x4, x5] (st) h = mv_a w (mw d 297 Q 38 [some w, x1, x2, x3, x4, x5] (w :: st) h) := (mw_at mj_297_37).trans (z_aload_n rfl)
theorem mj_297_38 : mc_P 297 38 = some (.getfield 39, 3, 13, 1, 0) := by decide +kernel
theorem s_297_38 {x0 x1 x2 x3 x4 x5 : Option Value} {o : Nat} : mw d 297 Q 38 [x0, x1, x2, x3, x4, x5] (.ref o :: st) h = (mg h o 13 ∧ mw d 297 Q 41 [x0, x1, x2, x3, x4, x5] (.int (mh_i h o 1) :: st) h) := (mw_at mj_297_38).trans (z_geti (by decide) (by decide) (Or.inl rfl))
theorem mj_297_41 : mc_P 297 41 = some (.imul, 1, 0, 0, 0) := by decide +kernel
theorem s_297_41 {x0 x1 x2 x3 x4 x5 : Option Value} {x w : Int32} : mw d 297 Q 41 [x0, x1, x2, x3, x4, x5] (.int w :: .int x :: st) h = mw d 297 Q 42 [x0, x1, x2, x3, x4, x5] (.int (x * w) :: st) h := (mw_at mj_297_41).trans (z_imul)
theorem mj_297_42 : mc_P 297 42 = some (.if_icmp .ge 47, 3, 0, 0, 0) := by decide +kernel
theorem s_297_42 {x0 x1 x2 x3 x4 x5 : Option Value} {x w : Int32} : mw d 297 Q 42 [x0, x1, x2, x3, x4, x5] (.int w :: .int x :: st) h = mB (w ≤ x) (mw d 297 Q) 89 45 [x0, x1, x2, x3, x4, x5] st h := (mw_at mj_297_42).trans (z_icmp_ge (by decide) rfl)
theorem mj_297_45 : mc_P 297 45 = some (.iload_n 3, 1, 0, 0, 0) := by decide +kernel
theorem s_297_45 {x0 x1 x2 x4 x5 : Option Value} {w : Value} : mw d 297 Q 45 [x0, x1, x2, some w, x4, x5] (st) h = mv_i w (mw d 297 Q 46 [x0, x1, x2, some w, x4, x5] (w :: st) h) := (mw_at mj_297_45).trans (z_iload_n rfl)
theorem mj_297_46 : mc_P 297 46 = some (.iload 4, 2, 0, 0, 0) := by decide +kernel
theorem s_297_46 {x0 x1 x2 x3 x5 : Option Value} {w : Value} : mw d 297 Q 46 [x0, x1, x2, x3, some w, x5] (st) h = mv_i w (mw d 297 Q 48 [x0, x1, x2, x3, some w, x5] (w :: st) h) := (mw_at mj_297_46).trans (z_iload rfl)
theorem mj_297_48 : mc_P 297 48 = some (.aload_n 1, 1, 0, 0, 0) := by decide +kernel
theorem s_297_48 {x0 x2 x3 x4 x5 : Option Value} {w : Value} : mw d 297 Q 48 [x0, some w, x2, x3, x4, x5] (st) h = mv_a w (mw d 297 Q 49 [x0, some w, x2, x3, x4, x5] (w :: st) h) := (mw_at mj_297_48).trans (z_aload_n rfl)
theorem mj_297_49 : mc_P 297 49 = some (.invokestatic 87, 3, 296, 0, 2) := by decide +kernel
theorem s_297_49 {x0 x1 x2 x3 x4 x5 : Option Value} {a0 a1 : Value} : mw (d + 1) 297 Q 49 [x0, x1, x2, x3, x4, x5] (a1 :: a0 :: st) h = (mca st 8 ∧ mca [a0, a1] 2 ∧ mcall d 296 [a0, a1] h (mK (d + 1) 297 Q 52 [x0, x1, x2, x3, x4, x5] st)) := (mw_at mj_297_49).trans ((z_invs (As := [a0, a1]) rfl rfl).trans (congrArg (And _) (mC_nl nl_296)))
theorem mj_297_52 : mc_P 297 52 = some (.iload 5, 2, 0, 0, 0) := by decide +kernel
theorem s_297_52 {x0 x1 x2 x3 x4 : Option Value} {w : Value} : mw d 297 Q 52 [x0, x1, x2, x3, x4, some w] (st) h = mv_i w (mw d 297 Q 54 [x0, x1, x2, x3, x4, some w] (w :: st) h) := (mw_at mj_297_52).trans (z_iload rfl)
theorem mj_297_54 : mc_P 297 54 = some (.aload_n 1, 1, 0, 0, 0) := by decide +kernel
theorem s_297_54 {x0 x2 x3 x4 x5 : Option Value} {w : Value} : mw d 297 Q 54 [x0, some w, x2, x3, x4, x5] (st) h = mv_a w (mw d 297 Q 55 [x0, some w, x2, x3, x4, x5] (w :: st) h) := (mw_at mj_297_54).trans (z_aload_n rfl)
theorem mj_297_55 : mc_P 297 55 = some (.invokestatic 87, 3, 296, 0, 2) := by decide +kernel
theorem s_297_55 {x0 x1 x2 x3 x4 x5 : Option Value} {a0 a1 : Value} : mw (d + 1) 297 Q 55 [x0, x1, x2, x3, x4, x5] (a1 :: a0 :: st) h = (mca st 8 ∧ mca [a0, a1] 2 ∧ mcall d 296 [a0, a1] h (mK (d + 1) 297 Q 58 [x0, x1, x2, x3, x4, x5] st)) := (mw_at mj_297_55).trans ((z_invs (As := [a0, a1]) rfl rfl).trans (congrArg (And _) (mC_nl nl_296)))
theorem mj_297_58 : mc_P 297 58 = some (.ladd, 1, 0, 0, 0) := by decide +kernel
theorem s_297_58 {x0 x1 x2 x3 x4 x5 : Option Value} {x w : Int64} : mw d 297 Q 58 [x0, x1, x2, x3, x4, x5] (.long w :: .long x :: st) h = mw d 297 Q 59 [x0, x1, x2, x3, x4, x5] (.long (x + w) :: st) h := (mw_at mj_297_58).trans (z_ladd)
theorem mj_297_59 : mc_P 297 59 = some (.aload_n 0, 1, 0, 0, 0) := by decide +kernel
theorem s_297_59 {x1 x2 x3 x4 x5 : Option Value} {w : Value} : mw d 297 Q 59 [some w, x1, x2, x3, x4, x5] (st) h = mv_a w (mw d 297 Q 60 [some w, x1, x2, x3, x4, x5] (w :: st) h) := (mw_at mj_297_59).trans (z_aload_n rfl)
theorem mj_297_60 : mc_P 297 60 = some (.getfield 9, 3, 13, 3, 0) := by decide +kernel
theorem s_297_60 {x0 x1 x2 x3 x4 x5 : Option Value} {o : Nat} : mw d 297 Q 60 [x0, x1, x2, x3, x4, x5] (.ref o :: st) h = (mg h o 13 ∧ mw d 297 Q 63 [x0, x1, x2, x3, x4, x5] (va_rf (mh_r h o 3) :: st) h) := (mw_at mj_297_60).trans (z_getr (by decide) (by decide) rfl)
theorem mj_297_63 : mc_P 297 63 = some (.bipush 24, 2, 0, 0, 0) := by decide +kernel
theorem s_297_63 {x0 x1 x2 x3 x4 x5 : Option Value} : mw d 297 Q 63 [x0, x1, x2, x3, x4, x5] (st) h = mw d 297 Q 65 [x0, x1, x2, x3, x4, x5] (.int 24 :: st) h := (mw_at mj_297_63).trans (z_bipush (by decide))
theorem mj_297_65 : mc_P 297 65 = some (.iload 4, 2, 0, 0, 0) := by decide +kernel
theorem s_297_65 {x0 x1 x2 x3 x5 : Option Value} {w : Value} : mw d 297 Q 65 [x0, x1, x2, x3, some w, x5] (st) h = mv_i w (mw d 297 Q 67 [x0, x1, x2, x3, some w, x5] (w :: st) h) := (mw_at mj_297_65).trans (z_iload rfl)
theorem mj_297_67 : mc_P 297 67 = some (.imul, 1, 0, 0, 0) := by decide +kernel
theorem s_297_67 {x0 x1 x2 x3 x4 x5 : Option Value} {x w : Int32} : mw d 297 Q 67 [x0, x1, x2, x3, x4, x5] (.int w :: .int x :: st) h = mw d 297 Q 68 [x0, x1, x2, x3, x4, x5] (.int (x * w) :: st) h := (mw_at mj_297_67).trans (z_imul)
theorem mj_297_68 : mc_P 297 68 = some (.iload 5, 2, 0, 0, 0) := by decide +kernel
theorem s_297_68 {x0 x1 x2 x3 x4 : Option Value} {w : Value} : mw d 297 Q 68 [x0, x1, x2, x3, x4, some w] (st) h = mv_i w (mw d 297 Q 70 [x0, x1, x2, x3, x4, some w] (w :: st) h) := (mw_at mj_297_68).trans (z_iload rfl)
theorem mj_297_70 : mc_P 297 70 = some (.iadd, 1, 0, 0, 0) := by decide +kernel
theorem s_297_70 {x0 x1 x2 x3 x4 x5 : Option Value} {x w : Int32} : mw d 297 Q 70 [x0, x1, x2, x3, x4, x5] (.int w :: .int x :: st) h = mw d 297 Q 71 [x0, x1, x2, x3, x4, x5] (.int (x + w) :: st) h := (mw_at mj_297_70).trans (z_iadd)
theorem mj_297_71 : mc_P 297 71 = some (.laload, 1, 0, 0, 0) := by decide +kernel
theorem s_297_71 {x0 x1 x2 x3 x4 x5 : Option Value} {o : Nat} {i : Int32} : mw d 297 Q 71 [x0, x1, x2, x3, x4, x5] (.int i :: .ref o :: st) h = (mg h o 101 ∧ mx i (mh_l h o) ∧ mw d 297 Q 72 [x0, x1, x2, x3, x4, x5] (.long (mh_j h o i.toNatClampNeg) :: st) h) := (mw_at mj_297_71).trans (z_lald)
theorem mj_297_72 : mc_P 297 72 = some (.lcmp, 1, 0, 0, 0) := by decide +kernel
theorem s_297_72 {x0 x1 x2 x3 x4 x5 : Option Value} {x w : Int64} : mw d 297 Q 72 [x0, x1, x2, x3, x4, x5] (.long w :: .long x :: st) h = mw d 297 Q 73 [x0, x1, x2, x3, x4, x5] (.int (lg_cmp x w) :: st) h := (mw_at mj_297_72).trans (z_lcmp)
theorem mj_297_73 : mc_P 297 73 = some (.ifCond .gt 7, 3, 0, 0, 0) := by decide +kernel
theorem s_297_73 {x0 x1 x2 x3 x4 x5 : Option Value} {x : Int32} : mw d 297 Q 73 [x0, x1, x2, x3, x4, x5] (.int x :: st) h = mB (0 < x) (mw d 297 Q) 80 76 [x0, x1, x2, x3, x4, x5] st h := (mw_at mj_297_73).trans (z_if_gt (by decide) rfl)
theorem mj_297_76 : mc_P 297 76 = some (.iconst 1, 1, 0, 0, 0) := by decide +kernel
theorem s_297_76 {x0 x1 x2 x3 x4 x5 : Option Value} : mw d 297 Q 76 [x0, x1, x2, x3, x4, x5] (st) h = mw d 297 Q 77 [x0, x1, x2, x3, x4, x5] (.int 1 :: st) h := (mw_at mj_297_76).trans (z_iconst (by decide))
theorem mj_297_77 : mc_P 297 77 = some (.goto 4, 3, 0, 0, 0) := by decide +kernel
theorem s_297_77 {x0 x1 x2 x3 x4 x5 : Option Value} : mw d 297 Q 77 [x0, x1, x2, x3, x4, x5] (st) h = mw d 297 Q 81 [x0, x1, x2, x3, x4, x5] (st) h := (mw_at mj_297_77).trans (z_goto (by decide))
theorem mj_297_80 : mc_P 297 80 = some (.iconst 0, 1, 0, 0, 0) := by decide +kernel
theorem s_297_80 {x0 x1 x2 x3 x4 x5 : Option Value} : mw d 297 Q 80 [x0, x1, x2, x3, x4, x5] (st) h = mw d 297 Q 81 [x0, x1, x2, x3, x4, x5] (.int 0 :: st) h := (mw_at mj_297_80).trans (z_iconst (by decide))
theorem mj_297_81 : mc_P 297 81 = some (.iand, 1, 0, 0, 0) := by decide +kernel
theorem s_297_81 {x0 x1 x2 x3 x4 x5 : Option Value} {x w : Int32} : mw d 297 Q 81 [x0, x1, x2, x3, x4, x5] (.int w :: .int x :: st) h = mw d 297 Q 82 [x0, x1, x2, x3, x4, x5] (.int (x &&& w) :: st) h := (mw_at mj_297_81).trans (z_iand)
theorem mj_297_82 : mc_P 297 82 = some (.istore_n 3, 1, 0, 0, 0) := by decide +kernel
theorem s_297_82 {x0 x1 x2 x3 x4 x5 : Option Value} {w : Int32} : mw d 297 Q 82 [x0, x1, x2, x3, x4, x5] (.int w :: st) h = mw d 297 Q 83 [x0, x1, mk2 x2, some (.int w), x4, x5] (st) h := (mw_at mj_297_82).trans (z_istore_n (Nat.le_of_ble_eq_true rfl) (me_s1_mk (j := 2) (w := x2) rfl))
theorem mj_297_83 : mc_P 297 83 = some (.iinc 5 1, 3, 0, 0, 0) := by decide +kernel
theorem s_297_83 {x0 x1 x2 x3 x4 : Option Value} {w : Int32} : mw d 297 Q 83 [x0, x1, x2, x3, x4, some (.int w)] (st) h = mw d 297 Q 86 [x0, x1, x2, x3, mk2 x4, some (.int (w + 1))] (st) h := (mw_at mj_297_83).trans (z_iinc rfl (Nat.le_of_ble_eq_true rfl) (by decide) (me_s1_mk (j := 4) (w := x4) rfl))
theorem mj_297_86 : mc_P 297 86 = some (.goto (-52), 3, 0, 0, 0) := by decide +kernel
theorem s_297_86 {x0 x1 x2 x3 x4 x5 : Option Value} : mw d 297 Q 86 [x0, x1, x2, x3, x4, x5] (st) h = mw d 297 Q 34 [x0, x1, x2, x3, x4, x5] (st) h := (mw_at mj_297_86).trans (z_goto (by decide))
theorem mj_297_89 : mc_P 297 89 = some (.iinc 4 1, 3, 0, 0, 0) := by decide +kernel
theorem s_297_89 {x0 x1 x2 x3 x5 : Option Value} {w : Int32} : mw d 297 Q 89 [x0, x1, x2, x3, some (.int w), x5] (st) h = mw d 297 Q 92 [x0, x1, x2, mk2 x3, some (.int (w + 1)), x5] (st) h := (mw_at mj_297_89).trans (z_iinc rfl (Nat.le_of_ble_eq_true rfl) (by decide) (me_s1_mk (j := 3) (w := x3) rfl))
theorem mj_297_92 : mc_P 297 92 = some (.goto (-76), 3, 0, 0, 0) := by decide +kernel
theorem s_297_92 {x0 x1 x2 x3 x4 x5 : Option Value} : mw d 297 Q 92 [x0, x1, x2, x3, x4, x5] (st) h = mw d 297 Q 16 [x0, x1, x2, x3, x4, x5] (st) h := (mw_at mj_297_92).trans (z_goto (by decide))
theorem mj_297_95 : mc_P 297 95 = some (.iconst 0, 1, 0, 0, 0) := by decide +kernel
theorem s_297_95 {x0 x1 x2 x3 x4 x5 : Option Value} : mw d 297 Q 95 [x0, x1, x2, x3, x4, x5] (st) h = mw d 297 Q 96 [x0, x1, x2, x3, x4, x5] (.int 0 :: st) h := (mw_at mj_297_95).trans (z_iconst (by decide))
theorem mj_297_96 : mc_P 297 96 = some (.istore 4, 2, 0, 0, 0) := by decide +kernel
theorem s_297_96 {x0 x1 x2 x3 x4 x5 : Option Value} {w : Int32} : mw d 297 Q 96 [x0, x1, x2, x3, x4, x5] (.int w :: st) h = mw d 297 Q 98 [x0, x1, x2, mk2 x3, some (.int w), x5] (st) h := (mw_at mj_297_96).trans (z_istore (Nat.le_of_ble_eq_true rfl) (me_s1_mk (j := 3) (w := x3) rfl))
theorem mj_297_98 : mc_P 297 98 = some (.iload 4, 2, 0, 0, 0) := by decide +kernel
theorem s_297_98 {x0 x1 x2 x3 x5 : Option Value} {w : Value} : mw d 297 Q 98 [x0, x1, x2, x3, some w, x5] (st) h = mv_i w (mw d 297 Q 100 [x0, x1, x2, x3, some w, x5] (w :: st) h) := (mw_at mj_297_98).trans (z_iload rfl)
theorem mj_297_100 : mc_P 297 100 = some (.aload_n 0, 1, 0, 0, 0) := by decide +kernel
theorem s_297_100 {x1 x2 x3 x4 x5 : Option Value} {w : Value} : mw d 297 Q 100 [some w, x1, x2, x3, x4, x5] (st) h = mv_a w (mw d 297 Q 101 [some w, x1, x2, x3, x4, x5] (w :: st) h) := (mw_at mj_297_100).trans (z_aload_n rfl)
theorem mj_297_101 : mc_P 297 101 = some (.getfield 43, 3, 13, 2, 0) := by decide +kernel
theorem s_297_101 {x0 x1 x2 x3 x4 x5 : Option Value} {o : Nat} : mw d 297 Q 101 [x0, x1, x2, x3, x4, x5] (.ref o :: st) h = (mg h o 13 ∧ mw d 297 Q 104 [x0, x1, x2, x3, x4, x5] (.int (mh_i h o 2) :: st) h) := (mw_at mj_297_101).trans (z_geti (by decide) (by decide) (Or.inl rfl))
theorem mj_297_104 : mc_P 297 104 = some (.if_icmp .ge 86, 3, 0, 0, 0) := by decide +kernel
theorem s_297_104 {x0 x1 x2 x3 x4 x5 : Option Value} {x w : Int32} : mw d 297 Q 104 [x0, x1, x2, x3, x4, x5] (.int w :: .int x :: st) h = mB (w ≤ x) (mw d 297 Q) 190 107 [x0, x1, x2, x3, x4, x5] st h := (mw_at mj_297_104).trans (z_icmp_ge (by decide) rfl)
theorem mj_297_107 : mc_P 297 107 = some (.iload_n 3, 1, 0, 0, 0) := by decide +kernel
theorem s_297_107 {x0 x1 x2 x4 x5 : Option Value} {w : Value} : mw d 297 Q 107 [x0, x1, x2, some w, x4, x5] (st) h = mv_i w (mw d 297 Q 108 [x0, x1, x2, some w, x4, x5] (w :: st) h) := (mw_at mj_297_107).trans (z_iload_n rfl)
theorem mj_297_108 : mc_P 297 108 = some (.ifCond .eq 82, 3, 0, 0, 0) := by decide +kernel
theorem s_297_108 {x0 x1 x2 x3 x4 x5 : Option Value} {x : Int32} : mw d 297 Q 108 [x0, x1, x2, x3, x4, x5] (.int x :: st) h = mB (x = 0) (mw d 297 Q) 190 111 [x0, x1, x2, x3, x4, x5] st h := (mw_at mj_297_108).trans (z_if_eq (by decide) rfl)
theorem mj_297_111 : mc_P 297 111 = some (.iconst 0, 1, 0, 0, 0) := by decide +kernel
theorem s_297_111 {x0 x1 x2 x3 x4 x5 : Option Value} : mw d 297 Q 111 [x0, x1, x2, x3, x4, x5] (st) h = mw d 297 Q 112 [x0, x1, x2, x3, x4, x5] (.int 0 :: st) h := (mw_at mj_297_111).trans (z_iconst (by decide))
theorem mj_297_112 : mc_P 297 112 = some (.istore 5, 2, 0, 0, 0) := by decide +kernel
theorem s_297_112 {x0 x1 x2 x3 x4 x5 : Option Value} {w : Int32} : mw d 297 Q 112 [x0, x1, x2, x3, x4, x5] (.int w :: st) h = mw d 297 Q 114 [x0, x1, x2, x3, mk2 x4, some (.int w)] (st) h := (mw_at mj_297_112).trans (z_istore (Nat.le_of_ble_eq_true rfl) (me_s1_mk (j := 4) (w := x4) rfl))
theorem mj_297_114 : mc_P 297 114 = some (.iload 5, 2, 0, 0, 0) := by decide +kernel
theorem s_297_114 {x0 x1 x2 x3 x4 : Option Value} {w : Value} : mw d 297 Q 114 [x0, x1, x2, x3, x4, some w] (st) h = mv_i w (mw d 297 Q 116 [x0, x1, x2, x3, x4, some w] (w :: st) h) := (mw_at mj_297_114).trans (z_iload rfl)
theorem mj_297_116 : mc_P 297 116 = some (.aload_n 0, 1, 0, 0, 0) := by decide +kernel
theorem s_297_116 {x1 x2 x3 x4 x5 : Option Value} {w : Value} : mw d 297 Q 116 [some w, x1, x2, x3, x4, x5] (st) h = mv_a w (mw d 297 Q 117 [some w, x1, x2, x3, x4, x5] (w :: st) h) := (mw_at mj_297_116).trans (z_aload_n rfl)
theorem mj_297_117 : mc_P 297 117 = some (.getfield 19, 3, 13, 6, 0) := by decide +kernel
theorem s_297_117 {x0 x1 x2 x3 x4 x5 : Option Value} {o : Nat} : mw d 297 Q 117 [x0, x1, x2, x3, x4, x5] (.ref o :: st) h = (mg h o 13 ∧ mw d 297 Q 120 [x0, x1, x2, x3, x4, x5] (va_rf (mh_r h o 6) :: st) h) := (mw_at mj_297_117).trans (z_getr (by decide) (by decide) rfl)
theorem mj_297_120 : mc_P 297 120 = some (.iload 4, 2, 0, 0, 0) := by decide +kernel
theorem s_297_120 {x0 x1 x2 x3 x5 : Option Value} {w : Value} : mw d 297 Q 120 [x0, x1, x2, x3, some w, x5] (st) h = mv_i w (mw d 297 Q 122 [x0, x1, x2, x3, some w, x5] (w :: st) h) := (mw_at mj_297_120).trans (z_iload rfl)
theorem mj_297_122 : mc_P 297 122 = some (.iaload, 1, 0, 0, 0) := by decide +kernel
theorem s_297_122 {x0 x1 x2 x3 x4 x5 : Option Value} {o : Nat} {i : Int32} : mw d 297 Q 122 [x0, x1, x2, x3, x4, x5] (.int i :: .ref o :: st) h = (mg h o 100 ∧ mx i (mh_l h o) ∧ mw d 297 Q 123 [x0, x1, x2, x3, x4, x5] (.int (mh_i h o i.toNatClampNeg) :: st) h) := (mw_at mj_297_122).trans (z_iald)
theorem mj_297_123 : mc_P 297 123 = some (.if_icmp .ge 61, 3, 0, 0, 0) := by decide +kernel
theorem s_297_123 {x0 x1 x2 x3 x4 x5 : Option Value} {x w : Int32} : mw d 297 Q 123 [x0, x1, x2, x3, x4, x5] (.int w :: .int x :: st) h = mB (w ≤ x) (mw d 297 Q) 184 126 [x0, x1, x2, x3, x4, x5] st h := (mw_at mj_297_123).trans (z_icmp_ge (by decide) rfl)
theorem mj_297_126 : mc_P 297 126 = some (.iload_n 3, 1, 0, 0, 0) := by decide +kernel
theorem s_297_126 {x0 x1 x2 x4 x5 : Option Value} {w : Value} : mw d 297 Q 126 [x0, x1, x2, some w, x4, x5] (st) h = mv_i w (mw d 297 Q 127 [x0, x1, x2, some w, x4, x5] (w :: st) h) := (mw_at mj_297_126).trans (z_iload_n rfl)
theorem mj_297_127 : mc_P 297 127 = some (.aload_n 2, 1, 0, 0, 0) := by decide +kernel
theorem s_297_127 {x0 x1 x3 x4 x5 : Option Value} {w : Value} : mw d 297 Q 127 [x0, x1, some w, x3, x4, x5] (st) h = mv_a w (mw d 297 Q 128 [x0, x1, some w, x3, x4, x5] (w :: st) h) := (mw_at mj_297_127).trans (z_aload_n rfl)
theorem mj_297_128 : mc_P 297 128 = some (.bipush 64, 2, 0, 0, 0) := by decide +kernel
theorem s_297_128 {x0 x1 x2 x3 x4 x5 : Option Value} : mw d 297 Q 128 [x0, x1, x2, x3, x4, x5] (st) h = mw d 297 Q 130 [x0, x1, x2, x3, x4, x5] (.int 64 :: st) h := (mw_at mj_297_128).trans (z_bipush (by decide))
theorem mj_297_130 : mc_P 297 130 = some (.iload 4, 2, 0, 0, 0) := by decide +kernel
theorem s_297_130 {x0 x1 x2 x3 x5 : Option Value} {w : Value} : mw d 297 Q 130 [x0, x1, x2, x3, some w, x5] (st) h = mv_i w (mw d 297 Q 132 [x0, x1, x2, x3, some w, x5] (w :: st) h) := (mw_at mj_297_130).trans (z_iload rfl)
theorem mj_297_132 : mc_P 297 132 = some (.imul, 1, 0, 0, 0) := by decide +kernel
theorem s_297_132 {x0 x1 x2 x3 x4 x5 : Option Value} {x w : Int32} : mw d 297 Q 132 [x0, x1, x2, x3, x4, x5] (.int w :: .int x :: st) h = mw d 297 Q 133 [x0, x1, x2, x3, x4, x5] (.int (x * w) :: st) h := (mw_at mj_297_132).trans (z_imul)
theorem mj_297_133 : mc_P 297 133 = some (.iload 5, 2, 0, 0, 0) := by decide +kernel
theorem s_297_133 {x0 x1 x2 x3 x4 : Option Value} {w : Value} : mw d 297 Q 133 [x0, x1, x2, x3, x4, some w] (st) h = mv_i w (mw d 297 Q 135 [x0, x1, x2, x3, x4, some w] (w :: st) h) := (mw_at mj_297_133).trans (z_iload rfl)
theorem mj_297_135 : mc_P 297 135 = some (.iadd, 1, 0, 0, 0) := by decide +kernel
theorem s_297_135 {x0 x1 x2 x3 x4 x5 : Option Value} {x w : Int32} : mw d 297 Q 135 [x0, x1, x2, x3, x4, x5] (.int w :: .int x :: st) h = mw d 297 Q 136 [x0, x1, x2, x3, x4, x5] (.int (x + w) :: st) h := (mw_at mj_297_135).trans (z_iadd)
theorem mj_297_136 : mc_P 297 136 = some (.iaload, 1, 0, 0, 0) := by decide +kernel
theorem s_297_136 {x0 x1 x2 x3 x4 x5 : Option Value} {o : Nat} {i : Int32} : mw d 297 Q 136 [x0, x1, x2, x3, x4, x5] (.int i :: .ref o :: st) h = (mg h o 100 ∧ mx i (mh_l h o) ∧ mw d 297 Q 137 [x0, x1, x2, x3, x4, x5] (.int (mh_i h o i.toNatClampNeg) :: st) h) := (mw_at mj_297_136).trans (z_iald)
theorem mj_297_137 : mc_P 297 137 = some (.i2l, 1, 0, 0, 0) := by decide +kernel
theorem s_297_137 {x0 x1 x2 x3 x4 x5 : Option Value} {x : Int32} : mw d 297 Q 137 [x0, x1, x2, x3, x4, x5] (.int x :: st) h = mw d 297 Q 138 [x0, x1, x2, x3, x4, x5] (.long x.toInt64 :: st) h := (mw_at mj_297_137).trans (z_i2l)
theorem mj_297_138 : mc_P 297 138 = some (.aload_n 0, 1, 0, 0, 0) := by decide +kernel
theorem s_297_138 {x1 x2 x3 x4 x5 : Option Value} {w : Value} : mw d 297 Q 138 [some w, x1, x2, x3, x4, x5] (st) h = mv_a w (mw d 297 Q 139 [some w, x1, x2, x3, x4, x5] (w :: st) h) := (mw_at mj_297_138).trans (z_aload_n rfl)
theorem mj_297_139 : mc_P 297 139 = some (.getfield 13, 3, 13, 4, 0) := by decide +kernel
theorem s_297_139 {x0 x1 x2 x3 x4 x5 : Option Value} {o : Nat} : mw d 297 Q 139 [x0, x1, x2, x3, x4, x5] (.ref o :: st) h = (mg h o 13 ∧ mw d 297 Q 142 [x0, x1, x2, x3, x4, x5] (va_rf (mh_r h o 4) :: st) h) := (mw_at mj_297_139).trans (z_getr (by decide) (by decide) rfl)
theorem mj_297_142 : mc_P 297 142 = some (.iload 4, 2, 0, 0, 0) := by decide +kernel
theorem s_297_142 {x0 x1 x2 x3 x5 : Option Value} {w : Value} : mw d 297 Q 142 [x0, x1, x2, x3, some w, x5] (st) h = mv_i w (mw d 297 Q 144 [x0, x1, x2, x3, some w, x5] (w :: st) h) := (mw_at mj_297_142).trans (z_iload rfl)
theorem mj_297_144 : mc_P 297 144 = some (.laload, 1, 0, 0, 0) := by decide +kernel
theorem s_297_144 {x0 x1 x2 x3 x4 x5 : Option Value} {o : Nat} {i : Int32} : mw d 297 Q 144 [x0, x1, x2, x3, x4, x5] (.int i :: .ref o :: st) h = (mg h o 101 ∧ mx i (mh_l h o) ∧ mw d 297 Q 145 [x0, x1, x2, x3, x4, x5] (.long (mh_j h o i.toNatClampNeg) :: st) h) := (mw_at mj_297_144).trans (z_lald)
theorem mj_297_145 : mc_P 297 145 = some (.lcmp, 1, 0, 0, 0) := by decide +kernel
theorem s_297_145 {x0 x1 x2 x3 x4 x5 : Option Value} {x w : Int64} : mw d 297 Q 145 [x0, x1, x2, x3, x4, x5] (.long w :: .long x :: st) h = mw d 297 Q 146 [x0, x1, x2, x3, x4, x5] (.int (lg_cmp x w) :: st) h := (mw_at mj_297_145).trans (z_lcmp)
theorem mj_297_146 : mc_P 297 146 = some (.ifCond .lt 29, 3, 0, 0, 0) := by decide +kernel
theorem s_297_146 {x0 x1 x2 x3 x4 x5 : Option Value} {x : Int32} : mw d 297 Q 146 [x0, x1, x2, x3, x4, x5] (.int x :: st) h = mB (x < 0) (mw d 297 Q) 175 149 [x0, x1, x2, x3, x4, x5] st h := (mw_at mj_297_146).trans (z_if_lt (by decide) rfl)
theorem mj_297_149 : mc_P 297 149 = some (.aload_n 2, 1, 0, 0, 0) := by decide +kernel
theorem s_297_149 {x0 x1 x3 x4 x5 : Option Value} {w : Value} : mw d 297 Q 149 [x0, x1, some w, x3, x4, x5] (st) h = mv_a w (mw d 297 Q 150 [x0, x1, some w, x3, x4, x5] (w :: st) h) := (mw_at mj_297_149).trans (z_aload_n rfl)
theorem mj_297_150 : mc_P 297 150 = some (.bipush 64, 2, 0, 0, 0) := by decide +kernel
theorem s_297_150 {x0 x1 x2 x3 x4 x5 : Option Value} : mw d 297 Q 150 [x0, x1, x2, x3, x4, x5] (st) h = mw d 297 Q 152 [x0, x1, x2, x3, x4, x5] (.int 64 :: st) h := (mw_at mj_297_150).trans (z_bipush (by decide))
theorem mj_297_152 : mc_P 297 152 = some (.iload 4, 2, 0, 0, 0) := by decide +kernel
theorem s_297_152 {x0 x1 x2 x3 x5 : Option Value} {w : Value} : mw d 297 Q 152 [x0, x1, x2, x3, some w, x5] (st) h = mv_i w (mw d 297 Q 154 [x0, x1, x2, x3, some w, x5] (w :: st) h) := (mw_at mj_297_152).trans (z_iload rfl)
theorem mj_297_154 : mc_P 297 154 = some (.imul, 1, 0, 0, 0) := by decide +kernel
theorem s_297_154 {x0 x1 x2 x3 x4 x5 : Option Value} {x w : Int32} : mw d 297 Q 154 [x0, x1, x2, x3, x4, x5] (.int w :: .int x :: st) h = mw d 297 Q 155 [x0, x1, x2, x3, x4, x5] (.int (x * w) :: st) h := (mw_at mj_297_154).trans (z_imul)
theorem mj_297_155 : mc_P 297 155 = some (.iload 5, 2, 0, 0, 0) := by decide +kernel
theorem s_297_155 {x0 x1 x2 x3 x4 : Option Value} {w : Value} : mw d 297 Q 155 [x0, x1, x2, x3, x4, some w] (st) h = mv_i w (mw d 297 Q 157 [x0, x1, x2, x3, x4, some w] (w :: st) h) := (mw_at mj_297_155).trans (z_iload rfl)
theorem mj_297_157 : mc_P 297 157 = some (.iadd, 1, 0, 0, 0) := by decide +kernel
theorem s_297_157 {x0 x1 x2 x3 x4 x5 : Option Value} {x w : Int32} : mw d 297 Q 157 [x0, x1, x2, x3, x4, x5] (.int w :: .int x :: st) h = mw d 297 Q 158 [x0, x1, x2, x3, x4, x5] (.int (x + w) :: st) h := (mw_at mj_297_157).trans (z_iadd)
theorem mj_297_158 : mc_P 297 158 = some (.iaload, 1, 0, 0, 0) := by decide +kernel
theorem s_297_158 {x0 x1 x2 x3 x4 x5 : Option Value} {o : Nat} {i : Int32} : mw d 297 Q 158 [x0, x1, x2, x3, x4, x5] (.int i :: .ref o :: st) h = (mg h o 100 ∧ mx i (mh_l h o) ∧ mw d 297 Q 159 [x0, x1, x2, x3, x4, x5] (.int (mh_i h o i.toNatClampNeg) :: st) h) := (mw_at mj_297_158).trans (z_iald)
theorem mj_297_159 : mc_P 297 159 = some (.i2l, 1, 0, 0, 0) := by decide +kernel
theorem s_297_159 {x0 x1 x2 x3 x4 x5 : Option Value} {x : Int32} : mw d 297 Q 159 [x0, x1, x2, x3, x4, x5] (.int x :: st) h = mw d 297 Q 160 [x0, x1, x2, x3, x4, x5] (.long x.toInt64 :: st) h := (mw_at mj_297_159).trans (z_i2l)
theorem mj_297_160 : mc_P 297 160 = some (.aload_n 0, 1, 0, 0, 0) := by decide +kernel
theorem s_297_160 {x1 x2 x3 x4 x5 : Option Value} {w : Value} : mw d 297 Q 160 [some w, x1, x2, x3, x4, x5] (st) h = mv_a w (mw d 297 Q 161 [some w, x1, x2, x3, x4, x5] (w :: st) h) := (mw_at mj_297_160).trans (z_aload_n rfl)
theorem mj_297_161 : mc_P 297 161 = some (.getfield 16, 3, 13, 5, 0) := by decide +kernel
theorem s_297_161 {x0 x1 x2 x3 x4 x5 : Option Value} {o : Nat} : mw d 297 Q 161 [x0, x1, x2, x3, x4, x5] (.ref o :: st) h = (mg h o 13 ∧ mw d 297 Q 164 [x0, x1, x2, x3, x4, x5] (va_rf (mh_r h o 5) :: st) h) := (mw_at mj_297_161).trans (z_getr (by decide) (by decide) rfl)
theorem mj_297_164 : mc_P 297 164 = some (.iload 4, 2, 0, 0, 0) := by decide +kernel
theorem s_297_164 {x0 x1 x2 x3 x5 : Option Value} {w : Value} : mw d 297 Q 164 [x0, x1, x2, x3, some w, x5] (st) h = mv_i w (mw d 297 Q 166 [x0, x1, x2, x3, some w, x5] (w :: st) h) := (mw_at mj_297_164).trans (z_iload rfl)
theorem mj_297_166 : mc_P 297 166 = some (.laload, 1, 0, 0, 0) := by decide +kernel
theorem s_297_166 {x0 x1 x2 x3 x4 x5 : Option Value} {o : Nat} {i : Int32} : mw d 297 Q 166 [x0, x1, x2, x3, x4, x5] (.int i :: .ref o :: st) h = (mg h o 101 ∧ mx i (mh_l h o) ∧ mw d 297 Q 167 [x0, x1, x2, x3, x4, x5] (.long (mh_j h o i.toNatClampNeg) :: st) h) := (mw_at mj_297_166).trans (z_lald)
theorem mj_297_167 : mc_P 297 167 = some (.lcmp, 1, 0, 0, 0) := by decide +kernel
theorem s_297_167 {x0 x1 x2 x3 x4 x5 : Option Value} {x w : Int64} : mw d 297 Q 167 [x0, x1, x2, x3, x4, x5] (.long w :: .long x :: st) h = mw d 297 Q 168 [x0, x1, x2, x3, x4, x5] (.int (lg_cmp x w) :: st) h := (mw_at mj_297_167).trans (z_lcmp)
theorem mj_297_168 : mc_P 297 168 = some (.ifCond .gt 7, 3, 0, 0, 0) := by decide +kernel
theorem s_297_168 {x0 x1 x2 x3 x4 x5 : Option Value} {x : Int32} : mw d 297 Q 168 [x0, x1, x2, x3, x4, x5] (.int x :: st) h = mB (0 < x) (mw d 297 Q) 175 171 [x0, x1, x2, x3, x4, x5] st h := (mw_at mj_297_168).trans (z_if_gt (by decide) rfl)
theorem mj_297_171 : mc_P 297 171 = some (.iconst 1, 1, 0, 0, 0) := by decide +kernel
theorem s_297_171 {x0 x1 x2 x3 x4 x5 : Option Value} : mw d 297 Q 171 [x0, x1, x2, x3, x4, x5] (st) h = mw d 297 Q 172 [x0, x1, x2, x3, x4, x5] (.int 1 :: st) h := (mw_at mj_297_171).trans (z_iconst (by decide))
theorem mj_297_172 : mc_P 297 172 = some (.goto 4, 3, 0, 0, 0) := by decide +kernel
theorem s_297_172 {x0 x1 x2 x3 x4 x5 : Option Value} : mw d 297 Q 172 [x0, x1, x2, x3, x4, x5] (st) h = mw d 297 Q 176 [x0, x1, x2, x3, x4, x5] (st) h := (mw_at mj_297_172).trans (z_goto (by decide))
theorem mj_297_175 : mc_P 297 175 = some (.iconst 0, 1, 0, 0, 0) := by decide +kernel
theorem s_297_175 {x0 x1 x2 x3 x4 x5 : Option Value} : mw d 297 Q 175 [x0, x1, x2, x3, x4, x5] (st) h = mw d 297 Q 176 [x0, x1, x2, x3, x4, x5] (.int 0 :: st) h := (mw_at mj_297_175).trans (z_iconst (by decide))
theorem mj_297_176 : mc_P 297 176 = some (.iand, 1, 0, 0, 0) := by decide +kernel
theorem s_297_176 {x0 x1 x2 x3 x4 x5 : Option Value} {x w : Int32} : mw d 297 Q 176 [x0, x1, x2, x3, x4, x5] (.int w :: .int x :: st) h = mw d 297 Q 177 [x0, x1, x2, x3, x4, x5] (.int (x &&& w) :: st) h := (mw_at mj_297_176).trans (z_iand)
theorem mj_297_177 : mc_P 297 177 = some (.istore_n 3, 1, 0, 0, 0) := by decide +kernel
theorem s_297_177 {x0 x1 x2 x3 x4 x5 : Option Value} {w : Int32} : mw d 297 Q 177 [x0, x1, x2, x3, x4, x5] (.int w :: st) h = mw d 297 Q 178 [x0, x1, mk2 x2, some (.int w), x4, x5] (st) h := (mw_at mj_297_177).trans (z_istore_n (Nat.le_of_ble_eq_true rfl) (me_s1_mk (j := 2) (w := x2) rfl))
theorem mj_297_178 : mc_P 297 178 = some (.iinc 5 1, 3, 0, 0, 0) := by decide +kernel
theorem s_297_178 {x0 x1 x2 x3 x4 : Option Value} {w : Int32} : mw d 297 Q 178 [x0, x1, x2, x3, x4, some (.int w)] (st) h = mw d 297 Q 181 [x0, x1, x2, x3, mk2 x4, some (.int (w + 1))] (st) h := (mw_at mj_297_178).trans (z_iinc rfl (Nat.le_of_ble_eq_true rfl) (by decide) (me_s1_mk (j := 4) (w := x4) rfl))
theorem mj_297_181 : mc_P 297 181 = some (.goto (-67), 3, 0, 0, 0) := by decide +kernel
theorem s_297_181 {x0 x1 x2 x3 x4 x5 : Option Value} : mw d 297 Q 181 [x0, x1, x2, x3, x4, x5] (st) h = mw d 297 Q 114 [x0, x1, x2, x3, x4, x5] (st) h := (mw_at mj_297_181).trans (z_goto (by decide))
theorem mj_297_184 : mc_P 297 184 = some (.iinc 4 1, 3, 0, 0, 0) := by decide +kernel
theorem s_297_184 {x0 x1 x2 x3 x5 : Option Value} {w : Int32} : mw d 297 Q 184 [x0, x1, x2, x3, some (.int w), x5] (st) h = mw d 297 Q 187 [x0, x1, x2, mk2 x3, some (.int (w + 1)), x5] (st) h := (mw_at mj_297_184).trans (z_iinc rfl (Nat.le_of_ble_eq_true rfl) (by decide) (me_s1_mk (j := 3) (w := x3) rfl))
theorem mj_297_187 : mc_P 297 187 = some (.goto (-89), 3, 0, 0, 0) := by decide +kernel
theorem s_297_187 {x0 x1 x2 x3 x4 x5 : Option Value} : mw d 297 Q 187 [x0, x1, x2, x3, x4, x5] (st) h = mw d 297 Q 98 [x0, x1, x2, x3, x4, x5] (st) h := (mw_at mj_297_187).trans (z_goto (by decide))
theorem mj_297_190 : mc_P 297 190 = some (.iload_n 3, 1, 0, 0, 0) := by decide +kernel
theorem s_297_190 {x0 x1 x2 x4 x5 : Option Value} {w : Value} : mw d 297 Q 190 [x0, x1, x2, some w, x4, x5] (st) h = mv_i w (mw d 297 Q 191 [x0, x1, x2, some w, x4, x5] (w :: st) h) := (mw_at mj_297_190).trans (z_iload_n rfl)
theorem mj_297_191 : mc_P 297 191 = some (.ireturn, 1, 0, 3, 0) := by decide +kernel
theorem s_297_191 {x0 x1 x2 x3 x4 x5 : Option Value} {x : Int32} : mw d 297 Q 191 [x0, x1, x2, x3, x4, x5] ([.int x]) h = ((x = 0 ∨ x = 1) ∧ Q (some (.int x)) h) := (mw_at mj_297_191).trans (z_zret)
theorem e_297 {a0 : Nat} {a1 : Nat} {a2 : Nat} : mcall d 297 [.ref a0, .ref a1, .ref a2] h Q = mw d 297 Q 0 [some (.ref a0), some (.ref a1), some (.ref a2), none, none, none] [] h := by
  show mw d 297 Q 0 (me_en (mc_nl 297) _) [] h = _
  rw [nl_297]; rfl

/-! InvariantDeskModel.nothing()V -/
theorem mj_299_0 : mc_P 299 0 = some (.aload_n 0, 1, 0, 0, 0) := by decide +kernel
theorem s_299_0 {w : Value} : mw d 299 Q 0 [some w] (st) h = mv_a w (mw d 299 Q 1 [some w] (w :: st) h) := (mw_at mj_299_0).trans (z_aload_n rfl)
theorem mj_299_1 : mc_P 299 1 = some (.iconst 1, 1, 0, 0, 0) := by decide +kernel
theorem s_299_1 {x0 : Option Value} : mw d 299 Q 1 [x0] (st) h = mw d 299 Q 2 [x0] (.int 1 :: st) h := (mw_at mj_299_1).trans (z_iconst (by decide))
theorem mj_299_2 : mc_P 299 2 = some (.putfield 176, 3, 14, 33, 0) := by decide +kernel
theorem s_299_2 {x0 : Option Value} {o : Nat} {w : Int32} : mw d 299 Q 2 [x0] (.int w :: .ref o :: st) h = (mg h o 14 ∧ mw d 299 Q 5 [x0] (st) (mh_si h o 33 w)) := (mw_at mj_299_2).trans (z_puti (by decide) (by decide) rfl)
theorem mj_299_5 : mc_P 299 5 = some (.aload_n 0, 1, 0, 0, 0) := by decide +kernel
theorem s_299_5 {w : Value} : mw d 299 Q 5 [some w] (st) h = mv_a w (mw d 299 Q 6 [some w] (w :: st) h) := (mw_at mj_299_5).trans (z_aload_n rfl)
theorem mj_299_6 : mc_P 299 6 = some (.getfield 70, 3, 14, 28, 0) := by decide +kernel
theorem s_299_6 {x0 : Option Value} {o : Nat} : mw d 299 Q 6 [x0] (.ref o :: st) h = (mg h o 14 ∧ mw d 299 Q 9 [x0] (va_rf (mh_r h o 28) :: st) h) := (mw_at mj_299_6).trans (z_getr (by decide) (by decide) rfl)
theorem mj_299_9 : mc_P 299 9 = some (.iconst 0, 1, 0, 0, 0) := by decide +kernel
theorem s_299_9 {x0 : Option Value} : mw d 299 Q 9 [x0] (st) h = mw d 299 Q 10 [x0] (.int 0 :: st) h := (mw_at mj_299_9).trans (z_iconst (by decide))
theorem mj_299_10 : mc_P 299 10 = some (.iconst (-1), 1, 0, 0, 0) := by decide +kernel
theorem s_299_10 {x0 : Option Value} : mw d 299 Q 10 [x0] (st) h = mw d 299 Q 11 [x0] (.int (-1) :: st) h := (mw_at mj_299_10).trans (z_iconst (by decide))
theorem mj_299_11 : mc_P 299 11 = some (.iastore, 1, 0, 0, 0) := by decide +kernel
theorem s_299_11 {x0 : Option Value} {o : Nat} {i w : Int32} : mw d 299 Q 11 [x0] (.int w :: .int i :: .ref o :: st) h = (mg h o 100 ∧ mx i (mh_l h o) ∧ mw d 299 Q 12 [x0] (st) (mh_si h o i.toNatClampNeg w)) := (mw_at mj_299_11).trans (z_iast)
theorem mj_299_12 : mc_P 299 12 = some (.aload_n 0, 1, 0, 0, 0) := by decide +kernel
theorem s_299_12 {w : Value} : mw d 299 Q 12 [some w] (st) h = mv_a w (mw d 299 Q 13 [some w] (w :: st) h) := (mw_at mj_299_12).trans (z_aload_n rfl)
theorem mj_299_13 : mc_P 299 13 = some (.getfield 73, 3, 14, 29, 0) := by decide +kernel
theorem s_299_13 {x0 : Option Value} {o : Nat} : mw d 299 Q 13 [x0] (.ref o :: st) h = (mg h o 14 ∧ mw d 299 Q 16 [x0] (va_rf (mh_r h o 29) :: st) h) := (mw_at mj_299_13).trans (z_getr (by decide) (by decide) rfl)
theorem mj_299_16 : mc_P 299 16 = some (.iconst 0, 1, 0, 0, 0) := by decide +kernel
theorem s_299_16 {x0 : Option Value} : mw d 299 Q 16 [x0] (st) h = mw d 299 Q 17 [x0] (.int 0 :: st) h := (mw_at mj_299_16).trans (z_iconst (by decide))
theorem mj_299_17 : mc_P 299 17 = some (.iconst (-1), 1, 0, 0, 0) := by decide +kernel
theorem s_299_17 {x0 : Option Value} : mw d 299 Q 17 [x0] (st) h = mw d 299 Q 18 [x0] (.int (-1) :: st) h := (mw_at mj_299_17).trans (z_iconst (by decide))
theorem mj_299_18 : mc_P 299 18 = some (.iastore, 1, 0, 0, 0) := by decide +kernel
theorem s_299_18 {x0 : Option Value} {o : Nat} {i w : Int32} : mw d 299 Q 18 [x0] (.int w :: .int i :: .ref o :: st) h = (mg h o 100 ∧ mx i (mh_l h o) ∧ mw d 299 Q 19 [x0] (st) (mh_si h o i.toNatClampNeg w)) := (mw_at mj_299_18).trans (z_iast)
theorem mj_299_19 : mc_P 299 19 = some (.aload_n 0, 1, 0, 0, 0) := by decide +kernel
theorem s_299_19 {w : Value} : mw d 299 Q 19 [some w] (st) h = mv_a w (mw d 299 Q 20 [some w] (w :: st) h) := (mw_at mj_299_19).trans (z_aload_n rfl)
theorem mj_299_20 : mc_P 299 20 = some (.getfield 76, 3, 14, 30, 0) := by decide +kernel
theorem s_299_20 {x0 : Option Value} {o : Nat} : mw d 299 Q 20 [x0] (.ref o :: st) h = (mg h o 14 ∧ mw d 299 Q 23 [x0] (va_rf (mh_r h o 30) :: st) h) := (mw_at mj_299_20).trans (z_getr (by decide) (by decide) rfl)
theorem mj_299_23 : mc_P 299 23 = some (.iconst 0, 1, 0, 0, 0) := by decide +kernel
theorem s_299_23 {x0 : Option Value} : mw d 299 Q 23 [x0] (st) h = mw d 299 Q 24 [x0] (.int 0 :: st) h := (mw_at mj_299_23).trans (z_iconst (by decide))
theorem mj_299_24 : mc_P 299 24 = some (.iconst 1, 1, 0, 0, 0) := by decide +kernel
theorem s_299_24 {x0 : Option Value} : mw d 299 Q 24 [x0] (st) h = mw d 299 Q 25 [x0] (.int 1 :: st) h := (mw_at mj_299_24).trans (z_iconst (by decide))
theorem mj_299_25 : mc_P 299 25 = some (.iastore, 1, 0, 0, 0) := by decide +kernel
theorem s_299_25 {x0 : Option Value} {o : Nat} {i w : Int32} : mw d 299 Q 25 [x0] (.int w :: .int i :: .ref o :: st) h = (mg h o 100 ∧ mx i (mh_l h o) ∧ mw d 299 Q 26 [x0] (st) (mh_si h o i.toNatClampNeg w)) := (mw_at mj_299_25).trans (z_iast)
theorem mj_299_26 : mc_P 299 26 = some (.aload_n 0, 1, 0, 0, 0) := by decide +kernel
theorem s_299_26 {w : Value} : mw d 299 Q 26 [some w] (st) h = mv_a w (mw d 299 Q 27 [some w] (w :: st) h) := (mw_at mj_299_26).trans (z_aload_n rfl)
theorem mj_299_27 : mc_P 299 27 = some (.getfield 79, 3, 14, 31, 0) := by decide +kernel
theorem s_299_27 {x0 : Option Value} {o : Nat} : mw d 299 Q 27 [x0] (.ref o :: st) h = (mg h o 14 ∧ mw d 299 Q 30 [x0] (va_rf (mh_r h o 31) :: st) h) := (mw_at mj_299_27).trans (z_getr (by decide) (by decide) rfl)
theorem mj_299_30 : mc_P 299 30 = some (.iconst 0, 1, 0, 0, 0) := by decide +kernel
theorem s_299_30 {x0 : Option Value} : mw d 299 Q 30 [x0] (st) h = mw d 299 Q 31 [x0] (.int 0 :: st) h := (mw_at mj_299_30).trans (z_iconst (by decide))
theorem mj_299_31 : mc_P 299 31 = some (.iconst 0, 1, 0, 0, 0) := by decide +kernel
theorem s_299_31 {x0 : Option Value} : mw d 299 Q 31 [x0] (st) h = mw d 299 Q 32 [x0] (.int 0 :: st) h := (mw_at mj_299_31).trans (z_iconst (by decide))
theorem mj_299_32 : mc_P 299 32 = some (.iastore, 1, 0, 0, 0) := by decide +kernel
theorem s_299_32 {x0 : Option Value} {o : Nat} {i w : Int32} : mw d 299 Q 32 [x0] (.int w :: .int i :: .ref o :: st) h = (mg h o 100 ∧ mx i (mh_l h o) ∧ mw d 299 Q 33 [x0] (st) (mh_si h o i.toNatClampNeg w)) := (mw_at mj_299_32).trans (z_iast)
theorem mj_299_33 : mc_P 299 33 = some (.aload_n 0, 1, 0, 0, 0) := by decide +kernel
theorem s_299_33 {w : Value} : mw d 299 Q 33 [some w] (st) h = mv_a w (mw d 299 Q 34 [some w] (w :: st) h) := (mw_at mj_299_33).trans (z_aload_n rfl)
theorem mj_299_34 : mc_P 299 34 = some (.getfield 82, 3, 14, 32, 0) := by decide +kernel
theorem s_299_34 {x0 : Option Value} {o : Nat} : mw d 299 Q 34 [x0] (.ref o :: st) h = (mg h o 14 ∧ mw d 299 Q 37 [x0] (va_rf (mh_r h o 32) :: st) h) := (mw_at mj_299_34).trans (z_getr (by decide) (by decide) rfl)
theorem mj_299_37 : mc_P 299 37 = some (.iconst 0, 1, 0, 0, 0) := by decide +kernel
theorem s_299_37 {x0 : Option Value} : mw d 299 Q 37 [x0] (st) h = mw d 299 Q 38 [x0] (.int 0 :: st) h := (mw_at mj_299_37).trans (z_iconst (by decide))
theorem mj_299_38 : mc_P 299 38 = some (.iconst 0, 1, 0, 0, 0) := by decide +kernel
theorem s_299_38 {x0 : Option Value} : mw d 299 Q 38 [x0] (st) h = mw d 299 Q 39 [x0] (.int 0 :: st) h := (mw_at mj_299_38).trans (z_iconst (by decide))
theorem mj_299_39 : mc_P 299 39 = some (.iastore, 1, 0, 0, 0) := by decide +kernel
theorem s_299_39 {x0 : Option Value} {o : Nat} {i w : Int32} : mw d 299 Q 39 [x0] (.int w :: .int i :: .ref o :: st) h = (mg h o 100 ∧ mx i (mh_l h o) ∧ mw d 299 Q 40 [x0] (st) (mh_si h o i.toNatClampNeg w)) := (mw_at mj_299_39).trans (z_iast)
theorem mj_299_40 : mc_P 299 40 = some (.aload_n 0, 1, 0, 0, 0) := by decide +kernel
theorem s_299_40 {w : Value} : mw d 299 Q 40 [some w] (st) h = mv_a w (mw d 299 Q 41 [some w] (w :: st) h) := (mw_at mj_299_40).trans (z_aload_n rfl)
theorem mj_299_41 : mc_P 299 41 = some (.iconst 0, 1, 0, 0, 0) := by decide +kernel
theorem s_299_41 {x0 : Option Value} : mw d 299 Q 41 [x0] (st) h = mw d 299 Q 42 [x0] (.int 0 :: st) h := (mw_at mj_299_41).trans (z_iconst (by decide))
theorem mj_299_42 : mc_P 299 42 = some (.putfield 179, 3, 14, 64, 0) := by decide +kernel
theorem s_299_42 {x0 : Option Value} {o : Nat} {w : Int32} : mw d 299 Q 42 [x0] (.int w :: .ref o :: st) h = (mg h o 14 ∧ mw d 299 Q 45 [x0] (st) (mh_si h o 64 w)) := (mw_at mj_299_42).trans (z_puti (by decide) (by decide) rfl)
theorem mj_299_45 : mc_P 299 45 = some (.aload_n 0, 1, 0, 0, 0) := by decide +kernel
theorem s_299_45 {w : Value} : mw d 299 Q 45 [some w] (st) h = mv_a w (mw d 299 Q 46 [some w] (w :: st) h) := (mw_at mj_299_45).trans (z_aload_n rfl)
theorem mj_299_46 : mc_P 299 46 = some (.iconst 0, 1, 0, 0, 0) := by decide +kernel
theorem s_299_46 {x0 : Option Value} : mw d 299 Q 46 [x0] (st) h = mw d 299 Q 47 [x0] (.int 0 :: st) h := (mw_at mj_299_46).trans (z_iconst (by decide))
theorem mj_299_47 : mc_P 299 47 = some (.putfield 182, 3, 14, 65, 0) := by decide +kernel
theorem s_299_47 {x0 : Option Value} {o : Nat} {w : Int32} : mw d 299 Q 47 [x0] (.int w :: .ref o :: st) h = (mg h o 14 ∧ mw d 299 Q 50 [x0] (st) (mh_si h o 65 w)) := (mw_at mj_299_47).trans (z_puti (by decide) (by decide) rfl)
theorem mj_299_50 : mc_P 299 50 = some (.aload_n 0, 1, 0, 0, 0) := by decide +kernel
theorem s_299_50 {w : Value} : mw d 299 Q 50 [some w] (st) h = mv_a w (mw d 299 Q 51 [some w] (w :: st) h) := (mw_at mj_299_50).trans (z_aload_n rfl)
theorem mj_299_51 : mc_P 299 51 = some (.iconst 0, 1, 0, 0, 0) := by decide +kernel
theorem s_299_51 {x0 : Option Value} : mw d 299 Q 51 [x0] (st) h = mw d 299 Q 52 [x0] (.int 0 :: st) h := (mw_at mj_299_51).trans (z_iconst (by decide))
theorem mj_299_52 : mc_P 299 52 = some (.putfield 185, 3, 14, 66, 0) := by decide +kernel
theorem s_299_52 {x0 : Option Value} {o : Nat} {w : Int32} : mw d 299 Q 52 [x0] (.int w :: .ref o :: st) h = (mg h o 14 ∧ mw d 299 Q 55 [x0] (st) (mh_si h o 66 w)) := (mw_at mj_299_52).trans (z_puti (by decide) (by decide) rfl)
theorem mj_299_55 : mc_P 299 55 = some (.aload_n 0, 1, 0, 0, 0) := by decide +kernel
theorem s_299_55 {w : Value} : mw d 299 Q 55 [some w] (st) h = mv_a w (mw d 299 Q 56 [some w] (w :: st) h) := (mw_at mj_299_55).trans (z_aload_n rfl)
theorem mj_299_56 : mc_P 299 56 = some (.getfield 121, 3, 14, 52, 0) := by decide +kernel
theorem s_299_56 {x0 : Option Value} {o : Nat} : mw d 299 Q 56 [x0] (.ref o :: st) h = (mg h o 14 ∧ mw d 299 Q 59 [x0] (va_rf (mh_r h o 52) :: st) h) := (mw_at mj_299_56).trans (z_getr (by decide) (by decide) rfl)
theorem mj_299_59 : mc_P 299 59 = some (.invokevirtual 188, 3, 272, 12, 1) := by decide +kernel
theorem s_299_59 {x0 : Option Value} {o : Nat} : mw (d + 1) 299 Q 59 [x0] (.ref o :: st) h = (mg h o 12 ∧ mca st 8 ∧ mca [.ref o] 1 ∧ mcall d 272 [.ref o] h (mK (d + 1) 299 Q 62 [x0] st)) := (mw_at mj_299_59).trans ((z_invv (As := []) (by decide) rfl rfl).trans (congrArg (And _) (congrArg (And _) (mC_nl nl_272))))
theorem mj_299_62 : mc_P 299 62 = some (.return_, 1, 0, 0, 0) := by decide +kernel
theorem s_299_62 {x0 : Option Value} : mw d 299 Q 62 [x0] ([]) h = Q none h := (mw_at mj_299_62).trans (z_vret)
theorem e_299 {a0 : Nat} : mcall d 299 [.ref a0] h Q = mw d 299 Q 0 [some (.ref a0)] [] h := by
  show mw d 299 Q 0 (me_en (mc_nl 299) _) [] h = _
  rw [nl_299]; rfl

/-! InvariantDeskModel.add(IIII)I -/
theorem mj_300_0 : mc_P 300 0 = some (.aload_n 0, 1, 0, 0, 0) := by decide +kernel
theorem s_300_0 {x1 x2 x3 x4 x5 : Option Value} {w : Value} : mw d 300 Q 0 [some w, x1, x2, x3, x4, x5] (st) h = mv_a w (mw d 300 Q 1 [some w, x1, x2, x3, x4, x5] (w :: st) h) := (mw_at mj_300_0).trans (z_aload_n rfl)
theorem mj_300_1 : mc_P 300 1 = some (.getfield 48, 3, 14, 19, 0) := by decide +kernel
theorem s_300_1 {x0 x1 x2 x3 x4 x5 : Option Value} {o : Nat} : mw d 300 Q 1 [x0, x1, x2, x3, x4, x5] (.ref o :: st) h = (mg h o 14 ∧ mw d 300 Q 4 [x0, x1, x2, x3, x4, x5] (va_rf (mh_r h o 19) :: st) h) := (mw_at mj_300_1).trans (z_getr (by decide) (by decide) rfl)
theorem mj_300_4 : mc_P 300 4 = some (.aload_n 0, 1, 0, 0, 0) := by decide +kernel
theorem s_300_4 {x1 x2 x3 x4 x5 : Option Value} {w : Value} : mw d 300 Q 4 [some w, x1, x2, x3, x4, x5] (st) h = mv_a w (mw d 300 Q 5 [some w, x1, x2, x3, x4, x5] (w :: st) h) := (mw_at mj_300_4).trans (z_aload_n rfl)
theorem mj_300_5 : mc_P 300 5 = some (.getfield 191, 3, 14, 24, 0) := by decide +kernel
theorem s_300_5 {x0 x1 x2 x3 x4 x5 : Option Value} {o : Nat} : mw d 300 Q 5 [x0, x1, x2, x3, x4, x5] (.ref o :: st) h = (mg h o 14 ∧ mw d 300 Q 8 [x0, x1, x2, x3, x4, x5] (.int (mh_i h o 24) :: st) h) := (mw_at mj_300_5).trans (z_geti (by decide) (by decide) (Or.inl rfl))
theorem mj_300_8 : mc_P 300 8 = some (.iload_n 1, 1, 0, 0, 0) := by decide +kernel
theorem s_300_8 {x0 x2 x3 x4 x5 : Option Value} {w : Value} : mw d 300 Q 8 [x0, some w, x2, x3, x4, x5] (st) h = mv_i w (mw d 300 Q 9 [x0, some w, x2, x3, x4, x5] (w :: st) h) := (mw_at mj_300_8).trans (z_iload_n rfl)
theorem mj_300_9 : mc_P 300 9 = some (.i2b, 1, 0, 0, 0) := by decide +kernel
theorem s_300_9 {x0 x1 x2 x3 x4 x5 : Option Value} {x : Int32} : mw d 300 Q 9 [x0, x1, x2, x3, x4, x5] (.int x :: st) h = mw d 300 Q 10 [x0, x1, x2, x3, x4, x5] (.int x.toInt8.toInt32 :: st) h := (mw_at mj_300_9).trans (z_i2b)
theorem mj_300_10 : mc_P 300 10 = some (.bastore, 1, 0, 0, 0) := by decide +kernel
theorem s_300_10 {x0 x1 x2 x3 x4 x5 : Option Value} {o : Nat} {i w : Int32} : mw d 300 Q 10 [x0, x1, x2, x3, x4, x5] (.int w :: .int i :: .ref o :: st) h = (mgb h o ∧ mx i (mh_l h o) ∧ mw d 300 Q 11 [x0, x1, x2, x3, x4, x5] (st) (mh_si h o i.toNatClampNeg (mna h o w))) := (mw_at mj_300_10).trans (z_bast)
theorem mj_300_11 : mc_P 300 11 = some (.aload_n 0, 1, 0, 0, 0) := by decide +kernel
theorem s_300_11 {x1 x2 x3 x4 x5 : Option Value} {w : Value} : mw d 300 Q 11 [some w, x1, x2, x3, x4, x5] (st) h = mv_a w (mw d 300 Q 12 [some w, x1, x2, x3, x4, x5] (w :: st) h) := (mw_at mj_300_11).trans (z_aload_n rfl)
theorem mj_300_12 : mc_P 300 12 = some (.getfield 52, 3, 14, 20, 0) := by decide +kernel
theorem s_300_12 {x0 x1 x2 x3 x4 x5 : Option Value} {o : Nat} : mw d 300 Q 12 [x0, x1, x2, x3, x4, x5] (.ref o :: st) h = (mg h o 14 ∧ mw d 300 Q 15 [x0, x1, x2, x3, x4, x5] (va_rf (mh_r h o 20) :: st) h) := (mw_at mj_300_12).trans (z_getr (by decide) (by decide) rfl)
theorem mj_300_15 : mc_P 300 15 = some (.aload_n 0, 1, 0, 0, 0) := by decide +kernel
theorem s_300_15 {x1 x2 x3 x4 x5 : Option Value} {w : Value} : mw d 300 Q 15 [some w, x1, x2, x3, x4, x5] (st) h = mv_a w (mw d 300 Q 16 [some w, x1, x2, x3, x4, x5] (w :: st) h) := (mw_at mj_300_15).trans (z_aload_n rfl)
theorem mj_300_16 : mc_P 300 16 = some (.getfield 191, 3, 14, 24, 0) := by decide +kernel
theorem s_300_16 {x0 x1 x2 x3 x4 x5 : Option Value} {o : Nat} : mw d 300 Q 16 [x0, x1, x2, x3, x4, x5] (.ref o :: st) h = (mg h o 14 ∧ mw d 300 Q 19 [x0, x1, x2, x3, x4, x5] (.int (mh_i h o 24) :: st) h) := (mw_at mj_300_16).trans (z_geti (by decide) (by decide) (Or.inl rfl))
theorem mj_300_19 : mc_P 300 19 = some (.iload_n 2, 1, 0, 0, 0) := by decide +kernel
theorem s_300_19 {x0 x1 x3 x4 x5 : Option Value} {w : Value} : mw d 300 Q 19 [x0, x1, some w, x3, x4, x5] (st) h = mv_i w (mw d 300 Q 20 [x0, x1, some w, x3, x4, x5] (w :: st) h) := (mw_at mj_300_19).trans (z_iload_n rfl)
theorem mj_300_20 : mc_P 300 20 = some (.iastore, 1, 0, 0, 0) := by decide +kernel
theorem s_300_20 {x0 x1 x2 x3 x4 x5 : Option Value} {o : Nat} {i w : Int32} : mw d 300 Q 20 [x0, x1, x2, x3, x4, x5] (.int w :: .int i :: .ref o :: st) h = (mg h o 100 ∧ mx i (mh_l h o) ∧ mw d 300 Q 21 [x0, x1, x2, x3, x4, x5] (st) (mh_si h o i.toNatClampNeg w)) := (mw_at mj_300_20).trans (z_iast)
theorem mj_300_21 : mc_P 300 21 = some (.aload_n 0, 1, 0, 0, 0) := by decide +kernel
theorem s_300_21 {x1 x2 x3 x4 x5 : Option Value} {w : Value} : mw d 300 Q 21 [some w, x1, x2, x3, x4, x5] (st) h = mv_a w (mw d 300 Q 22 [some w, x1, x2, x3, x4, x5] (w :: st) h) := (mw_at mj_300_21).trans (z_aload_n rfl)
theorem mj_300_22 : mc_P 300 22 = some (.getfield 55, 3, 14, 21, 0) := by decide +kernel
theorem s_300_22 {x0 x1 x2 x3 x4 x5 : Option Value} {o : Nat} : mw d 300 Q 22 [x0, x1, x2, x3, x4, x5] (.ref o :: st) h = (mg h o 14 ∧ mw d 300 Q 25 [x0, x1, x2, x3, x4, x5] (va_rf (mh_r h o 21) :: st) h) := (mw_at mj_300_22).trans (z_getr (by decide) (by decide) rfl)
theorem mj_300_25 : mc_P 300 25 = some (.aload_n 0, 1, 0, 0, 0) := by decide +kernel
theorem s_300_25 {x1 x2 x3 x4 x5 : Option Value} {w : Value} : mw d 300 Q 25 [some w, x1, x2, x3, x4, x5] (st) h = mv_a w (mw d 300 Q 26 [some w, x1, x2, x3, x4, x5] (w :: st) h) := (mw_at mj_300_25).trans (z_aload_n rfl)
theorem mj_300_26 : mc_P 300 26 = some (.getfield 191, 3, 14, 24, 0) := by decide +kernel
theorem s_300_26 {x0 x1 x2 x3 x4 x5 : Option Value} {o : Nat} : mw d 300 Q 26 [x0, x1, x2, x3, x4, x5] (.ref o :: st) h = (mg h o 14 ∧ mw d 300 Q 29 [x0, x1, x2, x3, x4, x5] (.int (mh_i h o 24) :: st) h) := (mw_at mj_300_26).trans (z_geti (by decide) (by decide) (Or.inl rfl))
theorem mj_300_29 : mc_P 300 29 = some (.iload_n 3, 1, 0, 0, 0) := by decide +kernel
theorem s_300_29 {x0 x1 x2 x4 x5 : Option Value} {w : Value} : mw d 300 Q 29 [x0, x1, x2, some w, x4, x5] (st) h = mv_i w (mw d 300 Q 30 [x0, x1, x2, some w, x4, x5] (w :: st) h) := (mw_at mj_300_29).trans (z_iload_n rfl)
theorem mj_300_30 : mc_P 300 30 = some (.iastore, 1, 0, 0, 0) := by decide +kernel
theorem s_300_30 {x0 x1 x2 x3 x4 x5 : Option Value} {o : Nat} {i w : Int32} : mw d 300 Q 30 [x0, x1, x2, x3, x4, x5] (.int w :: .int i :: .ref o :: st) h = (mg h o 100 ∧ mx i (mh_l h o) ∧ mw d 300 Q 31 [x0, x1, x2, x3, x4, x5] (st) (mh_si h o i.toNatClampNeg w)) := (mw_at mj_300_30).trans (z_iast)
theorem mj_300_31 : mc_P 300 31 = some (.aload_n 0, 1, 0, 0, 0) := by decide +kernel
theorem s_300_31 {x1 x2 x3 x4 x5 : Option Value} {w : Value} : mw d 300 Q 31 [some w, x1, x2, x3, x4, x5] (st) h = mv_a w (mw d 300 Q 32 [some w, x1, x2, x3, x4, x5] (w :: st) h) := (mw_at mj_300_31).trans (z_aload_n rfl)
theorem mj_300_32 : mc_P 300 32 = some (.getfield 58, 3, 14, 22, 0) := by decide +kernel
theorem s_300_32 {x0 x1 x2 x3 x4 x5 : Option Value} {o : Nat} : mw d 300 Q 32 [x0, x1, x2, x3, x4, x5] (.ref o :: st) h = (mg h o 14 ∧ mw d 300 Q 35 [x0, x1, x2, x3, x4, x5] (va_rf (mh_r h o 22) :: st) h) := (mw_at mj_300_32).trans (z_getr (by decide) (by decide) rfl)
theorem mj_300_35 : mc_P 300 35 = some (.aload_n 0, 1, 0, 0, 0) := by decide +kernel
theorem s_300_35 {x1 x2 x3 x4 x5 : Option Value} {w : Value} : mw d 300 Q 35 [some w, x1, x2, x3, x4, x5] (st) h = mv_a w (mw d 300 Q 36 [some w, x1, x2, x3, x4, x5] (w :: st) h) := (mw_at mj_300_35).trans (z_aload_n rfl)
theorem mj_300_36 : mc_P 300 36 = some (.getfield 191, 3, 14, 24, 0) := by decide +kernel
theorem s_300_36 {x0 x1 x2 x3 x4 x5 : Option Value} {o : Nat} : mw d 300 Q 36 [x0, x1, x2, x3, x4, x5] (.ref o :: st) h = (mg h o 14 ∧ mw d 300 Q 39 [x0, x1, x2, x3, x4, x5] (.int (mh_i h o 24) :: st) h) := (mw_at mj_300_36).trans (z_geti (by decide) (by decide) (Or.inl rfl))
theorem mj_300_39 : mc_P 300 39 = some (.iload 4, 2, 0, 0, 0) := by decide +kernel
theorem s_300_39 {x0 x1 x2 x3 x5 : Option Value} {w : Value} : mw d 300 Q 39 [x0, x1, x2, x3, some w, x5] (st) h = mv_i w (mw d 300 Q 41 [x0, x1, x2, x3, some w, x5] (w :: st) h) := (mw_at mj_300_39).trans (z_iload rfl)
theorem mj_300_41 : mc_P 300 41 = some (.iastore, 1, 0, 0, 0) := by decide +kernel
theorem s_300_41 {x0 x1 x2 x3 x4 x5 : Option Value} {o : Nat} {i w : Int32} : mw d 300 Q 41 [x0, x1, x2, x3, x4, x5] (.int w :: .int i :: .ref o :: st) h = (mg h o 100 ∧ mx i (mh_l h o) ∧ mw d 300 Q 42 [x0, x1, x2, x3, x4, x5] (st) (mh_si h o i.toNatClampNeg w)) := (mw_at mj_300_41).trans (z_iast)
theorem mj_300_42 : mc_P 300 42 = some (.aload_n 0, 1, 0, 0, 0) := by decide +kernel
theorem s_300_42 {x1 x2 x3 x4 x5 : Option Value} {w : Value} : mw d 300 Q 42 [some w, x1, x2, x3, x4, x5] (st) h = mv_a w (mw d 300 Q 43 [some w, x1, x2, x3, x4, x5] (w :: st) h) := (mw_at mj_300_42).trans (z_aload_n rfl)
theorem mj_300_43 : mc_P 300 43 = some (.getfield 61, 3, 14, 23, 0) := by decide +kernel
theorem s_300_43 {x0 x1 x2 x3 x4 x5 : Option Value} {o : Nat} : mw d 300 Q 43 [x0, x1, x2, x3, x4, x5] (.ref o :: st) h = (mg h o 14 ∧ mw d 300 Q 46 [x0, x1, x2, x3, x4, x5] (va_rf (mh_r h o 23) :: st) h) := (mw_at mj_300_43).trans (z_getr (by decide) (by decide) rfl)
theorem mj_300_46 : mc_P 300 46 = some (.aload_n 0, 1, 0, 0, 0) := by decide +kernel
theorem s_300_46 {x1 x2 x3 x4 x5 : Option Value} {w : Value} : mw d 300 Q 46 [some w, x1, x2, x3, x4, x5] (st) h = mv_a w (mw d 300 Q 47 [some w, x1, x2, x3, x4, x5] (w :: st) h) := (mw_at mj_300_46).trans (z_aload_n rfl)
theorem mj_300_47 : mc_P 300 47 = some (.getfield 191, 3, 14, 24, 0) := by decide +kernel
theorem s_300_47 {x0 x1 x2 x3 x4 x5 : Option Value} {o : Nat} : mw d 300 Q 47 [x0, x1, x2, x3, x4, x5] (.ref o :: st) h = (mg h o 14 ∧ mw d 300 Q 50 [x0, x1, x2, x3, x4, x5] (.int (mh_i h o 24) :: st) h) := (mw_at mj_300_47).trans (z_geti (by decide) (by decide) (Or.inl rfl))
theorem mj_300_50 : mc_P 300 50 = some (.iconst 1, 1, 0, 0, 0) := by decide +kernel
theorem s_300_50 {x0 x1 x2 x3 x4 x5 : Option Value} : mw d 300 Q 50 [x0, x1, x2, x3, x4, x5] (st) h = mw d 300 Q 51 [x0, x1, x2, x3, x4, x5] (.int 1 :: st) h := (mw_at mj_300_50).trans (z_iconst (by decide))
theorem mj_300_51 : mc_P 300 51 = some (.iastore, 1, 0, 0, 0) := by decide +kernel
theorem s_300_51 {x0 x1 x2 x3 x4 x5 : Option Value} {o : Nat} {i w : Int32} : mw d 300 Q 51 [x0, x1, x2, x3, x4, x5] (.int w :: .int i :: .ref o :: st) h = (mg h o 100 ∧ mx i (mh_l h o) ∧ mw d 300 Q 52 [x0, x1, x2, x3, x4, x5] (st) (mh_si h o i.toNatClampNeg w)) := (mw_at mj_300_51).trans (z_iast)
theorem mj_300_52 : mc_P 300 52 = some (.iload 4, 2, 0, 0, 0) := by decide +kernel
theorem s_300_52 {x0 x1 x2 x3 x5 : Option Value} {w : Value} : mw d 300 Q 52 [x0, x1, x2, x3, some w, x5] (st) h = mv_i w (mw d 300 Q 54 [x0, x1, x2, x3, some w, x5] (w :: st) h) := (mw_at mj_300_52).trans (z_iload rfl)
theorem mj_300_54 : mc_P 300 54 = some (.istore 5, 2, 0, 0, 0) := by decide +kernel
theorem s_300_54 {x0 x1 x2 x3 x4 x5 : Option Value} {w : Int32} : mw d 300 Q 54 [x0, x1, x2, x3, x4, x5] (.int w :: st) h = mw d 300 Q 56 [x0, x1, x2, x3, mk2 x4, some (.int w)] (st) h := (mw_at mj_300_54).trans (z_istore (Nat.le_of_ble_eq_true rfl) (me_s1_mk (j := 4) (w := x4) rfl))
theorem mj_300_56 : mc_P 300 56 = some (.iload 5, 2, 0, 0, 0) := by decide +kernel
theorem s_300_56 {x0 x1 x2 x3 x4 : Option Value} {w : Value} : mw d 300 Q 56 [x0, x1, x2, x3, x4, some w] (st) h = mv_i w (mw d 300 Q 58 [x0, x1, x2, x3, x4, some w] (w :: st) h) := (mw_at mj_300_56).trans (z_iload rfl)
theorem mj_300_58 : mc_P 300 58 = some (.iconst (-1), 1, 0, 0, 0) := by decide +kernel
theorem s_300_58 {x0 x1 x2 x3 x4 x5 : Option Value} : mw d 300 Q 58 [x0, x1, x2, x3, x4, x5] (st) h = mw d 300 Q 59 [x0, x1, x2, x3, x4, x5] (.int (-1) :: st) h := (mw_at mj_300_58).trans (z_iconst (by decide))
theorem mj_300_59 : mc_P 300 59 = some (.if_icmp .eq 26, 3, 0, 0, 0) := by decide +kernel
theorem s_300_59 {x0 x1 x2 x3 x4 x5 : Option Value} {x w : Int32} : mw d 300 Q 59 [x0, x1, x2, x3, x4, x5] (.int w :: .int x :: st) h = mB (x = w) (mw d 300 Q) 85 62 [x0, x1, x2, x3, x4, x5] st h := (mw_at mj_300_59).trans (z_icmp_eq (by decide) rfl)
theorem mj_300_62 : mc_P 300 62 = some (.aload_n 0, 1, 0, 0, 0) := by decide +kernel
theorem s_300_62 {x1 x2 x3 x4 x5 : Option Value} {w : Value} : mw d 300 Q 62 [some w, x1, x2, x3, x4, x5] (st) h = mv_a w (mw d 300 Q 63 [some w, x1, x2, x3, x4, x5] (w :: st) h) := (mw_at mj_300_62).trans (z_aload_n rfl)
theorem mj_300_63 : mc_P 300 63 = some (.getfield 61, 3, 14, 23, 0) := by decide +kernel
theorem s_300_63 {x0 x1 x2 x3 x4 x5 : Option Value} {o : Nat} : mw d 300 Q 63 [x0, x1, x2, x3, x4, x5] (.ref o :: st) h = (mg h o 14 ∧ mw d 300 Q 66 [x0, x1, x2, x3, x4, x5] (va_rf (mh_r h o 23) :: st) h) := (mw_at mj_300_63).trans (z_getr (by decide) (by decide) rfl)
theorem mj_300_66 : mc_P 300 66 = some (.iload 5, 2, 0, 0, 0) := by decide +kernel
theorem s_300_66 {x0 x1 x2 x3 x4 : Option Value} {w : Value} : mw d 300 Q 66 [x0, x1, x2, x3, x4, some w] (st) h = mv_i w (mw d 300 Q 68 [x0, x1, x2, x3, x4, some w] (w :: st) h) := (mw_at mj_300_66).trans (z_iload rfl)
theorem mj_300_68 : mc_P 300 68 = some (.dup2, 1, 0, 0, 0) := by decide +kernel
theorem s_300_68 {x0 x1 x2 x3 x4 x5 : Option Value} {x : Int32} {w : Value} : mw d 300 Q 68 [x0, x1, x2, x3, x4, x5] (.int x :: w :: st) h = (w.category = 1 ∧ mw d 300 Q 69 [x0, x1, x2, x3, x4, x5] (.int x :: w :: .int x :: w :: st) h) := (mw_at mj_300_68).trans (z_dup2)
theorem s_300_68l {x0 x1 x2 x3 x4 x5 : Option Value} {x : Int64} {w : Value} : mw d 300 Q 68 [x0, x1, x2, x3, x4, x5] (.long x :: w :: st) h = mw d 300 Q 69 [x0, x1, x2, x3, x4, x5] (.long x :: .long x :: w :: st) h := (mw_at mj_300_68).trans (z_dup2l)
theorem mj_300_69 : mc_P 300 69 = some (.iaload, 1, 0, 0, 0) := by decide +kernel
theorem s_300_69 {x0 x1 x2 x3 x4 x5 : Option Value} {o : Nat} {i : Int32} : mw d 300 Q 69 [x0, x1, x2, x3, x4, x5] (.int i :: .ref o :: st) h = (mg h o 100 ∧ mx i (mh_l h o) ∧ mw d 300 Q 70 [x0, x1, x2, x3, x4, x5] (.int (mh_i h o i.toNatClampNeg) :: st) h) := (mw_at mj_300_69).trans (z_iald)
theorem mj_300_70 : mc_P 300 70 = some (.iconst 1, 1, 0, 0, 0) := by decide +kernel
theorem s_300_70 {x0 x1 x2 x3 x4 x5 : Option Value} : mw d 300 Q 70 [x0, x1, x2, x3, x4, x5] (st) h = mw d 300 Q 71 [x0, x1, x2, x3, x4, x5] (.int 1 :: st) h := (mw_at mj_300_70).trans (z_iconst (by decide))
theorem mj_300_71 : mc_P 300 71 = some (.iadd, 1, 0, 0, 0) := by decide +kernel
theorem s_300_71 {x0 x1 x2 x3 x4 x5 : Option Value} {x w : Int32} : mw d 300 Q 71 [x0, x1, x2, x3, x4, x5] (.int w :: .int x :: st) h = mw d 300 Q 72 [x0, x1, x2, x3, x4, x5] (.int (x + w) :: st) h := (mw_at mj_300_71).trans (z_iadd)
theorem mj_300_72 : mc_P 300 72 = some (.iastore, 1, 0, 0, 0) := by decide +kernel
theorem s_300_72 {x0 x1 x2 x3 x4 x5 : Option Value} {o : Nat} {i w : Int32} : mw d 300 Q 72 [x0, x1, x2, x3, x4, x5] (.int w :: .int i :: .ref o :: st) h = (mg h o 100 ∧ mx i (mh_l h o) ∧ mw d 300 Q 73 [x0, x1, x2, x3, x4, x5] (st) (mh_si h o i.toNatClampNeg w)) := (mw_at mj_300_72).trans (z_iast)
theorem mj_300_73 : mc_P 300 73 = some (.aload_n 0, 1, 0, 0, 0) := by decide +kernel
theorem s_300_73 {x1 x2 x3 x4 x5 : Option Value} {w : Value} : mw d 300 Q 73 [some w, x1, x2, x3, x4, x5] (st) h = mv_a w (mw d 300 Q 74 [some w, x1, x2, x3, x4, x5] (w :: st) h) := (mw_at mj_300_73).trans (z_aload_n rfl)
theorem mj_300_74 : mc_P 300 74 = some (.getfield 58, 3, 14, 22, 0) := by decide +kernel
theorem s_300_74 {x0 x1 x2 x3 x4 x5 : Option Value} {o : Nat} : mw d 300 Q 74 [x0, x1, x2, x3, x4, x5] (.ref o :: st) h = (mg h o 14 ∧ mw d 300 Q 77 [x0, x1, x2, x3, x4, x5] (va_rf (mh_r h o 22) :: st) h) := (mw_at mj_300_74).trans (z_getr (by decide) (by decide) rfl)
theorem mj_300_77 : mc_P 300 77 = some (.iload 5, 2, 0, 0, 0) := by decide +kernel
theorem s_300_77 {x0 x1 x2 x3 x4 : Option Value} {w : Value} : mw d 300 Q 77 [x0, x1, x2, x3, x4, some w] (st) h = mv_i w (mw d 300 Q 79 [x0, x1, x2, x3, x4, some w] (w :: st) h) := (mw_at mj_300_77).trans (z_iload rfl)
theorem mj_300_79 : mc_P 300 79 = some (.iaload, 1, 0, 0, 0) := by decide +kernel
theorem s_300_79 {x0 x1 x2 x3 x4 x5 : Option Value} {o : Nat} {i : Int32} : mw d 300 Q 79 [x0, x1, x2, x3, x4, x5] (.int i :: .ref o :: st) h = (mg h o 100 ∧ mx i (mh_l h o) ∧ mw d 300 Q 80 [x0, x1, x2, x3, x4, x5] (.int (mh_i h o i.toNatClampNeg) :: st) h) := (mw_at mj_300_79).trans (z_iald)
theorem mj_300_80 : mc_P 300 80 = some (.istore 5, 2, 0, 0, 0) := by decide +kernel
theorem s_300_80 {x0 x1 x2 x3 x4 x5 : Option Value} {w : Int32} : mw d 300 Q 80 [x0, x1, x2, x3, x4, x5] (.int w :: st) h = mw d 300 Q 82 [x0, x1, x2, x3, mk2 x4, some (.int w)] (st) h := (mw_at mj_300_80).trans (z_istore (Nat.le_of_ble_eq_true rfl) (me_s1_mk (j := 4) (w := x4) rfl))
theorem mj_300_82 : mc_P 300 82 = some (.goto (-26), 3, 0, 0, 0) := by decide +kernel
theorem s_300_82 {x0 x1 x2 x3 x4 x5 : Option Value} : mw d 300 Q 82 [x0, x1, x2, x3, x4, x5] (st) h = mw d 300 Q 56 [x0, x1, x2, x3, x4, x5] (st) h := (mw_at mj_300_82).trans (z_goto (by decide))
theorem mj_300_85 : mc_P 300 85 = some (.aload_n 0, 1, 0, 0, 0) := by decide +kernel
theorem s_300_85 {x1 x2 x3 x4 x5 : Option Value} {w : Value} : mw d 300 Q 85 [some w, x1, x2, x3, x4, x5] (st) h = mv_a w (mw d 300 Q 86 [some w, x1, x2, x3, x4, x5] (w :: st) h) := (mw_at mj_300_85).trans (z_aload_n rfl)
theorem mj_300_86 : mc_P 300 86 = some (.dup, 1, 0, 0, 0) := by decide +kernel
theorem s_300_86 {x0 x1 x2 x3 x4 x5 : Option Value} {w : Value} : mw d 300 Q 86 [x0, x1, x2, x3, x4, x5] (w :: st) h = (w.category = 1 ∧ mw d 300 Q 87 [x0, x1, x2, x3, x4, x5] (w :: w :: st) h) := (mw_at mj_300_86).trans (z_dup)
theorem mj_300_87 : mc_P 300 87 = some (.getfield 191, 3, 14, 24, 0) := by decide +kernel
theorem s_300_87 {x0 x1 x2 x3 x4 x5 : Option Value} {o : Nat} : mw d 300 Q 87 [x0, x1, x2, x3, x4, x5] (.ref o :: st) h = (mg h o 14 ∧ mw d 300 Q 90 [x0, x1, x2, x3, x4, x5] (.int (mh_i h o 24) :: st) h) := (mw_at mj_300_87).trans (z_geti (by decide) (by decide) (Or.inl rfl))
theorem mj_300_90 : mc_P 300 90 = some (.iconst 1, 1, 0, 0, 0) := by decide +kernel
theorem s_300_90 {x0 x1 x2 x3 x4 x5 : Option Value} : mw d 300 Q 90 [x0, x1, x2, x3, x4, x5] (st) h = mw d 300 Q 91 [x0, x1, x2, x3, x4, x5] (.int 1 :: st) h := (mw_at mj_300_90).trans (z_iconst (by decide))
theorem mj_300_91 : mc_P 300 91 = some (.iadd, 1, 0, 0, 0) := by decide +kernel
theorem s_300_91 {x0 x1 x2 x3 x4 x5 : Option Value} {x w : Int32} : mw d 300 Q 91 [x0, x1, x2, x3, x4, x5] (.int w :: .int x :: st) h = mw d 300 Q 92 [x0, x1, x2, x3, x4, x5] (.int (x + w) :: st) h := (mw_at mj_300_91).trans (z_iadd)
theorem mj_300_92 : mc_P 300 92 = some (.putfield 191, 3, 14, 24, 0) := by decide +kernel
theorem s_300_92 {x0 x1 x2 x3 x4 x5 : Option Value} {o : Nat} {w : Int32} : mw d 300 Q 92 [x0, x1, x2, x3, x4, x5] (.int w :: .ref o :: st) h = (mg h o 14 ∧ mw d 300 Q 95 [x0, x1, x2, x3, x4, x5] (st) (mh_si h o 24 w)) := (mw_at mj_300_92).trans (z_puti (by decide) (by decide) rfl)
theorem mj_300_95 : mc_P 300 95 = some (.aload_n 0, 1, 0, 0, 0) := by decide +kernel
theorem s_300_95 {x1 x2 x3 x4 x5 : Option Value} {w : Value} : mw d 300 Q 95 [some w, x1, x2, x3, x4, x5] (st) h = mv_a w (mw d 300 Q 96 [some w, x1, x2, x3, x4, x5] (w :: st) h) := (mw_at mj_300_95).trans (z_aload_n rfl)
theorem mj_300_96 : mc_P 300 96 = some (.getfield 191, 3, 14, 24, 0) := by decide +kernel
theorem s_300_96 {x0 x1 x2 x3 x4 x5 : Option Value} {o : Nat} : mw d 300 Q 96 [x0, x1, x2, x3, x4, x5] (.ref o :: st) h = (mg h o 14 ∧ mw d 300 Q 99 [x0, x1, x2, x3, x4, x5] (.int (mh_i h o 24) :: st) h) := (mw_at mj_300_96).trans (z_geti (by decide) (by decide) (Or.inl rfl))
theorem mj_300_99 : mc_P 300 99 = some (.iconst 1, 1, 0, 0, 0) := by decide +kernel
theorem s_300_99 {x0 x1 x2 x3 x4 x5 : Option Value} : mw d 300 Q 99 [x0, x1, x2, x3, x4, x5] (st) h = mw d 300 Q 100 [x0, x1, x2, x3, x4, x5] (.int 1 :: st) h := (mw_at mj_300_99).trans (z_iconst (by decide))
theorem mj_300_100 : mc_P 300 100 = some (.isub, 1, 0, 0, 0) := by decide +kernel
theorem s_300_100 {x0 x1 x2 x3 x4 x5 : Option Value} {x w : Int32} : mw d 300 Q 100 [x0, x1, x2, x3, x4, x5] (.int w :: .int x :: st) h = mw d 300 Q 101 [x0, x1, x2, x3, x4, x5] (.int (x - w) :: st) h := (mw_at mj_300_100).trans (z_isub)
theorem mj_300_101 : mc_P 300 101 = some (.ireturn, 1, 0, 0, 0) := by decide +kernel
theorem s_300_101 {x0 x1 x2 x3 x4 x5 : Option Value} {x : Int32} : mw d 300 Q 101 [x0, x1, x2, x3, x4, x5] ([.int x]) h = (Q (some (.int x)) h) := (mw_at mj_300_101).trans (z_iret)
theorem e_300 {a0 : Nat} {a1 : Int32} {a2 : Int32} {a3 : Int32} {a4 : Int32} : mcall d 300 [.ref a0, .int a1, .int a2, .int a3, .int a4] h Q = mw d 300 Q 0 [some (.ref a0), some (.int a1), some (.int a2), some (.int a3), some (.int a4), none] [] h := by
  show mw d 300 Q 0 (me_en (mc_nl 300) _) [] h = _
  rw [nl_300]; rfl

/-! InvariantDeskModel.feed(IIIII)I -/
theorem mj_301_0 : mc_P 301 0 = some (.aload_n 0, 1, 0, 0, 0) := by decide +kernel
theorem s_301_0 {x1 x2 x3 x4 x5 x6 x7 : Option Value} {w : Value} : mw d 301 Q 0 [some w, x1, x2, x3, x4, x5, x6, x7] (st) h = mv_a w (mw d 301 Q 1 [some w, x1, x2, x3, x4, x5, x6, x7] (w :: st) h) := (mw_at mj_301_0).trans (z_aload_n rfl)
theorem mj_301_1 : mc_P 301 1 = some (.getfield 194, 3, 14, 2, 0) := by decide +kernel
theorem s_301_1 {x0 x1 x2 x3 x4 x5 x6 x7 : Option Value} {o : Nat} : mw d 301 Q 1 [x0, x1, x2, x3, x4, x5, x6, x7] (.ref o :: st) h = (mg h o 14 ∧ mw d 301 Q 4 [x0, x1, x2, x3, x4, x5, x6, x7] (.int (mh_i h o 2) :: st) h) := (mw_at mj_301_1).trans (z_geti (by decide) (by decide) (Or.inl rfl))
theorem mj_301_4 : mc_P 301 4 = some (.bipush 20, 2, 0, 0, 0) := by decide +kernel
theorem s_301_4 {x0 x1 x2 x3 x4 x5 x6 x7 : Option Value} : mw d 301 Q 4 [x0, x1, x2, x3, x4, x5, x6, x7] (st) h = mw d 301 Q 6 [x0, x1, x2, x3, x4, x5, x6, x7] (.int 20 :: st) h := (mw_at mj_301_4).trans (z_bipush (by decide))
theorem mj_301_6 : mc_P 301 6 = some (.iadd, 1, 0, 0, 0) := by decide +kernel
theorem s_301_6 {x0 x1 x2 x3 x4 x5 x6 x7 : Option Value} {x w : Int32} : mw d 301 Q 6 [x0, x1, x2, x3, x4, x5, x6, x7] (.int w :: .int x :: st) h = mw d 301 Q 7 [x0, x1, x2, x3, x4, x5, x6, x7] (.int (x + w) :: st) h := (mw_at mj_301_6).trans (z_iadd)
theorem mj_301_7 : mc_P 301 7 = some (.sipush 16400, 3, 0, 0, 0) := by decide +kernel
theorem s_301_7 {x0 x1 x2 x3 x4 x5 x6 x7 : Option Value} : mw d 301 Q 7 [x0, x1, x2, x3, x4, x5, x6, x7] (st) h = mw d 301 Q 10 [x0, x1, x2, x3, x4, x5, x6, x7] (.int 16400 :: st) h := (mw_at mj_301_7).trans (z_sipush (by decide))
theorem mj_301_10 : mc_P 301 10 = some (.if_icmp .le 5, 3, 0, 0, 0) := by decide +kernel
theorem s_301_10 {x0 x1 x2 x3 x4 x5 x6 x7 : Option Value} {x w : Int32} : mw d 301 Q 10 [x0, x1, x2, x3, x4, x5, x6, x7] (.int w :: .int x :: st) h = mB (x ≤ w) (mw d 301 Q) 15 13 [x0, x1, x2, x3, x4, x5, x6, x7] st h := (mw_at mj_301_10).trans (z_icmp_le (by decide) rfl)
theorem mj_301_13 : mc_P 301 13 = some (.iconst (-1), 1, 0, 0, 0) := by decide +kernel
theorem s_301_13 {x0 x1 x2 x3 x4 x5 x6 x7 : Option Value} : mw d 301 Q 13 [x0, x1, x2, x3, x4, x5, x6, x7] (st) h = mw d 301 Q 14 [x0, x1, x2, x3, x4, x5, x6, x7] (.int (-1) :: st) h := (mw_at mj_301_13).trans (z_iconst (by decide))
theorem mj_301_14 : mc_P 301 14 = some (.ireturn, 1, 0, 0, 0) := by decide +kernel
theorem s_301_14 {x0 x1 x2 x3 x4 x5 x6 x7 : Option Value} {x : Int32} : mw d 301 Q 14 [x0, x1, x2, x3, x4, x5, x6, x7] ([.int x]) h = (Q (some (.int x)) h) := (mw_at mj_301_14).trans (z_iret)
theorem mj_301_15 : mc_P 301 15 = some (.iconst 0, 1, 0, 0, 0) := by decide +kernel
theorem s_301_15 {x0 x1 x2 x3 x4 x5 x6 x7 : Option Value} : mw d 301 Q 15 [x0, x1, x2, x3, x4, x5, x6, x7] (st) h = mw d 301 Q 16 [x0, x1, x2, x3, x4, x5, x6, x7] (.int 0 :: st) h := (mw_at mj_301_15).trans (z_iconst (by decide))
theorem mj_301_16 : mc_P 301 16 = some (.istore 6, 2, 0, 0, 0) := by decide +kernel
theorem s_301_16 {x0 x1 x2 x3 x4 x5 x6 x7 : Option Value} {w : Int32} : mw d 301 Q 16 [x0, x1, x2, x3, x4, x5, x6, x7] (.int w :: st) h = mw d 301 Q 18 [x0, x1, x2, x3, x4, mk2 x5, some (.int w), x7] (st) h := (mw_at mj_301_16).trans (z_istore (Nat.le_of_ble_eq_true rfl) (me_s1_mk (j := 5) (w := x5) rfl))
theorem mj_301_18 : mc_P 301 18 = some (.iload 6, 2, 0, 0, 0) := by decide +kernel
theorem s_301_18 {x0 x1 x2 x3 x4 x5 x7 : Option Value} {w : Value} : mw d 301 Q 18 [x0, x1, x2, x3, x4, x5, some w, x7] (st) h = mv_i w (mw d 301 Q 20 [x0, x1, x2, x3, x4, x5, some w, x7] (w :: st) h) := (mw_at mj_301_18).trans (z_iload rfl)
theorem mj_301_20 : mc_P 301 20 = some (.bipush 20, 2, 0, 0, 0) := by decide +kernel
theorem s_301_20 {x0 x1 x2 x3 x4 x5 x6 x7 : Option Value} : mw d 301 Q 20 [x0, x1, x2, x3, x4, x5, x6, x7] (st) h = mw d 301 Q 22 [x0, x1, x2, x3, x4, x5, x6, x7] (.int 20 :: st) h := (mw_at mj_301_20).trans (z_bipush (by decide))
theorem mj_301_22 : mc_P 301 22 = some (.if_icmp .ge 93, 3, 0, 0, 0) := by decide +kernel
theorem s_301_22 {x0 x1 x2 x3 x4 x5 x6 x7 : Option Value} {x w : Int32} : mw d 301 Q 22 [x0, x1, x2, x3, x4, x5, x6, x7] (.int w :: .int x :: st) h = mB (w ≤ x) (mw d 301 Q) 115 25 [x0, x1, x2, x3, x4, x5, x6, x7] st h := (mw_at mj_301_22).trans (z_icmp_ge (by decide) rfl)
theorem mj_301_25 : mc_P 301 25 = some (.iload 6, 2, 0, 0, 0) := by decide +kernel
theorem s_301_25 {x0 x1 x2 x3 x4 x5 x7 : Option Value} {w : Value} : mw d 301 Q 25 [x0, x1, x2, x3, x4, x5, some w, x7] (st) h = mv_i w (mw d 301 Q 27 [x0, x1, x2, x3, x4, x5, some w, x7] (w :: st) h) := (mw_at mj_301_25).trans (z_iload rfl)
theorem mj_301_27 : mc_P 301 27 = some (.iconst 4, 1, 0, 0, 0) := by decide +kernel
theorem s_301_27 {x0 x1 x2 x3 x4 x5 x6 x7 : Option Value} : mw d 301 Q 27 [x0, x1, x2, x3, x4, x5, x6, x7] (st) h = mw d 301 Q 28 [x0, x1, x2, x3, x4, x5, x6, x7] (.int 4 :: st) h := (mw_at mj_301_27).trans (z_iconst (by decide))
theorem mj_301_28 : mc_P 301 28 = some (.if_icmp .ge 7, 3, 0, 0, 0) := by decide +kernel
theorem s_301_28 {x0 x1 x2 x3 x4 x5 x6 x7 : Option Value} {x w : Int32} : mw d 301 Q 28 [x0, x1, x2, x3, x4, x5, x6, x7] (.int w :: .int x :: st) h = mB (w ≤ x) (mw d 301 Q) 35 31 [x0, x1, x2, x3, x4, x5, x6, x7] st h := (mw_at mj_301_28).trans (z_icmp_ge (by decide) rfl)
theorem mj_301_31 : mc_P 301 31 = some (.iload_n 1, 1, 0, 0, 0) := by decide +kernel
theorem s_301_31 {x0 x2 x3 x4 x5 x6 x7 : Option Value} {w : Value} : mw d 301 Q 31 [x0, some w, x2, x3, x4, x5, x6, x7] (st) h = mv_i w (mw d 301 Q 32 [x0, some w, x2, x3, x4, x5, x6, x7] (w :: st) h) := (mw_at mj_301_31).trans (z_iload_n rfl)
theorem mj_301_32 : mc_P 301 32 = some (.goto 39, 3, 0, 0, 0) := by decide +kernel
theorem s_301_32 {x0 x1 x2 x3 x4 x5 x6 x7 : Option Value} : mw d 301 Q 32 [x0, x1, x2, x3, x4, x5, x6, x7] (st) h = mw d 301 Q 71 [x0, x1, x2, x3, x4, x5, x6, x7] (st) h := (mw_at mj_301_32).trans (z_goto (by decide))
theorem mj_301_35 : mc_P 301 35 = some (.iload 6, 2, 0, 0, 0) := by decide +kernel
theorem s_301_35 {x0 x1 x2 x3 x4 x5 x7 : Option Value} {w : Value} : mw d 301 Q 35 [x0, x1, x2, x3, x4, x5, some w, x7] (st) h = mv_i w (mw d 301 Q 37 [x0, x1, x2, x3, x4, x5, some w, x7] (w :: st) h) := (mw_at mj_301_35).trans (z_iload rfl)
theorem mj_301_37 : mc_P 301 37 = some (.bipush 8, 2, 0, 0, 0) := by decide +kernel
theorem s_301_37 {x0 x1 x2 x3 x4 x5 x6 x7 : Option Value} : mw d 301 Q 37 [x0, x1, x2, x3, x4, x5, x6, x7] (st) h = mw d 301 Q 39 [x0, x1, x2, x3, x4, x5, x6, x7] (.int 8 :: st) h := (mw_at mj_301_37).trans (z_bipush (by decide))
theorem mj_301_39 : mc_P 301 39 = some (.if_icmp .ge 7, 3, 0, 0, 0) := by decide +kernel
theorem s_301_39 {x0 x1 x2 x3 x4 x5 x6 x7 : Option Value} {x w : Int32} : mw d 301 Q 39 [x0, x1, x2, x3, x4, x5, x6, x7] (.int w :: .int x :: st) h = mB (w ≤ x) (mw d 301 Q) 46 42 [x0, x1, x2, x3, x4, x5, x6, x7] st h := (mw_at mj_301_39).trans (z_icmp_ge (by decide) rfl)
theorem mj_301_42 : mc_P 301 42 = some (.iload_n 2, 1, 0, 0, 0) := by decide +kernel
theorem s_301_42 {x0 x1 x3 x4 x5 x6 x7 : Option Value} {w : Value} : mw d 301 Q 42 [x0, x1, some w, x3, x4, x5, x6, x7] (st) h = mv_i w (mw d 301 Q 43 [x0, x1, some w, x3, x4, x5, x6, x7] (w :: st) h) := (mw_at mj_301_42).trans (z_iload_n rfl)
theorem mj_301_43 : mc_P 301 43 = some (.goto 28, 3, 0, 0, 0) := by decide +kernel
theorem s_301_43 {x0 x1 x2 x3 x4 x5 x6 x7 : Option Value} : mw d 301 Q 43 [x0, x1, x2, x3, x4, x5, x6, x7] (st) h = mw d 301 Q 71 [x0, x1, x2, x3, x4, x5, x6, x7] (st) h := (mw_at mj_301_43).trans (z_goto (by decide))
theorem mj_301_46 : mc_P 301 46 = some (.iload 6, 2, 0, 0, 0) := by decide +kernel
theorem s_301_46 {x0 x1 x2 x3 x4 x5 x7 : Option Value} {w : Value} : mw d 301 Q 46 [x0, x1, x2, x3, x4, x5, some w, x7] (st) h = mv_i w (mw d 301 Q 48 [x0, x1, x2, x3, x4, x5, some w, x7] (w :: st) h) := (mw_at mj_301_46).trans (z_iload rfl)
theorem mj_301_48 : mc_P 301 48 = some (.bipush 12, 2, 0, 0, 0) := by decide +kernel
theorem s_301_48 {x0 x1 x2 x3 x4 x5 x6 x7 : Option Value} : mw d 301 Q 48 [x0, x1, x2, x3, x4, x5, x6, x7] (st) h = mw d 301 Q 50 [x0, x1, x2, x3, x4, x5, x6, x7] (.int 12 :: st) h := (mw_at mj_301_48).trans (z_bipush (by decide))
theorem mj_301_50 : mc_P 301 50 = some (.if_icmp .ge 7, 3, 0, 0, 0) := by decide +kernel
theorem s_301_50 {x0 x1 x2 x3 x4 x5 x6 x7 : Option Value} {x w : Int32} : mw d 301 Q 50 [x0, x1, x2, x3, x4, x5, x6, x7] (.int w :: .int x :: st) h = mB (w ≤ x) (mw d 301 Q) 57 53 [x0, x1, x2, x3, x4, x5, x6, x7] st h := (mw_at mj_301_50).trans (z_icmp_ge (by decide) rfl)
theorem mj_301_53 : mc_P 301 53 = some (.iload_n 3, 1, 0, 0, 0) := by decide +kernel
theorem s_301_53 {x0 x1 x2 x4 x5 x6 x7 : Option Value} {w : Value} : mw d 301 Q 53 [x0, x1, x2, some w, x4, x5, x6, x7] (st) h = mv_i w (mw d 301 Q 54 [x0, x1, x2, some w, x4, x5, x6, x7] (w :: st) h) := (mw_at mj_301_53).trans (z_iload_n rfl)
theorem mj_301_54 : mc_P 301 54 = some (.goto 17, 3, 0, 0, 0) := by decide +kernel
theorem s_301_54 {x0 x1 x2 x3 x4 x5 x6 x7 : Option Value} : mw d 301 Q 54 [x0, x1, x2, x3, x4, x5, x6, x7] (st) h = mw d 301 Q 71 [x0, x1, x2, x3, x4, x5, x6, x7] (st) h := (mw_at mj_301_54).trans (z_goto (by decide))
theorem mj_301_57 : mc_P 301 57 = some (.iload 6, 2, 0, 0, 0) := by decide +kernel
theorem s_301_57 {x0 x1 x2 x3 x4 x5 x7 : Option Value} {w : Value} : mw d 301 Q 57 [x0, x1, x2, x3, x4, x5, some w, x7] (st) h = mv_i w (mw d 301 Q 59 [x0, x1, x2, x3, x4, x5, some w, x7] (w :: st) h) := (mw_at mj_301_57).trans (z_iload rfl)
theorem mj_301_59 : mc_P 301 59 = some (.bipush 16, 2, 0, 0, 0) := by decide +kernel
theorem s_301_59 {x0 x1 x2 x3 x4 x5 x6 x7 : Option Value} : mw d 301 Q 59 [x0, x1, x2, x3, x4, x5, x6, x7] (st) h = mw d 301 Q 61 [x0, x1, x2, x3, x4, x5, x6, x7] (.int 16 :: st) h := (mw_at mj_301_59).trans (z_bipush (by decide))
theorem mj_301_61 : mc_P 301 61 = some (.if_icmp .ge 8, 3, 0, 0, 0) := by decide +kernel
theorem s_301_61 {x0 x1 x2 x3 x4 x5 x6 x7 : Option Value} {x w : Int32} : mw d 301 Q 61 [x0, x1, x2, x3, x4, x5, x6, x7] (.int w :: .int x :: st) h = mB (w ≤ x) (mw d 301 Q) 69 64 [x0, x1, x2, x3, x4, x5, x6, x7] st h := (mw_at mj_301_61).trans (z_icmp_ge (by decide) rfl)
theorem mj_301_64 : mc_P 301 64 = some (.iload 4, 2, 0, 0, 0) := by decide +kernel
theorem s_301_64 {x0 x1 x2 x3 x5 x6 x7 : Option Value} {w : Value} : mw d 301 Q 64 [x0, x1, x2, x3, some w, x5, x6, x7] (st) h = mv_i w (mw d 301 Q 66 [x0, x1, x2, x3, some w, x5, x6, x7] (w :: st) h) := (mw_at mj_301_64).trans (z_iload rfl)
theorem mj_301_66 : mc_P 301 66 = some (.goto 5, 3, 0, 0, 0) := by decide +kernel
theorem s_301_66 {x0 x1 x2 x3 x4 x5 x6 x7 : Option Value} : mw d 301 Q 66 [x0, x1, x2, x3, x4, x5, x6, x7] (st) h = mw d 301 Q 71 [x0, x1, x2, x3, x4, x5, x6, x7] (st) h := (mw_at mj_301_66).trans (z_goto (by decide))
theorem mj_301_69 : mc_P 301 69 = some (.iload 5, 2, 0, 0, 0) := by decide +kernel
theorem s_301_69 {x0 x1 x2 x3 x4 x6 x7 : Option Value} {w : Value} : mw d 301 Q 69 [x0, x1, x2, x3, x4, some w, x6, x7] (st) h = mv_i w (mw d 301 Q 71 [x0, x1, x2, x3, x4, some w, x6, x7] (w :: st) h) := (mw_at mj_301_69).trans (z_iload rfl)
theorem mj_301_71 : mc_P 301 71 = some (.istore 7, 2, 0, 0, 0) := by decide +kernel
theorem s_301_71 {x0 x1 x2 x3 x4 x5 x6 x7 : Option Value} {w : Int32} : mw d 301 Q 71 [x0, x1, x2, x3, x4, x5, x6, x7] (.int w :: st) h = mw d 301 Q 73 [x0, x1, x2, x3, x4, x5, mk2 x6, some (.int w)] (st) h := (mw_at mj_301_71).trans (z_istore (Nat.le_of_ble_eq_true rfl) (me_s1_mk (j := 6) (w := x6) rfl))
theorem mj_301_73 : mc_P 301 73 = some (.aload_n 0, 1, 0, 0, 0) := by decide +kernel
theorem s_301_73 {x1 x2 x3 x4 x5 x6 x7 : Option Value} {w : Value} : mw d 301 Q 73 [some w, x1, x2, x3, x4, x5, x6, x7] (st) h = mv_a w (mw d 301 Q 74 [some w, x1, x2, x3, x4, x5, x6, x7] (w :: st) h) := (mw_at mj_301_73).trans (z_aload_n rfl)
theorem mj_301_74 : mc_P 301 74 = some (.getfield 9, 3, 14, 1, 0) := by decide +kernel
theorem s_301_74 {x0 x1 x2 x3 x4 x5 x6 x7 : Option Value} {o : Nat} : mw d 301 Q 74 [x0, x1, x2, x3, x4, x5, x6, x7] (.ref o :: st) h = (mg h o 14 ∧ mw d 301 Q 77 [x0, x1, x2, x3, x4, x5, x6, x7] (va_rf (mh_r h o 1) :: st) h) := (mw_at mj_301_74).trans (z_getr (by decide) (by decide) rfl)
theorem mj_301_77 : mc_P 301 77 = some (.aload_n 0, 1, 0, 0, 0) := by decide +kernel
theorem s_301_77 {x1 x2 x3 x4 x5 x6 x7 : Option Value} {w : Value} : mw d 301 Q 77 [some w, x1, x2, x3, x4, x5, x6, x7] (st) h = mv_a w (mw d 301 Q 78 [some w, x1, x2, x3, x4, x5, x6, x7] (w :: st) h) := (mw_at mj_301_77).trans (z_aload_n rfl)
theorem mj_301_78 : mc_P 301 78 = some (.getfield 194, 3, 14, 2, 0) := by decide +kernel
theorem s_301_78 {x0 x1 x2 x3 x4 x5 x6 x7 : Option Value} {o : Nat} : mw d 301 Q 78 [x0, x1, x2, x3, x4, x5, x6, x7] (.ref o :: st) h = (mg h o 14 ∧ mw d 301 Q 81 [x0, x1, x2, x3, x4, x5, x6, x7] (.int (mh_i h o 2) :: st) h) := (mw_at mj_301_78).trans (z_geti (by decide) (by decide) (Or.inl rfl))
theorem mj_301_81 : mc_P 301 81 = some (.iload 7, 2, 0, 0, 0) := by decide +kernel
theorem s_301_81 {x0 x1 x2 x3 x4 x5 x6 : Option Value} {w : Value} : mw d 301 Q 81 [x0, x1, x2, x3, x4, x5, x6, some w] (st) h = mv_i w (mw d 301 Q 83 [x0, x1, x2, x3, x4, x5, x6, some w] (w :: st) h) := (mw_at mj_301_81).trans (z_iload rfl)
theorem mj_301_83 : mc_P 301 83 = some (.bipush 24, 2, 0, 0, 0) := by decide +kernel
theorem s_301_83 {x0 x1 x2 x3 x4 x5 x6 x7 : Option Value} : mw d 301 Q 83 [x0, x1, x2, x3, x4, x5, x6, x7] (st) h = mw d 301 Q 85 [x0, x1, x2, x3, x4, x5, x6, x7] (.int 24 :: st) h := (mw_at mj_301_83).trans (z_bipush (by decide))
theorem mj_301_85 : mc_P 301 85 = some (.bipush 8, 2, 0, 0, 0) := by decide +kernel
theorem s_301_85 {x0 x1 x2 x3 x4 x5 x6 x7 : Option Value} : mw d 301 Q 85 [x0, x1, x2, x3, x4, x5, x6, x7] (st) h = mw d 301 Q 87 [x0, x1, x2, x3, x4, x5, x6, x7] (.int 8 :: st) h := (mw_at mj_301_85).trans (z_bipush (by decide))
theorem mj_301_87 : mc_P 301 87 = some (.iload 6, 2, 0, 0, 0) := by decide +kernel
theorem s_301_87 {x0 x1 x2 x3 x4 x5 x7 : Option Value} {w : Value} : mw d 301 Q 87 [x0, x1, x2, x3, x4, x5, some w, x7] (st) h = mv_i w (mw d 301 Q 89 [x0, x1, x2, x3, x4, x5, some w, x7] (w :: st) h) := (mw_at mj_301_87).trans (z_iload rfl)
theorem mj_301_89 : mc_P 301 89 = some (.iconst 4, 1, 0, 0, 0) := by decide +kernel
theorem s_301_89 {x0 x1 x2 x3 x4 x5 x6 x7 : Option Value} : mw d 301 Q 89 [x0, x1, x2, x3, x4, x5, x6, x7] (st) h = mw d 301 Q 90 [x0, x1, x2, x3, x4, x5, x6, x7] (.int 4 :: st) h := (mw_at mj_301_89).trans (z_iconst (by decide))
theorem mj_301_90 : mc_P 301 90 = some (.irem, 1, 0, 0, 0) := by decide +kernel
theorem s_301_90 {x0 x1 x2 x3 x4 x5 x6 x7 : Option Value} {x w : Int32} : mw d 301 Q 90 [x0, x1, x2, x3, x4, x5, x6, x7] (.int w :: .int x :: st) h = (¬ w = 0 ∧ mw d 301 Q 91 [x0, x1, x2, x3, x4, x5, x6, x7] (.int (x - x / w * w) :: st) h) := (mw_at mj_301_90).trans (z_irem)
theorem mj_301_91 : mc_P 301 91 = some (.imul, 1, 0, 0, 0) := by decide +kernel
theorem s_301_91 {x0 x1 x2 x3 x4 x5 x6 x7 : Option Value} {x w : Int32} : mw d 301 Q 91 [x0, x1, x2, x3, x4, x5, x6, x7] (.int w :: .int x :: st) h = mw d 301 Q 92 [x0, x1, x2, x3, x4, x5, x6, x7] (.int (x * w) :: st) h := (mw_at mj_301_91).trans (z_imul)
theorem mj_301_92 : mc_P 301 92 = some (.isub, 1, 0, 0, 0) := by decide +kernel
theorem s_301_92 {x0 x1 x2 x3 x4 x5 x6 x7 : Option Value} {x w : Int32} : mw d 301 Q 92 [x0, x1, x2, x3, x4, x5, x6, x7] (.int w :: .int x :: st) h = mw d 301 Q 93 [x0, x1, x2, x3, x4, x5, x6, x7] (.int (x - w) :: st) h := (mw_at mj_301_92).trans (z_isub)
theorem mj_301_93 : mc_P 301 93 = some (.ishr, 1, 0, 0, 0) := by decide +kernel
theorem s_301_93 {x0 x1 x2 x3 x4 x5 x6 x7 : Option Value} {x w : Int32} : mw d 301 Q 93 [x0, x1, x2, x3, x4, x5, x6, x7] (.int w :: .int x :: st) h = mw d 301 Q 94 [x0, x1, x2, x3, x4, x5, x6, x7] (.int (x >>> (w &&& 31)) :: st) h := (mw_at mj_301_93).trans (z_ishr)
theorem mj_301_94 : mc_P 301 94 = some (.sipush 255, 3, 0, 0, 0) := by decide +kernel
theorem s_301_94 {x0 x1 x2 x3 x4 x5 x6 x7 : Option Value} : mw d 301 Q 94 [x0, x1, x2, x3, x4, x5, x6, x7] (st) h = mw d 301 Q 97 [x0, x1, x2, x3, x4, x5, x6, x7] (.int 255 :: st) h := (mw_at mj_301_94).trans (z_sipush (by decide))
theorem mj_301_97 : mc_P 301 97 = some (.iand, 1, 0, 0, 0) := by decide +kernel
theorem s_301_97 {x0 x1 x2 x3 x4 x5 x6 x7 : Option Value} {x w : Int32} : mw d 301 Q 97 [x0, x1, x2, x3, x4, x5, x6, x7] (.int w :: .int x :: st) h = mw d 301 Q 98 [x0, x1, x2, x3, x4, x5, x6, x7] (.int (x &&& w) :: st) h := (mw_at mj_301_97).trans (z_iand)
theorem mj_301_98 : mc_P 301 98 = some (.iastore, 1, 0, 0, 0) := by decide +kernel
theorem s_301_98 {x0 x1 x2 x3 x4 x5 x6 x7 : Option Value} {o : Nat} {i w : Int32} : mw d 301 Q 98 [x0, x1, x2, x3, x4, x5, x6, x7] (.int w :: .int i :: .ref o :: st) h = (mg h o 100 ∧ mx i (mh_l h o) ∧ mw d 301 Q 99 [x0, x1, x2, x3, x4, x5, x6, x7] (st) (mh_si h o i.toNatClampNeg w)) := (mw_at mj_301_98).trans (z_iast)
theorem mj_301_99 : mc_P 301 99 = some (.aload_n 0, 1, 0, 0, 0) := by decide +kernel
theorem s_301_99 {x1 x2 x3 x4 x5 x6 x7 : Option Value} {w : Value} : mw d 301 Q 99 [some w, x1, x2, x3, x4, x5, x6, x7] (st) h = mv_a w (mw d 301 Q 100 [some w, x1, x2, x3, x4, x5, x6, x7] (w :: st) h) := (mw_at mj_301_99).trans (z_aload_n rfl)
theorem mj_301_100 : mc_P 301 100 = some (.dup, 1, 0, 0, 0) := by decide +kernel
theorem s_301_100 {x0 x1 x2 x3 x4 x5 x6 x7 : Option Value} {w : Value} : mw d 301 Q 100 [x0, x1, x2, x3, x4, x5, x6, x7] (w :: st) h = (w.category = 1 ∧ mw d 301 Q 101 [x0, x1, x2, x3, x4, x5, x6, x7] (w :: w :: st) h) := (mw_at mj_301_100).trans (z_dup)
theorem mj_301_101 : mc_P 301 101 = some (.getfield 194, 3, 14, 2, 0) := by decide +kernel
theorem s_301_101 {x0 x1 x2 x3 x4 x5 x6 x7 : Option Value} {o : Nat} : mw d 301 Q 101 [x0, x1, x2, x3, x4, x5, x6, x7] (.ref o :: st) h = (mg h o 14 ∧ mw d 301 Q 104 [x0, x1, x2, x3, x4, x5, x6, x7] (.int (mh_i h o 2) :: st) h) := (mw_at mj_301_101).trans (z_geti (by decide) (by decide) (Or.inl rfl))
theorem mj_301_104 : mc_P 301 104 = some (.iconst 1, 1, 0, 0, 0) := by decide +kernel
theorem s_301_104 {x0 x1 x2 x3 x4 x5 x6 x7 : Option Value} : mw d 301 Q 104 [x0, x1, x2, x3, x4, x5, x6, x7] (st) h = mw d 301 Q 105 [x0, x1, x2, x3, x4, x5, x6, x7] (.int 1 :: st) h := (mw_at mj_301_104).trans (z_iconst (by decide))
theorem mj_301_105 : mc_P 301 105 = some (.iadd, 1, 0, 0, 0) := by decide +kernel
theorem s_301_105 {x0 x1 x2 x3 x4 x5 x6 x7 : Option Value} {x w : Int32} : mw d 301 Q 105 [x0, x1, x2, x3, x4, x5, x6, x7] (.int w :: .int x :: st) h = mw d 301 Q 106 [x0, x1, x2, x3, x4, x5, x6, x7] (.int (x + w) :: st) h := (mw_at mj_301_105).trans (z_iadd)
theorem mj_301_106 : mc_P 301 106 = some (.putfield 194, 3, 14, 2, 0) := by decide +kernel
theorem s_301_106 {x0 x1 x2 x3 x4 x5 x6 x7 : Option Value} {o : Nat} {w : Int32} : mw d 301 Q 106 [x0, x1, x2, x3, x4, x5, x6, x7] (.int w :: .ref o :: st) h = (mg h o 14 ∧ mw d 301 Q 109 [x0, x1, x2, x3, x4, x5, x6, x7] (st) (mh_si h o 2 w)) := (mw_at mj_301_106).trans (z_puti (by decide) (by decide) rfl)
theorem mj_301_109 : mc_P 301 109 = some (.iinc 6 1, 3, 0, 0, 0) := by decide +kernel
theorem s_301_109 {x0 x1 x2 x3 x4 x5 x7 : Option Value} {w : Int32} : mw d 301 Q 109 [x0, x1, x2, x3, x4, x5, some (.int w), x7] (st) h = mw d 301 Q 112 [x0, x1, x2, x3, x4, mk2 x5, some (.int (w + 1)), x7] (st) h := (mw_at mj_301_109).trans (z_iinc rfl (Nat.le_of_ble_eq_true rfl) (by decide) (me_s1_mk (j := 5) (w := x5) rfl))
theorem mj_301_112 : mc_P 301 112 = some (.goto (-94), 3, 0, 0, 0) := by decide +kernel
theorem s_301_112 {x0 x1 x2 x3 x4 x5 x6 x7 : Option Value} : mw d 301 Q 112 [x0, x1, x2, x3, x4, x5, x6, x7] (st) h = mw d 301 Q 18 [x0, x1, x2, x3, x4, x5, x6, x7] (st) h := (mw_at mj_301_112).trans (z_goto (by decide))
theorem mj_301_115 : mc_P 301 115 = some (.aload_n 0, 1, 0, 0, 0) := by decide +kernel
theorem s_301_115 {x1 x2 x3 x4 x5 x6 x7 : Option Value} {w : Value} : mw d 301 Q 115 [some w, x1, x2, x3, x4, x5, x6, x7] (st) h = mv_a w (mw d 301 Q 116 [some w, x1, x2, x3, x4, x5, x6, x7] (w :: st) h) := (mw_at mj_301_115).trans (z_aload_n rfl)
theorem mj_301_116 : mc_P 301 116 = some (.getfield 194, 3, 14, 2, 0) := by decide +kernel
theorem s_301_116 {x0 x1 x2 x3 x4 x5 x6 x7 : Option Value} {o : Nat} : mw d 301 Q 116 [x0, x1, x2, x3, x4, x5, x6, x7] (.ref o :: st) h = (mg h o 14 ∧ mw d 301 Q 119 [x0, x1, x2, x3, x4, x5, x6, x7] (.int (mh_i h o 2) :: st) h) := (mw_at mj_301_116).trans (z_geti (by decide) (by decide) (Or.inl rfl))
theorem mj_301_119 : mc_P 301 119 = some (.ireturn, 1, 0, 0, 0) := by decide +kernel
theorem s_301_119 {x0 x1 x2 x3 x4 x5 x6 x7 : Option Value} {x : Int32} : mw d 301 Q 119 [x0, x1, x2, x3, x4, x5, x6, x7] ([.int x]) h = (Q (some (.int x)) h) := (mw_at mj_301_119).trans (z_iret)
theorem e_301 {a0 : Nat} {a1 : Int32} {a2 : Int32} {a3 : Int32} {a4 : Int32} {a5 : Int32} : mcall d 301 [.ref a0, .int a1, .int a2, .int a3, .int a4, .int a5] h Q = mw d 301 Q 0 [some (.ref a0), some (.int a1), some (.int a2), some (.int a3), some (.int a4), some (.int a5), none, none] [] h := by
  show mw d 301 Q 0 (me_en (mc_nl 301) _) [] h = _
  rw [nl_301]; rfl

/-! InvariantDeskModel.behindBlanks(I)I -/
theorem mj_306_0 : mc_P 306 0 = some (.iload_n 1, 1, 0, 0, 0) := by decide +kernel
theorem s_306_0 {x0 x2 x3 x4 : Option Value} {w : Value} : mw d 306 Q 0 [x0, some w, x2, x3, x4] (st) h = mv_i w (mw d 306 Q 1 [x0, some w, x2, x3, x4] (w :: st) h) := (mw_at mj_306_0).trans (z_iload_n rfl)
theorem mj_306_1 : mc_P 306 1 = some (.istore_n 2, 1, 0, 0, 0) := by decide +kernel
theorem s_306_1 {x0 x1 x2 x3 x4 : Option Value} {w : Int32} : mw d 306 Q 1 [x0, x1, x2, x3, x4] (.int w :: st) h = mw d 306 Q 2 [x0, mk2 x1, some (.int w), x3, x4] (st) h := (mw_at mj_306_1).trans (z_istore_n (Nat.le_of_ble_eq_true rfl) (me_s1_mk (j := 1) (w := x1) rfl))
theorem mj_306_2 : mc_P 306 2 = some (.iconst 1, 1, 0, 0, 0) := by decide +kernel
theorem s_306_2 {x0 x1 x2 x3 x4 : Option Value} : mw d 306 Q 2 [x0, x1, x2, x3, x4] (st) h = mw d 306 Q 3 [x0, x1, x2, x3, x4] (.int 1 :: st) h := (mw_at mj_306_2).trans (z_iconst (by decide))
theorem mj_306_3 : mc_P 306 3 = some (.istore_n 3, 1, 0, 0, 0) := by decide +kernel
theorem s_306_3 {x0 x1 x2 x3 x4 : Option Value} {w : Int32} : mw d 306 Q 3 [x0, x1, x2, x3, x4] (.int w :: st) h = mw d 306 Q 4 [x0, x1, mk2 x2, some (.int w), x4] (st) h := (mw_at mj_306_3).trans (z_istore_n (Nat.le_of_ble_eq_true rfl) (me_s1_mk (j := 2) (w := x2) rfl))
theorem mj_306_4 : mc_P 306 4 = some (.iload_n 3, 1, 0, 0, 0) := by decide +kernel
theorem s_306_4 {x0 x1 x2 x4 : Option Value} {w : Value} : mw d 306 Q 4 [x0, x1, x2, some w, x4] (st) h = mv_i w (mw d 306 Q 5 [x0, x1, x2, some w, x4] (w :: st) h) := (mw_at mj_306_4).trans (z_iload_n rfl)
theorem mj_306_5 : mc_P 306 5 = some (.ifCond .eq 95, 3, 0, 0, 0) := by decide +kernel
theorem s_306_5 {x0 x1 x2 x3 x4 : Option Value} {x : Int32} : mw d 306 Q 5 [x0, x1, x2, x3, x4] (.int x :: st) h = mB (x = 0) (mw d 306 Q) 100 8 [x0, x1, x2, x3, x4] st h := (mw_at mj_306_5).trans (z_if_eq (by decide) rfl)
theorem mj_306_8 : mc_P 306 8 = some (.iload_n 2, 1, 0, 0, 0) := by decide +kernel
theorem s_306_8 {x0 x1 x3 x4 : Option Value} {w : Value} : mw d 306 Q 8 [x0, x1, some w, x3, x4] (st) h = mv_i w (mw d 306 Q 9 [x0, x1, some w, x3, x4] (w :: st) h) := (mw_at mj_306_8).trans (z_iload_n rfl)
theorem mj_306_9 : mc_P 306 9 = some (.aload_n 0, 1, 0, 0, 0) := by decide +kernel
theorem s_306_9 {x1 x2 x3 x4 : Option Value} {w : Value} : mw d 306 Q 9 [some w, x1, x2, x3, x4] (st) h = mv_a w (mw d 306 Q 10 [some w, x1, x2, x3, x4] (w :: st) h) := (mw_at mj_306_9).trans (z_aload_n rfl)
theorem mj_306_10 : mc_P 306 10 = some (.getfield 197, 3, 14, 3, 0) := by decide +kernel
theorem s_306_10 {x0 x1 x2 x3 x4 : Option Value} {o : Nat} : mw d 306 Q 10 [x0, x1, x2, x3, x4] (.ref o :: st) h = (mg h o 14 ∧ mw d 306 Q 13 [x0, x1, x2, x3, x4] (.int (mh_i h o 3) :: st) h) := (mw_at mj_306_10).trans (z_geti (by decide) (by decide) (Or.inl rfl))
theorem mj_306_13 : mc_P 306 13 = some (.if_icmp .ge 87, 3, 0, 0, 0) := by decide +kernel
theorem s_306_13 {x0 x1 x2 x3 x4 : Option Value} {x w : Int32} : mw d 306 Q 13 [x0, x1, x2, x3, x4] (.int w :: .int x :: st) h = mB (w ≤ x) (mw d 306 Q) 100 16 [x0, x1, x2, x3, x4] st h := (mw_at mj_306_13).trans (z_icmp_ge (by decide) rfl)
theorem mj_306_16 : mc_P 306 16 = some (.aload_n 0, 1, 0, 0, 0) := by decide +kernel
theorem s_306_16 {x1 x2 x3 x4 : Option Value} {w : Value} : mw d 306 Q 16 [some w, x1, x2, x3, x4] (st) h = mv_a w (mw d 306 Q 17 [some w, x1, x2, x3, x4] (w :: st) h) := (mw_at mj_306_16).trans (z_aload_n rfl)
theorem mj_306_17 : mc_P 306 17 = some (.getfield 9, 3, 14, 1, 0) := by decide +kernel
theorem s_306_17 {x0 x1 x2 x3 x4 : Option Value} {o : Nat} : mw d 306 Q 17 [x0, x1, x2, x3, x4] (.ref o :: st) h = (mg h o 14 ∧ mw d 306 Q 20 [x0, x1, x2, x3, x4] (va_rf (mh_r h o 1) :: st) h) := (mw_at mj_306_17).trans (z_getr (by decide) (by decide) rfl)
theorem mj_306_20 : mc_P 306 20 = some (.iload_n 2, 1, 0, 0, 0) := by decide +kernel
theorem s_306_20 {x0 x1 x3 x4 : Option Value} {w : Value} : mw d 306 Q 20 [x0, x1, some w, x3, x4] (st) h = mv_i w (mw d 306 Q 21 [x0, x1, some w, x3, x4] (w :: st) h) := (mw_at mj_306_20).trans (z_iload_n rfl)
theorem mj_306_21 : mc_P 306 21 = some (.iaload, 1, 0, 0, 0) := by decide +kernel
theorem s_306_21 {x0 x1 x2 x3 x4 : Option Value} {o : Nat} {i : Int32} : mw d 306 Q 21 [x0, x1, x2, x3, x4] (.int i :: .ref o :: st) h = (mg h o 100 ∧ mx i (mh_l h o) ∧ mw d 306 Q 22 [x0, x1, x2, x3, x4] (.int (mh_i h o i.toNatClampNeg) :: st) h) := (mw_at mj_306_21).trans (z_iald)
theorem mj_306_22 : mc_P 306 22 = some (.istore 4, 2, 0, 0, 0) := by decide +kernel
theorem s_306_22 {x0 x1 x2 x3 x4 : Option Value} {w : Int32} : mw d 306 Q 22 [x0, x1, x2, x3, x4] (.int w :: st) h = mw d 306 Q 24 [x0, x1, x2, mk2 x3, some (.int w)] (st) h := (mw_at mj_306_22).trans (z_istore (Nat.le_of_ble_eq_true rfl) (me_s1_mk (j := 3) (w := x3) rfl))
theorem mj_306_24 : mc_P 306 24 = some (.iload 4, 2, 0, 0, 0) := by decide +kernel
theorem s_306_24 {x0 x1 x2 x3 : Option Value} {w : Value} : mw d 306 Q 24 [x0, x1, x2, x3, some w] (st) h = mv_i w (mw d 306 Q 26 [x0, x1, x2, x3, some w] (w :: st) h) := (mw_at mj_306_24).trans (z_iload rfl)
theorem mj_306_26 : mc_P 306 26 = some (.bipush 9, 2, 0, 0, 0) := by decide +kernel
theorem s_306_26 {x0 x1 x2 x3 x4 : Option Value} : mw d 306 Q 26 [x0, x1, x2, x3, x4] (st) h = mw d 306 Q 28 [x0, x1, x2, x3, x4] (.int 9 :: st) h := (mw_at mj_306_26).trans (z_bipush (by decide))
theorem mj_306_28 : mc_P 306 28 = some (.if_icmp .eq 24, 3, 0, 0, 0) := by decide +kernel
theorem s_306_28 {x0 x1 x2 x3 x4 : Option Value} {x w : Int32} : mw d 306 Q 28 [x0, x1, x2, x3, x4] (.int w :: .int x :: st) h = mB (x = w) (mw d 306 Q) 52 31 [x0, x1, x2, x3, x4] st h := (mw_at mj_306_28).trans (z_icmp_eq (by decide) rfl)
theorem mj_306_31 : mc_P 306 31 = some (.iload 4, 2, 0, 0, 0) := by decide +kernel
theorem s_306_31 {x0 x1 x2 x3 : Option Value} {w : Value} : mw d 306 Q 31 [x0, x1, x2, x3, some w] (st) h = mv_i w (mw d 306 Q 33 [x0, x1, x2, x3, some w] (w :: st) h) := (mw_at mj_306_31).trans (z_iload rfl)
theorem mj_306_33 : mc_P 306 33 = some (.bipush 10, 2, 0, 0, 0) := by decide +kernel
theorem s_306_33 {x0 x1 x2 x3 x4 : Option Value} : mw d 306 Q 33 [x0, x1, x2, x3, x4] (st) h = mw d 306 Q 35 [x0, x1, x2, x3, x4] (.int 10 :: st) h := (mw_at mj_306_33).trans (z_bipush (by decide))
theorem mj_306_35 : mc_P 306 35 = some (.if_icmp .eq 17, 3, 0, 0, 0) := by decide +kernel
theorem s_306_35 {x0 x1 x2 x3 x4 : Option Value} {x w : Int32} : mw d 306 Q 35 [x0, x1, x2, x3, x4] (.int w :: .int x :: st) h = mB (x = w) (mw d 306 Q) 52 38 [x0, x1, x2, x3, x4] st h := (mw_at mj_306_35).trans (z_icmp_eq (by decide) rfl)
theorem mj_306_38 : mc_P 306 38 = some (.iload 4, 2, 0, 0, 0) := by decide +kernel
theorem s_306_38 {x0 x1 x2 x3 : Option Value} {w : Value} : mw d 306 Q 38 [x0, x1, x2, x3, some w] (st) h = mv_i w (mw d 306 Q 40 [x0, x1, x2, x3, some w] (w :: st) h) := (mw_at mj_306_38).trans (z_iload rfl)
theorem mj_306_40 : mc_P 306 40 = some (.bipush 13, 2, 0, 0, 0) := by decide +kernel
theorem s_306_40 {x0 x1 x2 x3 x4 : Option Value} : mw d 306 Q 40 [x0, x1, x2, x3, x4] (st) h = mw d 306 Q 42 [x0, x1, x2, x3, x4] (.int 13 :: st) h := (mw_at mj_306_40).trans (z_bipush (by decide))
theorem mj_306_42 : mc_P 306 42 = some (.if_icmp .eq 10, 3, 0, 0, 0) := by decide +kernel
theorem s_306_42 {x0 x1 x2 x3 x4 : Option Value} {x w : Int32} : mw d 306 Q 42 [x0, x1, x2, x3, x4] (.int w :: .int x :: st) h = mB (x = w) (mw d 306 Q) 52 45 [x0, x1, x2, x3, x4] st h := (mw_at mj_306_42).trans (z_icmp_eq (by decide) rfl)
theorem mj_306_45 : mc_P 306 45 = some (.iload 4, 2, 0, 0, 0) := by decide +kernel
theorem s_306_45 {x0 x1 x2 x3 : Option Value} {w : Value} : mw d 306 Q 45 [x0, x1, x2, x3, some w] (st) h = mv_i w (mw d 306 Q 47 [x0, x1, x2, x3, some w] (w :: st) h) := (mw_at mj_306_45).trans (z_iload rfl)
theorem mj_306_47 : mc_P 306 47 = some (.bipush 32, 2, 0, 0, 0) := by decide +kernel
theorem s_306_47 {x0 x1 x2 x3 x4 : Option Value} : mw d 306 Q 47 [x0, x1, x2, x3, x4] (st) h = mw d 306 Q 49 [x0, x1, x2, x3, x4] (.int 32 :: st) h := (mw_at mj_306_47).trans (z_bipush (by decide))
theorem mj_306_49 : mc_P 306 49 = some (.if_icmp .ne 9, 3, 0, 0, 0) := by decide +kernel
theorem s_306_49 {x0 x1 x2 x3 x4 : Option Value} {x w : Int32} : mw d 306 Q 49 [x0, x1, x2, x3, x4] (.int w :: .int x :: st) h = mB (¬ x = w) (mw d 306 Q) 58 52 [x0, x1, x2, x3, x4] st h := (mw_at mj_306_49).trans (z_icmp_ne (by decide) rfl)
theorem mj_306_52 : mc_P 306 52 = some (.iinc 2 1, 3, 0, 0, 0) := by decide +kernel
theorem s_306_52 {x0 x1 x3 x4 : Option Value} {w : Int32} : mw d 306 Q 52 [x0, x1, some (.int w), x3, x4] (st) h = mw d 306 Q 55 [x0, mk2 x1, some (.int (w + 1)), x3, x4] (st) h := (mw_at mj_306_52).trans (z_iinc rfl (Nat.le_of_ble_eq_true rfl) (by decide) (me_s1_mk (j := 1) (w := x1) rfl))
theorem mj_306_55 : mc_P 306 55 = some (.goto 42, 3, 0, 0, 0) := by decide +kernel
theorem s_306_55 {x0 x1 x2 x3 x4 : Option Value} : mw d 306 Q 55 [x0, x1, x2, x3, x4] (st) h = mw d 306 Q 97 [x0, x1, x2, x3, x4] (st) h := (mw_at mj_306_55).trans (z_goto (by decide))
theorem mj_306_58 : mc_P 306 58 = some (.aload_n 0, 1, 0, 0, 0) := by decide +kernel
theorem s_306_58 {x1 x2 x3 x4 : Option Value} {w : Value} : mw d 306 Q 58 [some w, x1, x2, x3, x4] (st) h = mv_a w (mw d 306 Q 59 [some w, x1, x2, x3, x4] (w :: st) h) := (mw_at mj_306_58).trans (z_aload_n rfl)
theorem mj_306_59 : mc_P 306 59 = some (.iload_n 2, 1, 0, 0, 0) := by decide +kernel
theorem s_306_59 {x0 x1 x3 x4 : Option Value} {w : Value} : mw d 306 Q 59 [x0, x1, some w, x3, x4] (st) h = mv_i w (mw d 306 Q 60 [x0, x1, some w, x3, x4] (w :: st) h) := (mw_at mj_306_59).trans (z_iload_n rfl)
theorem mj_306_60 : mc_P 306 60 = some (.bipush 47, 2, 0, 0, 0) := by decide +kernel
theorem s_306_60 {x0 x1 x2 x3 x4 : Option Value} : mw d 306 Q 60 [x0, x1, x2, x3, x4] (st) h = mw d 306 Q 62 [x0, x1, x2, x3, x4] (.int 47 :: st) h := (mw_at mj_306_60).trans (z_bipush (by decide))
theorem mj_306_62 : mc_P 306 62 = some (.bipush 47, 2, 0, 0, 0) := by decide +kernel
theorem s_306_62 {x0 x1 x2 x3 x4 : Option Value} : mw d 306 Q 62 [x0, x1, x2, x3, x4] (st) h = mw d 306 Q 64 [x0, x1, x2, x3, x4] (.int 47 :: st) h := (mw_at mj_306_62).trans (z_bipush (by decide))
theorem mj_306_64 : mc_P 306 64 = some (.invokevirtual 207, 3, 302, 14, 4) := by decide +kernel
theorem s_306_64 {x0 x1 x2 x3 x4 : Option Value} {o : Nat} {a1 a2 a3 : Value} : mw (d + 1) 306 Q 64 [x0, x1, x2, x3, x4] (a3 :: a2 :: a1 :: .ref o :: st) h = (mg h o 14 ∧ mca st 8 ∧ mca [.ref o, a1, a2, a3] 4 ∧ mcall d 302 [.ref o, a1, a2, a3] h (mK (d + 1) 306 Q 67 [x0, x1, x2, x3, x4] st)) := (mw_at mj_306_64).trans ((z_invv (As := [a1, a2, a3]) (by decide) rfl rfl).trans (congrArg (And _) (congrArg (And _) (mC_nl nl_302))))
theorem mj_306_67 : mc_P 306 67 = some (.ifCond .eq 28, 3, 0, 0, 0) := by decide +kernel
theorem s_306_67 {x0 x1 x2 x3 x4 : Option Value} {x : Int32} : mw d 306 Q 67 [x0, x1, x2, x3, x4] (.int x :: st) h = mB (x = 0) (mw d 306 Q) 95 70 [x0, x1, x2, x3, x4] st h := (mw_at mj_306_67).trans (z_if_eq (by decide) rfl)
theorem mj_306_70 : mc_P 306 70 = some (.iload_n 2, 1, 0, 0, 0) := by decide +kernel
theorem s_306_70 {x0 x1 x3 x4 : Option Value} {w : Value} : mw d 306 Q 70 [x0, x1, some w, x3, x4] (st) h = mv_i w (mw d 306 Q 71 [x0, x1, some w, x3, x4] (w :: st) h) := (mw_at mj_306_70).trans (z_iload_n rfl)
theorem mj_306_71 : mc_P 306 71 = some (.aload_n 0, 1, 0, 0, 0) := by decide +kernel
theorem s_306_71 {x1 x2 x3 x4 : Option Value} {w : Value} : mw d 306 Q 71 [some w, x1, x2, x3, x4] (st) h = mv_a w (mw d 306 Q 72 [some w, x1, x2, x3, x4] (w :: st) h) := (mw_at mj_306_71).trans (z_aload_n rfl)
theorem mj_306_72 : mc_P 306 72 = some (.getfield 197, 3, 14, 3, 0) := by decide +kernel
theorem s_306_72 {x0 x1 x2 x3 x4 : Option Value} {o : Nat} : mw d 306 Q 72 [x0, x1, x2, x3, x4] (.ref o :: st) h = (mg h o 14 ∧ mw d 306 Q 75 [x0, x1, x2, x3, x4] (.int (mh_i h o 3) :: st) h) := (mw_at mj_306_72).trans (z_geti (by decide) (by decide) (Or.inl rfl))
theorem mj_306_75 : mc_P 306 75 = some (.if_icmp .ge 22, 3, 0, 0, 0) := by decide +kernel
theorem s_306_75 {x0 x1 x2 x3 x4 : Option Value} {x w : Int32} : mw d 306 Q 75 [x0, x1, x2, x3, x4] (.int w :: .int x :: st) h = mB (w ≤ x) (mw d 306 Q) 97 78 [x0, x1, x2, x3, x4] st h := (mw_at mj_306_75).trans (z_icmp_ge (by decide) rfl)
theorem mj_306_78 : mc_P 306 78 = some (.aload_n 0, 1, 0, 0, 0) := by decide +kernel
theorem s_306_78 {x1 x2 x3 x4 : Option Value} {w : Value} : mw d 306 Q 78 [some w, x1, x2, x3, x4] (st) h = mv_a w (mw d 306 Q 79 [some w, x1, x2, x3, x4] (w :: st) h) := (mw_at mj_306_78).trans (z_aload_n rfl)
theorem mj_306_79 : mc_P 306 79 = some (.getfield 9, 3, 14, 1, 0) := by decide +kernel
theorem s_306_79 {x0 x1 x2 x3 x4 : Option Value} {o : Nat} : mw d 306 Q 79 [x0, x1, x2, x3, x4] (.ref o :: st) h = (mg h o 14 ∧ mw d 306 Q 82 [x0, x1, x2, x3, x4] (va_rf (mh_r h o 1) :: st) h) := (mw_at mj_306_79).trans (z_getr (by decide) (by decide) rfl)
theorem mj_306_82 : mc_P 306 82 = some (.iload_n 2, 1, 0, 0, 0) := by decide +kernel
theorem s_306_82 {x0 x1 x3 x4 : Option Value} {w : Value} : mw d 306 Q 82 [x0, x1, some w, x3, x4] (st) h = mv_i w (mw d 306 Q 83 [x0, x1, some w, x3, x4] (w :: st) h) := (mw_at mj_306_82).trans (z_iload_n rfl)
theorem mj_306_83 : mc_P 306 83 = some (.iaload, 1, 0, 0, 0) := by decide +kernel
theorem s_306_83 {x0 x1 x2 x3 x4 : Option Value} {o : Nat} {i : Int32} : mw d 306 Q 83 [x0, x1, x2, x3, x4] (.int i :: .ref o :: st) h = (mg h o 100 ∧ mx i (mh_l h o) ∧ mw d 306 Q 84 [x0, x1, x2, x3, x4] (.int (mh_i h o i.toNatClampNeg) :: st) h) := (mw_at mj_306_83).trans (z_iald)
theorem mj_306_84 : mc_P 306 84 = some (.bipush 10, 2, 0, 0, 0) := by decide +kernel
theorem s_306_84 {x0 x1 x2 x3 x4 : Option Value} : mw d 306 Q 84 [x0, x1, x2, x3, x4] (st) h = mw d 306 Q 86 [x0, x1, x2, x3, x4] (.int 10 :: st) h := (mw_at mj_306_84).trans (z_bipush (by decide))
theorem mj_306_86 : mc_P 306 86 = some (.if_icmp .eq 11, 3, 0, 0, 0) := by decide +kernel
theorem s_306_86 {x0 x1 x2 x3 x4 : Option Value} {x w : Int32} : mw d 306 Q 86 [x0, x1, x2, x3, x4] (.int w :: .int x :: st) h = mB (x = w) (mw d 306 Q) 97 89 [x0, x1, x2, x3, x4] st h := (mw_at mj_306_86).trans (z_icmp_eq (by decide) rfl)
theorem mj_306_89 : mc_P 306 89 = some (.iinc 2 1, 3, 0, 0, 0) := by decide +kernel
theorem s_306_89 {x0 x1 x3 x4 : Option Value} {w : Int32} : mw d 306 Q 89 [x0, x1, some (.int w), x3, x4] (st) h = mw d 306 Q 92 [x0, mk2 x1, some (.int (w + 1)), x3, x4] (st) h := (mw_at mj_306_89).trans (z_iinc rfl (Nat.le_of_ble_eq_true rfl) (by decide) (me_s1_mk (j := 1) (w := x1) rfl))
theorem mj_306_92 : mc_P 306 92 = some (.goto (-22), 3, 0, 0, 0) := by decide +kernel
theorem s_306_92 {x0 x1 x2 x3 x4 : Option Value} : mw d 306 Q 92 [x0, x1, x2, x3, x4] (st) h = mw d 306 Q 70 [x0, x1, x2, x3, x4] (st) h := (mw_at mj_306_92).trans (z_goto (by decide))
theorem mj_306_95 : mc_P 306 95 = some (.iconst 0, 1, 0, 0, 0) := by decide +kernel
theorem s_306_95 {x0 x1 x2 x3 x4 : Option Value} : mw d 306 Q 95 [x0, x1, x2, x3, x4] (st) h = mw d 306 Q 96 [x0, x1, x2, x3, x4] (.int 0 :: st) h := (mw_at mj_306_95).trans (z_iconst (by decide))
theorem mj_306_96 : mc_P 306 96 = some (.istore_n 3, 1, 0, 0, 0) := by decide +kernel
theorem s_306_96 {x0 x1 x2 x3 x4 : Option Value} {w : Int32} : mw d 306 Q 96 [x0, x1, x2, x3, x4] (.int w :: st) h = mw d 306 Q 97 [x0, x1, mk2 x2, some (.int w), x4] (st) h := (mw_at mj_306_96).trans (z_istore_n (Nat.le_of_ble_eq_true rfl) (me_s1_mk (j := 2) (w := x2) rfl))
theorem mj_306_97 : mc_P 306 97 = some (.goto (-93), 3, 0, 0, 0) := by decide +kernel
theorem s_306_97 {x0 x1 x2 x3 x4 : Option Value} : mw d 306 Q 97 [x0, x1, x2, x3, x4] (st) h = mw d 306 Q 4 [x0, x1, x2, x3, x4] (st) h := (mw_at mj_306_97).trans (z_goto (by decide))
theorem mj_306_100 : mc_P 306 100 = some (.iload_n 2, 1, 0, 0, 0) := by decide +kernel
theorem s_306_100 {x0 x1 x3 x4 : Option Value} {w : Value} : mw d 306 Q 100 [x0, x1, some w, x3, x4] (st) h = mv_i w (mw d 306 Q 101 [x0, x1, some w, x3, x4] (w :: st) h) := (mw_at mj_306_100).trans (z_iload_n rfl)
theorem mj_306_101 : mc_P 306 101 = some (.ireturn, 1, 0, 0, 0) := by decide +kernel
theorem s_306_101 {x0 x1 x2 x3 x4 : Option Value} {x : Int32} : mw d 306 Q 101 [x0, x1, x2, x3, x4] ([.int x]) h = (Q (some (.int x)) h) := (mw_at mj_306_101).trans (z_iret)
theorem e_306 {a0 : Nat} {a1 : Int32} : mcall d 306 [.ref a0, .int a1] h Q = mw d 306 Q 0 [some (.ref a0), some (.int a1), none, none, none] [] h := by
  show mw d 306 Q 0 (me_en (mc_nl 306) _) [] h = _
  rw [nl_306]; rfl

/-! InvariantDeskModel.scan()V -/
theorem mj_309_0 : mc_P 309 0 = some (.aload_n 0, 1, 0, 0, 0) := by decide +kernel
theorem s_309_0 {x1 x2 x3 x4 x5 : Option Value} {w : Value} : mw d 309 Q 0 [some w, x1, x2, x3, x4, x5] (st) h = mv_a w (mw d 309 Q 1 [some w, x1, x2, x3, x4, x5] (w :: st) h) := (mw_at mj_309_0).trans (z_aload_n rfl)
theorem mj_309_1 : mc_P 309 1 = some (.iconst 0, 1, 0, 0, 0) := by decide +kernel
theorem s_309_1 {x0 x1 x2 x3 x4 x5 : Option Value} : mw d 309 Q 1 [x0, x1, x2, x3, x4, x5] (st) h = mw d 309 Q 2 [x0, x1, x2, x3, x4, x5] (.int 0 :: st) h := (mw_at mj_309_1).trans (z_iconst (by decide))
theorem mj_309_2 : mc_P 309 2 = some (.putfield 227, 3, 14, 7, 0) := by decide +kernel
theorem s_309_2 {x0 x1 x2 x3 x4 x5 : Option Value} {o : Nat} {w : Int32} : mw d 309 Q 2 [x0, x1, x2, x3, x4, x5] (.int w :: .ref o :: st) h = (mg h o 14 ∧ mw d 309 Q 5 [x0, x1, x2, x3, x4, x5] (st) (mh_si h o 7 w)) := (mw_at mj_309_2).trans (z_puti (by decide) (by decide) rfl)
theorem mj_309_5 : mc_P 309 5 = some (.aload_n 0, 1, 0, 0, 0) := by decide +kernel
theorem s_309_5 {x1 x2 x3 x4 x5 : Option Value} {w : Value} : mw d 309 Q 5 [some w, x1, x2, x3, x4, x5] (st) h = mv_a w (mw d 309 Q 6 [some w, x1, x2, x3, x4, x5] (w :: st) h) := (mw_at mj_309_5).trans (z_aload_n rfl)
theorem mj_309_6 : mc_P 309 6 = some (.iconst 0, 1, 0, 0, 0) := by decide +kernel
theorem s_309_6 {x0 x1 x2 x3 x4 x5 : Option Value} : mw d 309 Q 6 [x0, x1, x2, x3, x4, x5] (st) h = mw d 309 Q 7 [x0, x1, x2, x3, x4, x5] (.int 0 :: st) h := (mw_at mj_309_6).trans (z_iconst (by decide))
theorem mj_309_7 : mc_P 309 7 = some (.invokevirtual 230, 3, 306, 14, 2) := by decide +kernel
theorem s_309_7 {x0 x1 x2 x3 x4 x5 : Option Value} {o : Nat} {a1 : Value} : mw (d + 1) 309 Q 7 [x0, x1, x2, x3, x4, x5] (a1 :: .ref o :: st) h = (mg h o 14 ∧ mca st 8 ∧ mca [.ref o, a1] 5 ∧ mcall d 306 [.ref o, a1] h (mK (d + 1) 309 Q 10 [x0, x1, x2, x3, x4, x5] st)) := (mw_at mj_309_7).trans ((z_invv (As := [a1]) (by decide) rfl rfl).trans (congrArg (And _) (congrArg (And _) (mC_nl nl_306))))
theorem mj_309_10 : mc_P 309 10 = some (.istore_n 1, 1, 0, 0, 0) := by decide +kernel
theorem s_309_10 {x0 x1 x2 x3 x4 x5 : Option Value} {w : Int32} : mw d 309 Q 10 [x0, x1, x2, x3, x4, x5] (.int w :: st) h = mw d 309 Q 11 [mk2 x0, some (.int w), x2, x3, x4, x5] (st) h := (mw_at mj_309_10).trans (z_istore_n (Nat.le_of_ble_eq_true rfl) (me_s1_mk (j := 0) (w := x0) rfl))
theorem mj_309_11 : mc_P 309 11 = some (.iconst 1, 1, 0, 0, 0) := by decide +kernel
theorem s_309_11 {x0 x1 x2 x3 x4 x5 : Option Value} : mw d 309 Q 11 [x0, x1, x2, x3, x4, x5] (st) h = mw d 309 Q 12 [x0, x1, x2, x3, x4, x5] (.int 1 :: st) h := (mw_at mj_309_11).trans (z_iconst (by decide))
theorem mj_309_12 : mc_P 309 12 = some (.istore_n 2, 1, 0, 0, 0) := by decide +kernel
theorem s_309_12 {x0 x1 x2 x3 x4 x5 : Option Value} {w : Int32} : mw d 309 Q 12 [x0, x1, x2, x3, x4, x5] (.int w :: st) h = mw d 309 Q 13 [x0, mk2 x1, some (.int w), x3, x4, x5] (st) h := (mw_at mj_309_12).trans (z_istore_n (Nat.le_of_ble_eq_true rfl) (me_s1_mk (j := 1) (w := x1) rfl))
theorem mj_309_13 : mc_P 309 13 = some (.iload_n 2, 1, 0, 0, 0) := by decide +kernel
theorem s_309_13 {x0 x1 x3 x4 x5 : Option Value} {w : Value} : mw d 309 Q 13 [x0, x1, some w, x3, x4, x5] (st) h = mv_i w (mw d 309 Q 14 [x0, x1, some w, x3, x4, x5] (w :: st) h) := (mw_at mj_309_13).trans (z_iload_n rfl)
theorem mj_309_14 : mc_P 309 14 = some (.ifCond .eq 475, 3, 0, 0, 0) := by decide +kernel
theorem s_309_14 {x0 x1 x2 x3 x4 x5 : Option Value} {x : Int32} : mw d 309 Q 14 [x0, x1, x2, x3, x4, x5] (.int x :: st) h = mB (x = 0) (mw d 309 Q) 489 17 [x0, x1, x2, x3, x4, x5] st h := (mw_at mj_309_14).trans (z_if_eq (by decide) rfl)
theorem mj_309_17 : mc_P 309 17 = some (.iconst 1, 1, 0, 0, 0) := by decide +kernel
theorem s_309_17 {x0 x1 x2 x3 x4 x5 : Option Value} : mw d 309 Q 17 [x0, x1, x2, x3, x4, x5] (st) h = mw d 309 Q 18 [x0, x1, x2, x3, x4, x5] (.int 1 :: st) h := (mw_at mj_309_17).trans (z_iconst (by decide))
theorem mj_309_18 : mc_P 309 18 = some (.istore_n 3, 1, 0, 0, 0) := by decide +kernel
theorem s_309_18 {x0 x1 x2 x3 x4 x5 : Option Value} {w : Int32} : mw d 309 Q 18 [x0, x1, x2, x3, x4, x5] (.int w :: st) h = mw d 309 Q 19 [x0, x1, mk2 x2, some (.int w), x4, x5] (st) h := (mw_at mj_309_18).trans (z_istore_n (Nat.le_of_ble_eq_true rfl) (me_s1_mk (j := 2) (w := x2) rfl))
theorem mj_309_19 : mc_P 309 19 = some (.iconst 1, 1, 0, 0, 0) := by decide +kernel
theorem s_309_19 {x0 x1 x2 x3 x4 x5 : Option Value} : mw d 309 Q 19 [x0, x1, x2, x3, x4, x5] (st) h = mw d 309 Q 20 [x0, x1, x2, x3, x4, x5] (.int 1 :: st) h := (mw_at mj_309_19).trans (z_iconst (by decide))
theorem mj_309_20 : mc_P 309 20 = some (.istore 4, 2, 0, 0, 0) := by decide +kernel
theorem s_309_20 {x0 x1 x2 x3 x4 x5 : Option Value} {w : Int32} : mw d 309 Q 20 [x0, x1, x2, x3, x4, x5] (.int w :: st) h = mw d 309 Q 22 [x0, x1, x2, mk2 x3, some (.int w), x5] (st) h := (mw_at mj_309_20).trans (z_istore (Nat.le_of_ble_eq_true rfl) (me_s1_mk (j := 3) (w := x3) rfl))
theorem mj_309_22 : mc_P 309 22 = some (.iload_n 1, 1, 0, 0, 0) := by decide +kernel
theorem s_309_22 {x0 x2 x3 x4 x5 : Option Value} {w : Value} : mw d 309 Q 22 [x0, some w, x2, x3, x4, x5] (st) h = mv_i w (mw d 309 Q 23 [x0, some w, x2, x3, x4, x5] (w :: st) h) := (mw_at mj_309_22).trans (z_iload_n rfl)
theorem mj_309_23 : mc_P 309 23 = some (.aload_n 0, 1, 0, 0, 0) := by decide +kernel
theorem s_309_23 {x1 x2 x3 x4 x5 : Option Value} {w : Value} : mw d 309 Q 23 [some w, x1, x2, x3, x4, x5] (st) h = mv_a w (mw d 309 Q 24 [some w, x1, x2, x3, x4, x5] (w :: st) h) := (mw_at mj_309_23).trans (z_aload_n rfl)
theorem mj_309_24 : mc_P 309 24 = some (.getfield 197, 3, 14, 3, 0) := by decide +kernel
theorem s_309_24 {x0 x1 x2 x3 x4 x5 : Option Value} {o : Nat} : mw d 309 Q 24 [x0, x1, x2, x3, x4, x5] (.ref o :: st) h = (mg h o 14 ∧ mw d 309 Q 27 [x0, x1, x2, x3, x4, x5] (.int (mh_i h o 3) :: st) h) := (mw_at mj_309_24).trans (z_geti (by decide) (by decide) (Or.inl rfl))
theorem mj_309_27 : mc_P 309 27 = some (.if_icmp .ge 12, 3, 0, 0, 0) := by decide +kernel
theorem s_309_27 {x0 x1 x2 x3 x4 x5 : Option Value} {x w : Int32} : mw d 309 Q 27 [x0, x1, x2, x3, x4, x5] (.int w :: .int x :: st) h = mB (w ≤ x) (mw d 309 Q) 39 30 [x0, x1, x2, x3, x4, x5] st h := (mw_at mj_309_27).trans (z_icmp_ge (by decide) rfl)
theorem mj_309_30 : mc_P 309 30 = some (.aload_n 0, 1, 0, 0, 0) := by decide +kernel
theorem s_309_30 {x1 x2 x3 x4 x5 : Option Value} {w : Value} : mw d 309 Q 30 [some w, x1, x2, x3, x4, x5] (st) h = mv_a w (mw d 309 Q 31 [some w, x1, x2, x3, x4, x5] (w :: st) h) := (mw_at mj_309_30).trans (z_aload_n rfl)
theorem mj_309_31 : mc_P 309 31 = some (.getfield 9, 3, 14, 1, 0) := by decide +kernel
theorem s_309_31 {x0 x1 x2 x3 x4 x5 : Option Value} {o : Nat} : mw d 309 Q 31 [x0, x1, x2, x3, x4, x5] (.ref o :: st) h = (mg h o 14 ∧ mw d 309 Q 34 [x0, x1, x2, x3, x4, x5] (va_rf (mh_r h o 1) :: st) h) := (mw_at mj_309_31).trans (z_getr (by decide) (by decide) rfl)
theorem mj_309_34 : mc_P 309 34 = some (.iload_n 1, 1, 0, 0, 0) := by decide +kernel
theorem s_309_34 {x0 x2 x3 x4 x5 : Option Value} {w : Value} : mw d 309 Q 34 [x0, some w, x2, x3, x4, x5] (st) h = mv_i w (mw d 309 Q 35 [x0, some w, x2, x3, x4, x5] (w :: st) h) := (mw_at mj_309_34).trans (z_iload_n rfl)
theorem mj_309_35 : mc_P 309 35 = some (.iaload, 1, 0, 0, 0) := by decide +kernel
theorem s_309_35 {x0 x1 x2 x3 x4 x5 : Option Value} {o : Nat} {i : Int32} : mw d 309 Q 35 [x0, x1, x2, x3, x4, x5] (.int i :: .ref o :: st) h = (mg h o 100 ∧ mx i (mh_l h o) ∧ mw d 309 Q 36 [x0, x1, x2, x3, x4, x5] (.int (mh_i h o i.toNatClampNeg) :: st) h) := (mw_at mj_309_35).trans (z_iald)
theorem mj_309_36 : mc_P 309 36 = some (.goto 4, 3, 0, 0, 0) := by decide +kernel
theorem s_309_36 {x0 x1 x2 x3 x4 x5 : Option Value} : mw d 309 Q 36 [x0, x1, x2, x3, x4, x5] (st) h = mw d 309 Q 40 [x0, x1, x2, x3, x4, x5] (st) h := (mw_at mj_309_36).trans (z_goto (by decide))
theorem mj_309_39 : mc_P 309 39 = some (.iconst 0, 1, 0, 0, 0) := by decide +kernel
theorem s_309_39 {x0 x1 x2 x3 x4 x5 : Option Value} : mw d 309 Q 39 [x0, x1, x2, x3, x4, x5] (st) h = mw d 309 Q 40 [x0, x1, x2, x3, x4, x5] (.int 0 :: st) h := (mw_at mj_309_39).trans (z_iconst (by decide))
theorem mj_309_40 : mc_P 309 40 = some (.istore 5, 2, 0, 0, 0) := by decide +kernel
theorem s_309_40 {x0 x1 x2 x3 x4 x5 : Option Value} {w : Int32} : mw d 309 Q 40 [x0, x1, x2, x3, x4, x5] (.int w :: st) h = mw d 309 Q 42 [x0, x1, x2, x3, mk2 x4, some (.int w)] (st) h := (mw_at mj_309_40).trans (z_istore (Nat.le_of_ble_eq_true rfl) (me_s1_mk (j := 4) (w := x4) rfl))
theorem mj_309_42 : mc_P 309 42 = some (.iload_n 1, 1, 0, 0, 0) := by decide +kernel
theorem s_309_42 {x0 x2 x3 x4 x5 : Option Value} {w : Value} : mw d 309 Q 42 [x0, some w, x2, x3, x4, x5] (st) h = mv_i w (mw d 309 Q 43 [x0, some w, x2, x3, x4, x5] (w :: st) h) := (mw_at mj_309_42).trans (z_iload_n rfl)
theorem mj_309_43 : mc_P 309 43 = some (.aload_n 0, 1, 0, 0, 0) := by decide +kernel
theorem s_309_43 {x1 x2 x3 x4 x5 : Option Value} {w : Value} : mw d 309 Q 43 [some w, x1, x2, x3, x4, x5] (st) h = mv_a w (mw d 309 Q 44 [some w, x1, x2, x3, x4, x5] (w :: st) h) := (mw_at mj_309_43).trans (z_aload_n rfl)
theorem mj_309_44 : mc_P 309 44 = some (.getfield 197, 3, 14, 3, 0) := by decide +kernel
theorem s_309_44 {x0 x1 x2 x3 x4 x5 : Option Value} {o : Nat} : mw d 309 Q 44 [x0, x1, x2, x3, x4, x5] (.ref o :: st) h = (mg h o 14 ∧ mw d 309 Q 47 [x0, x1, x2, x3, x4, x5] (.int (mh_i h o 3) :: st) h) := (mw_at mj_309_44).trans (z_geti (by decide) (by decide) (Or.inl rfl))
theorem mj_309_47 : mc_P 309 47 = some (.if_icmp .lt 11, 3, 0, 0, 0) := by decide +kernel
theorem s_309_47 {x0 x1 x2 x3 x4 x5 : Option Value} {x w : Int32} : mw d 309 Q 47 [x0, x1, x2, x3, x4, x5] (.int w :: .int x :: st) h = mB (x < w) (mw d 309 Q) 58 50 [x0, x1, x2, x3, x4, x5] st h := (mw_at mj_309_47).trans (z_icmp_lt (by decide) rfl)
theorem mj_309_50 : mc_P 309 50 = some (.iconst 0, 1, 0, 0, 0) := by decide +kernel
theorem s_309_50 {x0 x1 x2 x3 x4 x5 : Option Value} : mw d 309 Q 50 [x0, x1, x2, x3, x4, x5] (st) h = mw d 309 Q 51 [x0, x1, x2, x3, x4, x5] (.int 0 :: st) h := (mw_at mj_309_50).trans (z_iconst (by decide))
theorem mj_309_51 : mc_P 309 51 = some (.istore 4, 2, 0, 0, 0) := by decide +kernel
theorem s_309_51 {x0 x1 x2 x3 x4 x5 : Option Value} {w : Int32} : mw d 309 Q 51 [x0, x1, x2, x3, x4, x5] (.int w :: st) h = mw d 309 Q 53 [x0, x1, x2, mk2 x3, some (.int w), x5] (st) h := (mw_at mj_309_51).trans (z_istore (Nat.le_of_ble_eq_true rfl) (me_s1_mk (j := 3) (w := x3) rfl))
theorem mj_309_53 : mc_P 309 53 = some (.iconst 0, 1, 0, 0, 0) := by decide +kernel
theorem s_309_53 {x0 x1 x2 x3 x4 x5 : Option Value} : mw d 309 Q 53 [x0, x1, x2, x3, x4, x5] (st) h = mw d 309 Q 54 [x0, x1, x2, x3, x4, x5] (.int 0 :: st) h := (mw_at mj_309_53).trans (z_iconst (by decide))
theorem mj_309_54 : mc_P 309 54 = some (.istore_n 3, 1, 0, 0, 0) := by decide +kernel
theorem s_309_54 {x0 x1 x2 x3 x4 x5 : Option Value} {w : Int32} : mw d 309 Q 54 [x0, x1, x2, x3, x4, x5] (.int w :: st) h = mw d 309 Q 55 [x0, x1, mk2 x2, some (.int w), x4, x5] (st) h := (mw_at mj_309_54).trans (z_istore_n (Nat.le_of_ble_eq_true rfl) (me_s1_mk (j := 2) (w := x2) rfl))
theorem mj_309_55 : mc_P 309 55 = some (.goto 365, 3, 0, 0, 0) := by decide +kernel
theorem s_309_55 {x0 x1 x2 x3 x4 x5 : Option Value} : mw d 309 Q 55 [x0, x1, x2, x3, x4, x5] (st) h = mw d 309 Q 420 [x0, x1, x2, x3, x4, x5] (st) h := (mw_at mj_309_55).trans (z_goto (by decide))
theorem mj_309_58 : mc_P 309 58 = some (.iload 5, 2, 0, 0, 0) := by decide +kernel
theorem s_309_58 {x0 x1 x2 x3 x4 : Option Value} {w : Value} : mw d 309 Q 58 [x0, x1, x2, x3, x4, some w] (st) h = mv_i w (mw d 309 Q 60 [x0, x1, x2, x3, x4, some w] (w :: st) h) := (mw_at mj_309_58).trans (z_iload rfl)
theorem mj_309_60 : mc_P 309 60 = some (.invokestatic 200, 3, 303, 0, 1) := by decide +kernel
theorem s_309_60 {x0 x1 x2 x3 x4 x5 : Option Value} {a0 : Value} : mw (d + 1) 309 Q 60 [x0, x1, x2, x3, x4, x5] (a0 :: st) h = (mca st 8 ∧ mca [a0] 1 ∧ mcall d 303 [a0] h (mK (d + 1) 309 Q 63 [x0, x1, x2, x3, x4, x5] st)) := (mw_at mj_309_60).trans ((z_invs (As := [a0]) rfl rfl).trans (congrArg (And _) (mC_nl nl_303)))
theorem mj_309_63 : mc_P 309 63 = some (.ifCond .eq 30, 3, 0, 0, 0) := by decide +kernel
theorem s_309_63 {x0 x1 x2 x3 x4 x5 : Option Value} {x : Int32} : mw d 309 Q 63 [x0, x1, x2, x3, x4, x5] (.int x :: st) h = mB (x = 0) (mw d 309 Q) 93 66 [x0, x1, x2, x3, x4, x5] st h := (mw_at mj_309_63).trans (z_if_eq (by decide) rfl)
theorem mj_309_66 : mc_P 309 66 = some (.aload_n 0, 1, 0, 0, 0) := by decide +kernel
theorem s_309_66 {x1 x2 x3 x4 x5 : Option Value} {w : Value} : mw d 309 Q 66 [some w, x1, x2, x3, x4, x5] (st) h = mv_a w (mw d 309 Q 67 [some w, x1, x2, x3, x4, x5] (w :: st) h) := (mw_at mj_309_66).trans (z_aload_n rfl)
theorem mj_309_67 : mc_P 309 67 = some (.iload_n 1, 1, 0, 0, 0) := by decide +kernel
theorem s_309_67 {x0 x2 x3 x4 x5 : Option Value} {w : Value} : mw d 309 Q 67 [x0, some w, x2, x3, x4, x5] (st) h = mv_i w (mw d 309 Q 68 [x0, some w, x2, x3, x4, x5] (w :: st) h) := (mw_at mj_309_67).trans (z_iload_n rfl)
theorem mj_309_68 : mc_P 309 68 = some (.iload_n 3, 1, 0, 0, 0) := by decide +kernel
theorem s_309_68 {x0 x1 x2 x4 x5 : Option Value} {w : Value} : mw d 309 Q 68 [x0, x1, x2, some w, x4, x5] (st) h = mv_i w (mw d 309 Q 69 [x0, x1, x2, some w, x4, x5] (w :: st) h) := (mw_at mj_309_68).trans (z_iload_n rfl)
theorem mj_309_69 : mc_P 309 69 = some (.iadd, 1, 0, 0, 0) := by decide +kernel
theorem s_309_69 {x0 x1 x2 x3 x4 x5 : Option Value} {x w : Int32} : mw d 309 Q 69 [x0, x1, x2, x3, x4, x5] (.int w :: .int x :: st) h = mw d 309 Q 70 [x0, x1, x2, x3, x4, x5] (.int (x + w) :: st) h := (mw_at mj_309_69).trans (z_iadd)
theorem mj_309_70 : mc_P 309 70 = some (.invokevirtual 224, 3, 305, 14, 2) := by decide +kernel
theorem s_309_70 {x0 x1 x2 x3 x4 x5 : Option Value} {o : Nat} {a1 : Value} : mw (d + 1) 309 Q 70 [x0, x1, x2, x3, x4, x5] (a1 :: .ref o :: st) h = (mg h o 14 ∧ mca st 8 ∧ mca [.ref o, a1] 2 ∧ mcall d 305 [.ref o, a1] h (mK (d + 1) 309 Q 73 [x0, x1, x2, x3, x4, x5] st)) := (mw_at mj_309_70).trans ((z_invv (As := [a1]) (by decide) rfl rfl).trans (congrArg (And _) (congrArg (And _) (mC_nl nl_305))))
theorem mj_309_73 : mc_P 309 73 = some (.ifCond .eq 9, 3, 0, 0, 0) := by decide +kernel
theorem s_309_73 {x0 x1 x2 x3 x4 x5 : Option Value} {x : Int32} : mw d 309 Q 73 [x0, x1, x2, x3, x4, x5] (.int x :: st) h = mB (x = 0) (mw d 309 Q) 82 76 [x0, x1, x2, x3, x4, x5] st h := (mw_at mj_309_73).trans (z_if_eq (by decide) rfl)
theorem mj_309_76 : mc_P 309 76 = some (.iinc 3 1, 3, 0, 0, 0) := by decide +kernel
theorem s_309_76 {x0 x1 x2 x4 x5 : Option Value} {w : Int32} : mw d 309 Q 76 [x0, x1, x2, some (.int w), x4, x5] (st) h = mw d 309 Q 79 [x0, x1, mk2 x2, some (.int (w + 1)), x4, x5] (st) h := (mw_at mj_309_76).trans (z_iinc rfl (Nat.le_of_ble_eq_true rfl) (by decide) (me_s1_mk (j := 2) (w := x2) rfl))
theorem mj_309_79 : mc_P 309 79 = some (.goto (-13), 3, 0, 0, 0) := by decide +kernel
theorem s_309_79 {x0 x1 x2 x3 x4 x5 : Option Value} : mw d 309 Q 79 [x0, x1, x2, x3, x4, x5] (st) h = mw d 309 Q 66 [x0, x1, x2, x3, x4, x5] (st) h := (mw_at mj_309_79).trans (z_goto (by decide))
theorem mj_309_82 : mc_P 309 82 = some (.aload_n 0, 1, 0, 0, 0) := by decide +kernel
theorem s_309_82 {x1 x2 x3 x4 x5 : Option Value} {w : Value} : mw d 309 Q 82 [some w, x1, x2, x3, x4, x5] (st) h = mv_a w (mw d 309 Q 83 [some w, x1, x2, x3, x4, x5] (w :: st) h) := (mw_at mj_309_82).trans (z_aload_n rfl)
theorem mj_309_83 : mc_P 309 83 = some (.iload_n 1, 1, 0, 0, 0) := by decide +kernel
theorem s_309_83 {x0 x2 x3 x4 x5 : Option Value} {w : Value} : mw d 309 Q 83 [x0, some w, x2, x3, x4, x5] (st) h = mv_i w (mw d 309 Q 84 [x0, some w, x2, x3, x4, x5] (w :: st) h) := (mw_at mj_309_83).trans (z_iload_n rfl)
theorem mj_309_84 : mc_P 309 84 = some (.iload_n 3, 1, 0, 0, 0) := by decide +kernel
theorem s_309_84 {x0 x1 x2 x4 x5 : Option Value} {w : Value} : mw d 309 Q 84 [x0, x1, x2, some w, x4, x5] (st) h = mv_i w (mw d 309 Q 85 [x0, x1, x2, some w, x4, x5] (w :: st) h) := (mw_at mj_309_84).trans (z_iload_n rfl)
theorem mj_309_85 : mc_P 309 85 = some (.invokevirtual 234, 3, 307, 14, 3) := by decide +kernel
theorem s_309_85 {x0 x1 x2 x3 x4 x5 : Option Value} {o : Nat} {a1 a2 : Value} : mw (d + 1) 309 Q 85 [x0, x1, x2, x3, x4, x5] (a2 :: a1 :: .ref o :: st) h = (mg h o 14 ∧ mca st 8 ∧ mca [.ref o, a1, a2] 6 ∧ mcall d 307 [.ref o, a1, a2] h (mK (d + 1) 309 Q 88 [x0, x1, x2, x3, x4, x5] st)) := (mw_at mj_309_85).trans ((z_invv (As := [a1, a2]) (by decide) rfl rfl).trans (congrArg (And _) (congrArg (And _) (mC_nl nl_307))))
theorem mj_309_88 : mc_P 309 88 = some (.istore 4, 2, 0, 0, 0) := by decide +kernel
theorem s_309_88 {x0 x1 x2 x3 x4 x5 : Option Value} {w : Int32} : mw d 309 Q 88 [x0, x1, x2, x3, x4, x5] (.int w :: st) h = mw d 309 Q 90 [x0, x1, x2, mk2 x3, some (.int w), x5] (st) h := (mw_at mj_309_88).trans (z_istore (Nat.le_of_ble_eq_true rfl) (me_s1_mk (j := 3) (w := x3) rfl))
theorem mj_309_90 : mc_P 309 90 = some (.goto 330, 3, 0, 0, 0) := by decide +kernel
theorem s_309_90 {x0 x1 x2 x3 x4 x5 : Option Value} : mw d 309 Q 90 [x0, x1, x2, x3, x4, x5] (st) h = mw d 309 Q 420 [x0, x1, x2, x3, x4, x5] (st) h := (mw_at mj_309_90).trans (z_goto (by decide))
theorem mj_309_93 : mc_P 309 93 = some (.iload 5, 2, 0, 0, 0) := by decide +kernel
theorem s_309_93 {x0 x1 x2 x3 x4 : Option Value} {w : Value} : mw d 309 Q 93 [x0, x1, x2, x3, x4, some w] (st) h = mv_i w (mw d 309 Q 95 [x0, x1, x2, x3, x4, some w] (w :: st) h) := (mw_at mj_309_93).trans (z_iload rfl)
theorem mj_309_95 : mc_P 309 95 = some (.invokestatic 204, 3, 304, 0, 1) := by decide +kernel
theorem s_309_95 {x0 x1 x2 x3 x4 x5 : Option Value} {a0 : Value} : mw (d + 1) 309 Q 95 [x0, x1, x2, x3, x4, x5] (a0 :: st) h = (mca st 8 ∧ mca [a0] 1 ∧ mcall d 304 [a0] h (mK (d + 1) 309 Q 98 [x0, x1, x2, x3, x4, x5] st)) := (mw_at mj_309_95).trans ((z_invs (As := [a0]) rfl rfl).trans (congrArg (And _) (mC_nl nl_304)))
theorem mj_309_98 : mc_P 309 98 = some (.ifCond .eq 52, 3, 0, 0, 0) := by decide +kernel
theorem s_309_98 {x0 x1 x2 x3 x4 x5 : Option Value} {x : Int32} : mw d 309 Q 98 [x0, x1, x2, x3, x4, x5] (.int x :: st) h = mB (x = 0) (mw d 309 Q) 150 101 [x0, x1, x2, x3, x4, x5] st h := (mw_at mj_309_98).trans (z_if_eq (by decide) rfl)
theorem mj_309_101 : mc_P 309 101 = some (.iload_n 1, 1, 0, 0, 0) := by decide +kernel
theorem s_309_101 {x0 x2 x3 x4 x5 : Option Value} {w : Value} : mw d 309 Q 101 [x0, some w, x2, x3, x4, x5] (st) h = mv_i w (mw d 309 Q 102 [x0, some w, x2, x3, x4, x5] (w :: st) h) := (mw_at mj_309_101).trans (z_iload_n rfl)
theorem mj_309_102 : mc_P 309 102 = some (.iload_n 3, 1, 0, 0, 0) := by decide +kernel
theorem s_309_102 {x0 x1 x2 x4 x5 : Option Value} {w : Value} : mw d 309 Q 102 [x0, x1, x2, some w, x4, x5] (st) h = mv_i w (mw d 309 Q 103 [x0, x1, x2, some w, x4, x5] (w :: st) h) := (mw_at mj_309_102).trans (z_iload_n rfl)
theorem mj_309_103 : mc_P 309 103 = some (.iadd, 1, 0, 0, 0) := by decide +kernel
theorem s_309_103 {x0 x1 x2 x3 x4 x5 : Option Value} {x w : Int32} : mw d 309 Q 103 [x0, x1, x2, x3, x4, x5] (.int w :: .int x :: st) h = mw d 309 Q 104 [x0, x1, x2, x3, x4, x5] (.int (x + w) :: st) h := (mw_at mj_309_103).trans (z_iadd)
theorem mj_309_104 : mc_P 309 104 = some (.aload_n 0, 1, 0, 0, 0) := by decide +kernel
theorem s_309_104 {x1 x2 x3 x4 x5 : Option Value} {w : Value} : mw d 309 Q 104 [some w, x1, x2, x3, x4, x5] (st) h = mv_a w (mw d 309 Q 105 [some w, x1, x2, x3, x4, x5] (w :: st) h) := (mw_at mj_309_104).trans (z_aload_n rfl)
theorem mj_309_105 : mc_P 309 105 = some (.getfield 197, 3, 14, 3, 0) := by decide +kernel
theorem s_309_105 {x0 x1 x2 x3 x4 x5 : Option Value} {o : Nat} : mw d 309 Q 105 [x0, x1, x2, x3, x4, x5] (.ref o :: st) h = (mg h o 14 ∧ mw d 309 Q 108 [x0, x1, x2, x3, x4, x5] (.int (mh_i h o 3) :: st) h) := (mw_at mj_309_105).trans (z_geti (by decide) (by decide) (Or.inl rfl))
theorem mj_309_108 : mc_P 309 108 = some (.if_icmp .ge 23, 3, 0, 0, 0) := by decide +kernel
theorem s_309_108 {x0 x1 x2 x3 x4 x5 : Option Value} {x w : Int32} : mw d 309 Q 108 [x0, x1, x2, x3, x4, x5] (.int w :: .int x :: st) h = mB (w ≤ x) (mw d 309 Q) 131 111 [x0, x1, x2, x3, x4, x5] st h := (mw_at mj_309_108).trans (z_icmp_ge (by decide) rfl)
theorem mj_309_111 : mc_P 309 111 = some (.aload_n 0, 1, 0, 0, 0) := by decide +kernel
theorem s_309_111 {x1 x2 x3 x4 x5 : Option Value} {w : Value} : mw d 309 Q 111 [some w, x1, x2, x3, x4, x5] (st) h = mv_a w (mw d 309 Q 112 [some w, x1, x2, x3, x4, x5] (w :: st) h) := (mw_at mj_309_111).trans (z_aload_n rfl)
theorem mj_309_112 : mc_P 309 112 = some (.getfield 9, 3, 14, 1, 0) := by decide +kernel
theorem s_309_112 {x0 x1 x2 x3 x4 x5 : Option Value} {o : Nat} : mw d 309 Q 112 [x0, x1, x2, x3, x4, x5] (.ref o :: st) h = (mg h o 14 ∧ mw d 309 Q 115 [x0, x1, x2, x3, x4, x5] (va_rf (mh_r h o 1) :: st) h) := (mw_at mj_309_112).trans (z_getr (by decide) (by decide) rfl)
theorem mj_309_115 : mc_P 309 115 = some (.iload_n 1, 1, 0, 0, 0) := by decide +kernel
theorem s_309_115 {x0 x2 x3 x4 x5 : Option Value} {w : Value} : mw d 309 Q 115 [x0, some w, x2, x3, x4, x5] (st) h = mv_i w (mw d 309 Q 116 [x0, some w, x2, x3, x4, x5] (w :: st) h) := (mw_at mj_309_115).trans (z_iload_n rfl)
theorem mj_309_116 : mc_P 309 116 = some (.iload_n 3, 1, 0, 0, 0) := by decide +kernel
theorem s_309_116 {x0 x1 x2 x4 x5 : Option Value} {w : Value} : mw d 309 Q 116 [x0, x1, x2, some w, x4, x5] (st) h = mv_i w (mw d 309 Q 117 [x0, x1, x2, some w, x4, x5] (w :: st) h) := (mw_at mj_309_116).trans (z_iload_n rfl)
theorem mj_309_117 : mc_P 309 117 = some (.iadd, 1, 0, 0, 0) := by decide +kernel
theorem s_309_117 {x0 x1 x2 x3 x4 x5 : Option Value} {x w : Int32} : mw d 309 Q 117 [x0, x1, x2, x3, x4, x5] (.int w :: .int x :: st) h = mw d 309 Q 118 [x0, x1, x2, x3, x4, x5] (.int (x + w) :: st) h := (mw_at mj_309_117).trans (z_iadd)
theorem mj_309_118 : mc_P 309 118 = some (.iaload, 1, 0, 0, 0) := by decide +kernel
theorem s_309_118 {x0 x1 x2 x3 x4 x5 : Option Value} {o : Nat} {i : Int32} : mw d 309 Q 118 [x0, x1, x2, x3, x4, x5] (.int i :: .ref o :: st) h = (mg h o 100 ∧ mx i (mh_l h o) ∧ mw d 309 Q 119 [x0, x1, x2, x3, x4, x5] (.int (mh_i h o i.toNatClampNeg) :: st) h) := (mw_at mj_309_118).trans (z_iald)
theorem mj_309_119 : mc_P 309 119 = some (.invokestatic 204, 3, 304, 0, 1) := by decide +kernel
theorem s_309_119 {x0 x1 x2 x3 x4 x5 : Option Value} {a0 : Value} : mw (d + 1) 309 Q 119 [x0, x1, x2, x3, x4, x5] (a0 :: st) h = (mca st 8 ∧ mca [a0] 1 ∧ mcall d 304 [a0] h (mK (d + 1) 309 Q 122 [x0, x1, x2, x3, x4, x5] st)) := (mw_at mj_309_119).trans ((z_invs (As := [a0]) rfl rfl).trans (congrArg (And _) (mC_nl nl_304)))
theorem mj_309_122 : mc_P 309 122 = some (.ifCond .eq 9, 3, 0, 0, 0) := by decide +kernel
theorem s_309_122 {x0 x1 x2 x3 x4 x5 : Option Value} {x : Int32} : mw d 309 Q 122 [x0, x1, x2, x3, x4, x5] (.int x :: st) h = mB (x = 0) (mw d 309 Q) 131 125 [x0, x1, x2, x3, x4, x5] st h := (mw_at mj_309_122).trans (z_if_eq (by decide) rfl)
theorem mj_309_125 : mc_P 309 125 = some (.iinc 3 1, 3, 0, 0, 0) := by decide +kernel
theorem s_309_125 {x0 x1 x2 x4 x5 : Option Value} {w : Int32} : mw d 309 Q 125 [x0, x1, x2, some (.int w), x4, x5] (st) h = mw d 309 Q 128 [x0, x1, mk2 x2, some (.int (w + 1)), x4, x5] (st) h := (mw_at mj_309_125).trans (z_iinc rfl (Nat.le_of_ble_eq_true rfl) (by decide) (me_s1_mk (j := 2) (w := x2) rfl))
theorem mj_309_128 : mc_P 309 128 = some (.goto (-27), 3, 0, 0, 0) := by decide +kernel
theorem s_309_128 {x0 x1 x2 x3 x4 x5 : Option Value} : mw d 309 Q 128 [x0, x1, x2, x3, x4, x5] (st) h = mw d 309 Q 101 [x0, x1, x2, x3, x4, x5] (st) h := (mw_at mj_309_128).trans (z_goto (by decide))
theorem mj_309_131 : mc_P 309 131 = some (.aload_n 0, 1, 0, 0, 0) := by decide +kernel
theorem s_309_131 {x1 x2 x3 x4 x5 : Option Value} {w : Value} : mw d 309 Q 131 [some w, x1, x2, x3, x4, x5] (st) h = mv_a w (mw d 309 Q 132 [some w, x1, x2, x3, x4, x5] (w :: st) h) := (mw_at mj_309_131).trans (z_aload_n rfl)
theorem mj_309_132 : mc_P 309 132 = some (.iload_n 1, 1, 0, 0, 0) := by decide +kernel
theorem s_309_132 {x0 x2 x3 x4 x5 : Option Value} {w : Value} : mw d 309 Q 132 [x0, some w, x2, x3, x4, x5] (st) h = mv_i w (mw d 309 Q 133 [x0, some w, x2, x3, x4, x5] (w :: st) h) := (mw_at mj_309_132).trans (z_iload_n rfl)
theorem mj_309_133 : mc_P 309 133 = some (.iload_n 3, 1, 0, 0, 0) := by decide +kernel
theorem s_309_133 {x0 x1 x2 x4 x5 : Option Value} {w : Value} : mw d 309 Q 133 [x0, x1, x2, some w, x4, x5] (st) h = mv_i w (mw d 309 Q 134 [x0, x1, x2, some w, x4, x5] (w :: st) h) := (mw_at mj_309_133).trans (z_iload_n rfl)
theorem mj_309_134 : mc_P 309 134 = some (.invokevirtual 238, 3, 308, 14, 3) := by decide +kernel
theorem s_309_134 {x0 x1 x2 x3 x4 x5 : Option Value} {o : Nat} {a1 a2 : Value} : mw (d + 1) 309 Q 134 [x0, x1, x2, x3, x4, x5] (a2 :: a1 :: .ref o :: st) h = (mg h o 14 ∧ mca st 8 ∧ mca [.ref o, a1, a2] 6 ∧ mcall d 308 [.ref o, a1, a2] h (mK (d + 1) 309 Q 137 [x0, x1, x2, x3, x4, x5] st)) := (mw_at mj_309_134).trans ((z_invv (As := [a1, a2]) (by decide) rfl rfl).trans (congrArg (And _) (congrArg (And _) (mC_nl nl_308))))
theorem mj_309_137 : mc_P 309 137 = some (.ifCond .eq 7, 3, 0, 0, 0) := by decide +kernel
theorem s_309_137 {x0 x1 x2 x3 x4 x5 : Option Value} {x : Int32} : mw d 309 Q 137 [x0, x1, x2, x3, x4, x5] (.int x :: st) h = mB (x = 0) (mw d 309 Q) 144 140 [x0, x1, x2, x3, x4, x5] st h := (mw_at mj_309_137).trans (z_if_eq (by decide) rfl)
theorem mj_309_140 : mc_P 309 140 = some (.iconst 3, 1, 0, 0, 0) := by decide +kernel
theorem s_309_140 {x0 x1 x2 x3 x4 x5 : Option Value} : mw d 309 Q 140 [x0, x1, x2, x3, x4, x5] (st) h = mw d 309 Q 141 [x0, x1, x2, x3, x4, x5] (.int 3 :: st) h := (mw_at mj_309_140).trans (z_iconst (by decide))
theorem mj_309_141 : mc_P 309 141 = some (.goto 4, 3, 0, 0, 0) := by decide +kernel
theorem s_309_141 {x0 x1 x2 x3 x4 x5 : Option Value} : mw d 309 Q 141 [x0, x1, x2, x3, x4, x5] (st) h = mw d 309 Q 145 [x0, x1, x2, x3, x4, x5] (st) h := (mw_at mj_309_141).trans (z_goto (by decide))
theorem mj_309_144 : mc_P 309 144 = some (.iconst 1, 1, 0, 0, 0) := by decide +kernel
theorem s_309_144 {x0 x1 x2 x3 x4 x5 : Option Value} : mw d 309 Q 144 [x0, x1, x2, x3, x4, x5] (st) h = mw d 309 Q 145 [x0, x1, x2, x3, x4, x5] (.int 1 :: st) h := (mw_at mj_309_144).trans (z_iconst (by decide))
theorem mj_309_145 : mc_P 309 145 = some (.istore 4, 2, 0, 0, 0) := by decide +kernel
theorem s_309_145 {x0 x1 x2 x3 x4 x5 : Option Value} {w : Int32} : mw d 309 Q 145 [x0, x1, x2, x3, x4, x5] (.int w :: st) h = mw d 309 Q 147 [x0, x1, x2, mk2 x3, some (.int w), x5] (st) h := (mw_at mj_309_145).trans (z_istore (Nat.le_of_ble_eq_true rfl) (me_s1_mk (j := 3) (w := x3) rfl))
theorem mj_309_147 : mc_P 309 147 = some (.goto 273, 3, 0, 0, 0) := by decide +kernel
theorem s_309_147 {x0 x1 x2 x3 x4 x5 : Option Value} : mw d 309 Q 147 [x0, x1, x2, x3, x4, x5] (st) h = mw d 309 Q 420 [x0, x1, x2, x3, x4, x5] (st) h := (mw_at mj_309_147).trans (z_goto (by decide))
theorem mj_309_150 : mc_P 309 150 = some (.aload_n 0, 1, 0, 0, 0) := by decide +kernel
theorem s_309_150 {x1 x2 x3 x4 x5 : Option Value} {w : Value} : mw d 309 Q 150 [some w, x1, x2, x3, x4, x5] (st) h = mv_a w (mw d 309 Q 151 [some w, x1, x2, x3, x4, x5] (w :: st) h) := (mw_at mj_309_150).trans (z_aload_n rfl)
theorem mj_309_151 : mc_P 309 151 = some (.iload_n 1, 1, 0, 0, 0) := by decide +kernel
theorem s_309_151 {x0 x2 x3 x4 x5 : Option Value} {w : Value} : mw d 309 Q 151 [x0, some w, x2, x3, x4, x5] (st) h = mv_i w (mw d 309 Q 152 [x0, some w, x2, x3, x4, x5] (w :: st) h) := (mw_at mj_309_151).trans (z_iload_n rfl)
theorem mj_309_152 : mc_P 309 152 = some (.bipush 60, 2, 0, 0, 0) := by decide +kernel
theorem s_309_152 {x0 x1 x2 x3 x4 x5 : Option Value} : mw d 309 Q 152 [x0, x1, x2, x3, x4, x5] (st) h = mw d 309 Q 154 [x0, x1, x2, x3, x4, x5] (.int 60 :: st) h := (mw_at mj_309_152).trans (z_bipush (by decide))
theorem mj_309_154 : mc_P 309 154 = some (.bipush 61, 2, 0, 0, 0) := by decide +kernel
theorem s_309_154 {x0 x1 x2 x3 x4 x5 : Option Value} : mw d 309 Q 154 [x0, x1, x2, x3, x4, x5] (st) h = mw d 309 Q 156 [x0, x1, x2, x3, x4, x5] (.int 61 :: st) h := (mw_at mj_309_154).trans (z_bipush (by decide))
theorem mj_309_156 : mc_P 309 156 = some (.invokevirtual 207, 3, 302, 14, 4) := by decide +kernel
theorem s_309_156 {x0 x1 x2 x3 x4 x5 : Option Value} {o : Nat} {a1 a2 a3 : Value} : mw (d + 1) 309 Q 156 [x0, x1, x2, x3, x4, x5] (a3 :: a2 :: a1 :: .ref o :: st) h = (mg h o 14 ∧ mca st 8 ∧ mca [.ref o, a1, a2, a3] 4 ∧ mcall d 302 [.ref o, a1, a2, a3] h (mK (d + 1) 309 Q 159 [x0, x1, x2, x3, x4, x5] st)) := (mw_at mj_309_156).trans ((z_invv (As := [a1, a2, a3]) (by decide) rfl rfl).trans (congrArg (And _) (congrArg (And _) (mC_nl nl_302))))
theorem mj_309_159 : mc_P 309 159 = some (.ifCond .ne 63, 3, 0, 0, 0) := by decide +kernel
theorem s_309_159 {x0 x1 x2 x3 x4 x5 : Option Value} {x : Int32} : mw d 309 Q 159 [x0, x1, x2, x3, x4, x5] (.int x :: st) h = mB (¬ x = 0) (mw d 309 Q) 222 162 [x0, x1, x2, x3, x4, x5] st h := (mw_at mj_309_159).trans (z_if_ne (by decide) rfl)
theorem mj_309_162 : mc_P 309 162 = some (.aload_n 0, 1, 0, 0, 0) := by decide +kernel
theorem s_309_162 {x1 x2 x3 x4 x5 : Option Value} {w : Value} : mw d 309 Q 162 [some w, x1, x2, x3, x4, x5] (st) h = mv_a w (mw d 309 Q 163 [some w, x1, x2, x3, x4, x5] (w :: st) h) := (mw_at mj_309_162).trans (z_aload_n rfl)
theorem mj_309_163 : mc_P 309 163 = some (.iload_n 1, 1, 0, 0, 0) := by decide +kernel
theorem s_309_163 {x0 x2 x3 x4 x5 : Option Value} {w : Value} : mw d 309 Q 163 [x0, some w, x2, x3, x4, x5] (st) h = mv_i w (mw d 309 Q 164 [x0, some w, x2, x3, x4, x5] (w :: st) h) := (mw_at mj_309_163).trans (z_iload_n rfl)
theorem mj_309_164 : mc_P 309 164 = some (.bipush 62, 2, 0, 0, 0) := by decide +kernel
theorem s_309_164 {x0 x1 x2 x3 x4 x5 : Option Value} : mw d 309 Q 164 [x0, x1, x2, x3, x4, x5] (st) h = mw d 309 Q 166 [x0, x1, x2, x3, x4, x5] (.int 62 :: st) h := (mw_at mj_309_164).trans (z_bipush (by decide))
theorem mj_309_166 : mc_P 309 166 = some (.bipush 61, 2, 0, 0, 0) := by decide +kernel
theorem s_309_166 {x0 x1 x2 x3 x4 x5 : Option Value} : mw d 309 Q 166 [x0, x1, x2, x3, x4, x5] (st) h = mw d 309 Q 168 [x0, x1, x2, x3, x4, x5] (.int 61 :: st) h := (mw_at mj_309_166).trans (z_bipush (by decide))
theorem mj_309_168 : mc_P 309 168 = some (.invokevirtual 207, 3, 302, 14, 4) := by decide +kernel
theorem s_309_168 {x0 x1 x2 x3 x4 x5 : Option Value} {o : Nat} {a1 a2 a3 : Value} : mw (d + 1) 309 Q 168 [x0, x1, x2, x3, x4, x5] (a3 :: a2 :: a1 :: .ref o :: st) h = (mg h o 14 ∧ mca st 8 ∧ mca [.ref o, a1, a2, a3] 4 ∧ mcall d 302 [.ref o, a1, a2, a3] h (mK (d + 1) 309 Q 171 [x0, x1, x2, x3, x4, x5] st)) := (mw_at mj_309_168).trans ((z_invv (As := [a1, a2, a3]) (by decide) rfl rfl).trans (congrArg (And _) (congrArg (And _) (mC_nl nl_302))))
theorem mj_309_171 : mc_P 309 171 = some (.ifCond .ne 51, 3, 0, 0, 0) := by decide +kernel
theorem s_309_171 {x0 x1 x2 x3 x4 x5 : Option Value} {x : Int32} : mw d 309 Q 171 [x0, x1, x2, x3, x4, x5] (.int x :: st) h = mB (¬ x = 0) (mw d 309 Q) 222 174 [x0, x1, x2, x3, x4, x5] st h := (mw_at mj_309_171).trans (z_if_ne (by decide) rfl)
theorem mj_309_174 : mc_P 309 174 = some (.aload_n 0, 1, 0, 0, 0) := by decide +kernel
theorem s_309_174 {x1 x2 x3 x4 x5 : Option Value} {w : Value} : mw d 309 Q 174 [some w, x1, x2, x3, x4, x5] (st) h = mv_a w (mw d 309 Q 175 [some w, x1, x2, x3, x4, x5] (w :: st) h) := (mw_at mj_309_174).trans (z_aload_n rfl)
theorem mj_309_175 : mc_P 309 175 = some (.iload_n 1, 1, 0, 0, 0) := by decide +kernel
theorem s_309_175 {x0 x2 x3 x4 x5 : Option Value} {w : Value} : mw d 309 Q 175 [x0, some w, x2, x3, x4, x5] (st) h = mv_i w (mw d 309 Q 176 [x0, some w, x2, x3, x4, x5] (w :: st) h) := (mw_at mj_309_175).trans (z_iload_n rfl)
theorem mj_309_176 : mc_P 309 176 = some (.bipush 61, 2, 0, 0, 0) := by decide +kernel
theorem s_309_176 {x0 x1 x2 x3 x4 x5 : Option Value} : mw d 309 Q 176 [x0, x1, x2, x3, x4, x5] (st) h = mw d 309 Q 178 [x0, x1, x2, x3, x4, x5] (.int 61 :: st) h := (mw_at mj_309_176).trans (z_bipush (by decide))
theorem mj_309_178 : mc_P 309 178 = some (.bipush 61, 2, 0, 0, 0) := by decide +kernel
theorem s_309_178 {x0 x1 x2 x3 x4 x5 : Option Value} : mw d 309 Q 178 [x0, x1, x2, x3, x4, x5] (st) h = mw d 309 Q 180 [x0, x1, x2, x3, x4, x5] (.int 61 :: st) h := (mw_at mj_309_178).trans (z_bipush (by decide))
theorem mj_309_180 : mc_P 309 180 = some (.invokevirtual 207, 3, 302, 14, 4) := by decide +kernel
theorem s_309_180 {x0 x1 x2 x3 x4 x5 : Option Value} {o : Nat} {a1 a2 a3 : Value} : mw (d + 1) 309 Q 180 [x0, x1, x2, x3, x4, x5] (a3 :: a2 :: a1 :: .ref o :: st) h = (mg h o 14 ∧ mca st 8 ∧ mca [.ref o, a1, a2, a3] 4 ∧ mcall d 302 [.ref o, a1, a2, a3] h (mK (d + 1) 309 Q 183 [x0, x1, x2, x3, x4, x5] st)) := (mw_at mj_309_180).trans ((z_invv (As := [a1, a2, a3]) (by decide) rfl rfl).trans (congrArg (And _) (congrArg (And _) (mC_nl nl_302))))
theorem mj_309_183 : mc_P 309 183 = some (.ifCond .ne 39, 3, 0, 0, 0) := by decide +kernel
theorem s_309_183 {x0 x1 x2 x3 x4 x5 : Option Value} {x : Int32} : mw d 309 Q 183 [x0, x1, x2, x3, x4, x5] (.int x :: st) h = mB (¬ x = 0) (mw d 309 Q) 222 186 [x0, x1, x2, x3, x4, x5] st h := (mw_at mj_309_183).trans (z_if_ne (by decide) rfl)
theorem mj_309_186 : mc_P 309 186 = some (.aload_n 0, 1, 0, 0, 0) := by decide +kernel
theorem s_309_186 {x1 x2 x3 x4 x5 : Option Value} {w : Value} : mw d 309 Q 186 [some w, x1, x2, x3, x4, x5] (st) h = mv_a w (mw d 309 Q 187 [some w, x1, x2, x3, x4, x5] (w :: st) h) := (mw_at mj_309_186).trans (z_aload_n rfl)
theorem mj_309_187 : mc_P 309 187 = some (.iload_n 1, 1, 0, 0, 0) := by decide +kernel
theorem s_309_187 {x0 x2 x3 x4 x5 : Option Value} {w : Value} : mw d 309 Q 187 [x0, some w, x2, x3, x4, x5] (st) h = mv_i w (mw d 309 Q 188 [x0, some w, x2, x3, x4, x5] (w :: st) h) := (mw_at mj_309_187).trans (z_iload_n rfl)
theorem mj_309_188 : mc_P 309 188 = some (.bipush 33, 2, 0, 0, 0) := by decide +kernel
theorem s_309_188 {x0 x1 x2 x3 x4 x5 : Option Value} : mw d 309 Q 188 [x0, x1, x2, x3, x4, x5] (st) h = mw d 309 Q 190 [x0, x1, x2, x3, x4, x5] (.int 33 :: st) h := (mw_at mj_309_188).trans (z_bipush (by decide))
theorem mj_309_190 : mc_P 309 190 = some (.bipush 61, 2, 0, 0, 0) := by decide +kernel
theorem s_309_190 {x0 x1 x2 x3 x4 x5 : Option Value} : mw d 309 Q 190 [x0, x1, x2, x3, x4, x5] (st) h = mw d 309 Q 192 [x0, x1, x2, x3, x4, x5] (.int 61 :: st) h := (mw_at mj_309_190).trans (z_bipush (by decide))
theorem mj_309_192 : mc_P 309 192 = some (.invokevirtual 207, 3, 302, 14, 4) := by decide +kernel
theorem s_309_192 {x0 x1 x2 x3 x4 x5 : Option Value} {o : Nat} {a1 a2 a3 : Value} : mw (d + 1) 309 Q 192 [x0, x1, x2, x3, x4, x5] (a3 :: a2 :: a1 :: .ref o :: st) h = (mg h o 14 ∧ mca st 8 ∧ mca [.ref o, a1, a2, a3] 4 ∧ mcall d 302 [.ref o, a1, a2, a3] h (mK (d + 1) 309 Q 195 [x0, x1, x2, x3, x4, x5] st)) := (mw_at mj_309_192).trans ((z_invv (As := [a1, a2, a3]) (by decide) rfl rfl).trans (congrArg (And _) (congrArg (And _) (mC_nl nl_302))))
theorem mj_309_195 : mc_P 309 195 = some (.ifCond .ne 27, 3, 0, 0, 0) := by decide +kernel
theorem s_309_195 {x0 x1 x2 x3 x4 x5 : Option Value} {x : Int32} : mw d 309 Q 195 [x0, x1, x2, x3, x4, x5] (.int x :: st) h = mB (¬ x = 0) (mw d 309 Q) 222 198 [x0, x1, x2, x3, x4, x5] st h := (mw_at mj_309_195).trans (z_if_ne (by decide) rfl)
theorem mj_309_198 : mc_P 309 198 = some (.aload_n 0, 1, 0, 0, 0) := by decide +kernel
theorem s_309_198 {x1 x2 x3 x4 x5 : Option Value} {w : Value} : mw d 309 Q 198 [some w, x1, x2, x3, x4, x5] (st) h = mv_a w (mw d 309 Q 199 [some w, x1, x2, x3, x4, x5] (w :: st) h) := (mw_at mj_309_198).trans (z_aload_n rfl)
theorem mj_309_199 : mc_P 309 199 = some (.iload_n 1, 1, 0, 0, 0) := by decide +kernel
theorem s_309_199 {x0 x2 x3 x4 x5 : Option Value} {w : Value} : mw d 309 Q 199 [x0, some w, x2, x3, x4, x5] (st) h = mv_i w (mw d 309 Q 200 [x0, some w, x2, x3, x4, x5] (w :: st) h) := (mw_at mj_309_199).trans (z_iload_n rfl)
theorem mj_309_200 : mc_P 309 200 = some (.bipush 38, 2, 0, 0, 0) := by decide +kernel
theorem s_309_200 {x0 x1 x2 x3 x4 x5 : Option Value} : mw d 309 Q 200 [x0, x1, x2, x3, x4, x5] (st) h = mw d 309 Q 202 [x0, x1, x2, x3, x4, x5] (.int 38 :: st) h := (mw_at mj_309_200).trans (z_bipush (by decide))
theorem mj_309_202 : mc_P 309 202 = some (.bipush 38, 2, 0, 0, 0) := by decide +kernel
theorem s_309_202 {x0 x1 x2 x3 x4 x5 : Option Value} : mw d 309 Q 202 [x0, x1, x2, x3, x4, x5] (st) h = mw d 309 Q 204 [x0, x1, x2, x3, x4, x5] (.int 38 :: st) h := (mw_at mj_309_202).trans (z_bipush (by decide))
theorem mj_309_204 : mc_P 309 204 = some (.invokevirtual 207, 3, 302, 14, 4) := by decide +kernel
theorem s_309_204 {x0 x1 x2 x3 x4 x5 : Option Value} {o : Nat} {a1 a2 a3 : Value} : mw (d + 1) 309 Q 204 [x0, x1, x2, x3, x4, x5] (a3 :: a2 :: a1 :: .ref o :: st) h = (mg h o 14 ∧ mca st 8 ∧ mca [.ref o, a1, a2, a3] 4 ∧ mcall d 302 [.ref o, a1, a2, a3] h (mK (d + 1) 309 Q 207 [x0, x1, x2, x3, x4, x5] st)) := (mw_at mj_309_204).trans ((z_invv (As := [a1, a2, a3]) (by decide) rfl rfl).trans (congrArg (And _) (congrArg (And _) (mC_nl nl_302))))
theorem mj_309_207 : mc_P 309 207 = some (.ifCond .ne 15, 3, 0, 0, 0) := by decide +kernel
theorem s_309_207 {x0 x1 x2 x3 x4 x5 : Option Value} {x : Int32} : mw d 309 Q 207 [x0, x1, x2, x3, x4, x5] (.int x :: st) h = mB (¬ x = 0) (mw d 309 Q) 222 210 [x0, x1, x2, x3, x4, x5] st h := (mw_at mj_309_207).trans (z_if_ne (by decide) rfl)
theorem mj_309_210 : mc_P 309 210 = some (.aload_n 0, 1, 0, 0, 0) := by decide +kernel
theorem s_309_210 {x1 x2 x3 x4 x5 : Option Value} {w : Value} : mw d 309 Q 210 [some w, x1, x2, x3, x4, x5] (st) h = mv_a w (mw d 309 Q 211 [some w, x1, x2, x3, x4, x5] (w :: st) h) := (mw_at mj_309_210).trans (z_aload_n rfl)
theorem mj_309_211 : mc_P 309 211 = some (.iload_n 1, 1, 0, 0, 0) := by decide +kernel
theorem s_309_211 {x0 x2 x3 x4 x5 : Option Value} {w : Value} : mw d 309 Q 211 [x0, some w, x2, x3, x4, x5] (st) h = mv_i w (mw d 309 Q 212 [x0, some w, x2, x3, x4, x5] (w :: st) h) := (mw_at mj_309_211).trans (z_iload_n rfl)
theorem mj_309_212 : mc_P 309 212 = some (.bipush 124, 2, 0, 0, 0) := by decide +kernel
theorem s_309_212 {x0 x1 x2 x3 x4 x5 : Option Value} : mw d 309 Q 212 [x0, x1, x2, x3, x4, x5] (st) h = mw d 309 Q 214 [x0, x1, x2, x3, x4, x5] (.int 124 :: st) h := (mw_at mj_309_212).trans (z_bipush (by decide))
theorem mj_309_214 : mc_P 309 214 = some (.bipush 124, 2, 0, 0, 0) := by decide +kernel
theorem s_309_214 {x0 x1 x2 x3 x4 x5 : Option Value} : mw d 309 Q 214 [x0, x1, x2, x3, x4, x5] (st) h = mw d 309 Q 216 [x0, x1, x2, x3, x4, x5] (.int 124 :: st) h := (mw_at mj_309_214).trans (z_bipush (by decide))
theorem mj_309_216 : mc_P 309 216 = some (.invokevirtual 207, 3, 302, 14, 4) := by decide +kernel
theorem s_309_216 {x0 x1 x2 x3 x4 x5 : Option Value} {o : Nat} {a1 a2 a3 : Value} : mw (d + 1) 309 Q 216 [x0, x1, x2, x3, x4, x5] (a3 :: a2 :: a1 :: .ref o :: st) h = (mg h o 14 ∧ mca st 8 ∧ mca [.ref o, a1, a2, a3] 4 ∧ mcall d 302 [.ref o, a1, a2, a3] h (mK (d + 1) 309 Q 219 [x0, x1, x2, x3, x4, x5] st)) := (mw_at mj_309_216).trans ((z_invv (As := [a1, a2, a3]) (by decide) rfl rfl).trans (congrArg (And _) (congrArg (And _) (mC_nl nl_302))))
theorem mj_309_219 : mc_P 309 219 = some (.ifCond .eq 78, 3, 0, 0, 0) := by decide +kernel
theorem s_309_219 {x0 x1 x2 x3 x4 x5 : Option Value} {x : Int32} : mw d 309 Q 219 [x0, x1, x2, x3, x4, x5] (.int x :: st) h = mB (x = 0) (mw d 309 Q) 297 222 [x0, x1, x2, x3, x4, x5] st h := (mw_at mj_309_219).trans (z_if_eq (by decide) rfl)
theorem mj_309_222 : mc_P 309 222 = some (.iconst 2, 1, 0, 0, 0) := by decide +kernel
theorem s_309_222 {x0 x1 x2 x3 x4 x5 : Option Value} : mw d 309 Q 222 [x0, x1, x2, x3, x4, x5] (st) h = mw d 309 Q 223 [x0, x1, x2, x3, x4, x5] (.int 2 :: st) h := (mw_at mj_309_222).trans (z_iconst (by decide))
theorem mj_309_223 : mc_P 309 223 = some (.istore_n 3, 1, 0, 0, 0) := by decide +kernel
theorem s_309_223 {x0 x1 x2 x3 x4 x5 : Option Value} {w : Int32} : mw d 309 Q 223 [x0, x1, x2, x3, x4, x5] (.int w :: st) h = mw d 309 Q 224 [x0, x1, mk2 x2, some (.int w), x4, x5] (st) h := (mw_at mj_309_223).trans (z_istore_n (Nat.le_of_ble_eq_true rfl) (me_s1_mk (j := 2) (w := x2) rfl))
theorem mj_309_224 : mc_P 309 224 = some (.iload 5, 2, 0, 0, 0) := by decide +kernel
theorem s_309_224 {x0 x1 x2 x3 x4 : Option Value} {w : Value} : mw d 309 Q 224 [x0, x1, x2, x3, x4, some w] (st) h = mv_i w (mw d 309 Q 226 [x0, x1, x2, x3, x4, some w] (w :: st) h) := (mw_at mj_309_224).trans (z_iload rfl)
theorem mj_309_226 : mc_P 309 226 = some (.bipush 60, 2, 0, 0, 0) := by decide +kernel
theorem s_309_226 {x0 x1 x2 x3 x4 x5 : Option Value} : mw d 309 Q 226 [x0, x1, x2, x3, x4, x5] (st) h = mw d 309 Q 228 [x0, x1, x2, x3, x4, x5] (.int 60 :: st) h := (mw_at mj_309_226).trans (z_bipush (by decide))
theorem mj_309_228 : mc_P 309 228 = some (.if_icmp .ne 9, 3, 0, 0, 0) := by decide +kernel
theorem s_309_228 {x0 x1 x2 x3 x4 x5 : Option Value} {x w : Int32} : mw d 309 Q 228 [x0, x1, x2, x3, x4, x5] (.int w :: .int x :: st) h = mB (¬ x = w) (mw d 309 Q) 237 231 [x0, x1, x2, x3, x4, x5] st h := (mw_at mj_309_228).trans (z_icmp_ne (by decide) rfl)
theorem mj_309_231 : mc_P 309 231 = some (.sipush 256, 3, 0, 0, 0) := by decide +kernel
theorem s_309_231 {x0 x1 x2 x3 x4 x5 : Option Value} : mw d 309 Q 231 [x0, x1, x2, x3, x4, x5] (st) h = mw d 309 Q 234 [x0, x1, x2, x3, x4, x5] (.int 256 :: st) h := (mw_at mj_309_231).trans (z_sipush (by decide))
theorem mj_309_234 : mc_P 309 234 = some (.goto 58, 3, 0, 0, 0) := by decide +kernel
theorem s_309_234 {x0 x1 x2 x3 x4 x5 : Option Value} : mw d 309 Q 234 [x0, x1, x2, x3, x4, x5] (st) h = mw d 309 Q 292 [x0, x1, x2, x3, x4, x5] (st) h := (mw_at mj_309_234).trans (z_goto (by decide))
theorem mj_309_237 : mc_P 309 237 = some (.iload 5, 2, 0, 0, 0) := by decide +kernel
theorem s_309_237 {x0 x1 x2 x3 x4 : Option Value} {w : Value} : mw d 309 Q 237 [x0, x1, x2, x3, x4, some w] (st) h = mv_i w (mw d 309 Q 239 [x0, x1, x2, x3, x4, some w] (w :: st) h) := (mw_at mj_309_237).trans (z_iload rfl)
theorem mj_309_239 : mc_P 309 239 = some (.bipush 62, 2, 0, 0, 0) := by decide +kernel
theorem s_309_239 {x0 x1 x2 x3 x4 x5 : Option Value} : mw d 309 Q 239 [x0, x1, x2, x3, x4, x5] (st) h = mw d 309 Q 241 [x0, x1, x2, x3, x4, x5] (.int 62 :: st) h := (mw_at mj_309_239).trans (z_bipush (by decide))
theorem mj_309_241 : mc_P 309 241 = some (.if_icmp .ne 9, 3, 0, 0, 0) := by decide +kernel
theorem s_309_241 {x0 x1 x2 x3 x4 x5 : Option Value} {x w : Int32} : mw d 309 Q 241 [x0, x1, x2, x3, x4, x5] (.int w :: .int x :: st) h = mB (¬ x = w) (mw d 309 Q) 250 244 [x0, x1, x2, x3, x4, x5] st h := (mw_at mj_309_241).trans (z_icmp_ne (by decide) rfl)
theorem mj_309_244 : mc_P 309 244 = some (.sipush 257, 3, 0, 0, 0) := by decide +kernel
theorem s_309_244 {x0 x1 x2 x3 x4 x5 : Option Value} : mw d 309 Q 244 [x0, x1, x2, x3, x4, x5] (st) h = mw d 309 Q 247 [x0, x1, x2, x3, x4, x5] (.int 257 :: st) h := (mw_at mj_309_244).trans (z_sipush (by decide))
theorem mj_309_247 : mc_P 309 247 = some (.goto 45, 3, 0, 0, 0) := by decide +kernel
theorem s_309_247 {x0 x1 x2 x3 x4 x5 : Option Value} : mw d 309 Q 247 [x0, x1, x2, x3, x4, x5] (st) h = mw d 309 Q 292 [x0, x1, x2, x3, x4, x5] (st) h := (mw_at mj_309_247).trans (z_goto (by decide))
theorem mj_309_250 : mc_P 309 250 = some (.iload 5, 2, 0, 0, 0) := by decide +kernel
theorem s_309_250 {x0 x1 x2 x3 x4 : Option Value} {w : Value} : mw d 309 Q 250 [x0, x1, x2, x3, x4, some w] (st) h = mv_i w (mw d 309 Q 252 [x0, x1, x2, x3, x4, some w] (w :: st) h) := (mw_at mj_309_250).trans (z_iload rfl)
theorem mj_309_252 : mc_P 309 252 = some (.bipush 61, 2, 0, 0, 0) := by decide +kernel
theorem s_309_252 {x0 x1 x2 x3 x4 x5 : Option Value} : mw d 309 Q 252 [x0, x1, x2, x3, x4, x5] (st) h = mw d 309 Q 254 [x0, x1, x2, x3, x4, x5] (.int 61 :: st) h := (mw_at mj_309_252).trans (z_bipush (by decide))
theorem mj_309_254 : mc_P 309 254 = some (.if_icmp .ne 9, 3, 0, 0, 0) := by decide +kernel
theorem s_309_254 {x0 x1 x2 x3 x4 x5 : Option Value} {x w : Int32} : mw d 309 Q 254 [x0, x1, x2, x3, x4, x5] (.int w :: .int x :: st) h = mB (¬ x = w) (mw d 309 Q) 263 257 [x0, x1, x2, x3, x4, x5] st h := (mw_at mj_309_254).trans (z_icmp_ne (by decide) rfl)
theorem mj_309_257 : mc_P 309 257 = some (.sipush 258, 3, 0, 0, 0) := by decide +kernel
theorem s_309_257 {x0 x1 x2 x3 x4 x5 : Option Value} : mw d 309 Q 257 [x0, x1, x2, x3, x4, x5] (st) h = mw d 309 Q 260 [x0, x1, x2, x3, x4, x5] (.int 258 :: st) h := (mw_at mj_309_257).trans (z_sipush (by decide))
theorem mj_309_260 : mc_P 309 260 = some (.goto 32, 3, 0, 0, 0) := by decide +kernel
theorem s_309_260 {x0 x1 x2 x3 x4 x5 : Option Value} : mw d 309 Q 260 [x0, x1, x2, x3, x4, x5] (st) h = mw d 309 Q 292 [x0, x1, x2, x3, x4, x5] (st) h := (mw_at mj_309_260).trans (z_goto (by decide))
theorem mj_309_263 : mc_P 309 263 = some (.iload 5, 2, 0, 0, 0) := by decide +kernel
theorem s_309_263 {x0 x1 x2 x3 x4 : Option Value} {w : Value} : mw d 309 Q 263 [x0, x1, x2, x3, x4, some w] (st) h = mv_i w (mw d 309 Q 265 [x0, x1, x2, x3, x4, some w] (w :: st) h) := (mw_at mj_309_263).trans (z_iload rfl)
theorem mj_309_265 : mc_P 309 265 = some (.bipush 33, 2, 0, 0, 0) := by decide +kernel
theorem s_309_265 {x0 x1 x2 x3 x4 x5 : Option Value} : mw d 309 Q 265 [x0, x1, x2, x3, x4, x5] (st) h = mw d 309 Q 267 [x0, x1, x2, x3, x4, x5] (.int 33 :: st) h := (mw_at mj_309_265).trans (z_bipush (by decide))
theorem mj_309_267 : mc_P 309 267 = some (.if_icmp .ne 9, 3, 0, 0, 0) := by decide +kernel
theorem s_309_267 {x0 x1 x2 x3 x4 x5 : Option Value} {x w : Int32} : mw d 309 Q 267 [x0, x1, x2, x3, x4, x5] (.int w :: .int x :: st) h = mB (¬ x = w) (mw d 309 Q) 276 270 [x0, x1, x2, x3, x4, x5] st h := (mw_at mj_309_267).trans (z_icmp_ne (by decide) rfl)
theorem mj_309_270 : mc_P 309 270 = some (.sipush 259, 3, 0, 0, 0) := by decide +kernel
theorem s_309_270 {x0 x1 x2 x3 x4 x5 : Option Value} : mw d 309 Q 270 [x0, x1, x2, x3, x4, x5] (st) h = mw d 309 Q 273 [x0, x1, x2, x3, x4, x5] (.int 259 :: st) h := (mw_at mj_309_270).trans (z_sipush (by decide))
theorem mj_309_273 : mc_P 309 273 = some (.goto 19, 3, 0, 0, 0) := by decide +kernel
theorem s_309_273 {x0 x1 x2 x3 x4 x5 : Option Value} : mw d 309 Q 273 [x0, x1, x2, x3, x4, x5] (st) h = mw d 309 Q 292 [x0, x1, x2, x3, x4, x5] (st) h := (mw_at mj_309_273).trans (z_goto (by decide))
theorem mj_309_276 : mc_P 309 276 = some (.iload 5, 2, 0, 0, 0) := by decide +kernel
theorem s_309_276 {x0 x1 x2 x3 x4 : Option Value} {w : Value} : mw d 309 Q 276 [x0, x1, x2, x3, x4, some w] (st) h = mv_i w (mw d 309 Q 278 [x0, x1, x2, x3, x4, some w] (w :: st) h) := (mw_at mj_309_276).trans (z_iload rfl)
theorem mj_309_278 : mc_P 309 278 = some (.bipush 38, 2, 0, 0, 0) := by decide +kernel
theorem s_309_278 {x0 x1 x2 x3 x4 x5 : Option Value} : mw d 309 Q 278 [x0, x1, x2, x3, x4, x5] (st) h = mw d 309 Q 280 [x0, x1, x2, x3, x4, x5] (.int 38 :: st) h := (mw_at mj_309_278).trans (z_bipush (by decide))
theorem mj_309_280 : mc_P 309 280 = some (.if_icmp .ne 9, 3, 0, 0, 0) := by decide +kernel
theorem s_309_280 {x0 x1 x2 x3 x4 x5 : Option Value} {x w : Int32} : mw d 309 Q 280 [x0, x1, x2, x3, x4, x5] (.int w :: .int x :: st) h = mB (¬ x = w) (mw d 309 Q) 289 283 [x0, x1, x2, x3, x4, x5] st h := (mw_at mj_309_280).trans (z_icmp_ne (by decide) rfl)
theorem mj_309_283 : mc_P 309 283 = some (.sipush 260, 3, 0, 0, 0) := by decide +kernel
theorem s_309_283 {x0 x1 x2 x3 x4 x5 : Option Value} : mw d 309 Q 283 [x0, x1, x2, x3, x4, x5] (st) h = mw d 309 Q 286 [x0, x1, x2, x3, x4, x5] (.int 260 :: st) h := (mw_at mj_309_283).trans (z_sipush (by decide))
theorem mj_309_286 : mc_P 309 286 = some (.goto 6, 3, 0, 0, 0) := by decide +kernel
theorem s_309_286 {x0 x1 x2 x3 x4 x5 : Option Value} : mw d 309 Q 286 [x0, x1, x2, x3, x4, x5] (st) h = mw d 309 Q 292 [x0, x1, x2, x3, x4, x5] (st) h := (mw_at mj_309_286).trans (z_goto (by decide))
theorem mj_309_289 : mc_P 309 289 = some (.sipush 261, 3, 0, 0, 0) := by decide +kernel
theorem s_309_289 {x0 x1 x2 x3 x4 x5 : Option Value} : mw d 309 Q 289 [x0, x1, x2, x3, x4, x5] (st) h = mw d 309 Q 292 [x0, x1, x2, x3, x4, x5] (.int 261 :: st) h := (mw_at mj_309_289).trans (z_sipush (by decide))
theorem mj_309_292 : mc_P 309 292 = some (.istore 4, 2, 0, 0, 0) := by decide +kernel
theorem s_309_292 {x0 x1 x2 x3 x4 x5 : Option Value} {w : Int32} : mw d 309 Q 292 [x0, x1, x2, x3, x4, x5] (.int w :: st) h = mw d 309 Q 294 [x0, x1, x2, mk2 x3, some (.int w), x5] (st) h := (mw_at mj_309_292).trans (z_istore (Nat.le_of_ble_eq_true rfl) (me_s1_mk (j := 3) (w := x3) rfl))
theorem mj_309_294 : mc_P 309 294 = some (.goto 126, 3, 0, 0, 0) := by decide +kernel
theorem s_309_294 {x0 x1 x2 x3 x4 x5 : Option Value} : mw d 309 Q 294 [x0, x1, x2, x3, x4, x5] (st) h = mw d 309 Q 420 [x0, x1, x2, x3, x4, x5] (st) h := (mw_at mj_309_294).trans (z_goto (by decide))
theorem mj_309_297 : mc_P 309 297 = some (.iload 5, 2, 0, 0, 0) := by decide +kernel
theorem s_309_297 {x0 x1 x2 x3 x4 : Option Value} {w : Value} : mw d 309 Q 297 [x0, x1, x2, x3, x4, some w] (st) h = mv_i w (mw d 309 Q 299 [x0, x1, x2, x3, x4, some w] (w :: st) h) := (mw_at mj_309_297).trans (z_iload rfl)
theorem mj_309_299 : mc_P 309 299 = some (.bipush 40, 2, 0, 0, 0) := by decide +kernel
theorem s_309_299 {x0 x1 x2 x3 x4 x5 : Option Value} : mw d 309 Q 299 [x0, x1, x2, x3, x4, x5] (st) h = mw d 309 Q 301 [x0, x1, x2, x3, x4, x5] (.int 40 :: st) h := (mw_at mj_309_299).trans (z_bipush (by decide))
theorem mj_309_301 : mc_P 309 301 = some (.if_icmp .eq 115, 3, 0, 0, 0) := by decide +kernel
theorem s_309_301 {x0 x1 x2 x3 x4 x5 : Option Value} {x w : Int32} : mw d 309 Q 301 [x0, x1, x2, x3, x4, x5] (.int w :: .int x :: st) h = mB (x = w) (mw d 309 Q) 416 304 [x0, x1, x2, x3, x4, x5] st h := (mw_at mj_309_301).trans (z_icmp_eq (by decide) rfl)
theorem mj_309_304 : mc_P 309 304 = some (.iload 5, 2, 0, 0, 0) := by decide +kernel
theorem s_309_304 {x0 x1 x2 x3 x4 : Option Value} {w : Value} : mw d 309 Q 304 [x0, x1, x2, x3, x4, some w] (st) h = mv_i w (mw d 309 Q 306 [x0, x1, x2, x3, x4, some w] (w :: st) h) := (mw_at mj_309_304).trans (z_iload rfl)
theorem mj_309_306 : mc_P 309 306 = some (.bipush 41, 2, 0, 0, 0) := by decide +kernel
theorem s_309_306 {x0 x1 x2 x3 x4 x5 : Option Value} : mw d 309 Q 306 [x0, x1, x2, x3, x4, x5] (st) h = mw d 309 Q 308 [x0, x1, x2, x3, x4, x5] (.int 41 :: st) h := (mw_at mj_309_306).trans (z_bipush (by decide))
theorem mj_309_308 : mc_P 309 308 = some (.if_icmp .eq 108, 3, 0, 0, 0) := by decide +kernel
theorem s_309_308 {x0 x1 x2 x3 x4 x5 : Option Value} {x w : Int32} : mw d 309 Q 308 [x0, x1, x2, x3, x4, x5] (.int w :: .int x :: st) h = mB (x = w) (mw d 309 Q) 416 311 [x0, x1, x2, x3, x4, x5] st h := (mw_at mj_309_308).trans (z_icmp_eq (by decide) rfl)
theorem mj_309_311 : mc_P 309 311 = some (.iload 5, 2, 0, 0, 0) := by decide +kernel
theorem s_309_311 {x0 x1 x2 x3 x4 : Option Value} {w : Value} : mw d 309 Q 311 [x0, x1, x2, x3, x4, some w] (st) h = mv_i w (mw d 309 Q 313 [x0, x1, x2, x3, x4, some w] (w :: st) h) := (mw_at mj_309_311).trans (z_iload rfl)
theorem mj_309_313 : mc_P 309 313 = some (.bipush 123, 2, 0, 0, 0) := by decide +kernel
theorem s_309_313 {x0 x1 x2 x3 x4 x5 : Option Value} : mw d 309 Q 313 [x0, x1, x2, x3, x4, x5] (st) h = mw d 309 Q 315 [x0, x1, x2, x3, x4, x5] (.int 123 :: st) h := (mw_at mj_309_313).trans (z_bipush (by decide))
theorem mj_309_315 : mc_P 309 315 = some (.if_icmp .eq 101, 3, 0, 0, 0) := by decide +kernel
theorem s_309_315 {x0 x1 x2 x3 x4 x5 : Option Value} {x w : Int32} : mw d 309 Q 315 [x0, x1, x2, x3, x4, x5] (.int w :: .int x :: st) h = mB (x = w) (mw d 309 Q) 416 318 [x0, x1, x2, x3, x4, x5] st h := (mw_at mj_309_315).trans (z_icmp_eq (by decide) rfl)
theorem mj_309_318 : mc_P 309 318 = some (.iload 5, 2, 0, 0, 0) := by decide +kernel
theorem s_309_318 {x0 x1 x2 x3 x4 : Option Value} {w : Value} : mw d 309 Q 318 [x0, x1, x2, x3, x4, some w] (st) h = mv_i w (mw d 309 Q 320 [x0, x1, x2, x3, x4, some w] (w :: st) h) := (mw_at mj_309_318).trans (z_iload rfl)
theorem mj_309_320 : mc_P 309 320 = some (.bipush 125, 2, 0, 0, 0) := by decide +kernel
theorem s_309_320 {x0 x1 x2 x3 x4 x5 : Option Value} : mw d 309 Q 320 [x0, x1, x2, x3, x4, x5] (st) h = mw d 309 Q 322 [x0, x1, x2, x3, x4, x5] (.int 125 :: st) h := (mw_at mj_309_320).trans (z_bipush (by decide))
theorem mj_309_322 : mc_P 309 322 = some (.if_icmp .eq 94, 3, 0, 0, 0) := by decide +kernel
theorem s_309_322 {x0 x1 x2 x3 x4 x5 : Option Value} {x w : Int32} : mw d 309 Q 322 [x0, x1, x2, x3, x4, x5] (.int w :: .int x :: st) h = mB (x = w) (mw d 309 Q) 416 325 [x0, x1, x2, x3, x4, x5] st h := (mw_at mj_309_322).trans (z_icmp_eq (by decide) rfl)
theorem mj_309_325 : mc_P 309 325 = some (.iload 5, 2, 0, 0, 0) := by decide +kernel
theorem s_309_325 {x0 x1 x2 x3 x4 : Option Value} {w : Value} : mw d 309 Q 325 [x0, x1, x2, x3, x4, some w] (st) h = mv_i w (mw d 309 Q 327 [x0, x1, x2, x3, x4, some w] (w :: st) h) := (mw_at mj_309_325).trans (z_iload rfl)
theorem mj_309_327 : mc_P 309 327 = some (.bipush 91, 2, 0, 0, 0) := by decide +kernel
theorem s_309_327 {x0 x1 x2 x3 x4 x5 : Option Value} : mw d 309 Q 327 [x0, x1, x2, x3, x4, x5] (st) h = mw d 309 Q 329 [x0, x1, x2, x3, x4, x5] (.int 91 :: st) h := (mw_at mj_309_327).trans (z_bipush (by decide))
theorem mj_309_329 : mc_P 309 329 = some (.if_icmp .eq 87, 3, 0, 0, 0) := by decide +kernel
theorem s_309_329 {x0 x1 x2 x3 x4 x5 : Option Value} {x w : Int32} : mw d 309 Q 329 [x0, x1, x2, x3, x4, x5] (.int w :: .int x :: st) h = mB (x = w) (mw d 309 Q) 416 332 [x0, x1, x2, x3, x4, x5] st h := (mw_at mj_309_329).trans (z_icmp_eq (by decide) rfl)
theorem mj_309_332 : mc_P 309 332 = some (.iload 5, 2, 0, 0, 0) := by decide +kernel
theorem s_309_332 {x0 x1 x2 x3 x4 : Option Value} {w : Value} : mw d 309 Q 332 [x0, x1, x2, x3, x4, some w] (st) h = mv_i w (mw d 309 Q 334 [x0, x1, x2, x3, x4, some w] (w :: st) h) := (mw_at mj_309_332).trans (z_iload rfl)
theorem mj_309_334 : mc_P 309 334 = some (.bipush 93, 2, 0, 0, 0) := by decide +kernel
theorem s_309_334 {x0 x1 x2 x3 x4 x5 : Option Value} : mw d 309 Q 334 [x0, x1, x2, x3, x4, x5] (st) h = mw d 309 Q 336 [x0, x1, x2, x3, x4, x5] (.int 93 :: st) h := (mw_at mj_309_334).trans (z_bipush (by decide))
theorem mj_309_336 : mc_P 309 336 = some (.if_icmp .eq 80, 3, 0, 0, 0) := by decide +kernel
theorem s_309_336 {x0 x1 x2 x3 x4 x5 : Option Value} {x w : Int32} : mw d 309 Q 336 [x0, x1, x2, x3, x4, x5] (.int w :: .int x :: st) h = mB (x = w) (mw d 309 Q) 416 339 [x0, x1, x2, x3, x4, x5] st h := (mw_at mj_309_336).trans (z_icmp_eq (by decide) rfl)
theorem mj_309_339 : mc_P 309 339 = some (.iload 5, 2, 0, 0, 0) := by decide +kernel
theorem s_309_339 {x0 x1 x2 x3 x4 : Option Value} {w : Value} : mw d 309 Q 339 [x0, x1, x2, x3, x4, some w] (st) h = mv_i w (mw d 309 Q 341 [x0, x1, x2, x3, x4, some w] (w :: st) h) := (mw_at mj_309_339).trans (z_iload rfl)
theorem mj_309_341 : mc_P 309 341 = some (.bipush 44, 2, 0, 0, 0) := by decide +kernel
theorem s_309_341 {x0 x1 x2 x3 x4 x5 : Option Value} : mw d 309 Q 341 [x0, x1, x2, x3, x4, x5] (st) h = mw d 309 Q 343 [x0, x1, x2, x3, x4, x5] (.int 44 :: st) h := (mw_at mj_309_341).trans (z_bipush (by decide))
theorem mj_309_343 : mc_P 309 343 = some (.if_icmp .eq 73, 3, 0, 0, 0) := by decide +kernel
theorem s_309_343 {x0 x1 x2 x3 x4 x5 : Option Value} {x w : Int32} : mw d 309 Q 343 [x0, x1, x2, x3, x4, x5] (.int w :: .int x :: st) h = mB (x = w) (mw d 309 Q) 416 346 [x0, x1, x2, x3, x4, x5] st h := (mw_at mj_309_343).trans (z_icmp_eq (by decide) rfl)
theorem mj_309_346 : mc_P 309 346 = some (.iload 5, 2, 0, 0, 0) := by decide +kernel
theorem s_309_346 {x0 x1 x2 x3 x4 : Option Value} {w : Value} : mw d 309 Q 346 [x0, x1, x2, x3, x4, some w] (st) h = mv_i w (mw d 309 Q 348 [x0, x1, x2, x3, x4, some w] (w :: st) h) := (mw_at mj_309_346).trans (z_iload rfl)
theorem mj_309_348 : mc_P 309 348 = some (.bipush 59, 2, 0, 0, 0) := by decide +kernel
theorem s_309_348 {x0 x1 x2 x3 x4 x5 : Option Value} : mw d 309 Q 348 [x0, x1, x2, x3, x4, x5] (st) h = mw d 309 Q 350 [x0, x1, x2, x3, x4, x5] (.int 59 :: st) h := (mw_at mj_309_348).trans (z_bipush (by decide))
theorem mj_309_350 : mc_P 309 350 = some (.if_icmp .eq 66, 3, 0, 0, 0) := by decide +kernel
theorem s_309_350 {x0 x1 x2 x3 x4 x5 : Option Value} {x w : Int32} : mw d 309 Q 350 [x0, x1, x2, x3, x4, x5] (.int w :: .int x :: st) h = mB (x = w) (mw d 309 Q) 416 353 [x0, x1, x2, x3, x4, x5] st h := (mw_at mj_309_350).trans (z_icmp_eq (by decide) rfl)
theorem mj_309_353 : mc_P 309 353 = some (.iload 5, 2, 0, 0, 0) := by decide +kernel
theorem s_309_353 {x0 x1 x2 x3 x4 : Option Value} {w : Value} : mw d 309 Q 353 [x0, x1, x2, x3, x4, some w] (st) h = mv_i w (mw d 309 Q 355 [x0, x1, x2, x3, x4, some w] (w :: st) h) := (mw_at mj_309_353).trans (z_iload rfl)
theorem mj_309_355 : mc_P 309 355 = some (.bipush 61, 2, 0, 0, 0) := by decide +kernel
theorem s_309_355 {x0 x1 x2 x3 x4 x5 : Option Value} : mw d 309 Q 355 [x0, x1, x2, x3, x4, x5] (st) h = mw d 309 Q 357 [x0, x1, x2, x3, x4, x5] (.int 61 :: st) h := (mw_at mj_309_355).trans (z_bipush (by decide))
theorem mj_309_357 : mc_P 309 357 = some (.if_icmp .eq 59, 3, 0, 0, 0) := by decide +kernel
theorem s_309_357 {x0 x1 x2 x3 x4 x5 : Option Value} {x w : Int32} : mw d 309 Q 357 [x0, x1, x2, x3, x4, x5] (.int w :: .int x :: st) h = mB (x = w) (mw d 309 Q) 416 360 [x0, x1, x2, x3, x4, x5] st h := (mw_at mj_309_357).trans (z_icmp_eq (by decide) rfl)
theorem mj_309_360 : mc_P 309 360 = some (.iload 5, 2, 0, 0, 0) := by decide +kernel
theorem s_309_360 {x0 x1 x2 x3 x4 : Option Value} {w : Value} : mw d 309 Q 360 [x0, x1, x2, x3, x4, some w] (st) h = mv_i w (mw d 309 Q 362 [x0, x1, x2, x3, x4, some w] (w :: st) h) := (mw_at mj_309_360).trans (z_iload rfl)
theorem mj_309_362 : mc_P 309 362 = some (.bipush 43, 2, 0, 0, 0) := by decide +kernel
theorem s_309_362 {x0 x1 x2 x3 x4 x5 : Option Value} : mw d 309 Q 362 [x0, x1, x2, x3, x4, x5] (st) h = mw d 309 Q 364 [x0, x1, x2, x3, x4, x5] (.int 43 :: st) h := (mw_at mj_309_362).trans (z_bipush (by decide))
theorem mj_309_364 : mc_P 309 364 = some (.if_icmp .eq 52, 3, 0, 0, 0) := by decide +kernel
theorem s_309_364 {x0 x1 x2 x3 x4 x5 : Option Value} {x w : Int32} : mw d 309 Q 364 [x0, x1, x2, x3, x4, x5] (.int w :: .int x :: st) h = mB (x = w) (mw d 309 Q) 416 367 [x0, x1, x2, x3, x4, x5] st h := (mw_at mj_309_364).trans (z_icmp_eq (by decide) rfl)
theorem mj_309_367 : mc_P 309 367 = some (.iload 5, 2, 0, 0, 0) := by decide +kernel
theorem s_309_367 {x0 x1 x2 x3 x4 : Option Value} {w : Value} : mw d 309 Q 367 [x0, x1, x2, x3, x4, some w] (st) h = mv_i w (mw d 309 Q 369 [x0, x1, x2, x3, x4, some w] (w :: st) h) := (mw_at mj_309_367).trans (z_iload rfl)
theorem mj_309_369 : mc_P 309 369 = some (.bipush 45, 2, 0, 0, 0) := by decide +kernel
theorem s_309_369 {x0 x1 x2 x3 x4 x5 : Option Value} : mw d 309 Q 369 [x0, x1, x2, x3, x4, x5] (st) h = mw d 309 Q 371 [x0, x1, x2, x3, x4, x5] (.int 45 :: st) h := (mw_at mj_309_369).trans (z_bipush (by decide))
theorem mj_309_371 : mc_P 309 371 = some (.if_icmp .eq 45, 3, 0, 0, 0) := by decide +kernel
theorem s_309_371 {x0 x1 x2 x3 x4 x5 : Option Value} {x w : Int32} : mw d 309 Q 371 [x0, x1, x2, x3, x4, x5] (.int w :: .int x :: st) h = mB (x = w) (mw d 309 Q) 416 374 [x0, x1, x2, x3, x4, x5] st h := (mw_at mj_309_371).trans (z_icmp_eq (by decide) rfl)
theorem mj_309_374 : mc_P 309 374 = some (.iload 5, 2, 0, 0, 0) := by decide +kernel
theorem s_309_374 {x0 x1 x2 x3 x4 : Option Value} {w : Value} : mw d 309 Q 374 [x0, x1, x2, x3, x4, some w] (st) h = mv_i w (mw d 309 Q 376 [x0, x1, x2, x3, x4, some w] (w :: st) h) := (mw_at mj_309_374).trans (z_iload rfl)
theorem mj_309_376 : mc_P 309 376 = some (.bipush 42, 2, 0, 0, 0) := by decide +kernel
theorem s_309_376 {x0 x1 x2 x3 x4 x5 : Option Value} : mw d 309 Q 376 [x0, x1, x2, x3, x4, x5] (st) h = mw d 309 Q 378 [x0, x1, x2, x3, x4, x5] (.int 42 :: st) h := (mw_at mj_309_376).trans (z_bipush (by decide))
theorem mj_309_378 : mc_P 309 378 = some (.if_icmp .eq 38, 3, 0, 0, 0) := by decide +kernel
theorem s_309_378 {x0 x1 x2 x3 x4 x5 : Option Value} {x w : Int32} : mw d 309 Q 378 [x0, x1, x2, x3, x4, x5] (.int w :: .int x :: st) h = mB (x = w) (mw d 309 Q) 416 381 [x0, x1, x2, x3, x4, x5] st h := (mw_at mj_309_378).trans (z_icmp_eq (by decide) rfl)
theorem mj_309_381 : mc_P 309 381 = some (.iload 5, 2, 0, 0, 0) := by decide +kernel
theorem s_309_381 {x0 x1 x2 x3 x4 : Option Value} {w : Value} : mw d 309 Q 381 [x0, x1, x2, x3, x4, some w] (st) h = mv_i w (mw d 309 Q 383 [x0, x1, x2, x3, x4, some w] (w :: st) h) := (mw_at mj_309_381).trans (z_iload rfl)
theorem mj_309_383 : mc_P 309 383 = some (.bipush 47, 2, 0, 0, 0) := by decide +kernel
theorem s_309_383 {x0 x1 x2 x3 x4 x5 : Option Value} : mw d 309 Q 383 [x0, x1, x2, x3, x4, x5] (st) h = mw d 309 Q 385 [x0, x1, x2, x3, x4, x5] (.int 47 :: st) h := (mw_at mj_309_383).trans (z_bipush (by decide))
theorem mj_309_385 : mc_P 309 385 = some (.if_icmp .eq 31, 3, 0, 0, 0) := by decide +kernel
theorem s_309_385 {x0 x1 x2 x3 x4 x5 : Option Value} {x w : Int32} : mw d 309 Q 385 [x0, x1, x2, x3, x4, x5] (.int w :: .int x :: st) h = mB (x = w) (mw d 309 Q) 416 388 [x0, x1, x2, x3, x4, x5] st h := (mw_at mj_309_385).trans (z_icmp_eq (by decide) rfl)
theorem mj_309_388 : mc_P 309 388 = some (.iload 5, 2, 0, 0, 0) := by decide +kernel
theorem s_309_388 {x0 x1 x2 x3 x4 : Option Value} {w : Value} : mw d 309 Q 388 [x0, x1, x2, x3, x4, some w] (st) h = mv_i w (mw d 309 Q 390 [x0, x1, x2, x3, x4, some w] (w :: st) h) := (mw_at mj_309_388).trans (z_iload rfl)
theorem mj_309_390 : mc_P 309 390 = some (.bipush 37, 2, 0, 0, 0) := by decide +kernel
theorem s_309_390 {x0 x1 x2 x3 x4 x5 : Option Value} : mw d 309 Q 390 [x0, x1, x2, x3, x4, x5] (st) h = mw d 309 Q 392 [x0, x1, x2, x3, x4, x5] (.int 37 :: st) h := (mw_at mj_309_390).trans (z_bipush (by decide))
theorem mj_309_392 : mc_P 309 392 = some (.if_icmp .eq 24, 3, 0, 0, 0) := by decide +kernel
theorem s_309_392 {x0 x1 x2 x3 x4 x5 : Option Value} {x w : Int32} : mw d 309 Q 392 [x0, x1, x2, x3, x4, x5] (.int w :: .int x :: st) h = mB (x = w) (mw d 309 Q) 416 395 [x0, x1, x2, x3, x4, x5] st h := (mw_at mj_309_392).trans (z_icmp_eq (by decide) rfl)
theorem mj_309_395 : mc_P 309 395 = some (.iload 5, 2, 0, 0, 0) := by decide +kernel
theorem s_309_395 {x0 x1 x2 x3 x4 : Option Value} {w : Value} : mw d 309 Q 395 [x0, x1, x2, x3, x4, some w] (st) h = mv_i w (mw d 309 Q 397 [x0, x1, x2, x3, x4, some w] (w :: st) h) := (mw_at mj_309_395).trans (z_iload rfl)
theorem mj_309_397 : mc_P 309 397 = some (.bipush 60, 2, 0, 0, 0) := by decide +kernel
theorem s_309_397 {x0 x1 x2 x3 x4 x5 : Option Value} : mw d 309 Q 397 [x0, x1, x2, x3, x4, x5] (st) h = mw d 309 Q 399 [x0, x1, x2, x3, x4, x5] (.int 60 :: st) h := (mw_at mj_309_397).trans (z_bipush (by decide))
theorem mj_309_399 : mc_P 309 399 = some (.if_icmp .eq 17, 3, 0, 0, 0) := by decide +kernel
theorem s_309_399 {x0 x1 x2 x3 x4 x5 : Option Value} {x w : Int32} : mw d 309 Q 399 [x0, x1, x2, x3, x4, x5] (.int w :: .int x :: st) h = mB (x = w) (mw d 309 Q) 416 402 [x0, x1, x2, x3, x4, x5] st h := (mw_at mj_309_399).trans (z_icmp_eq (by decide) rfl)
theorem mj_309_402 : mc_P 309 402 = some (.iload 5, 2, 0, 0, 0) := by decide +kernel
theorem s_309_402 {x0 x1 x2 x3 x4 : Option Value} {w : Value} : mw d 309 Q 402 [x0, x1, x2, x3, x4, some w] (st) h = mv_i w (mw d 309 Q 404 [x0, x1, x2, x3, x4, some w] (w :: st) h) := (mw_at mj_309_402).trans (z_iload rfl)
theorem mj_309_404 : mc_P 309 404 = some (.bipush 62, 2, 0, 0, 0) := by decide +kernel
theorem s_309_404 {x0 x1 x2 x3 x4 x5 : Option Value} : mw d 309 Q 404 [x0, x1, x2, x3, x4, x5] (st) h = mw d 309 Q 406 [x0, x1, x2, x3, x4, x5] (.int 62 :: st) h := (mw_at mj_309_404).trans (z_bipush (by decide))
theorem mj_309_406 : mc_P 309 406 = some (.if_icmp .eq 10, 3, 0, 0, 0) := by decide +kernel
theorem s_309_406 {x0 x1 x2 x3 x4 x5 : Option Value} {x w : Int32} : mw d 309 Q 406 [x0, x1, x2, x3, x4, x5] (.int w :: .int x :: st) h = mB (x = w) (mw d 309 Q) 416 409 [x0, x1, x2, x3, x4, x5] st h := (mw_at mj_309_406).trans (z_icmp_eq (by decide) rfl)
theorem mj_309_409 : mc_P 309 409 = some (.iload 5, 2, 0, 0, 0) := by decide +kernel
theorem s_309_409 {x0 x1 x2 x3 x4 : Option Value} {w : Value} : mw d 309 Q 409 [x0, x1, x2, x3, x4, some w] (st) h = mv_i w (mw d 309 Q 411 [x0, x1, x2, x3, x4, some w] (w :: st) h) := (mw_at mj_309_409).trans (z_iload rfl)
theorem mj_309_411 : mc_P 309 411 = some (.bipush 33, 2, 0, 0, 0) := by decide +kernel
theorem s_309_411 {x0 x1 x2 x3 x4 x5 : Option Value} : mw d 309 Q 411 [x0, x1, x2, x3, x4, x5] (st) h = mw d 309 Q 413 [x0, x1, x2, x3, x4, x5] (.int 33 :: st) h := (mw_at mj_309_411).trans (z_bipush (by decide))
theorem mj_309_413 : mc_P 309 413 = some (.if_icmp .ne 7, 3, 0, 0, 0) := by decide +kernel
theorem s_309_413 {x0 x1 x2 x3 x4 x5 : Option Value} {x w : Int32} : mw d 309 Q 413 [x0, x1, x2, x3, x4, x5] (.int w :: .int x :: st) h = mB (¬ x = w) (mw d 309 Q) 420 416 [x0, x1, x2, x3, x4, x5] st h := (mw_at mj_309_413).trans (z_icmp_ne (by decide) rfl)
theorem mj_309_416 : mc_P 309 416 = some (.iload 5, 2, 0, 0, 0) := by decide +kernel
theorem s_309_416 {x0 x1 x2 x3 x4 : Option Value} {w : Value} : mw d 309 Q 416 [x0, x1, x2, x3, x4, some w] (st) h = mv_i w (mw d 309 Q 418 [x0, x1, x2, x3, x4, some w] (w :: st) h) := (mw_at mj_309_416).trans (z_iload rfl)
theorem mj_309_418 : mc_P 309 418 = some (.istore 4, 2, 0, 0, 0) := by decide +kernel
theorem s_309_418 {x0 x1 x2 x3 x4 x5 : Option Value} {w : Int32} : mw d 309 Q 418 [x0, x1, x2, x3, x4, x5] (.int w :: st) h = mw d 309 Q 420 [x0, x1, x2, mk2 x3, some (.int w), x5] (st) h := (mw_at mj_309_418).trans (z_istore (Nat.le_of_ble_eq_true rfl) (me_s1_mk (j := 3) (w := x3) rfl))
theorem mj_309_420 : mc_P 309 420 = some (.aload_n 0, 1, 0, 0, 0) := by decide +kernel
theorem s_309_420 {x1 x2 x3 x4 x5 : Option Value} {w : Value} : mw d 309 Q 420 [some w, x1, x2, x3, x4, x5] (st) h = mv_a w (mw d 309 Q 421 [some w, x1, x2, x3, x4, x5] (w :: st) h) := (mw_at mj_309_420).trans (z_aload_n rfl)
theorem mj_309_421 : mc_P 309 421 = some (.getfield 13, 3, 14, 4, 0) := by decide +kernel
theorem s_309_421 {x0 x1 x2 x3 x4 x5 : Option Value} {o : Nat} : mw d 309 Q 421 [x0, x1, x2, x3, x4, x5] (.ref o :: st) h = (mg h o 14 ∧ mw d 309 Q 424 [x0, x1, x2, x3, x4, x5] (va_rf (mh_r h o 4) :: st) h) := (mw_at mj_309_421).trans (z_getr (by decide) (by decide) rfl)
theorem mj_309_424 : mc_P 309 424 = some (.aload_n 0, 1, 0, 0, 0) := by decide +kernel
theorem s_309_424 {x1 x2 x3 x4 x5 : Option Value} {w : Value} : mw d 309 Q 424 [some w, x1, x2, x3, x4, x5] (st) h = mv_a w (mw d 309 Q 425 [some w, x1, x2, x3, x4, x5] (w :: st) h) := (mw_at mj_309_424).trans (z_aload_n rfl)
theorem mj_309_425 : mc_P 309 425 = some (.getfield 227, 3, 14, 7, 0) := by decide +kernel
theorem s_309_425 {x0 x1 x2 x3 x4 x5 : Option Value} {o : Nat} : mw d 309 Q 425 [x0, x1, x2, x3, x4, x5] (.ref o :: st) h = (mg h o 14 ∧ mw d 309 Q 428 [x0, x1, x2, x3, x4, x5] (.int (mh_i h o 7) :: st) h) := (mw_at mj_309_425).trans (z_geti (by decide) (by decide) (Or.inl rfl))
theorem mj_309_428 : mc_P 309 428 = some (.iload 4, 2, 0, 0, 0) := by decide +kernel
theorem s_309_428 {x0 x1 x2 x3 x5 : Option Value} {w : Value} : mw d 309 Q 428 [x0, x1, x2, x3, some w, x5] (st) h = mv_i w (mw d 309 Q 430 [x0, x1, x2, x3, some w, x5] (w :: st) h) := (mw_at mj_309_428).trans (z_iload rfl)
theorem mj_309_430 : mc_P 309 430 = some (.iastore, 1, 0, 0, 0) := by decide +kernel
theorem s_309_430 {x0 x1 x2 x3 x4 x5 : Option Value} {o : Nat} {i w : Int32} : mw d 309 Q 430 [x0, x1, x2, x3, x4, x5] (.int w :: .int i :: .ref o :: st) h = (mg h o 100 ∧ mx i (mh_l h o) ∧ mw d 309 Q 431 [x0, x1, x2, x3, x4, x5] (st) (mh_si h o i.toNatClampNeg w)) := (mw_at mj_309_430).trans (z_iast)
theorem mj_309_431 : mc_P 309 431 = some (.aload_n 0, 1, 0, 0, 0) := by decide +kernel
theorem s_309_431 {x1 x2 x3 x4 x5 : Option Value} {w : Value} : mw d 309 Q 431 [some w, x1, x2, x3, x4, x5] (st) h = mv_a w (mw d 309 Q 432 [some w, x1, x2, x3, x4, x5] (w :: st) h) := (mw_at mj_309_431).trans (z_aload_n rfl)
theorem mj_309_432 : mc_P 309 432 = some (.getfield 16, 3, 14, 5, 0) := by decide +kernel
theorem s_309_432 {x0 x1 x2 x3 x4 x5 : Option Value} {o : Nat} : mw d 309 Q 432 [x0, x1, x2, x3, x4, x5] (.ref o :: st) h = (mg h o 14 ∧ mw d 309 Q 435 [x0, x1, x2, x3, x4, x5] (va_rf (mh_r h o 5) :: st) h) := (mw_at mj_309_432).trans (z_getr (by decide) (by decide) rfl)
theorem mj_309_435 : mc_P 309 435 = some (.aload_n 0, 1, 0, 0, 0) := by decide +kernel
theorem s_309_435 {x1 x2 x3 x4 x5 : Option Value} {w : Value} : mw d 309 Q 435 [some w, x1, x2, x3, x4, x5] (st) h = mv_a w (mw d 309 Q 436 [some w, x1, x2, x3, x4, x5] (w :: st) h) := (mw_at mj_309_435).trans (z_aload_n rfl)
theorem mj_309_436 : mc_P 309 436 = some (.getfield 227, 3, 14, 7, 0) := by decide +kernel
theorem s_309_436 {x0 x1 x2 x3 x4 x5 : Option Value} {o : Nat} : mw d 309 Q 436 [x0, x1, x2, x3, x4, x5] (.ref o :: st) h = (mg h o 14 ∧ mw d 309 Q 439 [x0, x1, x2, x3, x4, x5] (.int (mh_i h o 7) :: st) h) := (mw_at mj_309_436).trans (z_geti (by decide) (by decide) (Or.inl rfl))
theorem mj_309_439 : mc_P 309 439 = some (.iload_n 1, 1, 0, 0, 0) := by decide +kernel
theorem s_309_439 {x0 x2 x3 x4 x5 : Option Value} {w : Value} : mw d 309 Q 439 [x0, some w, x2, x3, x4, x5] (st) h = mv_i w (mw d 309 Q 440 [x0, some w, x2, x3, x4, x5] (w :: st) h) := (mw_at mj_309_439).trans (z_iload_n rfl)
theorem mj_309_440 : mc_P 309 440 = some (.iastore, 1, 0, 0, 0) := by decide +kernel
theorem s_309_440 {x0 x1 x2 x3 x4 x5 : Option Value} {o : Nat} {i w : Int32} : mw d 309 Q 440 [x0, x1, x2, x3, x4, x5] (.int w :: .int i :: .ref o :: st) h = (mg h o 100 ∧ mx i (mh_l h o) ∧ mw d 309 Q 441 [x0, x1, x2, x3, x4, x5] (st) (mh_si h o i.toNatClampNeg w)) := (mw_at mj_309_440).trans (z_iast)
theorem mj_309_441 : mc_P 309 441 = some (.aload_n 0, 1, 0, 0, 0) := by decide +kernel
theorem s_309_441 {x1 x2 x3 x4 x5 : Option Value} {w : Value} : mw d 309 Q 441 [some w, x1, x2, x3, x4, x5] (st) h = mv_a w (mw d 309 Q 442 [some w, x1, x2, x3, x4, x5] (w :: st) h) := (mw_at mj_309_441).trans (z_aload_n rfl)
theorem mj_309_442 : mc_P 309 442 = some (.getfield 19, 3, 14, 6, 0) := by decide +kernel
theorem s_309_442 {x0 x1 x2 x3 x4 x5 : Option Value} {o : Nat} : mw d 309 Q 442 [x0, x1, x2, x3, x4, x5] (.ref o :: st) h = (mg h o 14 ∧ mw d 309 Q 445 [x0, x1, x2, x3, x4, x5] (va_rf (mh_r h o 6) :: st) h) := (mw_at mj_309_442).trans (z_getr (by decide) (by decide) rfl)
theorem mj_309_445 : mc_P 309 445 = some (.aload_n 0, 1, 0, 0, 0) := by decide +kernel
theorem s_309_445 {x1 x2 x3 x4 x5 : Option Value} {w : Value} : mw d 309 Q 445 [some w, x1, x2, x3, x4, x5] (st) h = mv_a w (mw d 309 Q 446 [some w, x1, x2, x3, x4, x5] (w :: st) h) := (mw_at mj_309_445).trans (z_aload_n rfl)
theorem mj_309_446 : mc_P 309 446 = some (.getfield 227, 3, 14, 7, 0) := by decide +kernel
theorem s_309_446 {x0 x1 x2 x3 x4 x5 : Option Value} {o : Nat} : mw d 309 Q 446 [x0, x1, x2, x3, x4, x5] (.ref o :: st) h = (mg h o 14 ∧ mw d 309 Q 449 [x0, x1, x2, x3, x4, x5] (.int (mh_i h o 7) :: st) h) := (mw_at mj_309_446).trans (z_geti (by decide) (by decide) (Or.inl rfl))
theorem mj_309_449 : mc_P 309 449 = some (.iload_n 3, 1, 0, 0, 0) := by decide +kernel
theorem s_309_449 {x0 x1 x2 x4 x5 : Option Value} {w : Value} : mw d 309 Q 449 [x0, x1, x2, some w, x4, x5] (st) h = mv_i w (mw d 309 Q 450 [x0, x1, x2, some w, x4, x5] (w :: st) h) := (mw_at mj_309_449).trans (z_iload_n rfl)
theorem mj_309_450 : mc_P 309 450 = some (.iastore, 1, 0, 0, 0) := by decide +kernel
theorem s_309_450 {x0 x1 x2 x3 x4 x5 : Option Value} {o : Nat} {i w : Int32} : mw d 309 Q 450 [x0, x1, x2, x3, x4, x5] (.int w :: .int i :: .ref o :: st) h = (mg h o 100 ∧ mx i (mh_l h o) ∧ mw d 309 Q 451 [x0, x1, x2, x3, x4, x5] (st) (mh_si h o i.toNatClampNeg w)) := (mw_at mj_309_450).trans (z_iast)
theorem mj_309_451 : mc_P 309 451 = some (.aload_n 0, 1, 0, 0, 0) := by decide +kernel
theorem s_309_451 {x1 x2 x3 x4 x5 : Option Value} {w : Value} : mw d 309 Q 451 [some w, x1, x2, x3, x4, x5] (st) h = mv_a w (mw d 309 Q 452 [some w, x1, x2, x3, x4, x5] (w :: st) h) := (mw_at mj_309_451).trans (z_aload_n rfl)
theorem mj_309_452 : mc_P 309 452 = some (.dup, 1, 0, 0, 0) := by decide +kernel
theorem s_309_452 {x0 x1 x2 x3 x4 x5 : Option Value} {w : Value} : mw d 309 Q 452 [x0, x1, x2, x3, x4, x5] (w :: st) h = (w.category = 1 ∧ mw d 309 Q 453 [x0, x1, x2, x3, x4, x5] (w :: w :: st) h) := (mw_at mj_309_452).trans (z_dup)
theorem mj_309_453 : mc_P 309 453 = some (.getfield 227, 3, 14, 7, 0) := by decide +kernel
theorem s_309_453 {x0 x1 x2 x3 x4 x5 : Option Value} {o : Nat} : mw d 309 Q 453 [x0, x1, x2, x3, x4, x5] (.ref o :: st) h = (mg h o 14 ∧ mw d 309 Q 456 [x0, x1, x2, x3, x4, x5] (.int (mh_i h o 7) :: st) h) := (mw_at mj_309_453).trans (z_geti (by decide) (by decide) (Or.inl rfl))
theorem mj_309_456 : mc_P 309 456 = some (.iconst 1, 1, 0, 0, 0) := by decide +kernel
theorem s_309_456 {x0 x1 x2 x3 x4 x5 : Option Value} : mw d 309 Q 456 [x0, x1, x2, x3, x4, x5] (st) h = mw d 309 Q 457 [x0, x1, x2, x3, x4, x5] (.int 1 :: st) h := (mw_at mj_309_456).trans (z_iconst (by decide))
theorem mj_309_457 : mc_P 309 457 = some (.iadd, 1, 0, 0, 0) := by decide +kernel
theorem s_309_457 {x0 x1 x2 x3 x4 x5 : Option Value} {x w : Int32} : mw d 309 Q 457 [x0, x1, x2, x3, x4, x5] (.int w :: .int x :: st) h = mw d 309 Q 458 [x0, x1, x2, x3, x4, x5] (.int (x + w) :: st) h := (mw_at mj_309_457).trans (z_iadd)
theorem mj_309_458 : mc_P 309 458 = some (.putfield 227, 3, 14, 7, 0) := by decide +kernel
theorem s_309_458 {x0 x1 x2 x3 x4 x5 : Option Value} {o : Nat} {w : Int32} : mw d 309 Q 458 [x0, x1, x2, x3, x4, x5] (.int w :: .ref o :: st) h = (mg h o 14 ∧ mw d 309 Q 461 [x0, x1, x2, x3, x4, x5] (st) (mh_si h o 7 w)) := (mw_at mj_309_458).trans (z_puti (by decide) (by decide) rfl)
theorem mj_309_461 : mc_P 309 461 = some (.iload 4, 2, 0, 0, 0) := by decide +kernel
theorem s_309_461 {x0 x1 x2 x3 x5 : Option Value} {w : Value} : mw d 309 Q 461 [x0, x1, x2, x3, some w, x5] (st) h = mv_i w (mw d 309 Q 463 [x0, x1, x2, x3, some w, x5] (w :: st) h) := (mw_at mj_309_461).trans (z_iload rfl)
theorem mj_309_463 : mc_P 309 463 = some (.iconst 1, 1, 0, 0, 0) := by decide +kernel
theorem s_309_463 {x0 x1 x2 x3 x4 x5 : Option Value} : mw d 309 Q 463 [x0, x1, x2, x3, x4, x5] (st) h = mw d 309 Q 464 [x0, x1, x2, x3, x4, x5] (.int 1 :: st) h := (mw_at mj_309_463).trans (z_iconst (by decide))
theorem mj_309_464 : mc_P 309 464 = some (.if_icmp .eq 12, 3, 0, 0, 0) := by decide +kernel
theorem s_309_464 {x0 x1 x2 x3 x4 x5 : Option Value} {x w : Int32} : mw d 309 Q 464 [x0, x1, x2, x3, x4, x5] (.int w :: .int x :: st) h = mB (x = w) (mw d 309 Q) 476 467 [x0, x1, x2, x3, x4, x5] st h := (mw_at mj_309_464).trans (z_icmp_eq (by decide) rfl)
theorem mj_309_467 : mc_P 309 467 = some (.iload 4, 2, 0, 0, 0) := by decide +kernel
theorem s_309_467 {x0 x1 x2 x3 x5 : Option Value} {w : Value} : mw d 309 Q 467 [x0, x1, x2, x3, some w, x5] (st) h = mv_i w (mw d 309 Q 469 [x0, x1, x2, x3, some w, x5] (w :: st) h) := (mw_at mj_309_467).trans (z_iload rfl)
theorem mj_309_469 : mc_P 309 469 = some (.ifCond .eq 7, 3, 0, 0, 0) := by decide +kernel
theorem s_309_469 {x0 x1 x2 x3 x4 x5 : Option Value} {x : Int32} : mw d 309 Q 469 [x0, x1, x2, x3, x4, x5] (.int x :: st) h = mB (x = 0) (mw d 309 Q) 476 472 [x0, x1, x2, x3, x4, x5] st h := (mw_at mj_309_469).trans (z_if_eq (by decide) rfl)
theorem mj_309_472 : mc_P 309 472 = some (.iconst 1, 1, 0, 0, 0) := by decide +kernel
theorem s_309_472 {x0 x1 x2 x3 x4 x5 : Option Value} : mw d 309 Q 472 [x0, x1, x2, x3, x4, x5] (st) h = mw d 309 Q 473 [x0, x1, x2, x3, x4, x5] (.int 1 :: st) h := (mw_at mj_309_472).trans (z_iconst (by decide))
theorem mj_309_473 : mc_P 309 473 = some (.goto 4, 3, 0, 0, 0) := by decide +kernel
theorem s_309_473 {x0 x1 x2 x3 x4 x5 : Option Value} : mw d 309 Q 473 [x0, x1, x2, x3, x4, x5] (st) h = mw d 309 Q 477 [x0, x1, x2, x3, x4, x5] (st) h := (mw_at mj_309_473).trans (z_goto (by decide))
theorem mj_309_476 : mc_P 309 476 = some (.iconst 0, 1, 0, 0, 0) := by decide +kernel
theorem s_309_476 {x0 x1 x2 x3 x4 x5 : Option Value} : mw d 309 Q 476 [x0, x1, x2, x3, x4, x5] (st) h = mw d 309 Q 477 [x0, x1, x2, x3, x4, x5] (.int 0 :: st) h := (mw_at mj_309_476).trans (z_iconst (by decide))
theorem mj_309_477 : mc_P 309 477 = some (.istore_n 2, 1, 0, 0, 0) := by decide +kernel
theorem s_309_477 {x0 x1 x2 x3 x4 x5 : Option Value} {w : Int32} : mw d 309 Q 477 [x0, x1, x2, x3, x4, x5] (.int w :: st) h = mw d 309 Q 478 [x0, mk2 x1, some (.int w), x3, x4, x5] (st) h := (mw_at mj_309_477).trans (z_istore_n (Nat.le_of_ble_eq_true rfl) (me_s1_mk (j := 1) (w := x1) rfl))
theorem mj_309_478 : mc_P 309 478 = some (.aload_n 0, 1, 0, 0, 0) := by decide +kernel
theorem s_309_478 {x1 x2 x3 x4 x5 : Option Value} {w : Value} : mw d 309 Q 478 [some w, x1, x2, x3, x4, x5] (st) h = mv_a w (mw d 309 Q 479 [some w, x1, x2, x3, x4, x5] (w :: st) h) := (mw_at mj_309_478).trans (z_aload_n rfl)
theorem mj_309_479 : mc_P 309 479 = some (.iload_n 1, 1, 0, 0, 0) := by decide +kernel
theorem s_309_479 {x0 x2 x3 x4 x5 : Option Value} {w : Value} : mw d 309 Q 479 [x0, some w, x2, x3, x4, x5] (st) h = mv_i w (mw d 309 Q 480 [x0, some w, x2, x3, x4, x5] (w :: st) h) := (mw_at mj_309_479).trans (z_iload_n rfl)
theorem mj_309_480 : mc_P 309 480 = some (.iload_n 3, 1, 0, 0, 0) := by decide +kernel
theorem s_309_480 {x0 x1 x2 x4 x5 : Option Value} {w : Value} : mw d 309 Q 480 [x0, x1, x2, some w, x4, x5] (st) h = mv_i w (mw d 309 Q 481 [x0, x1, x2, some w, x4, x5] (w :: st) h) := (mw_at mj_309_480).trans (z_iload_n rfl)
theorem mj_309_481 : mc_P 309 481 = some (.iadd, 1, 0, 0, 0) := by decide +kernel
theorem s_309_481 {x0 x1 x2 x3 x4 x5 : Option Value} {x w : Int32} : mw d 309 Q 481 [x0, x1, x2, x3, x4, x5] (.int w :: .int x :: st) h = mw d 309 Q 482 [x0, x1, x2, x3, x4, x5] (.int (x + w) :: st) h := (mw_at mj_309_481).trans (z_iadd)
theorem mj_309_482 : mc_P 309 482 = some (.invokevirtual 230, 3, 306, 14, 2) := by decide +kernel
theorem s_309_482 {x0 x1 x2 x3 x4 x5 : Option Value} {o : Nat} {a1 : Value} : mw (d + 1) 309 Q 482 [x0, x1, x2, x3, x4, x5] (a1 :: .ref o :: st) h = (mg h o 14 ∧ mca st 8 ∧ mca [.ref o, a1] 5 ∧ mcall d 306 [.ref o, a1] h (mK (d + 1) 309 Q 485 [x0, x1, x2, x3, x4, x5] st)) := (mw_at mj_309_482).trans ((z_invv (As := [a1]) (by decide) rfl rfl).trans (congrArg (And _) (congrArg (And _) (mC_nl nl_306))))
theorem mj_309_485 : mc_P 309 485 = some (.istore_n 1, 1, 0, 0, 0) := by decide +kernel
theorem s_309_485 {x0 x1 x2 x3 x4 x5 : Option Value} {w : Int32} : mw d 309 Q 485 [x0, x1, x2, x3, x4, x5] (.int w :: st) h = mw d 309 Q 486 [mk2 x0, some (.int w), x2, x3, x4, x5] (st) h := (mw_at mj_309_485).trans (z_istore_n (Nat.le_of_ble_eq_true rfl) (me_s1_mk (j := 0) (w := x0) rfl))
theorem mj_309_486 : mc_P 309 486 = some (.goto (-473), 3, 0, 0, 0) := by decide +kernel
theorem s_309_486 {x0 x1 x2 x3 x4 x5 : Option Value} : mw d 309 Q 486 [x0, x1, x2, x3, x4, x5] (st) h = mw d 309 Q 13 [x0, x1, x2, x3, x4, x5] (st) h := (mw_at mj_309_486).trans (z_goto (by decide))
theorem mj_309_489 : mc_P 309 489 = some (.return_, 1, 0, 0, 0) := by decide +kernel
theorem s_309_489 {x0 x1 x2 x3 x4 x5 : Option Value} : mw d 309 Q 489 [x0, x1, x2, x3, x4, x5] ([]) h = Q none h := (mw_at mj_309_489).trans (z_vret)
theorem e_309 {a0 : Nat} : mcall d 309 [.ref a0] h Q = mw d 309 Q 0 [some (.ref a0), none, none, none, none, none] [] h := by
  show mw d 309 Q 0 (me_en (mc_nl 309) _) [] h = _
  rw [nl_309]; rfl

/-! InvariantDeskModel.look()I -/
theorem mj_310_0 : mc_P 310 0 = some (.aload_n 0, 1, 0, 0, 0) := by decide +kernel
theorem s_310_0 {w : Value} : mw d 310 Q 0 [some w] (st) h = mv_a w (mw d 310 Q 1 [some w] (w :: st) h) := (mw_at mj_310_0).trans (z_aload_n rfl)
theorem mj_310_1 : mc_P 310 1 = some (.getfield 242, 3, 14, 9, 0) := by decide +kernel
theorem s_310_1 {x0 : Option Value} {o : Nat} : mw d 310 Q 1 [x0] (.ref o :: st) h = (mg h o 14 ∧ mw d 310 Q 4 [x0] (.int (mh_i h o 9) :: st) h) := (mw_at mj_310_1).trans (z_geti (by decide) (by decide) (Or.inr rfl))
theorem mj_310_4 : mc_P 310 4 = some (.ifCond .eq 7, 3, 0, 0, 0) := by decide +kernel
theorem s_310_4 {x0 : Option Value} {x : Int32} : mw d 310 Q 4 [x0] (.int x :: st) h = mB (x = 0) (mw d 310 Q) 11 7 [x0] st h := (mw_at mj_310_4).trans (z_if_eq (by decide) rfl)
theorem mj_310_7 : mc_P 310 7 = some (.iconst 1, 1, 0, 0, 0) := by decide +kernel
theorem s_310_7 {x0 : Option Value} : mw d 310 Q 7 [x0] (st) h = mw d 310 Q 8 [x0] (.int 1 :: st) h := (mw_at mj_310_7).trans (z_iconst (by decide))
theorem mj_310_8 : mc_P 310 8 = some (.goto 12, 3, 0, 0, 0) := by decide +kernel
theorem s_310_8 {x0 : Option Value} : mw d 310 Q 8 [x0] (st) h = mw d 310 Q 20 [x0] (st) h := (mw_at mj_310_8).trans (z_goto (by decide))
theorem mj_310_11 : mc_P 310 11 = some (.aload_n 0, 1, 0, 0, 0) := by decide +kernel
theorem s_310_11 {w : Value} : mw d 310 Q 11 [some w] (st) h = mv_a w (mw d 310 Q 12 [some w] (w :: st) h) := (mw_at mj_310_11).trans (z_aload_n rfl)
theorem mj_310_12 : mc_P 310 12 = some (.getfield 13, 3, 14, 4, 0) := by decide +kernel
theorem s_310_12 {x0 : Option Value} {o : Nat} : mw d 310 Q 12 [x0] (.ref o :: st) h = (mg h o 14 ∧ mw d 310 Q 15 [x0] (va_rf (mh_r h o 4) :: st) h) := (mw_at mj_310_12).trans (z_getr (by decide) (by decide) rfl)
theorem mj_310_15 : mc_P 310 15 = some (.aload_n 0, 1, 0, 0, 0) := by decide +kernel
theorem s_310_15 {w : Value} : mw d 310 Q 15 [some w] (st) h = mv_a w (mw d 310 Q 16 [some w] (w :: st) h) := (mw_at mj_310_15).trans (z_aload_n rfl)
theorem mj_310_16 : mc_P 310 16 = some (.getfield 246, 3, 14, 8, 0) := by decide +kernel
theorem s_310_16 {x0 : Option Value} {o : Nat} : mw d 310 Q 16 [x0] (.ref o :: st) h = (mg h o 14 ∧ mw d 310 Q 19 [x0] (.int (mh_i h o 8) :: st) h) := (mw_at mj_310_16).trans (z_geti (by decide) (by decide) (Or.inl rfl))
theorem mj_310_19 : mc_P 310 19 = some (.iaload, 1, 0, 0, 0) := by decide +kernel
theorem s_310_19 {x0 : Option Value} {o : Nat} {i : Int32} : mw d 310 Q 19 [x0] (.int i :: .ref o :: st) h = (mg h o 100 ∧ mx i (mh_l h o) ∧ mw d 310 Q 20 [x0] (.int (mh_i h o i.toNatClampNeg) :: st) h) := (mw_at mj_310_19).trans (z_iald)
theorem mj_310_20 : mc_P 310 20 = some (.ireturn, 1, 0, 0, 0) := by decide +kernel
theorem s_310_20 {x0 : Option Value} {x : Int32} : mw d 310 Q 20 [x0] ([.int x]) h = (Q (some (.int x)) h) := (mw_at mj_310_20).trans (z_iret)
theorem e_310 {a0 : Nat} : mcall d 310 [.ref a0] h Q = mw d 310 Q 0 [some (.ref a0)] [] h := by
  show mw d 310 Q 0 (me_en (mc_nl 310) _) [] h = _
  rw [nl_310]; rfl

/-! InvariantDeskModel.need(Z)V -/
theorem mj_311_0 : mc_P 311 0 = some (.iload_n 1, 1, 0, 0, 0) := by decide +kernel
theorem s_311_0 {x0 : Option Value} {w : Value} : mw d 311 Q 0 [x0, some w] (st) h = mv_i w (mw d 311 Q 1 [x0, some w] (w :: st) h) := (mw_at mj_311_0).trans (z_iload_n rfl)
theorem mj_311_1 : mc_P 311 1 = some (.ifCond .ne 28, 3, 0, 0, 0) := by decide +kernel
theorem s_311_1 {x0 x1 : Option Value} {x : Int32} : mw d 311 Q 1 [x0, x1] (.int x :: st) h = mB (¬ x = 0) (mw d 311 Q) 29 4 [x0, x1] st h := (mw_at mj_311_1).trans (z_if_ne (by decide) rfl)
theorem mj_311_4 : mc_P 311 4 = some (.aload_n 0, 1, 0, 0, 0) := by decide +kernel
theorem s_311_4 {x1 : Option Value} {w : Value} : mw d 311 Q 4 [some w, x1] (st) h = mv_a w (mw d 311 Q 5 [some w, x1] (w :: st) h) := (mw_at mj_311_4).trans (z_aload_n rfl)
theorem mj_311_5 : mc_P 311 5 = some (.getfield 242, 3, 14, 9, 0) := by decide +kernel
theorem s_311_5 {x0 x1 : Option Value} {o : Nat} : mw d 311 Q 5 [x0, x1] (.ref o :: st) h = (mg h o 14 ∧ mw d 311 Q 8 [x0, x1] (.int (mh_i h o 9) :: st) h) := (mw_at mj_311_5).trans (z_geti (by decide) (by decide) (Or.inr rfl))
theorem mj_311_8 : mc_P 311 8 = some (.ifCond .ne 21, 3, 0, 0, 0) := by decide +kernel
theorem s_311_8 {x0 x1 : Option Value} {x : Int32} : mw d 311 Q 8 [x0, x1] (.int x :: st) h = mB (¬ x = 0) (mw d 311 Q) 29 11 [x0, x1] st h := (mw_at mj_311_8).trans (z_if_ne (by decide) rfl)
theorem mj_311_11 : mc_P 311 11 = some (.aload_n 0, 1, 0, 0, 0) := by decide +kernel
theorem s_311_11 {x1 : Option Value} {w : Value} : mw d 311 Q 11 [some w, x1] (st) h = mv_a w (mw d 311 Q 12 [some w, x1] (w :: st) h) := (mw_at mj_311_11).trans (z_aload_n rfl)
theorem mj_311_12 : mc_P 311 12 = some (.iconst 1, 1, 0, 0, 0) := by decide +kernel
theorem s_311_12 {x0 x1 : Option Value} : mw d 311 Q 12 [x0, x1] (st) h = mw d 311 Q 13 [x0, x1] (.int 1 :: st) h := (mw_at mj_311_12).trans (z_iconst (by decide))
theorem mj_311_13 : mc_P 311 13 = some (.putfield 242, 3, 14, 9, 0) := by decide +kernel
theorem s_311_13 {x0 x1 : Option Value} {o : Nat} {w : Int32} : mw d 311 Q 13 [x0, x1] (.int w :: .ref o :: st) h = (mg h o 14 ∧ (w = 0 ∨ w = 1) ∧ mw d 311 Q 16 [x0, x1] (st) (mh_si h o 9 w)) := (mw_at mj_311_13).trans (z_putz (by decide) (by decide) rfl)
theorem mj_311_16 : mc_P 311 16 = some (.aload_n 0, 1, 0, 0, 0) := by decide +kernel
theorem s_311_16 {x1 : Option Value} {w : Value} : mw d 311 Q 16 [some w, x1] (st) h = mv_a w (mw d 311 Q 17 [some w, x1] (w :: st) h) := (mw_at mj_311_16).trans (z_aload_n rfl)
theorem mj_311_17 : mc_P 311 17 = some (.aload_n 0, 1, 0, 0, 0) := by decide +kernel
theorem s_311_17 {x1 : Option Value} {w : Value} : mw d 311 Q 17 [some w, x1] (st) h = mv_a w (mw d 311 Q 18 [some w, x1] (w :: st) h) := (mw_at mj_311_17).trans (z_aload_n rfl)
theorem mj_311_18 : mc_P 311 18 = some (.getfield 16, 3, 14, 5, 0) := by decide +kernel
theorem s_311_18 {x0 x1 : Option Value} {o : Nat} : mw d 311 Q 18 [x0, x1] (.ref o :: st) h = (mg h o 14 ∧ mw d 311 Q 21 [x0, x1] (va_rf (mh_r h o 5) :: st) h) := (mw_at mj_311_18).trans (z_getr (by decide) (by decide) rfl)
theorem mj_311_21 : mc_P 311 21 = some (.aload_n 0, 1, 0, 0, 0) := by decide +kernel
theorem s_311_21 {x1 : Option Value} {w : Value} : mw d 311 Q 21 [some w, x1] (st) h = mv_a w (mw d 311 Q 22 [some w, x1] (w :: st) h) := (mw_at mj_311_21).trans (z_aload_n rfl)
theorem mj_311_22 : mc_P 311 22 = some (.getfield 246, 3, 14, 8, 0) := by decide +kernel
theorem s_311_22 {x0 x1 : Option Value} {o : Nat} : mw d 311 Q 22 [x0, x1] (.ref o :: st) h = (mg h o 14 ∧ mw d 311 Q 25 [x0, x1] (.int (mh_i h o 8) :: st) h) := (mw_at mj_311_22).trans (z_geti (by decide) (by decide) (Or.inl rfl))
theorem mj_311_25 : mc_P 311 25 = some (.iaload, 1, 0, 0, 0) := by decide +kernel
theorem s_311_25 {x0 x1 : Option Value} {o : Nat} {i : Int32} : mw d 311 Q 25 [x0, x1] (.int i :: .ref o :: st) h = (mg h o 100 ∧ mx i (mh_l h o) ∧ mw d 311 Q 26 [x0, x1] (.int (mh_i h o i.toNatClampNeg) :: st) h) := (mw_at mj_311_25).trans (z_iald)
theorem mj_311_26 : mc_P 311 26 = some (.putfield 22, 3, 14, 10, 0) := by decide +kernel
theorem s_311_26 {x0 x1 : Option Value} {o : Nat} {w : Int32} : mw d 311 Q 26 [x0, x1] (.int w :: .ref o :: st) h = (mg h o 14 ∧ mw d 311 Q 29 [x0, x1] (st) (mh_si h o 10 w)) := (mw_at mj_311_26).trans (z_puti (by decide) (by decide) rfl)
theorem mj_311_29 : mc_P 311 29 = some (.return_, 1, 0, 0, 0) := by decide +kernel
theorem s_311_29 {x0 x1 : Option Value} : mw d 311 Q 29 [x0, x1] ([]) h = Q none h := (mw_at mj_311_29).trans (z_vret)
theorem e_311 {a0 : Nat} {a1 : Int32} : mcall d 311 [.ref a0, .int a1] h Q = mw d 311 Q 0 [some (.ref a0), some (.int a1)] [] h := by
  show mw d 311 Q 0 (me_en (mc_nl 311) _) [] h = _
  rw [nl_311]; rfl

/-! InvariantDeskModel.take(I)V -/
theorem mj_312_0 : mc_P 312 0 = some (.aload_n 0, 1, 0, 0, 0) := by decide +kernel
theorem s_312_0 {x1 : Option Value} {w : Value} : mw d 312 Q 0 [some w, x1] (st) h = mv_a w (mw d 312 Q 1 [some w, x1] (w :: st) h) := (mw_at mj_312_0).trans (z_aload_n rfl)
theorem mj_312_1 : mc_P 312 1 = some (.aload_n 0, 1, 0, 0, 0) := by decide +kernel
theorem s_312_1 {x1 : Option Value} {w : Value} : mw d 312 Q 1 [some w, x1] (st) h = mv_a w (mw d 312 Q 2 [some w, x1] (w :: st) h) := (mw_at mj_312_1).trans (z_aload_n rfl)
theorem mj_312_2 : mc_P 312 2 = some (.invokevirtual 249, 3, 310, 14, 1) := by decide +kernel
theorem s_312_2 {x0 x1 : Option Value} {o : Nat} : mw (d + 1) 312 Q 2 [x0, x1] (.ref o :: st) h = (mg h o 14 ∧ mca st 8 ∧ mca [.ref o] 1 ∧ mcall d 310 [.ref o] h (mK (d + 1) 312 Q 5 [x0, x1] st)) := (mw_at mj_312_2).trans ((z_invv (As := []) (by decide) rfl rfl).trans (congrArg (And _) (congrArg (And _) (mC_nl nl_310))))
theorem mj_312_5 : mc_P 312 5 = some (.iload_n 1, 1, 0, 0, 0) := by decide +kernel
theorem s_312_5 {x0 : Option Value} {w : Value} : mw d 312 Q 5 [x0, some w] (st) h = mv_i w (mw d 312 Q 6 [x0, some w] (w :: st) h) := (mw_at mj_312_5).trans (z_iload_n rfl)
theorem mj_312_6 : mc_P 312 6 = some (.if_icmp .ne 7, 3, 0, 0, 0) := by decide +kernel
theorem s_312_6 {x0 x1 : Option Value} {x w : Int32} : mw d 312 Q 6 [x0, x1] (.int w :: .int x :: st) h = mB (¬ x = w) (mw d 312 Q) 13 9 [x0, x1] st h := (mw_at mj_312_6).trans (z_icmp_ne (by decide) rfl)
theorem mj_312_9 : mc_P 312 9 = some (.iconst 1, 1, 0, 0, 0) := by decide +kernel
theorem s_312_9 {x0 x1 : Option Value} : mw d 312 Q 9 [x0, x1] (st) h = mw d 312 Q 10 [x0, x1] (.int 1 :: st) h := (mw_at mj_312_9).trans (z_iconst (by decide))
theorem mj_312_10 : mc_P 312 10 = some (.goto 4, 3, 0, 0, 0) := by decide +kernel
theorem s_312_10 {x0 x1 : Option Value} : mw d 312 Q 10 [x0, x1] (st) h = mw d 312 Q 14 [x0, x1] (st) h := (mw_at mj_312_10).trans (z_goto (by decide))
theorem mj_312_13 : mc_P 312 13 = some (.iconst 0, 1, 0, 0, 0) := by decide +kernel
theorem s_312_13 {x0 x1 : Option Value} : mw d 312 Q 13 [x0, x1] (st) h = mw d 312 Q 14 [x0, x1] (.int 0 :: st) h := (mw_at mj_312_13).trans (z_iconst (by decide))
theorem mj_312_14 : mc_P 312 14 = some (.invokevirtual 252, 3, 311, 14, 2) := by decide +kernel
theorem s_312_14 {x0 x1 : Option Value} {o : Nat} {a1 : Value} : mw (d + 1) 312 Q 14 [x0, x1] (a1 :: .ref o :: st) h = (mg h o 14 ∧ mca st 8 ∧ mca [.ref o, a1] 2 ∧ mcall d 311 [.ref o, a1] h (mK (d + 1) 312 Q 17 [x0, x1] st)) := (mw_at mj_312_14).trans ((z_invv (As := [a1]) (by decide) rfl rfl).trans (congrArg (And _) (congrArg (And _) (mC_nl nl_311))))
theorem mj_312_17 : mc_P 312 17 = some (.aload_n 0, 1, 0, 0, 0) := by decide +kernel
theorem s_312_17 {x1 : Option Value} {w : Value} : mw d 312 Q 17 [some w, x1] (st) h = mv_a w (mw d 312 Q 18 [some w, x1] (w :: st) h) := (mw_at mj_312_17).trans (z_aload_n rfl)
theorem mj_312_18 : mc_P 312 18 = some (.aload_n 0, 1, 0, 0, 0) := by decide +kernel
theorem s_312_18 {x1 : Option Value} {w : Value} : mw d 312 Q 18 [some w, x1] (st) h = mv_a w (mw d 312 Q 19 [some w, x1] (w :: st) h) := (mw_at mj_312_18).trans (z_aload_n rfl)
theorem mj_312_19 : mc_P 312 19 = some (.getfield 242, 3, 14, 9, 0) := by decide +kernel
theorem s_312_19 {x0 x1 : Option Value} {o : Nat} : mw d 312 Q 19 [x0, x1] (.ref o :: st) h = (mg h o 14 ∧ mw d 312 Q 22 [x0, x1] (.int (mh_i h o 9) :: st) h) := (mw_at mj_312_19).trans (z_geti (by decide) (by decide) (Or.inr rfl))
theorem mj_312_22 : mc_P 312 22 = some (.ifCond .eq 10, 3, 0, 0, 0) := by decide +kernel
theorem s_312_22 {x0 x1 : Option Value} {x : Int32} : mw d 312 Q 22 [x0, x1] (.int x :: st) h = mB (x = 0) (mw d 312 Q) 32 25 [x0, x1] st h := (mw_at mj_312_22).trans (z_if_eq (by decide) rfl)
theorem mj_312_25 : mc_P 312 25 = some (.aload_n 0, 1, 0, 0, 0) := by decide +kernel
theorem s_312_25 {x1 : Option Value} {w : Value} : mw d 312 Q 25 [some w, x1] (st) h = mv_a w (mw d 312 Q 26 [some w, x1] (w :: st) h) := (mw_at mj_312_25).trans (z_aload_n rfl)
theorem mj_312_26 : mc_P 312 26 = some (.getfield 246, 3, 14, 8, 0) := by decide +kernel
theorem s_312_26 {x0 x1 : Option Value} {o : Nat} : mw d 312 Q 26 [x0, x1] (.ref o :: st) h = (mg h o 14 ∧ mw d 312 Q 29 [x0, x1] (.int (mh_i h o 8) :: st) h) := (mw_at mj_312_26).trans (z_geti (by decide) (by decide) (Or.inl rfl))
theorem mj_312_29 : mc_P 312 29 = some (.goto 9, 3, 0, 0, 0) := by decide +kernel
theorem s_312_29 {x0 x1 : Option Value} : mw d 312 Q 29 [x0, x1] (st) h = mw d 312 Q 38 [x0, x1] (st) h := (mw_at mj_312_29).trans (z_goto (by decide))
theorem mj_312_32 : mc_P 312 32 = some (.aload_n 0, 1, 0, 0, 0) := by decide +kernel
theorem s_312_32 {x1 : Option Value} {w : Value} : mw d 312 Q 32 [some w, x1] (st) h = mv_a w (mw d 312 Q 33 [some w, x1] (w :: st) h) := (mw_at mj_312_32).trans (z_aload_n rfl)
theorem mj_312_33 : mc_P 312 33 = some (.getfield 246, 3, 14, 8, 0) := by decide +kernel
theorem s_312_33 {x0 x1 : Option Value} {o : Nat} : mw d 312 Q 33 [x0, x1] (.ref o :: st) h = (mg h o 14 ∧ mw d 312 Q 36 [x0, x1] (.int (mh_i h o 8) :: st) h) := (mw_at mj_312_33).trans (z_geti (by decide) (by decide) (Or.inl rfl))
theorem mj_312_36 : mc_P 312 36 = some (.iconst 1, 1, 0, 0, 0) := by decide +kernel
theorem s_312_36 {x0 x1 : Option Value} : mw d 312 Q 36 [x0, x1] (st) h = mw d 312 Q 37 [x0, x1] (.int 1 :: st) h := (mw_at mj_312_36).trans (z_iconst (by decide))
theorem mj_312_37 : mc_P 312 37 = some (.iadd, 1, 0, 0, 0) := by decide +kernel
theorem s_312_37 {x0 x1 : Option Value} {x w : Int32} : mw d 312 Q 37 [x0, x1] (.int w :: .int x :: st) h = mw d 312 Q 38 [x0, x1] (.int (x + w) :: st) h := (mw_at mj_312_37).trans (z_iadd)
theorem mj_312_38 : mc_P 312 38 = some (.putfield 246, 3, 14, 8, 0) := by decide +kernel
theorem s_312_38 {x0 x1 : Option Value} {o : Nat} {w : Int32} : mw d 312 Q 38 [x0, x1] (.int w :: .ref o :: st) h = (mg h o 14 ∧ mw d 312 Q 41 [x0, x1] (st) (mh_si h o 8 w)) := (mw_at mj_312_38).trans (z_puti (by decide) (by decide) rfl)
theorem mj_312_41 : mc_P 312 41 = some (.return_, 1, 0, 0, 0) := by decide +kernel
theorem s_312_41 {x0 x1 : Option Value} : mw d 312 Q 41 [x0, x1] ([]) h = Q none h := (mw_at mj_312_41).trans (z_vret)
theorem e_312 {a0 : Nat} {a1 : Int32} : mcall d 312 [.ref a0, .int a1] h Q = mw d 312 Q 0 [some (.ref a0), some (.int a1)] [] h := by
  show mw d 312 Q 0 (me_en (mc_nl 312) _) [] h = _
  rw [nl_312]; rfl

/-! InvariantDeskModel.draft(III)I -/
theorem mj_313_0 : mc_P 313 0 = some (.aload_n 0, 1, 0, 0, 0) := by decide +kernel
theorem s_313_0 {x1 x2 x3 : Option Value} {w : Value} : mw d 313 Q 0 [some w, x1, x2, x3] (st) h = mv_a w (mw d 313 Q 1 [some w, x1, x2, x3] (w :: st) h) := (mw_at mj_313_0).trans (z_aload_n rfl)
theorem mj_313_1 : mc_P 313 1 = some (.getfield 27, 3, 14, 11, 0) := by decide +kernel
theorem s_313_1 {x0 x1 x2 x3 : Option Value} {o : Nat} : mw d 313 Q 1 [x0, x1, x2, x3] (.ref o :: st) h = (mg h o 14 ∧ mw d 313 Q 4 [x0, x1, x2, x3] (va_rf (mh_r h o 11) :: st) h) := (mw_at mj_313_1).trans (z_getr (by decide) (by decide) rfl)
theorem mj_313_4 : mc_P 313 4 = some (.aload_n 0, 1, 0, 0, 0) := by decide +kernel
theorem s_313_4 {x1 x2 x3 : Option Value} {w : Value} : mw d 313 Q 4 [some w, x1, x2, x3] (st) h = mv_a w (mw d 313 Q 5 [some w, x1, x2, x3] (w :: st) h) := (mw_at mj_313_4).trans (z_aload_n rfl)
theorem mj_313_5 : mc_P 313 5 = some (.getfield 256, 3, 14, 17, 0) := by decide +kernel
theorem s_313_5 {x0 x1 x2 x3 : Option Value} {o : Nat} : mw d 313 Q 5 [x0, x1, x2, x3] (.ref o :: st) h = (mg h o 14 ∧ mw d 313 Q 8 [x0, x1, x2, x3] (.int (mh_i h o 17) :: st) h) := (mw_at mj_313_5).trans (z_geti (by decide) (by decide) (Or.inl rfl))
theorem mj_313_8 : mc_P 313 8 = some (.iload_n 1, 1, 0, 0, 0) := by decide +kernel
theorem s_313_8 {x0 x2 x3 : Option Value} {w : Value} : mw d 313 Q 8 [x0, some w, x2, x3] (st) h = mv_i w (mw d 313 Q 9 [x0, some w, x2, x3] (w :: st) h) := (mw_at mj_313_8).trans (z_iload_n rfl)
theorem mj_313_9 : mc_P 313 9 = some (.iastore, 1, 0, 0, 0) := by decide +kernel
theorem s_313_9 {x0 x1 x2 x3 : Option Value} {o : Nat} {i w : Int32} : mw d 313 Q 9 [x0, x1, x2, x3] (.int w :: .int i :: .ref o :: st) h = (mg h o 100 ∧ mx i (mh_l h o) ∧ mw d 313 Q 10 [x0, x1, x2, x3] (st) (mh_si h o i.toNatClampNeg w)) := (mw_at mj_313_9).trans (z_iast)
theorem mj_313_10 : mc_P 313 10 = some (.aload_n 0, 1, 0, 0, 0) := by decide +kernel
theorem s_313_10 {x1 x2 x3 : Option Value} {w : Value} : mw d 313 Q 10 [some w, x1, x2, x3] (st) h = mv_a w (mw d 313 Q 11 [some w, x1, x2, x3] (w :: st) h) := (mw_at mj_313_10).trans (z_aload_n rfl)
theorem mj_313_11 : mc_P 313 11 = some (.getfield 30, 3, 14, 12, 0) := by decide +kernel
theorem s_313_11 {x0 x1 x2 x3 : Option Value} {o : Nat} : mw d 313 Q 11 [x0, x1, x2, x3] (.ref o :: st) h = (mg h o 14 ∧ mw d 313 Q 14 [x0, x1, x2, x3] (va_rf (mh_r h o 12) :: st) h) := (mw_at mj_313_11).trans (z_getr (by decide) (by decide) rfl)
theorem mj_313_14 : mc_P 313 14 = some (.aload_n 0, 1, 0, 0, 0) := by decide +kernel
theorem s_313_14 {x1 x2 x3 : Option Value} {w : Value} : mw d 313 Q 14 [some w, x1, x2, x3] (st) h = mv_a w (mw d 313 Q 15 [some w, x1, x2, x3] (w :: st) h) := (mw_at mj_313_14).trans (z_aload_n rfl)
theorem mj_313_15 : mc_P 313 15 = some (.getfield 256, 3, 14, 17, 0) := by decide +kernel
theorem s_313_15 {x0 x1 x2 x3 : Option Value} {o : Nat} : mw d 313 Q 15 [x0, x1, x2, x3] (.ref o :: st) h = (mg h o 14 ∧ mw d 313 Q 18 [x0, x1, x2, x3] (.int (mh_i h o 17) :: st) h) := (mw_at mj_313_15).trans (z_geti (by decide) (by decide) (Or.inl rfl))
theorem mj_313_18 : mc_P 313 18 = some (.iload_n 2, 1, 0, 0, 0) := by decide +kernel
theorem s_313_18 {x0 x1 x3 : Option Value} {w : Value} : mw d 313 Q 18 [x0, x1, some w, x3] (st) h = mv_i w (mw d 313 Q 19 [x0, x1, some w, x3] (w :: st) h) := (mw_at mj_313_18).trans (z_iload_n rfl)
theorem mj_313_19 : mc_P 313 19 = some (.iastore, 1, 0, 0, 0) := by decide +kernel
theorem s_313_19 {x0 x1 x2 x3 : Option Value} {o : Nat} {i w : Int32} : mw d 313 Q 19 [x0, x1, x2, x3] (.int w :: .int i :: .ref o :: st) h = (mg h o 100 ∧ mx i (mh_l h o) ∧ mw d 313 Q 20 [x0, x1, x2, x3] (st) (mh_si h o i.toNatClampNeg w)) := (mw_at mj_313_19).trans (z_iast)
theorem mj_313_20 : mc_P 313 20 = some (.aload_n 0, 1, 0, 0, 0) := by decide +kernel
theorem s_313_20 {x1 x2 x3 : Option Value} {w : Value} : mw d 313 Q 20 [some w, x1, x2, x3] (st) h = mv_a w (mw d 313 Q 21 [some w, x1, x2, x3] (w :: st) h) := (mw_at mj_313_20).trans (z_aload_n rfl)
theorem mj_313_21 : mc_P 313 21 = some (.getfield 33, 3, 14, 13, 0) := by decide +kernel
theorem s_313_21 {x0 x1 x2 x3 : Option Value} {o : Nat} : mw d 313 Q 21 [x0, x1, x2, x3] (.ref o :: st) h = (mg h o 14 ∧ mw d 313 Q 24 [x0, x1, x2, x3] (va_rf (mh_r h o 13) :: st) h) := (mw_at mj_313_21).trans (z_getr (by decide) (by decide) rfl)
theorem mj_313_24 : mc_P 313 24 = some (.aload_n 0, 1, 0, 0, 0) := by decide +kernel
theorem s_313_24 {x1 x2 x3 : Option Value} {w : Value} : mw d 313 Q 24 [some w, x1, x2, x3] (st) h = mv_a w (mw d 313 Q 25 [some w, x1, x2, x3] (w :: st) h) := (mw_at mj_313_24).trans (z_aload_n rfl)
theorem mj_313_25 : mc_P 313 25 = some (.getfield 256, 3, 14, 17, 0) := by decide +kernel
theorem s_313_25 {x0 x1 x2 x3 : Option Value} {o : Nat} : mw d 313 Q 25 [x0, x1, x2, x3] (.ref o :: st) h = (mg h o 14 ∧ mw d 313 Q 28 [x0, x1, x2, x3] (.int (mh_i h o 17) :: st) h) := (mw_at mj_313_25).trans (z_geti (by decide) (by decide) (Or.inl rfl))
theorem mj_313_28 : mc_P 313 28 = some (.iload_n 3, 1, 0, 0, 0) := by decide +kernel
theorem s_313_28 {x0 x1 x2 : Option Value} {w : Value} : mw d 313 Q 28 [x0, x1, x2, some w] (st) h = mv_i w (mw d 313 Q 29 [x0, x1, x2, some w] (w :: st) h) := (mw_at mj_313_28).trans (z_iload_n rfl)
theorem mj_313_29 : mc_P 313 29 = some (.iastore, 1, 0, 0, 0) := by decide +kernel
theorem s_313_29 {x0 x1 x2 x3 : Option Value} {o : Nat} {i w : Int32} : mw d 313 Q 29 [x0, x1, x2, x3] (.int w :: .int i :: .ref o :: st) h = (mg h o 100 ∧ mx i (mh_l h o) ∧ mw d 313 Q 30 [x0, x1, x2, x3] (st) (mh_si h o i.toNatClampNeg w)) := (mw_at mj_313_29).trans (z_iast)
theorem mj_313_30 : mc_P 313 30 = some (.aload_n 0, 1, 0, 0, 0) := by decide +kernel
theorem s_313_30 {x1 x2 x3 : Option Value} {w : Value} : mw d 313 Q 30 [some w, x1, x2, x3] (st) h = mv_a w (mw d 313 Q 31 [some w, x1, x2, x3] (w :: st) h) := (mw_at mj_313_30).trans (z_aload_n rfl)
theorem mj_313_31 : mc_P 313 31 = some (.getfield 36, 3, 14, 14, 0) := by decide +kernel
theorem s_313_31 {x0 x1 x2 x3 : Option Value} {o : Nat} : mw d 313 Q 31 [x0, x1, x2, x3] (.ref o :: st) h = (mg h o 14 ∧ mw d 313 Q 34 [x0, x1, x2, x3] (va_rf (mh_r h o 14) :: st) h) := (mw_at mj_313_31).trans (z_getr (by decide) (by decide) rfl)
theorem mj_313_34 : mc_P 313 34 = some (.aload_n 0, 1, 0, 0, 0) := by decide +kernel
theorem s_313_34 {x1 x2 x3 : Option Value} {w : Value} : mw d 313 Q 34 [some w, x1, x2, x3] (st) h = mv_a w (mw d 313 Q 35 [some w, x1, x2, x3] (w :: st) h) := (mw_at mj_313_34).trans (z_aload_n rfl)
theorem mj_313_35 : mc_P 313 35 = some (.getfield 256, 3, 14, 17, 0) := by decide +kernel
theorem s_313_35 {x0 x1 x2 x3 : Option Value} {o : Nat} : mw d 313 Q 35 [x0, x1, x2, x3] (.ref o :: st) h = (mg h o 14 ∧ mw d 313 Q 38 [x0, x1, x2, x3] (.int (mh_i h o 17) :: st) h) := (mw_at mj_313_35).trans (z_geti (by decide) (by decide) (Or.inl rfl))
theorem mj_313_38 : mc_P 313 38 = some (.iconst (-1), 1, 0, 0, 0) := by decide +kernel
theorem s_313_38 {x0 x1 x2 x3 : Option Value} : mw d 313 Q 38 [x0, x1, x2, x3] (st) h = mw d 313 Q 39 [x0, x1, x2, x3] (.int (-1) :: st) h := (mw_at mj_313_38).trans (z_iconst (by decide))
theorem mj_313_39 : mc_P 313 39 = some (.iastore, 1, 0, 0, 0) := by decide +kernel
theorem s_313_39 {x0 x1 x2 x3 : Option Value} {o : Nat} {i w : Int32} : mw d 313 Q 39 [x0, x1, x2, x3] (.int w :: .int i :: .ref o :: st) h = (mg h o 100 ∧ mx i (mh_l h o) ∧ mw d 313 Q 40 [x0, x1, x2, x3] (st) (mh_si h o i.toNatClampNeg w)) := (mw_at mj_313_39).trans (z_iast)
theorem mj_313_40 : mc_P 313 40 = some (.aload_n 0, 1, 0, 0, 0) := by decide +kernel
theorem s_313_40 {x1 x2 x3 : Option Value} {w : Value} : mw d 313 Q 40 [some w, x1, x2, x3] (st) h = mv_a w (mw d 313 Q 41 [some w, x1, x2, x3] (w :: st) h) := (mw_at mj_313_40).trans (z_aload_n rfl)
theorem mj_313_41 : mc_P 313 41 = some (.getfield 39, 3, 14, 15, 0) := by decide +kernel
theorem s_313_41 {x0 x1 x2 x3 : Option Value} {o : Nat} : mw d 313 Q 41 [x0, x1, x2, x3] (.ref o :: st) h = (mg h o 14 ∧ mw d 313 Q 44 [x0, x1, x2, x3] (va_rf (mh_r h o 15) :: st) h) := (mw_at mj_313_41).trans (z_getr (by decide) (by decide) rfl)
theorem mj_313_44 : mc_P 313 44 = some (.aload_n 0, 1, 0, 0, 0) := by decide +kernel
theorem s_313_44 {x1 x2 x3 : Option Value} {w : Value} : mw d 313 Q 44 [some w, x1, x2, x3] (st) h = mv_a w (mw d 313 Q 45 [some w, x1, x2, x3] (w :: st) h) := (mw_at mj_313_44).trans (z_aload_n rfl)
theorem mj_313_45 : mc_P 313 45 = some (.getfield 256, 3, 14, 17, 0) := by decide +kernel
theorem s_313_45 {x0 x1 x2 x3 : Option Value} {o : Nat} : mw d 313 Q 45 [x0, x1, x2, x3] (.ref o :: st) h = (mg h o 14 ∧ mw d 313 Q 48 [x0, x1, x2, x3] (.int (mh_i h o 17) :: st) h) := (mw_at mj_313_45).trans (z_geti (by decide) (by decide) (Or.inl rfl))
theorem mj_313_48 : mc_P 313 48 = some (.iconst (-1), 1, 0, 0, 0) := by decide +kernel
theorem s_313_48 {x0 x1 x2 x3 : Option Value} : mw d 313 Q 48 [x0, x1, x2, x3] (st) h = mw d 313 Q 49 [x0, x1, x2, x3] (.int (-1) :: st) h := (mw_at mj_313_48).trans (z_iconst (by decide))
theorem mj_313_49 : mc_P 313 49 = some (.iastore, 1, 0, 0, 0) := by decide +kernel
theorem s_313_49 {x0 x1 x2 x3 : Option Value} {o : Nat} {i w : Int32} : mw d 313 Q 49 [x0, x1, x2, x3] (.int w :: .int i :: .ref o :: st) h = (mg h o 100 ∧ mx i (mh_l h o) ∧ mw d 313 Q 50 [x0, x1, x2, x3] (st) (mh_si h o i.toNatClampNeg w)) := (mw_at mj_313_49).trans (z_iast)
theorem mj_313_50 : mc_P 313 50 = some (.aload_n 0, 1, 0, 0, 0) := by decide +kernel
theorem s_313_50 {x1 x2 x3 : Option Value} {w : Value} : mw d 313 Q 50 [some w, x1, x2, x3] (st) h = mv_a w (mw d 313 Q 51 [some w, x1, x2, x3] (w :: st) h) := (mw_at mj_313_50).trans (z_aload_n rfl)
theorem mj_313_51 : mc_P 313 51 = some (.getfield 42, 3, 14, 16, 0) := by decide +kernel
theorem s_313_51 {x0 x1 x2 x3 : Option Value} {o : Nat} : mw d 313 Q 51 [x0, x1, x2, x3] (.ref o :: st) h = (mg h o 14 ∧ mw d 313 Q 54 [x0, x1, x2, x3] (va_rf (mh_r h o 16) :: st) h) := (mw_at mj_313_51).trans (z_getr (by decide) (by decide) rfl)
theorem mj_313_54 : mc_P 313 54 = some (.aload_n 0, 1, 0, 0, 0) := by decide +kernel
theorem s_313_54 {x1 x2 x3 : Option Value} {w : Value} : mw d 313 Q 54 [some w, x1, x2, x3] (st) h = mv_a w (mw d 313 Q 55 [some w, x1, x2, x3] (w :: st) h) := (mw_at mj_313_54).trans (z_aload_n rfl)
theorem mj_313_55 : mc_P 313 55 = some (.getfield 256, 3, 14, 17, 0) := by decide +kernel
theorem s_313_55 {x0 x1 x2 x3 : Option Value} {o : Nat} : mw d 313 Q 55 [x0, x1, x2, x3] (.ref o :: st) h = (mg h o 14 ∧ mw d 313 Q 58 [x0, x1, x2, x3] (.int (mh_i h o 17) :: st) h) := (mw_at mj_313_55).trans (z_geti (by decide) (by decide) (Or.inl rfl))
theorem mj_313_58 : mc_P 313 58 = some (.iconst (-1), 1, 0, 0, 0) := by decide +kernel
theorem s_313_58 {x0 x1 x2 x3 : Option Value} : mw d 313 Q 58 [x0, x1, x2, x3] (st) h = mw d 313 Q 59 [x0, x1, x2, x3] (.int (-1) :: st) h := (mw_at mj_313_58).trans (z_iconst (by decide))
theorem mj_313_59 : mc_P 313 59 = some (.iastore, 1, 0, 0, 0) := by decide +kernel
theorem s_313_59 {x0 x1 x2 x3 : Option Value} {o : Nat} {i w : Int32} : mw d 313 Q 59 [x0, x1, x2, x3] (.int w :: .int i :: .ref o :: st) h = (mg h o 100 ∧ mx i (mh_l h o) ∧ mw d 313 Q 60 [x0, x1, x2, x3] (st) (mh_si h o i.toNatClampNeg w)) := (mw_at mj_313_59).trans (z_iast)
theorem mj_313_60 : mc_P 313 60 = some (.aload_n 0, 1, 0, 0, 0) := by decide +kernel
theorem s_313_60 {x1 x2 x3 : Option Value} {w : Value} : mw d 313 Q 60 [some w, x1, x2, x3] (st) h = mv_a w (mw d 313 Q 61 [some w, x1, x2, x3] (w :: st) h) := (mw_at mj_313_60).trans (z_aload_n rfl)
theorem mj_313_61 : mc_P 313 61 = some (.dup, 1, 0, 0, 0) := by decide +kernel
theorem s_313_61 {x0 x1 x2 x3 : Option Value} {w : Value} : mw d 313 Q 61 [x0, x1, x2, x3] (w :: st) h = (w.category = 1 ∧ mw d 313 Q 62 [x0, x1, x2, x3] (w :: w :: st) h) := (mw_at mj_313_61).trans (z_dup)
theorem mj_313_62 : mc_P 313 62 = some (.getfield 256, 3, 14, 17, 0) := by decide +kernel
theorem s_313_62 {x0 x1 x2 x3 : Option Value} {o : Nat} : mw d 313 Q 62 [x0, x1, x2, x3] (.ref o :: st) h = (mg h o 14 ∧ mw d 313 Q 65 [x0, x1, x2, x3] (.int (mh_i h o 17) :: st) h) := (mw_at mj_313_62).trans (z_geti (by decide) (by decide) (Or.inl rfl))
theorem mj_313_65 : mc_P 313 65 = some (.iconst 1, 1, 0, 0, 0) := by decide +kernel
theorem s_313_65 {x0 x1 x2 x3 : Option Value} : mw d 313 Q 65 [x0, x1, x2, x3] (st) h = mw d 313 Q 66 [x0, x1, x2, x3] (.int 1 :: st) h := (mw_at mj_313_65).trans (z_iconst (by decide))
theorem mj_313_66 : mc_P 313 66 = some (.iadd, 1, 0, 0, 0) := by decide +kernel
theorem s_313_66 {x0 x1 x2 x3 : Option Value} {x w : Int32} : mw d 313 Q 66 [x0, x1, x2, x3] (.int w :: .int x :: st) h = mw d 313 Q 67 [x0, x1, x2, x3] (.int (x + w) :: st) h := (mw_at mj_313_66).trans (z_iadd)
theorem mj_313_67 : mc_P 313 67 = some (.putfield 256, 3, 14, 17, 0) := by decide +kernel
theorem s_313_67 {x0 x1 x2 x3 : Option Value} {o : Nat} {w : Int32} : mw d 313 Q 67 [x0, x1, x2, x3] (.int w :: .ref o :: st) h = (mg h o 14 ∧ mw d 313 Q 70 [x0, x1, x2, x3] (st) (mh_si h o 17 w)) := (mw_at mj_313_67).trans (z_puti (by decide) (by decide) rfl)
theorem mj_313_70 : mc_P 313 70 = some (.aload_n 0, 1, 0, 0, 0) := by decide +kernel
theorem s_313_70 {x1 x2 x3 : Option Value} {w : Value} : mw d 313 Q 70 [some w, x1, x2, x3] (st) h = mv_a w (mw d 313 Q 71 [some w, x1, x2, x3] (w :: st) h) := (mw_at mj_313_70).trans (z_aload_n rfl)
theorem mj_313_71 : mc_P 313 71 = some (.getfield 256, 3, 14, 17, 0) := by decide +kernel
theorem s_313_71 {x0 x1 x2 x3 : Option Value} {o : Nat} : mw d 313 Q 71 [x0, x1, x2, x3] (.ref o :: st) h = (mg h o 14 ∧ mw d 313 Q 74 [x0, x1, x2, x3] (.int (mh_i h o 17) :: st) h) := (mw_at mj_313_71).trans (z_geti (by decide) (by decide) (Or.inl rfl))
theorem mj_313_74 : mc_P 313 74 = some (.iconst 1, 1, 0, 0, 0) := by decide +kernel
theorem s_313_74 {x0 x1 x2 x3 : Option Value} : mw d 313 Q 74 [x0, x1, x2, x3] (st) h = mw d 313 Q 75 [x0, x1, x2, x3] (.int 1 :: st) h := (mw_at mj_313_74).trans (z_iconst (by decide))
theorem mj_313_75 : mc_P 313 75 = some (.isub, 1, 0, 0, 0) := by decide +kernel
theorem s_313_75 {x0 x1 x2 x3 : Option Value} {x w : Int32} : mw d 313 Q 75 [x0, x1, x2, x3] (.int w :: .int x :: st) h = mw d 313 Q 76 [x0, x1, x2, x3] (.int (x - w) :: st) h := (mw_at mj_313_75).trans (z_isub)
theorem mj_313_76 : mc_P 313 76 = some (.ireturn, 1, 0, 0, 0) := by decide +kernel
theorem s_313_76 {x0 x1 x2 x3 : Option Value} {x : Int32} : mw d 313 Q 76 [x0, x1, x2, x3] ([.int x]) h = (Q (some (.int x)) h) := (mw_at mj_313_76).trans (z_iret)
theorem e_313 {a0 : Nat} {a1 : Int32} {a2 : Int32} {a3 : Int32} : mcall d 313 [.ref a0, .int a1, .int a2, .int a3] h Q = mw d 313 Q 0 [some (.ref a0), some (.int a1), some (.int a2), some (.int a3)] [] h := by
  show mw d 313 Q 0 (me_en (mc_nl 313) _) [] h = _
  rw [nl_313]; rfl

/-! InvariantDeskModel.join(II)V -/
theorem mj_314_0 : mc_P 314 0 = some (.iload_n 2, 1, 0, 0, 0) := by decide +kernel
theorem s_314_0 {x0 x1 : Option Value} {w : Value} : mw d 314 Q 0 [x0, x1, some w] (st) h = mv_i w (mw d 314 Q 1 [x0, x1, some w] (w :: st) h) := (mw_at mj_314_0).trans (z_iload_n rfl)
theorem mj_314_1 : mc_P 314 1 = some (.iconst (-1), 1, 0, 0, 0) := by decide +kernel
theorem s_314_1 {x0 x1 x2 : Option Value} : mw d 314 Q 1 [x0, x1, x2] (st) h = mw d 314 Q 2 [x0, x1, x2] (.int (-1) :: st) h := (mw_at mj_314_1).trans (z_iconst (by decide))
theorem mj_314_2 : mc_P 314 2 = some (.if_icmp .ne 4, 3, 0, 0, 0) := by decide +kernel
theorem s_314_2 {x0 x1 x2 : Option Value} {x w : Int32} : mw d 314 Q 2 [x0, x1, x2] (.int w :: .int x :: st) h = mB (¬ x = w) (mw d 314 Q) 6 5 [x0, x1, x2] st h := (mw_at mj_314_2).trans (z_icmp_ne (by decide) rfl)
theorem mj_314_5 : mc_P 314 5 = some (.return_, 1, 0, 0, 0) := by decide +kernel
theorem s_314_5 {x0 x1 x2 : Option Value} : mw d 314 Q 5 [x0, x1, x2] ([]) h = Q none h := (mw_at mj_314_5).trans (z_vret)
theorem mj_314_6 : mc_P 314 6 = some (.aload_n 0, 1, 0, 0, 0) := by decide +kernel
theorem s_314_6 {x1 x2 : Option Value} {w : Value} : mw d 314 Q 6 [some w, x1, x2] (st) h = mv_a w (mw d 314 Q 7 [some w, x1, x2] (w :: st) h) := (mw_at mj_314_6).trans (z_aload_n rfl)
theorem mj_314_7 : mc_P 314 7 = some (.getfield 36, 3, 14, 14, 0) := by decide +kernel
theorem s_314_7 {x0 x1 x2 : Option Value} {o : Nat} : mw d 314 Q 7 [x0, x1, x2] (.ref o :: st) h = (mg h o 14 ∧ mw d 314 Q 10 [x0, x1, x2] (va_rf (mh_r h o 14) :: st) h) := (mw_at mj_314_7).trans (z_getr (by decide) (by decide) rfl)
theorem mj_314_10 : mc_P 314 10 = some (.iload_n 1, 1, 0, 0, 0) := by decide +kernel
theorem s_314_10 {x0 x2 : Option Value} {w : Value} : mw d 314 Q 10 [x0, some w, x2] (st) h = mv_i w (mw d 314 Q 11 [x0, some w, x2] (w :: st) h) := (mw_at mj_314_10).trans (z_iload_n rfl)
theorem mj_314_11 : mc_P 314 11 = some (.iaload, 1, 0, 0, 0) := by decide +kernel
theorem s_314_11 {x0 x1 x2 : Option Value} {o : Nat} {i : Int32} : mw d 314 Q 11 [x0, x1, x2] (.int i :: .ref o :: st) h = (mg h o 100 ∧ mx i (mh_l h o) ∧ mw d 314 Q 12 [x0, x1, x2] (.int (mh_i h o i.toNatClampNeg) :: st) h) := (mw_at mj_314_11).trans (z_iald)
theorem mj_314_12 : mc_P 314 12 = some (.iconst (-1), 1, 0, 0, 0) := by decide +kernel
theorem s_314_12 {x0 x1 x2 : Option Value} : mw d 314 Q 12 [x0, x1, x2] (st) h = mw d 314 Q 13 [x0, x1, x2] (.int (-1) :: st) h := (mw_at mj_314_12).trans (z_iconst (by decide))
theorem mj_314_13 : mc_P 314 13 = some (.if_icmp .ne 13, 3, 0, 0, 0) := by decide +kernel
theorem s_314_13 {x0 x1 x2 : Option Value} {x w : Int32} : mw d 314 Q 13 [x0, x1, x2] (.int w :: .int x :: st) h = mB (¬ x = w) (mw d 314 Q) 26 16 [x0, x1, x2] st h := (mw_at mj_314_13).trans (z_icmp_ne (by decide) rfl)
theorem mj_314_16 : mc_P 314 16 = some (.aload_n 0, 1, 0, 0, 0) := by decide +kernel
theorem s_314_16 {x1 x2 : Option Value} {w : Value} : mw d 314 Q 16 [some w, x1, x2] (st) h = mv_a w (mw d 314 Q 17 [some w, x1, x2] (w :: st) h) := (mw_at mj_314_16).trans (z_aload_n rfl)
theorem mj_314_17 : mc_P 314 17 = some (.getfield 36, 3, 14, 14, 0) := by decide +kernel
theorem s_314_17 {x0 x1 x2 : Option Value} {o : Nat} : mw d 314 Q 17 [x0, x1, x2] (.ref o :: st) h = (mg h o 14 ∧ mw d 314 Q 20 [x0, x1, x2] (va_rf (mh_r h o 14) :: st) h) := (mw_at mj_314_17).trans (z_getr (by decide) (by decide) rfl)
theorem mj_314_20 : mc_P 314 20 = some (.iload_n 1, 1, 0, 0, 0) := by decide +kernel
theorem s_314_20 {x0 x2 : Option Value} {w : Value} : mw d 314 Q 20 [x0, some w, x2] (st) h = mv_i w (mw d 314 Q 21 [x0, some w, x2] (w :: st) h) := (mw_at mj_314_20).trans (z_iload_n rfl)
theorem mj_314_21 : mc_P 314 21 = some (.iload_n 2, 1, 0, 0, 0) := by decide +kernel
theorem s_314_21 {x0 x1 : Option Value} {w : Value} : mw d 314 Q 21 [x0, x1, some w] (st) h = mv_i w (mw d 314 Q 22 [x0, x1, some w] (w :: st) h) := (mw_at mj_314_21).trans (z_iload_n rfl)
theorem mj_314_22 : mc_P 314 22 = some (.iastore, 1, 0, 0, 0) := by decide +kernel
theorem s_314_22 {x0 x1 x2 : Option Value} {o : Nat} {i w : Int32} : mw d 314 Q 22 [x0, x1, x2] (.int w :: .int i :: .ref o :: st) h = (mg h o 100 ∧ mx i (mh_l h o) ∧ mw d 314 Q 23 [x0, x1, x2] (st) (mh_si h o i.toNatClampNeg w)) := (mw_at mj_314_22).trans (z_iast)
theorem mj_314_23 : mc_P 314 23 = some (.goto 15, 3, 0, 0, 0) := by decide +kernel
theorem s_314_23 {x0 x1 x2 : Option Value} : mw d 314 Q 23 [x0, x1, x2] (st) h = mw d 314 Q 38 [x0, x1, x2] (st) h := (mw_at mj_314_23).trans (z_goto (by decide))
theorem mj_314_26 : mc_P 314 26 = some (.aload_n 0, 1, 0, 0, 0) := by decide +kernel
theorem s_314_26 {x1 x2 : Option Value} {w : Value} : mw d 314 Q 26 [some w, x1, x2] (st) h = mv_a w (mw d 314 Q 27 [some w, x1, x2] (w :: st) h) := (mw_at mj_314_26).trans (z_aload_n rfl)
theorem mj_314_27 : mc_P 314 27 = some (.getfield 42, 3, 14, 16, 0) := by decide +kernel
theorem s_314_27 {x0 x1 x2 : Option Value} {o : Nat} : mw d 314 Q 27 [x0, x1, x2] (.ref o :: st) h = (mg h o 14 ∧ mw d 314 Q 30 [x0, x1, x2] (va_rf (mh_r h o 16) :: st) h) := (mw_at mj_314_27).trans (z_getr (by decide) (by decide) rfl)
theorem mj_314_30 : mc_P 314 30 = some (.aload_n 0, 1, 0, 0, 0) := by decide +kernel
theorem s_314_30 {x1 x2 : Option Value} {w : Value} : mw d 314 Q 30 [some w, x1, x2] (st) h = mv_a w (mw d 314 Q 31 [some w, x1, x2] (w :: st) h) := (mw_at mj_314_30).trans (z_aload_n rfl)
theorem mj_314_31 : mc_P 314 31 = some (.getfield 39, 3, 14, 15, 0) := by decide +kernel
theorem s_314_31 {x0 x1 x2 : Option Value} {o : Nat} : mw d 314 Q 31 [x0, x1, x2] (.ref o :: st) h = (mg h o 14 ∧ mw d 314 Q 34 [x0, x1, x2] (va_rf (mh_r h o 15) :: st) h) := (mw_at mj_314_31).trans (z_getr (by decide) (by decide) rfl)
theorem mj_314_34 : mc_P 314 34 = some (.iload_n 1, 1, 0, 0, 0) := by decide +kernel
theorem s_314_34 {x0 x2 : Option Value} {w : Value} : mw d 314 Q 34 [x0, some w, x2] (st) h = mv_i w (mw d 314 Q 35 [x0, some w, x2] (w :: st) h) := (mw_at mj_314_34).trans (z_iload_n rfl)
theorem mj_314_35 : mc_P 314 35 = some (.iaload, 1, 0, 0, 0) := by decide +kernel
theorem s_314_35 {x0 x1 x2 : Option Value} {o : Nat} {i : Int32} : mw d 314 Q 35 [x0, x1, x2] (.int i :: .ref o :: st) h = (mg h o 100 ∧ mx i (mh_l h o) ∧ mw d 314 Q 36 [x0, x1, x2] (.int (mh_i h o i.toNatClampNeg) :: st) h) := (mw_at mj_314_35).trans (z_iald)
theorem mj_314_36 : mc_P 314 36 = some (.iload_n 2, 1, 0, 0, 0) := by decide +kernel
theorem s_314_36 {x0 x1 : Option Value} {w : Value} : mw d 314 Q 36 [x0, x1, some w] (st) h = mv_i w (mw d 314 Q 37 [x0, x1, some w] (w :: st) h) := (mw_at mj_314_36).trans (z_iload_n rfl)
theorem mj_314_37 : mc_P 314 37 = some (.iastore, 1, 0, 0, 0) := by decide +kernel
theorem s_314_37 {x0 x1 x2 : Option Value} {o : Nat} {i w : Int32} : mw d 314 Q 37 [x0, x1, x2] (.int w :: .int i :: .ref o :: st) h = (mg h o 100 ∧ mx i (mh_l h o) ∧ mw d 314 Q 38 [x0, x1, x2] (st) (mh_si h o i.toNatClampNeg w)) := (mw_at mj_314_37).trans (z_iast)
theorem mj_314_38 : mc_P 314 38 = some (.aload_n 0, 1, 0, 0, 0) := by decide +kernel
theorem s_314_38 {x1 x2 : Option Value} {w : Value} : mw d 314 Q 38 [some w, x1, x2] (st) h = mv_a w (mw d 314 Q 39 [some w, x1, x2] (w :: st) h) := (mw_at mj_314_38).trans (z_aload_n rfl)
theorem mj_314_39 : mc_P 314 39 = some (.getfield 39, 3, 14, 15, 0) := by decide +kernel
theorem s_314_39 {x0 x1 x2 : Option Value} {o : Nat} : mw d 314 Q 39 [x0, x1, x2] (.ref o :: st) h = (mg h o 14 ∧ mw d 314 Q 42 [x0, x1, x2] (va_rf (mh_r h o 15) :: st) h) := (mw_at mj_314_39).trans (z_getr (by decide) (by decide) rfl)
theorem mj_314_42 : mc_P 314 42 = some (.iload_n 1, 1, 0, 0, 0) := by decide +kernel
theorem s_314_42 {x0 x2 : Option Value} {w : Value} : mw d 314 Q 42 [x0, some w, x2] (st) h = mv_i w (mw d 314 Q 43 [x0, some w, x2] (w :: st) h) := (mw_at mj_314_42).trans (z_iload_n rfl)
theorem mj_314_43 : mc_P 314 43 = some (.iload_n 2, 1, 0, 0, 0) := by decide +kernel
theorem s_314_43 {x0 x1 : Option Value} {w : Value} : mw d 314 Q 43 [x0, x1, some w] (st) h = mv_i w (mw d 314 Q 44 [x0, x1, some w] (w :: st) h) := (mw_at mj_314_43).trans (z_iload_n rfl)
theorem mj_314_44 : mc_P 314 44 = some (.iastore, 1, 0, 0, 0) := by decide +kernel
theorem s_314_44 {x0 x1 x2 : Option Value} {o : Nat} {i w : Int32} : mw d 314 Q 44 [x0, x1, x2] (.int w :: .int i :: .ref o :: st) h = (mg h o 100 ∧ mx i (mh_l h o) ∧ mw d 314 Q 45 [x0, x1, x2] (st) (mh_si h o i.toNatClampNeg w)) := (mw_at mj_314_44).trans (z_iast)
theorem mj_314_45 : mc_P 314 45 = some (.return_, 1, 0, 0, 0) := by decide +kernel
theorem s_314_45 {x0 x1 x2 : Option Value} : mw d 314 Q 45 [x0, x1, x2] ([]) h = Q none h := (mw_at mj_314_45).trans (z_vret)
theorem e_314 {a0 : Nat} {a1 : Int32} {a2 : Int32} : mcall d 314 [.ref a0, .int a1, .int a2] h Q = mw d 314 Q 0 [some (.ref a0), some (.int a1), some (.int a2)] [] h := by
  show mw d 314 Q 0 (me_en (mc_nl 314) _) [] h = _
  rw [nl_314]; rfl

/-! InvariantDeskModel.name()I -/
theorem mj_315_0 : mc_P 315 0 = some (.aload_n 0, 1, 0, 0, 0) := by decide +kernel
theorem s_315_0 {x1 : Option Value} {w : Value} : mw d 315 Q 0 [some w, x1] (st) h = mv_a w (mw d 315 Q 1 [some w, x1] (w :: st) h) := (mw_at mj_315_0).trans (z_aload_n rfl)
theorem mj_315_1 : mc_P 315 1 = some (.bipush 13, 2, 0, 0, 0) := by decide +kernel
theorem s_315_1 {x0 x1 : Option Value} : mw d 315 Q 1 [x0, x1] (st) h = mw d 315 Q 3 [x0, x1] (.int 13 :: st) h := (mw_at mj_315_1).trans (z_bipush (by decide))
theorem mj_315_3 : mc_P 315 3 = some (.aload_n 0, 1, 0, 0, 0) := by decide +kernel
theorem s_315_3 {x1 : Option Value} {w : Value} : mw d 315 Q 3 [some w, x1] (st) h = mv_a w (mw d 315 Q 4 [some w, x1] (w :: st) h) := (mw_at mj_315_3).trans (z_aload_n rfl)
theorem mj_315_4 : mc_P 315 4 = some (.getfield 16, 3, 14, 5, 0) := by decide +kernel
theorem s_315_4 {x0 x1 : Option Value} {o : Nat} : mw d 315 Q 4 [x0, x1] (.ref o :: st) h = (mg h o 14 ∧ mw d 315 Q 7 [x0, x1] (va_rf (mh_r h o 5) :: st) h) := (mw_at mj_315_4).trans (z_getr (by decide) (by decide) rfl)
theorem mj_315_7 : mc_P 315 7 = some (.aload_n 0, 1, 0, 0, 0) := by decide +kernel
theorem s_315_7 {x1 : Option Value} {w : Value} : mw d 315 Q 7 [some w, x1] (st) h = mv_a w (mw d 315 Q 8 [some w, x1] (w :: st) h) := (mw_at mj_315_7).trans (z_aload_n rfl)
theorem mj_315_8 : mc_P 315 8 = some (.getfield 246, 3, 14, 8, 0) := by decide +kernel
theorem s_315_8 {x0 x1 : Option Value} {o : Nat} : mw d 315 Q 8 [x0, x1] (.ref o :: st) h = (mg h o 14 ∧ mw d 315 Q 11 [x0, x1] (.int (mh_i h o 8) :: st) h) := (mw_at mj_315_8).trans (z_geti (by decide) (by decide) (Or.inl rfl))
theorem mj_315_11 : mc_P 315 11 = some (.iaload, 1, 0, 0, 0) := by decide +kernel
theorem s_315_11 {x0 x1 : Option Value} {o : Nat} {i : Int32} : mw d 315 Q 11 [x0, x1] (.int i :: .ref o :: st) h = (mg h o 100 ∧ mx i (mh_l h o) ∧ mw d 315 Q 12 [x0, x1] (.int (mh_i h o i.toNatClampNeg) :: st) h) := (mw_at mj_315_11).trans (z_iald)
theorem mj_315_12 : mc_P 315 12 = some (.aload_n 0, 1, 0, 0, 0) := by decide +kernel
theorem s_315_12 {x1 : Option Value} {w : Value} : mw d 315 Q 12 [some w, x1] (st) h = mv_a w (mw d 315 Q 13 [some w, x1] (w :: st) h) := (mw_at mj_315_12).trans (z_aload_n rfl)
theorem mj_315_13 : mc_P 315 13 = some (.getfield 246, 3, 14, 8, 0) := by decide +kernel
theorem s_315_13 {x0 x1 : Option Value} {o : Nat} : mw d 315 Q 13 [x0, x1] (.ref o :: st) h = (mg h o 14 ∧ mw d 315 Q 16 [x0, x1] (.int (mh_i h o 8) :: st) h) := (mw_at mj_315_13).trans (z_geti (by decide) (by decide) (Or.inl rfl))
theorem mj_315_16 : mc_P 315 16 = some (.invokevirtual 259, 3, 313, 14, 4) := by decide +kernel
theorem s_315_16 {x0 x1 : Option Value} {o : Nat} {a1 a2 a3 : Value} : mw (d + 1) 315 Q 16 [x0, x1] (a3 :: a2 :: a1 :: .ref o :: st) h = (mg h o 14 ∧ mca st 8 ∧ mca [.ref o, a1, a2, a3] 4 ∧ mcall d 313 [.ref o, a1, a2, a3] h (mK (d + 1) 315 Q 19 [x0, x1] st)) := (mw_at mj_315_16).trans ((z_invv (As := [a1, a2, a3]) (by decide) rfl rfl).trans (congrArg (And _) (congrArg (And _) (mC_nl nl_313))))
theorem mj_315_19 : mc_P 315 19 = some (.istore_n 1, 1, 0, 0, 0) := by decide +kernel
theorem s_315_19 {x0 x1 : Option Value} {w : Int32} : mw d 315 Q 19 [x0, x1] (.int w :: st) h = mw d 315 Q 20 [mk2 x0, some (.int w)] (st) h := (mw_at mj_315_19).trans (z_istore_n (Nat.le_of_ble_eq_true rfl) (me_s1_mk (j := 0) (w := x0) rfl))
theorem mj_315_20 : mc_P 315 20 = some (.aload_n 0, 1, 0, 0, 0) := by decide +kernel
theorem s_315_20 {x1 : Option Value} {w : Value} : mw d 315 Q 20 [some w, x1] (st) h = mv_a w (mw d 315 Q 21 [some w, x1] (w :: st) h) := (mw_at mj_315_20).trans (z_aload_n rfl)
theorem mj_315_21 : mc_P 315 21 = some (.iconst 2, 1, 0, 0, 0) := by decide +kernel
theorem s_315_21 {x0 x1 : Option Value} : mw d 315 Q 21 [x0, x1] (st) h = mw d 315 Q 22 [x0, x1] (.int 2 :: st) h := (mw_at mj_315_21).trans (z_iconst (by decide))
theorem mj_315_22 : mc_P 315 22 = some (.invokevirtual 262, 3, 312, 14, 2) := by decide +kernel
theorem s_315_22 {x0 x1 : Option Value} {o : Nat} {a1 : Value} : mw (d + 1) 315 Q 22 [x0, x1] (a1 :: .ref o :: st) h = (mg h o 14 ∧ mca st 8 ∧ mca [.ref o, a1] 2 ∧ mcall d 312 [.ref o, a1] h (mK (d + 1) 315 Q 25 [x0, x1] st)) := (mw_at mj_315_22).trans ((z_invv (As := [a1]) (by decide) rfl rfl).trans (congrArg (And _) (congrArg (And _) (mC_nl nl_312))))
theorem mj_315_25 : mc_P 315 25 = some (.iload_n 1, 1, 0, 0, 0) := by decide +kernel
theorem s_315_25 {x0 : Option Value} {w : Value} : mw d 315 Q 25 [x0, some w] (st) h = mv_i w (mw d 315 Q 26 [x0, some w] (w :: st) h) := (mw_at mj_315_25).trans (z_iload_n rfl)
theorem mj_315_26 : mc_P 315 26 = some (.ireturn, 1, 0, 0, 0) := by decide +kernel
theorem s_315_26 {x0 x1 : Option Value} {x : Int32} : mw d 315 Q 26 [x0, x1] ([.int x]) h = (Q (some (.int x)) h) := (mw_at mj_315_26).trans (z_iret)
theorem e_315 {a0 : Nat} : mcall d 315 [.ref a0] h Q = mw d 315 Q 0 [some (.ref a0), none] [] h := by
  show mw d 315 Q 0 (me_en (mc_nl 315) _) [] h = _
  rw [nl_315]; rfl

/-! InvariantDeskModel.function()I -/
theorem mj_328_0 : mc_P 328 0 = some (.aload_n 0, 1, 0, 0, 0) := by decide +kernel
theorem s_328_0 {x1 : Option Value} {w : Value} : mw d 328 Q 0 [some w, x1] (st) h = mv_a w (mw d 328 Q 1 [some w, x1] (w :: st) h) := (mw_at mj_328_0).trans (z_aload_n rfl)
theorem mj_328_1 : mc_P 328 1 = some (.iconst 1, 1, 0, 0, 0) := by decide +kernel
theorem s_328_1 {x0 x1 : Option Value} : mw d 328 Q 1 [x0, x1] (st) h = mw d 328 Q 2 [x0, x1] (.int 1 :: st) h := (mw_at mj_328_1).trans (z_iconst (by decide))
theorem mj_328_2 : mc_P 328 2 = some (.aload_n 0, 1, 0, 0, 0) := by decide +kernel
theorem s_328_2 {x1 : Option Value} {w : Value} : mw d 328 Q 2 [some w, x1] (st) h = mv_a w (mw d 328 Q 3 [some w, x1] (w :: st) h) := (mw_at mj_328_2).trans (z_aload_n rfl)
theorem mj_328_3 : mc_P 328 3 = some (.getfield 16, 3, 14, 5, 0) := by decide +kernel
theorem s_328_3 {x0 x1 : Option Value} {o : Nat} : mw d 328 Q 3 [x0, x1] (.ref o :: st) h = (mg h o 14 ∧ mw d 328 Q 6 [x0, x1] (va_rf (mh_r h o 5) :: st) h) := (mw_at mj_328_3).trans (z_getr (by decide) (by decide) rfl)
theorem mj_328_6 : mc_P 328 6 = some (.aload_n 0, 1, 0, 0, 0) := by decide +kernel
theorem s_328_6 {x1 : Option Value} {w : Value} : mw d 328 Q 6 [some w, x1] (st) h = mv_a w (mw d 328 Q 7 [some w, x1] (w :: st) h) := (mw_at mj_328_6).trans (z_aload_n rfl)
theorem mj_328_7 : mc_P 328 7 = some (.getfield 246, 3, 14, 8, 0) := by decide +kernel
theorem s_328_7 {x0 x1 : Option Value} {o : Nat} : mw d 328 Q 7 [x0, x1] (.ref o :: st) h = (mg h o 14 ∧ mw d 328 Q 10 [x0, x1] (.int (mh_i h o 8) :: st) h) := (mw_at mj_328_7).trans (z_geti (by decide) (by decide) (Or.inl rfl))
theorem mj_328_10 : mc_P 328 10 = some (.iaload, 1, 0, 0, 0) := by decide +kernel
theorem s_328_10 {x0 x1 : Option Value} {o : Nat} {i : Int32} : mw d 328 Q 10 [x0, x1] (.int i :: .ref o :: st) h = (mg h o 100 ∧ mx i (mh_l h o) ∧ mw d 328 Q 11 [x0, x1] (.int (mh_i h o i.toNatClampNeg) :: st) h) := (mw_at mj_328_10).trans (z_iald)
theorem mj_328_11 : mc_P 328 11 = some (.iconst 0, 1, 0, 0, 0) := by decide +kernel
theorem s_328_11 {x0 x1 : Option Value} : mw d 328 Q 11 [x0, x1] (st) h = mw d 328 Q 12 [x0, x1] (.int 0 :: st) h := (mw_at mj_328_11).trans (z_iconst (by decide))
theorem mj_328_12 : mc_P 328 12 = some (.invokevirtual 259, 3, 313, 14, 4) := by decide +kernel
theorem s_328_12 {x0 x1 : Option Value} {o : Nat} {a1 a2 a3 : Value} : mw (d + 1) 328 Q 12 [x0, x1] (a3 :: a2 :: a1 :: .ref o :: st) h = (mg h o 14 ∧ mca st 8 ∧ mca [.ref o, a1, a2, a3] 4 ∧ mcall d 313 [.ref o, a1, a2, a3] h (mK (d + 1) 328 Q 15 [x0, x1] st)) := (mw_at mj_328_12).trans ((z_invv (As := [a1, a2, a3]) (by decide) rfl rfl).trans (congrArg (And _) (congrArg (And _) (mC_nl nl_313))))
theorem mj_328_15 : mc_P 328 15 = some (.istore_n 1, 1, 0, 0, 0) := by decide +kernel
theorem s_328_15 {x0 x1 : Option Value} {w : Int32} : mw d 328 Q 15 [x0, x1] (.int w :: st) h = mw d 328 Q 16 [mk2 x0, some (.int w)] (st) h := (mw_at mj_328_15).trans (z_istore_n (Nat.le_of_ble_eq_true rfl) (me_s1_mk (j := 0) (w := x0) rfl))
theorem mj_328_16 : mc_P 328 16 = some (.aload_n 0, 1, 0, 0, 0) := by decide +kernel
theorem s_328_16 {x1 : Option Value} {w : Value} : mw d 328 Q 16 [some w, x1] (st) h = mv_a w (mw d 328 Q 17 [some w, x1] (w :: st) h) := (mw_at mj_328_16).trans (z_aload_n rfl)
theorem mj_328_17 : mc_P 328 17 = some (.sipush 300, 3, 0, 0, 0) := by decide +kernel
theorem s_328_17 {x0 x1 : Option Value} : mw d 328 Q 17 [x0, x1] (st) h = mw d 328 Q 20 [x0, x1] (.int 300 :: st) h := (mw_at mj_328_17).trans (z_sipush (by decide))
theorem mj_328_20 : mc_P 328 20 = some (.invokevirtual 262, 3, 312, 14, 2) := by decide +kernel
theorem s_328_20 {x0 x1 : Option Value} {o : Nat} {a1 : Value} : mw (d + 1) 328 Q 20 [x0, x1] (a1 :: .ref o :: st) h = (mg h o 14 ∧ mca st 8 ∧ mca [.ref o, a1] 2 ∧ mcall d 312 [.ref o, a1] h (mK (d + 1) 328 Q 23 [x0, x1] st)) := (mw_at mj_328_20).trans ((z_invv (As := [a1]) (by decide) rfl rfl).trans (congrArg (And _) (congrArg (And _) (mC_nl nl_312))))
theorem mj_328_23 : mc_P 328 23 = some (.aload_n 0, 1, 0, 0, 0) := by decide +kernel
theorem s_328_23 {x1 : Option Value} {w : Value} : mw d 328 Q 23 [some w, x1] (st) h = mv_a w (mw d 328 Q 24 [some w, x1] (w :: st) h) := (mw_at mj_328_23).trans (z_aload_n rfl)
theorem mj_328_24 : mc_P 328 24 = some (.iload_n 1, 1, 0, 0, 0) := by decide +kernel
theorem s_328_24 {x0 : Option Value} {w : Value} : mw d 328 Q 24 [x0, some w] (st) h = mv_i w (mw d 328 Q 25 [x0, some w] (w :: st) h) := (mw_at mj_328_24).trans (z_iload_n rfl)
theorem mj_328_25 : mc_P 328 25 = some (.aload_n 0, 1, 0, 0, 0) := by decide +kernel
theorem s_328_25 {x1 : Option Value} {w : Value} : mw d 328 Q 25 [some w, x1] (st) h = mv_a w (mw d 328 Q 26 [some w, x1] (w :: st) h) := (mw_at mj_328_25).trans (z_aload_n rfl)
theorem mj_328_26 : mc_P 328 26 = some (.invokevirtual 283, 3, 315, 14, 1) := by decide +kernel
theorem s_328_26 {x0 x1 : Option Value} {o : Nat} : mw (d + 1) 328 Q 26 [x0, x1] (.ref o :: st) h = (mg h o 14 ∧ mca st 8 ∧ mca [.ref o] 2 ∧ mcall d 315 [.ref o] h (mK (d + 1) 328 Q 29 [x0, x1] st)) := (mw_at mj_328_26).trans ((z_invv (As := []) (by decide) rfl rfl).trans (congrArg (And _) (congrArg (And _) (mC_nl nl_315))))
theorem mj_328_29 : mc_P 328 29 = some (.invokevirtual 272, 3, 314, 14, 3) := by decide +kernel
theorem s_328_29 {x0 x1 : Option Value} {o : Nat} {a1 a2 : Value} : mw (d + 1) 328 Q 29 [x0, x1] (a2 :: a1 :: .ref o :: st) h = (mg h o 14 ∧ mca st 8 ∧ mca [.ref o, a1, a2] 3 ∧ mcall d 314 [.ref o, a1, a2] h (mK (d + 1) 328 Q 32 [x0, x1] st)) := (mw_at mj_328_29).trans ((z_invv (As := [a1, a2]) (by decide) rfl rfl).trans (congrArg (And _) (congrArg (And _) (mC_nl nl_314))))
theorem mj_328_32 : mc_P 328 32 = some (.aload_n 0, 1, 0, 0, 0) := by decide +kernel
theorem s_328_32 {x1 : Option Value} {w : Value} : mw d 328 Q 32 [some w, x1] (st) h = mv_a w (mw d 328 Q 33 [some w, x1] (w :: st) h) := (mw_at mj_328_32).trans (z_aload_n rfl)
theorem mj_328_33 : mc_P 328 33 = some (.bipush 40, 2, 0, 0, 0) := by decide +kernel
theorem s_328_33 {x0 x1 : Option Value} : mw d 328 Q 33 [x0, x1] (st) h = mw d 328 Q 35 [x0, x1] (.int 40 :: st) h := (mw_at mj_328_33).trans (z_bipush (by decide))
theorem mj_328_35 : mc_P 328 35 = some (.invokevirtual 262, 3, 312, 14, 2) := by decide +kernel
theorem s_328_35 {x0 x1 : Option Value} {o : Nat} {a1 : Value} : mw (d + 1) 328 Q 35 [x0, x1] (a1 :: .ref o :: st) h = (mg h o 14 ∧ mca st 8 ∧ mca [.ref o, a1] 2 ∧ mcall d 312 [.ref o, a1] h (mK (d + 1) 328 Q 38 [x0, x1] st)) := (mw_at mj_328_35).trans ((z_invv (As := [a1]) (by decide) rfl rfl).trans (congrArg (And _) (congrArg (And _) (mC_nl nl_312))))
theorem mj_328_38 : mc_P 328 38 = some (.aload_n 0, 1, 0, 0, 0) := by decide +kernel
theorem s_328_38 {x1 : Option Value} {w : Value} : mw d 328 Q 38 [some w, x1] (st) h = mv_a w (mw d 328 Q 39 [some w, x1] (w :: st) h) := (mw_at mj_328_38).trans (z_aload_n rfl)
theorem mj_328_39 : mc_P 328 39 = some (.invokevirtual 249, 3, 310, 14, 1) := by decide +kernel
theorem s_328_39 {x0 x1 : Option Value} {o : Nat} : mw (d + 1) 328 Q 39 [x0, x1] (.ref o :: st) h = (mg h o 14 ∧ mca st 8 ∧ mca [.ref o] 1 ∧ mcall d 310 [.ref o] h (mK (d + 1) 328 Q 42 [x0, x1] st)) := (mw_at mj_328_39).trans ((z_invv (As := []) (by decide) rfl rfl).trans (congrArg (And _) (congrArg (And _) (mC_nl nl_310))))
theorem mj_328_42 : mc_P 328 42 = some (.bipush 41, 2, 0, 0, 0) := by decide +kernel
theorem s_328_42 {x0 x1 : Option Value} : mw d 328 Q 42 [x0, x1] (st) h = mw d 328 Q 44 [x0, x1] (.int 41 :: st) h := (mw_at mj_328_42).trans (z_bipush (by decide))
theorem mj_328_44 : mc_P 328 44 = some (.if_icmp .eq 39, 3, 0, 0, 0) := by decide +kernel
theorem s_328_44 {x0 x1 : Option Value} {x w : Int32} : mw d 328 Q 44 [x0, x1] (.int w :: .int x :: st) h = mB (x = w) (mw d 328 Q) 83 47 [x0, x1] st h := (mw_at mj_328_44).trans (z_icmp_eq (by decide) rfl)
theorem mj_328_47 : mc_P 328 47 = some (.aload_n 0, 1, 0, 0, 0) := by decide +kernel
theorem s_328_47 {x1 : Option Value} {w : Value} : mw d 328 Q 47 [some w, x1] (st) h = mv_a w (mw d 328 Q 48 [some w, x1] (w :: st) h) := (mw_at mj_328_47).trans (z_aload_n rfl)
theorem mj_328_48 : mc_P 328 48 = some (.iload_n 1, 1, 0, 0, 0) := by decide +kernel
theorem s_328_48 {x0 : Option Value} {w : Value} : mw d 328 Q 48 [x0, some w] (st) h = mv_i w (mw d 328 Q 49 [x0, some w] (w :: st) h) := (mw_at mj_328_48).trans (z_iload_n rfl)
theorem mj_328_49 : mc_P 328 49 = some (.aload_n 0, 1, 0, 0, 0) := by decide +kernel
theorem s_328_49 {x1 : Option Value} {w : Value} : mw d 328 Q 49 [some w, x1] (st) h = mv_a w (mw d 328 Q 50 [some w, x1] (w :: st) h) := (mw_at mj_328_49).trans (z_aload_n rfl)
theorem mj_328_50 : mc_P 328 50 = some (.invokevirtual 283, 3, 315, 14, 1) := by decide +kernel
theorem s_328_50 {x0 x1 : Option Value} {o : Nat} : mw (d + 1) 328 Q 50 [x0, x1] (.ref o :: st) h = (mg h o 14 ∧ mca st 8 ∧ mca [.ref o] 2 ∧ mcall d 315 [.ref o] h (mK (d + 1) 328 Q 53 [x0, x1] st)) := (mw_at mj_328_50).trans ((z_invv (As := []) (by decide) rfl rfl).trans (congrArg (And _) (congrArg (And _) (mC_nl nl_315))))
theorem mj_328_53 : mc_P 328 53 = some (.invokevirtual 272, 3, 314, 14, 3) := by decide +kernel
theorem s_328_53 {x0 x1 : Option Value} {o : Nat} {a1 a2 : Value} : mw (d + 1) 328 Q 53 [x0, x1] (a2 :: a1 :: .ref o :: st) h = (mg h o 14 ∧ mca st 8 ∧ mca [.ref o, a1, a2] 3 ∧ mcall d 314 [.ref o, a1, a2] h (mK (d + 1) 328 Q 56 [x0, x1] st)) := (mw_at mj_328_53).trans ((z_invv (As := [a1, a2]) (by decide) rfl rfl).trans (congrArg (And _) (congrArg (And _) (mC_nl nl_314))))
theorem mj_328_56 : mc_P 328 56 = some (.aload_n 0, 1, 0, 0, 0) := by decide +kernel
theorem s_328_56 {x1 : Option Value} {w : Value} : mw d 328 Q 56 [some w, x1] (st) h = mv_a w (mw d 328 Q 57 [some w, x1] (w :: st) h) := (mw_at mj_328_56).trans (z_aload_n rfl)
theorem mj_328_57 : mc_P 328 57 = some (.invokevirtual 249, 3, 310, 14, 1) := by decide +kernel
theorem s_328_57 {x0 x1 : Option Value} {o : Nat} : mw (d + 1) 328 Q 57 [x0, x1] (.ref o :: st) h = (mg h o 14 ∧ mca st 8 ∧ mca [.ref o] 1 ∧ mcall d 310 [.ref o] h (mK (d + 1) 328 Q 60 [x0, x1] st)) := (mw_at mj_328_57).trans ((z_invv (As := []) (by decide) rfl rfl).trans (congrArg (And _) (congrArg (And _) (mC_nl nl_310))))
theorem mj_328_60 : mc_P 328 60 = some (.bipush 44, 2, 0, 0, 0) := by decide +kernel
theorem s_328_60 {x0 x1 : Option Value} : mw d 328 Q 60 [x0, x1] (st) h = mw d 328 Q 62 [x0, x1] (.int 44 :: st) h := (mw_at mj_328_60).trans (z_bipush (by decide))
theorem mj_328_62 : mc_P 328 62 = some (.if_icmp .ne 21, 3, 0, 0, 0) := by decide +kernel
theorem s_328_62 {x0 x1 : Option Value} {x w : Int32} : mw d 328 Q 62 [x0, x1] (.int w :: .int x :: st) h = mB (¬ x = w) (mw d 328 Q) 83 65 [x0, x1] st h := (mw_at mj_328_62).trans (z_icmp_ne (by decide) rfl)
theorem mj_328_65 : mc_P 328 65 = some (.aload_n 0, 1, 0, 0, 0) := by decide +kernel
theorem s_328_65 {x1 : Option Value} {w : Value} : mw d 328 Q 65 [some w, x1] (st) h = mv_a w (mw d 328 Q 66 [some w, x1] (w :: st) h) := (mw_at mj_328_65).trans (z_aload_n rfl)
theorem mj_328_66 : mc_P 328 66 = some (.bipush 44, 2, 0, 0, 0) := by decide +kernel
theorem s_328_66 {x0 x1 : Option Value} : mw d 328 Q 66 [x0, x1] (st) h = mw d 328 Q 68 [x0, x1] (.int 44 :: st) h := (mw_at mj_328_66).trans (z_bipush (by decide))
theorem mj_328_68 : mc_P 328 68 = some (.invokevirtual 262, 3, 312, 14, 2) := by decide +kernel
theorem s_328_68 {x0 x1 : Option Value} {o : Nat} {a1 : Value} : mw (d + 1) 328 Q 68 [x0, x1] (a1 :: .ref o :: st) h = (mg h o 14 ∧ mca st 8 ∧ mca [.ref o, a1] 2 ∧ mcall d 312 [.ref o, a1] h (mK (d + 1) 328 Q 71 [x0, x1] st)) := (mw_at mj_328_68).trans ((z_invv (As := [a1]) (by decide) rfl rfl).trans (congrArg (And _) (congrArg (And _) (mC_nl nl_312))))
theorem mj_328_71 : mc_P 328 71 = some (.aload_n 0, 1, 0, 0, 0) := by decide +kernel
theorem s_328_71 {x1 : Option Value} {w : Value} : mw d 328 Q 71 [some w, x1] (st) h = mv_a w (mw d 328 Q 72 [some w, x1] (w :: st) h) := (mw_at mj_328_71).trans (z_aload_n rfl)
theorem mj_328_72 : mc_P 328 72 = some (.iload_n 1, 1, 0, 0, 0) := by decide +kernel
theorem s_328_72 {x0 : Option Value} {w : Value} : mw d 328 Q 72 [x0, some w] (st) h = mv_i w (mw d 328 Q 73 [x0, some w] (w :: st) h) := (mw_at mj_328_72).trans (z_iload_n rfl)
theorem mj_328_73 : mc_P 328 73 = some (.aload_n 0, 1, 0, 0, 0) := by decide +kernel
theorem s_328_73 {x1 : Option Value} {w : Value} : mw d 328 Q 73 [some w, x1] (st) h = mv_a w (mw d 328 Q 74 [some w, x1] (w :: st) h) := (mw_at mj_328_73).trans (z_aload_n rfl)
theorem mj_328_74 : mc_P 328 74 = some (.invokevirtual 283, 3, 315, 14, 1) := by decide +kernel
theorem s_328_74 {x0 x1 : Option Value} {o : Nat} : mw (d + 1) 328 Q 74 [x0, x1] (.ref o :: st) h = (mg h o 14 ∧ mca st 8 ∧ mca [.ref o] 2 ∧ mcall d 315 [.ref o] h (mK (d + 1) 328 Q 77 [x0, x1] st)) := (mw_at mj_328_74).trans ((z_invv (As := []) (by decide) rfl rfl).trans (congrArg (And _) (congrArg (And _) (mC_nl nl_315))))
theorem mj_328_77 : mc_P 328 77 = some (.invokevirtual 272, 3, 314, 14, 3) := by decide +kernel
theorem s_328_77 {x0 x1 : Option Value} {o : Nat} {a1 a2 : Value} : mw (d + 1) 328 Q 77 [x0, x1] (a2 :: a1 :: .ref o :: st) h = (mg h o 14 ∧ mca st 8 ∧ mca [.ref o, a1, a2] 3 ∧ mcall d 314 [.ref o, a1, a2] h (mK (d + 1) 328 Q 80 [x0, x1] st)) := (mw_at mj_328_77).trans ((z_invv (As := [a1, a2]) (by decide) rfl rfl).trans (congrArg (And _) (congrArg (And _) (mC_nl nl_314))))
theorem mj_328_80 : mc_P 328 80 = some (.goto (-24), 3, 0, 0, 0) := by decide +kernel
theorem s_328_80 {x0 x1 : Option Value} : mw d 328 Q 80 [x0, x1] (st) h = mw d 328 Q 56 [x0, x1] (st) h := (mw_at mj_328_80).trans (z_goto (by decide))
theorem mj_328_83 : mc_P 328 83 = some (.aload_n 0, 1, 0, 0, 0) := by decide +kernel
theorem s_328_83 {x1 : Option Value} {w : Value} : mw d 328 Q 83 [some w, x1] (st) h = mv_a w (mw d 328 Q 84 [some w, x1] (w :: st) h) := (mw_at mj_328_83).trans (z_aload_n rfl)
theorem mj_328_84 : mc_P 328 84 = some (.bipush 41, 2, 0, 0, 0) := by decide +kernel
theorem s_328_84 {x0 x1 : Option Value} : mw d 328 Q 84 [x0, x1] (st) h = mw d 328 Q 86 [x0, x1] (.int 41 :: st) h := (mw_at mj_328_84).trans (z_bipush (by decide))
theorem mj_328_86 : mc_P 328 86 = some (.invokevirtual 262, 3, 312, 14, 2) := by decide +kernel
theorem s_328_86 {x0 x1 : Option Value} {o : Nat} {a1 : Value} : mw (d + 1) 328 Q 86 [x0, x1] (a1 :: .ref o :: st) h = (mg h o 14 ∧ mca st 8 ∧ mca [.ref o, a1] 2 ∧ mcall d 312 [.ref o, a1] h (mK (d + 1) 328 Q 89 [x0, x1] st)) := (mw_at mj_328_86).trans ((z_invv (As := [a1]) (by decide) rfl rfl).trans (congrArg (And _) (congrArg (And _) (mC_nl nl_312))))
theorem mj_328_89 : mc_P 328 89 = some (.aload_n 0, 1, 0, 0, 0) := by decide +kernel
theorem s_328_89 {x1 : Option Value} {w : Value} : mw d 328 Q 89 [some w, x1] (st) h = mv_a w (mw d 328 Q 90 [some w, x1] (w :: st) h) := (mw_at mj_328_89).trans (z_aload_n rfl)
theorem mj_328_90 : mc_P 328 90 = some (.iload_n 1, 1, 0, 0, 0) := by decide +kernel
theorem s_328_90 {x0 : Option Value} {w : Value} : mw d 328 Q 90 [x0, some w] (st) h = mv_i w (mw d 328 Q 91 [x0, some w] (w :: st) h) := (mw_at mj_328_90).trans (z_iload_n rfl)
theorem mj_328_91 : mc_P 328 91 = some (.aload_n 0, 1, 0, 0, 0) := by decide +kernel
theorem s_328_91 {x1 : Option Value} {w : Value} : mw d 328 Q 91 [some w, x1] (st) h = mv_a w (mw d 328 Q 92 [some w, x1] (w :: st) h) := (mw_at mj_328_91).trans (z_aload_n rfl)
theorem mj_328_92 : mc_P 328 92 = some (.getfield 242, 3, 14, 9, 0) := by decide +kernel
theorem s_328_92 {x0 x1 : Option Value} {o : Nat} : mw d 328 Q 92 [x0, x1] (.ref o :: st) h = (mg h o 14 ∧ mw d 328 Q 95 [x0, x1] (.int (mh_i h o 9) :: st) h) := (mw_at mj_328_92).trans (z_geti (by decide) (by decide) (Or.inr rfl))
theorem mj_328_95 : mc_P 328 95 = some (.ifCond .eq 7, 3, 0, 0, 0) := by decide +kernel
theorem s_328_95 {x0 x1 : Option Value} {x : Int32} : mw d 328 Q 95 [x0, x1] (.int x :: st) h = mB (x = 0) (mw d 328 Q) 102 98 [x0, x1] st h := (mw_at mj_328_95).trans (z_if_eq (by decide) rfl)
theorem mj_328_98 : mc_P 328 98 = some (.iconst (-1), 1, 0, 0, 0) := by decide +kernel
theorem s_328_98 {x0 x1 : Option Value} : mw d 328 Q 98 [x0, x1] (st) h = mw d 328 Q 99 [x0, x1] (.int (-1) :: st) h := (mw_at mj_328_98).trans (z_iconst (by decide))
theorem mj_328_99 : mc_P 328 99 = some (.goto 8, 3, 0, 0, 0) := by decide +kernel
theorem s_328_99 {x0 x1 : Option Value} : mw d 328 Q 99 [x0, x1] (st) h = mw d 328 Q 107 [x0, x1] (st) h := (mw_at mj_328_99).trans (z_goto (by decide))
theorem mj_328_102 : mc_P 328 102 = some (.aload_n 0, 1, 0, 0, 0) := by decide +kernel
theorem s_328_102 {x1 : Option Value} {w : Value} : mw d 328 Q 102 [some w, x1] (st) h = mv_a w (mw d 328 Q 103 [some w, x1] (w :: st) h) := (mw_at mj_328_102).trans (z_aload_n rfl)
theorem mj_328_103 : mc_P 328 103 = some (.iconst 1, 1, 0, 0, 0) := by decide +kernel
theorem s_328_103 {x0 x1 : Option Value} : mw d 328 Q 103 [x0, x1] (st) h = mw d 328 Q 104 [x0, x1] (.int 1 :: st) h := (mw_at mj_328_103).trans (z_iconst (by decide))
theorem mj_328_104 : mc_P 328 104 = some (.invokevirtual 304, 3, 324, 14, 2) := by decide +kernel
theorem s_328_104 {x0 x1 : Option Value} {o : Nat} {a1 : Value} : mw (d + 1) 328 Q 104 [x0, x1] (a1 :: .ref o :: st) h = (mg h o 14 ∧ mca st 8 ∧ mca [.ref o, a1] 3 ∧ mcall d 324 [.ref o, a1] h (mK (d + 1) 328 Q 107 [x0, x1] st)) := (mw_at mj_328_104).trans ((z_invv (As := [a1]) (by decide) rfl rfl).trans (congrArg (And _) (congrArg (And _) (mC_nl nl_324))))
theorem mj_328_107 : mc_P 328 107 = some (.invokevirtual 272, 3, 314, 14, 3) := by decide +kernel
theorem s_328_107 {x0 x1 : Option Value} {o : Nat} {a1 a2 : Value} : mw (d + 1) 328 Q 107 [x0, x1] (a2 :: a1 :: .ref o :: st) h = (mg h o 14 ∧ mca st 8 ∧ mca [.ref o, a1, a2] 3 ∧ mcall d 314 [.ref o, a1, a2] h (mK (d + 1) 328 Q 110 [x0, x1] st)) := (mw_at mj_328_107).trans ((z_invv (As := [a1, a2]) (by decide) rfl rfl).trans (congrArg (And _) (congrArg (And _) (mC_nl nl_314))))
theorem mj_328_110 : mc_P 328 110 = some (.iload_n 1, 1, 0, 0, 0) := by decide +kernel
theorem s_328_110 {x0 : Option Value} {w : Value} : mw d 328 Q 110 [x0, some w] (st) h = mv_i w (mw d 328 Q 111 [x0, some w] (w :: st) h) := (mw_at mj_328_110).trans (z_iload_n rfl)
theorem mj_328_111 : mc_P 328 111 = some (.ireturn, 1, 0, 0, 0) := by decide +kernel
theorem s_328_111 {x0 x1 : Option Value} {x : Int32} : mw d 328 Q 111 [x0, x1] ([.int x]) h = (Q (some (.int x)) h) := (mw_at mj_328_111).trans (z_iret)
theorem e_328 {a0 : Nat} : mcall d 328 [.ref a0] h Q = mw d 328 Q 0 [some (.ref a0), none] [] h := by
  show mw d 328 Q 0 (me_en (mc_nl 328) _) [] h = _
  rw [nl_328]; rfl

/-! InvariantDeskModel.end(I)I -/
theorem mj_331_0 : mc_P 331 0 = some (.iload_n 1, 1, 0, 0, 0) := by decide +kernel
theorem s_331_0 {x0 x2 : Option Value} {w : Value} : mw d 331 Q 0 [x0, some w, x2] (st) h = mv_i w (mw d 331 Q 1 [x0, some w, x2] (w :: st) h) := (mw_at mj_331_0).trans (z_iload_n rfl)
theorem mj_331_1 : mc_P 331 1 = some (.ifCond .lt 11, 3, 0, 0, 0) := by decide +kernel
theorem s_331_1 {x0 x1 x2 : Option Value} {x : Int32} : mw d 331 Q 1 [x0, x1, x2] (.int x :: st) h = mB (x < 0) (mw d 331 Q) 12 4 [x0, x1, x2] st h := (mw_at mj_331_1).trans (z_if_lt (by decide) rfl)
theorem mj_331_4 : mc_P 331 4 = some (.iload_n 1, 1, 0, 0, 0) := by decide +kernel
theorem s_331_4 {x0 x2 : Option Value} {w : Value} : mw d 331 Q 4 [x0, some w, x2] (st) h = mv_i w (mw d 331 Q 5 [x0, some w, x2] (w :: st) h) := (mw_at mj_331_4).trans (z_iload_n rfl)
theorem mj_331_5 : mc_P 331 5 = some (.aload_n 0, 1, 0, 0, 0) := by decide +kernel
theorem s_331_5 {x1 x2 : Option Value} {w : Value} : mw d 331 Q 5 [some w, x1, x2] (st) h = mv_a w (mw d 331 Q 6 [some w, x1, x2] (w :: st) h) := (mw_at mj_331_5).trans (z_aload_n rfl)
theorem mj_331_6 : mc_P 331 6 = some (.getfield 194, 3, 14, 2, 0) := by decide +kernel
theorem s_331_6 {x0 x1 x2 : Option Value} {o : Nat} : mw d 331 Q 6 [x0, x1, x2] (.ref o :: st) h = (mg h o 14 ∧ mw d 331 Q 9 [x0, x1, x2] (.int (mh_i h o 2) :: st) h) := (mw_at mj_331_6).trans (z_geti (by decide) (by decide) (Or.inl rfl))
theorem mj_331_9 : mc_P 331 9 = some (.if_icmp .le 5, 3, 0, 0, 0) := by decide +kernel
theorem s_331_9 {x0 x1 x2 : Option Value} {x w : Int32} : mw d 331 Q 9 [x0, x1, x2] (.int w :: .int x :: st) h = mB (x ≤ w) (mw d 331 Q) 14 12 [x0, x1, x2] st h := (mw_at mj_331_9).trans (z_icmp_le (by decide) rfl)
theorem mj_331_12 : mc_P 331 12 = some (.iconst (-1), 1, 0, 0, 0) := by decide +kernel
theorem s_331_12 {x0 x1 x2 : Option Value} : mw d 331 Q 12 [x0, x1, x2] (st) h = mw d 331 Q 13 [x0, x1, x2] (.int (-1) :: st) h := (mw_at mj_331_12).trans (z_iconst (by decide))
theorem mj_331_13 : mc_P 331 13 = some (.ireturn, 1, 0, 0, 0) := by decide +kernel
theorem s_331_13 {x0 x1 x2 : Option Value} {x : Int32} : mw d 331 Q 13 [x0, x1, x2] ([.int x]) h = (Q (some (.int x)) h) := (mw_at mj_331_13).trans (z_iret)
theorem mj_331_14 : mc_P 331 14 = some (.aload_n 0, 1, 0, 0, 0) := by decide +kernel
theorem s_331_14 {x1 x2 : Option Value} {w : Value} : mw d 331 Q 14 [some w, x1, x2] (st) h = mv_a w (mw d 331 Q 15 [some w, x1, x2] (w :: st) h) := (mw_at mj_331_14).trans (z_aload_n rfl)
theorem mj_331_15 : mc_P 331 15 = some (.iload_n 1, 1, 0, 0, 0) := by decide +kernel
theorem s_331_15 {x0 x2 : Option Value} {w : Value} : mw d 331 Q 15 [x0, some w, x2] (st) h = mv_i w (mw d 331 Q 16 [x0, some w, x2] (w :: st) h) := (mw_at mj_331_15).trans (z_iload_n rfl)
theorem mj_331_16 : mc_P 331 16 = some (.putfield 197, 3, 14, 3, 0) := by decide +kernel
theorem s_331_16 {x0 x1 x2 : Option Value} {o : Nat} {w : Int32} : mw d 331 Q 16 [x0, x1, x2] (.int w :: .ref o :: st) h = (mg h o 14 ∧ mw d 331 Q 19 [x0, x1, x2] (st) (mh_si h o 3 w)) := (mw_at mj_331_16).trans (z_puti (by decide) (by decide) rfl)
theorem mj_331_19 : mc_P 331 19 = some (.aload_n 0, 1, 0, 0, 0) := by decide +kernel
theorem s_331_19 {x1 x2 : Option Value} {w : Value} : mw d 331 Q 19 [some w, x1, x2] (st) h = mv_a w (mw d 331 Q 20 [some w, x1, x2] (w :: st) h) := (mw_at mj_331_19).trans (z_aload_n rfl)
theorem mj_331_20 : mc_P 331 20 = some (.iconst 0, 1, 0, 0, 0) := by decide +kernel
theorem s_331_20 {x0 x1 x2 : Option Value} : mw d 331 Q 20 [x0, x1, x2] (st) h = mw d 331 Q 21 [x0, x1, x2] (.int 0 :: st) h := (mw_at mj_331_20).trans (z_iconst (by decide))
theorem mj_331_21 : mc_P 331 21 = some (.putfield 191, 3, 14, 24, 0) := by decide +kernel
theorem s_331_21 {x0 x1 x2 : Option Value} {o : Nat} {w : Int32} : mw d 331 Q 21 [x0, x1, x2] (.int w :: .ref o :: st) h = (mg h o 14 ∧ mw d 331 Q 24 [x0, x1, x2] (st) (mh_si h o 24 w)) := (mw_at mj_331_21).trans (z_puti (by decide) (by decide) rfl)
theorem mj_331_24 : mc_P 331 24 = some (.aload_n 0, 1, 0, 0, 0) := by decide +kernel
theorem s_331_24 {x1 x2 : Option Value} {w : Value} : mw d 331 Q 24 [some w, x1, x2] (st) h = mv_a w (mw d 331 Q 25 [some w, x1, x2] (w :: st) h) := (mw_at mj_331_24).trans (z_aload_n rfl)
theorem mj_331_25 : mc_P 331 25 = some (.iconst 0, 1, 0, 0, 0) := by decide +kernel
theorem s_331_25 {x0 x1 x2 : Option Value} : mw d 331 Q 25 [x0, x1, x2] (st) h = mw d 331 Q 26 [x0, x1, x2] (.int 0 :: st) h := (mw_at mj_331_25).trans (z_iconst (by decide))
theorem mj_331_26 : mc_P 331 26 = some (.putfield 309, 3, 14, 27, 0) := by decide +kernel
theorem s_331_26 {x0 x1 x2 : Option Value} {o : Nat} {w : Int32} : mw d 331 Q 26 [x0, x1, x2] (.int w :: .ref o :: st) h = (mg h o 14 ∧ mw d 331 Q 29 [x0, x1, x2] (st) (mh_si h o 27 w)) := (mw_at mj_331_26).trans (z_puti (by decide) (by decide) rfl)
theorem mj_331_29 : mc_P 331 29 = some (.aload_n 0, 1, 0, 0, 0) := by decide +kernel
theorem s_331_29 {x1 x2 : Option Value} {w : Value} : mw d 331 Q 29 [some w, x1, x2] (st) h = mv_a w (mw d 331 Q 30 [some w, x1, x2] (w :: st) h) := (mw_at mj_331_29).trans (z_aload_n rfl)
theorem mj_331_30 : mc_P 331 30 = some (.iconst 0, 1, 0, 0, 0) := by decide +kernel
theorem s_331_30 {x0 x1 x2 : Option Value} : mw d 331 Q 30 [x0, x1, x2] (st) h = mw d 331 Q 31 [x0, x1, x2] (.int 0 :: st) h := (mw_at mj_331_30).trans (z_iconst (by decide))
theorem mj_331_31 : mc_P 331 31 = some (.iconst 0, 1, 0, 0, 0) := by decide +kernel
theorem s_331_31 {x0 x1 x2 : Option Value} : mw d 331 Q 31 [x0, x1, x2] (st) h = mw d 331 Q 32 [x0, x1, x2] (.int 0 :: st) h := (mw_at mj_331_31).trans (z_iconst (by decide))
theorem mj_331_32 : mc_P 331 32 = some (.iconst 0, 1, 0, 0, 0) := by decide +kernel
theorem s_331_32 {x0 x1 x2 : Option Value} : mw d 331 Q 32 [x0, x1, x2] (st) h = mw d 331 Q 33 [x0, x1, x2] (.int 0 :: st) h := (mw_at mj_331_32).trans (z_iconst (by decide))
theorem mj_331_33 : mc_P 331 33 = some (.iconst (-1), 1, 0, 0, 0) := by decide +kernel
theorem s_331_33 {x0 x1 x2 : Option Value} : mw d 331 Q 33 [x0, x1, x2] (st) h = mw d 331 Q 34 [x0, x1, x2] (.int (-1) :: st) h := (mw_at mj_331_33).trans (z_iconst (by decide))
theorem mj_331_34 : mc_P 331 34 = some (.invokevirtual 315, 3, 300, 14, 5) := by decide +kernel
theorem s_331_34 {x0 x1 x2 : Option Value} {o : Nat} {a1 a2 a3 a4 : Value} : mw (d + 1) 331 Q 34 [x0, x1, x2] (a4 :: a3 :: a2 :: a1 :: .ref o :: st) h = (mg h o 14 ∧ mca st 8 ∧ mca [.ref o, a1, a2, a3, a4] 6 ∧ mcall d 300 [.ref o, a1, a2, a3, a4] h (mK (d + 1) 331 Q 37 [x0, x1, x2] st)) := (mw_at mj_331_34).trans ((z_invv (As := [a1, a2, a3, a4]) (by decide) rfl rfl).trans (congrArg (And _) (congrArg (And _) (mC_nl nl_300))))
theorem mj_331_37 : mc_P 331 37 = some (.pop, 1, 0, 0, 0) := by decide +kernel
theorem s_331_37 {x0 x1 x2 : Option Value} {w : Value} : mw d 331 Q 37 [x0, x1, x2] (w :: st) h = (w.category = 1 ∧ mw d 331 Q 38 [x0, x1, x2] (st) h) := (mw_at mj_331_37).trans (z_pop)
theorem mj_331_38 : mc_P 331 38 = some (.aload_n 0, 1, 0, 0, 0) := by decide +kernel
theorem s_331_38 {x1 x2 : Option Value} {w : Value} : mw d 331 Q 38 [some w, x1, x2] (st) h = mv_a w (mw d 331 Q 39 [some w, x1, x2] (w :: st) h) := (mw_at mj_331_38).trans (z_aload_n rfl)
theorem mj_331_39 : mc_P 331 39 = some (.invokevirtual 319, 3, 309, 14, 1) := by decide +kernel
theorem s_331_39 {x0 x1 x2 : Option Value} {o : Nat} : mw (d + 1) 331 Q 39 [x0, x1, x2] (.ref o :: st) h = (mg h o 14 ∧ mca st 8 ∧ mca [.ref o] 6 ∧ mcall d 309 [.ref o] h (mK (d + 1) 331 Q 42 [x0, x1, x2] st)) := (mw_at mj_331_39).trans ((z_invv (As := []) (by decide) rfl rfl).trans (congrArg (And _) (congrArg (And _) (mC_nl nl_309))))
theorem mj_331_42 : mc_P 331 42 = some (.aload_n 0, 1, 0, 0, 0) := by decide +kernel
theorem s_331_42 {x1 x2 : Option Value} {w : Value} : mw d 331 Q 42 [some w, x1, x2] (st) h = mv_a w (mw d 331 Q 43 [some w, x1, x2] (w :: st) h) := (mw_at mj_331_42).trans (z_aload_n rfl)
theorem mj_331_43 : mc_P 331 43 = some (.iconst 0, 1, 0, 0, 0) := by decide +kernel
theorem s_331_43 {x0 x1 x2 : Option Value} : mw d 331 Q 43 [x0, x1, x2] (st) h = mw d 331 Q 44 [x0, x1, x2] (.int 0 :: st) h := (mw_at mj_331_43).trans (z_iconst (by decide))
theorem mj_331_44 : mc_P 331 44 = some (.putfield 246, 3, 14, 8, 0) := by decide +kernel
theorem s_331_44 {x0 x1 x2 : Option Value} {o : Nat} {w : Int32} : mw d 331 Q 44 [x0, x1, x2] (.int w :: .ref o :: st) h = (mg h o 14 ∧ mw d 331 Q 47 [x0, x1, x2] (st) (mh_si h o 8 w)) := (mw_at mj_331_44).trans (z_puti (by decide) (by decide) rfl)
theorem mj_331_47 : mc_P 331 47 = some (.aload_n 0, 1, 0, 0, 0) := by decide +kernel
theorem s_331_47 {x1 x2 : Option Value} {w : Value} : mw d 331 Q 47 [some w, x1, x2] (st) h = mv_a w (mw d 331 Q 48 [some w, x1, x2] (w :: st) h) := (mw_at mj_331_47).trans (z_aload_n rfl)
theorem mj_331_48 : mc_P 331 48 = some (.iconst 0, 1, 0, 0, 0) := by decide +kernel
theorem s_331_48 {x0 x1 x2 : Option Value} : mw d 331 Q 48 [x0, x1, x2] (st) h = mw d 331 Q 49 [x0, x1, x2] (.int 0 :: st) h := (mw_at mj_331_48).trans (z_iconst (by decide))
theorem mj_331_49 : mc_P 331 49 = some (.putfield 242, 3, 14, 9, 0) := by decide +kernel
theorem s_331_49 {x0 x1 x2 : Option Value} {o : Nat} {w : Int32} : mw d 331 Q 49 [x0, x1, x2] (.int w :: .ref o :: st) h = (mg h o 14 ∧ (w = 0 ∨ w = 1) ∧ mw d 331 Q 52 [x0, x1, x2] (st) (mh_si h o 9 w)) := (mw_at mj_331_49).trans (z_putz (by decide) (by decide) rfl)
theorem mj_331_52 : mc_P 331 52 = some (.aload_n 0, 1, 0, 0, 0) := by decide +kernel
theorem s_331_52 {x1 x2 : Option Value} {w : Value} : mw d 331 Q 52 [some w, x1, x2] (st) h = mv_a w (mw d 331 Q 53 [some w, x1, x2] (w :: st) h) := (mw_at mj_331_52).trans (z_aload_n rfl)
theorem mj_331_53 : mc_P 331 53 = some (.iconst (-1), 1, 0, 0, 0) := by decide +kernel
theorem s_331_53 {x0 x1 x2 : Option Value} : mw d 331 Q 53 [x0, x1, x2] (st) h = mw d 331 Q 54 [x0, x1, x2] (.int (-1) :: st) h := (mw_at mj_331_53).trans (z_iconst (by decide))
theorem mj_331_54 : mc_P 331 54 = some (.putfield 22, 3, 14, 10, 0) := by decide +kernel
theorem s_331_54 {x0 x1 x2 : Option Value} {o : Nat} {w : Int32} : mw d 331 Q 54 [x0, x1, x2] (.int w :: .ref o :: st) h = (mg h o 14 ∧ mw d 331 Q 57 [x0, x1, x2] (st) (mh_si h o 10 w)) := (mw_at mj_331_54).trans (z_puti (by decide) (by decide) rfl)
theorem mj_331_57 : mc_P 331 57 = some (.aload_n 0, 1, 0, 0, 0) := by decide +kernel
theorem s_331_57 {x1 x2 : Option Value} {w : Value} : mw d 331 Q 57 [some w, x1, x2] (st) h = mv_a w (mw d 331 Q 58 [some w, x1, x2] (w :: st) h) := (mw_at mj_331_57).trans (z_aload_n rfl)
theorem mj_331_58 : mc_P 331 58 = some (.iconst 0, 1, 0, 0, 0) := by decide +kernel
theorem s_331_58 {x0 x1 x2 : Option Value} : mw d 331 Q 58 [x0, x1, x2] (st) h = mw d 331 Q 59 [x0, x1, x2] (.int 0 :: st) h := (mw_at mj_331_58).trans (z_iconst (by decide))
theorem mj_331_59 : mc_P 331 59 = some (.putfield 256, 3, 14, 17, 0) := by decide +kernel
theorem s_331_59 {x0 x1 x2 : Option Value} {o : Nat} {w : Int32} : mw d 331 Q 59 [x0, x1, x2] (.int w :: .ref o :: st) h = (mg h o 14 ∧ mw d 331 Q 62 [x0, x1, x2] (st) (mh_si h o 17 w)) := (mw_at mj_331_59).trans (z_puti (by decide) (by decide) rfl)
theorem mj_331_62 : mc_P 331 62 = some (.aload_n 0, 1, 0, 0, 0) := by decide +kernel
theorem s_331_62 {x1 x2 : Option Value} {w : Value} : mw d 331 Q 62 [some w, x1, x2] (st) h = mv_a w (mw d 331 Q 63 [some w, x1, x2] (w :: st) h) := (mw_at mj_331_62).trans (z_aload_n rfl)
theorem mj_331_63 : mc_P 331 63 = some (.invokevirtual 322, 3, 328, 14, 1) := by decide +kernel
theorem s_331_63 {x0 x1 x2 : Option Value} {o : Nat} : mw (d + 1) 331 Q 63 [x0, x1, x2] (.ref o :: st) h = (mg h o 14 ∧ mca st 8 ∧ mca [.ref o] 2 ∧ mcall d 328 [.ref o] h (mK (d + 1) 331 Q 66 [x0, x1, x2] st)) := (mw_at mj_331_63).trans ((z_invv (As := []) (by decide) rfl rfl).trans (congrArg (And _) (congrArg (And _) (mC_nl nl_328))))
theorem mj_331_66 : mc_P 331 66 = some (.istore_n 2, 1, 0, 0, 0) := by decide +kernel
theorem s_331_66 {x0 x1 x2 : Option Value} {w : Int32} : mw d 331 Q 66 [x0, x1, x2] (.int w :: st) h = mw d 331 Q 67 [x0, mk2 x1, some (.int w)] (st) h := (mw_at mj_331_66).trans (z_istore_n (Nat.le_of_ble_eq_true rfl) (me_s1_mk (j := 1) (w := x1) rfl))
theorem mj_331_67 : mc_P 331 67 = some (.aload_n 0, 1, 0, 0, 0) := by decide +kernel
theorem s_331_67 {x1 x2 : Option Value} {w : Value} : mw d 331 Q 67 [some w, x1, x2] (st) h = mv_a w (mw d 331 Q 68 [some w, x1, x2] (w :: st) h) := (mw_at mj_331_67).trans (z_aload_n rfl)
theorem mj_331_68 : mc_P 331 68 = some (.getfield 242, 3, 14, 9, 0) := by decide +kernel
theorem s_331_68 {x0 x1 x2 : Option Value} {o : Nat} : mw d 331 Q 68 [x0, x1, x2] (.ref o :: st) h = (mg h o 14 ∧ mw d 331 Q 71 [x0, x1, x2] (.int (mh_i h o 9) :: st) h) := (mw_at mj_331_68).trans (z_geti (by decide) (by decide) (Or.inr rfl))
theorem mj_331_71 : mc_P 331 71 = some (.ifCond .ne 8, 3, 0, 0, 0) := by decide +kernel
theorem s_331_71 {x0 x1 x2 : Option Value} {x : Int32} : mw d 331 Q 71 [x0, x1, x2] (.int x :: st) h = mB (¬ x = 0) (mw d 331 Q) 79 74 [x0, x1, x2] st h := (mw_at mj_331_71).trans (z_if_ne (by decide) rfl)
theorem mj_331_74 : mc_P 331 74 = some (.aload_n 0, 1, 0, 0, 0) := by decide +kernel
theorem s_331_74 {x1 x2 : Option Value} {w : Value} : mw d 331 Q 74 [some w, x1, x2] (st) h = mv_a w (mw d 331 Q 75 [some w, x1, x2] (w :: st) h) := (mw_at mj_331_74).trans (z_aload_n rfl)
theorem mj_331_75 : mc_P 331 75 = some (.iload_n 2, 1, 0, 0, 0) := by decide +kernel
theorem s_331_75 {x0 x1 : Option Value} {w : Value} : mw d 331 Q 75 [x0, x1, some w] (st) h = mv_i w (mw d 331 Q 76 [x0, x1, some w] (w :: st) h) := (mw_at mj_331_75).trans (z_iload_n rfl)
theorem mj_331_76 : mc_P 331 76 = some (.invokevirtual 325, 3, 330, 14, 2) := by decide +kernel
theorem s_331_76 {x0 x1 x2 : Option Value} {o : Nat} {a1 : Value} : mw (d + 1) 331 Q 76 [x0, x1, x2] (a1 :: .ref o :: st) h = (mg h o 14 ∧ mca st 8 ∧ mca [.ref o, a1] 6 ∧ mcall d 330 [.ref o, a1] h (mK (d + 1) 331 Q 79 [x0, x1, x2] st)) := (mw_at mj_331_76).trans ((z_invv (As := [a1]) (by decide) rfl rfl).trans (congrArg (And _) (congrArg (And _) (mC_nl nl_330))))
theorem mj_331_79 : mc_P 331 79 = some (.aload_n 0, 1, 0, 0, 0) := by decide +kernel
theorem s_331_79 {x1 x2 : Option Value} {w : Value} : mw d 331 Q 79 [some w, x1, x2] (st) h = mv_a w (mw d 331 Q 80 [some w, x1, x2] (w :: st) h) := (mw_at mj_331_79).trans (z_aload_n rfl)
theorem mj_331_80 : mc_P 331 80 = some (.invokevirtual 249, 3, 310, 14, 1) := by decide +kernel
theorem s_331_80 {x0 x1 x2 : Option Value} {o : Nat} : mw (d + 1) 331 Q 80 [x0, x1, x2] (.ref o :: st) h = (mg h o 14 ∧ mca st 8 ∧ mca [.ref o] 1 ∧ mcall d 310 [.ref o] h (mK (d + 1) 331 Q 83 [x0, x1, x2] st)) := (mw_at mj_331_80).trans ((z_invv (As := []) (by decide) rfl rfl).trans (congrArg (And _) (congrArg (And _) (mC_nl nl_310))))
theorem mj_331_83 : mc_P 331 83 = some (.ifCond .eq 10, 3, 0, 0, 0) := by decide +kernel
theorem s_331_83 {x0 x1 x2 : Option Value} {x : Int32} : mw d 331 Q 83 [x0, x1, x2] (.int x :: st) h = mB (x = 0) (mw d 331 Q) 93 86 [x0, x1, x2] st h := (mw_at mj_331_83).trans (z_if_eq (by decide) rfl)
theorem mj_331_86 : mc_P 331 86 = some (.aload_n 0, 1, 0, 0, 0) := by decide +kernel
theorem s_331_86 {x1 x2 : Option Value} {w : Value} : mw d 331 Q 86 [some w, x1, x2] (st) h = mv_a w (mw d 331 Q 87 [some w, x1, x2] (w :: st) h) := (mw_at mj_331_86).trans (z_aload_n rfl)
theorem mj_331_87 : mc_P 331 87 = some (.getfield 242, 3, 14, 9, 0) := by decide +kernel
theorem s_331_87 {x0 x1 x2 : Option Value} {o : Nat} : mw d 331 Q 87 [x0, x1, x2] (.ref o :: st) h = (mg h o 14 ∧ mw d 331 Q 90 [x0, x1, x2] (.int (mh_i h o 9) :: st) h) := (mw_at mj_331_87).trans (z_geti (by decide) (by decide) (Or.inr rfl))
theorem mj_331_90 : mc_P 331 90 = some (.ifCond .eq (-33), 3, 0, 0, 0) := by decide +kernel
theorem s_331_90 {x0 x1 x2 : Option Value} {x : Int32} : mw d 331 Q 90 [x0, x1, x2] (.int x :: st) h = mB (x = 0) (mw d 331 Q) 57 93 [x0, x1, x2] st h := (mw_at mj_331_90).trans (z_if_eq (by decide) rfl)
theorem mj_331_93 : mc_P 331 93 = some (.aload_n 0, 1, 0, 0, 0) := by decide +kernel
theorem s_331_93 {x1 x2 : Option Value} {w : Value} : mw d 331 Q 93 [some w, x1, x2] (st) h = mv_a w (mw d 331 Q 94 [some w, x1, x2] (w :: st) h) := (mw_at mj_331_93).trans (z_aload_n rfl)
theorem mj_331_94 : mc_P 331 94 = some (.iconst 0, 1, 0, 0, 0) := by decide +kernel
theorem s_331_94 {x0 x1 x2 : Option Value} : mw d 331 Q 94 [x0, x1, x2] (st) h = mw d 331 Q 95 [x0, x1, x2] (.int 0 :: st) h := (mw_at mj_331_94).trans (z_iconst (by decide))
theorem mj_331_95 : mc_P 331 95 = some (.putfield 194, 3, 14, 2, 0) := by decide +kernel
theorem s_331_95 {x0 x1 x2 : Option Value} {o : Nat} {w : Int32} : mw d 331 Q 95 [x0, x1, x2] (.int w :: .ref o :: st) h = (mg h o 14 ∧ mw d 331 Q 98 [x0, x1, x2] (st) (mh_si h o 2 w)) := (mw_at mj_331_95).trans (z_puti (by decide) (by decide) rfl)
theorem mj_331_98 : mc_P 331 98 = some (.aload_n 0, 1, 0, 0, 0) := by decide +kernel
theorem s_331_98 {x1 x2 : Option Value} {w : Value} : mw d 331 Q 98 [some w, x1, x2] (st) h = mv_a w (mw d 331 Q 99 [some w, x1, x2] (w :: st) h) := (mw_at mj_331_98).trans (z_aload_n rfl)
theorem mj_331_99 : mc_P 331 99 = some (.iconst 0, 1, 0, 0, 0) := by decide +kernel
theorem s_331_99 {x0 x1 x2 : Option Value} : mw d 331 Q 99 [x0, x1, x2] (st) h = mw d 331 Q 100 [x0, x1, x2] (.int 0 :: st) h := (mw_at mj_331_99).trans (z_iconst (by decide))
theorem mj_331_100 : mc_P 331 100 = some (.putfield 328, 3, 14, 47, 0) := by decide +kernel
theorem s_331_100 {x0 x1 x2 : Option Value} {o : Nat} {w : Int32} : mw d 331 Q 100 [x0, x1, x2] (.int w :: .ref o :: st) h = (mg h o 14 ∧ mw d 331 Q 103 [x0, x1, x2] (st) (mh_si h o 47 w)) := (mw_at mj_331_100).trans (z_puti (by decide) (by decide) rfl)
theorem mj_331_103 : mc_P 331 103 = some (.aload_n 0, 1, 0, 0, 0) := by decide +kernel
theorem s_331_103 {x1 x2 : Option Value} {w : Value} : mw d 331 Q 103 [some w, x1, x2] (st) h = mv_a w (mw d 331 Q 104 [some w, x1, x2] (w :: st) h) := (mw_at mj_331_103).trans (z_aload_n rfl)
theorem mj_331_104 : mc_P 331 104 = some (.aload_n 0, 1, 0, 0, 0) := by decide +kernel
theorem s_331_104 {x1 x2 : Option Value} {w : Value} : mw d 331 Q 104 [some w, x1, x2] (st) h = mv_a w (mw d 331 Q 105 [some w, x1, x2] (w :: st) h) := (mw_at mj_331_104).trans (z_aload_n rfl)
theorem mj_331_105 : mc_P 331 105 = some (.getfield 242, 3, 14, 9, 0) := by decide +kernel
theorem s_331_105 {x0 x1 x2 : Option Value} {o : Nat} : mw d 331 Q 105 [x0, x1, x2] (.ref o :: st) h = (mg h o 14 ∧ mw d 331 Q 108 [x0, x1, x2] (.int (mh_i h o 9) :: st) h) := (mw_at mj_331_105).trans (z_geti (by decide) (by decide) (Or.inr rfl))
theorem mj_331_108 : mc_P 331 108 = some (.ifCond .eq 10, 3, 0, 0, 0) := by decide +kernel
theorem s_331_108 {x0 x1 x2 : Option Value} {x : Int32} : mw d 331 Q 108 [x0, x1, x2] (.int x :: st) h = mB (x = 0) (mw d 331 Q) 118 111 [x0, x1, x2] st h := (mw_at mj_331_108).trans (z_if_eq (by decide) rfl)
theorem mj_331_111 : mc_P 331 111 = some (.aload_n 0, 1, 0, 0, 0) := by decide +kernel
theorem s_331_111 {x1 x2 : Option Value} {w : Value} : mw d 331 Q 111 [some w, x1, x2] (st) h = mv_a w (mw d 331 Q 112 [some w, x1, x2] (w :: st) h) := (mw_at mj_331_111).trans (z_aload_n rfl)
theorem mj_331_112 : mc_P 331 112 = some (.getfield 22, 3, 14, 10, 0) := by decide +kernel
theorem s_331_112 {x0 x1 x2 : Option Value} {o : Nat} : mw d 331 Q 112 [x0, x1, x2] (.ref o :: st) h = (mg h o 14 ∧ mw d 331 Q 115 [x0, x1, x2] (.int (mh_i h o 10) :: st) h) := (mw_at mj_331_112).trans (z_geti (by decide) (by decide) (Or.inl rfl))
theorem mj_331_115 : mc_P 331 115 = some (.goto 4, 3, 0, 0, 0) := by decide +kernel
theorem s_331_115 {x0 x1 x2 : Option Value} : mw d 331 Q 115 [x0, x1, x2] (st) h = mw d 331 Q 119 [x0, x1, x2] (st) h := (mw_at mj_331_115).trans (z_goto (by decide))
theorem mj_331_118 : mc_P 331 118 = some (.iconst 0, 1, 0, 0, 0) := by decide +kernel
theorem s_331_118 {x0 x1 x2 : Option Value} : mw d 331 Q 118 [x0, x1, x2] (st) h = mw d 331 Q 119 [x0, x1, x2] (.int 0 :: st) h := (mw_at mj_331_118).trans (z_iconst (by decide))
theorem mj_331_119 : mc_P 331 119 = some (.putfield 331, 3, 14, 48, 0) := by decide +kernel
theorem s_331_119 {x0 x1 x2 : Option Value} {o : Nat} {w : Int32} : mw d 331 Q 119 [x0, x1, x2] (.int w :: .ref o :: st) h = (mg h o 14 ∧ mw d 331 Q 122 [x0, x1, x2] (st) (mh_si h o 48 w)) := (mw_at mj_331_119).trans (z_puti (by decide) (by decide) rfl)
theorem mj_331_122 : mc_P 331 122 = some (.aload_n 0, 1, 0, 0, 0) := by decide +kernel
theorem s_331_122 {x1 x2 : Option Value} {w : Value} : mw d 331 Q 122 [some w, x1, x2] (st) h = mv_a w (mw d 331 Q 123 [some w, x1, x2] (w :: st) h) := (mw_at mj_331_122).trans (z_aload_n rfl)
theorem mj_331_123 : mc_P 331 123 = some (.invokevirtual 173, 3, 299, 14, 1) := by decide +kernel
theorem s_331_123 {x0 x1 x2 : Option Value} {o : Nat} : mw (d + 1) 331 Q 123 [x0, x1, x2] (.ref o :: st) h = (mg h o 14 ∧ mca st 8 ∧ mca [.ref o] 1 ∧ mcall d 299 [.ref o] h (mK (d + 1) 331 Q 126 [x0, x1, x2] st)) := (mw_at mj_331_123).trans ((z_invv (As := []) (by decide) rfl rfl).trans (congrArg (And _) (congrArg (And _) (mC_nl nl_299))))
theorem mj_331_126 : mc_P 331 126 = some (.aload_n 0, 1, 0, 0, 0) := by decide +kernel
theorem s_331_126 {x1 x2 : Option Value} {w : Value} : mw d 331 Q 126 [some w, x1, x2] (st) h = mv_a w (mw d 331 Q 127 [some w, x1, x2] (w :: st) h) := (mw_at mj_331_126).trans (z_aload_n rfl)
theorem mj_331_127 : mc_P 331 127 = some (.aload_n 0, 1, 0, 0, 0) := by decide +kernel
theorem s_331_127 {x1 x2 : Option Value} {w : Value} : mw d 331 Q 127 [some w, x1, x2] (st) h = mv_a w (mw d 331 Q 128 [some w, x1, x2] (w :: st) h) := (mw_at mj_331_127).trans (z_aload_n rfl)
theorem mj_331_128 : mc_P 331 128 = some (.getfield 242, 3, 14, 9, 0) := by decide +kernel
theorem s_331_128 {x0 x1 x2 : Option Value} {o : Nat} : mw d 331 Q 128 [x0, x1, x2] (.ref o :: st) h = (mg h o 14 ∧ mw d 331 Q 131 [x0, x1, x2] (.int (mh_i h o 9) :: st) h) := (mw_at mj_331_128).trans (z_geti (by decide) (by decide) (Or.inr rfl))
theorem mj_331_131 : mc_P 331 131 = some (.ifCond .eq 7, 3, 0, 0, 0) := by decide +kernel
theorem s_331_131 {x0 x1 x2 : Option Value} {x : Int32} : mw d 331 Q 131 [x0, x1, x2] (.int x :: st) h = mB (x = 0) (mw d 331 Q) 138 134 [x0, x1, x2] st h := (mw_at mj_331_131).trans (z_if_eq (by decide) rfl)
theorem mj_331_134 : mc_P 331 134 = some (.iconst 1, 1, 0, 0, 0) := by decide +kernel
theorem s_331_134 {x0 x1 x2 : Option Value} : mw d 331 Q 134 [x0, x1, x2] (st) h = mw d 331 Q 135 [x0, x1, x2] (.int 1 :: st) h := (mw_at mj_331_134).trans (z_iconst (by decide))
theorem mj_331_135 : mc_P 331 135 = some (.goto 4, 3, 0, 0, 0) := by decide +kernel
theorem s_331_135 {x0 x1 x2 : Option Value} : mw d 331 Q 135 [x0, x1, x2] (st) h = mw d 331 Q 139 [x0, x1, x2] (st) h := (mw_at mj_331_135).trans (z_goto (by decide))
theorem mj_331_138 : mc_P 331 138 = some (.iconst 0, 1, 0, 0, 0) := by decide +kernel
theorem s_331_138 {x0 x1 x2 : Option Value} : mw d 331 Q 138 [x0, x1, x2] (st) h = mw d 331 Q 139 [x0, x1, x2] (.int 0 :: st) h := (mw_at mj_331_138).trans (z_iconst (by decide))
theorem mj_331_139 : mc_P 331 139 = some (.putfield 109, 3, 14, 49, 0) := by decide +kernel
theorem s_331_139 {x0 x1 x2 : Option Value} {o : Nat} {w : Int32} : mw d 331 Q 139 [x0, x1, x2] (.int w :: .ref o :: st) h = (mg h o 14 ∧ mw d 331 Q 142 [x0, x1, x2] (st) (mh_si h o 49 w)) := (mw_at mj_331_139).trans (z_puti (by decide) (by decide) rfl)
theorem mj_331_142 : mc_P 331 142 = some (.aload_n 0, 1, 0, 0, 0) := by decide +kernel
theorem s_331_142 {x1 x2 : Option Value} {w : Value} : mw d 331 Q 142 [some w, x1, x2] (st) h = mv_a w (mw d 331 Q 143 [some w, x1, x2] (w :: st) h) := (mw_at mj_331_142).trans (z_aload_n rfl)
theorem mj_331_143 : mc_P 331 143 = some (.getfield 242, 3, 14, 9, 0) := by decide +kernel
theorem s_331_143 {x0 x1 x2 : Option Value} {o : Nat} : mw d 331 Q 143 [x0, x1, x2] (.ref o :: st) h = (mg h o 14 ∧ mw d 331 Q 146 [x0, x1, x2] (.int (mh_i h o 9) :: st) h) := (mw_at mj_331_143).trans (z_geti (by decide) (by decide) (Or.inr rfl))
theorem mj_331_146 : mc_P 331 146 = some (.ifCond .ne 7, 3, 0, 0, 0) := by decide +kernel
theorem s_331_146 {x0 x1 x2 : Option Value} {x : Int32} : mw d 331 Q 146 [x0, x1, x2] (.int x :: st) h = mB (¬ x = 0) (mw d 331 Q) 153 149 [x0, x1, x2] st h := (mw_at mj_331_146).trans (z_if_ne (by decide) rfl)
theorem mj_331_149 : mc_P 331 149 = some (.aload_n 0, 1, 0, 0, 0) := by decide +kernel
theorem s_331_149 {x1 x2 : Option Value} {w : Value} : mw d 331 Q 149 [some w, x1, x2] (st) h = mv_a w (mw d 331 Q 150 [some w, x1, x2] (w :: st) h) := (mw_at mj_331_149).trans (z_aload_n rfl)
theorem mj_331_150 : mc_P 331 150 = some (.invokevirtual 334, 3, 345, 14, 1) := by decide +kernel
theorem s_331_150 {x0 x1 x2 : Option Value} {o : Nat} : mw (d + 1) 331 Q 150 [x0, x1, x2] (.ref o :: st) h = (mg h o 14 ∧ mca st 8 ∧ mca [.ref o] 3 ∧ mcall d 345 [.ref o] h (mK (d + 1) 331 Q 153 [x0, x1, x2] st)) := (mw_at mj_331_150).trans ((z_invv (As := []) (by decide) rfl rfl).trans (congrArg (And _) (congrArg (And _) (mC_nl nl_345))))
theorem mj_331_153 : mc_P 331 153 = some (.aload_n 0, 1, 0, 0, 0) := by decide +kernel
theorem s_331_153 {x1 x2 : Option Value} {w : Value} : mw d 331 Q 153 [some w, x1, x2] (st) h = mv_a w (mw d 331 Q 154 [some w, x1, x2] (w :: st) h) := (mw_at mj_331_153).trans (z_aload_n rfl)
theorem mj_331_154 : mc_P 331 154 = some (.getfield 328, 3, 14, 47, 0) := by decide +kernel
theorem s_331_154 {x0 x1 x2 : Option Value} {o : Nat} : mw d 331 Q 154 [x0, x1, x2] (.ref o :: st) h = (mg h o 14 ∧ mw d 331 Q 157 [x0, x1, x2] (.int (mh_i h o 47) :: st) h) := (mw_at mj_331_154).trans (z_geti (by decide) (by decide) (Or.inl rfl))
theorem mj_331_157 : mc_P 331 157 = some (.ifCond .le 15, 3, 0, 0, 0) := by decide +kernel
theorem s_331_157 {x0 x1 x2 : Option Value} {x : Int32} : mw d 331 Q 157 [x0, x1, x2] (.int x :: st) h = mB (x ≤ 0) (mw d 331 Q) 172 160 [x0, x1, x2] st h := (mw_at mj_331_157).trans (z_if_le (by decide) rfl)
theorem mj_331_160 : mc_P 331 160 = some (.aload_n 0, 1, 0, 0, 0) := by decide +kernel
theorem s_331_160 {x1 x2 : Option Value} {w : Value} : mw d 331 Q 160 [some w, x1, x2] (st) h = mv_a w (mw d 331 Q 161 [some w, x1, x2] (w :: st) h) := (mw_at mj_331_160).trans (z_aload_n rfl)
theorem mj_331_161 : mc_P 331 161 = some (.iconst 2, 1, 0, 0, 0) := by decide +kernel
theorem s_331_161 {x0 x1 x2 : Option Value} : mw d 331 Q 161 [x0, x1, x2] (st) h = mw d 331 Q 162 [x0, x1, x2] (.int 2 :: st) h := (mw_at mj_331_161).trans (z_iconst (by decide))
theorem mj_331_162 : mc_P 331 162 = some (.putfield 109, 3, 14, 49, 0) := by decide +kernel
theorem s_331_162 {x0 x1 x2 : Option Value} {o : Nat} {w : Int32} : mw d 331 Q 162 [x0, x1, x2] (.int w :: .ref o :: st) h = (mg h o 14 ∧ mw d 331 Q 165 [x0, x1, x2] (st) (mh_si h o 49 w)) := (mw_at mj_331_162).trans (z_puti (by decide) (by decide) rfl)
theorem mj_331_165 : mc_P 331 165 = some (.aload_n 0, 1, 0, 0, 0) := by decide +kernel
theorem s_331_165 {x1 x2 : Option Value} {w : Value} : mw d 331 Q 165 [some w, x1, x2] (st) h = mv_a w (mw d 331 Q 166 [some w, x1, x2] (w :: st) h) := (mw_at mj_331_165).trans (z_aload_n rfl)
theorem mj_331_166 : mc_P 331 166 = some (.invokevirtual 173, 3, 299, 14, 1) := by decide +kernel
theorem s_331_166 {x0 x1 x2 : Option Value} {o : Nat} : mw (d + 1) 331 Q 166 [x0, x1, x2] (.ref o :: st) h = (mg h o 14 ∧ mca st 8 ∧ mca [.ref o] 1 ∧ mcall d 299 [.ref o] h (mK (d + 1) 331 Q 169 [x0, x1, x2] st)) := (mw_at mj_331_166).trans ((z_invv (As := []) (by decide) rfl rfl).trans (congrArg (And _) (congrArg (And _) (mC_nl nl_299))))
theorem mj_331_169 : mc_P 331 169 = some (.goto 52, 3, 0, 0, 0) := by decide +kernel
theorem s_331_169 {x0 x1 x2 : Option Value} : mw d 331 Q 169 [x0, x1, x2] (st) h = mw d 331 Q 221 [x0, x1, x2] (st) h := (mw_at mj_331_169).trans (z_goto (by decide))
theorem mj_331_172 : mc_P 331 172 = some (.aload_n 0, 1, 0, 0, 0) := by decide +kernel
theorem s_331_172 {x1 x2 : Option Value} {w : Value} : mw d 331 Q 172 [some w, x1, x2] (st) h = mv_a w (mw d 331 Q 173 [some w, x1, x2] (w :: st) h) := (mw_at mj_331_172).trans (z_aload_n rfl)
theorem mj_331_173 : mc_P 331 173 = some (.getfield 242, 3, 14, 9, 0) := by decide +kernel
theorem s_331_173 {x0 x1 x2 : Option Value} {o : Nat} : mw d 331 Q 173 [x0, x1, x2] (.ref o :: st) h = (mg h o 14 ∧ mw d 331 Q 176 [x0, x1, x2] (.int (mh_i h o 9) :: st) h) := (mw_at mj_331_173).trans (z_geti (by decide) (by decide) (Or.inr rfl))
theorem mj_331_176 : mc_P 331 176 = some (.ifCond .ne 45, 3, 0, 0, 0) := by decide +kernel
theorem s_331_176 {x0 x1 x2 : Option Value} {x : Int32} : mw d 331 Q 176 [x0, x1, x2] (.int x :: st) h = mB (¬ x = 0) (mw d 331 Q) 221 179 [x0, x1, x2] st h := (mw_at mj_331_176).trans (z_if_ne (by decide) rfl)
theorem mj_331_179 : mc_P 331 179 = some (.aload_n 0, 1, 0, 0, 0) := by decide +kernel
theorem s_331_179 {x1 x2 : Option Value} {w : Value} : mw d 331 Q 179 [some w, x1, x2] (st) h = mv_a w (mw d 331 Q 180 [some w, x1, x2] (w :: st) h) := (mw_at mj_331_179).trans (z_aload_n rfl)
theorem mj_331_180 : mc_P 331 180 = some (.getfield 121, 3, 14, 52, 0) := by decide +kernel
theorem s_331_180 {x0 x1 x2 : Option Value} {o : Nat} : mw d 331 Q 180 [x0, x1, x2] (.ref o :: st) h = (mg h o 14 ∧ mw d 331 Q 183 [x0, x1, x2] (va_rf (mh_r h o 52) :: st) h) := (mw_at mj_331_180).trans (z_getr (by decide) (by decide) rfl)
theorem mj_331_183 : mc_P 331 183 = some (.aload_n 0, 1, 0, 0, 0) := by decide +kernel
theorem s_331_183 {x1 x2 : Option Value} {w : Value} : mw d 331 Q 183 [some w, x1, x2] (st) h = mv_a w (mw d 331 Q 184 [some w, x1, x2] (w :: st) h) := (mw_at mj_331_183).trans (z_aload_n rfl)
theorem mj_331_184 : mc_P 331 184 = some (.getfield 48, 3, 14, 19, 0) := by decide +kernel
theorem s_331_184 {x0 x1 x2 : Option Value} {o : Nat} : mw d 331 Q 184 [x0, x1, x2] (.ref o :: st) h = (mg h o 14 ∧ mw d 331 Q 187 [x0, x1, x2] (va_rf (mh_r h o 19) :: st) h) := (mw_at mj_331_184).trans (z_getr (by decide) (by decide) rfl)
theorem mj_331_187 : mc_P 331 187 = some (.aload_n 0, 1, 0, 0, 0) := by decide +kernel
theorem s_331_187 {x1 x2 : Option Value} {w : Value} : mw d 331 Q 187 [some w, x1, x2] (st) h = mv_a w (mw d 331 Q 188 [some w, x1, x2] (w :: st) h) := (mw_at mj_331_187).trans (z_aload_n rfl)
theorem mj_331_188 : mc_P 331 188 = some (.getfield 55, 3, 14, 21, 0) := by decide +kernel
theorem s_331_188 {x0 x1 x2 : Option Value} {o : Nat} : mw d 331 Q 188 [x0, x1, x2] (.ref o :: st) h = (mg h o 14 ∧ mw d 331 Q 191 [x0, x1, x2] (va_rf (mh_r h o 21) :: st) h) := (mw_at mj_331_188).trans (z_getr (by decide) (by decide) rfl)
theorem mj_331_191 : mc_P 331 191 = some (.aload_n 0, 1, 0, 0, 0) := by decide +kernel
theorem s_331_191 {x1 x2 : Option Value} {w : Value} : mw d 331 Q 191 [some w, x1, x2] (st) h = mv_a w (mw d 331 Q 192 [some w, x1, x2] (w :: st) h) := (mw_at mj_331_191).trans (z_aload_n rfl)
theorem mj_331_192 : mc_P 331 192 = some (.getfield 61, 3, 14, 23, 0) := by decide +kernel
theorem s_331_192 {x0 x1 x2 : Option Value} {o : Nat} : mw d 331 Q 192 [x0, x1, x2] (.ref o :: st) h = (mg h o 14 ∧ mw d 331 Q 195 [x0, x1, x2] (va_rf (mh_r h o 23) :: st) h) := (mw_at mj_331_192).trans (z_getr (by decide) (by decide) rfl)
theorem mj_331_195 : mc_P 331 195 = some (.aload_n 0, 1, 0, 0, 0) := by decide +kernel
theorem s_331_195 {x1 x2 : Option Value} {w : Value} : mw d 331 Q 195 [some w, x1, x2] (st) h = mv_a w (mw d 331 Q 196 [some w, x1, x2] (w :: st) h) := (mw_at mj_331_195).trans (z_aload_n rfl)
theorem mj_331_196 : mc_P 331 196 = some (.getfield 191, 3, 14, 24, 0) := by decide +kernel
theorem s_331_196 {x0 x1 x2 : Option Value} {o : Nat} : mw d 331 Q 196 [x0, x1, x2] (.ref o :: st) h = (mg h o 14 ∧ mw d 331 Q 199 [x0, x1, x2] (.int (mh_i h o 24) :: st) h) := (mw_at mj_331_196).trans (z_geti (by decide) (by decide) (Or.inl rfl))
theorem mj_331_199 : mc_P 331 199 = some (.invokevirtual 337, 3, 270, 12, 5) := by decide +kernel
theorem s_331_199 {x0 x1 x2 : Option Value} {o : Nat} {a1 a2 a3 a4 : Value} : mw (d + 1) 331 Q 199 [x0, x1, x2] (a4 :: a3 :: a2 :: a1 :: .ref o :: st) h = (mg h o 12 ∧ mca st 8 ∧ mca [.ref o, a1, a2, a3, a4] 6 ∧ mcall d 270 [.ref o, a1, a2, a3, a4] h (mK (d + 1) 331 Q 202 [x0, x1, x2] st)) := (mw_at mj_331_199).trans ((z_invv (As := [a1, a2, a3, a4]) (by decide) rfl rfl).trans (congrArg (And _) (congrArg (And _) (mC_nl nl_270))))
theorem mj_331_202 : mc_P 331 202 = some (.aload_n 0, 1, 0, 0, 0) := by decide +kernel
theorem s_331_202 {x1 x2 : Option Value} {w : Value} : mw d 331 Q 202 [some w, x1, x2] (st) h = mv_a w (mw d 331 Q 203 [some w, x1, x2] (w :: st) h) := (mw_at mj_331_202).trans (z_aload_n rfl)
theorem mj_331_203 : mc_P 331 203 = some (.aload_n 0, 1, 0, 0, 0) := by decide +kernel
theorem s_331_203 {x1 x2 : Option Value} {w : Value} : mw d 331 Q 203 [some w, x1, x2] (st) h = mv_a w (mw d 331 Q 204 [some w, x1, x2] (w :: st) h) := (mw_at mj_331_203).trans (z_aload_n rfl)
theorem mj_331_204 : mc_P 331 204 = some (.getfield 121, 3, 14, 52, 0) := by decide +kernel
theorem s_331_204 {x0 x1 x2 : Option Value} {o : Nat} : mw d 331 Q 204 [x0, x1, x2] (.ref o :: st) h = (mg h o 14 ∧ mw d 331 Q 207 [x0, x1, x2] (va_rf (mh_r h o 52) :: st) h) := (mw_at mj_331_204).trans (z_getr (by decide) (by decide) rfl)
theorem mj_331_207 : mc_P 331 207 = some (.invokevirtual 341, 3, 273, 12, 1) := by decide +kernel
theorem s_331_207 {x0 x1 x2 : Option Value} {o : Nat} : mw (d + 1) 331 Q 207 [x0, x1, x2] (.ref o :: st) h = (mg h o 12 ∧ mca st 8 ∧ mca [.ref o] 4 ∧ mcall d 273 [.ref o] h (mK (d + 1) 331 Q 210 [x0, x1, x2] st)) := (mw_at mj_331_207).trans ((z_invv (As := []) (by decide) rfl rfl).trans (congrArg (And _) (congrArg (And _) (mC_nl nl_273))))
theorem mj_331_210 : mc_P 331 210 = some (.ifCond .eq 7, 3, 0, 0, 0) := by decide +kernel
theorem s_331_210 {x0 x1 x2 : Option Value} {x : Int32} : mw d 331 Q 210 [x0, x1, x2] (.int x :: st) h = mB (x = 0) (mw d 331 Q) 217 213 [x0, x1, x2] st h := (mw_at mj_331_210).trans (z_if_eq (by decide) rfl)
theorem mj_331_213 : mc_P 331 213 = some (.iconst 0, 1, 0, 0, 0) := by decide +kernel
theorem s_331_213 {x0 x1 x2 : Option Value} : mw d 331 Q 213 [x0, x1, x2] (st) h = mw d 331 Q 214 [x0, x1, x2] (.int 0 :: st) h := (mw_at mj_331_213).trans (z_iconst (by decide))
theorem mj_331_214 : mc_P 331 214 = some (.goto 4, 3, 0, 0, 0) := by decide +kernel
theorem s_331_214 {x0 x1 x2 : Option Value} : mw d 331 Q 214 [x0, x1, x2] (st) h = mw d 331 Q 218 [x0, x1, x2] (st) h := (mw_at mj_331_214).trans (z_goto (by decide))
theorem mj_331_217 : mc_P 331 217 = some (.iconst 3, 1, 0, 0, 0) := by decide +kernel
theorem s_331_217 {x0 x1 x2 : Option Value} : mw d 331 Q 217 [x0, x1, x2] (st) h = mw d 331 Q 218 [x0, x1, x2] (.int 3 :: st) h := (mw_at mj_331_217).trans (z_iconst (by decide))
theorem mj_331_218 : mc_P 331 218 = some (.putfield 109, 3, 14, 49, 0) := by decide +kernel
theorem s_331_218 {x0 x1 x2 : Option Value} {o : Nat} {w : Int32} : mw d 331 Q 218 [x0, x1, x2] (.int w :: .ref o :: st) h = (mg h o 14 ∧ mw d 331 Q 221 [x0, x1, x2] (st) (mh_si h o 49 w)) := (mw_at mj_331_218).trans (z_puti (by decide) (by decide) rfl)
theorem mj_331_221 : mc_P 331 221 = some (.aload_n 0, 1, 0, 0, 0) := by decide +kernel
theorem s_331_221 {x1 x2 : Option Value} {w : Value} : mw d 331 Q 221 [some w, x1, x2] (st) h = mv_a w (mw d 331 Q 222 [some w, x1, x2] (w :: st) h) := (mw_at mj_331_221).trans (z_aload_n rfl)
theorem mj_331_222 : mc_P 331 222 = some (.getfield 109, 3, 14, 49, 0) := by decide +kernel
theorem s_331_222 {x0 x1 x2 : Option Value} {o : Nat} : mw d 331 Q 222 [x0, x1, x2] (.ref o :: st) h = (mg h o 14 ∧ mw d 331 Q 225 [x0, x1, x2] (.int (mh_i h o 49) :: st) h) := (mw_at mj_331_222).trans (z_geti (by decide) (by decide) (Or.inl rfl))
theorem mj_331_225 : mc_P 331 225 = some (.ireturn, 1, 0, 0, 0) := by decide +kernel
theorem s_331_225 {x0 x1 x2 : Option Value} {x : Int32} : mw d 331 Q 225 [x0, x1, x2] ([.int x]) h = (Q (some (.int x)) h) := (mw_at mj_331_225).trans (z_iret)
theorem e_331 {a0 : Nat} {a1 : Int32} : mcall d 331 [.ref a0, .int a1] h Q = mw d 331 Q 0 [some (.ref a0), some (.int a1), none] [] h := by
  show mw d 331 Q 0 (me_en (mc_nl 331) _) [] h = _
  rw [nl_331]; rfl

/-! InvariantDeskModel.told(I)I -/
theorem mj_332_0 : mc_P 332 0 = some (.aload_n 0, 1, 0, 0, 0) := by decide +kernel
theorem s_332_0 {x1 : Option Value} {w : Value} : mw d 332 Q 0 [some w, x1] (st) h = mv_a w (mw d 332 Q 1 [some w, x1] (w :: st) h) := (mw_at mj_332_0).trans (z_aload_n rfl)
theorem mj_332_1 : mc_P 332 1 = some (.getfield 109, 3, 14, 49, 0) := by decide +kernel
theorem s_332_1 {x0 x1 : Option Value} {o : Nat} : mw d 332 Q 1 [x0, x1] (.ref o :: st) h = (mg h o 14 ∧ mw d 332 Q 4 [x0, x1] (.int (mh_i h o 49) :: st) h) := (mw_at mj_332_1).trans (z_geti (by decide) (by decide) (Or.inl rfl))
theorem mj_332_4 : mc_P 332 4 = some (.iconst (-1), 1, 0, 0, 0) := by decide +kernel
theorem s_332_4 {x0 x1 : Option Value} : mw d 332 Q 4 [x0, x1] (st) h = mw d 332 Q 5 [x0, x1] (.int (-1) :: st) h := (mw_at mj_332_4).trans (z_iconst (by decide))
theorem mj_332_5 : mc_P 332 5 = some (.if_icmp .eq 12, 3, 0, 0, 0) := by decide +kernel
theorem s_332_5 {x0 x1 : Option Value} {x w : Int32} : mw d 332 Q 5 [x0, x1] (.int w :: .int x :: st) h = mB (x = w) (mw d 332 Q) 17 8 [x0, x1] st h := (mw_at mj_332_5).trans (z_icmp_eq (by decide) rfl)
theorem mj_332_8 : mc_P 332 8 = some (.iload_n 1, 1, 0, 0, 0) := by decide +kernel
theorem s_332_8 {x0 : Option Value} {w : Value} : mw d 332 Q 8 [x0, some w] (st) h = mv_i w (mw d 332 Q 9 [x0, some w] (w :: st) h) := (mw_at mj_332_8).trans (z_iload_n rfl)
theorem mj_332_9 : mc_P 332 9 = some (.ifCond .lt 8, 3, 0, 0, 0) := by decide +kernel
theorem s_332_9 {x0 x1 : Option Value} {x : Int32} : mw d 332 Q 9 [x0, x1] (.int x :: st) h = mB (x < 0) (mw d 332 Q) 17 12 [x0, x1] st h := (mw_at mj_332_9).trans (z_if_lt (by decide) rfl)
theorem mj_332_12 : mc_P 332 12 = some (.iload_n 1, 1, 0, 0, 0) := by decide +kernel
theorem s_332_12 {x0 : Option Value} {w : Value} : mw d 332 Q 12 [x0, some w] (st) h = mv_i w (mw d 332 Q 13 [x0, some w] (w :: st) h) := (mw_at mj_332_12).trans (z_iload_n rfl)
theorem mj_332_13 : mc_P 332 13 = some (.iconst 2, 1, 0, 0, 0) := by decide +kernel
theorem s_332_13 {x0 x1 : Option Value} : mw d 332 Q 13 [x0, x1] (st) h = mw d 332 Q 14 [x0, x1] (.int 2 :: st) h := (mw_at mj_332_13).trans (z_iconst (by decide))
theorem mj_332_14 : mc_P 332 14 = some (.if_icmp .le 7, 3, 0, 0, 0) := by decide +kernel
theorem s_332_14 {x0 x1 : Option Value} {x w : Int32} : mw d 332 Q 14 [x0, x1] (.int w :: .int x :: st) h = mB (x ≤ w) (mw d 332 Q) 21 17 [x0, x1] st h := (mw_at mj_332_14).trans (z_icmp_le (by decide) rfl)
theorem mj_332_17 : mc_P 332 17 = some (.iconst (-1), 1, 0, 0, 0) := by decide +kernel
theorem s_332_17 {x0 x1 : Option Value} : mw d 332 Q 17 [x0, x1] (st) h = mw d 332 Q 18 [x0, x1] (.int (-1) :: st) h := (mw_at mj_332_17).trans (z_iconst (by decide))
theorem mj_332_18 : mc_P 332 18 = some (.goto 44, 3, 0, 0, 0) := by decide +kernel
theorem s_332_18 {x0 x1 : Option Value} : mw d 332 Q 18 [x0, x1] (st) h = mw d 332 Q 62 [x0, x1] (st) h := (mw_at mj_332_18).trans (z_goto (by decide))
theorem mj_332_21 : mc_P 332 21 = some (.iload_n 1, 1, 0, 0, 0) := by decide +kernel
theorem s_332_21 {x0 : Option Value} {w : Value} : mw d 332 Q 21 [x0, some w] (st) h = mv_i w (mw d 332 Q 22 [x0, some w] (w :: st) h) := (mw_at mj_332_21).trans (z_iload_n rfl)
theorem mj_332_22 : mc_P 332 22 = some (.ifCond .ne 10, 3, 0, 0, 0) := by decide +kernel
theorem s_332_22 {x0 x1 : Option Value} {x : Int32} : mw d 332 Q 22 [x0, x1] (.int x :: st) h = mB (¬ x = 0) (mw d 332 Q) 32 25 [x0, x1] st h := (mw_at mj_332_22).trans (z_if_ne (by decide) rfl)
theorem mj_332_25 : mc_P 332 25 = some (.aload_n 0, 1, 0, 0, 0) := by decide +kernel
theorem s_332_25 {x1 : Option Value} {w : Value} : mw d 332 Q 25 [some w, x1] (st) h = mv_a w (mw d 332 Q 26 [some w, x1] (w :: st) h) := (mw_at mj_332_25).trans (z_aload_n rfl)
theorem mj_332_26 : mc_P 332 26 = some (.getfield 328, 3, 14, 47, 0) := by decide +kernel
theorem s_332_26 {x0 x1 : Option Value} {o : Nat} : mw d 332 Q 26 [x0, x1] (.ref o :: st) h = (mg h o 14 ∧ mw d 332 Q 29 [x0, x1] (.int (mh_i h o 47) :: st) h) := (mw_at mj_332_26).trans (z_geti (by decide) (by decide) (Or.inl rfl))
theorem mj_332_29 : mc_P 332 29 = some (.goto 33, 3, 0, 0, 0) := by decide +kernel
theorem s_332_29 {x0 x1 : Option Value} : mw d 332 Q 29 [x0, x1] (st) h = mw d 332 Q 62 [x0, x1] (st) h := (mw_at mj_332_29).trans (z_goto (by decide))
theorem mj_332_32 : mc_P 332 32 = some (.iload_n 1, 1, 0, 0, 0) := by decide +kernel
theorem s_332_32 {x0 : Option Value} {w : Value} : mw d 332 Q 32 [x0, some w] (st) h = mv_i w (mw d 332 Q 33 [x0, some w] (w :: st) h) := (mw_at mj_332_32).trans (z_iload_n rfl)
theorem mj_332_33 : mc_P 332 33 = some (.iconst 1, 1, 0, 0, 0) := by decide +kernel
theorem s_332_33 {x0 x1 : Option Value} : mw d 332 Q 33 [x0, x1] (st) h = mw d 332 Q 34 [x0, x1] (.int 1 :: st) h := (mw_at mj_332_33).trans (z_iconst (by decide))
theorem mj_332_34 : mc_P 332 34 = some (.if_icmp .ne 10, 3, 0, 0, 0) := by decide +kernel
theorem s_332_34 {x0 x1 : Option Value} {x w : Int32} : mw d 332 Q 34 [x0, x1] (.int w :: .int x :: st) h = mB (¬ x = w) (mw d 332 Q) 44 37 [x0, x1] st h := (mw_at mj_332_34).trans (z_icmp_ne (by decide) rfl)
theorem mj_332_37 : mc_P 332 37 = some (.aload_n 0, 1, 0, 0, 0) := by decide +kernel
theorem s_332_37 {x1 : Option Value} {w : Value} : mw d 332 Q 37 [some w, x1] (st) h = mv_a w (mw d 332 Q 38 [some w, x1] (w :: st) h) := (mw_at mj_332_37).trans (z_aload_n rfl)
theorem mj_332_38 : mc_P 332 38 = some (.getfield 331, 3, 14, 48, 0) := by decide +kernel
theorem s_332_38 {x0 x1 : Option Value} {o : Nat} : mw d 332 Q 38 [x0, x1] (.ref o :: st) h = (mg h o 14 ∧ mw d 332 Q 41 [x0, x1] (.int (mh_i h o 48) :: st) h) := (mw_at mj_332_38).trans (z_geti (by decide) (by decide) (Or.inl rfl))
theorem mj_332_41 : mc_P 332 41 = some (.goto 21, 3, 0, 0, 0) := by decide +kernel
theorem s_332_41 {x0 x1 : Option Value} : mw d 332 Q 41 [x0, x1] (st) h = mw d 332 Q 62 [x0, x1] (st) h := (mw_at mj_332_41).trans (z_goto (by decide))
theorem mj_332_44 : mc_P 332 44 = some (.aload_n 0, 1, 0, 0, 0) := by decide +kernel
theorem s_332_44 {x1 : Option Value} {w : Value} : mw d 332 Q 44 [some w, x1] (st) h = mv_a w (mw d 332 Q 45 [some w, x1] (w :: st) h) := (mw_at mj_332_44).trans (z_aload_n rfl)
theorem mj_332_45 : mc_P 332 45 = some (.getfield 109, 3, 14, 49, 0) := by decide +kernel
theorem s_332_45 {x0 x1 : Option Value} {o : Nat} : mw d 332 Q 45 [x0, x1] (.ref o :: st) h = (mg h o 14 ∧ mw d 332 Q 48 [x0, x1] (.int (mh_i h o 49) :: st) h) := (mw_at mj_332_45).trans (z_geti (by decide) (by decide) (Or.inl rfl))
theorem mj_332_48 : mc_P 332 48 = some (.ifCond .ne 13, 3, 0, 0, 0) := by decide +kernel
theorem s_332_48 {x0 x1 : Option Value} {x : Int32} : mw d 332 Q 48 [x0, x1] (.int x :: st) h = mB (¬ x = 0) (mw d 332 Q) 61 51 [x0, x1] st h := (mw_at mj_332_48).trans (z_if_ne (by decide) rfl)
theorem mj_332_51 : mc_P 332 51 = some (.aload_n 0, 1, 0, 0, 0) := by decide +kernel
theorem s_332_51 {x1 : Option Value} {w : Value} : mw d 332 Q 51 [some w, x1] (st) h = mv_a w (mw d 332 Q 52 [some w, x1] (w :: st) h) := (mw_at mj_332_51).trans (z_aload_n rfl)
theorem mj_332_52 : mc_P 332 52 = some (.getfield 121, 3, 14, 52, 0) := by decide +kernel
theorem s_332_52 {x0 x1 : Option Value} {o : Nat} : mw d 332 Q 52 [x0, x1] (.ref o :: st) h = (mg h o 14 ∧ mw d 332 Q 55 [x0, x1] (va_rf (mh_r h o 52) :: st) h) := (mw_at mj_332_52).trans (z_getr (by decide) (by decide) rfl)
theorem mj_332_55 : mc_P 332 55 = some (.getfield 345, 3, 12, 8, 0) := by decide +kernel
theorem s_332_55 {x0 x1 : Option Value} {o : Nat} : mw d 332 Q 55 [x0, x1] (.ref o :: st) h = (mg h o 12 ∧ mw d 332 Q 58 [x0, x1] (.int (mh_i h o 8) :: st) h) := (mw_at mj_332_55).trans (z_geti (by decide) (by decide) (Or.inl rfl))
theorem mj_332_58 : mc_P 332 58 = some (.goto 4, 3, 0, 0, 0) := by decide +kernel
theorem s_332_58 {x0 x1 : Option Value} : mw d 332 Q 58 [x0, x1] (st) h = mw d 332 Q 62 [x0, x1] (st) h := (mw_at mj_332_58).trans (z_goto (by decide))
theorem mj_332_61 : mc_P 332 61 = some (.iconst 0, 1, 0, 0, 0) := by decide +kernel
theorem s_332_61 {x0 x1 : Option Value} : mw d 332 Q 61 [x0, x1] (st) h = mw d 332 Q 62 [x0, x1] (.int 0 :: st) h := (mw_at mj_332_61).trans (z_iconst (by decide))
theorem mj_332_62 : mc_P 332 62 = some (.ireturn, 1, 0, 0, 0) := by decide +kernel
theorem s_332_62 {x0 x1 : Option Value} {x : Int32} : mw d 332 Q 62 [x0, x1] ([.int x]) h = (Q (some (.int x)) h) := (mw_at mj_332_62).trans (z_iret)
theorem e_332 {a0 : Nat} {a1 : Int32} : mcall d 332 [.ref a0, .int a1] h Q = mw d 332 Q 0 [some (.ref a0), some (.int a1)] [] h := by
  show mw d 332 Q 0 (me_en (mc_nl 332) _) [] h = _
  rw [nl_332]; rfl

/-! InvariantDeskModel.points()I -/
theorem mj_350_0 : mc_P 350 0 = some (.aload_n 0, 1, 0, 0, 0) := by decide +kernel
theorem s_350_0 {w : Value} : mw d 350 Q 0 [some w] (st) h = mv_a w (mw d 350 Q 1 [some w] (w :: st) h) := (mw_at mj_350_0).trans (z_aload_n rfl)
theorem mj_350_1 : mc_P 350 1 = some (.getfield 176, 3, 14, 33, 0) := by decide +kernel
theorem s_350_1 {x0 : Option Value} {o : Nat} : mw d 350 Q 1 [x0] (.ref o :: st) h = (mg h o 14 ∧ mw d 350 Q 4 [x0] (.int (mh_i h o 33) :: st) h) := (mw_at mj_350_1).trans (z_geti (by decide) (by decide) (Or.inl rfl))
theorem mj_350_4 : mc_P 350 4 = some (.ireturn, 1, 0, 0, 0) := by decide +kernel
theorem s_350_4 {x0 : Option Value} {x : Int32} : mw d 350 Q 4 [x0] ([.int x]) h = (Q (some (.int x)) h) := (mw_at mj_350_4).trans (z_iret)
theorem e_350 {a0 : Nat} : mcall d 350 [.ref a0] h Q = mw d 350 Q 0 [some (.ref a0)] [] h := by
  show mw d 350 Q 0 (me_en (mc_nl 350) _) [] h = _
  rw [nl_350]; rfl

end SR
