/-! rules of methods, by program (wip/whole/srule.py) -/
section SR
variable {d : Nat} {Q : Option Value → mh_H → Prop} {st : List Value} {h : mh_H}
/-! InvariantDesk$Analysis.<init>(LInvariantDesk$Program;LInvariantDesk$Effect;)V -/
theorem mj_0_0 : mc_P 0 0 = some (.aload_n 0, 1, 0, 0, 0) := by decide +kernel
theorem s_0_0 {x1 x2 : Option Value} {w : Value} : mw d 0 Q 0 [some w, x1, x2] (st) h = mv_a w (mw d 0 Q 1 [some w, x1, x2] (w :: st) h) := (mw_at mj_0_0).trans (z_aload_n rfl)
theorem mj_0_1 : mc_P 0 1 = some (.invokespecial 3, 3, 0, 1, 0) := by decide +kernel
theorem s_0_1 {x0 x1 x2 : Option Value} {o : Nat} : mw d 0 Q 1 [x0, x1, x2] (.ref o :: st) h = (mca st 8 ∧ mw d 0 Q 4 [x0, x1, x2] (st) h) := (mw_at mj_0_1).trans (z_obj)
theorem mj_0_4 : mc_P 0 4 = some (.aload_n 0, 1, 0, 0, 0) := by decide +kernel
theorem s_0_4 {x1 x2 : Option Value} {w : Value} : mw d 0 Q 4 [some w, x1, x2] (st) h = mv_a w (mw d 0 Q 5 [some w, x1, x2] (w :: st) h) := (mw_at mj_0_4).trans (z_aload_n rfl)
theorem mj_0_5 : mc_P 0 5 = some (.sipush 250, 3, 0, 0, 0) := by decide +kernel
theorem s_0_5 {x0 x1 x2 : Option Value} : mw d 0 Q 5 [x0, x1, x2] (st) h = mw d 0 Q 8 [x0, x1, x2] (.int 250 :: st) h := (mw_at mj_0_5).trans (z_sipush (by decide))
theorem mj_0_8 : mc_P 0 8 = some (.anewarray 9, 3, 104, 0, 0) := by decide +kernel
theorem s_0_8 {x0 x1 x2 : Option Value} {i : Int32} : mw d 0 Q 8 [x0, x1, x2] (.int i :: st) h = (mN i ∧ mw d 0 Q 11 [x0, x1, x2] (.ref (mh_n h) :: st) (mh_new h 104 i.toNatClampNeg)) := (mw_at mj_0_8).trans (z_anewa (by decide) (by decide))
theorem mj_0_11 : mc_P 0 11 = some (.putfield 11, 3, 0, 0, 0) := by decide +kernel
theorem s_0_11 {x0 x1 x2 : Option Value} {o w : Nat} : mw d 0 Q 11 [x0, x1, x2] (.ref w :: .ref o :: st) h = (mg h o 0 ∧ mw d 0 Q 14 [x0, x1, x2] (st) (mh_sr h o 0 (some w))) := (mw_at mj_0_11).trans (z_putr (by decide) (by decide) rfl)
theorem s_0_11n {x0 x1 x2 : Option Value} {o : Nat} : mw d 0 Q 11 [x0, x1, x2] (.null :: .ref o :: st) h = (mg h o 0 ∧ mw d 0 Q 14 [x0, x1, x2] (st) (mh_sr h o 0 none)) := (mw_at mj_0_11).trans (z_putn (by decide) (by decide) rfl)
theorem mj_0_14 : mc_P 0 14 = some (.aload_n 0, 1, 0, 0, 0) := by decide +kernel
theorem s_0_14 {x1 x2 : Option Value} {w : Value} : mw d 0 Q 14 [some w, x1, x2] (st) h = mv_a w (mw d 0 Q 15 [some w, x1, x2] (w :: st) h) := (mw_at mj_0_14).trans (z_aload_n rfl)
theorem mj_0_15 : mc_P 0 15 = some (.sipush 250, 3, 0, 0, 0) := by decide +kernel
theorem s_0_15 {x0 x1 x2 : Option Value} : mw d 0 Q 15 [x0, x1, x2] (st) h = mw d 0 Q 18 [x0, x1, x2] (.int 250 :: st) h := (mw_at mj_0_15).trans (z_sipush (by decide))
theorem mj_0_18 : mc_P 0 18 = some (.newarray .int, 2, 100, 0, 0) := by decide +kernel
theorem s_0_18 {x0 x1 x2 : Option Value} {i : Int32} : mw d 0 Q 18 [x0, x1, x2] (.int i :: st) h = (mN i ∧ mw d 0 Q 20 [x0, x1, x2] (.ref (mh_n h) :: st) (mh_new h 100 i.toNatClampNeg)) := (mw_at mj_0_18).trans (z_newa (by decide) (by decide))
theorem mj_0_20 : mc_P 0 20 = some (.putfield 17, 3, 0, 1, 0) := by decide +kernel
theorem s_0_20 {x0 x1 x2 : Option Value} {o w : Nat} : mw d 0 Q 20 [x0, x1, x2] (.ref w :: .ref o :: st) h = (mg h o 0 ∧ mw d 0 Q 23 [x0, x1, x2] (st) (mh_sr h o 1 (some w))) := (mw_at mj_0_20).trans (z_putr (by decide) (by decide) rfl)
theorem s_0_20n {x0 x1 x2 : Option Value} {o : Nat} : mw d 0 Q 20 [x0, x1, x2] (.null :: .ref o :: st) h = (mg h o 0 ∧ mw d 0 Q 23 [x0, x1, x2] (st) (mh_sr h o 1 none)) := (mw_at mj_0_20).trans (z_putn (by decide) (by decide) rfl)
theorem mj_0_23 : mc_P 0 23 = some (.aload_n 0, 1, 0, 0, 0) := by decide +kernel
theorem s_0_23 {x1 x2 : Option Value} {w : Value} : mw d 0 Q 23 [some w, x1, x2] (st) h = mv_a w (mw d 0 Q 24 [some w, x1, x2] (w :: st) h) := (mw_at mj_0_23).trans (z_aload_n rfl)
theorem mj_0_24 : mc_P 0 24 = some (.new 9, 3, 8, 0, 0) := by decide +kernel
theorem s_0_24 {x0 x1 x2 : Option Value} : mw d 0 Q 24 [x0, x1, x2] (st) h = mw d 0 Q 27 [x0, x1, x2] (.ref (mh_n h) :: st) (mh_new h 8 6) := (mw_at mj_0_24).trans (z_new (by decide) rfl)
theorem mj_0_27 : mc_P 0 27 = some (.dup, 1, 0, 0, 0) := by decide +kernel
theorem s_0_27 {x0 x1 x2 : Option Value} {w : Value} : mw d 0 Q 27 [x0, x1, x2] (w :: st) h = (w.category = 1 ∧ mw d 0 Q 28 [x0, x1, x2] (w :: w :: st) h) := (mw_at mj_0_27).trans (z_dup)
theorem mj_0_28 : mc_P 0 28 = some (.invokespecial 21, 3, 139, 2, 1) := by decide +kernel
theorem s_0_28 {x0 x1 x2 : Option Value} {o : Nat} : mw (d + 1) 0 Q 28 [x0, x1, x2] (.ref o :: st) h = (mca st 8 ∧ mca [.ref o] 1 ∧ mcall d 139 [.ref o] h (mK (d + 1) 0 Q 31 [x0, x1, x2] st)) := (mw_at mj_0_28).trans ((z_invsp (As := []) (by decide) rfl rfl).trans (congrArg (And _) (mC_nl nl_139)))
theorem mj_0_31 : mc_P 0 31 = some (.putfield 22, 3, 0, 6, 0) := by decide +kernel
theorem s_0_31 {x0 x1 x2 : Option Value} {o w : Nat} : mw d 0 Q 31 [x0, x1, x2] (.ref w :: .ref o :: st) h = (mg h o 0 ∧ mw d 0 Q 34 [x0, x1, x2] (st) (mh_sr h o 6 (some w))) := (mw_at mj_0_31).trans (z_putr (by decide) (by decide) rfl)
theorem s_0_31n {x0 x1 x2 : Option Value} {o : Nat} : mw d 0 Q 31 [x0, x1, x2] (.null :: .ref o :: st) h = (mg h o 0 ∧ mw d 0 Q 34 [x0, x1, x2] (st) (mh_sr h o 6 none)) := (mw_at mj_0_31).trans (z_putn (by decide) (by decide) rfl)
theorem mj_0_34 : mc_P 0 34 = some (.aload_n 0, 1, 0, 0, 0) := by decide +kernel
theorem s_0_34 {x1 x2 : Option Value} {w : Value} : mw d 0 Q 34 [some w, x1, x2] (st) h = mv_a w (mw d 0 Q 35 [some w, x1, x2] (w :: st) h) := (mw_at mj_0_34).trans (z_aload_n rfl)
theorem mj_0_35 : mc_P 0 35 = some (.sipush 250, 3, 0, 0, 0) := by decide +kernel
theorem s_0_35 {x0 x1 x2 : Option Value} : mw d 0 Q 35 [x0, x1, x2] (st) h = mw d 0 Q 38 [x0, x1, x2] (.int 250 :: st) h := (mw_at mj_0_35).trans (z_sipush (by decide))
theorem mj_0_38 : mc_P 0 38 = some (.newarray .int, 2, 100, 0, 0) := by decide +kernel
theorem s_0_38 {x0 x1 x2 : Option Value} {i : Int32} : mw d 0 Q 38 [x0, x1, x2] (.int i :: st) h = (mN i ∧ mw d 0 Q 40 [x0, x1, x2] (.ref (mh_n h) :: st) (mh_new h 100 i.toNatClampNeg)) := (mw_at mj_0_38).trans (z_newa (by decide) (by decide))
theorem mj_0_40 : mc_P 0 40 = some (.putfield 26, 3, 0, 8, 0) := by decide +kernel
theorem s_0_40 {x0 x1 x2 : Option Value} {o w : Nat} : mw d 0 Q 40 [x0, x1, x2] (.ref w :: .ref o :: st) h = (mg h o 0 ∧ mw d 0 Q 43 [x0, x1, x2] (st) (mh_sr h o 8 (some w))) := (mw_at mj_0_40).trans (z_putr (by decide) (by decide) rfl)
theorem s_0_40n {x0 x1 x2 : Option Value} {o : Nat} : mw d 0 Q 40 [x0, x1, x2] (.null :: .ref o :: st) h = (mg h o 0 ∧ mw d 0 Q 43 [x0, x1, x2] (st) (mh_sr h o 8 none)) := (mw_at mj_0_40).trans (z_putn (by decide) (by decide) rfl)
theorem mj_0_43 : mc_P 0 43 = some (.aload_n 0, 1, 0, 0, 0) := by decide +kernel
theorem s_0_43 {x1 x2 : Option Value} {w : Value} : mw d 0 Q 43 [some w, x1, x2] (st) h = mv_a w (mw d 0 Q 44 [some w, x1, x2] (w :: st) h) := (mw_at mj_0_43).trans (z_aload_n rfl)
theorem mj_0_44 : mc_P 0 44 = some (.sipush 250, 3, 0, 0, 0) := by decide +kernel
theorem s_0_44 {x0 x1 x2 : Option Value} : mw d 0 Q 44 [x0, x1, x2] (st) h = mw d 0 Q 47 [x0, x1, x2] (.int 250 :: st) h := (mw_at mj_0_44).trans (z_sipush (by decide))
theorem mj_0_47 : mc_P 0 47 = some (.newarray .int, 2, 100, 0, 0) := by decide +kernel
theorem s_0_47 {x0 x1 x2 : Option Value} {i : Int32} : mw d 0 Q 47 [x0, x1, x2] (.int i :: st) h = (mN i ∧ mw d 0 Q 49 [x0, x1, x2] (.ref (mh_n h) :: st) (mh_new h 100 i.toNatClampNeg)) := (mw_at mj_0_47).trans (z_newa (by decide) (by decide))
theorem mj_0_49 : mc_P 0 49 = some (.putfield 29, 3, 0, 10, 0) := by decide +kernel
theorem s_0_49 {x0 x1 x2 : Option Value} {o w : Nat} : mw d 0 Q 49 [x0, x1, x2] (.ref w :: .ref o :: st) h = (mg h o 0 ∧ mw d 0 Q 52 [x0, x1, x2] (st) (mh_sr h o 10 (some w))) := (mw_at mj_0_49).trans (z_putr (by decide) (by decide) rfl)
theorem s_0_49n {x0 x1 x2 : Option Value} {o : Nat} : mw d 0 Q 49 [x0, x1, x2] (.null :: .ref o :: st) h = (mg h o 0 ∧ mw d 0 Q 52 [x0, x1, x2] (st) (mh_sr h o 10 none)) := (mw_at mj_0_49).trans (z_putn (by decide) (by decide) rfl)
theorem mj_0_52 : mc_P 0 52 = some (.aload_n 0, 1, 0, 0, 0) := by decide +kernel
theorem s_0_52 {x1 x2 : Option Value} {w : Value} : mw d 0 Q 52 [some w, x1, x2] (st) h = mv_a w (mw d 0 Q 53 [some w, x1, x2] (w :: st) h) := (mw_at mj_0_52).trans (z_aload_n rfl)
theorem mj_0_53 : mc_P 0 53 = some (.sipush 250, 3, 0, 0, 0) := by decide +kernel
theorem s_0_53 {x0 x1 x2 : Option Value} : mw d 0 Q 53 [x0, x1, x2] (st) h = mw d 0 Q 56 [x0, x1, x2] (.int 250 :: st) h := (mw_at mj_0_53).trans (z_sipush (by decide))
theorem mj_0_56 : mc_P 0 56 = some (.anewarray 9, 3, 104, 0, 0) := by decide +kernel
theorem s_0_56 {x0 x1 x2 : Option Value} {i : Int32} : mw d 0 Q 56 [x0, x1, x2] (.int i :: st) h = (mN i ∧ mw d 0 Q 59 [x0, x1, x2] (.ref (mh_n h) :: st) (mh_new h 104 i.toNatClampNeg)) := (mw_at mj_0_56).trans (z_anewa (by decide) (by decide))
theorem mj_0_59 : mc_P 0 59 = some (.putfield 32, 3, 0, 11, 0) := by decide +kernel
theorem s_0_59 {x0 x1 x2 : Option Value} {o w : Nat} : mw d 0 Q 59 [x0, x1, x2] (.ref w :: .ref o :: st) h = (mg h o 0 ∧ mw d 0 Q 62 [x0, x1, x2] (st) (mh_sr h o 11 (some w))) := (mw_at mj_0_59).trans (z_putr (by decide) (by decide) rfl)
theorem s_0_59n {x0 x1 x2 : Option Value} {o : Nat} : mw d 0 Q 59 [x0, x1, x2] (.null :: .ref o :: st) h = (mg h o 0 ∧ mw d 0 Q 62 [x0, x1, x2] (st) (mh_sr h o 11 none)) := (mw_at mj_0_59).trans (z_putn (by decide) (by decide) rfl)
theorem mj_0_62 : mc_P 0 62 = some (.aload_n 0, 1, 0, 0, 0) := by decide +kernel
theorem s_0_62 {x1 x2 : Option Value} {w : Value} : mw d 0 Q 62 [some w, x1, x2] (st) h = mv_a w (mw d 0 Q 63 [some w, x1, x2] (w :: st) h) := (mw_at mj_0_62).trans (z_aload_n rfl)
theorem mj_0_63 : mc_P 0 63 = some (.sipush 250, 3, 0, 0, 0) := by decide +kernel
theorem s_0_63 {x0 x1 x2 : Option Value} : mw d 0 Q 63 [x0, x1, x2] (st) h = mw d 0 Q 66 [x0, x1, x2] (.int 250 :: st) h := (mw_at mj_0_63).trans (z_sipush (by decide))
theorem mj_0_66 : mc_P 0 66 = some (.anewarray 9, 3, 104, 0, 0) := by decide +kernel
theorem s_0_66 {x0 x1 x2 : Option Value} {i : Int32} : mw d 0 Q 66 [x0, x1, x2] (.int i :: st) h = (mN i ∧ mw d 0 Q 69 [x0, x1, x2] (.ref (mh_n h) :: st) (mh_new h 104 i.toNatClampNeg)) := (mw_at mj_0_66).trans (z_anewa (by decide) (by decide))
theorem mj_0_69 : mc_P 0 69 = some (.putfield 35, 3, 0, 12, 0) := by decide +kernel
theorem s_0_69 {x0 x1 x2 : Option Value} {o w : Nat} : mw d 0 Q 69 [x0, x1, x2] (.ref w :: .ref o :: st) h = (mg h o 0 ∧ mw d 0 Q 72 [x0, x1, x2] (st) (mh_sr h o 12 (some w))) := (mw_at mj_0_69).trans (z_putr (by decide) (by decide) rfl)
theorem s_0_69n {x0 x1 x2 : Option Value} {o : Nat} : mw d 0 Q 69 [x0, x1, x2] (.null :: .ref o :: st) h = (mg h o 0 ∧ mw d 0 Q 72 [x0, x1, x2] (st) (mh_sr h o 12 none)) := (mw_at mj_0_69).trans (z_putn (by decide) (by decide) rfl)
theorem mj_0_72 : mc_P 0 72 = some (.aload_n 0, 1, 0, 0, 0) := by decide +kernel
theorem s_0_72 {x1 x2 : Option Value} {w : Value} : mw d 0 Q 72 [some w, x1, x2] (st) h = mv_a w (mw d 0 Q 73 [some w, x1, x2] (w :: st) h) := (mw_at mj_0_72).trans (z_aload_n rfl)
theorem mj_0_73 : mc_P 0 73 = some (.sipush 250, 3, 0, 0, 0) := by decide +kernel
theorem s_0_73 {x0 x1 x2 : Option Value} : mw d 0 Q 73 [x0, x1, x2] (st) h = mw d 0 Q 76 [x0, x1, x2] (.int 250 :: st) h := (mw_at mj_0_73).trans (z_sipush (by decide))
theorem mj_0_76 : mc_P 0 76 = some (.anewarray 9, 3, 104, 0, 0) := by decide +kernel
theorem s_0_76 {x0 x1 x2 : Option Value} {i : Int32} : mw d 0 Q 76 [x0, x1, x2] (.int i :: st) h = (mN i ∧ mw d 0 Q 79 [x0, x1, x2] (.ref (mh_n h) :: st) (mh_new h 104 i.toNatClampNeg)) := (mw_at mj_0_76).trans (z_anewa (by decide) (by decide))
theorem mj_0_79 : mc_P 0 79 = some (.putfield 38, 3, 0, 13, 0) := by decide +kernel
theorem s_0_79 {x0 x1 x2 : Option Value} {o w : Nat} : mw d 0 Q 79 [x0, x1, x2] (.ref w :: .ref o :: st) h = (mg h o 0 ∧ mw d 0 Q 82 [x0, x1, x2] (st) (mh_sr h o 13 (some w))) := (mw_at mj_0_79).trans (z_putr (by decide) (by decide) rfl)
theorem s_0_79n {x0 x1 x2 : Option Value} {o : Nat} : mw d 0 Q 79 [x0, x1, x2] (.null :: .ref o :: st) h = (mg h o 0 ∧ mw d 0 Q 82 [x0, x1, x2] (st) (mh_sr h o 13 none)) := (mw_at mj_0_79).trans (z_putn (by decide) (by decide) rfl)
theorem mj_0_82 : mc_P 0 82 = some (.aload_n 0, 1, 0, 0, 0) := by decide +kernel
theorem s_0_82 {x1 x2 : Option Value} {w : Value} : mw d 0 Q 82 [some w, x1, x2] (st) h = mv_a w (mw d 0 Q 83 [some w, x1, x2] (w :: st) h) := (mw_at mj_0_82).trans (z_aload_n rfl)
theorem mj_0_83 : mc_P 0 83 = some (.sipush 250, 3, 0, 0, 0) := by decide +kernel
theorem s_0_83 {x0 x1 x2 : Option Value} : mw d 0 Q 83 [x0, x1, x2] (st) h = mw d 0 Q 86 [x0, x1, x2] (.int 250 :: st) h := (mw_at mj_0_83).trans (z_sipush (by decide))
theorem mj_0_86 : mc_P 0 86 = some (.anewarray 9, 3, 104, 0, 0) := by decide +kernel
theorem s_0_86 {x0 x1 x2 : Option Value} {i : Int32} : mw d 0 Q 86 [x0, x1, x2] (.int i :: st) h = (mN i ∧ mw d 0 Q 89 [x0, x1, x2] (.ref (mh_n h) :: st) (mh_new h 104 i.toNatClampNeg)) := (mw_at mj_0_86).trans (z_anewa (by decide) (by decide))
theorem mj_0_89 : mc_P 0 89 = some (.putfield 41, 3, 0, 14, 0) := by decide +kernel
theorem s_0_89 {x0 x1 x2 : Option Value} {o w : Nat} : mw d 0 Q 89 [x0, x1, x2] (.ref w :: .ref o :: st) h = (mg h o 0 ∧ mw d 0 Q 92 [x0, x1, x2] (st) (mh_sr h o 14 (some w))) := (mw_at mj_0_89).trans (z_putr (by decide) (by decide) rfl)
theorem s_0_89n {x0 x1 x2 : Option Value} {o : Nat} : mw d 0 Q 89 [x0, x1, x2] (.null :: .ref o :: st) h = (mg h o 0 ∧ mw d 0 Q 92 [x0, x1, x2] (st) (mh_sr h o 14 none)) := (mw_at mj_0_89).trans (z_putn (by decide) (by decide) rfl)
theorem mj_0_92 : mc_P 0 92 = some (.aload_n 0, 1, 0, 0, 0) := by decide +kernel
theorem s_0_92 {x1 x2 : Option Value} {w : Value} : mw d 0 Q 92 [some w, x1, x2] (st) h = mv_a w (mw d 0 Q 93 [some w, x1, x2] (w :: st) h) := (mw_at mj_0_92).trans (z_aload_n rfl)
theorem mj_0_93 : mc_P 0 93 = some (.sipush 250, 3, 0, 0, 0) := by decide +kernel
theorem s_0_93 {x0 x1 x2 : Option Value} : mw d 0 Q 93 [x0, x1, x2] (st) h = mw d 0 Q 96 [x0, x1, x2] (.int 250 :: st) h := (mw_at mj_0_93).trans (z_sipush (by decide))
theorem mj_0_96 : mc_P 0 96 = some (.newarray .int, 2, 100, 0, 0) := by decide +kernel
theorem s_0_96 {x0 x1 x2 : Option Value} {i : Int32} : mw d 0 Q 96 [x0, x1, x2] (.int i :: st) h = (mN i ∧ mw d 0 Q 98 [x0, x1, x2] (.ref (mh_n h) :: st) (mh_new h 100 i.toNatClampNeg)) := (mw_at mj_0_96).trans (z_newa (by decide) (by decide))
theorem mj_0_98 : mc_P 0 98 = some (.putfield 44, 3, 0, 15, 0) := by decide +kernel
theorem s_0_98 {x0 x1 x2 : Option Value} {o w : Nat} : mw d 0 Q 98 [x0, x1, x2] (.ref w :: .ref o :: st) h = (mg h o 0 ∧ mw d 0 Q 101 [x0, x1, x2] (st) (mh_sr h o 15 (some w))) := (mw_at mj_0_98).trans (z_putr (by decide) (by decide) rfl)
theorem s_0_98n {x0 x1 x2 : Option Value} {o : Nat} : mw d 0 Q 98 [x0, x1, x2] (.null :: .ref o :: st) h = (mg h o 0 ∧ mw d 0 Q 101 [x0, x1, x2] (st) (mh_sr h o 15 none)) := (mw_at mj_0_98).trans (z_putn (by decide) (by decide) rfl)
theorem mj_0_101 : mc_P 0 101 = some (.aload_n 0, 1, 0, 0, 0) := by decide +kernel
theorem s_0_101 {x1 x2 : Option Value} {w : Value} : mw d 0 Q 101 [some w, x1, x2] (st) h = mv_a w (mw d 0 Q 102 [some w, x1, x2] (w :: st) h) := (mw_at mj_0_101).trans (z_aload_n rfl)
theorem mj_0_102 : mc_P 0 102 = some (.sipush 250, 3, 0, 0, 0) := by decide +kernel
theorem s_0_102 {x0 x1 x2 : Option Value} : mw d 0 Q 102 [x0, x1, x2] (st) h = mw d 0 Q 105 [x0, x1, x2] (.int 250 :: st) h := (mw_at mj_0_102).trans (z_sipush (by decide))
theorem mj_0_105 : mc_P 0 105 = some (.newarray .int, 2, 100, 0, 0) := by decide +kernel
theorem s_0_105 {x0 x1 x2 : Option Value} {i : Int32} : mw d 0 Q 105 [x0, x1, x2] (.int i :: st) h = (mN i ∧ mw d 0 Q 107 [x0, x1, x2] (.ref (mh_n h) :: st) (mh_new h 100 i.toNatClampNeg)) := (mw_at mj_0_105).trans (z_newa (by decide) (by decide))
theorem mj_0_107 : mc_P 0 107 = some (.putfield 47, 3, 0, 16, 0) := by decide +kernel
theorem s_0_107 {x0 x1 x2 : Option Value} {o w : Nat} : mw d 0 Q 107 [x0, x1, x2] (.ref w :: .ref o :: st) h = (mg h o 0 ∧ mw d 0 Q 110 [x0, x1, x2] (st) (mh_sr h o 16 (some w))) := (mw_at mj_0_107).trans (z_putr (by decide) (by decide) rfl)
theorem s_0_107n {x0 x1 x2 : Option Value} {o : Nat} : mw d 0 Q 107 [x0, x1, x2] (.null :: .ref o :: st) h = (mg h o 0 ∧ mw d 0 Q 110 [x0, x1, x2] (st) (mh_sr h o 16 none)) := (mw_at mj_0_107).trans (z_putn (by decide) (by decide) rfl)
theorem mj_0_110 : mc_P 0 110 = some (.aload_n 0, 1, 0, 0, 0) := by decide +kernel
theorem s_0_110 {x1 x2 : Option Value} {w : Value} : mw d 0 Q 110 [some w, x1, x2] (st) h = mv_a w (mw d 0 Q 111 [some w, x1, x2] (w :: st) h) := (mw_at mj_0_110).trans (z_aload_n rfl)
theorem mj_0_111 : mc_P 0 111 = some (.aload_n 1, 1, 0, 0, 0) := by decide +kernel
theorem s_0_111 {x0 x2 : Option Value} {w : Value} : mw d 0 Q 111 [x0, some w, x2] (st) h = mv_a w (mw d 0 Q 112 [x0, some w, x2] (w :: st) h) := (mw_at mj_0_111).trans (z_aload_n rfl)
theorem mj_0_112 : mc_P 0 112 = some (.putfield 50, 3, 0, 4, 0) := by decide +kernel
theorem s_0_112 {x0 x1 x2 : Option Value} {o w : Nat} : mw d 0 Q 112 [x0, x1, x2] (.ref w :: .ref o :: st) h = (mg h o 0 ∧ mw d 0 Q 115 [x0, x1, x2] (st) (mh_sr h o 4 (some w))) := (mw_at mj_0_112).trans (z_putr (by decide) (by decide) rfl)
theorem s_0_112n {x0 x1 x2 : Option Value} {o : Nat} : mw d 0 Q 112 [x0, x1, x2] (.null :: .ref o :: st) h = (mg h o 0 ∧ mw d 0 Q 115 [x0, x1, x2] (st) (mh_sr h o 4 none)) := (mw_at mj_0_112).trans (z_putn (by decide) (by decide) rfl)
theorem mj_0_115 : mc_P 0 115 = some (.aload_n 0, 1, 0, 0, 0) := by decide +kernel
theorem s_0_115 {x1 x2 : Option Value} {w : Value} : mw d 0 Q 115 [some w, x1, x2] (st) h = mv_a w (mw d 0 Q 116 [some w, x1, x2] (w :: st) h) := (mw_at mj_0_115).trans (z_aload_n rfl)
theorem mj_0_116 : mc_P 0 116 = some (.aload_n 2, 1, 0, 0, 0) := by decide +kernel
theorem s_0_116 {x0 x1 : Option Value} {w : Value} : mw d 0 Q 116 [x0, x1, some w] (st) h = mv_a w (mw d 0 Q 117 [x0, x1, some w] (w :: st) h) := (mw_at mj_0_116).trans (z_aload_n rfl)
theorem mj_0_117 : mc_P 0 117 = some (.putfield 54, 3, 0, 5, 0) := by decide +kernel
theorem s_0_117 {x0 x1 x2 : Option Value} {o w : Nat} : mw d 0 Q 117 [x0, x1, x2] (.ref w :: .ref o :: st) h = (mg h o 0 ∧ mw d 0 Q 120 [x0, x1, x2] (st) (mh_sr h o 5 (some w))) := (mw_at mj_0_117).trans (z_putr (by decide) (by decide) rfl)
theorem s_0_117n {x0 x1 x2 : Option Value} {o : Nat} : mw d 0 Q 117 [x0, x1, x2] (.null :: .ref o :: st) h = (mg h o 0 ∧ mw d 0 Q 120 [x0, x1, x2] (st) (mh_sr h o 5 none)) := (mw_at mj_0_117).trans (z_putn (by decide) (by decide) rfl)
theorem mj_0_120 : mc_P 0 120 = some (.return_, 1, 0, 0, 0) := by decide +kernel
theorem s_0_120 {x0 x1 x2 : Option Value} : mw d 0 Q 120 [x0, x1, x2] ([]) h = Q none h := (mw_at mj_0_120).trans (z_vret)
theorem e_0 {a0 : Nat} {a1 : Nat} {a2 : Nat} : mcall d 0 [.ref a0, .ref a1, .ref a2] h Q = mw d 0 Q 0 [some (.ref a0), some (.ref a1), some (.ref a2)] [] h := by
  show mw d 0 Q 0 (me_en (mc_nl 0) _) [] h = _
  rw [nl_0]; rfl

/-! InvariantDesk$Analysis.limitOf(I)I -/
theorem mj_2_0 : mc_P 2 0 = some (.aload_n 0, 1, 0, 0, 0) := by decide +kernel
theorem s_2_0 {x1 x2 : Option Value} {w : Value} : mw d 2 Q 0 [some w, x1, x2] (st) h = mv_a w (mw d 2 Q 1 [some w, x1, x2] (w :: st) h) := (mw_at mj_2_0).trans (z_aload_n rfl)
theorem mj_2_1 : mc_P 2 1 = some (.getfield 50, 3, 0, 4, 0) := by decide +kernel
theorem s_2_1 {x0 x1 x2 : Option Value} {o : Nat} : mw d 2 Q 1 [x0, x1, x2] (.ref o :: st) h = (mg h o 0 ∧ mw d 2 Q 4 [x0, x1, x2] (va_rf (mh_r h o 4) :: st) h) := (mw_at mj_2_1).trans (z_getr (by decide) (by decide) rfl)
theorem mj_2_4 : mc_P 2 4 = some (.getfield 106, 3, 4, 3, 0) := by decide +kernel
theorem s_2_4 {x0 x1 x2 : Option Value} {o : Nat} : mw d 2 Q 4 [x0, x1, x2] (.ref o :: st) h = (mg h o 4 ∧ mw d 2 Q 7 [x0, x1, x2] (va_rf (mh_r h o 3) :: st) h) := (mw_at mj_2_4).trans (z_getr (by decide) (by decide) rfl)
theorem mj_2_7 : mc_P 2 7 = some (.iload_n 1, 1, 0, 0, 0) := by decide +kernel
theorem s_2_7 {x0 x2 : Option Value} {w : Value} : mw d 2 Q 7 [x0, some w, x2] (st) h = mv_i w (mw d 2 Q 8 [x0, some w, x2] (w :: st) h) := (mw_at mj_2_7).trans (z_iload_n rfl)
theorem mj_2_8 : mc_P 2 8 = some (.aaload, 1, 0, 0, 0) := by decide +kernel
theorem s_2_8 {x0 x1 x2 : Option Value} {o : Nat} {i : Int32} : mw d 2 Q 8 [x0, x1, x2] (.int i :: .ref o :: st) h = (mgr h o ∧ mx i (mh_l h o) ∧ mw d 2 Q 9 [x0, x1, x2] (mrd (mh_k h o) h o i.toNatClampNeg :: st) h) := (mw_at mj_2_8).trans (z_aald)
theorem mj_2_9 : mc_P 2 9 = some (.getfield 110, 3, 9, 0, 0) := by decide +kernel
theorem s_2_9 {x0 x1 x2 : Option Value} {o : Nat} : mw d 2 Q 9 [x0, x1, x2] (.ref o :: st) h = (mg h o 9 ∧ mw d 2 Q 12 [x0, x1, x2] (.int (mh_i h o 0) :: st) h) := (mw_at mj_2_9).trans (z_geti (by decide) (by decide) (Or.inl rfl))
theorem mj_2_12 : mc_P 2 12 = some (.iconst 5, 1, 0, 0, 0) := by decide +kernel
theorem s_2_12 {x0 x1 x2 : Option Value} : mw d 2 Q 12 [x0, x1, x2] (st) h = mw d 2 Q 13 [x0, x1, x2] (.int 5 :: st) h := (mw_at mj_2_12).trans (z_iconst (by decide))
theorem mj_2_13 : mc_P 2 13 = some (.if_icmp .ne 7, 3, 0, 0, 0) := by decide +kernel
theorem s_2_13 {x0 x1 x2 : Option Value} {x w : Int32} : mw d 2 Q 13 [x0, x1, x2] (.int w :: .int x :: st) h = mB (¬ x = w) (mw d 2 Q) 20 16 [x0, x1, x2] st h := (mw_at mj_2_13).trans (z_icmp_ne (by decide) rfl)
theorem mj_2_16 : mc_P 2 16 = some (.iconst 1, 1, 0, 0, 0) := by decide +kernel
theorem s_2_16 {x0 x1 x2 : Option Value} : mw d 2 Q 16 [x0, x1, x2] (st) h = mw d 2 Q 17 [x0, x1, x2] (.int 1 :: st) h := (mw_at mj_2_16).trans (z_iconst (by decide))
theorem mj_2_17 : mc_P 2 17 = some (.goto 4, 3, 0, 0, 0) := by decide +kernel
theorem s_2_17 {x0 x1 x2 : Option Value} : mw d 2 Q 17 [x0, x1, x2] (st) h = mw d 2 Q 21 [x0, x1, x2] (st) h := (mw_at mj_2_17).trans (z_goto (by decide))
theorem mj_2_20 : mc_P 2 20 = some (.iconst 0, 1, 0, 0, 0) := by decide +kernel
theorem s_2_20 {x0 x1 x2 : Option Value} : mw d 2 Q 20 [x0, x1, x2] (st) h = mw d 2 Q 21 [x0, x1, x2] (.int 0 :: st) h := (mw_at mj_2_20).trans (z_iconst (by decide))
theorem mj_2_21 : mc_P 2 21 = some (.istore_n 2, 1, 0, 0, 0) := by decide +kernel
theorem s_2_21 {x0 x1 x2 : Option Value} {w : Int32} : mw d 2 Q 21 [x0, x1, x2] (.int w :: st) h = mw d 2 Q 22 [x0, mk2 x1, some (.int w)] (st) h := (mw_at mj_2_21).trans (z_istore_n (Nat.le_of_ble_eq_true rfl) (me_s1_mk (j := 1) (w := x1) rfl))
theorem mj_2_22 : mc_P 2 22 = some (.iload_n 2, 1, 0, 0, 0) := by decide +kernel
theorem s_2_22 {x0 x1 : Option Value} {w : Value} : mw d 2 Q 22 [x0, x1, some w] (st) h = mv_i w (mw d 2 Q 23 [x0, x1, some w] (w :: st) h) := (mw_at mj_2_22).trans (z_iload_n rfl)
theorem mj_2_23 : mc_P 2 23 = some (.ifCond .eq 29, 3, 0, 0, 0) := by decide +kernel
theorem s_2_23 {x0 x1 x2 : Option Value} {x : Int32} : mw d 2 Q 23 [x0, x1, x2] (.int x :: st) h = mB (x = 0) (mw d 2 Q) 52 26 [x0, x1, x2] st h := (mw_at mj_2_23).trans (z_if_eq (by decide) rfl)
theorem mj_2_26 : mc_P 2 26 = some (.aload_n 0, 1, 0, 0, 0) := by decide +kernel
theorem s_2_26 {x1 x2 : Option Value} {w : Value} : mw d 2 Q 26 [some w, x1, x2] (st) h = mv_a w (mw d 2 Q 27 [some w, x1, x2] (w :: st) h) := (mw_at mj_2_26).trans (z_aload_n rfl)
theorem mj_2_27 : mc_P 2 27 = some (.getfield 29, 3, 0, 10, 0) := by decide +kernel
theorem s_2_27 {x0 x1 x2 : Option Value} {o : Nat} : mw d 2 Q 27 [x0, x1, x2] (.ref o :: st) h = (mg h o 0 ∧ mw d 2 Q 30 [x0, x1, x2] (va_rf (mh_r h o 10) :: st) h) := (mw_at mj_2_27).trans (z_getr (by decide) (by decide) rfl)
theorem mj_2_30 : mc_P 2 30 = some (.aload_n 0, 1, 0, 0, 0) := by decide +kernel
theorem s_2_30 {x1 x2 : Option Value} {w : Value} : mw d 2 Q 30 [some w, x1, x2] (st) h = mv_a w (mw d 2 Q 31 [some w, x1, x2] (w :: st) h) := (mw_at mj_2_30).trans (z_aload_n rfl)
theorem mj_2_31 : mc_P 2 31 = some (.getfield 69, 3, 0, 9, 0) := by decide +kernel
theorem s_2_31 {x0 x1 x2 : Option Value} {o : Nat} : mw d 2 Q 31 [x0, x1, x2] (.ref o :: st) h = (mg h o 0 ∧ mw d 2 Q 34 [x0, x1, x2] (.int (mh_i h o 9) :: st) h) := (mw_at mj_2_31).trans (z_geti (by decide) (by decide) (Or.inl rfl))
theorem mj_2_34 : mc_P 2 34 = some (.iconst 1, 1, 0, 0, 0) := by decide +kernel
theorem s_2_34 {x0 x1 x2 : Option Value} : mw d 2 Q 34 [x0, x1, x2] (st) h = mw d 2 Q 35 [x0, x1, x2] (.int 1 :: st) h := (mw_at mj_2_34).trans (z_iconst (by decide))
theorem mj_2_35 : mc_P 2 35 = some (.isub, 1, 0, 0, 0) := by decide +kernel
theorem s_2_35 {x0 x1 x2 : Option Value} {x w : Int32} : mw d 2 Q 35 [x0, x1, x2] (.int w :: .int x :: st) h = mw d 2 Q 36 [x0, x1, x2] (.int (x - w) :: st) h := (mw_at mj_2_35).trans (z_isub)
theorem mj_2_36 : mc_P 2 36 = some (.iaload, 1, 0, 0, 0) := by decide +kernel
theorem s_2_36 {x0 x1 x2 : Option Value} {o : Nat} {i : Int32} : mw d 2 Q 36 [x0, x1, x2] (.int i :: .ref o :: st) h = (mg h o 100 ∧ mx i (mh_l h o) ∧ mw d 2 Q 37 [x0, x1, x2] (.int (mh_i h o i.toNatClampNeg) :: st) h) := (mw_at mj_2_36).trans (z_iald)
theorem s_2_36x {x0 x1 x2 : Option Value} {i : Int32} : mw d 2 Q 36 [x0, x1, x2] (.int i :: .retAddr 2 :: st) h = (mx i 24 ∧ mw d 2 Q 37 [x0, x1, x2] (.int (mx_row.getD i.toNatClampNeg 0) :: st) h) := (mw_at mj_2_36).trans (z_iaX)
theorem mj_2_37 : mc_P 2 37 = some (.ifCond .ne 15, 3, 0, 0, 0) := by decide +kernel
theorem s_2_37 {x0 x1 x2 : Option Value} {x : Int32} : mw d 2 Q 37 [x0, x1, x2] (.int x :: st) h = mB (¬ x = 0) (mw d 2 Q) 52 40 [x0, x1, x2] st h := (mw_at mj_2_37).trans (z_if_ne (by decide) rfl)
theorem mj_2_40 : mc_P 2 40 = some (.aload_n 0, 1, 0, 0, 0) := by decide +kernel
theorem s_2_40 {x1 x2 : Option Value} {w : Value} : mw d 2 Q 40 [some w, x1, x2] (st) h = mv_a w (mw d 2 Q 41 [some w, x1, x2] (w :: st) h) := (mw_at mj_2_40).trans (z_aload_n rfl)
theorem mj_2_41 : mc_P 2 41 = some (.getfield 50, 3, 0, 4, 0) := by decide +kernel
theorem s_2_41 {x0 x1 x2 : Option Value} {o : Nat} : mw d 2 Q 41 [x0, x1, x2] (.ref o :: st) h = (mg h o 0 ∧ mw d 2 Q 44 [x0, x1, x2] (va_rf (mh_r h o 4) :: st) h) := (mw_at mj_2_41).trans (z_getr (by decide) (by decide) rfl)
theorem mj_2_44 : mc_P 2 44 = some (.getfield 115, 3, 4, 8, 0) := by decide +kernel
theorem s_2_44 {x0 x1 x2 : Option Value} {o : Nat} : mw d 2 Q 44 [x0, x1, x2] (.ref o :: st) h = (mg h o 4 ∧ mw d 2 Q 47 [x0, x1, x2] (va_rf (mh_r h o 8) :: st) h) := (mw_at mj_2_44).trans (z_getr (by decide) (by decide) rfl)
theorem mj_2_47 : mc_P 2 47 = some (.iload_n 1, 1, 0, 0, 0) := by decide +kernel
theorem s_2_47 {x0 x2 : Option Value} {w : Value} : mw d 2 Q 47 [x0, some w, x2] (st) h = mv_i w (mw d 2 Q 48 [x0, some w, x2] (w :: st) h) := (mw_at mj_2_47).trans (z_iload_n rfl)
theorem mj_2_48 : mc_P 2 48 = some (.iaload, 1, 0, 0, 0) := by decide +kernel
theorem s_2_48 {x0 x1 x2 : Option Value} {o : Nat} {i : Int32} : mw d 2 Q 48 [x0, x1, x2] (.int i :: .ref o :: st) h = (mg h o 100 ∧ mx i (mh_l h o) ∧ mw d 2 Q 49 [x0, x1, x2] (.int (mh_i h o i.toNatClampNeg) :: st) h) := (mw_at mj_2_48).trans (z_iald)
theorem s_2_48x {x0 x1 x2 : Option Value} {i : Int32} : mw d 2 Q 48 [x0, x1, x2] (.int i :: .retAddr 2 :: st) h = (mx i 24 ∧ mw d 2 Q 49 [x0, x1, x2] (.int (mx_row.getD i.toNatClampNeg 0) :: st) h) := (mw_at mj_2_48).trans (z_iaX)
theorem mj_2_49 : mc_P 2 49 = some (.goto 12, 3, 0, 0, 0) := by decide +kernel
theorem s_2_49 {x0 x1 x2 : Option Value} : mw d 2 Q 49 [x0, x1, x2] (st) h = mw d 2 Q 61 [x0, x1, x2] (st) h := (mw_at mj_2_49).trans (z_goto (by decide))
theorem mj_2_52 : mc_P 2 52 = some (.aload_n 0, 1, 0, 0, 0) := by decide +kernel
theorem s_2_52 {x1 x2 : Option Value} {w : Value} : mw d 2 Q 52 [some w, x1, x2] (st) h = mv_a w (mw d 2 Q 53 [some w, x1, x2] (w :: st) h) := (mw_at mj_2_52).trans (z_aload_n rfl)
theorem mj_2_53 : mc_P 2 53 = some (.getfield 50, 3, 0, 4, 0) := by decide +kernel
theorem s_2_53 {x0 x1 x2 : Option Value} {o : Nat} : mw d 2 Q 53 [x0, x1, x2] (.ref o :: st) h = (mg h o 0 ∧ mw d 2 Q 56 [x0, x1, x2] (va_rf (mh_r h o 4) :: st) h) := (mw_at mj_2_53).trans (z_getr (by decide) (by decide) rfl)
theorem mj_2_56 : mc_P 2 56 = some (.getfield 118, 3, 4, 9, 0) := by decide +kernel
theorem s_2_56 {x0 x1 x2 : Option Value} {o : Nat} : mw d 2 Q 56 [x0, x1, x2] (.ref o :: st) h = (mg h o 4 ∧ mw d 2 Q 59 [x0, x1, x2] (va_rf (mh_r h o 9) :: st) h) := (mw_at mj_2_56).trans (z_getr (by decide) (by decide) rfl)
theorem mj_2_59 : mc_P 2 59 = some (.iload_n 1, 1, 0, 0, 0) := by decide +kernel
theorem s_2_59 {x0 x2 : Option Value} {w : Value} : mw d 2 Q 59 [x0, some w, x2] (st) h = mv_i w (mw d 2 Q 60 [x0, some w, x2] (w :: st) h) := (mw_at mj_2_59).trans (z_iload_n rfl)
theorem mj_2_60 : mc_P 2 60 = some (.iaload, 1, 0, 0, 0) := by decide +kernel
theorem s_2_60 {x0 x1 x2 : Option Value} {o : Nat} {i : Int32} : mw d 2 Q 60 [x0, x1, x2] (.int i :: .ref o :: st) h = (mg h o 100 ∧ mx i (mh_l h o) ∧ mw d 2 Q 61 [x0, x1, x2] (.int (mh_i h o i.toNatClampNeg) :: st) h) := (mw_at mj_2_60).trans (z_iald)
theorem s_2_60x {x0 x1 x2 : Option Value} {i : Int32} : mw d 2 Q 60 [x0, x1, x2] (.int i :: .retAddr 2 :: st) h = (mx i 24 ∧ mw d 2 Q 61 [x0, x1, x2] (.int (mx_row.getD i.toNatClampNeg 0) :: st) h) := (mw_at mj_2_60).trans (z_iaX)
theorem mj_2_61 : mc_P 2 61 = some (.ireturn, 1, 0, 0, 0) := by decide +kernel
theorem s_2_61 {x0 x1 x2 : Option Value} {x : Int32} : mw d 2 Q 61 [x0, x1, x2] ([.int x]) h = (Q (some (.int x)) h) := (mw_at mj_2_61).trans (z_iret)
theorem e_2 {a0 : Nat} {a1 : Int32} : mcall d 2 [.ref a0, .int a1] h Q = mw d 2 Q 0 [some (.ref a0), some (.int a1), none] [] h := by
  show mw d 2 Q 0 (me_en (mc_nl 2) _) [] h = _
  rw [nl_2]; rfl

/-! InvariantDesk$Analysis.skip(I)V -/
theorem mj_3_0 : mc_P 3 0 = some (.aload_n 0, 1, 0, 0, 0) := by decide +kernel
theorem s_3_0 {x1 x2 : Option Value} {w : Value} : mw d 3 Q 0 [some w, x1, x2] (st) h = mv_a w (mw d 3 Q 1 [some w, x1, x2] (w :: st) h) := (mw_at mj_3_0).trans (z_aload_n rfl)
theorem mj_3_1 : mc_P 3 1 = some (.getfield 66, 3, 0, 7, 0) := by decide +kernel
theorem s_3_1 {x0 x1 x2 : Option Value} {o : Nat} : mw d 3 Q 1 [x0, x1, x2] (.ref o :: st) h = (mg h o 0 ∧ mw d 3 Q 4 [x0, x1, x2] (.int (mh_i h o 7) :: st) h) := (mw_at mj_3_1).trans (z_geti (by decide) (by decide) (Or.inl rfl))
theorem mj_3_4 : mc_P 3 4 = some (.istore_n 2, 1, 0, 0, 0) := by decide +kernel
theorem s_3_4 {x0 x1 x2 : Option Value} {w : Int32} : mw d 3 Q 4 [x0, x1, x2] (.int w :: st) h = mw d 3 Q 5 [x0, mk2 x1, some (.int w)] (st) h := (mw_at mj_3_4).trans (z_istore_n (Nat.le_of_ble_eq_true rfl) (me_s1_mk (j := 1) (w := x1) rfl))
theorem mj_3_5 : mc_P 3 5 = some (.iload_n 2, 1, 0, 0, 0) := by decide +kernel
theorem s_3_5 {x0 x1 : Option Value} {w : Value} : mw d 3 Q 5 [x0, x1, some w] (st) h = mv_i w (mw d 3 Q 6 [x0, x1, some w] (w :: st) h) := (mw_at mj_3_5).trans (z_iload_n rfl)
theorem mj_3_6 : mc_P 3 6 = some (.iload_n 1, 1, 0, 0, 0) := by decide +kernel
theorem s_3_6 {x0 x2 : Option Value} {w : Value} : mw d 3 Q 6 [x0, some w, x2] (st) h = mv_i w (mw d 3 Q 7 [x0, some w, x2] (w :: st) h) := (mw_at mj_3_6).trans (z_iload_n rfl)
theorem mj_3_7 : mc_P 3 7 = some (.if_icmp .ge 54, 3, 0, 0, 0) := by decide +kernel
theorem s_3_7 {x0 x1 x2 : Option Value} {x w : Int32} : mw d 3 Q 7 [x0, x1, x2] (.int w :: .int x :: st) h = mB (w ≤ x) (mw d 3 Q) 61 10 [x0, x1, x2] st h := (mw_at mj_3_7).trans (z_icmp_ge (by decide) rfl)
theorem mj_3_10 : mc_P 3 10 = some (.aload_n 0, 1, 0, 0, 0) := by decide +kernel
theorem s_3_10 {x1 x2 : Option Value} {w : Value} : mw d 3 Q 10 [some w, x1, x2] (st) h = mv_a w (mw d 3 Q 11 [some w, x1, x2] (w :: st) h) := (mw_at mj_3_10).trans (z_aload_n rfl)
theorem mj_3_11 : mc_P 3 11 = some (.getfield 11, 3, 0, 0, 0) := by decide +kernel
theorem s_3_11 {x0 x1 x2 : Option Value} {o : Nat} : mw d 3 Q 11 [x0, x1, x2] (.ref o :: st) h = (mg h o 0 ∧ mw d 3 Q 14 [x0, x1, x2] (va_rf (mh_r h o 0) :: st) h) := (mw_at mj_3_11).trans (z_getr (by decide) (by decide) rfl)
theorem mj_3_14 : mc_P 3 14 = some (.iload_n 2, 1, 0, 0, 0) := by decide +kernel
theorem s_3_14 {x0 x1 : Option Value} {w : Value} : mw d 3 Q 14 [x0, x1, some w] (st) h = mv_i w (mw d 3 Q 15 [x0, x1, some w] (w :: st) h) := (mw_at mj_3_14).trans (z_iload_n rfl)
theorem mj_3_15 : mc_P 3 15 = some (.aaload, 1, 0, 0, 0) := by decide +kernel
theorem s_3_15 {x0 x1 x2 : Option Value} {o : Nat} {i : Int32} : mw d 3 Q 15 [x0, x1, x2] (.int i :: .ref o :: st) h = (mgr h o ∧ mx i (mh_l h o) ∧ mw d 3 Q 16 [x0, x1, x2] (mrd (mh_k h o) h o i.toNatClampNeg :: st) h) := (mw_at mj_3_15).trans (z_aald)
theorem mj_3_16 : mc_P 3 16 = some (.aload_n 0, 1, 0, 0, 0) := by decide +kernel
theorem s_3_16 {x1 x2 : Option Value} {w : Value} : mw d 3 Q 16 [some w, x1, x2] (st) h = mv_a w (mw d 3 Q 17 [some w, x1, x2] (w :: st) h) := (mw_at mj_3_16).trans (z_aload_n rfl)
theorem mj_3_17 : mc_P 3 17 = some (.getfield 22, 3, 0, 6, 0) := by decide +kernel
theorem s_3_17 {x0 x1 x2 : Option Value} {o : Nat} : mw d 3 Q 17 [x0, x1, x2] (.ref o :: st) h = (mg h o 0 ∧ mw d 3 Q 20 [x0, x1, x2] (va_rf (mh_r h o 6) :: st) h) := (mw_at mj_3_17).trans (z_getr (by decide) (by decide) rfl)
theorem mj_3_20 : mc_P 3 20 = some (.invokevirtual 102, 3, 144, 8, 2) := by decide +kernel
theorem s_3_20 {x0 x1 x2 : Option Value} {o : Nat} {a1 : Value} : mw (d + 1) 3 Q 20 [x0, x1, x2] (a1 :: .ref o :: st) h = (mg h o 8 ∧ mca st 8 ∧ mca [.ref o, a1] 2 ∧ mcall d 144 [.ref o, a1] h (mK (d + 1) 3 Q 23 [x0, x1, x2] st)) := (mw_at mj_3_20).trans ((z_invv (As := [a1]) (by decide) rfl rfl).trans (congrArg (And _) (congrArg (And _) (mC_nl nl_144))))
theorem mj_3_23 : mc_P 3 23 = some (.aload_n 0, 1, 0, 0, 0) := by decide +kernel
theorem s_3_23 {x1 x2 : Option Value} {w : Value} : mw d 3 Q 23 [some w, x1, x2] (st) h = mv_a w (mw d 3 Q 24 [some w, x1, x2] (w :: st) h) := (mw_at mj_3_23).trans (z_aload_n rfl)
theorem mj_3_24 : mc_P 3 24 = some (.getfield 11, 3, 0, 0, 0) := by decide +kernel
theorem s_3_24 {x0 x1 x2 : Option Value} {o : Nat} : mw d 3 Q 24 [x0, x1, x2] (.ref o :: st) h = (mg h o 0 ∧ mw d 3 Q 27 [x0, x1, x2] (va_rf (mh_r h o 0) :: st) h) := (mw_at mj_3_24).trans (z_getr (by decide) (by decide) rfl)
theorem mj_3_27 : mc_P 3 27 = some (.iload_n 2, 1, 0, 0, 0) := by decide +kernel
theorem s_3_27 {x0 x1 : Option Value} {w : Value} : mw d 3 Q 27 [x0, x1, some w] (st) h = mv_i w (mw d 3 Q 28 [x0, x1, some w] (w :: st) h) := (mw_at mj_3_27).trans (z_iload_n rfl)
theorem mj_3_28 : mc_P 3 28 = some (.aaload, 1, 0, 0, 0) := by decide +kernel
theorem s_3_28 {x0 x1 x2 : Option Value} {o : Nat} {i : Int32} : mw d 3 Q 28 [x0, x1, x2] (.int i :: .ref o :: st) h = (mgr h o ∧ mx i (mh_l h o) ∧ mw d 3 Q 29 [x0, x1, x2] (mrd (mh_k h o) h o i.toNatClampNeg :: st) h) := (mw_at mj_3_28).trans (z_aald)
theorem mj_3_29 : mc_P 3 29 = some (.aload_n 0, 1, 0, 0, 0) := by decide +kernel
theorem s_3_29 {x1 x2 : Option Value} {w : Value} : mw d 3 Q 29 [some w, x1, x2] (st) h = mv_a w (mw d 3 Q 30 [some w, x1, x2] (w :: st) h) := (mw_at mj_3_29).trans (z_aload_n rfl)
theorem mj_3_30 : mc_P 3 30 = some (.getfield 50, 3, 0, 4, 0) := by decide +kernel
theorem s_3_30 {x0 x1 x2 : Option Value} {o : Nat} : mw d 3 Q 30 [x0, x1, x2] (.ref o :: st) h = (mg h o 0 ∧ mw d 3 Q 33 [x0, x1, x2] (va_rf (mh_r h o 4) :: st) h) := (mw_at mj_3_30).trans (z_getr (by decide) (by decide) rfl)
theorem mj_3_33 : mc_P 3 33 = some (.iload_n 2, 1, 0, 0, 0) := by decide +kernel
theorem s_3_33 {x0 x1 : Option Value} {w : Value} : mw d 3 Q 33 [x0, x1, some w] (st) h = mv_i w (mw d 3 Q 34 [x0, x1, some w] (w :: st) h) := (mw_at mj_3_33).trans (z_iload_n rfl)
theorem mj_3_34 : mc_P 3 34 = some (.invokevirtual 121, 3, 80, 4, 2) := by decide +kernel
theorem s_3_34 {x0 x1 x2 : Option Value} {o : Nat} {a1 : Value} : mw (d + 1) 3 Q 34 [x0, x1, x2] (a1 :: .ref o :: st) h = (mg h o 4 ∧ mca st 8 ∧ mca [.ref o, a1] 2 ∧ mcall d 80 [.ref o, a1] h (mK (d + 1) 3 Q 37 [x0, x1, x2] st)) := (mw_at mj_3_34).trans ((z_invv (As := [a1]) (by decide) rfl rfl).trans (congrArg (And _) (congrArg (And _) (mC_nl nl_80))))
theorem mj_3_37 : mc_P 3 37 = some (.aload_n 0, 1, 0, 0, 0) := by decide +kernel
theorem s_3_37 {x1 x2 : Option Value} {w : Value} : mw d 3 Q 37 [some w, x1, x2] (st) h = mv_a w (mw d 3 Q 38 [some w, x1, x2] (w :: st) h) := (mw_at mj_3_37).trans (z_aload_n rfl)
theorem mj_3_38 : mc_P 3 38 = some (.getfield 50, 3, 0, 4, 0) := by decide +kernel
theorem s_3_38 {x0 x1 x2 : Option Value} {o : Nat} : mw d 3 Q 38 [x0, x1, x2] (.ref o :: st) h = (mg h o 0 ∧ mw d 3 Q 41 [x0, x1, x2] (va_rf (mh_r h o 4) :: st) h) := (mw_at mj_3_38).trans (z_getr (by decide) (by decide) rfl)
theorem mj_3_41 : mc_P 3 41 = some (.iload_n 2, 1, 0, 0, 0) := by decide +kernel
theorem s_3_41 {x0 x1 : Option Value} {w : Value} : mw d 3 Q 41 [x0, x1, some w] (st) h = mv_i w (mw d 3 Q 42 [x0, x1, some w] (w :: st) h) := (mw_at mj_3_41).trans (z_iload_n rfl)
theorem mj_3_42 : mc_P 3 42 = some (.invokevirtual 124, 3, 81, 4, 2) := by decide +kernel
theorem s_3_42 {x0 x1 x2 : Option Value} {o : Nat} {a1 : Value} : mw (d + 1) 3 Q 42 [x0, x1, x2] (a1 :: .ref o :: st) h = (mg h o 4 ∧ mca st 8 ∧ mca [.ref o, a1] 2 ∧ mcall d 81 [.ref o, a1] h (mK (d + 1) 3 Q 45 [x0, x1, x2] st)) := (mw_at mj_3_42).trans ((z_invv (As := [a1]) (by decide) rfl rfl).trans (congrArg (And _) (congrArg (And _) (mC_nl nl_81))))
theorem mj_3_45 : mc_P 3 45 = some (.invokevirtual 98, 3, 145, 8, 3) := by decide +kernel
theorem s_3_45 {x0 x1 x2 : Option Value} {o : Nat} {a1 a2 : Value} : mw (d + 1) 3 Q 45 [x0, x1, x2] (a2 :: a1 :: .ref o :: st) h = (mg h o 8 ∧ mca st 8 ∧ mca [.ref o, a1, a2] 3 ∧ mcall d 145 [.ref o, a1, a2] h (mK (d + 1) 3 Q 48 [x0, x1, x2] st)) := (mw_at mj_3_45).trans ((z_invv (As := [a1, a2]) (by decide) rfl rfl).trans (congrArg (And _) (congrArg (And _) (mC_nl nl_145))))
theorem mj_3_48 : mc_P 3 48 = some (.aload_n 0, 1, 0, 0, 0) := by decide +kernel
theorem s_3_48 {x1 x2 : Option Value} {w : Value} : mw d 3 Q 48 [some w, x1, x2] (st) h = mv_a w (mw d 3 Q 49 [some w, x1, x2] (w :: st) h) := (mw_at mj_3_48).trans (z_aload_n rfl)
theorem mj_3_49 : mc_P 3 49 = some (.getfield 17, 3, 0, 1, 0) := by decide +kernel
theorem s_3_49 {x0 x1 x2 : Option Value} {o : Nat} : mw d 3 Q 49 [x0, x1, x2] (.ref o :: st) h = (mg h o 0 ∧ mw d 3 Q 52 [x0, x1, x2] (va_rf (mh_r h o 1) :: st) h) := (mw_at mj_3_49).trans (z_getr (by decide) (by decide) rfl)
theorem mj_3_52 : mc_P 3 52 = some (.iload_n 2, 1, 0, 0, 0) := by decide +kernel
theorem s_3_52 {x0 x1 : Option Value} {w : Value} : mw d 3 Q 52 [x0, x1, some w] (st) h = mv_i w (mw d 3 Q 53 [x0, x1, some w] (w :: st) h) := (mw_at mj_3_52).trans (z_iload_n rfl)
theorem mj_3_53 : mc_P 3 53 = some (.iconst 0, 1, 0, 0, 0) := by decide +kernel
theorem s_3_53 {x0 x1 x2 : Option Value} : mw d 3 Q 53 [x0, x1, x2] (st) h = mw d 3 Q 54 [x0, x1, x2] (.int 0 :: st) h := (mw_at mj_3_53).trans (z_iconst (by decide))
theorem mj_3_54 : mc_P 3 54 = some (.iastore, 1, 0, 0, 0) := by decide +kernel
theorem s_3_54 {x0 x1 x2 : Option Value} {o : Nat} {i w : Int32} : mw d 3 Q 54 [x0, x1, x2] (.int w :: .int i :: .ref o :: st) h = (mg h o 100 ∧ mx i (mh_l h o) ∧ mw d 3 Q 55 [x0, x1, x2] (st) (mh_si h o i.toNatClampNeg w)) := (mw_at mj_3_54).trans (z_iast)
theorem mj_3_55 : mc_P 3 55 = some (.iinc 2 1, 3, 0, 0, 0) := by decide +kernel
theorem s_3_55 {x0 x1 : Option Value} {w : Int32} : mw d 3 Q 55 [x0, x1, some (.int w)] (st) h = mw d 3 Q 58 [x0, mk2 x1, some (.int (w + 1))] (st) h := (mw_at mj_3_55).trans (z_iinc rfl (Nat.le_of_ble_eq_true rfl) (by decide) (me_s1_mk (j := 1) (w := x1) rfl))
theorem mj_3_58 : mc_P 3 58 = some (.goto (-53), 3, 0, 0, 0) := by decide +kernel
theorem s_3_58 {x0 x1 x2 : Option Value} : mw d 3 Q 58 [x0, x1, x2] (st) h = mw d 3 Q 5 [x0, x1, x2] (st) h := (mw_at mj_3_58).trans (z_goto (by decide))
theorem mj_3_61 : mc_P 3 61 = some (.aload_n 0, 1, 0, 0, 0) := by decide +kernel
theorem s_3_61 {x1 x2 : Option Value} {w : Value} : mw d 3 Q 61 [some w, x1, x2] (st) h = mv_a w (mw d 3 Q 62 [some w, x1, x2] (w :: st) h) := (mw_at mj_3_61).trans (z_aload_n rfl)
theorem mj_3_62 : mc_P 3 62 = some (.iload_n 1, 1, 0, 0, 0) := by decide +kernel
theorem s_3_62 {x0 x2 : Option Value} {w : Value} : mw d 3 Q 62 [x0, some w, x2] (st) h = mv_i w (mw d 3 Q 63 [x0, some w, x2] (w :: st) h) := (mw_at mj_3_62).trans (z_iload_n rfl)
theorem mj_3_63 : mc_P 3 63 = some (.putfield 66, 3, 0, 7, 0) := by decide +kernel
theorem s_3_63 {x0 x1 x2 : Option Value} {o : Nat} {w : Int32} : mw d 3 Q 63 [x0, x1, x2] (.int w :: .ref o :: st) h = (mg h o 0 ∧ mw d 3 Q 66 [x0, x1, x2] (st) (mh_si h o 7 w)) := (mw_at mj_3_63).trans (z_puti (by decide) (by decide) rfl)
theorem mj_3_66 : mc_P 3 66 = some (.return_, 1, 0, 0, 0) := by decide +kernel
theorem s_3_66 {x0 x1 x2 : Option Value} : mw d 3 Q 66 [x0, x1, x2] ([]) h = Q none h := (mw_at mj_3_66).trans (z_vret)
theorem e_3 {a0 : Nat} {a1 : Int32} : mcall d 3 [.ref a0, .int a1] h Q = mw d 3 Q 0 [some (.ref a0), some (.int a1), none] [] h := by
  show mw d 3 Q 0 (me_en (mc_nl 3) _) [] h = _
  rw [nl_3]; rfl

/-! InvariantDesk$Analysis.look()V -/
theorem mj_4_0 : mc_P 4 0 = some (.aload_n 0, 1, 0, 0, 0) := by decide +kernel
theorem s_4_0 {x1 x2 x3 : Option Value} {w : Value} : mw d 4 Q 0 [some w, x1, x2, x3] (st) h = mv_a w (mw d 4 Q 1 [some w, x1, x2, x3] (w :: st) h) := (mw_at mj_4_0).trans (z_aload_n rfl)
theorem mj_4_1 : mc_P 4 1 = some (.dup, 1, 0, 0, 0) := by decide +kernel
theorem s_4_1 {x0 x1 x2 x3 : Option Value} {w : Value} : mw d 4 Q 1 [x0, x1, x2, x3] (w :: st) h = (w.category = 1 ∧ mw d 4 Q 2 [x0, x1, x2, x3] (w :: w :: st) h) := (mw_at mj_4_1).trans (z_dup)
theorem mj_4_2 : mc_P 4 2 = some (.getfield 58, 3, 0, 2, 0) := by decide +kernel
theorem s_4_2 {x0 x1 x2 x3 : Option Value} {o : Nat} : mw d 4 Q 2 [x0, x1, x2, x3] (.ref o :: st) h = (mg h o 0 ∧ mw d 4 Q 5 [x0, x1, x2, x3] (.int (mh_i h o 2) :: st) h) := (mw_at mj_4_2).trans (z_geti (by decide) (by decide) (Or.inl rfl))
theorem mj_4_5 : mc_P 4 5 = some (.iconst 1, 1, 0, 0, 0) := by decide +kernel
theorem s_4_5 {x0 x1 x2 x3 : Option Value} : mw d 4 Q 5 [x0, x1, x2, x3] (st) h = mw d 4 Q 6 [x0, x1, x2, x3] (.int 1 :: st) h := (mw_at mj_4_5).trans (z_iconst (by decide))
theorem mj_4_6 : mc_P 4 6 = some (.iadd, 1, 0, 0, 0) := by decide +kernel
theorem s_4_6 {x0 x1 x2 x3 : Option Value} {x w : Int32} : mw d 4 Q 6 [x0, x1, x2, x3] (.int w :: .int x :: st) h = mw d 4 Q 7 [x0, x1, x2, x3] (.int (x + w) :: st) h := (mw_at mj_4_6).trans (z_iadd)
theorem mj_4_7 : mc_P 4 7 = some (.putfield 58, 3, 0, 2, 0) := by decide +kernel
theorem s_4_7 {x0 x1 x2 x3 : Option Value} {o : Nat} {w : Int32} : mw d 4 Q 7 [x0, x1, x2, x3] (.int w :: .ref o :: st) h = (mg h o 0 ∧ mw d 4 Q 10 [x0, x1, x2, x3] (st) (mh_si h o 2 w)) := (mw_at mj_4_7).trans (z_puti (by decide) (by decide) rfl)
theorem mj_4_10 : mc_P 4 10 = some (.aload_n 0, 1, 0, 0, 0) := by decide +kernel
theorem s_4_10 {x1 x2 x3 : Option Value} {w : Value} : mw d 4 Q 10 [some w, x1, x2, x3] (st) h = mv_a w (mw d 4 Q 11 [some w, x1, x2, x3] (w :: st) h) := (mw_at mj_4_10).trans (z_aload_n rfl)
theorem mj_4_11 : mc_P 4 11 = some (.getfield 58, 3, 0, 2, 0) := by decide +kernel
theorem s_4_11 {x0 x1 x2 x3 : Option Value} {o : Nat} : mw d 4 Q 11 [x0, x1, x2, x3] (.ref o :: st) h = (mg h o 0 ∧ mw d 4 Q 14 [x0, x1, x2, x3] (.int (mh_i h o 2) :: st) h) := (mw_at mj_4_11).trans (z_geti (by decide) (by decide) (Or.inl rfl))
theorem mj_4_14 : mc_P 4 14 = some (.sipush 4000, 3, 0, 0, 0) := by decide +kernel
theorem s_4_14 {x0 x1 x2 x3 : Option Value} : mw d 4 Q 14 [x0, x1, x2, x3] (st) h = mw d 4 Q 17 [x0, x1, x2, x3] (.int 4000 :: st) h := (mw_at mj_4_14).trans (z_sipush (by decide))
theorem mj_4_17 : mc_P 4 17 = some (.if_icmp .le 9, 3, 0, 0, 0) := by decide +kernel
theorem s_4_17 {x0 x1 x2 x3 : Option Value} {x w : Int32} : mw d 4 Q 17 [x0, x1, x2, x3] (.int w :: .int x :: st) h = mB (x ≤ w) (mw d 4 Q) 26 20 [x0, x1, x2, x3] st h := (mw_at mj_4_17).trans (z_icmp_le (by decide) rfl)
theorem mj_4_20 : mc_P 4 20 = some (.aload_n 0, 1, 0, 0, 0) := by decide +kernel
theorem s_4_20 {x1 x2 x3 : Option Value} {w : Value} : mw d 4 Q 20 [some w, x1, x2, x3] (st) h = mv_a w (mw d 4 Q 21 [some w, x1, x2, x3] (w :: st) h) := (mw_at mj_4_20).trans (z_aload_n rfl)
theorem mj_4_21 : mc_P 4 21 = some (.iconst 1, 1, 0, 0, 0) := by decide +kernel
theorem s_4_21 {x0 x1 x2 x3 : Option Value} : mw d 4 Q 21 [x0, x1, x2, x3] (st) h = mw d 4 Q 22 [x0, x1, x2, x3] (.int 1 :: st) h := (mw_at mj_4_21).trans (z_iconst (by decide))
theorem mj_4_22 : mc_P 4 22 = some (.putfield 62, 3, 0, 3, 0) := by decide +kernel
theorem s_4_22 {x0 x1 x2 x3 : Option Value} {o : Nat} {w : Int32} : mw d 4 Q 22 [x0, x1, x2, x3] (.int w :: .ref o :: st) h = (mg h o 0 ∧ (w = 0 ∨ w = 1) ∧ mw d 4 Q 25 [x0, x1, x2, x3] (st) (mh_si h o 3 w)) := (mw_at mj_4_22).trans (z_putz (by decide) (by decide) rfl)
theorem mj_4_25 : mc_P 4 25 = some (.return_, 1, 0, 0, 0) := by decide +kernel
theorem s_4_25 {x0 x1 x2 x3 : Option Value} : mw d 4 Q 25 [x0, x1, x2, x3] ([]) h = Q none h := (mw_at mj_4_25).trans (z_vret)
theorem mj_4_26 : mc_P 4 26 = some (.aload_n 0, 1, 0, 0, 0) := by decide +kernel
theorem s_4_26 {x1 x2 x3 : Option Value} {w : Value} : mw d 4 Q 26 [some w, x1, x2, x3] (st) h = mv_a w (mw d 4 Q 27 [some w, x1, x2, x3] (w :: st) h) := (mw_at mj_4_26).trans (z_aload_n rfl)
theorem mj_4_27 : mc_P 4 27 = some (.getfield 66, 3, 0, 7, 0) := by decide +kernel
theorem s_4_27 {x0 x1 x2 x3 : Option Value} {o : Nat} : mw d 4 Q 27 [x0, x1, x2, x3] (.ref o :: st) h = (mg h o 0 ∧ mw d 4 Q 30 [x0, x1, x2, x3] (.int (mh_i h o 7) :: st) h) := (mw_at mj_4_27).trans (z_geti (by decide) (by decide) (Or.inl rfl))
theorem mj_4_30 : mc_P 4 30 = some (.istore_n 1, 1, 0, 0, 0) := by decide +kernel
theorem s_4_30 {x0 x1 x2 x3 : Option Value} {w : Int32} : mw d 4 Q 30 [x0, x1, x2, x3] (.int w :: st) h = mw d 4 Q 31 [mk2 x0, some (.int w), x2, x3] (st) h := (mw_at mj_4_30).trans (z_istore_n (Nat.le_of_ble_eq_true rfl) (me_s1_mk (j := 0) (w := x0) rfl))
theorem mj_4_31 : mc_P 4 31 = some (.aload_n 0, 1, 0, 0, 0) := by decide +kernel
theorem s_4_31 {x1 x2 x3 : Option Value} {w : Value} : mw d 4 Q 31 [some w, x1, x2, x3] (st) h = mv_a w (mw d 4 Q 32 [some w, x1, x2, x3] (w :: st) h) := (mw_at mj_4_31).trans (z_aload_n rfl)
theorem mj_4_32 : mc_P 4 32 = some (.getfield 50, 3, 0, 4, 0) := by decide +kernel
theorem s_4_32 {x0 x1 x2 x3 : Option Value} {o : Nat} : mw d 4 Q 32 [x0, x1, x2, x3] (.ref o :: st) h = (mg h o 0 ∧ mw d 4 Q 35 [x0, x1, x2, x3] (va_rf (mh_r h o 4) :: st) h) := (mw_at mj_4_32).trans (z_getr (by decide) (by decide) rfl)
theorem mj_4_35 : mc_P 4 35 = some (.getfield 106, 3, 4, 3, 0) := by decide +kernel
theorem s_4_35 {x0 x1 x2 x3 : Option Value} {o : Nat} : mw d 4 Q 35 [x0, x1, x2, x3] (.ref o :: st) h = (mg h o 4 ∧ mw d 4 Q 38 [x0, x1, x2, x3] (va_rf (mh_r h o 3) :: st) h) := (mw_at mj_4_35).trans (z_getr (by decide) (by decide) rfl)
theorem mj_4_38 : mc_P 4 38 = some (.iload_n 1, 1, 0, 0, 0) := by decide +kernel
theorem s_4_38 {x0 x2 x3 : Option Value} {w : Value} : mw d 4 Q 38 [x0, some w, x2, x3] (st) h = mv_i w (mw d 4 Q 39 [x0, some w, x2, x3] (w :: st) h) := (mw_at mj_4_38).trans (z_iload_n rfl)
theorem mj_4_39 : mc_P 4 39 = some (.aaload, 1, 0, 0, 0) := by decide +kernel
theorem s_4_39 {x0 x1 x2 x3 : Option Value} {o : Nat} {i : Int32} : mw d 4 Q 39 [x0, x1, x2, x3] (.int i :: .ref o :: st) h = (mgr h o ∧ mx i (mh_l h o) ∧ mw d 4 Q 40 [x0, x1, x2, x3] (mrd (mh_k h o) h o i.toNatClampNeg :: st) h) := (mw_at mj_4_39).trans (z_aald)
theorem mj_4_40 : mc_P 4 40 = some (.astore_n 2, 1, 0, 0, 0) := by decide +kernel
theorem s_4_40 {x0 x1 x2 x3 : Option Value} {w : Nat} : mw d 4 Q 40 [x0, x1, x2, x3] (.ref w :: st) h = mw d 4 Q 41 [x0, mk2 x1, some (.ref w), x3] (st) h := (mw_at mj_4_40).trans (z_astore_n (Nat.le_of_ble_eq_true rfl) (me_s1_mk (j := 1) (w := x1) rfl))
theorem s_4_40n {x0 x1 x2 x3 : Option Value} : mw d 4 Q 40 [x0, x1, x2, x3] (.null :: st) h = mw d 4 Q 41 [x0, mk2 x1, some (.null), x3] (st) h := (mw_at mj_4_40).trans (z_astoreN_n (Nat.le_of_ble_eq_true rfl) (me_s1_mk (j := 1) (w := x1) rfl))
theorem s_4_40x {x0 x1 x2 x3 : Option Value} {w : Nat} : mw d 4 Q 40 [x0, x1, x2, x3] (.retAddr w :: st) h = mw d 4 Q 41 [x0, mk2 x1, some (.retAddr w), x3] (st) h := (mw_at mj_4_40).trans (z_astoreX_n (Nat.le_of_ble_eq_true rfl) (me_s1_mk (j := 1) (w := x1) rfl))
theorem mj_4_41 : mc_P 4 41 = some (.aload_n 0, 1, 0, 0, 0) := by decide +kernel
theorem s_4_41 {x1 x2 x3 : Option Value} {w : Value} : mw d 4 Q 41 [some w, x1, x2, x3] (st) h = mv_a w (mw d 4 Q 42 [some w, x1, x2, x3] (w :: st) h) := (mw_at mj_4_41).trans (z_aload_n rfl)
theorem mj_4_42 : mc_P 4 42 = some (.getfield 69, 3, 0, 9, 0) := by decide +kernel
theorem s_4_42 {x0 x1 x2 x3 : Option Value} {o : Nat} : mw d 4 Q 42 [x0, x1, x2, x3] (.ref o :: st) h = (mg h o 0 ∧ mw d 4 Q 45 [x0, x1, x2, x3] (.int (mh_i h o 9) :: st) h) := (mw_at mj_4_42).trans (z_geti (by decide) (by decide) (Or.inl rfl))
theorem mj_4_45 : mc_P 4 45 = some (.ifCond .le 22, 3, 0, 0, 0) := by decide +kernel
theorem s_4_45 {x0 x1 x2 x3 : Option Value} {x : Int32} : mw d 4 Q 45 [x0, x1, x2, x3] (.int x :: st) h = mB (x ≤ 0) (mw d 4 Q) 67 48 [x0, x1, x2, x3] st h := (mw_at mj_4_45).trans (z_if_le (by decide) rfl)
theorem mj_4_48 : mc_P 4 48 = some (.aload_n 0, 1, 0, 0, 0) := by decide +kernel
theorem s_4_48 {x1 x2 x3 : Option Value} {w : Value} : mw d 4 Q 48 [some w, x1, x2, x3] (st) h = mv_a w (mw d 4 Q 49 [some w, x1, x2, x3] (w :: st) h) := (mw_at mj_4_48).trans (z_aload_n rfl)
theorem mj_4_49 : mc_P 4 49 = some (.getfield 26, 3, 0, 8, 0) := by decide +kernel
theorem s_4_49 {x0 x1 x2 x3 : Option Value} {o : Nat} : mw d 4 Q 49 [x0, x1, x2, x3] (.ref o :: st) h = (mg h o 0 ∧ mw d 4 Q 52 [x0, x1, x2, x3] (va_rf (mh_r h o 8) :: st) h) := (mw_at mj_4_49).trans (z_getr (by decide) (by decide) rfl)
theorem mj_4_52 : mc_P 4 52 = some (.aload_n 0, 1, 0, 0, 0) := by decide +kernel
theorem s_4_52 {x1 x2 x3 : Option Value} {w : Value} : mw d 4 Q 52 [some w, x1, x2, x3] (st) h = mv_a w (mw d 4 Q 53 [some w, x1, x2, x3] (w :: st) h) := (mw_at mj_4_52).trans (z_aload_n rfl)
theorem mj_4_53 : mc_P 4 53 = some (.getfield 69, 3, 0, 9, 0) := by decide +kernel
theorem s_4_53 {x0 x1 x2 x3 : Option Value} {o : Nat} : mw d 4 Q 53 [x0, x1, x2, x3] (.ref o :: st) h = (mg h o 0 ∧ mw d 4 Q 56 [x0, x1, x2, x3] (.int (mh_i h o 9) :: st) h) := (mw_at mj_4_53).trans (z_geti (by decide) (by decide) (Or.inl rfl))
theorem mj_4_56 : mc_P 4 56 = some (.iconst 1, 1, 0, 0, 0) := by decide +kernel
theorem s_4_56 {x0 x1 x2 x3 : Option Value} : mw d 4 Q 56 [x0, x1, x2, x3] (st) h = mw d 4 Q 57 [x0, x1, x2, x3] (.int 1 :: st) h := (mw_at mj_4_56).trans (z_iconst (by decide))
theorem mj_4_57 : mc_P 4 57 = some (.isub, 1, 0, 0, 0) := by decide +kernel
theorem s_4_57 {x0 x1 x2 x3 : Option Value} {x w : Int32} : mw d 4 Q 57 [x0, x1, x2, x3] (.int w :: .int x :: st) h = mw d 4 Q 58 [x0, x1, x2, x3] (.int (x - w) :: st) h := (mw_at mj_4_57).trans (z_isub)
theorem mj_4_58 : mc_P 4 58 = some (.iaload, 1, 0, 0, 0) := by decide +kernel
theorem s_4_58 {x0 x1 x2 x3 : Option Value} {o : Nat} {i : Int32} : mw d 4 Q 58 [x0, x1, x2, x3] (.int i :: .ref o :: st) h = (mg h o 100 ∧ mx i (mh_l h o) ∧ mw d 4 Q 59 [x0, x1, x2, x3] (.int (mh_i h o i.toNatClampNeg) :: st) h) := (mw_at mj_4_58).trans (z_iald)
theorem s_4_58x {x0 x1 x2 x3 : Option Value} {i : Int32} : mw d 4 Q 58 [x0, x1, x2, x3] (.int i :: .retAddr 2 :: st) h = (mx i 24 ∧ mw d 4 Q 59 [x0, x1, x2, x3] (.int (mx_row.getD i.toNatClampNeg 0) :: st) h) := (mw_at mj_4_58).trans (z_iaX)
theorem mj_4_59 : mc_P 4 59 = some (.iload_n 1, 1, 0, 0, 0) := by decide +kernel
theorem s_4_59 {x0 x2 x3 : Option Value} {w : Value} : mw d 4 Q 59 [x0, some w, x2, x3] (st) h = mv_i w (mw d 4 Q 60 [x0, some w, x2, x3] (w :: st) h) := (mw_at mj_4_59).trans (z_iload_n rfl)
theorem mj_4_60 : mc_P 4 60 = some (.if_icmp .ne 7, 3, 0, 0, 0) := by decide +kernel
theorem s_4_60 {x0 x1 x2 x3 : Option Value} {x w : Int32} : mw d 4 Q 60 [x0, x1, x2, x3] (.int w :: .int x :: st) h = mB (¬ x = w) (mw d 4 Q) 67 63 [x0, x1, x2, x3] st h := (mw_at mj_4_60).trans (z_icmp_ne (by decide) rfl)
theorem mj_4_63 : mc_P 4 63 = some (.iconst 1, 1, 0, 0, 0) := by decide +kernel
theorem s_4_63 {x0 x1 x2 x3 : Option Value} : mw d 4 Q 63 [x0, x1, x2, x3] (st) h = mw d 4 Q 64 [x0, x1, x2, x3] (.int 1 :: st) h := (mw_at mj_4_63).trans (z_iconst (by decide))
theorem mj_4_64 : mc_P 4 64 = some (.goto 4, 3, 0, 0, 0) := by decide +kernel
theorem s_4_64 {x0 x1 x2 x3 : Option Value} : mw d 4 Q 64 [x0, x1, x2, x3] (st) h = mw d 4 Q 68 [x0, x1, x2, x3] (st) h := (mw_at mj_4_64).trans (z_goto (by decide))
theorem mj_4_67 : mc_P 4 67 = some (.iconst 0, 1, 0, 0, 0) := by decide +kernel
theorem s_4_67 {x0 x1 x2 x3 : Option Value} : mw d 4 Q 67 [x0, x1, x2, x3] (st) h = mw d 4 Q 68 [x0, x1, x2, x3] (.int 0 :: st) h := (mw_at mj_4_67).trans (z_iconst (by decide))
theorem mj_4_68 : mc_P 4 68 = some (.istore_n 3, 1, 0, 0, 0) := by decide +kernel
theorem s_4_68 {x0 x1 x2 x3 : Option Value} {w : Int32} : mw d 4 Q 68 [x0, x1, x2, x3] (.int w :: st) h = mw d 4 Q 69 [x0, x1, mk2 x2, some (.int w)] (st) h := (mw_at mj_4_68).trans (z_istore_n (Nat.le_of_ble_eq_true rfl) (me_s1_mk (j := 2) (w := x2) rfl))
theorem mj_4_69 : mc_P 4 69 = some (.iload_n 3, 1, 0, 0, 0) := by decide +kernel
theorem s_4_69 {x0 x1 x2 : Option Value} {w : Value} : mw d 4 Q 69 [x0, x1, x2, some w] (st) h = mv_i w (mw d 4 Q 70 [x0, x1, x2, some w] (w :: st) h) := (mw_at mj_4_69).trans (z_iload_n rfl)
theorem mj_4_70 : mc_P 4 70 = some (.ifCond .ne 23, 3, 0, 0, 0) := by decide +kernel
theorem s_4_70 {x0 x1 x2 x3 : Option Value} {x : Int32} : mw d 4 Q 70 [x0, x1, x2, x3] (.int x :: st) h = mB (¬ x = 0) (mw d 4 Q) 93 73 [x0, x1, x2, x3] st h := (mw_at mj_4_70).trans (z_if_ne (by decide) rfl)
theorem mj_4_73 : mc_P 4 73 = some (.aload_n 2, 1, 0, 0, 0) := by decide +kernel
theorem s_4_73 {x0 x1 x3 : Option Value} {w : Value} : mw d 4 Q 73 [x0, x1, some w, x3] (st) h = mv_a w (mw d 4 Q 74 [x0, x1, some w, x3] (w :: st) h) := (mw_at mj_4_73).trans (z_aload_n rfl)
theorem mj_4_77 : mc_P 4 77 = some (.ifCond .ne 11, 3, 0, 0, 0) := by decide +kernel
theorem s_4_77 {x0 x1 x2 x3 : Option Value} {x : Int32} : mw d 4 Q 77 [x0, x1, x2, x3] (.int x :: st) h = mB (¬ x = 0) (mw d 4 Q) 88 80 [x0, x1, x2, x3] st h := (mw_at mj_4_77).trans (z_if_ne (by decide) rfl)
theorem mj_4_80 : mc_P 4 80 = some (.aload_n 2, 1, 0, 0, 0) := by decide +kernel
theorem s_4_80 {x0 x1 x3 : Option Value} {w : Value} : mw d 4 Q 80 [x0, x1, some w, x3] (st) h = mv_a w (mw d 4 Q 81 [x0, x1, some w, x3] (w :: st) h) := (mw_at mj_4_80).trans (z_aload_n rfl)
theorem mj_4_81 : mc_P 4 81 = some (.getfield 110, 3, 9, 0, 0) := by decide +kernel
theorem s_4_81 {x0 x1 x2 x3 : Option Value} {o : Nat} : mw d 4 Q 81 [x0, x1, x2, x3] (.ref o :: st) h = (mg h o 9 ∧ mw d 4 Q 84 [x0, x1, x2, x3] (.int (mh_i h o 0) :: st) h) := (mw_at mj_4_81).trans (z_geti (by decide) (by decide) (Or.inl rfl))
theorem mj_4_84 : mc_P 4 84 = some (.iconst 4, 1, 0, 0, 0) := by decide +kernel
theorem s_4_84 {x0 x1 x2 x3 : Option Value} : mw d 4 Q 84 [x0, x1, x2, x3] (st) h = mw d 4 Q 85 [x0, x1, x2, x3] (.int 4 :: st) h := (mw_at mj_4_84).trans (z_iconst (by decide))
theorem mj_4_85 : mc_P 4 85 = some (.if_icmp .ne 8, 3, 0, 0, 0) := by decide +kernel
theorem s_4_85 {x0 x1 x2 x3 : Option Value} {x w : Int32} : mw d 4 Q 85 [x0, x1, x2, x3] (.int w :: .int x :: st) h = mB (¬ x = w) (mw d 4 Q) 93 88 [x0, x1, x2, x3] st h := (mw_at mj_4_85).trans (z_icmp_ne (by decide) rfl)
theorem mj_4_88 : mc_P 4 88 = some (.aload_n 0, 1, 0, 0, 0) := by decide +kernel
theorem s_4_88 {x1 x2 x3 : Option Value} {w : Value} : mw d 4 Q 88 [some w, x1, x2, x3] (st) h = mv_a w (mw d 4 Q 89 [some w, x1, x2, x3] (w :: st) h) := (mw_at mj_4_88).trans (z_aload_n rfl)
theorem mj_4_89 : mc_P 4 89 = some (.iload_n 1, 1, 0, 0, 0) := by decide +kernel
theorem s_4_89 {x0 x2 x3 : Option Value} {w : Value} : mw d 4 Q 89 [x0, some w, x2, x3] (st) h = mv_i w (mw d 4 Q 90 [x0, some w, x2, x3] (w :: st) h) := (mw_at mj_4_89).trans (z_iload_n rfl)
theorem mj_4_90 : mc_P 4 90 = some (.invokevirtual 131, 3, 5, 0, 2) := by decide +kernel
theorem s_4_90 {x0 x1 x2 x3 : Option Value} {o : Nat} {a1 : Value} : mw (d + 1) 4 Q 90 [x0, x1, x2, x3] (a1 :: .ref o :: st) h = (mg h o 0 ∧ mca st 8 ∧ mca [.ref o, a1] 4 ∧ mcall d 5 [.ref o, a1] h (mK (d + 1) 4 Q 93 [x0, x1, x2, x3] st)) := (mw_at mj_4_90).trans ((z_invv (As := [a1]) (by decide) rfl rfl).trans (congrArg (And _) (congrArg (And _) (mC_nl nl_5))))
theorem mj_4_93 : mc_P 4 93 = some (.aload_n 0, 1, 0, 0, 0) := by decide +kernel
theorem s_4_93 {x1 x2 x3 : Option Value} {w : Value} : mw d 4 Q 93 [some w, x1, x2, x3] (st) h = mv_a w (mw d 4 Q 94 [some w, x1, x2, x3] (w :: st) h) := (mw_at mj_4_93).trans (z_aload_n rfl)
theorem mj_4_94 : mc_P 4 94 = some (.getfield 11, 3, 0, 0, 0) := by decide +kernel
theorem s_4_94 {x0 x1 x2 x3 : Option Value} {o : Nat} : mw d 4 Q 94 [x0, x1, x2, x3] (.ref o :: st) h = (mg h o 0 ∧ mw d 4 Q 97 [x0, x1, x2, x3] (va_rf (mh_r h o 0) :: st) h) := (mw_at mj_4_94).trans (z_getr (by decide) (by decide) rfl)
theorem mj_4_97 : mc_P 4 97 = some (.iload_n 1, 1, 0, 0, 0) := by decide +kernel
theorem s_4_97 {x0 x2 x3 : Option Value} {w : Value} : mw d 4 Q 97 [x0, some w, x2, x3] (st) h = mv_i w (mw d 4 Q 98 [x0, some w, x2, x3] (w :: st) h) := (mw_at mj_4_97).trans (z_iload_n rfl)
theorem mj_4_98 : mc_P 4 98 = some (.aaload, 1, 0, 0, 0) := by decide +kernel
theorem s_4_98 {x0 x1 x2 x3 : Option Value} {o : Nat} {i : Int32} : mw d 4 Q 98 [x0, x1, x2, x3] (.int i :: .ref o :: st) h = (mgr h o ∧ mx i (mh_l h o) ∧ mw d 4 Q 99 [x0, x1, x2, x3] (mrd (mh_k h o) h o i.toNatClampNeg :: st) h) := (mw_at mj_4_98).trans (z_aald)
theorem mj_4_99 : mc_P 4 99 = some (.aload_n 0, 1, 0, 0, 0) := by decide +kernel
theorem s_4_99 {x1 x2 x3 : Option Value} {w : Value} : mw d 4 Q 99 [some w, x1, x2, x3] (st) h = mv_a w (mw d 4 Q 100 [some w, x1, x2, x3] (w :: st) h) := (mw_at mj_4_99).trans (z_aload_n rfl)
theorem mj_4_100 : mc_P 4 100 = some (.getfield 22, 3, 0, 6, 0) := by decide +kernel
theorem s_4_100 {x0 x1 x2 x3 : Option Value} {o : Nat} : mw d 4 Q 100 [x0, x1, x2, x3] (.ref o :: st) h = (mg h o 0 ∧ mw d 4 Q 103 [x0, x1, x2, x3] (va_rf (mh_r h o 6) :: st) h) := (mw_at mj_4_100).trans (z_getr (by decide) (by decide) rfl)
theorem mj_4_103 : mc_P 4 103 = some (.invokevirtual 102, 3, 144, 8, 2) := by decide +kernel
theorem s_4_103 {x0 x1 x2 x3 : Option Value} {o : Nat} {a1 : Value} : mw (d + 1) 4 Q 103 [x0, x1, x2, x3] (a1 :: .ref o :: st) h = (mg h o 8 ∧ mca st 8 ∧ mca [.ref o, a1] 2 ∧ mcall d 144 [.ref o, a1] h (mK (d + 1) 4 Q 106 [x0, x1, x2, x3] st)) := (mw_at mj_4_103).trans ((z_invv (As := [a1]) (by decide) rfl rfl).trans (congrArg (And _) (congrArg (And _) (mC_nl nl_144))))
theorem mj_4_106 : mc_P 4 106 = some (.aload_n 2, 1, 0, 0, 0) := by decide +kernel
theorem s_4_106 {x0 x1 x3 : Option Value} {w : Value} : mw d 4 Q 106 [x0, x1, some w, x3] (st) h = mv_a w (mw d 4 Q 107 [x0, x1, some w, x3] (w :: st) h) := (mw_at mj_4_106).trans (z_aload_n rfl)
theorem mj_4_110 : mc_P 4 110 = some (.ifCond .eq 18, 3, 0, 0, 0) := by decide +kernel
theorem s_4_110 {x0 x1 x2 x3 : Option Value} {x : Int32} : mw d 4 Q 110 [x0, x1, x2, x3] (.int x :: st) h = mB (x = 0) (mw d 4 Q) 128 113 [x0, x1, x2, x3] st h := (mw_at mj_4_110).trans (z_if_eq (by decide) rfl)
theorem mj_4_113 : mc_P 4 113 = some (.aload_n 0, 1, 0, 0, 0) := by decide +kernel
theorem s_4_113 {x1 x2 x3 : Option Value} {w : Value} : mw d 4 Q 113 [some w, x1, x2, x3] (st) h = mv_a w (mw d 4 Q 114 [some w, x1, x2, x3] (w :: st) h) := (mw_at mj_4_113).trans (z_aload_n rfl)
theorem mj_4_114 : mc_P 4 114 = some (.getfield 54, 3, 0, 5, 0) := by decide +kernel
theorem s_4_114 {x0 x1 x2 x3 : Option Value} {o : Nat} : mw d 4 Q 114 [x0, x1, x2, x3] (.ref o :: st) h = (mg h o 0 ∧ mw d 4 Q 117 [x0, x1, x2, x3] (va_rf (mh_r h o 5) :: st) h) := (mw_at mj_4_114).trans (z_getr (by decide) (by decide) rfl)
theorem mj_4_117 : mc_P 4 117 = some (.iload_n 1, 1, 0, 0, 0) := by decide +kernel
theorem s_4_117 {x0 x2 x3 : Option Value} {w : Value} : mw d 4 Q 117 [x0, some w, x2, x3] (st) h = mv_i w (mw d 4 Q 118 [x0, some w, x2, x3] (w :: st) h) := (mw_at mj_4_117).trans (z_iload_n rfl)
theorem mj_4_118 : mc_P 4 118 = some (.aload_n 0, 1, 0, 0, 0) := by decide +kernel
theorem s_4_118 {x1 x2 x3 : Option Value} {w : Value} : mw d 4 Q 118 [some w, x1, x2, x3] (st) h = mv_a w (mw d 4 Q 119 [some w, x1, x2, x3] (w :: st) h) := (mw_at mj_4_118).trans (z_aload_n rfl)
theorem mj_4_119 : mc_P 4 119 = some (.getfield 22, 3, 0, 6, 0) := by decide +kernel
theorem s_4_119 {x0 x1 x2 x3 : Option Value} {o : Nat} : mw d 4 Q 119 [x0, x1, x2, x3] (.ref o :: st) h = (mg h o 0 ∧ mw d 4 Q 122 [x0, x1, x2, x3] (va_rf (mh_r h o 6) :: st) h) := (mw_at mj_4_119).trans (z_getr (by decide) (by decide) rfl)
theorem mj_4_122 : mc_P 4 122 = some (.invokevirtual 137, 3, 17, 1, 3) := by decide +kernel
theorem s_4_122 {x0 x1 x2 x3 : Option Value} {o : Nat} {a1 a2 : Value} : mw (d + 1) 4 Q 122 [x0, x1, x2, x3] (a2 :: a1 :: .ref o :: st) h = (mg h o 1 ∧ mca st 8 ∧ mca [.ref o, a1, a2] 7 ∧ mcall d 17 [.ref o, a1, a2] h (mK (d + 1) 4 Q 125 [x0, x1, x2, x3] st)) := (mw_at mj_4_122).trans ((z_invv (As := [a1, a2]) (by decide) rfl rfl).trans (congrArg (And _) (congrArg (And _) (mC_nl nl_17))))
theorem mj_4_125 : mc_P 4 125 = some (.goto 15, 3, 0, 0, 0) := by decide +kernel
theorem s_4_125 {x0 x1 x2 x3 : Option Value} : mw d 4 Q 125 [x0, x1, x2, x3] (st) h = mw d 4 Q 140 [x0, x1, x2, x3] (st) h := (mw_at mj_4_125).trans (z_goto (by decide))
theorem mj_4_128 : mc_P 4 128 = some (.aload_n 0, 1, 0, 0, 0) := by decide +kernel
theorem s_4_128 {x1 x2 x3 : Option Value} {w : Value} : mw d 4 Q 128 [some w, x1, x2, x3] (st) h = mv_a w (mw d 4 Q 129 [some w, x1, x2, x3] (w :: st) h) := (mw_at mj_4_128).trans (z_aload_n rfl)
theorem mj_4_129 : mc_P 4 129 = some (.getfield 54, 3, 0, 5, 0) := by decide +kernel
theorem s_4_129 {x0 x1 x2 x3 : Option Value} {o : Nat} : mw d 4 Q 129 [x0, x1, x2, x3] (.ref o :: st) h = (mg h o 0 ∧ mw d 4 Q 132 [x0, x1, x2, x3] (va_rf (mh_r h o 5) :: st) h) := (mw_at mj_4_129).trans (z_getr (by decide) (by decide) rfl)
theorem mj_4_132 : mc_P 4 132 = some (.iload_n 1, 1, 0, 0, 0) := by decide +kernel
theorem s_4_132 {x0 x2 x3 : Option Value} {w : Value} : mw d 4 Q 132 [x0, some w, x2, x3] (st) h = mv_i w (mw d 4 Q 133 [x0, some w, x2, x3] (w :: st) h) := (mw_at mj_4_132).trans (z_iload_n rfl)
theorem mj_4_133 : mc_P 4 133 = some (.aload_n 0, 1, 0, 0, 0) := by decide +kernel
theorem s_4_133 {x1 x2 x3 : Option Value} {w : Value} : mw d 4 Q 133 [some w, x1, x2, x3] (st) h = mv_a w (mw d 4 Q 134 [some w, x1, x2, x3] (w :: st) h) := (mw_at mj_4_133).trans (z_aload_n rfl)
theorem mj_4_134 : mc_P 4 134 = some (.getfield 22, 3, 0, 6, 0) := by decide +kernel
theorem s_4_134 {x0 x1 x2 x3 : Option Value} {o : Nat} : mw d 4 Q 134 [x0, x1, x2, x3] (.ref o :: st) h = (mg h o 0 ∧ mw d 4 Q 137 [x0, x1, x2, x3] (va_rf (mh_r h o 6) :: st) h) := (mw_at mj_4_134).trans (z_getr (by decide) (by decide) rfl)
theorem mj_4_137 : mc_P 4 137 = some (.invokevirtual 143, 3, 13, 1, 3) := by decide +kernel
theorem s_4_137 {x0 x1 x2 x3 : Option Value} {o : Nat} {a1 a2 : Value} : mw (d + 1) 4 Q 137 [x0, x1, x2, x3] (a2 :: a1 :: .ref o :: st) h = (mg h o 1 ∧ mca st 8 ∧ mca [.ref o, a1, a2] 5 ∧ mcall d 13 [.ref o, a1, a2] h (mK (d + 1) 4 Q 140 [x0, x1, x2, x3] st)) := (mw_at mj_4_137).trans ((z_invv (As := [a1, a2]) (by decide) rfl rfl).trans (congrArg (And _) (congrArg (And _) (mC_nl nl_13))))
theorem mj_4_140 : mc_P 4 140 = some (.aload_n 0, 1, 0, 0, 0) := by decide +kernel
theorem s_4_140 {x1 x2 x3 : Option Value} {w : Value} : mw d 4 Q 140 [some w, x1, x2, x3] (st) h = mv_a w (mw d 4 Q 141 [some w, x1, x2, x3] (w :: st) h) := (mw_at mj_4_140).trans (z_aload_n rfl)
theorem mj_4_141 : mc_P 4 141 = some (.getfield 17, 3, 0, 1, 0) := by decide +kernel
theorem s_4_141 {x0 x1 x2 x3 : Option Value} {o : Nat} : mw d 4 Q 141 [x0, x1, x2, x3] (.ref o :: st) h = (mg h o 0 ∧ mw d 4 Q 144 [x0, x1, x2, x3] (va_rf (mh_r h o 1) :: st) h) := (mw_at mj_4_141).trans (z_getr (by decide) (by decide) rfl)
theorem mj_4_144 : mc_P 4 144 = some (.iload_n 1, 1, 0, 0, 0) := by decide +kernel
theorem s_4_144 {x0 x2 x3 : Option Value} {w : Value} : mw d 4 Q 144 [x0, some w, x2, x3] (st) h = mv_i w (mw d 4 Q 145 [x0, some w, x2, x3] (w :: st) h) := (mw_at mj_4_144).trans (z_iload_n rfl)
theorem mj_4_145 : mc_P 4 145 = some (.aload_n 0, 1, 0, 0, 0) := by decide +kernel
theorem s_4_145 {x1 x2 x3 : Option Value} {w : Value} : mw d 4 Q 145 [some w, x1, x2, x3] (st) h = mv_a w (mw d 4 Q 146 [some w, x1, x2, x3] (w :: st) h) := (mw_at mj_4_145).trans (z_aload_n rfl)
theorem mj_4_146 : mc_P 4 146 = some (.getfield 54, 3, 0, 5, 0) := by decide +kernel
theorem s_4_146 {x0 x1 x2 x3 : Option Value} {o : Nat} : mw d 4 Q 146 [x0, x1, x2, x3] (.ref o :: st) h = (mg h o 0 ∧ mw d 4 Q 149 [x0, x1, x2, x3] (va_rf (mh_r h o 5) :: st) h) := (mw_at mj_4_146).trans (z_getr (by decide) (by decide) rfl)
theorem mj_4_149 : mc_P 4 149 = some (.getfield 146, 3, 1, 8, 0) := by decide +kernel
theorem s_4_149 {x0 x1 x2 x3 : Option Value} {o : Nat} : mw d 4 Q 149 [x0, x1, x2, x3] (.ref o :: st) h = (mg h o 1 ∧ mw d 4 Q 152 [x0, x1, x2, x3] (.int (mh_i h o 8) :: st) h) := (mw_at mj_4_149).trans (z_geti (by decide) (by decide) (Or.inl rfl))
theorem mj_4_152 : mc_P 4 152 = some (.iastore, 1, 0, 0, 0) := by decide +kernel
theorem s_4_152 {x0 x1 x2 x3 : Option Value} {o : Nat} {i w : Int32} : mw d 4 Q 152 [x0, x1, x2, x3] (.int w :: .int i :: .ref o :: st) h = (mg h o 100 ∧ mx i (mh_l h o) ∧ mw d 4 Q 153 [x0, x1, x2, x3] (st) (mh_si h o i.toNatClampNeg w)) := (mw_at mj_4_152).trans (z_iast)
theorem mj_4_153 : mc_P 4 153 = some (.aload_n 0, 1, 0, 0, 0) := by decide +kernel
theorem s_4_153 {x1 x2 x3 : Option Value} {w : Value} : mw d 4 Q 153 [some w, x1, x2, x3] (st) h = mv_a w (mw d 4 Q 154 [some w, x1, x2, x3] (w :: st) h) := (mw_at mj_4_153).trans (z_aload_n rfl)
theorem mj_4_154 : mc_P 4 154 = some (.getfield 22, 3, 0, 6, 0) := by decide +kernel
theorem s_4_154 {x0 x1 x2 x3 : Option Value} {o : Nat} : mw d 4 Q 154 [x0, x1, x2, x3] (.ref o :: st) h = (mg h o 0 ∧ mw d 4 Q 157 [x0, x1, x2, x3] (va_rf (mh_r h o 6) :: st) h) := (mw_at mj_4_154).trans (z_getr (by decide) (by decide) rfl)
theorem mj_4_157 : mc_P 4 157 = some (.aload_n 0, 1, 0, 0, 0) := by decide +kernel
theorem s_4_157 {x1 x2 x3 : Option Value} {w : Value} : mw d 4 Q 157 [some w, x1, x2, x3] (st) h = mv_a w (mw d 4 Q 158 [some w, x1, x2, x3] (w :: st) h) := (mw_at mj_4_157).trans (z_aload_n rfl)
theorem mj_4_158 : mc_P 4 158 = some (.getfield 54, 3, 0, 5, 0) := by decide +kernel
theorem s_4_158 {x0 x1 x2 x3 : Option Value} {o : Nat} : mw d 4 Q 158 [x0, x1, x2, x3] (.ref o :: st) h = (mg h o 0 ∧ mw d 4 Q 161 [x0, x1, x2, x3] (va_rf (mh_r h o 5) :: st) h) := (mw_at mj_4_158).trans (z_getr (by decide) (by decide) rfl)
theorem mj_4_161 : mc_P 4 161 = some (.getfield 148, 3, 1, 2, 0) := by decide +kernel
theorem s_4_161 {x0 x1 x2 x3 : Option Value} {o : Nat} : mw d 4 Q 161 [x0, x1, x2, x3] (.ref o :: st) h = (mg h o 1 ∧ mw d 4 Q 164 [x0, x1, x2, x3] (va_rf (mh_r h o 2) :: st) h) := (mw_at mj_4_161).trans (z_getr (by decide) (by decide) rfl)
theorem mj_4_164 : mc_P 4 164 = some (.invokevirtual 102, 3, 144, 8, 2) := by decide +kernel
theorem s_4_164 {x0 x1 x2 x3 : Option Value} {o : Nat} {a1 : Value} : mw (d + 1) 4 Q 164 [x0, x1, x2, x3] (a1 :: .ref o :: st) h = (mg h o 8 ∧ mca st 8 ∧ mca [.ref o, a1] 2 ∧ mcall d 144 [.ref o, a1] h (mK (d + 1) 4 Q 167 [x0, x1, x2, x3] st)) := (mw_at mj_4_164).trans ((z_invv (As := [a1]) (by decide) rfl rfl).trans (congrArg (And _) (congrArg (And _) (mC_nl nl_144))))
theorem mj_4_167 : mc_P 4 167 = some (.aload_n 2, 1, 0, 0, 0) := by decide +kernel
theorem s_4_167 {x0 x1 x3 : Option Value} {w : Value} : mw d 4 Q 167 [x0, x1, some w, x3] (st) h = mv_a w (mw d 4 Q 168 [x0, x1, some w, x3] (w :: st) h) := (mw_at mj_4_167).trans (z_aload_n rfl)
theorem mj_4_168 : mc_P 4 168 = some (.getfield 110, 3, 9, 0, 0) := by decide +kernel
theorem s_4_168 {x0 x1 x2 x3 : Option Value} {o : Nat} : mw d 4 Q 168 [x0, x1, x2, x3] (.ref o :: st) h = (mg h o 9 ∧ mw d 4 Q 171 [x0, x1, x2, x3] (.int (mh_i h o 0) :: st) h) := (mw_at mj_4_168).trans (z_geti (by decide) (by decide) (Or.inl rfl))
theorem mj_4_171 : mc_P 4 171 = some (.iconst 5, 1, 0, 0, 0) := by decide +kernel
theorem s_4_171 {x0 x1 x2 x3 : Option Value} : mw d 4 Q 171 [x0, x1, x2, x3] (st) h = mw d 4 Q 172 [x0, x1, x2, x3] (.int 5 :: st) h := (mw_at mj_4_171).trans (z_iconst (by decide))
theorem mj_4_172 : mc_P 4 172 = some (.if_icmp .eq 27, 3, 0, 0, 0) := by decide +kernel
theorem s_4_172 {x0 x1 x2 x3 : Option Value} {x w : Int32} : mw d 4 Q 172 [x0, x1, x2, x3] (.int w :: .int x :: st) h = mB (x = w) (mw d 4 Q) 199 175 [x0, x1, x2, x3] st h := (mw_at mj_4_172).trans (z_icmp_eq (by decide) rfl)
theorem mj_4_175 : mc_P 4 175 = some (.aload_n 2, 1, 0, 0, 0) := by decide +kernel
theorem s_4_175 {x0 x1 x3 : Option Value} {w : Value} : mw d 4 Q 175 [x0, x1, some w, x3] (st) h = mv_a w (mw d 4 Q 176 [x0, x1, some w, x3] (w :: st) h) := (mw_at mj_4_175).trans (z_aload_n rfl)
theorem mj_4_176 : mc_P 4 176 = some (.getfield 110, 3, 9, 0, 0) := by decide +kernel
theorem s_4_176 {x0 x1 x2 x3 : Option Value} {o : Nat} : mw d 4 Q 176 [x0, x1, x2, x3] (.ref o :: st) h = (mg h o 9 ∧ mw d 4 Q 179 [x0, x1, x2, x3] (.int (mh_i h o 0) :: st) h) := (mw_at mj_4_176).trans (z_geti (by decide) (by decide) (Or.inl rfl))
theorem mj_4_179 : mc_P 4 179 = some (.bipush 6, 2, 0, 0, 0) := by decide +kernel
theorem s_4_179 {x0 x1 x2 x3 : Option Value} : mw d 4 Q 179 [x0, x1, x2, x3] (st) h = mw d 4 Q 181 [x0, x1, x2, x3] (.int 6 :: st) h := (mw_at mj_4_179).trans (z_bipush (by decide))
theorem mj_4_181 : mc_P 4 181 = some (.if_icmp .ne 39, 3, 0, 0, 0) := by decide +kernel
theorem s_4_181 {x0 x1 x2 x3 : Option Value} {x w : Int32} : mw d 4 Q 181 [x0, x1, x2, x3] (.int w :: .int x :: st) h = mB (¬ x = w) (mw d 4 Q) 220 184 [x0, x1, x2, x3] st h := (mw_at mj_4_181).trans (z_icmp_ne (by decide) rfl)
theorem mj_4_184 : mc_P 4 184 = some (.aload_n 0, 1, 0, 0, 0) := by decide +kernel
theorem s_4_184 {x1 x2 x3 : Option Value} {w : Value} : mw d 4 Q 184 [some w, x1, x2, x3] (st) h = mv_a w (mw d 4 Q 185 [some w, x1, x2, x3] (w :: st) h) := (mw_at mj_4_184).trans (z_aload_n rfl)
theorem mj_4_185 : mc_P 4 185 = some (.getfield 29, 3, 0, 10, 0) := by decide +kernel
theorem s_4_185 {x0 x1 x2 x3 : Option Value} {o : Nat} : mw d 4 Q 185 [x0, x1, x2, x3] (.ref o :: st) h = (mg h o 0 ∧ mw d 4 Q 188 [x0, x1, x2, x3] (va_rf (mh_r h o 10) :: st) h) := (mw_at mj_4_185).trans (z_getr (by decide) (by decide) rfl)
theorem mj_4_188 : mc_P 4 188 = some (.aload_n 0, 1, 0, 0, 0) := by decide +kernel
theorem s_4_188 {x1 x2 x3 : Option Value} {w : Value} : mw d 4 Q 188 [some w, x1, x2, x3] (st) h = mv_a w (mw d 4 Q 189 [some w, x1, x2, x3] (w :: st) h) := (mw_at mj_4_188).trans (z_aload_n rfl)
theorem mj_4_189 : mc_P 4 189 = some (.getfield 69, 3, 0, 9, 0) := by decide +kernel
theorem s_4_189 {x0 x1 x2 x3 : Option Value} {o : Nat} : mw d 4 Q 189 [x0, x1, x2, x3] (.ref o :: st) h = (mg h o 0 ∧ mw d 4 Q 192 [x0, x1, x2, x3] (.int (mh_i h o 9) :: st) h) := (mw_at mj_4_189).trans (z_geti (by decide) (by decide) (Or.inl rfl))
theorem mj_4_192 : mc_P 4 192 = some (.iconst 1, 1, 0, 0, 0) := by decide +kernel
theorem s_4_192 {x0 x1 x2 x3 : Option Value} : mw d 4 Q 192 [x0, x1, x2, x3] (st) h = mw d 4 Q 193 [x0, x1, x2, x3] (.int 1 :: st) h := (mw_at mj_4_192).trans (z_iconst (by decide))
theorem mj_4_193 : mc_P 4 193 = some (.isub, 1, 0, 0, 0) := by decide +kernel
theorem s_4_193 {x0 x1 x2 x3 : Option Value} {x w : Int32} : mw d 4 Q 193 [x0, x1, x2, x3] (.int w :: .int x :: st) h = mw d 4 Q 194 [x0, x1, x2, x3] (.int (x - w) :: st) h := (mw_at mj_4_193).trans (z_isub)
theorem mj_4_194 : mc_P 4 194 = some (.iaload, 1, 0, 0, 0) := by decide +kernel
theorem s_4_194 {x0 x1 x2 x3 : Option Value} {o : Nat} {i : Int32} : mw d 4 Q 194 [x0, x1, x2, x3] (.int i :: .ref o :: st) h = (mg h o 100 ∧ mx i (mh_l h o) ∧ mw d 4 Q 195 [x0, x1, x2, x3] (.int (mh_i h o i.toNatClampNeg) :: st) h) := (mw_at mj_4_194).trans (z_iald)
theorem s_4_194x {x0 x1 x2 x3 : Option Value} {i : Int32} : mw d 4 Q 194 [x0, x1, x2, x3] (.int i :: .retAddr 2 :: st) h = (mx i 24 ∧ mw d 4 Q 195 [x0, x1, x2, x3] (.int (mx_row.getD i.toNatClampNeg 0) :: st) h) := (mw_at mj_4_194).trans (z_iaX)
theorem mj_4_195 : mc_P 4 195 = some (.iconst 2, 1, 0, 0, 0) := by decide +kernel
theorem s_4_195 {x0 x1 x2 x3 : Option Value} : mw d 4 Q 195 [x0, x1, x2, x3] (st) h = mw d 4 Q 196 [x0, x1, x2, x3] (.int 2 :: st) h := (mw_at mj_4_195).trans (z_iconst (by decide))
theorem mj_4_196 : mc_P 4 196 = some (.if_icmp .ne 24, 3, 0, 0, 0) := by decide +kernel
theorem s_4_196 {x0 x1 x2 x3 : Option Value} {x w : Int32} : mw d 4 Q 196 [x0, x1, x2, x3] (.int w :: .int x :: st) h = mB (¬ x = w) (mw d 4 Q) 220 199 [x0, x1, x2, x3] st h := (mw_at mj_4_196).trans (z_icmp_ne (by decide) rfl)
theorem mj_4_199 : mc_P 4 199 = some (.aload_n 0, 1, 0, 0, 0) := by decide +kernel
theorem s_4_199 {x1 x2 x3 : Option Value} {w : Value} : mw d 4 Q 199 [some w, x1, x2, x3] (st) h = mv_a w (mw d 4 Q 200 [some w, x1, x2, x3] (w :: st) h) := (mw_at mj_4_199).trans (z_aload_n rfl)
theorem mj_4_200 : mc_P 4 200 = some (.getfield 32, 3, 0, 11, 0) := by decide +kernel
theorem s_4_200 {x0 x1 x2 x3 : Option Value} {o : Nat} : mw d 4 Q 200 [x0, x1, x2, x3] (.ref o :: st) h = (mg h o 0 ∧ mw d 4 Q 203 [x0, x1, x2, x3] (va_rf (mh_r h o 11) :: st) h) := (mw_at mj_4_200).trans (z_getr (by decide) (by decide) rfl)
theorem mj_4_203 : mc_P 4 203 = some (.aload_n 0, 1, 0, 0, 0) := by decide +kernel
theorem s_4_203 {x1 x2 x3 : Option Value} {w : Value} : mw d 4 Q 203 [some w, x1, x2, x3] (st) h = mv_a w (mw d 4 Q 204 [some w, x1, x2, x3] (w :: st) h) := (mw_at mj_4_203).trans (z_aload_n rfl)
theorem mj_4_204 : mc_P 4 204 = some (.getfield 69, 3, 0, 9, 0) := by decide +kernel
theorem s_4_204 {x0 x1 x2 x3 : Option Value} {o : Nat} : mw d 4 Q 204 [x0, x1, x2, x3] (.ref o :: st) h = (mg h o 0 ∧ mw d 4 Q 207 [x0, x1, x2, x3] (.int (mh_i h o 9) :: st) h) := (mw_at mj_4_204).trans (z_geti (by decide) (by decide) (Or.inl rfl))
theorem mj_4_207 : mc_P 4 207 = some (.iconst 1, 1, 0, 0, 0) := by decide +kernel
theorem s_4_207 {x0 x1 x2 x3 : Option Value} : mw d 4 Q 207 [x0, x1, x2, x3] (st) h = mw d 4 Q 208 [x0, x1, x2, x3] (.int 1 :: st) h := (mw_at mj_4_207).trans (z_iconst (by decide))
theorem mj_4_208 : mc_P 4 208 = some (.isub, 1, 0, 0, 0) := by decide +kernel
theorem s_4_208 {x0 x1 x2 x3 : Option Value} {x w : Int32} : mw d 4 Q 208 [x0, x1, x2, x3] (.int w :: .int x :: st) h = mw d 4 Q 209 [x0, x1, x2, x3] (.int (x - w) :: st) h := (mw_at mj_4_208).trans (z_isub)
theorem mj_4_209 : mc_P 4 209 = some (.aaload, 1, 0, 0, 0) := by decide +kernel
theorem s_4_209 {x0 x1 x2 x3 : Option Value} {o : Nat} {i : Int32} : mw d 4 Q 209 [x0, x1, x2, x3] (.int i :: .ref o :: st) h = (mgr h o ∧ mx i (mh_l h o) ∧ mw d 4 Q 210 [x0, x1, x2, x3] (mrd (mh_k h o) h o i.toNatClampNeg :: st) h) := (mw_at mj_4_209).trans (z_aald)
theorem mj_4_210 : mc_P 4 210 = some (.aload_n 0, 1, 0, 0, 0) := by decide +kernel
theorem s_4_210 {x1 x2 x3 : Option Value} {w : Value} : mw d 4 Q 210 [some w, x1, x2, x3] (st) h = mv_a w (mw d 4 Q 211 [some w, x1, x2, x3] (w :: st) h) := (mw_at mj_4_210).trans (z_aload_n rfl)
theorem mj_4_211 : mc_P 4 211 = some (.getfield 54, 3, 0, 5, 0) := by decide +kernel
theorem s_4_211 {x0 x1 x2 x3 : Option Value} {o : Nat} : mw d 4 Q 211 [x0, x1, x2, x3] (.ref o :: st) h = (mg h o 0 ∧ mw d 4 Q 214 [x0, x1, x2, x3] (va_rf (mh_r h o 5) :: st) h) := (mw_at mj_4_211).trans (z_getr (by decide) (by decide) rfl)
theorem mj_4_214 : mc_P 4 214 = some (.getfield 151, 3, 1, 3, 0) := by decide +kernel
theorem s_4_214 {x0 x1 x2 x3 : Option Value} {o : Nat} : mw d 4 Q 214 [x0, x1, x2, x3] (.ref o :: st) h = (mg h o 1 ∧ mw d 4 Q 217 [x0, x1, x2, x3] (va_rf (mh_r h o 3) :: st) h) := (mw_at mj_4_214).trans (z_getr (by decide) (by decide) rfl)
theorem mj_4_217 : mc_P 4 217 = some (.invokevirtual 102, 3, 144, 8, 2) := by decide +kernel
theorem s_4_217 {x0 x1 x2 x3 : Option Value} {o : Nat} {a1 : Value} : mw (d + 1) 4 Q 217 [x0, x1, x2, x3] (a1 :: .ref o :: st) h = (mg h o 8 ∧ mca st 8 ∧ mca [.ref o, a1] 2 ∧ mcall d 144 [.ref o, a1] h (mK (d + 1) 4 Q 220 [x0, x1, x2, x3] st)) := (mw_at mj_4_217).trans ((z_invv (As := [a1]) (by decide) rfl rfl).trans (congrArg (And _) (congrArg (And _) (mC_nl nl_144))))
theorem mj_4_220 : mc_P 4 220 = some (.aload_n 0, 1, 0, 0, 0) := by decide +kernel
theorem s_4_220 {x1 x2 x3 : Option Value} {w : Value} : mw d 4 Q 220 [some w, x1, x2, x3] (st) h = mv_a w (mw d 4 Q 221 [some w, x1, x2, x3] (w :: st) h) := (mw_at mj_4_220).trans (z_aload_n rfl)
theorem mj_4_221 : mc_P 4 221 = some (.iload_n 1, 1, 0, 0, 0) := by decide +kernel
theorem s_4_221 {x0 x2 x3 : Option Value} {w : Value} : mw d 4 Q 221 [x0, some w, x2, x3] (st) h = mv_i w (mw d 4 Q 222 [x0, some w, x2, x3] (w :: st) h) := (mw_at mj_4_221).trans (z_iload_n rfl)
theorem mj_4_222 : mc_P 4 222 = some (.iconst 1, 1, 0, 0, 0) := by decide +kernel
theorem s_4_222 {x0 x1 x2 x3 : Option Value} : mw d 4 Q 222 [x0, x1, x2, x3] (st) h = mw d 4 Q 223 [x0, x1, x2, x3] (.int 1 :: st) h := (mw_at mj_4_222).trans (z_iconst (by decide))
theorem mj_4_223 : mc_P 4 223 = some (.iadd, 1, 0, 0, 0) := by decide +kernel
theorem s_4_223 {x0 x1 x2 x3 : Option Value} {x w : Int32} : mw d 4 Q 223 [x0, x1, x2, x3] (.int w :: .int x :: st) h = mw d 4 Q 224 [x0, x1, x2, x3] (.int (x + w) :: st) h := (mw_at mj_4_223).trans (z_iadd)
theorem mj_4_224 : mc_P 4 224 = some (.putfield 66, 3, 0, 7, 0) := by decide +kernel
theorem s_4_224 {x0 x1 x2 x3 : Option Value} {o : Nat} {w : Int32} : mw d 4 Q 224 [x0, x1, x2, x3] (.int w :: .ref o :: st) h = (mg h o 0 ∧ mw d 4 Q 227 [x0, x1, x2, x3] (st) (mh_si h o 7 w)) := (mw_at mj_4_224).trans (z_puti (by decide) (by decide) rfl)
theorem mj_4_227 : mc_P 4 227 = some (.return_, 1, 0, 0, 0) := by decide +kernel
theorem s_4_227 {x0 x1 x2 x3 : Option Value} : mw d 4 Q 227 [x0, x1, x2, x3] ([]) h = Q none h := (mw_at mj_4_227).trans (z_vret)
theorem e_4 {a0 : Nat} : mcall d 4 [.ref a0] h Q = mw d 4 Q 0 [some (.ref a0), none, none, none] [] h := by
  show mw d 4 Q 0 (me_en (mc_nl 4) _) [] h = _
  rw [nl_4]; rfl

/-! InvariantDesk$Analysis.openBlocks(I)V -/
theorem mj_5_0 : mc_P 5 0 = some (.aload_n 0, 1, 0, 0, 0) := by decide +kernel
theorem s_5_0 {x1 x2 x3 : Option Value} {w : Value} : mw d 5 Q 0 [some w, x1, x2, x3] (st) h = mv_a w (mw d 5 Q 1 [some w, x1, x2, x3] (w :: st) h) := (mw_at mj_5_0).trans (z_aload_n rfl)
theorem mj_5_1 : mc_P 5 1 = some (.getfield 50, 3, 0, 4, 0) := by decide +kernel
theorem s_5_1 {x0 x1 x2 x3 : Option Value} {o : Nat} : mw d 5 Q 1 [x0, x1, x2, x3] (.ref o :: st) h = (mg h o 0 ∧ mw d 5 Q 4 [x0, x1, x2, x3] (va_rf (mh_r h o 4) :: st) h) := (mw_at mj_5_1).trans (z_getr (by decide) (by decide) rfl)
theorem mj_5_4 : mc_P 5 4 = some (.getfield 106, 3, 4, 3, 0) := by decide +kernel
theorem s_5_4 {x0 x1 x2 x3 : Option Value} {o : Nat} : mw d 5 Q 4 [x0, x1, x2, x3] (.ref o :: st) h = (mg h o 4 ∧ mw d 5 Q 7 [x0, x1, x2, x3] (va_rf (mh_r h o 3) :: st) h) := (mw_at mj_5_4).trans (z_getr (by decide) (by decide) rfl)
theorem mj_5_7 : mc_P 5 7 = some (.iload_n 1, 1, 0, 0, 0) := by decide +kernel
theorem s_5_7 {x0 x2 x3 : Option Value} {w : Value} : mw d 5 Q 7 [x0, some w, x2, x3] (st) h = mv_i w (mw d 5 Q 8 [x0, some w, x2, x3] (w :: st) h) := (mw_at mj_5_7).trans (z_iload_n rfl)
theorem mj_5_8 : mc_P 5 8 = some (.aaload, 1, 0, 0, 0) := by decide +kernel
theorem s_5_8 {x0 x1 x2 x3 : Option Value} {o : Nat} {i : Int32} : mw d 5 Q 8 [x0, x1, x2, x3] (.int i :: .ref o :: st) h = (mgr h o ∧ mx i (mh_l h o) ∧ mw d 5 Q 9 [x0, x1, x2, x3] (mrd (mh_k h o) h o i.toNatClampNeg :: st) h) := (mw_at mj_5_8).trans (z_aald)
theorem mj_5_9 : mc_P 5 9 = some (.astore_n 2, 1, 0, 0, 0) := by decide +kernel
theorem s_5_9 {x0 x1 x2 x3 : Option Value} {w : Nat} : mw d 5 Q 9 [x0, x1, x2, x3] (.ref w :: st) h = mw d 5 Q 10 [x0, mk2 x1, some (.ref w), x3] (st) h := (mw_at mj_5_9).trans (z_astore_n (Nat.le_of_ble_eq_true rfl) (me_s1_mk (j := 1) (w := x1) rfl))
theorem s_5_9n {x0 x1 x2 x3 : Option Value} : mw d 5 Q 9 [x0, x1, x2, x3] (.null :: st) h = mw d 5 Q 10 [x0, mk2 x1, some (.null), x3] (st) h := (mw_at mj_5_9).trans (z_astoreN_n (Nat.le_of_ble_eq_true rfl) (me_s1_mk (j := 1) (w := x1) rfl))
theorem s_5_9x {x0 x1 x2 x3 : Option Value} {w : Nat} : mw d 5 Q 9 [x0, x1, x2, x3] (.retAddr w :: st) h = mw d 5 Q 10 [x0, mk2 x1, some (.retAddr w), x3] (st) h := (mw_at mj_5_9).trans (z_astoreX_n (Nat.le_of_ble_eq_true rfl) (me_s1_mk (j := 1) (w := x1) rfl))
theorem mj_5_10 : mc_P 5 10 = some (.aload_n 0, 1, 0, 0, 0) := by decide +kernel
theorem s_5_10 {x1 x2 x3 : Option Value} {w : Value} : mw d 5 Q 10 [some w, x1, x2, x3] (st) h = mv_a w (mw d 5 Q 11 [some w, x1, x2, x3] (w :: st) h) := (mw_at mj_5_10).trans (z_aload_n rfl)
theorem mj_5_11 : mc_P 5 11 = some (.getfield 69, 3, 0, 9, 0) := by decide +kernel
theorem s_5_11 {x0 x1 x2 x3 : Option Value} {o : Nat} : mw d 5 Q 11 [x0, x1, x2, x3] (.ref o :: st) h = (mg h o 0 ∧ mw d 5 Q 14 [x0, x1, x2, x3] (.int (mh_i h o 9) :: st) h) := (mw_at mj_5_11).trans (z_geti (by decide) (by decide) (Or.inl rfl))
theorem mj_5_14 : mc_P 5 14 = some (.istore_n 3, 1, 0, 0, 0) := by decide +kernel
theorem s_5_14 {x0 x1 x2 x3 : Option Value} {w : Int32} : mw d 5 Q 14 [x0, x1, x2, x3] (.int w :: st) h = mw d 5 Q 15 [x0, x1, mk2 x2, some (.int w)] (st) h := (mw_at mj_5_14).trans (z_istore_n (Nat.le_of_ble_eq_true rfl) (me_s1_mk (j := 2) (w := x2) rfl))
theorem mj_5_15 : mc_P 5 15 = some (.aload_n 0, 1, 0, 0, 0) := by decide +kernel
theorem s_5_15 {x1 x2 x3 : Option Value} {w : Value} : mw d 5 Q 15 [some w, x1, x2, x3] (st) h = mv_a w (mw d 5 Q 16 [some w, x1, x2, x3] (w :: st) h) := (mw_at mj_5_15).trans (z_aload_n rfl)
theorem mj_5_16 : mc_P 5 16 = some (.dup, 1, 0, 0, 0) := by decide +kernel
theorem s_5_16 {x0 x1 x2 x3 : Option Value} {w : Value} : mw d 5 Q 16 [x0, x1, x2, x3] (w :: st) h = (w.category = 1 ∧ mw d 5 Q 17 [x0, x1, x2, x3] (w :: w :: st) h) := (mw_at mj_5_16).trans (z_dup)
theorem mj_5_17 : mc_P 5 17 = some (.getfield 69, 3, 0, 9, 0) := by decide +kernel
theorem s_5_17 {x0 x1 x2 x3 : Option Value} {o : Nat} : mw d 5 Q 17 [x0, x1, x2, x3] (.ref o :: st) h = (mg h o 0 ∧ mw d 5 Q 20 [x0, x1, x2, x3] (.int (mh_i h o 9) :: st) h) := (mw_at mj_5_17).trans (z_geti (by decide) (by decide) (Or.inl rfl))
theorem mj_5_20 : mc_P 5 20 = some (.iconst 1, 1, 0, 0, 0) := by decide +kernel
theorem s_5_20 {x0 x1 x2 x3 : Option Value} : mw d 5 Q 20 [x0, x1, x2, x3] (st) h = mw d 5 Q 21 [x0, x1, x2, x3] (.int 1 :: st) h := (mw_at mj_5_20).trans (z_iconst (by decide))
theorem mj_5_21 : mc_P 5 21 = some (.iadd, 1, 0, 0, 0) := by decide +kernel
theorem s_5_21 {x0 x1 x2 x3 : Option Value} {x w : Int32} : mw d 5 Q 21 [x0, x1, x2, x3] (.int w :: .int x :: st) h = mw d 5 Q 22 [x0, x1, x2, x3] (.int (x + w) :: st) h := (mw_at mj_5_21).trans (z_iadd)
theorem mj_5_22 : mc_P 5 22 = some (.putfield 69, 3, 0, 9, 0) := by decide +kernel
theorem s_5_22 {x0 x1 x2 x3 : Option Value} {o : Nat} {w : Int32} : mw d 5 Q 22 [x0, x1, x2, x3] (.int w :: .ref o :: st) h = (mg h o 0 ∧ mw d 5 Q 25 [x0, x1, x2, x3] (st) (mh_si h o 9 w)) := (mw_at mj_5_22).trans (z_puti (by decide) (by decide) rfl)
theorem mj_5_25 : mc_P 5 25 = some (.aload_n 0, 1, 0, 0, 0) := by decide +kernel
theorem s_5_25 {x1 x2 x3 : Option Value} {w : Value} : mw d 5 Q 25 [some w, x1, x2, x3] (st) h = mv_a w (mw d 5 Q 26 [some w, x1, x2, x3] (w :: st) h) := (mw_at mj_5_25).trans (z_aload_n rfl)
theorem mj_5_26 : mc_P 5 26 = some (.getfield 26, 3, 0, 8, 0) := by decide +kernel
theorem s_5_26 {x0 x1 x2 x3 : Option Value} {o : Nat} : mw d 5 Q 26 [x0, x1, x2, x3] (.ref o :: st) h = (mg h o 0 ∧ mw d 5 Q 29 [x0, x1, x2, x3] (va_rf (mh_r h o 8) :: st) h) := (mw_at mj_5_26).trans (z_getr (by decide) (by decide) rfl)
theorem mj_5_29 : mc_P 5 29 = some (.iload_n 3, 1, 0, 0, 0) := by decide +kernel
theorem s_5_29 {x0 x1 x2 : Option Value} {w : Value} : mw d 5 Q 29 [x0, x1, x2, some w] (st) h = mv_i w (mw d 5 Q 30 [x0, x1, x2, some w] (w :: st) h) := (mw_at mj_5_29).trans (z_iload_n rfl)
theorem mj_5_30 : mc_P 5 30 = some (.iload_n 1, 1, 0, 0, 0) := by decide +kernel
theorem s_5_30 {x0 x2 x3 : Option Value} {w : Value} : mw d 5 Q 30 [x0, some w, x2, x3] (st) h = mv_i w (mw d 5 Q 31 [x0, some w, x2, x3] (w :: st) h) := (mw_at mj_5_30).trans (z_iload_n rfl)
theorem mj_5_31 : mc_P 5 31 = some (.iastore, 1, 0, 0, 0) := by decide +kernel
theorem s_5_31 {x0 x1 x2 x3 : Option Value} {o : Nat} {i w : Int32} : mw d 5 Q 31 [x0, x1, x2, x3] (.int w :: .int i :: .ref o :: st) h = (mg h o 100 ∧ mx i (mh_l h o) ∧ mw d 5 Q 32 [x0, x1, x2, x3] (st) (mh_si h o i.toNatClampNeg w)) := (mw_at mj_5_31).trans (z_iast)
theorem mj_5_32 : mc_P 5 32 = some (.aload_n 0, 1, 0, 0, 0) := by decide +kernel
theorem s_5_32 {x1 x2 x3 : Option Value} {w : Value} : mw d 5 Q 32 [some w, x1, x2, x3] (st) h = mv_a w (mw d 5 Q 33 [some w, x1, x2, x3] (w :: st) h) := (mw_at mj_5_32).trans (z_aload_n rfl)
theorem mj_5_33 : mc_P 5 33 = some (.getfield 29, 3, 0, 10, 0) := by decide +kernel
theorem s_5_33 {x0 x1 x2 x3 : Option Value} {o : Nat} : mw d 5 Q 33 [x0, x1, x2, x3] (.ref o :: st) h = (mg h o 0 ∧ mw d 5 Q 36 [x0, x1, x2, x3] (va_rf (mh_r h o 10) :: st) h) := (mw_at mj_5_33).trans (z_getr (by decide) (by decide) rfl)
theorem mj_5_36 : mc_P 5 36 = some (.iload_n 3, 1, 0, 0, 0) := by decide +kernel
theorem s_5_36 {x0 x1 x2 : Option Value} {w : Value} : mw d 5 Q 36 [x0, x1, x2, some w] (st) h = mv_i w (mw d 5 Q 37 [x0, x1, x2, some w] (w :: st) h) := (mw_at mj_5_36).trans (z_iload_n rfl)
theorem mj_5_37 : mc_P 5 37 = some (.aload_n 2, 1, 0, 0, 0) := by decide +kernel
theorem s_5_37 {x0 x1 x3 : Option Value} {w : Value} : mw d 5 Q 37 [x0, x1, some w, x3] (st) h = mv_a w (mw d 5 Q 38 [x0, x1, some w, x3] (w :: st) h) := (mw_at mj_5_37).trans (z_aload_n rfl)
theorem mj_5_38 : mc_P 5 38 = some (.getfield 110, 3, 9, 0, 0) := by decide +kernel
theorem s_5_38 {x0 x1 x2 x3 : Option Value} {o : Nat} : mw d 5 Q 38 [x0, x1, x2, x3] (.ref o :: st) h = (mg h o 9 ∧ mw d 5 Q 41 [x0, x1, x2, x3] (.int (mh_i h o 0) :: st) h) := (mw_at mj_5_38).trans (z_geti (by decide) (by decide) (Or.inl rfl))
theorem mj_5_41 : mc_P 5 41 = some (.bipush 6, 2, 0, 0, 0) := by decide +kernel
theorem s_5_41 {x0 x1 x2 x3 : Option Value} : mw d 5 Q 41 [x0, x1, x2, x3] (st) h = mw d 5 Q 43 [x0, x1, x2, x3] (.int 6 :: st) h := (mw_at mj_5_41).trans (z_bipush (by decide))
theorem mj_5_43 : mc_P 5 43 = some (.if_icmp .ne 7, 3, 0, 0, 0) := by decide +kernel
theorem s_5_43 {x0 x1 x2 x3 : Option Value} {x w : Int32} : mw d 5 Q 43 [x0, x1, x2, x3] (.int w :: .int x :: st) h = mB (¬ x = w) (mw d 5 Q) 50 46 [x0, x1, x2, x3] st h := (mw_at mj_5_43).trans (z_icmp_ne (by decide) rfl)
theorem mj_5_46 : mc_P 5 46 = some (.iconst 0, 1, 0, 0, 0) := by decide +kernel
theorem s_5_46 {x0 x1 x2 x3 : Option Value} : mw d 5 Q 46 [x0, x1, x2, x3] (st) h = mw d 5 Q 47 [x0, x1, x2, x3] (.int 0 :: st) h := (mw_at mj_5_46).trans (z_iconst (by decide))
theorem mj_5_47 : mc_P 5 47 = some (.goto 4, 3, 0, 0, 0) := by decide +kernel
theorem s_5_47 {x0 x1 x2 x3 : Option Value} : mw d 5 Q 47 [x0, x1, x2, x3] (st) h = mw d 5 Q 51 [x0, x1, x2, x3] (st) h := (mw_at mj_5_47).trans (z_goto (by decide))
theorem mj_5_50 : mc_P 5 50 = some (.iconst 0, 1, 0, 0, 0) := by decide +kernel
theorem s_5_50 {x0 x1 x2 x3 : Option Value} : mw d 5 Q 50 [x0, x1, x2, x3] (st) h = mw d 5 Q 51 [x0, x1, x2, x3] (.int 0 :: st) h := (mw_at mj_5_50).trans (z_iconst (by decide))
theorem mj_5_51 : mc_P 5 51 = some (.iastore, 1, 0, 0, 0) := by decide +kernel
theorem s_5_51 {x0 x1 x2 x3 : Option Value} {o : Nat} {i w : Int32} : mw d 5 Q 51 [x0, x1, x2, x3] (.int w :: .int i :: .ref o :: st) h = (mg h o 100 ∧ mx i (mh_l h o) ∧ mw d 5 Q 52 [x0, x1, x2, x3] (st) (mh_si h o i.toNatClampNeg w)) := (mw_at mj_5_51).trans (z_iast)
theorem mj_5_52 : mc_P 5 52 = some (.aload_n 2, 1, 0, 0, 0) := by decide +kernel
theorem s_5_52 {x0 x1 x3 : Option Value} {w : Value} : mw d 5 Q 52 [x0, x1, some w, x3] (st) h = mv_a w (mw d 5 Q 53 [x0, x1, some w, x3] (w :: st) h) := (mw_at mj_5_52).trans (z_aload_n rfl)
theorem mj_5_56 : mc_P 5 56 = some (.ifCond .eq 25, 3, 0, 0, 0) := by decide +kernel
theorem s_5_56 {x0 x1 x2 x3 : Option Value} {x : Int32} : mw d 5 Q 56 [x0, x1, x2, x3] (.int x :: st) h = mB (x = 0) (mw d 5 Q) 81 59 [x0, x1, x2, x3] st h := (mw_at mj_5_56).trans (z_if_eq (by decide) rfl)
theorem mj_5_59 : mc_P 5 59 = some (.aload_n 0, 1, 0, 0, 0) := by decide +kernel
theorem s_5_59 {x1 x2 x3 : Option Value} {w : Value} : mw d 5 Q 59 [some w, x1, x2, x3] (st) h = mv_a w (mw d 5 Q 60 [some w, x1, x2, x3] (w :: st) h) := (mw_at mj_5_59).trans (z_aload_n rfl)
theorem mj_5_60 : mc_P 5 60 = some (.getfield 32, 3, 0, 11, 0) := by decide +kernel
theorem s_5_60 {x0 x1 x2 x3 : Option Value} {o : Nat} : mw d 5 Q 60 [x0, x1, x2, x3] (.ref o :: st) h = (mg h o 0 ∧ mw d 5 Q 63 [x0, x1, x2, x3] (va_rf (mh_r h o 11) :: st) h) := (mw_at mj_5_60).trans (z_getr (by decide) (by decide) rfl)
theorem mj_5_63 : mc_P 5 63 = some (.iload_n 3, 1, 0, 0, 0) := by decide +kernel
theorem s_5_63 {x0 x1 x2 : Option Value} {w : Value} : mw d 5 Q 63 [x0, x1, x2, some w] (st) h = mv_i w (mw d 5 Q 64 [x0, x1, x2, some w] (w :: st) h) := (mw_at mj_5_63).trans (z_iload_n rfl)
theorem mj_5_64 : mc_P 5 64 = some (.aaload, 1, 0, 0, 0) := by decide +kernel
theorem s_5_64 {x0 x1 x2 x3 : Option Value} {o : Nat} {i : Int32} : mw d 5 Q 64 [x0, x1, x2, x3] (.int i :: .ref o :: st) h = (mgr h o ∧ mx i (mh_l h o) ∧ mw d 5 Q 65 [x0, x1, x2, x3] (mrd (mh_k h o) h o i.toNatClampNeg :: st) h) := (mw_at mj_5_64).trans (z_aald)
theorem mj_5_65 : mc_P 5 65 = some (.ifnonnull 16, 3, 0, 0, 0) := by decide +kernel
theorem s_5_65n {x0 x1 x2 x3 : Option Value} : mw d 5 Q 65 [x0, x1, x2, x3] (.null :: st) h = mw d 5 Q 68 [x0, x1, x2, x3] (st) h := (mw_at mj_5_65).trans (z_nnullF)
theorem s_5_65 {x0 x1 x2 x3 : Option Value} {w : Nat} : mw d 5 Q 65 [x0, x1, x2, x3] (.ref w :: st) h = mw d 5 Q 81 [x0, x1, x2, x3] (st) h := (mw_at mj_5_65).trans (z_nnullT (by decide))
theorem mj_5_68 : mc_P 5 68 = some (.aload_n 0, 1, 0, 0, 0) := by decide +kernel
theorem s_5_68 {x1 x2 x3 : Option Value} {w : Value} : mw d 5 Q 68 [some w, x1, x2, x3] (st) h = mv_a w (mw d 5 Q 69 [some w, x1, x2, x3] (w :: st) h) := (mw_at mj_5_68).trans (z_aload_n rfl)
theorem mj_5_69 : mc_P 5 69 = some (.getfield 32, 3, 0, 11, 0) := by decide +kernel
theorem s_5_69 {x0 x1 x2 x3 : Option Value} {o : Nat} : mw d 5 Q 69 [x0, x1, x2, x3] (.ref o :: st) h = (mg h o 0 ∧ mw d 5 Q 72 [x0, x1, x2, x3] (va_rf (mh_r h o 11) :: st) h) := (mw_at mj_5_69).trans (z_getr (by decide) (by decide) rfl)
theorem mj_5_72 : mc_P 5 72 = some (.iload_n 3, 1, 0, 0, 0) := by decide +kernel
theorem s_5_72 {x0 x1 x2 : Option Value} {w : Value} : mw d 5 Q 72 [x0, x1, x2, some w] (st) h = mv_i w (mw d 5 Q 73 [x0, x1, x2, some w] (w :: st) h) := (mw_at mj_5_72).trans (z_iload_n rfl)
theorem mj_5_73 : mc_P 5 73 = some (.new 9, 3, 8, 0, 0) := by decide +kernel
theorem s_5_73 {x0 x1 x2 x3 : Option Value} : mw d 5 Q 73 [x0, x1, x2, x3] (st) h = mw d 5 Q 76 [x0, x1, x2, x3] (.ref (mh_n h) :: st) (mh_new h 8 6) := (mw_at mj_5_73).trans (z_new (by decide) rfl)
theorem mj_5_76 : mc_P 5 76 = some (.dup, 1, 0, 0, 0) := by decide +kernel
theorem s_5_76 {x0 x1 x2 x3 : Option Value} {w : Value} : mw d 5 Q 76 [x0, x1, x2, x3] (w :: st) h = (w.category = 1 ∧ mw d 5 Q 77 [x0, x1, x2, x3] (w :: w :: st) h) := (mw_at mj_5_76).trans (z_dup)
theorem mj_5_77 : mc_P 5 77 = some (.invokespecial 21, 3, 139, 2, 1) := by decide +kernel
theorem s_5_77 {x0 x1 x2 x3 : Option Value} {o : Nat} : mw (d + 1) 5 Q 77 [x0, x1, x2, x3] (.ref o :: st) h = (mca st 8 ∧ mca [.ref o] 1 ∧ mcall d 139 [.ref o] h (mK (d + 1) 5 Q 80 [x0, x1, x2, x3] st)) := (mw_at mj_5_77).trans ((z_invsp (As := []) (by decide) rfl rfl).trans (congrArg (And _) (mC_nl nl_139)))
theorem mj_5_80 : mc_P 5 80 = some (.aastore, 1, 0, 0, 0) := by decide +kernel
theorem s_5_80 {x0 x1 x2 x3 : Option Value} {o w : Nat} {i : Int32} : mw d 5 Q 80 [x0, x1, x2, x3] (.ref w :: .int i :: .ref o :: st) h = (mgr h o ∧ mx i (mh_l h o) ∧ mh_k h o < 107 ∧ mg h w (me_ac (mh_k h o)) ∧ mw d 5 Q 81 [x0, x1, x2, x3] (st) (mh_sr h o i.toNatClampNeg (some w))) := (mw_at mj_5_80).trans (z_aast)
theorem s_5_80n {x0 x1 x2 x3 : Option Value} {o : Nat} {i : Int32} : mw d 5 Q 80 [x0, x1, x2, x3] (.null :: .int i :: .ref o :: st) h = (mgr h o ∧ mx i (mh_l h o) ∧ mh_k h o < 107 ∧ mw d 5 Q 81 [x0, x1, x2, x3] (st) (mh_sr h o i.toNatClampNeg none)) := (mw_at mj_5_80).trans (z_aastN)
theorem s_5_80x {x0 x1 x2 x3 : Option Value} {o x : Nat} {i : Int32} : mw d 5 Q 80 [x0, x1, x2, x3] (.retAddr x :: .int i :: .ref o :: st) h = (mg h o 107 ∧ mx i (mh_l h o) ∧ me_xs x = true ∧ mw d 5 Q 81 [x0, x1, x2, x3] (st) (mh_si h o i.toNatClampNeg (Int32.ofNat x))) := (mw_at mj_5_80).trans (z_aastS)
theorem mj_5_81 : mc_P 5 81 = some (.aload_n 2, 1, 0, 0, 0) := by decide +kernel
theorem s_5_81 {x0 x1 x3 : Option Value} {w : Value} : mw d 5 Q 81 [x0, x1, some w, x3] (st) h = mv_a w (mw d 5 Q 82 [x0, x1, some w, x3] (w :: st) h) := (mw_at mj_5_81).trans (z_aload_n rfl)
theorem mj_5_82 : mc_P 5 82 = some (.getfield 110, 3, 9, 0, 0) := by decide +kernel
theorem s_5_82 {x0 x1 x2 x3 : Option Value} {o : Nat} : mw d 5 Q 82 [x0, x1, x2, x3] (.ref o :: st) h = (mg h o 9 ∧ mw d 5 Q 85 [x0, x1, x2, x3] (.int (mh_i h o 0) :: st) h) := (mw_at mj_5_82).trans (z_geti (by decide) (by decide) (Or.inl rfl))
theorem mj_5_85 : mc_P 5 85 = some (.bipush 6, 2, 0, 0, 0) := by decide +kernel
theorem s_5_85 {x0 x1 x2 x3 : Option Value} : mw d 5 Q 85 [x0, x1, x2, x3] (st) h = mw d 5 Q 87 [x0, x1, x2, x3] (.int 6 :: st) h := (mw_at mj_5_85).trans (z_bipush (by decide))
theorem mj_5_87 : mc_P 5 87 = some (.if_icmp .ne 104, 3, 0, 0, 0) := by decide +kernel
theorem s_5_87 {x0 x1 x2 x3 : Option Value} {x w : Int32} : mw d 5 Q 87 [x0, x1, x2, x3] (.int w :: .int x :: st) h = mB (¬ x = w) (mw d 5 Q) 191 90 [x0, x1, x2, x3] st h := (mw_at mj_5_87).trans (z_icmp_ne (by decide) rfl)
theorem mj_5_90 : mc_P 5 90 = some (.aload_n 0, 1, 0, 0, 0) := by decide +kernel
theorem s_5_90 {x1 x2 x3 : Option Value} {w : Value} : mw d 5 Q 90 [some w, x1, x2, x3] (st) h = mv_a w (mw d 5 Q 91 [some w, x1, x2, x3] (w :: st) h) := (mw_at mj_5_90).trans (z_aload_n rfl)
theorem mj_5_91 : mc_P 5 91 = some (.getfield 35, 3, 0, 12, 0) := by decide +kernel
theorem s_5_91 {x0 x1 x2 x3 : Option Value} {o : Nat} : mw d 5 Q 91 [x0, x1, x2, x3] (.ref o :: st) h = (mg h o 0 ∧ mw d 5 Q 94 [x0, x1, x2, x3] (va_rf (mh_r h o 12) :: st) h) := (mw_at mj_5_91).trans (z_getr (by decide) (by decide) rfl)
theorem mj_5_94 : mc_P 5 94 = some (.iload_n 3, 1, 0, 0, 0) := by decide +kernel
theorem s_5_94 {x0 x1 x2 : Option Value} {w : Value} : mw d 5 Q 94 [x0, x1, x2, some w] (st) h = mv_i w (mw d 5 Q 95 [x0, x1, x2, some w] (w :: st) h) := (mw_at mj_5_94).trans (z_iload_n rfl)
theorem mj_5_95 : mc_P 5 95 = some (.aaload, 1, 0, 0, 0) := by decide +kernel
theorem s_5_95 {x0 x1 x2 x3 : Option Value} {o : Nat} {i : Int32} : mw d 5 Q 95 [x0, x1, x2, x3] (.int i :: .ref o :: st) h = (mgr h o ∧ mx i (mh_l h o) ∧ mw d 5 Q 96 [x0, x1, x2, x3] (mrd (mh_k h o) h o i.toNatClampNeg :: st) h) := (mw_at mj_5_95).trans (z_aald)
theorem mj_5_96 : mc_P 5 96 = some (.ifnonnull 42, 3, 0, 0, 0) := by decide +kernel
theorem s_5_96n {x0 x1 x2 x3 : Option Value} : mw d 5 Q 96 [x0, x1, x2, x3] (.null :: st) h = mw d 5 Q 99 [x0, x1, x2, x3] (st) h := (mw_at mj_5_96).trans (z_nnullF)
theorem s_5_96 {x0 x1 x2 x3 : Option Value} {w : Nat} : mw d 5 Q 96 [x0, x1, x2, x3] (.ref w :: st) h = mw d 5 Q 138 [x0, x1, x2, x3] (st) h := (mw_at mj_5_96).trans (z_nnullT (by decide))
theorem mj_5_99 : mc_P 5 99 = some (.aload_n 0, 1, 0, 0, 0) := by decide +kernel
theorem s_5_99 {x1 x2 x3 : Option Value} {w : Value} : mw d 5 Q 99 [some w, x1, x2, x3] (st) h = mv_a w (mw d 5 Q 100 [some w, x1, x2, x3] (w :: st) h) := (mw_at mj_5_99).trans (z_aload_n rfl)
theorem mj_5_100 : mc_P 5 100 = some (.getfield 35, 3, 0, 12, 0) := by decide +kernel
theorem s_5_100 {x0 x1 x2 x3 : Option Value} {o : Nat} : mw d 5 Q 100 [x0, x1, x2, x3] (.ref o :: st) h = (mg h o 0 ∧ mw d 5 Q 103 [x0, x1, x2, x3] (va_rf (mh_r h o 12) :: st) h) := (mw_at mj_5_100).trans (z_getr (by decide) (by decide) rfl)
theorem mj_5_103 : mc_P 5 103 = some (.iload_n 3, 1, 0, 0, 0) := by decide +kernel
theorem s_5_103 {x0 x1 x2 : Option Value} {w : Value} : mw d 5 Q 103 [x0, x1, x2, some w] (st) h = mv_i w (mw d 5 Q 104 [x0, x1, x2, some w] (w :: st) h) := (mw_at mj_5_103).trans (z_iload_n rfl)
theorem mj_5_104 : mc_P 5 104 = some (.new 9, 3, 8, 0, 0) := by decide +kernel
theorem s_5_104 {x0 x1 x2 x3 : Option Value} : mw d 5 Q 104 [x0, x1, x2, x3] (st) h = mw d 5 Q 107 [x0, x1, x2, x3] (.ref (mh_n h) :: st) (mh_new h 8 6) := (mw_at mj_5_104).trans (z_new (by decide) rfl)
theorem mj_5_107 : mc_P 5 107 = some (.dup, 1, 0, 0, 0) := by decide +kernel
theorem s_5_107 {x0 x1 x2 x3 : Option Value} {w : Value} : mw d 5 Q 107 [x0, x1, x2, x3] (w :: st) h = (w.category = 1 ∧ mw d 5 Q 108 [x0, x1, x2, x3] (w :: w :: st) h) := (mw_at mj_5_107).trans (z_dup)
theorem mj_5_108 : mc_P 5 108 = some (.invokespecial 21, 3, 139, 2, 1) := by decide +kernel
theorem s_5_108 {x0 x1 x2 x3 : Option Value} {o : Nat} : mw (d + 1) 5 Q 108 [x0, x1, x2, x3] (.ref o :: st) h = (mca st 8 ∧ mca [.ref o] 1 ∧ mcall d 139 [.ref o] h (mK (d + 1) 5 Q 111 [x0, x1, x2, x3] st)) := (mw_at mj_5_108).trans ((z_invsp (As := []) (by decide) rfl rfl).trans (congrArg (And _) (mC_nl nl_139)))
theorem mj_5_111 : mc_P 5 111 = some (.aastore, 1, 0, 0, 0) := by decide +kernel
theorem s_5_111 {x0 x1 x2 x3 : Option Value} {o w : Nat} {i : Int32} : mw d 5 Q 111 [x0, x1, x2, x3] (.ref w :: .int i :: .ref o :: st) h = (mgr h o ∧ mx i (mh_l h o) ∧ mh_k h o < 107 ∧ mg h w (me_ac (mh_k h o)) ∧ mw d 5 Q 112 [x0, x1, x2, x3] (st) (mh_sr h o i.toNatClampNeg (some w))) := (mw_at mj_5_111).trans (z_aast)
theorem s_5_111n {x0 x1 x2 x3 : Option Value} {o : Nat} {i : Int32} : mw d 5 Q 111 [x0, x1, x2, x3] (.null :: .int i :: .ref o :: st) h = (mgr h o ∧ mx i (mh_l h o) ∧ mh_k h o < 107 ∧ mw d 5 Q 112 [x0, x1, x2, x3] (st) (mh_sr h o i.toNatClampNeg none)) := (mw_at mj_5_111).trans (z_aastN)
theorem s_5_111x {x0 x1 x2 x3 : Option Value} {o x : Nat} {i : Int32} : mw d 5 Q 111 [x0, x1, x2, x3] (.retAddr x :: .int i :: .ref o :: st) h = (mg h o 107 ∧ mx i (mh_l h o) ∧ me_xs x = true ∧ mw d 5 Q 112 [x0, x1, x2, x3] (st) (mh_si h o i.toNatClampNeg (Int32.ofNat x))) := (mw_at mj_5_111).trans (z_aastS)
theorem mj_5_112 : mc_P 5 112 = some (.aload_n 0, 1, 0, 0, 0) := by decide +kernel
theorem s_5_112 {x1 x2 x3 : Option Value} {w : Value} : mw d 5 Q 112 [some w, x1, x2, x3] (st) h = mv_a w (mw d 5 Q 113 [some w, x1, x2, x3] (w :: st) h) := (mw_at mj_5_112).trans (z_aload_n rfl)
theorem mj_5_113 : mc_P 5 113 = some (.getfield 38, 3, 0, 13, 0) := by decide +kernel
theorem s_5_113 {x0 x1 x2 x3 : Option Value} {o : Nat} : mw d 5 Q 113 [x0, x1, x2, x3] (.ref o :: st) h = (mg h o 0 ∧ mw d 5 Q 116 [x0, x1, x2, x3] (va_rf (mh_r h o 13) :: st) h) := (mw_at mj_5_113).trans (z_getr (by decide) (by decide) rfl)
theorem mj_5_116 : mc_P 5 116 = some (.iload_n 3, 1, 0, 0, 0) := by decide +kernel
theorem s_5_116 {x0 x1 x2 : Option Value} {w : Value} : mw d 5 Q 116 [x0, x1, x2, some w] (st) h = mv_i w (mw d 5 Q 117 [x0, x1, x2, some w] (w :: st) h) := (mw_at mj_5_116).trans (z_iload_n rfl)
theorem mj_5_117 : mc_P 5 117 = some (.new 9, 3, 8, 0, 0) := by decide +kernel
theorem s_5_117 {x0 x1 x2 x3 : Option Value} : mw d 5 Q 117 [x0, x1, x2, x3] (st) h = mw d 5 Q 120 [x0, x1, x2, x3] (.ref (mh_n h) :: st) (mh_new h 8 6) := (mw_at mj_5_117).trans (z_new (by decide) rfl)
theorem mj_5_120 : mc_P 5 120 = some (.dup, 1, 0, 0, 0) := by decide +kernel
theorem s_5_120 {x0 x1 x2 x3 : Option Value} {w : Value} : mw d 5 Q 120 [x0, x1, x2, x3] (w :: st) h = (w.category = 1 ∧ mw d 5 Q 121 [x0, x1, x2, x3] (w :: w :: st) h) := (mw_at mj_5_120).trans (z_dup)
theorem mj_5_121 : mc_P 5 121 = some (.invokespecial 21, 3, 139, 2, 1) := by decide +kernel
theorem s_5_121 {x0 x1 x2 x3 : Option Value} {o : Nat} : mw (d + 1) 5 Q 121 [x0, x1, x2, x3] (.ref o :: st) h = (mca st 8 ∧ mca [.ref o] 1 ∧ mcall d 139 [.ref o] h (mK (d + 1) 5 Q 124 [x0, x1, x2, x3] st)) := (mw_at mj_5_121).trans ((z_invsp (As := []) (by decide) rfl rfl).trans (congrArg (And _) (mC_nl nl_139)))
theorem mj_5_124 : mc_P 5 124 = some (.aastore, 1, 0, 0, 0) := by decide +kernel
theorem s_5_124 {x0 x1 x2 x3 : Option Value} {o w : Nat} {i : Int32} : mw d 5 Q 124 [x0, x1, x2, x3] (.ref w :: .int i :: .ref o :: st) h = (mgr h o ∧ mx i (mh_l h o) ∧ mh_k h o < 107 ∧ mg h w (me_ac (mh_k h o)) ∧ mw d 5 Q 125 [x0, x1, x2, x3] (st) (mh_sr h o i.toNatClampNeg (some w))) := (mw_at mj_5_124).trans (z_aast)
theorem s_5_124n {x0 x1 x2 x3 : Option Value} {o : Nat} {i : Int32} : mw d 5 Q 124 [x0, x1, x2, x3] (.null :: .int i :: .ref o :: st) h = (mgr h o ∧ mx i (mh_l h o) ∧ mh_k h o < 107 ∧ mw d 5 Q 125 [x0, x1, x2, x3] (st) (mh_sr h o i.toNatClampNeg none)) := (mw_at mj_5_124).trans (z_aastN)
theorem s_5_124x {x0 x1 x2 x3 : Option Value} {o x : Nat} {i : Int32} : mw d 5 Q 124 [x0, x1, x2, x3] (.retAddr x :: .int i :: .ref o :: st) h = (mg h o 107 ∧ mx i (mh_l h o) ∧ me_xs x = true ∧ mw d 5 Q 125 [x0, x1, x2, x3] (st) (mh_si h o i.toNatClampNeg (Int32.ofNat x))) := (mw_at mj_5_124).trans (z_aastS)
theorem mj_5_125 : mc_P 5 125 = some (.aload_n 0, 1, 0, 0, 0) := by decide +kernel
theorem s_5_125 {x1 x2 x3 : Option Value} {w : Value} : mw d 5 Q 125 [some w, x1, x2, x3] (st) h = mv_a w (mw d 5 Q 126 [some w, x1, x2, x3] (w :: st) h) := (mw_at mj_5_125).trans (z_aload_n rfl)
theorem mj_5_126 : mc_P 5 126 = some (.getfield 41, 3, 0, 14, 0) := by decide +kernel
theorem s_5_126 {x0 x1 x2 x3 : Option Value} {o : Nat} : mw d 5 Q 126 [x0, x1, x2, x3] (.ref o :: st) h = (mg h o 0 ∧ mw d 5 Q 129 [x0, x1, x2, x3] (va_rf (mh_r h o 14) :: st) h) := (mw_at mj_5_126).trans (z_getr (by decide) (by decide) rfl)
theorem mj_5_129 : mc_P 5 129 = some (.iload_n 3, 1, 0, 0, 0) := by decide +kernel
theorem s_5_129 {x0 x1 x2 : Option Value} {w : Value} : mw d 5 Q 129 [x0, x1, x2, some w] (st) h = mv_i w (mw d 5 Q 130 [x0, x1, x2, some w] (w :: st) h) := (mw_at mj_5_129).trans (z_iload_n rfl)
theorem mj_5_130 : mc_P 5 130 = some (.new 9, 3, 8, 0, 0) := by decide +kernel
theorem s_5_130 {x0 x1 x2 x3 : Option Value} : mw d 5 Q 130 [x0, x1, x2, x3] (st) h = mw d 5 Q 133 [x0, x1, x2, x3] (.ref (mh_n h) :: st) (mh_new h 8 6) := (mw_at mj_5_130).trans (z_new (by decide) rfl)
theorem mj_5_133 : mc_P 5 133 = some (.dup, 1, 0, 0, 0) := by decide +kernel
theorem s_5_133 {x0 x1 x2 x3 : Option Value} {w : Value} : mw d 5 Q 133 [x0, x1, x2, x3] (w :: st) h = (w.category = 1 ∧ mw d 5 Q 134 [x0, x1, x2, x3] (w :: w :: st) h) := (mw_at mj_5_133).trans (z_dup)
theorem mj_5_134 : mc_P 5 134 = some (.invokespecial 21, 3, 139, 2, 1) := by decide +kernel
theorem s_5_134 {x0 x1 x2 x3 : Option Value} {o : Nat} : mw (d + 1) 5 Q 134 [x0, x1, x2, x3] (.ref o :: st) h = (mca st 8 ∧ mca [.ref o] 1 ∧ mcall d 139 [.ref o] h (mK (d + 1) 5 Q 137 [x0, x1, x2, x3] st)) := (mw_at mj_5_134).trans ((z_invsp (As := []) (by decide) rfl rfl).trans (congrArg (And _) (mC_nl nl_139)))
theorem mj_5_137 : mc_P 5 137 = some (.aastore, 1, 0, 0, 0) := by decide +kernel
theorem s_5_137 {x0 x1 x2 x3 : Option Value} {o w : Nat} {i : Int32} : mw d 5 Q 137 [x0, x1, x2, x3] (.ref w :: .int i :: .ref o :: st) h = (mgr h o ∧ mx i (mh_l h o) ∧ mh_k h o < 107 ∧ mg h w (me_ac (mh_k h o)) ∧ mw d 5 Q 138 [x0, x1, x2, x3] (st) (mh_sr h o i.toNatClampNeg (some w))) := (mw_at mj_5_137).trans (z_aast)
theorem s_5_137n {x0 x1 x2 x3 : Option Value} {o : Nat} {i : Int32} : mw d 5 Q 137 [x0, x1, x2, x3] (.null :: .int i :: .ref o :: st) h = (mgr h o ∧ mx i (mh_l h o) ∧ mh_k h o < 107 ∧ mw d 5 Q 138 [x0, x1, x2, x3] (st) (mh_sr h o i.toNatClampNeg none)) := (mw_at mj_5_137).trans (z_aastN)
theorem s_5_137x {x0 x1 x2 x3 : Option Value} {o x : Nat} {i : Int32} : mw d 5 Q 137 [x0, x1, x2, x3] (.retAddr x :: .int i :: .ref o :: st) h = (mg h o 107 ∧ mx i (mh_l h o) ∧ me_xs x = true ∧ mw d 5 Q 138 [x0, x1, x2, x3] (st) (mh_si h o i.toNatClampNeg (Int32.ofNat x))) := (mw_at mj_5_137).trans (z_aastS)
theorem mj_5_138 : mc_P 5 138 = some (.aload_n 0, 1, 0, 0, 0) := by decide +kernel
theorem s_5_138 {x1 x2 x3 : Option Value} {w : Value} : mw d 5 Q 138 [some w, x1, x2, x3] (st) h = mv_a w (mw d 5 Q 139 [some w, x1, x2, x3] (w :: st) h) := (mw_at mj_5_138).trans (z_aload_n rfl)
theorem mj_5_139 : mc_P 5 139 = some (.getfield 35, 3, 0, 12, 0) := by decide +kernel
theorem s_5_139 {x0 x1 x2 x3 : Option Value} {o : Nat} : mw d 5 Q 139 [x0, x1, x2, x3] (.ref o :: st) h = (mg h o 0 ∧ mw d 5 Q 142 [x0, x1, x2, x3] (va_rf (mh_r h o 12) :: st) h) := (mw_at mj_5_139).trans (z_getr (by decide) (by decide) rfl)
theorem mj_5_142 : mc_P 5 142 = some (.iload_n 3, 1, 0, 0, 0) := by decide +kernel
theorem s_5_142 {x0 x1 x2 : Option Value} {w : Value} : mw d 5 Q 142 [x0, x1, x2, some w] (st) h = mv_i w (mw d 5 Q 143 [x0, x1, x2, some w] (w :: st) h) := (mw_at mj_5_142).trans (z_iload_n rfl)
theorem mj_5_143 : mc_P 5 143 = some (.aaload, 1, 0, 0, 0) := by decide +kernel
theorem s_5_143 {x0 x1 x2 x3 : Option Value} {o : Nat} {i : Int32} : mw d 5 Q 143 [x0, x1, x2, x3] (.int i :: .ref o :: st) h = (mgr h o ∧ mx i (mh_l h o) ∧ mw d 5 Q 144 [x0, x1, x2, x3] (mrd (mh_k h o) h o i.toNatClampNeg :: st) h) := (mw_at mj_5_143).trans (z_aald)
theorem mj_5_144 : mc_P 5 144 = some (.aload_n 0, 1, 0, 0, 0) := by decide +kernel
theorem s_5_144 {x1 x2 x3 : Option Value} {w : Value} : mw d 5 Q 144 [some w, x1, x2, x3] (st) h = mv_a w (mw d 5 Q 145 [some w, x1, x2, x3] (w :: st) h) := (mw_at mj_5_144).trans (z_aload_n rfl)
theorem mj_5_145 : mc_P 5 145 = some (.getfield 22, 3, 0, 6, 0) := by decide +kernel
theorem s_5_145 {x0 x1 x2 x3 : Option Value} {o : Nat} : mw d 5 Q 145 [x0, x1, x2, x3] (.ref o :: st) h = (mg h o 0 ∧ mw d 5 Q 148 [x0, x1, x2, x3] (va_rf (mh_r h o 6) :: st) h) := (mw_at mj_5_145).trans (z_getr (by decide) (by decide) rfl)
theorem mj_5_148 : mc_P 5 148 = some (.invokevirtual 102, 3, 144, 8, 2) := by decide +kernel
theorem s_5_148 {x0 x1 x2 x3 : Option Value} {o : Nat} {a1 : Value} : mw (d + 1) 5 Q 148 [x0, x1, x2, x3] (a1 :: .ref o :: st) h = (mg h o 8 ∧ mca st 8 ∧ mca [.ref o, a1] 2 ∧ mcall d 144 [.ref o, a1] h (mK (d + 1) 5 Q 151 [x0, x1, x2, x3] st)) := (mw_at mj_5_148).trans ((z_invv (As := [a1]) (by decide) rfl rfl).trans (congrArg (And _) (congrArg (And _) (mC_nl nl_144))))
theorem mj_5_151 : mc_P 5 151 = some (.aload_n 0, 1, 0, 0, 0) := by decide +kernel
theorem s_5_151 {x1 x2 x3 : Option Value} {w : Value} : mw d 5 Q 151 [some w, x1, x2, x3] (st) h = mv_a w (mw d 5 Q 152 [some w, x1, x2, x3] (w :: st) h) := (mw_at mj_5_151).trans (z_aload_n rfl)
theorem mj_5_152 : mc_P 5 152 = some (.getfield 38, 3, 0, 13, 0) := by decide +kernel
theorem s_5_152 {x0 x1 x2 x3 : Option Value} {o : Nat} : mw d 5 Q 152 [x0, x1, x2, x3] (.ref o :: st) h = (mg h o 0 ∧ mw d 5 Q 155 [x0, x1, x2, x3] (va_rf (mh_r h o 13) :: st) h) := (mw_at mj_5_152).trans (z_getr (by decide) (by decide) rfl)
theorem mj_5_155 : mc_P 5 155 = some (.iload_n 3, 1, 0, 0, 0) := by decide +kernel
theorem s_5_155 {x0 x1 x2 : Option Value} {w : Value} : mw d 5 Q 155 [x0, x1, x2, some w] (st) h = mv_i w (mw d 5 Q 156 [x0, x1, x2, some w] (w :: st) h) := (mw_at mj_5_155).trans (z_iload_n rfl)
theorem mj_5_156 : mc_P 5 156 = some (.aaload, 1, 0, 0, 0) := by decide +kernel
theorem s_5_156 {x0 x1 x2 x3 : Option Value} {o : Nat} {i : Int32} : mw d 5 Q 156 [x0, x1, x2, x3] (.int i :: .ref o :: st) h = (mgr h o ∧ mx i (mh_l h o) ∧ mw d 5 Q 157 [x0, x1, x2, x3] (mrd (mh_k h o) h o i.toNatClampNeg :: st) h) := (mw_at mj_5_156).trans (z_aald)
theorem mj_5_157 : mc_P 5 157 = some (.aload_n 0, 1, 0, 0, 0) := by decide +kernel
theorem s_5_157 {x1 x2 x3 : Option Value} {w : Value} : mw d 5 Q 157 [some w, x1, x2, x3] (st) h = mv_a w (mw d 5 Q 158 [some w, x1, x2, x3] (w :: st) h) := (mw_at mj_5_157).trans (z_aload_n rfl)
theorem mj_5_158 : mc_P 5 158 = some (.getfield 22, 3, 0, 6, 0) := by decide +kernel
theorem s_5_158 {x0 x1 x2 x3 : Option Value} {o : Nat} : mw d 5 Q 158 [x0, x1, x2, x3] (.ref o :: st) h = (mg h o 0 ∧ mw d 5 Q 161 [x0, x1, x2, x3] (va_rf (mh_r h o 6) :: st) h) := (mw_at mj_5_158).trans (z_getr (by decide) (by decide) rfl)
theorem mj_5_161 : mc_P 5 161 = some (.invokevirtual 102, 3, 144, 8, 2) := by decide +kernel
theorem s_5_161 {x0 x1 x2 x3 : Option Value} {o : Nat} {a1 : Value} : mw (d + 1) 5 Q 161 [x0, x1, x2, x3] (a1 :: .ref o :: st) h = (mg h o 8 ∧ mca st 8 ∧ mca [.ref o, a1] 2 ∧ mcall d 144 [.ref o, a1] h (mK (d + 1) 5 Q 164 [x0, x1, x2, x3] st)) := (mw_at mj_5_161).trans ((z_invv (As := [a1]) (by decide) rfl rfl).trans (congrArg (And _) (congrArg (And _) (mC_nl nl_144))))
theorem mj_5_164 : mc_P 5 164 = some (.aload_n 0, 1, 0, 0, 0) := by decide +kernel
theorem s_5_164 {x1 x2 x3 : Option Value} {w : Value} : mw d 5 Q 164 [some w, x1, x2, x3] (st) h = mv_a w (mw d 5 Q 165 [some w, x1, x2, x3] (w :: st) h) := (mw_at mj_5_164).trans (z_aload_n rfl)
theorem mj_5_165 : mc_P 5 165 = some (.getfield 41, 3, 0, 14, 0) := by decide +kernel
theorem s_5_165 {x0 x1 x2 x3 : Option Value} {o : Nat} : mw d 5 Q 165 [x0, x1, x2, x3] (.ref o :: st) h = (mg h o 0 ∧ mw d 5 Q 168 [x0, x1, x2, x3] (va_rf (mh_r h o 14) :: st) h) := (mw_at mj_5_165).trans (z_getr (by decide) (by decide) rfl)
theorem mj_5_168 : mc_P 5 168 = some (.iload_n 3, 1, 0, 0, 0) := by decide +kernel
theorem s_5_168 {x0 x1 x2 : Option Value} {w : Value} : mw d 5 Q 168 [x0, x1, x2, some w] (st) h = mv_i w (mw d 5 Q 169 [x0, x1, x2, some w] (w :: st) h) := (mw_at mj_5_168).trans (z_iload_n rfl)
theorem mj_5_169 : mc_P 5 169 = some (.aaload, 1, 0, 0, 0) := by decide +kernel
theorem s_5_169 {x0 x1 x2 x3 : Option Value} {o : Nat} {i : Int32} : mw d 5 Q 169 [x0, x1, x2, x3] (.int i :: .ref o :: st) h = (mgr h o ∧ mx i (mh_l h o) ∧ mw d 5 Q 170 [x0, x1, x2, x3] (mrd (mh_k h o) h o i.toNatClampNeg :: st) h) := (mw_at mj_5_169).trans (z_aald)
theorem mj_5_170 : mc_P 5 170 = some (.aload_n 0, 1, 0, 0, 0) := by decide +kernel
theorem s_5_170 {x1 x2 x3 : Option Value} {w : Value} : mw d 5 Q 170 [some w, x1, x2, x3] (st) h = mv_a w (mw d 5 Q 171 [some w, x1, x2, x3] (w :: st) h) := (mw_at mj_5_170).trans (z_aload_n rfl)
theorem mj_5_171 : mc_P 5 171 = some (.getfield 22, 3, 0, 6, 0) := by decide +kernel
theorem s_5_171 {x0 x1 x2 x3 : Option Value} {o : Nat} : mw d 5 Q 171 [x0, x1, x2, x3] (.ref o :: st) h = (mg h o 0 ∧ mw d 5 Q 174 [x0, x1, x2, x3] (va_rf (mh_r h o 6) :: st) h) := (mw_at mj_5_171).trans (z_getr (by decide) (by decide) rfl)
theorem mj_5_174 : mc_P 5 174 = some (.invokevirtual 102, 3, 144, 8, 2) := by decide +kernel
theorem s_5_174 {x0 x1 x2 x3 : Option Value} {o : Nat} {a1 : Value} : mw (d + 1) 5 Q 174 [x0, x1, x2, x3] (a1 :: .ref o :: st) h = (mg h o 8 ∧ mca st 8 ∧ mca [.ref o, a1] 2 ∧ mcall d 144 [.ref o, a1] h (mK (d + 1) 5 Q 177 [x0, x1, x2, x3] st)) := (mw_at mj_5_174).trans ((z_invv (As := [a1]) (by decide) rfl rfl).trans (congrArg (And _) (congrArg (And _) (mC_nl nl_144))))
theorem mj_5_177 : mc_P 5 177 = some (.aload_n 0, 1, 0, 0, 0) := by decide +kernel
theorem s_5_177 {x1 x2 x3 : Option Value} {w : Value} : mw d 5 Q 177 [some w, x1, x2, x3] (st) h = mv_a w (mw d 5 Q 178 [some w, x1, x2, x3] (w :: st) h) := (mw_at mj_5_177).trans (z_aload_n rfl)
theorem mj_5_178 : mc_P 5 178 = some (.getfield 44, 3, 0, 15, 0) := by decide +kernel
theorem s_5_178 {x0 x1 x2 x3 : Option Value} {o : Nat} : mw d 5 Q 178 [x0, x1, x2, x3] (.ref o :: st) h = (mg h o 0 ∧ mw d 5 Q 181 [x0, x1, x2, x3] (va_rf (mh_r h o 15) :: st) h) := (mw_at mj_5_178).trans (z_getr (by decide) (by decide) rfl)
theorem mj_5_181 : mc_P 5 181 = some (.iload_n 3, 1, 0, 0, 0) := by decide +kernel
theorem s_5_181 {x0 x1 x2 : Option Value} {w : Value} : mw d 5 Q 181 [x0, x1, x2, some w] (st) h = mv_i w (mw d 5 Q 182 [x0, x1, x2, some w] (w :: st) h) := (mw_at mj_5_181).trans (z_iload_n rfl)
theorem mj_5_182 : mc_P 5 182 = some (.iconst 0, 1, 0, 0, 0) := by decide +kernel
theorem s_5_182 {x0 x1 x2 x3 : Option Value} : mw d 5 Q 182 [x0, x1, x2, x3] (st) h = mw d 5 Q 183 [x0, x1, x2, x3] (.int 0 :: st) h := (mw_at mj_5_182).trans (z_iconst (by decide))
theorem mj_5_183 : mc_P 5 183 = some (.iastore, 1, 0, 0, 0) := by decide +kernel
theorem s_5_183 {x0 x1 x2 x3 : Option Value} {o : Nat} {i w : Int32} : mw d 5 Q 183 [x0, x1, x2, x3] (.int w :: .int i :: .ref o :: st) h = (mg h o 100 ∧ mx i (mh_l h o) ∧ mw d 5 Q 184 [x0, x1, x2, x3] (st) (mh_si h o i.toNatClampNeg w)) := (mw_at mj_5_183).trans (z_iast)
theorem mj_5_184 : mc_P 5 184 = some (.aload_n 0, 1, 0, 0, 0) := by decide +kernel
theorem s_5_184 {x1 x2 x3 : Option Value} {w : Value} : mw d 5 Q 184 [some w, x1, x2, x3] (st) h = mv_a w (mw d 5 Q 185 [some w, x1, x2, x3] (w :: st) h) := (mw_at mj_5_184).trans (z_aload_n rfl)
theorem mj_5_185 : mc_P 5 185 = some (.getfield 47, 3, 0, 16, 0) := by decide +kernel
theorem s_5_185 {x0 x1 x2 x3 : Option Value} {o : Nat} : mw d 5 Q 185 [x0, x1, x2, x3] (.ref o :: st) h = (mg h o 0 ∧ mw d 5 Q 188 [x0, x1, x2, x3] (va_rf (mh_r h o 16) :: st) h) := (mw_at mj_5_185).trans (z_getr (by decide) (by decide) rfl)
theorem mj_5_188 : mc_P 5 188 = some (.iload_n 3, 1, 0, 0, 0) := by decide +kernel
theorem s_5_188 {x0 x1 x2 : Option Value} {w : Value} : mw d 5 Q 188 [x0, x1, x2, some w] (st) h = mv_i w (mw d 5 Q 189 [x0, x1, x2, some w] (w :: st) h) := (mw_at mj_5_188).trans (z_iload_n rfl)
theorem mj_5_189 : mc_P 5 189 = some (.iconst 0, 1, 0, 0, 0) := by decide +kernel
theorem s_5_189 {x0 x1 x2 x3 : Option Value} : mw d 5 Q 189 [x0, x1, x2, x3] (st) h = mw d 5 Q 190 [x0, x1, x2, x3] (.int 0 :: st) h := (mw_at mj_5_189).trans (z_iconst (by decide))
theorem mj_5_190 : mc_P 5 190 = some (.iastore, 1, 0, 0, 0) := by decide +kernel
theorem s_5_190 {x0 x1 x2 x3 : Option Value} {o : Nat} {i w : Int32} : mw d 5 Q 190 [x0, x1, x2, x3] (.int w :: .int i :: .ref o :: st) h = (mg h o 100 ∧ mx i (mh_l h o) ∧ mw d 5 Q 191 [x0, x1, x2, x3] (st) (mh_si h o i.toNatClampNeg w)) := (mw_at mj_5_190).trans (z_iast)
theorem mj_5_191 : mc_P 5 191 = some (.return_, 1, 0, 0, 0) := by decide +kernel
theorem s_5_191 {x0 x1 x2 x3 : Option Value} : mw d 5 Q 191 [x0, x1, x2, x3] ([]) h = Q none h := (mw_at mj_5_191).trans (z_vret)
theorem e_5 {a0 : Nat} {a1 : Int32} : mcall d 5 [.ref a0, .int a1] h Q = mw d 5 Q 0 [some (.ref a0), some (.int a1), none, none] [] h := by
  show mw d 5 Q 0 (me_en (mc_nl 5) _) [] h = _
  rw [nl_5]; rfl

/-! InvariantDesk$Analysis.shut()V -/
theorem mj_6_0 : mc_P 6 0 = some (.aload_n 0, 1, 0, 0, 0) := by decide +kernel
theorem s_6_0 {x1 x2 x3 : Option Value} {w : Value} : mw d 6 Q 0 [some w, x1, x2, x3] (st) h = mv_a w (mw d 6 Q 1 [some w, x1, x2, x3] (w :: st) h) := (mw_at mj_6_0).trans (z_aload_n rfl)
theorem mj_6_1 : mc_P 6 1 = some (.getfield 69, 3, 0, 9, 0) := by decide +kernel
theorem s_6_1 {x0 x1 x2 x3 : Option Value} {o : Nat} : mw d 6 Q 1 [x0, x1, x2, x3] (.ref o :: st) h = (mg h o 0 ∧ mw d 6 Q 4 [x0, x1, x2, x3] (.int (mh_i h o 9) :: st) h) := (mw_at mj_6_1).trans (z_geti (by decide) (by decide) (Or.inl rfl))
theorem mj_6_4 : mc_P 6 4 = some (.iconst 1, 1, 0, 0, 0) := by decide +kernel
theorem s_6_4 {x0 x1 x2 x3 : Option Value} : mw d 6 Q 4 [x0, x1, x2, x3] (st) h = mw d 6 Q 5 [x0, x1, x2, x3] (.int 1 :: st) h := (mw_at mj_6_4).trans (z_iconst (by decide))
theorem mj_6_5 : mc_P 6 5 = some (.isub, 1, 0, 0, 0) := by decide +kernel
theorem s_6_5 {x0 x1 x2 x3 : Option Value} {x w : Int32} : mw d 6 Q 5 [x0, x1, x2, x3] (.int w :: .int x :: st) h = mw d 6 Q 6 [x0, x1, x2, x3] (.int (x - w) :: st) h := (mw_at mj_6_5).trans (z_isub)
theorem mj_6_6 : mc_P 6 6 = some (.istore_n 1, 1, 0, 0, 0) := by decide +kernel
theorem s_6_6 {x0 x1 x2 x3 : Option Value} {w : Int32} : mw d 6 Q 6 [x0, x1, x2, x3] (.int w :: st) h = mw d 6 Q 7 [mk2 x0, some (.int w), x2, x3] (st) h := (mw_at mj_6_6).trans (z_istore_n (Nat.le_of_ble_eq_true rfl) (me_s1_mk (j := 0) (w := x0) rfl))
theorem mj_6_7 : mc_P 6 7 = some (.aload_n 0, 1, 0, 0, 0) := by decide +kernel
theorem s_6_7 {x1 x2 x3 : Option Value} {w : Value} : mw d 6 Q 7 [some w, x1, x2, x3] (st) h = mv_a w (mw d 6 Q 8 [some w, x1, x2, x3] (w :: st) h) := (mw_at mj_6_7).trans (z_aload_n rfl)
theorem mj_6_8 : mc_P 6 8 = some (.getfield 26, 3, 0, 8, 0) := by decide +kernel
theorem s_6_8 {x0 x1 x2 x3 : Option Value} {o : Nat} : mw d 6 Q 8 [x0, x1, x2, x3] (.ref o :: st) h = (mg h o 0 ∧ mw d 6 Q 11 [x0, x1, x2, x3] (va_rf (mh_r h o 8) :: st) h) := (mw_at mj_6_8).trans (z_getr (by decide) (by decide) rfl)
theorem mj_6_11 : mc_P 6 11 = some (.iload_n 1, 1, 0, 0, 0) := by decide +kernel
theorem s_6_11 {x0 x2 x3 : Option Value} {w : Value} : mw d 6 Q 11 [x0, some w, x2, x3] (st) h = mv_i w (mw d 6 Q 12 [x0, some w, x2, x3] (w :: st) h) := (mw_at mj_6_11).trans (z_iload_n rfl)
theorem mj_6_12 : mc_P 6 12 = some (.iaload, 1, 0, 0, 0) := by decide +kernel
theorem s_6_12 {x0 x1 x2 x3 : Option Value} {o : Nat} {i : Int32} : mw d 6 Q 12 [x0, x1, x2, x3] (.int i :: .ref o :: st) h = (mg h o 100 ∧ mx i (mh_l h o) ∧ mw d 6 Q 13 [x0, x1, x2, x3] (.int (mh_i h o i.toNatClampNeg) :: st) h) := (mw_at mj_6_12).trans (z_iald)
theorem s_6_12x {x0 x1 x2 x3 : Option Value} {i : Int32} : mw d 6 Q 12 [x0, x1, x2, x3] (.int i :: .retAddr 2 :: st) h = (mx i 24 ∧ mw d 6 Q 13 [x0, x1, x2, x3] (.int (mx_row.getD i.toNatClampNeg 0) :: st) h) := (mw_at mj_6_12).trans (z_iaX)
theorem mj_6_13 : mc_P 6 13 = some (.istore_n 2, 1, 0, 0, 0) := by decide +kernel
theorem s_6_13 {x0 x1 x2 x3 : Option Value} {w : Int32} : mw d 6 Q 13 [x0, x1, x2, x3] (.int w :: st) h = mw d 6 Q 14 [x0, mk2 x1, some (.int w), x3] (st) h := (mw_at mj_6_13).trans (z_istore_n (Nat.le_of_ble_eq_true rfl) (me_s1_mk (j := 1) (w := x1) rfl))
theorem mj_6_14 : mc_P 6 14 = some (.aload_n 0, 1, 0, 0, 0) := by decide +kernel
theorem s_6_14 {x1 x2 x3 : Option Value} {w : Value} : mw d 6 Q 14 [some w, x1, x2, x3] (st) h = mv_a w (mw d 6 Q 15 [some w, x1, x2, x3] (w :: st) h) := (mw_at mj_6_14).trans (z_aload_n rfl)
theorem mj_6_15 : mc_P 6 15 = some (.getfield 50, 3, 0, 4, 0) := by decide +kernel
theorem s_6_15 {x0 x1 x2 x3 : Option Value} {o : Nat} : mw d 6 Q 15 [x0, x1, x2, x3] (.ref o :: st) h = (mg h o 0 ∧ mw d 6 Q 18 [x0, x1, x2, x3] (va_rf (mh_r h o 4) :: st) h) := (mw_at mj_6_15).trans (z_getr (by decide) (by decide) rfl)
theorem mj_6_18 : mc_P 6 18 = some (.getfield 106, 3, 4, 3, 0) := by decide +kernel
theorem s_6_18 {x0 x1 x2 x3 : Option Value} {o : Nat} : mw d 6 Q 18 [x0, x1, x2, x3] (.ref o :: st) h = (mg h o 4 ∧ mw d 6 Q 21 [x0, x1, x2, x3] (va_rf (mh_r h o 3) :: st) h) := (mw_at mj_6_18).trans (z_getr (by decide) (by decide) rfl)
theorem mj_6_21 : mc_P 6 21 = some (.iload_n 2, 1, 0, 0, 0) := by decide +kernel
theorem s_6_21 {x0 x1 x3 : Option Value} {w : Value} : mw d 6 Q 21 [x0, x1, some w, x3] (st) h = mv_i w (mw d 6 Q 22 [x0, x1, some w, x3] (w :: st) h) := (mw_at mj_6_21).trans (z_iload_n rfl)
theorem mj_6_22 : mc_P 6 22 = some (.aaload, 1, 0, 0, 0) := by decide +kernel
theorem s_6_22 {x0 x1 x2 x3 : Option Value} {o : Nat} {i : Int32} : mw d 6 Q 22 [x0, x1, x2, x3] (.int i :: .ref o :: st) h = (mgr h o ∧ mx i (mh_l h o) ∧ mw d 6 Q 23 [x0, x1, x2, x3] (mrd (mh_k h o) h o i.toNatClampNeg :: st) h) := (mw_at mj_6_22).trans (z_aald)
theorem mj_6_23 : mc_P 6 23 = some (.getfield 110, 3, 9, 0, 0) := by decide +kernel
theorem s_6_23 {x0 x1 x2 x3 : Option Value} {o : Nat} : mw d 6 Q 23 [x0, x1, x2, x3] (.ref o :: st) h = (mg h o 9 ∧ mw d 6 Q 26 [x0, x1, x2, x3] (.int (mh_i h o 0) :: st) h) := (mw_at mj_6_23).trans (z_geti (by decide) (by decide) (Or.inl rfl))
theorem mj_6_26 : mc_P 6 26 = some (.istore_n 3, 1, 0, 0, 0) := by decide +kernel
theorem s_6_26 {x0 x1 x2 x3 : Option Value} {w : Int32} : mw d 6 Q 26 [x0, x1, x2, x3] (.int w :: st) h = mw d 6 Q 27 [x0, x1, mk2 x2, some (.int w)] (st) h := (mw_at mj_6_26).trans (z_istore_n (Nat.le_of_ble_eq_true rfl) (me_s1_mk (j := 2) (w := x2) rfl))
theorem mj_6_27 : mc_P 6 27 = some (.aload_n 0, 1, 0, 0, 0) := by decide +kernel
theorem s_6_27 {x1 x2 x3 : Option Value} {w : Value} : mw d 6 Q 27 [some w, x1, x2, x3] (st) h = mv_a w (mw d 6 Q 28 [some w, x1, x2, x3] (w :: st) h) := (mw_at mj_6_27).trans (z_aload_n rfl)
theorem mj_6_28 : mc_P 6 28 = some (.getfield 22, 3, 0, 6, 0) := by decide +kernel
theorem s_6_28 {x0 x1 x2 x3 : Option Value} {o : Nat} : mw d 6 Q 28 [x0, x1, x2, x3] (.ref o :: st) h = (mg h o 0 ∧ mw d 6 Q 31 [x0, x1, x2, x3] (va_rf (mh_r h o 6) :: st) h) := (mw_at mj_6_28).trans (z_getr (by decide) (by decide) rfl)
theorem mj_6_31 : mc_P 6 31 = some (.aload_n 0, 1, 0, 0, 0) := by decide +kernel
theorem s_6_31 {x1 x2 x3 : Option Value} {w : Value} : mw d 6 Q 31 [some w, x1, x2, x3] (st) h = mv_a w (mw d 6 Q 32 [some w, x1, x2, x3] (w :: st) h) := (mw_at mj_6_31).trans (z_aload_n rfl)
theorem mj_6_32 : mc_P 6 32 = some (.getfield 50, 3, 0, 4, 0) := by decide +kernel
theorem s_6_32 {x0 x1 x2 x3 : Option Value} {o : Nat} : mw d 6 Q 32 [x0, x1, x2, x3] (.ref o :: st) h = (mg h o 0 ∧ mw d 6 Q 35 [x0, x1, x2, x3] (va_rf (mh_r h o 4) :: st) h) := (mw_at mj_6_32).trans (z_getr (by decide) (by decide) rfl)
theorem mj_6_35 : mc_P 6 35 = some (.iload_n 2, 1, 0, 0, 0) := by decide +kernel
theorem s_6_35 {x0 x1 x3 : Option Value} {w : Value} : mw d 6 Q 35 [x0, x1, some w, x3] (st) h = mv_i w (mw d 6 Q 36 [x0, x1, some w, x3] (w :: st) h) := (mw_at mj_6_35).trans (z_iload_n rfl)
theorem mj_6_36 : mc_P 6 36 = some (.invokevirtual 121, 3, 80, 4, 2) := by decide +kernel
theorem s_6_36 {x0 x1 x2 x3 : Option Value} {o : Nat} {a1 : Value} : mw (d + 1) 6 Q 36 [x0, x1, x2, x3] (a1 :: .ref o :: st) h = (mg h o 4 ∧ mca st 8 ∧ mca [.ref o, a1] 2 ∧ mcall d 80 [.ref o, a1] h (mK (d + 1) 6 Q 39 [x0, x1, x2, x3] st)) := (mw_at mj_6_36).trans ((z_invv (As := [a1]) (by decide) rfl rfl).trans (congrArg (And _) (congrArg (And _) (mC_nl nl_80))))
theorem mj_6_39 : mc_P 6 39 = some (.aload_n 0, 1, 0, 0, 0) := by decide +kernel
theorem s_6_39 {x1 x2 x3 : Option Value} {w : Value} : mw d 6 Q 39 [some w, x1, x2, x3] (st) h = mv_a w (mw d 6 Q 40 [some w, x1, x2, x3] (w :: st) h) := (mw_at mj_6_39).trans (z_aload_n rfl)
theorem mj_6_40 : mc_P 6 40 = some (.getfield 50, 3, 0, 4, 0) := by decide +kernel
theorem s_6_40 {x0 x1 x2 x3 : Option Value} {o : Nat} : mw d 6 Q 40 [x0, x1, x2, x3] (.ref o :: st) h = (mg h o 0 ∧ mw d 6 Q 43 [x0, x1, x2, x3] (va_rf (mh_r h o 4) :: st) h) := (mw_at mj_6_40).trans (z_getr (by decide) (by decide) rfl)
theorem mj_6_43 : mc_P 6 43 = some (.iload_n 2, 1, 0, 0, 0) := by decide +kernel
theorem s_6_43 {x0 x1 x3 : Option Value} {w : Value} : mw d 6 Q 43 [x0, x1, some w, x3] (st) h = mv_i w (mw d 6 Q 44 [x0, x1, some w, x3] (w :: st) h) := (mw_at mj_6_43).trans (z_iload_n rfl)
theorem mj_6_44 : mc_P 6 44 = some (.invokevirtual 124, 3, 81, 4, 2) := by decide +kernel
theorem s_6_44 {x0 x1 x2 x3 : Option Value} {o : Nat} {a1 : Value} : mw (d + 1) 6 Q 44 [x0, x1, x2, x3] (a1 :: .ref o :: st) h = (mg h o 4 ∧ mca st 8 ∧ mca [.ref o, a1] 2 ∧ mcall d 81 [.ref o, a1] h (mK (d + 1) 6 Q 47 [x0, x1, x2, x3] st)) := (mw_at mj_6_44).trans ((z_invv (As := [a1]) (by decide) rfl rfl).trans (congrArg (And _) (congrArg (And _) (mC_nl nl_81))))
theorem mj_6_47 : mc_P 6 47 = some (.invokevirtual 98, 3, 145, 8, 3) := by decide +kernel
theorem s_6_47 {x0 x1 x2 x3 : Option Value} {o : Nat} {a1 a2 : Value} : mw (d + 1) 6 Q 47 [x0, x1, x2, x3] (a2 :: a1 :: .ref o :: st) h = (mg h o 8 ∧ mca st 8 ∧ mca [.ref o, a1, a2] 3 ∧ mcall d 145 [.ref o, a1, a2] h (mK (d + 1) 6 Q 50 [x0, x1, x2, x3] st)) := (mw_at mj_6_47).trans ((z_invv (As := [a1, a2]) (by decide) rfl rfl).trans (congrArg (And _) (congrArg (And _) (mC_nl nl_145))))
theorem mj_6_50 : mc_P 6 50 = some (.iload_n 3, 1, 0, 0, 0) := by decide +kernel
theorem s_6_50 {x0 x1 x2 : Option Value} {w : Value} : mw d 6 Q 50 [x0, x1, x2, some w] (st) h = mv_i w (mw d 6 Q 51 [x0, x1, x2, some w] (w :: st) h) := (mw_at mj_6_50).trans (z_iload_n rfl)
theorem mj_6_51 : mc_P 6 51 = some (.bipush 6, 2, 0, 0, 0) := by decide +kernel
theorem s_6_51 {x0 x1 x2 x3 : Option Value} : mw d 6 Q 51 [x0, x1, x2, x3] (st) h = mw d 6 Q 53 [x0, x1, x2, x3] (.int 6 :: st) h := (mw_at mj_6_51).trans (z_bipush (by decide))
theorem mj_6_53 : mc_P 6 53 = some (.if_icmp .ne 11, 3, 0, 0, 0) := by decide +kernel
theorem s_6_53 {x0 x1 x2 x3 : Option Value} {x w : Int32} : mw d 6 Q 53 [x0, x1, x2, x3] (.int w :: .int x :: st) h = mB (¬ x = w) (mw d 6 Q) 64 56 [x0, x1, x2, x3] st h := (mw_at mj_6_53).trans (z_icmp_ne (by decide) rfl)
theorem mj_6_56 : mc_P 6 56 = some (.aload_n 0, 1, 0, 0, 0) := by decide +kernel
theorem s_6_56 {x1 x2 x3 : Option Value} {w : Value} : mw d 6 Q 56 [some w, x1, x2, x3] (st) h = mv_a w (mw d 6 Q 57 [some w, x1, x2, x3] (w :: st) h) := (mw_at mj_6_56).trans (z_aload_n rfl)
theorem mj_6_57 : mc_P 6 57 = some (.iload_n 1, 1, 0, 0, 0) := by decide +kernel
theorem s_6_57 {x0 x2 x3 : Option Value} {w : Value} : mw d 6 Q 57 [x0, some w, x2, x3] (st) h = mv_i w (mw d 6 Q 58 [x0, some w, x2, x3] (w :: st) h) := (mw_at mj_6_57).trans (z_iload_n rfl)
theorem mj_6_58 : mc_P 6 58 = some (.invokevirtual 154, 3, 8, 0, 2) := by decide +kernel
theorem s_6_58 {x0 x1 x2 x3 : Option Value} {o : Nat} {a1 : Value} : mw (d + 1) 6 Q 58 [x0, x1, x2, x3] (a1 :: .ref o :: st) h = (mg h o 0 ∧ mca st 8 ∧ mca [.ref o, a1] 3 ∧ mcall d 8 [.ref o, a1] h (mK (d + 1) 6 Q 61 [x0, x1, x2, x3] st)) := (mw_at mj_6_58).trans ((z_invv (As := [a1]) (by decide) rfl rfl).trans (congrArg (And _) (congrArg (And _) (mC_nl nl_8))))
theorem mj_6_61 : mc_P 6 61 = some (.goto 60, 3, 0, 0, 0) := by decide +kernel
theorem s_6_61 {x0 x1 x2 x3 : Option Value} : mw d 6 Q 61 [x0, x1, x2, x3] (st) h = mw d 6 Q 121 [x0, x1, x2, x3] (st) h := (mw_at mj_6_61).trans (z_goto (by decide))
theorem mj_6_64 : mc_P 6 64 = some (.iload_n 3, 1, 0, 0, 0) := by decide +kernel
theorem s_6_64 {x0 x1 x2 : Option Value} {w : Value} : mw d 6 Q 64 [x0, x1, x2, some w] (st) h = mv_i w (mw d 6 Q 65 [x0, x1, x2, some w] (w :: st) h) := (mw_at mj_6_64).trans (z_iload_n rfl)
theorem mj_6_65 : mc_P 6 65 = some (.iconst 5, 1, 0, 0, 0) := by decide +kernel
theorem s_6_65 {x0 x1 x2 x3 : Option Value} : mw d 6 Q 65 [x0, x1, x2, x3] (st) h = mw d 6 Q 66 [x0, x1, x2, x3] (.int 5 :: st) h := (mw_at mj_6_65).trans (z_iconst (by decide))
theorem mj_6_66 : mc_P 6 66 = some (.if_icmp .ne 27, 3, 0, 0, 0) := by decide +kernel
theorem s_6_66 {x0 x1 x2 x3 : Option Value} {x w : Int32} : mw d 6 Q 66 [x0, x1, x2, x3] (.int w :: .int x :: st) h = mB (¬ x = w) (mw d 6 Q) 93 69 [x0, x1, x2, x3] st h := (mw_at mj_6_66).trans (z_icmp_ne (by decide) rfl)
theorem mj_6_69 : mc_P 6 69 = some (.aload_n 0, 1, 0, 0, 0) := by decide +kernel
theorem s_6_69 {x1 x2 x3 : Option Value} {w : Value} : mw d 6 Q 69 [some w, x1, x2, x3] (st) h = mv_a w (mw d 6 Q 70 [some w, x1, x2, x3] (w :: st) h) := (mw_at mj_6_69).trans (z_aload_n rfl)
theorem mj_6_70 : mc_P 6 70 = some (.getfield 29, 3, 0, 10, 0) := by decide +kernel
theorem s_6_70 {x0 x1 x2 x3 : Option Value} {o : Nat} : mw d 6 Q 70 [x0, x1, x2, x3] (.ref o :: st) h = (mg h o 0 ∧ mw d 6 Q 73 [x0, x1, x2, x3] (va_rf (mh_r h o 10) :: st) h) := (mw_at mj_6_70).trans (z_getr (by decide) (by decide) rfl)
theorem mj_6_73 : mc_P 6 73 = some (.iload_n 1, 1, 0, 0, 0) := by decide +kernel
theorem s_6_73 {x0 x2 x3 : Option Value} {w : Value} : mw d 6 Q 73 [x0, some w, x2, x3] (st) h = mv_i w (mw d 6 Q 74 [x0, some w, x2, x3] (w :: st) h) := (mw_at mj_6_73).trans (z_iload_n rfl)
theorem mj_6_74 : mc_P 6 74 = some (.iaload, 1, 0, 0, 0) := by decide +kernel
theorem s_6_74 {x0 x1 x2 x3 : Option Value} {o : Nat} {i : Int32} : mw d 6 Q 74 [x0, x1, x2, x3] (.int i :: .ref o :: st) h = (mg h o 100 ∧ mx i (mh_l h o) ∧ mw d 6 Q 75 [x0, x1, x2, x3] (.int (mh_i h o i.toNatClampNeg) :: st) h) := (mw_at mj_6_74).trans (z_iald)
theorem s_6_74x {x0 x1 x2 x3 : Option Value} {i : Int32} : mw d 6 Q 74 [x0, x1, x2, x3] (.int i :: .retAddr 2 :: st) h = (mx i 24 ∧ mw d 6 Q 75 [x0, x1, x2, x3] (.int (mx_row.getD i.toNatClampNeg 0) :: st) h) := (mw_at mj_6_74).trans (z_iaX)
theorem mj_6_75 : mc_P 6 75 = some (.ifCond .ne 18, 3, 0, 0, 0) := by decide +kernel
theorem s_6_75 {x0 x1 x2 x3 : Option Value} {x : Int32} : mw d 6 Q 75 [x0, x1, x2, x3] (.int x :: st) h = mB (¬ x = 0) (mw d 6 Q) 93 78 [x0, x1, x2, x3] st h := (mw_at mj_6_75).trans (z_if_ne (by decide) rfl)
theorem mj_6_78 : mc_P 6 78 = some (.aload_n 0, 1, 0, 0, 0) := by decide +kernel
theorem s_6_78 {x1 x2 x3 : Option Value} {w : Value} : mw d 6 Q 78 [some w, x1, x2, x3] (st) h = mv_a w (mw d 6 Q 79 [some w, x1, x2, x3] (w :: st) h) := (mw_at mj_6_78).trans (z_aload_n rfl)
theorem mj_6_79 : mc_P 6 79 = some (.getfield 29, 3, 0, 10, 0) := by decide +kernel
theorem s_6_79 {x0 x1 x2 x3 : Option Value} {o : Nat} : mw d 6 Q 79 [x0, x1, x2, x3] (.ref o :: st) h = (mg h o 0 ∧ mw d 6 Q 82 [x0, x1, x2, x3] (va_rf (mh_r h o 10) :: st) h) := (mw_at mj_6_79).trans (z_getr (by decide) (by decide) rfl)
theorem mj_6_82 : mc_P 6 82 = some (.iload_n 1, 1, 0, 0, 0) := by decide +kernel
theorem s_6_82 {x0 x2 x3 : Option Value} {w : Value} : mw d 6 Q 82 [x0, some w, x2, x3] (st) h = mv_i w (mw d 6 Q 83 [x0, some w, x2, x3] (w :: st) h) := (mw_at mj_6_82).trans (z_iload_n rfl)
theorem mj_6_83 : mc_P 6 83 = some (.iconst 1, 1, 0, 0, 0) := by decide +kernel
theorem s_6_83 {x0 x1 x2 x3 : Option Value} : mw d 6 Q 83 [x0, x1, x2, x3] (st) h = mw d 6 Q 84 [x0, x1, x2, x3] (.int 1 :: st) h := (mw_at mj_6_83).trans (z_iconst (by decide))
theorem mj_6_84 : mc_P 6 84 = some (.iastore, 1, 0, 0, 0) := by decide +kernel
theorem s_6_84 {x0 x1 x2 x3 : Option Value} {o : Nat} {i w : Int32} : mw d 6 Q 84 [x0, x1, x2, x3] (.int w :: .int i :: .ref o :: st) h = (mg h o 100 ∧ mx i (mh_l h o) ∧ mw d 6 Q 85 [x0, x1, x2, x3] (st) (mh_si h o i.toNatClampNeg w)) := (mw_at mj_6_84).trans (z_iast)
theorem mj_6_85 : mc_P 6 85 = some (.aload_n 0, 1, 0, 0, 0) := by decide +kernel
theorem s_6_85 {x1 x2 x3 : Option Value} {w : Value} : mw d 6 Q 85 [some w, x1, x2, x3] (st) h = mv_a w (mw d 6 Q 86 [some w, x1, x2, x3] (w :: st) h) := (mw_at mj_6_85).trans (z_aload_n rfl)
theorem mj_6_86 : mc_P 6 86 = some (.iload_n 1, 1, 0, 0, 0) := by decide +kernel
theorem s_6_86 {x0 x2 x3 : Option Value} {w : Value} : mw d 6 Q 86 [x0, some w, x2, x3] (st) h = mv_i w (mw d 6 Q 87 [x0, some w, x2, x3] (w :: st) h) := (mw_at mj_6_86).trans (z_iload_n rfl)
theorem mj_6_87 : mc_P 6 87 = some (.invokevirtual 157, 3, 7, 0, 2) := by decide +kernel
theorem s_6_87 {x0 x1 x2 x3 : Option Value} {o : Nat} {a1 : Value} : mw (d + 1) 6 Q 87 [x0, x1, x2, x3] (a1 :: .ref o :: st) h = (mg h o 0 ∧ mca st 8 ∧ mca [.ref o, a1] 3 ∧ mcall d 7 [.ref o, a1] h (mK (d + 1) 6 Q 90 [x0, x1, x2, x3] st)) := (mw_at mj_6_87).trans ((z_invv (As := [a1]) (by decide) rfl rfl).trans (congrArg (And _) (congrArg (And _) (mC_nl nl_7))))
theorem mj_6_90 : mc_P 6 90 = some (.goto 31, 3, 0, 0, 0) := by decide +kernel
theorem s_6_90 {x0 x1 x2 x3 : Option Value} : mw d 6 Q 90 [x0, x1, x2, x3] (st) h = mw d 6 Q 121 [x0, x1, x2, x3] (st) h := (mw_at mj_6_90).trans (z_goto (by decide))
theorem mj_6_93 : mc_P 6 93 = some (.iload_n 3, 1, 0, 0, 0) := by decide +kernel
theorem s_6_93 {x0 x1 x2 : Option Value} {w : Value} : mw d 6 Q 93 [x0, x1, x2, some w] (st) h = mv_i w (mw d 6 Q 94 [x0, x1, x2, some w] (w :: st) h) := (mw_at mj_6_93).trans (z_iload_n rfl)
theorem mj_6_94 : mc_P 6 94 = some (.iconst 5, 1, 0, 0, 0) := by decide +kernel
theorem s_6_94 {x0 x1 x2 x3 : Option Value} : mw d 6 Q 94 [x0, x1, x2, x3] (st) h = mw d 6 Q 95 [x0, x1, x2, x3] (.int 5 :: st) h := (mw_at mj_6_94).trans (z_iconst (by decide))
theorem mj_6_95 : mc_P 6 95 = some (.if_icmp .ne 16, 3, 0, 0, 0) := by decide +kernel
theorem s_6_95 {x0 x1 x2 x3 : Option Value} {x w : Int32} : mw d 6 Q 95 [x0, x1, x2, x3] (.int w :: .int x :: st) h = mB (¬ x = w) (mw d 6 Q) 111 98 [x0, x1, x2, x3] st h := (mw_at mj_6_95).trans (z_icmp_ne (by decide) rfl)
theorem mj_6_98 : mc_P 6 98 = some (.aload_n 0, 1, 0, 0, 0) := by decide +kernel
theorem s_6_98 {x1 x2 x3 : Option Value} {w : Value} : mw d 6 Q 98 [some w, x1, x2, x3] (st) h = mv_a w (mw d 6 Q 99 [some w, x1, x2, x3] (w :: st) h) := (mw_at mj_6_98).trans (z_aload_n rfl)
theorem mj_6_99 : mc_P 6 99 = some (.getfield 22, 3, 0, 6, 0) := by decide +kernel
theorem s_6_99 {x0 x1 x2 x3 : Option Value} {o : Nat} : mw d 6 Q 99 [x0, x1, x2, x3] (.ref o :: st) h = (mg h o 0 ∧ mw d 6 Q 102 [x0, x1, x2, x3] (va_rf (mh_r h o 6) :: st) h) := (mw_at mj_6_99).trans (z_getr (by decide) (by decide) rfl)
theorem mj_6_102 : mc_P 6 102 = some (.aload_n 0, 1, 0, 0, 0) := by decide +kernel
theorem s_6_102 {x1 x2 x3 : Option Value} {w : Value} : mw d 6 Q 102 [some w, x1, x2, x3] (st) h = mv_a w (mw d 6 Q 103 [some w, x1, x2, x3] (w :: st) h) := (mw_at mj_6_102).trans (z_aload_n rfl)
theorem mj_6_103 : mc_P 6 103 = some (.getfield 32, 3, 0, 11, 0) := by decide +kernel
theorem s_6_103 {x0 x1 x2 x3 : Option Value} {o : Nat} : mw d 6 Q 103 [x0, x1, x2, x3] (.ref o :: st) h = (mg h o 0 ∧ mw d 6 Q 106 [x0, x1, x2, x3] (va_rf (mh_r h o 11) :: st) h) := (mw_at mj_6_103).trans (z_getr (by decide) (by decide) rfl)
theorem mj_6_106 : mc_P 6 106 = some (.iload_n 1, 1, 0, 0, 0) := by decide +kernel
theorem s_6_106 {x0 x2 x3 : Option Value} {w : Value} : mw d 6 Q 106 [x0, some w, x2, x3] (st) h = mv_i w (mw d 6 Q 107 [x0, some w, x2, x3] (w :: st) h) := (mw_at mj_6_106).trans (z_iload_n rfl)
theorem mj_6_107 : mc_P 6 107 = some (.aaload, 1, 0, 0, 0) := by decide +kernel
theorem s_6_107 {x0 x1 x2 x3 : Option Value} {o : Nat} {i : Int32} : mw d 6 Q 107 [x0, x1, x2, x3] (.int i :: .ref o :: st) h = (mgr h o ∧ mx i (mh_l h o) ∧ mw d 6 Q 108 [x0, x1, x2, x3] (mrd (mh_k h o) h o i.toNatClampNeg :: st) h) := (mw_at mj_6_107).trans (z_aald)
theorem mj_6_108 : mc_P 6 108 = some (.invokevirtual 160, 3, 151, 8, 2) := by decide +kernel
theorem s_6_108 {x0 x1 x2 x3 : Option Value} {o : Nat} {a1 : Value} : mw (d + 1) 6 Q 108 [x0, x1, x2, x3] (a1 :: .ref o :: st) h = (mg h o 8 ∧ mca st 8 ∧ mca [.ref o, a1] 3 ∧ mcall d 151 [.ref o, a1] h (mK (d + 1) 6 Q 111 [x0, x1, x2, x3] st)) := (mw_at mj_6_108).trans ((z_invv (As := [a1]) (by decide) rfl rfl).trans (congrArg (And _) (congrArg (And _) (mC_nl nl_151))))
theorem mj_6_111 : mc_P 6 111 = some (.aload_n 0, 1, 0, 0, 0) := by decide +kernel
theorem s_6_111 {x1 x2 x3 : Option Value} {w : Value} : mw d 6 Q 111 [some w, x1, x2, x3] (st) h = mv_a w (mw d 6 Q 112 [some w, x1, x2, x3] (w :: st) h) := (mw_at mj_6_111).trans (z_aload_n rfl)
theorem mj_6_112 : mc_P 6 112 = some (.dup, 1, 0, 0, 0) := by decide +kernel
theorem s_6_112 {x0 x1 x2 x3 : Option Value} {w : Value} : mw d 6 Q 112 [x0, x1, x2, x3] (w :: st) h = (w.category = 1 ∧ mw d 6 Q 113 [x0, x1, x2, x3] (w :: w :: st) h) := (mw_at mj_6_112).trans (z_dup)
theorem mj_6_113 : mc_P 6 113 = some (.getfield 69, 3, 0, 9, 0) := by decide +kernel
theorem s_6_113 {x0 x1 x2 x3 : Option Value} {o : Nat} : mw d 6 Q 113 [x0, x1, x2, x3] (.ref o :: st) h = (mg h o 0 ∧ mw d 6 Q 116 [x0, x1, x2, x3] (.int (mh_i h o 9) :: st) h) := (mw_at mj_6_113).trans (z_geti (by decide) (by decide) (Or.inl rfl))
theorem mj_6_116 : mc_P 6 116 = some (.iconst 1, 1, 0, 0, 0) := by decide +kernel
theorem s_6_116 {x0 x1 x2 x3 : Option Value} : mw d 6 Q 116 [x0, x1, x2, x3] (st) h = mw d 6 Q 117 [x0, x1, x2, x3] (.int 1 :: st) h := (mw_at mj_6_116).trans (z_iconst (by decide))
theorem mj_6_117 : mc_P 6 117 = some (.isub, 1, 0, 0, 0) := by decide +kernel
theorem s_6_117 {x0 x1 x2 x3 : Option Value} {x w : Int32} : mw d 6 Q 117 [x0, x1, x2, x3] (.int w :: .int x :: st) h = mw d 6 Q 118 [x0, x1, x2, x3] (.int (x - w) :: st) h := (mw_at mj_6_117).trans (z_isub)
theorem mj_6_118 : mc_P 6 118 = some (.putfield 69, 3, 0, 9, 0) := by decide +kernel
theorem s_6_118 {x0 x1 x2 x3 : Option Value} {o : Nat} {w : Int32} : mw d 6 Q 118 [x0, x1, x2, x3] (.int w :: .ref o :: st) h = (mg h o 0 ∧ mw d 6 Q 121 [x0, x1, x2, x3] (st) (mh_si h o 9 w)) := (mw_at mj_6_118).trans (z_puti (by decide) (by decide) rfl)
theorem mj_6_121 : mc_P 6 121 = some (.return_, 1, 0, 0, 0) := by decide +kernel
theorem s_6_121 {x0 x1 x2 x3 : Option Value} : mw d 6 Q 121 [x0, x1, x2, x3] ([]) h = Q none h := (mw_at mj_6_121).trans (z_vret)
theorem e_6 {a0 : Nat} : mcall d 6 [.ref a0] h Q = mw d 6 Q 0 [some (.ref a0), none, none, none] [] h := by
  show mw d 6 Q 0 (me_en (mc_nl 6) _) [] h = _
  rw [nl_6]; rfl

/-! InvariantDesk$Analysis.swapKept(I)V -/
theorem mj_7_0 : mc_P 7 0 = some (.aload_n 0, 1, 0, 0, 0) := by decide +kernel
theorem s_7_0 {x1 x2 : Option Value} {w : Value} : mw d 7 Q 0 [some w, x1, x2] (st) h = mv_a w (mw d 7 Q 1 [some w, x1, x2] (w :: st) h) := (mw_at mj_7_0).trans (z_aload_n rfl)
theorem mj_7_1 : mc_P 7 1 = some (.getfield 32, 3, 0, 11, 0) := by decide +kernel
theorem s_7_1 {x0 x1 x2 : Option Value} {o : Nat} : mw d 7 Q 1 [x0, x1, x2] (.ref o :: st) h = (mg h o 0 ∧ mw d 7 Q 4 [x0, x1, x2] (va_rf (mh_r h o 11) :: st) h) := (mw_at mj_7_1).trans (z_getr (by decide) (by decide) rfl)
theorem mj_7_4 : mc_P 7 4 = some (.iload_n 1, 1, 0, 0, 0) := by decide +kernel
theorem s_7_4 {x0 x2 : Option Value} {w : Value} : mw d 7 Q 4 [x0, some w, x2] (st) h = mv_i w (mw d 7 Q 5 [x0, some w, x2] (w :: st) h) := (mw_at mj_7_4).trans (z_iload_n rfl)
theorem mj_7_5 : mc_P 7 5 = some (.aaload, 1, 0, 0, 0) := by decide +kernel
theorem s_7_5 {x0 x1 x2 : Option Value} {o : Nat} {i : Int32} : mw d 7 Q 5 [x0, x1, x2] (.int i :: .ref o :: st) h = (mgr h o ∧ mx i (mh_l h o) ∧ mw d 7 Q 6 [x0, x1, x2] (mrd (mh_k h o) h o i.toNatClampNeg :: st) h) := (mw_at mj_7_5).trans (z_aald)
theorem mj_7_6 : mc_P 7 6 = some (.astore_n 2, 1, 0, 0, 0) := by decide +kernel
theorem s_7_6 {x0 x1 x2 : Option Value} {w : Nat} : mw d 7 Q 6 [x0, x1, x2] (.ref w :: st) h = mw d 7 Q 7 [x0, mk2 x1, some (.ref w)] (st) h := (mw_at mj_7_6).trans (z_astore_n (Nat.le_of_ble_eq_true rfl) (me_s1_mk (j := 1) (w := x1) rfl))
theorem s_7_6n {x0 x1 x2 : Option Value} : mw d 7 Q 6 [x0, x1, x2] (.null :: st) h = mw d 7 Q 7 [x0, mk2 x1, some (.null)] (st) h := (mw_at mj_7_6).trans (z_astoreN_n (Nat.le_of_ble_eq_true rfl) (me_s1_mk (j := 1) (w := x1) rfl))
theorem s_7_6x {x0 x1 x2 : Option Value} {w : Nat} : mw d 7 Q 6 [x0, x1, x2] (.retAddr w :: st) h = mw d 7 Q 7 [x0, mk2 x1, some (.retAddr w)] (st) h := (mw_at mj_7_6).trans (z_astoreX_n (Nat.le_of_ble_eq_true rfl) (me_s1_mk (j := 1) (w := x1) rfl))
theorem mj_7_7 : mc_P 7 7 = some (.aload_n 0, 1, 0, 0, 0) := by decide +kernel
theorem s_7_7 {x1 x2 : Option Value} {w : Value} : mw d 7 Q 7 [some w, x1, x2] (st) h = mv_a w (mw d 7 Q 8 [some w, x1, x2] (w :: st) h) := (mw_at mj_7_7).trans (z_aload_n rfl)
theorem mj_7_8 : mc_P 7 8 = some (.getfield 32, 3, 0, 11, 0) := by decide +kernel
theorem s_7_8 {x0 x1 x2 : Option Value} {o : Nat} : mw d 7 Q 8 [x0, x1, x2] (.ref o :: st) h = (mg h o 0 ∧ mw d 7 Q 11 [x0, x1, x2] (va_rf (mh_r h o 11) :: st) h) := (mw_at mj_7_8).trans (z_getr (by decide) (by decide) rfl)
theorem mj_7_11 : mc_P 7 11 = some (.iload_n 1, 1, 0, 0, 0) := by decide +kernel
theorem s_7_11 {x0 x2 : Option Value} {w : Value} : mw d 7 Q 11 [x0, some w, x2] (st) h = mv_i w (mw d 7 Q 12 [x0, some w, x2] (w :: st) h) := (mw_at mj_7_11).trans (z_iload_n rfl)
theorem mj_7_12 : mc_P 7 12 = some (.aload_n 0, 1, 0, 0, 0) := by decide +kernel
theorem s_7_12 {x1 x2 : Option Value} {w : Value} : mw d 7 Q 12 [some w, x1, x2] (st) h = mv_a w (mw d 7 Q 13 [some w, x1, x2] (w :: st) h) := (mw_at mj_7_12).trans (z_aload_n rfl)
theorem mj_7_13 : mc_P 7 13 = some (.getfield 22, 3, 0, 6, 0) := by decide +kernel
theorem s_7_13 {x0 x1 x2 : Option Value} {o : Nat} : mw d 7 Q 13 [x0, x1, x2] (.ref o :: st) h = (mg h o 0 ∧ mw d 7 Q 16 [x0, x1, x2] (va_rf (mh_r h o 6) :: st) h) := (mw_at mj_7_13).trans (z_getr (by decide) (by decide) rfl)
theorem mj_7_16 : mc_P 7 16 = some (.aastore, 1, 0, 0, 0) := by decide +kernel
theorem s_7_16 {x0 x1 x2 : Option Value} {o w : Nat} {i : Int32} : mw d 7 Q 16 [x0, x1, x2] (.ref w :: .int i :: .ref o :: st) h = (mgr h o ∧ mx i (mh_l h o) ∧ mh_k h o < 107 ∧ mg h w (me_ac (mh_k h o)) ∧ mw d 7 Q 17 [x0, x1, x2] (st) (mh_sr h o i.toNatClampNeg (some w))) := (mw_at mj_7_16).trans (z_aast)
theorem s_7_16n {x0 x1 x2 : Option Value} {o : Nat} {i : Int32} : mw d 7 Q 16 [x0, x1, x2] (.null :: .int i :: .ref o :: st) h = (mgr h o ∧ mx i (mh_l h o) ∧ mh_k h o < 107 ∧ mw d 7 Q 17 [x0, x1, x2] (st) (mh_sr h o i.toNatClampNeg none)) := (mw_at mj_7_16).trans (z_aastN)
theorem s_7_16x {x0 x1 x2 : Option Value} {o x : Nat} {i : Int32} : mw d 7 Q 16 [x0, x1, x2] (.retAddr x :: .int i :: .ref o :: st) h = (mg h o 107 ∧ mx i (mh_l h o) ∧ me_xs x = true ∧ mw d 7 Q 17 [x0, x1, x2] (st) (mh_si h o i.toNatClampNeg (Int32.ofNat x))) := (mw_at mj_7_16).trans (z_aastS)
theorem mj_7_17 : mc_P 7 17 = some (.aload_n 0, 1, 0, 0, 0) := by decide +kernel
theorem s_7_17 {x1 x2 : Option Value} {w : Value} : mw d 7 Q 17 [some w, x1, x2] (st) h = mv_a w (mw d 7 Q 18 [some w, x1, x2] (w :: st) h) := (mw_at mj_7_17).trans (z_aload_n rfl)
theorem mj_7_18 : mc_P 7 18 = some (.aload_n 2, 1, 0, 0, 0) := by decide +kernel
theorem s_7_18 {x0 x1 : Option Value} {w : Value} : mw d 7 Q 18 [x0, x1, some w] (st) h = mv_a w (mw d 7 Q 19 [x0, x1, some w] (w :: st) h) := (mw_at mj_7_18).trans (z_aload_n rfl)
theorem mj_7_19 : mc_P 7 19 = some (.putfield 22, 3, 0, 6, 0) := by decide +kernel
theorem s_7_19 {x0 x1 x2 : Option Value} {o w : Nat} : mw d 7 Q 19 [x0, x1, x2] (.ref w :: .ref o :: st) h = (mg h o 0 ∧ mw d 7 Q 22 [x0, x1, x2] (st) (mh_sr h o 6 (some w))) := (mw_at mj_7_19).trans (z_putr (by decide) (by decide) rfl)
theorem s_7_19n {x0 x1 x2 : Option Value} {o : Nat} : mw d 7 Q 19 [x0, x1, x2] (.null :: .ref o :: st) h = (mg h o 0 ∧ mw d 7 Q 22 [x0, x1, x2] (st) (mh_sr h o 6 none)) := (mw_at mj_7_19).trans (z_putn (by decide) (by decide) rfl)
theorem mj_7_22 : mc_P 7 22 = some (.return_, 1, 0, 0, 0) := by decide +kernel
theorem s_7_22 {x0 x1 x2 : Option Value} : mw d 7 Q 22 [x0, x1, x2] ([]) h = Q none h := (mw_at mj_7_22).trans (z_vret)
theorem e_7 {a0 : Nat} {a1 : Int32} : mcall d 7 [.ref a0, .int a1] h Q = mw d 7 Q 0 [some (.ref a0), some (.int a1), none] [] h := by
  show mw d 7 Q 0 (me_en (mc_nl 7) _) [] h = _
  rw [nl_7]; rfl

/-! InvariantDesk$Analysis.endRound(I)V -/
theorem mj_8_0 : mc_P 8 0 = some (.aload_n 0, 1, 0, 0, 0) := by decide +kernel
theorem s_8_0 {x1 x2 : Option Value} {w : Value} : mw d 8 Q 0 [some w, x1, x2] (st) h = mv_a w (mw d 8 Q 1 [some w, x1, x2] (w :: st) h) := (mw_at mj_8_0).trans (z_aload_n rfl)
theorem mj_8_1 : mc_P 8 1 = some (.getfield 29, 3, 0, 10, 0) := by decide +kernel
theorem s_8_1 {x0 x1 x2 : Option Value} {o : Nat} : mw d 8 Q 1 [x0, x1, x2] (.ref o :: st) h = (mg h o 0 ∧ mw d 8 Q 4 [x0, x1, x2] (va_rf (mh_r h o 10) :: st) h) := (mw_at mj_8_1).trans (z_getr (by decide) (by decide) rfl)
theorem mj_8_4 : mc_P 8 4 = some (.iload_n 1, 1, 0, 0, 0) := by decide +kernel
theorem s_8_4 {x0 x2 : Option Value} {w : Value} : mw d 8 Q 4 [x0, some w, x2] (st) h = mv_i w (mw d 8 Q 5 [x0, some w, x2] (w :: st) h) := (mw_at mj_8_4).trans (z_iload_n rfl)
theorem mj_8_5 : mc_P 8 5 = some (.iaload, 1, 0, 0, 0) := by decide +kernel
theorem s_8_5 {x0 x1 x2 : Option Value} {o : Nat} {i : Int32} : mw d 8 Q 5 [x0, x1, x2] (.int i :: .ref o :: st) h = (mg h o 100 ∧ mx i (mh_l h o) ∧ mw d 8 Q 6 [x0, x1, x2] (.int (mh_i h o i.toNatClampNeg) :: st) h) := (mw_at mj_8_5).trans (z_iald)
theorem s_8_5x {x0 x1 x2 : Option Value} {i : Int32} : mw d 8 Q 5 [x0, x1, x2] (.int i :: .retAddr 2 :: st) h = (mx i 24 ∧ mw d 8 Q 6 [x0, x1, x2] (.int (mx_row.getD i.toNatClampNeg 0) :: st) h) := (mw_at mj_8_5).trans (z_iaX)
theorem mj_8_6 : mc_P 8 6 = some (.iconst 2, 1, 0, 0, 0) := by decide +kernel
theorem s_8_6 {x0 x1 x2 : Option Value} : mw d 8 Q 6 [x0, x1, x2] (st) h = mw d 8 Q 7 [x0, x1, x2] (.int 2 :: st) h := (mw_at mj_8_6).trans (z_iconst (by decide))
theorem mj_8_7 : mc_P 8 7 = some (.if_icmp .ne 19, 3, 0, 0, 0) := by decide +kernel
theorem s_8_7 {x0 x1 x2 : Option Value} {x w : Int32} : mw d 8 Q 7 [x0, x1, x2] (.int w :: .int x :: st) h = mB (¬ x = w) (mw d 8 Q) 26 10 [x0, x1, x2] st h := (mw_at mj_8_7).trans (z_icmp_ne (by decide) rfl)
theorem mj_8_10 : mc_P 8 10 = some (.aload_n 0, 1, 0, 0, 0) := by decide +kernel
theorem s_8_10 {x1 x2 : Option Value} {w : Value} : mw d 8 Q 10 [some w, x1, x2] (st) h = mv_a w (mw d 8 Q 11 [some w, x1, x2] (w :: st) h) := (mw_at mj_8_10).trans (z_aload_n rfl)
theorem mj_8_11 : mc_P 8 11 = some (.iload_n 1, 1, 0, 0, 0) := by decide +kernel
theorem s_8_11 {x0 x2 : Option Value} {w : Value} : mw d 8 Q 11 [x0, some w, x2] (st) h = mv_i w (mw d 8 Q 12 [x0, some w, x2] (w :: st) h) := (mw_at mj_8_11).trans (z_iload_n rfl)
theorem mj_8_12 : mc_P 8 12 = some (.invokevirtual 157, 3, 7, 0, 2) := by decide +kernel
theorem s_8_12 {x0 x1 x2 : Option Value} {o : Nat} {a1 : Value} : mw (d + 1) 8 Q 12 [x0, x1, x2] (a1 :: .ref o :: st) h = (mg h o 0 ∧ mca st 8 ∧ mca [.ref o, a1] 3 ∧ mcall d 7 [.ref o, a1] h (mK (d + 1) 8 Q 15 [x0, x1, x2] st)) := (mw_at mj_8_12).trans ((z_invv (As := [a1]) (by decide) rfl rfl).trans (congrArg (And _) (congrArg (And _) (mC_nl nl_7))))
theorem mj_8_15 : mc_P 8 15 = some (.aload_n 0, 1, 0, 0, 0) := by decide +kernel
theorem s_8_15 {x1 x2 : Option Value} {w : Value} : mw d 8 Q 15 [some w, x1, x2] (st) h = mv_a w (mw d 8 Q 16 [some w, x1, x2] (w :: st) h) := (mw_at mj_8_15).trans (z_aload_n rfl)
theorem mj_8_16 : mc_P 8 16 = some (.dup, 1, 0, 0, 0) := by decide +kernel
theorem s_8_16 {x0 x1 x2 : Option Value} {w : Value} : mw d 8 Q 16 [x0, x1, x2] (w :: st) h = (w.category = 1 ∧ mw d 8 Q 17 [x0, x1, x2] (w :: w :: st) h) := (mw_at mj_8_16).trans (z_dup)
theorem mj_8_17 : mc_P 8 17 = some (.getfield 69, 3, 0, 9, 0) := by decide +kernel
theorem s_8_17 {x0 x1 x2 : Option Value} {o : Nat} : mw d 8 Q 17 [x0, x1, x2] (.ref o :: st) h = (mg h o 0 ∧ mw d 8 Q 20 [x0, x1, x2] (.int (mh_i h o 9) :: st) h) := (mw_at mj_8_17).trans (z_geti (by decide) (by decide) (Or.inl rfl))
theorem mj_8_20 : mc_P 8 20 = some (.iconst 1, 1, 0, 0, 0) := by decide +kernel
theorem s_8_20 {x0 x1 x2 : Option Value} : mw d 8 Q 20 [x0, x1, x2] (st) h = mw d 8 Q 21 [x0, x1, x2] (.int 1 :: st) h := (mw_at mj_8_20).trans (z_iconst (by decide))
theorem mj_8_21 : mc_P 8 21 = some (.isub, 1, 0, 0, 0) := by decide +kernel
theorem s_8_21 {x0 x1 x2 : Option Value} {x w : Int32} : mw d 8 Q 21 [x0, x1, x2] (.int w :: .int x :: st) h = mw d 8 Q 22 [x0, x1, x2] (.int (x - w) :: st) h := (mw_at mj_8_21).trans (z_isub)
theorem mj_8_22 : mc_P 8 22 = some (.putfield 69, 3, 0, 9, 0) := by decide +kernel
theorem s_8_22 {x0 x1 x2 : Option Value} {o : Nat} {w : Int32} : mw d 8 Q 22 [x0, x1, x2] (.int w :: .ref o :: st) h = (mg h o 0 ∧ mw d 8 Q 25 [x0, x1, x2] (st) (mh_si h o 9 w)) := (mw_at mj_8_22).trans (z_puti (by decide) (by decide) rfl)
theorem mj_8_25 : mc_P 8 25 = some (.return_, 1, 0, 0, 0) := by decide +kernel
theorem s_8_25 {x0 x1 x2 : Option Value} : mw d 8 Q 25 [x0, x1, x2] ([]) h = Q none h := (mw_at mj_8_25).trans (z_vret)
theorem mj_8_26 : mc_P 8 26 = some (.aload_n 0, 1, 0, 0, 0) := by decide +kernel
theorem s_8_26 {x1 x2 : Option Value} {w : Value} : mw d 8 Q 26 [some w, x1, x2] (st) h = mv_a w (mw d 8 Q 27 [some w, x1, x2] (w :: st) h) := (mw_at mj_8_26).trans (z_aload_n rfl)
theorem mj_8_27 : mc_P 8 27 = some (.aload_n 0, 1, 0, 0, 0) := by decide +kernel
theorem s_8_27 {x1 x2 : Option Value} {w : Value} : mw d 8 Q 27 [some w, x1, x2] (st) h = mv_a w (mw d 8 Q 28 [some w, x1, x2] (w :: st) h) := (mw_at mj_8_27).trans (z_aload_n rfl)
theorem mj_8_28 : mc_P 8 28 = some (.getfield 26, 3, 0, 8, 0) := by decide +kernel
theorem s_8_28 {x0 x1 x2 : Option Value} {o : Nat} : mw d 8 Q 28 [x0, x1, x2] (.ref o :: st) h = (mg h o 0 ∧ mw d 8 Q 31 [x0, x1, x2] (va_rf (mh_r h o 8) :: st) h) := (mw_at mj_8_28).trans (z_getr (by decide) (by decide) rfl)
theorem mj_8_31 : mc_P 8 31 = some (.iload_n 1, 1, 0, 0, 0) := by decide +kernel
theorem s_8_31 {x0 x2 : Option Value} {w : Value} : mw d 8 Q 31 [x0, some w, x2] (st) h = mv_i w (mw d 8 Q 32 [x0, some w, x2] (w :: st) h) := (mw_at mj_8_31).trans (z_iload_n rfl)
theorem mj_8_32 : mc_P 8 32 = some (.iaload, 1, 0, 0, 0) := by decide +kernel
theorem s_8_32 {x0 x1 x2 : Option Value} {o : Nat} {i : Int32} : mw d 8 Q 32 [x0, x1, x2] (.int i :: .ref o :: st) h = (mg h o 100 ∧ mx i (mh_l h o) ∧ mw d 8 Q 33 [x0, x1, x2] (.int (mh_i h o i.toNatClampNeg) :: st) h) := (mw_at mj_8_32).trans (z_iald)
theorem s_8_32x {x0 x1 x2 : Option Value} {i : Int32} : mw d 8 Q 32 [x0, x1, x2] (.int i :: .retAddr 2 :: st) h = (mx i 24 ∧ mw d 8 Q 33 [x0, x1, x2] (.int (mx_row.getD i.toNatClampNeg 0) :: st) h) := (mw_at mj_8_32).trans (z_iaX)
theorem mj_8_33 : mc_P 8 33 = some (.putfield 66, 3, 0, 7, 0) := by decide +kernel
theorem s_8_33 {x0 x1 x2 : Option Value} {o : Nat} {w : Int32} : mw d 8 Q 33 [x0, x1, x2] (.int w :: .ref o :: st) h = (mg h o 0 ∧ mw d 8 Q 36 [x0, x1, x2] (st) (mh_si h o 7 w)) := (mw_at mj_8_33).trans (z_puti (by decide) (by decide) rfl)
theorem mj_8_36 : mc_P 8 36 = some (.aload_n 0, 1, 0, 0, 0) := by decide +kernel
theorem s_8_36 {x1 x2 : Option Value} {w : Value} : mw d 8 Q 36 [some w, x1, x2] (st) h = mv_a w (mw d 8 Q 37 [some w, x1, x2] (w :: st) h) := (mw_at mj_8_36).trans (z_aload_n rfl)
theorem mj_8_37 : mc_P 8 37 = some (.getfield 22, 3, 0, 6, 0) := by decide +kernel
theorem s_8_37 {x0 x1 x2 : Option Value} {o : Nat} : mw d 8 Q 37 [x0, x1, x2] (.ref o :: st) h = (mg h o 0 ∧ mw d 8 Q 40 [x0, x1, x2] (va_rf (mh_r h o 6) :: st) h) := (mw_at mj_8_37).trans (z_getr (by decide) (by decide) rfl)
theorem mj_8_40 : mc_P 8 40 = some (.aload_n 0, 1, 0, 0, 0) := by decide +kernel
theorem s_8_40 {x1 x2 : Option Value} {w : Value} : mw d 8 Q 40 [some w, x1, x2] (st) h = mv_a w (mw d 8 Q 41 [some w, x1, x2] (w :: st) h) := (mw_at mj_8_40).trans (z_aload_n rfl)
theorem mj_8_41 : mc_P 8 41 = some (.getfield 35, 3, 0, 12, 0) := by decide +kernel
theorem s_8_41 {x0 x1 x2 : Option Value} {o : Nat} : mw d 8 Q 41 [x0, x1, x2] (.ref o :: st) h = (mg h o 0 ∧ mw d 8 Q 44 [x0, x1, x2] (va_rf (mh_r h o 12) :: st) h) := (mw_at mj_8_41).trans (z_getr (by decide) (by decide) rfl)
theorem mj_8_44 : mc_P 8 44 = some (.iload_n 1, 1, 0, 0, 0) := by decide +kernel
theorem s_8_44 {x0 x2 : Option Value} {w : Value} : mw d 8 Q 44 [x0, some w, x2] (st) h = mv_i w (mw d 8 Q 45 [x0, some w, x2] (w :: st) h) := (mw_at mj_8_44).trans (z_iload_n rfl)
theorem mj_8_45 : mc_P 8 45 = some (.aaload, 1, 0, 0, 0) := by decide +kernel
theorem s_8_45 {x0 x1 x2 : Option Value} {o : Nat} {i : Int32} : mw d 8 Q 45 [x0, x1, x2] (.int i :: .ref o :: st) h = (mgr h o ∧ mx i (mh_l h o) ∧ mw d 8 Q 46 [x0, x1, x2] (mrd (mh_k h o) h o i.toNatClampNeg :: st) h) := (mw_at mj_8_45).trans (z_aald)
theorem mj_8_46 : mc_P 8 46 = some (.invokevirtual 160, 3, 151, 8, 2) := by decide +kernel
theorem s_8_46 {x0 x1 x2 : Option Value} {o : Nat} {a1 : Value} : mw (d + 1) 8 Q 46 [x0, x1, x2] (a1 :: .ref o :: st) h = (mg h o 8 ∧ mca st 8 ∧ mca [.ref o, a1] 3 ∧ mcall d 151 [.ref o, a1] h (mK (d + 1) 8 Q 49 [x0, x1, x2] st)) := (mw_at mj_8_46).trans ((z_invv (As := [a1]) (by decide) rfl rfl).trans (congrArg (And _) (congrArg (And _) (mC_nl nl_151))))
theorem mj_8_49 : mc_P 8 49 = some (.aload_n 0, 1, 0, 0, 0) := by decide +kernel
theorem s_8_49 {x1 x2 : Option Value} {w : Value} : mw d 8 Q 49 [some w, x1, x2] (st) h = mv_a w (mw d 8 Q 50 [some w, x1, x2] (w :: st) h) := (mw_at mj_8_49).trans (z_aload_n rfl)
theorem mj_8_50 : mc_P 8 50 = some (.getfield 29, 3, 0, 10, 0) := by decide +kernel
theorem s_8_50 {x0 x1 x2 : Option Value} {o : Nat} : mw d 8 Q 50 [x0, x1, x2] (.ref o :: st) h = (mg h o 0 ∧ mw d 8 Q 53 [x0, x1, x2] (va_rf (mh_r h o 10) :: st) h) := (mw_at mj_8_50).trans (z_getr (by decide) (by decide) rfl)
theorem mj_8_53 : mc_P 8 53 = some (.iload_n 1, 1, 0, 0, 0) := by decide +kernel
theorem s_8_53 {x0 x2 : Option Value} {w : Value} : mw d 8 Q 53 [x0, some w, x2] (st) h = mv_i w (mw d 8 Q 54 [x0, some w, x2] (w :: st) h) := (mw_at mj_8_53).trans (z_iload_n rfl)
theorem mj_8_54 : mc_P 8 54 = some (.iaload, 1, 0, 0, 0) := by decide +kernel
theorem s_8_54 {x0 x1 x2 : Option Value} {o : Nat} {i : Int32} : mw d 8 Q 54 [x0, x1, x2] (.int i :: .ref o :: st) h = (mg h o 100 ∧ mx i (mh_l h o) ∧ mw d 8 Q 55 [x0, x1, x2] (.int (mh_i h o i.toNatClampNeg) :: st) h) := (mw_at mj_8_54).trans (z_iald)
theorem s_8_54x {x0 x1 x2 : Option Value} {i : Int32} : mw d 8 Q 54 [x0, x1, x2] (.int i :: .retAddr 2 :: st) h = (mx i 24 ∧ mw d 8 Q 55 [x0, x1, x2] (.int (mx_row.getD i.toNatClampNeg 0) :: st) h) := (mw_at mj_8_54).trans (z_iaX)
theorem mj_8_55 : mc_P 8 55 = some (.iconst 1, 1, 0, 0, 0) := by decide +kernel
theorem s_8_55 {x0 x1 x2 : Option Value} : mw d 8 Q 55 [x0, x1, x2] (st) h = mw d 8 Q 56 [x0, x1, x2] (.int 1 :: st) h := (mw_at mj_8_55).trans (z_iconst (by decide))
theorem mj_8_56 : mc_P 8 56 = some (.if_icmp .ne 7, 3, 0, 0, 0) := by decide +kernel
theorem s_8_56 {x0 x1 x2 : Option Value} {x w : Int32} : mw d 8 Q 56 [x0, x1, x2] (.int w :: .int x :: st) h = mB (¬ x = w) (mw d 8 Q) 63 59 [x0, x1, x2] st h := (mw_at mj_8_56).trans (z_icmp_ne (by decide) rfl)
theorem mj_8_59 : mc_P 8 59 = some (.iconst 1, 1, 0, 0, 0) := by decide +kernel
theorem s_8_59 {x0 x1 x2 : Option Value} : mw d 8 Q 59 [x0, x1, x2] (st) h = mw d 8 Q 60 [x0, x1, x2] (.int 1 :: st) h := (mw_at mj_8_59).trans (z_iconst (by decide))
theorem mj_8_60 : mc_P 8 60 = some (.goto 4, 3, 0, 0, 0) := by decide +kernel
theorem s_8_60 {x0 x1 x2 : Option Value} : mw d 8 Q 60 [x0, x1, x2] (st) h = mw d 8 Q 64 [x0, x1, x2] (st) h := (mw_at mj_8_60).trans (z_goto (by decide))
theorem mj_8_63 : mc_P 8 63 = some (.iconst 0, 1, 0, 0, 0) := by decide +kernel
theorem s_8_63 {x0 x1 x2 : Option Value} : mw d 8 Q 63 [x0, x1, x2] (st) h = mw d 8 Q 64 [x0, x1, x2] (.int 0 :: st) h := (mw_at mj_8_63).trans (z_iconst (by decide))
theorem mj_8_64 : mc_P 8 64 = some (.istore_n 2, 1, 0, 0, 0) := by decide +kernel
theorem s_8_64 {x0 x1 x2 : Option Value} {w : Int32} : mw d 8 Q 64 [x0, x1, x2] (.int w :: st) h = mw d 8 Q 65 [x0, mk2 x1, some (.int w)] (st) h := (mw_at mj_8_64).trans (z_istore_n (Nat.le_of_ble_eq_true rfl) (me_s1_mk (j := 1) (w := x1) rfl))
theorem mj_8_65 : mc_P 8 65 = some (.aload_n 0, 1, 0, 0, 0) := by decide +kernel
theorem s_8_65 {x1 x2 : Option Value} {w : Value} : mw d 8 Q 65 [some w, x1, x2] (st) h = mv_a w (mw d 8 Q 66 [some w, x1, x2] (w :: st) h) := (mw_at mj_8_65).trans (z_aload_n rfl)
theorem mj_8_66 : mc_P 8 66 = some (.getfield 22, 3, 0, 6, 0) := by decide +kernel
theorem s_8_66 {x0 x1 x2 : Option Value} {o : Nat} : mw d 8 Q 66 [x0, x1, x2] (.ref o :: st) h = (mg h o 0 ∧ mw d 8 Q 69 [x0, x1, x2] (va_rf (mh_r h o 6) :: st) h) := (mw_at mj_8_66).trans (z_getr (by decide) (by decide) rfl)
theorem mj_8_69 : mc_P 8 69 = some (.iload_n 2, 1, 0, 0, 0) := by decide +kernel
theorem s_8_69 {x0 x1 : Option Value} {w : Value} : mw d 8 Q 69 [x0, x1, some w] (st) h = mv_i w (mw d 8 Q 70 [x0, x1, some w] (w :: st) h) := (mw_at mj_8_69).trans (z_iload_n rfl)
theorem mj_8_70 : mc_P 8 70 = some (.ifCond .eq 12, 3, 0, 0, 0) := by decide +kernel
theorem s_8_70 {x0 x1 x2 : Option Value} {x : Int32} : mw d 8 Q 70 [x0, x1, x2] (.int x :: st) h = mB (x = 0) (mw d 8 Q) 82 73 [x0, x1, x2] st h := (mw_at mj_8_70).trans (z_if_eq (by decide) rfl)
theorem mj_8_73 : mc_P 8 73 = some (.aload_n 0, 1, 0, 0, 0) := by decide +kernel
theorem s_8_73 {x1 x2 : Option Value} {w : Value} : mw d 8 Q 73 [some w, x1, x2] (st) h = mv_a w (mw d 8 Q 74 [some w, x1, x2] (w :: st) h) := (mw_at mj_8_73).trans (z_aload_n rfl)
theorem mj_8_74 : mc_P 8 74 = some (.getfield 32, 3, 0, 11, 0) := by decide +kernel
theorem s_8_74 {x0 x1 x2 : Option Value} {o : Nat} : mw d 8 Q 74 [x0, x1, x2] (.ref o :: st) h = (mg h o 0 ∧ mw d 8 Q 77 [x0, x1, x2] (va_rf (mh_r h o 11) :: st) h) := (mw_at mj_8_74).trans (z_getr (by decide) (by decide) rfl)
theorem mj_8_77 : mc_P 8 77 = some (.iload_n 1, 1, 0, 0, 0) := by decide +kernel
theorem s_8_77 {x0 x2 : Option Value} {w : Value} : mw d 8 Q 77 [x0, some w, x2] (st) h = mv_i w (mw d 8 Q 78 [x0, some w, x2] (w :: st) h) := (mw_at mj_8_77).trans (z_iload_n rfl)
theorem mj_8_78 : mc_P 8 78 = some (.aaload, 1, 0, 0, 0) := by decide +kernel
theorem s_8_78 {x0 x1 x2 : Option Value} {o : Nat} {i : Int32} : mw d 8 Q 78 [x0, x1, x2] (.int i :: .ref o :: st) h = (mgr h o ∧ mx i (mh_l h o) ∧ mw d 8 Q 79 [x0, x1, x2] (mrd (mh_k h o) h o i.toNatClampNeg :: st) h) := (mw_at mj_8_78).trans (z_aald)
theorem mj_8_79 : mc_P 8 79 = some (.goto 9, 3, 0, 0, 0) := by decide +kernel
theorem s_8_79 {x0 x1 x2 : Option Value} : mw d 8 Q 79 [x0, x1, x2] (st) h = mw d 8 Q 88 [x0, x1, x2] (st) h := (mw_at mj_8_79).trans (z_goto (by decide))
theorem mj_8_82 : mc_P 8 82 = some (.aload_n 0, 1, 0, 0, 0) := by decide +kernel
theorem s_8_82 {x1 x2 : Option Value} {w : Value} : mw d 8 Q 82 [some w, x1, x2] (st) h = mv_a w (mw d 8 Q 83 [some w, x1, x2] (w :: st) h) := (mw_at mj_8_82).trans (z_aload_n rfl)
theorem mj_8_83 : mc_P 8 83 = some (.getfield 38, 3, 0, 13, 0) := by decide +kernel
theorem s_8_83 {x0 x1 x2 : Option Value} {o : Nat} : mw d 8 Q 83 [x0, x1, x2] (.ref o :: st) h = (mg h o 0 ∧ mw d 8 Q 86 [x0, x1, x2] (va_rf (mh_r h o 13) :: st) h) := (mw_at mj_8_83).trans (z_getr (by decide) (by decide) rfl)
theorem mj_8_86 : mc_P 8 86 = some (.iload_n 1, 1, 0, 0, 0) := by decide +kernel
theorem s_8_86 {x0 x2 : Option Value} {w : Value} : mw d 8 Q 86 [x0, some w, x2] (st) h = mv_i w (mw d 8 Q 87 [x0, some w, x2] (w :: st) h) := (mw_at mj_8_86).trans (z_iload_n rfl)
theorem mj_8_87 : mc_P 8 87 = some (.aaload, 1, 0, 0, 0) := by decide +kernel
theorem s_8_87 {x0 x1 x2 : Option Value} {o : Nat} {i : Int32} : mw d 8 Q 87 [x0, x1, x2] (.int i :: .ref o :: st) h = (mgr h o ∧ mx i (mh_l h o) ∧ mw d 8 Q 88 [x0, x1, x2] (mrd (mh_k h o) h o i.toNatClampNeg :: st) h) := (mw_at mj_8_87).trans (z_aald)
theorem mj_8_88 : mc_P 8 88 = some (.invokevirtual 163, 3, 149, 8, 2) := by decide +kernel
theorem s_8_88 {x0 x1 x2 : Option Value} {o : Nat} {a1 : Value} : mw (d + 1) 8 Q 88 [x0, x1, x2] (a1 :: .ref o :: st) h = (mg h o 8 ∧ mca st 8 ∧ mca [.ref o, a1] 3 ∧ mcall d 149 [.ref o, a1] h (mK (d + 1) 8 Q 91 [x0, x1, x2] st)) := (mw_at mj_8_88).trans ((z_invv (As := [a1]) (by decide) rfl rfl).trans (congrArg (And _) (congrArg (And _) (mC_nl nl_149))))
theorem mj_8_91 : mc_P 8 91 = some (.ifCond .eq 30, 3, 0, 0, 0) := by decide +kernel
theorem s_8_91 {x0 x1 x2 : Option Value} {x : Int32} : mw d 8 Q 91 [x0, x1, x2] (.int x :: st) h = mB (x = 0) (mw d 8 Q) 121 94 [x0, x1, x2] st h := (mw_at mj_8_91).trans (z_if_eq (by decide) rfl)
theorem mj_8_94 : mc_P 8 94 = some (.iload_n 2, 1, 0, 0, 0) := by decide +kernel
theorem s_8_94 {x0 x1 : Option Value} {w : Value} : mw d 8 Q 94 [x0, x1, some w] (st) h = mv_i w (mw d 8 Q 95 [x0, x1, some w] (w :: st) h) := (mw_at mj_8_94).trans (z_iload_n rfl)
theorem mj_8_95 : mc_P 8 95 = some (.ifCond .eq 18, 3, 0, 0, 0) := by decide +kernel
theorem s_8_95 {x0 x1 x2 : Option Value} {x : Int32} : mw d 8 Q 95 [x0, x1, x2] (.int x :: st) h = mB (x = 0) (mw d 8 Q) 113 98 [x0, x1, x2] st h := (mw_at mj_8_95).trans (z_if_eq (by decide) rfl)
theorem mj_8_98 : mc_P 8 98 = some (.aload_n 0, 1, 0, 0, 0) := by decide +kernel
theorem s_8_98 {x1 x2 : Option Value} {w : Value} : mw d 8 Q 98 [some w, x1, x2] (st) h = mv_a w (mw d 8 Q 99 [some w, x1, x2] (w :: st) h) := (mw_at mj_8_98).trans (z_aload_n rfl)
theorem mj_8_99 : mc_P 8 99 = some (.getfield 38, 3, 0, 13, 0) := by decide +kernel
theorem s_8_99 {x0 x1 x2 : Option Value} {o : Nat} : mw d 8 Q 99 [x0, x1, x2] (.ref o :: st) h = (mg h o 0 ∧ mw d 8 Q 102 [x0, x1, x2] (va_rf (mh_r h o 13) :: st) h) := (mw_at mj_8_99).trans (z_getr (by decide) (by decide) rfl)
theorem mj_8_102 : mc_P 8 102 = some (.iload_n 1, 1, 0, 0, 0) := by decide +kernel
theorem s_8_102 {x0 x2 : Option Value} {w : Value} : mw d 8 Q 102 [x0, some w, x2] (st) h = mv_i w (mw d 8 Q 103 [x0, some w, x2] (w :: st) h) := (mw_at mj_8_102).trans (z_iload_n rfl)
theorem mj_8_103 : mc_P 8 103 = some (.aaload, 1, 0, 0, 0) := by decide +kernel
theorem s_8_103 {x0 x1 x2 : Option Value} {o : Nat} {i : Int32} : mw d 8 Q 103 [x0, x1, x2] (.int i :: .ref o :: st) h = (mgr h o ∧ mx i (mh_l h o) ∧ mw d 8 Q 104 [x0, x1, x2] (mrd (mh_k h o) h o i.toNatClampNeg :: st) h) := (mw_at mj_8_103).trans (z_aald)
theorem mj_8_104 : mc_P 8 104 = some (.aload_n 0, 1, 0, 0, 0) := by decide +kernel
theorem s_8_104 {x1 x2 : Option Value} {w : Value} : mw d 8 Q 104 [some w, x1, x2] (st) h = mv_a w (mw d 8 Q 105 [some w, x1, x2] (w :: st) h) := (mw_at mj_8_104).trans (z_aload_n rfl)
theorem mj_8_105 : mc_P 8 105 = some (.getfield 32, 3, 0, 11, 0) := by decide +kernel
theorem s_8_105 {x0 x1 x2 : Option Value} {o : Nat} : mw d 8 Q 105 [x0, x1, x2] (.ref o :: st) h = (mg h o 0 ∧ mw d 8 Q 108 [x0, x1, x2] (va_rf (mh_r h o 11) :: st) h) := (mw_at mj_8_105).trans (z_getr (by decide) (by decide) rfl)
theorem mj_8_108 : mc_P 8 108 = some (.iload_n 1, 1, 0, 0, 0) := by decide +kernel
theorem s_8_108 {x0 x2 : Option Value} {w : Value} : mw d 8 Q 108 [x0, some w, x2] (st) h = mv_i w (mw d 8 Q 109 [x0, some w, x2] (w :: st) h) := (mw_at mj_8_108).trans (z_iload_n rfl)
theorem mj_8_109 : mc_P 8 109 = some (.aaload, 1, 0, 0, 0) := by decide +kernel
theorem s_8_109 {x0 x1 x2 : Option Value} {o : Nat} {i : Int32} : mw d 8 Q 109 [x0, x1, x2] (.int i :: .ref o :: st) h = (mgr h o ∧ mx i (mh_l h o) ∧ mw d 8 Q 110 [x0, x1, x2] (mrd (mh_k h o) h o i.toNatClampNeg :: st) h) := (mw_at mj_8_109).trans (z_aald)
theorem mj_8_110 : mc_P 8 110 = some (.invokevirtual 102, 3, 144, 8, 2) := by decide +kernel
theorem s_8_110 {x0 x1 x2 : Option Value} {o : Nat} {a1 : Value} : mw (d + 1) 8 Q 110 [x0, x1, x2] (a1 :: .ref o :: st) h = (mg h o 8 ∧ mca st 8 ∧ mca [.ref o, a1] 2 ∧ mcall d 144 [.ref o, a1] h (mK (d + 1) 8 Q 113 [x0, x1, x2] st)) := (mw_at mj_8_110).trans ((z_invv (As := [a1]) (by decide) rfl rfl).trans (congrArg (And _) (congrArg (And _) (mC_nl nl_144))))
theorem mj_8_113 : mc_P 8 113 = some (.aload_n 0, 1, 0, 0, 0) := by decide +kernel
theorem s_8_113 {x1 x2 : Option Value} {w : Value} : mw d 8 Q 113 [some w, x1, x2] (st) h = mv_a w (mw d 8 Q 114 [some w, x1, x2] (w :: st) h) := (mw_at mj_8_113).trans (z_aload_n rfl)
theorem mj_8_114 : mc_P 8 114 = some (.iload_n 1, 1, 0, 0, 0) := by decide +kernel
theorem s_8_114 {x0 x2 : Option Value} {w : Value} : mw d 8 Q 114 [x0, some w, x2] (st) h = mv_i w (mw d 8 Q 115 [x0, some w, x2] (w :: st) h) := (mw_at mj_8_114).trans (z_iload_n rfl)
theorem mj_8_115 : mc_P 8 115 = some (.invokevirtual 167, 3, 10, 0, 2) := by decide +kernel
theorem s_8_115 {x0 x1 x2 : Option Value} {o : Nat} {a1 : Value} : mw (d + 1) 8 Q 115 [x0, x1, x2] (a1 :: .ref o :: st) h = (mg h o 0 ∧ mca st 8 ∧ mca [.ref o, a1] 2 ∧ mcall d 10 [.ref o, a1] h (mK (d + 1) 8 Q 118 [x0, x1, x2] st)) := (mw_at mj_8_115).trans ((z_invv (As := [a1]) (by decide) rfl rfl).trans (congrArg (And _) (congrArg (And _) (mC_nl nl_10))))
theorem mj_8_118 : mc_P 8 118 = some (.goto 20, 3, 0, 0, 0) := by decide +kernel
theorem s_8_118 {x0 x1 x2 : Option Value} : mw d 8 Q 118 [x0, x1, x2] (st) h = mw d 8 Q 138 [x0, x1, x2] (st) h := (mw_at mj_8_118).trans (z_goto (by decide))
theorem mj_8_121 : mc_P 8 121 = some (.iload_n 2, 1, 0, 0, 0) := by decide +kernel
theorem s_8_121 {x0 x1 : Option Value} {w : Value} : mw d 8 Q 121 [x0, x1, some w] (st) h = mv_i w (mw d 8 Q 122 [x0, x1, some w] (w :: st) h) := (mw_at mj_8_121).trans (z_iload_n rfl)
theorem mj_8_122 : mc_P 8 122 = some (.ifCond .eq 11, 3, 0, 0, 0) := by decide +kernel
theorem s_8_122 {x0 x1 x2 : Option Value} {x : Int32} : mw d 8 Q 122 [x0, x1, x2] (.int x :: st) h = mB (x = 0) (mw d 8 Q) 133 125 [x0, x1, x2] st h := (mw_at mj_8_122).trans (z_if_eq (by decide) rfl)
theorem mj_8_125 : mc_P 8 125 = some (.aload_n 0, 1, 0, 0, 0) := by decide +kernel
theorem s_8_125 {x1 x2 : Option Value} {w : Value} : mw d 8 Q 125 [some w, x1, x2] (st) h = mv_a w (mw d 8 Q 126 [some w, x1, x2] (w :: st) h) := (mw_at mj_8_125).trans (z_aload_n rfl)
theorem mj_8_126 : mc_P 8 126 = some (.iload_n 1, 1, 0, 0, 0) := by decide +kernel
theorem s_8_126 {x0 x2 : Option Value} {w : Value} : mw d 8 Q 126 [x0, some w, x2] (st) h = mv_i w (mw d 8 Q 127 [x0, some w, x2] (w :: st) h) := (mw_at mj_8_126).trans (z_iload_n rfl)
theorem mj_8_127 : mc_P 8 127 = some (.invokevirtual 170, 3, 11, 0, 2) := by decide +kernel
theorem s_8_127 {x0 x1 x2 : Option Value} {o : Nat} {a1 : Value} : mw (d + 1) 8 Q 127 [x0, x1, x2] (a1 :: .ref o :: st) h = (mg h o 0 ∧ mca st 8 ∧ mca [.ref o, a1] 2 ∧ mcall d 11 [.ref o, a1] h (mK (d + 1) 8 Q 130 [x0, x1, x2] st)) := (mw_at mj_8_127).trans ((z_invv (As := [a1]) (by decide) rfl rfl).trans (congrArg (And _) (congrArg (And _) (mC_nl nl_11))))
theorem mj_8_130 : mc_P 8 130 = some (.goto 8, 3, 0, 0, 0) := by decide +kernel
theorem s_8_130 {x0 x1 x2 : Option Value} : mw d 8 Q 130 [x0, x1, x2] (st) h = mw d 8 Q 138 [x0, x1, x2] (st) h := (mw_at mj_8_130).trans (z_goto (by decide))
theorem mj_8_133 : mc_P 8 133 = some (.aload_n 0, 1, 0, 0, 0) := by decide +kernel
theorem s_8_133 {x1 x2 : Option Value} {w : Value} : mw d 8 Q 133 [some w, x1, x2] (st) h = mv_a w (mw d 8 Q 134 [some w, x1, x2] (w :: st) h) := (mw_at mj_8_133).trans (z_aload_n rfl)
theorem mj_8_134 : mc_P 8 134 = some (.iload_n 1, 1, 0, 0, 0) := by decide +kernel
theorem s_8_134 {x0 x2 : Option Value} {w : Value} : mw d 8 Q 134 [x0, some w, x2] (st) h = mv_i w (mw d 8 Q 135 [x0, some w, x2] (w :: st) h) := (mw_at mj_8_134).trans (z_iload_n rfl)
theorem mj_8_135 : mc_P 8 135 = some (.invokevirtual 173, 3, 9, 0, 2) := by decide +kernel
theorem s_8_135 {x0 x1 x2 : Option Value} {o : Nat} {a1 : Value} : mw (d + 1) 8 Q 135 [x0, x1, x2] (a1 :: .ref o :: st) h = (mg h o 0 ∧ mca st 8 ∧ mca [.ref o, a1] 2 ∧ mcall d 9 [.ref o, a1] h (mK (d + 1) 8 Q 138 [x0, x1, x2] st)) := (mw_at mj_8_135).trans ((z_invv (As := [a1]) (by decide) rfl rfl).trans (congrArg (And _) (congrArg (And _) (mC_nl nl_9))))
theorem mj_8_138 : mc_P 8 138 = some (.return_, 1, 0, 0, 0) := by decide +kernel
theorem s_8_138 {x0 x1 x2 : Option Value} : mw d 8 Q 138 [x0, x1, x2] ([]) h = Q none h := (mw_at mj_8_138).trans (z_vret)
theorem e_8 {a0 : Nat} {a1 : Int32} : mcall d 8 [.ref a0, .int a1] h Q = mw d 8 Q 0 [some (.ref a0), some (.int a1), none] [] h := by
  show mw d 8 Q 0 (me_en (mc_nl 8) _) [] h = _
  rw [nl_8]; rfl

/-! InvariantDesk$Analysis.climb(I)V -/
theorem mj_9_0 : mc_P 9 0 = some (.aload_n 0, 1, 0, 0, 0) := by decide +kernel
theorem s_9_0 {x1 : Option Value} {w : Value} : mw d 9 Q 0 [some w, x1] (st) h = mv_a w (mw d 9 Q 1 [some w, x1] (w :: st) h) := (mw_at mj_9_0).trans (z_aload_n rfl)
theorem mj_9_1 : mc_P 9 1 = some (.getfield 44, 3, 0, 15, 0) := by decide +kernel
theorem s_9_1 {x0 x1 : Option Value} {o : Nat} : mw d 9 Q 1 [x0, x1] (.ref o :: st) h = (mg h o 0 ∧ mw d 9 Q 4 [x0, x1] (va_rf (mh_r h o 15) :: st) h) := (mw_at mj_9_1).trans (z_getr (by decide) (by decide) rfl)
theorem mj_9_4 : mc_P 9 4 = some (.iload_n 1, 1, 0, 0, 0) := by decide +kernel
theorem s_9_4 {x0 : Option Value} {w : Value} : mw d 9 Q 4 [x0, some w] (st) h = mv_i w (mw d 9 Q 5 [x0, some w] (w :: st) h) := (mw_at mj_9_4).trans (z_iload_n rfl)
theorem mj_9_5 : mc_P 9 5 = some (.dup2, 1, 0, 0, 0) := by decide +kernel
theorem s_9_5 {x0 x1 : Option Value} {x : Int32} {w : Value} : mw d 9 Q 5 [x0, x1] (.int x :: w :: st) h = (w.category = 1 ∧ mw d 9 Q 6 [x0, x1] (.int x :: w :: .int x :: w :: st) h) := (mw_at mj_9_5).trans (z_dup2)
theorem s_9_5l {x0 x1 : Option Value} {x : Int64} {w : Value} : mw d 9 Q 5 [x0, x1] (.long x :: w :: st) h = mw d 9 Q 6 [x0, x1] (.long x :: .long x :: w :: st) h := (mw_at mj_9_5).trans (z_dup2l)
theorem mj_9_6 : mc_P 9 6 = some (.iaload, 1, 0, 0, 0) := by decide +kernel
theorem s_9_6 {x0 x1 : Option Value} {o : Nat} {i : Int32} : mw d 9 Q 6 [x0, x1] (.int i :: .ref o :: st) h = (mg h o 100 ∧ mx i (mh_l h o) ∧ mw d 9 Q 7 [x0, x1] (.int (mh_i h o i.toNatClampNeg) :: st) h) := (mw_at mj_9_6).trans (z_iald)
theorem s_9_6x {x0 x1 : Option Value} {i : Int32} : mw d 9 Q 6 [x0, x1] (.int i :: .retAddr 2 :: st) h = (mx i 24 ∧ mw d 9 Q 7 [x0, x1] (.int (mx_row.getD i.toNatClampNeg 0) :: st) h) := (mw_at mj_9_6).trans (z_iaX)
theorem mj_9_7 : mc_P 9 7 = some (.iconst 1, 1, 0, 0, 0) := by decide +kernel
theorem s_9_7 {x0 x1 : Option Value} : mw d 9 Q 7 [x0, x1] (st) h = mw d 9 Q 8 [x0, x1] (.int 1 :: st) h := (mw_at mj_9_7).trans (z_iconst (by decide))
theorem mj_9_8 : mc_P 9 8 = some (.iadd, 1, 0, 0, 0) := by decide +kernel
theorem s_9_8 {x0 x1 : Option Value} {x w : Int32} : mw d 9 Q 8 [x0, x1] (.int w :: .int x :: st) h = mw d 9 Q 9 [x0, x1] (.int (x + w) :: st) h := (mw_at mj_9_8).trans (z_iadd)
theorem mj_9_9 : mc_P 9 9 = some (.iastore, 1, 0, 0, 0) := by decide +kernel
theorem s_9_9 {x0 x1 : Option Value} {o : Nat} {i w : Int32} : mw d 9 Q 9 [x0, x1] (.int w :: .int i :: .ref o :: st) h = (mg h o 100 ∧ mx i (mh_l h o) ∧ mw d 9 Q 10 [x0, x1] (st) (mh_si h o i.toNatClampNeg w)) := (mw_at mj_9_9).trans (z_iast)
theorem mj_9_10 : mc_P 9 10 = some (.aload_n 0, 1, 0, 0, 0) := by decide +kernel
theorem s_9_10 {x1 : Option Value} {w : Value} : mw d 9 Q 10 [some w, x1] (st) h = mv_a w (mw d 9 Q 11 [some w, x1] (w :: st) h) := (mw_at mj_9_10).trans (z_aload_n rfl)
theorem mj_9_11 : mc_P 9 11 = some (.getfield 44, 3, 0, 15, 0) := by decide +kernel
theorem s_9_11 {x0 x1 : Option Value} {o : Nat} : mw d 9 Q 11 [x0, x1] (.ref o :: st) h = (mg h o 0 ∧ mw d 9 Q 14 [x0, x1] (va_rf (mh_r h o 15) :: st) h) := (mw_at mj_9_11).trans (z_getr (by decide) (by decide) rfl)
theorem mj_9_14 : mc_P 9 14 = some (.iload_n 1, 1, 0, 0, 0) := by decide +kernel
theorem s_9_14 {x0 : Option Value} {w : Value} : mw d 9 Q 14 [x0, some w] (st) h = mv_i w (mw d 9 Q 15 [x0, some w] (w :: st) h) := (mw_at mj_9_14).trans (z_iload_n rfl)
theorem mj_9_15 : mc_P 9 15 = some (.iaload, 1, 0, 0, 0) := by decide +kernel
theorem s_9_15 {x0 x1 : Option Value} {o : Nat} {i : Int32} : mw d 9 Q 15 [x0, x1] (.int i :: .ref o :: st) h = (mg h o 100 ∧ mx i (mh_l h o) ∧ mw d 9 Q 16 [x0, x1] (.int (mh_i h o i.toNatClampNeg) :: st) h) := (mw_at mj_9_15).trans (z_iald)
theorem s_9_15x {x0 x1 : Option Value} {i : Int32} : mw d 9 Q 15 [x0, x1] (.int i :: .retAddr 2 :: st) h = (mx i 24 ∧ mw d 9 Q 16 [x0, x1] (.int (mx_row.getD i.toNatClampNeg 0) :: st) h) := (mw_at mj_9_15).trans (z_iaX)
theorem mj_9_16 : mc_P 9 16 = some (.iconst 2, 1, 0, 0, 0) := by decide +kernel
theorem s_9_16 {x0 x1 : Option Value} : mw d 9 Q 16 [x0, x1] (st) h = mw d 9 Q 17 [x0, x1] (.int 2 :: st) h := (mw_at mj_9_16).trans (z_iconst (by decide))
theorem mj_9_17 : mc_P 9 17 = some (.if_icmp .gt 34, 3, 0, 0, 0) := by decide +kernel
theorem s_9_17 {x0 x1 : Option Value} {x w : Int32} : mw d 9 Q 17 [x0, x1] (.int w :: .int x :: st) h = mB (w < x) (mw d 9 Q) 51 20 [x0, x1] st h := (mw_at mj_9_17).trans (z_icmp_gt (by decide) rfl)
theorem mj_9_20 : mc_P 9 20 = some (.aload_n 0, 1, 0, 0, 0) := by decide +kernel
theorem s_9_20 {x1 : Option Value} {w : Value} : mw d 9 Q 20 [some w, x1] (st) h = mv_a w (mw d 9 Q 21 [some w, x1] (w :: st) h) := (mw_at mj_9_20).trans (z_aload_n rfl)
theorem mj_9_21 : mc_P 9 21 = some (.getfield 38, 3, 0, 13, 0) := by decide +kernel
theorem s_9_21 {x0 x1 : Option Value} {o : Nat} : mw d 9 Q 21 [x0, x1] (.ref o :: st) h = (mg h o 0 ∧ mw d 9 Q 24 [x0, x1] (va_rf (mh_r h o 13) :: st) h) := (mw_at mj_9_21).trans (z_getr (by decide) (by decide) rfl)
theorem mj_9_24 : mc_P 9 24 = some (.iload_n 1, 1, 0, 0, 0) := by decide +kernel
theorem s_9_24 {x0 : Option Value} {w : Value} : mw d 9 Q 24 [x0, some w] (st) h = mv_i w (mw d 9 Q 25 [x0, some w] (w :: st) h) := (mw_at mj_9_24).trans (z_iload_n rfl)
theorem mj_9_25 : mc_P 9 25 = some (.aaload, 1, 0, 0, 0) := by decide +kernel
theorem s_9_25 {x0 x1 : Option Value} {o : Nat} {i : Int32} : mw d 9 Q 25 [x0, x1] (.int i :: .ref o :: st) h = (mgr h o ∧ mx i (mh_l h o) ∧ mw d 9 Q 26 [x0, x1] (mrd (mh_k h o) h o i.toNatClampNeg :: st) h) := (mw_at mj_9_25).trans (z_aald)
theorem mj_9_26 : mc_P 9 26 = some (.aload_n 0, 1, 0, 0, 0) := by decide +kernel
theorem s_9_26 {x1 : Option Value} {w : Value} : mw d 9 Q 26 [some w, x1] (st) h = mv_a w (mw d 9 Q 27 [some w, x1] (w :: st) h) := (mw_at mj_9_26).trans (z_aload_n rfl)
theorem mj_9_27 : mc_P 9 27 = some (.getfield 22, 3, 0, 6, 0) := by decide +kernel
theorem s_9_27 {x0 x1 : Option Value} {o : Nat} : mw d 9 Q 27 [x0, x1] (.ref o :: st) h = (mg h o 0 ∧ mw d 9 Q 30 [x0, x1] (va_rf (mh_r h o 6) :: st) h) := (mw_at mj_9_27).trans (z_getr (by decide) (by decide) rfl)
theorem mj_9_30 : mc_P 9 30 = some (.invokevirtual 160, 3, 151, 8, 2) := by decide +kernel
theorem s_9_30 {x0 x1 : Option Value} {o : Nat} {a1 : Value} : mw (d + 1) 9 Q 30 [x0, x1] (a1 :: .ref o :: st) h = (mg h o 8 ∧ mca st 8 ∧ mca [.ref o, a1] 3 ∧ mcall d 151 [.ref o, a1] h (mK (d + 1) 9 Q 33 [x0, x1] st)) := (mw_at mj_9_30).trans ((z_invv (As := [a1]) (by decide) rfl rfl).trans (congrArg (And _) (congrArg (And _) (mC_nl nl_151))))
theorem mj_9_33 : mc_P 9 33 = some (.aload_n 0, 1, 0, 0, 0) := by decide +kernel
theorem s_9_33 {x1 : Option Value} {w : Value} : mw d 9 Q 33 [some w, x1] (st) h = mv_a w (mw d 9 Q 34 [some w, x1] (w :: st) h) := (mw_at mj_9_33).trans (z_aload_n rfl)
theorem mj_9_34 : mc_P 9 34 = some (.getfield 41, 3, 0, 14, 0) := by decide +kernel
theorem s_9_34 {x0 x1 : Option Value} {o : Nat} : mw d 9 Q 34 [x0, x1] (.ref o :: st) h = (mg h o 0 ∧ mw d 9 Q 37 [x0, x1] (va_rf (mh_r h o 14) :: st) h) := (mw_at mj_9_34).trans (z_getr (by decide) (by decide) rfl)
theorem mj_9_37 : mc_P 9 37 = some (.iload_n 1, 1, 0, 0, 0) := by decide +kernel
theorem s_9_37 {x0 : Option Value} {w : Value} : mw d 9 Q 37 [x0, some w] (st) h = mv_i w (mw d 9 Q 38 [x0, some w] (w :: st) h) := (mw_at mj_9_37).trans (z_iload_n rfl)
theorem mj_9_38 : mc_P 9 38 = some (.aaload, 1, 0, 0, 0) := by decide +kernel
theorem s_9_38 {x0 x1 : Option Value} {o : Nat} {i : Int32} : mw d 9 Q 38 [x0, x1] (.int i :: .ref o :: st) h = (mgr h o ∧ mx i (mh_l h o) ∧ mw d 9 Q 39 [x0, x1] (mrd (mh_k h o) h o i.toNatClampNeg :: st) h) := (mw_at mj_9_38).trans (z_aald)
theorem mj_9_39 : mc_P 9 39 = some (.aload_n 0, 1, 0, 0, 0) := by decide +kernel
theorem s_9_39 {x1 : Option Value} {w : Value} : mw d 9 Q 39 [some w, x1] (st) h = mv_a w (mw d 9 Q 40 [some w, x1] (w :: st) h) := (mw_at mj_9_39).trans (z_aload_n rfl)
theorem mj_9_40 : mc_P 9 40 = some (.getfield 38, 3, 0, 13, 0) := by decide +kernel
theorem s_9_40 {x0 x1 : Option Value} {o : Nat} : mw d 9 Q 40 [x0, x1] (.ref o :: st) h = (mg h o 0 ∧ mw d 9 Q 43 [x0, x1] (va_rf (mh_r h o 13) :: st) h) := (mw_at mj_9_40).trans (z_getr (by decide) (by decide) rfl)
theorem mj_9_43 : mc_P 9 43 = some (.iload_n 1, 1, 0, 0, 0) := by decide +kernel
theorem s_9_43 {x0 : Option Value} {w : Value} : mw d 9 Q 43 [x0, some w] (st) h = mv_i w (mw d 9 Q 44 [x0, some w] (w :: st) h) := (mw_at mj_9_43).trans (z_iload_n rfl)
theorem mj_9_44 : mc_P 9 44 = some (.aaload, 1, 0, 0, 0) := by decide +kernel
theorem s_9_44 {x0 x1 : Option Value} {o : Nat} {i : Int32} : mw d 9 Q 44 [x0, x1] (.int i :: .ref o :: st) h = (mgr h o ∧ mx i (mh_l h o) ∧ mw d 9 Q 45 [x0, x1] (mrd (mh_k h o) h o i.toNatClampNeg :: st) h) := (mw_at mj_9_44).trans (z_aald)
theorem mj_9_45 : mc_P 9 45 = some (.invokevirtual 102, 3, 144, 8, 2) := by decide +kernel
theorem s_9_45 {x0 x1 : Option Value} {o : Nat} {a1 : Value} : mw (d + 1) 9 Q 45 [x0, x1] (a1 :: .ref o :: st) h = (mg h o 8 ∧ mca st 8 ∧ mca [.ref o, a1] 2 ∧ mcall d 144 [.ref o, a1] h (mK (d + 1) 9 Q 48 [x0, x1] st)) := (mw_at mj_9_45).trans ((z_invv (As := [a1]) (by decide) rfl rfl).trans (congrArg (And _) (congrArg (And _) (mC_nl nl_144))))
theorem mj_9_48 : mc_P 9 48 = some (.goto 56, 3, 0, 0, 0) := by decide +kernel
theorem s_9_48 {x0 x1 : Option Value} : mw d 9 Q 48 [x0, x1] (st) h = mw d 9 Q 104 [x0, x1] (st) h := (mw_at mj_9_48).trans (z_goto (by decide))
theorem mj_9_51 : mc_P 9 51 = some (.aload_n 0, 1, 0, 0, 0) := by decide +kernel
theorem s_9_51 {x1 : Option Value} {w : Value} : mw d 9 Q 51 [some w, x1] (st) h = mv_a w (mw d 9 Q 52 [some w, x1] (w :: st) h) := (mw_at mj_9_51).trans (z_aload_n rfl)
theorem mj_9_52 : mc_P 9 52 = some (.getfield 41, 3, 0, 14, 0) := by decide +kernel
theorem s_9_52 {x0 x1 : Option Value} {o : Nat} : mw d 9 Q 52 [x0, x1] (.ref o :: st) h = (mg h o 0 ∧ mw d 9 Q 55 [x0, x1] (va_rf (mh_r h o 14) :: st) h) := (mw_at mj_9_52).trans (z_getr (by decide) (by decide) rfl)
theorem mj_9_55 : mc_P 9 55 = some (.iload_n 1, 1, 0, 0, 0) := by decide +kernel
theorem s_9_55 {x0 : Option Value} {w : Value} : mw d 9 Q 55 [x0, some w] (st) h = mv_i w (mw d 9 Q 56 [x0, some w] (w :: st) h) := (mw_at mj_9_55).trans (z_iload_n rfl)
theorem mj_9_56 : mc_P 9 56 = some (.aaload, 1, 0, 0, 0) := by decide +kernel
theorem s_9_56 {x0 x1 : Option Value} {o : Nat} {i : Int32} : mw d 9 Q 56 [x0, x1] (.int i :: .ref o :: st) h = (mgr h o ∧ mx i (mh_l h o) ∧ mw d 9 Q 57 [x0, x1] (mrd (mh_k h o) h o i.toNatClampNeg :: st) h) := (mw_at mj_9_56).trans (z_aald)
theorem mj_9_57 : mc_P 9 57 = some (.aload_n 0, 1, 0, 0, 0) := by decide +kernel
theorem s_9_57 {x1 : Option Value} {w : Value} : mw d 9 Q 57 [some w, x1] (st) h = mv_a w (mw d 9 Q 58 [some w, x1] (w :: st) h) := (mw_at mj_9_57).trans (z_aload_n rfl)
theorem mj_9_58 : mc_P 9 58 = some (.getfield 22, 3, 0, 6, 0) := by decide +kernel
theorem s_9_58 {x0 x1 : Option Value} {o : Nat} : mw d 9 Q 58 [x0, x1] (.ref o :: st) h = (mg h o 0 ∧ mw d 9 Q 61 [x0, x1] (va_rf (mh_r h o 6) :: st) h) := (mw_at mj_9_58).trans (z_getr (by decide) (by decide) rfl)
theorem mj_9_61 : mc_P 9 61 = some (.invokevirtual 176, 3, 152, 8, 2) := by decide +kernel
theorem s_9_61 {x0 x1 : Option Value} {o : Nat} {a1 : Value} : mw (d + 1) 9 Q 61 [x0, x1] (a1 :: .ref o :: st) h = (mg h o 8 ∧ mca st 8 ∧ mca [.ref o, a1] 5 ∧ mcall d 152 [.ref o, a1] h (mK (d + 1) 9 Q 64 [x0, x1] st)) := (mw_at mj_9_61).trans ((z_invv (As := [a1]) (by decide) rfl rfl).trans (congrArg (And _) (congrArg (And _) (mC_nl nl_152))))
theorem mj_9_64 : mc_P 9 64 = some (.aload_n 0, 1, 0, 0, 0) := by decide +kernel
theorem s_9_64 {x1 : Option Value} {w : Value} : mw d 9 Q 64 [some w, x1] (st) h = mv_a w (mw d 9 Q 65 [some w, x1] (w :: st) h) := (mw_at mj_9_64).trans (z_aload_n rfl)
theorem mj_9_65 : mc_P 9 65 = some (.getfield 38, 3, 0, 13, 0) := by decide +kernel
theorem s_9_65 {x0 x1 : Option Value} {o : Nat} : mw d 9 Q 65 [x0, x1] (.ref o :: st) h = (mg h o 0 ∧ mw d 9 Q 68 [x0, x1] (va_rf (mh_r h o 13) :: st) h) := (mw_at mj_9_65).trans (z_getr (by decide) (by decide) rfl)
theorem mj_9_68 : mc_P 9 68 = some (.iload_n 1, 1, 0, 0, 0) := by decide +kernel
theorem s_9_68 {x0 : Option Value} {w : Value} : mw d 9 Q 68 [x0, some w] (st) h = mv_i w (mw d 9 Q 69 [x0, some w] (w :: st) h) := (mw_at mj_9_68).trans (z_iload_n rfl)
theorem mj_9_69 : mc_P 9 69 = some (.aaload, 1, 0, 0, 0) := by decide +kernel
theorem s_9_69 {x0 x1 : Option Value} {o : Nat} {i : Int32} : mw d 9 Q 69 [x0, x1] (.int i :: .ref o :: st) h = (mgr h o ∧ mx i (mh_l h o) ∧ mw d 9 Q 70 [x0, x1] (mrd (mh_k h o) h o i.toNatClampNeg :: st) h) := (mw_at mj_9_69).trans (z_aald)
theorem mj_9_70 : mc_P 9 70 = some (.aload_n 0, 1, 0, 0, 0) := by decide +kernel
theorem s_9_70 {x1 : Option Value} {w : Value} : mw d 9 Q 70 [some w, x1] (st) h = mv_a w (mw d 9 Q 71 [some w, x1] (w :: st) h) := (mw_at mj_9_70).trans (z_aload_n rfl)
theorem mj_9_71 : mc_P 9 71 = some (.getfield 41, 3, 0, 14, 0) := by decide +kernel
theorem s_9_71 {x0 x1 : Option Value} {o : Nat} : mw d 9 Q 71 [x0, x1] (.ref o :: st) h = (mg h o 0 ∧ mw d 9 Q 74 [x0, x1] (va_rf (mh_r h o 14) :: st) h) := (mw_at mj_9_71).trans (z_getr (by decide) (by decide) rfl)
theorem mj_9_74 : mc_P 9 74 = some (.iload_n 1, 1, 0, 0, 0) := by decide +kernel
theorem s_9_74 {x0 : Option Value} {w : Value} : mw d 9 Q 74 [x0, some w] (st) h = mv_i w (mw d 9 Q 75 [x0, some w] (w :: st) h) := (mw_at mj_9_74).trans (z_iload_n rfl)
theorem mj_9_75 : mc_P 9 75 = some (.aaload, 1, 0, 0, 0) := by decide +kernel
theorem s_9_75 {x0 x1 : Option Value} {o : Nat} {i : Int32} : mw d 9 Q 75 [x0, x1] (.int i :: .ref o :: st) h = (mgr h o ∧ mx i (mh_l h o) ∧ mw d 9 Q 76 [x0, x1] (mrd (mh_k h o) h o i.toNatClampNeg :: st) h) := (mw_at mj_9_75).trans (z_aald)
theorem mj_9_76 : mc_P 9 76 = some (.invokevirtual 102, 3, 144, 8, 2) := by decide +kernel
theorem s_9_76 {x0 x1 : Option Value} {o : Nat} {a1 : Value} : mw (d + 1) 9 Q 76 [x0, x1] (a1 :: .ref o :: st) h = (mg h o 8 ∧ mca st 8 ∧ mca [.ref o, a1] 2 ∧ mcall d 144 [.ref o, a1] h (mK (d + 1) 9 Q 79 [x0, x1] st)) := (mw_at mj_9_76).trans ((z_invv (As := [a1]) (by decide) rfl rfl).trans (congrArg (And _) (congrArg (And _) (mC_nl nl_144))))
theorem mj_9_79 : mc_P 9 79 = some (.aload_n 0, 1, 0, 0, 0) := by decide +kernel
theorem s_9_79 {x1 : Option Value} {w : Value} : mw d 9 Q 79 [some w, x1] (st) h = mv_a w (mw d 9 Q 80 [some w, x1] (w :: st) h) := (mw_at mj_9_79).trans (z_aload_n rfl)
theorem mj_9_80 : mc_P 9 80 = some (.getfield 38, 3, 0, 13, 0) := by decide +kernel
theorem s_9_80 {x0 x1 : Option Value} {o : Nat} : mw d 9 Q 80 [x0, x1] (.ref o :: st) h = (mg h o 0 ∧ mw d 9 Q 83 [x0, x1] (va_rf (mh_r h o 13) :: st) h) := (mw_at mj_9_80).trans (z_getr (by decide) (by decide) rfl)
theorem mj_9_83 : mc_P 9 83 = some (.iload_n 1, 1, 0, 0, 0) := by decide +kernel
theorem s_9_83 {x0 : Option Value} {w : Value} : mw d 9 Q 83 [x0, some w] (st) h = mv_i w (mw d 9 Q 84 [x0, some w] (w :: st) h) := (mw_at mj_9_83).trans (z_iload_n rfl)
theorem mj_9_84 : mc_P 9 84 = some (.aaload, 1, 0, 0, 0) := by decide +kernel
theorem s_9_84 {x0 x1 : Option Value} {o : Nat} {i : Int32} : mw d 9 Q 84 [x0, x1] (.int i :: .ref o :: st) h = (mgr h o ∧ mx i (mh_l h o) ∧ mw d 9 Q 85 [x0, x1] (mrd (mh_k h o) h o i.toNatClampNeg :: st) h) := (mw_at mj_9_84).trans (z_aald)
theorem mj_9_85 : mc_P 9 85 = some (.invokevirtual 179, 3, 148, 8, 1) := by decide +kernel
theorem s_9_85 {x0 x1 : Option Value} {o : Nat} : mw (d + 1) 9 Q 85 [x0, x1] (.ref o :: st) h = (mg h o 8 ∧ mca st 8 ∧ mca [.ref o] 1 ∧ mcall d 148 [.ref o] h (mK (d + 1) 9 Q 88 [x0, x1] st)) := (mw_at mj_9_85).trans ((z_invv (As := []) (by decide) rfl rfl).trans (congrArg (And _) (congrArg (And _) (mC_nl nl_148))))
theorem mj_9_88 : mc_P 9 88 = some (.aload_n 0, 1, 0, 0, 0) := by decide +kernel
theorem s_9_88 {x1 : Option Value} {w : Value} : mw d 9 Q 88 [some w, x1] (st) h = mv_a w (mw d 9 Q 89 [some w, x1] (w :: st) h) := (mw_at mj_9_88).trans (z_aload_n rfl)
theorem mj_9_89 : mc_P 9 89 = some (.getfield 38, 3, 0, 13, 0) := by decide +kernel
theorem s_9_89 {x0 x1 : Option Value} {o : Nat} : mw d 9 Q 89 [x0, x1] (.ref o :: st) h = (mg h o 0 ∧ mw d 9 Q 92 [x0, x1] (va_rf (mh_r h o 13) :: st) h) := (mw_at mj_9_89).trans (z_getr (by decide) (by decide) rfl)
theorem mj_9_92 : mc_P 9 92 = some (.iload_n 1, 1, 0, 0, 0) := by decide +kernel
theorem s_9_92 {x0 : Option Value} {w : Value} : mw d 9 Q 92 [x0, some w] (st) h = mv_i w (mw d 9 Q 93 [x0, some w] (w :: st) h) := (mw_at mj_9_92).trans (z_iload_n rfl)
theorem mj_9_93 : mc_P 9 93 = some (.aaload, 1, 0, 0, 0) := by decide +kernel
theorem s_9_93 {x0 x1 : Option Value} {o : Nat} {i : Int32} : mw d 9 Q 93 [x0, x1] (.int i :: .ref o :: st) h = (mgr h o ∧ mx i (mh_l h o) ∧ mw d 9 Q 94 [x0, x1] (mrd (mh_k h o) h o i.toNatClampNeg :: st) h) := (mw_at mj_9_93).trans (z_aald)
theorem mj_9_94 : mc_P 9 94 = some (.aload_n 0, 1, 0, 0, 0) := by decide +kernel
theorem s_9_94 {x1 : Option Value} {w : Value} : mw d 9 Q 94 [some w, x1] (st) h = mv_a w (mw d 9 Q 95 [some w, x1] (w :: st) h) := (mw_at mj_9_94).trans (z_aload_n rfl)
theorem mj_9_95 : mc_P 9 95 = some (.getfield 54, 3, 0, 5, 0) := by decide +kernel
theorem s_9_95 {x0 x1 : Option Value} {o : Nat} : mw d 9 Q 95 [x0, x1] (.ref o :: st) h = (mg h o 0 ∧ mw d 9 Q 98 [x0, x1] (va_rf (mh_r h o 5) :: st) h) := (mw_at mj_9_95).trans (z_getr (by decide) (by decide) rfl)
theorem mj_9_98 : mc_P 9 98 = some (.getfield 182, 3, 1, 7, 0) := by decide +kernel
theorem s_9_98 {x0 x1 : Option Value} {o : Nat} : mw d 9 Q 98 [x0, x1] (.ref o :: st) h = (mg h o 1 ∧ mw d 9 Q 101 [x0, x1] (va_rf (mh_r h o 7) :: st) h) := (mw_at mj_9_98).trans (z_getr (by decide) (by decide) rfl)
theorem mj_9_101 : mc_P 9 101 = some (.invokevirtual 186, 3, 159, 8, 2) := by decide +kernel
theorem s_9_101 {x0 x1 : Option Value} {o : Nat} {a1 : Value} : mw (d + 1) 9 Q 101 [x0, x1] (a1 :: .ref o :: st) h = (mg h o 8 ∧ mca st 8 ∧ mca [.ref o, a1] 3 ∧ mcall d 159 [.ref o, a1] h (mK (d + 1) 9 Q 104 [x0, x1] st)) := (mw_at mj_9_101).trans ((z_invv (As := [a1]) (by decide) rfl rfl).trans (congrArg (And _) (congrArg (And _) (mC_nl nl_159))))
theorem mj_9_104 : mc_P 9 104 = some (.aload_n 0, 1, 0, 0, 0) := by decide +kernel
theorem s_9_104 {x1 : Option Value} {w : Value} : mw d 9 Q 104 [some w, x1] (st) h = mv_a w (mw d 9 Q 105 [some w, x1] (w :: st) h) := (mw_at mj_9_104).trans (z_aload_n rfl)
theorem mj_9_105 : mc_P 9 105 = some (.getfield 22, 3, 0, 6, 0) := by decide +kernel
theorem s_9_105 {x0 x1 : Option Value} {o : Nat} : mw d 9 Q 105 [x0, x1] (.ref o :: st) h = (mg h o 0 ∧ mw d 9 Q 108 [x0, x1] (va_rf (mh_r h o 6) :: st) h) := (mw_at mj_9_105).trans (z_getr (by decide) (by decide) rfl)
theorem mj_9_108 : mc_P 9 108 = some (.aload_n 0, 1, 0, 0, 0) := by decide +kernel
theorem s_9_108 {x1 : Option Value} {w : Value} : mw d 9 Q 108 [some w, x1] (st) h = mv_a w (mw d 9 Q 109 [some w, x1] (w :: st) h) := (mw_at mj_9_108).trans (z_aload_n rfl)
theorem mj_9_109 : mc_P 9 109 = some (.getfield 38, 3, 0, 13, 0) := by decide +kernel
theorem s_9_109 {x0 x1 : Option Value} {o : Nat} : mw d 9 Q 109 [x0, x1] (.ref o :: st) h = (mg h o 0 ∧ mw d 9 Q 112 [x0, x1] (va_rf (mh_r h o 13) :: st) h) := (mw_at mj_9_109).trans (z_getr (by decide) (by decide) rfl)
theorem mj_9_112 : mc_P 9 112 = some (.iload_n 1, 1, 0, 0, 0) := by decide +kernel
theorem s_9_112 {x0 : Option Value} {w : Value} : mw d 9 Q 112 [x0, some w] (st) h = mv_i w (mw d 9 Q 113 [x0, some w] (w :: st) h) := (mw_at mj_9_112).trans (z_iload_n rfl)
theorem mj_9_113 : mc_P 9 113 = some (.aaload, 1, 0, 0, 0) := by decide +kernel
theorem s_9_113 {x0 x1 : Option Value} {o : Nat} {i : Int32} : mw d 9 Q 113 [x0, x1] (.int i :: .ref o :: st) h = (mgr h o ∧ mx i (mh_l h o) ∧ mw d 9 Q 114 [x0, x1] (mrd (mh_k h o) h o i.toNatClampNeg :: st) h) := (mw_at mj_9_113).trans (z_aald)
theorem mj_9_114 : mc_P 9 114 = some (.invokevirtual 102, 3, 144, 8, 2) := by decide +kernel
theorem s_9_114 {x0 x1 : Option Value} {o : Nat} {a1 : Value} : mw (d + 1) 9 Q 114 [x0, x1] (a1 :: .ref o :: st) h = (mg h o 8 ∧ mca st 8 ∧ mca [.ref o, a1] 2 ∧ mcall d 144 [.ref o, a1] h (mK (d + 1) 9 Q 117 [x0, x1] st)) := (mw_at mj_9_114).trans ((z_invv (As := [a1]) (by decide) rfl rfl).trans (congrArg (And _) (congrArg (And _) (mC_nl nl_144))))
theorem mj_9_117 : mc_P 9 117 = some (.return_, 1, 0, 0, 0) := by decide +kernel
theorem s_9_117 {x0 x1 : Option Value} : mw d 9 Q 117 [x0, x1] ([]) h = Q none h := (mw_at mj_9_117).trans (z_vret)
theorem e_9 {a0 : Nat} {a1 : Int32} : mcall d 9 [.ref a0, .int a1] h Q = mw d 9 Q 0 [some (.ref a0), some (.int a1)] [] h := by
  show mw d 9 Q 0 (me_en (mc_nl 9) _) [] h = _
  rw [nl_9]; rfl

/-! InvariantDesk$Analysis.tryLess(I)V -/
theorem mj_10_0 : mc_P 10 0 = some (.aload_n 0, 1, 0, 0, 0) := by decide +kernel
theorem s_10_0 {x1 : Option Value} {w : Value} : mw d 10 Q 0 [some w, x1] (st) h = mv_a w (mw d 10 Q 1 [some w, x1] (w :: st) h) := (mw_at mj_10_0).trans (z_aload_n rfl)
theorem mj_10_1 : mc_P 10 1 = some (.getfield 47, 3, 0, 16, 0) := by decide +kernel
theorem s_10_1 {x0 x1 : Option Value} {o : Nat} : mw d 10 Q 1 [x0, x1] (.ref o :: st) h = (mg h o 0 ∧ mw d 10 Q 4 [x0, x1] (va_rf (mh_r h o 16) :: st) h) := (mw_at mj_10_1).trans (z_getr (by decide) (by decide) rfl)
theorem mj_10_4 : mc_P 10 4 = some (.iload_n 1, 1, 0, 0, 0) := by decide +kernel
theorem s_10_4 {x0 : Option Value} {w : Value} : mw d 10 Q 4 [x0, some w] (st) h = mv_i w (mw d 10 Q 5 [x0, some w] (w :: st) h) := (mw_at mj_10_4).trans (z_iload_n rfl)
theorem mj_10_5 : mc_P 10 5 = some (.iaload, 1, 0, 0, 0) := by decide +kernel
theorem s_10_5 {x0 x1 : Option Value} {o : Nat} {i : Int32} : mw d 10 Q 5 [x0, x1] (.int i :: .ref o :: st) h = (mg h o 100 ∧ mx i (mh_l h o) ∧ mw d 10 Q 6 [x0, x1] (.int (mh_i h o i.toNatClampNeg) :: st) h) := (mw_at mj_10_5).trans (z_iald)
theorem s_10_5x {x0 x1 : Option Value} {i : Int32} : mw d 10 Q 5 [x0, x1] (.int i :: .retAddr 2 :: st) h = (mx i 24 ∧ mw d 10 Q 6 [x0, x1] (.int (mx_row.getD i.toNatClampNeg 0) :: st) h) := (mw_at mj_10_5).trans (z_iaX)
theorem mj_10_6 : mc_P 10 6 = some (.iconst 2, 1, 0, 0, 0) := by decide +kernel
theorem s_10_6 {x0 x1 : Option Value} : mw d 10 Q 6 [x0, x1] (st) h = mw d 10 Q 7 [x0, x1] (.int 2 :: st) h := (mw_at mj_10_6).trans (z_iconst (by decide))
theorem mj_10_7 : mc_P 10 7 = some (.if_icmp .ge 52, 3, 0, 0, 0) := by decide +kernel
theorem s_10_7 {x0 x1 : Option Value} {x w : Int32} : mw d 10 Q 7 [x0, x1] (.int w :: .int x :: st) h = mB (w ≤ x) (mw d 10 Q) 59 10 [x0, x1] st h := (mw_at mj_10_7).trans (z_icmp_ge (by decide) rfl)
theorem mj_10_10 : mc_P 10 10 = some (.aload_n 0, 1, 0, 0, 0) := by decide +kernel
theorem s_10_10 {x1 : Option Value} {w : Value} : mw d 10 Q 10 [some w, x1] (st) h = mv_a w (mw d 10 Q 11 [some w, x1] (w :: st) h) := (mw_at mj_10_10).trans (z_aload_n rfl)
theorem mj_10_11 : mc_P 10 11 = some (.getfield 22, 3, 0, 6, 0) := by decide +kernel
theorem s_10_11 {x0 x1 : Option Value} {o : Nat} : mw d 10 Q 11 [x0, x1] (.ref o :: st) h = (mg h o 0 ∧ mw d 10 Q 14 [x0, x1] (va_rf (mh_r h o 6) :: st) h) := (mw_at mj_10_11).trans (z_getr (by decide) (by decide) rfl)
theorem mj_10_14 : mc_P 10 14 = some (.aload_n 0, 1, 0, 0, 0) := by decide +kernel
theorem s_10_14 {x1 : Option Value} {w : Value} : mw d 10 Q 14 [some w, x1] (st) h = mv_a w (mw d 10 Q 15 [some w, x1] (w :: st) h) := (mw_at mj_10_14).trans (z_aload_n rfl)
theorem mj_10_15 : mc_P 10 15 = some (.getfield 38, 3, 0, 13, 0) := by decide +kernel
theorem s_10_15 {x0 x1 : Option Value} {o : Nat} : mw d 10 Q 15 [x0, x1] (.ref o :: st) h = (mg h o 0 ∧ mw d 10 Q 18 [x0, x1] (va_rf (mh_r h o 13) :: st) h) := (mw_at mj_10_15).trans (z_getr (by decide) (by decide) rfl)
theorem mj_10_18 : mc_P 10 18 = some (.iload_n 1, 1, 0, 0, 0) := by decide +kernel
theorem s_10_18 {x0 : Option Value} {w : Value} : mw d 10 Q 18 [x0, some w] (st) h = mv_i w (mw d 10 Q 19 [x0, some w] (w :: st) h) := (mw_at mj_10_18).trans (z_iload_n rfl)
theorem mj_10_19 : mc_P 10 19 = some (.aaload, 1, 0, 0, 0) := by decide +kernel
theorem s_10_19 {x0 x1 : Option Value} {o : Nat} {i : Int32} : mw d 10 Q 19 [x0, x1] (.int i :: .ref o :: st) h = (mgr h o ∧ mx i (mh_l h o) ∧ mw d 10 Q 20 [x0, x1] (mrd (mh_k h o) h o i.toNatClampNeg :: st) h) := (mw_at mj_10_19).trans (z_aald)
theorem mj_10_20 : mc_P 10 20 = some (.invokevirtual 190, 3, 150, 8, 2) := by decide +kernel
theorem s_10_20 {x0 x1 : Option Value} {o : Nat} {a1 : Value} : mw (d + 1) 10 Q 20 [x0, x1] (a1 :: .ref o :: st) h = (mg h o 8 ∧ mca st 8 ∧ mca [.ref o, a1] 2 ∧ mcall d 150 [.ref o, a1] h (mK (d + 1) 10 Q 23 [x0, x1] st)) := (mw_at mj_10_20).trans ((z_invv (As := [a1]) (by decide) rfl rfl).trans (congrArg (And _) (congrArg (And _) (mC_nl nl_150))))
theorem mj_10_23 : mc_P 10 23 = some (.ifCond .ne 36, 3, 0, 0, 0) := by decide +kernel
theorem s_10_23 {x0 x1 : Option Value} {x : Int32} : mw d 10 Q 23 [x0, x1] (.int x :: st) h = mB (¬ x = 0) (mw d 10 Q) 59 26 [x0, x1] st h := (mw_at mj_10_23).trans (z_if_ne (by decide) rfl)
theorem mj_10_26 : mc_P 10 26 = some (.aload_n 0, 1, 0, 0, 0) := by decide +kernel
theorem s_10_26 {x1 : Option Value} {w : Value} : mw d 10 Q 26 [some w, x1] (st) h = mv_a w (mw d 10 Q 27 [some w, x1] (w :: st) h) := (mw_at mj_10_26).trans (z_aload_n rfl)
theorem mj_10_27 : mc_P 10 27 = some (.getfield 47, 3, 0, 16, 0) := by decide +kernel
theorem s_10_27 {x0 x1 : Option Value} {o : Nat} : mw d 10 Q 27 [x0, x1] (.ref o :: st) h = (mg h o 0 ∧ mw d 10 Q 30 [x0, x1] (va_rf (mh_r h o 16) :: st) h) := (mw_at mj_10_27).trans (z_getr (by decide) (by decide) rfl)
theorem mj_10_30 : mc_P 10 30 = some (.iload_n 1, 1, 0, 0, 0) := by decide +kernel
theorem s_10_30 {x0 : Option Value} {w : Value} : mw d 10 Q 30 [x0, some w] (st) h = mv_i w (mw d 10 Q 31 [x0, some w] (w :: st) h) := (mw_at mj_10_30).trans (z_iload_n rfl)
theorem mj_10_31 : mc_P 10 31 = some (.dup2, 1, 0, 0, 0) := by decide +kernel
theorem s_10_31 {x0 x1 : Option Value} {x : Int32} {w : Value} : mw d 10 Q 31 [x0, x1] (.int x :: w :: st) h = (w.category = 1 ∧ mw d 10 Q 32 [x0, x1] (.int x :: w :: .int x :: w :: st) h) := (mw_at mj_10_31).trans (z_dup2)
theorem s_10_31l {x0 x1 : Option Value} {x : Int64} {w : Value} : mw d 10 Q 31 [x0, x1] (.long x :: w :: st) h = mw d 10 Q 32 [x0, x1] (.long x :: .long x :: w :: st) h := (mw_at mj_10_31).trans (z_dup2l)
theorem mj_10_32 : mc_P 10 32 = some (.iaload, 1, 0, 0, 0) := by decide +kernel
theorem s_10_32 {x0 x1 : Option Value} {o : Nat} {i : Int32} : mw d 10 Q 32 [x0, x1] (.int i :: .ref o :: st) h = (mg h o 100 ∧ mx i (mh_l h o) ∧ mw d 10 Q 33 [x0, x1] (.int (mh_i h o i.toNatClampNeg) :: st) h) := (mw_at mj_10_32).trans (z_iald)
theorem s_10_32x {x0 x1 : Option Value} {i : Int32} : mw d 10 Q 32 [x0, x1] (.int i :: .retAddr 2 :: st) h = (mx i 24 ∧ mw d 10 Q 33 [x0, x1] (.int (mx_row.getD i.toNatClampNeg 0) :: st) h) := (mw_at mj_10_32).trans (z_iaX)
theorem mj_10_33 : mc_P 10 33 = some (.iconst 1, 1, 0, 0, 0) := by decide +kernel
theorem s_10_33 {x0 x1 : Option Value} : mw d 10 Q 33 [x0, x1] (st) h = mw d 10 Q 34 [x0, x1] (.int 1 :: st) h := (mw_at mj_10_33).trans (z_iconst (by decide))
theorem mj_10_34 : mc_P 10 34 = some (.iadd, 1, 0, 0, 0) := by decide +kernel
theorem s_10_34 {x0 x1 : Option Value} {x w : Int32} : mw d 10 Q 34 [x0, x1] (.int w :: .int x :: st) h = mw d 10 Q 35 [x0, x1] (.int (x + w) :: st) h := (mw_at mj_10_34).trans (z_iadd)
theorem mj_10_35 : mc_P 10 35 = some (.iastore, 1, 0, 0, 0) := by decide +kernel
theorem s_10_35 {x0 x1 : Option Value} {o : Nat} {i w : Int32} : mw d 10 Q 35 [x0, x1] (.int w :: .int i :: .ref o :: st) h = (mg h o 100 ∧ mx i (mh_l h o) ∧ mw d 10 Q 36 [x0, x1] (st) (mh_si h o i.toNatClampNeg w)) := (mw_at mj_10_35).trans (z_iast)
theorem mj_10_36 : mc_P 10 36 = some (.aload_n 0, 1, 0, 0, 0) := by decide +kernel
theorem s_10_36 {x1 : Option Value} {w : Value} : mw d 10 Q 36 [some w, x1] (st) h = mv_a w (mw d 10 Q 37 [some w, x1] (w :: st) h) := (mw_at mj_10_36).trans (z_aload_n rfl)
theorem mj_10_37 : mc_P 10 37 = some (.getfield 29, 3, 0, 10, 0) := by decide +kernel
theorem s_10_37 {x0 x1 : Option Value} {o : Nat} : mw d 10 Q 37 [x0, x1] (.ref o :: st) h = (mg h o 0 ∧ mw d 10 Q 40 [x0, x1] (va_rf (mh_r h o 10) :: st) h) := (mw_at mj_10_37).trans (z_getr (by decide) (by decide) rfl)
theorem mj_10_40 : mc_P 10 40 = some (.iload_n 1, 1, 0, 0, 0) := by decide +kernel
theorem s_10_40 {x0 : Option Value} {w : Value} : mw d 10 Q 40 [x0, some w] (st) h = mv_i w (mw d 10 Q 41 [x0, some w] (w :: st) h) := (mw_at mj_10_40).trans (z_iload_n rfl)
theorem mj_10_41 : mc_P 10 41 = some (.iconst 1, 1, 0, 0, 0) := by decide +kernel
theorem s_10_41 {x0 x1 : Option Value} : mw d 10 Q 41 [x0, x1] (st) h = mw d 10 Q 42 [x0, x1] (.int 1 :: st) h := (mw_at mj_10_41).trans (z_iconst (by decide))
theorem mj_10_42 : mc_P 10 42 = some (.iastore, 1, 0, 0, 0) := by decide +kernel
theorem s_10_42 {x0 x1 : Option Value} {o : Nat} {i w : Int32} : mw d 10 Q 42 [x0, x1] (.int w :: .int i :: .ref o :: st) h = (mg h o 100 ∧ mx i (mh_l h o) ∧ mw d 10 Q 43 [x0, x1] (st) (mh_si h o i.toNatClampNeg w)) := (mw_at mj_10_42).trans (z_iast)
theorem mj_10_43 : mc_P 10 43 = some (.aload_n 0, 1, 0, 0, 0) := by decide +kernel
theorem s_10_43 {x1 : Option Value} {w : Value} : mw d 10 Q 43 [some w, x1] (st) h = mv_a w (mw d 10 Q 44 [some w, x1] (w :: st) h) := (mw_at mj_10_43).trans (z_aload_n rfl)
theorem mj_10_44 : mc_P 10 44 = some (.getfield 32, 3, 0, 11, 0) := by decide +kernel
theorem s_10_44 {x0 x1 : Option Value} {o : Nat} : mw d 10 Q 44 [x0, x1] (.ref o :: st) h = (mg h o 0 ∧ mw d 10 Q 47 [x0, x1] (va_rf (mh_r h o 11) :: st) h) := (mw_at mj_10_44).trans (z_getr (by decide) (by decide) rfl)
theorem mj_10_47 : mc_P 10 47 = some (.iload_n 1, 1, 0, 0, 0) := by decide +kernel
theorem s_10_47 {x0 : Option Value} {w : Value} : mw d 10 Q 47 [x0, some w] (st) h = mv_i w (mw d 10 Q 48 [x0, some w] (w :: st) h) := (mw_at mj_10_47).trans (z_iload_n rfl)
theorem mj_10_48 : mc_P 10 48 = some (.aaload, 1, 0, 0, 0) := by decide +kernel
theorem s_10_48 {x0 x1 : Option Value} {o : Nat} {i : Int32} : mw d 10 Q 48 [x0, x1] (.int i :: .ref o :: st) h = (mgr h o ∧ mx i (mh_l h o) ∧ mw d 10 Q 49 [x0, x1] (mrd (mh_k h o) h o i.toNatClampNeg :: st) h) := (mw_at mj_10_48).trans (z_aald)
theorem mj_10_49 : mc_P 10 49 = some (.aload_n 0, 1, 0, 0, 0) := by decide +kernel
theorem s_10_49 {x1 : Option Value} {w : Value} : mw d 10 Q 49 [some w, x1] (st) h = mv_a w (mw d 10 Q 50 [some w, x1] (w :: st) h) := (mw_at mj_10_49).trans (z_aload_n rfl)
theorem mj_10_50 : mc_P 10 50 = some (.getfield 22, 3, 0, 6, 0) := by decide +kernel
theorem s_10_50 {x0 x1 : Option Value} {o : Nat} : mw d 10 Q 50 [x0, x1] (.ref o :: st) h = (mg h o 0 ∧ mw d 10 Q 53 [x0, x1] (va_rf (mh_r h o 6) :: st) h) := (mw_at mj_10_50).trans (z_getr (by decide) (by decide) rfl)
theorem mj_10_53 : mc_P 10 53 = some (.invokevirtual 102, 3, 144, 8, 2) := by decide +kernel
theorem s_10_53 {x0 x1 : Option Value} {o : Nat} {a1 : Value} : mw (d + 1) 10 Q 53 [x0, x1] (a1 :: .ref o :: st) h = (mg h o 8 ∧ mca st 8 ∧ mca [.ref o, a1] 2 ∧ mcall d 144 [.ref o, a1] h (mK (d + 1) 10 Q 56 [x0, x1] st)) := (mw_at mj_10_53).trans ((z_invv (As := [a1]) (by decide) rfl rfl).trans (congrArg (And _) (congrArg (And _) (mC_nl nl_144))))
theorem mj_10_56 : mc_P 10 56 = some (.goto 8, 3, 0, 0, 0) := by decide +kernel
theorem s_10_56 {x0 x1 : Option Value} : mw d 10 Q 56 [x0, x1] (st) h = mw d 10 Q 64 [x0, x1] (st) h := (mw_at mj_10_56).trans (z_goto (by decide))
theorem mj_10_59 : mc_P 10 59 = some (.aload_n 0, 1, 0, 0, 0) := by decide +kernel
theorem s_10_59 {x1 : Option Value} {w : Value} : mw d 10 Q 59 [some w, x1] (st) h = mv_a w (mw d 10 Q 60 [some w, x1] (w :: st) h) := (mw_at mj_10_59).trans (z_aload_n rfl)
theorem mj_10_60 : mc_P 10 60 = some (.iload_n 1, 1, 0, 0, 0) := by decide +kernel
theorem s_10_60 {x0 : Option Value} {w : Value} : mw d 10 Q 60 [x0, some w] (st) h = mv_i w (mw d 10 Q 61 [x0, some w] (w :: st) h) := (mw_at mj_10_60).trans (z_iload_n rfl)
theorem mj_10_61 : mc_P 10 61 = some (.invokevirtual 170, 3, 11, 0, 2) := by decide +kernel
theorem s_10_61 {x0 x1 : Option Value} {o : Nat} {a1 : Value} : mw (d + 1) 10 Q 61 [x0, x1] (a1 :: .ref o :: st) h = (mg h o 0 ∧ mca st 8 ∧ mca [.ref o, a1] 2 ∧ mcall d 11 [.ref o, a1] h (mK (d + 1) 10 Q 64 [x0, x1] st)) := (mw_at mj_10_61).trans ((z_invv (As := [a1]) (by decide) rfl rfl).trans (congrArg (And _) (congrArg (And _) (mC_nl nl_11))))
theorem mj_10_64 : mc_P 10 64 = some (.return_, 1, 0, 0, 0) := by decide +kernel
theorem s_10_64 {x0 x1 : Option Value} : mw d 10 Q 64 [x0, x1] ([]) h = Q none h := (mw_at mj_10_64).trans (z_vret)
theorem e_10 {a0 : Nat} {a1 : Int32} : mcall d 10 [.ref a0, .int a1] h Q = mw d 10 Q 0 [some (.ref a0), some (.int a1)] [] h := by
  show mw d 10 Q 0 (me_en (mc_nl 10) _) [] h = _
  rw [nl_10]; rfl

/-! InvariantDesk$Analysis.beginLast(I)V -/
theorem mj_11_0 : mc_P 11 0 = some (.aload_n 0, 1, 0, 0, 0) := by decide +kernel
theorem s_11_0 {x1 : Option Value} {w : Value} : mw d 11 Q 0 [some w, x1] (st) h = mv_a w (mw d 11 Q 1 [some w, x1] (w :: st) h) := (mw_at mj_11_0).trans (z_aload_n rfl)
theorem mj_11_1 : mc_P 11 1 = some (.getfield 29, 3, 0, 10, 0) := by decide +kernel
theorem s_11_1 {x0 x1 : Option Value} {o : Nat} : mw d 11 Q 1 [x0, x1] (.ref o :: st) h = (mg h o 0 ∧ mw d 11 Q 4 [x0, x1] (va_rf (mh_r h o 10) :: st) h) := (mw_at mj_11_1).trans (z_getr (by decide) (by decide) rfl)
theorem mj_11_4 : mc_P 11 4 = some (.iload_n 1, 1, 0, 0, 0) := by decide +kernel
theorem s_11_4 {x0 : Option Value} {w : Value} : mw d 11 Q 4 [x0, some w] (st) h = mv_i w (mw d 11 Q 5 [x0, some w] (w :: st) h) := (mw_at mj_11_4).trans (z_iload_n rfl)
theorem mj_11_5 : mc_P 11 5 = some (.iconst 2, 1, 0, 0, 0) := by decide +kernel
theorem s_11_5 {x0 x1 : Option Value} : mw d 11 Q 5 [x0, x1] (st) h = mw d 11 Q 6 [x0, x1] (.int 2 :: st) h := (mw_at mj_11_5).trans (z_iconst (by decide))
theorem mj_11_6 : mc_P 11 6 = some (.iastore, 1, 0, 0, 0) := by decide +kernel
theorem s_11_6 {x0 x1 : Option Value} {o : Nat} {i w : Int32} : mw d 11 Q 6 [x0, x1] (.int w :: .int i :: .ref o :: st) h = (mg h o 100 ∧ mx i (mh_l h o) ∧ mw d 11 Q 7 [x0, x1] (st) (mh_si h o i.toNatClampNeg w)) := (mw_at mj_11_6).trans (z_iast)
theorem mj_11_7 : mc_P 11 7 = some (.aload_n 0, 1, 0, 0, 0) := by decide +kernel
theorem s_11_7 {x1 : Option Value} {w : Value} : mw d 11 Q 7 [some w, x1] (st) h = mv_a w (mw d 11 Q 8 [some w, x1] (w :: st) h) := (mw_at mj_11_7).trans (z_aload_n rfl)
theorem mj_11_8 : mc_P 11 8 = some (.getfield 22, 3, 0, 6, 0) := by decide +kernel
theorem s_11_8 {x0 x1 : Option Value} {o : Nat} : mw d 11 Q 8 [x0, x1] (.ref o :: st) h = (mg h o 0 ∧ mw d 11 Q 11 [x0, x1] (va_rf (mh_r h o 6) :: st) h) := (mw_at mj_11_8).trans (z_getr (by decide) (by decide) rfl)
theorem mj_11_11 : mc_P 11 11 = some (.aload_n 0, 1, 0, 0, 0) := by decide +kernel
theorem s_11_11 {x1 : Option Value} {w : Value} : mw d 11 Q 11 [some w, x1] (st) h = mv_a w (mw d 11 Q 12 [some w, x1] (w :: st) h) := (mw_at mj_11_11).trans (z_aload_n rfl)
theorem mj_11_12 : mc_P 11 12 = some (.getfield 38, 3, 0, 13, 0) := by decide +kernel
theorem s_11_12 {x0 x1 : Option Value} {o : Nat} : mw d 11 Q 12 [x0, x1] (.ref o :: st) h = (mg h o 0 ∧ mw d 11 Q 15 [x0, x1] (va_rf (mh_r h o 13) :: st) h) := (mw_at mj_11_12).trans (z_getr (by decide) (by decide) rfl)
theorem mj_11_15 : mc_P 11 15 = some (.iload_n 1, 1, 0, 0, 0) := by decide +kernel
theorem s_11_15 {x0 : Option Value} {w : Value} : mw d 11 Q 15 [x0, some w] (st) h = mv_i w (mw d 11 Q 16 [x0, some w] (w :: st) h) := (mw_at mj_11_15).trans (z_iload_n rfl)
theorem mj_11_16 : mc_P 11 16 = some (.aaload, 1, 0, 0, 0) := by decide +kernel
theorem s_11_16 {x0 x1 : Option Value} {o : Nat} {i : Int32} : mw d 11 Q 16 [x0, x1] (.int i :: .ref o :: st) h = (mgr h o ∧ mx i (mh_l h o) ∧ mw d 11 Q 17 [x0, x1] (mrd (mh_k h o) h o i.toNatClampNeg :: st) h) := (mw_at mj_11_16).trans (z_aald)
theorem mj_11_17 : mc_P 11 17 = some (.invokevirtual 102, 3, 144, 8, 2) := by decide +kernel
theorem s_11_17 {x0 x1 : Option Value} {o : Nat} {a1 : Value} : mw (d + 1) 11 Q 17 [x0, x1] (a1 :: .ref o :: st) h = (mg h o 8 ∧ mca st 8 ∧ mca [.ref o, a1] 2 ∧ mcall d 144 [.ref o, a1] h (mK (d + 1) 11 Q 20 [x0, x1] st)) := (mw_at mj_11_17).trans ((z_invv (As := [a1]) (by decide) rfl rfl).trans (congrArg (And _) (congrArg (And _) (mC_nl nl_144))))
theorem mj_11_20 : mc_P 11 20 = some (.return_, 1, 0, 0, 0) := by decide +kernel
theorem s_11_20 {x0 x1 : Option Value} : mw d 11 Q 20 [x0, x1] ([]) h = Q none h := (mw_at mj_11_20).trans (z_vret)
theorem e_11 {a0 : Nat} {a1 : Int32} : mcall d 11 [.ref a0, .int a1] h Q = mw d 11 Q 0 [some (.ref a0), some (.int a1)] [] h := by
  show mw d 11 Q 0 (me_en (mc_nl 11) _) [] h = _
  rw [nl_11]; rfl

/-! InvariantDesk$Effect.<init>(LInvariantDesk$Program;)V -/
theorem mj_12_0 : mc_P 12 0 = some (.aload_n 0, 1, 0, 0, 0) := by decide +kernel
theorem s_12_0 {x1 : Option Value} {w : Value} : mw d 12 Q 0 [some w, x1] (st) h = mv_a w (mw d 12 Q 1 [some w, x1] (w :: st) h) := (mw_at mj_12_0).trans (z_aload_n rfl)
theorem mj_12_1 : mc_P 12 1 = some (.invokespecial 3, 3, 0, 1, 0) := by decide +kernel
theorem s_12_1 {x0 x1 : Option Value} {o : Nat} : mw d 12 Q 1 [x0, x1] (.ref o :: st) h = (mca st 8 ∧ mw d 12 Q 4 [x0, x1] (st) h) := (mw_at mj_12_1).trans (z_obj)
theorem mj_12_4 : mc_P 12 4 = some (.aload_n 0, 1, 0, 0, 0) := by decide +kernel
theorem s_12_4 {x1 : Option Value} {w : Value} : mw d 12 Q 4 [some w, x1] (st) h = mv_a w (mw d 12 Q 5 [some w, x1] (w :: st) h) := (mw_at mj_12_4).trans (z_aload_n rfl)
theorem mj_12_5 : mc_P 12 5 = some (.new 9, 3, 5, 0, 0) := by decide +kernel
theorem s_12_5 {x0 x1 : Option Value} : mw d 12 Q 5 [x0, x1] (st) h = mw d 12 Q 8 [x0, x1] (.ref (mh_n h) :: st) (mh_new h 5 19) := (mw_at mj_12_5).trans (z_new (by decide) rfl)
theorem mj_12_8 : mc_P 12 8 = some (.dup, 1, 0, 0, 0) := by decide +kernel
theorem s_12_8 {x0 x1 : Option Value} {w : Value} : mw d 12 Q 8 [x0, x1] (w :: st) h = (w.category = 1 ∧ mw d 12 Q 9 [x0, x1] (w :: w :: st) h) := (mw_at mj_12_8).trans (z_dup)
theorem mj_12_9 : mc_P 12 9 = some (.invokespecial 11, 3, 96, 2, 1) := by decide +kernel
theorem s_12_9 {x0 x1 : Option Value} {o : Nat} : mw (d + 1) 12 Q 9 [x0, x1] (.ref o :: st) h = (mca st 8 ∧ mca [.ref o] 1 ∧ mcall d 96 [.ref o] h (mK (d + 1) 12 Q 12 [x0, x1] st)) := (mw_at mj_12_9).trans ((z_invsp (As := []) (by decide) rfl rfl).trans (congrArg (And _) (mC_nl nl_96)))
theorem mj_12_12 : mc_P 12 12 = some (.putfield 12, 3, 1, 1, 0) := by decide +kernel
theorem s_12_12 {x0 x1 : Option Value} {o w : Nat} : mw d 12 Q 12 [x0, x1] (.ref w :: .ref o :: st) h = (mg h o 1 ∧ mw d 12 Q 15 [x0, x1] (st) (mh_sr h o 1 (some w))) := (mw_at mj_12_12).trans (z_putr (by decide) (by decide) rfl)
theorem s_12_12n {x0 x1 : Option Value} {o : Nat} : mw d 12 Q 12 [x0, x1] (.null :: .ref o :: st) h = (mg h o 1 ∧ mw d 12 Q 15 [x0, x1] (st) (mh_sr h o 1 none)) := (mw_at mj_12_12).trans (z_putn (by decide) (by decide) rfl)
theorem mj_12_15 : mc_P 12 15 = some (.aload_n 0, 1, 0, 0, 0) := by decide +kernel
theorem s_12_15 {x1 : Option Value} {w : Value} : mw d 12 Q 15 [some w, x1] (st) h = mv_a w (mw d 12 Q 16 [some w, x1] (w :: st) h) := (mw_at mj_12_15).trans (z_aload_n rfl)
theorem mj_12_16 : mc_P 12 16 = some (.new 18, 3, 8, 0, 0) := by decide +kernel
theorem s_12_16 {x0 x1 : Option Value} : mw d 12 Q 16 [x0, x1] (st) h = mw d 12 Q 19 [x0, x1] (.ref (mh_n h) :: st) (mh_new h 8 6) := (mw_at mj_12_16).trans (z_new (by decide) rfl)
theorem mj_12_19 : mc_P 12 19 = some (.dup, 1, 0, 0, 0) := by decide +kernel
theorem s_12_19 {x0 x1 : Option Value} {w : Value} : mw d 12 Q 19 [x0, x1] (w :: st) h = (w.category = 1 ∧ mw d 12 Q 20 [x0, x1] (w :: w :: st) h) := (mw_at mj_12_19).trans (z_dup)
theorem mj_12_20 : mc_P 12 20 = some (.invokespecial 20, 3, 139, 2, 1) := by decide +kernel
theorem s_12_20 {x0 x1 : Option Value} {o : Nat} : mw (d + 1) 12 Q 20 [x0, x1] (.ref o :: st) h = (mca st 8 ∧ mca [.ref o] 1 ∧ mcall d 139 [.ref o] h (mK (d + 1) 12 Q 23 [x0, x1] st)) := (mw_at mj_12_20).trans ((z_invsp (As := []) (by decide) rfl rfl).trans (congrArg (And _) (mC_nl nl_139)))
theorem mj_12_23 : mc_P 12 23 = some (.putfield 21, 3, 1, 2, 0) := by decide +kernel
theorem s_12_23 {x0 x1 : Option Value} {o w : Nat} : mw d 12 Q 23 [x0, x1] (.ref w :: .ref o :: st) h = (mg h o 1 ∧ mw d 12 Q 26 [x0, x1] (st) (mh_sr h o 2 (some w))) := (mw_at mj_12_23).trans (z_putr (by decide) (by decide) rfl)
theorem s_12_23n {x0 x1 : Option Value} {o : Nat} : mw d 12 Q 23 [x0, x1] (.null :: .ref o :: st) h = (mg h o 1 ∧ mw d 12 Q 26 [x0, x1] (st) (mh_sr h o 2 none)) := (mw_at mj_12_23).trans (z_putn (by decide) (by decide) rfl)
theorem mj_12_26 : mc_P 12 26 = some (.aload_n 0, 1, 0, 0, 0) := by decide +kernel
theorem s_12_26 {x1 : Option Value} {w : Value} : mw d 12 Q 26 [some w, x1] (st) h = mv_a w (mw d 12 Q 27 [some w, x1] (w :: st) h) := (mw_at mj_12_26).trans (z_aload_n rfl)
theorem mj_12_27 : mc_P 12 27 = some (.new 18, 3, 8, 0, 0) := by decide +kernel
theorem s_12_27 {x0 x1 : Option Value} : mw d 12 Q 27 [x0, x1] (st) h = mw d 12 Q 30 [x0, x1] (.ref (mh_n h) :: st) (mh_new h 8 6) := (mw_at mj_12_27).trans (z_new (by decide) rfl)
theorem mj_12_30 : mc_P 12 30 = some (.dup, 1, 0, 0, 0) := by decide +kernel
theorem s_12_30 {x0 x1 : Option Value} {w : Value} : mw d 12 Q 30 [x0, x1] (w :: st) h = (w.category = 1 ∧ mw d 12 Q 31 [x0, x1] (w :: w :: st) h) := (mw_at mj_12_30).trans (z_dup)
theorem mj_12_31 : mc_P 12 31 = some (.invokespecial 20, 3, 139, 2, 1) := by decide +kernel
theorem s_12_31 {x0 x1 : Option Value} {o : Nat} : mw (d + 1) 12 Q 31 [x0, x1] (.ref o :: st) h = (mca st 8 ∧ mca [.ref o] 1 ∧ mcall d 139 [.ref o] h (mK (d + 1) 12 Q 34 [x0, x1] st)) := (mw_at mj_12_31).trans ((z_invsp (As := []) (by decide) rfl rfl).trans (congrArg (And _) (mC_nl nl_139)))
theorem mj_12_34 : mc_P 12 34 = some (.putfield 25, 3, 1, 3, 0) := by decide +kernel
theorem s_12_34 {x0 x1 : Option Value} {o w : Nat} : mw d 12 Q 34 [x0, x1] (.ref w :: .ref o :: st) h = (mg h o 1 ∧ mw d 12 Q 37 [x0, x1] (st) (mh_sr h o 3 (some w))) := (mw_at mj_12_34).trans (z_putr (by decide) (by decide) rfl)
theorem s_12_34n {x0 x1 : Option Value} {o : Nat} : mw d 12 Q 34 [x0, x1] (.null :: .ref o :: st) h = (mg h o 1 ∧ mw d 12 Q 37 [x0, x1] (st) (mh_sr h o 3 none)) := (mw_at mj_12_34).trans (z_putn (by decide) (by decide) rfl)
theorem mj_12_37 : mc_P 12 37 = some (.aload_n 0, 1, 0, 0, 0) := by decide +kernel
theorem s_12_37 {x1 : Option Value} {w : Value} : mw d 12 Q 37 [some w, x1] (st) h = mv_a w (mw d 12 Q 38 [some w, x1] (w :: st) h) := (mw_at mj_12_37).trans (z_aload_n rfl)
theorem mj_12_38 : mc_P 12 38 = some (.new 18, 3, 8, 0, 0) := by decide +kernel
theorem s_12_38 {x0 x1 : Option Value} : mw d 12 Q 38 [x0, x1] (st) h = mw d 12 Q 41 [x0, x1] (.ref (mh_n h) :: st) (mh_new h 8 6) := (mw_at mj_12_38).trans (z_new (by decide) rfl)
theorem mj_12_41 : mc_P 12 41 = some (.dup, 1, 0, 0, 0) := by decide +kernel
theorem s_12_41 {x0 x1 : Option Value} {w : Value} : mw d 12 Q 41 [x0, x1] (w :: st) h = (w.category = 1 ∧ mw d 12 Q 42 [x0, x1] (w :: w :: st) h) := (mw_at mj_12_41).trans (z_dup)
theorem mj_12_42 : mc_P 12 42 = some (.invokespecial 20, 3, 139, 2, 1) := by decide +kernel
theorem s_12_42 {x0 x1 : Option Value} {o : Nat} : mw (d + 1) 12 Q 42 [x0, x1] (.ref o :: st) h = (mca st 8 ∧ mca [.ref o] 1 ∧ mcall d 139 [.ref o] h (mK (d + 1) 12 Q 45 [x0, x1] st)) := (mw_at mj_12_42).trans ((z_invsp (As := []) (by decide) rfl rfl).trans (congrArg (And _) (mC_nl nl_139)))
theorem mj_12_45 : mc_P 12 45 = some (.putfield 28, 3, 1, 4, 0) := by decide +kernel
theorem s_12_45 {x0 x1 : Option Value} {o w : Nat} : mw d 12 Q 45 [x0, x1] (.ref w :: .ref o :: st) h = (mg h o 1 ∧ mw d 12 Q 48 [x0, x1] (st) (mh_sr h o 4 (some w))) := (mw_at mj_12_45).trans (z_putr (by decide) (by decide) rfl)
theorem s_12_45n {x0 x1 : Option Value} {o : Nat} : mw d 12 Q 45 [x0, x1] (.null :: .ref o :: st) h = (mg h o 1 ∧ mw d 12 Q 48 [x0, x1] (st) (mh_sr h o 4 none)) := (mw_at mj_12_45).trans (z_putn (by decide) (by decide) rfl)
theorem mj_12_48 : mc_P 12 48 = some (.aload_n 0, 1, 0, 0, 0) := by decide +kernel
theorem s_12_48 {x1 : Option Value} {w : Value} : mw d 12 Q 48 [some w, x1] (st) h = mv_a w (mw d 12 Q 49 [some w, x1] (w :: st) h) := (mw_at mj_12_48).trans (z_aload_n rfl)
theorem mj_12_49 : mc_P 12 49 = some (.bipush 122, 2, 0, 0, 0) := by decide +kernel
theorem s_12_49 {x0 x1 : Option Value} : mw d 12 Q 49 [x0, x1] (st) h = mw d 12 Q 51 [x0, x1] (.int 122 :: st) h := (mw_at mj_12_49).trans (z_bipush (by decide))
theorem mj_12_51 : mc_P 12 51 = some (.anewarray 18, 3, 104, 0, 0) := by decide +kernel
theorem s_12_51 {x0 x1 : Option Value} {i : Int32} : mw d 12 Q 51 [x0, x1] (.int i :: st) h = (mN i ∧ mw d 12 Q 54 [x0, x1] (.ref (mh_n h) :: st) (mh_new h 104 i.toNatClampNeg)) := (mw_at mj_12_51).trans (z_anewa (by decide) (by decide))
theorem mj_12_54 : mc_P 12 54 = some (.putfield 31, 3, 1, 5, 0) := by decide +kernel
theorem s_12_54 {x0 x1 : Option Value} {o w : Nat} : mw d 12 Q 54 [x0, x1] (.ref w :: .ref o :: st) h = (mg h o 1 ∧ mw d 12 Q 57 [x0, x1] (st) (mh_sr h o 5 (some w))) := (mw_at mj_12_54).trans (z_putr (by decide) (by decide) rfl)
theorem s_12_54n {x0 x1 : Option Value} {o : Nat} : mw d 12 Q 54 [x0, x1] (.null :: .ref o :: st) h = (mg h o 1 ∧ mw d 12 Q 57 [x0, x1] (st) (mh_sr h o 5 none)) := (mw_at mj_12_54).trans (z_putn (by decide) (by decide) rfl)
theorem mj_12_57 : mc_P 12 57 = some (.aload_n 0, 1, 0, 0, 0) := by decide +kernel
theorem s_12_57 {x1 : Option Value} {w : Value} : mw d 12 Q 57 [some w, x1] (st) h = mv_a w (mw d 12 Q 58 [some w, x1] (w :: st) h) := (mw_at mj_12_57).trans (z_aload_n rfl)
theorem mj_12_58 : mc_P 12 58 = some (.bipush 48, 2, 0, 0, 0) := by decide +kernel
theorem s_12_58 {x0 x1 : Option Value} : mw d 12 Q 58 [x0, x1] (st) h = mw d 12 Q 60 [x0, x1] (.int 48 :: st) h := (mw_at mj_12_58).trans (z_bipush (by decide))
theorem mj_12_60 : mc_P 12 60 = some (.newarray .long, 2, 101, 0, 0) := by decide +kernel
theorem s_12_60 {x0 x1 : Option Value} {i : Int32} : mw d 12 Q 60 [x0, x1] (.int i :: st) h = (mN i ∧ mw d 12 Q 62 [x0, x1] (.ref (mh_n h) :: st) (mh_new h 101 i.toNatClampNeg)) := (mw_at mj_12_60).trans (z_newa (by decide) (by decide))
theorem mj_12_62 : mc_P 12 62 = some (.putfield 35, 3, 1, 7, 0) := by decide +kernel
theorem s_12_62 {x0 x1 : Option Value} {o w : Nat} : mw d 12 Q 62 [x0, x1] (.ref w :: .ref o :: st) h = (mg h o 1 ∧ mw d 12 Q 65 [x0, x1] (st) (mh_sr h o 7 (some w))) := (mw_at mj_12_62).trans (z_putr (by decide) (by decide) rfl)
theorem s_12_62n {x0 x1 : Option Value} {o : Nat} : mw d 12 Q 62 [x0, x1] (.null :: .ref o :: st) h = (mg h o 1 ∧ mw d 12 Q 65 [x0, x1] (st) (mh_sr h o 7 none)) := (mw_at mj_12_62).trans (z_putn (by decide) (by decide) rfl)
theorem mj_12_65 : mc_P 12 65 = some (.aload_n 0, 1, 0, 0, 0) := by decide +kernel
theorem s_12_65 {x1 : Option Value} {w : Value} : mw d 12 Q 65 [some w, x1] (st) h = mv_a w (mw d 12 Q 66 [some w, x1] (w :: st) h) := (mw_at mj_12_65).trans (z_aload_n rfl)
theorem mj_12_66 : mc_P 12 66 = some (.aload_n 1, 1, 0, 0, 0) := by decide +kernel
theorem s_12_66 {x0 : Option Value} {w : Value} : mw d 12 Q 66 [x0, some w] (st) h = mv_a w (mw d 12 Q 67 [x0, some w] (w :: st) h) := (mw_at mj_12_66).trans (z_aload_n rfl)
theorem mj_12_67 : mc_P 12 67 = some (.putfield 39, 3, 1, 0, 0) := by decide +kernel
theorem s_12_67 {x0 x1 : Option Value} {o w : Nat} : mw d 12 Q 67 [x0, x1] (.ref w :: .ref o :: st) h = (mg h o 1 ∧ mw d 12 Q 70 [x0, x1] (st) (mh_sr h o 0 (some w))) := (mw_at mj_12_67).trans (z_putr (by decide) (by decide) rfl)
theorem s_12_67n {x0 x1 : Option Value} {o : Nat} : mw d 12 Q 67 [x0, x1] (.null :: .ref o :: st) h = (mg h o 1 ∧ mw d 12 Q 70 [x0, x1] (st) (mh_sr h o 0 none)) := (mw_at mj_12_67).trans (z_putn (by decide) (by decide) rfl)
theorem mj_12_70 : mc_P 12 70 = some (.return_, 1, 0, 0, 0) := by decide +kernel
theorem s_12_70 {x0 x1 : Option Value} : mw d 12 Q 70 [x0, x1] ([]) h = Q none h := (mw_at mj_12_70).trans (z_vret)
theorem e_12 {a0 : Nat} {a1 : Nat} : mcall d 12 [.ref a0, .ref a1] h Q = mw d 12 Q 0 [some (.ref a0), some (.ref a1)] [] h := by
  show mw d 12 Q 0 (me_en (mc_nl 12) _) [] h = _
  rw [nl_12]; rfl

/-! InvariantDesk$Effect.carry(ILInvariantDesk$State;)V -/
theorem mj_13_0 : mc_P 13 0 = some (.aload_n 0, 1, 0, 0, 0) := by decide +kernel
theorem s_13_0 {x1 x2 x3 x4 : Option Value} {w : Value} : mw d 13 Q 0 [some w, x1, x2, x3, x4] (st) h = mv_a w (mw d 13 Q 1 [some w, x1, x2, x3, x4] (w :: st) h) := (mw_at mj_13_0).trans (z_aload_n rfl)
theorem mj_13_1 : mc_P 13 1 = some (.getfield 39, 3, 1, 0, 0) := by decide +kernel
theorem s_13_1 {x0 x1 x2 x3 x4 : Option Value} {o : Nat} : mw d 13 Q 1 [x0, x1, x2, x3, x4] (.ref o :: st) h = (mg h o 1 ∧ mw d 13 Q 4 [x0, x1, x2, x3, x4] (va_rf (mh_r h o 0) :: st) h) := (mw_at mj_13_1).trans (z_getr (by decide) (by decide) rfl)
theorem mj_13_4 : mc_P 13 4 = some (.getfield 43, 3, 4, 3, 0) := by decide +kernel
theorem s_13_4 {x0 x1 x2 x3 x4 : Option Value} {o : Nat} : mw d 13 Q 4 [x0, x1, x2, x3, x4] (.ref o :: st) h = (mg h o 4 ∧ mw d 13 Q 7 [x0, x1, x2, x3, x4] (va_rf (mh_r h o 3) :: st) h) := (mw_at mj_13_4).trans (z_getr (by decide) (by decide) rfl)
theorem mj_13_7 : mc_P 13 7 = some (.iload_n 1, 1, 0, 0, 0) := by decide +kernel
theorem s_13_7 {x0 x2 x3 x4 : Option Value} {w : Value} : mw d 13 Q 7 [x0, some w, x2, x3, x4] (st) h = mv_i w (mw d 13 Q 8 [x0, some w, x2, x3, x4] (w :: st) h) := (mw_at mj_13_7).trans (z_iload_n rfl)
theorem mj_13_8 : mc_P 13 8 = some (.aaload, 1, 0, 0, 0) := by decide +kernel
theorem s_13_8 {x0 x1 x2 x3 x4 : Option Value} {o : Nat} {i : Int32} : mw d 13 Q 8 [x0, x1, x2, x3, x4] (.int i :: .ref o :: st) h = (mgr h o ∧ mx i (mh_l h o) ∧ mw d 13 Q 9 [x0, x1, x2, x3, x4] (mrd (mh_k h o) h o i.toNatClampNeg :: st) h) := (mw_at mj_13_8).trans (z_aald)
theorem mj_13_9 : mc_P 13 9 = some (.astore_n 3, 1, 0, 0, 0) := by decide +kernel
theorem s_13_9 {x0 x1 x2 x3 x4 : Option Value} {w : Nat} : mw d 13 Q 9 [x0, x1, x2, x3, x4] (.ref w :: st) h = mw d 13 Q 10 [x0, x1, mk2 x2, some (.ref w), x4] (st) h := (mw_at mj_13_9).trans (z_astore_n (Nat.le_of_ble_eq_true rfl) (me_s1_mk (j := 2) (w := x2) rfl))
theorem s_13_9n {x0 x1 x2 x3 x4 : Option Value} : mw d 13 Q 9 [x0, x1, x2, x3, x4] (.null :: st) h = mw d 13 Q 10 [x0, x1, mk2 x2, some (.null), x4] (st) h := (mw_at mj_13_9).trans (z_astoreN_n (Nat.le_of_ble_eq_true rfl) (me_s1_mk (j := 2) (w := x2) rfl))
theorem s_13_9x {x0 x1 x2 x3 x4 : Option Value} {w : Nat} : mw d 13 Q 9 [x0, x1, x2, x3, x4] (.retAddr w :: st) h = mw d 13 Q 10 [x0, x1, mk2 x2, some (.retAddr w), x4] (st) h := (mw_at mj_13_9).trans (z_astoreX_n (Nat.le_of_ble_eq_true rfl) (me_s1_mk (j := 2) (w := x2) rfl))
theorem mj_13_10 : mc_P 13 10 = some (.aload_n 0, 1, 0, 0, 0) := by decide +kernel
theorem s_13_10 {x1 x2 x3 x4 : Option Value} {w : Value} : mw d 13 Q 10 [some w, x1, x2, x3, x4] (st) h = mv_a w (mw d 13 Q 11 [some w, x1, x2, x3, x4] (w :: st) h) := (mw_at mj_13_10).trans (z_aload_n rfl)
theorem mj_13_11 : mc_P 13 11 = some (.getfield 12, 3, 1, 1, 0) := by decide +kernel
theorem s_13_11 {x0 x1 x2 x3 x4 : Option Value} {o : Nat} : mw d 13 Q 11 [x0, x1, x2, x3, x4] (.ref o :: st) h = (mg h o 1 ∧ mw d 13 Q 14 [x0, x1, x2, x3, x4] (va_rf (mh_r h o 1) :: st) h) := (mw_at mj_13_11).trans (z_getr (by decide) (by decide) rfl)
theorem mj_13_14 : mc_P 13 14 = some (.aload_n 0, 1, 0, 0, 0) := by decide +kernel
theorem s_13_14 {x1 x2 x3 x4 : Option Value} {w : Value} : mw d 13 Q 14 [some w, x1, x2, x3, x4] (st) h = mv_a w (mw d 13 Q 15 [some w, x1, x2, x3, x4] (w :: st) h) := (mw_at mj_13_14).trans (z_aload_n rfl)
theorem mj_13_15 : mc_P 13 15 = some (.getfield 39, 3, 1, 0, 0) := by decide +kernel
theorem s_13_15 {x0 x1 x2 x3 x4 : Option Value} {o : Nat} : mw d 13 Q 15 [x0, x1, x2, x3, x4] (.ref o :: st) h = (mg h o 1 ∧ mw d 13 Q 18 [x0, x1, x2, x3, x4] (va_rf (mh_r h o 0) :: st) h) := (mw_at mj_13_15).trans (z_getr (by decide) (by decide) rfl)
theorem mj_13_18 : mc_P 13 18 = some (.iload_n 1, 1, 0, 0, 0) := by decide +kernel
theorem s_13_18 {x0 x2 x3 x4 : Option Value} {w : Value} : mw d 13 Q 18 [x0, some w, x2, x3, x4] (st) h = mv_i w (mw d 13 Q 19 [x0, some w, x2, x3, x4] (w :: st) h) := (mw_at mj_13_18).trans (z_iload_n rfl)
theorem mj_13_19 : mc_P 13 19 = some (.aload_n 2, 1, 0, 0, 0) := by decide +kernel
theorem s_13_19 {x0 x1 x3 x4 : Option Value} {w : Value} : mw d 13 Q 19 [x0, x1, some w, x3, x4] (st) h = mv_a w (mw d 13 Q 20 [x0, x1, some w, x3, x4] (w :: st) h) := (mw_at mj_13_19).trans (z_aload_n rfl)
theorem mj_13_20 : mc_P 13 20 = some (.invokevirtual 49, 3, 97, 5, 4) := by decide +kernel
theorem s_13_20 {x0 x1 x2 x3 x4 : Option Value} {o : Nat} {a1 a2 a3 : Value} : mw (d + 1) 13 Q 20 [x0, x1, x2, x3, x4] (a3 :: a2 :: a1 :: .ref o :: st) h = (mg h o 5 ∧ mca st 8 ∧ mca [.ref o, a1, a2, a3] 4 ∧ mcall d 97 [.ref o, a1, a2, a3] h (mK (d + 1) 13 Q 23 [x0, x1, x2, x3, x4] st)) := (mw_at mj_13_20).trans ((z_invv (As := [a1, a2, a3]) (by decide) rfl rfl).trans (congrArg (And _) (congrArg (And _) (mC_nl nl_97))))
theorem mj_13_23 : mc_P 13 23 = some (.aload_n 0, 1, 0, 0, 0) := by decide +kernel
theorem s_13_23 {x1 x2 x3 x4 : Option Value} {w : Value} : mw d 13 Q 23 [some w, x1, x2, x3, x4] (st) h = mv_a w (mw d 13 Q 24 [some w, x1, x2, x3, x4] (w :: st) h) := (mw_at mj_13_23).trans (z_aload_n rfl)
theorem mj_13_24 : mc_P 13 24 = some (.getfield 21, 3, 1, 2, 0) := by decide +kernel
theorem s_13_24 {x0 x1 x2 x3 x4 : Option Value} {o : Nat} : mw d 13 Q 24 [x0, x1, x2, x3, x4] (.ref o :: st) h = (mg h o 1 ∧ mw d 13 Q 27 [x0, x1, x2, x3, x4] (va_rf (mh_r h o 2) :: st) h) := (mw_at mj_13_24).trans (z_getr (by decide) (by decide) rfl)
theorem mj_13_27 : mc_P 13 27 = some (.aload_n 2, 1, 0, 0, 0) := by decide +kernel
theorem s_13_27 {x0 x1 x3 x4 : Option Value} {w : Value} : mw d 13 Q 27 [x0, x1, some w, x3, x4] (st) h = mv_a w (mw d 13 Q 28 [x0, x1, some w, x3, x4] (w :: st) h) := (mw_at mj_13_27).trans (z_aload_n rfl)
theorem mj_13_28 : mc_P 13 28 = some (.invokevirtual 53, 3, 144, 8, 2) := by decide +kernel
theorem s_13_28 {x0 x1 x2 x3 x4 : Option Value} {o : Nat} {a1 : Value} : mw (d + 1) 13 Q 28 [x0, x1, x2, x3, x4] (a1 :: .ref o :: st) h = (mg h o 8 ∧ mca st 8 ∧ mca [.ref o, a1] 2 ∧ mcall d 144 [.ref o, a1] h (mK (d + 1) 13 Q 31 [x0, x1, x2, x3, x4] st)) := (mw_at mj_13_28).trans ((z_invv (As := [a1]) (by decide) rfl rfl).trans (congrArg (And _) (congrArg (And _) (mC_nl nl_144))))
theorem mj_13_31 : mc_P 13 31 = some (.aload_n 3, 1, 0, 0, 0) := by decide +kernel
theorem s_13_31 {x0 x1 x2 x4 : Option Value} {w : Value} : mw d 13 Q 31 [x0, x1, x2, some w, x4] (st) h = mv_a w (mw d 13 Q 32 [x0, x1, x2, some w, x4] (w :: st) h) := (mw_at mj_13_31).trans (z_aload_n rfl)
theorem mj_13_32 : mc_P 13 32 = some (.getfield 57, 3, 9, 0, 0) := by decide +kernel
theorem s_13_32 {x0 x1 x2 x3 x4 : Option Value} {o : Nat} : mw d 13 Q 32 [x0, x1, x2, x3, x4] (.ref o :: st) h = (mg h o 9 ∧ mw d 13 Q 35 [x0, x1, x2, x3, x4] (.int (mh_i h o 0) :: st) h) := (mw_at mj_13_32).trans (z_geti (by decide) (by decide) (Or.inl rfl))
theorem mj_13_35 : mc_P 13 35 = some (.tableswitch 185 1 4 #[29, 67, 92, 114], 29, 0, 0, 0) := by decide +kernel
theorem s_13_35 {x0 x1 x2 x3 x4 : Option Value} {x : Int32} : mw d 13 Q 35 [x0, x1, x2, x3, x4] (.int x :: st) h = mS x (mw d 13 Q) 220 [x0, x1, x2, x3, x4] st h [(1, 64), (2, 102), (3, 127), (4, 149)] := (mw_at mj_13_35).trans (z_tab (by decide) (by decide) (by decide +kernel))
theorem mj_13_64 : mc_P 13 64 = some (.aload_n 0, 1, 0, 0, 0) := by decide +kernel
theorem s_13_64 {x1 x2 x3 x4 : Option Value} {w : Value} : mw d 13 Q 64 [some w, x1, x2, x3, x4] (st) h = mv_a w (mw d 13 Q 65 [some w, x1, x2, x3, x4] (w :: st) h) := (mw_at mj_13_64).trans (z_aload_n rfl)
theorem mj_13_65 : mc_P 13 65 = some (.aload_n 3, 1, 0, 0, 0) := by decide +kernel
theorem s_13_65 {x0 x1 x2 x4 : Option Value} {w : Value} : mw d 13 Q 65 [x0, x1, x2, some w, x4] (st) h = mv_a w (mw d 13 Q 66 [x0, x1, x2, some w, x4] (w :: st) h) := (mw_at mj_13_65).trans (z_aload_n rfl)
theorem mj_13_66 : mc_P 13 66 = some (.invokevirtual 63, 3, 14, 1, 2) := by decide +kernel
theorem s_13_66 {x0 x1 x2 x3 x4 : Option Value} {o : Nat} {a1 : Value} : mw (d + 1) 13 Q 66 [x0, x1, x2, x3, x4] (a1 :: .ref o :: st) h = (mg h o 1 ∧ mca st 8 ∧ mca [.ref o, a1] 3 ∧ mcall d 14 [.ref o, a1] h (mK (d + 1) 13 Q 69 [x0, x1, x2, x3, x4] st)) := (mw_at mj_13_66).trans ((z_invv (As := [a1]) (by decide) rfl rfl).trans (congrArg (And _) (congrArg (And _) (mC_nl nl_14))))
theorem mj_13_69 : mc_P 13 69 = some (.aload_n 3, 1, 0, 0, 0) := by decide +kernel
theorem s_13_69 {x0 x1 x2 x4 : Option Value} {w : Value} : mw d 13 Q 69 [x0, x1, x2, some w, x4] (st) h = mv_a w (mw d 13 Q 70 [x0, x1, x2, some w, x4] (w :: st) h) := (mw_at mj_13_69).trans (z_aload_n rfl)
theorem mj_13_70 : mc_P 13 70 = some (.getfield 67, 3, 9, 9, 0) := by decide +kernel
theorem s_13_70 {x0 x1 x2 x3 x4 : Option Value} {o : Nat} : mw d 13 Q 70 [x0, x1, x2, x3, x4] (.ref o :: st) h = (mg h o 9 ∧ mw d 13 Q 73 [x0, x1, x2, x3, x4] (.int (mh_i h o 9) :: st) h) := (mw_at mj_13_70).trans (z_geti (by decide) (by decide) (Or.inl rfl))
theorem mj_13_73 : mc_P 13 73 = some (.ifCond .ne 163, 3, 0, 0, 0) := by decide +kernel
theorem s_13_73 {x0 x1 x2 x3 x4 : Option Value} {x : Int32} : mw d 13 Q 73 [x0, x1, x2, x3, x4] (.int x :: st) h = mB (¬ x = 0) (mw d 13 Q) 236 76 [x0, x1, x2, x3, x4] st h := (mw_at mj_13_73).trans (z_if_ne (by decide) rfl)
theorem mj_13_76 : mc_P 13 76 = some (.aload_n 3, 1, 0, 0, 0) := by decide +kernel
theorem s_13_76 {x0 x1 x2 x4 : Option Value} {w : Value} : mw d 13 Q 76 [x0, x1, x2, some w, x4] (st) h = mv_a w (mw d 13 Q 77 [x0, x1, x2, some w, x4] (w :: st) h) := (mw_at mj_13_76).trans (z_aload_n rfl)
theorem mj_13_77 : mc_P 13 77 = some (.getfield 70, 3, 9, 11, 0) := by decide +kernel
theorem s_13_77 {x0 x1 x2 x3 x4 : Option Value} {o : Nat} : mw d 13 Q 77 [x0, x1, x2, x3, x4] (.ref o :: st) h = (mg h o 9 ∧ mw d 13 Q 80 [x0, x1, x2, x3, x4] (.int (mh_i h o 11) :: st) h) := (mw_at mj_13_77).trans (z_geti (by decide) (by decide) (Or.inl rfl))
theorem mj_13_80 : mc_P 13 80 = some (.ifCond .le 156, 3, 0, 0, 0) := by decide +kernel
theorem s_13_80 {x0 x1 x2 x3 x4 : Option Value} {x : Int32} : mw d 13 Q 80 [x0, x1, x2, x3, x4] (.int x :: st) h = mB (x ≤ 0) (mw d 13 Q) 236 83 [x0, x1, x2, x3, x4] st h := (mw_at mj_13_80).trans (z_if_le (by decide) rfl)
theorem mj_13_83 : mc_P 13 83 = some (.aload_n 0, 1, 0, 0, 0) := by decide +kernel
theorem s_13_83 {x1 x2 x3 x4 : Option Value} {w : Value} : mw d 13 Q 83 [some w, x1, x2, x3, x4] (st) h = mv_a w (mw d 13 Q 84 [some w, x1, x2, x3, x4] (w :: st) h) := (mw_at mj_13_83).trans (z_aload_n rfl)
theorem mj_13_84 : mc_P 13 84 = some (.aload_n 0, 1, 0, 0, 0) := by decide +kernel
theorem s_13_84 {x1 x2 x3 x4 : Option Value} {w : Value} : mw d 13 Q 84 [some w, x1, x2, x3, x4] (st) h = mv_a w (mw d 13 Q 85 [some w, x1, x2, x3, x4] (w :: st) h) := (mw_at mj_13_84).trans (z_aload_n rfl)
theorem mj_13_85 : mc_P 13 85 = some (.getfield 39, 3, 1, 0, 0) := by decide +kernel
theorem s_13_85 {x0 x1 x2 x3 x4 : Option Value} {o : Nat} : mw d 13 Q 85 [x0, x1, x2, x3, x4] (.ref o :: st) h = (mg h o 1 ∧ mw d 13 Q 88 [x0, x1, x2, x3, x4] (va_rf (mh_r h o 0) :: st) h) := (mw_at mj_13_85).trans (z_getr (by decide) (by decide) rfl)
theorem mj_13_88 : mc_P 13 88 = some (.iload_n 1, 1, 0, 0, 0) := by decide +kernel
theorem s_13_88 {x0 x2 x3 x4 : Option Value} {w : Value} : mw d 13 Q 88 [x0, some w, x2, x3, x4] (st) h = mv_i w (mw d 13 Q 89 [x0, some w, x2, x3, x4] (w :: st) h) := (mw_at mj_13_88).trans (z_iload_n rfl)
theorem mj_13_89 : mc_P 13 89 = some (.invokevirtual 73, 3, 80, 4, 2) := by decide +kernel
theorem s_13_89 {x0 x1 x2 x3 x4 : Option Value} {o : Nat} {a1 : Value} : mw (d + 1) 13 Q 89 [x0, x1, x2, x3, x4] (a1 :: .ref o :: st) h = (mg h o 4 ∧ mca st 8 ∧ mca [.ref o, a1] 2 ∧ mcall d 80 [.ref o, a1] h (mK (d + 1) 13 Q 92 [x0, x1, x2, x3, x4] st)) := (mw_at mj_13_89).trans ((z_invv (As := [a1]) (by decide) rfl rfl).trans (congrArg (And _) (congrArg (And _) (mC_nl nl_80))))
theorem mj_13_92 : mc_P 13 92 = some (.aload_n 3, 1, 0, 0, 0) := by decide +kernel
theorem s_13_92 {x0 x1 x2 x4 : Option Value} {w : Value} : mw d 13 Q 92 [x0, x1, x2, some w, x4] (st) h = mv_a w (mw d 13 Q 93 [x0, x1, x2, some w, x4] (w :: st) h) := (mw_at mj_13_92).trans (z_aload_n rfl)
theorem mj_13_93 : mc_P 13 93 = some (.getfield 77, 3, 9, 10, 0) := by decide +kernel
theorem s_13_93 {x0 x1 x2 x3 x4 : Option Value} {o : Nat} : mw d 13 Q 93 [x0, x1, x2, x3, x4] (.ref o :: st) h = (mg h o 9 ∧ mw d 13 Q 96 [x0, x1, x2, x3, x4] (.int (mh_i h o 10) :: st) h) := (mw_at mj_13_93).trans (z_geti (by decide) (by decide) (Or.inl rfl))
theorem mj_13_96 : mc_P 13 96 = some (.invokevirtual 80, 3, 16, 1, 3) := by decide +kernel
theorem s_13_96 {x0 x1 x2 x3 x4 : Option Value} {o : Nat} {a1 a2 : Value} : mw (d + 1) 13 Q 96 [x0, x1, x2, x3, x4] (a2 :: a1 :: .ref o :: st) h = (mg h o 1 ∧ mca st 8 ∧ mca [.ref o, a1, a2] 9 ∧ mcall d 16 [.ref o, a1, a2] h (mK (d + 1) 13 Q 99 [x0, x1, x2, x3, x4] st)) := (mw_at mj_13_96).trans ((z_invv (As := [a1, a2]) (by decide) rfl rfl).trans (congrArg (And _) (congrArg (And _) (mC_nl nl_16))))
theorem mj_13_99 : mc_P 13 99 = some (.goto 137, 3, 0, 0, 0) := by decide +kernel
theorem s_13_99 {x0 x1 x2 x3 x4 : Option Value} : mw d 13 Q 99 [x0, x1, x2, x3, x4] (st) h = mw d 13 Q 236 [x0, x1, x2, x3, x4] (st) h := (mw_at mj_13_99).trans (z_goto (by decide))
theorem mj_13_102 : mc_P 13 102 = some (.aload_n 0, 1, 0, 0, 0) := by decide +kernel
theorem s_13_102 {x1 x2 x3 x4 : Option Value} {w : Value} : mw d 13 Q 102 [some w, x1, x2, x3, x4] (st) h = mv_a w (mw d 13 Q 103 [some w, x1, x2, x3, x4] (w :: st) h) := (mw_at mj_13_102).trans (z_aload_n rfl)
theorem mj_13_103 : mc_P 13 103 = some (.aload_n 0, 1, 0, 0, 0) := by decide +kernel
theorem s_13_103 {x1 x2 x3 x4 : Option Value} {w : Value} : mw d 13 Q 103 [some w, x1, x2, x3, x4] (st) h = mv_a w (mw d 13 Q 104 [some w, x1, x2, x3, x4] (w :: st) h) := (mw_at mj_13_103).trans (z_aload_n rfl)
theorem mj_13_104 : mc_P 13 104 = some (.getfield 39, 3, 1, 0, 0) := by decide +kernel
theorem s_13_104 {x0 x1 x2 x3 x4 : Option Value} {o : Nat} : mw d 13 Q 104 [x0, x1, x2, x3, x4] (.ref o :: st) h = (mg h o 1 ∧ mw d 13 Q 107 [x0, x1, x2, x3, x4] (va_rf (mh_r h o 0) :: st) h) := (mw_at mj_13_104).trans (z_getr (by decide) (by decide) rfl)
theorem mj_13_107 : mc_P 13 107 = some (.getfield 84, 3, 4, 4, 0) := by decide +kernel
theorem s_13_107 {x0 x1 x2 x3 x4 : Option Value} {o : Nat} : mw d 13 Q 107 [x0, x1, x2, x3, x4] (.ref o :: st) h = (mg h o 4 ∧ mw d 13 Q 110 [x0, x1, x2, x3, x4] (va_rf (mh_r h o 4) :: st) h) := (mw_at mj_13_107).trans (z_getr (by decide) (by decide) rfl)
theorem mj_13_110 : mc_P 13 110 = some (.iload_n 1, 1, 0, 0, 0) := by decide +kernel
theorem s_13_110 {x0 x2 x3 x4 : Option Value} {w : Value} : mw d 13 Q 110 [x0, some w, x2, x3, x4] (st) h = mv_i w (mw d 13 Q 111 [x0, some w, x2, x3, x4] (w :: st) h) := (mw_at mj_13_110).trans (z_iload_n rfl)
theorem mj_13_111 : mc_P 13 111 = some (.iaload, 1, 0, 0, 0) := by decide +kernel
theorem s_13_111 {x0 x1 x2 x3 x4 : Option Value} {o : Nat} {i : Int32} : mw d 13 Q 111 [x0, x1, x2, x3, x4] (.int i :: .ref o :: st) h = (mg h o 100 ∧ mx i (mh_l h o) ∧ mw d 13 Q 112 [x0, x1, x2, x3, x4] (.int (mh_i h o i.toNatClampNeg) :: st) h) := (mw_at mj_13_111).trans (z_iald)
theorem s_13_111x {x0 x1 x2 x3 x4 : Option Value} {i : Int32} : mw d 13 Q 111 [x0, x1, x2, x3, x4] (.int i :: .retAddr 2 :: st) h = (mx i 24 ∧ mw d 13 Q 112 [x0, x1, x2, x3, x4] (.int (mx_row.getD i.toNatClampNeg 0) :: st) h) := (mw_at mj_13_111).trans (z_iaX)
theorem mj_13_112 : mc_P 13 112 = some (.aload_n 3, 1, 0, 0, 0) := by decide +kernel
theorem s_13_112 {x0 x1 x2 x4 : Option Value} {w : Value} : mw d 13 Q 112 [x0, x1, x2, some w, x4] (st) h = mv_a w (mw d 13 Q 113 [x0, x1, x2, some w, x4] (w :: st) h) := (mw_at mj_13_112).trans (z_aload_n rfl)
theorem mj_13_113 : mc_P 13 113 = some (.getfield 88, 3, 9, 8, 0) := by decide +kernel
theorem s_13_113 {x0 x1 x2 x3 x4 : Option Value} {o : Nat} : mw d 13 Q 113 [x0, x1, x2, x3, x4] (.ref o :: st) h = (mg h o 9 ∧ mw d 13 Q 116 [x0, x1, x2, x3, x4] (.int (mh_i h o 8) :: st) h) := (mw_at mj_13_113).trans (z_geti (by decide) (by decide) (Or.inl rfl))
theorem mj_13_116 : mc_P 13 116 = some (.iadd, 1, 0, 0, 0) := by decide +kernel
theorem s_13_116 {x0 x1 x2 x3 x4 : Option Value} {x w : Int32} : mw d 13 Q 116 [x0, x1, x2, x3, x4] (.int w :: .int x :: st) h = mw d 13 Q 117 [x0, x1, x2, x3, x4] (.int (x + w) :: st) h := (mw_at mj_13_116).trans (z_iadd)
theorem mj_13_117 : mc_P 13 117 = some (.aload_n 3, 1, 0, 0, 0) := by decide +kernel
theorem s_13_117 {x0 x1 x2 x4 : Option Value} {w : Value} : mw d 13 Q 117 [x0, x1, x2, some w, x4] (st) h = mv_a w (mw d 13 Q 118 [x0, x1, x2, some w, x4] (w :: st) h) := (mw_at mj_13_117).trans (z_aload_n rfl)
theorem mj_13_118 : mc_P 13 118 = some (.getfield 77, 3, 9, 10, 0) := by decide +kernel
theorem s_13_118 {x0 x1 x2 x3 x4 : Option Value} {o : Nat} : mw d 13 Q 118 [x0, x1, x2, x3, x4] (.ref o :: st) h = (mg h o 9 ∧ mw d 13 Q 121 [x0, x1, x2, x3, x4] (.int (mh_i h o 10) :: st) h) := (mw_at mj_13_118).trans (z_geti (by decide) (by decide) (Or.inl rfl))
theorem mj_13_121 : mc_P 13 121 = some (.invokevirtual 80, 3, 16, 1, 3) := by decide +kernel
theorem s_13_121 {x0 x1 x2 x3 x4 : Option Value} {o : Nat} {a1 a2 : Value} : mw (d + 1) 13 Q 121 [x0, x1, x2, x3, x4] (a2 :: a1 :: .ref o :: st) h = (mg h o 1 ∧ mca st 8 ∧ mca [.ref o, a1, a2] 9 ∧ mcall d 16 [.ref o, a1, a2] h (mK (d + 1) 13 Q 124 [x0, x1, x2, x3, x4] st)) := (mw_at mj_13_121).trans ((z_invv (As := [a1, a2]) (by decide) rfl rfl).trans (congrArg (And _) (congrArg (And _) (mC_nl nl_16))))
theorem mj_13_124 : mc_P 13 124 = some (.goto 112, 3, 0, 0, 0) := by decide +kernel
theorem s_13_124 {x0 x1 x2 x3 x4 : Option Value} : mw d 13 Q 124 [x0, x1, x2, x3, x4] (st) h = mw d 13 Q 236 [x0, x1, x2, x3, x4] (st) h := (mw_at mj_13_124).trans (z_goto (by decide))
theorem mj_13_127 : mc_P 13 127 = some (.aload_n 0, 1, 0, 0, 0) := by decide +kernel
theorem s_13_127 {x1 x2 x3 x4 : Option Value} {w : Value} : mw d 13 Q 127 [some w, x1, x2, x3, x4] (st) h = mv_a w (mw d 13 Q 128 [some w, x1, x2, x3, x4] (w :: st) h) := (mw_at mj_13_127).trans (z_aload_n rfl)
theorem mj_13_128 : mc_P 13 128 = some (.aload_n 3, 1, 0, 0, 0) := by decide +kernel
theorem s_13_128 {x0 x1 x2 x4 : Option Value} {w : Value} : mw d 13 Q 128 [x0, x1, x2, some w, x4] (st) h = mv_a w (mw d 13 Q 129 [x0, x1, x2, some w, x4] (w :: st) h) := (mw_at mj_13_128).trans (z_aload_n rfl)
theorem mj_13_129 : mc_P 13 129 = some (.aload_n 0, 1, 0, 0, 0) := by decide +kernel
theorem s_13_129 {x1 x2 x3 x4 : Option Value} {w : Value} : mw d 13 Q 129 [some w, x1, x2, x3, x4] (st) h = mv_a w (mw d 13 Q 130 [some w, x1, x2, x3, x4] (w :: st) h) := (mw_at mj_13_129).trans (z_aload_n rfl)
theorem mj_13_130 : mc_P 13 130 = some (.getfield 39, 3, 1, 0, 0) := by decide +kernel
theorem s_13_130 {x0 x1 x2 x3 x4 : Option Value} {o : Nat} : mw d 13 Q 130 [x0, x1, x2, x3, x4] (.ref o :: st) h = (mg h o 1 ∧ mw d 13 Q 133 [x0, x1, x2, x3, x4] (va_rf (mh_r h o 0) :: st) h) := (mw_at mj_13_130).trans (z_getr (by decide) (by decide) rfl)
theorem mj_13_133 : mc_P 13 133 = some (.getfield 91, 3, 4, 5, 0) := by decide +kernel
theorem s_13_133 {x0 x1 x2 x3 x4 : Option Value} {o : Nat} : mw d 13 Q 133 [x0, x1, x2, x3, x4] (.ref o :: st) h = (mg h o 4 ∧ mw d 13 Q 136 [x0, x1, x2, x3, x4] (va_rf (mh_r h o 5) :: st) h) := (mw_at mj_13_133).trans (z_getr (by decide) (by decide) rfl)
theorem mj_13_136 : mc_P 13 136 = some (.iload_n 1, 1, 0, 0, 0) := by decide +kernel
theorem s_13_136 {x0 x2 x3 x4 : Option Value} {w : Value} : mw d 13 Q 136 [x0, some w, x2, x3, x4] (st) h = mv_i w (mw d 13 Q 137 [x0, some w, x2, x3, x4] (w :: st) h) := (mw_at mj_13_136).trans (z_iload_n rfl)
theorem mj_13_137 : mc_P 13 137 = some (.iaload, 1, 0, 0, 0) := by decide +kernel
theorem s_13_137 {x0 x1 x2 x3 x4 : Option Value} {o : Nat} {i : Int32} : mw d 13 Q 137 [x0, x1, x2, x3, x4] (.int i :: .ref o :: st) h = (mg h o 100 ∧ mx i (mh_l h o) ∧ mw d 13 Q 138 [x0, x1, x2, x3, x4] (.int (mh_i h o i.toNatClampNeg) :: st) h) := (mw_at mj_13_137).trans (z_iald)
theorem s_13_137x {x0 x1 x2 x3 x4 : Option Value} {i : Int32} : mw d 13 Q 137 [x0, x1, x2, x3, x4] (.int i :: .retAddr 2 :: st) h = (mx i 24 ∧ mw d 13 Q 138 [x0, x1, x2, x3, x4] (.int (mx_row.getD i.toNatClampNeg 0) :: st) h) := (mw_at mj_13_137).trans (z_iaX)
theorem mj_13_138 : mc_P 13 138 = some (.aload_n 3, 1, 0, 0, 0) := by decide +kernel
theorem s_13_138 {x0 x1 x2 x4 : Option Value} {w : Value} : mw d 13 Q 138 [x0, x1, x2, some w, x4] (st) h = mv_a w (mw d 13 Q 139 [x0, x1, x2, some w, x4] (w :: st) h) := (mw_at mj_13_138).trans (z_aload_n rfl)
theorem mj_13_139 : mc_P 13 139 = some (.getfield 88, 3, 9, 8, 0) := by decide +kernel
theorem s_13_139 {x0 x1 x2 x3 x4 : Option Value} {o : Nat} : mw d 13 Q 139 [x0, x1, x2, x3, x4] (.ref o :: st) h = (mg h o 9 ∧ mw d 13 Q 142 [x0, x1, x2, x3, x4] (.int (mh_i h o 8) :: st) h) := (mw_at mj_13_139).trans (z_geti (by decide) (by decide) (Or.inl rfl))
theorem mj_13_142 : mc_P 13 142 = some (.iadd, 1, 0, 0, 0) := by decide +kernel
theorem s_13_142 {x0 x1 x2 x3 x4 : Option Value} {x w : Int32} : mw d 13 Q 142 [x0, x1, x2, x3, x4] (.int w :: .int x :: st) h = mw d 13 Q 143 [x0, x1, x2, x3, x4] (.int (x + w) :: st) h := (mw_at mj_13_142).trans (z_iadd)
theorem mj_13_143 : mc_P 13 143 = some (.invokevirtual 94, 3, 15, 1, 3) := by decide +kernel
theorem s_13_143 {x0 x1 x2 x3 x4 : Option Value} {o : Nat} {a1 a2 : Value} : mw (d + 1) 13 Q 143 [x0, x1, x2, x3, x4] (a2 :: a1 :: .ref o :: st) h = (mg h o 1 ∧ mca st 8 ∧ mca [.ref o, a1, a2] 9 ∧ mcall d 15 [.ref o, a1, a2] h (mK (d + 1) 13 Q 146 [x0, x1, x2, x3, x4] st)) := (mw_at mj_13_143).trans ((z_invv (As := [a1, a2]) (by decide) rfl rfl).trans (congrArg (And _) (congrArg (And _) (mC_nl nl_15))))
theorem mj_13_146 : mc_P 13 146 = some (.goto 90, 3, 0, 0, 0) := by decide +kernel
theorem s_13_146 {x0 x1 x2 x3 x4 : Option Value} : mw d 13 Q 146 [x0, x1, x2, x3, x4] (st) h = mw d 13 Q 236 [x0, x1, x2, x3, x4] (st) h := (mw_at mj_13_146).trans (z_goto (by decide))
theorem mj_13_149 : mc_P 13 149 = some (.iconst 0, 1, 0, 0, 0) := by decide +kernel
theorem s_13_149 {x0 x1 x2 x3 x4 : Option Value} : mw d 13 Q 149 [x0, x1, x2, x3, x4] (st) h = mw d 13 Q 150 [x0, x1, x2, x3, x4] (.int 0 :: st) h := (mw_at mj_13_149).trans (z_iconst (by decide))
theorem mj_13_150 : mc_P 13 150 = some (.istore 4, 2, 0, 0, 0) := by decide +kernel
theorem s_13_150 {x0 x1 x2 x3 x4 : Option Value} {w : Int32} : mw d 13 Q 150 [x0, x1, x2, x3, x4] (.int w :: st) h = mw d 13 Q 152 [x0, x1, x2, mk2 x3, some (.int w)] (st) h := (mw_at mj_13_150).trans (z_istore (Nat.le_of_ble_eq_true rfl) (me_s1_mk (j := 3) (w := x3) rfl))
theorem mj_13_152 : mc_P 13 152 = some (.iload 4, 2, 0, 0, 0) := by decide +kernel
theorem s_13_152 {x0 x1 x2 x3 : Option Value} {w : Value} : mw d 13 Q 152 [x0, x1, x2, x3, some w] (st) h = mv_i w (mw d 13 Q 154 [x0, x1, x2, x3, some w] (w :: st) h) := (mw_at mj_13_152).trans (z_iload rfl)
theorem mj_13_154 : mc_P 13 154 = some (.aload_n 3, 1, 0, 0, 0) := by decide +kernel
theorem s_13_154 {x0 x1 x2 x4 : Option Value} {w : Value} : mw d 13 Q 154 [x0, x1, x2, some w, x4] (st) h = mv_a w (mw d 13 Q 155 [x0, x1, x2, some w, x4] (w :: st) h) := (mw_at mj_13_154).trans (z_aload_n rfl)
theorem mj_13_155 : mc_P 13 155 = some (.getfield 70, 3, 9, 11, 0) := by decide +kernel
theorem s_13_155 {x0 x1 x2 x3 x4 : Option Value} {o : Nat} : mw d 13 Q 155 [x0, x1, x2, x3, x4] (.ref o :: st) h = (mg h o 9 ∧ mw d 13 Q 158 [x0, x1, x2, x3, x4] (.int (mh_i h o 11) :: st) h) := (mw_at mj_13_155).trans (z_geti (by decide) (by decide) (Or.inl rfl))
theorem mj_13_158 : mc_P 13 158 = some (.if_icmp .ge 59, 3, 0, 0, 0) := by decide +kernel
theorem s_13_158 {x0 x1 x2 x3 x4 : Option Value} {x w : Int32} : mw d 13 Q 158 [x0, x1, x2, x3, x4] (.int w :: .int x :: st) h = mB (w ≤ x) (mw d 13 Q) 217 161 [x0, x1, x2, x3, x4] st h := (mw_at mj_13_158).trans (z_icmp_ge (by decide) rfl)
theorem mj_13_161 : mc_P 13 161 = some (.aload_n 0, 1, 0, 0, 0) := by decide +kernel
theorem s_13_161 {x1 x2 x3 x4 : Option Value} {w : Value} : mw d 13 Q 161 [some w, x1, x2, x3, x4] (st) h = mv_a w (mw d 13 Q 162 [some w, x1, x2, x3, x4] (w :: st) h) := (mw_at mj_13_161).trans (z_aload_n rfl)
theorem mj_13_162 : mc_P 13 162 = some (.getfield 21, 3, 1, 2, 0) := by decide +kernel
theorem s_13_162 {x0 x1 x2 x3 x4 : Option Value} {o : Nat} : mw d 13 Q 162 [x0, x1, x2, x3, x4] (.ref o :: st) h = (mg h o 1 ∧ mw d 13 Q 165 [x0, x1, x2, x3, x4] (va_rf (mh_r h o 2) :: st) h) := (mw_at mj_13_162).trans (z_getr (by decide) (by decide) rfl)
theorem mj_13_165 : mc_P 13 165 = some (.getfield 98, 3, 8, 0, 0) := by decide +kernel
theorem s_13_165 {x0 x1 x2 x3 x4 : Option Value} {o : Nat} : mw d 13 Q 165 [x0, x1, x2, x3, x4] (.ref o :: st) h = (mg h o 8 ∧ mw d 13 Q 168 [x0, x1, x2, x3, x4] (.int (mh_i h o 0) :: st) h) := (mw_at mj_13_165).trans (z_geti (by decide) (by decide) (Or.inr rfl))
theorem mj_13_168 : mc_P 13 168 = some (.ifCond .ne 49, 3, 0, 0, 0) := by decide +kernel
theorem s_13_168 {x0 x1 x2 x3 x4 : Option Value} {x : Int32} : mw d 13 Q 168 [x0, x1, x2, x3, x4] (.int x :: st) h = mB (¬ x = 0) (mw d 13 Q) 217 171 [x0, x1, x2, x3, x4] st h := (mw_at mj_13_168).trans (z_if_ne (by decide) rfl)
theorem mj_13_171 : mc_P 13 171 = some (.aload_n 0, 1, 0, 0, 0) := by decide +kernel
theorem s_13_171 {x1 x2 x3 x4 : Option Value} {w : Value} : mw d 13 Q 171 [some w, x1, x2, x3, x4] (st) h = mv_a w (mw d 13 Q 172 [some w, x1, x2, x3, x4] (w :: st) h) := (mw_at mj_13_171).trans (z_aload_n rfl)
theorem mj_13_172 : mc_P 13 172 = some (.getfield 21, 3, 1, 2, 0) := by decide +kernel
theorem s_13_172 {x0 x1 x2 x3 x4 : Option Value} {o : Nat} : mw d 13 Q 172 [x0, x1, x2, x3, x4] (.ref o :: st) h = (mg h o 1 ∧ mw d 13 Q 175 [x0, x1, x2, x3, x4] (va_rf (mh_r h o 2) :: st) h) := (mw_at mj_13_172).trans (z_getr (by decide) (by decide) rfl)
theorem mj_13_175 : mc_P 13 175 = some (.invokevirtual 102, 3, 153, 8, 1) := by decide +kernel
theorem s_13_175 {x0 x1 x2 x3 x4 : Option Value} {o : Nat} : mw (d + 1) 13 Q 175 [x0, x1, x2, x3, x4] (.ref o :: st) h = (mg h o 8 ∧ mca st 8 ∧ mca [.ref o] 1 ∧ mcall d 153 [.ref o] h (mK (d + 1) 13 Q 178 [x0, x1, x2, x3, x4] st)) := (mw_at mj_13_175).trans ((z_invv (As := []) (by decide) rfl rfl).trans (congrArg (And _) (congrArg (And _) (mC_nl nl_153))))
theorem mj_13_178 : mc_P 13 178 = some (.aload_n 0, 1, 0, 0, 0) := by decide +kernel
theorem s_13_178 {x1 x2 x3 x4 : Option Value} {w : Value} : mw d 13 Q 178 [some w, x1, x2, x3, x4] (st) h = mv_a w (mw d 13 Q 179 [some w, x1, x2, x3, x4] (w :: st) h) := (mw_at mj_13_178).trans (z_aload_n rfl)
theorem mj_13_179 : mc_P 13 179 = some (.aload_n 0, 1, 0, 0, 0) := by decide +kernel
theorem s_13_179 {x1 x2 x3 x4 : Option Value} {w : Value} : mw d 13 Q 179 [some w, x1, x2, x3, x4] (st) h = mv_a w (mw d 13 Q 180 [some w, x1, x2, x3, x4] (w :: st) h) := (mw_at mj_13_179).trans (z_aload_n rfl)
theorem mj_13_180 : mc_P 13 180 = some (.getfield 39, 3, 1, 0, 0) := by decide +kernel
theorem s_13_180 {x0 x1 x2 x3 x4 : Option Value} {o : Nat} : mw d 13 Q 180 [x0, x1, x2, x3, x4] (.ref o :: st) h = (mg h o 1 ∧ mw d 13 Q 183 [x0, x1, x2, x3, x4] (va_rf (mh_r h o 0) :: st) h) := (mw_at mj_13_180).trans (z_getr (by decide) (by decide) rfl)
theorem mj_13_183 : mc_P 13 183 = some (.iload_n 1, 1, 0, 0, 0) := by decide +kernel
theorem s_13_183 {x0 x2 x3 x4 : Option Value} {w : Value} : mw d 13 Q 183 [x0, some w, x2, x3, x4] (st) h = mv_i w (mw d 13 Q 184 [x0, some w, x2, x3, x4] (w :: st) h) := (mw_at mj_13_183).trans (z_iload_n rfl)
theorem mj_13_184 : mc_P 13 184 = some (.invokevirtual 73, 3, 80, 4, 2) := by decide +kernel
theorem s_13_184 {x0 x1 x2 x3 x4 : Option Value} {o : Nat} {a1 : Value} : mw (d + 1) 13 Q 184 [x0, x1, x2, x3, x4] (a1 :: .ref o :: st) h = (mg h o 4 ∧ mca st 8 ∧ mca [.ref o, a1] 2 ∧ mcall d 80 [.ref o, a1] h (mK (d + 1) 13 Q 187 [x0, x1, x2, x3, x4] st)) := (mw_at mj_13_184).trans ((z_invv (As := [a1]) (by decide) rfl rfl).trans (congrArg (And _) (congrArg (And _) (mC_nl nl_80))))
theorem mj_13_187 : mc_P 13 187 = some (.iload 4, 2, 0, 0, 0) := by decide +kernel
theorem s_13_187 {x0 x1 x2 x3 : Option Value} {w : Value} : mw d 13 Q 187 [x0, x1, x2, x3, some w] (st) h = mv_i w (mw d 13 Q 189 [x0, x1, x2, x3, some w] (w :: st) h) := (mw_at mj_13_187).trans (z_iload rfl)
theorem mj_13_189 : mc_P 13 189 = some (.iadd, 1, 0, 0, 0) := by decide +kernel
theorem s_13_189 {x0 x1 x2 x3 x4 : Option Value} {x w : Int32} : mw d 13 Q 189 [x0, x1, x2, x3, x4] (.int w :: .int x :: st) h = mw d 13 Q 190 [x0, x1, x2, x3, x4] (.int (x + w) :: st) h := (mw_at mj_13_189).trans (z_iadd)
theorem mj_13_190 : mc_P 13 190 = some (.aload_n 3, 1, 0, 0, 0) := by decide +kernel
theorem s_13_190 {x0 x1 x2 x4 : Option Value} {w : Value} : mw d 13 Q 190 [x0, x1, x2, some w, x4] (st) h = mv_a w (mw d 13 Q 191 [x0, x1, x2, some w, x4] (w :: st) h) := (mw_at mj_13_190).trans (z_aload_n rfl)
theorem mj_13_191 : mc_P 13 191 = some (.getfield 77, 3, 9, 10, 0) := by decide +kernel
theorem s_13_191 {x0 x1 x2 x3 x4 : Option Value} {o : Nat} : mw d 13 Q 191 [x0, x1, x2, x3, x4] (.ref o :: st) h = (mg h o 9 ∧ mw d 13 Q 194 [x0, x1, x2, x3, x4] (.int (mh_i h o 10) :: st) h) := (mw_at mj_13_191).trans (z_geti (by decide) (by decide) (Or.inl rfl))
theorem mj_13_194 : mc_P 13 194 = some (.iload 4, 2, 0, 0, 0) := by decide +kernel
theorem s_13_194 {x0 x1 x2 x3 : Option Value} {w : Value} : mw d 13 Q 194 [x0, x1, x2, x3, some w] (st) h = mv_i w (mw d 13 Q 196 [x0, x1, x2, x3, some w] (w :: st) h) := (mw_at mj_13_194).trans (z_iload rfl)
theorem mj_13_196 : mc_P 13 196 = some (.iadd, 1, 0, 0, 0) := by decide +kernel
theorem s_13_196 {x0 x1 x2 x3 x4 : Option Value} {x w : Int32} : mw d 13 Q 196 [x0, x1, x2, x3, x4] (.int w :: .int x :: st) h = mw d 13 Q 197 [x0, x1, x2, x3, x4] (.int (x + w) :: st) h := (mw_at mj_13_196).trans (z_iadd)
theorem mj_13_197 : mc_P 13 197 = some (.invokevirtual 80, 3, 16, 1, 3) := by decide +kernel
theorem s_13_197 {x0 x1 x2 x3 x4 : Option Value} {o : Nat} {a1 a2 : Value} : mw (d + 1) 13 Q 197 [x0, x1, x2, x3, x4] (a2 :: a1 :: .ref o :: st) h = (mg h o 1 ∧ mca st 8 ∧ mca [.ref o, a1, a2] 9 ∧ mcall d 16 [.ref o, a1, a2] h (mK (d + 1) 13 Q 200 [x0, x1, x2, x3, x4] st)) := (mw_at mj_13_197).trans ((z_invv (As := [a1, a2]) (by decide) rfl rfl).trans (congrArg (And _) (congrArg (And _) (mC_nl nl_16))))
theorem mj_13_200 : mc_P 13 200 = some (.aload_n 0, 1, 0, 0, 0) := by decide +kernel
theorem s_13_200 {x1 x2 x3 x4 : Option Value} {w : Value} : mw d 13 Q 200 [some w, x1, x2, x3, x4] (st) h = mv_a w (mw d 13 Q 201 [some w, x1, x2, x3, x4] (w :: st) h) := (mw_at mj_13_200).trans (z_aload_n rfl)
theorem mj_13_201 : mc_P 13 201 = some (.getfield 21, 3, 1, 2, 0) := by decide +kernel
theorem s_13_201 {x0 x1 x2 x3 x4 : Option Value} {o : Nat} : mw d 13 Q 201 [x0, x1, x2, x3, x4] (.ref o :: st) h = (mg h o 1 ∧ mw d 13 Q 204 [x0, x1, x2, x3, x4] (va_rf (mh_r h o 2) :: st) h) := (mw_at mj_13_201).trans (z_getr (by decide) (by decide) rfl)
theorem mj_13_204 : mc_P 13 204 = some (.aload_n 0, 1, 0, 0, 0) := by decide +kernel
theorem s_13_204 {x1 x2 x3 x4 : Option Value} {w : Value} : mw d 13 Q 204 [some w, x1, x2, x3, x4] (st) h = mv_a w (mw d 13 Q 205 [some w, x1, x2, x3, x4] (w :: st) h) := (mw_at mj_13_204).trans (z_aload_n rfl)
theorem mj_13_205 : mc_P 13 205 = some (.getfield 35, 3, 1, 7, 0) := by decide +kernel
theorem s_13_205 {x0 x1 x2 x3 x4 : Option Value} {o : Nat} : mw d 13 Q 205 [x0, x1, x2, x3, x4] (.ref o :: st) h = (mg h o 1 ∧ mw d 13 Q 208 [x0, x1, x2, x3, x4] (va_rf (mh_r h o 7) :: st) h) := (mw_at mj_13_205).trans (z_getr (by decide) (by decide) rfl)
theorem mj_13_208 : mc_P 13 208 = some (.invokevirtual 105, 3, 159, 8, 2) := by decide +kernel
theorem s_13_208 {x0 x1 x2 x3 x4 : Option Value} {o : Nat} {a1 : Value} : mw (d + 1) 13 Q 208 [x0, x1, x2, x3, x4] (a1 :: .ref o :: st) h = (mg h o 8 ∧ mca st 8 ∧ mca [.ref o, a1] 3 ∧ mcall d 159 [.ref o, a1] h (mK (d + 1) 13 Q 211 [x0, x1, x2, x3, x4] st)) := (mw_at mj_13_208).trans ((z_invv (As := [a1]) (by decide) rfl rfl).trans (congrArg (And _) (congrArg (And _) (mC_nl nl_159))))
theorem mj_13_211 : mc_P 13 211 = some (.iinc 4 1, 3, 0, 0, 0) := by decide +kernel
theorem s_13_211 {x0 x1 x2 x3 : Option Value} {w : Int32} : mw d 13 Q 211 [x0, x1, x2, x3, some (.int w)] (st) h = mw d 13 Q 214 [x0, x1, x2, mk2 x3, some (.int (w + 1))] (st) h := (mw_at mj_13_211).trans (z_iinc rfl (Nat.le_of_ble_eq_true rfl) (by decide) (me_s1_mk (j := 3) (w := x3) rfl))
theorem mj_13_214 : mc_P 13 214 = some (.goto (-62), 3, 0, 0, 0) := by decide +kernel
theorem s_13_214 {x0 x1 x2 x3 x4 : Option Value} : mw d 13 Q 214 [x0, x1, x2, x3, x4] (st) h = mw d 13 Q 152 [x0, x1, x2, x3, x4] (st) h := (mw_at mj_13_214).trans (z_goto (by decide))
theorem mj_13_217 : mc_P 13 217 = some (.goto 19, 3, 0, 0, 0) := by decide +kernel
theorem s_13_217 {x0 x1 x2 x3 x4 : Option Value} : mw d 13 Q 217 [x0, x1, x2, x3, x4] (st) h = mw d 13 Q 236 [x0, x1, x2, x3, x4] (st) h := (mw_at mj_13_217).trans (z_goto (by decide))
theorem mj_13_220 : mc_P 13 220 = some (.aload_n 0, 1, 0, 0, 0) := by decide +kernel
theorem s_13_220 {x1 x2 x3 x4 : Option Value} {w : Value} : mw d 13 Q 220 [some w, x1, x2, x3, x4] (st) h = mv_a w (mw d 13 Q 221 [some w, x1, x2, x3, x4] (w :: st) h) := (mw_at mj_13_220).trans (z_aload_n rfl)
theorem mj_13_221 : mc_P 13 221 = some (.aload_n 0, 1, 0, 0, 0) := by decide +kernel
theorem s_13_221 {x1 x2 x3 x4 : Option Value} {w : Value} : mw d 13 Q 221 [some w, x1, x2, x3, x4] (st) h = mv_a w (mw d 13 Q 222 [some w, x1, x2, x3, x4] (w :: st) h) := (mw_at mj_13_221).trans (z_aload_n rfl)
theorem mj_13_222 : mc_P 13 222 = some (.getfield 39, 3, 1, 0, 0) := by decide +kernel
theorem s_13_222 {x0 x1 x2 x3 x4 : Option Value} {o : Nat} : mw d 13 Q 222 [x0, x1, x2, x3, x4] (.ref o :: st) h = (mg h o 1 ∧ mw d 13 Q 225 [x0, x1, x2, x3, x4] (va_rf (mh_r h o 0) :: st) h) := (mw_at mj_13_222).trans (z_getr (by decide) (by decide) rfl)
theorem mj_13_225 : mc_P 13 225 = some (.iload_n 1, 1, 0, 0, 0) := by decide +kernel
theorem s_13_225 {x0 x2 x3 x4 : Option Value} {w : Value} : mw d 13 Q 225 [x0, some w, x2, x3, x4] (st) h = mv_i w (mw d 13 Q 226 [x0, some w, x2, x3, x4] (w :: st) h) := (mw_at mj_13_225).trans (z_iload_n rfl)
theorem mj_13_226 : mc_P 13 226 = some (.invokevirtual 109, 3, 84, 4, 2) := by decide +kernel
theorem s_13_226 {x0 x1 x2 x3 x4 : Option Value} {o : Nat} {a1 : Value} : mw (d + 1) 13 Q 226 [x0, x1, x2, x3, x4] (a1 :: .ref o :: st) h = (mg h o 4 ∧ mca st 8 ∧ mca [.ref o, a1] 4 ∧ mcall d 84 [.ref o, a1] h (mK (d + 1) 13 Q 229 [x0, x1, x2, x3, x4] st)) := (mw_at mj_13_226).trans ((z_invv (As := [a1]) (by decide) rfl rfl).trans (congrArg (And _) (congrArg (And _) (mC_nl nl_84))))
theorem mj_13_229 : mc_P 13 229 = some (.aload_n 3, 1, 0, 0, 0) := by decide +kernel
theorem s_13_229 {x0 x1 x2 x4 : Option Value} {w : Value} : mw d 13 Q 229 [x0, x1, x2, some w, x4] (st) h = mv_a w (mw d 13 Q 230 [x0, x1, x2, some w, x4] (w :: st) h) := (mw_at mj_13_229).trans (z_aload_n rfl)
theorem mj_13_230 : mc_P 13 230 = some (.getfield 77, 3, 9, 10, 0) := by decide +kernel
theorem s_13_230 {x0 x1 x2 x3 x4 : Option Value} {o : Nat} : mw d 13 Q 230 [x0, x1, x2, x3, x4] (.ref o :: st) h = (mg h o 9 ∧ mw d 13 Q 233 [x0, x1, x2, x3, x4] (.int (mh_i h o 10) :: st) h) := (mw_at mj_13_230).trans (z_geti (by decide) (by decide) (Or.inl rfl))
theorem mj_13_233 : mc_P 13 233 = some (.invokevirtual 80, 3, 16, 1, 3) := by decide +kernel
theorem s_13_233 {x0 x1 x2 x3 x4 : Option Value} {o : Nat} {a1 a2 : Value} : mw (d + 1) 13 Q 233 [x0, x1, x2, x3, x4] (a2 :: a1 :: .ref o :: st) h = (mg h o 1 ∧ mca st 8 ∧ mca [.ref o, a1, a2] 9 ∧ mcall d 16 [.ref o, a1, a2] h (mK (d + 1) 13 Q 236 [x0, x1, x2, x3, x4] st)) := (mw_at mj_13_233).trans ((z_invv (As := [a1, a2]) (by decide) rfl rfl).trans (congrArg (And _) (congrArg (And _) (mC_nl nl_16))))
theorem mj_13_236 : mc_P 13 236 = some (.aload_n 0, 1, 0, 0, 0) := by decide +kernel
theorem s_13_236 {x1 x2 x3 x4 : Option Value} {w : Value} : mw d 13 Q 236 [some w, x1, x2, x3, x4] (st) h = mv_a w (mw d 13 Q 237 [some w, x1, x2, x3, x4] (w :: st) h) := (mw_at mj_13_236).trans (z_aload_n rfl)
theorem mj_13_237 : mc_P 13 237 = some (.getfield 21, 3, 1, 2, 0) := by decide +kernel
theorem s_13_237 {x0 x1 x2 x3 x4 : Option Value} {o : Nat} : mw d 13 Q 237 [x0, x1, x2, x3, x4] (.ref o :: st) h = (mg h o 1 ∧ mw d 13 Q 240 [x0, x1, x2, x3, x4] (va_rf (mh_r h o 2) :: st) h) := (mw_at mj_13_237).trans (z_getr (by decide) (by decide) rfl)
theorem mj_13_240 : mc_P 13 240 = some (.aload_n 0, 1, 0, 0, 0) := by decide +kernel
theorem s_13_240 {x1 x2 x3 x4 : Option Value} {w : Value} : mw d 13 Q 240 [some w, x1, x2, x3, x4] (st) h = mv_a w (mw d 13 Q 241 [some w, x1, x2, x3, x4] (w :: st) h) := (mw_at mj_13_240).trans (z_aload_n rfl)
theorem mj_13_241 : mc_P 13 241 = some (.getfield 35, 3, 1, 7, 0) := by decide +kernel
theorem s_13_241 {x0 x1 x2 x3 x4 : Option Value} {o : Nat} : mw d 13 Q 241 [x0, x1, x2, x3, x4] (.ref o :: st) h = (mg h o 1 ∧ mw d 13 Q 244 [x0, x1, x2, x3, x4] (va_rf (mh_r h o 7) :: st) h) := (mw_at mj_13_241).trans (z_getr (by decide) (by decide) rfl)
theorem mj_13_244 : mc_P 13 244 = some (.invokevirtual 105, 3, 159, 8, 2) := by decide +kernel
theorem s_13_244 {x0 x1 x2 x3 x4 : Option Value} {o : Nat} {a1 : Value} : mw (d + 1) 13 Q 244 [x0, x1, x2, x3, x4] (a1 :: .ref o :: st) h = (mg h o 8 ∧ mca st 8 ∧ mca [.ref o, a1] 3 ∧ mcall d 159 [.ref o, a1] h (mK (d + 1) 13 Q 247 [x0, x1, x2, x3, x4] st)) := (mw_at mj_13_244).trans ((z_invv (As := [a1]) (by decide) rfl rfl).trans (congrArg (And _) (congrArg (And _) (mC_nl nl_159))))
theorem mj_13_247 : mc_P 13 247 = some (.aload_n 0, 1, 0, 0, 0) := by decide +kernel
theorem s_13_247 {x1 x2 x3 x4 : Option Value} {w : Value} : mw d 13 Q 247 [some w, x1, x2, x3, x4] (st) h = mv_a w (mw d 13 Q 248 [some w, x1, x2, x3, x4] (w :: st) h) := (mw_at mj_13_247).trans (z_aload_n rfl)
theorem mj_13_248 : mc_P 13 248 = some (.aload_n 0, 1, 0, 0, 0) := by decide +kernel
theorem s_13_248 {x1 x2 x3 x4 : Option Value} {w : Value} : mw d 13 Q 248 [some w, x1, x2, x3, x4] (st) h = mv_a w (mw d 13 Q 249 [some w, x1, x2, x3, x4] (w :: st) h) := (mw_at mj_13_248).trans (z_aload_n rfl)
theorem mj_13_249 : mc_P 13 249 = some (.getfield 12, 3, 1, 1, 0) := by decide +kernel
theorem s_13_249 {x0 x1 x2 x3 x4 : Option Value} {o : Nat} : mw d 13 Q 249 [x0, x1, x2, x3, x4] (.ref o :: st) h = (mg h o 1 ∧ mw d 13 Q 252 [x0, x1, x2, x3, x4] (va_rf (mh_r h o 1) :: st) h) := (mw_at mj_13_249).trans (z_getr (by decide) (by decide) rfl)
theorem mj_13_252 : mc_P 13 252 = some (.getfield 112, 3, 5, 4, 0) := by decide +kernel
theorem s_13_252 {x0 x1 x2 x3 x4 : Option Value} {o : Nat} : mw d 13 Q 252 [x0, x1, x2, x3, x4] (.ref o :: st) h = (mg h o 5 ∧ mw d 13 Q 255 [x0, x1, x2, x3, x4] (.int (mh_i h o 4) :: st) h) := (mw_at mj_13_252).trans (z_geti (by decide) (by decide) (Or.inl rfl))
theorem mj_13_255 : mc_P 13 255 = some (.putfield 115, 3, 1, 8, 0) := by decide +kernel
theorem s_13_255 {x0 x1 x2 x3 x4 : Option Value} {o : Nat} {w : Int32} : mw d 13 Q 255 [x0, x1, x2, x3, x4] (.int w :: .ref o :: st) h = (mg h o 1 ∧ mw d 13 Q 258 [x0, x1, x2, x3, x4] (st) (mh_si h o 8 w)) := (mw_at mj_13_255).trans (z_puti (by decide) (by decide) rfl)
theorem mj_13_258 : mc_P 13 258 = some (.return_, 1, 0, 0, 0) := by decide +kernel
theorem s_13_258 {x0 x1 x2 x3 x4 : Option Value} : mw d 13 Q 258 [x0, x1, x2, x3, x4] ([]) h = Q none h := (mw_at mj_13_258).trans (z_vret)
theorem e_13 {a0 : Nat} {a1 : Int32} {a2 : Nat} : mcall d 13 [.ref a0, .int a1, .ref a2] h Q = mw d 13 Q 0 [some (.ref a0), some (.int a1), some (.ref a2), none, none] [] h := by
  show mw d 13 Q 0 (me_en (mc_nl 13) _) [] h = _
  rw [nl_13]; rfl

/-! InvariantDesk$Effect.bring(LInvariantDesk$Statement;)V -/
theorem mj_14_0 : mc_P 14 0 = some (.aload_n 1, 1, 0, 0, 0) := by decide +kernel
theorem s_14_0 {x0 x2 : Option Value} {w : Value} : mw d 14 Q 0 [x0, some w, x2] (st) h = mv_a w (mw d 14 Q 1 [x0, some w, x2] (w :: st) h) := (mw_at mj_14_0).trans (z_aload_n rfl)
theorem mj_14_1 : mc_P 14 1 = some (.getfield 67, 3, 9, 9, 0) := by decide +kernel
theorem s_14_1 {x0 x1 x2 : Option Value} {o : Nat} : mw d 14 Q 1 [x0, x1, x2] (.ref o :: st) h = (mg h o 9 ∧ mw d 14 Q 4 [x0, x1, x2] (.int (mh_i h o 9) :: st) h) := (mw_at mj_14_1).trans (z_geti (by decide) (by decide) (Or.inl rfl))
theorem mj_14_4 : mc_P 14 4 = some (.ifCond .le 13, 3, 0, 0, 0) := by decide +kernel
theorem s_14_4 {x0 x1 x2 : Option Value} {x : Int32} : mw d 14 Q 4 [x0, x1, x2] (.int x :: st) h = mB (x ≤ 0) (mw d 14 Q) 17 7 [x0, x1, x2] st h := (mw_at mj_14_4).trans (z_if_le (by decide) rfl)
theorem mj_14_7 : mc_P 14 7 = some (.aload_n 0, 1, 0, 0, 0) := by decide +kernel
theorem s_14_7 {x1 x2 : Option Value} {w : Value} : mw d 14 Q 7 [some w, x1, x2] (st) h = mv_a w (mw d 14 Q 8 [some w, x1, x2] (w :: st) h) := (mw_at mj_14_7).trans (z_aload_n rfl)
theorem mj_14_8 : mc_P 14 8 = some (.getfield 21, 3, 1, 2, 0) := by decide +kernel
theorem s_14_8 {x0 x1 x2 : Option Value} {o : Nat} : mw d 14 Q 8 [x0, x1, x2] (.ref o :: st) h = (mg h o 1 ∧ mw d 14 Q 11 [x0, x1, x2] (va_rf (mh_r h o 2) :: st) h) := (mw_at mj_14_8).trans (z_getr (by decide) (by decide) rfl)
theorem mj_14_11 : mc_P 14 11 = some (.invokevirtual 116, 3, 154, 8, 1) := by decide +kernel
theorem s_14_11 {x0 x1 x2 : Option Value} {o : Nat} : mw (d + 1) 14 Q 11 [x0, x1, x2] (.ref o :: st) h = (mg h o 8 ∧ mca st 8 ∧ mca [.ref o] 1 ∧ mcall d 154 [.ref o] h (mK (d + 1) 14 Q 14 [x0, x1, x2] st)) := (mw_at mj_14_11).trans ((z_invv (As := []) (by decide) rfl rfl).trans (congrArg (And _) (congrArg (And _) (mC_nl nl_154))))
theorem mj_14_14 : mc_P 14 14 = some (.goto 51, 3, 0, 0, 0) := by decide +kernel
theorem s_14_14 {x0 x1 x2 : Option Value} : mw d 14 Q 14 [x0, x1, x2] (st) h = mw d 14 Q 65 [x0, x1, x2] (st) h := (mw_at mj_14_14).trans (z_goto (by decide))
theorem mj_14_17 : mc_P 14 17 = some (.iconst 2, 1, 0, 0, 0) := by decide +kernel
theorem s_14_17 {x0 x1 x2 : Option Value} : mw d 14 Q 17 [x0, x1, x2] (st) h = mw d 14 Q 18 [x0, x1, x2] (.int 2 :: st) h := (mw_at mj_14_17).trans (z_iconst (by decide))
theorem mj_14_18 : mc_P 14 18 = some (.aload_n 0, 1, 0, 0, 0) := by decide +kernel
theorem s_14_18 {x1 x2 : Option Value} {w : Value} : mw d 14 Q 18 [some w, x1, x2] (st) h = mv_a w (mw d 14 Q 19 [some w, x1, x2] (w :: st) h) := (mw_at mj_14_18).trans (z_aload_n rfl)
theorem mj_14_19 : mc_P 14 19 = some (.getfield 21, 3, 1, 2, 0) := by decide +kernel
theorem s_14_19 {x0 x1 x2 : Option Value} {o : Nat} : mw d 14 Q 19 [x0, x1, x2] (.ref o :: st) h = (mg h o 1 ∧ mw d 14 Q 22 [x0, x1, x2] (va_rf (mh_r h o 2) :: st) h) := (mw_at mj_14_19).trans (z_getr (by decide) (by decide) rfl)
theorem mj_14_22 : mc_P 14 22 = some (.getfield 119, 3, 8, 1, 0) := by decide +kernel
theorem s_14_22 {x0 x1 x2 : Option Value} {o : Nat} : mw d 14 Q 22 [x0, x1, x2] (.ref o :: st) h = (mg h o 8 ∧ mw d 14 Q 25 [x0, x1, x2] (.int (mh_i h o 1) :: st) h) := (mw_at mj_14_22).trans (z_geti (by decide) (by decide) (Or.inl rfl))
theorem mj_14_25 : mc_P 14 25 = some (.imul, 1, 0, 0, 0) := by decide +kernel
theorem s_14_25 {x0 x1 x2 : Option Value} {x w : Int32} : mw d 14 Q 25 [x0, x1, x2] (.int w :: .int x :: st) h = mw d 14 Q 26 [x0, x1, x2] (.int (x * w) :: st) h := (mw_at mj_14_25).trans (z_imul)
theorem mj_14_26 : mc_P 14 26 = some (.istore_n 2, 1, 0, 0, 0) := by decide +kernel
theorem s_14_26 {x0 x1 x2 : Option Value} {w : Int32} : mw d 14 Q 26 [x0, x1, x2] (.int w :: st) h = mw d 14 Q 27 [x0, mk2 x1, some (.int w)] (st) h := (mw_at mj_14_26).trans (z_istore_n (Nat.le_of_ble_eq_true rfl) (me_s1_mk (j := 1) (w := x1) rfl))
theorem mj_14_27 : mc_P 14 27 = some (.aload_n 0, 1, 0, 0, 0) := by decide +kernel
theorem s_14_27 {x1 x2 : Option Value} {w : Value} : mw d 14 Q 27 [some w, x1, x2] (st) h = mv_a w (mw d 14 Q 28 [some w, x1, x2] (w :: st) h) := (mw_at mj_14_27).trans (z_aload_n rfl)
theorem mj_14_28 : mc_P 14 28 = some (.getfield 21, 3, 1, 2, 0) := by decide +kernel
theorem s_14_28 {x0 x1 x2 : Option Value} {o : Nat} : mw d 14 Q 28 [x0, x1, x2] (.ref o :: st) h = (mg h o 1 ∧ mw d 14 Q 31 [x0, x1, x2] (va_rf (mh_r h o 2) :: st) h) := (mw_at mj_14_28).trans (z_getr (by decide) (by decide) rfl)
theorem mj_14_31 : mc_P 14 31 = some (.invokevirtual 102, 3, 153, 8, 1) := by decide +kernel
theorem s_14_31 {x0 x1 x2 : Option Value} {o : Nat} : mw (d + 1) 14 Q 31 [x0, x1, x2] (.ref o :: st) h = (mg h o 8 ∧ mca st 8 ∧ mca [.ref o] 1 ∧ mcall d 153 [.ref o] h (mK (d + 1) 14 Q 34 [x0, x1, x2] st)) := (mw_at mj_14_31).trans ((z_invv (As := []) (by decide) rfl rfl).trans (congrArg (And _) (congrArg (And _) (mC_nl nl_153))))
theorem mj_14_34 : mc_P 14 34 = some (.aload_n 1, 1, 0, 0, 0) := by decide +kernel
theorem s_14_34 {x0 x2 : Option Value} {w : Value} : mw d 14 Q 34 [x0, some w, x2] (st) h = mv_a w (mw d 14 Q 35 [x0, some w, x2] (w :: st) h) := (mw_at mj_14_34).trans (z_aload_n rfl)
theorem mj_14_35 : mc_P 14 35 = some (.getfield 70, 3, 9, 11, 0) := by decide +kernel
theorem s_14_35 {x0 x1 x2 : Option Value} {o : Nat} : mw d 14 Q 35 [x0, x1, x2] (.ref o :: st) h = (mg h o 9 ∧ mw d 14 Q 38 [x0, x1, x2] (.int (mh_i h o 11) :: st) h) := (mw_at mj_14_35).trans (z_geti (by decide) (by decide) (Or.inl rfl))
theorem mj_14_38 : mc_P 14 38 = some (.ifCond .ne 27, 3, 0, 0, 0) := by decide +kernel
theorem s_14_38 {x0 x1 x2 : Option Value} {x : Int32} : mw d 14 Q 38 [x0, x1, x2] (.int x :: st) h = mB (¬ x = 0) (mw d 14 Q) 65 41 [x0, x1, x2] st h := (mw_at mj_14_38).trans (z_if_ne (by decide) rfl)
theorem mj_14_41 : mc_P 14 41 = some (.aload_n 0, 1, 0, 0, 0) := by decide +kernel
theorem s_14_41 {x1 x2 : Option Value} {w : Value} : mw d 14 Q 41 [some w, x1, x2] (st) h = mv_a w (mw d 14 Q 42 [some w, x1, x2] (w :: st) h) := (mw_at mj_14_41).trans (z_aload_n rfl)
theorem mj_14_42 : mc_P 14 42 = some (.getfield 21, 3, 1, 2, 0) := by decide +kernel
theorem s_14_42 {x0 x1 x2 : Option Value} {o : Nat} : mw d 14 Q 42 [x0, x1, x2] (.ref o :: st) h = (mg h o 1 ∧ mw d 14 Q 45 [x0, x1, x2] (va_rf (mh_r h o 2) :: st) h) := (mw_at mj_14_42).trans (z_getr (by decide) (by decide) rfl)
theorem mj_14_45 : mc_P 14 45 = some (.iload_n 2, 1, 0, 0, 0) := by decide +kernel
theorem s_14_45 {x0 x1 : Option Value} {w : Value} : mw d 14 Q 45 [x0, x1, some w] (st) h = mv_i w (mw d 14 Q 46 [x0, x1, some w] (w :: st) h) := (mw_at mj_14_45).trans (z_iload_n rfl)
theorem mj_14_46 : mc_P 14 46 = some (.iload_n 2, 1, 0, 0, 0) := by decide +kernel
theorem s_14_46 {x0 x1 : Option Value} {w : Value} : mw d 14 Q 46 [x0, x1, some w] (st) h = mv_i w (mw d 14 Q 47 [x0, x1, some w] (w :: st) h) := (mw_at mj_14_46).trans (z_iload_n rfl)
theorem mj_14_47 : mc_P 14 47 = some (.lconst 0, 1, 0, 0, 0) := by decide +kernel
theorem s_14_47 {x0 x1 x2 : Option Value} : mw d 14 Q 47 [x0, x1, x2] (st) h = mw d 14 Q 48 [x0, x1, x2] (.long 0 :: st) h := (mw_at mj_14_47).trans (z_lconst (by decide))
theorem mj_14_48 : mc_P 14 48 = some (.invokevirtual 122, 3, 147, 8, 4) := by decide +kernel
theorem s_14_48 {x0 x1 x2 : Option Value} {o : Nat} {a1 a2 a3 : Value} : mw (d + 1) 14 Q 48 [x0, x1, x2] (a3 :: a2 :: a1 :: .ref o :: st) h = (mg h o 8 ∧ mca st 8 ∧ mca [.ref o, a1, a2, a3] 8 ∧ mcall d 147 [.ref o, a1, a2, a3] h (mK (d + 1) 14 Q 51 [x0, x1, x2] st)) := (mw_at mj_14_48).trans ((z_invv (As := [a1, a2, a3]) (by decide) rfl rfl).trans (congrArg (And _) (congrArg (And _) (mC_nl nl_147))))
theorem mj_14_51 : mc_P 14 51 = some (.aload_n 0, 1, 0, 0, 0) := by decide +kernel
theorem s_14_51 {x1 x2 : Option Value} {w : Value} : mw d 14 Q 51 [some w, x1, x2] (st) h = mv_a w (mw d 14 Q 52 [some w, x1, x2] (w :: st) h) := (mw_at mj_14_51).trans (z_aload_n rfl)
theorem mj_14_52 : mc_P 14 52 = some (.getfield 21, 3, 1, 2, 0) := by decide +kernel
theorem s_14_52 {x0 x1 x2 : Option Value} {o : Nat} : mw d 14 Q 52 [x0, x1, x2] (.ref o :: st) h = (mg h o 1 ∧ mw d 14 Q 55 [x0, x1, x2] (va_rf (mh_r h o 2) :: st) h) := (mw_at mj_14_52).trans (z_getr (by decide) (by decide) rfl)
theorem mj_14_55 : mc_P 14 55 = some (.iload_n 2, 1, 0, 0, 0) := by decide +kernel
theorem s_14_55 {x0 x1 : Option Value} {w : Value} : mw d 14 Q 55 [x0, x1, some w] (st) h = mv_i w (mw d 14 Q 56 [x0, x1, some w] (w :: st) h) := (mw_at mj_14_55).trans (z_iload_n rfl)
theorem mj_14_56 : mc_P 14 56 = some (.iconst 1, 1, 0, 0, 0) := by decide +kernel
theorem s_14_56 {x0 x1 x2 : Option Value} : mw d 14 Q 56 [x0, x1, x2] (st) h = mw d 14 Q 57 [x0, x1, x2] (.int 1 :: st) h := (mw_at mj_14_56).trans (z_iconst (by decide))
theorem mj_14_57 : mc_P 14 57 = some (.iadd, 1, 0, 0, 0) := by decide +kernel
theorem s_14_57 {x0 x1 x2 : Option Value} {x w : Int32} : mw d 14 Q 57 [x0, x1, x2] (.int w :: .int x :: st) h = mw d 14 Q 58 [x0, x1, x2] (.int (x + w) :: st) h := (mw_at mj_14_57).trans (z_iadd)
theorem mj_14_58 : mc_P 14 58 = some (.iload_n 2, 1, 0, 0, 0) := by decide +kernel
theorem s_14_58 {x0 x1 : Option Value} {w : Value} : mw d 14 Q 58 [x0, x1, some w] (st) h = mv_i w (mw d 14 Q 59 [x0, x1, some w] (w :: st) h) := (mw_at mj_14_58).trans (z_iload_n rfl)
theorem mj_14_59 : mc_P 14 59 = some (.iconst 1, 1, 0, 0, 0) := by decide +kernel
theorem s_14_59 {x0 x1 x2 : Option Value} : mw d 14 Q 59 [x0, x1, x2] (st) h = mw d 14 Q 60 [x0, x1, x2] (.int 1 :: st) h := (mw_at mj_14_59).trans (z_iconst (by decide))
theorem mj_14_60 : mc_P 14 60 = some (.iadd, 1, 0, 0, 0) := by decide +kernel
theorem s_14_60 {x0 x1 x2 : Option Value} {x w : Int32} : mw d 14 Q 60 [x0, x1, x2] (.int w :: .int x :: st) h = mw d 14 Q 61 [x0, x1, x2] (.int (x + w) :: st) h := (mw_at mj_14_60).trans (z_iadd)
theorem mj_14_61 : mc_P 14 61 = some (.lconst 0, 1, 0, 0, 0) := by decide +kernel
theorem s_14_61 {x0 x1 x2 : Option Value} : mw d 14 Q 61 [x0, x1, x2] (st) h = mw d 14 Q 62 [x0, x1, x2] (.long 0 :: st) h := (mw_at mj_14_61).trans (z_lconst (by decide))
theorem mj_14_62 : mc_P 14 62 = some (.invokevirtual 122, 3, 147, 8, 4) := by decide +kernel
theorem s_14_62 {x0 x1 x2 : Option Value} {o : Nat} {a1 a2 a3 : Value} : mw (d + 1) 14 Q 62 [x0, x1, x2] (a3 :: a2 :: a1 :: .ref o :: st) h = (mg h o 8 ∧ mca st 8 ∧ mca [.ref o, a1, a2, a3] 8 ∧ mcall d 147 [.ref o, a1, a2, a3] h (mK (d + 1) 14 Q 65 [x0, x1, x2] st)) := (mw_at mj_14_62).trans ((z_invv (As := [a1, a2, a3]) (by decide) rfl rfl).trans (congrArg (And _) (congrArg (And _) (mC_nl nl_147))))
theorem mj_14_65 : mc_P 14 65 = some (.return_, 1, 0, 0, 0) := by decide +kernel
theorem s_14_65 {x0 x1 x2 : Option Value} : mw d 14 Q 65 [x0, x1, x2] ([]) h = Q none h := (mw_at mj_14_65).trans (z_vret)
theorem e_14 {a0 : Nat} {a1 : Nat} : mcall d 14 [.ref a0, .ref a1] h Q = mw d 14 Q 0 [some (.ref a0), some (.ref a1), none] [] h := by
  show mw d 14 Q 0 (me_en (mc_nl 14) _) [] h = _
  rw [nl_14]; rfl

/-! InvariantDesk$Effect.store(LInvariantDesk$Statement;I)V -/
theorem mj_15_0 : mc_P 15 0 = some (.aload_n 0, 1, 0, 0, 0) := by decide +kernel
theorem s_15_0 {x1 x2 x3 x4 x5 x6 x7 x8 : Option Value} {w : Value} : mw d 15 Q 0 [some w, x1, x2, x3, x4, x5, x6, x7, x8] (st) h = mv_a w (mw d 15 Q 1 [some w, x1, x2, x3, x4, x5, x6, x7, x8] (w :: st) h) := (mw_at mj_15_0).trans (z_aload_n rfl)
theorem mj_15_1 : mc_P 15 1 = some (.getfield 12, 3, 1, 1, 0) := by decide +kernel
theorem s_15_1 {x0 x1 x2 x3 x4 x5 x6 x7 x8 : Option Value} {o : Nat} : mw d 15 Q 1 [x0, x1, x2, x3, x4, x5, x6, x7, x8] (.ref o :: st) h = (mg h o 1 ∧ mw d 15 Q 4 [x0, x1, x2, x3, x4, x5, x6, x7, x8] (va_rf (mh_r h o 1) :: st) h) := (mw_at mj_15_1).trans (z_getr (by decide) (by decide) rfl)
theorem mj_15_4 : mc_P 15 4 = some (.aload_n 1, 1, 0, 0, 0) := by decide +kernel
theorem s_15_4 {x0 x2 x3 x4 x5 x6 x7 x8 : Option Value} {w : Value} : mw d 15 Q 4 [x0, some w, x2, x3, x4, x5, x6, x7, x8] (st) h = mv_a w (mw d 15 Q 5 [x0, some w, x2, x3, x4, x5, x6, x7, x8] (w :: st) h) := (mw_at mj_15_4).trans (z_aload_n rfl)
theorem mj_15_5 : mc_P 15 5 = some (.getfield 77, 3, 9, 10, 0) := by decide +kernel
theorem s_15_5 {x0 x1 x2 x3 x4 x5 x6 x7 x8 : Option Value} {o : Nat} : mw d 15 Q 5 [x0, x1, x2, x3, x4, x5, x6, x7, x8] (.ref o :: st) h = (mg h o 9 ∧ mw d 15 Q 8 [x0, x1, x2, x3, x4, x5, x6, x7, x8] (.int (mh_i h o 10) :: st) h) := (mw_at mj_15_5).trans (z_geti (by decide) (by decide) (Or.inl rfl))
theorem mj_15_8 : mc_P 15 8 = some (.invokevirtual 126, 3, 99, 5, 2) := by decide +kernel
theorem s_15_8 {x0 x1 x2 x3 x4 x5 x6 x7 x8 : Option Value} {o : Nat} {a1 : Value} : mw (d + 1) 15 Q 8 [x0, x1, x2, x3, x4, x5, x6, x7, x8] (a1 :: .ref o :: st) h = (mg h o 5 ∧ mca st 8 ∧ mca [.ref o, a1] 5 ∧ mcall d 99 [.ref o, a1] h (mK (d + 1) 15 Q 11 [x0, x1, x2, x3, x4, x5, x6, x7, x8] st)) := (mw_at mj_15_8).trans ((z_invv (As := [a1]) (by decide) rfl rfl).trans (congrArg (And _) (congrArg (And _) (mC_nl nl_99))))
theorem mj_15_11 : mc_P 15 11 = some (.ifCond .eq 21, 3, 0, 0, 0) := by decide +kernel
theorem s_15_11 {x0 x1 x2 x3 x4 x5 x6 x7 x8 : Option Value} {x : Int32} : mw d 15 Q 11 [x0, x1, x2, x3, x4, x5, x6, x7, x8] (.int x :: st) h = mB (x = 0) (mw d 15 Q) 32 14 [x0, x1, x2, x3, x4, x5, x6, x7, x8] st h := (mw_at mj_15_11).trans (z_if_eq (by decide) rfl)
theorem mj_15_14 : mc_P 15 14 = some (.aload_n 0, 1, 0, 0, 0) := by decide +kernel
theorem s_15_14 {x1 x2 x3 x4 x5 x6 x7 x8 : Option Value} {w : Value} : mw d 15 Q 14 [some w, x1, x2, x3, x4, x5, x6, x7, x8] (st) h = mv_a w (mw d 15 Q 15 [some w, x1, x2, x3, x4, x5, x6, x7, x8] (w :: st) h) := (mw_at mj_15_14).trans (z_aload_n rfl)
theorem mj_15_15 : mc_P 15 15 = some (.getfield 12, 3, 1, 1, 0) := by decide +kernel
theorem s_15_15 {x0 x1 x2 x3 x4 x5 x6 x7 x8 : Option Value} {o : Nat} : mw d 15 Q 15 [x0, x1, x2, x3, x4, x5, x6, x7, x8] (.ref o :: st) h = (mg h o 1 ∧ mw d 15 Q 18 [x0, x1, x2, x3, x4, x5, x6, x7, x8] (va_rf (mh_r h o 1) :: st) h) := (mw_at mj_15_15).trans (z_getr (by decide) (by decide) rfl)
theorem mj_15_18 : mc_P 15 18 = some (.aload_n 1, 1, 0, 0, 0) := by decide +kernel
theorem s_15_18 {x0 x2 x3 x4 x5 x6 x7 x8 : Option Value} {w : Value} : mw d 15 Q 18 [x0, some w, x2, x3, x4, x5, x6, x7, x8] (st) h = mv_a w (mw d 15 Q 19 [x0, some w, x2, x3, x4, x5, x6, x7, x8] (w :: st) h) := (mw_at mj_15_18).trans (z_aload_n rfl)
theorem mj_15_19 : mc_P 15 19 = some (.getfield 67, 3, 9, 9, 0) := by decide +kernel
theorem s_15_19 {x0 x1 x2 x3 x4 x5 x6 x7 x8 : Option Value} {o : Nat} : mw d 15 Q 19 [x0, x1, x2, x3, x4, x5, x6, x7, x8] (.ref o :: st) h = (mg h o 9 ∧ mw d 15 Q 22 [x0, x1, x2, x3, x4, x5, x6, x7, x8] (.int (mh_i h o 9) :: st) h) := (mw_at mj_15_19).trans (z_geti (by decide) (by decide) (Or.inl rfl))
theorem mj_15_22 : mc_P 15 22 = some (.invokevirtual 130, 3, 104, 5, 2) := by decide +kernel
theorem s_15_22 {x0 x1 x2 x3 x4 x5 x6 x7 x8 : Option Value} {o : Nat} {a1 : Value} : mw (d + 1) 15 Q 22 [x0, x1, x2, x3, x4, x5, x6, x7, x8] (a1 :: .ref o :: st) h = (mg h o 5 ∧ mca st 8 ∧ mca [.ref o, a1] 2 ∧ mcall d 104 [.ref o, a1] h (mK (d + 1) 15 Q 25 [x0, x1, x2, x3, x4, x5, x6, x7, x8] st)) := (mw_at mj_15_22).trans ((z_invv (As := [a1]) (by decide) rfl rfl).trans (congrArg (And _) (congrArg (And _) (mC_nl nl_104))))
theorem mj_15_25 : mc_P 15 25 = some (.ifCond .eq 7, 3, 0, 0, 0) := by decide +kernel
theorem s_15_25 {x0 x1 x2 x3 x4 x5 x6 x7 x8 : Option Value} {x : Int32} : mw d 15 Q 25 [x0, x1, x2, x3, x4, x5, x6, x7, x8] (.int x :: st) h = mB (x = 0) (mw d 15 Q) 32 28 [x0, x1, x2, x3, x4, x5, x6, x7, x8] st h := (mw_at mj_15_25).trans (z_if_eq (by decide) rfl)
theorem mj_15_28 : mc_P 15 28 = some (.iconst 1, 1, 0, 0, 0) := by decide +kernel
theorem s_15_28 {x0 x1 x2 x3 x4 x5 x6 x7 x8 : Option Value} : mw d 15 Q 28 [x0, x1, x2, x3, x4, x5, x6, x7, x8] (st) h = mw d 15 Q 29 [x0, x1, x2, x3, x4, x5, x6, x7, x8] (.int 1 :: st) h := (mw_at mj_15_28).trans (z_iconst (by decide))
theorem mj_15_29 : mc_P 15 29 = some (.goto 4, 3, 0, 0, 0) := by decide +kernel
theorem s_15_29 {x0 x1 x2 x3 x4 x5 x6 x7 x8 : Option Value} : mw d 15 Q 29 [x0, x1, x2, x3, x4, x5, x6, x7, x8] (st) h = mw d 15 Q 33 [x0, x1, x2, x3, x4, x5, x6, x7, x8] (st) h := (mw_at mj_15_29).trans (z_goto (by decide))
theorem mj_15_32 : mc_P 15 32 = some (.iconst 0, 1, 0, 0, 0) := by decide +kernel
theorem s_15_32 {x0 x1 x2 x3 x4 x5 x6 x7 x8 : Option Value} : mw d 15 Q 32 [x0, x1, x2, x3, x4, x5, x6, x7, x8] (st) h = mw d 15 Q 33 [x0, x1, x2, x3, x4, x5, x6, x7, x8] (.int 0 :: st) h := (mw_at mj_15_32).trans (z_iconst (by decide))
theorem mj_15_33 : mc_P 15 33 = some (.istore_n 3, 1, 0, 0, 0) := by decide +kernel
theorem s_15_33 {x0 x1 x2 x3 x4 x5 x6 x7 x8 : Option Value} {w : Int32} : mw d 15 Q 33 [x0, x1, x2, x3, x4, x5, x6, x7, x8] (.int w :: st) h = mw d 15 Q 34 [x0, x1, mk2 x2, some (.int w), x4, x5, x6, x7, x8] (st) h := (mw_at mj_15_33).trans (z_istore_n (Nat.le_of_ble_eq_true rfl) (me_s1_mk (j := 2) (w := x2) rfl))
theorem mj_15_34 : mc_P 15 34 = some (.iload_n 3, 1, 0, 0, 0) := by decide +kernel
theorem s_15_34 {x0 x1 x2 x4 x5 x6 x7 x8 : Option Value} {w : Value} : mw d 15 Q 34 [x0, x1, x2, some w, x4, x5, x6, x7, x8] (st) h = mv_i w (mw d 15 Q 35 [x0, x1, x2, some w, x4, x5, x6, x7, x8] (w :: st) h) := (mw_at mj_15_34).trans (z_iload_n rfl)
theorem mj_15_35 : mc_P 15 35 = some (.ifCond .eq 19, 3, 0, 0, 0) := by decide +kernel
theorem s_15_35 {x0 x1 x2 x3 x4 x5 x6 x7 x8 : Option Value} {x : Int32} : mw d 15 Q 35 [x0, x1, x2, x3, x4, x5, x6, x7, x8] (.int x :: st) h = mB (x = 0) (mw d 15 Q) 54 38 [x0, x1, x2, x3, x4, x5, x6, x7, x8] st h := (mw_at mj_15_35).trans (z_if_eq (by decide) rfl)
theorem mj_15_38 : mc_P 15 38 = some (.aload_n 0, 1, 0, 0, 0) := by decide +kernel
theorem s_15_38 {x1 x2 x3 x4 x5 x6 x7 x8 : Option Value} {w : Value} : mw d 15 Q 38 [some w, x1, x2, x3, x4, x5, x6, x7, x8] (st) h = mv_a w (mw d 15 Q 39 [some w, x1, x2, x3, x4, x5, x6, x7, x8] (w :: st) h) := (mw_at mj_15_38).trans (z_aload_n rfl)
theorem mj_15_39 : mc_P 15 39 = some (.getfield 12, 3, 1, 1, 0) := by decide +kernel
theorem s_15_39 {x0 x1 x2 x3 x4 x5 x6 x7 x8 : Option Value} {o : Nat} : mw d 15 Q 39 [x0, x1, x2, x3, x4, x5, x6, x7, x8] (.ref o :: st) h = (mg h o 1 ∧ mw d 15 Q 42 [x0, x1, x2, x3, x4, x5, x6, x7, x8] (va_rf (mh_r h o 1) :: st) h) := (mw_at mj_15_39).trans (z_getr (by decide) (by decide) rfl)
theorem mj_15_42 : mc_P 15 42 = some (.aload_n 1, 1, 0, 0, 0) := by decide +kernel
theorem s_15_42 {x0 x2 x3 x4 x5 x6 x7 x8 : Option Value} {w : Value} : mw d 15 Q 42 [x0, some w, x2, x3, x4, x5, x6, x7, x8] (st) h = mv_a w (mw d 15 Q 43 [x0, some w, x2, x3, x4, x5, x6, x7, x8] (w :: st) h) := (mw_at mj_15_42).trans (z_aload_n rfl)
theorem mj_15_43 : mc_P 15 43 = some (.getfield 77, 3, 9, 10, 0) := by decide +kernel
theorem s_15_43 {x0 x1 x2 x3 x4 x5 x6 x7 x8 : Option Value} {o : Nat} : mw d 15 Q 43 [x0, x1, x2, x3, x4, x5, x6, x7, x8] (.ref o :: st) h = (mg h o 9 ∧ mw d 15 Q 46 [x0, x1, x2, x3, x4, x5, x6, x7, x8] (.int (mh_i h o 10) :: st) h) := (mw_at mj_15_43).trans (z_geti (by decide) (by decide) (Or.inl rfl))
theorem mj_15_46 : mc_P 15 46 = some (.iconst 1, 1, 0, 0, 0) := by decide +kernel
theorem s_15_46 {x0 x1 x2 x3 x4 x5 x6 x7 x8 : Option Value} : mw d 15 Q 46 [x0, x1, x2, x3, x4, x5, x6, x7, x8] (st) h = mw d 15 Q 47 [x0, x1, x2, x3, x4, x5, x6, x7, x8] (.int 1 :: st) h := (mw_at mj_15_46).trans (z_iconst (by decide))
theorem mj_15_47 : mc_P 15 47 = some (.iadd, 1, 0, 0, 0) := by decide +kernel
theorem s_15_47 {x0 x1 x2 x3 x4 x5 x6 x7 x8 : Option Value} {x w : Int32} : mw d 15 Q 47 [x0, x1, x2, x3, x4, x5, x6, x7, x8] (.int w :: .int x :: st) h = mw d 15 Q 48 [x0, x1, x2, x3, x4, x5, x6, x7, x8] (.int (x + w) :: st) h := (mw_at mj_15_47).trans (z_iadd)
theorem mj_15_48 : mc_P 15 48 = some (.invokevirtual 126, 3, 99, 5, 2) := by decide +kernel
theorem s_15_48 {x0 x1 x2 x3 x4 x5 x6 x7 x8 : Option Value} {o : Nat} {a1 : Value} : mw (d + 1) 15 Q 48 [x0, x1, x2, x3, x4, x5, x6, x7, x8] (a1 :: .ref o :: st) h = (mg h o 5 ∧ mca st 8 ∧ mca [.ref o, a1] 5 ∧ mcall d 99 [.ref o, a1] h (mK (d + 1) 15 Q 51 [x0, x1, x2, x3, x4, x5, x6, x7, x8] st)) := (mw_at mj_15_48).trans ((z_invv (As := [a1]) (by decide) rfl rfl).trans (congrArg (And _) (congrArg (And _) (mC_nl nl_99))))
theorem mj_15_51 : mc_P 15 51 = some (.ifCond .ne 12, 3, 0, 0, 0) := by decide +kernel
theorem s_15_51 {x0 x1 x2 x3 x4 x5 x6 x7 x8 : Option Value} {x : Int32} : mw d 15 Q 51 [x0, x1, x2, x3, x4, x5, x6, x7, x8] (.int x :: st) h = mB (¬ x = 0) (mw d 15 Q) 63 54 [x0, x1, x2, x3, x4, x5, x6, x7, x8] st h := (mw_at mj_15_51).trans (z_if_ne (by decide) rfl)
theorem mj_15_54 : mc_P 15 54 = some (.aload_n 0, 1, 0, 0, 0) := by decide +kernel
theorem s_15_54 {x1 x2 x3 x4 x5 x6 x7 x8 : Option Value} {w : Value} : mw d 15 Q 54 [some w, x1, x2, x3, x4, x5, x6, x7, x8] (st) h = mv_a w (mw d 15 Q 55 [some w, x1, x2, x3, x4, x5, x6, x7, x8] (w :: st) h) := (mw_at mj_15_54).trans (z_aload_n rfl)
theorem mj_15_55 : mc_P 15 55 = some (.getfield 21, 3, 1, 2, 0) := by decide +kernel
theorem s_15_55 {x0 x1 x2 x3 x4 x5 x6 x7 x8 : Option Value} {o : Nat} : mw d 15 Q 55 [x0, x1, x2, x3, x4, x5, x6, x7, x8] (.ref o :: st) h = (mg h o 1 ∧ mw d 15 Q 58 [x0, x1, x2, x3, x4, x5, x6, x7, x8] (va_rf (mh_r h o 2) :: st) h) := (mw_at mj_15_55).trans (z_getr (by decide) (by decide) rfl)
theorem mj_15_58 : mc_P 15 58 = some (.iconst 1, 1, 0, 0, 0) := by decide +kernel
theorem s_15_58 {x0 x1 x2 x3 x4 x5 x6 x7 x8 : Option Value} : mw d 15 Q 58 [x0, x1, x2, x3, x4, x5, x6, x7, x8] (st) h = mw d 15 Q 59 [x0, x1, x2, x3, x4, x5, x6, x7, x8] (.int 1 :: st) h := (mw_at mj_15_58).trans (z_iconst (by decide))
theorem mj_15_59 : mc_P 15 59 = some (.putfield 98, 3, 8, 0, 0) := by decide +kernel
theorem s_15_59 {x0 x1 x2 x3 x4 x5 x6 x7 x8 : Option Value} {o : Nat} {w : Int32} : mw d 15 Q 59 [x0, x1, x2, x3, x4, x5, x6, x7, x8] (.int w :: .ref o :: st) h = (mg h o 8 ∧ (w = 0 ∨ w = 1) ∧ mw d 15 Q 62 [x0, x1, x2, x3, x4, x5, x6, x7, x8] (st) (mh_si h o 0 w)) := (mw_at mj_15_59).trans (z_putz (by decide) (by decide) rfl)
theorem mj_15_62 : mc_P 15 62 = some (.return_, 1, 0, 0, 0) := by decide +kernel
theorem s_15_62 {x0 x1 x2 x3 x4 x5 x6 x7 x8 : Option Value} : mw d 15 Q 62 [x0, x1, x2, x3, x4, x5, x6, x7, x8] ([]) h = Q none h := (mw_at mj_15_62).trans (z_vret)
theorem mj_15_63 : mc_P 15 63 = some (.aload_n 0, 1, 0, 0, 0) := by decide +kernel
theorem s_15_63 {x1 x2 x3 x4 x5 x6 x7 x8 : Option Value} {w : Value} : mw d 15 Q 63 [some w, x1, x2, x3, x4, x5, x6, x7, x8] (st) h = mv_a w (mw d 15 Q 64 [some w, x1, x2, x3, x4, x5, x6, x7, x8] (w :: st) h) := (mw_at mj_15_63).trans (z_aload_n rfl)
theorem mj_15_64 : mc_P 15 64 = some (.getfield 12, 3, 1, 1, 0) := by decide +kernel
theorem s_15_64 {x0 x1 x2 x3 x4 x5 x6 x7 x8 : Option Value} {o : Nat} : mw d 15 Q 64 [x0, x1, x2, x3, x4, x5, x6, x7, x8] (.ref o :: st) h = (mg h o 1 ∧ mw d 15 Q 67 [x0, x1, x2, x3, x4, x5, x6, x7, x8] (va_rf (mh_r h o 1) :: st) h) := (mw_at mj_15_64).trans (z_getr (by decide) (by decide) rfl)
theorem mj_15_67 : mc_P 15 67 = some (.getfield 133, 3, 5, 5, 0) := by decide +kernel
theorem s_15_67 {x0 x1 x2 x3 x4 x5 x6 x7 x8 : Option Value} {o : Nat} : mw d 15 Q 67 [x0, x1, x2, x3, x4, x5, x6, x7, x8] (.ref o :: st) h = (mg h o 5 ∧ mw d 15 Q 70 [x0, x1, x2, x3, x4, x5, x6, x7, x8] (va_rf (mh_r h o 5) :: st) h) := (mw_at mj_15_67).trans (z_getr (by decide) (by decide) rfl)
theorem mj_15_70 : mc_P 15 70 = some (.iconst 0, 1, 0, 0, 0) := by decide +kernel
theorem s_15_70 {x0 x1 x2 x3 x4 x5 x6 x7 x8 : Option Value} : mw d 15 Q 70 [x0, x1, x2, x3, x4, x5, x6, x7, x8] (st) h = mw d 15 Q 71 [x0, x1, x2, x3, x4, x5, x6, x7, x8] (.int 0 :: st) h := (mw_at mj_15_70).trans (z_iconst (by decide))
theorem mj_15_71 : mc_P 15 71 = some (.laload, 1, 0, 0, 0) := by decide +kernel
theorem s_15_71 {x0 x1 x2 x3 x4 x5 x6 x7 x8 : Option Value} {o : Nat} {i : Int32} : mw d 15 Q 71 [x0, x1, x2, x3, x4, x5, x6, x7, x8] (.int i :: .ref o :: st) h = (mg h o 101 ∧ mx i (mh_l h o) ∧ mw d 15 Q 72 [x0, x1, x2, x3, x4, x5, x6, x7, x8] (.long (mh_j h o i.toNatClampNeg) :: st) h) := (mw_at mj_15_71).trans (z_lald)
theorem mj_15_72 : mc_P 15 72 = some (.lstore 4, 2, 0, 0, 0) := by decide +kernel
theorem s_15_72 {x0 x1 x2 x3 x4 x5 x6 x7 x8 : Option Value} {w : Int64} : mw d 15 Q 72 [x0, x1, x2, x3, x4, x5, x6, x7, x8] (.long w :: st) h = mw d 15 Q 74 [x0, x1, x2, mk2 x3, some (.long w), none, x6, x7, x8] (st) h := (mw_at mj_15_72).trans (z_lstore (Nat.le_of_ble_eq_true rfl) (me_s2_mk (j := 3) (w := x3) rfl))
theorem mj_15_74 : mc_P 15 74 = some (.aload_n 0, 1, 0, 0, 0) := by decide +kernel
theorem s_15_74 {x1 x2 x3 x4 x5 x6 x7 x8 : Option Value} {w : Value} : mw d 15 Q 74 [some w, x1, x2, x3, x4, x5, x6, x7, x8] (st) h = mv_a w (mw d 15 Q 75 [some w, x1, x2, x3, x4, x5, x6, x7, x8] (w :: st) h) := (mw_at mj_15_74).trans (z_aload_n rfl)
theorem mj_15_75 : mc_P 15 75 = some (.getfield 12, 3, 1, 1, 0) := by decide +kernel
theorem s_15_75 {x0 x1 x2 x3 x4 x5 x6 x7 x8 : Option Value} {o : Nat} : mw d 15 Q 75 [x0, x1, x2, x3, x4, x5, x6, x7, x8] (.ref o :: st) h = (mg h o 1 ∧ mw d 15 Q 78 [x0, x1, x2, x3, x4, x5, x6, x7, x8] (va_rf (mh_r h o 1) :: st) h) := (mw_at mj_15_75).trans (z_getr (by decide) (by decide) rfl)
theorem mj_15_78 : mc_P 15 78 = some (.getfield 136, 3, 5, 6, 0) := by decide +kernel
theorem s_15_78 {x0 x1 x2 x3 x4 x5 x6 x7 x8 : Option Value} {o : Nat} : mw d 15 Q 78 [x0, x1, x2, x3, x4, x5, x6, x7, x8] (.ref o :: st) h = (mg h o 5 ∧ mw d 15 Q 81 [x0, x1, x2, x3, x4, x5, x6, x7, x8] (va_rf (mh_r h o 6) :: st) h) := (mw_at mj_15_78).trans (z_getr (by decide) (by decide) rfl)
theorem mj_15_81 : mc_P 15 81 = some (.iconst 0, 1, 0, 0, 0) := by decide +kernel
theorem s_15_81 {x0 x1 x2 x3 x4 x5 x6 x7 x8 : Option Value} : mw d 15 Q 81 [x0, x1, x2, x3, x4, x5, x6, x7, x8] (st) h = mw d 15 Q 82 [x0, x1, x2, x3, x4, x5, x6, x7, x8] (.int 0 :: st) h := (mw_at mj_15_81).trans (z_iconst (by decide))
theorem mj_15_82 : mc_P 15 82 = some (.laload, 1, 0, 0, 0) := by decide +kernel
theorem s_15_82 {x0 x1 x2 x3 x4 x5 x6 x7 x8 : Option Value} {o : Nat} {i : Int32} : mw d 15 Q 82 [x0, x1, x2, x3, x4, x5, x6, x7, x8] (.int i :: .ref o :: st) h = (mg h o 101 ∧ mx i (mh_l h o) ∧ mw d 15 Q 83 [x0, x1, x2, x3, x4, x5, x6, x7, x8] (.long (mh_j h o i.toNatClampNeg) :: st) h) := (mw_at mj_15_82).trans (z_lald)
theorem mj_15_83 : mc_P 15 83 = some (.lstore 6, 2, 0, 0, 0) := by decide +kernel
theorem s_15_83 {x0 x1 x2 x3 x4 x5 x6 x7 x8 : Option Value} {w : Int64} : mw d 15 Q 83 [x0, x1, x2, x3, x4, x5, x6, x7, x8] (.long w :: st) h = mw d 15 Q 85 [x0, x1, x2, x3, x4, mk2 x5, some (.long w), none, x8] (st) h := (mw_at mj_15_83).trans (z_lstore (Nat.le_of_ble_eq_true rfl) (me_s2_mk (j := 5) (w := x5) rfl))
theorem mj_15_85 : mc_P 15 85 = some (.aload_n 1, 1, 0, 0, 0) := by decide +kernel
theorem s_15_85 {x0 x2 x3 x4 x5 x6 x7 x8 : Option Value} {w : Value} : mw d 15 Q 85 [x0, some w, x2, x3, x4, x5, x6, x7, x8] (st) h = mv_a w (mw d 15 Q 86 [x0, some w, x2, x3, x4, x5, x6, x7, x8] (w :: st) h) := (mw_at mj_15_85).trans (z_aload_n rfl)
theorem mj_15_86 : mc_P 15 86 = some (.getfield 67, 3, 9, 9, 0) := by decide +kernel
theorem s_15_86 {x0 x1 x2 x3 x4 x5 x6 x7 x8 : Option Value} {o : Nat} : mw d 15 Q 86 [x0, x1, x2, x3, x4, x5, x6, x7, x8] (.ref o :: st) h = (mg h o 9 ∧ mw d 15 Q 89 [x0, x1, x2, x3, x4, x5, x6, x7, x8] (.int (mh_i h o 9) :: st) h) := (mw_at mj_15_86).trans (z_geti (by decide) (by decide) (Or.inl rfl))
theorem mj_15_89 : mc_P 15 89 = some (.iconst 1, 1, 0, 0, 0) := by decide +kernel
theorem s_15_89 {x0 x1 x2 x3 x4 x5 x6 x7 x8 : Option Value} : mw d 15 Q 89 [x0, x1, x2, x3, x4, x5, x6, x7, x8] (st) h = mw d 15 Q 90 [x0, x1, x2, x3, x4, x5, x6, x7, x8] (.int 1 :: st) h := (mw_at mj_15_89).trans (z_iconst (by decide))
theorem mj_15_90 : mc_P 15 90 = some (.if_icmp .ne 7, 3, 0, 0, 0) := by decide +kernel
theorem s_15_90 {x0 x1 x2 x3 x4 x5 x6 x7 x8 : Option Value} {x w : Int32} : mw d 15 Q 90 [x0, x1, x2, x3, x4, x5, x6, x7, x8] (.int w :: .int x :: st) h = mB (¬ x = w) (mw d 15 Q) 97 93 [x0, x1, x2, x3, x4, x5, x6, x7, x8] st h := (mw_at mj_15_90).trans (z_icmp_ne (by decide) rfl)
theorem mj_15_93 : mc_P 15 93 = some (.iconst 1, 1, 0, 0, 0) := by decide +kernel
theorem s_15_93 {x0 x1 x2 x3 x4 x5 x6 x7 x8 : Option Value} : mw d 15 Q 93 [x0, x1, x2, x3, x4, x5, x6, x7, x8] (st) h = mw d 15 Q 94 [x0, x1, x2, x3, x4, x5, x6, x7, x8] (.int 1 :: st) h := (mw_at mj_15_93).trans (z_iconst (by decide))
theorem mj_15_94 : mc_P 15 94 = some (.goto 4, 3, 0, 0, 0) := by decide +kernel
theorem s_15_94 {x0 x1 x2 x3 x4 x5 x6 x7 x8 : Option Value} : mw d 15 Q 94 [x0, x1, x2, x3, x4, x5, x6, x7, x8] (st) h = mw d 15 Q 98 [x0, x1, x2, x3, x4, x5, x6, x7, x8] (st) h := (mw_at mj_15_94).trans (z_goto (by decide))
theorem mj_15_97 : mc_P 15 97 = some (.iconst 0, 1, 0, 0, 0) := by decide +kernel
theorem s_15_97 {x0 x1 x2 x3 x4 x5 x6 x7 x8 : Option Value} : mw d 15 Q 97 [x0, x1, x2, x3, x4, x5, x6, x7, x8] (st) h = mw d 15 Q 98 [x0, x1, x2, x3, x4, x5, x6, x7, x8] (.int 0 :: st) h := (mw_at mj_15_97).trans (z_iconst (by decide))
theorem mj_15_98 : mc_P 15 98 = some (.istore 8, 2, 0, 0, 0) := by decide +kernel
theorem s_15_98 {x0 x1 x2 x3 x4 x5 x6 x7 x8 : Option Value} {w : Int32} : mw d 15 Q 98 [x0, x1, x2, x3, x4, x5, x6, x7, x8] (.int w :: st) h = mw d 15 Q 100 [x0, x1, x2, x3, x4, x5, x6, mk2 x7, some (.int w)] (st) h := (mw_at mj_15_98).trans (z_istore (Nat.le_of_ble_eq_true rfl) (me_s1_mk (j := 7) (w := x7) rfl))
theorem mj_15_100 : mc_P 15 100 = some (.aload_n 0, 1, 0, 0, 0) := by decide +kernel
theorem s_15_100 {x1 x2 x3 x4 x5 x6 x7 x8 : Option Value} {w : Value} : mw d 15 Q 100 [some w, x1, x2, x3, x4, x5, x6, x7, x8] (st) h = mv_a w (mw d 15 Q 101 [some w, x1, x2, x3, x4, x5, x6, x7, x8] (w :: st) h) := (mw_at mj_15_100).trans (z_aload_n rfl)
theorem mj_15_101 : mc_P 15 101 = some (.getfield 21, 3, 1, 2, 0) := by decide +kernel
theorem s_15_101 {x0 x1 x2 x3 x4 x5 x6 x7 x8 : Option Value} {o : Nat} : mw d 15 Q 101 [x0, x1, x2, x3, x4, x5, x6, x7, x8] (.ref o :: st) h = (mg h o 1 ∧ mw d 15 Q 104 [x0, x1, x2, x3, x4, x5, x6, x7, x8] (va_rf (mh_r h o 2) :: st) h) := (mw_at mj_15_101).trans (z_getr (by decide) (by decide) rfl)
theorem mj_15_104 : mc_P 15 104 = some (.getfield 139, 3, 8, 4, 0) := by decide +kernel
theorem s_15_104 {x0 x1 x2 x3 x4 x5 x6 x7 x8 : Option Value} {o : Nat} : mw d 15 Q 104 [x0, x1, x2, x3, x4, x5, x6, x7, x8] (.ref o :: st) h = (mg h o 8 ∧ mw d 15 Q 107 [x0, x1, x2, x3, x4, x5, x6, x7, x8] (va_rf (mh_r h o 4) :: st) h) := (mw_at mj_15_104).trans (z_getr (by decide) (by decide) rfl)
theorem mj_15_107 : mc_P 15 107 = some (.iconst 2, 1, 0, 0, 0) := by decide +kernel
theorem s_15_107 {x0 x1 x2 x3 x4 x5 x6 x7 x8 : Option Value} : mw d 15 Q 107 [x0, x1, x2, x3, x4, x5, x6, x7, x8] (st) h = mw d 15 Q 108 [x0, x1, x2, x3, x4, x5, x6, x7, x8] (.int 2 :: st) h := (mw_at mj_15_107).trans (z_iconst (by decide))
theorem mj_15_108 : mc_P 15 108 = some (.iload_n 2, 1, 0, 0, 0) := by decide +kernel
theorem s_15_108 {x0 x1 x3 x4 x5 x6 x7 x8 : Option Value} {w : Value} : mw d 15 Q 108 [x0, x1, some w, x3, x4, x5, x6, x7, x8] (st) h = mv_i w (mw d 15 Q 109 [x0, x1, some w, x3, x4, x5, x6, x7, x8] (w :: st) h) := (mw_at mj_15_108).trans (z_iload_n rfl)
theorem mj_15_109 : mc_P 15 109 = some (.imul, 1, 0, 0, 0) := by decide +kernel
theorem s_15_109 {x0 x1 x2 x3 x4 x5 x6 x7 x8 : Option Value} {x w : Int32} : mw d 15 Q 109 [x0, x1, x2, x3, x4, x5, x6, x7, x8] (.int w :: .int x :: st) h = mw d 15 Q 110 [x0, x1, x2, x3, x4, x5, x6, x7, x8] (.int (x * w) :: st) h := (mw_at mj_15_109).trans (z_imul)
theorem mj_15_110 : mc_P 15 110 = some (.iload 8, 2, 0, 0, 0) := by decide +kernel
theorem s_15_110 {x0 x1 x2 x3 x4 x5 x6 x7 : Option Value} {w : Value} : mw d 15 Q 110 [x0, x1, x2, x3, x4, x5, x6, x7, some w] (st) h = mv_i w (mw d 15 Q 112 [x0, x1, x2, x3, x4, x5, x6, x7, some w] (w :: st) h) := (mw_at mj_15_110).trans (z_iload rfl)
theorem mj_15_112 : mc_P 15 112 = some (.ifCond .eq 8, 3, 0, 0, 0) := by decide +kernel
theorem s_15_112 {x0 x1 x2 x3 x4 x5 x6 x7 x8 : Option Value} {x : Int32} : mw d 15 Q 112 [x0, x1, x2, x3, x4, x5, x6, x7, x8] (.int x :: st) h = mB (x = 0) (mw d 15 Q) 120 115 [x0, x1, x2, x3, x4, x5, x6, x7, x8] st h := (mw_at mj_15_112).trans (z_if_eq (by decide) rfl)
theorem mj_15_115 : mc_P 15 115 = some (.lload 4, 2, 0, 0, 0) := by decide +kernel
theorem s_15_115 {x0 x1 x2 x3 x5 x6 x7 x8 : Option Value} {w : Value} : mw d 15 Q 115 [x0, x1, x2, x3, some w, x5, x6, x7, x8] (st) h = mv_l w (mw d 15 Q 117 [x0, x1, x2, x3, some w, x5, x6, x7, x8] (w :: st) h) := (mw_at mj_15_115).trans (z_lload rfl)
theorem mj_15_117 : mc_P 15 117 = some (.goto 19, 3, 0, 0, 0) := by decide +kernel
theorem s_15_117 {x0 x1 x2 x3 x4 x5 x6 x7 x8 : Option Value} : mw d 15 Q 117 [x0, x1, x2, x3, x4, x5, x6, x7, x8] (st) h = mw d 15 Q 136 [x0, x1, x2, x3, x4, x5, x6, x7, x8] (st) h := (mw_at mj_15_117).trans (z_goto (by decide))
theorem mj_15_120 : mc_P 15 120 = some (.aload_n 0, 1, 0, 0, 0) := by decide +kernel
theorem s_15_120 {x1 x2 x3 x4 x5 x6 x7 x8 : Option Value} {w : Value} : mw d 15 Q 120 [some w, x1, x2, x3, x4, x5, x6, x7, x8] (st) h = mv_a w (mw d 15 Q 121 [some w, x1, x2, x3, x4, x5, x6, x7, x8] (w :: st) h) := (mw_at mj_15_120).trans (z_aload_n rfl)
theorem mj_15_121 : mc_P 15 121 = some (.getfield 21, 3, 1, 2, 0) := by decide +kernel
theorem s_15_121 {x0 x1 x2 x3 x4 x5 x6 x7 x8 : Option Value} {o : Nat} : mw d 15 Q 121 [x0, x1, x2, x3, x4, x5, x6, x7, x8] (.ref o :: st) h = (mg h o 1 ∧ mw d 15 Q 124 [x0, x1, x2, x3, x4, x5, x6, x7, x8] (va_rf (mh_r h o 2) :: st) h) := (mw_at mj_15_121).trans (z_getr (by decide) (by decide) rfl)
theorem mj_15_124 : mc_P 15 124 = some (.getfield 139, 3, 8, 4, 0) := by decide +kernel
theorem s_15_124 {x0 x1 x2 x3 x4 x5 x6 x7 x8 : Option Value} {o : Nat} : mw d 15 Q 124 [x0, x1, x2, x3, x4, x5, x6, x7, x8] (.ref o :: st) h = (mg h o 8 ∧ mw d 15 Q 127 [x0, x1, x2, x3, x4, x5, x6, x7, x8] (va_rf (mh_r h o 4) :: st) h) := (mw_at mj_15_124).trans (z_getr (by decide) (by decide) rfl)
theorem mj_15_127 : mc_P 15 127 = some (.iconst 2, 1, 0, 0, 0) := by decide +kernel
theorem s_15_127 {x0 x1 x2 x3 x4 x5 x6 x7 x8 : Option Value} : mw d 15 Q 127 [x0, x1, x2, x3, x4, x5, x6, x7, x8] (st) h = mw d 15 Q 128 [x0, x1, x2, x3, x4, x5, x6, x7, x8] (.int 2 :: st) h := (mw_at mj_15_127).trans (z_iconst (by decide))
theorem mj_15_128 : mc_P 15 128 = some (.iload_n 2, 1, 0, 0, 0) := by decide +kernel
theorem s_15_128 {x0 x1 x3 x4 x5 x6 x7 x8 : Option Value} {w : Value} : mw d 15 Q 128 [x0, x1, some w, x3, x4, x5, x6, x7, x8] (st) h = mv_i w (mw d 15 Q 129 [x0, x1, some w, x3, x4, x5, x6, x7, x8] (w :: st) h) := (mw_at mj_15_128).trans (z_iload_n rfl)
theorem mj_15_129 : mc_P 15 129 = some (.imul, 1, 0, 0, 0) := by decide +kernel
theorem s_15_129 {x0 x1 x2 x3 x4 x5 x6 x7 x8 : Option Value} {x w : Int32} : mw d 15 Q 129 [x0, x1, x2, x3, x4, x5, x6, x7, x8] (.int w :: .int x :: st) h = mw d 15 Q 130 [x0, x1, x2, x3, x4, x5, x6, x7, x8] (.int (x * w) :: st) h := (mw_at mj_15_129).trans (z_imul)
theorem mj_15_130 : mc_P 15 130 = some (.laload, 1, 0, 0, 0) := by decide +kernel
theorem s_15_130 {x0 x1 x2 x3 x4 x5 x6 x7 x8 : Option Value} {o : Nat} {i : Int32} : mw d 15 Q 130 [x0, x1, x2, x3, x4, x5, x6, x7, x8] (.int i :: .ref o :: st) h = (mg h o 101 ∧ mx i (mh_l h o) ∧ mw d 15 Q 131 [x0, x1, x2, x3, x4, x5, x6, x7, x8] (.long (mh_j h o i.toNatClampNeg) :: st) h) := (mw_at mj_15_130).trans (z_lald)
theorem mj_15_131 : mc_P 15 131 = some (.lload 4, 2, 0, 0, 0) := by decide +kernel
theorem s_15_131 {x0 x1 x2 x3 x5 x6 x7 x8 : Option Value} {w : Value} : mw d 15 Q 131 [x0, x1, x2, x3, some w, x5, x6, x7, x8] (st) h = mv_l w (mw d 15 Q 133 [x0, x1, x2, x3, some w, x5, x6, x7, x8] (w :: st) h) := (mw_at mj_15_131).trans (z_lload rfl)
theorem mj_15_133 : mc_P 15 133 = some (.invokestatic 142, 3, 0, 22, 0) := by decide +kernel
theorem s_15_133 {x0 x1 x2 x3 x4 x5 x6 x7 x8 : Option Value} {x w : Int64} : mw d 15 Q 133 [x0, x1, x2, x3, x4, x5, x6, x7, x8] (.long w :: .long x :: st) h = (mca st 8 ∧ mw d 15 Q 136 [x0, x1, x2, x3, x4, x5, x6, x7, x8] (.long (if w < x then w else x) :: st) h) := (mw_at mj_15_133).trans (z_lmin)
theorem mj_15_136 : mc_P 15 136 = some (.lastore, 1, 0, 0, 0) := by decide +kernel
theorem s_15_136 {x0 x1 x2 x3 x4 x5 x6 x7 x8 : Option Value} {o : Nat} {i : Int32} {w : Int64} : mw d 15 Q 136 [x0, x1, x2, x3, x4, x5, x6, x7, x8] (.long w :: .int i :: .ref o :: st) h = (mg h o 101 ∧ mx i (mh_l h o) ∧ mw d 15 Q 137 [x0, x1, x2, x3, x4, x5, x6, x7, x8] (st) (mh_sj h o i.toNatClampNeg w)) := (mw_at mj_15_136).trans (z_last)
theorem mj_15_137 : mc_P 15 137 = some (.aload_n 0, 1, 0, 0, 0) := by decide +kernel
theorem s_15_137 {x1 x2 x3 x4 x5 x6 x7 x8 : Option Value} {w : Value} : mw d 15 Q 137 [some w, x1, x2, x3, x4, x5, x6, x7, x8] (st) h = mv_a w (mw d 15 Q 138 [some w, x1, x2, x3, x4, x5, x6, x7, x8] (w :: st) h) := (mw_at mj_15_137).trans (z_aload_n rfl)
theorem mj_15_138 : mc_P 15 138 = some (.getfield 21, 3, 1, 2, 0) := by decide +kernel
theorem s_15_138 {x0 x1 x2 x3 x4 x5 x6 x7 x8 : Option Value} {o : Nat} : mw d 15 Q 138 [x0, x1, x2, x3, x4, x5, x6, x7, x8] (.ref o :: st) h = (mg h o 1 ∧ mw d 15 Q 141 [x0, x1, x2, x3, x4, x5, x6, x7, x8] (va_rf (mh_r h o 2) :: st) h) := (mw_at mj_15_138).trans (z_getr (by decide) (by decide) rfl)
theorem mj_15_141 : mc_P 15 141 = some (.getfield 139, 3, 8, 4, 0) := by decide +kernel
theorem s_15_141 {x0 x1 x2 x3 x4 x5 x6 x7 x8 : Option Value} {o : Nat} : mw d 15 Q 141 [x0, x1, x2, x3, x4, x5, x6, x7, x8] (.ref o :: st) h = (mg h o 8 ∧ mw d 15 Q 144 [x0, x1, x2, x3, x4, x5, x6, x7, x8] (va_rf (mh_r h o 4) :: st) h) := (mw_at mj_15_141).trans (z_getr (by decide) (by decide) rfl)
theorem mj_15_144 : mc_P 15 144 = some (.iconst 2, 1, 0, 0, 0) := by decide +kernel
theorem s_15_144 {x0 x1 x2 x3 x4 x5 x6 x7 x8 : Option Value} : mw d 15 Q 144 [x0, x1, x2, x3, x4, x5, x6, x7, x8] (st) h = mw d 15 Q 145 [x0, x1, x2, x3, x4, x5, x6, x7, x8] (.int 2 :: st) h := (mw_at mj_15_144).trans (z_iconst (by decide))
theorem mj_15_145 : mc_P 15 145 = some (.iload_n 2, 1, 0, 0, 0) := by decide +kernel
theorem s_15_145 {x0 x1 x3 x4 x5 x6 x7 x8 : Option Value} {w : Value} : mw d 15 Q 145 [x0, x1, some w, x3, x4, x5, x6, x7, x8] (st) h = mv_i w (mw d 15 Q 146 [x0, x1, some w, x3, x4, x5, x6, x7, x8] (w :: st) h) := (mw_at mj_15_145).trans (z_iload_n rfl)
theorem mj_15_146 : mc_P 15 146 = some (.imul, 1, 0, 0, 0) := by decide +kernel
theorem s_15_146 {x0 x1 x2 x3 x4 x5 x6 x7 x8 : Option Value} {x w : Int32} : mw d 15 Q 146 [x0, x1, x2, x3, x4, x5, x6, x7, x8] (.int w :: .int x :: st) h = mw d 15 Q 147 [x0, x1, x2, x3, x4, x5, x6, x7, x8] (.int (x * w) :: st) h := (mw_at mj_15_146).trans (z_imul)
theorem mj_15_147 : mc_P 15 147 = some (.iconst 1, 1, 0, 0, 0) := by decide +kernel
theorem s_15_147 {x0 x1 x2 x3 x4 x5 x6 x7 x8 : Option Value} : mw d 15 Q 147 [x0, x1, x2, x3, x4, x5, x6, x7, x8] (st) h = mw d 15 Q 148 [x0, x1, x2, x3, x4, x5, x6, x7, x8] (.int 1 :: st) h := (mw_at mj_15_147).trans (z_iconst (by decide))
theorem mj_15_148 : mc_P 15 148 = some (.iadd, 1, 0, 0, 0) := by decide +kernel
theorem s_15_148 {x0 x1 x2 x3 x4 x5 x6 x7 x8 : Option Value} {x w : Int32} : mw d 15 Q 148 [x0, x1, x2, x3, x4, x5, x6, x7, x8] (.int w :: .int x :: st) h = mw d 15 Q 149 [x0, x1, x2, x3, x4, x5, x6, x7, x8] (.int (x + w) :: st) h := (mw_at mj_15_148).trans (z_iadd)
theorem mj_15_149 : mc_P 15 149 = some (.iload 8, 2, 0, 0, 0) := by decide +kernel
theorem s_15_149 {x0 x1 x2 x3 x4 x5 x6 x7 : Option Value} {w : Value} : mw d 15 Q 149 [x0, x1, x2, x3, x4, x5, x6, x7, some w] (st) h = mv_i w (mw d 15 Q 151 [x0, x1, x2, x3, x4, x5, x6, x7, some w] (w :: st) h) := (mw_at mj_15_149).trans (z_iload rfl)
theorem mj_15_151 : mc_P 15 151 = some (.ifCond .eq 8, 3, 0, 0, 0) := by decide +kernel
theorem s_15_151 {x0 x1 x2 x3 x4 x5 x6 x7 x8 : Option Value} {x : Int32} : mw d 15 Q 151 [x0, x1, x2, x3, x4, x5, x6, x7, x8] (.int x :: st) h = mB (x = 0) (mw d 15 Q) 159 154 [x0, x1, x2, x3, x4, x5, x6, x7, x8] st h := (mw_at mj_15_151).trans (z_if_eq (by decide) rfl)
theorem mj_15_154 : mc_P 15 154 = some (.lload 6, 2, 0, 0, 0) := by decide +kernel
theorem s_15_154 {x0 x1 x2 x3 x4 x5 x7 x8 : Option Value} {w : Value} : mw d 15 Q 154 [x0, x1, x2, x3, x4, x5, some w, x7, x8] (st) h = mv_l w (mw d 15 Q 156 [x0, x1, x2, x3, x4, x5, some w, x7, x8] (w :: st) h) := (mw_at mj_15_154).trans (z_lload rfl)
theorem mj_15_156 : mc_P 15 156 = some (.goto 21, 3, 0, 0, 0) := by decide +kernel
theorem s_15_156 {x0 x1 x2 x3 x4 x5 x6 x7 x8 : Option Value} : mw d 15 Q 156 [x0, x1, x2, x3, x4, x5, x6, x7, x8] (st) h = mw d 15 Q 177 [x0, x1, x2, x3, x4, x5, x6, x7, x8] (st) h := (mw_at mj_15_156).trans (z_goto (by decide))
theorem mj_15_159 : mc_P 15 159 = some (.aload_n 0, 1, 0, 0, 0) := by decide +kernel
theorem s_15_159 {x1 x2 x3 x4 x5 x6 x7 x8 : Option Value} {w : Value} : mw d 15 Q 159 [some w, x1, x2, x3, x4, x5, x6, x7, x8] (st) h = mv_a w (mw d 15 Q 160 [some w, x1, x2, x3, x4, x5, x6, x7, x8] (w :: st) h) := (mw_at mj_15_159).trans (z_aload_n rfl)
theorem mj_15_160 : mc_P 15 160 = some (.getfield 21, 3, 1, 2, 0) := by decide +kernel
theorem s_15_160 {x0 x1 x2 x3 x4 x5 x6 x7 x8 : Option Value} {o : Nat} : mw d 15 Q 160 [x0, x1, x2, x3, x4, x5, x6, x7, x8] (.ref o :: st) h = (mg h o 1 ∧ mw d 15 Q 163 [x0, x1, x2, x3, x4, x5, x6, x7, x8] (va_rf (mh_r h o 2) :: st) h) := (mw_at mj_15_160).trans (z_getr (by decide) (by decide) rfl)
theorem mj_15_163 : mc_P 15 163 = some (.getfield 139, 3, 8, 4, 0) := by decide +kernel
theorem s_15_163 {x0 x1 x2 x3 x4 x5 x6 x7 x8 : Option Value} {o : Nat} : mw d 15 Q 163 [x0, x1, x2, x3, x4, x5, x6, x7, x8] (.ref o :: st) h = (mg h o 8 ∧ mw d 15 Q 166 [x0, x1, x2, x3, x4, x5, x6, x7, x8] (va_rf (mh_r h o 4) :: st) h) := (mw_at mj_15_163).trans (z_getr (by decide) (by decide) rfl)
theorem mj_15_166 : mc_P 15 166 = some (.iconst 2, 1, 0, 0, 0) := by decide +kernel
theorem s_15_166 {x0 x1 x2 x3 x4 x5 x6 x7 x8 : Option Value} : mw d 15 Q 166 [x0, x1, x2, x3, x4, x5, x6, x7, x8] (st) h = mw d 15 Q 167 [x0, x1, x2, x3, x4, x5, x6, x7, x8] (.int 2 :: st) h := (mw_at mj_15_166).trans (z_iconst (by decide))
theorem mj_15_167 : mc_P 15 167 = some (.iload_n 2, 1, 0, 0, 0) := by decide +kernel
theorem s_15_167 {x0 x1 x3 x4 x5 x6 x7 x8 : Option Value} {w : Value} : mw d 15 Q 167 [x0, x1, some w, x3, x4, x5, x6, x7, x8] (st) h = mv_i w (mw d 15 Q 168 [x0, x1, some w, x3, x4, x5, x6, x7, x8] (w :: st) h) := (mw_at mj_15_167).trans (z_iload_n rfl)
theorem mj_15_168 : mc_P 15 168 = some (.imul, 1, 0, 0, 0) := by decide +kernel
theorem s_15_168 {x0 x1 x2 x3 x4 x5 x6 x7 x8 : Option Value} {x w : Int32} : mw d 15 Q 168 [x0, x1, x2, x3, x4, x5, x6, x7, x8] (.int w :: .int x :: st) h = mw d 15 Q 169 [x0, x1, x2, x3, x4, x5, x6, x7, x8] (.int (x * w) :: st) h := (mw_at mj_15_168).trans (z_imul)
theorem mj_15_169 : mc_P 15 169 = some (.iconst 1, 1, 0, 0, 0) := by decide +kernel
theorem s_15_169 {x0 x1 x2 x3 x4 x5 x6 x7 x8 : Option Value} : mw d 15 Q 169 [x0, x1, x2, x3, x4, x5, x6, x7, x8] (st) h = mw d 15 Q 170 [x0, x1, x2, x3, x4, x5, x6, x7, x8] (.int 1 :: st) h := (mw_at mj_15_169).trans (z_iconst (by decide))
theorem mj_15_170 : mc_P 15 170 = some (.iadd, 1, 0, 0, 0) := by decide +kernel
theorem s_15_170 {x0 x1 x2 x3 x4 x5 x6 x7 x8 : Option Value} {x w : Int32} : mw d 15 Q 170 [x0, x1, x2, x3, x4, x5, x6, x7, x8] (.int w :: .int x :: st) h = mw d 15 Q 171 [x0, x1, x2, x3, x4, x5, x6, x7, x8] (.int (x + w) :: st) h := (mw_at mj_15_170).trans (z_iadd)
theorem mj_15_171 : mc_P 15 171 = some (.laload, 1, 0, 0, 0) := by decide +kernel
theorem s_15_171 {x0 x1 x2 x3 x4 x5 x6 x7 x8 : Option Value} {o : Nat} {i : Int32} : mw d 15 Q 171 [x0, x1, x2, x3, x4, x5, x6, x7, x8] (.int i :: .ref o :: st) h = (mg h o 101 ∧ mx i (mh_l h o) ∧ mw d 15 Q 172 [x0, x1, x2, x3, x4, x5, x6, x7, x8] (.long (mh_j h o i.toNatClampNeg) :: st) h) := (mw_at mj_15_171).trans (z_lald)
theorem mj_15_172 : mc_P 15 172 = some (.lload 6, 2, 0, 0, 0) := by decide +kernel
theorem s_15_172 {x0 x1 x2 x3 x4 x5 x7 x8 : Option Value} {w : Value} : mw d 15 Q 172 [x0, x1, x2, x3, x4, x5, some w, x7, x8] (st) h = mv_l w (mw d 15 Q 174 [x0, x1, x2, x3, x4, x5, some w, x7, x8] (w :: st) h) := (mw_at mj_15_172).trans (z_lload rfl)
theorem mj_15_174 : mc_P 15 174 = some (.invokestatic 148, 3, 0, 23, 0) := by decide +kernel
theorem s_15_174 {x0 x1 x2 x3 x4 x5 x6 x7 x8 : Option Value} {x w : Int64} : mw d 15 Q 174 [x0, x1, x2, x3, x4, x5, x6, x7, x8] (.long w :: .long x :: st) h = (mca st 8 ∧ mw d 15 Q 177 [x0, x1, x2, x3, x4, x5, x6, x7, x8] (.long (if w < x then x else w) :: st) h) := (mw_at mj_15_174).trans (z_lmax)
theorem mj_15_177 : mc_P 15 177 = some (.lastore, 1, 0, 0, 0) := by decide +kernel
theorem s_15_177 {x0 x1 x2 x3 x4 x5 x6 x7 x8 : Option Value} {o : Nat} {i : Int32} {w : Int64} : mw d 15 Q 177 [x0, x1, x2, x3, x4, x5, x6, x7, x8] (.long w :: .int i :: .ref o :: st) h = (mg h o 101 ∧ mx i (mh_l h o) ∧ mw d 15 Q 178 [x0, x1, x2, x3, x4, x5, x6, x7, x8] (st) (mh_sj h o i.toNatClampNeg w)) := (mw_at mj_15_177).trans (z_last)
theorem mj_15_178 : mc_P 15 178 = some (.return_, 1, 0, 0, 0) := by decide +kernel
theorem s_15_178 {x0 x1 x2 x3 x4 x5 x6 x7 x8 : Option Value} : mw d 15 Q 178 [x0, x1, x2, x3, x4, x5, x6, x7, x8] ([]) h = Q none h := (mw_at mj_15_178).trans (z_vret)
theorem e_15 {a0 : Nat} {a1 : Nat} {a2 : Int32} : mcall d 15 [.ref a0, .ref a1, .int a2] h Q = mw d 15 Q 0 [some (.ref a0), some (.ref a1), some (.int a2), none, none, none, none, none, none] [] h := by
  show mw d 15 Q 0 (me_en (mc_nl 15) _) [] h = _
  rw [nl_15]; rfl

/-! InvariantDesk$Effect.set(II)V -/
theorem mj_16_0 : mc_P 16 0 = some (.aload_n 0, 1, 0, 0, 0) := by decide +kernel
theorem s_16_0 {x1 x2 x3 x4 x5 x6 x7 x8 : Option Value} {w : Value} : mw d 16 Q 0 [some w, x1, x2, x3, x4, x5, x6, x7, x8] (st) h = mv_a w (mw d 16 Q 1 [some w, x1, x2, x3, x4, x5, x6, x7, x8] (w :: st) h) := (mw_at mj_16_0).trans (z_aload_n rfl)
theorem mj_16_1 : mc_P 16 1 = some (.getfield 12, 3, 1, 1, 0) := by decide +kernel
theorem s_16_1 {x0 x1 x2 x3 x4 x5 x6 x7 x8 : Option Value} {o : Nat} : mw d 16 Q 1 [x0, x1, x2, x3, x4, x5, x6, x7, x8] (.ref o :: st) h = (mg h o 1 ∧ mw d 16 Q 4 [x0, x1, x2, x3, x4, x5, x6, x7, x8] (va_rf (mh_r h o 1) :: st) h) := (mw_at mj_16_1).trans (z_getr (by decide) (by decide) rfl)
theorem mj_16_4 : mc_P 16 4 = some (.iload_n 2, 1, 0, 0, 0) := by decide +kernel
theorem s_16_4 {x0 x1 x3 x4 x5 x6 x7 x8 : Option Value} {w : Value} : mw d 16 Q 4 [x0, x1, some w, x3, x4, x5, x6, x7, x8] (st) h = mv_i w (mw d 16 Q 5 [x0, x1, some w, x3, x4, x5, x6, x7, x8] (w :: st) h) := (mw_at mj_16_4).trans (z_iload_n rfl)
theorem mj_16_5 : mc_P 16 5 = some (.invokevirtual 126, 3, 99, 5, 2) := by decide +kernel
theorem s_16_5 {x0 x1 x2 x3 x4 x5 x6 x7 x8 : Option Value} {o : Nat} {a1 : Value} : mw (d + 1) 16 Q 5 [x0, x1, x2, x3, x4, x5, x6, x7, x8] (a1 :: .ref o :: st) h = (mg h o 5 ∧ mca st 8 ∧ mca [.ref o, a1] 5 ∧ mcall d 99 [.ref o, a1] h (mK (d + 1) 16 Q 8 [x0, x1, x2, x3, x4, x5, x6, x7, x8] st)) := (mw_at mj_16_5).trans ((z_invv (As := [a1]) (by decide) rfl rfl).trans (congrArg (And _) (congrArg (And _) (mC_nl nl_99))))
theorem mj_16_8 : mc_P 16 8 = some (.ifCond .ne 11, 3, 0, 0, 0) := by decide +kernel
theorem s_16_8 {x0 x1 x2 x3 x4 x5 x6 x7 x8 : Option Value} {x : Int32} : mw d 16 Q 8 [x0, x1, x2, x3, x4, x5, x6, x7, x8] (.int x :: st) h = mB (¬ x = 0) (mw d 16 Q) 19 11 [x0, x1, x2, x3, x4, x5, x6, x7, x8] st h := (mw_at mj_16_8).trans (z_if_ne (by decide) rfl)
theorem mj_16_11 : mc_P 16 11 = some (.aload_n 0, 1, 0, 0, 0) := by decide +kernel
theorem s_16_11 {x1 x2 x3 x4 x5 x6 x7 x8 : Option Value} {w : Value} : mw d 16 Q 11 [some w, x1, x2, x3, x4, x5, x6, x7, x8] (st) h = mv_a w (mw d 16 Q 12 [some w, x1, x2, x3, x4, x5, x6, x7, x8] (w :: st) h) := (mw_at mj_16_11).trans (z_aload_n rfl)
theorem mj_16_12 : mc_P 16 12 = some (.getfield 21, 3, 1, 2, 0) := by decide +kernel
theorem s_16_12 {x0 x1 x2 x3 x4 x5 x6 x7 x8 : Option Value} {o : Nat} : mw d 16 Q 12 [x0, x1, x2, x3, x4, x5, x6, x7, x8] (.ref o :: st) h = (mg h o 1 ∧ mw d 16 Q 15 [x0, x1, x2, x3, x4, x5, x6, x7, x8] (va_rf (mh_r h o 2) :: st) h) := (mw_at mj_16_12).trans (z_getr (by decide) (by decide) rfl)
theorem mj_16_15 : mc_P 16 15 = some (.iconst 1, 1, 0, 0, 0) := by decide +kernel
theorem s_16_15 {x0 x1 x2 x3 x4 x5 x6 x7 x8 : Option Value} : mw d 16 Q 15 [x0, x1, x2, x3, x4, x5, x6, x7, x8] (st) h = mw d 16 Q 16 [x0, x1, x2, x3, x4, x5, x6, x7, x8] (.int 1 :: st) h := (mw_at mj_16_15).trans (z_iconst (by decide))
theorem mj_16_16 : mc_P 16 16 = some (.putfield 98, 3, 8, 0, 0) := by decide +kernel
theorem s_16_16 {x0 x1 x2 x3 x4 x5 x6 x7 x8 : Option Value} {o : Nat} {w : Int32} : mw d 16 Q 16 [x0, x1, x2, x3, x4, x5, x6, x7, x8] (.int w :: .ref o :: st) h = (mg h o 8 ∧ (w = 0 ∨ w = 1) ∧ mw d 16 Q 19 [x0, x1, x2, x3, x4, x5, x6, x7, x8] (st) (mh_si h o 0 w)) := (mw_at mj_16_16).trans (z_putz (by decide) (by decide) rfl)
theorem mj_16_19 : mc_P 16 19 = some (.aload_n 0, 1, 0, 0, 0) := by decide +kernel
theorem s_16_19 {x1 x2 x3 x4 x5 x6 x7 x8 : Option Value} {w : Value} : mw d 16 Q 19 [some w, x1, x2, x3, x4, x5, x6, x7, x8] (st) h = mv_a w (mw d 16 Q 20 [some w, x1, x2, x3, x4, x5, x6, x7, x8] (w :: st) h) := (mw_at mj_16_19).trans (z_aload_n rfl)
theorem mj_16_20 : mc_P 16 20 = some (.getfield 21, 3, 1, 2, 0) := by decide +kernel
theorem s_16_20 {x0 x1 x2 x3 x4 x5 x6 x7 x8 : Option Value} {o : Nat} : mw d 16 Q 20 [x0, x1, x2, x3, x4, x5, x6, x7, x8] (.ref o :: st) h = (mg h o 1 ∧ mw d 16 Q 23 [x0, x1, x2, x3, x4, x5, x6, x7, x8] (va_rf (mh_r h o 2) :: st) h) := (mw_at mj_16_20).trans (z_getr (by decide) (by decide) rfl)
theorem mj_16_23 : mc_P 16 23 = some (.getfield 98, 3, 8, 0, 0) := by decide +kernel
theorem s_16_23 {x0 x1 x2 x3 x4 x5 x6 x7 x8 : Option Value} {o : Nat} : mw d 16 Q 23 [x0, x1, x2, x3, x4, x5, x6, x7, x8] (.ref o :: st) h = (mg h o 8 ∧ mw d 16 Q 26 [x0, x1, x2, x3, x4, x5, x6, x7, x8] (.int (mh_i h o 0) :: st) h) := (mw_at mj_16_23).trans (z_geti (by decide) (by decide) (Or.inr rfl))
theorem mj_16_26 : mc_P 16 26 = some (.ifCond .ne 8, 3, 0, 0, 0) := by decide +kernel
theorem s_16_26 {x0 x1 x2 x3 x4 x5 x6 x7 x8 : Option Value} {x : Int32} : mw d 16 Q 26 [x0, x1, x2, x3, x4, x5, x6, x7, x8] (.int x :: st) h = mB (¬ x = 0) (mw d 16 Q) 34 29 [x0, x1, x2, x3, x4, x5, x6, x7, x8] st h := (mw_at mj_16_26).trans (z_if_ne (by decide) rfl)
theorem mj_16_29 : mc_P 16 29 = some (.iload_n 1, 1, 0, 0, 0) := by decide +kernel
theorem s_16_29 {x0 x2 x3 x4 x5 x6 x7 x8 : Option Value} {w : Value} : mw d 16 Q 29 [x0, some w, x2, x3, x4, x5, x6, x7, x8] (st) h = mv_i w (mw d 16 Q 30 [x0, some w, x2, x3, x4, x5, x6, x7, x8] (w :: st) h) := (mw_at mj_16_29).trans (z_iload_n rfl)
theorem mj_16_30 : mc_P 16 30 = some (.iconst (-1), 1, 0, 0, 0) := by decide +kernel
theorem s_16_30 {x0 x1 x2 x3 x4 x5 x6 x7 x8 : Option Value} : mw d 16 Q 30 [x0, x1, x2, x3, x4, x5, x6, x7, x8] (st) h = mw d 16 Q 31 [x0, x1, x2, x3, x4, x5, x6, x7, x8] (.int (-1) :: st) h := (mw_at mj_16_30).trans (z_iconst (by decide))
theorem mj_16_31 : mc_P 16 31 = some (.if_icmp .ne 4, 3, 0, 0, 0) := by decide +kernel
theorem s_16_31 {x0 x1 x2 x3 x4 x5 x6 x7 x8 : Option Value} {x w : Int32} : mw d 16 Q 31 [x0, x1, x2, x3, x4, x5, x6, x7, x8] (.int w :: .int x :: st) h = mB (¬ x = w) (mw d 16 Q) 35 34 [x0, x1, x2, x3, x4, x5, x6, x7, x8] st h := (mw_at mj_16_31).trans (z_icmp_ne (by decide) rfl)
theorem mj_16_34 : mc_P 16 34 = some (.return_, 1, 0, 0, 0) := by decide +kernel
theorem s_16_34 {x0 x1 x2 x3 x4 x5 x6 x7 x8 : Option Value} : mw d 16 Q 34 [x0, x1, x2, x3, x4, x5, x6, x7, x8] ([]) h = Q none h := (mw_at mj_16_34).trans (z_vret)
theorem mj_16_35 : mc_P 16 35 = some (.aload_n 0, 1, 0, 0, 0) := by decide +kernel
theorem s_16_35 {x1 x2 x3 x4 x5 x6 x7 x8 : Option Value} {w : Value} : mw d 16 Q 35 [some w, x1, x2, x3, x4, x5, x6, x7, x8] (st) h = mv_a w (mw d 16 Q 36 [some w, x1, x2, x3, x4, x5, x6, x7, x8] (w :: st) h) := (mw_at mj_16_35).trans (z_aload_n rfl)
theorem mj_16_36 : mc_P 16 36 = some (.getfield 12, 3, 1, 1, 0) := by decide +kernel
theorem s_16_36 {x0 x1 x2 x3 x4 x5 x6 x7 x8 : Option Value} {o : Nat} : mw d 16 Q 36 [x0, x1, x2, x3, x4, x5, x6, x7, x8] (.ref o :: st) h = (mg h o 1 ∧ mw d 16 Q 39 [x0, x1, x2, x3, x4, x5, x6, x7, x8] (va_rf (mh_r h o 1) :: st) h) := (mw_at mj_16_36).trans (z_getr (by decide) (by decide) rfl)
theorem mj_16_39 : mc_P 16 39 = some (.getfield 133, 3, 5, 5, 0) := by decide +kernel
theorem s_16_39 {x0 x1 x2 x3 x4 x5 x6 x7 x8 : Option Value} {o : Nat} : mw d 16 Q 39 [x0, x1, x2, x3, x4, x5, x6, x7, x8] (.ref o :: st) h = (mg h o 5 ∧ mw d 16 Q 42 [x0, x1, x2, x3, x4, x5, x6, x7, x8] (va_rf (mh_r h o 5) :: st) h) := (mw_at mj_16_39).trans (z_getr (by decide) (by decide) rfl)
theorem mj_16_42 : mc_P 16 42 = some (.iconst 0, 1, 0, 0, 0) := by decide +kernel
theorem s_16_42 {x0 x1 x2 x3 x4 x5 x6 x7 x8 : Option Value} : mw d 16 Q 42 [x0, x1, x2, x3, x4, x5, x6, x7, x8] (st) h = mw d 16 Q 43 [x0, x1, x2, x3, x4, x5, x6, x7, x8] (.int 0 :: st) h := (mw_at mj_16_42).trans (z_iconst (by decide))
theorem mj_16_43 : mc_P 16 43 = some (.laload, 1, 0, 0, 0) := by decide +kernel
theorem s_16_43 {x0 x1 x2 x3 x4 x5 x6 x7 x8 : Option Value} {o : Nat} {i : Int32} : mw d 16 Q 43 [x0, x1, x2, x3, x4, x5, x6, x7, x8] (.int i :: .ref o :: st) h = (mg h o 101 ∧ mx i (mh_l h o) ∧ mw d 16 Q 44 [x0, x1, x2, x3, x4, x5, x6, x7, x8] (.long (mh_j h o i.toNatClampNeg) :: st) h) := (mw_at mj_16_43).trans (z_lald)
theorem mj_16_44 : mc_P 16 44 = some (.lstore_n 3, 1, 0, 0, 0) := by decide +kernel
theorem s_16_44 {x0 x1 x2 x3 x4 x5 x6 x7 x8 : Option Value} {w : Int64} : mw d 16 Q 44 [x0, x1, x2, x3, x4, x5, x6, x7, x8] (.long w :: st) h = mw d 16 Q 45 [x0, x1, mk2 x2, some (.long w), none, x5, x6, x7, x8] (st) h := (mw_at mj_16_44).trans (z_lstore_n (Nat.le_of_ble_eq_true rfl) (me_s2_mk (j := 2) (w := x2) rfl))
theorem mj_16_45 : mc_P 16 45 = some (.aload_n 0, 1, 0, 0, 0) := by decide +kernel
theorem s_16_45 {x1 x2 x3 x4 x5 x6 x7 x8 : Option Value} {w : Value} : mw d 16 Q 45 [some w, x1, x2, x3, x4, x5, x6, x7, x8] (st) h = mv_a w (mw d 16 Q 46 [some w, x1, x2, x3, x4, x5, x6, x7, x8] (w :: st) h) := (mw_at mj_16_45).trans (z_aload_n rfl)
theorem mj_16_46 : mc_P 16 46 = some (.getfield 12, 3, 1, 1, 0) := by decide +kernel
theorem s_16_46 {x0 x1 x2 x3 x4 x5 x6 x7 x8 : Option Value} {o : Nat} : mw d 16 Q 46 [x0, x1, x2, x3, x4, x5, x6, x7, x8] (.ref o :: st) h = (mg h o 1 ∧ mw d 16 Q 49 [x0, x1, x2, x3, x4, x5, x6, x7, x8] (va_rf (mh_r h o 1) :: st) h) := (mw_at mj_16_46).trans (z_getr (by decide) (by decide) rfl)
theorem mj_16_49 : mc_P 16 49 = some (.getfield 136, 3, 5, 6, 0) := by decide +kernel
theorem s_16_49 {x0 x1 x2 x3 x4 x5 x6 x7 x8 : Option Value} {o : Nat} : mw d 16 Q 49 [x0, x1, x2, x3, x4, x5, x6, x7, x8] (.ref o :: st) h = (mg h o 5 ∧ mw d 16 Q 52 [x0, x1, x2, x3, x4, x5, x6, x7, x8] (va_rf (mh_r h o 6) :: st) h) := (mw_at mj_16_49).trans (z_getr (by decide) (by decide) rfl)
theorem mj_16_52 : mc_P 16 52 = some (.iconst 0, 1, 0, 0, 0) := by decide +kernel
theorem s_16_52 {x0 x1 x2 x3 x4 x5 x6 x7 x8 : Option Value} : mw d 16 Q 52 [x0, x1, x2, x3, x4, x5, x6, x7, x8] (st) h = mw d 16 Q 53 [x0, x1, x2, x3, x4, x5, x6, x7, x8] (.int 0 :: st) h := (mw_at mj_16_52).trans (z_iconst (by decide))
theorem mj_16_53 : mc_P 16 53 = some (.laload, 1, 0, 0, 0) := by decide +kernel
theorem s_16_53 {x0 x1 x2 x3 x4 x5 x6 x7 x8 : Option Value} {o : Nat} {i : Int32} : mw d 16 Q 53 [x0, x1, x2, x3, x4, x5, x6, x7, x8] (.int i :: .ref o :: st) h = (mg h o 101 ∧ mx i (mh_l h o) ∧ mw d 16 Q 54 [x0, x1, x2, x3, x4, x5, x6, x7, x8] (.long (mh_j h o i.toNatClampNeg) :: st) h) := (mw_at mj_16_53).trans (z_lald)
theorem mj_16_54 : mc_P 16 54 = some (.lstore 5, 2, 0, 0, 0) := by decide +kernel
theorem s_16_54 {x0 x1 x2 x3 x4 x5 x6 x7 x8 : Option Value} {w : Int64} : mw d 16 Q 54 [x0, x1, x2, x3, x4, x5, x6, x7, x8] (.long w :: st) h = mw d 16 Q 56 [x0, x1, x2, x3, mk2 x4, some (.long w), none, x7, x8] (st) h := (mw_at mj_16_54).trans (z_lstore (Nat.le_of_ble_eq_true rfl) (me_s2_mk (j := 4) (w := x4) rfl))
theorem mj_16_56 : mc_P 16 56 = some (.aload_n 0, 1, 0, 0, 0) := by decide +kernel
theorem s_16_56 {x1 x2 x3 x4 x5 x6 x7 x8 : Option Value} {w : Value} : mw d 16 Q 56 [some w, x1, x2, x3, x4, x5, x6, x7, x8] (st) h = mv_a w (mw d 16 Q 57 [some w, x1, x2, x3, x4, x5, x6, x7, x8] (w :: st) h) := (mw_at mj_16_56).trans (z_aload_n rfl)
theorem mj_16_57 : mc_P 16 57 = some (.getfield 12, 3, 1, 1, 0) := by decide +kernel
theorem s_16_57 {x0 x1 x2 x3 x4 x5 x6 x7 x8 : Option Value} {o : Nat} : mw d 16 Q 57 [x0, x1, x2, x3, x4, x5, x6, x7, x8] (.ref o :: st) h = (mg h o 1 ∧ mw d 16 Q 60 [x0, x1, x2, x3, x4, x5, x6, x7, x8] (va_rf (mh_r h o 1) :: st) h) := (mw_at mj_16_57).trans (z_getr (by decide) (by decide) rfl)
theorem mj_16_60 : mc_P 16 60 = some (.iload_n 2, 1, 0, 0, 0) := by decide +kernel
theorem s_16_60 {x0 x1 x3 x4 x5 x6 x7 x8 : Option Value} {w : Value} : mw d 16 Q 60 [x0, x1, some w, x3, x4, x5, x6, x7, x8] (st) h = mv_i w (mw d 16 Q 61 [x0, x1, some w, x3, x4, x5, x6, x7, x8] (w :: st) h) := (mw_at mj_16_60).trans (z_iload_n rfl)
theorem mj_16_61 : mc_P 16 61 = some (.iload_n 2, 1, 0, 0, 0) := by decide +kernel
theorem s_16_61 {x0 x1 x3 x4 x5 x6 x7 x8 : Option Value} {w : Value} : mw d 16 Q 61 [x0, x1, some w, x3, x4, x5, x6, x7, x8] (st) h = mv_i w (mw d 16 Q 62 [x0, x1, some w, x3, x4, x5, x6, x7, x8] (w :: st) h) := (mw_at mj_16_61).trans (z_iload_n rfl)
theorem mj_16_62 : mc_P 16 62 = some (.iconst 1, 1, 0, 0, 0) := by decide +kernel
theorem s_16_62 {x0 x1 x2 x3 x4 x5 x6 x7 x8 : Option Value} : mw d 16 Q 62 [x0, x1, x2, x3, x4, x5, x6, x7, x8] (st) h = mw d 16 Q 63 [x0, x1, x2, x3, x4, x5, x6, x7, x8] (.int 1 :: st) h := (mw_at mj_16_62).trans (z_iconst (by decide))
theorem mj_16_63 : mc_P 16 63 = some (.iadd, 1, 0, 0, 0) := by decide +kernel
theorem s_16_63 {x0 x1 x2 x3 x4 x5 x6 x7 x8 : Option Value} {x w : Int32} : mw d 16 Q 63 [x0, x1, x2, x3, x4, x5, x6, x7, x8] (.int w :: .int x :: st) h = mw d 16 Q 64 [x0, x1, x2, x3, x4, x5, x6, x7, x8] (.int (x + w) :: st) h := (mw_at mj_16_63).trans (z_iadd)
theorem mj_16_64 : mc_P 16 64 = some (.invokevirtual 151, 3, 113, 5, 3) := by decide +kernel
theorem s_16_64 {x0 x1 x2 x3 x4 x5 x6 x7 x8 : Option Value} {o : Nat} {a1 a2 : Value} : mw (d + 1) 16 Q 64 [x0, x1, x2, x3, x4, x5, x6, x7, x8] (a2 :: a1 :: .ref o :: st) h = (mg h o 5 ∧ mca st 8 ∧ mca [.ref o, a1, a2] 7 ∧ mcall d 113 [.ref o, a1, a2] h (mK (d + 1) 16 Q 67 [x0, x1, x2, x3, x4, x5, x6, x7, x8] st)) := (mw_at mj_16_64).trans ((z_invv (As := [a1, a2]) (by decide) rfl rfl).trans (congrArg (And _) (congrArg (And _) (mC_nl nl_113))))
theorem mj_16_67 : mc_P 16 67 = some (.aload_n 0, 1, 0, 0, 0) := by decide +kernel
theorem s_16_67 {x1 x2 x3 x4 x5 x6 x7 x8 : Option Value} {w : Value} : mw d 16 Q 67 [some w, x1, x2, x3, x4, x5, x6, x7, x8] (st) h = mv_a w (mw d 16 Q 68 [some w, x1, x2, x3, x4, x5, x6, x7, x8] (w :: st) h) := (mw_at mj_16_67).trans (z_aload_n rfl)
theorem mj_16_68 : mc_P 16 68 = some (.getfield 12, 3, 1, 1, 0) := by decide +kernel
theorem s_16_68 {x0 x1 x2 x3 x4 x5 x6 x7 x8 : Option Value} {o : Nat} : mw d 16 Q 68 [x0, x1, x2, x3, x4, x5, x6, x7, x8] (.ref o :: st) h = (mg h o 1 ∧ mw d 16 Q 71 [x0, x1, x2, x3, x4, x5, x6, x7, x8] (va_rf (mh_r h o 1) :: st) h) := (mw_at mj_16_68).trans (z_getr (by decide) (by decide) rfl)
theorem mj_16_71 : mc_P 16 71 = some (.iload_n 1, 1, 0, 0, 0) := by decide +kernel
theorem s_16_71 {x0 x2 x3 x4 x5 x6 x7 x8 : Option Value} {w : Value} : mw d 16 Q 71 [x0, some w, x2, x3, x4, x5, x6, x7, x8] (st) h = mv_i w (mw d 16 Q 72 [x0, some w, x2, x3, x4, x5, x6, x7, x8] (w :: st) h) := (mw_at mj_16_71).trans (z_iload_n rfl)
theorem mj_16_72 : mc_P 16 72 = some (.invokevirtual 154, 3, 114, 5, 2) := by decide +kernel
theorem s_16_72 {x0 x1 x2 x3 x4 x5 x6 x7 x8 : Option Value} {o : Nat} {a1 : Value} : mw (d + 1) 16 Q 72 [x0, x1, x2, x3, x4, x5, x6, x7, x8] (a1 :: .ref o :: st) h = (mg h o 5 ∧ mca st 8 ∧ mca [.ref o, a1] 2 ∧ mcall d 114 [.ref o, a1] h (mK (d + 1) 16 Q 75 [x0, x1, x2, x3, x4, x5, x6, x7, x8] st)) := (mw_at mj_16_72).trans ((z_invv (As := [a1]) (by decide) rfl rfl).trans (congrArg (And _) (congrArg (And _) (mC_nl nl_114))))
theorem mj_16_75 : mc_P 16 75 = some (.ifCond .eq 57, 3, 0, 0, 0) := by decide +kernel
theorem s_16_75 {x0 x1 x2 x3 x4 x5 x6 x7 x8 : Option Value} {x : Int32} : mw d 16 Q 75 [x0, x1, x2, x3, x4, x5, x6, x7, x8] (.int x :: st) h = mB (x = 0) (mw d 16 Q) 132 78 [x0, x1, x2, x3, x4, x5, x6, x7, x8] st h := (mw_at mj_16_75).trans (z_if_eq (by decide) rfl)
theorem mj_16_78 : mc_P 16 78 = some (.aload_n 0, 1, 0, 0, 0) := by decide +kernel
theorem s_16_78 {x1 x2 x3 x4 x5 x6 x7 x8 : Option Value} {w : Value} : mw d 16 Q 78 [some w, x1, x2, x3, x4, x5, x6, x7, x8] (st) h = mv_a w (mw d 16 Q 79 [some w, x1, x2, x3, x4, x5, x6, x7, x8] (w :: st) h) := (mw_at mj_16_78).trans (z_aload_n rfl)
theorem mj_16_79 : mc_P 16 79 = some (.getfield 12, 3, 1, 1, 0) := by decide +kernel
theorem s_16_79 {x0 x1 x2 x3 x4 x5 x6 x7 x8 : Option Value} {o : Nat} : mw d 16 Q 79 [x0, x1, x2, x3, x4, x5, x6, x7, x8] (.ref o :: st) h = (mg h o 1 ∧ mw d 16 Q 82 [x0, x1, x2, x3, x4, x5, x6, x7, x8] (va_rf (mh_r h o 1) :: st) h) := (mw_at mj_16_79).trans (z_getr (by decide) (by decide) rfl)
theorem mj_16_82 : mc_P 16 82 = some (.iload_n 1, 1, 0, 0, 0) := by decide +kernel
theorem s_16_82 {x0 x2 x3 x4 x5 x6 x7 x8 : Option Value} {w : Value} : mw d 16 Q 82 [x0, some w, x2, x3, x4, x5, x6, x7, x8] (st) h = mv_i w (mw d 16 Q 83 [x0, some w, x2, x3, x4, x5, x6, x7, x8] (w :: st) h) := (mw_at mj_16_82).trans (z_iload_n rfl)
theorem mj_16_83 : mc_P 16 83 = some (.iconst (-1), 1, 0, 0, 0) := by decide +kernel
theorem s_16_83 {x0 x1 x2 x3 x4 x5 x6 x7 x8 : Option Value} : mw d 16 Q 83 [x0, x1, x2, x3, x4, x5, x6, x7, x8] (st) h = mw d 16 Q 84 [x0, x1, x2, x3, x4, x5, x6, x7, x8] (.int (-1) :: st) h := (mw_at mj_16_83).trans (z_iconst (by decide))
theorem mj_16_84 : mc_P 16 84 = some (.invokevirtual 157, 3, 115, 5, 3) := by decide +kernel
theorem s_16_84 {x0 x1 x2 x3 x4 x5 x6 x7 x8 : Option Value} {o : Nat} {a1 a2 : Value} : mw (d + 1) 16 Q 84 [x0, x1, x2, x3, x4, x5, x6, x7, x8] (a2 :: a1 :: .ref o :: st) h = (mg h o 5 ∧ mca st 8 ∧ mca [.ref o, a1, a2] 8 ∧ mcall d 115 [.ref o, a1, a2] h (mK (d + 1) 16 Q 87 [x0, x1, x2, x3, x4, x5, x6, x7, x8] st)) := (mw_at mj_16_84).trans ((z_invv (As := [a1, a2]) (by decide) rfl rfl).trans (congrArg (And _) (congrArg (And _) (mC_nl nl_115))))
theorem mj_16_87 : mc_P 16 87 = some (.aload_n 0, 1, 0, 0, 0) := by decide +kernel
theorem s_16_87 {x1 x2 x3 x4 x5 x6 x7 x8 : Option Value} {w : Value} : mw d 16 Q 87 [some w, x1, x2, x3, x4, x5, x6, x7, x8] (st) h = mv_a w (mw d 16 Q 88 [some w, x1, x2, x3, x4, x5, x6, x7, x8] (w :: st) h) := (mw_at mj_16_87).trans (z_aload_n rfl)
theorem mj_16_88 : mc_P 16 88 = some (.getfield 12, 3, 1, 1, 0) := by decide +kernel
theorem s_16_88 {x0 x1 x2 x3 x4 x5 x6 x7 x8 : Option Value} {o : Nat} : mw d 16 Q 88 [x0, x1, x2, x3, x4, x5, x6, x7, x8] (.ref o :: st) h = (mg h o 1 ∧ mw d 16 Q 91 [x0, x1, x2, x3, x4, x5, x6, x7, x8] (va_rf (mh_r h o 1) :: st) h) := (mw_at mj_16_88).trans (z_getr (by decide) (by decide) rfl)
theorem mj_16_91 : mc_P 16 91 = some (.getfield 160, 3, 5, 11, 0) := by decide +kernel
theorem s_16_91 {x0 x1 x2 x3 x4 x5 x6 x7 x8 : Option Value} {o : Nat} : mw d 16 Q 91 [x0, x1, x2, x3, x4, x5, x6, x7, x8] (.ref o :: st) h = (mg h o 5 ∧ mw d 16 Q 94 [x0, x1, x2, x3, x4, x5, x6, x7, x8] (va_rf (mh_r h o 11) :: st) h) := (mw_at mj_16_91).trans (z_getr (by decide) (by decide) rfl)
theorem mj_16_94 : mc_P 16 94 = some (.iload_n 1, 1, 0, 0, 0) := by decide +kernel
theorem s_16_94 {x0 x2 x3 x4 x5 x6 x7 x8 : Option Value} {w : Value} : mw d 16 Q 94 [x0, some w, x2, x3, x4, x5, x6, x7, x8] (st) h = mv_i w (mw d 16 Q 95 [x0, some w, x2, x3, x4, x5, x6, x7, x8] (w :: st) h) := (mw_at mj_16_94).trans (z_iload_n rfl)
theorem mj_16_95 : mc_P 16 95 = some (.iaload, 1, 0, 0, 0) := by decide +kernel
theorem s_16_95 {x0 x1 x2 x3 x4 x5 x6 x7 x8 : Option Value} {o : Nat} {i : Int32} : mw d 16 Q 95 [x0, x1, x2, x3, x4, x5, x6, x7, x8] (.int i :: .ref o :: st) h = (mg h o 100 ∧ mx i (mh_l h o) ∧ mw d 16 Q 96 [x0, x1, x2, x3, x4, x5, x6, x7, x8] (.int (mh_i h o i.toNatClampNeg) :: st) h) := (mw_at mj_16_95).trans (z_iald)
theorem mj_16_96 : mc_P 16 96 = some (.ifCond .ge 11, 3, 0, 0, 0) := by decide +kernel
theorem s_16_96 {x0 x1 x2 x3 x4 x5 x6 x7 x8 : Option Value} {x : Int32} : mw d 16 Q 96 [x0, x1, x2, x3, x4, x5, x6, x7, x8] (.int x :: st) h = mB (0 ≤ x) (mw d 16 Q) 107 99 [x0, x1, x2, x3, x4, x5, x6, x7, x8] st h := (mw_at mj_16_96).trans (z_if_ge (by decide) rfl)
theorem mj_16_99 : mc_P 16 99 = some (.aload_n 0, 1, 0, 0, 0) := by decide +kernel
theorem s_16_99 {x1 x2 x3 x4 x5 x6 x7 x8 : Option Value} {w : Value} : mw d 16 Q 99 [some w, x1, x2, x3, x4, x5, x6, x7, x8] (st) h = mv_a w (mw d 16 Q 100 [some w, x1, x2, x3, x4, x5, x6, x7, x8] (w :: st) h) := (mw_at mj_16_99).trans (z_aload_n rfl)
theorem mj_16_100 : mc_P 16 100 = some (.getfield 21, 3, 1, 2, 0) := by decide +kernel
theorem s_16_100 {x0 x1 x2 x3 x4 x5 x6 x7 x8 : Option Value} {o : Nat} : mw d 16 Q 100 [x0, x1, x2, x3, x4, x5, x6, x7, x8] (.ref o :: st) h = (mg h o 1 ∧ mw d 16 Q 103 [x0, x1, x2, x3, x4, x5, x6, x7, x8] (va_rf (mh_r h o 2) :: st) h) := (mw_at mj_16_100).trans (z_getr (by decide) (by decide) rfl)
theorem mj_16_103 : mc_P 16 103 = some (.iload_n 1, 1, 0, 0, 0) := by decide +kernel
theorem s_16_103 {x0 x2 x3 x4 x5 x6 x7 x8 : Option Value} {w : Value} : mw d 16 Q 103 [x0, some w, x2, x3, x4, x5, x6, x7, x8] (st) h = mv_i w (mw d 16 Q 104 [x0, some w, x2, x3, x4, x5, x6, x7, x8] (w :: st) h) := (mw_at mj_16_103).trans (z_iload_n rfl)
theorem mj_16_104 : mc_P 16 104 = some (.invokevirtual 163, 3, 156, 8, 2) := by decide +kernel
theorem s_16_104 {x0 x1 x2 x3 x4 x5 x6 x7 x8 : Option Value} {o : Nat} {a1 : Value} : mw (d + 1) 16 Q 104 [x0, x1, x2, x3, x4, x5, x6, x7, x8] (a1 :: .ref o :: st) h = (mg h o 8 ∧ mca st 8 ∧ mca [.ref o, a1] 4 ∧ mcall d 156 [.ref o, a1] h (mK (d + 1) 16 Q 107 [x0, x1, x2, x3, x4, x5, x6, x7, x8] st)) := (mw_at mj_16_104).trans ((z_invv (As := [a1]) (by decide) rfl rfl).trans (congrArg (And _) (congrArg (And _) (mC_nl nl_156))))
theorem mj_16_107 : mc_P 16 107 = some (.aload_n 0, 1, 0, 0, 0) := by decide +kernel
theorem s_16_107 {x1 x2 x3 x4 x5 x6 x7 x8 : Option Value} {w : Value} : mw d 16 Q 107 [some w, x1, x2, x3, x4, x5, x6, x7, x8] (st) h = mv_a w (mw d 16 Q 108 [some w, x1, x2, x3, x4, x5, x6, x7, x8] (w :: st) h) := (mw_at mj_16_107).trans (z_aload_n rfl)
theorem mj_16_108 : mc_P 16 108 = some (.getfield 21, 3, 1, 2, 0) := by decide +kernel
theorem s_16_108 {x0 x1 x2 x3 x4 x5 x6 x7 x8 : Option Value} {o : Nat} : mw d 16 Q 108 [x0, x1, x2, x3, x4, x5, x6, x7, x8] (.ref o :: st) h = (mg h o 1 ∧ mw d 16 Q 111 [x0, x1, x2, x3, x4, x5, x6, x7, x8] (va_rf (mh_r h o 2) :: st) h) := (mw_at mj_16_108).trans (z_getr (by decide) (by decide) rfl)
theorem mj_16_111 : mc_P 16 111 = some (.iload_n 1, 1, 0, 0, 0) := by decide +kernel
theorem s_16_111 {x0 x2 x3 x4 x5 x6 x7 x8 : Option Value} {w : Value} : mw d 16 Q 111 [x0, some w, x2, x3, x4, x5, x6, x7, x8] (st) h = mv_i w (mw d 16 Q 112 [x0, some w, x2, x3, x4, x5, x6, x7, x8] (w :: st) h) := (mw_at mj_16_111).trans (z_iload_n rfl)
theorem mj_16_112 : mc_P 16 112 = some (.aload_n 0, 1, 0, 0, 0) := by decide +kernel
theorem s_16_112 {x1 x2 x3 x4 x5 x6 x7 x8 : Option Value} {w : Value} : mw d 16 Q 112 [some w, x1, x2, x3, x4, x5, x6, x7, x8] (st) h = mv_a w (mw d 16 Q 113 [some w, x1, x2, x3, x4, x5, x6, x7, x8] (w :: st) h) := (mw_at mj_16_112).trans (z_aload_n rfl)
theorem mj_16_113 : mc_P 16 113 = some (.getfield 12, 3, 1, 1, 0) := by decide +kernel
theorem s_16_113 {x0 x1 x2 x3 x4 x5 x6 x7 x8 : Option Value} {o : Nat} : mw d 16 Q 113 [x0, x1, x2, x3, x4, x5, x6, x7, x8] (.ref o :: st) h = (mg h o 1 ∧ mw d 16 Q 116 [x0, x1, x2, x3, x4, x5, x6, x7, x8] (va_rf (mh_r h o 1) :: st) h) := (mw_at mj_16_113).trans (z_getr (by decide) (by decide) rfl)
theorem mj_16_116 : mc_P 16 116 = some (.getfield 167, 3, 5, 17, 0) := by decide +kernel
theorem s_16_116 {x0 x1 x2 x3 x4 x5 x6 x7 x8 : Option Value} {o : Nat} : mw d 16 Q 116 [x0, x1, x2, x3, x4, x5, x6, x7, x8] (.ref o :: st) h = (mg h o 5 ∧ mw d 16 Q 119 [x0, x1, x2, x3, x4, x5, x6, x7, x8] (.long (mh_j h o 17) :: st) h) := (mw_at mj_16_116).trans (z_getl (by decide) (by decide) rfl)
theorem mj_16_119 : mc_P 16 119 = some (.aload_n 0, 1, 0, 0, 0) := by decide +kernel
theorem s_16_119 {x1 x2 x3 x4 x5 x6 x7 x8 : Option Value} {w : Value} : mw d 16 Q 119 [some w, x1, x2, x3, x4, x5, x6, x7, x8] (st) h = mv_a w (mw d 16 Q 120 [some w, x1, x2, x3, x4, x5, x6, x7, x8] (w :: st) h) := (mw_at mj_16_119).trans (z_aload_n rfl)
theorem mj_16_120 : mc_P 16 120 = some (.getfield 12, 3, 1, 1, 0) := by decide +kernel
theorem s_16_120 {x0 x1 x2 x3 x4 x5 x6 x7 x8 : Option Value} {o : Nat} : mw d 16 Q 120 [x0, x1, x2, x3, x4, x5, x6, x7, x8] (.ref o :: st) h = (mg h o 1 ∧ mw d 16 Q 123 [x0, x1, x2, x3, x4, x5, x6, x7, x8] (va_rf (mh_r h o 1) :: st) h) := (mw_at mj_16_120).trans (z_getr (by decide) (by decide) rfl)
theorem mj_16_123 : mc_P 16 123 = some (.getfield 171, 3, 5, 18, 0) := by decide +kernel
theorem s_16_123 {x0 x1 x2 x3 x4 x5 x6 x7 x8 : Option Value} {o : Nat} : mw d 16 Q 123 [x0, x1, x2, x3, x4, x5, x6, x7, x8] (.ref o :: st) h = (mg h o 5 ∧ mw d 16 Q 126 [x0, x1, x2, x3, x4, x5, x6, x7, x8] (.long (mh_j h o 18) :: st) h) := (mw_at mj_16_123).trans (z_getl (by decide) (by decide) rfl)
theorem mj_16_126 : mc_P 16 126 = some (.invokevirtual 174, 3, 158, 8, 4) := by decide +kernel
theorem s_16_126 {x0 x1 x2 x3 x4 x5 x6 x7 x8 : Option Value} {o : Nat} {a1 a2 a3 : Value} : mw (d + 1) 16 Q 126 [x0, x1, x2, x3, x4, x5, x6, x7, x8] (a3 :: a2 :: a1 :: .ref o :: st) h = (mg h o 8 ∧ mca st 8 ∧ mca [.ref o, a1, a2, a3] 8 ∧ mcall d 158 [.ref o, a1, a2, a3] h (mK (d + 1) 16 Q 129 [x0, x1, x2, x3, x4, x5, x6, x7, x8] st)) := (mw_at mj_16_126).trans ((z_invv (As := [a1, a2, a3]) (by decide) rfl rfl).trans (congrArg (And _) (congrArg (And _) (mC_nl nl_158))))
theorem mj_16_129 : mc_P 16 129 = some (.goto 11, 3, 0, 0, 0) := by decide +kernel
theorem s_16_129 {x0 x1 x2 x3 x4 x5 x6 x7 x8 : Option Value} : mw d 16 Q 129 [x0, x1, x2, x3, x4, x5, x6, x7, x8] (st) h = mw d 16 Q 140 [x0, x1, x2, x3, x4, x5, x6, x7, x8] (st) h := (mw_at mj_16_129).trans (z_goto (by decide))
theorem mj_16_132 : mc_P 16 132 = some (.aload_n 0, 1, 0, 0, 0) := by decide +kernel
theorem s_16_132 {x1 x2 x3 x4 x5 x6 x7 x8 : Option Value} {w : Value} : mw d 16 Q 132 [some w, x1, x2, x3, x4, x5, x6, x7, x8] (st) h = mv_a w (mw d 16 Q 133 [some w, x1, x2, x3, x4, x5, x6, x7, x8] (w :: st) h) := (mw_at mj_16_132).trans (z_aload_n rfl)
theorem mj_16_133 : mc_P 16 133 = some (.getfield 21, 3, 1, 2, 0) := by decide +kernel
theorem s_16_133 {x0 x1 x2 x3 x4 x5 x6 x7 x8 : Option Value} {o : Nat} : mw d 16 Q 133 [x0, x1, x2, x3, x4, x5, x6, x7, x8] (.ref o :: st) h = (mg h o 1 ∧ mw d 16 Q 136 [x0, x1, x2, x3, x4, x5, x6, x7, x8] (va_rf (mh_r h o 2) :: st) h) := (mw_at mj_16_133).trans (z_getr (by decide) (by decide) rfl)
theorem mj_16_136 : mc_P 16 136 = some (.iload_n 1, 1, 0, 0, 0) := by decide +kernel
theorem s_16_136 {x0 x2 x3 x4 x5 x6 x7 x8 : Option Value} {w : Value} : mw d 16 Q 136 [x0, some w, x2, x3, x4, x5, x6, x7, x8] (st) h = mv_i w (mw d 16 Q 137 [x0, some w, x2, x3, x4, x5, x6, x7, x8] (w :: st) h) := (mw_at mj_16_136).trans (z_iload_n rfl)
theorem mj_16_137 : mc_P 16 137 = some (.invokevirtual 178, 3, 155, 8, 2) := by decide +kernel
theorem s_16_137 {x0 x1 x2 x3 x4 x5 x6 x7 x8 : Option Value} {o : Nat} {a1 : Value} : mw (d + 1) 16 Q 137 [x0, x1, x2, x3, x4, x5, x6, x7, x8] (a1 :: .ref o :: st) h = (mg h o 8 ∧ mca st 8 ∧ mca [.ref o, a1] 4 ∧ mcall d 155 [.ref o, a1] h (mK (d + 1) 16 Q 140 [x0, x1, x2, x3, x4, x5, x6, x7, x8] st)) := (mw_at mj_16_137).trans ((z_invv (As := [a1]) (by decide) rfl rfl).trans (congrArg (And _) (congrArg (And _) (mC_nl nl_155))))
theorem mj_16_140 : mc_P 16 140 = some (.iconst 0, 1, 0, 0, 0) := by decide +kernel
theorem s_16_140 {x0 x1 x2 x3 x4 x5 x6 x7 x8 : Option Value} : mw d 16 Q 140 [x0, x1, x2, x3, x4, x5, x6, x7, x8] (st) h = mw d 16 Q 141 [x0, x1, x2, x3, x4, x5, x6, x7, x8] (.int 0 :: st) h := (mw_at mj_16_140).trans (z_iconst (by decide))
theorem mj_16_141 : mc_P 16 141 = some (.istore 7, 2, 0, 0, 0) := by decide +kernel
theorem s_16_141 {x0 x1 x2 x3 x4 x5 x6 x7 x8 : Option Value} {w : Int32} : mw d 16 Q 141 [x0, x1, x2, x3, x4, x5, x6, x7, x8] (.int w :: st) h = mw d 16 Q 143 [x0, x1, x2, x3, x4, x5, mk2 x6, some (.int w), x8] (st) h := (mw_at mj_16_141).trans (z_istore (Nat.le_of_ble_eq_true rfl) (me_s1_mk (j := 6) (w := x6) rfl))
theorem mj_16_143 : mc_P 16 143 = some (.iload 7, 2, 0, 0, 0) := by decide +kernel
theorem s_16_143 {x0 x1 x2 x3 x4 x5 x6 x8 : Option Value} {w : Value} : mw d 16 Q 143 [x0, x1, x2, x3, x4, x5, x6, some w, x8] (st) h = mv_i w (mw d 16 Q 145 [x0, x1, x2, x3, x4, x5, x6, some w, x8] (w :: st) h) := (mw_at mj_16_143).trans (z_iload rfl)
theorem mj_16_145 : mc_P 16 145 = some (.bipush 12, 2, 0, 0, 0) := by decide +kernel
theorem s_16_145 {x0 x1 x2 x3 x4 x5 x6 x7 x8 : Option Value} : mw d 16 Q 145 [x0, x1, x2, x3, x4, x5, x6, x7, x8] (st) h = mw d 16 Q 147 [x0, x1, x2, x3, x4, x5, x6, x7, x8] (.int 12 :: st) h := (mw_at mj_16_145).trans (z_bipush (by decide))
theorem mj_16_147 : mc_P 16 147 = some (.if_icmp .ge 108, 3, 0, 0, 0) := by decide +kernel
theorem s_16_147 {x0 x1 x2 x3 x4 x5 x6 x7 x8 : Option Value} {x w : Int32} : mw d 16 Q 147 [x0, x1, x2, x3, x4, x5, x6, x7, x8] (.int w :: .int x :: st) h = mB (w ≤ x) (mw d 16 Q) 255 150 [x0, x1, x2, x3, x4, x5, x6, x7, x8] st h := (mw_at mj_16_147).trans (z_icmp_ge (by decide) rfl)
theorem mj_16_150 : mc_P 16 150 = some (.iload 7, 2, 0, 0, 0) := by decide +kernel
theorem s_16_150 {x0 x1 x2 x3 x4 x5 x6 x8 : Option Value} {w : Value} : mw d 16 Q 150 [x0, x1, x2, x3, x4, x5, x6, some w, x8] (st) h = mv_i w (mw d 16 Q 152 [x0, x1, x2, x3, x4, x5, x6, some w, x8] (w :: st) h) := (mw_at mj_16_150).trans (z_iload rfl)
theorem mj_16_152 : mc_P 16 152 = some (.iload_n 1, 1, 0, 0, 0) := by decide +kernel
theorem s_16_152 {x0 x2 x3 x4 x5 x6 x7 x8 : Option Value} {w : Value} : mw d 16 Q 152 [x0, some w, x2, x3, x4, x5, x6, x7, x8] (st) h = mv_i w (mw d 16 Q 153 [x0, some w, x2, x3, x4, x5, x6, x7, x8] (w :: st) h) := (mw_at mj_16_152).trans (z_iload_n rfl)
theorem mj_16_153 : mc_P 16 153 = some (.if_icmp .eq 96, 3, 0, 0, 0) := by decide +kernel
theorem s_16_153 {x0 x1 x2 x3 x4 x5 x6 x7 x8 : Option Value} {x w : Int32} : mw d 16 Q 153 [x0, x1, x2, x3, x4, x5, x6, x7, x8] (.int w :: .int x :: st) h = mB (x = w) (mw d 16 Q) 249 156 [x0, x1, x2, x3, x4, x5, x6, x7, x8] st h := (mw_at mj_16_153).trans (z_icmp_eq (by decide) rfl)
theorem mj_16_156 : mc_P 16 156 = some (.aload_n 0, 1, 0, 0, 0) := by decide +kernel
theorem s_16_156 {x1 x2 x3 x4 x5 x6 x7 x8 : Option Value} {w : Value} : mw d 16 Q 156 [some w, x1, x2, x3, x4, x5, x6, x7, x8] (st) h = mv_a w (mw d 16 Q 157 [some w, x1, x2, x3, x4, x5, x6, x7, x8] (w :: st) h) := (mw_at mj_16_156).trans (z_aload_n rfl)
theorem mj_16_157 : mc_P 16 157 = some (.getfield 12, 3, 1, 1, 0) := by decide +kernel
theorem s_16_157 {x0 x1 x2 x3 x4 x5 x6 x7 x8 : Option Value} {o : Nat} : mw d 16 Q 157 [x0, x1, x2, x3, x4, x5, x6, x7, x8] (.ref o :: st) h = (mg h o 1 ∧ mw d 16 Q 160 [x0, x1, x2, x3, x4, x5, x6, x7, x8] (va_rf (mh_r h o 1) :: st) h) := (mw_at mj_16_157).trans (z_getr (by decide) (by decide) rfl)
theorem mj_16_160 : mc_P 16 160 = some (.iload 7, 2, 0, 0, 0) := by decide +kernel
theorem s_16_160 {x0 x1 x2 x3 x4 x5 x6 x8 : Option Value} {w : Value} : mw d 16 Q 160 [x0, x1, x2, x3, x4, x5, x6, some w, x8] (st) h = mv_i w (mw d 16 Q 162 [x0, x1, x2, x3, x4, x5, x6, some w, x8] (w :: st) h) := (mw_at mj_16_160).trans (z_iload rfl)
theorem mj_16_162 : mc_P 16 162 = some (.invokevirtual 154, 3, 114, 5, 2) := by decide +kernel
theorem s_16_162 {x0 x1 x2 x3 x4 x5 x6 x7 x8 : Option Value} {o : Nat} {a1 : Value} : mw (d + 1) 16 Q 162 [x0, x1, x2, x3, x4, x5, x6, x7, x8] (a1 :: .ref o :: st) h = (mg h o 5 ∧ mca st 8 ∧ mca [.ref o, a1] 2 ∧ mcall d 114 [.ref o, a1] h (mK (d + 1) 16 Q 165 [x0, x1, x2, x3, x4, x5, x6, x7, x8] st)) := (mw_at mj_16_162).trans ((z_invv (As := [a1]) (by decide) rfl rfl).trans (congrArg (And _) (congrArg (And _) (mC_nl nl_114))))
theorem mj_16_165 : mc_P 16 165 = some (.ifCond .eq 84, 3, 0, 0, 0) := by decide +kernel
theorem s_16_165 {x0 x1 x2 x3 x4 x5 x6 x7 x8 : Option Value} {x : Int32} : mw d 16 Q 165 [x0, x1, x2, x3, x4, x5, x6, x7, x8] (.int x :: st) h = mB (x = 0) (mw d 16 Q) 249 168 [x0, x1, x2, x3, x4, x5, x6, x7, x8] st h := (mw_at mj_16_165).trans (z_if_eq (by decide) rfl)
theorem mj_16_168 : mc_P 16 168 = some (.aload_n 0, 1, 0, 0, 0) := by decide +kernel
theorem s_16_168 {x1 x2 x3 x4 x5 x6 x7 x8 : Option Value} {w : Value} : mw d 16 Q 168 [some w, x1, x2, x3, x4, x5, x6, x7, x8] (st) h = mv_a w (mw d 16 Q 169 [some w, x1, x2, x3, x4, x5, x6, x7, x8] (w :: st) h) := (mw_at mj_16_168).trans (z_aload_n rfl)
theorem mj_16_169 : mc_P 16 169 = some (.getfield 12, 3, 1, 1, 0) := by decide +kernel
theorem s_16_169 {x0 x1 x2 x3 x4 x5 x6 x7 x8 : Option Value} {o : Nat} : mw d 16 Q 169 [x0, x1, x2, x3, x4, x5, x6, x7, x8] (.ref o :: st) h = (mg h o 1 ∧ mw d 16 Q 172 [x0, x1, x2, x3, x4, x5, x6, x7, x8] (va_rf (mh_r h o 1) :: st) h) := (mw_at mj_16_169).trans (z_getr (by decide) (by decide) rfl)
theorem mj_16_172 : mc_P 16 172 = some (.iload 7, 2, 0, 0, 0) := by decide +kernel
theorem s_16_172 {x0 x1 x2 x3 x4 x5 x6 x8 : Option Value} {w : Value} : mw d 16 Q 172 [x0, x1, x2, x3, x4, x5, x6, some w, x8] (st) h = mv_i w (mw d 16 Q 174 [x0, x1, x2, x3, x4, x5, x6, some w, x8] (w :: st) h) := (mw_at mj_16_172).trans (z_iload rfl)
theorem mj_16_174 : mc_P 16 174 = some (.iconst (-1), 1, 0, 0, 0) := by decide +kernel
theorem s_16_174 {x0 x1 x2 x3 x4 x5 x6 x7 x8 : Option Value} : mw d 16 Q 174 [x0, x1, x2, x3, x4, x5, x6, x7, x8] (st) h = mw d 16 Q 175 [x0, x1, x2, x3, x4, x5, x6, x7, x8] (.int (-1) :: st) h := (mw_at mj_16_174).trans (z_iconst (by decide))
theorem mj_16_175 : mc_P 16 175 = some (.invokevirtual 157, 3, 115, 5, 3) := by decide +kernel
theorem s_16_175 {x0 x1 x2 x3 x4 x5 x6 x7 x8 : Option Value} {o : Nat} {a1 a2 : Value} : mw (d + 1) 16 Q 175 [x0, x1, x2, x3, x4, x5, x6, x7, x8] (a2 :: a1 :: .ref o :: st) h = (mg h o 5 ∧ mca st 8 ∧ mca [.ref o, a1, a2] 8 ∧ mcall d 115 [.ref o, a1, a2] h (mK (d + 1) 16 Q 178 [x0, x1, x2, x3, x4, x5, x6, x7, x8] st)) := (mw_at mj_16_175).trans ((z_invv (As := [a1, a2]) (by decide) rfl rfl).trans (congrArg (And _) (congrArg (And _) (mC_nl nl_115))))
theorem mj_16_178 : mc_P 16 178 = some (.aload_n 0, 1, 0, 0, 0) := by decide +kernel
theorem s_16_178 {x1 x2 x3 x4 x5 x6 x7 x8 : Option Value} {w : Value} : mw d 16 Q 178 [some w, x1, x2, x3, x4, x5, x6, x7, x8] (st) h = mv_a w (mw d 16 Q 179 [some w, x1, x2, x3, x4, x5, x6, x7, x8] (w :: st) h) := (mw_at mj_16_178).trans (z_aload_n rfl)
theorem mj_16_179 : mc_P 16 179 = some (.getfield 12, 3, 1, 1, 0) := by decide +kernel
theorem s_16_179 {x0 x1 x2 x3 x4 x5 x6 x7 x8 : Option Value} {o : Nat} : mw d 16 Q 179 [x0, x1, x2, x3, x4, x5, x6, x7, x8] (.ref o :: st) h = (mg h o 1 ∧ mw d 16 Q 182 [x0, x1, x2, x3, x4, x5, x6, x7, x8] (va_rf (mh_r h o 1) :: st) h) := (mw_at mj_16_179).trans (z_getr (by decide) (by decide) rfl)
theorem mj_16_182 : mc_P 16 182 = some (.getfield 160, 3, 5, 11, 0) := by decide +kernel
theorem s_16_182 {x0 x1 x2 x3 x4 x5 x6 x7 x8 : Option Value} {o : Nat} : mw d 16 Q 182 [x0, x1, x2, x3, x4, x5, x6, x7, x8] (.ref o :: st) h = (mg h o 5 ∧ mw d 16 Q 185 [x0, x1, x2, x3, x4, x5, x6, x7, x8] (va_rf (mh_r h o 11) :: st) h) := (mw_at mj_16_182).trans (z_getr (by decide) (by decide) rfl)
theorem mj_16_185 : mc_P 16 185 = some (.iload 7, 2, 0, 0, 0) := by decide +kernel
theorem s_16_185 {x0 x1 x2 x3 x4 x5 x6 x8 : Option Value} {w : Value} : mw d 16 Q 185 [x0, x1, x2, x3, x4, x5, x6, some w, x8] (st) h = mv_i w (mw d 16 Q 187 [x0, x1, x2, x3, x4, x5, x6, some w, x8] (w :: st) h) := (mw_at mj_16_185).trans (z_iload rfl)
theorem mj_16_187 : mc_P 16 187 = some (.iaload, 1, 0, 0, 0) := by decide +kernel
theorem s_16_187 {x0 x1 x2 x3 x4 x5 x6 x7 x8 : Option Value} {o : Nat} {i : Int32} : mw d 16 Q 187 [x0, x1, x2, x3, x4, x5, x6, x7, x8] (.int i :: .ref o :: st) h = (mg h o 100 ∧ mx i (mh_l h o) ∧ mw d 16 Q 188 [x0, x1, x2, x3, x4, x5, x6, x7, x8] (.int (mh_i h o i.toNatClampNeg) :: st) h) := (mw_at mj_16_187).trans (z_iald)
theorem mj_16_188 : mc_P 16 188 = some (.ifCond .ge 10, 3, 0, 0, 0) := by decide +kernel
theorem s_16_188 {x0 x1 x2 x3 x4 x5 x6 x7 x8 : Option Value} {x : Int32} : mw d 16 Q 188 [x0, x1, x2, x3, x4, x5, x6, x7, x8] (.int x :: st) h = mB (0 ≤ x) (mw d 16 Q) 198 191 [x0, x1, x2, x3, x4, x5, x6, x7, x8] st h := (mw_at mj_16_188).trans (z_if_ge (by decide) rfl)
theorem mj_16_191 : mc_P 16 191 = some (.iconst 2, 1, 0, 0, 0) := by decide +kernel
theorem s_16_191 {x0 x1 x2 x3 x4 x5 x6 x7 x8 : Option Value} : mw d 16 Q 191 [x0, x1, x2, x3, x4, x5, x6, x7, x8] (st) h = mw d 16 Q 192 [x0, x1, x2, x3, x4, x5, x6, x7, x8] (.int 2 :: st) h := (mw_at mj_16_191).trans (z_iconst (by decide))
theorem mj_16_192 : mc_P 16 192 = some (.iload 7, 2, 0, 0, 0) := by decide +kernel
theorem s_16_192 {x0 x1 x2 x3 x4 x5 x6 x8 : Option Value} {w : Value} : mw d 16 Q 192 [x0, x1, x2, x3, x4, x5, x6, some w, x8] (st) h = mv_i w (mw d 16 Q 194 [x0, x1, x2, x3, x4, x5, x6, some w, x8] (w :: st) h) := (mw_at mj_16_192).trans (z_iload rfl)
theorem mj_16_194 : mc_P 16 194 = some (.imul, 1, 0, 0, 0) := by decide +kernel
theorem s_16_194 {x0 x1 x2 x3 x4 x5 x6 x7 x8 : Option Value} {x w : Int32} : mw d 16 Q 194 [x0, x1, x2, x3, x4, x5, x6, x7, x8] (.int w :: .int x :: st) h = mw d 16 Q 195 [x0, x1, x2, x3, x4, x5, x6, x7, x8] (.int (x * w) :: st) h := (mw_at mj_16_194).trans (z_imul)
theorem mj_16_195 : mc_P 16 195 = some (.goto 9, 3, 0, 0, 0) := by decide +kernel
theorem s_16_195 {x0 x1 x2 x3 x4 x5 x6 x7 x8 : Option Value} : mw d 16 Q 195 [x0, x1, x2, x3, x4, x5, x6, x7, x8] (st) h = mw d 16 Q 204 [x0, x1, x2, x3, x4, x5, x6, x7, x8] (st) h := (mw_at mj_16_195).trans (z_goto (by decide))
theorem mj_16_198 : mc_P 16 198 = some (.iconst 2, 1, 0, 0, 0) := by decide +kernel
theorem s_16_198 {x0 x1 x2 x3 x4 x5 x6 x7 x8 : Option Value} : mw d 16 Q 198 [x0, x1, x2, x3, x4, x5, x6, x7, x8] (st) h = mw d 16 Q 199 [x0, x1, x2, x3, x4, x5, x6, x7, x8] (.int 2 :: st) h := (mw_at mj_16_198).trans (z_iconst (by decide))
theorem mj_16_199 : mc_P 16 199 = some (.iload 7, 2, 0, 0, 0) := by decide +kernel
theorem s_16_199 {x0 x1 x2 x3 x4 x5 x6 x8 : Option Value} {w : Value} : mw d 16 Q 199 [x0, x1, x2, x3, x4, x5, x6, some w, x8] (st) h = mv_i w (mw d 16 Q 201 [x0, x1, x2, x3, x4, x5, x6, some w, x8] (w :: st) h) := (mw_at mj_16_199).trans (z_iload rfl)
theorem mj_16_201 : mc_P 16 201 = some (.imul, 1, 0, 0, 0) := by decide +kernel
theorem s_16_201 {x0 x1 x2 x3 x4 x5 x6 x7 x8 : Option Value} {x w : Int32} : mw d 16 Q 201 [x0, x1, x2, x3, x4, x5, x6, x7, x8] (.int w :: .int x :: st) h = mw d 16 Q 202 [x0, x1, x2, x3, x4, x5, x6, x7, x8] (.int (x * w) :: st) h := (mw_at mj_16_201).trans (z_imul)
theorem mj_16_202 : mc_P 16 202 = some (.iconst 1, 1, 0, 0, 0) := by decide +kernel
theorem s_16_202 {x0 x1 x2 x3 x4 x5 x6 x7 x8 : Option Value} : mw d 16 Q 202 [x0, x1, x2, x3, x4, x5, x6, x7, x8] (st) h = mw d 16 Q 203 [x0, x1, x2, x3, x4, x5, x6, x7, x8] (.int 1 :: st) h := (mw_at mj_16_202).trans (z_iconst (by decide))
theorem mj_16_203 : mc_P 16 203 = some (.iadd, 1, 0, 0, 0) := by decide +kernel
theorem s_16_203 {x0 x1 x2 x3 x4 x5 x6 x7 x8 : Option Value} {x w : Int32} : mw d 16 Q 203 [x0, x1, x2, x3, x4, x5, x6, x7, x8] (.int w :: .int x :: st) h = mw d 16 Q 204 [x0, x1, x2, x3, x4, x5, x6, x7, x8] (.int (x + w) :: st) h := (mw_at mj_16_203).trans (z_iadd)
theorem mj_16_204 : mc_P 16 204 = some (.istore 8, 2, 0, 0, 0) := by decide +kernel
theorem s_16_204 {x0 x1 x2 x3 x4 x5 x6 x7 x8 : Option Value} {w : Int32} : mw d 16 Q 204 [x0, x1, x2, x3, x4, x5, x6, x7, x8] (.int w :: st) h = mw d 16 Q 206 [x0, x1, x2, x3, x4, x5, x6, mk2 x7, some (.int w)] (st) h := (mw_at mj_16_204).trans (z_istore (Nat.le_of_ble_eq_true rfl) (me_s1_mk (j := 7) (w := x7) rfl))
theorem mj_16_206 : mc_P 16 206 = some (.aload_n 0, 1, 0, 0, 0) := by decide +kernel
theorem s_16_206 {x1 x2 x3 x4 x5 x6 x7 x8 : Option Value} {w : Value} : mw d 16 Q 206 [some w, x1, x2, x3, x4, x5, x6, x7, x8] (st) h = mv_a w (mw d 16 Q 207 [some w, x1, x2, x3, x4, x5, x6, x7, x8] (w :: st) h) := (mw_at mj_16_206).trans (z_aload_n rfl)
theorem mj_16_207 : mc_P 16 207 = some (.getfield 21, 3, 1, 2, 0) := by decide +kernel
theorem s_16_207 {x0 x1 x2 x3 x4 x5 x6 x7 x8 : Option Value} {o : Nat} : mw d 16 Q 207 [x0, x1, x2, x3, x4, x5, x6, x7, x8] (.ref o :: st) h = (mg h o 1 ∧ mw d 16 Q 210 [x0, x1, x2, x3, x4, x5, x6, x7, x8] (va_rf (mh_r h o 2) :: st) h) := (mw_at mj_16_207).trans (z_getr (by decide) (by decide) rfl)
theorem mj_16_210 : mc_P 16 210 = some (.iconst 2, 1, 0, 0, 0) := by decide +kernel
theorem s_16_210 {x0 x1 x2 x3 x4 x5 x6 x7 x8 : Option Value} : mw d 16 Q 210 [x0, x1, x2, x3, x4, x5, x6, x7, x8] (st) h = mw d 16 Q 211 [x0, x1, x2, x3, x4, x5, x6, x7, x8] (.int 2 :: st) h := (mw_at mj_16_210).trans (z_iconst (by decide))
theorem mj_16_211 : mc_P 16 211 = some (.iload_n 1, 1, 0, 0, 0) := by decide +kernel
theorem s_16_211 {x0 x2 x3 x4 x5 x6 x7 x8 : Option Value} {w : Value} : mw d 16 Q 211 [x0, some w, x2, x3, x4, x5, x6, x7, x8] (st) h = mv_i w (mw d 16 Q 212 [x0, some w, x2, x3, x4, x5, x6, x7, x8] (w :: st) h) := (mw_at mj_16_211).trans (z_iload_n rfl)
theorem mj_16_212 : mc_P 16 212 = some (.imul, 1, 0, 0, 0) := by decide +kernel
theorem s_16_212 {x0 x1 x2 x3 x4 x5 x6 x7 x8 : Option Value} {x w : Int32} : mw d 16 Q 212 [x0, x1, x2, x3, x4, x5, x6, x7, x8] (.int w :: .int x :: st) h = mw d 16 Q 213 [x0, x1, x2, x3, x4, x5, x6, x7, x8] (.int (x * w) :: st) h := (mw_at mj_16_212).trans (z_imul)
theorem mj_16_213 : mc_P 16 213 = some (.iload 8, 2, 0, 0, 0) := by decide +kernel
theorem s_16_213 {x0 x1 x2 x3 x4 x5 x6 x7 : Option Value} {w : Value} : mw d 16 Q 213 [x0, x1, x2, x3, x4, x5, x6, x7, some w] (st) h = mv_i w (mw d 16 Q 215 [x0, x1, x2, x3, x4, x5, x6, x7, some w] (w :: st) h) := (mw_at mj_16_213).trans (z_iload rfl)
theorem mj_16_215 : mc_P 16 215 = some (.aload_n 0, 1, 0, 0, 0) := by decide +kernel
theorem s_16_215 {x1 x2 x3 x4 x5 x6 x7 x8 : Option Value} {w : Value} : mw d 16 Q 215 [some w, x1, x2, x3, x4, x5, x6, x7, x8] (st) h = mv_a w (mw d 16 Q 216 [some w, x1, x2, x3, x4, x5, x6, x7, x8] (w :: st) h) := (mw_at mj_16_215).trans (z_aload_n rfl)
theorem mj_16_216 : mc_P 16 216 = some (.getfield 12, 3, 1, 1, 0) := by decide +kernel
theorem s_16_216 {x0 x1 x2 x3 x4 x5 x6 x7 x8 : Option Value} {o : Nat} : mw d 16 Q 216 [x0, x1, x2, x3, x4, x5, x6, x7, x8] (.ref o :: st) h = (mg h o 1 ∧ mw d 16 Q 219 [x0, x1, x2, x3, x4, x5, x6, x7, x8] (va_rf (mh_r h o 1) :: st) h) := (mw_at mj_16_216).trans (z_getr (by decide) (by decide) rfl)
theorem mj_16_219 : mc_P 16 219 = some (.getfield 171, 3, 5, 18, 0) := by decide +kernel
theorem s_16_219 {x0 x1 x2 x3 x4 x5 x6 x7 x8 : Option Value} {o : Nat} : mw d 16 Q 219 [x0, x1, x2, x3, x4, x5, x6, x7, x8] (.ref o :: st) h = (mg h o 5 ∧ mw d 16 Q 222 [x0, x1, x2, x3, x4, x5, x6, x7, x8] (.long (mh_j h o 18) :: st) h) := (mw_at mj_16_219).trans (z_getl (by decide) (by decide) rfl)
theorem mj_16_222 : mc_P 16 222 = some (.invokevirtual 122, 3, 147, 8, 4) := by decide +kernel
theorem s_16_222 {x0 x1 x2 x3 x4 x5 x6 x7 x8 : Option Value} {o : Nat} {a1 a2 a3 : Value} : mw (d + 1) 16 Q 222 [x0, x1, x2, x3, x4, x5, x6, x7, x8] (a3 :: a2 :: a1 :: .ref o :: st) h = (mg h o 8 ∧ mca st 8 ∧ mca [.ref o, a1, a2, a3] 8 ∧ mcall d 147 [.ref o, a1, a2, a3] h (mK (d + 1) 16 Q 225 [x0, x1, x2, x3, x4, x5, x6, x7, x8] st)) := (mw_at mj_16_222).trans ((z_invv (As := [a1, a2, a3]) (by decide) rfl rfl).trans (congrArg (And _) (congrArg (And _) (mC_nl nl_147))))
theorem mj_16_225 : mc_P 16 225 = some (.aload_n 0, 1, 0, 0, 0) := by decide +kernel
theorem s_16_225 {x1 x2 x3 x4 x5 x6 x7 x8 : Option Value} {w : Value} : mw d 16 Q 225 [some w, x1, x2, x3, x4, x5, x6, x7, x8] (st) h = mv_a w (mw d 16 Q 226 [some w, x1, x2, x3, x4, x5, x6, x7, x8] (w :: st) h) := (mw_at mj_16_225).trans (z_aload_n rfl)
theorem mj_16_226 : mc_P 16 226 = some (.getfield 21, 3, 1, 2, 0) := by decide +kernel
theorem s_16_226 {x0 x1 x2 x3 x4 x5 x6 x7 x8 : Option Value} {o : Nat} : mw d 16 Q 226 [x0, x1, x2, x3, x4, x5, x6, x7, x8] (.ref o :: st) h = (mg h o 1 ∧ mw d 16 Q 229 [x0, x1, x2, x3, x4, x5, x6, x7, x8] (va_rf (mh_r h o 2) :: st) h) := (mw_at mj_16_226).trans (z_getr (by decide) (by decide) rfl)
theorem mj_16_229 : mc_P 16 229 = some (.iconst 2, 1, 0, 0, 0) := by decide +kernel
theorem s_16_229 {x0 x1 x2 x3 x4 x5 x6 x7 x8 : Option Value} : mw d 16 Q 229 [x0, x1, x2, x3, x4, x5, x6, x7, x8] (st) h = mw d 16 Q 230 [x0, x1, x2, x3, x4, x5, x6, x7, x8] (.int 2 :: st) h := (mw_at mj_16_229).trans (z_iconst (by decide))
theorem mj_16_230 : mc_P 16 230 = some (.iload_n 1, 1, 0, 0, 0) := by decide +kernel
theorem s_16_230 {x0 x2 x3 x4 x5 x6 x7 x8 : Option Value} {w : Value} : mw d 16 Q 230 [x0, some w, x2, x3, x4, x5, x6, x7, x8] (st) h = mv_i w (mw d 16 Q 231 [x0, some w, x2, x3, x4, x5, x6, x7, x8] (w :: st) h) := (mw_at mj_16_230).trans (z_iload_n rfl)
theorem mj_16_231 : mc_P 16 231 = some (.imul, 1, 0, 0, 0) := by decide +kernel
theorem s_16_231 {x0 x1 x2 x3 x4 x5 x6 x7 x8 : Option Value} {x w : Int32} : mw d 16 Q 231 [x0, x1, x2, x3, x4, x5, x6, x7, x8] (.int w :: .int x :: st) h = mw d 16 Q 232 [x0, x1, x2, x3, x4, x5, x6, x7, x8] (.int (x * w) :: st) h := (mw_at mj_16_231).trans (z_imul)
theorem mj_16_232 : mc_P 16 232 = some (.iconst 1, 1, 0, 0, 0) := by decide +kernel
theorem s_16_232 {x0 x1 x2 x3 x4 x5 x6 x7 x8 : Option Value} : mw d 16 Q 232 [x0, x1, x2, x3, x4, x5, x6, x7, x8] (st) h = mw d 16 Q 233 [x0, x1, x2, x3, x4, x5, x6, x7, x8] (.int 1 :: st) h := (mw_at mj_16_232).trans (z_iconst (by decide))
theorem mj_16_233 : mc_P 16 233 = some (.iadd, 1, 0, 0, 0) := by decide +kernel
theorem s_16_233 {x0 x1 x2 x3 x4 x5 x6 x7 x8 : Option Value} {x w : Int32} : mw d 16 Q 233 [x0, x1, x2, x3, x4, x5, x6, x7, x8] (.int w :: .int x :: st) h = mw d 16 Q 234 [x0, x1, x2, x3, x4, x5, x6, x7, x8] (.int (x + w) :: st) h := (mw_at mj_16_233).trans (z_iadd)
theorem mj_16_234 : mc_P 16 234 = some (.iload 8, 2, 0, 0, 0) := by decide +kernel
theorem s_16_234 {x0 x1 x2 x3 x4 x5 x6 x7 : Option Value} {w : Value} : mw d 16 Q 234 [x0, x1, x2, x3, x4, x5, x6, x7, some w] (st) h = mv_i w (mw d 16 Q 236 [x0, x1, x2, x3, x4, x5, x6, x7, some w] (w :: st) h) := (mw_at mj_16_234).trans (z_iload rfl)
theorem mj_16_236 : mc_P 16 236 = some (.iconst 1, 1, 0, 0, 0) := by decide +kernel
theorem s_16_236 {x0 x1 x2 x3 x4 x5 x6 x7 x8 : Option Value} : mw d 16 Q 236 [x0, x1, x2, x3, x4, x5, x6, x7, x8] (st) h = mw d 16 Q 237 [x0, x1, x2, x3, x4, x5, x6, x7, x8] (.int 1 :: st) h := (mw_at mj_16_236).trans (z_iconst (by decide))
theorem mj_16_237 : mc_P 16 237 = some (.ixor, 1, 0, 0, 0) := by decide +kernel
theorem s_16_237 {x0 x1 x2 x3 x4 x5 x6 x7 x8 : Option Value} {x w : Int32} : mw d 16 Q 237 [x0, x1, x2, x3, x4, x5, x6, x7, x8] (.int w :: .int x :: st) h = mw d 16 Q 238 [x0, x1, x2, x3, x4, x5, x6, x7, x8] (.int (x ^^^ w) :: st) h := (mw_at mj_16_237).trans (z_ixor)
theorem mj_16_238 : mc_P 16 238 = some (.aload_n 0, 1, 0, 0, 0) := by decide +kernel
theorem s_16_238 {x1 x2 x3 x4 x5 x6 x7 x8 : Option Value} {w : Value} : mw d 16 Q 238 [some w, x1, x2, x3, x4, x5, x6, x7, x8] (st) h = mv_a w (mw d 16 Q 239 [some w, x1, x2, x3, x4, x5, x6, x7, x8] (w :: st) h) := (mw_at mj_16_238).trans (z_aload_n rfl)
theorem mj_16_239 : mc_P 16 239 = some (.getfield 12, 3, 1, 1, 0) := by decide +kernel
theorem s_16_239 {x0 x1 x2 x3 x4 x5 x6 x7 x8 : Option Value} {o : Nat} : mw d 16 Q 239 [x0, x1, x2, x3, x4, x5, x6, x7, x8] (.ref o :: st) h = (mg h o 1 ∧ mw d 16 Q 242 [x0, x1, x2, x3, x4, x5, x6, x7, x8] (va_rf (mh_r h o 1) :: st) h) := (mw_at mj_16_239).trans (z_getr (by decide) (by decide) rfl)
theorem mj_16_242 : mc_P 16 242 = some (.getfield 167, 3, 5, 17, 0) := by decide +kernel
theorem s_16_242 {x0 x1 x2 x3 x4 x5 x6 x7 x8 : Option Value} {o : Nat} : mw d 16 Q 242 [x0, x1, x2, x3, x4, x5, x6, x7, x8] (.ref o :: st) h = (mg h o 5 ∧ mw d 16 Q 245 [x0, x1, x2, x3, x4, x5, x6, x7, x8] (.long (mh_j h o 17) :: st) h) := (mw_at mj_16_242).trans (z_getl (by decide) (by decide) rfl)
theorem mj_16_245 : mc_P 16 245 = some (.lneg, 1, 0, 0, 0) := by decide +kernel
theorem s_16_245 {x0 x1 x2 x3 x4 x5 x6 x7 x8 : Option Value} {x : Int64} : mw d 16 Q 245 [x0, x1, x2, x3, x4, x5, x6, x7, x8] (.long x :: st) h = mw d 16 Q 246 [x0, x1, x2, x3, x4, x5, x6, x7, x8] (.long (-x) :: st) h := (mw_at mj_16_245).trans (z_lneg)
theorem mj_16_246 : mc_P 16 246 = some (.invokevirtual 122, 3, 147, 8, 4) := by decide +kernel
theorem s_16_246 {x0 x1 x2 x3 x4 x5 x6 x7 x8 : Option Value} {o : Nat} {a1 a2 a3 : Value} : mw (d + 1) 16 Q 246 [x0, x1, x2, x3, x4, x5, x6, x7, x8] (a3 :: a2 :: a1 :: .ref o :: st) h = (mg h o 8 ∧ mca st 8 ∧ mca [.ref o, a1, a2, a3] 8 ∧ mcall d 147 [.ref o, a1, a2, a3] h (mK (d + 1) 16 Q 249 [x0, x1, x2, x3, x4, x5, x6, x7, x8] st)) := (mw_at mj_16_246).trans ((z_invv (As := [a1, a2, a3]) (by decide) rfl rfl).trans (congrArg (And _) (congrArg (And _) (mC_nl nl_147))))
theorem mj_16_249 : mc_P 16 249 = some (.iinc 7 1, 3, 0, 0, 0) := by decide +kernel
theorem s_16_249 {x0 x1 x2 x3 x4 x5 x6 x8 : Option Value} {w : Int32} : mw d 16 Q 249 [x0, x1, x2, x3, x4, x5, x6, some (.int w), x8] (st) h = mw d 16 Q 252 [x0, x1, x2, x3, x4, x5, mk2 x6, some (.int (w + 1)), x8] (st) h := (mw_at mj_16_249).trans (z_iinc rfl (Nat.le_of_ble_eq_true rfl) (by decide) (me_s1_mk (j := 6) (w := x6) rfl))
theorem mj_16_252 : mc_P 16 252 = some (.goto (-109), 3, 0, 0, 0) := by decide +kernel
theorem s_16_252 {x0 x1 x2 x3 x4 x5 x6 x7 x8 : Option Value} : mw d 16 Q 252 [x0, x1, x2, x3, x4, x5, x6, x7, x8] (st) h = mw d 16 Q 143 [x0, x1, x2, x3, x4, x5, x6, x7, x8] (st) h := (mw_at mj_16_252).trans (z_goto (by decide))
theorem mj_16_255 : mc_P 16 255 = some (.aload_n 0, 1, 0, 0, 0) := by decide +kernel
theorem s_16_255 {x1 x2 x3 x4 x5 x6 x7 x8 : Option Value} {w : Value} : mw d 16 Q 255 [some w, x1, x2, x3, x4, x5, x6, x7, x8] (st) h = mv_a w (mw d 16 Q 256 [some w, x1, x2, x3, x4, x5, x6, x7, x8] (w :: st) h) := (mw_at mj_16_255).trans (z_aload_n rfl)
theorem mj_16_256 : mc_P 16 256 = some (.getfield 21, 3, 1, 2, 0) := by decide +kernel
theorem s_16_256 {x0 x1 x2 x3 x4 x5 x6 x7 x8 : Option Value} {o : Nat} : mw d 16 Q 256 [x0, x1, x2, x3, x4, x5, x6, x7, x8] (.ref o :: st) h = (mg h o 1 ∧ mw d 16 Q 259 [x0, x1, x2, x3, x4, x5, x6, x7, x8] (va_rf (mh_r h o 2) :: st) h) := (mw_at mj_16_256).trans (z_getr (by decide) (by decide) rfl)
theorem mj_16_259 : mc_P 16 259 = some (.iconst 2, 1, 0, 0, 0) := by decide +kernel
theorem s_16_259 {x0 x1 x2 x3 x4 x5 x6 x7 x8 : Option Value} : mw d 16 Q 259 [x0, x1, x2, x3, x4, x5, x6, x7, x8] (st) h = mw d 16 Q 260 [x0, x1, x2, x3, x4, x5, x6, x7, x8] (.int 2 :: st) h := (mw_at mj_16_259).trans (z_iconst (by decide))
theorem mj_16_260 : mc_P 16 260 = some (.iload_n 1, 1, 0, 0, 0) := by decide +kernel
theorem s_16_260 {x0 x2 x3 x4 x5 x6 x7 x8 : Option Value} {w : Value} : mw d 16 Q 260 [x0, some w, x2, x3, x4, x5, x6, x7, x8] (st) h = mv_i w (mw d 16 Q 261 [x0, some w, x2, x3, x4, x5, x6, x7, x8] (w :: st) h) := (mw_at mj_16_260).trans (z_iload_n rfl)
theorem mj_16_261 : mc_P 16 261 = some (.imul, 1, 0, 0, 0) := by decide +kernel
theorem s_16_261 {x0 x1 x2 x3 x4 x5 x6 x7 x8 : Option Value} {x w : Int32} : mw d 16 Q 261 [x0, x1, x2, x3, x4, x5, x6, x7, x8] (.int w :: .int x :: st) h = mw d 16 Q 262 [x0, x1, x2, x3, x4, x5, x6, x7, x8] (.int (x * w) :: st) h := (mw_at mj_16_261).trans (z_imul)
theorem mj_16_262 : mc_P 16 262 = some (.iconst 2, 1, 0, 0, 0) := by decide +kernel
theorem s_16_262 {x0 x1 x2 x3 x4 x5 x6 x7 x8 : Option Value} : mw d 16 Q 262 [x0, x1, x2, x3, x4, x5, x6, x7, x8] (st) h = mw d 16 Q 263 [x0, x1, x2, x3, x4, x5, x6, x7, x8] (.int 2 :: st) h := (mw_at mj_16_262).trans (z_iconst (by decide))
theorem mj_16_263 : mc_P 16 263 = some (.iload_n 1, 1, 0, 0, 0) := by decide +kernel
theorem s_16_263 {x0 x2 x3 x4 x5 x6 x7 x8 : Option Value} {w : Value} : mw d 16 Q 263 [x0, some w, x2, x3, x4, x5, x6, x7, x8] (st) h = mv_i w (mw d 16 Q 264 [x0, some w, x2, x3, x4, x5, x6, x7, x8] (w :: st) h) := (mw_at mj_16_263).trans (z_iload_n rfl)
theorem mj_16_264 : mc_P 16 264 = some (.imul, 1, 0, 0, 0) := by decide +kernel
theorem s_16_264 {x0 x1 x2 x3 x4 x5 x6 x7 x8 : Option Value} {x w : Int32} : mw d 16 Q 264 [x0, x1, x2, x3, x4, x5, x6, x7, x8] (.int w :: .int x :: st) h = mw d 16 Q 265 [x0, x1, x2, x3, x4, x5, x6, x7, x8] (.int (x * w) :: st) h := (mw_at mj_16_264).trans (z_imul)
theorem mj_16_265 : mc_P 16 265 = some (.lload 5, 2, 0, 0, 0) := by decide +kernel
theorem s_16_265 {x0 x1 x2 x3 x4 x6 x7 x8 : Option Value} {w : Value} : mw d 16 Q 265 [x0, x1, x2, x3, x4, some w, x6, x7, x8] (st) h = mv_l w (mw d 16 Q 267 [x0, x1, x2, x3, x4, some w, x6, x7, x8] (w :: st) h) := (mw_at mj_16_265).trans (z_lload rfl)
theorem mj_16_267 : mc_P 16 267 = some (.invokevirtual 122, 3, 147, 8, 4) := by decide +kernel
theorem s_16_267 {x0 x1 x2 x3 x4 x5 x6 x7 x8 : Option Value} {o : Nat} {a1 a2 a3 : Value} : mw (d + 1) 16 Q 267 [x0, x1, x2, x3, x4, x5, x6, x7, x8] (a3 :: a2 :: a1 :: .ref o :: st) h = (mg h o 8 ∧ mca st 8 ∧ mca [.ref o, a1, a2, a3] 8 ∧ mcall d 147 [.ref o, a1, a2, a3] h (mK (d + 1) 16 Q 270 [x0, x1, x2, x3, x4, x5, x6, x7, x8] st)) := (mw_at mj_16_267).trans ((z_invv (As := [a1, a2, a3]) (by decide) rfl rfl).trans (congrArg (And _) (congrArg (And _) (mC_nl nl_147))))
theorem mj_16_270 : mc_P 16 270 = some (.aload_n 0, 1, 0, 0, 0) := by decide +kernel
theorem s_16_270 {x1 x2 x3 x4 x5 x6 x7 x8 : Option Value} {w : Value} : mw d 16 Q 270 [some w, x1, x2, x3, x4, x5, x6, x7, x8] (st) h = mv_a w (mw d 16 Q 271 [some w, x1, x2, x3, x4, x5, x6, x7, x8] (w :: st) h) := (mw_at mj_16_270).trans (z_aload_n rfl)
theorem mj_16_271 : mc_P 16 271 = some (.getfield 21, 3, 1, 2, 0) := by decide +kernel
theorem s_16_271 {x0 x1 x2 x3 x4 x5 x6 x7 x8 : Option Value} {o : Nat} : mw d 16 Q 271 [x0, x1, x2, x3, x4, x5, x6, x7, x8] (.ref o :: st) h = (mg h o 1 ∧ mw d 16 Q 274 [x0, x1, x2, x3, x4, x5, x6, x7, x8] (va_rf (mh_r h o 2) :: st) h) := (mw_at mj_16_271).trans (z_getr (by decide) (by decide) rfl)
theorem mj_16_274 : mc_P 16 274 = some (.iconst 2, 1, 0, 0, 0) := by decide +kernel
theorem s_16_274 {x0 x1 x2 x3 x4 x5 x6 x7 x8 : Option Value} : mw d 16 Q 274 [x0, x1, x2, x3, x4, x5, x6, x7, x8] (st) h = mw d 16 Q 275 [x0, x1, x2, x3, x4, x5, x6, x7, x8] (.int 2 :: st) h := (mw_at mj_16_274).trans (z_iconst (by decide))
theorem mj_16_275 : mc_P 16 275 = some (.iload_n 1, 1, 0, 0, 0) := by decide +kernel
theorem s_16_275 {x0 x2 x3 x4 x5 x6 x7 x8 : Option Value} {w : Value} : mw d 16 Q 275 [x0, some w, x2, x3, x4, x5, x6, x7, x8] (st) h = mv_i w (mw d 16 Q 276 [x0, some w, x2, x3, x4, x5, x6, x7, x8] (w :: st) h) := (mw_at mj_16_275).trans (z_iload_n rfl)
theorem mj_16_276 : mc_P 16 276 = some (.imul, 1, 0, 0, 0) := by decide +kernel
theorem s_16_276 {x0 x1 x2 x3 x4 x5 x6 x7 x8 : Option Value} {x w : Int32} : mw d 16 Q 276 [x0, x1, x2, x3, x4, x5, x6, x7, x8] (.int w :: .int x :: st) h = mw d 16 Q 277 [x0, x1, x2, x3, x4, x5, x6, x7, x8] (.int (x * w) :: st) h := (mw_at mj_16_276).trans (z_imul)
theorem mj_16_277 : mc_P 16 277 = some (.iconst 1, 1, 0, 0, 0) := by decide +kernel
theorem s_16_277 {x0 x1 x2 x3 x4 x5 x6 x7 x8 : Option Value} : mw d 16 Q 277 [x0, x1, x2, x3, x4, x5, x6, x7, x8] (st) h = mw d 16 Q 278 [x0, x1, x2, x3, x4, x5, x6, x7, x8] (.int 1 :: st) h := (mw_at mj_16_277).trans (z_iconst (by decide))
theorem mj_16_278 : mc_P 16 278 = some (.iadd, 1, 0, 0, 0) := by decide +kernel
theorem s_16_278 {x0 x1 x2 x3 x4 x5 x6 x7 x8 : Option Value} {x w : Int32} : mw d 16 Q 278 [x0, x1, x2, x3, x4, x5, x6, x7, x8] (.int w :: .int x :: st) h = mw d 16 Q 279 [x0, x1, x2, x3, x4, x5, x6, x7, x8] (.int (x + w) :: st) h := (mw_at mj_16_278).trans (z_iadd)
theorem mj_16_279 : mc_P 16 279 = some (.iconst 2, 1, 0, 0, 0) := by decide +kernel
theorem s_16_279 {x0 x1 x2 x3 x4 x5 x6 x7 x8 : Option Value} : mw d 16 Q 279 [x0, x1, x2, x3, x4, x5, x6, x7, x8] (st) h = mw d 16 Q 280 [x0, x1, x2, x3, x4, x5, x6, x7, x8] (.int 2 :: st) h := (mw_at mj_16_279).trans (z_iconst (by decide))
theorem mj_16_280 : mc_P 16 280 = some (.iload_n 1, 1, 0, 0, 0) := by decide +kernel
theorem s_16_280 {x0 x2 x3 x4 x5 x6 x7 x8 : Option Value} {w : Value} : mw d 16 Q 280 [x0, some w, x2, x3, x4, x5, x6, x7, x8] (st) h = mv_i w (mw d 16 Q 281 [x0, some w, x2, x3, x4, x5, x6, x7, x8] (w :: st) h) := (mw_at mj_16_280).trans (z_iload_n rfl)
theorem mj_16_281 : mc_P 16 281 = some (.imul, 1, 0, 0, 0) := by decide +kernel
theorem s_16_281 {x0 x1 x2 x3 x4 x5 x6 x7 x8 : Option Value} {x w : Int32} : mw d 16 Q 281 [x0, x1, x2, x3, x4, x5, x6, x7, x8] (.int w :: .int x :: st) h = mw d 16 Q 282 [x0, x1, x2, x3, x4, x5, x6, x7, x8] (.int (x * w) :: st) h := (mw_at mj_16_281).trans (z_imul)
theorem mj_16_282 : mc_P 16 282 = some (.iconst 1, 1, 0, 0, 0) := by decide +kernel
theorem s_16_282 {x0 x1 x2 x3 x4 x5 x6 x7 x8 : Option Value} : mw d 16 Q 282 [x0, x1, x2, x3, x4, x5, x6, x7, x8] (st) h = mw d 16 Q 283 [x0, x1, x2, x3, x4, x5, x6, x7, x8] (.int 1 :: st) h := (mw_at mj_16_282).trans (z_iconst (by decide))
theorem mj_16_283 : mc_P 16 283 = some (.iadd, 1, 0, 0, 0) := by decide +kernel
theorem s_16_283 {x0 x1 x2 x3 x4 x5 x6 x7 x8 : Option Value} {x w : Int32} : mw d 16 Q 283 [x0, x1, x2, x3, x4, x5, x6, x7, x8] (.int w :: .int x :: st) h = mw d 16 Q 284 [x0, x1, x2, x3, x4, x5, x6, x7, x8] (.int (x + w) :: st) h := (mw_at mj_16_283).trans (z_iadd)
theorem mj_16_284 : mc_P 16 284 = some (.lload_n 3, 1, 0, 0, 0) := by decide +kernel
theorem s_16_284 {x0 x1 x2 x4 x5 x6 x7 x8 : Option Value} {w : Value} : mw d 16 Q 284 [x0, x1, x2, some w, x4, x5, x6, x7, x8] (st) h = mv_l w (mw d 16 Q 285 [x0, x1, x2, some w, x4, x5, x6, x7, x8] (w :: st) h) := (mw_at mj_16_284).trans (z_lload_n rfl)
theorem mj_16_285 : mc_P 16 285 = some (.lneg, 1, 0, 0, 0) := by decide +kernel
theorem s_16_285 {x0 x1 x2 x3 x4 x5 x6 x7 x8 : Option Value} {x : Int64} : mw d 16 Q 285 [x0, x1, x2, x3, x4, x5, x6, x7, x8] (.long x :: st) h = mw d 16 Q 286 [x0, x1, x2, x3, x4, x5, x6, x7, x8] (.long (-x) :: st) h := (mw_at mj_16_285).trans (z_lneg)
theorem mj_16_286 : mc_P 16 286 = some (.invokevirtual 122, 3, 147, 8, 4) := by decide +kernel
theorem s_16_286 {x0 x1 x2 x3 x4 x5 x6 x7 x8 : Option Value} {o : Nat} {a1 a2 a3 : Value} : mw (d + 1) 16 Q 286 [x0, x1, x2, x3, x4, x5, x6, x7, x8] (a3 :: a2 :: a1 :: .ref o :: st) h = (mg h o 8 ∧ mca st 8 ∧ mca [.ref o, a1, a2, a3] 8 ∧ mcall d 147 [.ref o, a1, a2, a3] h (mK (d + 1) 16 Q 289 [x0, x1, x2, x3, x4, x5, x6, x7, x8] st)) := (mw_at mj_16_286).trans ((z_invv (As := [a1, a2, a3]) (by decide) rfl rfl).trans (congrArg (And _) (congrArg (And _) (mC_nl nl_147))))
theorem mj_16_289 : mc_P 16 289 = some (.return_, 1, 0, 0, 0) := by decide +kernel
theorem s_16_289 {x0 x1 x2 x3 x4 x5 x6 x7 x8 : Option Value} : mw d 16 Q 289 [x0, x1, x2, x3, x4, x5, x6, x7, x8] ([]) h = Q none h := (mw_at mj_16_289).trans (z_vret)
theorem e_16 {a0 : Nat} {a1 : Int32} {a2 : Int32} : mcall d 16 [.ref a0, .int a1, .int a2] h Q = mw d 16 Q 0 [some (.ref a0), some (.int a1), some (.int a2), none, none, none, none, none, none] [] h := by
  show mw d 16 Q 0 (me_en (mc_nl 16) _) [] h = _
  rw [nl_16]; rfl

/-! InvariantDesk$Effect.split(ILInvariantDesk$State;)V -/
theorem mj_17_0 : mc_P 17 0 = some (.aload_n 0, 1, 0, 0, 0) := by decide +kernel
theorem s_17_0 {x1 x2 x3 x4 x5 x6 : Option Value} {w : Value} : mw d 17 Q 0 [some w, x1, x2, x3, x4, x5, x6] (st) h = mv_a w (mw d 17 Q 1 [some w, x1, x2, x3, x4, x5, x6] (w :: st) h) := (mw_at mj_17_0).trans (z_aload_n rfl)
theorem mj_17_1 : mc_P 17 1 = some (.getfield 39, 3, 1, 0, 0) := by decide +kernel
theorem s_17_1 {x0 x1 x2 x3 x4 x5 x6 : Option Value} {o : Nat} : mw d 17 Q 1 [x0, x1, x2, x3, x4, x5, x6] (.ref o :: st) h = (mg h o 1 ∧ mw d 17 Q 4 [x0, x1, x2, x3, x4, x5, x6] (va_rf (mh_r h o 0) :: st) h) := (mw_at mj_17_1).trans (z_getr (by decide) (by decide) rfl)
theorem mj_17_4 : mc_P 17 4 = some (.getfield 43, 3, 4, 3, 0) := by decide +kernel
theorem s_17_4 {x0 x1 x2 x3 x4 x5 x6 : Option Value} {o : Nat} : mw d 17 Q 4 [x0, x1, x2, x3, x4, x5, x6] (.ref o :: st) h = (mg h o 4 ∧ mw d 17 Q 7 [x0, x1, x2, x3, x4, x5, x6] (va_rf (mh_r h o 3) :: st) h) := (mw_at mj_17_4).trans (z_getr (by decide) (by decide) rfl)
theorem mj_17_7 : mc_P 17 7 = some (.iload_n 1, 1, 0, 0, 0) := by decide +kernel
theorem s_17_7 {x0 x2 x3 x4 x5 x6 : Option Value} {w : Value} : mw d 17 Q 7 [x0, some w, x2, x3, x4, x5, x6] (st) h = mv_i w (mw d 17 Q 8 [x0, some w, x2, x3, x4, x5, x6] (w :: st) h) := (mw_at mj_17_7).trans (z_iload_n rfl)
theorem mj_17_8 : mc_P 17 8 = some (.aaload, 1, 0, 0, 0) := by decide +kernel
theorem s_17_8 {x0 x1 x2 x3 x4 x5 x6 : Option Value} {o : Nat} {i : Int32} : mw d 17 Q 8 [x0, x1, x2, x3, x4, x5, x6] (.int i :: .ref o :: st) h = (mgr h o ∧ mx i (mh_l h o) ∧ mw d 17 Q 9 [x0, x1, x2, x3, x4, x5, x6] (mrd (mh_k h o) h o i.toNatClampNeg :: st) h) := (mw_at mj_17_8).trans (z_aald)
theorem mj_17_9 : mc_P 17 9 = some (.astore_n 3, 1, 0, 0, 0) := by decide +kernel
theorem s_17_9 {x0 x1 x2 x3 x4 x5 x6 : Option Value} {w : Nat} : mw d 17 Q 9 [x0, x1, x2, x3, x4, x5, x6] (.ref w :: st) h = mw d 17 Q 10 [x0, x1, mk2 x2, some (.ref w), x4, x5, x6] (st) h := (mw_at mj_17_9).trans (z_astore_n (Nat.le_of_ble_eq_true rfl) (me_s1_mk (j := 2) (w := x2) rfl))
theorem s_17_9n {x0 x1 x2 x3 x4 x5 x6 : Option Value} : mw d 17 Q 9 [x0, x1, x2, x3, x4, x5, x6] (.null :: st) h = mw d 17 Q 10 [x0, x1, mk2 x2, some (.null), x4, x5, x6] (st) h := (mw_at mj_17_9).trans (z_astoreN_n (Nat.le_of_ble_eq_true rfl) (me_s1_mk (j := 2) (w := x2) rfl))
theorem s_17_9x {x0 x1 x2 x3 x4 x5 x6 : Option Value} {w : Nat} : mw d 17 Q 9 [x0, x1, x2, x3, x4, x5, x6] (.retAddr w :: st) h = mw d 17 Q 10 [x0, x1, mk2 x2, some (.retAddr w), x4, x5, x6] (st) h := (mw_at mj_17_9).trans (z_astoreX_n (Nat.le_of_ble_eq_true rfl) (me_s1_mk (j := 2) (w := x2) rfl))
theorem mj_17_10 : mc_P 17 10 = some (.aload_n 0, 1, 0, 0, 0) := by decide +kernel
theorem s_17_10 {x1 x2 x3 x4 x5 x6 : Option Value} {w : Value} : mw d 17 Q 10 [some w, x1, x2, x3, x4, x5, x6] (st) h = mv_a w (mw d 17 Q 11 [some w, x1, x2, x3, x4, x5, x6] (w :: st) h) := (mw_at mj_17_10).trans (z_aload_n rfl)
theorem mj_17_11 : mc_P 17 11 = some (.getfield 39, 3, 1, 0, 0) := by decide +kernel
theorem s_17_11 {x0 x1 x2 x3 x4 x5 x6 : Option Value} {o : Nat} : mw d 17 Q 11 [x0, x1, x2, x3, x4, x5, x6] (.ref o :: st) h = (mg h o 1 ∧ mw d 17 Q 14 [x0, x1, x2, x3, x4, x5, x6] (va_rf (mh_r h o 0) :: st) h) := (mw_at mj_17_11).trans (z_getr (by decide) (by decide) rfl)
theorem mj_17_14 : mc_P 17 14 = some (.getfield 181, 3, 4, 1, 0) := by decide +kernel
theorem s_17_14 {x0 x1 x2 x3 x4 x5 x6 : Option Value} {o : Nat} : mw d 17 Q 14 [x0, x1, x2, x3, x4, x5, x6] (.ref o :: st) h = (mg h o 4 ∧ mw d 17 Q 17 [x0, x1, x2, x3, x4, x5, x6] (va_rf (mh_r h o 1) :: st) h) := (mw_at mj_17_14).trans (z_getr (by decide) (by decide) rfl)
theorem mj_17_17 : mc_P 17 17 = some (.astore 4, 2, 0, 0, 0) := by decide +kernel
theorem s_17_17 {x0 x1 x2 x3 x4 x5 x6 : Option Value} {w : Nat} : mw d 17 Q 17 [x0, x1, x2, x3, x4, x5, x6] (.ref w :: st) h = mw d 17 Q 19 [x0, x1, x2, mk2 x3, some (.ref w), x5, x6] (st) h := (mw_at mj_17_17).trans (z_astore (Nat.le_of_ble_eq_true rfl) (me_s1_mk (j := 3) (w := x3) rfl))
theorem s_17_17n {x0 x1 x2 x3 x4 x5 x6 : Option Value} : mw d 17 Q 17 [x0, x1, x2, x3, x4, x5, x6] (.null :: st) h = mw d 17 Q 19 [x0, x1, x2, mk2 x3, some (.null), x5, x6] (st) h := (mw_at mj_17_17).trans (z_astoreN (Nat.le_of_ble_eq_true rfl) (me_s1_mk (j := 3) (w := x3) rfl))
theorem s_17_17x {x0 x1 x2 x3 x4 x5 x6 : Option Value} {w : Nat} : mw d 17 Q 17 [x0, x1, x2, x3, x4, x5, x6] (.retAddr w :: st) h = mw d 17 Q 19 [x0, x1, x2, mk2 x3, some (.retAddr w), x5, x6] (st) h := (mw_at mj_17_17).trans (z_astoreX (Nat.le_of_ble_eq_true rfl) (me_s1_mk (j := 3) (w := x3) rfl))
theorem mj_17_19 : mc_P 17 19 = some (.aload_n 0, 1, 0, 0, 0) := by decide +kernel
theorem s_17_19 {x1 x2 x3 x4 x5 x6 : Option Value} {w : Value} : mw d 17 Q 19 [some w, x1, x2, x3, x4, x5, x6] (st) h = mv_a w (mw d 17 Q 20 [some w, x1, x2, x3, x4, x5, x6] (w :: st) h) := (mw_at mj_17_19).trans (z_aload_n rfl)
theorem mj_17_20 : mc_P 17 20 = some (.getfield 28, 3, 1, 4, 0) := by decide +kernel
theorem s_17_20 {x0 x1 x2 x3 x4 x5 x6 : Option Value} {o : Nat} : mw d 17 Q 20 [x0, x1, x2, x3, x4, x5, x6] (.ref o :: st) h = (mg h o 1 ∧ mw d 17 Q 23 [x0, x1, x2, x3, x4, x5, x6] (va_rf (mh_r h o 4) :: st) h) := (mw_at mj_17_20).trans (z_getr (by decide) (by decide) rfl)
theorem mj_17_23 : mc_P 17 23 = some (.aload_n 2, 1, 0, 0, 0) := by decide +kernel
theorem s_17_23 {x0 x1 x3 x4 x5 x6 : Option Value} {w : Value} : mw d 17 Q 23 [x0, x1, some w, x3, x4, x5, x6] (st) h = mv_a w (mw d 17 Q 24 [x0, x1, some w, x3, x4, x5, x6] (w :: st) h) := (mw_at mj_17_23).trans (z_aload_n rfl)
theorem mj_17_24 : mc_P 17 24 = some (.invokevirtual 53, 3, 144, 8, 2) := by decide +kernel
theorem s_17_24 {x0 x1 x2 x3 x4 x5 x6 : Option Value} {o : Nat} {a1 : Value} : mw (d + 1) 17 Q 24 [x0, x1, x2, x3, x4, x5, x6] (a1 :: .ref o :: st) h = (mg h o 8 ∧ mca st 8 ∧ mca [.ref o, a1] 2 ∧ mcall d 144 [.ref o, a1] h (mK (d + 1) 17 Q 27 [x0, x1, x2, x3, x4, x5, x6] st)) := (mw_at mj_17_24).trans ((z_invv (As := [a1]) (by decide) rfl rfl).trans (congrArg (And _) (congrArg (And _) (mC_nl nl_144))))
theorem mj_17_27 : mc_P 17 27 = some (.aload_n 0, 1, 0, 0, 0) := by decide +kernel
theorem s_17_27 {x1 x2 x3 x4 x5 x6 : Option Value} {w : Value} : mw d 17 Q 27 [some w, x1, x2, x3, x4, x5, x6] (st) h = mv_a w (mw d 17 Q 28 [some w, x1, x2, x3, x4, x5, x6] (w :: st) h) := (mw_at mj_17_27).trans (z_aload_n rfl)
theorem mj_17_28 : mc_P 17 28 = some (.getfield 12, 3, 1, 1, 0) := by decide +kernel
theorem s_17_28 {x0 x1 x2 x3 x4 x5 x6 : Option Value} {o : Nat} : mw d 17 Q 28 [x0, x1, x2, x3, x4, x5, x6] (.ref o :: st) h = (mg h o 1 ∧ mw d 17 Q 31 [x0, x1, x2, x3, x4, x5, x6] (va_rf (mh_r h o 1) :: st) h) := (mw_at mj_17_28).trans (z_getr (by decide) (by decide) rfl)
theorem mj_17_31 : mc_P 17 31 = some (.aload_n 0, 1, 0, 0, 0) := by decide +kernel
theorem s_17_31 {x1 x2 x3 x4 x5 x6 : Option Value} {w : Value} : mw d 17 Q 31 [some w, x1, x2, x3, x4, x5, x6] (st) h = mv_a w (mw d 17 Q 32 [some w, x1, x2, x3, x4, x5, x6] (w :: st) h) := (mw_at mj_17_31).trans (z_aload_n rfl)
theorem mj_17_32 : mc_P 17 32 = some (.getfield 39, 3, 1, 0, 0) := by decide +kernel
theorem s_17_32 {x0 x1 x2 x3 x4 x5 x6 : Option Value} {o : Nat} : mw d 17 Q 32 [x0, x1, x2, x3, x4, x5, x6] (.ref o :: st) h = (mg h o 1 ∧ mw d 17 Q 35 [x0, x1, x2, x3, x4, x5, x6] (va_rf (mh_r h o 0) :: st) h) := (mw_at mj_17_32).trans (z_getr (by decide) (by decide) rfl)
theorem mj_17_35 : mc_P 17 35 = some (.iload_n 1, 1, 0, 0, 0) := by decide +kernel
theorem s_17_35 {x0 x2 x3 x4 x5 x6 : Option Value} {w : Value} : mw d 17 Q 35 [x0, some w, x2, x3, x4, x5, x6] (st) h = mv_i w (mw d 17 Q 36 [x0, some w, x2, x3, x4, x5, x6] (w :: st) h) := (mw_at mj_17_35).trans (z_iload_n rfl)
theorem mj_17_36 : mc_P 17 36 = some (.aload_n 0, 1, 0, 0, 0) := by decide +kernel
theorem s_17_36 {x1 x2 x3 x4 x5 x6 : Option Value} {w : Value} : mw d 17 Q 36 [some w, x1, x2, x3, x4, x5, x6] (st) h = mv_a w (mw d 17 Q 37 [some w, x1, x2, x3, x4, x5, x6] (w :: st) h) := (mw_at mj_17_36).trans (z_aload_n rfl)
theorem mj_17_37 : mc_P 17 37 = some (.getfield 28, 3, 1, 4, 0) := by decide +kernel
theorem s_17_37 {x0 x1 x2 x3 x4 x5 x6 : Option Value} {o : Nat} : mw d 17 Q 37 [x0, x1, x2, x3, x4, x5, x6] (.ref o :: st) h = (mg h o 1 ∧ mw d 17 Q 40 [x0, x1, x2, x3, x4, x5, x6] (va_rf (mh_r h o 4) :: st) h) := (mw_at mj_17_37).trans (z_getr (by decide) (by decide) rfl)
theorem mj_17_40 : mc_P 17 40 = some (.invokevirtual 49, 3, 97, 5, 4) := by decide +kernel
theorem s_17_40 {x0 x1 x2 x3 x4 x5 x6 : Option Value} {o : Nat} {a1 a2 a3 : Value} : mw (d + 1) 17 Q 40 [x0, x1, x2, x3, x4, x5, x6] (a3 :: a2 :: a1 :: .ref o :: st) h = (mg h o 5 ∧ mca st 8 ∧ mca [.ref o, a1, a2, a3] 4 ∧ mcall d 97 [.ref o, a1, a2, a3] h (mK (d + 1) 17 Q 43 [x0, x1, x2, x3, x4, x5, x6] st)) := (mw_at mj_17_40).trans ((z_invv (As := [a1, a2, a3]) (by decide) rfl rfl).trans (congrArg (And _) (congrArg (And _) (mC_nl nl_97))))
theorem mj_17_43 : mc_P 17 43 = some (.aload_n 0, 1, 0, 0, 0) := by decide +kernel
theorem s_17_43 {x1 x2 x3 x4 x5 x6 : Option Value} {w : Value} : mw d 17 Q 43 [some w, x1, x2, x3, x4, x5, x6] (st) h = mv_a w (mw d 17 Q 44 [some w, x1, x2, x3, x4, x5, x6] (w :: st) h) := (mw_at mj_17_43).trans (z_aload_n rfl)
theorem mj_17_44 : mc_P 17 44 = some (.iconst 0, 1, 0, 0, 0) := by decide +kernel
theorem s_17_44 {x0 x1 x2 x3 x4 x5 x6 : Option Value} : mw d 17 Q 44 [x0, x1, x2, x3, x4, x5, x6] (st) h = mw d 17 Q 45 [x0, x1, x2, x3, x4, x5, x6] (.int 0 :: st) h := (mw_at mj_17_44).trans (z_iconst (by decide))
theorem mj_17_45 : mc_P 17 45 = some (.putfield 185, 3, 1, 6, 0) := by decide +kernel
theorem s_17_45 {x0 x1 x2 x3 x4 x5 x6 : Option Value} {o : Nat} {w : Int32} : mw d 17 Q 45 [x0, x1, x2, x3, x4, x5, x6] (.int w :: .ref o :: st) h = (mg h o 1 ∧ mw d 17 Q 48 [x0, x1, x2, x3, x4, x5, x6] (st) (mh_si h o 6 w)) := (mw_at mj_17_45).trans (z_puti (by decide) (by decide) rfl)
theorem mj_17_48 : mc_P 17 48 = some (.aload_n 3, 1, 0, 0, 0) := by decide +kernel
theorem s_17_48 {x0 x1 x2 x4 x5 x6 : Option Value} {w : Value} : mw d 17 Q 48 [x0, x1, x2, some w, x4, x5, x6] (st) h = mv_a w (mw d 17 Q 49 [x0, x1, x2, some w, x4, x5, x6] (w :: st) h) := (mw_at mj_17_48).trans (z_aload_n rfl)
theorem mj_17_49 : mc_P 17 49 = some (.getfield 188, 3, 9, 12, 0) := by decide +kernel
theorem s_17_49 {x0 x1 x2 x3 x4 x5 x6 : Option Value} {o : Nat} : mw d 17 Q 49 [x0, x1, x2, x3, x4, x5, x6] (.ref o :: st) h = (mg h o 9 ∧ mw d 17 Q 52 [x0, x1, x2, x3, x4, x5, x6] (.int (mh_i h o 12) :: st) h) := (mw_at mj_17_49).trans (z_geti (by decide) (by decide) (Or.inl rfl))
theorem mj_17_52 : mc_P 17 52 = some (.istore 5, 2, 0, 0, 0) := by decide +kernel
theorem s_17_52 {x0 x1 x2 x3 x4 x5 x6 : Option Value} {w : Int32} : mw d 17 Q 52 [x0, x1, x2, x3, x4, x5, x6] (.int w :: st) h = mw d 17 Q 54 [x0, x1, x2, x3, mk2 x4, some (.int w), x6] (st) h := (mw_at mj_17_52).trans (z_istore (Nat.le_of_ble_eq_true rfl) (me_s1_mk (j := 4) (w := x4) rfl))
theorem mj_17_54 : mc_P 17 54 = some (.iload 5, 2, 0, 0, 0) := by decide +kernel
theorem s_17_54 {x0 x1 x2 x3 x4 x6 : Option Value} {w : Value} : mw d 17 Q 54 [x0, x1, x2, x3, x4, some w, x6] (st) h = mv_i w (mw d 17 Q 56 [x0, x1, x2, x3, x4, some w, x6] (w :: st) h) := (mw_at mj_17_54).trans (z_iload rfl)
theorem mj_17_56 : mc_P 17 56 = some (.aload_n 3, 1, 0, 0, 0) := by decide +kernel
theorem s_17_56 {x0 x1 x2 x4 x5 x6 : Option Value} {w : Value} : mw d 17 Q 56 [x0, x1, x2, some w, x4, x5, x6] (st) h = mv_a w (mw d 17 Q 57 [x0, x1, x2, some w, x4, x5, x6] (w :: st) h) := (mw_at mj_17_56).trans (z_aload_n rfl)
theorem mj_17_57 : mc_P 17 57 = some (.getfield 191, 3, 9, 13, 0) := by decide +kernel
theorem s_17_57 {x0 x1 x2 x3 x4 x5 x6 : Option Value} {o : Nat} : mw d 17 Q 57 [x0, x1, x2, x3, x4, x5, x6] (.ref o :: st) h = (mg h o 9 ∧ mw d 17 Q 60 [x0, x1, x2, x3, x4, x5, x6] (.int (mh_i h o 13) :: st) h) := (mw_at mj_17_57).trans (z_geti (by decide) (by decide) (Or.inl rfl))
theorem mj_17_60 : mc_P 17 60 = some (.if_icmp .ge 153, 3, 0, 0, 0) := by decide +kernel
theorem s_17_60 {x0 x1 x2 x3 x4 x5 x6 : Option Value} {x w : Int32} : mw d 17 Q 60 [x0, x1, x2, x3, x4, x5, x6] (.int w :: .int x :: st) h = mB (w ≤ x) (mw d 17 Q) 213 63 [x0, x1, x2, x3, x4, x5, x6] st h := (mw_at mj_17_60).trans (z_icmp_ge (by decide) rfl)
theorem mj_17_63 : mc_P 17 63 = some (.aload 4, 2, 0, 0, 0) := by decide +kernel
theorem s_17_63 {x0 x1 x2 x3 x5 x6 : Option Value} {w : Value} : mw d 17 Q 63 [x0, x1, x2, x3, some w, x5, x6] (st) h = mv_a w (mw d 17 Q 65 [x0, x1, x2, x3, some w, x5, x6] (w :: st) h) := (mw_at mj_17_63).trans (z_aload rfl)
theorem mj_17_65 : mc_P 17 65 = some (.getfield 194, 3, 7, 9, 0) := by decide +kernel
theorem s_17_65 {x0 x1 x2 x3 x4 x5 x6 : Option Value} {o : Nat} : mw d 17 Q 65 [x0, x1, x2, x3, x4, x5, x6] (.ref o :: st) h = (mg h o 7 ∧ mw d 17 Q 68 [x0, x1, x2, x3, x4, x5, x6] (va_rf (mh_r h o 9) :: st) h) := (mw_at mj_17_65).trans (z_getr (by decide) (by decide) rfl)
theorem mj_17_68 : mc_P 17 68 = some (.iload 5, 2, 0, 0, 0) := by decide +kernel
theorem s_17_68 {x0 x1 x2 x3 x4 x6 : Option Value} {w : Value} : mw d 17 Q 68 [x0, x1, x2, x3, x4, some w, x6] (st) h = mv_i w (mw d 17 Q 70 [x0, x1, x2, x3, x4, some w, x6] (w :: st) h) := (mw_at mj_17_68).trans (z_iload rfl)
theorem mj_17_70 : mc_P 17 70 = some (.iaload, 1, 0, 0, 0) := by decide +kernel
theorem s_17_70 {x0 x1 x2 x3 x4 x5 x6 : Option Value} {o : Nat} {i : Int32} : mw d 17 Q 70 [x0, x1, x2, x3, x4, x5, x6] (.int i :: .ref o :: st) h = (mg h o 100 ∧ mx i (mh_l h o) ∧ mw d 17 Q 71 [x0, x1, x2, x3, x4, x5, x6] (.int (mh_i h o i.toNatClampNeg) :: st) h) := (mw_at mj_17_70).trans (z_iald)
theorem s_17_70x {x0 x1 x2 x3 x4 x5 x6 : Option Value} {i : Int32} : mw d 17 Q 70 [x0, x1, x2, x3, x4, x5, x6] (.int i :: .retAddr 2 :: st) h = (mx i 24 ∧ mw d 17 Q 71 [x0, x1, x2, x3, x4, x5, x6] (.int (mx_row.getD i.toNatClampNeg 0) :: st) h) := (mw_at mj_17_70).trans (z_iaX)
theorem mj_17_71 : mc_P 17 71 = some (.istore 6, 2, 0, 0, 0) := by decide +kernel
theorem s_17_71 {x0 x1 x2 x3 x4 x5 x6 : Option Value} {w : Int32} : mw d 17 Q 71 [x0, x1, x2, x3, x4, x5, x6] (.int w :: st) h = mw d 17 Q 73 [x0, x1, x2, x3, x4, mk2 x5, some (.int w)] (st) h := (mw_at mj_17_71).trans (z_istore (Nat.le_of_ble_eq_true rfl) (me_s1_mk (j := 5) (w := x5) rfl))
theorem mj_17_73 : mc_P 17 73 = some (.iload 6, 2, 0, 0, 0) := by decide +kernel
theorem s_17_73 {x0 x1 x2 x3 x4 x5 : Option Value} {w : Value} : mw d 17 Q 73 [x0, x1, x2, x3, x4, x5, some w] (st) h = mv_i w (mw d 17 Q 75 [x0, x1, x2, x3, x4, x5, some w] (w :: st) h) := (mw_at mj_17_73).trans (z_iload rfl)
theorem mj_17_75 : mc_P 17 75 = some (.sipush 132, 3, 0, 0, 0) := by decide +kernel
theorem s_17_75 {x0 x1 x2 x3 x4 x5 x6 : Option Value} : mw d 17 Q 75 [x0, x1, x2, x3, x4, x5, x6] (st) h = mw d 17 Q 78 [x0, x1, x2, x3, x4, x5, x6] (.int 132 :: st) h := (mw_at mj_17_75).trans (z_sipush (by decide))
theorem mj_17_78 : mc_P 17 78 = some (.if_icmp .eq 10, 3, 0, 0, 0) := by decide +kernel
theorem s_17_78 {x0 x1 x2 x3 x4 x5 x6 : Option Value} {x w : Int32} : mw d 17 Q 78 [x0, x1, x2, x3, x4, x5, x6] (.int w :: .int x :: st) h = mB (x = w) (mw d 17 Q) 88 81 [x0, x1, x2, x3, x4, x5, x6] st h := (mw_at mj_17_78).trans (z_icmp_eq (by decide) rfl)
theorem mj_17_81 : mc_P 17 81 = some (.iload 6, 2, 0, 0, 0) := by decide +kernel
theorem s_17_81 {x0 x1 x2 x3 x4 x5 : Option Value} {w : Value} : mw d 17 Q 81 [x0, x1, x2, x3, x4, x5, some w] (st) h = mv_i w (mw d 17 Q 83 [x0, x1, x2, x3, x4, x5, some w] (w :: st) h) := (mw_at mj_17_81).trans (z_iload rfl)
theorem mj_17_83 : mc_P 17 83 = some (.bipush 33, 2, 0, 0, 0) := by decide +kernel
theorem s_17_83 {x0 x1 x2 x3 x4 x5 x6 : Option Value} : mw d 17 Q 83 [x0, x1, x2, x3, x4, x5, x6] (st) h = mw d 17 Q 85 [x0, x1, x2, x3, x4, x5, x6] (.int 33 :: st) h := (mw_at mj_17_83).trans (z_bipush (by decide))
theorem mj_17_85 : mc_P 17 85 = some (.if_icmp .ne 7, 3, 0, 0, 0) := by decide +kernel
theorem s_17_85 {x0 x1 x2 x3 x4 x5 x6 : Option Value} {x w : Int32} : mw d 17 Q 85 [x0, x1, x2, x3, x4, x5, x6] (.int w :: .int x :: st) h = mB (¬ x = w) (mw d 17 Q) 92 88 [x0, x1, x2, x3, x4, x5, x6] st h := (mw_at mj_17_85).trans (z_icmp_ne (by decide) rfl)
theorem mj_17_88 : mc_P 17 88 = some (.aload_n 0, 1, 0, 0, 0) := by decide +kernel
theorem s_17_88 {x1 x2 x3 x4 x5 x6 : Option Value} {w : Value} : mw d 17 Q 88 [some w, x1, x2, x3, x4, x5, x6] (st) h = mv_a w (mw d 17 Q 89 [some w, x1, x2, x3, x4, x5, x6] (w :: st) h) := (mw_at mj_17_88).trans (z_aload_n rfl)
theorem mj_17_89 : mc_P 17 89 = some (.invokevirtual 201, 3, 18, 1, 1) := by decide +kernel
theorem s_17_89 {x0 x1 x2 x3 x4 x5 x6 : Option Value} {o : Nat} : mw (d + 1) 17 Q 89 [x0, x1, x2, x3, x4, x5, x6] (.ref o :: st) h = (mg h o 1 ∧ mca st 8 ∧ mca [.ref o] 2 ∧ mcall d 18 [.ref o] h (mK (d + 1) 17 Q 92 [x0, x1, x2, x3, x4, x5, x6] st)) := (mw_at mj_17_89).trans ((z_invv (As := []) (by decide) rfl rfl).trans (congrArg (And _) (congrArg (And _) (mC_nl nl_18))))
theorem mj_17_92 : mc_P 17 92 = some (.iload 6, 2, 0, 0, 0) := by decide +kernel
theorem s_17_92 {x0 x1 x2 x3 x4 x5 : Option Value} {w : Value} : mw d 17 Q 92 [x0, x1, x2, x3, x4, x5, some w] (st) h = mv_i w (mw d 17 Q 94 [x0, x1, x2, x3, x4, x5, some w] (w :: st) h) := (mw_at mj_17_92).trans (z_iload rfl)
theorem mj_17_94 : mc_P 17 94 = some (.sipush 132, 3, 0, 0, 0) := by decide +kernel
theorem s_17_94 {x0 x1 x2 x3 x4 x5 x6 : Option Value} : mw d 17 Q 94 [x0, x1, x2, x3, x4, x5, x6] (st) h = mw d 17 Q 97 [x0, x1, x2, x3, x4, x5, x6] (.int 132 :: st) h := (mw_at mj_17_94).trans (z_sipush (by decide))
theorem mj_17_97 : mc_P 17 97 = some (.if_icmp .eq 11, 3, 0, 0, 0) := by decide +kernel
theorem s_17_97 {x0 x1 x2 x3 x4 x5 x6 : Option Value} {x w : Int32} : mw d 17 Q 97 [x0, x1, x2, x3, x4, x5, x6] (.int w :: .int x :: st) h = mB (x = w) (mw d 17 Q) 108 100 [x0, x1, x2, x3, x4, x5, x6] st h := (mw_at mj_17_97).trans (z_icmp_eq (by decide) rfl)
theorem mj_17_100 : mc_P 17 100 = some (.iload 6, 2, 0, 0, 0) := by decide +kernel
theorem s_17_100 {x0 x1 x2 x3 x4 x5 : Option Value} {w : Value} : mw d 17 Q 100 [x0, x1, x2, x3, x4, x5, some w] (st) h = mv_i w (mw d 17 Q 102 [x0, x1, x2, x3, x4, x5, some w] (w :: st) h) := (mw_at mj_17_100).trans (z_iload rfl)
theorem mj_17_102 : mc_P 17 102 = some (.sipush 133, 3, 0, 0, 0) := by decide +kernel
theorem s_17_102 {x0 x1 x2 x3 x4 x5 x6 : Option Value} : mw d 17 Q 102 [x0, x1, x2, x3, x4, x5, x6] (st) h = mw d 17 Q 105 [x0, x1, x2, x3, x4, x5, x6] (.int 133 :: st) h := (mw_at mj_17_102).trans (z_sipush (by decide))
theorem mj_17_105 : mc_P 17 105 = some (.if_icmp .ne 10, 3, 0, 0, 0) := by decide +kernel
theorem s_17_105 {x0 x1 x2 x3 x4 x5 x6 : Option Value} {x w : Int32} : mw d 17 Q 105 [x0, x1, x2, x3, x4, x5, x6] (.int w :: .int x :: st) h = mB (¬ x = w) (mw d 17 Q) 115 108 [x0, x1, x2, x3, x4, x5, x6] st h := (mw_at mj_17_105).trans (z_icmp_ne (by decide) rfl)
theorem mj_17_108 : mc_P 17 108 = some (.aload_n 0, 1, 0, 0, 0) := by decide +kernel
theorem s_17_108 {x1 x2 x3 x4 x5 x6 : Option Value} {w : Value} : mw d 17 Q 108 [some w, x1, x2, x3, x4, x5, x6] (st) h = mv_a w (mw d 17 Q 109 [some w, x1, x2, x3, x4, x5, x6] (w :: st) h) := (mw_at mj_17_108).trans (z_aload_n rfl)
theorem mj_17_109 : mc_P 17 109 = some (.invokevirtual 204, 3, 19, 1, 1) := by decide +kernel
theorem s_17_109 {x0 x1 x2 x3 x4 x5 x6 : Option Value} {o : Nat} : mw (d + 1) 17 Q 109 [x0, x1, x2, x3, x4, x5, x6] (.ref o :: st) h = (mg h o 1 ∧ mca st 8 ∧ mca [.ref o] 3 ∧ mcall d 19 [.ref o] h (mK (d + 1) 17 Q 112 [x0, x1, x2, x3, x4, x5, x6] st)) := (mw_at mj_17_109).trans ((z_invv (As := []) (by decide) rfl rfl).trans (congrArg (And _) (congrArg (And _) (mC_nl nl_19))))
theorem mj_17_112 : mc_P 17 112 = some (.goto 95, 3, 0, 0, 0) := by decide +kernel
theorem s_17_112 {x0 x1 x2 x3 x4 x5 x6 : Option Value} : mw d 17 Q 112 [x0, x1, x2, x3, x4, x5, x6] (st) h = mw d 17 Q 207 [x0, x1, x2, x3, x4, x5, x6] (st) h := (mw_at mj_17_112).trans (z_goto (by decide))
theorem mj_17_115 : mc_P 17 115 = some (.iload 6, 2, 0, 0, 0) := by decide +kernel
theorem s_17_115 {x0 x1 x2 x3 x4 x5 : Option Value} {w : Value} : mw d 17 Q 115 [x0, x1, x2, x3, x4, x5, some w] (st) h = mv_i w (mw d 17 Q 117 [x0, x1, x2, x3, x4, x5, some w] (w :: st) h) := (mw_at mj_17_115).trans (z_iload rfl)
theorem mj_17_117 : mc_P 17 117 = some (.sipush 134, 3, 0, 0, 0) := by decide +kernel
theorem s_17_117 {x0 x1 x2 x3 x4 x5 x6 : Option Value} : mw d 17 Q 117 [x0, x1, x2, x3, x4, x5, x6] (st) h = mw d 17 Q 120 [x0, x1, x2, x3, x4, x5, x6] (.int 134 :: st) h := (mw_at mj_17_117).trans (z_sipush (by decide))
theorem mj_17_120 : mc_P 17 120 = some (.if_icmp .eq 11, 3, 0, 0, 0) := by decide +kernel
theorem s_17_120 {x0 x1 x2 x3 x4 x5 x6 : Option Value} {x w : Int32} : mw d 17 Q 120 [x0, x1, x2, x3, x4, x5, x6] (.int w :: .int x :: st) h = mB (x = w) (mw d 17 Q) 131 123 [x0, x1, x2, x3, x4, x5, x6] st h := (mw_at mj_17_120).trans (z_icmp_eq (by decide) rfl)
theorem mj_17_123 : mc_P 17 123 = some (.iload 6, 2, 0, 0, 0) := by decide +kernel
theorem s_17_123 {x0 x1 x2 x3 x4 x5 : Option Value} {w : Value} : mw d 17 Q 123 [x0, x1, x2, x3, x4, x5, some w] (st) h = mv_i w (mw d 17 Q 125 [x0, x1, x2, x3, x4, x5, some w] (w :: st) h) := (mw_at mj_17_123).trans (z_iload rfl)
theorem mj_17_125 : mc_P 17 125 = some (.sipush 135, 3, 0, 0, 0) := by decide +kernel
theorem s_17_125 {x0 x1 x2 x3 x4 x5 x6 : Option Value} : mw d 17 Q 125 [x0, x1, x2, x3, x4, x5, x6] (st) h = mw d 17 Q 128 [x0, x1, x2, x3, x4, x5, x6] (.int 135 :: st) h := (mw_at mj_17_125).trans (z_sipush (by decide))
theorem mj_17_128 : mc_P 17 128 = some (.if_icmp .ne 12, 3, 0, 0, 0) := by decide +kernel
theorem s_17_128 {x0 x1 x2 x3 x4 x5 x6 : Option Value} {x w : Int32} : mw d 17 Q 128 [x0, x1, x2, x3, x4, x5, x6] (.int w :: .int x :: st) h = mB (¬ x = w) (mw d 17 Q) 140 131 [x0, x1, x2, x3, x4, x5, x6] st h := (mw_at mj_17_128).trans (z_icmp_ne (by decide) rfl)
theorem mj_17_131 : mc_P 17 131 = some (.aload_n 0, 1, 0, 0, 0) := by decide +kernel
theorem s_17_131 {x1 x2 x3 x4 x5 x6 : Option Value} {w : Value} : mw d 17 Q 131 [some w, x1, x2, x3, x4, x5, x6] (st) h = mv_a w (mw d 17 Q 132 [some w, x1, x2, x3, x4, x5, x6] (w :: st) h) := (mw_at mj_17_131).trans (z_aload_n rfl)
theorem mj_17_132 : mc_P 17 132 = some (.iload 6, 2, 0, 0, 0) := by decide +kernel
theorem s_17_132 {x0 x1 x2 x3 x4 x5 : Option Value} {w : Value} : mw d 17 Q 132 [x0, x1, x2, x3, x4, x5, some w] (st) h = mv_i w (mw d 17 Q 134 [x0, x1, x2, x3, x4, x5, some w] (w :: st) h) := (mw_at mj_17_132).trans (z_iload rfl)
theorem mj_17_134 : mc_P 17 134 = some (.invokevirtual 207, 3, 20, 1, 2) := by decide +kernel
theorem s_17_134 {x0 x1 x2 x3 x4 x5 x6 : Option Value} {o : Nat} {a1 : Value} : mw (d + 1) 17 Q 134 [x0, x1, x2, x3, x4, x5, x6] (a1 :: .ref o :: st) h = (mg h o 1 ∧ mca st 8 ∧ mca [.ref o, a1] 2 ∧ mcall d 20 [.ref o, a1] h (mK (d + 1) 17 Q 137 [x0, x1, x2, x3, x4, x5, x6] st)) := (mw_at mj_17_134).trans ((z_invv (As := [a1]) (by decide) rfl rfl).trans (congrArg (And _) (congrArg (And _) (mC_nl nl_20))))
theorem mj_17_137 : mc_P 17 137 = some (.goto 70, 3, 0, 0, 0) := by decide +kernel
theorem s_17_137 {x0 x1 x2 x3 x4 x5 x6 : Option Value} : mw d 17 Q 137 [x0, x1, x2, x3, x4, x5, x6] (st) h = mw d 17 Q 207 [x0, x1, x2, x3, x4, x5, x6] (st) h := (mw_at mj_17_137).trans (z_goto (by decide))
theorem mj_17_140 : mc_P 17 140 = some (.iload 6, 2, 0, 0, 0) := by decide +kernel
theorem s_17_140 {x0 x1 x2 x3 x4 x5 : Option Value} {w : Value} : mw d 17 Q 140 [x0, x1, x2, x3, x4, x5, some w] (st) h = mv_i w (mw d 17 Q 142 [x0, x1, x2, x3, x4, x5, some w] (w :: st) h) := (mw_at mj_17_140).trans (z_iload rfl)
theorem mj_17_142 : mc_P 17 142 = some (.bipush 33, 2, 0, 0, 0) := by decide +kernel
theorem s_17_142 {x0 x1 x2 x3 x4 x5 x6 : Option Value} : mw d 17 Q 142 [x0, x1, x2, x3, x4, x5, x6] (st) h = mw d 17 Q 144 [x0, x1, x2, x3, x4, x5, x6] (.int 33 :: st) h := (mw_at mj_17_142).trans (z_bipush (by decide))
theorem mj_17_144 : mc_P 17 144 = some (.if_icmp .eq 63, 3, 0, 0, 0) := by decide +kernel
theorem s_17_144 {x0 x1 x2 x3 x4 x5 x6 : Option Value} {x w : Int32} : mw d 17 Q 144 [x0, x1, x2, x3, x4, x5, x6] (.int w :: .int x :: st) h = mB (x = w) (mw d 17 Q) 207 147 [x0, x1, x2, x3, x4, x5, x6] st h := (mw_at mj_17_144).trans (z_icmp_eq (by decide) rfl)
theorem mj_17_147 : mc_P 17 147 = some (.aload_n 0, 1, 0, 0, 0) := by decide +kernel
theorem s_17_147 {x1 x2 x3 x4 x5 x6 : Option Value} {w : Value} : mw d 17 Q 147 [some w, x1, x2, x3, x4, x5, x6] (st) h = mv_a w (mw d 17 Q 148 [some w, x1, x2, x3, x4, x5, x6] (w :: st) h) := (mw_at mj_17_147).trans (z_aload_n rfl)
theorem mj_17_148 : mc_P 17 148 = some (.aload 4, 2, 0, 0, 0) := by decide +kernel
theorem s_17_148 {x0 x1 x2 x3 x5 x6 : Option Value} {w : Value} : mw d 17 Q 148 [x0, x1, x2, x3, some w, x5, x6] (st) h = mv_a w (mw d 17 Q 150 [x0, x1, x2, x3, some w, x5, x6] (w :: st) h) := (mw_at mj_17_148).trans (z_aload rfl)
theorem mj_17_150 : mc_P 17 150 = some (.getfield 210, 3, 7, 10, 0) := by decide +kernel
theorem s_17_150 {x0 x1 x2 x3 x4 x5 x6 : Option Value} {o : Nat} : mw d 17 Q 150 [x0, x1, x2, x3, x4, x5, x6] (.ref o :: st) h = (mg h o 7 ∧ mw d 17 Q 153 [x0, x1, x2, x3, x4, x5, x6] (va_rf (mh_r h o 10) :: st) h) := (mw_at mj_17_150).trans (z_getr (by decide) (by decide) rfl)
theorem mj_17_153 : mc_P 17 153 = some (.iload 5, 2, 0, 0, 0) := by decide +kernel
theorem s_17_153 {x0 x1 x2 x3 x4 x6 : Option Value} {w : Value} : mw d 17 Q 153 [x0, x1, x2, x3, x4, some w, x6] (st) h = mv_i w (mw d 17 Q 155 [x0, x1, x2, x3, x4, some w, x6] (w :: st) h) := (mw_at mj_17_153).trans (z_iload rfl)
theorem mj_17_155 : mc_P 17 155 = some (.iaload, 1, 0, 0, 0) := by decide +kernel
theorem s_17_155 {x0 x1 x2 x3 x4 x5 x6 : Option Value} {o : Nat} {i : Int32} : mw d 17 Q 155 [x0, x1, x2, x3, x4, x5, x6] (.int i :: .ref o :: st) h = (mg h o 100 ∧ mx i (mh_l h o) ∧ mw d 17 Q 156 [x0, x1, x2, x3, x4, x5, x6] (.int (mh_i h o i.toNatClampNeg) :: st) h) := (mw_at mj_17_155).trans (z_iald)
theorem s_17_155x {x0 x1 x2 x3 x4 x5 x6 : Option Value} {i : Int32} : mw d 17 Q 155 [x0, x1, x2, x3, x4, x5, x6] (.int i :: .retAddr 2 :: st) h = (mx i 24 ∧ mw d 17 Q 156 [x0, x1, x2, x3, x4, x5, x6] (.int (mx_row.getD i.toNatClampNeg 0) :: st) h) := (mw_at mj_17_155).trans (z_iaX)
theorem mj_17_156 : mc_P 17 156 = some (.invokevirtual 213, 3, 21, 1, 2) := by decide +kernel
theorem s_17_156 {x0 x1 x2 x3 x4 x5 x6 : Option Value} {o : Nat} {a1 : Value} : mw (d + 1) 17 Q 156 [x0, x1, x2, x3, x4, x5, x6] (a1 :: .ref o :: st) h = (mg h o 1 ∧ mca st 8 ∧ mca [.ref o, a1] 3 ∧ mcall d 21 [.ref o, a1] h (mK (d + 1) 17 Q 159 [x0, x1, x2, x3, x4, x5, x6] st)) := (mw_at mj_17_156).trans ((z_invv (As := [a1]) (by decide) rfl rfl).trans (congrArg (And _) (congrArg (And _) (mC_nl nl_21))))
theorem mj_17_159 : mc_P 17 159 = some (.ifCond .eq 48, 3, 0, 0, 0) := by decide +kernel
theorem s_17_159 {x0 x1 x2 x3 x4 x5 x6 : Option Value} {x : Int32} : mw d 17 Q 159 [x0, x1, x2, x3, x4, x5, x6] (.int x :: st) h = mB (x = 0) (mw d 17 Q) 207 162 [x0, x1, x2, x3, x4, x5, x6] st h := (mw_at mj_17_159).trans (z_if_eq (by decide) rfl)
theorem mj_17_162 : mc_P 17 162 = some (.aload_n 0, 1, 0, 0, 0) := by decide +kernel
theorem s_17_162 {x1 x2 x3 x4 x5 x6 : Option Value} {w : Value} : mw d 17 Q 162 [some w, x1, x2, x3, x4, x5, x6] (st) h = mv_a w (mw d 17 Q 163 [some w, x1, x2, x3, x4, x5, x6] (w :: st) h) := (mw_at mj_17_162).trans (z_aload_n rfl)
theorem mj_17_163 : mc_P 17 163 = some (.aload_n 0, 1, 0, 0, 0) := by decide +kernel
theorem s_17_163 {x1 x2 x3 x4 x5 x6 : Option Value} {w : Value} : mw d 17 Q 163 [some w, x1, x2, x3, x4, x5, x6] (st) h = mv_a w (mw d 17 Q 164 [some w, x1, x2, x3, x4, x5, x6] (w :: st) h) := (mw_at mj_17_163).trans (z_aload_n rfl)
theorem mj_17_164 : mc_P 17 164 = some (.getfield 21, 3, 1, 2, 0) := by decide +kernel
theorem s_17_164 {x0 x1 x2 x3 x4 x5 x6 : Option Value} {o : Nat} : mw d 17 Q 164 [x0, x1, x2, x3, x4, x5, x6] (.ref o :: st) h = (mg h o 1 ∧ mw d 17 Q 167 [x0, x1, x2, x3, x4, x5, x6] (va_rf (mh_r h o 2) :: st) h) := (mw_at mj_17_164).trans (z_getr (by decide) (by decide) rfl)
theorem mj_17_167 : mc_P 17 167 = some (.iload 6, 2, 0, 0, 0) := by decide +kernel
theorem s_17_167 {x0 x1 x2 x3 x4 x5 : Option Value} {w : Value} : mw d 17 Q 167 [x0, x1, x2, x3, x4, x5, some w] (st) h = mv_i w (mw d 17 Q 169 [x0, x1, x2, x3, x4, x5, some w] (w :: st) h) := (mw_at mj_17_167).trans (z_iload rfl)
theorem mj_17_169 : mc_P 17 169 = some (.invokevirtual 216, 3, 23, 1, 3) := by decide +kernel
theorem s_17_169 {x0 x1 x2 x3 x4 x5 x6 : Option Value} {o : Nat} {a1 a2 : Value} : mw (d + 1) 17 Q 169 [x0, x1, x2, x3, x4, x5, x6] (a2 :: a1 :: .ref o :: st) h = (mg h o 1 ∧ mca st 8 ∧ mca [.ref o, a1, a2] 5 ∧ mcall d 23 [.ref o, a1, a2] h (mK (d + 1) 17 Q 172 [x0, x1, x2, x3, x4, x5, x6] st)) := (mw_at mj_17_169).trans ((z_invv (As := [a1, a2]) (by decide) rfl rfl).trans (congrArg (And _) (congrArg (And _) (mC_nl nl_23))))
theorem mj_17_172 : mc_P 17 172 = some (.aload_n 0, 1, 0, 0, 0) := by decide +kernel
theorem s_17_172 {x1 x2 x3 x4 x5 x6 : Option Value} {w : Value} : mw d 17 Q 172 [some w, x1, x2, x3, x4, x5, x6] (st) h = mv_a w (mw d 17 Q 173 [some w, x1, x2, x3, x4, x5, x6] (w :: st) h) := (mw_at mj_17_172).trans (z_aload_n rfl)
theorem mj_17_173 : mc_P 17 173 = some (.aload_n 0, 1, 0, 0, 0) := by decide +kernel
theorem s_17_173 {x1 x2 x3 x4 x5 x6 : Option Value} {w : Value} : mw d 17 Q 173 [some w, x1, x2, x3, x4, x5, x6] (st) h = mv_a w (mw d 17 Q 174 [some w, x1, x2, x3, x4, x5, x6] (w :: st) h) := (mw_at mj_17_173).trans (z_aload_n rfl)
theorem mj_17_174 : mc_P 17 174 = some (.getfield 25, 3, 1, 3, 0) := by decide +kernel
theorem s_17_174 {x0 x1 x2 x3 x4 x5 x6 : Option Value} {o : Nat} : mw d 17 Q 174 [x0, x1, x2, x3, x4, x5, x6] (.ref o :: st) h = (mg h o 1 ∧ mw d 17 Q 177 [x0, x1, x2, x3, x4, x5, x6] (va_rf (mh_r h o 3) :: st) h) := (mw_at mj_17_174).trans (z_getr (by decide) (by decide) rfl)
theorem mj_17_177 : mc_P 17 177 = some (.iload 6, 2, 0, 0, 0) := by decide +kernel
theorem s_17_177 {x0 x1 x2 x3 x4 x5 : Option Value} {w : Value} : mw d 17 Q 177 [x0, x1, x2, x3, x4, x5, some w] (st) h = mv_i w (mw d 17 Q 179 [x0, x1, x2, x3, x4, x5, some w] (w :: st) h) := (mw_at mj_17_177).trans (z_iload rfl)
theorem mj_17_179 : mc_P 17 179 = some (.invokestatic 220, 3, 22, 0, 1) := by decide +kernel
theorem s_17_179 {x0 x1 x2 x3 x4 x5 x6 : Option Value} {a0 : Value} : mw (d + 1) 17 Q 179 [x0, x1, x2, x3, x4, x5, x6] (a0 :: st) h = (mca st 8 ∧ mca [a0] 1 ∧ mcall d 22 [a0] h (mK (d + 1) 17 Q 182 [x0, x1, x2, x3, x4, x5, x6] st)) := (mw_at mj_17_179).trans ((z_invs (As := [a0]) rfl rfl).trans (congrArg (And _) (mC_nl nl_22)))
theorem mj_17_182 : mc_P 17 182 = some (.invokevirtual 216, 3, 23, 1, 3) := by decide +kernel
theorem s_17_182 {x0 x1 x2 x3 x4 x5 x6 : Option Value} {o : Nat} {a1 a2 : Value} : mw (d + 1) 17 Q 182 [x0, x1, x2, x3, x4, x5, x6] (a2 :: a1 :: .ref o :: st) h = (mg h o 1 ∧ mca st 8 ∧ mca [.ref o, a1, a2] 5 ∧ mcall d 23 [.ref o, a1, a2] h (mK (d + 1) 17 Q 185 [x0, x1, x2, x3, x4, x5, x6] st)) := (mw_at mj_17_182).trans ((z_invv (As := [a1, a2]) (by decide) rfl rfl).trans (congrArg (And _) (congrArg (And _) (mC_nl nl_23))))
theorem mj_17_185 : mc_P 17 185 = some (.aload_n 0, 1, 0, 0, 0) := by decide +kernel
theorem s_17_185 {x1 x2 x3 x4 x5 x6 : Option Value} {w : Value} : mw d 17 Q 185 [some w, x1, x2, x3, x4, x5, x6] (st) h = mv_a w (mw d 17 Q 186 [some w, x1, x2, x3, x4, x5, x6] (w :: st) h) := (mw_at mj_17_185).trans (z_aload_n rfl)
theorem mj_17_186 : mc_P 17 186 = some (.getfield 21, 3, 1, 2, 0) := by decide +kernel
theorem s_17_186 {x0 x1 x2 x3 x4 x5 x6 : Option Value} {o : Nat} : mw d 17 Q 186 [x0, x1, x2, x3, x4, x5, x6] (.ref o :: st) h = (mg h o 1 ∧ mw d 17 Q 189 [x0, x1, x2, x3, x4, x5, x6] (va_rf (mh_r h o 2) :: st) h) := (mw_at mj_17_186).trans (z_getr (by decide) (by decide) rfl)
theorem mj_17_189 : mc_P 17 189 = some (.aload_n 0, 1, 0, 0, 0) := by decide +kernel
theorem s_17_189 {x1 x2 x3 x4 x5 x6 : Option Value} {w : Value} : mw d 17 Q 189 [some w, x1, x2, x3, x4, x5, x6] (st) h = mv_a w (mw d 17 Q 190 [some w, x1, x2, x3, x4, x5, x6] (w :: st) h) := (mw_at mj_17_189).trans (z_aload_n rfl)
theorem mj_17_190 : mc_P 17 190 = some (.getfield 35, 3, 1, 7, 0) := by decide +kernel
theorem s_17_190 {x0 x1 x2 x3 x4 x5 x6 : Option Value} {o : Nat} : mw d 17 Q 190 [x0, x1, x2, x3, x4, x5, x6] (.ref o :: st) h = (mg h o 1 ∧ mw d 17 Q 193 [x0, x1, x2, x3, x4, x5, x6] (va_rf (mh_r h o 7) :: st) h) := (mw_at mj_17_190).trans (z_getr (by decide) (by decide) rfl)
theorem mj_17_193 : mc_P 17 193 = some (.invokevirtual 105, 3, 159, 8, 2) := by decide +kernel
theorem s_17_193 {x0 x1 x2 x3 x4 x5 x6 : Option Value} {o : Nat} {a1 : Value} : mw (d + 1) 17 Q 193 [x0, x1, x2, x3, x4, x5, x6] (a1 :: .ref o :: st) h = (mg h o 8 ∧ mca st 8 ∧ mca [.ref o, a1] 3 ∧ mcall d 159 [.ref o, a1] h (mK (d + 1) 17 Q 196 [x0, x1, x2, x3, x4, x5, x6] st)) := (mw_at mj_17_193).trans ((z_invv (As := [a1]) (by decide) rfl rfl).trans (congrArg (And _) (congrArg (And _) (mC_nl nl_159))))
theorem mj_17_196 : mc_P 17 196 = some (.aload_n 0, 1, 0, 0, 0) := by decide +kernel
theorem s_17_196 {x1 x2 x3 x4 x5 x6 : Option Value} {w : Value} : mw d 17 Q 196 [some w, x1, x2, x3, x4, x5, x6] (st) h = mv_a w (mw d 17 Q 197 [some w, x1, x2, x3, x4, x5, x6] (w :: st) h) := (mw_at mj_17_196).trans (z_aload_n rfl)
theorem mj_17_197 : mc_P 17 197 = some (.getfield 25, 3, 1, 3, 0) := by decide +kernel
theorem s_17_197 {x0 x1 x2 x3 x4 x5 x6 : Option Value} {o : Nat} : mw d 17 Q 197 [x0, x1, x2, x3, x4, x5, x6] (.ref o :: st) h = (mg h o 1 ∧ mw d 17 Q 200 [x0, x1, x2, x3, x4, x5, x6] (va_rf (mh_r h o 3) :: st) h) := (mw_at mj_17_197).trans (z_getr (by decide) (by decide) rfl)
theorem mj_17_200 : mc_P 17 200 = some (.aload_n 0, 1, 0, 0, 0) := by decide +kernel
theorem s_17_200 {x1 x2 x3 x4 x5 x6 : Option Value} {w : Value} : mw d 17 Q 200 [some w, x1, x2, x3, x4, x5, x6] (st) h = mv_a w (mw d 17 Q 201 [some w, x1, x2, x3, x4, x5, x6] (w :: st) h) := (mw_at mj_17_200).trans (z_aload_n rfl)
theorem mj_17_201 : mc_P 17 201 = some (.getfield 35, 3, 1, 7, 0) := by decide +kernel
theorem s_17_201 {x0 x1 x2 x3 x4 x5 x6 : Option Value} {o : Nat} : mw d 17 Q 201 [x0, x1, x2, x3, x4, x5, x6] (.ref o :: st) h = (mg h o 1 ∧ mw d 17 Q 204 [x0, x1, x2, x3, x4, x5, x6] (va_rf (mh_r h o 7) :: st) h) := (mw_at mj_17_201).trans (z_getr (by decide) (by decide) rfl)
theorem mj_17_204 : mc_P 17 204 = some (.invokevirtual 105, 3, 159, 8, 2) := by decide +kernel
theorem s_17_204 {x0 x1 x2 x3 x4 x5 x6 : Option Value} {o : Nat} {a1 : Value} : mw (d + 1) 17 Q 204 [x0, x1, x2, x3, x4, x5, x6] (a1 :: .ref o :: st) h = (mg h o 8 ∧ mca st 8 ∧ mca [.ref o, a1] 3 ∧ mcall d 159 [.ref o, a1] h (mK (d + 1) 17 Q 207 [x0, x1, x2, x3, x4, x5, x6] st)) := (mw_at mj_17_204).trans ((z_invv (As := [a1]) (by decide) rfl rfl).trans (congrArg (And _) (congrArg (And _) (mC_nl nl_159))))
theorem mj_17_207 : mc_P 17 207 = some (.iinc 5 1, 3, 0, 0, 0) := by decide +kernel
theorem s_17_207 {x0 x1 x2 x3 x4 x6 : Option Value} {w : Int32} : mw d 17 Q 207 [x0, x1, x2, x3, x4, some (.int w), x6] (st) h = mw d 17 Q 210 [x0, x1, x2, x3, mk2 x4, some (.int (w + 1)), x6] (st) h := (mw_at mj_17_207).trans (z_iinc rfl (Nat.le_of_ble_eq_true rfl) (by decide) (me_s1_mk (j := 4) (w := x4) rfl))
theorem mj_17_210 : mc_P 17 210 = some (.goto (-156), 3, 0, 0, 0) := by decide +kernel
theorem s_17_210 {x0 x1 x2 x3 x4 x5 x6 : Option Value} : mw d 17 Q 210 [x0, x1, x2, x3, x4, x5, x6] (st) h = mw d 17 Q 54 [x0, x1, x2, x3, x4, x5, x6] (st) h := (mw_at mj_17_210).trans (z_goto (by decide))
theorem mj_17_213 : mc_P 17 213 = some (.aload_n 0, 1, 0, 0, 0) := by decide +kernel
theorem s_17_213 {x1 x2 x3 x4 x5 x6 : Option Value} {w : Value} : mw d 17 Q 213 [some w, x1, x2, x3, x4, x5, x6] (st) h = mv_a w (mw d 17 Q 214 [some w, x1, x2, x3, x4, x5, x6] (w :: st) h) := (mw_at mj_17_213).trans (z_aload_n rfl)
theorem mj_17_214 : mc_P 17 214 = some (.aload_n 0, 1, 0, 0, 0) := by decide +kernel
theorem s_17_214 {x1 x2 x3 x4 x5 x6 : Option Value} {w : Value} : mw d 17 Q 214 [some w, x1, x2, x3, x4, x5, x6] (st) h = mv_a w (mw d 17 Q 215 [some w, x1, x2, x3, x4, x5, x6] (w :: st) h) := (mw_at mj_17_214).trans (z_aload_n rfl)
theorem mj_17_215 : mc_P 17 215 = some (.getfield 12, 3, 1, 1, 0) := by decide +kernel
theorem s_17_215 {x0 x1 x2 x3 x4 x5 x6 : Option Value} {o : Nat} : mw d 17 Q 215 [x0, x1, x2, x3, x4, x5, x6] (.ref o :: st) h = (mg h o 1 ∧ mw d 17 Q 218 [x0, x1, x2, x3, x4, x5, x6] (va_rf (mh_r h o 1) :: st) h) := (mw_at mj_17_215).trans (z_getr (by decide) (by decide) rfl)
theorem mj_17_218 : mc_P 17 218 = some (.getfield 112, 3, 5, 4, 0) := by decide +kernel
theorem s_17_218 {x0 x1 x2 x3 x4 x5 x6 : Option Value} {o : Nat} : mw d 17 Q 218 [x0, x1, x2, x3, x4, x5, x6] (.ref o :: st) h = (mg h o 5 ∧ mw d 17 Q 221 [x0, x1, x2, x3, x4, x5, x6] (.int (mh_i h o 4) :: st) h) := (mw_at mj_17_218).trans (z_geti (by decide) (by decide) (Or.inl rfl))
theorem mj_17_221 : mc_P 17 221 = some (.putfield 115, 3, 1, 8, 0) := by decide +kernel
theorem s_17_221 {x0 x1 x2 x3 x4 x5 x6 : Option Value} {o : Nat} {w : Int32} : mw d 17 Q 221 [x0, x1, x2, x3, x4, x5, x6] (.int w :: .ref o :: st) h = (mg h o 1 ∧ mw d 17 Q 224 [x0, x1, x2, x3, x4, x5, x6] (st) (mh_si h o 8 w)) := (mw_at mj_17_221).trans (z_puti (by decide) (by decide) rfl)
theorem mj_17_224 : mc_P 17 224 = some (.aload_n 3, 1, 0, 0, 0) := by decide +kernel
theorem s_17_224 {x0 x1 x2 x4 x5 x6 : Option Value} {w : Value} : mw d 17 Q 224 [x0, x1, x2, some w, x4, x5, x6] (st) h = mv_a w (mw d 17 Q 225 [x0, x1, x2, some w, x4, x5, x6] (w :: st) h) := (mw_at mj_17_224).trans (z_aload_n rfl)
theorem mj_17_225 : mc_P 17 225 = some (.getfield 57, 3, 9, 0, 0) := by decide +kernel
theorem s_17_225 {x0 x1 x2 x3 x4 x5 x6 : Option Value} {o : Nat} : mw d 17 Q 225 [x0, x1, x2, x3, x4, x5, x6] (.ref o :: st) h = (mg h o 9 ∧ mw d 17 Q 228 [x0, x1, x2, x3, x4, x5, x6] (.int (mh_i h o 0) :: st) h) := (mw_at mj_17_225).trans (z_geti (by decide) (by decide) (Or.inl rfl))
theorem mj_17_228 : mc_P 17 228 = some (.bipush 7, 2, 0, 0, 0) := by decide +kernel
theorem s_17_228 {x0 x1 x2 x3 x4 x5 x6 : Option Value} : mw d 17 Q 228 [x0, x1, x2, x3, x4, x5, x6] (st) h = mw d 17 Q 230 [x0, x1, x2, x3, x4, x5, x6] (.int 7 :: st) h := (mw_at mj_17_228).trans (z_bipush (by decide))
theorem mj_17_230 : mc_P 17 230 = some (.if_icmp .ne 24, 3, 0, 0, 0) := by decide +kernel
theorem s_17_230 {x0 x1 x2 x3 x4 x5 x6 : Option Value} {x w : Int32} : mw d 17 Q 230 [x0, x1, x2, x3, x4, x5, x6] (.int w :: .int x :: st) h = mB (¬ x = w) (mw d 17 Q) 254 233 [x0, x1, x2, x3, x4, x5, x6] st h := (mw_at mj_17_230).trans (z_icmp_ne (by decide) rfl)
theorem mj_17_233 : mc_P 17 233 = some (.aload_n 0, 1, 0, 0, 0) := by decide +kernel
theorem s_17_233 {x1 x2 x3 x4 x5 x6 : Option Value} {w : Value} : mw d 17 Q 233 [some w, x1, x2, x3, x4, x5, x6] (st) h = mv_a w (mw d 17 Q 234 [some w, x1, x2, x3, x4, x5, x6] (w :: st) h) := (mw_at mj_17_233).trans (z_aload_n rfl)
theorem mj_17_234 : mc_P 17 234 = some (.getfield 25, 3, 1, 3, 0) := by decide +kernel
theorem s_17_234 {x0 x1 x2 x3 x4 x5 x6 : Option Value} {o : Nat} : mw d 17 Q 234 [x0, x1, x2, x3, x4, x5, x6] (.ref o :: st) h = (mg h o 1 ∧ mw d 17 Q 237 [x0, x1, x2, x3, x4, x5, x6] (va_rf (mh_r h o 3) :: st) h) := (mw_at mj_17_234).trans (z_getr (by decide) (by decide) rfl)
theorem mj_17_237 : mc_P 17 237 = some (.getfield 98, 3, 8, 0, 0) := by decide +kernel
theorem s_17_237 {x0 x1 x2 x3 x4 x5 x6 : Option Value} {o : Nat} : mw d 17 Q 237 [x0, x1, x2, x3, x4, x5, x6] (.ref o :: st) h = (mg h o 8 ∧ mw d 17 Q 240 [x0, x1, x2, x3, x4, x5, x6] (.int (mh_i h o 0) :: st) h) := (mw_at mj_17_237).trans (z_geti (by decide) (by decide) (Or.inr rfl))
theorem mj_17_240 : mc_P 17 240 = some (.ifCond .ne 14, 3, 0, 0, 0) := by decide +kernel
theorem s_17_240 {x0 x1 x2 x3 x4 x5 x6 : Option Value} {x : Int32} : mw d 17 Q 240 [x0, x1, x2, x3, x4, x5, x6] (.int x :: st) h = mB (¬ x = 0) (mw d 17 Q) 254 243 [x0, x1, x2, x3, x4, x5, x6] st h := (mw_at mj_17_240).trans (z_if_ne (by decide) rfl)
theorem mj_17_243 : mc_P 17 243 = some (.aload_n 0, 1, 0, 0, 0) := by decide +kernel
theorem s_17_243 {x1 x2 x3 x4 x5 x6 : Option Value} {w : Value} : mw d 17 Q 243 [some w, x1, x2, x3, x4, x5, x6] (st) h = mv_a w (mw d 17 Q 244 [some w, x1, x2, x3, x4, x5, x6] (w :: st) h) := (mw_at mj_17_243).trans (z_aload_n rfl)
theorem mj_17_244 : mc_P 17 244 = some (.dup, 1, 0, 0, 0) := by decide +kernel
theorem s_17_244 {x0 x1 x2 x3 x4 x5 x6 : Option Value} {w : Value} : mw d 17 Q 244 [x0, x1, x2, x3, x4, x5, x6] (w :: st) h = (w.category = 1 ∧ mw d 17 Q 245 [x0, x1, x2, x3, x4, x5, x6] (w :: w :: st) h) := (mw_at mj_17_244).trans (z_dup)
theorem mj_17_245 : mc_P 17 245 = some (.getfield 115, 3, 1, 8, 0) := by decide +kernel
theorem s_17_245 {x0 x1 x2 x3 x4 x5 x6 : Option Value} {o : Nat} : mw d 17 Q 245 [x0, x1, x2, x3, x4, x5, x6] (.ref o :: st) h = (mg h o 1 ∧ mw d 17 Q 248 [x0, x1, x2, x3, x4, x5, x6] (.int (mh_i h o 8) :: st) h) := (mw_at mj_17_245).trans (z_geti (by decide) (by decide) (Or.inl rfl))
theorem mj_17_248 : mc_P 17 248 = some (.bipush 8, 2, 0, 0, 0) := by decide +kernel
theorem s_17_248 {x0 x1 x2 x3 x4 x5 x6 : Option Value} : mw d 17 Q 248 [x0, x1, x2, x3, x4, x5, x6] (st) h = mw d 17 Q 250 [x0, x1, x2, x3, x4, x5, x6] (.int 8 :: st) h := (mw_at mj_17_248).trans (z_bipush (by decide))
theorem mj_17_250 : mc_P 17 250 = some (.ior, 1, 0, 0, 0) := by decide +kernel
theorem s_17_250 {x0 x1 x2 x3 x4 x5 x6 : Option Value} {x w : Int32} : mw d 17 Q 250 [x0, x1, x2, x3, x4, x5, x6] (.int w :: .int x :: st) h = mw d 17 Q 251 [x0, x1, x2, x3, x4, x5, x6] (.int (x ||| w) :: st) h := (mw_at mj_17_250).trans (z_ior)
theorem mj_17_251 : mc_P 17 251 = some (.putfield 115, 3, 1, 8, 0) := by decide +kernel
theorem s_17_251 {x0 x1 x2 x3 x4 x5 x6 : Option Value} {o : Nat} {w : Int32} : mw d 17 Q 251 [x0, x1, x2, x3, x4, x5, x6] (.int w :: .ref o :: st) h = (mg h o 1 ∧ mw d 17 Q 254 [x0, x1, x2, x3, x4, x5, x6] (st) (mh_si h o 8 w)) := (mw_at mj_17_251).trans (z_puti (by decide) (by decide) rfl)
theorem mj_17_254 : mc_P 17 254 = some (.return_, 1, 0, 0, 0) := by decide +kernel
theorem s_17_254 {x0 x1 x2 x3 x4 x5 x6 : Option Value} : mw d 17 Q 254 [x0, x1, x2, x3, x4, x5, x6] ([]) h = Q none h := (mw_at mj_17_254).trans (z_vret)
theorem e_17 {a0 : Nat} {a1 : Int32} {a2 : Nat} : mcall d 17 [.ref a0, .int a1, .ref a2] h Q = mw d 17 Q 0 [some (.ref a0), some (.int a1), some (.ref a2), none, none, none, none] [] h := by
  show mw d 17 Q 0 (me_en (mc_nl 17) _) [] h = _
  rw [nl_17]; rfl

/-! InvariantDesk$Effect.swapSides()V -/
theorem mj_18_0 : mc_P 18 0 = some (.aload_n 0, 1, 0, 0, 0) := by decide +kernel
theorem s_18_0 {x1 : Option Value} {w : Value} : mw d 18 Q 0 [some w, x1] (st) h = mv_a w (mw d 18 Q 1 [some w, x1] (w :: st) h) := (mw_at mj_18_0).trans (z_aload_n rfl)
theorem mj_18_1 : mc_P 18 1 = some (.getfield 21, 3, 1, 2, 0) := by decide +kernel
theorem s_18_1 {x0 x1 : Option Value} {o : Nat} : mw d 18 Q 1 [x0, x1] (.ref o :: st) h = (mg h o 1 ∧ mw d 18 Q 4 [x0, x1] (va_rf (mh_r h o 2) :: st) h) := (mw_at mj_18_1).trans (z_getr (by decide) (by decide) rfl)
theorem mj_18_4 : mc_P 18 4 = some (.astore_n 1, 1, 0, 0, 0) := by decide +kernel
theorem s_18_4 {x0 x1 : Option Value} {w : Nat} : mw d 18 Q 4 [x0, x1] (.ref w :: st) h = mw d 18 Q 5 [mk2 x0, some (.ref w)] (st) h := (mw_at mj_18_4).trans (z_astore_n (Nat.le_of_ble_eq_true rfl) (me_s1_mk (j := 0) (w := x0) rfl))
theorem s_18_4n {x0 x1 : Option Value} : mw d 18 Q 4 [x0, x1] (.null :: st) h = mw d 18 Q 5 [mk2 x0, some (.null)] (st) h := (mw_at mj_18_4).trans (z_astoreN_n (Nat.le_of_ble_eq_true rfl) (me_s1_mk (j := 0) (w := x0) rfl))
theorem mj_18_5 : mc_P 18 5 = some (.aload_n 0, 1, 0, 0, 0) := by decide +kernel
theorem s_18_5 {x1 : Option Value} {w : Value} : mw d 18 Q 5 [some w, x1] (st) h = mv_a w (mw d 18 Q 6 [some w, x1] (w :: st) h) := (mw_at mj_18_5).trans (z_aload_n rfl)
theorem mj_18_6 : mc_P 18 6 = some (.aload_n 0, 1, 0, 0, 0) := by decide +kernel
theorem s_18_6 {x1 : Option Value} {w : Value} : mw d 18 Q 6 [some w, x1] (st) h = mv_a w (mw d 18 Q 7 [some w, x1] (w :: st) h) := (mw_at mj_18_6).trans (z_aload_n rfl)
theorem mj_18_7 : mc_P 18 7 = some (.getfield 25, 3, 1, 3, 0) := by decide +kernel
theorem s_18_7 {x0 x1 : Option Value} {o : Nat} : mw d 18 Q 7 [x0, x1] (.ref o :: st) h = (mg h o 1 ∧ mw d 18 Q 10 [x0, x1] (va_rf (mh_r h o 3) :: st) h) := (mw_at mj_18_7).trans (z_getr (by decide) (by decide) rfl)
theorem mj_18_10 : mc_P 18 10 = some (.putfield 21, 3, 1, 2, 0) := by decide +kernel
theorem s_18_10 {x0 x1 : Option Value} {o w : Nat} : mw d 18 Q 10 [x0, x1] (.ref w :: .ref o :: st) h = (mg h o 1 ∧ mw d 18 Q 13 [x0, x1] (st) (mh_sr h o 2 (some w))) := (mw_at mj_18_10).trans (z_putr (by decide) (by decide) rfl)
theorem s_18_10n {x0 x1 : Option Value} {o : Nat} : mw d 18 Q 10 [x0, x1] (.null :: .ref o :: st) h = (mg h o 1 ∧ mw d 18 Q 13 [x0, x1] (st) (mh_sr h o 2 none)) := (mw_at mj_18_10).trans (z_putn (by decide) (by decide) rfl)
theorem mj_18_13 : mc_P 18 13 = some (.aload_n 0, 1, 0, 0, 0) := by decide +kernel
theorem s_18_13 {x1 : Option Value} {w : Value} : mw d 18 Q 13 [some w, x1] (st) h = mv_a w (mw d 18 Q 14 [some w, x1] (w :: st) h) := (mw_at mj_18_13).trans (z_aload_n rfl)
theorem mj_18_14 : mc_P 18 14 = some (.aload_n 1, 1, 0, 0, 0) := by decide +kernel
theorem s_18_14 {x0 : Option Value} {w : Value} : mw d 18 Q 14 [x0, some w] (st) h = mv_a w (mw d 18 Q 15 [x0, some w] (w :: st) h) := (mw_at mj_18_14).trans (z_aload_n rfl)
theorem mj_18_15 : mc_P 18 15 = some (.putfield 25, 3, 1, 3, 0) := by decide +kernel
theorem s_18_15 {x0 x1 : Option Value} {o w : Nat} : mw d 18 Q 15 [x0, x1] (.ref w :: .ref o :: st) h = (mg h o 1 ∧ mw d 18 Q 18 [x0, x1] (st) (mh_sr h o 3 (some w))) := (mw_at mj_18_15).trans (z_putr (by decide) (by decide) rfl)
theorem s_18_15n {x0 x1 : Option Value} {o : Nat} : mw d 18 Q 15 [x0, x1] (.null :: .ref o :: st) h = (mg h o 1 ∧ mw d 18 Q 18 [x0, x1] (st) (mh_sr h o 3 none)) := (mw_at mj_18_15).trans (z_putn (by decide) (by decide) rfl)
theorem mj_18_18 : mc_P 18 18 = some (.return_, 1, 0, 0, 0) := by decide +kernel
theorem s_18_18 {x0 x1 : Option Value} : mw d 18 Q 18 [x0, x1] ([]) h = Q none h := (mw_at mj_18_18).trans (z_vret)
theorem e_18 {a0 : Nat} : mcall d 18 [.ref a0] h Q = mw d 18 Q 0 [some (.ref a0), none] [] h := by
  show mw d 18 Q 0 (me_en (mc_nl 18) _) [] h = _
  rw [nl_18]; rfl

/-! InvariantDesk$Effect.putAside()V -/
theorem mj_19_0 : mc_P 19 0 = some (.aload_n 0, 1, 0, 0, 0) := by decide +kernel
theorem s_19_0 {x1 x2 : Option Value} {w : Value} : mw d 19 Q 0 [some w, x1, x2] (st) h = mv_a w (mw d 19 Q 1 [some w, x1, x2] (w :: st) h) := (mw_at mj_19_0).trans (z_aload_n rfl)
theorem mj_19_1 : mc_P 19 1 = some (.getfield 31, 3, 1, 5, 0) := by decide +kernel
theorem s_19_1 {x0 x1 x2 : Option Value} {o : Nat} : mw d 19 Q 1 [x0, x1, x2] (.ref o :: st) h = (mg h o 1 ∧ mw d 19 Q 4 [x0, x1, x2] (va_rf (mh_r h o 5) :: st) h) := (mw_at mj_19_1).trans (z_getr (by decide) (by decide) rfl)
theorem mj_19_4 : mc_P 19 4 = some (.aload_n 0, 1, 0, 0, 0) := by decide +kernel
theorem s_19_4 {x1 x2 : Option Value} {w : Value} : mw d 19 Q 4 [some w, x1, x2] (st) h = mv_a w (mw d 19 Q 5 [some w, x1, x2] (w :: st) h) := (mw_at mj_19_4).trans (z_aload_n rfl)
theorem mj_19_5 : mc_P 19 5 = some (.getfield 185, 3, 1, 6, 0) := by decide +kernel
theorem s_19_5 {x0 x1 x2 : Option Value} {o : Nat} : mw d 19 Q 5 [x0, x1, x2] (.ref o :: st) h = (mg h o 1 ∧ mw d 19 Q 8 [x0, x1, x2] (.int (mh_i h o 6) :: st) h) := (mw_at mj_19_5).trans (z_geti (by decide) (by decide) (Or.inl rfl))
theorem mj_19_8 : mc_P 19 8 = some (.aaload, 1, 0, 0, 0) := by decide +kernel
theorem s_19_8 {x0 x1 x2 : Option Value} {o : Nat} {i : Int32} : mw d 19 Q 8 [x0, x1, x2] (.int i :: .ref o :: st) h = (mgr h o ∧ mx i (mh_l h o) ∧ mw d 19 Q 9 [x0, x1, x2] (mrd (mh_k h o) h o i.toNatClampNeg :: st) h) := (mw_at mj_19_8).trans (z_aald)
theorem mj_19_9 : mc_P 19 9 = some (.ifnonnull 13, 3, 0, 0, 0) := by decide +kernel
theorem s_19_9n {x0 x1 x2 : Option Value} : mw d 19 Q 9 [x0, x1, x2] (.null :: st) h = mw d 19 Q 12 [x0, x1, x2] (st) h := (mw_at mj_19_9).trans (z_nnullF)
theorem s_19_9 {x0 x1 x2 : Option Value} {w : Nat} : mw d 19 Q 9 [x0, x1, x2] (.ref w :: st) h = mw d 19 Q 22 [x0, x1, x2] (st) h := (mw_at mj_19_9).trans (z_nnullT (by decide))
theorem mj_19_12 : mc_P 19 12 = some (.new 18, 3, 8, 0, 0) := by decide +kernel
theorem s_19_12 {x0 x1 x2 : Option Value} : mw d 19 Q 12 [x0, x1, x2] (st) h = mw d 19 Q 15 [x0, x1, x2] (.ref (mh_n h) :: st) (mh_new h 8 6) := (mw_at mj_19_12).trans (z_new (by decide) rfl)
theorem mj_19_15 : mc_P 19 15 = some (.dup, 1, 0, 0, 0) := by decide +kernel
theorem s_19_15 {x0 x1 x2 : Option Value} {w : Value} : mw d 19 Q 15 [x0, x1, x2] (w :: st) h = (w.category = 1 ∧ mw d 19 Q 16 [x0, x1, x2] (w :: w :: st) h) := (mw_at mj_19_15).trans (z_dup)
theorem mj_19_16 : mc_P 19 16 = some (.invokespecial 20, 3, 139, 2, 1) := by decide +kernel
theorem s_19_16 {x0 x1 x2 : Option Value} {o : Nat} : mw (d + 1) 19 Q 16 [x0, x1, x2] (.ref o :: st) h = (mca st 8 ∧ mca [.ref o] 1 ∧ mcall d 139 [.ref o] h (mK (d + 1) 19 Q 19 [x0, x1, x2] st)) := (mw_at mj_19_16).trans ((z_invsp (As := []) (by decide) rfl rfl).trans (congrArg (And _) (mC_nl nl_139)))
theorem mj_19_19 : mc_P 19 19 = some (.goto 12, 3, 0, 0, 0) := by decide +kernel
theorem s_19_19 {x0 x1 x2 : Option Value} : mw d 19 Q 19 [x0, x1, x2] (st) h = mw d 19 Q 31 [x0, x1, x2] (st) h := (mw_at mj_19_19).trans (z_goto (by decide))
theorem mj_19_22 : mc_P 19 22 = some (.aload_n 0, 1, 0, 0, 0) := by decide +kernel
theorem s_19_22 {x1 x2 : Option Value} {w : Value} : mw d 19 Q 22 [some w, x1, x2] (st) h = mv_a w (mw d 19 Q 23 [some w, x1, x2] (w :: st) h) := (mw_at mj_19_22).trans (z_aload_n rfl)
theorem mj_19_23 : mc_P 19 23 = some (.getfield 31, 3, 1, 5, 0) := by decide +kernel
theorem s_19_23 {x0 x1 x2 : Option Value} {o : Nat} : mw d 19 Q 23 [x0, x1, x2] (.ref o :: st) h = (mg h o 1 ∧ mw d 19 Q 26 [x0, x1, x2] (va_rf (mh_r h o 5) :: st) h) := (mw_at mj_19_23).trans (z_getr (by decide) (by decide) rfl)
theorem mj_19_26 : mc_P 19 26 = some (.aload_n 0, 1, 0, 0, 0) := by decide +kernel
theorem s_19_26 {x1 x2 : Option Value} {w : Value} : mw d 19 Q 26 [some w, x1, x2] (st) h = mv_a w (mw d 19 Q 27 [some w, x1, x2] (w :: st) h) := (mw_at mj_19_26).trans (z_aload_n rfl)
theorem mj_19_27 : mc_P 19 27 = some (.getfield 185, 3, 1, 6, 0) := by decide +kernel
theorem s_19_27 {x0 x1 x2 : Option Value} {o : Nat} : mw d 19 Q 27 [x0, x1, x2] (.ref o :: st) h = (mg h o 1 ∧ mw d 19 Q 30 [x0, x1, x2] (.int (mh_i h o 6) :: st) h) := (mw_at mj_19_27).trans (z_geti (by decide) (by decide) (Or.inl rfl))
theorem mj_19_30 : mc_P 19 30 = some (.aaload, 1, 0, 0, 0) := by decide +kernel
theorem s_19_30 {x0 x1 x2 : Option Value} {o : Nat} {i : Int32} : mw d 19 Q 30 [x0, x1, x2] (.int i :: .ref o :: st) h = (mgr h o ∧ mx i (mh_l h o) ∧ mw d 19 Q 31 [x0, x1, x2] (mrd (mh_k h o) h o i.toNatClampNeg :: st) h) := (mw_at mj_19_30).trans (z_aald)
theorem mj_19_31 : mc_P 19 31 = some (.astore_n 1, 1, 0, 0, 0) := by decide +kernel
theorem s_19_31 {x0 x1 x2 : Option Value} {w : Nat} : mw d 19 Q 31 [x0, x1, x2] (.ref w :: st) h = mw d 19 Q 32 [mk2 x0, some (.ref w), x2] (st) h := (mw_at mj_19_31).trans (z_astore_n (Nat.le_of_ble_eq_true rfl) (me_s1_mk (j := 0) (w := x0) rfl))
theorem s_19_31n {x0 x1 x2 : Option Value} : mw d 19 Q 31 [x0, x1, x2] (.null :: st) h = mw d 19 Q 32 [mk2 x0, some (.null), x2] (st) h := (mw_at mj_19_31).trans (z_astoreN_n (Nat.le_of_ble_eq_true rfl) (me_s1_mk (j := 0) (w := x0) rfl))
theorem s_19_31x {x0 x1 x2 : Option Value} {w : Nat} : mw d 19 Q 31 [x0, x1, x2] (.retAddr w :: st) h = mw d 19 Q 32 [mk2 x0, some (.retAddr w), x2] (st) h := (mw_at mj_19_31).trans (z_astoreX_n (Nat.le_of_ble_eq_true rfl) (me_s1_mk (j := 0) (w := x0) rfl))
theorem mj_19_32 : mc_P 19 32 = some (.aload_n 0, 1, 0, 0, 0) := by decide +kernel
theorem s_19_32 {x1 x2 : Option Value} {w : Value} : mw d 19 Q 32 [some w, x1, x2] (st) h = mv_a w (mw d 19 Q 33 [some w, x1, x2] (w :: st) h) := (mw_at mj_19_32).trans (z_aload_n rfl)
theorem mj_19_33 : mc_P 19 33 = some (.getfield 31, 3, 1, 5, 0) := by decide +kernel
theorem s_19_33 {x0 x1 x2 : Option Value} {o : Nat} : mw d 19 Q 33 [x0, x1, x2] (.ref o :: st) h = (mg h o 1 ∧ mw d 19 Q 36 [x0, x1, x2] (va_rf (mh_r h o 5) :: st) h) := (mw_at mj_19_33).trans (z_getr (by decide) (by decide) rfl)
theorem mj_19_36 : mc_P 19 36 = some (.aload_n 0, 1, 0, 0, 0) := by decide +kernel
theorem s_19_36 {x1 x2 : Option Value} {w : Value} : mw d 19 Q 36 [some w, x1, x2] (st) h = mv_a w (mw d 19 Q 37 [some w, x1, x2] (w :: st) h) := (mw_at mj_19_36).trans (z_aload_n rfl)
theorem mj_19_37 : mc_P 19 37 = some (.getfield 185, 3, 1, 6, 0) := by decide +kernel
theorem s_19_37 {x0 x1 x2 : Option Value} {o : Nat} : mw d 19 Q 37 [x0, x1, x2] (.ref o :: st) h = (mg h o 1 ∧ mw d 19 Q 40 [x0, x1, x2] (.int (mh_i h o 6) :: st) h) := (mw_at mj_19_37).trans (z_geti (by decide) (by decide) (Or.inl rfl))
theorem mj_19_40 : mc_P 19 40 = some (.aload_n 0, 1, 0, 0, 0) := by decide +kernel
theorem s_19_40 {x1 x2 : Option Value} {w : Value} : mw d 19 Q 40 [some w, x1, x2] (st) h = mv_a w (mw d 19 Q 41 [some w, x1, x2] (w :: st) h) := (mw_at mj_19_40).trans (z_aload_n rfl)
theorem mj_19_41 : mc_P 19 41 = some (.getfield 21, 3, 1, 2, 0) := by decide +kernel
theorem s_19_41 {x0 x1 x2 : Option Value} {o : Nat} : mw d 19 Q 41 [x0, x1, x2] (.ref o :: st) h = (mg h o 1 ∧ mw d 19 Q 44 [x0, x1, x2] (va_rf (mh_r h o 2) :: st) h) := (mw_at mj_19_41).trans (z_getr (by decide) (by decide) rfl)
theorem mj_19_44 : mc_P 19 44 = some (.aastore, 1, 0, 0, 0) := by decide +kernel
theorem s_19_44 {x0 x1 x2 : Option Value} {o w : Nat} {i : Int32} : mw d 19 Q 44 [x0, x1, x2] (.ref w :: .int i :: .ref o :: st) h = (mgr h o ∧ mx i (mh_l h o) ∧ mh_k h o < 107 ∧ mg h w (me_ac (mh_k h o)) ∧ mw d 19 Q 45 [x0, x1, x2] (st) (mh_sr h o i.toNatClampNeg (some w))) := (mw_at mj_19_44).trans (z_aast)
theorem s_19_44n {x0 x1 x2 : Option Value} {o : Nat} {i : Int32} : mw d 19 Q 44 [x0, x1, x2] (.null :: .int i :: .ref o :: st) h = (mgr h o ∧ mx i (mh_l h o) ∧ mh_k h o < 107 ∧ mw d 19 Q 45 [x0, x1, x2] (st) (mh_sr h o i.toNatClampNeg none)) := (mw_at mj_19_44).trans (z_aastN)
theorem s_19_44x {x0 x1 x2 : Option Value} {o x : Nat} {i : Int32} : mw d 19 Q 44 [x0, x1, x2] (.retAddr x :: .int i :: .ref o :: st) h = (mg h o 107 ∧ mx i (mh_l h o) ∧ me_xs x = true ∧ mw d 19 Q 45 [x0, x1, x2] (st) (mh_si h o i.toNatClampNeg (Int32.ofNat x))) := (mw_at mj_19_44).trans (z_aastS)
theorem mj_19_45 : mc_P 19 45 = some (.aload_n 0, 1, 0, 0, 0) := by decide +kernel
theorem s_19_45 {x1 x2 : Option Value} {w : Value} : mw d 19 Q 45 [some w, x1, x2] (st) h = mv_a w (mw d 19 Q 46 [some w, x1, x2] (w :: st) h) := (mw_at mj_19_45).trans (z_aload_n rfl)
theorem mj_19_46 : mc_P 19 46 = some (.dup, 1, 0, 0, 0) := by decide +kernel
theorem s_19_46 {x0 x1 x2 : Option Value} {w : Value} : mw d 19 Q 46 [x0, x1, x2] (w :: st) h = (w.category = 1 ∧ mw d 19 Q 47 [x0, x1, x2] (w :: w :: st) h) := (mw_at mj_19_46).trans (z_dup)
theorem mj_19_47 : mc_P 19 47 = some (.getfield 185, 3, 1, 6, 0) := by decide +kernel
theorem s_19_47 {x0 x1 x2 : Option Value} {o : Nat} : mw d 19 Q 47 [x0, x1, x2] (.ref o :: st) h = (mg h o 1 ∧ mw d 19 Q 50 [x0, x1, x2] (.int (mh_i h o 6) :: st) h) := (mw_at mj_19_47).trans (z_geti (by decide) (by decide) (Or.inl rfl))
theorem mj_19_50 : mc_P 19 50 = some (.iconst 1, 1, 0, 0, 0) := by decide +kernel
theorem s_19_50 {x0 x1 x2 : Option Value} : mw d 19 Q 50 [x0, x1, x2] (st) h = mw d 19 Q 51 [x0, x1, x2] (.int 1 :: st) h := (mw_at mj_19_50).trans (z_iconst (by decide))
theorem mj_19_51 : mc_P 19 51 = some (.iadd, 1, 0, 0, 0) := by decide +kernel
theorem s_19_51 {x0 x1 x2 : Option Value} {x w : Int32} : mw d 19 Q 51 [x0, x1, x2] (.int w :: .int x :: st) h = mw d 19 Q 52 [x0, x1, x2] (.int (x + w) :: st) h := (mw_at mj_19_51).trans (z_iadd)
theorem mj_19_52 : mc_P 19 52 = some (.putfield 185, 3, 1, 6, 0) := by decide +kernel
theorem s_19_52 {x0 x1 x2 : Option Value} {o : Nat} {w : Int32} : mw d 19 Q 52 [x0, x1, x2] (.int w :: .ref o :: st) h = (mg h o 1 ∧ mw d 19 Q 55 [x0, x1, x2] (st) (mh_si h o 6 w)) := (mw_at mj_19_52).trans (z_puti (by decide) (by decide) rfl)
theorem mj_19_55 : mc_P 19 55 = some (.aload_n 0, 1, 0, 0, 0) := by decide +kernel
theorem s_19_55 {x1 x2 : Option Value} {w : Value} : mw d 19 Q 55 [some w, x1, x2] (st) h = mv_a w (mw d 19 Q 56 [some w, x1, x2] (w :: st) h) := (mw_at mj_19_55).trans (z_aload_n rfl)
theorem mj_19_56 : mc_P 19 56 = some (.getfield 25, 3, 1, 3, 0) := by decide +kernel
theorem s_19_56 {x0 x1 x2 : Option Value} {o : Nat} : mw d 19 Q 56 [x0, x1, x2] (.ref o :: st) h = (mg h o 1 ∧ mw d 19 Q 59 [x0, x1, x2] (va_rf (mh_r h o 3) :: st) h) := (mw_at mj_19_56).trans (z_getr (by decide) (by decide) rfl)
theorem mj_19_59 : mc_P 19 59 = some (.astore_n 2, 1, 0, 0, 0) := by decide +kernel
theorem s_19_59 {x0 x1 x2 : Option Value} {w : Nat} : mw d 19 Q 59 [x0, x1, x2] (.ref w :: st) h = mw d 19 Q 60 [x0, mk2 x1, some (.ref w)] (st) h := (mw_at mj_19_59).trans (z_astore_n (Nat.le_of_ble_eq_true rfl) (me_s1_mk (j := 1) (w := x1) rfl))
theorem s_19_59n {x0 x1 x2 : Option Value} : mw d 19 Q 59 [x0, x1, x2] (.null :: st) h = mw d 19 Q 60 [x0, mk2 x1, some (.null)] (st) h := (mw_at mj_19_59).trans (z_astoreN_n (Nat.le_of_ble_eq_true rfl) (me_s1_mk (j := 1) (w := x1) rfl))
theorem s_19_59x {x0 x1 x2 : Option Value} {w : Nat} : mw d 19 Q 59 [x0, x1, x2] (.retAddr w :: st) h = mw d 19 Q 60 [x0, mk2 x1, some (.retAddr w)] (st) h := (mw_at mj_19_59).trans (z_astoreX_n (Nat.le_of_ble_eq_true rfl) (me_s1_mk (j := 1) (w := x1) rfl))
theorem mj_19_60 : mc_P 19 60 = some (.aload_n 0, 1, 0, 0, 0) := by decide +kernel
theorem s_19_60 {x1 x2 : Option Value} {w : Value} : mw d 19 Q 60 [some w, x1, x2] (st) h = mv_a w (mw d 19 Q 61 [some w, x1, x2] (w :: st) h) := (mw_at mj_19_60).trans (z_aload_n rfl)
theorem mj_19_61 : mc_P 19 61 = some (.aload_n 0, 1, 0, 0, 0) := by decide +kernel
theorem s_19_61 {x1 x2 : Option Value} {w : Value} : mw d 19 Q 61 [some w, x1, x2] (st) h = mv_a w (mw d 19 Q 62 [some w, x1, x2] (w :: st) h) := (mw_at mj_19_61).trans (z_aload_n rfl)
theorem mj_19_62 : mc_P 19 62 = some (.getfield 28, 3, 1, 4, 0) := by decide +kernel
theorem s_19_62 {x0 x1 x2 : Option Value} {o : Nat} : mw d 19 Q 62 [x0, x1, x2] (.ref o :: st) h = (mg h o 1 ∧ mw d 19 Q 65 [x0, x1, x2] (va_rf (mh_r h o 4) :: st) h) := (mw_at mj_19_62).trans (z_getr (by decide) (by decide) rfl)
theorem mj_19_65 : mc_P 19 65 = some (.putfield 25, 3, 1, 3, 0) := by decide +kernel
theorem s_19_65 {x0 x1 x2 : Option Value} {o w : Nat} : mw d 19 Q 65 [x0, x1, x2] (.ref w :: .ref o :: st) h = (mg h o 1 ∧ mw d 19 Q 68 [x0, x1, x2] (st) (mh_sr h o 3 (some w))) := (mw_at mj_19_65).trans (z_putr (by decide) (by decide) rfl)
theorem s_19_65n {x0 x1 x2 : Option Value} {o : Nat} : mw d 19 Q 65 [x0, x1, x2] (.null :: .ref o :: st) h = (mg h o 1 ∧ mw d 19 Q 68 [x0, x1, x2] (st) (mh_sr h o 3 none)) := (mw_at mj_19_65).trans (z_putn (by decide) (by decide) rfl)
theorem mj_19_68 : mc_P 19 68 = some (.aload_n 0, 1, 0, 0, 0) := by decide +kernel
theorem s_19_68 {x1 x2 : Option Value} {w : Value} : mw d 19 Q 68 [some w, x1, x2] (st) h = mv_a w (mw d 19 Q 69 [some w, x1, x2] (w :: st) h) := (mw_at mj_19_68).trans (z_aload_n rfl)
theorem mj_19_69 : mc_P 19 69 = some (.aload_n 1, 1, 0, 0, 0) := by decide +kernel
theorem s_19_69 {x0 x2 : Option Value} {w : Value} : mw d 19 Q 69 [x0, some w, x2] (st) h = mv_a w (mw d 19 Q 70 [x0, some w, x2] (w :: st) h) := (mw_at mj_19_69).trans (z_aload_n rfl)
theorem mj_19_70 : mc_P 19 70 = some (.putfield 21, 3, 1, 2, 0) := by decide +kernel
theorem s_19_70 {x0 x1 x2 : Option Value} {o w : Nat} : mw d 19 Q 70 [x0, x1, x2] (.ref w :: .ref o :: st) h = (mg h o 1 ∧ mw d 19 Q 73 [x0, x1, x2] (st) (mh_sr h o 2 (some w))) := (mw_at mj_19_70).trans (z_putr (by decide) (by decide) rfl)
theorem s_19_70n {x0 x1 x2 : Option Value} {o : Nat} : mw d 19 Q 70 [x0, x1, x2] (.null :: .ref o :: st) h = (mg h o 1 ∧ mw d 19 Q 73 [x0, x1, x2] (st) (mh_sr h o 2 none)) := (mw_at mj_19_70).trans (z_putn (by decide) (by decide) rfl)
theorem mj_19_73 : mc_P 19 73 = some (.aload_n 0, 1, 0, 0, 0) := by decide +kernel
theorem s_19_73 {x1 x2 : Option Value} {w : Value} : mw d 19 Q 73 [some w, x1, x2] (st) h = mv_a w (mw d 19 Q 74 [some w, x1, x2] (w :: st) h) := (mw_at mj_19_73).trans (z_aload_n rfl)
theorem mj_19_74 : mc_P 19 74 = some (.aload_n 2, 1, 0, 0, 0) := by decide +kernel
theorem s_19_74 {x0 x1 : Option Value} {w : Value} : mw d 19 Q 74 [x0, x1, some w] (st) h = mv_a w (mw d 19 Q 75 [x0, x1, some w] (w :: st) h) := (mw_at mj_19_74).trans (z_aload_n rfl)
theorem mj_19_75 : mc_P 19 75 = some (.putfield 28, 3, 1, 4, 0) := by decide +kernel
theorem s_19_75 {x0 x1 x2 : Option Value} {o w : Nat} : mw d 19 Q 75 [x0, x1, x2] (.ref w :: .ref o :: st) h = (mg h o 1 ∧ mw d 19 Q 78 [x0, x1, x2] (st) (mh_sr h o 4 (some w))) := (mw_at mj_19_75).trans (z_putr (by decide) (by decide) rfl)
theorem s_19_75n {x0 x1 x2 : Option Value} {o : Nat} : mw d 19 Q 75 [x0, x1, x2] (.null :: .ref o :: st) h = (mg h o 1 ∧ mw d 19 Q 78 [x0, x1, x2] (st) (mh_sr h o 4 none)) := (mw_at mj_19_75).trans (z_putn (by decide) (by decide) rfl)
theorem mj_19_78 : mc_P 19 78 = some (.aload_n 0, 1, 0, 0, 0) := by decide +kernel
theorem s_19_78 {x1 x2 : Option Value} {w : Value} : mw d 19 Q 78 [some w, x1, x2] (st) h = mv_a w (mw d 19 Q 79 [some w, x1, x2] (w :: st) h) := (mw_at mj_19_78).trans (z_aload_n rfl)
theorem mj_19_79 : mc_P 19 79 = some (.getfield 12, 3, 1, 1, 0) := by decide +kernel
theorem s_19_79 {x0 x1 x2 : Option Value} {o : Nat} : mw d 19 Q 79 [x0, x1, x2] (.ref o :: st) h = (mg h o 1 ∧ mw d 19 Q 82 [x0, x1, x2] (va_rf (mh_r h o 1) :: st) h) := (mw_at mj_19_79).trans (z_getr (by decide) (by decide) rfl)
theorem mj_19_82 : mc_P 19 82 = some (.aload_n 0, 1, 0, 0, 0) := by decide +kernel
theorem s_19_82 {x1 x2 : Option Value} {w : Value} : mw d 19 Q 82 [some w, x1, x2] (st) h = mv_a w (mw d 19 Q 83 [some w, x1, x2] (w :: st) h) := (mw_at mj_19_82).trans (z_aload_n rfl)
theorem mj_19_83 : mc_P 19 83 = some (.getfield 28, 3, 1, 4, 0) := by decide +kernel
theorem s_19_83 {x0 x1 x2 : Option Value} {o : Nat} : mw d 19 Q 83 [x0, x1, x2] (.ref o :: st) h = (mg h o 1 ∧ mw d 19 Q 86 [x0, x1, x2] (va_rf (mh_r h o 4) :: st) h) := (mw_at mj_19_83).trans (z_getr (by decide) (by decide) rfl)
theorem mj_19_86 : mc_P 19 86 = some (.invokevirtual 223, 3, 98, 5, 2) := by decide +kernel
theorem s_19_86 {x0 x1 x2 : Option Value} {o : Nat} {a1 : Value} : mw (d + 1) 19 Q 86 [x0, x1, x2] (a1 :: .ref o :: st) h = (mg h o 5 ∧ mca st 8 ∧ mca [.ref o, a1] 2 ∧ mcall d 98 [.ref o, a1] h (mK (d + 1) 19 Q 89 [x0, x1, x2] st)) := (mw_at mj_19_86).trans ((z_invv (As := [a1]) (by decide) rfl rfl).trans (congrArg (And _) (congrArg (And _) (mC_nl nl_98))))
theorem mj_19_89 : mc_P 19 89 = some (.return_, 1, 0, 0, 0) := by decide +kernel
theorem s_19_89 {x0 x1 x2 : Option Value} : mw d 19 Q 89 [x0, x1, x2] ([]) h = Q none h := (mw_at mj_19_89).trans (z_vret)
theorem e_19 {a0 : Nat} : mcall d 19 [.ref a0] h Q = mw d 19 Q 0 [some (.ref a0), none, none] [] h := by
  show mw d 19 Q 0 (me_en (mc_nl 19) _) [] h = _
  rw [nl_19]; rfl

/-! InvariantDesk$Effect.joinAside(I)V -/
theorem mj_20_0 : mc_P 20 0 = some (.aload_n 0, 1, 0, 0, 0) := by decide +kernel
theorem s_20_0 {x1 : Option Value} {w : Value} : mw d 20 Q 0 [some w, x1] (st) h = mv_a w (mw d 20 Q 1 [some w, x1] (w :: st) h) := (mw_at mj_20_0).trans (z_aload_n rfl)
theorem mj_20_1 : mc_P 20 1 = some (.dup, 1, 0, 0, 0) := by decide +kernel
theorem s_20_1 {x0 x1 : Option Value} {w : Value} : mw d 20 Q 1 [x0, x1] (w :: st) h = (w.category = 1 ∧ mw d 20 Q 2 [x0, x1] (w :: w :: st) h) := (mw_at mj_20_1).trans (z_dup)
theorem mj_20_2 : mc_P 20 2 = some (.getfield 185, 3, 1, 6, 0) := by decide +kernel
theorem s_20_2 {x0 x1 : Option Value} {o : Nat} : mw d 20 Q 2 [x0, x1] (.ref o :: st) h = (mg h o 1 ∧ mw d 20 Q 5 [x0, x1] (.int (mh_i h o 6) :: st) h) := (mw_at mj_20_2).trans (z_geti (by decide) (by decide) (Or.inl rfl))
theorem mj_20_5 : mc_P 20 5 = some (.iconst 1, 1, 0, 0, 0) := by decide +kernel
theorem s_20_5 {x0 x1 : Option Value} : mw d 20 Q 5 [x0, x1] (st) h = mw d 20 Q 6 [x0, x1] (.int 1 :: st) h := (mw_at mj_20_5).trans (z_iconst (by decide))
theorem mj_20_6 : mc_P 20 6 = some (.isub, 1, 0, 0, 0) := by decide +kernel
theorem s_20_6 {x0 x1 : Option Value} {x w : Int32} : mw d 20 Q 6 [x0, x1] (.int w :: .int x :: st) h = mw d 20 Q 7 [x0, x1] (.int (x - w) :: st) h := (mw_at mj_20_6).trans (z_isub)
theorem mj_20_7 : mc_P 20 7 = some (.putfield 185, 3, 1, 6, 0) := by decide +kernel
theorem s_20_7 {x0 x1 : Option Value} {o : Nat} {w : Int32} : mw d 20 Q 7 [x0, x1] (.int w :: .ref o :: st) h = (mg h o 1 ∧ mw d 20 Q 10 [x0, x1] (st) (mh_si h o 6 w)) := (mw_at mj_20_7).trans (z_puti (by decide) (by decide) rfl)
theorem mj_20_10 : mc_P 20 10 = some (.iload_n 1, 1, 0, 0, 0) := by decide +kernel
theorem s_20_10 {x0 : Option Value} {w : Value} : mw d 20 Q 10 [x0, some w] (st) h = mv_i w (mw d 20 Q 11 [x0, some w] (w :: st) h) := (mw_at mj_20_10).trans (z_iload_n rfl)
theorem mj_20_11 : mc_P 20 11 = some (.sipush 134, 3, 0, 0, 0) := by decide +kernel
theorem s_20_11 {x0 x1 : Option Value} : mw d 20 Q 11 [x0, x1] (st) h = mw d 20 Q 14 [x0, x1] (.int 134 :: st) h := (mw_at mj_20_11).trans (z_sipush (by decide))
theorem mj_20_14 : mc_P 20 14 = some (.if_icmp .ne 22, 3, 0, 0, 0) := by decide +kernel
theorem s_20_14 {x0 x1 : Option Value} {x w : Int32} : mw d 20 Q 14 [x0, x1] (.int w :: .int x :: st) h = mB (¬ x = w) (mw d 20 Q) 36 17 [x0, x1] st h := (mw_at mj_20_14).trans (z_icmp_ne (by decide) rfl)
theorem mj_20_17 : mc_P 20 17 = some (.aload_n 0, 1, 0, 0, 0) := by decide +kernel
theorem s_20_17 {x1 : Option Value} {w : Value} : mw d 20 Q 17 [some w, x1] (st) h = mv_a w (mw d 20 Q 18 [some w, x1] (w :: st) h) := (mw_at mj_20_17).trans (z_aload_n rfl)
theorem mj_20_18 : mc_P 20 18 = some (.getfield 25, 3, 1, 3, 0) := by decide +kernel
theorem s_20_18 {x0 x1 : Option Value} {o : Nat} : mw d 20 Q 18 [x0, x1] (.ref o :: st) h = (mg h o 1 ∧ mw d 20 Q 21 [x0, x1] (va_rf (mh_r h o 3) :: st) h) := (mw_at mj_20_18).trans (z_getr (by decide) (by decide) rfl)
theorem mj_20_21 : mc_P 20 21 = some (.aload_n 0, 1, 0, 0, 0) := by decide +kernel
theorem s_20_21 {x1 : Option Value} {w : Value} : mw d 20 Q 21 [some w, x1] (st) h = mv_a w (mw d 20 Q 22 [some w, x1] (w :: st) h) := (mw_at mj_20_21).trans (z_aload_n rfl)
theorem mj_20_22 : mc_P 20 22 = some (.getfield 31, 3, 1, 5, 0) := by decide +kernel
theorem s_20_22 {x0 x1 : Option Value} {o : Nat} : mw d 20 Q 22 [x0, x1] (.ref o :: st) h = (mg h o 1 ∧ mw d 20 Q 25 [x0, x1] (va_rf (mh_r h o 5) :: st) h) := (mw_at mj_20_22).trans (z_getr (by decide) (by decide) rfl)
theorem mj_20_25 : mc_P 20 25 = some (.aload_n 0, 1, 0, 0, 0) := by decide +kernel
theorem s_20_25 {x1 : Option Value} {w : Value} : mw d 20 Q 25 [some w, x1] (st) h = mv_a w (mw d 20 Q 26 [some w, x1] (w :: st) h) := (mw_at mj_20_25).trans (z_aload_n rfl)
theorem mj_20_26 : mc_P 20 26 = some (.getfield 185, 3, 1, 6, 0) := by decide +kernel
theorem s_20_26 {x0 x1 : Option Value} {o : Nat} : mw d 20 Q 26 [x0, x1] (.ref o :: st) h = (mg h o 1 ∧ mw d 20 Q 29 [x0, x1] (.int (mh_i h o 6) :: st) h) := (mw_at mj_20_26).trans (z_geti (by decide) (by decide) (Or.inl rfl))
theorem mj_20_29 : mc_P 20 29 = some (.aaload, 1, 0, 0, 0) := by decide +kernel
theorem s_20_29 {x0 x1 : Option Value} {o : Nat} {i : Int32} : mw d 20 Q 29 [x0, x1] (.int i :: .ref o :: st) h = (mgr h o ∧ mx i (mh_l h o) ∧ mw d 20 Q 30 [x0, x1] (mrd (mh_k h o) h o i.toNatClampNeg :: st) h) := (mw_at mj_20_29).trans (z_aald)
theorem mj_20_30 : mc_P 20 30 = some (.invokevirtual 226, 3, 151, 8, 2) := by decide +kernel
theorem s_20_30 {x0 x1 : Option Value} {o : Nat} {a1 : Value} : mw (d + 1) 20 Q 30 [x0, x1] (a1 :: .ref o :: st) h = (mg h o 8 ∧ mca st 8 ∧ mca [.ref o, a1] 3 ∧ mcall d 151 [.ref o, a1] h (mK (d + 1) 20 Q 33 [x0, x1] st)) := (mw_at mj_20_30).trans ((z_invv (As := [a1]) (by decide) rfl rfl).trans (congrArg (And _) (congrArg (And _) (mC_nl nl_151))))
theorem mj_20_33 : mc_P 20 33 = some (.goto 19, 3, 0, 0, 0) := by decide +kernel
theorem s_20_33 {x0 x1 : Option Value} : mw d 20 Q 33 [x0, x1] (st) h = mw d 20 Q 52 [x0, x1] (st) h := (mw_at mj_20_33).trans (z_goto (by decide))
theorem mj_20_36 : mc_P 20 36 = some (.aload_n 0, 1, 0, 0, 0) := by decide +kernel
theorem s_20_36 {x1 : Option Value} {w : Value} : mw d 20 Q 36 [some w, x1] (st) h = mv_a w (mw d 20 Q 37 [some w, x1] (w :: st) h) := (mw_at mj_20_36).trans (z_aload_n rfl)
theorem mj_20_37 : mc_P 20 37 = some (.getfield 21, 3, 1, 2, 0) := by decide +kernel
theorem s_20_37 {x0 x1 : Option Value} {o : Nat} : mw d 20 Q 37 [x0, x1] (.ref o :: st) h = (mg h o 1 ∧ mw d 20 Q 40 [x0, x1] (va_rf (mh_r h o 2) :: st) h) := (mw_at mj_20_37).trans (z_getr (by decide) (by decide) rfl)
theorem mj_20_40 : mc_P 20 40 = some (.aload_n 0, 1, 0, 0, 0) := by decide +kernel
theorem s_20_40 {x1 : Option Value} {w : Value} : mw d 20 Q 40 [some w, x1] (st) h = mv_a w (mw d 20 Q 41 [some w, x1] (w :: st) h) := (mw_at mj_20_40).trans (z_aload_n rfl)
theorem mj_20_41 : mc_P 20 41 = some (.getfield 31, 3, 1, 5, 0) := by decide +kernel
theorem s_20_41 {x0 x1 : Option Value} {o : Nat} : mw d 20 Q 41 [x0, x1] (.ref o :: st) h = (mg h o 1 ∧ mw d 20 Q 44 [x0, x1] (va_rf (mh_r h o 5) :: st) h) := (mw_at mj_20_41).trans (z_getr (by decide) (by decide) rfl)
theorem mj_20_44 : mc_P 20 44 = some (.aload_n 0, 1, 0, 0, 0) := by decide +kernel
theorem s_20_44 {x1 : Option Value} {w : Value} : mw d 20 Q 44 [some w, x1] (st) h = mv_a w (mw d 20 Q 45 [some w, x1] (w :: st) h) := (mw_at mj_20_44).trans (z_aload_n rfl)
theorem mj_20_45 : mc_P 20 45 = some (.getfield 185, 3, 1, 6, 0) := by decide +kernel
theorem s_20_45 {x0 x1 : Option Value} {o : Nat} : mw d 20 Q 45 [x0, x1] (.ref o :: st) h = (mg h o 1 ∧ mw d 20 Q 48 [x0, x1] (.int (mh_i h o 6) :: st) h) := (mw_at mj_20_45).trans (z_geti (by decide) (by decide) (Or.inl rfl))
theorem mj_20_48 : mc_P 20 48 = some (.aaload, 1, 0, 0, 0) := by decide +kernel
theorem s_20_48 {x0 x1 : Option Value} {o : Nat} {i : Int32} : mw d 20 Q 48 [x0, x1] (.int i :: .ref o :: st) h = (mgr h o ∧ mx i (mh_l h o) ∧ mw d 20 Q 49 [x0, x1] (mrd (mh_k h o) h o i.toNatClampNeg :: st) h) := (mw_at mj_20_48).trans (z_aald)
theorem mj_20_49 : mc_P 20 49 = some (.invokevirtual 226, 3, 151, 8, 2) := by decide +kernel
theorem s_20_49 {x0 x1 : Option Value} {o : Nat} {a1 : Value} : mw (d + 1) 20 Q 49 [x0, x1] (a1 :: .ref o :: st) h = (mg h o 8 ∧ mca st 8 ∧ mca [.ref o, a1] 3 ∧ mcall d 151 [.ref o, a1] h (mK (d + 1) 20 Q 52 [x0, x1] st)) := (mw_at mj_20_49).trans ((z_invv (As := [a1]) (by decide) rfl rfl).trans (congrArg (And _) (congrArg (And _) (mC_nl nl_151))))
theorem mj_20_52 : mc_P 20 52 = some (.return_, 1, 0, 0, 0) := by decide +kernel
theorem s_20_52 {x0 x1 : Option Value} : mw d 20 Q 52 [x0, x1] ([]) h = Q none h := (mw_at mj_20_52).trans (z_vret)
theorem e_20 {a0 : Nat} {a1 : Int32} : mcall d 20 [.ref a0, .int a1] h Q = mw d 20 Q 0 [some (.ref a0), some (.int a1)] [] h := by
  show mw d 20 Q 0 (me_en (mc_nl 20) _) [] h = _
  rw [nl_20]; rfl

/-! InvariantDesk$Effect.reckonBoth(I)Z -/
theorem mj_21_0 : mc_P 21 0 = some (.aload_n 0, 1, 0, 0, 0) := by decide +kernel
theorem s_21_0 {x1 x2 : Option Value} {w : Value} : mw d 21 Q 0 [some w, x1, x2] (st) h = mv_a w (mw d 21 Q 1 [some w, x1, x2] (w :: st) h) := (mw_at mj_21_0).trans (z_aload_n rfl)
theorem mj_21_1 : mc_P 21 1 = some (.getfield 21, 3, 1, 2, 0) := by decide +kernel
theorem s_21_1 {x0 x1 x2 : Option Value} {o : Nat} : mw d 21 Q 1 [x0, x1, x2] (.ref o :: st) h = (mg h o 1 ∧ mw d 21 Q 4 [x0, x1, x2] (va_rf (mh_r h o 2) :: st) h) := (mw_at mj_21_1).trans (z_getr (by decide) (by decide) rfl)
theorem mj_21_4 : mc_P 21 4 = some (.aload_n 0, 1, 0, 0, 0) := by decide +kernel
theorem s_21_4 {x1 x2 : Option Value} {w : Value} : mw d 21 Q 4 [some w, x1, x2] (st) h = mv_a w (mw d 21 Q 5 [some w, x1, x2] (w :: st) h) := (mw_at mj_21_4).trans (z_aload_n rfl)
theorem mj_21_5 : mc_P 21 5 = some (.getfield 28, 3, 1, 4, 0) := by decide +kernel
theorem s_21_5 {x0 x1 x2 : Option Value} {o : Nat} : mw d 21 Q 5 [x0, x1, x2] (.ref o :: st) h = (mg h o 1 ∧ mw d 21 Q 8 [x0, x1, x2] (va_rf (mh_r h o 4) :: st) h) := (mw_at mj_21_5).trans (z_getr (by decide) (by decide) rfl)
theorem mj_21_8 : mc_P 21 8 = some (.invokevirtual 53, 3, 144, 8, 2) := by decide +kernel
theorem s_21_8 {x0 x1 x2 : Option Value} {o : Nat} {a1 : Value} : mw (d + 1) 21 Q 8 [x0, x1, x2] (a1 :: .ref o :: st) h = (mg h o 8 ∧ mca st 8 ∧ mca [.ref o, a1] 2 ∧ mcall d 144 [.ref o, a1] h (mK (d + 1) 21 Q 11 [x0, x1, x2] st)) := (mw_at mj_21_8).trans ((z_invv (As := [a1]) (by decide) rfl rfl).trans (congrArg (And _) (congrArg (And _) (mC_nl nl_144))))
theorem mj_21_11 : mc_P 21 11 = some (.aload_n 0, 1, 0, 0, 0) := by decide +kernel
theorem s_21_11 {x1 x2 : Option Value} {w : Value} : mw d 21 Q 11 [some w, x1, x2] (st) h = mv_a w (mw d 21 Q 12 [some w, x1, x2] (w :: st) h) := (mw_at mj_21_11).trans (z_aload_n rfl)
theorem mj_21_12 : mc_P 21 12 = some (.getfield 25, 3, 1, 3, 0) := by decide +kernel
theorem s_21_12 {x0 x1 x2 : Option Value} {o : Nat} : mw d 21 Q 12 [x0, x1, x2] (.ref o :: st) h = (mg h o 1 ∧ mw d 21 Q 15 [x0, x1, x2] (va_rf (mh_r h o 3) :: st) h) := (mw_at mj_21_12).trans (z_getr (by decide) (by decide) rfl)
theorem mj_21_15 : mc_P 21 15 = some (.aload_n 0, 1, 0, 0, 0) := by decide +kernel
theorem s_21_15 {x1 x2 : Option Value} {w : Value} : mw d 21 Q 15 [some w, x1, x2] (st) h = mv_a w (mw d 21 Q 16 [some w, x1, x2] (w :: st) h) := (mw_at mj_21_15).trans (z_aload_n rfl)
theorem mj_21_16 : mc_P 21 16 = some (.getfield 28, 3, 1, 4, 0) := by decide +kernel
theorem s_21_16 {x0 x1 x2 : Option Value} {o : Nat} : mw d 21 Q 16 [x0, x1, x2] (.ref o :: st) h = (mg h o 1 ∧ mw d 21 Q 19 [x0, x1, x2] (va_rf (mh_r h o 4) :: st) h) := (mw_at mj_21_16).trans (z_getr (by decide) (by decide) rfl)
theorem mj_21_19 : mc_P 21 19 = some (.invokevirtual 53, 3, 144, 8, 2) := by decide +kernel
theorem s_21_19 {x0 x1 x2 : Option Value} {o : Nat} {a1 : Value} : mw (d + 1) 21 Q 19 [x0, x1, x2] (a1 :: .ref o :: st) h = (mg h o 8 ∧ mca st 8 ∧ mca [.ref o, a1] 2 ∧ mcall d 144 [.ref o, a1] h (mK (d + 1) 21 Q 22 [x0, x1, x2] st)) := (mw_at mj_21_19).trans ((z_invv (As := [a1]) (by decide) rfl rfl).trans (congrArg (And _) (congrArg (And _) (mC_nl nl_144))))
theorem mj_21_22 : mc_P 21 22 = some (.aload_n 0, 1, 0, 0, 0) := by decide +kernel
theorem s_21_22 {x1 x2 : Option Value} {w : Value} : mw d 21 Q 22 [some w, x1, x2] (st) h = mv_a w (mw d 21 Q 23 [some w, x1, x2] (w :: st) h) := (mw_at mj_21_22).trans (z_aload_n rfl)
theorem mj_21_23 : mc_P 21 23 = some (.getfield 28, 3, 1, 4, 0) := by decide +kernel
theorem s_21_23 {x0 x1 x2 : Option Value} {o : Nat} : mw d 21 Q 23 [x0, x1, x2] (.ref o :: st) h = (mg h o 1 ∧ mw d 21 Q 26 [x0, x1, x2] (va_rf (mh_r h o 4) :: st) h) := (mw_at mj_21_23).trans (z_getr (by decide) (by decide) rfl)
theorem mj_21_26 : mc_P 21 26 = some (.getfield 98, 3, 8, 0, 0) := by decide +kernel
theorem s_21_26 {x0 x1 x2 : Option Value} {o : Nat} : mw d 21 Q 26 [x0, x1, x2] (.ref o :: st) h = (mg h o 8 ∧ mw d 21 Q 29 [x0, x1, x2] (.int (mh_i h o 0) :: st) h) := (mw_at mj_21_26).trans (z_geti (by decide) (by decide) (Or.inr rfl))
theorem mj_21_29 : mc_P 21 29 = some (.ifCond .eq 5, 3, 0, 0, 0) := by decide +kernel
theorem s_21_29 {x0 x1 x2 : Option Value} {x : Int32} : mw d 21 Q 29 [x0, x1, x2] (.int x :: st) h = mB (x = 0) (mw d 21 Q) 34 32 [x0, x1, x2] st h := (mw_at mj_21_29).trans (z_if_eq (by decide) rfl)
theorem mj_21_32 : mc_P 21 32 = some (.iconst 0, 1, 0, 0, 0) := by decide +kernel
theorem s_21_32 {x0 x1 x2 : Option Value} : mw d 21 Q 32 [x0, x1, x2] (st) h = mw d 21 Q 33 [x0, x1, x2] (.int 0 :: st) h := (mw_at mj_21_32).trans (z_iconst (by decide))
theorem mj_21_33 : mc_P 21 33 = some (.ireturn, 1, 0, 3, 0) := by decide +kernel
theorem s_21_33 {x0 x1 x2 : Option Value} {x : Int32} : mw d 21 Q 33 [x0, x1, x2] ([.int x]) h = ((x = 0 ∨ x = 1) ∧ Q (some (.int x)) h) := (mw_at mj_21_33).trans (z_zret)
theorem mj_21_34 : mc_P 21 34 = some (.aload_n 0, 1, 0, 0, 0) := by decide +kernel
theorem s_21_34 {x1 x2 : Option Value} {w : Value} : mw d 21 Q 34 [some w, x1, x2] (st) h = mv_a w (mw d 21 Q 35 [some w, x1, x2] (w :: st) h) := (mw_at mj_21_34).trans (z_aload_n rfl)
theorem mj_21_35 : mc_P 21 35 = some (.getfield 12, 3, 1, 1, 0) := by decide +kernel
theorem s_21_35 {x0 x1 x2 : Option Value} {o : Nat} : mw d 21 Q 35 [x0, x1, x2] (.ref o :: st) h = (mg h o 1 ∧ mw d 21 Q 38 [x0, x1, x2] (va_rf (mh_r h o 1) :: st) h) := (mw_at mj_21_35).trans (z_getr (by decide) (by decide) rfl)
theorem mj_21_38 : mc_P 21 38 = some (.iload_n 1, 1, 0, 0, 0) := by decide +kernel
theorem s_21_38 {x0 x2 : Option Value} {w : Value} : mw d 21 Q 38 [x0, some w, x2] (st) h = mv_i w (mw d 21 Q 39 [x0, some w, x2] (w :: st) h) := (mw_at mj_21_38).trans (z_iload_n rfl)
theorem mj_21_39 : mc_P 21 39 = some (.invokevirtual 126, 3, 99, 5, 2) := by decide +kernel
theorem s_21_39 {x0 x1 x2 : Option Value} {o : Nat} {a1 : Value} : mw (d + 1) 21 Q 39 [x0, x1, x2] (a1 :: .ref o :: st) h = (mg h o 5 ∧ mca st 8 ∧ mca [.ref o, a1] 5 ∧ mcall d 99 [.ref o, a1] h (mK (d + 1) 21 Q 42 [x0, x1, x2] st)) := (mw_at mj_21_39).trans ((z_invv (As := [a1]) (by decide) rfl rfl).trans (congrArg (And _) (congrArg (And _) (mC_nl nl_99))))
theorem mj_21_42 : mc_P 21 42 = some (.ifCond .eq 20, 3, 0, 0, 0) := by decide +kernel
theorem s_21_42 {x0 x1 x2 : Option Value} {x : Int32} : mw d 21 Q 42 [x0, x1, x2] (.int x :: st) h = mB (x = 0) (mw d 21 Q) 62 45 [x0, x1, x2] st h := (mw_at mj_21_42).trans (z_if_eq (by decide) rfl)
theorem mj_21_45 : mc_P 21 45 = some (.aload_n 0, 1, 0, 0, 0) := by decide +kernel
theorem s_21_45 {x1 x2 : Option Value} {w : Value} : mw d 21 Q 45 [some w, x1, x2] (st) h = mv_a w (mw d 21 Q 46 [some w, x1, x2] (w :: st) h) := (mw_at mj_21_45).trans (z_aload_n rfl)
theorem mj_21_46 : mc_P 21 46 = some (.getfield 12, 3, 1, 1, 0) := by decide +kernel
theorem s_21_46 {x0 x1 x2 : Option Value} {o : Nat} : mw d 21 Q 46 [x0, x1, x2] (.ref o :: st) h = (mg h o 1 ∧ mw d 21 Q 49 [x0, x1, x2] (va_rf (mh_r h o 1) :: st) h) := (mw_at mj_21_46).trans (z_getr (by decide) (by decide) rfl)
theorem mj_21_49 : mc_P 21 49 = some (.iload_n 1, 1, 0, 0, 0) := by decide +kernel
theorem s_21_49 {x0 x2 : Option Value} {w : Value} : mw d 21 Q 49 [x0, some w, x2] (st) h = mv_i w (mw d 21 Q 50 [x0, some w, x2] (w :: st) h) := (mw_at mj_21_49).trans (z_iload_n rfl)
theorem mj_21_50 : mc_P 21 50 = some (.iconst 1, 1, 0, 0, 0) := by decide +kernel
theorem s_21_50 {x0 x1 x2 : Option Value} : mw d 21 Q 50 [x0, x1, x2] (st) h = mw d 21 Q 51 [x0, x1, x2] (.int 1 :: st) h := (mw_at mj_21_50).trans (z_iconst (by decide))
theorem mj_21_51 : mc_P 21 51 = some (.iadd, 1, 0, 0, 0) := by decide +kernel
theorem s_21_51 {x0 x1 x2 : Option Value} {x w : Int32} : mw d 21 Q 51 [x0, x1, x2] (.int w :: .int x :: st) h = mw d 21 Q 52 [x0, x1, x2] (.int (x + w) :: st) h := (mw_at mj_21_51).trans (z_iadd)
theorem mj_21_52 : mc_P 21 52 = some (.invokevirtual 126, 3, 99, 5, 2) := by decide +kernel
theorem s_21_52 {x0 x1 x2 : Option Value} {o : Nat} {a1 : Value} : mw (d + 1) 21 Q 52 [x0, x1, x2] (a1 :: .ref o :: st) h = (mg h o 5 ∧ mca st 8 ∧ mca [.ref o, a1] 5 ∧ mcall d 99 [.ref o, a1] h (mK (d + 1) 21 Q 55 [x0, x1, x2] st)) := (mw_at mj_21_52).trans ((z_invv (As := [a1]) (by decide) rfl rfl).trans (congrArg (And _) (congrArg (And _) (mC_nl nl_99))))
theorem mj_21_55 : mc_P 21 55 = some (.ifCond .eq 7, 3, 0, 0, 0) := by decide +kernel
theorem s_21_55 {x0 x1 x2 : Option Value} {x : Int32} : mw d 21 Q 55 [x0, x1, x2] (.int x :: st) h = mB (x = 0) (mw d 21 Q) 62 58 [x0, x1, x2] st h := (mw_at mj_21_55).trans (z_if_eq (by decide) rfl)
theorem mj_21_58 : mc_P 21 58 = some (.iconst 1, 1, 0, 0, 0) := by decide +kernel
theorem s_21_58 {x0 x1 x2 : Option Value} : mw d 21 Q 58 [x0, x1, x2] (st) h = mw d 21 Q 59 [x0, x1, x2] (.int 1 :: st) h := (mw_at mj_21_58).trans (z_iconst (by decide))
theorem mj_21_59 : mc_P 21 59 = some (.goto 4, 3, 0, 0, 0) := by decide +kernel
theorem s_21_59 {x0 x1 x2 : Option Value} : mw d 21 Q 59 [x0, x1, x2] (st) h = mw d 21 Q 63 [x0, x1, x2] (st) h := (mw_at mj_21_59).trans (z_goto (by decide))
theorem mj_21_62 : mc_P 21 62 = some (.iconst 0, 1, 0, 0, 0) := by decide +kernel
theorem s_21_62 {x0 x1 x2 : Option Value} : mw d 21 Q 62 [x0, x1, x2] (st) h = mw d 21 Q 63 [x0, x1, x2] (.int 0 :: st) h := (mw_at mj_21_62).trans (z_iconst (by decide))
theorem mj_21_63 : mc_P 21 63 = some (.istore_n 2, 1, 0, 0, 0) := by decide +kernel
theorem s_21_63 {x0 x1 x2 : Option Value} {w : Int32} : mw d 21 Q 63 [x0, x1, x2] (.int w :: st) h = mw d 21 Q 64 [x0, mk2 x1, some (.int w)] (st) h := (mw_at mj_21_63).trans (z_istore_n (Nat.le_of_ble_eq_true rfl) (me_s1_mk (j := 1) (w := x1) rfl))
theorem mj_21_64 : mc_P 21 64 = some (.iload_n 2, 1, 0, 0, 0) := by decide +kernel
theorem s_21_64 {x0 x1 : Option Value} {w : Value} : mw d 21 Q 64 [x0, x1, some w] (st) h = mv_i w (mw d 21 Q 65 [x0, x1, some w] (w :: st) h) := (mw_at mj_21_64).trans (z_iload_n rfl)
theorem mj_21_65 : mc_P 21 65 = some (.ifCond .eq 14, 3, 0, 0, 0) := by decide +kernel
theorem s_21_65 {x0 x1 x2 : Option Value} {x : Int32} : mw d 21 Q 65 [x0, x1, x2] (.int x :: st) h = mB (x = 0) (mw d 21 Q) 79 68 [x0, x1, x2] st h := (mw_at mj_21_65).trans (z_if_eq (by decide) rfl)
theorem mj_21_68 : mc_P 21 68 = some (.aload_n 0, 1, 0, 0, 0) := by decide +kernel
theorem s_21_68 {x1 x2 : Option Value} {w : Value} : mw d 21 Q 68 [some w, x1, x2] (st) h = mv_a w (mw d 21 Q 69 [some w, x1, x2] (w :: st) h) := (mw_at mj_21_68).trans (z_aload_n rfl)
theorem mj_21_69 : mc_P 21 69 = some (.getfield 12, 3, 1, 1, 0) := by decide +kernel
theorem s_21_69 {x0 x1 x2 : Option Value} {o : Nat} : mw d 21 Q 69 [x0, x1, x2] (.ref o :: st) h = (mg h o 1 ∧ mw d 21 Q 72 [x0, x1, x2] (va_rf (mh_r h o 1) :: st) h) := (mw_at mj_21_69).trans (z_getr (by decide) (by decide) rfl)
theorem mj_21_72 : mc_P 21 72 = some (.iload_n 1, 1, 0, 0, 0) := by decide +kernel
theorem s_21_72 {x0 x2 : Option Value} {w : Value} : mw d 21 Q 72 [x0, some w, x2] (st) h = mv_i w (mw d 21 Q 73 [x0, some w, x2] (w :: st) h) := (mw_at mj_21_72).trans (z_iload_n rfl)
theorem mj_21_73 : mc_P 21 73 = some (.iload_n 1, 1, 0, 0, 0) := by decide +kernel
theorem s_21_73 {x0 x2 : Option Value} {w : Value} : mw d 21 Q 73 [x0, some w, x2] (st) h = mv_i w (mw d 21 Q 74 [x0, some w, x2] (w :: st) h) := (mw_at mj_21_73).trans (z_iload_n rfl)
theorem mj_21_74 : mc_P 21 74 = some (.iconst 2, 1, 0, 0, 0) := by decide +kernel
theorem s_21_74 {x0 x1 x2 : Option Value} : mw d 21 Q 74 [x0, x1, x2] (st) h = mw d 21 Q 75 [x0, x1, x2] (.int 2 :: st) h := (mw_at mj_21_74).trans (z_iconst (by decide))
theorem mj_21_75 : mc_P 21 75 = some (.iadd, 1, 0, 0, 0) := by decide +kernel
theorem s_21_75 {x0 x1 x2 : Option Value} {x w : Int32} : mw d 21 Q 75 [x0, x1, x2] (.int w :: .int x :: st) h = mw d 21 Q 76 [x0, x1, x2] (.int (x + w) :: st) h := (mw_at mj_21_75).trans (z_iadd)
theorem mj_21_76 : mc_P 21 76 = some (.invokevirtual 151, 3, 113, 5, 3) := by decide +kernel
theorem s_21_76 {x0 x1 x2 : Option Value} {o : Nat} {a1 a2 : Value} : mw (d + 1) 21 Q 76 [x0, x1, x2] (a2 :: a1 :: .ref o :: st) h = (mg h o 5 ∧ mca st 8 ∧ mca [.ref o, a1, a2] 7 ∧ mcall d 113 [.ref o, a1, a2] h (mK (d + 1) 21 Q 79 [x0, x1, x2] st)) := (mw_at mj_21_76).trans ((z_invv (As := [a1, a2]) (by decide) rfl rfl).trans (congrArg (And _) (congrArg (And _) (mC_nl nl_113))))
theorem mj_21_79 : mc_P 21 79 = some (.aload_n 0, 1, 0, 0, 0) := by decide +kernel
theorem s_21_79 {x1 x2 : Option Value} {w : Value} : mw d 21 Q 79 [some w, x1, x2] (st) h = mv_a w (mw d 21 Q 80 [some w, x1, x2] (w :: st) h) := (mw_at mj_21_79).trans (z_aload_n rfl)
theorem mj_21_80 : mc_P 21 80 = some (.getfield 21, 3, 1, 2, 0) := by decide +kernel
theorem s_21_80 {x0 x1 x2 : Option Value} {o : Nat} : mw d 21 Q 80 [x0, x1, x2] (.ref o :: st) h = (mg h o 1 ∧ mw d 21 Q 83 [x0, x1, x2] (va_rf (mh_r h o 2) :: st) h) := (mw_at mj_21_80).trans (z_getr (by decide) (by decide) rfl)
theorem mj_21_83 : mc_P 21 83 = some (.iload_n 2, 1, 0, 0, 0) := by decide +kernel
theorem s_21_83 {x0 x1 : Option Value} {w : Value} : mw d 21 Q 83 [x0, x1, some w] (st) h = mv_i w (mw d 21 Q 84 [x0, x1, some w] (w :: st) h) := (mw_at mj_21_83).trans (z_iload_n rfl)
theorem mj_21_84 : mc_P 21 84 = some (.ifCond .ne 7, 3, 0, 0, 0) := by decide +kernel
theorem s_21_84 {x0 x1 x2 : Option Value} {x : Int32} : mw d 21 Q 84 [x0, x1, x2] (.int x :: st) h = mB (¬ x = 0) (mw d 21 Q) 91 87 [x0, x1, x2] st h := (mw_at mj_21_84).trans (z_if_ne (by decide) rfl)
theorem mj_21_87 : mc_P 21 87 = some (.iconst 1, 1, 0, 0, 0) := by decide +kernel
theorem s_21_87 {x0 x1 x2 : Option Value} : mw d 21 Q 87 [x0, x1, x2] (st) h = mw d 21 Q 88 [x0, x1, x2] (.int 1 :: st) h := (mw_at mj_21_87).trans (z_iconst (by decide))
theorem mj_21_88 : mc_P 21 88 = some (.goto 4, 3, 0, 0, 0) := by decide +kernel
theorem s_21_88 {x0 x1 x2 : Option Value} : mw d 21 Q 88 [x0, x1, x2] (st) h = mw d 21 Q 92 [x0, x1, x2] (st) h := (mw_at mj_21_88).trans (z_goto (by decide))
theorem mj_21_91 : mc_P 21 91 = some (.iconst 0, 1, 0, 0, 0) := by decide +kernel
theorem s_21_91 {x0 x1 x2 : Option Value} : mw d 21 Q 91 [x0, x1, x2] (st) h = mw d 21 Q 92 [x0, x1, x2] (.int 0 :: st) h := (mw_at mj_21_91).trans (z_iconst (by decide))
theorem mj_21_92 : mc_P 21 92 = some (.putfield 98, 3, 8, 0, 0) := by decide +kernel
theorem s_21_92 {x0 x1 x2 : Option Value} {o : Nat} {w : Int32} : mw d 21 Q 92 [x0, x1, x2] (.int w :: .ref o :: st) h = (mg h o 8 ∧ (w = 0 ∨ w = 1) ∧ mw d 21 Q 95 [x0, x1, x2] (st) (mh_si h o 0 w)) := (mw_at mj_21_92).trans (z_putz (by decide) (by decide) rfl)
theorem mj_21_95 : mc_P 21 95 = some (.aload_n 0, 1, 0, 0, 0) := by decide +kernel
theorem s_21_95 {x1 x2 : Option Value} {w : Value} : mw d 21 Q 95 [some w, x1, x2] (st) h = mv_a w (mw d 21 Q 96 [some w, x1, x2] (w :: st) h) := (mw_at mj_21_95).trans (z_aload_n rfl)
theorem mj_21_96 : mc_P 21 96 = some (.getfield 25, 3, 1, 3, 0) := by decide +kernel
theorem s_21_96 {x0 x1 x2 : Option Value} {o : Nat} : mw d 21 Q 96 [x0, x1, x2] (.ref o :: st) h = (mg h o 1 ∧ mw d 21 Q 99 [x0, x1, x2] (va_rf (mh_r h o 3) :: st) h) := (mw_at mj_21_96).trans (z_getr (by decide) (by decide) rfl)
theorem mj_21_99 : mc_P 21 99 = some (.iload_n 2, 1, 0, 0, 0) := by decide +kernel
theorem s_21_99 {x0 x1 : Option Value} {w : Value} : mw d 21 Q 99 [x0, x1, some w] (st) h = mv_i w (mw d 21 Q 100 [x0, x1, some w] (w :: st) h) := (mw_at mj_21_99).trans (z_iload_n rfl)
theorem mj_21_100 : mc_P 21 100 = some (.ifCond .ne 7, 3, 0, 0, 0) := by decide +kernel
theorem s_21_100 {x0 x1 x2 : Option Value} {x : Int32} : mw d 21 Q 100 [x0, x1, x2] (.int x :: st) h = mB (¬ x = 0) (mw d 21 Q) 107 103 [x0, x1, x2] st h := (mw_at mj_21_100).trans (z_if_ne (by decide) rfl)
theorem mj_21_103 : mc_P 21 103 = some (.iconst 1, 1, 0, 0, 0) := by decide +kernel
theorem s_21_103 {x0 x1 x2 : Option Value} : mw d 21 Q 103 [x0, x1, x2] (st) h = mw d 21 Q 104 [x0, x1, x2] (.int 1 :: st) h := (mw_at mj_21_103).trans (z_iconst (by decide))
theorem mj_21_104 : mc_P 21 104 = some (.goto 4, 3, 0, 0, 0) := by decide +kernel
theorem s_21_104 {x0 x1 x2 : Option Value} : mw d 21 Q 104 [x0, x1, x2] (st) h = mw d 21 Q 108 [x0, x1, x2] (st) h := (mw_at mj_21_104).trans (z_goto (by decide))
theorem mj_21_107 : mc_P 21 107 = some (.iconst 0, 1, 0, 0, 0) := by decide +kernel
theorem s_21_107 {x0 x1 x2 : Option Value} : mw d 21 Q 107 [x0, x1, x2] (st) h = mw d 21 Q 108 [x0, x1, x2] (.int 0 :: st) h := (mw_at mj_21_107).trans (z_iconst (by decide))
theorem mj_21_108 : mc_P 21 108 = some (.putfield 98, 3, 8, 0, 0) := by decide +kernel
theorem s_21_108 {x0 x1 x2 : Option Value} {o : Nat} {w : Int32} : mw d 21 Q 108 [x0, x1, x2] (.int w :: .ref o :: st) h = (mg h o 8 ∧ (w = 0 ∨ w = 1) ∧ mw d 21 Q 111 [x0, x1, x2] (st) (mh_si h o 0 w)) := (mw_at mj_21_108).trans (z_putz (by decide) (by decide) rfl)
theorem mj_21_111 : mc_P 21 111 = some (.iload_n 2, 1, 0, 0, 0) := by decide +kernel
theorem s_21_111 {x0 x1 : Option Value} {w : Value} : mw d 21 Q 111 [x0, x1, some w] (st) h = mv_i w (mw d 21 Q 112 [x0, x1, some w] (w :: st) h) := (mw_at mj_21_111).trans (z_iload_n rfl)
theorem mj_21_112 : mc_P 21 112 = some (.ireturn, 1, 0, 3, 0) := by decide +kernel
theorem s_21_112 {x0 x1 x2 : Option Value} {x : Int32} : mw d 21 Q 112 [x0, x1, x2] ([.int x]) h = ((x = 0 ∨ x = 1) ∧ Q (some (.int x)) h) := (mw_at mj_21_112).trans (z_zret)
theorem e_21 {a0 : Nat} {a1 : Int32} : mcall d 21 [.ref a0, .int a1] h Q = mw d 21 Q 0 [some (.ref a0), some (.int a1), none] [] h := by
  show mw d 21 Q 0 (me_en (mc_nl 21) _) [] h = _
  rw [nl_21]; rfl

/-! InvariantDesk$Effect.opposite(I)I -/
theorem mj_22_0 : mc_P 22 0 = some (.iload_n 0, 1, 0, 0, 0) := by decide +kernel
theorem s_22_0 {w : Value} : mw d 22 Q 0 [some w] (st) h = mv_i w (mw d 22 Q 1 [some w] (w :: st) h) := (mw_at mj_22_0).trans (z_iload_n rfl)
theorem mj_22_1 : mc_P 22 1 = some (.lookupswitch 69 #[(60, 51), (62, 55), (128, 62), (129, 59), (130, 65)], 51, 0, 0, 0) := by decide +kernel
theorem s_22_1 {x0 : Option Value} {x : Int32} : mw d 22 Q 1 [x0] (.int x :: st) h = mS x (mw d 22 Q) 70 [x0] st h [(60, 52), (62, 56), (128, 63), (129, 60), (130, 66)] := (mw_at mj_22_1).trans (z_look (by decide) (by decide) (by decide))
theorem mj_22_52 : mc_P 22 52 = some (.sipush 129, 3, 0, 0, 0) := by decide +kernel
theorem s_22_52 {x0 : Option Value} : mw d 22 Q 52 [x0] (st) h = mw d 22 Q 55 [x0] (.int 129 :: st) h := (mw_at mj_22_52).trans (z_sipush (by decide))
theorem mj_22_55 : mc_P 22 55 = some (.ireturn, 1, 0, 0, 0) := by decide +kernel
theorem s_22_55 {x0 : Option Value} {x : Int32} : mw d 22 Q 55 [x0] ([.int x]) h = (Q (some (.int x)) h) := (mw_at mj_22_55).trans (z_iret)
theorem mj_22_56 : mc_P 22 56 = some (.sipush 128, 3, 0, 0, 0) := by decide +kernel
theorem s_22_56 {x0 : Option Value} : mw d 22 Q 56 [x0] (st) h = mw d 22 Q 59 [x0] (.int 128 :: st) h := (mw_at mj_22_56).trans (z_sipush (by decide))
theorem mj_22_59 : mc_P 22 59 = some (.ireturn, 1, 0, 0, 0) := by decide +kernel
theorem s_22_59 {x0 : Option Value} {x : Int32} : mw d 22 Q 59 [x0] ([.int x]) h = (Q (some (.int x)) h) := (mw_at mj_22_59).trans (z_iret)
theorem mj_22_60 : mc_P 22 60 = some (.bipush 60, 2, 0, 0, 0) := by decide +kernel
theorem s_22_60 {x0 : Option Value} : mw d 22 Q 60 [x0] (st) h = mw d 22 Q 62 [x0] (.int 60 :: st) h := (mw_at mj_22_60).trans (z_bipush (by decide))
theorem mj_22_62 : mc_P 22 62 = some (.ireturn, 1, 0, 0, 0) := by decide +kernel
theorem s_22_62 {x0 : Option Value} {x : Int32} : mw d 22 Q 62 [x0] ([.int x]) h = (Q (some (.int x)) h) := (mw_at mj_22_62).trans (z_iret)
theorem mj_22_63 : mc_P 22 63 = some (.bipush 62, 2, 0, 0, 0) := by decide +kernel
theorem s_22_63 {x0 : Option Value} : mw d 22 Q 63 [x0] (st) h = mw d 22 Q 65 [x0] (.int 62 :: st) h := (mw_at mj_22_63).trans (z_bipush (by decide))
theorem mj_22_65 : mc_P 22 65 = some (.ireturn, 1, 0, 0, 0) := by decide +kernel
theorem s_22_65 {x0 : Option Value} {x : Int32} : mw d 22 Q 65 [x0] ([.int x]) h = (Q (some (.int x)) h) := (mw_at mj_22_65).trans (z_iret)
theorem mj_22_66 : mc_P 22 66 = some (.sipush 131, 3, 0, 0, 0) := by decide +kernel
theorem s_22_66 {x0 : Option Value} : mw d 22 Q 66 [x0] (st) h = mw d 22 Q 69 [x0] (.int 131 :: st) h := (mw_at mj_22_66).trans (z_sipush (by decide))
theorem mj_22_69 : mc_P 22 69 = some (.ireturn, 1, 0, 0, 0) := by decide +kernel
theorem s_22_69 {x0 : Option Value} {x : Int32} : mw d 22 Q 69 [x0] ([.int x]) h = (Q (some (.int x)) h) := (mw_at mj_22_69).trans (z_iret)
theorem mj_22_70 : mc_P 22 70 = some (.sipush 130, 3, 0, 0, 0) := by decide +kernel
theorem s_22_70 {x0 : Option Value} : mw d 22 Q 70 [x0] (st) h = mw d 22 Q 73 [x0] (.int 130 :: st) h := (mw_at mj_22_70).trans (z_sipush (by decide))
theorem mj_22_73 : mc_P 22 73 = some (.ireturn, 1, 0, 0, 0) := by decide +kernel
theorem s_22_73 {x0 : Option Value} {x : Int32} : mw d 22 Q 73 [x0] ([.int x]) h = (Q (some (.int x)) h) := (mw_at mj_22_73).trans (z_iret)
theorem e_22 {a0 : Int32} : mcall d 22 [.int a0] h Q = mw d 22 Q 0 [some (.int a0)] [] h := by
  show mw d 22 Q 0 (me_en (mc_nl 22) _) [] h = _
  rw [nl_22]; rfl

/-! InvariantDesk$Effect.confine(LInvariantDesk$State;I)V -/
theorem mj_23_0 : mc_P 23 0 = some (.iload_n 2, 1, 0, 0, 0) := by decide +kernel
theorem s_23_0 {x0 x1 x3 x4 : Option Value} {w : Value} : mw d 23 Q 0 [x0, x1, some w, x3, x4] (st) h = mv_i w (mw d 23 Q 1 [x0, x1, some w, x3, x4] (w :: st) h) := (mw_at mj_23_0).trans (z_iload_n rfl)
theorem mj_23_1 : mc_P 23 1 = some (.lookupswitch 112 #[(60, 51), (62, 63), (128, 75), (129, 85), (130, 95)], 51, 0, 0, 0) := by decide +kernel
theorem s_23_1 {x0 x1 x2 x3 x4 : Option Value} {x : Int32} : mw d 23 Q 1 [x0, x1, x2, x3, x4] (.int x :: st) h = mS x (mw d 23 Q) 113 [x0, x1, x2, x3, x4] st h [(60, 52), (62, 64), (128, 76), (129, 86), (130, 96)] := (mw_at mj_23_1).trans (z_look (by decide) (by decide) (by decide))
theorem mj_23_52 : mc_P 23 52 = some (.aload_n 0, 1, 0, 0, 0) := by decide +kernel
theorem s_23_52 {x1 x2 x3 x4 : Option Value} {w : Value} : mw d 23 Q 52 [some w, x1, x2, x3, x4] (st) h = mv_a w (mw d 23 Q 53 [some w, x1, x2, x3, x4] (w :: st) h) := (mw_at mj_23_52).trans (z_aload_n rfl)
theorem mj_23_53 : mc_P 23 53 = some (.aload_n 1, 1, 0, 0, 0) := by decide +kernel
theorem s_23_53 {x0 x2 x3 x4 : Option Value} {w : Value} : mw d 23 Q 53 [x0, some w, x2, x3, x4] (st) h = mv_a w (mw d 23 Q 54 [x0, some w, x2, x3, x4] (w :: st) h) := (mw_at mj_23_53).trans (z_aload_n rfl)
theorem mj_23_54 : mc_P 23 54 = some (.iconst 0, 1, 0, 0, 0) := by decide +kernel
theorem s_23_54 {x0 x1 x2 x3 x4 : Option Value} : mw d 23 Q 54 [x0, x1, x2, x3, x4] (st) h = mw d 23 Q 55 [x0, x1, x2, x3, x4] (.int 0 :: st) h := (mw_at mj_23_54).trans (z_iconst (by decide))
theorem mj_23_55 : mc_P 23 55 = some (.ldc2_w 229, 3, 0, 0, (-1)) := by decide +kernel
theorem s_23_55 {x0 x1 x2 x3 x4 : Option Value} : mw d 23 Q 55 [x0, x1, x2, x3, x4] (st) h = mw d 23 Q 58 [x0, x1, x2, x3, x4] (.long (-1) :: st) h := (mw_at mj_23_55).trans (z_ldc2 (by decide))
theorem mj_23_58 : mc_P 23 58 = some (.invokevirtual 231, 3, 24, 1, 4) := by decide +kernel
theorem s_23_58 {x0 x1 x2 x3 x4 : Option Value} {o : Nat} {a1 a2 a3 : Value} : mw (d + 1) 23 Q 58 [x0, x1, x2, x3, x4] (a3 :: a2 :: a1 :: .ref o :: st) h = (mg h o 1 ∧ mca st 8 ∧ mca [.ref o, a1, a2, a3] 11 ∧ mcall d 24 [.ref o, a1, a2, a3] h (mK (d + 1) 23 Q 61 [x0, x1, x2, x3, x4] st)) := (mw_at mj_23_58).trans ((z_invv (As := [a1, a2, a3]) (by decide) rfl rfl).trans (congrArg (And _) (congrArg (And _) (mC_nl nl_24))))
theorem mj_23_61 : mc_P 23 61 = some (.goto 124, 3, 0, 0, 0) := by decide +kernel
theorem s_23_61 {x0 x1 x2 x3 x4 : Option Value} : mw d 23 Q 61 [x0, x1, x2, x3, x4] (st) h = mw d 23 Q 185 [x0, x1, x2, x3, x4] (st) h := (mw_at mj_23_61).trans (z_goto (by decide))
theorem mj_23_64 : mc_P 23 64 = some (.aload_n 0, 1, 0, 0, 0) := by decide +kernel
theorem s_23_64 {x1 x2 x3 x4 : Option Value} {w : Value} : mw d 23 Q 64 [some w, x1, x2, x3, x4] (st) h = mv_a w (mw d 23 Q 65 [some w, x1, x2, x3, x4] (w :: st) h) := (mw_at mj_23_64).trans (z_aload_n rfl)
theorem mj_23_65 : mc_P 23 65 = some (.aload_n 1, 1, 0, 0, 0) := by decide +kernel
theorem s_23_65 {x0 x2 x3 x4 : Option Value} {w : Value} : mw d 23 Q 65 [x0, some w, x2, x3, x4] (st) h = mv_a w (mw d 23 Q 66 [x0, some w, x2, x3, x4] (w :: st) h) := (mw_at mj_23_65).trans (z_aload_n rfl)
theorem mj_23_66 : mc_P 23 66 = some (.iconst 1, 1, 0, 0, 0) := by decide +kernel
theorem s_23_66 {x0 x1 x2 x3 x4 : Option Value} : mw d 23 Q 66 [x0, x1, x2, x3, x4] (st) h = mw d 23 Q 67 [x0, x1, x2, x3, x4] (.int 1 :: st) h := (mw_at mj_23_66).trans (z_iconst (by decide))
theorem mj_23_67 : mc_P 23 67 = some (.ldc2_w 229, 3, 0, 0, (-1)) := by decide +kernel
theorem s_23_67 {x0 x1 x2 x3 x4 : Option Value} : mw d 23 Q 67 [x0, x1, x2, x3, x4] (st) h = mw d 23 Q 70 [x0, x1, x2, x3, x4] (.long (-1) :: st) h := (mw_at mj_23_67).trans (z_ldc2 (by decide))
theorem mj_23_70 : mc_P 23 70 = some (.invokevirtual 231, 3, 24, 1, 4) := by decide +kernel
theorem s_23_70 {x0 x1 x2 x3 x4 : Option Value} {o : Nat} {a1 a2 a3 : Value} : mw (d + 1) 23 Q 70 [x0, x1, x2, x3, x4] (a3 :: a2 :: a1 :: .ref o :: st) h = (mg h o 1 ∧ mca st 8 ∧ mca [.ref o, a1, a2, a3] 11 ∧ mcall d 24 [.ref o, a1, a2, a3] h (mK (d + 1) 23 Q 73 [x0, x1, x2, x3, x4] st)) := (mw_at mj_23_70).trans ((z_invv (As := [a1, a2, a3]) (by decide) rfl rfl).trans (congrArg (And _) (congrArg (And _) (mC_nl nl_24))))
theorem mj_23_73 : mc_P 23 73 = some (.goto 112, 3, 0, 0, 0) := by decide +kernel
theorem s_23_73 {x0 x1 x2 x3 x4 : Option Value} : mw d 23 Q 73 [x0, x1, x2, x3, x4] (st) h = mw d 23 Q 185 [x0, x1, x2, x3, x4] (st) h := (mw_at mj_23_73).trans (z_goto (by decide))
theorem mj_23_76 : mc_P 23 76 = some (.aload_n 0, 1, 0, 0, 0) := by decide +kernel
theorem s_23_76 {x1 x2 x3 x4 : Option Value} {w : Value} : mw d 23 Q 76 [some w, x1, x2, x3, x4] (st) h = mv_a w (mw d 23 Q 77 [some w, x1, x2, x3, x4] (w :: st) h) := (mw_at mj_23_76).trans (z_aload_n rfl)
theorem mj_23_77 : mc_P 23 77 = some (.aload_n 1, 1, 0, 0, 0) := by decide +kernel
theorem s_23_77 {x0 x2 x3 x4 : Option Value} {w : Value} : mw d 23 Q 77 [x0, some w, x2, x3, x4] (st) h = mv_a w (mw d 23 Q 78 [x0, some w, x2, x3, x4] (w :: st) h) := (mw_at mj_23_77).trans (z_aload_n rfl)
theorem mj_23_78 : mc_P 23 78 = some (.iconst 0, 1, 0, 0, 0) := by decide +kernel
theorem s_23_78 {x0 x1 x2 x3 x4 : Option Value} : mw d 23 Q 78 [x0, x1, x2, x3, x4] (st) h = mw d 23 Q 79 [x0, x1, x2, x3, x4] (.int 0 :: st) h := (mw_at mj_23_78).trans (z_iconst (by decide))
theorem mj_23_79 : mc_P 23 79 = some (.lconst 0, 1, 0, 0, 0) := by decide +kernel
theorem s_23_79 {x0 x1 x2 x3 x4 : Option Value} : mw d 23 Q 79 [x0, x1, x2, x3, x4] (st) h = mw d 23 Q 80 [x0, x1, x2, x3, x4] (.long 0 :: st) h := (mw_at mj_23_79).trans (z_lconst (by decide))
theorem mj_23_80 : mc_P 23 80 = some (.invokevirtual 231, 3, 24, 1, 4) := by decide +kernel
theorem s_23_80 {x0 x1 x2 x3 x4 : Option Value} {o : Nat} {a1 a2 a3 : Value} : mw (d + 1) 23 Q 80 [x0, x1, x2, x3, x4] (a3 :: a2 :: a1 :: .ref o :: st) h = (mg h o 1 ∧ mca st 8 ∧ mca [.ref o, a1, a2, a3] 11 ∧ mcall d 24 [.ref o, a1, a2, a3] h (mK (d + 1) 23 Q 83 [x0, x1, x2, x3, x4] st)) := (mw_at mj_23_80).trans ((z_invv (As := [a1, a2, a3]) (by decide) rfl rfl).trans (congrArg (And _) (congrArg (And _) (mC_nl nl_24))))
theorem mj_23_83 : mc_P 23 83 = some (.goto 102, 3, 0, 0, 0) := by decide +kernel
theorem s_23_83 {x0 x1 x2 x3 x4 : Option Value} : mw d 23 Q 83 [x0, x1, x2, x3, x4] (st) h = mw d 23 Q 185 [x0, x1, x2, x3, x4] (st) h := (mw_at mj_23_83).trans (z_goto (by decide))
theorem mj_23_86 : mc_P 23 86 = some (.aload_n 0, 1, 0, 0, 0) := by decide +kernel
theorem s_23_86 {x1 x2 x3 x4 : Option Value} {w : Value} : mw d 23 Q 86 [some w, x1, x2, x3, x4] (st) h = mv_a w (mw d 23 Q 87 [some w, x1, x2, x3, x4] (w :: st) h) := (mw_at mj_23_86).trans (z_aload_n rfl)
theorem mj_23_87 : mc_P 23 87 = some (.aload_n 1, 1, 0, 0, 0) := by decide +kernel
theorem s_23_87 {x0 x2 x3 x4 : Option Value} {w : Value} : mw d 23 Q 87 [x0, some w, x2, x3, x4] (st) h = mv_a w (mw d 23 Q 88 [x0, some w, x2, x3, x4] (w :: st) h) := (mw_at mj_23_87).trans (z_aload_n rfl)
theorem mj_23_88 : mc_P 23 88 = some (.iconst 1, 1, 0, 0, 0) := by decide +kernel
theorem s_23_88 {x0 x1 x2 x3 x4 : Option Value} : mw d 23 Q 88 [x0, x1, x2, x3, x4] (st) h = mw d 23 Q 89 [x0, x1, x2, x3, x4] (.int 1 :: st) h := (mw_at mj_23_88).trans (z_iconst (by decide))
theorem mj_23_89 : mc_P 23 89 = some (.lconst 0, 1, 0, 0, 0) := by decide +kernel
theorem s_23_89 {x0 x1 x2 x3 x4 : Option Value} : mw d 23 Q 89 [x0, x1, x2, x3, x4] (st) h = mw d 23 Q 90 [x0, x1, x2, x3, x4] (.long 0 :: st) h := (mw_at mj_23_89).trans (z_lconst (by decide))
theorem mj_23_90 : mc_P 23 90 = some (.invokevirtual 231, 3, 24, 1, 4) := by decide +kernel
theorem s_23_90 {x0 x1 x2 x3 x4 : Option Value} {o : Nat} {a1 a2 a3 : Value} : mw (d + 1) 23 Q 90 [x0, x1, x2, x3, x4] (a3 :: a2 :: a1 :: .ref o :: st) h = (mg h o 1 ∧ mca st 8 ∧ mca [.ref o, a1, a2, a3] 11 ∧ mcall d 24 [.ref o, a1, a2, a3] h (mK (d + 1) 23 Q 93 [x0, x1, x2, x3, x4] st)) := (mw_at mj_23_90).trans ((z_invv (As := [a1, a2, a3]) (by decide) rfl rfl).trans (congrArg (And _) (congrArg (And _) (mC_nl nl_24))))
theorem mj_23_93 : mc_P 23 93 = some (.goto 92, 3, 0, 0, 0) := by decide +kernel
theorem s_23_93 {x0 x1 x2 x3 x4 : Option Value} : mw d 23 Q 93 [x0, x1, x2, x3, x4] (st) h = mw d 23 Q 185 [x0, x1, x2, x3, x4] (st) h := (mw_at mj_23_93).trans (z_goto (by decide))
theorem mj_23_96 : mc_P 23 96 = some (.aload_n 0, 1, 0, 0, 0) := by decide +kernel
theorem s_23_96 {x1 x2 x3 x4 : Option Value} {w : Value} : mw d 23 Q 96 [some w, x1, x2, x3, x4] (st) h = mv_a w (mw d 23 Q 97 [some w, x1, x2, x3, x4] (w :: st) h) := (mw_at mj_23_96).trans (z_aload_n rfl)
theorem mj_23_97 : mc_P 23 97 = some (.aload_n 1, 1, 0, 0, 0) := by decide +kernel
theorem s_23_97 {x0 x2 x3 x4 : Option Value} {w : Value} : mw d 23 Q 97 [x0, some w, x2, x3, x4] (st) h = mv_a w (mw d 23 Q 98 [x0, some w, x2, x3, x4] (w :: st) h) := (mw_at mj_23_97).trans (z_aload_n rfl)
theorem mj_23_98 : mc_P 23 98 = some (.iconst 0, 1, 0, 0, 0) := by decide +kernel
theorem s_23_98 {x0 x1 x2 x3 x4 : Option Value} : mw d 23 Q 98 [x0, x1, x2, x3, x4] (st) h = mw d 23 Q 99 [x0, x1, x2, x3, x4] (.int 0 :: st) h := (mw_at mj_23_98).trans (z_iconst (by decide))
theorem mj_23_99 : mc_P 23 99 = some (.lconst 0, 1, 0, 0, 0) := by decide +kernel
theorem s_23_99 {x0 x1 x2 x3 x4 : Option Value} : mw d 23 Q 99 [x0, x1, x2, x3, x4] (st) h = mw d 23 Q 100 [x0, x1, x2, x3, x4] (.long 0 :: st) h := (mw_at mj_23_99).trans (z_lconst (by decide))
theorem mj_23_100 : mc_P 23 100 = some (.invokevirtual 231, 3, 24, 1, 4) := by decide +kernel
theorem s_23_100 {x0 x1 x2 x3 x4 : Option Value} {o : Nat} {a1 a2 a3 : Value} : mw (d + 1) 23 Q 100 [x0, x1, x2, x3, x4] (a3 :: a2 :: a1 :: .ref o :: st) h = (mg h o 1 ∧ mca st 8 ∧ mca [.ref o, a1, a2, a3] 11 ∧ mcall d 24 [.ref o, a1, a2, a3] h (mK (d + 1) 23 Q 103 [x0, x1, x2, x3, x4] st)) := (mw_at mj_23_100).trans ((z_invv (As := [a1, a2, a3]) (by decide) rfl rfl).trans (congrArg (And _) (congrArg (And _) (mC_nl nl_24))))
theorem mj_23_103 : mc_P 23 103 = some (.aload_n 0, 1, 0, 0, 0) := by decide +kernel
theorem s_23_103 {x1 x2 x3 x4 : Option Value} {w : Value} : mw d 23 Q 103 [some w, x1, x2, x3, x4] (st) h = mv_a w (mw d 23 Q 104 [some w, x1, x2, x3, x4] (w :: st) h) := (mw_at mj_23_103).trans (z_aload_n rfl)
theorem mj_23_104 : mc_P 23 104 = some (.aload_n 1, 1, 0, 0, 0) := by decide +kernel
theorem s_23_104 {x0 x2 x3 x4 : Option Value} {w : Value} : mw d 23 Q 104 [x0, some w, x2, x3, x4] (st) h = mv_a w (mw d 23 Q 105 [x0, some w, x2, x3, x4] (w :: st) h) := (mw_at mj_23_104).trans (z_aload_n rfl)
theorem mj_23_105 : mc_P 23 105 = some (.iconst 1, 1, 0, 0, 0) := by decide +kernel
theorem s_23_105 {x0 x1 x2 x3 x4 : Option Value} : mw d 23 Q 105 [x0, x1, x2, x3, x4] (st) h = mw d 23 Q 106 [x0, x1, x2, x3, x4] (.int 1 :: st) h := (mw_at mj_23_105).trans (z_iconst (by decide))
theorem mj_23_106 : mc_P 23 106 = some (.lconst 0, 1, 0, 0, 0) := by decide +kernel
theorem s_23_106 {x0 x1 x2 x3 x4 : Option Value} : mw d 23 Q 106 [x0, x1, x2, x3, x4] (st) h = mw d 23 Q 107 [x0, x1, x2, x3, x4] (.long 0 :: st) h := (mw_at mj_23_106).trans (z_lconst (by decide))
theorem mj_23_107 : mc_P 23 107 = some (.invokevirtual 231, 3, 24, 1, 4) := by decide +kernel
theorem s_23_107 {x0 x1 x2 x3 x4 : Option Value} {o : Nat} {a1 a2 a3 : Value} : mw (d + 1) 23 Q 107 [x0, x1, x2, x3, x4] (a3 :: a2 :: a1 :: .ref o :: st) h = (mg h o 1 ∧ mca st 8 ∧ mca [.ref o, a1, a2, a3] 11 ∧ mcall d 24 [.ref o, a1, a2, a3] h (mK (d + 1) 23 Q 110 [x0, x1, x2, x3, x4] st)) := (mw_at mj_23_107).trans ((z_invv (As := [a1, a2, a3]) (by decide) rfl rfl).trans (congrArg (And _) (congrArg (And _) (mC_nl nl_24))))
theorem mj_23_110 : mc_P 23 110 = some (.goto 75, 3, 0, 0, 0) := by decide +kernel
theorem s_23_110 {x0 x1 x2 x3 x4 : Option Value} : mw d 23 Q 110 [x0, x1, x2, x3, x4] (st) h = mw d 23 Q 185 [x0, x1, x2, x3, x4] (st) h := (mw_at mj_23_110).trans (z_goto (by decide))
theorem mj_23_113 : mc_P 23 113 = some (.aload_n 0, 1, 0, 0, 0) := by decide +kernel
theorem s_23_113 {x1 x2 x3 x4 : Option Value} {w : Value} : mw d 23 Q 113 [some w, x1, x2, x3, x4] (st) h = mv_a w (mw d 23 Q 114 [some w, x1, x2, x3, x4] (w :: st) h) := (mw_at mj_23_113).trans (z_aload_n rfl)
theorem mj_23_114 : mc_P 23 114 = some (.getfield 12, 3, 1, 1, 0) := by decide +kernel
theorem s_23_114 {x0 x1 x2 x3 x4 : Option Value} {o : Nat} : mw d 23 Q 114 [x0, x1, x2, x3, x4] (.ref o :: st) h = (mg h o 1 ∧ mw d 23 Q 117 [x0, x1, x2, x3, x4] (va_rf (mh_r h o 1) :: st) h) := (mw_at mj_23_114).trans (z_getr (by decide) (by decide) rfl)
theorem mj_23_117 : mc_P 23 117 = some (.iconst (-1), 1, 0, 0, 0) := by decide +kernel
theorem s_23_117 {x0 x1 x2 x3 x4 : Option Value} : mw d 23 Q 117 [x0, x1, x2, x3, x4] (st) h = mw d 23 Q 118 [x0, x1, x2, x3, x4] (.int (-1) :: st) h := (mw_at mj_23_117).trans (z_iconst (by decide))
theorem mj_23_118 : mc_P 23 118 = some (.iconst (-1), 1, 0, 0, 0) := by decide +kernel
theorem s_23_118 {x0 x1 x2 x3 x4 : Option Value} : mw d 23 Q 118 [x0, x1, x2, x3, x4] (st) h = mw d 23 Q 119 [x0, x1, x2, x3, x4] (.int (-1) :: st) h := (mw_at mj_23_118).trans (z_iconst (by decide))
theorem mj_23_119 : mc_P 23 119 = some (.invokevirtual 157, 3, 115, 5, 3) := by decide +kernel
theorem s_23_119 {x0 x1 x2 x3 x4 : Option Value} {o : Nat} {a1 a2 : Value} : mw (d + 1) 23 Q 119 [x0, x1, x2, x3, x4] (a2 :: a1 :: .ref o :: st) h = (mg h o 5 ∧ mca st 8 ∧ mca [.ref o, a1, a2] 8 ∧ mcall d 115 [.ref o, a1, a2] h (mK (d + 1) 23 Q 122 [x0, x1, x2, x3, x4] st)) := (mw_at mj_23_119).trans ((z_invv (As := [a1, a2]) (by decide) rfl rfl).trans (congrArg (And _) (congrArg (And _) (mC_nl nl_115))))
theorem mj_23_122 : mc_P 23 122 = some (.aload_n 0, 1, 0, 0, 0) := by decide +kernel
theorem s_23_122 {x1 x2 x3 x4 : Option Value} {w : Value} : mw d 23 Q 122 [some w, x1, x2, x3, x4] (st) h = mv_a w (mw d 23 Q 123 [some w, x1, x2, x3, x4] (w :: st) h) := (mw_at mj_23_122).trans (z_aload_n rfl)
theorem mj_23_123 : mc_P 23 123 = some (.getfield 12, 3, 1, 1, 0) := by decide +kernel
theorem s_23_123 {x0 x1 x2 x3 x4 : Option Value} {o : Nat} : mw d 23 Q 123 [x0, x1, x2, x3, x4] (.ref o :: st) h = (mg h o 1 ∧ mw d 23 Q 126 [x0, x1, x2, x3, x4] (va_rf (mh_r h o 1) :: st) h) := (mw_at mj_23_123).trans (z_getr (by decide) (by decide) rfl)
theorem mj_23_126 : mc_P 23 126 = some (.getfield 167, 3, 5, 17, 0) := by decide +kernel
theorem s_23_126 {x0 x1 x2 x3 x4 : Option Value} {o : Nat} : mw d 23 Q 126 [x0, x1, x2, x3, x4] (.ref o :: st) h = (mg h o 5 ∧ mw d 23 Q 129 [x0, x1, x2, x3, x4] (.long (mh_j h o 17) :: st) h) := (mw_at mj_23_126).trans (z_getl (by decide) (by decide) rfl)
theorem mj_23_129 : mc_P 23 129 = some (.lconst 0, 1, 0, 0, 0) := by decide +kernel
theorem s_23_129 {x0 x1 x2 x3 x4 : Option Value} : mw d 23 Q 129 [x0, x1, x2, x3, x4] (st) h = mw d 23 Q 130 [x0, x1, x2, x3, x4] (.long 0 :: st) h := (mw_at mj_23_129).trans (z_lconst (by decide))
theorem mj_23_130 : mc_P 23 130 = some (.lcmp, 1, 0, 0, 0) := by decide +kernel
theorem s_23_130 {x0 x1 x2 x3 x4 : Option Value} {x w : Int64} : mw d 23 Q 130 [x0, x1, x2, x3, x4] (.long w :: .long x :: st) h = mw d 23 Q 131 [x0, x1, x2, x3, x4] (.int (lg_cmp x w) :: st) h := (mw_at mj_23_130).trans (z_lcmp)
theorem mj_23_131 : mc_P 23 131 = some (.ifCond .ne 7, 3, 0, 0, 0) := by decide +kernel
theorem s_23_131 {x0 x1 x2 x3 x4 : Option Value} {x : Int32} : mw d 23 Q 131 [x0, x1, x2, x3, x4] (.int x :: st) h = mB (¬ x = 0) (mw d 23 Q) 138 134 [x0, x1, x2, x3, x4] st h := (mw_at mj_23_131).trans (z_if_ne (by decide) rfl)
theorem mj_23_134 : mc_P 23 134 = some (.iconst 1, 1, 0, 0, 0) := by decide +kernel
theorem s_23_134 {x0 x1 x2 x3 x4 : Option Value} : mw d 23 Q 134 [x0, x1, x2, x3, x4] (st) h = mw d 23 Q 135 [x0, x1, x2, x3, x4] (.int 1 :: st) h := (mw_at mj_23_134).trans (z_iconst (by decide))
theorem mj_23_135 : mc_P 23 135 = some (.goto 4, 3, 0, 0, 0) := by decide +kernel
theorem s_23_135 {x0 x1 x2 x3 x4 : Option Value} : mw d 23 Q 135 [x0, x1, x2, x3, x4] (st) h = mw d 23 Q 139 [x0, x1, x2, x3, x4] (st) h := (mw_at mj_23_135).trans (z_goto (by decide))
theorem mj_23_138 : mc_P 23 138 = some (.iconst 0, 1, 0, 0, 0) := by decide +kernel
theorem s_23_138 {x0 x1 x2 x3 x4 : Option Value} : mw d 23 Q 138 [x0, x1, x2, x3, x4] (st) h = mw d 23 Q 139 [x0, x1, x2, x3, x4] (.int 0 :: st) h := (mw_at mj_23_138).trans (z_iconst (by decide))
theorem mj_23_139 : mc_P 23 139 = some (.istore_n 3, 1, 0, 0, 0) := by decide +kernel
theorem s_23_139 {x0 x1 x2 x3 x4 : Option Value} {w : Int32} : mw d 23 Q 139 [x0, x1, x2, x3, x4] (.int w :: st) h = mw d 23 Q 140 [x0, x1, mk2 x2, some (.int w), x4] (st) h := (mw_at mj_23_139).trans (z_istore_n (Nat.le_of_ble_eq_true rfl) (me_s1_mk (j := 2) (w := x2) rfl))
theorem mj_23_140 : mc_P 23 140 = some (.aload_n 0, 1, 0, 0, 0) := by decide +kernel
theorem s_23_140 {x1 x2 x3 x4 : Option Value} {w : Value} : mw d 23 Q 140 [some w, x1, x2, x3, x4] (st) h = mv_a w (mw d 23 Q 141 [some w, x1, x2, x3, x4] (w :: st) h) := (mw_at mj_23_140).trans (z_aload_n rfl)
theorem mj_23_141 : mc_P 23 141 = some (.getfield 12, 3, 1, 1, 0) := by decide +kernel
theorem s_23_141 {x0 x1 x2 x3 x4 : Option Value} {o : Nat} : mw d 23 Q 141 [x0, x1, x2, x3, x4] (.ref o :: st) h = (mg h o 1 ∧ mw d 23 Q 144 [x0, x1, x2, x3, x4] (va_rf (mh_r h o 1) :: st) h) := (mw_at mj_23_141).trans (z_getr (by decide) (by decide) rfl)
theorem mj_23_144 : mc_P 23 144 = some (.getfield 171, 3, 5, 18, 0) := by decide +kernel
theorem s_23_144 {x0 x1 x2 x3 x4 : Option Value} {o : Nat} : mw d 23 Q 144 [x0, x1, x2, x3, x4] (.ref o :: st) h = (mg h o 5 ∧ mw d 23 Q 147 [x0, x1, x2, x3, x4] (.long (mh_j h o 18) :: st) h) := (mw_at mj_23_144).trans (z_getl (by decide) (by decide) rfl)
theorem mj_23_147 : mc_P 23 147 = some (.lconst 0, 1, 0, 0, 0) := by decide +kernel
theorem s_23_147 {x0 x1 x2 x3 x4 : Option Value} : mw d 23 Q 147 [x0, x1, x2, x3, x4] (st) h = mw d 23 Q 148 [x0, x1, x2, x3, x4] (.long 0 :: st) h := (mw_at mj_23_147).trans (z_lconst (by decide))
theorem mj_23_148 : mc_P 23 148 = some (.lcmp, 1, 0, 0, 0) := by decide +kernel
theorem s_23_148 {x0 x1 x2 x3 x4 : Option Value} {x w : Int64} : mw d 23 Q 148 [x0, x1, x2, x3, x4] (.long w :: .long x :: st) h = mw d 23 Q 149 [x0, x1, x2, x3, x4] (.int (lg_cmp x w) :: st) h := (mw_at mj_23_148).trans (z_lcmp)
theorem mj_23_149 : mc_P 23 149 = some (.ifCond .ne 7, 3, 0, 0, 0) := by decide +kernel
theorem s_23_149 {x0 x1 x2 x3 x4 : Option Value} {x : Int32} : mw d 23 Q 149 [x0, x1, x2, x3, x4] (.int x :: st) h = mB (¬ x = 0) (mw d 23 Q) 156 152 [x0, x1, x2, x3, x4] st h := (mw_at mj_23_149).trans (z_if_ne (by decide) rfl)
theorem mj_23_152 : mc_P 23 152 = some (.iconst 1, 1, 0, 0, 0) := by decide +kernel
theorem s_23_152 {x0 x1 x2 x3 x4 : Option Value} : mw d 23 Q 152 [x0, x1, x2, x3, x4] (st) h = mw d 23 Q 153 [x0, x1, x2, x3, x4] (.int 1 :: st) h := (mw_at mj_23_152).trans (z_iconst (by decide))
theorem mj_23_153 : mc_P 23 153 = some (.goto 4, 3, 0, 0, 0) := by decide +kernel
theorem s_23_153 {x0 x1 x2 x3 x4 : Option Value} : mw d 23 Q 153 [x0, x1, x2, x3, x4] (st) h = mw d 23 Q 157 [x0, x1, x2, x3, x4] (st) h := (mw_at mj_23_153).trans (z_goto (by decide))
theorem mj_23_156 : mc_P 23 156 = some (.iconst 0, 1, 0, 0, 0) := by decide +kernel
theorem s_23_156 {x0 x1 x2 x3 x4 : Option Value} : mw d 23 Q 156 [x0, x1, x2, x3, x4] (st) h = mw d 23 Q 157 [x0, x1, x2, x3, x4] (.int 0 :: st) h := (mw_at mj_23_156).trans (z_iconst (by decide))
theorem mj_23_157 : mc_P 23 157 = some (.istore 4, 2, 0, 0, 0) := by decide +kernel
theorem s_23_157 {x0 x1 x2 x3 x4 : Option Value} {w : Int32} : mw d 23 Q 157 [x0, x1, x2, x3, x4] (.int w :: st) h = mw d 23 Q 159 [x0, x1, x2, mk2 x3, some (.int w)] (st) h := (mw_at mj_23_157).trans (z_istore (Nat.le_of_ble_eq_true rfl) (me_s1_mk (j := 3) (w := x3) rfl))
theorem mj_23_159 : mc_P 23 159 = some (.iload_n 3, 1, 0, 0, 0) := by decide +kernel
theorem s_23_159 {x0 x1 x2 x4 : Option Value} {w : Value} : mw d 23 Q 159 [x0, x1, x2, some w, x4] (st) h = mv_i w (mw d 23 Q 160 [x0, x1, x2, some w, x4] (w :: st) h) := (mw_at mj_23_159).trans (z_iload_n rfl)
theorem mj_23_160 : mc_P 23 160 = some (.ifCond .ne 8, 3, 0, 0, 0) := by decide +kernel
theorem s_23_160 {x0 x1 x2 x3 x4 : Option Value} {x : Int32} : mw d 23 Q 160 [x0, x1, x2, x3, x4] (.int x :: st) h = mB (¬ x = 0) (mw d 23 Q) 168 163 [x0, x1, x2, x3, x4] st h := (mw_at mj_23_160).trans (z_if_ne (by decide) rfl)
theorem mj_23_163 : mc_P 23 163 = some (.iload 4, 2, 0, 0, 0) := by decide +kernel
theorem s_23_163 {x0 x1 x2 x3 : Option Value} {w : Value} : mw d 23 Q 163 [x0, x1, x2, x3, some w] (st) h = mv_i w (mw d 23 Q 165 [x0, x1, x2, x3, some w] (w :: st) h) := (mw_at mj_23_163).trans (z_iload rfl)
theorem mj_23_165 : mc_P 23 165 = some (.ifCond .eq 20, 3, 0, 0, 0) := by decide +kernel
theorem s_23_165 {x0 x1 x2 x3 x4 : Option Value} {x : Int32} : mw d 23 Q 165 [x0, x1, x2, x3, x4] (.int x :: st) h = mB (x = 0) (mw d 23 Q) 185 168 [x0, x1, x2, x3, x4] st h := (mw_at mj_23_165).trans (z_if_eq (by decide) rfl)
theorem mj_23_168 : mc_P 23 168 = some (.aload_n 0, 1, 0, 0, 0) := by decide +kernel
theorem s_23_168 {x1 x2 x3 x4 : Option Value} {w : Value} : mw d 23 Q 168 [some w, x1, x2, x3, x4] (st) h = mv_a w (mw d 23 Q 169 [some w, x1, x2, x3, x4] (w :: st) h) := (mw_at mj_23_168).trans (z_aload_n rfl)
theorem mj_23_169 : mc_P 23 169 = some (.aload_n 1, 1, 0, 0, 0) := by decide +kernel
theorem s_23_169 {x0 x2 x3 x4 : Option Value} {w : Value} : mw d 23 Q 169 [x0, some w, x2, x3, x4] (st) h = mv_a w (mw d 23 Q 170 [x0, some w, x2, x3, x4] (w :: st) h) := (mw_at mj_23_169).trans (z_aload_n rfl)
theorem mj_23_170 : mc_P 23 170 = some (.iload_n 3, 1, 0, 0, 0) := by decide +kernel
theorem s_23_170 {x0 x1 x2 x4 : Option Value} {w : Value} : mw d 23 Q 170 [x0, x1, x2, some w, x4] (st) h = mv_i w (mw d 23 Q 171 [x0, x1, x2, some w, x4] (w :: st) h) := (mw_at mj_23_170).trans (z_iload_n rfl)
theorem mj_23_171 : mc_P 23 171 = some (.ifCond .eq 7, 3, 0, 0, 0) := by decide +kernel
theorem s_23_171 {x0 x1 x2 x3 x4 : Option Value} {x : Int32} : mw d 23 Q 171 [x0, x1, x2, x3, x4] (.int x :: st) h = mB (x = 0) (mw d 23 Q) 178 174 [x0, x1, x2, x3, x4] st h := (mw_at mj_23_171).trans (z_if_eq (by decide) rfl)
theorem mj_23_174 : mc_P 23 174 = some (.iconst 1, 1, 0, 0, 0) := by decide +kernel
theorem s_23_174 {x0 x1 x2 x3 x4 : Option Value} : mw d 23 Q 174 [x0, x1, x2, x3, x4] (st) h = mw d 23 Q 175 [x0, x1, x2, x3, x4] (.int 1 :: st) h := (mw_at mj_23_174).trans (z_iconst (by decide))
theorem mj_23_175 : mc_P 23 175 = some (.goto 4, 3, 0, 0, 0) := by decide +kernel
theorem s_23_175 {x0 x1 x2 x3 x4 : Option Value} : mw d 23 Q 175 [x0, x1, x2, x3, x4] (st) h = mw d 23 Q 179 [x0, x1, x2, x3, x4] (st) h := (mw_at mj_23_175).trans (z_goto (by decide))
theorem mj_23_178 : mc_P 23 178 = some (.iconst 0, 1, 0, 0, 0) := by decide +kernel
theorem s_23_178 {x0 x1 x2 x3 x4 : Option Value} : mw d 23 Q 178 [x0, x1, x2, x3, x4] (st) h = mw d 23 Q 179 [x0, x1, x2, x3, x4] (.int 0 :: st) h := (mw_at mj_23_178).trans (z_iconst (by decide))
theorem mj_23_179 : mc_P 23 179 = some (.ldc2_w 229, 3, 0, 0, (-1)) := by decide +kernel
theorem s_23_179 {x0 x1 x2 x3 x4 : Option Value} : mw d 23 Q 179 [x0, x1, x2, x3, x4] (st) h = mw d 23 Q 182 [x0, x1, x2, x3, x4] (.long (-1) :: st) h := (mw_at mj_23_179).trans (z_ldc2 (by decide))
theorem mj_23_182 : mc_P 23 182 = some (.invokevirtual 231, 3, 24, 1, 4) := by decide +kernel
theorem s_23_182 {x0 x1 x2 x3 x4 : Option Value} {o : Nat} {a1 a2 a3 : Value} : mw (d + 1) 23 Q 182 [x0, x1, x2, x3, x4] (a3 :: a2 :: a1 :: .ref o :: st) h = (mg h o 1 ∧ mca st 8 ∧ mca [.ref o, a1, a2, a3] 11 ∧ mcall d 24 [.ref o, a1, a2, a3] h (mK (d + 1) 23 Q 185 [x0, x1, x2, x3, x4] st)) := (mw_at mj_23_182).trans ((z_invv (As := [a1, a2, a3]) (by decide) rfl rfl).trans (congrArg (And _) (congrArg (And _) (mC_nl nl_24))))
theorem mj_23_185 : mc_P 23 185 = some (.return_, 1, 0, 0, 0) := by decide +kernel
theorem s_23_185 {x0 x1 x2 x3 x4 : Option Value} : mw d 23 Q 185 [x0, x1, x2, x3, x4] ([]) h = Q none h := (mw_at mj_23_185).trans (z_vret)
theorem e_23 {a0 : Nat} {a1 : Nat} {a2 : Int32} : mcall d 23 [.ref a0, .ref a1, .int a2] h Q = mw d 23 Q 0 [some (.ref a0), some (.ref a1), some (.int a2), none, none] [] h := by
  show mw d 23 Q 0 (me_en (mc_nl 23) _) [] h = _
  rw [nl_23]; rfl

/-! InvariantDesk$Effect.meet(LInvariantDesk$State;IJ)V -/
theorem mj_24_0 : mc_P 24 0 = some (.aload_n 0, 1, 0, 0, 0) := by decide +kernel
theorem s_24_0 {x1 x2 x3 x4 x5 x6 x7 x8 x9 x10 : Option Value} {w : Value} : mw d 24 Q 0 [some w, x1, x2, x3, x4, x5, x6, x7, x8, x9, x10] (st) h = mv_a w (mw d 24 Q 1 [some w, x1, x2, x3, x4, x5, x6, x7, x8, x9, x10] (w :: st) h) := (mw_at mj_24_0).trans (z_aload_n rfl)
theorem mj_24_1 : mc_P 24 1 = some (.getfield 12, 3, 1, 1, 0) := by decide +kernel
theorem s_24_1 {x0 x1 x2 x3 x4 x5 x6 x7 x8 x9 x10 : Option Value} {o : Nat} : mw d 24 Q 1 [x0, x1, x2, x3, x4, x5, x6, x7, x8, x9, x10] (.ref o :: st) h = (mg h o 1 ∧ mw d 24 Q 4 [x0, x1, x2, x3, x4, x5, x6, x7, x8, x9, x10] (va_rf (mh_r h o 1) :: st) h) := (mw_at mj_24_1).trans (z_getr (by decide) (by decide) rfl)
theorem mj_24_4 : mc_P 24 4 = some (.iconst (-1), 1, 0, 0, 0) := by decide +kernel
theorem s_24_4 {x0 x1 x2 x3 x4 x5 x6 x7 x8 x9 x10 : Option Value} : mw d 24 Q 4 [x0, x1, x2, x3, x4, x5, x6, x7, x8, x9, x10] (st) h = mw d 24 Q 5 [x0, x1, x2, x3, x4, x5, x6, x7, x8, x9, x10] (.int (-1) :: st) h := (mw_at mj_24_4).trans (z_iconst (by decide))
theorem mj_24_5 : mc_P 24 5 = some (.iconst (-1), 1, 0, 0, 0) := by decide +kernel
theorem s_24_5 {x0 x1 x2 x3 x4 x5 x6 x7 x8 x9 x10 : Option Value} : mw d 24 Q 5 [x0, x1, x2, x3, x4, x5, x6, x7, x8, x9, x10] (st) h = mw d 24 Q 6 [x0, x1, x2, x3, x4, x5, x6, x7, x8, x9, x10] (.int (-1) :: st) h := (mw_at mj_24_5).trans (z_iconst (by decide))
theorem mj_24_6 : mc_P 24 6 = some (.invokevirtual 157, 3, 115, 5, 3) := by decide +kernel
theorem s_24_6 {x0 x1 x2 x3 x4 x5 x6 x7 x8 x9 x10 : Option Value} {o : Nat} {a1 a2 : Value} : mw (d + 1) 24 Q 6 [x0, x1, x2, x3, x4, x5, x6, x7, x8, x9, x10] (a2 :: a1 :: .ref o :: st) h = (mg h o 5 ∧ mca st 8 ∧ mca [.ref o, a1, a2] 8 ∧ mcall d 115 [.ref o, a1, a2] h (mK (d + 1) 24 Q 9 [x0, x1, x2, x3, x4, x5, x6, x7, x8, x9, x10] st)) := (mw_at mj_24_6).trans ((z_invv (As := [a1, a2]) (by decide) rfl rfl).trans (congrArg (And _) (congrArg (And _) (mC_nl nl_115))))
theorem mj_24_9 : mc_P 24 9 = some (.iload_n 2, 1, 0, 0, 0) := by decide +kernel
theorem s_24_9 {x0 x1 x3 x4 x5 x6 x7 x8 x9 x10 : Option Value} {w : Value} : mw d 24 Q 9 [x0, x1, some w, x3, x4, x5, x6, x7, x8, x9, x10] (st) h = mv_i w (mw d 24 Q 10 [x0, x1, some w, x3, x4, x5, x6, x7, x8, x9, x10] (w :: st) h) := (mw_at mj_24_9).trans (z_iload_n rfl)
theorem mj_24_10 : mc_P 24 10 = some (.ifCond .ne 13, 3, 0, 0, 0) := by decide +kernel
theorem s_24_10 {x0 x1 x2 x3 x4 x5 x6 x7 x8 x9 x10 : Option Value} {x : Int32} : mw d 24 Q 10 [x0, x1, x2, x3, x4, x5, x6, x7, x8, x9, x10] (.int x :: st) h = mB (¬ x = 0) (mw d 24 Q) 23 13 [x0, x1, x2, x3, x4, x5, x6, x7, x8, x9, x10] st h := (mw_at mj_24_10).trans (z_if_ne (by decide) rfl)
theorem mj_24_13 : mc_P 24 13 = some (.aload_n 0, 1, 0, 0, 0) := by decide +kernel
theorem s_24_13 {x1 x2 x3 x4 x5 x6 x7 x8 x9 x10 : Option Value} {w : Value} : mw d 24 Q 13 [some w, x1, x2, x3, x4, x5, x6, x7, x8, x9, x10] (st) h = mv_a w (mw d 24 Q 14 [some w, x1, x2, x3, x4, x5, x6, x7, x8, x9, x10] (w :: st) h) := (mw_at mj_24_13).trans (z_aload_n rfl)
theorem mj_24_14 : mc_P 24 14 = some (.getfield 12, 3, 1, 1, 0) := by decide +kernel
theorem s_24_14 {x0 x1 x2 x3 x4 x5 x6 x7 x8 x9 x10 : Option Value} {o : Nat} : mw d 24 Q 14 [x0, x1, x2, x3, x4, x5, x6, x7, x8, x9, x10] (.ref o :: st) h = (mg h o 1 ∧ mw d 24 Q 17 [x0, x1, x2, x3, x4, x5, x6, x7, x8, x9, x10] (va_rf (mh_r h o 1) :: st) h) := (mw_at mj_24_14).trans (z_getr (by decide) (by decide) rfl)
theorem mj_24_17 : mc_P 24 17 = some (.getfield 167, 3, 5, 17, 0) := by decide +kernel
theorem s_24_17 {x0 x1 x2 x3 x4 x5 x6 x7 x8 x9 x10 : Option Value} {o : Nat} : mw d 24 Q 17 [x0, x1, x2, x3, x4, x5, x6, x7, x8, x9, x10] (.ref o :: st) h = (mg h o 5 ∧ mw d 24 Q 20 [x0, x1, x2, x3, x4, x5, x6, x7, x8, x9, x10] (.long (mh_j h o 17) :: st) h) := (mw_at mj_24_17).trans (z_getl (by decide) (by decide) rfl)
theorem mj_24_20 : mc_P 24 20 = some (.goto 11, 3, 0, 0, 0) := by decide +kernel
theorem s_24_20 {x0 x1 x2 x3 x4 x5 x6 x7 x8 x9 x10 : Option Value} : mw d 24 Q 20 [x0, x1, x2, x3, x4, x5, x6, x7, x8, x9, x10] (st) h = mw d 24 Q 31 [x0, x1, x2, x3, x4, x5, x6, x7, x8, x9, x10] (st) h := (mw_at mj_24_20).trans (z_goto (by decide))
theorem mj_24_23 : mc_P 24 23 = some (.aload_n 0, 1, 0, 0, 0) := by decide +kernel
theorem s_24_23 {x1 x2 x3 x4 x5 x6 x7 x8 x9 x10 : Option Value} {w : Value} : mw d 24 Q 23 [some w, x1, x2, x3, x4, x5, x6, x7, x8, x9, x10] (st) h = mv_a w (mw d 24 Q 24 [some w, x1, x2, x3, x4, x5, x6, x7, x8, x9, x10] (w :: st) h) := (mw_at mj_24_23).trans (z_aload_n rfl)
theorem mj_24_24 : mc_P 24 24 = some (.getfield 12, 3, 1, 1, 0) := by decide +kernel
theorem s_24_24 {x0 x1 x2 x3 x4 x5 x6 x7 x8 x9 x10 : Option Value} {o : Nat} : mw d 24 Q 24 [x0, x1, x2, x3, x4, x5, x6, x7, x8, x9, x10] (.ref o :: st) h = (mg h o 1 ∧ mw d 24 Q 27 [x0, x1, x2, x3, x4, x5, x6, x7, x8, x9, x10] (va_rf (mh_r h o 1) :: st) h) := (mw_at mj_24_24).trans (z_getr (by decide) (by decide) rfl)
theorem mj_24_27 : mc_P 24 27 = some (.getfield 171, 3, 5, 18, 0) := by decide +kernel
theorem s_24_27 {x0 x1 x2 x3 x4 x5 x6 x7 x8 x9 x10 : Option Value} {o : Nat} : mw d 24 Q 27 [x0, x1, x2, x3, x4, x5, x6, x7, x8, x9, x10] (.ref o :: st) h = (mg h o 5 ∧ mw d 24 Q 30 [x0, x1, x2, x3, x4, x5, x6, x7, x8, x9, x10] (.long (mh_j h o 18) :: st) h) := (mw_at mj_24_27).trans (z_getl (by decide) (by decide) rfl)
theorem mj_24_30 : mc_P 24 30 = some (.lneg, 1, 0, 0, 0) := by decide +kernel
theorem s_24_30 {x0 x1 x2 x3 x4 x5 x6 x7 x8 x9 x10 : Option Value} {x : Int64} : mw d 24 Q 30 [x0, x1, x2, x3, x4, x5, x6, x7, x8, x9, x10] (.long x :: st) h = mw d 24 Q 31 [x0, x1, x2, x3, x4, x5, x6, x7, x8, x9, x10] (.long (-x) :: st) h := (mw_at mj_24_30).trans (z_lneg)
theorem mj_24_31 : mc_P 24 31 = some (.lload_n 3, 1, 0, 0, 0) := by decide +kernel
theorem s_24_31 {x0 x1 x2 x4 x5 x6 x7 x8 x9 x10 : Option Value} {w : Value} : mw d 24 Q 31 [x0, x1, x2, some w, x4, x5, x6, x7, x8, x9, x10] (st) h = mv_l w (mw d 24 Q 32 [x0, x1, x2, some w, x4, x5, x6, x7, x8, x9, x10] (w :: st) h) := (mw_at mj_24_31).trans (z_lload_n rfl)
theorem mj_24_32 : mc_P 24 32 = some (.lcmp, 1, 0, 0, 0) := by decide +kernel
theorem s_24_32 {x0 x1 x2 x3 x4 x5 x6 x7 x8 x9 x10 : Option Value} {x w : Int64} : mw d 24 Q 32 [x0, x1, x2, x3, x4, x5, x6, x7, x8, x9, x10] (.long w :: .long x :: st) h = mw d 24 Q 33 [x0, x1, x2, x3, x4, x5, x6, x7, x8, x9, x10] (.int (lg_cmp x w) :: st) h := (mw_at mj_24_32).trans (z_lcmp)
theorem mj_24_33 : mc_P 24 33 = some (.ifCond .le 9, 3, 0, 0, 0) := by decide +kernel
theorem s_24_33 {x0 x1 x2 x3 x4 x5 x6 x7 x8 x9 x10 : Option Value} {x : Int32} : mw d 24 Q 33 [x0, x1, x2, x3, x4, x5, x6, x7, x8, x9, x10] (.int x :: st) h = mB (x ≤ 0) (mw d 24 Q) 42 36 [x0, x1, x2, x3, x4, x5, x6, x7, x8, x9, x10] st h := (mw_at mj_24_33).trans (z_if_le (by decide) rfl)
theorem mj_24_36 : mc_P 24 36 = some (.aload_n 1, 1, 0, 0, 0) := by decide +kernel
theorem s_24_36 {x0 x2 x3 x4 x5 x6 x7 x8 x9 x10 : Option Value} {w : Value} : mw d 24 Q 36 [x0, some w, x2, x3, x4, x5, x6, x7, x8, x9, x10] (st) h = mv_a w (mw d 24 Q 37 [x0, some w, x2, x3, x4, x5, x6, x7, x8, x9, x10] (w :: st) h) := (mw_at mj_24_36).trans (z_aload_n rfl)
theorem mj_24_37 : mc_P 24 37 = some (.iconst 1, 1, 0, 0, 0) := by decide +kernel
theorem s_24_37 {x0 x1 x2 x3 x4 x5 x6 x7 x8 x9 x10 : Option Value} : mw d 24 Q 37 [x0, x1, x2, x3, x4, x5, x6, x7, x8, x9, x10] (st) h = mw d 24 Q 38 [x0, x1, x2, x3, x4, x5, x6, x7, x8, x9, x10] (.int 1 :: st) h := (mw_at mj_24_37).trans (z_iconst (by decide))
theorem mj_24_38 : mc_P 24 38 = some (.putfield 98, 3, 8, 0, 0) := by decide +kernel
theorem s_24_38 {x0 x1 x2 x3 x4 x5 x6 x7 x8 x9 x10 : Option Value} {o : Nat} {w : Int32} : mw d 24 Q 38 [x0, x1, x2, x3, x4, x5, x6, x7, x8, x9, x10] (.int w :: .ref o :: st) h = (mg h o 8 ∧ (w = 0 ∨ w = 1) ∧ mw d 24 Q 41 [x0, x1, x2, x3, x4, x5, x6, x7, x8, x9, x10] (st) (mh_si h o 0 w)) := (mw_at mj_24_38).trans (z_putz (by decide) (by decide) rfl)
theorem mj_24_41 : mc_P 24 41 = some (.return_, 1, 0, 0, 0) := by decide +kernel
theorem s_24_41 {x0 x1 x2 x3 x4 x5 x6 x7 x8 x9 x10 : Option Value} : mw d 24 Q 41 [x0, x1, x2, x3, x4, x5, x6, x7, x8, x9, x10] ([]) h = Q none h := (mw_at mj_24_41).trans (z_vret)
theorem mj_24_42 : mc_P 24 42 = some (.iconst 0, 1, 0, 0, 0) := by decide +kernel
theorem s_24_42 {x0 x1 x2 x3 x4 x5 x6 x7 x8 x9 x10 : Option Value} : mw d 24 Q 42 [x0, x1, x2, x3, x4, x5, x6, x7, x8, x9, x10] (st) h = mw d 24 Q 43 [x0, x1, x2, x3, x4, x5, x6, x7, x8, x9, x10] (.int 0 :: st) h := (mw_at mj_24_42).trans (z_iconst (by decide))
theorem mj_24_43 : mc_P 24 43 = some (.istore 5, 2, 0, 0, 0) := by decide +kernel
theorem s_24_43 {x0 x1 x2 x3 x4 x5 x6 x7 x8 x9 x10 : Option Value} {w : Int32} : mw d 24 Q 43 [x0, x1, x2, x3, x4, x5, x6, x7, x8, x9, x10] (.int w :: st) h = mw d 24 Q 45 [x0, x1, x2, x3, mk2 x4, some (.int w), x6, x7, x8, x9, x10] (st) h := (mw_at mj_24_43).trans (z_istore (Nat.le_of_ble_eq_true rfl) (me_s1_mk (j := 4) (w := x4) rfl))
theorem mj_24_45 : mc_P 24 45 = some (.iload 5, 2, 0, 0, 0) := by decide +kernel
theorem s_24_45 {x0 x1 x2 x3 x4 x6 x7 x8 x9 x10 : Option Value} {w : Value} : mw d 24 Q 45 [x0, x1, x2, x3, x4, some w, x6, x7, x8, x9, x10] (st) h = mv_i w (mw d 24 Q 47 [x0, x1, x2, x3, x4, some w, x6, x7, x8, x9, x10] (w :: st) h) := (mw_at mj_24_45).trans (z_iload rfl)
theorem mj_24_47 : mc_P 24 47 = some (.bipush 12, 2, 0, 0, 0) := by decide +kernel
theorem s_24_47 {x0 x1 x2 x3 x4 x5 x6 x7 x8 x9 x10 : Option Value} : mw d 24 Q 47 [x0, x1, x2, x3, x4, x5, x6, x7, x8, x9, x10] (st) h = mw d 24 Q 49 [x0, x1, x2, x3, x4, x5, x6, x7, x8, x9, x10] (.int 12 :: st) h := (mw_at mj_24_47).trans (z_bipush (by decide))
theorem mj_24_49 : mc_P 24 49 = some (.if_icmp .ge 162, 3, 0, 0, 0) := by decide +kernel
theorem s_24_49 {x0 x1 x2 x3 x4 x5 x6 x7 x8 x9 x10 : Option Value} {x w : Int32} : mw d 24 Q 49 [x0, x1, x2, x3, x4, x5, x6, x7, x8, x9, x10] (.int w :: .int x :: st) h = mB (w ≤ x) (mw d 24 Q) 211 52 [x0, x1, x2, x3, x4, x5, x6, x7, x8, x9, x10] st h := (mw_at mj_24_49).trans (z_icmp_ge (by decide) rfl)
theorem mj_24_52 : mc_P 24 52 = some (.iload 5, 2, 0, 0, 0) := by decide +kernel
theorem s_24_52 {x0 x1 x2 x3 x4 x6 x7 x8 x9 x10 : Option Value} {w : Value} : mw d 24 Q 52 [x0, x1, x2, x3, x4, some w, x6, x7, x8, x9, x10] (st) h = mv_i w (mw d 24 Q 54 [x0, x1, x2, x3, x4, some w, x6, x7, x8, x9, x10] (w :: st) h) := (mw_at mj_24_52).trans (z_iload rfl)
theorem mj_24_54 : mc_P 24 54 = some (.istore 6, 2, 0, 0, 0) := by decide +kernel
theorem s_24_54 {x0 x1 x2 x3 x4 x5 x6 x7 x8 x9 x10 : Option Value} {w : Int32} : mw d 24 Q 54 [x0, x1, x2, x3, x4, x5, x6, x7, x8, x9, x10] (.int w :: st) h = mw d 24 Q 56 [x0, x1, x2, x3, x4, mk2 x5, some (.int w), x7, x8, x9, x10] (st) h := (mw_at mj_24_54).trans (z_istore (Nat.le_of_ble_eq_true rfl) (me_s1_mk (j := 5) (w := x5) rfl))
theorem mj_24_56 : mc_P 24 56 = some (.iload 6, 2, 0, 0, 0) := by decide +kernel
theorem s_24_56 {x0 x1 x2 x3 x4 x5 x7 x8 x9 x10 : Option Value} {w : Value} : mw d 24 Q 56 [x0, x1, x2, x3, x4, x5, some w, x7, x8, x9, x10] (st) h = mv_i w (mw d 24 Q 58 [x0, x1, x2, x3, x4, x5, some w, x7, x8, x9, x10] (w :: st) h) := (mw_at mj_24_56).trans (z_iload rfl)
theorem mj_24_58 : mc_P 24 58 = some (.bipush 12, 2, 0, 0, 0) := by decide +kernel
theorem s_24_58 {x0 x1 x2 x3 x4 x5 x6 x7 x8 x9 x10 : Option Value} : mw d 24 Q 58 [x0, x1, x2, x3, x4, x5, x6, x7, x8, x9, x10] (st) h = mw d 24 Q 60 [x0, x1, x2, x3, x4, x5, x6, x7, x8, x9, x10] (.int 12 :: st) h := (mw_at mj_24_58).trans (z_bipush (by decide))
theorem mj_24_60 : mc_P 24 60 = some (.if_icmp .ge 145, 3, 0, 0, 0) := by decide +kernel
theorem s_24_60 {x0 x1 x2 x3 x4 x5 x6 x7 x8 x9 x10 : Option Value} {x w : Int32} : mw d 24 Q 60 [x0, x1, x2, x3, x4, x5, x6, x7, x8, x9, x10] (.int w :: .int x :: st) h = mB (w ≤ x) (mw d 24 Q) 205 63 [x0, x1, x2, x3, x4, x5, x6, x7, x8, x9, x10] st h := (mw_at mj_24_60).trans (z_icmp_ge (by decide) rfl)
theorem mj_24_63 : mc_P 24 63 = some (.aload_n 0, 1, 0, 0, 0) := by decide +kernel
theorem s_24_63 {x1 x2 x3 x4 x5 x6 x7 x8 x9 x10 : Option Value} {w : Value} : mw d 24 Q 63 [some w, x1, x2, x3, x4, x5, x6, x7, x8, x9, x10] (st) h = mv_a w (mw d 24 Q 64 [some w, x1, x2, x3, x4, x5, x6, x7, x8, x9, x10] (w :: st) h) := (mw_at mj_24_63).trans (z_aload_n rfl)
theorem mj_24_64 : mc_P 24 64 = some (.getfield 12, 3, 1, 1, 0) := by decide +kernel
theorem s_24_64 {x0 x1 x2 x3 x4 x5 x6 x7 x8 x9 x10 : Option Value} {o : Nat} : mw d 24 Q 64 [x0, x1, x2, x3, x4, x5, x6, x7, x8, x9, x10] (.ref o :: st) h = (mg h o 1 ∧ mw d 24 Q 67 [x0, x1, x2, x3, x4, x5, x6, x7, x8, x9, x10] (va_rf (mh_r h o 1) :: st) h) := (mw_at mj_24_64).trans (z_getr (by decide) (by decide) rfl)
theorem mj_24_67 : mc_P 24 67 = some (.iload 5, 2, 0, 0, 0) := by decide +kernel
theorem s_24_67 {x0 x1 x2 x3 x4 x6 x7 x8 x9 x10 : Option Value} {w : Value} : mw d 24 Q 67 [x0, x1, x2, x3, x4, some w, x6, x7, x8, x9, x10] (st) h = mv_i w (mw d 24 Q 69 [x0, x1, x2, x3, x4, some w, x6, x7, x8, x9, x10] (w :: st) h) := (mw_at mj_24_67).trans (z_iload rfl)
theorem mj_24_69 : mc_P 24 69 = some (.invokevirtual 154, 3, 114, 5, 2) := by decide +kernel
theorem s_24_69 {x0 x1 x2 x3 x4 x5 x6 x7 x8 x9 x10 : Option Value} {o : Nat} {a1 : Value} : mw (d + 1) 24 Q 69 [x0, x1, x2, x3, x4, x5, x6, x7, x8, x9, x10] (a1 :: .ref o :: st) h = (mg h o 5 ∧ mca st 8 ∧ mca [.ref o, a1] 2 ∧ mcall d 114 [.ref o, a1] h (mK (d + 1) 24 Q 72 [x0, x1, x2, x3, x4, x5, x6, x7, x8, x9, x10] st)) := (mw_at mj_24_69).trans ((z_invv (As := [a1]) (by decide) rfl rfl).trans (congrArg (And _) (congrArg (And _) (mC_nl nl_114))))
theorem mj_24_72 : mc_P 24 72 = some (.ifCond .eq 133, 3, 0, 0, 0) := by decide +kernel
theorem s_24_72 {x0 x1 x2 x3 x4 x5 x6 x7 x8 x9 x10 : Option Value} {x : Int32} : mw d 24 Q 72 [x0, x1, x2, x3, x4, x5, x6, x7, x8, x9, x10] (.int x :: st) h = mB (x = 0) (mw d 24 Q) 205 75 [x0, x1, x2, x3, x4, x5, x6, x7, x8, x9, x10] st h := (mw_at mj_24_72).trans (z_if_eq (by decide) rfl)
theorem mj_24_75 : mc_P 24 75 = some (.aload_n 0, 1, 0, 0, 0) := by decide +kernel
theorem s_24_75 {x1 x2 x3 x4 x5 x6 x7 x8 x9 x10 : Option Value} {w : Value} : mw d 24 Q 75 [some w, x1, x2, x3, x4, x5, x6, x7, x8, x9, x10] (st) h = mv_a w (mw d 24 Q 76 [some w, x1, x2, x3, x4, x5, x6, x7, x8, x9, x10] (w :: st) h) := (mw_at mj_24_75).trans (z_aload_n rfl)
theorem mj_24_76 : mc_P 24 76 = some (.getfield 12, 3, 1, 1, 0) := by decide +kernel
theorem s_24_76 {x0 x1 x2 x3 x4 x5 x6 x7 x8 x9 x10 : Option Value} {o : Nat} : mw d 24 Q 76 [x0, x1, x2, x3, x4, x5, x6, x7, x8, x9, x10] (.ref o :: st) h = (mg h o 1 ∧ mw d 24 Q 79 [x0, x1, x2, x3, x4, x5, x6, x7, x8, x9, x10] (va_rf (mh_r h o 1) :: st) h) := (mw_at mj_24_76).trans (z_getr (by decide) (by decide) rfl)
theorem mj_24_79 : mc_P 24 79 = some (.iload 6, 2, 0, 0, 0) := by decide +kernel
theorem s_24_79 {x0 x1 x2 x3 x4 x5 x7 x8 x9 x10 : Option Value} {w : Value} : mw d 24 Q 79 [x0, x1, x2, x3, x4, x5, some w, x7, x8, x9, x10] (st) h = mv_i w (mw d 24 Q 81 [x0, x1, x2, x3, x4, x5, some w, x7, x8, x9, x10] (w :: st) h) := (mw_at mj_24_79).trans (z_iload rfl)
theorem mj_24_81 : mc_P 24 81 = some (.invokevirtual 154, 3, 114, 5, 2) := by decide +kernel
theorem s_24_81 {x0 x1 x2 x3 x4 x5 x6 x7 x8 x9 x10 : Option Value} {o : Nat} {a1 : Value} : mw (d + 1) 24 Q 81 [x0, x1, x2, x3, x4, x5, x6, x7, x8, x9, x10] (a1 :: .ref o :: st) h = (mg h o 5 ∧ mca st 8 ∧ mca [.ref o, a1] 2 ∧ mcall d 114 [.ref o, a1] h (mK (d + 1) 24 Q 84 [x0, x1, x2, x3, x4, x5, x6, x7, x8, x9, x10] st)) := (mw_at mj_24_81).trans ((z_invv (As := [a1]) (by decide) rfl rfl).trans (congrArg (And _) (congrArg (And _) (mC_nl nl_114))))
theorem mj_24_84 : mc_P 24 84 = some (.ifCond .eq 115, 3, 0, 0, 0) := by decide +kernel
theorem s_24_84 {x0 x1 x2 x3 x4 x5 x6 x7 x8 x9 x10 : Option Value} {x : Int32} : mw d 24 Q 84 [x0, x1, x2, x3, x4, x5, x6, x7, x8, x9, x10] (.int x :: st) h = mB (x = 0) (mw d 24 Q) 199 87 [x0, x1, x2, x3, x4, x5, x6, x7, x8, x9, x10] st h := (mw_at mj_24_84).trans (z_if_eq (by decide) rfl)
theorem mj_24_87 : mc_P 24 87 = some (.aload_n 0, 1, 0, 0, 0) := by decide +kernel
theorem s_24_87 {x1 x2 x3 x4 x5 x6 x7 x8 x9 x10 : Option Value} {w : Value} : mw d 24 Q 87 [some w, x1, x2, x3, x4, x5, x6, x7, x8, x9, x10] (st) h = mv_a w (mw d 24 Q 88 [some w, x1, x2, x3, x4, x5, x6, x7, x8, x9, x10] (w :: st) h) := (mw_at mj_24_87).trans (z_aload_n rfl)
theorem mj_24_88 : mc_P 24 88 = some (.getfield 12, 3, 1, 1, 0) := by decide +kernel
theorem s_24_88 {x0 x1 x2 x3 x4 x5 x6 x7 x8 x9 x10 : Option Value} {o : Nat} : mw d 24 Q 88 [x0, x1, x2, x3, x4, x5, x6, x7, x8, x9, x10] (.ref o :: st) h = (mg h o 1 ∧ mw d 24 Q 91 [x0, x1, x2, x3, x4, x5, x6, x7, x8, x9, x10] (va_rf (mh_r h o 1) :: st) h) := (mw_at mj_24_88).trans (z_getr (by decide) (by decide) rfl)
theorem mj_24_91 : mc_P 24 91 = some (.iload 5, 2, 0, 0, 0) := by decide +kernel
theorem s_24_91 {x0 x1 x2 x3 x4 x6 x7 x8 x9 x10 : Option Value} {w : Value} : mw d 24 Q 91 [x0, x1, x2, x3, x4, some w, x6, x7, x8, x9, x10] (st) h = mv_i w (mw d 24 Q 93 [x0, x1, x2, x3, x4, some w, x6, x7, x8, x9, x10] (w :: st) h) := (mw_at mj_24_91).trans (z_iload rfl)
theorem mj_24_93 : mc_P 24 93 = some (.iload 6, 2, 0, 0, 0) := by decide +kernel
theorem s_24_93 {x0 x1 x2 x3 x4 x5 x7 x8 x9 x10 : Option Value} {w : Value} : mw d 24 Q 93 [x0, x1, x2, x3, x4, x5, some w, x7, x8, x9, x10] (st) h = mv_i w (mw d 24 Q 95 [x0, x1, x2, x3, x4, x5, some w, x7, x8, x9, x10] (w :: st) h) := (mw_at mj_24_93).trans (z_iload rfl)
theorem mj_24_95 : mc_P 24 95 = some (.iload 5, 2, 0, 0, 0) := by decide +kernel
theorem s_24_95 {x0 x1 x2 x3 x4 x6 x7 x8 x9 x10 : Option Value} {w : Value} : mw d 24 Q 95 [x0, x1, x2, x3, x4, some w, x6, x7, x8, x9, x10] (st) h = mv_i w (mw d 24 Q 97 [x0, x1, x2, x3, x4, some w, x6, x7, x8, x9, x10] (w :: st) h) := (mw_at mj_24_95).trans (z_iload rfl)
theorem mj_24_97 : mc_P 24 97 = some (.if_icmp .ne 7, 3, 0, 0, 0) := by decide +kernel
theorem s_24_97 {x0 x1 x2 x3 x4 x5 x6 x7 x8 x9 x10 : Option Value} {x w : Int32} : mw d 24 Q 97 [x0, x1, x2, x3, x4, x5, x6, x7, x8, x9, x10] (.int w :: .int x :: st) h = mB (¬ x = w) (mw d 24 Q) 104 100 [x0, x1, x2, x3, x4, x5, x6, x7, x8, x9, x10] st h := (mw_at mj_24_97).trans (z_icmp_ne (by decide) rfl)
theorem mj_24_100 : mc_P 24 100 = some (.iconst (-1), 1, 0, 0, 0) := by decide +kernel
theorem s_24_100 {x0 x1 x2 x3 x4 x5 x6 x7 x8 x9 x10 : Option Value} : mw d 24 Q 100 [x0, x1, x2, x3, x4, x5, x6, x7, x8, x9, x10] (st) h = mw d 24 Q 101 [x0, x1, x2, x3, x4, x5, x6, x7, x8, x9, x10] (.int (-1) :: st) h := (mw_at mj_24_100).trans (z_iconst (by decide))
theorem mj_24_101 : mc_P 24 101 = some (.goto 5, 3, 0, 0, 0) := by decide +kernel
theorem s_24_101 {x0 x1 x2 x3 x4 x5 x6 x7 x8 x9 x10 : Option Value} : mw d 24 Q 101 [x0, x1, x2, x3, x4, x5, x6, x7, x8, x9, x10] (st) h = mw d 24 Q 106 [x0, x1, x2, x3, x4, x5, x6, x7, x8, x9, x10] (st) h := (mw_at mj_24_101).trans (z_goto (by decide))
theorem mj_24_104 : mc_P 24 104 = some (.iload 6, 2, 0, 0, 0) := by decide +kernel
theorem s_24_104 {x0 x1 x2 x3 x4 x5 x7 x8 x9 x10 : Option Value} {w : Value} : mw d 24 Q 104 [x0, x1, x2, x3, x4, x5, some w, x7, x8, x9, x10] (st) h = mv_i w (mw d 24 Q 106 [x0, x1, x2, x3, x4, x5, some w, x7, x8, x9, x10] (w :: st) h) := (mw_at mj_24_104).trans (z_iload rfl)
theorem mj_24_106 : mc_P 24 106 = some (.invokevirtual 157, 3, 115, 5, 3) := by decide +kernel
theorem s_24_106 {x0 x1 x2 x3 x4 x5 x6 x7 x8 x9 x10 : Option Value} {o : Nat} {a1 a2 : Value} : mw (d + 1) 24 Q 106 [x0, x1, x2, x3, x4, x5, x6, x7, x8, x9, x10] (a2 :: a1 :: .ref o :: st) h = (mg h o 5 ∧ mca st 8 ∧ mca [.ref o, a1, a2] 8 ∧ mcall d 115 [.ref o, a1, a2] h (mK (d + 1) 24 Q 109 [x0, x1, x2, x3, x4, x5, x6, x7, x8, x9, x10] st)) := (mw_at mj_24_106).trans ((z_invv (As := [a1, a2]) (by decide) rfl rfl).trans (congrArg (And _) (congrArg (And _) (mC_nl nl_115))))
theorem mj_24_109 : mc_P 24 109 = some (.iload_n 2, 1, 0, 0, 0) := by decide +kernel
theorem s_24_109 {x0 x1 x3 x4 x5 x6 x7 x8 x9 x10 : Option Value} {w : Value} : mw d 24 Q 109 [x0, x1, some w, x3, x4, x5, x6, x7, x8, x9, x10] (st) h = mv_i w (mw d 24 Q 110 [x0, x1, some w, x3, x4, x5, x6, x7, x8, x9, x10] (w :: st) h) := (mw_at mj_24_109).trans (z_iload_n rfl)
theorem mj_24_110 : mc_P 24 110 = some (.ifCond .ne 13, 3, 0, 0, 0) := by decide +kernel
theorem s_24_110 {x0 x1 x2 x3 x4 x5 x6 x7 x8 x9 x10 : Option Value} {x : Int32} : mw d 24 Q 110 [x0, x1, x2, x3, x4, x5, x6, x7, x8, x9, x10] (.int x :: st) h = mB (¬ x = 0) (mw d 24 Q) 123 113 [x0, x1, x2, x3, x4, x5, x6, x7, x8, x9, x10] st h := (mw_at mj_24_110).trans (z_if_ne (by decide) rfl)
theorem mj_24_113 : mc_P 24 113 = some (.aload_n 0, 1, 0, 0, 0) := by decide +kernel
theorem s_24_113 {x1 x2 x3 x4 x5 x6 x7 x8 x9 x10 : Option Value} {w : Value} : mw d 24 Q 113 [some w, x1, x2, x3, x4, x5, x6, x7, x8, x9, x10] (st) h = mv_a w (mw d 24 Q 114 [some w, x1, x2, x3, x4, x5, x6, x7, x8, x9, x10] (w :: st) h) := (mw_at mj_24_113).trans (z_aload_n rfl)
theorem mj_24_114 : mc_P 24 114 = some (.getfield 12, 3, 1, 1, 0) := by decide +kernel
theorem s_24_114 {x0 x1 x2 x3 x4 x5 x6 x7 x8 x9 x10 : Option Value} {o : Nat} : mw d 24 Q 114 [x0, x1, x2, x3, x4, x5, x6, x7, x8, x9, x10] (.ref o :: st) h = (mg h o 1 ∧ mw d 24 Q 117 [x0, x1, x2, x3, x4, x5, x6, x7, x8, x9, x10] (va_rf (mh_r h o 1) :: st) h) := (mw_at mj_24_114).trans (z_getr (by decide) (by decide) rfl)
theorem mj_24_117 : mc_P 24 117 = some (.getfield 167, 3, 5, 17, 0) := by decide +kernel
theorem s_24_117 {x0 x1 x2 x3 x4 x5 x6 x7 x8 x9 x10 : Option Value} {o : Nat} : mw d 24 Q 117 [x0, x1, x2, x3, x4, x5, x6, x7, x8, x9, x10] (.ref o :: st) h = (mg h o 5 ∧ mw d 24 Q 120 [x0, x1, x2, x3, x4, x5, x6, x7, x8, x9, x10] (.long (mh_j h o 17) :: st) h) := (mw_at mj_24_117).trans (z_getl (by decide) (by decide) rfl)
theorem mj_24_120 : mc_P 24 120 = some (.goto 11, 3, 0, 0, 0) := by decide +kernel
theorem s_24_120 {x0 x1 x2 x3 x4 x5 x6 x7 x8 x9 x10 : Option Value} : mw d 24 Q 120 [x0, x1, x2, x3, x4, x5, x6, x7, x8, x9, x10] (st) h = mw d 24 Q 131 [x0, x1, x2, x3, x4, x5, x6, x7, x8, x9, x10] (st) h := (mw_at mj_24_120).trans (z_goto (by decide))
theorem mj_24_123 : mc_P 24 123 = some (.aload_n 0, 1, 0, 0, 0) := by decide +kernel
theorem s_24_123 {x1 x2 x3 x4 x5 x6 x7 x8 x9 x10 : Option Value} {w : Value} : mw d 24 Q 123 [some w, x1, x2, x3, x4, x5, x6, x7, x8, x9, x10] (st) h = mv_a w (mw d 24 Q 124 [some w, x1, x2, x3, x4, x5, x6, x7, x8, x9, x10] (w :: st) h) := (mw_at mj_24_123).trans (z_aload_n rfl)
theorem mj_24_124 : mc_P 24 124 = some (.getfield 12, 3, 1, 1, 0) := by decide +kernel
theorem s_24_124 {x0 x1 x2 x3 x4 x5 x6 x7 x8 x9 x10 : Option Value} {o : Nat} : mw d 24 Q 124 [x0, x1, x2, x3, x4, x5, x6, x7, x8, x9, x10] (.ref o :: st) h = (mg h o 1 ∧ mw d 24 Q 127 [x0, x1, x2, x3, x4, x5, x6, x7, x8, x9, x10] (va_rf (mh_r h o 1) :: st) h) := (mw_at mj_24_124).trans (z_getr (by decide) (by decide) rfl)
theorem mj_24_127 : mc_P 24 127 = some (.getfield 171, 3, 5, 18, 0) := by decide +kernel
theorem s_24_127 {x0 x1 x2 x3 x4 x5 x6 x7 x8 x9 x10 : Option Value} {o : Nat} : mw d 24 Q 127 [x0, x1, x2, x3, x4, x5, x6, x7, x8, x9, x10] (.ref o :: st) h = (mg h o 5 ∧ mw d 24 Q 130 [x0, x1, x2, x3, x4, x5, x6, x7, x8, x9, x10] (.long (mh_j h o 18) :: st) h) := (mw_at mj_24_127).trans (z_getl (by decide) (by decide) rfl)
theorem mj_24_130 : mc_P 24 130 = some (.lneg, 1, 0, 0, 0) := by decide +kernel
theorem s_24_130 {x0 x1 x2 x3 x4 x5 x6 x7 x8 x9 x10 : Option Value} {x : Int64} : mw d 24 Q 130 [x0, x1, x2, x3, x4, x5, x6, x7, x8, x9, x10] (.long x :: st) h = mw d 24 Q 131 [x0, x1, x2, x3, x4, x5, x6, x7, x8, x9, x10] (.long (-x) :: st) h := (mw_at mj_24_130).trans (z_lneg)
theorem mj_24_131 : mc_P 24 131 = some (.lstore 7, 2, 0, 0, 0) := by decide +kernel
theorem s_24_131 {x0 x1 x2 x3 x4 x5 x6 x7 x8 x9 x10 : Option Value} {w : Int64} : mw d 24 Q 131 [x0, x1, x2, x3, x4, x5, x6, x7, x8, x9, x10] (.long w :: st) h = mw d 24 Q 133 [x0, x1, x2, x3, x4, x5, mk2 x6, some (.long w), none, x9, x10] (st) h := (mw_at mj_24_131).trans (z_lstore (Nat.le_of_ble_eq_true rfl) (me_s2_mk (j := 6) (w := x6) rfl))
theorem mj_24_133 : mc_P 24 133 = some (.iconst 2, 1, 0, 0, 0) := by decide +kernel
theorem s_24_133 {x0 x1 x2 x3 x4 x5 x6 x7 x8 x9 x10 : Option Value} : mw d 24 Q 133 [x0, x1, x2, x3, x4, x5, x6, x7, x8, x9, x10] (st) h = mw d 24 Q 134 [x0, x1, x2, x3, x4, x5, x6, x7, x8, x9, x10] (.int 2 :: st) h := (mw_at mj_24_133).trans (z_iconst (by decide))
theorem mj_24_134 : mc_P 24 134 = some (.iload 5, 2, 0, 0, 0) := by decide +kernel
theorem s_24_134 {x0 x1 x2 x3 x4 x6 x7 x8 x9 x10 : Option Value} {w : Value} : mw d 24 Q 134 [x0, x1, x2, x3, x4, some w, x6, x7, x8, x9, x10] (st) h = mv_i w (mw d 24 Q 136 [x0, x1, x2, x3, x4, some w, x6, x7, x8, x9, x10] (w :: st) h) := (mw_at mj_24_134).trans (z_iload rfl)
theorem mj_24_136 : mc_P 24 136 = some (.imul, 1, 0, 0, 0) := by decide +kernel
theorem s_24_136 {x0 x1 x2 x3 x4 x5 x6 x7 x8 x9 x10 : Option Value} {x w : Int32} : mw d 24 Q 136 [x0, x1, x2, x3, x4, x5, x6, x7, x8, x9, x10] (.int w :: .int x :: st) h = mw d 24 Q 137 [x0, x1, x2, x3, x4, x5, x6, x7, x8, x9, x10] (.int (x * w) :: st) h := (mw_at mj_24_136).trans (z_imul)
theorem mj_24_137 : mc_P 24 137 = some (.aload_n 0, 1, 0, 0, 0) := by decide +kernel
theorem s_24_137 {x1 x2 x3 x4 x5 x6 x7 x8 x9 x10 : Option Value} {w : Value} : mw d 24 Q 137 [some w, x1, x2, x3, x4, x5, x6, x7, x8, x9, x10] (st) h = mv_a w (mw d 24 Q 138 [some w, x1, x2, x3, x4, x5, x6, x7, x8, x9, x10] (w :: st) h) := (mw_at mj_24_137).trans (z_aload_n rfl)
theorem mj_24_138 : mc_P 24 138 = some (.getfield 12, 3, 1, 1, 0) := by decide +kernel
theorem s_24_138 {x0 x1 x2 x3 x4 x5 x6 x7 x8 x9 x10 : Option Value} {o : Nat} : mw d 24 Q 138 [x0, x1, x2, x3, x4, x5, x6, x7, x8, x9, x10] (.ref o :: st) h = (mg h o 1 ∧ mw d 24 Q 141 [x0, x1, x2, x3, x4, x5, x6, x7, x8, x9, x10] (va_rf (mh_r h o 1) :: st) h) := (mw_at mj_24_138).trans (z_getr (by decide) (by decide) rfl)
theorem mj_24_141 : mc_P 24 141 = some (.getfield 160, 3, 5, 11, 0) := by decide +kernel
theorem s_24_141 {x0 x1 x2 x3 x4 x5 x6 x7 x8 x9 x10 : Option Value} {o : Nat} : mw d 24 Q 141 [x0, x1, x2, x3, x4, x5, x6, x7, x8, x9, x10] (.ref o :: st) h = (mg h o 5 ∧ mw d 24 Q 144 [x0, x1, x2, x3, x4, x5, x6, x7, x8, x9, x10] (va_rf (mh_r h o 11) :: st) h) := (mw_at mj_24_141).trans (z_getr (by decide) (by decide) rfl)
theorem mj_24_144 : mc_P 24 144 = some (.iload 5, 2, 0, 0, 0) := by decide +kernel
theorem s_24_144 {x0 x1 x2 x3 x4 x6 x7 x8 x9 x10 : Option Value} {w : Value} : mw d 24 Q 144 [x0, x1, x2, x3, x4, some w, x6, x7, x8, x9, x10] (st) h = mv_i w (mw d 24 Q 146 [x0, x1, x2, x3, x4, some w, x6, x7, x8, x9, x10] (w :: st) h) := (mw_at mj_24_144).trans (z_iload rfl)
theorem mj_24_146 : mc_P 24 146 = some (.iaload, 1, 0, 0, 0) := by decide +kernel
theorem s_24_146 {x0 x1 x2 x3 x4 x5 x6 x7 x8 x9 x10 : Option Value} {o : Nat} {i : Int32} : mw d 24 Q 146 [x0, x1, x2, x3, x4, x5, x6, x7, x8, x9, x10] (.int i :: .ref o :: st) h = (mg h o 100 ∧ mx i (mh_l h o) ∧ mw d 24 Q 147 [x0, x1, x2, x3, x4, x5, x6, x7, x8, x9, x10] (.int (mh_i h o i.toNatClampNeg) :: st) h) := (mw_at mj_24_146).trans (z_iald)
theorem mj_24_147 : mc_P 24 147 = some (.ifCond .ge 9, 3, 0, 0, 0) := by decide +kernel
theorem s_24_147 {x0 x1 x2 x3 x4 x5 x6 x7 x8 x9 x10 : Option Value} {x : Int32} : mw d 24 Q 147 [x0, x1, x2, x3, x4, x5, x6, x7, x8, x9, x10] (.int x :: st) h = mB (0 ≤ x) (mw d 24 Q) 156 150 [x0, x1, x2, x3, x4, x5, x6, x7, x8, x9, x10] st h := (mw_at mj_24_147).trans (z_if_ge (by decide) rfl)
theorem mj_24_150 : mc_P 24 150 = some (.iconst 1, 1, 0, 0, 0) := by decide +kernel
theorem s_24_150 {x0 x1 x2 x3 x4 x5 x6 x7 x8 x9 x10 : Option Value} : mw d 24 Q 150 [x0, x1, x2, x3, x4, x5, x6, x7, x8, x9, x10] (st) h = mw d 24 Q 151 [x0, x1, x2, x3, x4, x5, x6, x7, x8, x9, x10] (.int 1 :: st) h := (mw_at mj_24_150).trans (z_iconst (by decide))
theorem mj_24_151 : mc_P 24 151 = some (.iload_n 2, 1, 0, 0, 0) := by decide +kernel
theorem s_24_151 {x0 x1 x3 x4 x5 x6 x7 x8 x9 x10 : Option Value} {w : Value} : mw d 24 Q 151 [x0, x1, some w, x3, x4, x5, x6, x7, x8, x9, x10] (st) h = mv_i w (mw d 24 Q 152 [x0, x1, some w, x3, x4, x5, x6, x7, x8, x9, x10] (w :: st) h) := (mw_at mj_24_151).trans (z_iload_n rfl)
theorem mj_24_152 : mc_P 24 152 = some (.isub, 1, 0, 0, 0) := by decide +kernel
theorem s_24_152 {x0 x1 x2 x3 x4 x5 x6 x7 x8 x9 x10 : Option Value} {x w : Int32} : mw d 24 Q 152 [x0, x1, x2, x3, x4, x5, x6, x7, x8, x9, x10] (.int w :: .int x :: st) h = mw d 24 Q 153 [x0, x1, x2, x3, x4, x5, x6, x7, x8, x9, x10] (.int (x - w) :: st) h := (mw_at mj_24_152).trans (z_isub)
theorem mj_24_153 : mc_P 24 153 = some (.goto 4, 3, 0, 0, 0) := by decide +kernel
theorem s_24_153 {x0 x1 x2 x3 x4 x5 x6 x7 x8 x9 x10 : Option Value} : mw d 24 Q 153 [x0, x1, x2, x3, x4, x5, x6, x7, x8, x9, x10] (st) h = mw d 24 Q 157 [x0, x1, x2, x3, x4, x5, x6, x7, x8, x9, x10] (st) h := (mw_at mj_24_153).trans (z_goto (by decide))
theorem mj_24_156 : mc_P 24 156 = some (.iload_n 2, 1, 0, 0, 0) := by decide +kernel
theorem s_24_156 {x0 x1 x3 x4 x5 x6 x7 x8 x9 x10 : Option Value} {w : Value} : mw d 24 Q 156 [x0, x1, some w, x3, x4, x5, x6, x7, x8, x9, x10] (st) h = mv_i w (mw d 24 Q 157 [x0, x1, some w, x3, x4, x5, x6, x7, x8, x9, x10] (w :: st) h) := (mw_at mj_24_156).trans (z_iload_n rfl)
theorem mj_24_157 : mc_P 24 157 = some (.iadd, 1, 0, 0, 0) := by decide +kernel
theorem s_24_157 {x0 x1 x2 x3 x4 x5 x6 x7 x8 x9 x10 : Option Value} {x w : Int32} : mw d 24 Q 157 [x0, x1, x2, x3, x4, x5, x6, x7, x8, x9, x10] (.int w :: .int x :: st) h = mw d 24 Q 158 [x0, x1, x2, x3, x4, x5, x6, x7, x8, x9, x10] (.int (x + w) :: st) h := (mw_at mj_24_157).trans (z_iadd)
theorem mj_24_158 : mc_P 24 158 = some (.istore 9, 2, 0, 0, 0) := by decide +kernel
theorem s_24_158 {x0 x1 x2 x3 x4 x5 x6 x7 x8 x9 x10 : Option Value} {w : Int32} : mw d 24 Q 158 [x0, x1, x2, x3, x4, x5, x6, x7, x8, x9, x10] (.int w :: st) h = mw d 24 Q 160 [x0, x1, x2, x3, x4, x5, x6, x7, mk2 x8, some (.int w), x10] (st) h := (mw_at mj_24_158).trans (z_istore (Nat.le_of_ble_eq_true rfl) (me_s1_mk (j := 8) (w := x8) rfl))
theorem mj_24_160 : mc_P 24 160 = some (.iconst 2, 1, 0, 0, 0) := by decide +kernel
theorem s_24_160 {x0 x1 x2 x3 x4 x5 x6 x7 x8 x9 x10 : Option Value} : mw d 24 Q 160 [x0, x1, x2, x3, x4, x5, x6, x7, x8, x9, x10] (st) h = mw d 24 Q 161 [x0, x1, x2, x3, x4, x5, x6, x7, x8, x9, x10] (.int 2 :: st) h := (mw_at mj_24_160).trans (z_iconst (by decide))
theorem mj_24_161 : mc_P 24 161 = some (.iload 6, 2, 0, 0, 0) := by decide +kernel
theorem s_24_161 {x0 x1 x2 x3 x4 x5 x7 x8 x9 x10 : Option Value} {w : Value} : mw d 24 Q 161 [x0, x1, x2, x3, x4, x5, some w, x7, x8, x9, x10] (st) h = mv_i w (mw d 24 Q 163 [x0, x1, x2, x3, x4, x5, some w, x7, x8, x9, x10] (w :: st) h) := (mw_at mj_24_161).trans (z_iload rfl)
theorem mj_24_163 : mc_P 24 163 = some (.imul, 1, 0, 0, 0) := by decide +kernel
theorem s_24_163 {x0 x1 x2 x3 x4 x5 x6 x7 x8 x9 x10 : Option Value} {x w : Int32} : mw d 24 Q 163 [x0, x1, x2, x3, x4, x5, x6, x7, x8, x9, x10] (.int w :: .int x :: st) h = mw d 24 Q 164 [x0, x1, x2, x3, x4, x5, x6, x7, x8, x9, x10] (.int (x * w) :: st) h := (mw_at mj_24_163).trans (z_imul)
theorem mj_24_164 : mc_P 24 164 = some (.aload_n 0, 1, 0, 0, 0) := by decide +kernel
theorem s_24_164 {x1 x2 x3 x4 x5 x6 x7 x8 x9 x10 : Option Value} {w : Value} : mw d 24 Q 164 [some w, x1, x2, x3, x4, x5, x6, x7, x8, x9, x10] (st) h = mv_a w (mw d 24 Q 165 [some w, x1, x2, x3, x4, x5, x6, x7, x8, x9, x10] (w :: st) h) := (mw_at mj_24_164).trans (z_aload_n rfl)
theorem mj_24_165 : mc_P 24 165 = some (.getfield 12, 3, 1, 1, 0) := by decide +kernel
theorem s_24_165 {x0 x1 x2 x3 x4 x5 x6 x7 x8 x9 x10 : Option Value} {o : Nat} : mw d 24 Q 165 [x0, x1, x2, x3, x4, x5, x6, x7, x8, x9, x10] (.ref o :: st) h = (mg h o 1 ∧ mw d 24 Q 168 [x0, x1, x2, x3, x4, x5, x6, x7, x8, x9, x10] (va_rf (mh_r h o 1) :: st) h) := (mw_at mj_24_165).trans (z_getr (by decide) (by decide) rfl)
theorem mj_24_168 : mc_P 24 168 = some (.getfield 160, 3, 5, 11, 0) := by decide +kernel
theorem s_24_168 {x0 x1 x2 x3 x4 x5 x6 x7 x8 x9 x10 : Option Value} {o : Nat} : mw d 24 Q 168 [x0, x1, x2, x3, x4, x5, x6, x7, x8, x9, x10] (.ref o :: st) h = (mg h o 5 ∧ mw d 24 Q 171 [x0, x1, x2, x3, x4, x5, x6, x7, x8, x9, x10] (va_rf (mh_r h o 11) :: st) h) := (mw_at mj_24_168).trans (z_getr (by decide) (by decide) rfl)
theorem mj_24_171 : mc_P 24 171 = some (.iload 6, 2, 0, 0, 0) := by decide +kernel
theorem s_24_171 {x0 x1 x2 x3 x4 x5 x7 x8 x9 x10 : Option Value} {w : Value} : mw d 24 Q 171 [x0, x1, x2, x3, x4, x5, some w, x7, x8, x9, x10] (st) h = mv_i w (mw d 24 Q 173 [x0, x1, x2, x3, x4, x5, some w, x7, x8, x9, x10] (w :: st) h) := (mw_at mj_24_171).trans (z_iload rfl)
theorem mj_24_173 : mc_P 24 173 = some (.iaload, 1, 0, 0, 0) := by decide +kernel
theorem s_24_173 {x0 x1 x2 x3 x4 x5 x6 x7 x8 x9 x10 : Option Value} {o : Nat} {i : Int32} : mw d 24 Q 173 [x0, x1, x2, x3, x4, x5, x6, x7, x8, x9, x10] (.int i :: .ref o :: st) h = (mg h o 100 ∧ mx i (mh_l h o) ∧ mw d 24 Q 174 [x0, x1, x2, x3, x4, x5, x6, x7, x8, x9, x10] (.int (mh_i h o i.toNatClampNeg) :: st) h) := (mw_at mj_24_173).trans (z_iald)
theorem mj_24_174 : mc_P 24 174 = some (.ifCond .ge 9, 3, 0, 0, 0) := by decide +kernel
theorem s_24_174 {x0 x1 x2 x3 x4 x5 x6 x7 x8 x9 x10 : Option Value} {x : Int32} : mw d 24 Q 174 [x0, x1, x2, x3, x4, x5, x6, x7, x8, x9, x10] (.int x :: st) h = mB (0 ≤ x) (mw d 24 Q) 183 177 [x0, x1, x2, x3, x4, x5, x6, x7, x8, x9, x10] st h := (mw_at mj_24_174).trans (z_if_ge (by decide) rfl)
theorem mj_24_177 : mc_P 24 177 = some (.iconst 1, 1, 0, 0, 0) := by decide +kernel
theorem s_24_177 {x0 x1 x2 x3 x4 x5 x6 x7 x8 x9 x10 : Option Value} : mw d 24 Q 177 [x0, x1, x2, x3, x4, x5, x6, x7, x8, x9, x10] (st) h = mw d 24 Q 178 [x0, x1, x2, x3, x4, x5, x6, x7, x8, x9, x10] (.int 1 :: st) h := (mw_at mj_24_177).trans (z_iconst (by decide))
theorem mj_24_178 : mc_P 24 178 = some (.iload_n 2, 1, 0, 0, 0) := by decide +kernel
theorem s_24_178 {x0 x1 x3 x4 x5 x6 x7 x8 x9 x10 : Option Value} {w : Value} : mw d 24 Q 178 [x0, x1, some w, x3, x4, x5, x6, x7, x8, x9, x10] (st) h = mv_i w (mw d 24 Q 179 [x0, x1, some w, x3, x4, x5, x6, x7, x8, x9, x10] (w :: st) h) := (mw_at mj_24_178).trans (z_iload_n rfl)
theorem mj_24_179 : mc_P 24 179 = some (.isub, 1, 0, 0, 0) := by decide +kernel
theorem s_24_179 {x0 x1 x2 x3 x4 x5 x6 x7 x8 x9 x10 : Option Value} {x w : Int32} : mw d 24 Q 179 [x0, x1, x2, x3, x4, x5, x6, x7, x8, x9, x10] (.int w :: .int x :: st) h = mw d 24 Q 180 [x0, x1, x2, x3, x4, x5, x6, x7, x8, x9, x10] (.int (x - w) :: st) h := (mw_at mj_24_179).trans (z_isub)
theorem mj_24_180 : mc_P 24 180 = some (.goto 4, 3, 0, 0, 0) := by decide +kernel
theorem s_24_180 {x0 x1 x2 x3 x4 x5 x6 x7 x8 x9 x10 : Option Value} : mw d 24 Q 180 [x0, x1, x2, x3, x4, x5, x6, x7, x8, x9, x10] (st) h = mw d 24 Q 184 [x0, x1, x2, x3, x4, x5, x6, x7, x8, x9, x10] (st) h := (mw_at mj_24_180).trans (z_goto (by decide))
theorem mj_24_183 : mc_P 24 183 = some (.iload_n 2, 1, 0, 0, 0) := by decide +kernel
theorem s_24_183 {x0 x1 x3 x4 x5 x6 x7 x8 x9 x10 : Option Value} {w : Value} : mw d 24 Q 183 [x0, x1, some w, x3, x4, x5, x6, x7, x8, x9, x10] (st) h = mv_i w (mw d 24 Q 184 [x0, x1, some w, x3, x4, x5, x6, x7, x8, x9, x10] (w :: st) h) := (mw_at mj_24_183).trans (z_iload_n rfl)
theorem mj_24_184 : mc_P 24 184 = some (.iadd, 1, 0, 0, 0) := by decide +kernel
theorem s_24_184 {x0 x1 x2 x3 x4 x5 x6 x7 x8 x9 x10 : Option Value} {x w : Int32} : mw d 24 Q 184 [x0, x1, x2, x3, x4, x5, x6, x7, x8, x9, x10] (.int w :: .int x :: st) h = mw d 24 Q 185 [x0, x1, x2, x3, x4, x5, x6, x7, x8, x9, x10] (.int (x + w) :: st) h := (mw_at mj_24_184).trans (z_iadd)
theorem mj_24_185 : mc_P 24 185 = some (.istore 10, 2, 0, 0, 0) := by decide +kernel
theorem s_24_185 {x0 x1 x2 x3 x4 x5 x6 x7 x8 x9 x10 : Option Value} {w : Int32} : mw d 24 Q 185 [x0, x1, x2, x3, x4, x5, x6, x7, x8, x9, x10] (.int w :: st) h = mw d 24 Q 187 [x0, x1, x2, x3, x4, x5, x6, x7, x8, mk2 x9, some (.int w)] (st) h := (mw_at mj_24_185).trans (z_istore (Nat.le_of_ble_eq_true rfl) (me_s1_mk (j := 9) (w := x9) rfl))
theorem mj_24_187 : mc_P 24 187 = some (.aload_n 1, 1, 0, 0, 0) := by decide +kernel
theorem s_24_187 {x0 x2 x3 x4 x5 x6 x7 x8 x9 x10 : Option Value} {w : Value} : mw d 24 Q 187 [x0, some w, x2, x3, x4, x5, x6, x7, x8, x9, x10] (st) h = mv_a w (mw d 24 Q 188 [x0, some w, x2, x3, x4, x5, x6, x7, x8, x9, x10] (w :: st) h) := (mw_at mj_24_187).trans (z_aload_n rfl)
theorem mj_24_188 : mc_P 24 188 = some (.iload 9, 2, 0, 0, 0) := by decide +kernel
theorem s_24_188 {x0 x1 x2 x3 x4 x5 x6 x7 x8 x10 : Option Value} {w : Value} : mw d 24 Q 188 [x0, x1, x2, x3, x4, x5, x6, x7, x8, some w, x10] (st) h = mv_i w (mw d 24 Q 190 [x0, x1, x2, x3, x4, x5, x6, x7, x8, some w, x10] (w :: st) h) := (mw_at mj_24_188).trans (z_iload rfl)
theorem mj_24_190 : mc_P 24 190 = some (.iload 10, 2, 0, 0, 0) := by decide +kernel
theorem s_24_190 {x0 x1 x2 x3 x4 x5 x6 x7 x8 x9 : Option Value} {w : Value} : mw d 24 Q 190 [x0, x1, x2, x3, x4, x5, x6, x7, x8, x9, some w] (st) h = mv_i w (mw d 24 Q 192 [x0, x1, x2, x3, x4, x5, x6, x7, x8, x9, some w] (w :: st) h) := (mw_at mj_24_190).trans (z_iload rfl)
theorem mj_24_192 : mc_P 24 192 = some (.lload_n 3, 1, 0, 0, 0) := by decide +kernel
theorem s_24_192 {x0 x1 x2 x4 x5 x6 x7 x8 x9 x10 : Option Value} {w : Value} : mw d 24 Q 192 [x0, x1, x2, some w, x4, x5, x6, x7, x8, x9, x10] (st) h = mv_l w (mw d 24 Q 193 [x0, x1, x2, some w, x4, x5, x6, x7, x8, x9, x10] (w :: st) h) := (mw_at mj_24_192).trans (z_lload_n rfl)
theorem mj_24_193 : mc_P 24 193 = some (.lload 7, 2, 0, 0, 0) := by decide +kernel
theorem s_24_193 {x0 x1 x2 x3 x4 x5 x6 x8 x9 x10 : Option Value} {w : Value} : mw d 24 Q 193 [x0, x1, x2, x3, x4, x5, x6, some w, x8, x9, x10] (st) h = mv_l w (mw d 24 Q 195 [x0, x1, x2, x3, x4, x5, x6, some w, x8, x9, x10] (w :: st) h) := (mw_at mj_24_193).trans (z_lload rfl)
theorem mj_24_195 : mc_P 24 195 = some (.lsub, 1, 0, 0, 0) := by decide +kernel
theorem s_24_195 {x0 x1 x2 x3 x4 x5 x6 x7 x8 x9 x10 : Option Value} {x w : Int64} : mw d 24 Q 195 [x0, x1, x2, x3, x4, x5, x6, x7, x8, x9, x10] (.long w :: .long x :: st) h = mw d 24 Q 196 [x0, x1, x2, x3, x4, x5, x6, x7, x8, x9, x10] (.long (x - w) :: st) h := (mw_at mj_24_195).trans (z_lsub)
theorem mj_24_196 : mc_P 24 196 = some (.invokevirtual 122, 3, 147, 8, 4) := by decide +kernel
theorem s_24_196 {x0 x1 x2 x3 x4 x5 x6 x7 x8 x9 x10 : Option Value} {o : Nat} {a1 a2 a3 : Value} : mw (d + 1) 24 Q 196 [x0, x1, x2, x3, x4, x5, x6, x7, x8, x9, x10] (a3 :: a2 :: a1 :: .ref o :: st) h = (mg h o 8 ∧ mca st 8 ∧ mca [.ref o, a1, a2, a3] 8 ∧ mcall d 147 [.ref o, a1, a2, a3] h (mK (d + 1) 24 Q 199 [x0, x1, x2, x3, x4, x5, x6, x7, x8, x9, x10] st)) := (mw_at mj_24_196).trans ((z_invv (As := [a1, a2, a3]) (by decide) rfl rfl).trans (congrArg (And _) (congrArg (And _) (mC_nl nl_147))))
theorem mj_24_199 : mc_P 24 199 = some (.iinc 6 1, 3, 0, 0, 0) := by decide +kernel
theorem s_24_199 {x0 x1 x2 x3 x4 x5 x7 x8 x9 x10 : Option Value} {w : Int32} : mw d 24 Q 199 [x0, x1, x2, x3, x4, x5, some (.int w), x7, x8, x9, x10] (st) h = mw d 24 Q 202 [x0, x1, x2, x3, x4, mk2 x5, some (.int (w + 1)), x7, x8, x9, x10] (st) h := (mw_at mj_24_199).trans (z_iinc rfl (Nat.le_of_ble_eq_true rfl) (by decide) (me_s1_mk (j := 5) (w := x5) rfl))
theorem mj_24_202 : mc_P 24 202 = some (.goto (-146), 3, 0, 0, 0) := by decide +kernel
theorem s_24_202 {x0 x1 x2 x3 x4 x5 x6 x7 x8 x9 x10 : Option Value} : mw d 24 Q 202 [x0, x1, x2, x3, x4, x5, x6, x7, x8, x9, x10] (st) h = mw d 24 Q 56 [x0, x1, x2, x3, x4, x5, x6, x7, x8, x9, x10] (st) h := (mw_at mj_24_202).trans (z_goto (by decide))
theorem mj_24_205 : mc_P 24 205 = some (.iinc 5 1, 3, 0, 0, 0) := by decide +kernel
theorem s_24_205 {x0 x1 x2 x3 x4 x6 x7 x8 x9 x10 : Option Value} {w : Int32} : mw d 24 Q 205 [x0, x1, x2, x3, x4, some (.int w), x6, x7, x8, x9, x10] (st) h = mw d 24 Q 208 [x0, x1, x2, x3, mk2 x4, some (.int (w + 1)), x6, x7, x8, x9, x10] (st) h := (mw_at mj_24_205).trans (z_iinc rfl (Nat.le_of_ble_eq_true rfl) (by decide) (me_s1_mk (j := 4) (w := x4) rfl))
theorem mj_24_208 : mc_P 24 208 = some (.goto (-163), 3, 0, 0, 0) := by decide +kernel
theorem s_24_208 {x0 x1 x2 x3 x4 x5 x6 x7 x8 x9 x10 : Option Value} : mw d 24 Q 208 [x0, x1, x2, x3, x4, x5, x6, x7, x8, x9, x10] (st) h = mw d 24 Q 45 [x0, x1, x2, x3, x4, x5, x6, x7, x8, x9, x10] (st) h := (mw_at mj_24_208).trans (z_goto (by decide))
theorem mj_24_211 : mc_P 24 211 = some (.return_, 1, 0, 0, 0) := by decide +kernel
theorem s_24_211 {x0 x1 x2 x3 x4 x5 x6 x7 x8 x9 x10 : Option Value} : mw d 24 Q 211 [x0, x1, x2, x3, x4, x5, x6, x7, x8, x9, x10] ([]) h = Q none h := (mw_at mj_24_211).trans (z_vret)
theorem e_24 {a0 : Nat} {a1 : Nat} {a2 : Int32} {a3 : Int64} : mcall d 24 [.ref a0, .ref a1, .int a2, .long a3] h Q = mw d 24 Q 0 [some (.ref a0), some (.ref a1), some (.int a2), some (.long a3), none, none, none, none, none, none, none] [] h := by
  show mw d 24 Q 0 (me_en (mc_nl 24) _) [] h = _
  rw [nl_24]; rfl

end SR
