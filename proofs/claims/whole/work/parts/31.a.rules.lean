/-! rules of methods, by program (wip/whole/srule.py) -/
section SR
variable {d : Nat} {Q : Option Value → mh_H → Prop} {st : List Value} {h : mh_H}
/-! InvariantDesk$Ranges.<init>()V -/
theorem mj_96_0 : mc_P 96 0 = some (.aload_n 0, 1, 0, 0, 0) := by decide +kernel
theorem s_96_0 {w : Value} : mw d 96 Q 0 [some w] (st) h = mv_a w (mw d 96 Q 1 [some w] (w :: st) h) := (mw_at mj_96_0).trans (z_aload_n rfl)
theorem mj_96_1 : mc_P 96 1 = some (.invokespecial 3, 3, 0, 1, 0) := by decide +kernel
theorem s_96_1 {x0 : Option Value} {o : Nat} : mw d 96 Q 1 [x0] (.ref o :: st) h = (mca st 8 ∧ mw d 96 Q 4 [x0] (st) h) := (mw_at mj_96_1).trans (z_obj)
theorem mj_96_4 : mc_P 96 4 = some (.aload_n 0, 1, 0, 0, 0) := by decide +kernel
theorem s_96_4 {w : Value} : mw d 96 Q 4 [some w] (st) h = mv_a w (mw d 96 Q 5 [some w] (w :: st) h) := (mw_at mj_96_4).trans (z_aload_n rfl)
theorem mj_96_5 : mc_P 96 5 = some (.bipush 124, 2, 0, 0, 0) := by decide +kernel
theorem s_96_5 {x0 : Option Value} : mw d 96 Q 5 [x0] (st) h = mw d 96 Q 7 [x0] (.int 124 :: st) h := (mw_at mj_96_5).trans (z_bipush (by decide))
theorem mj_96_7 : mc_P 96 7 = some (.newarray .long, 2, 101, 0, 0) := by decide +kernel
theorem s_96_7 {x0 : Option Value} {i : Int32} : mw d 96 Q 7 [x0] (.int i :: st) h = (mN i ∧ mw d 96 Q 9 [x0] (.ref (mh_n h) :: st) (mh_new h 101 i.toNatClampNeg)) := (mw_at mj_96_7).trans (z_newa (by decide) (by decide))
theorem mj_96_9 : mc_P 96 9 = some (.putfield 9, 3, 5, 5, 0) := by decide +kernel
theorem s_96_9 {x0 : Option Value} {o w : Nat} : mw d 96 Q 9 [x0] (.ref w :: .ref o :: st) h = (mg h o 5 ∧ mw d 96 Q 12 [x0] (st) (mh_sr h o 5 (some w))) := (mw_at mj_96_9).trans (z_putr (by decide) (by decide) rfl)
theorem s_96_9n {x0 : Option Value} {o : Nat} : mw d 96 Q 9 [x0] (.null :: .ref o :: st) h = (mg h o 5 ∧ mw d 96 Q 12 [x0] (st) (mh_sr h o 5 none)) := (mw_at mj_96_9).trans (z_putn (by decide) (by decide) rfl)
theorem mj_96_12 : mc_P 96 12 = some (.aload_n 0, 1, 0, 0, 0) := by decide +kernel
theorem s_96_12 {w : Value} : mw d 96 Q 12 [some w] (st) h = mv_a w (mw d 96 Q 13 [some w] (w :: st) h) := (mw_at mj_96_12).trans (z_aload_n rfl)
theorem mj_96_13 : mc_P 96 13 = some (.bipush 124, 2, 0, 0, 0) := by decide +kernel
theorem s_96_13 {x0 : Option Value} : mw d 96 Q 13 [x0] (st) h = mw d 96 Q 15 [x0] (.int 124 :: st) h := (mw_at mj_96_13).trans (z_bipush (by decide))
theorem mj_96_15 : mc_P 96 15 = some (.newarray .long, 2, 101, 0, 0) := by decide +kernel
theorem s_96_15 {x0 : Option Value} {i : Int32} : mw d 96 Q 15 [x0] (.int i :: st) h = (mN i ∧ mw d 96 Q 17 [x0] (.ref (mh_n h) :: st) (mh_new h 101 i.toNatClampNeg)) := (mw_at mj_96_15).trans (z_newa (by decide) (by decide))
theorem mj_96_17 : mc_P 96 17 = some (.putfield 15, 3, 5, 6, 0) := by decide +kernel
theorem s_96_17 {x0 : Option Value} {o w : Nat} : mw d 96 Q 17 [x0] (.ref w :: .ref o :: st) h = (mg h o 5 ∧ mw d 96 Q 20 [x0] (st) (mh_sr h o 6 (some w))) := (mw_at mj_96_17).trans (z_putr (by decide) (by decide) rfl)
theorem s_96_17n {x0 : Option Value} {o : Nat} : mw d 96 Q 17 [x0] (.null :: .ref o :: st) h = (mg h o 5 ∧ mw d 96 Q 20 [x0] (st) (mh_sr h o 6 none)) := (mw_at mj_96_17).trans (z_putn (by decide) (by decide) rfl)
theorem mj_96_20 : mc_P 96 20 = some (.aload_n 0, 1, 0, 0, 0) := by decide +kernel
theorem s_96_20 {w : Value} : mw d 96 Q 20 [some w] (st) h = mv_a w (mw d 96 Q 21 [some w] (w :: st) h) := (mw_at mj_96_20).trans (z_aload_n rfl)
theorem mj_96_21 : mc_P 96 21 = some (.bipush 124, 2, 0, 0, 0) := by decide +kernel
theorem s_96_21 {x0 : Option Value} : mw d 96 Q 21 [x0] (st) h = mw d 96 Q 23 [x0] (.int 124 :: st) h := (mw_at mj_96_21).trans (z_bipush (by decide))
theorem mj_96_23 : mc_P 96 23 = some (.newarray .int, 2, 100, 0, 0) := by decide +kernel
theorem s_96_23 {x0 : Option Value} {i : Int32} : mw d 96 Q 23 [x0] (.int i :: st) h = (mN i ∧ mw d 96 Q 25 [x0] (.ref (mh_n h) :: st) (mh_new h 100 i.toNatClampNeg)) := (mw_at mj_96_23).trans (z_newa (by decide) (by decide))
theorem mj_96_25 : mc_P 96 25 = some (.putfield 18, 3, 5, 7, 0) := by decide +kernel
theorem s_96_25 {x0 : Option Value} {o w : Nat} : mw d 96 Q 25 [x0] (.ref w :: .ref o :: st) h = (mg h o 5 ∧ mw d 96 Q 28 [x0] (st) (mh_sr h o 7 (some w))) := (mw_at mj_96_25).trans (z_putr (by decide) (by decide) rfl)
theorem s_96_25n {x0 : Option Value} {o : Nat} : mw d 96 Q 25 [x0] (.null :: .ref o :: st) h = (mg h o 5 ∧ mw d 96 Q 28 [x0] (st) (mh_sr h o 7 none)) := (mw_at mj_96_25).trans (z_putn (by decide) (by decide) rfl)
theorem mj_96_28 : mc_P 96 28 = some (.aload_n 0, 1, 0, 0, 0) := by decide +kernel
theorem s_96_28 {w : Value} : mw d 96 Q 28 [some w] (st) h = mv_a w (mw d 96 Q 29 [some w] (w :: st) h) := (mw_at mj_96_28).trans (z_aload_n rfl)
theorem mj_96_29 : mc_P 96 29 = some (.iconst 0, 1, 0, 0, 0) := by decide +kernel
theorem s_96_29 {x0 : Option Value} : mw d 96 Q 29 [x0] (st) h = mw d 96 Q 30 [x0] (.int 0 :: st) h := (mw_at mj_96_29).trans (z_iconst (by decide))
theorem mj_96_30 : mc_P 96 30 = some (.newarray .long, 2, 101, 0, 0) := by decide +kernel
theorem s_96_30 {x0 : Option Value} {i : Int32} : mw d 96 Q 30 [x0] (.int i :: st) h = (mN i ∧ mw d 96 Q 32 [x0] (.ref (mh_n h) :: st) (mh_new h 101 i.toNatClampNeg)) := (mw_at mj_96_30).trans (z_newa (by decide) (by decide))
theorem mj_96_32 : mc_P 96 32 = some (.putfield 22, 3, 5, 9, 0) := by decide +kernel
theorem s_96_32 {x0 : Option Value} {o w : Nat} : mw d 96 Q 32 [x0] (.ref w :: .ref o :: st) h = (mg h o 5 ∧ mw d 96 Q 35 [x0] (st) (mh_sr h o 9 (some w))) := (mw_at mj_96_32).trans (z_putr (by decide) (by decide) rfl)
theorem s_96_32n {x0 : Option Value} {o : Nat} : mw d 96 Q 32 [x0] (.null :: .ref o :: st) h = (mg h o 5 ∧ mw d 96 Q 35 [x0] (st) (mh_sr h o 9 none)) := (mw_at mj_96_32).trans (z_putn (by decide) (by decide) rfl)
theorem mj_96_35 : mc_P 96 35 = some (.aload_n 0, 1, 0, 0, 0) := by decide +kernel
theorem s_96_35 {w : Value} : mw d 96 Q 35 [some w] (st) h = mv_a w (mw d 96 Q 36 [some w] (w :: st) h) := (mw_at mj_96_35).trans (z_aload_n rfl)
theorem mj_96_36 : mc_P 96 36 = some (.iconst 0, 1, 0, 0, 0) := by decide +kernel
theorem s_96_36 {x0 : Option Value} : mw d 96 Q 36 [x0] (st) h = mw d 96 Q 37 [x0] (.int 0 :: st) h := (mw_at mj_96_36).trans (z_iconst (by decide))
theorem mj_96_37 : mc_P 96 37 = some (.newarray .long, 2, 101, 0, 0) := by decide +kernel
theorem s_96_37 {x0 : Option Value} {i : Int32} : mw d 96 Q 37 [x0] (.int i :: st) h = (mN i ∧ mw d 96 Q 39 [x0] (.ref (mh_n h) :: st) (mh_new h 101 i.toNatClampNeg)) := (mw_at mj_96_37).trans (z_newa (by decide) (by decide))
theorem mj_96_39 : mc_P 96 39 = some (.putfield 25, 3, 5, 10, 0) := by decide +kernel
theorem s_96_39 {x0 : Option Value} {o w : Nat} : mw d 96 Q 39 [x0] (.ref w :: .ref o :: st) h = (mg h o 5 ∧ mw d 96 Q 42 [x0] (st) (mh_sr h o 10 (some w))) := (mw_at mj_96_39).trans (z_putr (by decide) (by decide) rfl)
theorem s_96_39n {x0 : Option Value} {o : Nat} : mw d 96 Q 39 [x0] (.null :: .ref o :: st) h = (mg h o 5 ∧ mw d 96 Q 42 [x0] (st) (mh_sr h o 10 none)) := (mw_at mj_96_39).trans (z_putn (by decide) (by decide) rfl)
theorem mj_96_42 : mc_P 96 42 = some (.aload_n 0, 1, 0, 0, 0) := by decide +kernel
theorem s_96_42 {w : Value} : mw d 96 Q 42 [some w] (st) h = mv_a w (mw d 96 Q 43 [some w] (w :: st) h) := (mw_at mj_96_42).trans (z_aload_n rfl)
theorem mj_96_43 : mc_P 96 43 = some (.bipush 12, 2, 0, 0, 0) := by decide +kernel
theorem s_96_43 {x0 : Option Value} : mw d 96 Q 43 [x0] (st) h = mw d 96 Q 45 [x0] (.int 12 :: st) h := (mw_at mj_96_43).trans (z_bipush (by decide))
theorem mj_96_45 : mc_P 96 45 = some (.newarray .int, 2, 100, 0, 0) := by decide +kernel
theorem s_96_45 {x0 : Option Value} {i : Int32} : mw d 96 Q 45 [x0] (.int i :: st) h = (mN i ∧ mw d 96 Q 47 [x0] (.ref (mh_n h) :: st) (mh_new h 100 i.toNatClampNeg)) := (mw_at mj_96_45).trans (z_newa (by decide) (by decide))
theorem mj_96_47 : mc_P 96 47 = some (.putfield 28, 3, 5, 11, 0) := by decide +kernel
theorem s_96_47 {x0 : Option Value} {o w : Nat} : mw d 96 Q 47 [x0] (.ref w :: .ref o :: st) h = (mg h o 5 ∧ mw d 96 Q 50 [x0] (st) (mh_sr h o 11 (some w))) := (mw_at mj_96_47).trans (z_putr (by decide) (by decide) rfl)
theorem s_96_47n {x0 : Option Value} {o : Nat} : mw d 96 Q 47 [x0] (.null :: .ref o :: st) h = (mg h o 5 ∧ mw d 96 Q 50 [x0] (st) (mh_sr h o 11 none)) := (mw_at mj_96_47).trans (z_putn (by decide) (by decide) rfl)
theorem mj_96_50 : mc_P 96 50 = some (.return_, 1, 0, 0, 0) := by decide +kernel
theorem s_96_50 {x0 : Option Value} : mw d 96 Q 50 [x0] ([]) h = Q none h := (mw_at mj_96_50).trans (z_vret)
theorem e_96 {a0 : Nat} : mcall d 96 [.ref a0] h Q = mw d 96 Q 0 [some (.ref a0)] [] h := by
  show mw d 96 Q 0 (me_en (mc_nl 96) _) [] h = _
  rw [nl_96]; rfl

/-! InvariantDesk$Ranges.lookFrom(LInvariantDesk$Program;ILInvariantDesk$State;)V -/
theorem mj_97_0 : mc_P 97 0 = some (.aload_n 0, 1, 0, 0, 0) := by decide +kernel
theorem s_97_0 {x1 x2 x3 : Option Value} {w : Value} : mw d 97 Q 0 [some w, x1, x2, x3] (st) h = mv_a w (mw d 97 Q 1 [some w, x1, x2, x3] (w :: st) h) := (mw_at mj_97_0).trans (z_aload_n rfl)
theorem mj_97_1 : mc_P 97 1 = some (.aload_n 1, 1, 0, 0, 0) := by decide +kernel
theorem s_97_1 {x0 x2 x3 : Option Value} {w : Value} : mw d 97 Q 1 [x0, some w, x2, x3] (st) h = mv_a w (mw d 97 Q 2 [x0, some w, x2, x3] (w :: st) h) := (mw_at mj_97_1).trans (z_aload_n rfl)
theorem mj_97_2 : mc_P 97 2 = some (.getfield 31, 3, 4, 1, 0) := by decide +kernel
theorem s_97_2 {x0 x1 x2 x3 : Option Value} {o : Nat} : mw d 97 Q 2 [x0, x1, x2, x3] (.ref o :: st) h = (mg h o 4 ∧ mw d 97 Q 5 [x0, x1, x2, x3] (va_rf (mh_r h o 1) :: st) h) := (mw_at mj_97_2).trans (z_getr (by decide) (by decide) rfl)
theorem mj_97_5 : mc_P 97 5 = some (.putfield 37, 3, 5, 0, 0) := by decide +kernel
theorem s_97_5 {x0 x1 x2 x3 : Option Value} {o w : Nat} : mw d 97 Q 5 [x0, x1, x2, x3] (.ref w :: .ref o :: st) h = (mg h o 5 ∧ mw d 97 Q 8 [x0, x1, x2, x3] (st) (mh_sr h o 0 (some w))) := (mw_at mj_97_5).trans (z_putr (by decide) (by decide) rfl)
theorem s_97_5n {x0 x1 x2 x3 : Option Value} {o : Nat} : mw d 97 Q 5 [x0, x1, x2, x3] (.null :: .ref o :: st) h = (mg h o 5 ∧ mw d 97 Q 8 [x0, x1, x2, x3] (st) (mh_sr h o 0 none)) := (mw_at mj_97_5).trans (z_putn (by decide) (by decide) rfl)
theorem mj_97_8 : mc_P 97 8 = some (.aload_n 0, 1, 0, 0, 0) := by decide +kernel
theorem s_97_8 {x1 x2 x3 : Option Value} {w : Value} : mw d 97 Q 8 [some w, x1, x2, x3] (st) h = mv_a w (mw d 97 Q 9 [some w, x1, x2, x3] (w :: st) h) := (mw_at mj_97_8).trans (z_aload_n rfl)
theorem mj_97_9 : mc_P 97 9 = some (.aload_n 1, 1, 0, 0, 0) := by decide +kernel
theorem s_97_9 {x0 x2 x3 : Option Value} {w : Value} : mw d 97 Q 9 [x0, some w, x2, x3] (st) h = mv_a w (mw d 97 Q 10 [x0, some w, x2, x3] (w :: st) h) := (mw_at mj_97_9).trans (z_aload_n rfl)
theorem mj_97_10 : mc_P 97 10 = some (.getfield 38, 3, 4, 4, 0) := by decide +kernel
theorem s_97_10 {x0 x1 x2 x3 : Option Value} {o : Nat} : mw d 97 Q 10 [x0, x1, x2, x3] (.ref o :: st) h = (mg h o 4 ∧ mw d 97 Q 13 [x0, x1, x2, x3] (va_rf (mh_r h o 4) :: st) h) := (mw_at mj_97_10).trans (z_getr (by decide) (by decide) rfl)
theorem mj_97_13 : mc_P 97 13 = some (.iload_n 2, 1, 0, 0, 0) := by decide +kernel
theorem s_97_13 {x0 x1 x3 : Option Value} {w : Value} : mw d 97 Q 13 [x0, x1, some w, x3] (st) h = mv_i w (mw d 97 Q 14 [x0, x1, some w, x3] (w :: st) h) := (mw_at mj_97_13).trans (z_iload_n rfl)
theorem mj_97_14 : mc_P 97 14 = some (.iaload, 1, 0, 0, 0) := by decide +kernel
theorem s_97_14 {x0 x1 x2 x3 : Option Value} {o : Nat} {i : Int32} : mw d 97 Q 14 [x0, x1, x2, x3] (.int i :: .ref o :: st) h = (mg h o 100 ∧ mx i (mh_l h o) ∧ mw d 97 Q 15 [x0, x1, x2, x3] (.int (mh_i h o i.toNatClampNeg) :: st) h) := (mw_at mj_97_14).trans (z_iald)
theorem mj_97_15 : mc_P 97 15 = some (.putfield 41, 3, 5, 2, 0) := by decide +kernel
theorem s_97_15 {x0 x1 x2 x3 : Option Value} {o : Nat} {w : Int32} : mw d 97 Q 15 [x0, x1, x2, x3] (.int w :: .ref o :: st) h = (mg h o 5 ∧ mw d 97 Q 18 [x0, x1, x2, x3] (st) (mh_si h o 2 w)) := (mw_at mj_97_15).trans (z_puti (by decide) (by decide) rfl)
theorem mj_97_18 : mc_P 97 18 = some (.aload_n 0, 1, 0, 0, 0) := by decide +kernel
theorem s_97_18 {x1 x2 x3 : Option Value} {w : Value} : mw d 97 Q 18 [some w, x1, x2, x3] (st) h = mv_a w (mw d 97 Q 19 [some w, x1, x2, x3] (w :: st) h) := (mw_at mj_97_18).trans (z_aload_n rfl)
theorem mj_97_19 : mc_P 97 19 = some (.aload_n 1, 1, 0, 0, 0) := by decide +kernel
theorem s_97_19 {x0 x2 x3 : Option Value} {w : Value} : mw d 97 Q 19 [x0, some w, x2, x3] (st) h = mv_a w (mw d 97 Q 20 [x0, some w, x2, x3] (w :: st) h) := (mw_at mj_97_19).trans (z_aload_n rfl)
theorem mj_97_20 : mc_P 97 20 = some (.getfield 44, 3, 4, 5, 0) := by decide +kernel
theorem s_97_20 {x0 x1 x2 x3 : Option Value} {o : Nat} : mw d 97 Q 20 [x0, x1, x2, x3] (.ref o :: st) h = (mg h o 4 ∧ mw d 97 Q 23 [x0, x1, x2, x3] (va_rf (mh_r h o 5) :: st) h) := (mw_at mj_97_20).trans (z_getr (by decide) (by decide) rfl)
theorem mj_97_23 : mc_P 97 23 = some (.iload_n 2, 1, 0, 0, 0) := by decide +kernel
theorem s_97_23 {x0 x1 x3 : Option Value} {w : Value} : mw d 97 Q 23 [x0, x1, some w, x3] (st) h = mv_i w (mw d 97 Q 24 [x0, x1, some w, x3] (w :: st) h) := (mw_at mj_97_23).trans (z_iload_n rfl)
theorem mj_97_24 : mc_P 97 24 = some (.iaload, 1, 0, 0, 0) := by decide +kernel
theorem s_97_24 {x0 x1 x2 x3 : Option Value} {o : Nat} {i : Int32} : mw d 97 Q 24 [x0, x1, x2, x3] (.int i :: .ref o :: st) h = (mg h o 100 ∧ mx i (mh_l h o) ∧ mw d 97 Q 25 [x0, x1, x2, x3] (.int (mh_i h o i.toNatClampNeg) :: st) h) := (mw_at mj_97_24).trans (z_iald)
theorem mj_97_25 : mc_P 97 25 = some (.putfield 47, 3, 5, 3, 0) := by decide +kernel
theorem s_97_25 {x0 x1 x2 x3 : Option Value} {o : Nat} {w : Int32} : mw d 97 Q 25 [x0, x1, x2, x3] (.int w :: .ref o :: st) h = (mg h o 5 ∧ mw d 97 Q 28 [x0, x1, x2, x3] (st) (mh_si h o 3 w)) := (mw_at mj_97_25).trans (z_puti (by decide) (by decide) rfl)
theorem mj_97_28 : mc_P 97 28 = some (.aload_n 0, 1, 0, 0, 0) := by decide +kernel
theorem s_97_28 {x1 x2 x3 : Option Value} {w : Value} : mw d 97 Q 28 [some w, x1, x2, x3] (st) h = mv_a w (mw d 97 Q 29 [some w, x1, x2, x3] (w :: st) h) := (mw_at mj_97_28).trans (z_aload_n rfl)
theorem mj_97_29 : mc_P 97 29 = some (.aload_n 3, 1, 0, 0, 0) := by decide +kernel
theorem s_97_29 {x0 x1 x2 : Option Value} {w : Value} : mw d 97 Q 29 [x0, x1, x2, some w] (st) h = mv_a w (mw d 97 Q 30 [x0, x1, x2, some w] (w :: st) h) := (mw_at mj_97_29).trans (z_aload_n rfl)
theorem mj_97_30 : mc_P 97 30 = some (.putfield 49, 3, 5, 1, 0) := by decide +kernel
theorem s_97_30 {x0 x1 x2 x3 : Option Value} {o w : Nat} : mw d 97 Q 30 [x0, x1, x2, x3] (.ref w :: .ref o :: st) h = (mg h o 5 ∧ mw d 97 Q 33 [x0, x1, x2, x3] (st) (mh_sr h o 1 (some w))) := (mw_at mj_97_30).trans (z_putr (by decide) (by decide) rfl)
theorem s_97_30n {x0 x1 x2 x3 : Option Value} {o : Nat} : mw d 97 Q 30 [x0, x1, x2, x3] (.null :: .ref o :: st) h = (mg h o 5 ∧ mw d 97 Q 33 [x0, x1, x2, x3] (st) (mh_sr h o 1 none)) := (mw_at mj_97_30).trans (z_putn (by decide) (by decide) rfl)
theorem mj_97_33 : mc_P 97 33 = some (.aload_n 0, 1, 0, 0, 0) := by decide +kernel
theorem s_97_33 {x1 x2 x3 : Option Value} {w : Value} : mw d 97 Q 33 [some w, x1, x2, x3] (st) h = mv_a w (mw d 97 Q 34 [some w, x1, x2, x3] (w :: st) h) := (mw_at mj_97_33).trans (z_aload_n rfl)
theorem mj_97_34 : mc_P 97 34 = some (.iconst 0, 1, 0, 0, 0) := by decide +kernel
theorem s_97_34 {x0 x1 x2 x3 : Option Value} : mw d 97 Q 34 [x0, x1, x2, x3] (st) h = mw d 97 Q 35 [x0, x1, x2, x3] (.int 0 :: st) h := (mw_at mj_97_34).trans (z_iconst (by decide))
theorem mj_97_35 : mc_P 97 35 = some (.putfield 53, 3, 5, 4, 0) := by decide +kernel
theorem s_97_35 {x0 x1 x2 x3 : Option Value} {o : Nat} {w : Int32} : mw d 97 Q 35 [x0, x1, x2, x3] (.int w :: .ref o :: st) h = (mg h o 5 ∧ mw d 97 Q 38 [x0, x1, x2, x3] (st) (mh_si h o 4 w)) := (mw_at mj_97_35).trans (z_puti (by decide) (by decide) rfl)
theorem mj_97_38 : mc_P 97 38 = some (.aload_n 0, 1, 0, 0, 0) := by decide +kernel
theorem s_97_38 {x1 x2 x3 : Option Value} {w : Value} : mw d 97 Q 38 [some w, x1, x2, x3] (st) h = mv_a w (mw d 97 Q 39 [some w, x1, x2, x3] (w :: st) h) := (mw_at mj_97_38).trans (z_aload_n rfl)
theorem mj_97_39 : mc_P 97 39 = some (.getfield 22, 3, 5, 9, 0) := by decide +kernel
theorem s_97_39 {x0 x1 x2 x3 : Option Value} {o : Nat} : mw d 97 Q 39 [x0, x1, x2, x3] (.ref o :: st) h = (mg h o 5 ∧ mw d 97 Q 42 [x0, x1, x2, x3] (va_rf (mh_r h o 9) :: st) h) := (mw_at mj_97_39).trans (z_getr (by decide) (by decide) rfl)
theorem mj_97_42 : mc_P 97 42 = some (.arraylength, 1, 0, 0, 0) := by decide +kernel
theorem s_97_42 {x0 x1 x2 x3 : Option Value} {o : Nat} : mw d 97 Q 42 [x0, x1, x2, x3] (.ref o :: st) h = (mga h o ∧ mw d 97 Q 43 [x0, x1, x2, x3] (.int (Int32.ofNat (mh_l h o)) :: st) h) := (mw_at mj_97_42).trans (z_alen)
theorem mj_97_43 : mc_P 97 43 = some (.aload_n 0, 1, 0, 0, 0) := by decide +kernel
theorem s_97_43 {x1 x2 x3 : Option Value} {w : Value} : mw d 97 Q 43 [some w, x1, x2, x3] (st) h = mv_a w (mw d 97 Q 44 [some w, x1, x2, x3] (w :: st) h) := (mw_at mj_97_43).trans (z_aload_n rfl)
theorem mj_97_44 : mc_P 97 44 = some (.getfield 37, 3, 5, 0, 0) := by decide +kernel
theorem s_97_44 {x0 x1 x2 x3 : Option Value} {o : Nat} : mw d 97 Q 44 [x0, x1, x2, x3] (.ref o :: st) h = (mg h o 5 ∧ mw d 97 Q 47 [x0, x1, x2, x3] (va_rf (mh_r h o 0) :: st) h) := (mw_at mj_97_44).trans (z_getr (by decide) (by decide) rfl)
theorem mj_97_47 : mc_P 97 47 = some (.getfield 56, 3, 7, 5, 0) := by decide +kernel
theorem s_97_47 {x0 x1 x2 x3 : Option Value} {o : Nat} : mw d 97 Q 47 [x0, x1, x2, x3] (.ref o :: st) h = (mg h o 7 ∧ mw d 97 Q 50 [x0, x1, x2, x3] (.int (mh_i h o 5) :: st) h) := (mw_at mj_97_47).trans (z_geti (by decide) (by decide) (Or.inl rfl))
theorem mj_97_50 : mc_P 97 50 = some (.if_icmp .ge 29, 3, 0, 0, 0) := by decide +kernel
theorem s_97_50 {x0 x1 x2 x3 : Option Value} {x w : Int32} : mw d 97 Q 50 [x0, x1, x2, x3] (.int w :: .int x :: st) h = mB (w ≤ x) (mw d 97 Q) 79 53 [x0, x1, x2, x3] st h := (mw_at mj_97_50).trans (z_icmp_ge (by decide) rfl)
theorem mj_97_53 : mc_P 97 53 = some (.aload_n 0, 1, 0, 0, 0) := by decide +kernel
theorem s_97_53 {x1 x2 x3 : Option Value} {w : Value} : mw d 97 Q 53 [some w, x1, x2, x3] (st) h = mv_a w (mw d 97 Q 54 [some w, x1, x2, x3] (w :: st) h) := (mw_at mj_97_53).trans (z_aload_n rfl)
theorem mj_97_54 : mc_P 97 54 = some (.aload_n 0, 1, 0, 0, 0) := by decide +kernel
theorem s_97_54 {x1 x2 x3 : Option Value} {w : Value} : mw d 97 Q 54 [some w, x1, x2, x3] (st) h = mv_a w (mw d 97 Q 55 [some w, x1, x2, x3] (w :: st) h) := (mw_at mj_97_54).trans (z_aload_n rfl)
theorem mj_97_55 : mc_P 97 55 = some (.getfield 37, 3, 5, 0, 0) := by decide +kernel
theorem s_97_55 {x0 x1 x2 x3 : Option Value} {o : Nat} : mw d 97 Q 55 [x0, x1, x2, x3] (.ref o :: st) h = (mg h o 5 ∧ mw d 97 Q 58 [x0, x1, x2, x3] (va_rf (mh_r h o 0) :: st) h) := (mw_at mj_97_55).trans (z_getr (by decide) (by decide) rfl)
theorem mj_97_58 : mc_P 97 58 = some (.getfield 56, 3, 7, 5, 0) := by decide +kernel
theorem s_97_58 {x0 x1 x2 x3 : Option Value} {o : Nat} : mw d 97 Q 58 [x0, x1, x2, x3] (.ref o :: st) h = (mg h o 7 ∧ mw d 97 Q 61 [x0, x1, x2, x3] (.int (mh_i h o 5) :: st) h) := (mw_at mj_97_58).trans (z_geti (by decide) (by decide) (Or.inl rfl))
theorem mj_97_61 : mc_P 97 61 = some (.newarray .long, 2, 101, 0, 0) := by decide +kernel
theorem s_97_61 {x0 x1 x2 x3 : Option Value} {i : Int32} : mw d 97 Q 61 [x0, x1, x2, x3] (.int i :: st) h = (mN i ∧ mw d 97 Q 63 [x0, x1, x2, x3] (.ref (mh_n h) :: st) (mh_new h 101 i.toNatClampNeg)) := (mw_at mj_97_61).trans (z_newa (by decide) (by decide))
theorem mj_97_63 : mc_P 97 63 = some (.putfield 22, 3, 5, 9, 0) := by decide +kernel
theorem s_97_63 {x0 x1 x2 x3 : Option Value} {o w : Nat} : mw d 97 Q 63 [x0, x1, x2, x3] (.ref w :: .ref o :: st) h = (mg h o 5 ∧ mw d 97 Q 66 [x0, x1, x2, x3] (st) (mh_sr h o 9 (some w))) := (mw_at mj_97_63).trans (z_putr (by decide) (by decide) rfl)
theorem s_97_63n {x0 x1 x2 x3 : Option Value} {o : Nat} : mw d 97 Q 63 [x0, x1, x2, x3] (.null :: .ref o :: st) h = (mg h o 5 ∧ mw d 97 Q 66 [x0, x1, x2, x3] (st) (mh_sr h o 9 none)) := (mw_at mj_97_63).trans (z_putn (by decide) (by decide) rfl)
theorem mj_97_66 : mc_P 97 66 = some (.aload_n 0, 1, 0, 0, 0) := by decide +kernel
theorem s_97_66 {x1 x2 x3 : Option Value} {w : Value} : mw d 97 Q 66 [some w, x1, x2, x3] (st) h = mv_a w (mw d 97 Q 67 [some w, x1, x2, x3] (w :: st) h) := (mw_at mj_97_66).trans (z_aload_n rfl)
theorem mj_97_67 : mc_P 97 67 = some (.aload_n 0, 1, 0, 0, 0) := by decide +kernel
theorem s_97_67 {x1 x2 x3 : Option Value} {w : Value} : mw d 97 Q 67 [some w, x1, x2, x3] (st) h = mv_a w (mw d 97 Q 68 [some w, x1, x2, x3] (w :: st) h) := (mw_at mj_97_67).trans (z_aload_n rfl)
theorem mj_97_68 : mc_P 97 68 = some (.getfield 37, 3, 5, 0, 0) := by decide +kernel
theorem s_97_68 {x0 x1 x2 x3 : Option Value} {o : Nat} : mw d 97 Q 68 [x0, x1, x2, x3] (.ref o :: st) h = (mg h o 5 ∧ mw d 97 Q 71 [x0, x1, x2, x3] (va_rf (mh_r h o 0) :: st) h) := (mw_at mj_97_68).trans (z_getr (by decide) (by decide) rfl)
theorem mj_97_71 : mc_P 97 71 = some (.getfield 56, 3, 7, 5, 0) := by decide +kernel
theorem s_97_71 {x0 x1 x2 x3 : Option Value} {o : Nat} : mw d 97 Q 71 [x0, x1, x2, x3] (.ref o :: st) h = (mg h o 7 ∧ mw d 97 Q 74 [x0, x1, x2, x3] (.int (mh_i h o 5) :: st) h) := (mw_at mj_97_71).trans (z_geti (by decide) (by decide) (Or.inl rfl))
theorem mj_97_74 : mc_P 97 74 = some (.newarray .long, 2, 101, 0, 0) := by decide +kernel
theorem s_97_74 {x0 x1 x2 x3 : Option Value} {i : Int32} : mw d 97 Q 74 [x0, x1, x2, x3] (.int i :: st) h = (mN i ∧ mw d 97 Q 76 [x0, x1, x2, x3] (.ref (mh_n h) :: st) (mh_new h 101 i.toNatClampNeg)) := (mw_at mj_97_74).trans (z_newa (by decide) (by decide))
theorem mj_97_76 : mc_P 97 76 = some (.putfield 25, 3, 5, 10, 0) := by decide +kernel
theorem s_97_76 {x0 x1 x2 x3 : Option Value} {o w : Nat} : mw d 97 Q 76 [x0, x1, x2, x3] (.ref w :: .ref o :: st) h = (mg h o 5 ∧ mw d 97 Q 79 [x0, x1, x2, x3] (st) (mh_sr h o 10 (some w))) := (mw_at mj_97_76).trans (z_putr (by decide) (by decide) rfl)
theorem s_97_76n {x0 x1 x2 x3 : Option Value} {o : Nat} : mw d 97 Q 76 [x0, x1, x2, x3] (.null :: .ref o :: st) h = (mg h o 5 ∧ mw d 97 Q 79 [x0, x1, x2, x3] (st) (mh_sr h o 10 none)) := (mw_at mj_97_76).trans (z_putn (by decide) (by decide) rfl)
theorem mj_97_79 : mc_P 97 79 = some (.return_, 1, 0, 0, 0) := by decide +kernel
theorem s_97_79 {x0 x1 x2 x3 : Option Value} : mw d 97 Q 79 [x0, x1, x2, x3] ([]) h = Q none h := (mw_at mj_97_79).trans (z_vret)
theorem e_97 {a0 : Nat} {a1 : Nat} {a2 : Int32} {a3 : Nat} : mcall d 97 [.ref a0, .ref a1, .int a2, .ref a3] h Q = mw d 97 Q 0 [some (.ref a0), some (.ref a1), some (.int a2), some (.ref a3)] [] h := by
  show mw d 97 Q 0 (me_en (mc_nl 97) _) [] h = _
  rw [nl_97]; rfl

/-! InvariantDesk$Ranges.lookBy(LInvariantDesk$State;)V -/
theorem mj_98_0 : mc_P 98 0 = some (.aload_n 0, 1, 0, 0, 0) := by decide +kernel
theorem s_98_0 {x1 : Option Value} {w : Value} : mw d 98 Q 0 [some w, x1] (st) h = mv_a w (mw d 98 Q 1 [some w, x1] (w :: st) h) := (mw_at mj_98_0).trans (z_aload_n rfl)
theorem mj_98_1 : mc_P 98 1 = some (.aload_n 1, 1, 0, 0, 0) := by decide +kernel
theorem s_98_1 {x0 : Option Value} {w : Value} : mw d 98 Q 1 [x0, some w] (st) h = mv_a w (mw d 98 Q 2 [x0, some w] (w :: st) h) := (mw_at mj_98_1).trans (z_aload_n rfl)
theorem mj_98_2 : mc_P 98 2 = some (.putfield 49, 3, 5, 1, 0) := by decide +kernel
theorem s_98_2 {x0 x1 : Option Value} {o w : Nat} : mw d 98 Q 2 [x0, x1] (.ref w :: .ref o :: st) h = (mg h o 5 ∧ mw d 98 Q 5 [x0, x1] (st) (mh_sr h o 1 (some w))) := (mw_at mj_98_2).trans (z_putr (by decide) (by decide) rfl)
theorem s_98_2n {x0 x1 : Option Value} {o : Nat} : mw d 98 Q 2 [x0, x1] (.null :: .ref o :: st) h = (mg h o 5 ∧ mw d 98 Q 5 [x0, x1] (st) (mh_sr h o 1 none)) := (mw_at mj_98_2).trans (z_putn (by decide) (by decide) rfl)
theorem mj_98_5 : mc_P 98 5 = some (.return_, 1, 0, 0, 0) := by decide +kernel
theorem s_98_5 {x0 x1 : Option Value} : mw d 98 Q 5 [x0, x1] ([]) h = Q none h := (mw_at mj_98_5).trans (z_vret)
theorem e_98 {a0 : Nat} {a1 : Nat} : mcall d 98 [.ref a0, .ref a1] h Q = mw d 98 Q 0 [some (.ref a0), some (.ref a1)] [] h := by
  show mw d 98 Q 0 (me_en (mc_nl 98) _) [] h = _
  rw [nl_98]; rfl

/-! InvariantDesk$Ranges.reckon(I)Z -/
theorem mj_99_0 : mc_P 99 0 = some (.aload_n 0, 1, 0, 0, 0) := by decide +kernel
theorem s_99_0 {x1 x2 x3 x4 : Option Value} {w : Value} : mw d 99 Q 0 [some w, x1, x2, x3, x4] (st) h = mv_a w (mw d 99 Q 1 [some w, x1, x2, x3, x4] (w :: st) h) := (mw_at mj_99_0).trans (z_aload_n rfl)
theorem mj_99_1 : mc_P 99 1 = some (.iconst 0, 1, 0, 0, 0) := by decide +kernel
theorem s_99_1 {x0 x1 x2 x3 x4 : Option Value} : mw d 99 Q 1 [x0, x1, x2, x3, x4] (st) h = mw d 99 Q 2 [x0, x1, x2, x3, x4] (.int 0 :: st) h := (mw_at mj_99_1).trans (z_iconst (by decide))
theorem mj_99_2 : mc_P 99 2 = some (.putfield 61, 3, 5, 8, 0) := by decide +kernel
theorem s_99_2 {x0 x1 x2 x3 x4 : Option Value} {o : Nat} {w : Int32} : mw d 99 Q 2 [x0, x1, x2, x3, x4] (.int w :: .ref o :: st) h = (mg h o 5 ∧ mw d 99 Q 5 [x0, x1, x2, x3, x4] (st) (mh_si h o 8 w)) := (mw_at mj_99_2).trans (z_puti (by decide) (by decide) rfl)
theorem mj_99_5 : mc_P 99 5 = some (.aload_n 0, 1, 0, 0, 0) := by decide +kernel
theorem s_99_5 {x1 x2 x3 x4 : Option Value} {w : Value} : mw d 99 Q 5 [some w, x1, x2, x3, x4] (st) h = mv_a w (mw d 99 Q 6 [some w, x1, x2, x3, x4] (w :: st) h) := (mw_at mj_99_5).trans (z_aload_n rfl)
theorem mj_99_6 : mc_P 99 6 = some (.getfield 37, 3, 5, 0, 0) := by decide +kernel
theorem s_99_6 {x0 x1 x2 x3 x4 : Option Value} {o : Nat} : mw d 99 Q 6 [x0, x1, x2, x3, x4] (.ref o :: st) h = (mg h o 5 ∧ mw d 99 Q 9 [x0, x1, x2, x3, x4] (va_rf (mh_r h o 0) :: st) h) := (mw_at mj_99_6).trans (z_getr (by decide) (by decide) rfl)
theorem mj_99_9 : mc_P 99 9 = some (.getfield 64, 3, 7, 7, 0) := by decide +kernel
theorem s_99_9 {x0 x1 x2 x3 x4 : Option Value} {o : Nat} : mw d 99 Q 9 [x0, x1, x2, x3, x4] (.ref o :: st) h = (mg h o 7 ∧ mw d 99 Q 12 [x0, x1, x2, x3, x4] (va_rf (mh_r h o 7) :: st) h) := (mw_at mj_99_9).trans (z_getr (by decide) (by decide) rfl)
theorem mj_99_12 : mc_P 99 12 = some (.iload_n 1, 1, 0, 0, 0) := by decide +kernel
theorem s_99_12 {x0 x2 x3 x4 : Option Value} {w : Value} : mw d 99 Q 12 [x0, some w, x2, x3, x4] (st) h = mv_i w (mw d 99 Q 13 [x0, some w, x2, x3, x4] (w :: st) h) := (mw_at mj_99_12).trans (z_iload_n rfl)
theorem mj_99_13 : mc_P 99 13 = some (.iaload, 1, 0, 0, 0) := by decide +kernel
theorem s_99_13 {x0 x1 x2 x3 x4 : Option Value} {o : Nat} {i : Int32} : mw d 99 Q 13 [x0, x1, x2, x3, x4] (.int i :: .ref o :: st) h = (mg h o 100 ∧ mx i (mh_l h o) ∧ mw d 99 Q 14 [x0, x1, x2, x3, x4] (.int (mh_i h o i.toNatClampNeg) :: st) h) := (mw_at mj_99_13).trans (z_iald)
theorem mj_99_14 : mc_P 99 14 = some (.istore_n 2, 1, 0, 0, 0) := by decide +kernel
theorem s_99_14 {x0 x1 x2 x3 x4 : Option Value} {w : Int32} : mw d 99 Q 14 [x0, x1, x2, x3, x4] (.int w :: st) h = mw d 99 Q 15 [x0, mk2 x1, some (.int w), x3, x4] (st) h := (mw_at mj_99_14).trans (z_istore_n (Nat.le_of_ble_eq_true rfl) (me_s1_mk (j := 1) (w := x1) rfl))
theorem mj_99_15 : mc_P 99 15 = some (.aload_n 0, 1, 0, 0, 0) := by decide +kernel
theorem s_99_15 {x1 x2 x3 x4 : Option Value} {w : Value} : mw d 99 Q 15 [some w, x1, x2, x3, x4] (st) h = mv_a w (mw d 99 Q 16 [some w, x1, x2, x3, x4] (w :: st) h) := (mw_at mj_99_15).trans (z_aload_n rfl)
theorem mj_99_16 : mc_P 99 16 = some (.getfield 37, 3, 5, 0, 0) := by decide +kernel
theorem s_99_16 {x0 x1 x2 x3 x4 : Option Value} {o : Nat} : mw d 99 Q 16 [x0, x1, x2, x3, x4] (.ref o :: st) h = (mg h o 5 ∧ mw d 99 Q 19 [x0, x1, x2, x3, x4] (va_rf (mh_r h o 0) :: st) h) := (mw_at mj_99_16).trans (z_getr (by decide) (by decide) rfl)
theorem mj_99_19 : mc_P 99 19 = some (.getfield 67, 3, 7, 6, 0) := by decide +kernel
theorem s_99_19 {x0 x1 x2 x3 x4 : Option Value} {o : Nat} : mw d 99 Q 19 [x0, x1, x2, x3, x4] (.ref o :: st) h = (mg h o 7 ∧ mw d 99 Q 22 [x0, x1, x2, x3, x4] (va_rf (mh_r h o 6) :: st) h) := (mw_at mj_99_19).trans (z_getr (by decide) (by decide) rfl)
theorem mj_99_22 : mc_P 99 22 = some (.iload_n 1, 1, 0, 0, 0) := by decide +kernel
theorem s_99_22 {x0 x2 x3 x4 : Option Value} {w : Value} : mw d 99 Q 22 [x0, some w, x2, x3, x4] (st) h = mv_i w (mw d 99 Q 23 [x0, some w, x2, x3, x4] (w :: st) h) := (mw_at mj_99_22).trans (z_iload_n rfl)
theorem mj_99_23 : mc_P 99 23 = some (.iaload, 1, 0, 0, 0) := by decide +kernel
theorem s_99_23 {x0 x1 x2 x3 x4 : Option Value} {o : Nat} {i : Int32} : mw d 99 Q 23 [x0, x1, x2, x3, x4] (.int i :: .ref o :: st) h = (mg h o 100 ∧ mx i (mh_l h o) ∧ mw d 99 Q 24 [x0, x1, x2, x3, x4] (.int (mh_i h o i.toNatClampNeg) :: st) h) := (mw_at mj_99_23).trans (z_iald)
theorem mj_99_24 : mc_P 99 24 = some (.istore_n 3, 1, 0, 0, 0) := by decide +kernel
theorem s_99_24 {x0 x1 x2 x3 x4 : Option Value} {w : Int32} : mw d 99 Q 24 [x0, x1, x2, x3, x4] (.int w :: st) h = mw d 99 Q 25 [x0, x1, mk2 x2, some (.int w), x4] (st) h := (mw_at mj_99_24).trans (z_istore_n (Nat.le_of_ble_eq_true rfl) (me_s1_mk (j := 2) (w := x2) rfl))
theorem mj_99_25 : mc_P 99 25 = some (.iload_n 3, 1, 0, 0, 0) := by decide +kernel
theorem s_99_25 {x0 x1 x2 x4 : Option Value} {w : Value} : mw d 99 Q 25 [x0, x1, x2, some w, x4] (st) h = mv_i w (mw d 99 Q 26 [x0, x1, x2, some w, x4] (w :: st) h) := (mw_at mj_99_25).trans (z_iload_n rfl)
theorem mj_99_26 : mc_P 99 26 = some (.aload_n 0, 1, 0, 0, 0) := by decide +kernel
theorem s_99_26 {x1 x2 x3 x4 : Option Value} {w : Value} : mw d 99 Q 26 [some w, x1, x2, x3, x4] (st) h = mv_a w (mw d 99 Q 27 [some w, x1, x2, x3, x4] (w :: st) h) := (mw_at mj_99_26).trans (z_aload_n rfl)
theorem mj_99_27 : mc_P 99 27 = some (.getfield 37, 3, 5, 0, 0) := by decide +kernel
theorem s_99_27 {x0 x1 x2 x3 x4 : Option Value} {o : Nat} : mw d 99 Q 27 [x0, x1, x2, x3, x4] (.ref o :: st) h = (mg h o 5 ∧ mw d 99 Q 30 [x0, x1, x2, x3, x4] (va_rf (mh_r h o 0) :: st) h) := (mw_at mj_99_27).trans (z_getr (by decide) (by decide) rfl)
theorem mj_99_30 : mc_P 99 30 = some (.getfield 67, 3, 7, 6, 0) := by decide +kernel
theorem s_99_30 {x0 x1 x2 x3 x4 : Option Value} {o : Nat} : mw d 99 Q 30 [x0, x1, x2, x3, x4] (.ref o :: st) h = (mg h o 7 ∧ mw d 99 Q 33 [x0, x1, x2, x3, x4] (va_rf (mh_r h o 6) :: st) h) := (mw_at mj_99_30).trans (z_getr (by decide) (by decide) rfl)
theorem mj_99_33 : mc_P 99 33 = some (.iload_n 1, 1, 0, 0, 0) := by decide +kernel
theorem s_99_33 {x0 x2 x3 x4 : Option Value} {w : Value} : mw d 99 Q 33 [x0, some w, x2, x3, x4] (st) h = mv_i w (mw d 99 Q 34 [x0, some w, x2, x3, x4] (w :: st) h) := (mw_at mj_99_33).trans (z_iload_n rfl)
theorem mj_99_34 : mc_P 99 34 = some (.iconst 1, 1, 0, 0, 0) := by decide +kernel
theorem s_99_34 {x0 x1 x2 x3 x4 : Option Value} : mw d 99 Q 34 [x0, x1, x2, x3, x4] (st) h = mw d 99 Q 35 [x0, x1, x2, x3, x4] (.int 1 :: st) h := (mw_at mj_99_34).trans (z_iconst (by decide))
theorem mj_99_35 : mc_P 99 35 = some (.iadd, 1, 0, 0, 0) := by decide +kernel
theorem s_99_35 {x0 x1 x2 x3 x4 : Option Value} {x w : Int32} : mw d 99 Q 35 [x0, x1, x2, x3, x4] (.int w :: .int x :: st) h = mw d 99 Q 36 [x0, x1, x2, x3, x4] (.int (x + w) :: st) h := (mw_at mj_99_35).trans (z_iadd)
theorem mj_99_36 : mc_P 99 36 = some (.iaload, 1, 0, 0, 0) := by decide +kernel
theorem s_99_36 {x0 x1 x2 x3 x4 : Option Value} {o : Nat} {i : Int32} : mw d 99 Q 36 [x0, x1, x2, x3, x4] (.int i :: .ref o :: st) h = (mg h o 100 ∧ mx i (mh_l h o) ∧ mw d 99 Q 37 [x0, x1, x2, x3, x4] (.int (mh_i h o i.toNatClampNeg) :: st) h) := (mw_at mj_99_36).trans (z_iald)
theorem mj_99_37 : mc_P 99 37 = some (.if_icmp .ge 253, 3, 0, 0, 0) := by decide +kernel
theorem s_99_37 {x0 x1 x2 x3 x4 : Option Value} {x w : Int32} : mw d 99 Q 37 [x0, x1, x2, x3, x4] (.int w :: .int x :: st) h = mB (w ≤ x) (mw d 99 Q) 290 40 [x0, x1, x2, x3, x4] st h := (mw_at mj_99_37).trans (z_icmp_ge (by decide) rfl)
theorem mj_99_40 : mc_P 99 40 = some (.iconst 1, 1, 0, 0, 0) := by decide +kernel
theorem s_99_40 {x0 x1 x2 x3 x4 : Option Value} : mw d 99 Q 40 [x0, x1, x2, x3, x4] (st) h = mw d 99 Q 41 [x0, x1, x2, x3, x4] (.int 1 :: st) h := (mw_at mj_99_40).trans (z_iconst (by decide))
theorem mj_99_41 : mc_P 99 41 = some (.istore 4, 2, 0, 0, 0) := by decide +kernel
theorem s_99_41 {x0 x1 x2 x3 x4 : Option Value} {w : Int32} : mw d 99 Q 41 [x0, x1, x2, x3, x4] (.int w :: st) h = mw d 99 Q 43 [x0, x1, x2, mk2 x3, some (.int w)] (st) h := (mw_at mj_99_41).trans (z_istore (Nat.le_of_ble_eq_true rfl) (me_s1_mk (j := 3) (w := x3) rfl))
theorem mj_99_43 : mc_P 99 43 = some (.aload_n 0, 1, 0, 0, 0) := by decide +kernel
theorem s_99_43 {x1 x2 x3 x4 : Option Value} {w : Value} : mw d 99 Q 43 [some w, x1, x2, x3, x4] (st) h = mv_a w (mw d 99 Q 44 [some w, x1, x2, x3, x4] (w :: st) h) := (mw_at mj_99_43).trans (z_aload_n rfl)
theorem mj_99_44 : mc_P 99 44 = some (.getfield 37, 3, 5, 0, 0) := by decide +kernel
theorem s_99_44 {x0 x1 x2 x3 x4 : Option Value} {o : Nat} : mw d 99 Q 44 [x0, x1, x2, x3, x4] (.ref o :: st) h = (mg h o 5 ∧ mw d 99 Q 47 [x0, x1, x2, x3, x4] (va_rf (mh_r h o 0) :: st) h) := (mw_at mj_99_44).trans (z_getr (by decide) (by decide) rfl)
theorem mj_99_47 : mc_P 99 47 = some (.getfield 70, 3, 7, 0, 0) := by decide +kernel
theorem s_99_47 {x0 x1 x2 x3 x4 : Option Value} {o : Nat} : mw d 99 Q 47 [x0, x1, x2, x3, x4] (.ref o :: st) h = (mg h o 7 ∧ mw d 99 Q 50 [x0, x1, x2, x3, x4] (va_rf (mh_r h o 0) :: st) h) := (mw_at mj_99_47).trans (z_getr (by decide) (by decide) rfl)
theorem mj_99_50 : mc_P 99 50 = some (.iconst 3, 1, 0, 0, 0) := by decide +kernel
theorem s_99_50 {x0 x1 x2 x3 x4 : Option Value} : mw d 99 Q 50 [x0, x1, x2, x3, x4] (st) h = mw d 99 Q 51 [x0, x1, x2, x3, x4] (.int 3 :: st) h := (mw_at mj_99_50).trans (z_iconst (by decide))
theorem mj_99_51 : mc_P 99 51 = some (.iload_n 3, 1, 0, 0, 0) := by decide +kernel
theorem s_99_51 {x0 x1 x2 x4 : Option Value} {w : Value} : mw d 99 Q 51 [x0, x1, x2, some w, x4] (st) h = mv_i w (mw d 99 Q 52 [x0, x1, x2, some w, x4] (w :: st) h) := (mw_at mj_99_51).trans (z_iload_n rfl)
theorem mj_99_52 : mc_P 99 52 = some (.imul, 1, 0, 0, 0) := by decide +kernel
theorem s_99_52 {x0 x1 x2 x3 x4 : Option Value} {x w : Int32} : mw d 99 Q 52 [x0, x1, x2, x3, x4] (.int w :: .int x :: st) h = mw d 99 Q 53 [x0, x1, x2, x3, x4] (.int (x * w) :: st) h := (mw_at mj_99_52).trans (z_imul)
theorem mj_99_53 : mc_P 99 53 = some (.iaload, 1, 0, 0, 0) := by decide +kernel
theorem s_99_53 {x0 x1 x2 x3 x4 : Option Value} {o : Nat} {i : Int32} : mw d 99 Q 53 [x0, x1, x2, x3, x4] (.int i :: .ref o :: st) h = (mg h o 100 ∧ mx i (mh_l h o) ∧ mw d 99 Q 54 [x0, x1, x2, x3, x4] (.int (mh_i h o i.toNatClampNeg) :: st) h) := (mw_at mj_99_53).trans (z_iald)
theorem mj_99_54 : mc_P 99 54 = some (.lookupswitch 106 #[(5, 58), (37, 97), (42, 81), (43, 65), (45, 73), (47, 88)], 58, 0, 0, 0) := by decide +kernel
theorem s_99_54 {x0 x1 x2 x3 x4 : Option Value} {x : Int32} : mw d 99 Q 54 [x0, x1, x2, x3, x4] (.int x :: st) h = mS x (mw d 99 Q) 160 [x0, x1, x2, x3, x4] st h [(5, 112), (37, 151), (42, 135), (43, 119), (45, 127), (47, 142)] := (mw_at mj_99_54).trans (z_look (by decide) (by decide) (by decide))
theorem mj_99_112 : mc_P 99 112 = some (.aload_n 0, 1, 0, 0, 0) := by decide +kernel
theorem s_99_112 {x1 x2 x3 x4 : Option Value} {w : Value} : mw d 99 Q 112 [some w, x1, x2, x3, x4] (st) h = mv_a w (mw d 99 Q 113 [some w, x1, x2, x3, x4] (w :: st) h) := (mw_at mj_99_112).trans (z_aload_n rfl)
theorem mj_99_113 : mc_P 99 113 = some (.invokevirtual 73, 3, 105, 5, 1) := by decide +kernel
theorem s_99_113 {x0 x1 x2 x3 x4 : Option Value} {o : Nat} : mw (d + 1) 99 Q 113 [x0, x1, x2, x3, x4] (.ref o :: st) h = (mg h o 5 ∧ mca st 8 ∧ mca [.ref o] 4 ∧ mcall d 105 [.ref o] h (mK (d + 1) 99 Q 116 [x0, x1, x2, x3, x4] st)) := (mw_at mj_99_113).trans ((z_invv (As := []) (by decide) rfl rfl).trans (congrArg (And _) (congrArg (And _) (mC_nl nl_105))))
theorem mj_99_116 : mc_P 99 116 = some (.goto 87, 3, 0, 0, 0) := by decide +kernel
theorem s_99_116 {x0 x1 x2 x3 x4 : Option Value} : mw d 99 Q 116 [x0, x1, x2, x3, x4] (st) h = mw d 99 Q 203 [x0, x1, x2, x3, x4] (st) h := (mw_at mj_99_116).trans (z_goto (by decide))
theorem mj_99_119 : mc_P 99 119 = some (.aload_n 0, 1, 0, 0, 0) := by decide +kernel
theorem s_99_119 {x1 x2 x3 x4 : Option Value} {w : Value} : mw d 99 Q 119 [some w, x1, x2, x3, x4] (st) h = mv_a w (mw d 99 Q 120 [some w, x1, x2, x3, x4] (w :: st) h) := (mw_at mj_99_119).trans (z_aload_n rfl)
theorem mj_99_120 : mc_P 99 120 = some (.iconst 0, 1, 0, 0, 0) := by decide +kernel
theorem s_99_120 {x0 x1 x2 x3 x4 : Option Value} : mw d 99 Q 120 [x0, x1, x2, x3, x4] (st) h = mw d 99 Q 121 [x0, x1, x2, x3, x4] (.int 0 :: st) h := (mw_at mj_99_120).trans (z_iconst (by decide))
theorem mj_99_121 : mc_P 99 121 = some (.invokevirtual 76, 3, 106, 5, 2) := by decide +kernel
theorem s_99_121 {x0 x1 x2 x3 x4 : Option Value} {o : Nat} {a1 : Value} : mw (d + 1) 99 Q 121 [x0, x1, x2, x3, x4] (a1 :: .ref o :: st) h = (mg h o 5 ∧ mca st 8 ∧ mca [.ref o, a1] 5 ∧ mcall d 106 [.ref o, a1] h (mK (d + 1) 99 Q 124 [x0, x1, x2, x3, x4] st)) := (mw_at mj_99_121).trans ((z_invv (As := [a1]) (by decide) rfl rfl).trans (congrArg (And _) (congrArg (And _) (mC_nl nl_106))))
theorem mj_99_124 : mc_P 99 124 = some (.goto 79, 3, 0, 0, 0) := by decide +kernel
theorem s_99_124 {x0 x1 x2 x3 x4 : Option Value} : mw d 99 Q 124 [x0, x1, x2, x3, x4] (st) h = mw d 99 Q 203 [x0, x1, x2, x3, x4] (st) h := (mw_at mj_99_124).trans (z_goto (by decide))
theorem mj_99_127 : mc_P 99 127 = some (.aload_n 0, 1, 0, 0, 0) := by decide +kernel
theorem s_99_127 {x1 x2 x3 x4 : Option Value} {w : Value} : mw d 99 Q 127 [some w, x1, x2, x3, x4] (st) h = mv_a w (mw d 99 Q 128 [some w, x1, x2, x3, x4] (w :: st) h) := (mw_at mj_99_127).trans (z_aload_n rfl)
theorem mj_99_128 : mc_P 99 128 = some (.iconst 1, 1, 0, 0, 0) := by decide +kernel
theorem s_99_128 {x0 x1 x2 x3 x4 : Option Value} : mw d 99 Q 128 [x0, x1, x2, x3, x4] (st) h = mw d 99 Q 129 [x0, x1, x2, x3, x4] (.int 1 :: st) h := (mw_at mj_99_128).trans (z_iconst (by decide))
theorem mj_99_129 : mc_P 99 129 = some (.invokevirtual 76, 3, 106, 5, 2) := by decide +kernel
theorem s_99_129 {x0 x1 x2 x3 x4 : Option Value} {o : Nat} {a1 : Value} : mw (d + 1) 99 Q 129 [x0, x1, x2, x3, x4] (a1 :: .ref o :: st) h = (mg h o 5 ∧ mca st 8 ∧ mca [.ref o, a1] 5 ∧ mcall d 106 [.ref o, a1] h (mK (d + 1) 99 Q 132 [x0, x1, x2, x3, x4] st)) := (mw_at mj_99_129).trans ((z_invv (As := [a1]) (by decide) rfl rfl).trans (congrArg (And _) (congrArg (And _) (mC_nl nl_106))))
theorem mj_99_132 : mc_P 99 132 = some (.goto 71, 3, 0, 0, 0) := by decide +kernel
theorem s_99_132 {x0 x1 x2 x3 x4 : Option Value} : mw d 99 Q 132 [x0, x1, x2, x3, x4] (st) h = mw d 99 Q 203 [x0, x1, x2, x3, x4] (st) h := (mw_at mj_99_132).trans (z_goto (by decide))
theorem mj_99_135 : mc_P 99 135 = some (.aload_n 0, 1, 0, 0, 0) := by decide +kernel
theorem s_99_135 {x1 x2 x3 x4 : Option Value} {w : Value} : mw d 99 Q 135 [some w, x1, x2, x3, x4] (st) h = mv_a w (mw d 99 Q 136 [some w, x1, x2, x3, x4] (w :: st) h) := (mw_at mj_99_135).trans (z_aload_n rfl)
theorem mj_99_136 : mc_P 99 136 = some (.invokevirtual 80, 3, 107, 5, 1) := by decide +kernel
theorem s_99_136 {x0 x1 x2 x3 x4 : Option Value} {o : Nat} : mw (d + 1) 99 Q 136 [x0, x1, x2, x3, x4] (.ref o :: st) h = (mg h o 5 ∧ mca st 8 ∧ mca [.ref o] 10 ∧ mcall d 107 [.ref o] h (mK (d + 1) 99 Q 139 [x0, x1, x2, x3, x4] st)) := (mw_at mj_99_136).trans ((z_invv (As := []) (by decide) rfl rfl).trans (congrArg (And _) (congrArg (And _) (mC_nl nl_107))))
theorem mj_99_139 : mc_P 99 139 = some (.goto 64, 3, 0, 0, 0) := by decide +kernel
theorem s_99_139 {x0 x1 x2 x3 x4 : Option Value} : mw d 99 Q 139 [x0, x1, x2, x3, x4] (st) h = mw d 99 Q 203 [x0, x1, x2, x3, x4] (st) h := (mw_at mj_99_139).trans (z_goto (by decide))
theorem mj_99_142 : mc_P 99 142 = some (.aload_n 0, 1, 0, 0, 0) := by decide +kernel
theorem s_99_142 {x1 x2 x3 x4 : Option Value} {w : Value} : mw d 99 Q 142 [some w, x1, x2, x3, x4] (st) h = mv_a w (mw d 99 Q 143 [some w, x1, x2, x3, x4] (w :: st) h) := (mw_at mj_99_142).trans (z_aload_n rfl)
theorem mj_99_143 : mc_P 99 143 = some (.invokevirtual 83, 3, 109, 5, 1) := by decide +kernel
theorem s_99_143 {x0 x1 x2 x3 x4 : Option Value} {o : Nat} : mw (d + 1) 99 Q 143 [x0, x1, x2, x3, x4] (.ref o :: st) h = (mg h o 5 ∧ mca st 8 ∧ mca [.ref o] 18 ∧ mcall d 109 [.ref o] h (mK (d + 1) 99 Q 146 [x0, x1, x2, x3, x4] st)) := (mw_at mj_99_143).trans ((z_invv (As := []) (by decide) rfl rfl).trans (congrArg (And _) (congrArg (And _) (mC_nl nl_109))))
theorem mj_99_146 : mc_P 99 146 = some (.istore 4, 2, 0, 0, 0) := by decide +kernel
theorem s_99_146 {x0 x1 x2 x3 x4 : Option Value} {w : Int32} : mw d 99 Q 146 [x0, x1, x2, x3, x4] (.int w :: st) h = mw d 99 Q 148 [x0, x1, x2, mk2 x3, some (.int w)] (st) h := (mw_at mj_99_146).trans (z_istore (Nat.le_of_ble_eq_true rfl) (me_s1_mk (j := 3) (w := x3) rfl))
theorem mj_99_148 : mc_P 99 148 = some (.goto 55, 3, 0, 0, 0) := by decide +kernel
theorem s_99_148 {x0 x1 x2 x3 x4 : Option Value} : mw d 99 Q 148 [x0, x1, x2, x3, x4] (st) h = mw d 99 Q 203 [x0, x1, x2, x3, x4] (st) h := (mw_at mj_99_148).trans (z_goto (by decide))
theorem mj_99_151 : mc_P 99 151 = some (.aload_n 0, 1, 0, 0, 0) := by decide +kernel
theorem s_99_151 {x1 x2 x3 x4 : Option Value} {w : Value} : mw d 99 Q 151 [some w, x1, x2, x3, x4] (st) h = mv_a w (mw d 99 Q 152 [some w, x1, x2, x3, x4] (w :: st) h) := (mw_at mj_99_151).trans (z_aload_n rfl)
theorem mj_99_152 : mc_P 99 152 = some (.invokevirtual 87, 3, 111, 5, 1) := by decide +kernel
theorem s_99_152 {x0 x1 x2 x3 x4 : Option Value} {o : Nat} : mw (d + 1) 99 Q 152 [x0, x1, x2, x3, x4] (.ref o :: st) h = (mg h o 5 ∧ mca st 8 ∧ mca [.ref o] 4 ∧ mcall d 111 [.ref o] h (mK (d + 1) 99 Q 155 [x0, x1, x2, x3, x4] st)) := (mw_at mj_99_152).trans ((z_invv (As := []) (by decide) rfl rfl).trans (congrArg (And _) (congrArg (And _) (mC_nl nl_111))))
theorem mj_99_155 : mc_P 99 155 = some (.istore 4, 2, 0, 0, 0) := by decide +kernel
theorem s_99_155 {x0 x1 x2 x3 x4 : Option Value} {w : Int32} : mw d 99 Q 155 [x0, x1, x2, x3, x4] (.int w :: st) h = mw d 99 Q 157 [x0, x1, x2, mk2 x3, some (.int w)] (st) h := (mw_at mj_99_155).trans (z_istore (Nat.le_of_ble_eq_true rfl) (me_s1_mk (j := 3) (w := x3) rfl))
theorem mj_99_157 : mc_P 99 157 = some (.goto 46, 3, 0, 0, 0) := by decide +kernel
theorem s_99_157 {x0 x1 x2 x3 x4 : Option Value} : mw d 99 Q 157 [x0, x1, x2, x3, x4] (st) h = mw d 99 Q 203 [x0, x1, x2, x3, x4] (st) h := (mw_at mj_99_157).trans (z_goto (by decide))
theorem mj_99_160 : mc_P 99 160 = some (.aload_n 0, 1, 0, 0, 0) := by decide +kernel
theorem s_99_160 {x1 x2 x3 x4 : Option Value} {w : Value} : mw d 99 Q 160 [some w, x1, x2, x3, x4] (st) h = mv_a w (mw d 99 Q 161 [some w, x1, x2, x3, x4] (w :: st) h) := (mw_at mj_99_160).trans (z_aload_n rfl)
theorem mj_99_161 : mc_P 99 161 = some (.aload_n 0, 1, 0, 0, 0) := by decide +kernel
theorem s_99_161 {x1 x2 x3 x4 : Option Value} {w : Value} : mw d 99 Q 161 [some w, x1, x2, x3, x4] (st) h = mv_a w (mw d 99 Q 162 [some w, x1, x2, x3, x4] (w :: st) h) := (mw_at mj_99_161).trans (z_aload_n rfl)
theorem mj_99_162 : mc_P 99 162 = some (.getfield 37, 3, 5, 0, 0) := by decide +kernel
theorem s_99_162 {x0 x1 x2 x3 x4 : Option Value} {o : Nat} : mw d 99 Q 162 [x0, x1, x2, x3, x4] (.ref o :: st) h = (mg h o 5 ∧ mw d 99 Q 165 [x0, x1, x2, x3, x4] (va_rf (mh_r h o 0) :: st) h) := (mw_at mj_99_162).trans (z_getr (by decide) (by decide) rfl)
theorem mj_99_165 : mc_P 99 165 = some (.getfield 70, 3, 7, 0, 0) := by decide +kernel
theorem s_99_165 {x0 x1 x2 x3 x4 : Option Value} {o : Nat} : mw d 99 Q 165 [x0, x1, x2, x3, x4] (.ref o :: st) h = (mg h o 7 ∧ mw d 99 Q 168 [x0, x1, x2, x3, x4] (va_rf (mh_r h o 0) :: st) h) := (mw_at mj_99_165).trans (z_getr (by decide) (by decide) rfl)
theorem mj_99_168 : mc_P 99 168 = some (.iconst 3, 1, 0, 0, 0) := by decide +kernel
theorem s_99_168 {x0 x1 x2 x3 x4 : Option Value} : mw d 99 Q 168 [x0, x1, x2, x3, x4] (st) h = mw d 99 Q 169 [x0, x1, x2, x3, x4] (.int 3 :: st) h := (mw_at mj_99_168).trans (z_iconst (by decide))
theorem mj_99_169 : mc_P 99 169 = some (.iload_n 3, 1, 0, 0, 0) := by decide +kernel
theorem s_99_169 {x0 x1 x2 x4 : Option Value} {w : Value} : mw d 99 Q 169 [x0, x1, x2, some w, x4] (st) h = mv_i w (mw d 99 Q 170 [x0, x1, x2, some w, x4] (w :: st) h) := (mw_at mj_99_169).trans (z_iload_n rfl)
theorem mj_99_170 : mc_P 99 170 = some (.imul, 1, 0, 0, 0) := by decide +kernel
theorem s_99_170 {x0 x1 x2 x3 x4 : Option Value} {x w : Int32} : mw d 99 Q 170 [x0, x1, x2, x3, x4] (.int w :: .int x :: st) h = mw d 99 Q 171 [x0, x1, x2, x3, x4] (.int (x * w) :: st) h := (mw_at mj_99_170).trans (z_imul)
theorem mj_99_171 : mc_P 99 171 = some (.iaload, 1, 0, 0, 0) := by decide +kernel
theorem s_99_171 {x0 x1 x2 x3 x4 : Option Value} {o : Nat} {i : Int32} : mw d 99 Q 171 [x0, x1, x2, x3, x4] (.int i :: .ref o :: st) h = (mg h o 100 ∧ mx i (mh_l h o) ∧ mw d 99 Q 172 [x0, x1, x2, x3, x4] (.int (mh_i h o i.toNatClampNeg) :: st) h) := (mw_at mj_99_171).trans (z_iald)
theorem mj_99_172 : mc_P 99 172 = some (.aload_n 0, 1, 0, 0, 0) := by decide +kernel
theorem s_99_172 {x1 x2 x3 x4 : Option Value} {w : Value} : mw d 99 Q 172 [some w, x1, x2, x3, x4] (st) h = mv_a w (mw d 99 Q 173 [some w, x1, x2, x3, x4] (w :: st) h) := (mw_at mj_99_172).trans (z_aload_n rfl)
theorem mj_99_173 : mc_P 99 173 = some (.getfield 37, 3, 5, 0, 0) := by decide +kernel
theorem s_99_173 {x0 x1 x2 x3 x4 : Option Value} {o : Nat} : mw d 99 Q 173 [x0, x1, x2, x3, x4] (.ref o :: st) h = (mg h o 5 ∧ mw d 99 Q 176 [x0, x1, x2, x3, x4] (va_rf (mh_r h o 0) :: st) h) := (mw_at mj_99_173).trans (z_getr (by decide) (by decide) rfl)
theorem mj_99_176 : mc_P 99 176 = some (.getfield 70, 3, 7, 0, 0) := by decide +kernel
theorem s_99_176 {x0 x1 x2 x3 x4 : Option Value} {o : Nat} : mw d 99 Q 176 [x0, x1, x2, x3, x4] (.ref o :: st) h = (mg h o 7 ∧ mw d 99 Q 179 [x0, x1, x2, x3, x4] (va_rf (mh_r h o 0) :: st) h) := (mw_at mj_99_176).trans (z_getr (by decide) (by decide) rfl)
theorem mj_99_179 : mc_P 99 179 = some (.iconst 3, 1, 0, 0, 0) := by decide +kernel
theorem s_99_179 {x0 x1 x2 x3 x4 : Option Value} : mw d 99 Q 179 [x0, x1, x2, x3, x4] (st) h = mw d 99 Q 180 [x0, x1, x2, x3, x4] (.int 3 :: st) h := (mw_at mj_99_179).trans (z_iconst (by decide))
theorem mj_99_180 : mc_P 99 180 = some (.iload_n 3, 1, 0, 0, 0) := by decide +kernel
theorem s_99_180 {x0 x1 x2 x4 : Option Value} {w : Value} : mw d 99 Q 180 [x0, x1, x2, some w, x4] (st) h = mv_i w (mw d 99 Q 181 [x0, x1, x2, some w, x4] (w :: st) h) := (mw_at mj_99_180).trans (z_iload_n rfl)
theorem mj_99_181 : mc_P 99 181 = some (.imul, 1, 0, 0, 0) := by decide +kernel
theorem s_99_181 {x0 x1 x2 x3 x4 : Option Value} {x w : Int32} : mw d 99 Q 181 [x0, x1, x2, x3, x4] (.int w :: .int x :: st) h = mw d 99 Q 182 [x0, x1, x2, x3, x4] (.int (x * w) :: st) h := (mw_at mj_99_181).trans (z_imul)
theorem mj_99_182 : mc_P 99 182 = some (.iconst 1, 1, 0, 0, 0) := by decide +kernel
theorem s_99_182 {x0 x1 x2 x3 x4 : Option Value} : mw d 99 Q 182 [x0, x1, x2, x3, x4] (st) h = mw d 99 Q 183 [x0, x1, x2, x3, x4] (.int 1 :: st) h := (mw_at mj_99_182).trans (z_iconst (by decide))
theorem mj_99_183 : mc_P 99 183 = some (.iadd, 1, 0, 0, 0) := by decide +kernel
theorem s_99_183 {x0 x1 x2 x3 x4 : Option Value} {x w : Int32} : mw d 99 Q 183 [x0, x1, x2, x3, x4] (.int w :: .int x :: st) h = mw d 99 Q 184 [x0, x1, x2, x3, x4] (.int (x + w) :: st) h := (mw_at mj_99_183).trans (z_iadd)
theorem mj_99_184 : mc_P 99 184 = some (.iaload, 1, 0, 0, 0) := by decide +kernel
theorem s_99_184 {x0 x1 x2 x3 x4 : Option Value} {o : Nat} {i : Int32} : mw d 99 Q 184 [x0, x1, x2, x3, x4] (.int i :: .ref o :: st) h = (mg h o 100 ∧ mx i (mh_l h o) ∧ mw d 99 Q 185 [x0, x1, x2, x3, x4] (.int (mh_i h o i.toNatClampNeg) :: st) h) := (mw_at mj_99_184).trans (z_iald)
theorem mj_99_185 : mc_P 99 185 = some (.aload_n 0, 1, 0, 0, 0) := by decide +kernel
theorem s_99_185 {x1 x2 x3 x4 : Option Value} {w : Value} : mw d 99 Q 185 [some w, x1, x2, x3, x4] (st) h = mv_a w (mw d 99 Q 186 [some w, x1, x2, x3, x4] (w :: st) h) := (mw_at mj_99_185).trans (z_aload_n rfl)
theorem mj_99_186 : mc_P 99 186 = some (.getfield 37, 3, 5, 0, 0) := by decide +kernel
theorem s_99_186 {x0 x1 x2 x3 x4 : Option Value} {o : Nat} : mw d 99 Q 186 [x0, x1, x2, x3, x4] (.ref o :: st) h = (mg h o 5 ∧ mw d 99 Q 189 [x0, x1, x2, x3, x4] (va_rf (mh_r h o 0) :: st) h) := (mw_at mj_99_186).trans (z_getr (by decide) (by decide) rfl)
theorem mj_99_189 : mc_P 99 189 = some (.getfield 70, 3, 7, 0, 0) := by decide +kernel
theorem s_99_189 {x0 x1 x2 x3 x4 : Option Value} {o : Nat} : mw d 99 Q 189 [x0, x1, x2, x3, x4] (.ref o :: st) h = (mg h o 7 ∧ mw d 99 Q 192 [x0, x1, x2, x3, x4] (va_rf (mh_r h o 0) :: st) h) := (mw_at mj_99_189).trans (z_getr (by decide) (by decide) rfl)
theorem mj_99_192 : mc_P 99 192 = some (.iconst 3, 1, 0, 0, 0) := by decide +kernel
theorem s_99_192 {x0 x1 x2 x3 x4 : Option Value} : mw d 99 Q 192 [x0, x1, x2, x3, x4] (st) h = mw d 99 Q 193 [x0, x1, x2, x3, x4] (.int 3 :: st) h := (mw_at mj_99_192).trans (z_iconst (by decide))
theorem mj_99_193 : mc_P 99 193 = some (.iload_n 3, 1, 0, 0, 0) := by decide +kernel
theorem s_99_193 {x0 x1 x2 x4 : Option Value} {w : Value} : mw d 99 Q 193 [x0, x1, x2, some w, x4] (st) h = mv_i w (mw d 99 Q 194 [x0, x1, x2, some w, x4] (w :: st) h) := (mw_at mj_99_193).trans (z_iload_n rfl)
theorem mj_99_194 : mc_P 99 194 = some (.imul, 1, 0, 0, 0) := by decide +kernel
theorem s_99_194 {x0 x1 x2 x3 x4 : Option Value} {x w : Int32} : mw d 99 Q 194 [x0, x1, x2, x3, x4] (.int w :: .int x :: st) h = mw d 99 Q 195 [x0, x1, x2, x3, x4] (.int (x * w) :: st) h := (mw_at mj_99_194).trans (z_imul)
theorem mj_99_195 : mc_P 99 195 = some (.iconst 2, 1, 0, 0, 0) := by decide +kernel
theorem s_99_195 {x0 x1 x2 x3 x4 : Option Value} : mw d 99 Q 195 [x0, x1, x2, x3, x4] (st) h = mw d 99 Q 196 [x0, x1, x2, x3, x4] (.int 2 :: st) h := (mw_at mj_99_195).trans (z_iconst (by decide))
theorem mj_99_196 : mc_P 99 196 = some (.iadd, 1, 0, 0, 0) := by decide +kernel
theorem s_99_196 {x0 x1 x2 x3 x4 : Option Value} {x w : Int32} : mw d 99 Q 196 [x0, x1, x2, x3, x4] (.int w :: .int x :: st) h = mw d 99 Q 197 [x0, x1, x2, x3, x4] (.int (x + w) :: st) h := (mw_at mj_99_196).trans (z_iadd)
theorem mj_99_197 : mc_P 99 197 = some (.iaload, 1, 0, 0, 0) := by decide +kernel
theorem s_99_197 {x0 x1 x2 x3 x4 : Option Value} {o : Nat} {i : Int32} : mw d 99 Q 197 [x0, x1, x2, x3, x4] (.int i :: .ref o :: st) h = (mg h o 100 ∧ mx i (mh_l h o) ∧ mw d 99 Q 198 [x0, x1, x2, x3, x4] (.int (mh_i h o i.toNatClampNeg) :: st) h) := (mw_at mj_99_197).trans (z_iald)
theorem mj_99_198 : mc_P 99 198 = some (.invokevirtual 90, 3, 102, 5, 4) := by decide +kernel
theorem s_99_198 {x0 x1 x2 x3 x4 : Option Value} {o : Nat} {a1 a2 a3 : Value} : mw (d + 1) 99 Q 198 [x0, x1, x2, x3, x4] (a3 :: a2 :: a1 :: .ref o :: st) h = (mg h o 5 ∧ mca st 8 ∧ mca [.ref o, a1, a2, a3] 6 ∧ mcall d 102 [.ref o, a1, a2, a3] h (mK (d + 1) 99 Q 201 [x0, x1, x2, x3, x4] st)) := (mw_at mj_99_198).trans ((z_invv (As := [a1, a2, a3]) (by decide) rfl rfl).trans (congrArg (And _) (congrArg (And _) (mC_nl nl_102))))
theorem mj_99_201 : mc_P 99 201 = some (.istore 4, 2, 0, 0, 0) := by decide +kernel
theorem s_99_201 {x0 x1 x2 x3 x4 : Option Value} {w : Int32} : mw d 99 Q 201 [x0, x1, x2, x3, x4] (.int w :: st) h = mw d 99 Q 203 [x0, x1, x2, mk2 x3, some (.int w)] (st) h := (mw_at mj_99_201).trans (z_istore (Nat.le_of_ble_eq_true rfl) (me_s1_mk (j := 3) (w := x3) rfl))
theorem mj_99_203 : mc_P 99 203 = some (.iload 4, 2, 0, 0, 0) := by decide +kernel
theorem s_99_203 {x0 x1 x2 x3 : Option Value} {w : Value} : mw d 99 Q 203 [x0, x1, x2, x3, some w] (st) h = mv_i w (mw d 99 Q 205 [x0, x1, x2, x3, some w] (w :: st) h) := (mw_at mj_99_203).trans (z_iload rfl)
theorem mj_99_205 : mc_P 99 205 = some (.ifCond .eq 10, 3, 0, 0, 0) := by decide +kernel
theorem s_99_205 {x0 x1 x2 x3 x4 : Option Value} {x : Int32} : mw d 99 Q 205 [x0, x1, x2, x3, x4] (.int x :: st) h = mB (x = 0) (mw d 99 Q) 215 208 [x0, x1, x2, x3, x4] st h := (mw_at mj_99_205).trans (z_if_eq (by decide) rfl)
theorem mj_99_208 : mc_P 99 208 = some (.aload_n 0, 1, 0, 0, 0) := by decide +kernel
theorem s_99_208 {x1 x2 x3 x4 : Option Value} {w : Value} : mw d 99 Q 208 [some w, x1, x2, x3, x4] (st) h = mv_a w (mw d 99 Q 209 [some w, x1, x2, x3, x4] (w :: st) h) := (mw_at mj_99_208).trans (z_aload_n rfl)
theorem mj_99_209 : mc_P 99 209 = some (.invokevirtual 94, 3, 112, 5, 1) := by decide +kernel
theorem s_99_209 {x0 x1 x2 x3 x4 : Option Value} {o : Nat} : mw (d + 1) 99 Q 209 [x0, x1, x2, x3, x4] (.ref o :: st) h = (mg h o 5 ∧ mca st 8 ∧ mca [.ref o] 2 ∧ mcall d 112 [.ref o] h (mK (d + 1) 99 Q 212 [x0, x1, x2, x3, x4] st)) := (mw_at mj_99_209).trans ((z_invv (As := []) (by decide) rfl rfl).trans (congrArg (And _) (congrArg (And _) (mC_nl nl_112))))
theorem mj_99_212 : mc_P 99 212 = some (.ifCond .ne 5, 3, 0, 0, 0) := by decide +kernel
theorem s_99_212 {x0 x1 x2 x3 x4 : Option Value} {x : Int32} : mw d 99 Q 212 [x0, x1, x2, x3, x4] (.int x :: st) h = mB (¬ x = 0) (mw d 99 Q) 217 215 [x0, x1, x2, x3, x4] st h := (mw_at mj_99_212).trans (z_if_ne (by decide) rfl)
theorem mj_99_215 : mc_P 99 215 = some (.iconst 0, 1, 0, 0, 0) := by decide +kernel
theorem s_99_215 {x0 x1 x2 x3 x4 : Option Value} : mw d 99 Q 215 [x0, x1, x2, x3, x4] (st) h = mw d 99 Q 216 [x0, x1, x2, x3, x4] (.int 0 :: st) h := (mw_at mj_99_215).trans (z_iconst (by decide))
theorem mj_99_216 : mc_P 99 216 = some (.ireturn, 1, 0, 3, 0) := by decide +kernel
theorem s_99_216 {x0 x1 x2 x3 x4 : Option Value} {x : Int32} : mw d 99 Q 216 [x0, x1, x2, x3, x4] ([.int x]) h = ((x = 0 ∨ x = 1) ∧ Q (some (.int x)) h) := (mw_at mj_99_216).trans (z_zret)
theorem mj_99_217 : mc_P 99 217 = some (.iload_n 2, 1, 0, 0, 0) := by decide +kernel
theorem s_99_217 {x0 x1 x3 x4 : Option Value} {w : Value} : mw d 99 Q 217 [x0, x1, some w, x3, x4] (st) h = mv_i w (mw d 99 Q 218 [x0, x1, some w, x3, x4] (w :: st) h) := (mw_at mj_99_217).trans (z_iload_n rfl)
theorem mj_99_218 : mc_P 99 218 = some (.aload_n 0, 1, 0, 0, 0) := by decide +kernel
theorem s_99_218 {x1 x2 x3 x4 : Option Value} {w : Value} : mw d 99 Q 218 [some w, x1, x2, x3, x4] (st) h = mv_a w (mw d 99 Q 219 [some w, x1, x2, x3, x4] (w :: st) h) := (mw_at mj_99_218).trans (z_aload_n rfl)
theorem mj_99_219 : mc_P 99 219 = some (.getfield 37, 3, 5, 0, 0) := by decide +kernel
theorem s_99_219 {x0 x1 x2 x3 x4 : Option Value} {o : Nat} : mw d 99 Q 219 [x0, x1, x2, x3, x4] (.ref o :: st) h = (mg h o 5 ∧ mw d 99 Q 222 [x0, x1, x2, x3, x4] (va_rf (mh_r h o 0) :: st) h) := (mw_at mj_99_219).trans (z_getr (by decide) (by decide) rfl)
theorem mj_99_222 : mc_P 99 222 = some (.getfield 64, 3, 7, 7, 0) := by decide +kernel
theorem s_99_222 {x0 x1 x2 x3 x4 : Option Value} {o : Nat} : mw d 99 Q 222 [x0, x1, x2, x3, x4] (.ref o :: st) h = (mg h o 7 ∧ mw d 99 Q 225 [x0, x1, x2, x3, x4] (va_rf (mh_r h o 7) :: st) h) := (mw_at mj_99_222).trans (z_getr (by decide) (by decide) rfl)
theorem mj_99_225 : mc_P 99 225 = some (.iload_n 1, 1, 0, 0, 0) := by decide +kernel
theorem s_99_225 {x0 x2 x3 x4 : Option Value} {w : Value} : mw d 99 Q 225 [x0, some w, x2, x3, x4] (st) h = mv_i w (mw d 99 Q 226 [x0, some w, x2, x3, x4] (w :: st) h) := (mw_at mj_99_225).trans (z_iload_n rfl)
theorem mj_99_226 : mc_P 99 226 = some (.iconst 1, 1, 0, 0, 0) := by decide +kernel
theorem s_99_226 {x0 x1 x2 x3 x4 : Option Value} : mw d 99 Q 226 [x0, x1, x2, x3, x4] (st) h = mw d 99 Q 227 [x0, x1, x2, x3, x4] (.int 1 :: st) h := (mw_at mj_99_226).trans (z_iconst (by decide))
theorem mj_99_227 : mc_P 99 227 = some (.iadd, 1, 0, 0, 0) := by decide +kernel
theorem s_99_227 {x0 x1 x2 x3 x4 : Option Value} {x w : Int32} : mw d 99 Q 227 [x0, x1, x2, x3, x4] (.int w :: .int x :: st) h = mw d 99 Q 228 [x0, x1, x2, x3, x4] (.int (x + w) :: st) h := (mw_at mj_99_227).trans (z_iadd)
theorem mj_99_228 : mc_P 99 228 = some (.iaload, 1, 0, 0, 0) := by decide +kernel
theorem s_99_228 {x0 x1 x2 x3 x4 : Option Value} {o : Nat} {i : Int32} : mw d 99 Q 228 [x0, x1, x2, x3, x4] (.int i :: .ref o :: st) h = (mg h o 100 ∧ mx i (mh_l h o) ∧ mw d 99 Q 229 [x0, x1, x2, x3, x4] (.int (mh_i h o i.toNatClampNeg) :: st) h) := (mw_at mj_99_228).trans (z_iald)
theorem mj_99_229 : mc_P 99 229 = some (.if_icmp .ge 55, 3, 0, 0, 0) := by decide +kernel
theorem s_99_229 {x0 x1 x2 x3 x4 : Option Value} {x w : Int32} : mw d 99 Q 229 [x0, x1, x2, x3, x4] (.int w :: .int x :: st) h = mB (w ≤ x) (mw d 99 Q) 284 232 [x0, x1, x2, x3, x4] st h := (mw_at mj_99_229).trans (z_icmp_ge (by decide) rfl)
theorem mj_99_232 : mc_P 99 232 = some (.aload_n 0, 1, 0, 0, 0) := by decide +kernel
theorem s_99_232 {x1 x2 x3 x4 : Option Value} {w : Value} : mw d 99 Q 232 [some w, x1, x2, x3, x4] (st) h = mv_a w (mw d 99 Q 233 [some w, x1, x2, x3, x4] (w :: st) h) := (mw_at mj_99_232).trans (z_aload_n rfl)
theorem mj_99_233 : mc_P 99 233 = some (.getfield 37, 3, 5, 0, 0) := by decide +kernel
theorem s_99_233 {x0 x1 x2 x3 x4 : Option Value} {o : Nat} : mw d 99 Q 233 [x0, x1, x2, x3, x4] (.ref o :: st) h = (mg h o 5 ∧ mw d 99 Q 236 [x0, x1, x2, x3, x4] (va_rf (mh_r h o 0) :: st) h) := (mw_at mj_99_233).trans (z_getr (by decide) (by decide) rfl)
theorem mj_99_236 : mc_P 99 236 = some (.getfield 97, 3, 7, 2, 0) := by decide +kernel
theorem s_99_236 {x0 x1 x2 x3 x4 : Option Value} {o : Nat} : mw d 99 Q 236 [x0, x1, x2, x3, x4] (.ref o :: st) h = (mg h o 7 ∧ mw d 99 Q 239 [x0, x1, x2, x3, x4] (va_rf (mh_r h o 2) :: st) h) := (mw_at mj_99_236).trans (z_getr (by decide) (by decide) rfl)
theorem mj_99_239 : mc_P 99 239 = some (.iload_n 2, 1, 0, 0, 0) := by decide +kernel
theorem s_99_239 {x0 x1 x3 x4 : Option Value} {w : Value} : mw d 99 Q 239 [x0, x1, some w, x3, x4] (st) h = mv_i w (mw d 99 Q 240 [x0, x1, some w, x3, x4] (w :: st) h) := (mw_at mj_99_239).trans (z_iload_n rfl)
theorem mj_99_240 : mc_P 99 240 = some (.iaload, 1, 0, 0, 0) := by decide +kernel
theorem s_99_240 {x0 x1 x2 x3 x4 : Option Value} {o : Nat} {i : Int32} : mw d 99 Q 240 [x0, x1, x2, x3, x4] (.int i :: .ref o :: st) h = (mg h o 100 ∧ mx i (mh_l h o) ∧ mw d 99 Q 241 [x0, x1, x2, x3, x4] (.int (mh_i h o i.toNatClampNeg) :: st) h) := (mw_at mj_99_240).trans (z_iald)
theorem mj_99_241 : mc_P 99 241 = some (.iload_n 3, 1, 0, 0, 0) := by decide +kernel
theorem s_99_241 {x0 x1 x2 x4 : Option Value} {w : Value} : mw d 99 Q 241 [x0, x1, x2, some w, x4] (st) h = mv_i w (mw d 99 Q 242 [x0, x1, x2, some w, x4] (w :: st) h) := (mw_at mj_99_241).trans (z_iload_n rfl)
theorem mj_99_242 : mc_P 99 242 = some (.iconst 1, 1, 0, 0, 0) := by decide +kernel
theorem s_99_242 {x0 x1 x2 x3 x4 : Option Value} : mw d 99 Q 242 [x0, x1, x2, x3, x4] (st) h = mw d 99 Q 243 [x0, x1, x2, x3, x4] (.int 1 :: st) h := (mw_at mj_99_242).trans (z_iconst (by decide))
theorem mj_99_243 : mc_P 99 243 = some (.iadd, 1, 0, 0, 0) := by decide +kernel
theorem s_99_243 {x0 x1 x2 x3 x4 : Option Value} {x w : Int32} : mw d 99 Q 243 [x0, x1, x2, x3, x4] (.int w :: .int x :: st) h = mw d 99 Q 244 [x0, x1, x2, x3, x4] (.int (x + w) :: st) h := (mw_at mj_99_243).trans (z_iadd)
theorem mj_99_244 : mc_P 99 244 = some (.if_icmp .ne 40, 3, 0, 0, 0) := by decide +kernel
theorem s_99_244 {x0 x1 x2 x3 x4 : Option Value} {x w : Int32} : mw d 99 Q 244 [x0, x1, x2, x3, x4] (.int w :: .int x :: st) h = mB (¬ x = w) (mw d 99 Q) 284 247 [x0, x1, x2, x3, x4] st h := (mw_at mj_99_244).trans (z_icmp_ne (by decide) rfl)
theorem mj_99_247 : mc_P 99 247 = some (.aload_n 0, 1, 0, 0, 0) := by decide +kernel
theorem s_99_247 {x1 x2 x3 x4 : Option Value} {w : Value} : mw d 99 Q 247 [some w, x1, x2, x3, x4] (st) h = mv_a w (mw d 99 Q 248 [some w, x1, x2, x3, x4] (w :: st) h) := (mw_at mj_99_247).trans (z_aload_n rfl)
theorem mj_99_248 : mc_P 99 248 = some (.getfield 22, 3, 5, 9, 0) := by decide +kernel
theorem s_99_248 {x0 x1 x2 x3 x4 : Option Value} {o : Nat} : mw d 99 Q 248 [x0, x1, x2, x3, x4] (.ref o :: st) h = (mg h o 5 ∧ mw d 99 Q 251 [x0, x1, x2, x3, x4] (va_rf (mh_r h o 9) :: st) h) := (mw_at mj_99_248).trans (z_getr (by decide) (by decide) rfl)
theorem mj_99_251 : mc_P 99 251 = some (.iload_n 2, 1, 0, 0, 0) := by decide +kernel
theorem s_99_251 {x0 x1 x3 x4 : Option Value} {w : Value} : mw d 99 Q 251 [x0, x1, some w, x3, x4] (st) h = mv_i w (mw d 99 Q 252 [x0, x1, some w, x3, x4] (w :: st) h) := (mw_at mj_99_251).trans (z_iload_n rfl)
theorem mj_99_252 : mc_P 99 252 = some (.aload_n 0, 1, 0, 0, 0) := by decide +kernel
theorem s_99_252 {x1 x2 x3 x4 : Option Value} {w : Value} : mw d 99 Q 252 [some w, x1, x2, x3, x4] (st) h = mv_a w (mw d 99 Q 253 [some w, x1, x2, x3, x4] (w :: st) h) := (mw_at mj_99_252).trans (z_aload_n rfl)
theorem mj_99_253 : mc_P 99 253 = some (.getfield 9, 3, 5, 5, 0) := by decide +kernel
theorem s_99_253 {x0 x1 x2 x3 x4 : Option Value} {o : Nat} : mw d 99 Q 253 [x0, x1, x2, x3, x4] (.ref o :: st) h = (mg h o 5 ∧ mw d 99 Q 256 [x0, x1, x2, x3, x4] (va_rf (mh_r h o 5) :: st) h) := (mw_at mj_99_253).trans (z_getr (by decide) (by decide) rfl)
theorem mj_99_256 : mc_P 99 256 = some (.aload_n 0, 1, 0, 0, 0) := by decide +kernel
theorem s_99_256 {x1 x2 x3 x4 : Option Value} {w : Value} : mw d 99 Q 256 [some w, x1, x2, x3, x4] (st) h = mv_a w (mw d 99 Q 257 [some w, x1, x2, x3, x4] (w :: st) h) := (mw_at mj_99_256).trans (z_aload_n rfl)
theorem mj_99_257 : mc_P 99 257 = some (.getfield 61, 3, 5, 8, 0) := by decide +kernel
theorem s_99_257 {x0 x1 x2 x3 x4 : Option Value} {o : Nat} : mw d 99 Q 257 [x0, x1, x2, x3, x4] (.ref o :: st) h = (mg h o 5 ∧ mw d 99 Q 260 [x0, x1, x2, x3, x4] (.int (mh_i h o 8) :: st) h) := (mw_at mj_99_257).trans (z_geti (by decide) (by decide) (Or.inl rfl))
theorem mj_99_260 : mc_P 99 260 = some (.iconst 1, 1, 0, 0, 0) := by decide +kernel
theorem s_99_260 {x0 x1 x2 x3 x4 : Option Value} : mw d 99 Q 260 [x0, x1, x2, x3, x4] (st) h = mw d 99 Q 261 [x0, x1, x2, x3, x4] (.int 1 :: st) h := (mw_at mj_99_260).trans (z_iconst (by decide))
theorem mj_99_261 : mc_P 99 261 = some (.isub, 1, 0, 0, 0) := by decide +kernel
theorem s_99_261 {x0 x1 x2 x3 x4 : Option Value} {x w : Int32} : mw d 99 Q 261 [x0, x1, x2, x3, x4] (.int w :: .int x :: st) h = mw d 99 Q 262 [x0, x1, x2, x3, x4] (.int (x - w) :: st) h := (mw_at mj_99_261).trans (z_isub)
theorem mj_99_262 : mc_P 99 262 = some (.laload, 1, 0, 0, 0) := by decide +kernel
theorem s_99_262 {x0 x1 x2 x3 x4 : Option Value} {o : Nat} {i : Int32} : mw d 99 Q 262 [x0, x1, x2, x3, x4] (.int i :: .ref o :: st) h = (mg h o 101 ∧ mx i (mh_l h o) ∧ mw d 99 Q 263 [x0, x1, x2, x3, x4] (.long (mh_j h o i.toNatClampNeg) :: st) h) := (mw_at mj_99_262).trans (z_lald)
theorem mj_99_263 : mc_P 99 263 = some (.lastore, 1, 0, 0, 0) := by decide +kernel
theorem s_99_263 {x0 x1 x2 x3 x4 : Option Value} {o : Nat} {i : Int32} {w : Int64} : mw d 99 Q 263 [x0, x1, x2, x3, x4] (.long w :: .int i :: .ref o :: st) h = (mg h o 101 ∧ mx i (mh_l h o) ∧ mw d 99 Q 264 [x0, x1, x2, x3, x4] (st) (mh_sj h o i.toNatClampNeg w)) := (mw_at mj_99_263).trans (z_last)
theorem mj_99_264 : mc_P 99 264 = some (.aload_n 0, 1, 0, 0, 0) := by decide +kernel
theorem s_99_264 {x1 x2 x3 x4 : Option Value} {w : Value} : mw d 99 Q 264 [some w, x1, x2, x3, x4] (st) h = mv_a w (mw d 99 Q 265 [some w, x1, x2, x3, x4] (w :: st) h) := (mw_at mj_99_264).trans (z_aload_n rfl)
theorem mj_99_265 : mc_P 99 265 = some (.getfield 25, 3, 5, 10, 0) := by decide +kernel
theorem s_99_265 {x0 x1 x2 x3 x4 : Option Value} {o : Nat} : mw d 99 Q 265 [x0, x1, x2, x3, x4] (.ref o :: st) h = (mg h o 5 ∧ mw d 99 Q 268 [x0, x1, x2, x3, x4] (va_rf (mh_r h o 10) :: st) h) := (mw_at mj_99_265).trans (z_getr (by decide) (by decide) rfl)
theorem mj_99_268 : mc_P 99 268 = some (.iload_n 2, 1, 0, 0, 0) := by decide +kernel
theorem s_99_268 {x0 x1 x3 x4 : Option Value} {w : Value} : mw d 99 Q 268 [x0, x1, some w, x3, x4] (st) h = mv_i w (mw d 99 Q 269 [x0, x1, some w, x3, x4] (w :: st) h) := (mw_at mj_99_268).trans (z_iload_n rfl)
theorem mj_99_269 : mc_P 99 269 = some (.aload_n 0, 1, 0, 0, 0) := by decide +kernel
theorem s_99_269 {x1 x2 x3 x4 : Option Value} {w : Value} : mw d 99 Q 269 [some w, x1, x2, x3, x4] (st) h = mv_a w (mw d 99 Q 270 [some w, x1, x2, x3, x4] (w :: st) h) := (mw_at mj_99_269).trans (z_aload_n rfl)
theorem mj_99_270 : mc_P 99 270 = some (.getfield 15, 3, 5, 6, 0) := by decide +kernel
theorem s_99_270 {x0 x1 x2 x3 x4 : Option Value} {o : Nat} : mw d 99 Q 270 [x0, x1, x2, x3, x4] (.ref o :: st) h = (mg h o 5 ∧ mw d 99 Q 273 [x0, x1, x2, x3, x4] (va_rf (mh_r h o 6) :: st) h) := (mw_at mj_99_270).trans (z_getr (by decide) (by decide) rfl)
theorem mj_99_273 : mc_P 99 273 = some (.aload_n 0, 1, 0, 0, 0) := by decide +kernel
theorem s_99_273 {x1 x2 x3 x4 : Option Value} {w : Value} : mw d 99 Q 273 [some w, x1, x2, x3, x4] (st) h = mv_a w (mw d 99 Q 274 [some w, x1, x2, x3, x4] (w :: st) h) := (mw_at mj_99_273).trans (z_aload_n rfl)
theorem mj_99_274 : mc_P 99 274 = some (.getfield 61, 3, 5, 8, 0) := by decide +kernel
theorem s_99_274 {x0 x1 x2 x3 x4 : Option Value} {o : Nat} : mw d 99 Q 274 [x0, x1, x2, x3, x4] (.ref o :: st) h = (mg h o 5 ∧ mw d 99 Q 277 [x0, x1, x2, x3, x4] (.int (mh_i h o 8) :: st) h) := (mw_at mj_99_274).trans (z_geti (by decide) (by decide) (Or.inl rfl))
theorem mj_99_277 : mc_P 99 277 = some (.iconst 1, 1, 0, 0, 0) := by decide +kernel
theorem s_99_277 {x0 x1 x2 x3 x4 : Option Value} : mw d 99 Q 277 [x0, x1, x2, x3, x4] (st) h = mw d 99 Q 278 [x0, x1, x2, x3, x4] (.int 1 :: st) h := (mw_at mj_99_277).trans (z_iconst (by decide))
theorem mj_99_278 : mc_P 99 278 = some (.isub, 1, 0, 0, 0) := by decide +kernel
theorem s_99_278 {x0 x1 x2 x3 x4 : Option Value} {x w : Int32} : mw d 99 Q 278 [x0, x1, x2, x3, x4] (.int w :: .int x :: st) h = mw d 99 Q 279 [x0, x1, x2, x3, x4] (.int (x - w) :: st) h := (mw_at mj_99_278).trans (z_isub)
theorem mj_99_279 : mc_P 99 279 = some (.laload, 1, 0, 0, 0) := by decide +kernel
theorem s_99_279 {x0 x1 x2 x3 x4 : Option Value} {o : Nat} {i : Int32} : mw d 99 Q 279 [x0, x1, x2, x3, x4] (.int i :: .ref o :: st) h = (mg h o 101 ∧ mx i (mh_l h o) ∧ mw d 99 Q 280 [x0, x1, x2, x3, x4] (.long (mh_j h o i.toNatClampNeg) :: st) h) := (mw_at mj_99_279).trans (z_lald)
theorem mj_99_280 : mc_P 99 280 = some (.lastore, 1, 0, 0, 0) := by decide +kernel
theorem s_99_280 {x0 x1 x2 x3 x4 : Option Value} {o : Nat} {i : Int32} {w : Int64} : mw d 99 Q 280 [x0, x1, x2, x3, x4] (.long w :: .int i :: .ref o :: st) h = (mg h o 101 ∧ mx i (mh_l h o) ∧ mw d 99 Q 281 [x0, x1, x2, x3, x4] (st) (mh_sj h o i.toNatClampNeg w)) := (mw_at mj_99_280).trans (z_last)
theorem mj_99_281 : mc_P 99 281 = some (.iinc 2 1, 3, 0, 0, 0) := by decide +kernel
theorem s_99_281 {x0 x1 x3 x4 : Option Value} {w : Int32} : mw d 99 Q 281 [x0, x1, some (.int w), x3, x4] (st) h = mw d 99 Q 284 [x0, mk2 x1, some (.int (w + 1)), x3, x4] (st) h := (mw_at mj_99_281).trans (z_iinc rfl (Nat.le_of_ble_eq_true rfl) (by decide) (me_s1_mk (j := 1) (w := x1) rfl))
theorem mj_99_284 : mc_P 99 284 = some (.iinc 3 1, 3, 0, 0, 0) := by decide +kernel
theorem s_99_284 {x0 x1 x2 x4 : Option Value} {w : Int32} : mw d 99 Q 284 [x0, x1, x2, some (.int w), x4] (st) h = mw d 99 Q 287 [x0, x1, mk2 x2, some (.int (w + 1)), x4] (st) h := (mw_at mj_99_284).trans (z_iinc rfl (Nat.le_of_ble_eq_true rfl) (by decide) (me_s1_mk (j := 2) (w := x2) rfl))
theorem mj_99_287 : mc_P 99 287 = some (.goto (-262), 3, 0, 0, 0) := by decide +kernel
theorem s_99_287 {x0 x1 x2 x3 x4 : Option Value} : mw d 99 Q 287 [x0, x1, x2, x3, x4] (st) h = mw d 99 Q 25 [x0, x1, x2, x3, x4] (st) h := (mw_at mj_99_287).trans (z_goto (by decide))
theorem mj_99_290 : mc_P 99 290 = some (.iconst 1, 1, 0, 0, 0) := by decide +kernel
theorem s_99_290 {x0 x1 x2 x3 x4 : Option Value} : mw d 99 Q 290 [x0, x1, x2, x3, x4] (st) h = mw d 99 Q 291 [x0, x1, x2, x3, x4] (.int 1 :: st) h := (mw_at mj_99_290).trans (z_iconst (by decide))
theorem mj_99_291 : mc_P 99 291 = some (.ireturn, 1, 0, 3, 0) := by decide +kernel
theorem s_99_291 {x0 x1 x2 x3 x4 : Option Value} {x : Int32} : mw d 99 Q 291 [x0, x1, x2, x3, x4] ([.int x]) h = ((x = 0 ∨ x = 1) ∧ Q (some (.int x)) h) := (mw_at mj_99_291).trans (z_zret)
theorem e_99 {a0 : Nat} {a1 : Int32} : mcall d 99 [.ref a0, .int a1] h Q = mw d 99 Q 0 [some (.ref a0), some (.int a1), none, none, none] [] h := by
  show mw d 99 Q 0 (me_en (mc_nl 99) _) [] h = _
  rw [nl_99]; rfl

/-! InvariantDesk$Ranges.isFree(I)Z -/
theorem mj_100_0 : mc_P 100 0 = some (.aload_n 0, 1, 0, 0, 0) := by decide +kernel
theorem s_100_0 {x1 : Option Value} {w : Value} : mw d 100 Q 0 [some w, x1] (st) h = mv_a w (mw d 100 Q 1 [some w, x1] (w :: st) h) := (mw_at mj_100_0).trans (z_aload_n rfl)
theorem mj_100_1 : mc_P 100 1 = some (.getfield 28, 3, 5, 11, 0) := by decide +kernel
theorem s_100_1 {x0 x1 : Option Value} {o : Nat} : mw d 100 Q 1 [x0, x1] (.ref o :: st) h = (mg h o 5 ∧ mw d 100 Q 4 [x0, x1] (va_rf (mh_r h o 11) :: st) h) := (mw_at mj_100_1).trans (z_getr (by decide) (by decide) rfl)
theorem mj_100_4 : mc_P 100 4 = some (.iload_n 1, 1, 0, 0, 0) := by decide +kernel
theorem s_100_4 {x0 : Option Value} {w : Value} : mw d 100 Q 4 [x0, some w] (st) h = mv_i w (mw d 100 Q 5 [x0, some w] (w :: st) h) := (mw_at mj_100_4).trans (z_iload_n rfl)
theorem mj_100_5 : mc_P 100 5 = some (.iaload, 1, 0, 0, 0) := by decide +kernel
theorem s_100_5 {x0 x1 : Option Value} {o : Nat} {i : Int32} : mw d 100 Q 5 [x0, x1] (.int i :: .ref o :: st) h = (mg h o 100 ∧ mx i (mh_l h o) ∧ mw d 100 Q 6 [x0, x1] (.int (mh_i h o i.toNatClampNeg) :: st) h) := (mw_at mj_100_5).trans (z_iald)
theorem mj_100_6 : mc_P 100 6 = some (.iconst 1, 1, 0, 0, 0) := by decide +kernel
theorem s_100_6 {x0 x1 : Option Value} : mw d 100 Q 6 [x0, x1] (st) h = mw d 100 Q 7 [x0, x1] (.int 1 :: st) h := (mw_at mj_100_6).trans (z_iconst (by decide))
theorem mj_100_7 : mc_P 100 7 = some (.if_icmp .eq 13, 3, 0, 0, 0) := by decide +kernel
theorem s_100_7 {x0 x1 : Option Value} {x w : Int32} : mw d 100 Q 7 [x0, x1] (.int w :: .int x :: st) h = mB (x = w) (mw d 100 Q) 20 10 [x0, x1] st h := (mw_at mj_100_7).trans (z_icmp_eq (by decide) rfl)
theorem mj_100_10 : mc_P 100 10 = some (.aload_n 0, 1, 0, 0, 0) := by decide +kernel
theorem s_100_10 {x1 : Option Value} {w : Value} : mw d 100 Q 10 [some w, x1] (st) h = mv_a w (mw d 100 Q 11 [some w, x1] (w :: st) h) := (mw_at mj_100_10).trans (z_aload_n rfl)
theorem mj_100_11 : mc_P 100 11 = some (.getfield 28, 3, 5, 11, 0) := by decide +kernel
theorem s_100_11 {x0 x1 : Option Value} {o : Nat} : mw d 100 Q 11 [x0, x1] (.ref o :: st) h = (mg h o 5 ∧ mw d 100 Q 14 [x0, x1] (va_rf (mh_r h o 11) :: st) h) := (mw_at mj_100_11).trans (z_getr (by decide) (by decide) rfl)
theorem mj_100_14 : mc_P 100 14 = some (.iload_n 1, 1, 0, 0, 0) := by decide +kernel
theorem s_100_14 {x0 : Option Value} {w : Value} : mw d 100 Q 14 [x0, some w] (st) h = mv_i w (mw d 100 Q 15 [x0, some w] (w :: st) h) := (mw_at mj_100_14).trans (z_iload_n rfl)
theorem mj_100_15 : mc_P 100 15 = some (.iaload, 1, 0, 0, 0) := by decide +kernel
theorem s_100_15 {x0 x1 : Option Value} {o : Nat} {i : Int32} : mw d 100 Q 15 [x0, x1] (.int i :: .ref o :: st) h = (mg h o 100 ∧ mx i (mh_l h o) ∧ mw d 100 Q 16 [x0, x1] (.int (mh_i h o i.toNatClampNeg) :: st) h) := (mw_at mj_100_15).trans (z_iald)
theorem mj_100_16 : mc_P 100 16 = some (.iconst (-1), 1, 0, 0, 0) := by decide +kernel
theorem s_100_16 {x0 x1 : Option Value} : mw d 100 Q 16 [x0, x1] (st) h = mw d 100 Q 17 [x0, x1] (.int (-1) :: st) h := (mw_at mj_100_16).trans (z_iconst (by decide))
theorem mj_100_17 : mc_P 100 17 = some (.if_icmp .ne 7, 3, 0, 0, 0) := by decide +kernel
theorem s_100_17 {x0 x1 : Option Value} {x w : Int32} : mw d 100 Q 17 [x0, x1] (.int w :: .int x :: st) h = mB (¬ x = w) (mw d 100 Q) 24 20 [x0, x1] st h := (mw_at mj_100_17).trans (z_icmp_ne (by decide) rfl)
theorem mj_100_20 : mc_P 100 20 = some (.iconst 1, 1, 0, 0, 0) := by decide +kernel
theorem s_100_20 {x0 x1 : Option Value} : mw d 100 Q 20 [x0, x1] (st) h = mw d 100 Q 21 [x0, x1] (.int 1 :: st) h := (mw_at mj_100_20).trans (z_iconst (by decide))
theorem mj_100_21 : mc_P 100 21 = some (.goto 4, 3, 0, 0, 0) := by decide +kernel
theorem s_100_21 {x0 x1 : Option Value} : mw d 100 Q 21 [x0, x1] (st) h = mw d 100 Q 25 [x0, x1] (st) h := (mw_at mj_100_21).trans (z_goto (by decide))
theorem mj_100_24 : mc_P 100 24 = some (.iconst 0, 1, 0, 0, 0) := by decide +kernel
theorem s_100_24 {x0 x1 : Option Value} : mw d 100 Q 24 [x0, x1] (st) h = mw d 100 Q 25 [x0, x1] (.int 0 :: st) h := (mw_at mj_100_24).trans (z_iconst (by decide))
theorem mj_100_25 : mc_P 100 25 = some (.ireturn, 1, 0, 3, 0) := by decide +kernel
theorem s_100_25 {x0 x1 : Option Value} {x : Int32} : mw d 100 Q 25 [x0, x1] ([.int x]) h = ((x = 0 ∨ x = 1) ∧ Q (some (.int x)) h) := (mw_at mj_100_25).trans (z_zret)
theorem e_100 {a0 : Int32} : mcall d 100 [.int a0] h Q = mw d 100 Q 0 [some (.int a0), none] [] h := by
  show mw d 100 Q 0 (me_en (mc_nl 100) _) [] h = _
  rw [nl_100]; rfl

/-! InvariantDesk$Ranges.push(JJI)V -/
theorem mj_101_0 : mc_P 101 0 = some (.aload_n 0, 1, 0, 0, 0) := by decide +kernel
theorem s_101_0 {x1 x2 x3 x4 x5 : Option Value} {w : Value} : mw d 101 Q 0 [some w, x1, x2, x3, x4, x5] (st) h = mv_a w (mw d 101 Q 1 [some w, x1, x2, x3, x4, x5] (w :: st) h) := (mw_at mj_101_0).trans (z_aload_n rfl)
theorem mj_101_1 : mc_P 101 1 = some (.getfield 9, 3, 5, 5, 0) := by decide +kernel
theorem s_101_1 {x0 x1 x2 x3 x4 x5 : Option Value} {o : Nat} : mw d 101 Q 1 [x0, x1, x2, x3, x4, x5] (.ref o :: st) h = (mg h o 5 ∧ mw d 101 Q 4 [x0, x1, x2, x3, x4, x5] (va_rf (mh_r h o 5) :: st) h) := (mw_at mj_101_1).trans (z_getr (by decide) (by decide) rfl)
theorem mj_101_4 : mc_P 101 4 = some (.aload_n 0, 1, 0, 0, 0) := by decide +kernel
theorem s_101_4 {x1 x2 x3 x4 x5 : Option Value} {w : Value} : mw d 101 Q 4 [some w, x1, x2, x3, x4, x5] (st) h = mv_a w (mw d 101 Q 5 [some w, x1, x2, x3, x4, x5] (w :: st) h) := (mw_at mj_101_4).trans (z_aload_n rfl)
theorem mj_101_5 : mc_P 101 5 = some (.getfield 61, 3, 5, 8, 0) := by decide +kernel
theorem s_101_5 {x0 x1 x2 x3 x4 x5 : Option Value} {o : Nat} : mw d 101 Q 5 [x0, x1, x2, x3, x4, x5] (.ref o :: st) h = (mg h o 5 ∧ mw d 101 Q 8 [x0, x1, x2, x3, x4, x5] (.int (mh_i h o 8) :: st) h) := (mw_at mj_101_5).trans (z_geti (by decide) (by decide) (Or.inl rfl))
theorem mj_101_8 : mc_P 101 8 = some (.lload_n 1, 1, 0, 0, 0) := by decide +kernel
theorem s_101_8 {x0 x2 x3 x4 x5 : Option Value} {w : Value} : mw d 101 Q 8 [x0, some w, x2, x3, x4, x5] (st) h = mv_l w (mw d 101 Q 9 [x0, some w, x2, x3, x4, x5] (w :: st) h) := (mw_at mj_101_8).trans (z_lload_n rfl)
theorem mj_101_9 : mc_P 101 9 = some (.lastore, 1, 0, 0, 0) := by decide +kernel
theorem s_101_9 {x0 x1 x2 x3 x4 x5 : Option Value} {o : Nat} {i : Int32} {w : Int64} : mw d 101 Q 9 [x0, x1, x2, x3, x4, x5] (.long w :: .int i :: .ref o :: st) h = (mg h o 101 ∧ mx i (mh_l h o) ∧ mw d 101 Q 10 [x0, x1, x2, x3, x4, x5] (st) (mh_sj h o i.toNatClampNeg w)) := (mw_at mj_101_9).trans (z_last)
theorem mj_101_10 : mc_P 101 10 = some (.aload_n 0, 1, 0, 0, 0) := by decide +kernel
theorem s_101_10 {x1 x2 x3 x4 x5 : Option Value} {w : Value} : mw d 101 Q 10 [some w, x1, x2, x3, x4, x5] (st) h = mv_a w (mw d 101 Q 11 [some w, x1, x2, x3, x4, x5] (w :: st) h) := (mw_at mj_101_10).trans (z_aload_n rfl)
theorem mj_101_11 : mc_P 101 11 = some (.getfield 15, 3, 5, 6, 0) := by decide +kernel
theorem s_101_11 {x0 x1 x2 x3 x4 x5 : Option Value} {o : Nat} : mw d 101 Q 11 [x0, x1, x2, x3, x4, x5] (.ref o :: st) h = (mg h o 5 ∧ mw d 101 Q 14 [x0, x1, x2, x3, x4, x5] (va_rf (mh_r h o 6) :: st) h) := (mw_at mj_101_11).trans (z_getr (by decide) (by decide) rfl)
theorem mj_101_14 : mc_P 101 14 = some (.aload_n 0, 1, 0, 0, 0) := by decide +kernel
theorem s_101_14 {x1 x2 x3 x4 x5 : Option Value} {w : Value} : mw d 101 Q 14 [some w, x1, x2, x3, x4, x5] (st) h = mv_a w (mw d 101 Q 15 [some w, x1, x2, x3, x4, x5] (w :: st) h) := (mw_at mj_101_14).trans (z_aload_n rfl)
theorem mj_101_15 : mc_P 101 15 = some (.getfield 61, 3, 5, 8, 0) := by decide +kernel
theorem s_101_15 {x0 x1 x2 x3 x4 x5 : Option Value} {o : Nat} : mw d 101 Q 15 [x0, x1, x2, x3, x4, x5] (.ref o :: st) h = (mg h o 5 ∧ mw d 101 Q 18 [x0, x1, x2, x3, x4, x5] (.int (mh_i h o 8) :: st) h) := (mw_at mj_101_15).trans (z_geti (by decide) (by decide) (Or.inl rfl))
theorem mj_101_18 : mc_P 101 18 = some (.lload_n 3, 1, 0, 0, 0) := by decide +kernel
theorem s_101_18 {x0 x1 x2 x4 x5 : Option Value} {w : Value} : mw d 101 Q 18 [x0, x1, x2, some w, x4, x5] (st) h = mv_l w (mw d 101 Q 19 [x0, x1, x2, some w, x4, x5] (w :: st) h) := (mw_at mj_101_18).trans (z_lload_n rfl)
theorem mj_101_19 : mc_P 101 19 = some (.lastore, 1, 0, 0, 0) := by decide +kernel
theorem s_101_19 {x0 x1 x2 x3 x4 x5 : Option Value} {o : Nat} {i : Int32} {w : Int64} : mw d 101 Q 19 [x0, x1, x2, x3, x4, x5] (.long w :: .int i :: .ref o :: st) h = (mg h o 101 ∧ mx i (mh_l h o) ∧ mw d 101 Q 20 [x0, x1, x2, x3, x4, x5] (st) (mh_sj h o i.toNatClampNeg w)) := (mw_at mj_101_19).trans (z_last)
theorem mj_101_20 : mc_P 101 20 = some (.aload_n 0, 1, 0, 0, 0) := by decide +kernel
theorem s_101_20 {x1 x2 x3 x4 x5 : Option Value} {w : Value} : mw d 101 Q 20 [some w, x1, x2, x3, x4, x5] (st) h = mv_a w (mw d 101 Q 21 [some w, x1, x2, x3, x4, x5] (w :: st) h) := (mw_at mj_101_20).trans (z_aload_n rfl)
theorem mj_101_21 : mc_P 101 21 = some (.getfield 18, 3, 5, 7, 0) := by decide +kernel
theorem s_101_21 {x0 x1 x2 x3 x4 x5 : Option Value} {o : Nat} : mw d 101 Q 21 [x0, x1, x2, x3, x4, x5] (.ref o :: st) h = (mg h o 5 ∧ mw d 101 Q 24 [x0, x1, x2, x3, x4, x5] (va_rf (mh_r h o 7) :: st) h) := (mw_at mj_101_21).trans (z_getr (by decide) (by decide) rfl)
theorem mj_101_24 : mc_P 101 24 = some (.aload_n 0, 1, 0, 0, 0) := by decide +kernel
theorem s_101_24 {x1 x2 x3 x4 x5 : Option Value} {w : Value} : mw d 101 Q 24 [some w, x1, x2, x3, x4, x5] (st) h = mv_a w (mw d 101 Q 25 [some w, x1, x2, x3, x4, x5] (w :: st) h) := (mw_at mj_101_24).trans (z_aload_n rfl)
theorem mj_101_25 : mc_P 101 25 = some (.getfield 61, 3, 5, 8, 0) := by decide +kernel
theorem s_101_25 {x0 x1 x2 x3 x4 x5 : Option Value} {o : Nat} : mw d 101 Q 25 [x0, x1, x2, x3, x4, x5] (.ref o :: st) h = (mg h o 5 ∧ mw d 101 Q 28 [x0, x1, x2, x3, x4, x5] (.int (mh_i h o 8) :: st) h) := (mw_at mj_101_25).trans (z_geti (by decide) (by decide) (Or.inl rfl))
theorem mj_101_28 : mc_P 101 28 = some (.iload 5, 2, 0, 0, 0) := by decide +kernel
theorem s_101_28 {x0 x1 x2 x3 x4 : Option Value} {w : Value} : mw d 101 Q 28 [x0, x1, x2, x3, x4, some w] (st) h = mv_i w (mw d 101 Q 30 [x0, x1, x2, x3, x4, some w] (w :: st) h) := (mw_at mj_101_28).trans (z_iload rfl)
theorem mj_101_30 : mc_P 101 30 = some (.iastore, 1, 0, 0, 0) := by decide +kernel
theorem s_101_30 {x0 x1 x2 x3 x4 x5 : Option Value} {o : Nat} {i w : Int32} : mw d 101 Q 30 [x0, x1, x2, x3, x4, x5] (.int w :: .int i :: .ref o :: st) h = (mg h o 100 ∧ mx i (mh_l h o) ∧ mw d 101 Q 31 [x0, x1, x2, x3, x4, x5] (st) (mh_si h o i.toNatClampNeg w)) := (mw_at mj_101_30).trans (z_iast)
theorem mj_101_31 : mc_P 101 31 = some (.aload_n 0, 1, 0, 0, 0) := by decide +kernel
theorem s_101_31 {x1 x2 x3 x4 x5 : Option Value} {w : Value} : mw d 101 Q 31 [some w, x1, x2, x3, x4, x5] (st) h = mv_a w (mw d 101 Q 32 [some w, x1, x2, x3, x4, x5] (w :: st) h) := (mw_at mj_101_31).trans (z_aload_n rfl)
theorem mj_101_32 : mc_P 101 32 = some (.dup, 1, 0, 0, 0) := by decide +kernel
theorem s_101_32 {x0 x1 x2 x3 x4 x5 : Option Value} {w : Value} : mw d 101 Q 32 [x0, x1, x2, x3, x4, x5] (w :: st) h = (w.category = 1 ∧ mw d 101 Q 33 [x0, x1, x2, x3, x4, x5] (w :: w :: st) h) := (mw_at mj_101_32).trans (z_dup)
theorem mj_101_33 : mc_P 101 33 = some (.getfield 61, 3, 5, 8, 0) := by decide +kernel
theorem s_101_33 {x0 x1 x2 x3 x4 x5 : Option Value} {o : Nat} : mw d 101 Q 33 [x0, x1, x2, x3, x4, x5] (.ref o :: st) h = (mg h o 5 ∧ mw d 101 Q 36 [x0, x1, x2, x3, x4, x5] (.int (mh_i h o 8) :: st) h) := (mw_at mj_101_33).trans (z_geti (by decide) (by decide) (Or.inl rfl))
theorem mj_101_36 : mc_P 101 36 = some (.iconst 1, 1, 0, 0, 0) := by decide +kernel
theorem s_101_36 {x0 x1 x2 x3 x4 x5 : Option Value} : mw d 101 Q 36 [x0, x1, x2, x3, x4, x5] (st) h = mw d 101 Q 37 [x0, x1, x2, x3, x4, x5] (.int 1 :: st) h := (mw_at mj_101_36).trans (z_iconst (by decide))
theorem mj_101_37 : mc_P 101 37 = some (.iadd, 1, 0, 0, 0) := by decide +kernel
theorem s_101_37 {x0 x1 x2 x3 x4 x5 : Option Value} {x w : Int32} : mw d 101 Q 37 [x0, x1, x2, x3, x4, x5] (.int w :: .int x :: st) h = mw d 101 Q 38 [x0, x1, x2, x3, x4, x5] (.int (x + w) :: st) h := (mw_at mj_101_37).trans (z_iadd)
theorem mj_101_38 : mc_P 101 38 = some (.putfield 61, 3, 5, 8, 0) := by decide +kernel
theorem s_101_38 {x0 x1 x2 x3 x4 x5 : Option Value} {o : Nat} {w : Int32} : mw d 101 Q 38 [x0, x1, x2, x3, x4, x5] (.int w :: .ref o :: st) h = (mg h o 5 ∧ mw d 101 Q 41 [x0, x1, x2, x3, x4, x5] (st) (mh_si h o 8 w)) := (mw_at mj_101_38).trans (z_puti (by decide) (by decide) rfl)
theorem mj_101_41 : mc_P 101 41 = some (.return_, 1, 0, 0, 0) := by decide +kernel
theorem s_101_41 {x0 x1 x2 x3 x4 x5 : Option Value} : mw d 101 Q 41 [x0, x1, x2, x3, x4, x5] ([]) h = Q none h := (mw_at mj_101_41).trans (z_vret)
theorem e_101 {a0 : Nat} {a1 : Int64} {a2 : Int64} {a3 : Int32} : mcall d 101 [.ref a0, .long a1, .long a2, .int a3] h Q = mw d 101 Q 0 [some (.ref a0), some (.long a1), none, some (.long a2), none, some (.int a3)] [] h := by
  show mw d 101 Q 0 (me_en (mc_nl 101) _) [] h = _
  rw [nl_101]; rfl

/-! InvariantDesk$Ranges.find(III)Z -/
theorem mj_102_0 : mc_P 102 0 = some (.iload_n 1, 1, 0, 0, 0) := by decide +kernel
theorem s_102_0 {x0 x2 x3 x4 x5 : Option Value} {w : Value} : mw d 102 Q 0 [x0, some w, x2, x3, x4, x5] (st) h = mv_i w (mw d 102 Q 1 [x0, some w, x2, x3, x4, x5] (w :: st) h) := (mw_at mj_102_0).trans (z_iload_n rfl)
theorem mj_102_1 : mc_P 102 1 = some (.tableswitch 100 1 4 #[31, 42, 100, 89], 31, 0, 0, 0) := by decide +kernel
theorem s_102_1 {x0 x1 x2 x3 x4 x5 : Option Value} {x : Int32} : mw d 102 Q 1 [x0, x1, x2, x3, x4, x5] (.int x :: st) h = mS x (mw d 102 Q) 101 [x0, x1, x2, x3, x4, x5] st h [(1, 32), (2, 43), (3, 101), (4, 90)] := (mw_at mj_102_1).trans (z_tab (by decide) (by decide) (by decide +kernel))
theorem mj_102_32 : mc_P 102 32 = some (.aload_n 0, 1, 0, 0, 0) := by decide +kernel
theorem s_102_32 {x1 x2 x3 x4 x5 : Option Value} {w : Value} : mw d 102 Q 32 [some w, x1, x2, x3, x4, x5] (st) h = mv_a w (mw d 102 Q 33 [some w, x1, x2, x3, x4, x5] (w :: st) h) := (mw_at mj_102_32).trans (z_aload_n rfl)
theorem mj_102_33 : mc_P 102 33 = some (.iload_n 2, 1, 0, 0, 0) := by decide +kernel
theorem s_102_33 {x0 x1 x3 x4 x5 : Option Value} {w : Value} : mw d 102 Q 33 [x0, x1, some w, x3, x4, x5] (st) h = mv_i w (mw d 102 Q 34 [x0, x1, some w, x3, x4, x5] (w :: st) h) := (mw_at mj_102_33).trans (z_iload_n rfl)
theorem mj_102_34 : mc_P 102 34 = some (.i2l, 1, 0, 0, 0) := by decide +kernel
theorem s_102_34 {x0 x1 x2 x3 x4 x5 : Option Value} {x : Int32} : mw d 102 Q 34 [x0, x1, x2, x3, x4, x5] (.int x :: st) h = mw d 102 Q 35 [x0, x1, x2, x3, x4, x5] (.long x.toInt64 :: st) h := (mw_at mj_102_34).trans (z_i2l)
theorem mj_102_35 : mc_P 102 35 = some (.iload_n 2, 1, 0, 0, 0) := by decide +kernel
theorem s_102_35 {x0 x1 x3 x4 x5 : Option Value} {w : Value} : mw d 102 Q 35 [x0, x1, some w, x3, x4, x5] (st) h = mv_i w (mw d 102 Q 36 [x0, x1, some w, x3, x4, x5] (w :: st) h) := (mw_at mj_102_35).trans (z_iload_n rfl)
theorem mj_102_36 : mc_P 102 36 = some (.i2l, 1, 0, 0, 0) := by decide +kernel
theorem s_102_36 {x0 x1 x2 x3 x4 x5 : Option Value} {x : Int32} : mw d 102 Q 36 [x0, x1, x2, x3, x4, x5] (.int x :: st) h = mw d 102 Q 37 [x0, x1, x2, x3, x4, x5] (.long x.toInt64 :: st) h := (mw_at mj_102_36).trans (z_i2l)
theorem mj_102_37 : mc_P 102 37 = some (.iconst (-1), 1, 0, 0, 0) := by decide +kernel
theorem s_102_37 {x0 x1 x2 x3 x4 x5 : Option Value} : mw d 102 Q 37 [x0, x1, x2, x3, x4, x5] (st) h = mw d 102 Q 38 [x0, x1, x2, x3, x4, x5] (.int (-1) :: st) h := (mw_at mj_102_37).trans (z_iconst (by decide))
theorem mj_102_38 : mc_P 102 38 = some (.invokevirtual 100, 3, 101, 5, 4) := by decide +kernel
theorem s_102_38 {x0 x1 x2 x3 x4 x5 : Option Value} {o : Nat} {a1 a2 a3 : Value} : mw (d + 1) 102 Q 38 [x0, x1, x2, x3, x4, x5] (a3 :: a2 :: a1 :: .ref o :: st) h = (mg h o 5 ∧ mca st 8 ∧ mca [.ref o, a1, a2, a3] 6 ∧ mcall d 101 [.ref o, a1, a2, a3] h (mK (d + 1) 102 Q 41 [x0, x1, x2, x3, x4, x5] st)) := (mw_at mj_102_38).trans ((z_invv (As := [a1, a2, a3]) (by decide) rfl rfl).trans (congrArg (And _) (congrArg (And _) (mC_nl nl_101))))
theorem mj_102_41 : mc_P 102 41 = some (.iconst 1, 1, 0, 0, 0) := by decide +kernel
theorem s_102_41 {x0 x1 x2 x3 x4 x5 : Option Value} : mw d 102 Q 41 [x0, x1, x2, x3, x4, x5] (st) h = mw d 102 Q 42 [x0, x1, x2, x3, x4, x5] (.int 1 :: st) h := (mw_at mj_102_41).trans (z_iconst (by decide))
theorem mj_102_42 : mc_P 102 42 = some (.ireturn, 1, 0, 3, 0) := by decide +kernel
theorem s_102_42 {x0 x1 x2 x3 x4 x5 : Option Value} {x : Int32} : mw d 102 Q 42 [x0, x1, x2, x3, x4, x5] ([.int x]) h = ((x = 0 ∨ x = 1) ∧ Q (some (.int x)) h) := (mw_at mj_102_42).trans (z_zret)
theorem mj_102_43 : mc_P 102 43 = some (.iconst 2, 1, 0, 0, 0) := by decide +kernel
theorem s_102_43 {x0 x1 x2 x3 x4 x5 : Option Value} : mw d 102 Q 43 [x0, x1, x2, x3, x4, x5] (st) h = mw d 102 Q 44 [x0, x1, x2, x3, x4, x5] (.int 2 :: st) h := (mw_at mj_102_43).trans (z_iconst (by decide))
theorem mj_102_44 : mc_P 102 44 = some (.aload_n 0, 1, 0, 0, 0) := by decide +kernel
theorem s_102_44 {x1 x2 x3 x4 x5 : Option Value} {w : Value} : mw d 102 Q 44 [some w, x1, x2, x3, x4, x5] (st) h = mv_a w (mw d 102 Q 45 [some w, x1, x2, x3, x4, x5] (w :: st) h) := (mw_at mj_102_44).trans (z_aload_n rfl)
theorem mj_102_45 : mc_P 102 45 = some (.getfield 41, 3, 5, 2, 0) := by decide +kernel
theorem s_102_45 {x0 x1 x2 x3 x4 x5 : Option Value} {o : Nat} : mw d 102 Q 45 [x0, x1, x2, x3, x4, x5] (.ref o :: st) h = (mg h o 5 ∧ mw d 102 Q 48 [x0, x1, x2, x3, x4, x5] (.int (mh_i h o 2) :: st) h) := (mw_at mj_102_45).trans (z_geti (by decide) (by decide) (Or.inl rfl))
theorem mj_102_48 : mc_P 102 48 = some (.iload_n 2, 1, 0, 0, 0) := by decide +kernel
theorem s_102_48 {x0 x1 x3 x4 x5 : Option Value} {w : Value} : mw d 102 Q 48 [x0, x1, some w, x3, x4, x5] (st) h = mv_i w (mw d 102 Q 49 [x0, x1, some w, x3, x4, x5] (w :: st) h) := (mw_at mj_102_48).trans (z_iload_n rfl)
theorem mj_102_49 : mc_P 102 49 = some (.iadd, 1, 0, 0, 0) := by decide +kernel
theorem s_102_49 {x0 x1 x2 x3 x4 x5 : Option Value} {x w : Int32} : mw d 102 Q 49 [x0, x1, x2, x3, x4, x5] (.int w :: .int x :: st) h = mw d 102 Q 50 [x0, x1, x2, x3, x4, x5] (.int (x + w) :: st) h := (mw_at mj_102_49).trans (z_iadd)
theorem mj_102_50 : mc_P 102 50 = some (.imul, 1, 0, 0, 0) := by decide +kernel
theorem s_102_50 {x0 x1 x2 x3 x4 x5 : Option Value} {x w : Int32} : mw d 102 Q 50 [x0, x1, x2, x3, x4, x5] (.int w :: .int x :: st) h = mw d 102 Q 51 [x0, x1, x2, x3, x4, x5] (.int (x * w) :: st) h := (mw_at mj_102_50).trans (z_imul)
theorem mj_102_51 : mc_P 102 51 = some (.istore 4, 2, 0, 0, 0) := by decide +kernel
theorem s_102_51 {x0 x1 x2 x3 x4 x5 : Option Value} {w : Int32} : mw d 102 Q 51 [x0, x1, x2, x3, x4, x5] (.int w :: st) h = mw d 102 Q 53 [x0, x1, x2, mk2 x3, some (.int w), x5] (st) h := (mw_at mj_102_51).trans (z_istore (Nat.le_of_ble_eq_true rfl) (me_s1_mk (j := 3) (w := x3) rfl))
theorem mj_102_53 : mc_P 102 53 = some (.aload_n 0, 1, 0, 0, 0) := by decide +kernel
theorem s_102_53 {x1 x2 x3 x4 x5 : Option Value} {w : Value} : mw d 102 Q 53 [some w, x1, x2, x3, x4, x5] (st) h = mv_a w (mw d 102 Q 54 [some w, x1, x2, x3, x4, x5] (w :: st) h) := (mw_at mj_102_53).trans (z_aload_n rfl)
theorem mj_102_54 : mc_P 102 54 = some (.aload_n 0, 1, 0, 0, 0) := by decide +kernel
theorem s_102_54 {x1 x2 x3 x4 x5 : Option Value} {w : Value} : mw d 102 Q 54 [some w, x1, x2, x3, x4, x5] (st) h = mv_a w (mw d 102 Q 55 [some w, x1, x2, x3, x4, x5] (w :: st) h) := (mw_at mj_102_54).trans (z_aload_n rfl)
theorem mj_102_55 : mc_P 102 55 = some (.getfield 49, 3, 5, 1, 0) := by decide +kernel
theorem s_102_55 {x0 x1 x2 x3 x4 x5 : Option Value} {o : Nat} : mw d 102 Q 55 [x0, x1, x2, x3, x4, x5] (.ref o :: st) h = (mg h o 5 ∧ mw d 102 Q 58 [x0, x1, x2, x3, x4, x5] (va_rf (mh_r h o 1) :: st) h) := (mw_at mj_102_55).trans (z_getr (by decide) (by decide) rfl)
theorem mj_102_58 : mc_P 102 58 = some (.iload 4, 2, 0, 0, 0) := by decide +kernel
theorem s_102_58 {x0 x1 x2 x3 x5 : Option Value} {w : Value} : mw d 102 Q 58 [x0, x1, x2, x3, some w, x5] (st) h = mv_i w (mw d 102 Q 60 [x0, x1, x2, x3, some w, x5] (w :: st) h) := (mw_at mj_102_58).trans (z_iload rfl)
theorem mj_102_60 : mc_P 102 60 = some (.iconst 1, 1, 0, 0, 0) := by decide +kernel
theorem s_102_60 {x0 x1 x2 x3 x4 x5 : Option Value} : mw d 102 Q 60 [x0, x1, x2, x3, x4, x5] (st) h = mw d 102 Q 61 [x0, x1, x2, x3, x4, x5] (.int 1 :: st) h := (mw_at mj_102_60).trans (z_iconst (by decide))
theorem mj_102_61 : mc_P 102 61 = some (.iadd, 1, 0, 0, 0) := by decide +kernel
theorem s_102_61 {x0 x1 x2 x3 x4 x5 : Option Value} {x w : Int32} : mw d 102 Q 61 [x0, x1, x2, x3, x4, x5] (.int w :: .int x :: st) h = mw d 102 Q 62 [x0, x1, x2, x3, x4, x5] (.int (x + w) :: st) h := (mw_at mj_102_61).trans (z_iadd)
theorem mj_102_62 : mc_P 102 62 = some (.iload 4, 2, 0, 0, 0) := by decide +kernel
theorem s_102_62 {x0 x1 x2 x3 x5 : Option Value} {w : Value} : mw d 102 Q 62 [x0, x1, x2, x3, some w, x5] (st) h = mv_i w (mw d 102 Q 64 [x0, x1, x2, x3, some w, x5] (w :: st) h) := (mw_at mj_102_62).trans (z_iload rfl)
theorem mj_102_64 : mc_P 102 64 = some (.iconst 1, 1, 0, 0, 0) := by decide +kernel
theorem s_102_64 {x0 x1 x2 x3 x4 x5 : Option Value} : mw d 102 Q 64 [x0, x1, x2, x3, x4, x5] (st) h = mw d 102 Q 65 [x0, x1, x2, x3, x4, x5] (.int 1 :: st) h := (mw_at mj_102_64).trans (z_iconst (by decide))
theorem mj_102_65 : mc_P 102 65 = some (.iadd, 1, 0, 0, 0) := by decide +kernel
theorem s_102_65 {x0 x1 x2 x3 x4 x5 : Option Value} {x w : Int32} : mw d 102 Q 65 [x0, x1, x2, x3, x4, x5] (.int w :: .int x :: st) h = mw d 102 Q 66 [x0, x1, x2, x3, x4, x5] (.int (x + w) :: st) h := (mw_at mj_102_65).trans (z_iadd)
theorem mj_102_66 : mc_P 102 66 = some (.invokevirtual 104, 3, 146, 8, 3) := by decide +kernel
theorem s_102_66 {x0 x1 x2 x3 x4 x5 : Option Value} {o : Nat} {a1 a2 : Value} : mw (d + 1) 102 Q 66 [x0, x1, x2, x3, x4, x5] (a2 :: a1 :: .ref o :: st) h = (mg h o 8 ∧ mca st 8 ∧ mca [.ref o, a1, a2] 5 ∧ mcall d 146 [.ref o, a1, a2] h (mK (d + 1) 102 Q 69 [x0, x1, x2, x3, x4, x5] st)) := (mw_at mj_102_66).trans ((z_invv (As := [a1, a2]) (by decide) rfl rfl).trans (congrArg (And _) (congrArg (And _) (mC_nl nl_146))))
theorem mj_102_69 : mc_P 102 69 = some (.lneg, 1, 0, 0, 0) := by decide +kernel
theorem s_102_69 {x0 x1 x2 x3 x4 x5 : Option Value} {x : Int64} : mw d 102 Q 69 [x0, x1, x2, x3, x4, x5] (.long x :: st) h = mw d 102 Q 70 [x0, x1, x2, x3, x4, x5] (.long (-x) :: st) h := (mw_at mj_102_69).trans (z_lneg)
theorem mj_102_70 : mc_P 102 70 = some (.aload_n 0, 1, 0, 0, 0) := by decide +kernel
theorem s_102_70 {x1 x2 x3 x4 x5 : Option Value} {w : Value} : mw d 102 Q 70 [some w, x1, x2, x3, x4, x5] (st) h = mv_a w (mw d 102 Q 71 [some w, x1, x2, x3, x4, x5] (w :: st) h) := (mw_at mj_102_70).trans (z_aload_n rfl)
theorem mj_102_71 : mc_P 102 71 = some (.getfield 49, 3, 5, 1, 0) := by decide +kernel
theorem s_102_71 {x0 x1 x2 x3 x4 x5 : Option Value} {o : Nat} : mw d 102 Q 71 [x0, x1, x2, x3, x4, x5] (.ref o :: st) h = (mg h o 5 ∧ mw d 102 Q 74 [x0, x1, x2, x3, x4, x5] (va_rf (mh_r h o 1) :: st) h) := (mw_at mj_102_71).trans (z_getr (by decide) (by decide) rfl)
theorem mj_102_74 : mc_P 102 74 = some (.iload 4, 2, 0, 0, 0) := by decide +kernel
theorem s_102_74 {x0 x1 x2 x3 x5 : Option Value} {w : Value} : mw d 102 Q 74 [x0, x1, x2, x3, some w, x5] (st) h = mv_i w (mw d 102 Q 76 [x0, x1, x2, x3, some w, x5] (w :: st) h) := (mw_at mj_102_74).trans (z_iload rfl)
theorem mj_102_76 : mc_P 102 76 = some (.iload 4, 2, 0, 0, 0) := by decide +kernel
theorem s_102_76 {x0 x1 x2 x3 x5 : Option Value} {w : Value} : mw d 102 Q 76 [x0, x1, x2, x3, some w, x5] (st) h = mv_i w (mw d 102 Q 78 [x0, x1, x2, x3, some w, x5] (w :: st) h) := (mw_at mj_102_76).trans (z_iload rfl)
theorem mj_102_78 : mc_P 102 78 = some (.invokevirtual 104, 3, 146, 8, 3) := by decide +kernel
theorem s_102_78 {x0 x1 x2 x3 x4 x5 : Option Value} {o : Nat} {a1 a2 : Value} : mw (d + 1) 102 Q 78 [x0, x1, x2, x3, x4, x5] (a2 :: a1 :: .ref o :: st) h = (mg h o 8 ∧ mca st 8 ∧ mca [.ref o, a1, a2] 5 ∧ mcall d 146 [.ref o, a1, a2] h (mK (d + 1) 102 Q 81 [x0, x1, x2, x3, x4, x5] st)) := (mw_at mj_102_78).trans ((z_invv (As := [a1, a2]) (by decide) rfl rfl).trans (congrArg (And _) (congrArg (And _) (mC_nl nl_146))))
theorem mj_102_81 : mc_P 102 81 = some (.iload 4, 2, 0, 0, 0) := by decide +kernel
theorem s_102_81 {x0 x1 x2 x3 x5 : Option Value} {w : Value} : mw d 102 Q 81 [x0, x1, x2, x3, some w, x5] (st) h = mv_i w (mw d 102 Q 83 [x0, x1, x2, x3, some w, x5] (w :: st) h) := (mw_at mj_102_81).trans (z_iload rfl)
theorem mj_102_83 : mc_P 102 83 = some (.iconst 2, 1, 0, 0, 0) := by decide +kernel
theorem s_102_83 {x0 x1 x2 x3 x4 x5 : Option Value} : mw d 102 Q 83 [x0, x1, x2, x3, x4, x5] (st) h = mw d 102 Q 84 [x0, x1, x2, x3, x4, x5] (.int 2 :: st) h := (mw_at mj_102_83).trans (z_iconst (by decide))
theorem mj_102_84 : mc_P 102 84 = some (.idiv, 1, 0, 0, 0) := by decide +kernel
theorem s_102_84 {x0 x1 x2 x3 x4 x5 : Option Value} {x w : Int32} : mw d 102 Q 84 [x0, x1, x2, x3, x4, x5] (.int w :: .int x :: st) h = (¬ w = 0 ∧ mw d 102 Q 85 [x0, x1, x2, x3, x4, x5] (.int (x / w) :: st) h) := (mw_at mj_102_84).trans (z_idiv)
theorem mj_102_85 : mc_P 102 85 = some (.invokevirtual 100, 3, 101, 5, 4) := by decide +kernel
theorem s_102_85 {x0 x1 x2 x3 x4 x5 : Option Value} {o : Nat} {a1 a2 a3 : Value} : mw (d + 1) 102 Q 85 [x0, x1, x2, x3, x4, x5] (a3 :: a2 :: a1 :: .ref o :: st) h = (mg h o 5 ∧ mca st 8 ∧ mca [.ref o, a1, a2, a3] 6 ∧ mcall d 101 [.ref o, a1, a2, a3] h (mK (d + 1) 102 Q 88 [x0, x1, x2, x3, x4, x5] st)) := (mw_at mj_102_85).trans ((z_invv (As := [a1, a2, a3]) (by decide) rfl rfl).trans (congrArg (And _) (congrArg (And _) (mC_nl nl_101))))
theorem mj_102_88 : mc_P 102 88 = some (.iconst 1, 1, 0, 0, 0) := by decide +kernel
theorem s_102_88 {x0 x1 x2 x3 x4 x5 : Option Value} : mw d 102 Q 88 [x0, x1, x2, x3, x4, x5] (st) h = mw d 102 Q 89 [x0, x1, x2, x3, x4, x5] (.int 1 :: st) h := (mw_at mj_102_88).trans (z_iconst (by decide))
theorem mj_102_89 : mc_P 102 89 = some (.ireturn, 1, 0, 3, 0) := by decide +kernel
theorem s_102_89 {x0 x1 x2 x3 x4 x5 : Option Value} {x : Int32} : mw d 102 Q 89 [x0, x1, x2, x3, x4, x5] ([.int x]) h = ((x = 0 ∨ x = 1) ∧ Q (some (.int x)) h) := (mw_at mj_102_89).trans (z_zret)
theorem mj_102_90 : mc_P 102 90 = some (.aload_n 0, 1, 0, 0, 0) := by decide +kernel
theorem s_102_90 {x1 x2 x3 x4 x5 : Option Value} {w : Value} : mw d 102 Q 90 [some w, x1, x2, x3, x4, x5] (st) h = mv_a w (mw d 102 Q 91 [some w, x1, x2, x3, x4, x5] (w :: st) h) := (mw_at mj_102_90).trans (z_aload_n rfl)
theorem mj_102_91 : mc_P 102 91 = some (.iload_n 2, 1, 0, 0, 0) := by decide +kernel
theorem s_102_91 {x0 x1 x3 x4 x5 : Option Value} {w : Value} : mw d 102 Q 91 [x0, x1, some w, x3, x4, x5] (st) h = mv_i w (mw d 102 Q 92 [x0, x1, some w, x3, x4, x5] (w :: st) h) := (mw_at mj_102_91).trans (z_iload_n rfl)
theorem mj_102_92 : mc_P 102 92 = some (.i2l, 1, 0, 0, 0) := by decide +kernel
theorem s_102_92 {x0 x1 x2 x3 x4 x5 : Option Value} {x : Int32} : mw d 102 Q 92 [x0, x1, x2, x3, x4, x5] (.int x :: st) h = mw d 102 Q 93 [x0, x1, x2, x3, x4, x5] (.long x.toInt64 :: st) h := (mw_at mj_102_92).trans (z_i2l)
theorem mj_102_93 : mc_P 102 93 = some (.iload_n 3, 1, 0, 0, 0) := by decide +kernel
theorem s_102_93 {x0 x1 x2 x4 x5 : Option Value} {w : Value} : mw d 102 Q 93 [x0, x1, x2, some w, x4, x5] (st) h = mv_i w (mw d 102 Q 94 [x0, x1, x2, some w, x4, x5] (w :: st) h) := (mw_at mj_102_93).trans (z_iload_n rfl)
theorem mj_102_94 : mc_P 102 94 = some (.i2l, 1, 0, 0, 0) := by decide +kernel
theorem s_102_94 {x0 x1 x2 x3 x4 x5 : Option Value} {x : Int32} : mw d 102 Q 94 [x0, x1, x2, x3, x4, x5] (.int x :: st) h = mw d 102 Q 95 [x0, x1, x2, x3, x4, x5] (.long x.toInt64 :: st) h := (mw_at mj_102_94).trans (z_i2l)
theorem mj_102_95 : mc_P 102 95 = some (.iconst (-1), 1, 0, 0, 0) := by decide +kernel
theorem s_102_95 {x0 x1 x2 x3 x4 x5 : Option Value} : mw d 102 Q 95 [x0, x1, x2, x3, x4, x5] (st) h = mw d 102 Q 96 [x0, x1, x2, x3, x4, x5] (.int (-1) :: st) h := (mw_at mj_102_95).trans (z_iconst (by decide))
theorem mj_102_96 : mc_P 102 96 = some (.invokevirtual 100, 3, 101, 5, 4) := by decide +kernel
theorem s_102_96 {x0 x1 x2 x3 x4 x5 : Option Value} {o : Nat} {a1 a2 a3 : Value} : mw (d + 1) 102 Q 96 [x0, x1, x2, x3, x4, x5] (a3 :: a2 :: a1 :: .ref o :: st) h = (mg h o 5 ∧ mca st 8 ∧ mca [.ref o, a1, a2, a3] 6 ∧ mcall d 101 [.ref o, a1, a2, a3] h (mK (d + 1) 102 Q 99 [x0, x1, x2, x3, x4, x5] st)) := (mw_at mj_102_96).trans ((z_invv (As := [a1, a2, a3]) (by decide) rfl rfl).trans (congrArg (And _) (congrArg (And _) (mC_nl nl_101))))
theorem mj_102_99 : mc_P 102 99 = some (.iconst 1, 1, 0, 0, 0) := by decide +kernel
theorem s_102_99 {x0 x1 x2 x3 x4 x5 : Option Value} : mw d 102 Q 99 [x0, x1, x2, x3, x4, x5] (st) h = mw d 102 Q 100 [x0, x1, x2, x3, x4, x5] (.int 1 :: st) h := (mw_at mj_102_99).trans (z_iconst (by decide))
theorem mj_102_100 : mc_P 102 100 = some (.ireturn, 1, 0, 3, 0) := by decide +kernel
theorem s_102_100 {x0 x1 x2 x3 x4 x5 : Option Value} {x : Int32} : mw d 102 Q 100 [x0, x1, x2, x3, x4, x5] ([.int x]) h = ((x = 0 ∨ x = 1) ∧ Q (some (.int x)) h) := (mw_at mj_102_100).trans (z_zret)
theorem mj_102_101 : mc_P 102 101 = some (.aload_n 0, 1, 0, 0, 0) := by decide +kernel
theorem s_102_101 {x1 x2 x3 x4 x5 : Option Value} {w : Value} : mw d 102 Q 101 [some w, x1, x2, x3, x4, x5] (st) h = mv_a w (mw d 102 Q 102 [some w, x1, x2, x3, x4, x5] (w :: st) h) := (mw_at mj_102_101).trans (z_aload_n rfl)
theorem mj_102_102 : mc_P 102 102 = some (.getfield 47, 3, 5, 3, 0) := by decide +kernel
theorem s_102_102 {x0 x1 x2 x3 x4 x5 : Option Value} {o : Nat} : mw d 102 Q 102 [x0, x1, x2, x3, x4, x5] (.ref o :: st) h = (mg h o 5 ∧ mw d 102 Q 105 [x0, x1, x2, x3, x4, x5] (.int (mh_i h o 3) :: st) h) := (mw_at mj_102_102).trans (z_geti (by decide) (by decide) (Or.inl rfl))
theorem mj_102_105 : mc_P 102 105 = some (.iload_n 2, 1, 0, 0, 0) := by decide +kernel
theorem s_102_105 {x0 x1 x3 x4 x5 : Option Value} {w : Value} : mw d 102 Q 105 [x0, x1, some w, x3, x4, x5] (st) h = mv_i w (mw d 102 Q 106 [x0, x1, some w, x3, x4, x5] (w :: st) h) := (mw_at mj_102_105).trans (z_iload_n rfl)
theorem mj_102_106 : mc_P 102 106 = some (.iadd, 1, 0, 0, 0) := by decide +kernel
theorem s_102_106 {x0 x1 x2 x3 x4 x5 : Option Value} {x w : Int32} : mw d 102 Q 106 [x0, x1, x2, x3, x4, x5] (.int w :: .int x :: st) h = mw d 102 Q 107 [x0, x1, x2, x3, x4, x5] (.int (x + w) :: st) h := (mw_at mj_102_106).trans (z_iadd)
theorem mj_102_107 : mc_P 102 107 = some (.istore 5, 2, 0, 0, 0) := by decide +kernel
theorem s_102_107 {x0 x1 x2 x3 x4 x5 : Option Value} {w : Int32} : mw d 102 Q 107 [x0, x1, x2, x3, x4, x5] (.int w :: st) h = mw d 102 Q 109 [x0, x1, x2, x3, mk2 x4, some (.int w)] (st) h := (mw_at mj_102_107).trans (z_istore (Nat.le_of_ble_eq_true rfl) (me_s1_mk (j := 4) (w := x4) rfl))
theorem mj_102_109 : mc_P 102 109 = some (.aload_n 0, 1, 0, 0, 0) := by decide +kernel
theorem s_102_109 {x1 x2 x3 x4 x5 : Option Value} {w : Value} : mw d 102 Q 109 [some w, x1, x2, x3, x4, x5] (st) h = mv_a w (mw d 102 Q 110 [some w, x1, x2, x3, x4, x5] (w :: st) h) := (mw_at mj_102_109).trans (z_aload_n rfl)
theorem mj_102_110 : mc_P 102 110 = some (.dup, 1, 0, 0, 0) := by decide +kernel
theorem s_102_110 {x0 x1 x2 x3 x4 x5 : Option Value} {w : Value} : mw d 102 Q 110 [x0, x1, x2, x3, x4, x5] (w :: st) h = (w.category = 1 ∧ mw d 102 Q 111 [x0, x1, x2, x3, x4, x5] (w :: w :: st) h) := (mw_at mj_102_110).trans (z_dup)
theorem mj_102_111 : mc_P 102 111 = some (.getfield 61, 3, 5, 8, 0) := by decide +kernel
theorem s_102_111 {x0 x1 x2 x3 x4 x5 : Option Value} {o : Nat} : mw d 102 Q 111 [x0, x1, x2, x3, x4, x5] (.ref o :: st) h = (mg h o 5 ∧ mw d 102 Q 114 [x0, x1, x2, x3, x4, x5] (.int (mh_i h o 8) :: st) h) := (mw_at mj_102_111).trans (z_geti (by decide) (by decide) (Or.inl rfl))
theorem mj_102_114 : mc_P 102 114 = some (.iconst 1, 1, 0, 0, 0) := by decide +kernel
theorem s_102_114 {x0 x1 x2 x3 x4 x5 : Option Value} : mw d 102 Q 114 [x0, x1, x2, x3, x4, x5] (st) h = mw d 102 Q 115 [x0, x1, x2, x3, x4, x5] (.int 1 :: st) h := (mw_at mj_102_114).trans (z_iconst (by decide))
theorem mj_102_115 : mc_P 102 115 = some (.isub, 1, 0, 0, 0) := by decide +kernel
theorem s_102_115 {x0 x1 x2 x3 x4 x5 : Option Value} {x w : Int32} : mw d 102 Q 115 [x0, x1, x2, x3, x4, x5] (.int w :: .int x :: st) h = mw d 102 Q 116 [x0, x1, x2, x3, x4, x5] (.int (x - w) :: st) h := (mw_at mj_102_115).trans (z_isub)
theorem mj_102_116 : mc_P 102 116 = some (.putfield 61, 3, 5, 8, 0) := by decide +kernel
theorem s_102_116 {x0 x1 x2 x3 x4 x5 : Option Value} {o : Nat} {w : Int32} : mw d 102 Q 116 [x0, x1, x2, x3, x4, x5] (.int w :: .ref o :: st) h = (mg h o 5 ∧ mw d 102 Q 119 [x0, x1, x2, x3, x4, x5] (st) (mh_si h o 8 w)) := (mw_at mj_102_116).trans (z_puti (by decide) (by decide) rfl)
theorem mj_102_119 : mc_P 102 119 = some (.aload_n 0, 1, 0, 0, 0) := by decide +kernel
theorem s_102_119 {x1 x2 x3 x4 x5 : Option Value} {w : Value} : mw d 102 Q 119 [some w, x1, x2, x3, x4, x5] (st) h = mv_a w (mw d 102 Q 120 [some w, x1, x2, x3, x4, x5] (w :: st) h) := (mw_at mj_102_119).trans (z_aload_n rfl)
theorem mj_102_120 : mc_P 102 120 = some (.iload_n 3, 1, 0, 0, 0) := by decide +kernel
theorem s_102_120 {x0 x1 x2 x4 x5 : Option Value} {w : Value} : mw d 102 Q 120 [x0, x1, x2, some w, x4, x5] (st) h = mv_i w (mw d 102 Q 121 [x0, x1, x2, some w, x4, x5] (w :: st) h) := (mw_at mj_102_120).trans (z_iload_n rfl)
theorem mj_102_121 : mc_P 102 121 = some (.invokevirtual 110, 3, 103, 5, 2) := by decide +kernel
theorem s_102_121 {x0 x1 x2 x3 x4 x5 : Option Value} {o : Nat} {a1 : Value} : mw (d + 1) 102 Q 121 [x0, x1, x2, x3, x4, x5] (a1 :: .ref o :: st) h = (mg h o 5 ∧ mca st 8 ∧ mca [.ref o, a1] 2 ∧ mcall d 103 [.ref o, a1] h (mK (d + 1) 102 Q 124 [x0, x1, x2, x3, x4, x5] st)) := (mw_at mj_102_121).trans ((z_invv (As := [a1]) (by decide) rfl rfl).trans (congrArg (And _) (congrArg (And _) (mC_nl nl_103))))
theorem mj_102_124 : mc_P 102 124 = some (.ifCond .ne 5, 3, 0, 0, 0) := by decide +kernel
theorem s_102_124 {x0 x1 x2 x3 x4 x5 : Option Value} {x : Int32} : mw d 102 Q 124 [x0, x1, x2, x3, x4, x5] (.int x :: st) h = mB (¬ x = 0) (mw d 102 Q) 129 127 [x0, x1, x2, x3, x4, x5] st h := (mw_at mj_102_124).trans (z_if_ne (by decide) rfl)
theorem mj_102_127 : mc_P 102 127 = some (.iconst 0, 1, 0, 0, 0) := by decide +kernel
theorem s_102_127 {x0 x1 x2 x3 x4 x5 : Option Value} : mw d 102 Q 127 [x0, x1, x2, x3, x4, x5] (st) h = mw d 102 Q 128 [x0, x1, x2, x3, x4, x5] (.int 0 :: st) h := (mw_at mj_102_127).trans (z_iconst (by decide))
theorem mj_102_128 : mc_P 102 128 = some (.ireturn, 1, 0, 3, 0) := by decide +kernel
theorem s_102_128 {x0 x1 x2 x3 x4 x5 : Option Value} {x : Int32} : mw d 102 Q 128 [x0, x1, x2, x3, x4, x5] ([.int x]) h = ((x = 0 ∨ x = 1) ∧ Q (some (.int x)) h) := (mw_at mj_102_128).trans (z_zret)
theorem mj_102_129 : mc_P 102 129 = some (.aload_n 0, 1, 0, 0, 0) := by decide +kernel
theorem s_102_129 {x1 x2 x3 x4 x5 : Option Value} {w : Value} : mw d 102 Q 129 [some w, x1, x2, x3, x4, x5] (st) h = mv_a w (mw d 102 Q 130 [some w, x1, x2, x3, x4, x5] (w :: st) h) := (mw_at mj_102_129).trans (z_aload_n rfl)
theorem mj_102_130 : mc_P 102 130 = some (.aload_n 0, 1, 0, 0, 0) := by decide +kernel
theorem s_102_130 {x1 x2 x3 x4 x5 : Option Value} {w : Value} : mw d 102 Q 130 [some w, x1, x2, x3, x4, x5] (st) h = mv_a w (mw d 102 Q 131 [some w, x1, x2, x3, x4, x5] (w :: st) h) := (mw_at mj_102_130).trans (z_aload_n rfl)
theorem mj_102_131 : mc_P 102 131 = some (.getfield 49, 3, 5, 1, 0) := by decide +kernel
theorem s_102_131 {x0 x1 x2 x3 x4 x5 : Option Value} {o : Nat} : mw d 102 Q 131 [x0, x1, x2, x3, x4, x5] (.ref o :: st) h = (mg h o 5 ∧ mw d 102 Q 134 [x0, x1, x2, x3, x4, x5] (va_rf (mh_r h o 1) :: st) h) := (mw_at mj_102_131).trans (z_getr (by decide) (by decide) rfl)
theorem mj_102_134 : mc_P 102 134 = some (.getfield 114, 3, 8, 4, 0) := by decide +kernel
theorem s_102_134 {x0 x1 x2 x3 x4 x5 : Option Value} {o : Nat} : mw d 102 Q 134 [x0, x1, x2, x3, x4, x5] (.ref o :: st) h = (mg h o 8 ∧ mw d 102 Q 137 [x0, x1, x2, x3, x4, x5] (va_rf (mh_r h o 4) :: st) h) := (mw_at mj_102_134).trans (z_getr (by decide) (by decide) rfl)
theorem mj_102_137 : mc_P 102 137 = some (.iconst 2, 1, 0, 0, 0) := by decide +kernel
theorem s_102_137 {x0 x1 x2 x3 x4 x5 : Option Value} : mw d 102 Q 137 [x0, x1, x2, x3, x4, x5] (st) h = mw d 102 Q 138 [x0, x1, x2, x3, x4, x5] (.int 2 :: st) h := (mw_at mj_102_137).trans (z_iconst (by decide))
theorem mj_102_138 : mc_P 102 138 = some (.iload 5, 2, 0, 0, 0) := by decide +kernel
theorem s_102_138 {x0 x1 x2 x3 x4 : Option Value} {w : Value} : mw d 102 Q 138 [x0, x1, x2, x3, x4, some w] (st) h = mv_i w (mw d 102 Q 140 [x0, x1, x2, x3, x4, some w] (w :: st) h) := (mw_at mj_102_138).trans (z_iload rfl)
theorem mj_102_140 : mc_P 102 140 = some (.imul, 1, 0, 0, 0) := by decide +kernel
theorem s_102_140 {x0 x1 x2 x3 x4 x5 : Option Value} {x w : Int32} : mw d 102 Q 140 [x0, x1, x2, x3, x4, x5] (.int w :: .int x :: st) h = mw d 102 Q 141 [x0, x1, x2, x3, x4, x5] (.int (x * w) :: st) h := (mw_at mj_102_140).trans (z_imul)
theorem mj_102_141 : mc_P 102 141 = some (.laload, 1, 0, 0, 0) := by decide +kernel
theorem s_102_141 {x0 x1 x2 x3 x4 x5 : Option Value} {o : Nat} {i : Int32} : mw d 102 Q 141 [x0, x1, x2, x3, x4, x5] (.int i :: .ref o :: st) h = (mg h o 101 ∧ mx i (mh_l h o) ∧ mw d 102 Q 142 [x0, x1, x2, x3, x4, x5] (.long (mh_j h o i.toNatClampNeg) :: st) h) := (mw_at mj_102_141).trans (z_lald)
theorem mj_102_142 : mc_P 102 142 = some (.aload_n 0, 1, 0, 0, 0) := by decide +kernel
theorem s_102_142 {x1 x2 x3 x4 x5 : Option Value} {w : Value} : mw d 102 Q 142 [some w, x1, x2, x3, x4, x5] (st) h = mv_a w (mw d 102 Q 143 [some w, x1, x2, x3, x4, x5] (w :: st) h) := (mw_at mj_102_142).trans (z_aload_n rfl)
theorem mj_102_143 : mc_P 102 143 = some (.getfield 49, 3, 5, 1, 0) := by decide +kernel
theorem s_102_143 {x0 x1 x2 x3 x4 x5 : Option Value} {o : Nat} : mw d 102 Q 143 [x0, x1, x2, x3, x4, x5] (.ref o :: st) h = (mg h o 5 ∧ mw d 102 Q 146 [x0, x1, x2, x3, x4, x5] (va_rf (mh_r h o 1) :: st) h) := (mw_at mj_102_143).trans (z_getr (by decide) (by decide) rfl)
theorem mj_102_146 : mc_P 102 146 = some (.getfield 114, 3, 8, 4, 0) := by decide +kernel
theorem s_102_146 {x0 x1 x2 x3 x4 x5 : Option Value} {o : Nat} : mw d 102 Q 146 [x0, x1, x2, x3, x4, x5] (.ref o :: st) h = (mg h o 8 ∧ mw d 102 Q 149 [x0, x1, x2, x3, x4, x5] (va_rf (mh_r h o 4) :: st) h) := (mw_at mj_102_146).trans (z_getr (by decide) (by decide) rfl)
theorem mj_102_149 : mc_P 102 149 = some (.iconst 2, 1, 0, 0, 0) := by decide +kernel
theorem s_102_149 {x0 x1 x2 x3 x4 x5 : Option Value} : mw d 102 Q 149 [x0, x1, x2, x3, x4, x5] (st) h = mw d 102 Q 150 [x0, x1, x2, x3, x4, x5] (.int 2 :: st) h := (mw_at mj_102_149).trans (z_iconst (by decide))
theorem mj_102_150 : mc_P 102 150 = some (.iload 5, 2, 0, 0, 0) := by decide +kernel
theorem s_102_150 {x0 x1 x2 x3 x4 : Option Value} {w : Value} : mw d 102 Q 150 [x0, x1, x2, x3, x4, some w] (st) h = mv_i w (mw d 102 Q 152 [x0, x1, x2, x3, x4, some w] (w :: st) h) := (mw_at mj_102_150).trans (z_iload rfl)
theorem mj_102_152 : mc_P 102 152 = some (.imul, 1, 0, 0, 0) := by decide +kernel
theorem s_102_152 {x0 x1 x2 x3 x4 x5 : Option Value} {x w : Int32} : mw d 102 Q 152 [x0, x1, x2, x3, x4, x5] (.int w :: .int x :: st) h = mw d 102 Q 153 [x0, x1, x2, x3, x4, x5] (.int (x * w) :: st) h := (mw_at mj_102_152).trans (z_imul)
theorem mj_102_153 : mc_P 102 153 = some (.iconst 1, 1, 0, 0, 0) := by decide +kernel
theorem s_102_153 {x0 x1 x2 x3 x4 x5 : Option Value} : mw d 102 Q 153 [x0, x1, x2, x3, x4, x5] (st) h = mw d 102 Q 154 [x0, x1, x2, x3, x4, x5] (.int 1 :: st) h := (mw_at mj_102_153).trans (z_iconst (by decide))
theorem mj_102_154 : mc_P 102 154 = some (.iadd, 1, 0, 0, 0) := by decide +kernel
theorem s_102_154 {x0 x1 x2 x3 x4 x5 : Option Value} {x w : Int32} : mw d 102 Q 154 [x0, x1, x2, x3, x4, x5] (.int w :: .int x :: st) h = mw d 102 Q 155 [x0, x1, x2, x3, x4, x5] (.int (x + w) :: st) h := (mw_at mj_102_154).trans (z_iadd)
theorem mj_102_155 : mc_P 102 155 = some (.laload, 1, 0, 0, 0) := by decide +kernel
theorem s_102_155 {x0 x1 x2 x3 x4 x5 : Option Value} {o : Nat} {i : Int32} : mw d 102 Q 155 [x0, x1, x2, x3, x4, x5] (.int i :: .ref o :: st) h = (mg h o 101 ∧ mx i (mh_l h o) ∧ mw d 102 Q 156 [x0, x1, x2, x3, x4, x5] (.long (mh_j h o i.toNatClampNeg) :: st) h) := (mw_at mj_102_155).trans (z_lald)
theorem mj_102_156 : mc_P 102 156 = some (.iconst (-1), 1, 0, 0, 0) := by decide +kernel
theorem s_102_156 {x0 x1 x2 x3 x4 x5 : Option Value} : mw d 102 Q 156 [x0, x1, x2, x3, x4, x5] (st) h = mw d 102 Q 157 [x0, x1, x2, x3, x4, x5] (.int (-1) :: st) h := (mw_at mj_102_156).trans (z_iconst (by decide))
theorem mj_102_157 : mc_P 102 157 = some (.invokevirtual 100, 3, 101, 5, 4) := by decide +kernel
theorem s_102_157 {x0 x1 x2 x3 x4 x5 : Option Value} {o : Nat} {a1 a2 a3 : Value} : mw (d + 1) 102 Q 157 [x0, x1, x2, x3, x4, x5] (a3 :: a2 :: a1 :: .ref o :: st) h = (mg h o 5 ∧ mca st 8 ∧ mca [.ref o, a1, a2, a3] 6 ∧ mcall d 101 [.ref o, a1, a2, a3] h (mK (d + 1) 102 Q 160 [x0, x1, x2, x3, x4, x5] st)) := (mw_at mj_102_157).trans ((z_invv (As := [a1, a2, a3]) (by decide) rfl rfl).trans (congrArg (And _) (congrArg (And _) (mC_nl nl_101))))
theorem mj_102_160 : mc_P 102 160 = some (.iconst 1, 1, 0, 0, 0) := by decide +kernel
theorem s_102_160 {x0 x1 x2 x3 x4 x5 : Option Value} : mw d 102 Q 160 [x0, x1, x2, x3, x4, x5] (st) h = mw d 102 Q 161 [x0, x1, x2, x3, x4, x5] (.int 1 :: st) h := (mw_at mj_102_160).trans (z_iconst (by decide))
theorem mj_102_161 : mc_P 102 161 = some (.ireturn, 1, 0, 3, 0) := by decide +kernel
theorem s_102_161 {x0 x1 x2 x3 x4 x5 : Option Value} {x : Int32} : mw d 102 Q 161 [x0, x1, x2, x3, x4, x5] ([.int x]) h = ((x = 0 ∨ x = 1) ∧ Q (some (.int x)) h) := (mw_at mj_102_161).trans (z_zret)
theorem e_102 {a0 : Nat} {a1 : Int32} {a2 : Int32} {a3 : Int32} : mcall d 102 [.ref a0, .int a1, .int a2, .int a3] h Q = mw d 102 Q 0 [some (.ref a0), some (.int a1), some (.int a2), some (.int a3), none, none] [] h := by
  show mw d 102 Q 0 (me_en (mc_nl 102) _) [] h = _
  rw [nl_102]; rfl

/-! InvariantDesk$Ranges.hasPlace(I)Z -/
theorem mj_103_0 : mc_P 103 0 = some (.aload_n 0, 1, 0, 0, 0) := by decide +kernel
theorem s_103_0 {x1 : Option Value} {w : Value} : mw d 103 Q 0 [some w, x1] (st) h = mv_a w (mw d 103 Q 1 [some w, x1] (w :: st) h) := (mw_at mj_103_0).trans (z_aload_n rfl)
theorem mj_103_1 : mc_P 103 1 = some (.getfield 9, 3, 5, 5, 0) := by decide +kernel
theorem s_103_1 {x0 x1 : Option Value} {o : Nat} : mw d 103 Q 1 [x0, x1] (.ref o :: st) h = (mg h o 5 ∧ mw d 103 Q 4 [x0, x1] (va_rf (mh_r h o 5) :: st) h) := (mw_at mj_103_1).trans (z_getr (by decide) (by decide) rfl)
theorem mj_103_4 : mc_P 103 4 = some (.aload_n 0, 1, 0, 0, 0) := by decide +kernel
theorem s_103_4 {x1 : Option Value} {w : Value} : mw d 103 Q 4 [some w, x1] (st) h = mv_a w (mw d 103 Q 5 [some w, x1] (w :: st) h) := (mw_at mj_103_4).trans (z_aload_n rfl)
theorem mj_103_5 : mc_P 103 5 = some (.getfield 61, 3, 5, 8, 0) := by decide +kernel
theorem s_103_5 {x0 x1 : Option Value} {o : Nat} : mw d 103 Q 5 [x0, x1] (.ref o :: st) h = (mg h o 5 ∧ mw d 103 Q 8 [x0, x1] (.int (mh_i h o 8) :: st) h) := (mw_at mj_103_5).trans (z_geti (by decide) (by decide) (Or.inl rfl))
theorem mj_103_8 : mc_P 103 8 = some (.laload, 1, 0, 0, 0) := by decide +kernel
theorem s_103_8 {x0 x1 : Option Value} {o : Nat} {i : Int32} : mw d 103 Q 8 [x0, x1] (.int i :: .ref o :: st) h = (mg h o 101 ∧ mx i (mh_l h o) ∧ mw d 103 Q 9 [x0, x1] (.long (mh_j h o i.toNatClampNeg) :: st) h) := (mw_at mj_103_8).trans (z_lald)
theorem mj_103_9 : mc_P 103 9 = some (.lconst 0, 1, 0, 0, 0) := by decide +kernel
theorem s_103_9 {x0 x1 : Option Value} : mw d 103 Q 9 [x0, x1] (st) h = mw d 103 Q 10 [x0, x1] (.long 0 :: st) h := (mw_at mj_103_9).trans (z_lconst (by decide))
theorem mj_103_10 : mc_P 103 10 = some (.lcmp, 1, 0, 0, 0) := by decide +kernel
theorem s_103_10 {x0 x1 : Option Value} {x w : Int64} : mw d 103 Q 10 [x0, x1] (.long w :: .long x :: st) h = mw d 103 Q 11 [x0, x1] (.int (lg_cmp x w) :: st) h := (mw_at mj_103_10).trans (z_lcmp)
theorem mj_103_11 : mc_P 103 11 = some (.ifCond .lt 18, 3, 0, 0, 0) := by decide +kernel
theorem s_103_11 {x0 x1 : Option Value} {x : Int32} : mw d 103 Q 11 [x0, x1] (.int x :: st) h = mB (x < 0) (mw d 103 Q) 29 14 [x0, x1] st h := (mw_at mj_103_11).trans (z_if_lt (by decide) rfl)
theorem mj_103_14 : mc_P 103 14 = some (.aload_n 0, 1, 0, 0, 0) := by decide +kernel
theorem s_103_14 {x1 : Option Value} {w : Value} : mw d 103 Q 14 [some w, x1] (st) h = mv_a w (mw d 103 Q 15 [some w, x1] (w :: st) h) := (mw_at mj_103_14).trans (z_aload_n rfl)
theorem mj_103_15 : mc_P 103 15 = some (.getfield 15, 3, 5, 6, 0) := by decide +kernel
theorem s_103_15 {x0 x1 : Option Value} {o : Nat} : mw d 103 Q 15 [x0, x1] (.ref o :: st) h = (mg h o 5 ∧ mw d 103 Q 18 [x0, x1] (va_rf (mh_r h o 6) :: st) h) := (mw_at mj_103_15).trans (z_getr (by decide) (by decide) rfl)
theorem mj_103_18 : mc_P 103 18 = some (.aload_n 0, 1, 0, 0, 0) := by decide +kernel
theorem s_103_18 {x1 : Option Value} {w : Value} : mw d 103 Q 18 [some w, x1] (st) h = mv_a w (mw d 103 Q 19 [some w, x1] (w :: st) h) := (mw_at mj_103_18).trans (z_aload_n rfl)
theorem mj_103_19 : mc_P 103 19 = some (.getfield 61, 3, 5, 8, 0) := by decide +kernel
theorem s_103_19 {x0 x1 : Option Value} {o : Nat} : mw d 103 Q 19 [x0, x1] (.ref o :: st) h = (mg h o 5 ∧ mw d 103 Q 22 [x0, x1] (.int (mh_i h o 8) :: st) h) := (mw_at mj_103_19).trans (z_geti (by decide) (by decide) (Or.inl rfl))
theorem mj_103_22 : mc_P 103 22 = some (.laload, 1, 0, 0, 0) := by decide +kernel
theorem s_103_22 {x0 x1 : Option Value} {o : Nat} {i : Int32} : mw d 103 Q 22 [x0, x1] (.int i :: .ref o :: st) h = (mg h o 101 ∧ mx i (mh_l h o) ∧ mw d 103 Q 23 [x0, x1] (.long (mh_j h o i.toNatClampNeg) :: st) h) := (mw_at mj_103_22).trans (z_lald)
theorem mj_103_23 : mc_P 103 23 = some (.iload_n 1, 1, 0, 0, 0) := by decide +kernel
theorem s_103_23 {x0 : Option Value} {w : Value} : mw d 103 Q 23 [x0, some w] (st) h = mv_i w (mw d 103 Q 24 [x0, some w] (w :: st) h) := (mw_at mj_103_23).trans (z_iload_n rfl)
theorem mj_103_24 : mc_P 103 24 = some (.i2l, 1, 0, 0, 0) := by decide +kernel
theorem s_103_24 {x0 x1 : Option Value} {x : Int32} : mw d 103 Q 24 [x0, x1] (.int x :: st) h = mw d 103 Q 25 [x0, x1] (.long x.toInt64 :: st) h := (mw_at mj_103_24).trans (z_i2l)
theorem mj_103_25 : mc_P 103 25 = some (.lcmp, 1, 0, 0, 0) := by decide +kernel
theorem s_103_25 {x0 x1 : Option Value} {x w : Int64} : mw d 103 Q 25 [x0, x1] (.long w :: .long x :: st) h = mw d 103 Q 26 [x0, x1] (.int (lg_cmp x w) :: st) h := (mw_at mj_103_25).trans (z_lcmp)
theorem mj_103_26 : mc_P 103 26 = some (.ifCond .lt 13, 3, 0, 0, 0) := by decide +kernel
theorem s_103_26 {x0 x1 : Option Value} {x : Int32} : mw d 103 Q 26 [x0, x1] (.int x :: st) h = mB (x < 0) (mw d 103 Q) 39 29 [x0, x1] st h := (mw_at mj_103_26).trans (z_if_lt (by decide) rfl)
theorem mj_103_29 : mc_P 103 29 = some (.aload_n 0, 1, 0, 0, 0) := by decide +kernel
theorem s_103_29 {x1 : Option Value} {w : Value} : mw d 103 Q 29 [some w, x1] (st) h = mv_a w (mw d 103 Q 30 [some w, x1] (w :: st) h) := (mw_at mj_103_29).trans (z_aload_n rfl)
theorem mj_103_30 : mc_P 103 30 = some (.dup, 1, 0, 0, 0) := by decide +kernel
theorem s_103_30 {x0 x1 : Option Value} {w : Value} : mw d 103 Q 30 [x0, x1] (w :: st) h = (w.category = 1 ∧ mw d 103 Q 31 [x0, x1] (w :: w :: st) h) := (mw_at mj_103_30).trans (z_dup)
theorem mj_103_31 : mc_P 103 31 = some (.getfield 53, 3, 5, 4, 0) := by decide +kernel
theorem s_103_31 {x0 x1 : Option Value} {o : Nat} : mw d 103 Q 31 [x0, x1] (.ref o :: st) h = (mg h o 5 ∧ mw d 103 Q 34 [x0, x1] (.int (mh_i h o 4) :: st) h) := (mw_at mj_103_31).trans (z_geti (by decide) (by decide) (Or.inl rfl))
theorem mj_103_34 : mc_P 103 34 = some (.iconst 4, 1, 0, 0, 0) := by decide +kernel
theorem s_103_34 {x0 x1 : Option Value} : mw d 103 Q 34 [x0, x1] (st) h = mw d 103 Q 35 [x0, x1] (.int 4 :: st) h := (mw_at mj_103_34).trans (z_iconst (by decide))
theorem mj_103_35 : mc_P 103 35 = some (.ior, 1, 0, 0, 0) := by decide +kernel
theorem s_103_35 {x0 x1 : Option Value} {x w : Int32} : mw d 103 Q 35 [x0, x1] (.int w :: .int x :: st) h = mw d 103 Q 36 [x0, x1] (.int (x ||| w) :: st) h := (mw_at mj_103_35).trans (z_ior)
theorem mj_103_36 : mc_P 103 36 = some (.putfield 53, 3, 5, 4, 0) := by decide +kernel
theorem s_103_36 {x0 x1 : Option Value} {o : Nat} {w : Int32} : mw d 103 Q 36 [x0, x1] (.int w :: .ref o :: st) h = (mg h o 5 ∧ mw d 103 Q 39 [x0, x1] (st) (mh_si h o 4 w)) := (mw_at mj_103_36).trans (z_puti (by decide) (by decide) rfl)
theorem mj_103_39 : mc_P 103 39 = some (.aload_n 0, 1, 0, 0, 0) := by decide +kernel
theorem s_103_39 {x1 : Option Value} {w : Value} : mw d 103 Q 39 [some w, x1] (st) h = mv_a w (mw d 103 Q 40 [some w, x1] (w :: st) h) := (mw_at mj_103_39).trans (z_aload_n rfl)
theorem mj_103_40 : mc_P 103 40 = some (.getfield 15, 3, 5, 6, 0) := by decide +kernel
theorem s_103_40 {x0 x1 : Option Value} {o : Nat} : mw d 103 Q 40 [x0, x1] (.ref o :: st) h = (mg h o 5 ∧ mw d 103 Q 43 [x0, x1] (va_rf (mh_r h o 6) :: st) h) := (mw_at mj_103_40).trans (z_getr (by decide) (by decide) rfl)
theorem mj_103_43 : mc_P 103 43 = some (.aload_n 0, 1, 0, 0, 0) := by decide +kernel
theorem s_103_43 {x1 : Option Value} {w : Value} : mw d 103 Q 43 [some w, x1] (st) h = mv_a w (mw d 103 Q 44 [some w, x1] (w :: st) h) := (mw_at mj_103_43).trans (z_aload_n rfl)
theorem mj_103_44 : mc_P 103 44 = some (.getfield 61, 3, 5, 8, 0) := by decide +kernel
theorem s_103_44 {x0 x1 : Option Value} {o : Nat} : mw d 103 Q 44 [x0, x1] (.ref o :: st) h = (mg h o 5 ∧ mw d 103 Q 47 [x0, x1] (.int (mh_i h o 8) :: st) h) := (mw_at mj_103_44).trans (z_geti (by decide) (by decide) (Or.inl rfl))
theorem mj_103_47 : mc_P 103 47 = some (.laload, 1, 0, 0, 0) := by decide +kernel
theorem s_103_47 {x0 x1 : Option Value} {o : Nat} {i : Int32} : mw d 103 Q 47 [x0, x1] (.int i :: .ref o :: st) h = (mg h o 101 ∧ mx i (mh_l h o) ∧ mw d 103 Q 48 [x0, x1] (.long (mh_j h o i.toNatClampNeg) :: st) h) := (mw_at mj_103_47).trans (z_lald)
theorem mj_103_48 : mc_P 103 48 = some (.lconst 0, 1, 0, 0, 0) := by decide +kernel
theorem s_103_48 {x0 x1 : Option Value} : mw d 103 Q 48 [x0, x1] (st) h = mw d 103 Q 49 [x0, x1] (.long 0 :: st) h := (mw_at mj_103_48).trans (z_lconst (by decide))
theorem mj_103_49 : mc_P 103 49 = some (.lcmp, 1, 0, 0, 0) := by decide +kernel
theorem s_103_49 {x0 x1 : Option Value} {x w : Int64} : mw d 103 Q 49 [x0, x1] (.long w :: .long x :: st) h = mw d 103 Q 50 [x0, x1] (.int (lg_cmp x w) :: st) h := (mw_at mj_103_49).trans (z_lcmp)
theorem mj_103_50 : mc_P 103 50 = some (.ifCond .lt 22, 3, 0, 0, 0) := by decide +kernel
theorem s_103_50 {x0 x1 : Option Value} {x : Int32} : mw d 103 Q 50 [x0, x1] (.int x :: st) h = mB (x < 0) (mw d 103 Q) 72 53 [x0, x1] st h := (mw_at mj_103_50).trans (z_if_lt (by decide) rfl)
theorem mj_103_53 : mc_P 103 53 = some (.aload_n 0, 1, 0, 0, 0) := by decide +kernel
theorem s_103_53 {x1 : Option Value} {w : Value} : mw d 103 Q 53 [some w, x1] (st) h = mv_a w (mw d 103 Q 54 [some w, x1] (w :: st) h) := (mw_at mj_103_53).trans (z_aload_n rfl)
theorem mj_103_54 : mc_P 103 54 = some (.getfield 9, 3, 5, 5, 0) := by decide +kernel
theorem s_103_54 {x0 x1 : Option Value} {o : Nat} : mw d 103 Q 54 [x0, x1] (.ref o :: st) h = (mg h o 5 ∧ mw d 103 Q 57 [x0, x1] (va_rf (mh_r h o 5) :: st) h) := (mw_at mj_103_54).trans (z_getr (by decide) (by decide) rfl)
theorem mj_103_57 : mc_P 103 57 = some (.aload_n 0, 1, 0, 0, 0) := by decide +kernel
theorem s_103_57 {x1 : Option Value} {w : Value} : mw d 103 Q 57 [some w, x1] (st) h = mv_a w (mw d 103 Q 58 [some w, x1] (w :: st) h) := (mw_at mj_103_57).trans (z_aload_n rfl)
theorem mj_103_58 : mc_P 103 58 = some (.getfield 61, 3, 5, 8, 0) := by decide +kernel
theorem s_103_58 {x0 x1 : Option Value} {o : Nat} : mw d 103 Q 58 [x0, x1] (.ref o :: st) h = (mg h o 5 ∧ mw d 103 Q 61 [x0, x1] (.int (mh_i h o 8) :: st) h) := (mw_at mj_103_58).trans (z_geti (by decide) (by decide) (Or.inl rfl))
theorem mj_103_61 : mc_P 103 61 = some (.laload, 1, 0, 0, 0) := by decide +kernel
theorem s_103_61 {x0 x1 : Option Value} {o : Nat} {i : Int32} : mw d 103 Q 61 [x0, x1] (.int i :: .ref o :: st) h = (mg h o 101 ∧ mx i (mh_l h o) ∧ mw d 103 Q 62 [x0, x1] (.long (mh_j h o i.toNatClampNeg) :: st) h) := (mw_at mj_103_61).trans (z_lald)
theorem mj_103_62 : mc_P 103 62 = some (.iload_n 1, 1, 0, 0, 0) := by decide +kernel
theorem s_103_62 {x0 : Option Value} {w : Value} : mw d 103 Q 62 [x0, some w] (st) h = mv_i w (mw d 103 Q 63 [x0, some w] (w :: st) h) := (mw_at mj_103_62).trans (z_iload_n rfl)
theorem mj_103_63 : mc_P 103 63 = some (.i2l, 1, 0, 0, 0) := by decide +kernel
theorem s_103_63 {x0 x1 : Option Value} {x : Int32} : mw d 103 Q 63 [x0, x1] (.int x :: st) h = mw d 103 Q 64 [x0, x1] (.long x.toInt64 :: st) h := (mw_at mj_103_63).trans (z_i2l)
theorem mj_103_64 : mc_P 103 64 = some (.lcmp, 1, 0, 0, 0) := by decide +kernel
theorem s_103_64 {x0 x1 : Option Value} {x w : Int64} : mw d 103 Q 64 [x0, x1] (.long w :: .long x :: st) h = mw d 103 Q 65 [x0, x1] (.int (lg_cmp x w) :: st) h := (mw_at mj_103_64).trans (z_lcmp)
theorem mj_103_65 : mc_P 103 65 = some (.ifCond .ge 7, 3, 0, 0, 0) := by decide +kernel
theorem s_103_65 {x0 x1 : Option Value} {x : Int32} : mw d 103 Q 65 [x0, x1] (.int x :: st) h = mB (0 ≤ x) (mw d 103 Q) 72 68 [x0, x1] st h := (mw_at mj_103_65).trans (z_if_ge (by decide) rfl)
theorem mj_103_68 : mc_P 103 68 = some (.iconst 1, 1, 0, 0, 0) := by decide +kernel
theorem s_103_68 {x0 x1 : Option Value} : mw d 103 Q 68 [x0, x1] (st) h = mw d 103 Q 69 [x0, x1] (.int 1 :: st) h := (mw_at mj_103_68).trans (z_iconst (by decide))
theorem mj_103_69 : mc_P 103 69 = some (.goto 4, 3, 0, 0, 0) := by decide +kernel
theorem s_103_69 {x0 x1 : Option Value} : mw d 103 Q 69 [x0, x1] (st) h = mw d 103 Q 73 [x0, x1] (st) h := (mw_at mj_103_69).trans (z_goto (by decide))
theorem mj_103_72 : mc_P 103 72 = some (.iconst 0, 1, 0, 0, 0) := by decide +kernel
theorem s_103_72 {x0 x1 : Option Value} : mw d 103 Q 72 [x0, x1] (st) h = mw d 103 Q 73 [x0, x1] (.int 0 :: st) h := (mw_at mj_103_72).trans (z_iconst (by decide))
theorem mj_103_73 : mc_P 103 73 = some (.ireturn, 1, 0, 3, 0) := by decide +kernel
theorem s_103_73 {x0 x1 : Option Value} {x : Int32} : mw d 103 Q 73 [x0, x1] ([.int x]) h = ((x = 0 ∨ x = 1) ∧ Q (some (.int x)) h) := (mw_at mj_103_73).trans (z_zret)
theorem e_103 {a0 : Nat} {a1 : Int32} : mcall d 103 [.ref a0, .int a1] h Q = mw d 103 Q 0 [some (.ref a0), some (.int a1)] [] h := by
  show mw d 103 Q 0 (me_en (mc_nl 103) _) [] h = _
  rw [nl_103]; rfl

/-! InvariantDesk$Ranges.indexes(I)Z -/
theorem mj_104_0 : mc_P 104 0 = some (.aload_n 0, 1, 0, 0, 0) := by decide +kernel
theorem s_104_0 {x1 : Option Value} {w : Value} : mw d 104 Q 0 [some w, x1] (st) h = mv_a w (mw d 104 Q 1 [some w, x1] (w :: st) h) := (mw_at mj_104_0).trans (z_aload_n rfl)
theorem mj_104_1 : mc_P 104 1 = some (.iconst 0, 1, 0, 0, 0) := by decide +kernel
theorem s_104_1 {x0 x1 : Option Value} : mw d 104 Q 1 [x0, x1] (st) h = mw d 104 Q 2 [x0, x1] (.int 0 :: st) h := (mw_at mj_104_1).trans (z_iconst (by decide))
theorem mj_104_2 : mc_P 104 2 = some (.putfield 61, 3, 5, 8, 0) := by decide +kernel
theorem s_104_2 {x0 x1 : Option Value} {o : Nat} {w : Int32} : mw d 104 Q 2 [x0, x1] (.int w :: .ref o :: st) h = (mg h o 5 ∧ mw d 104 Q 5 [x0, x1] (st) (mh_si h o 8 w)) := (mw_at mj_104_2).trans (z_puti (by decide) (by decide) rfl)
theorem mj_104_5 : mc_P 104 5 = some (.aload_n 0, 1, 0, 0, 0) := by decide +kernel
theorem s_104_5 {x1 : Option Value} {w : Value} : mw d 104 Q 5 [some w, x1] (st) h = mv_a w (mw d 104 Q 6 [some w, x1] (w :: st) h) := (mw_at mj_104_5).trans (z_aload_n rfl)
theorem mj_104_6 : mc_P 104 6 = some (.iload_n 1, 1, 0, 0, 0) := by decide +kernel
theorem s_104_6 {x0 : Option Value} {w : Value} : mw d 104 Q 6 [x0, some w] (st) h = mv_i w (mw d 104 Q 7 [x0, some w] (w :: st) h) := (mw_at mj_104_6).trans (z_iload_n rfl)
theorem mj_104_7 : mc_P 104 7 = some (.invokevirtual 110, 3, 103, 5, 2) := by decide +kernel
theorem s_104_7 {x0 x1 : Option Value} {o : Nat} {a1 : Value} : mw (d + 1) 104 Q 7 [x0, x1] (a1 :: .ref o :: st) h = (mg h o 5 ∧ mca st 8 ∧ mca [.ref o, a1] 2 ∧ mcall d 103 [.ref o, a1] h (mK (d + 1) 104 Q 10 [x0, x1] st)) := (mw_at mj_104_7).trans ((z_invv (As := [a1]) (by decide) rfl rfl).trans (congrArg (And _) (congrArg (And _) (mC_nl nl_103))))
theorem mj_104_10 : mc_P 104 10 = some (.ireturn, 1, 0, 3, 0) := by decide +kernel
theorem s_104_10 {x0 x1 : Option Value} {x : Int32} : mw d 104 Q 10 [x0, x1] ([.int x]) h = ((x = 0 ∨ x = 1) ∧ Q (some (.int x)) h) := (mw_at mj_104_10).trans (z_zret)
theorem e_104 {a0 : Nat} {a1 : Int32} : mcall d 104 [.ref a0, .int a1] h Q = mw d 104 Q 0 [some (.ref a0), some (.int a1)] [] h := by
  show mw d 104 Q 0 (me_en (mc_nl 104) _) [] h = _
  rw [nl_104]; rfl

/-! InvariantDesk$Ranges.negate()V -/
theorem mj_105_0 : mc_P 105 0 = some (.aload_n 0, 1, 0, 0, 0) := by decide +kernel
theorem s_105_0 {x1 x2 x3 : Option Value} {w : Value} : mw d 105 Q 0 [some w, x1, x2, x3] (st) h = mv_a w (mw d 105 Q 1 [some w, x1, x2, x3] (w :: st) h) := (mw_at mj_105_0).trans (z_aload_n rfl)
theorem mj_105_1 : mc_P 105 1 = some (.getfield 61, 3, 5, 8, 0) := by decide +kernel
theorem s_105_1 {x0 x1 x2 x3 : Option Value} {o : Nat} : mw d 105 Q 1 [x0, x1, x2, x3] (.ref o :: st) h = (mg h o 5 ∧ mw d 105 Q 4 [x0, x1, x2, x3] (.int (mh_i h o 8) :: st) h) := (mw_at mj_105_1).trans (z_geti (by decide) (by decide) (Or.inl rfl))
theorem mj_105_4 : mc_P 105 4 = some (.iconst 1, 1, 0, 0, 0) := by decide +kernel
theorem s_105_4 {x0 x1 x2 x3 : Option Value} : mw d 105 Q 4 [x0, x1, x2, x3] (st) h = mw d 105 Q 5 [x0, x1, x2, x3] (.int 1 :: st) h := (mw_at mj_105_4).trans (z_iconst (by decide))
theorem mj_105_5 : mc_P 105 5 = some (.isub, 1, 0, 0, 0) := by decide +kernel
theorem s_105_5 {x0 x1 x2 x3 : Option Value} {x w : Int32} : mw d 105 Q 5 [x0, x1, x2, x3] (.int w :: .int x :: st) h = mw d 105 Q 6 [x0, x1, x2, x3] (.int (x - w) :: st) h := (mw_at mj_105_5).trans (z_isub)
theorem mj_105_6 : mc_P 105 6 = some (.istore_n 1, 1, 0, 0, 0) := by decide +kernel
theorem s_105_6 {x0 x1 x2 x3 : Option Value} {w : Int32} : mw d 105 Q 6 [x0, x1, x2, x3] (.int w :: st) h = mw d 105 Q 7 [mk2 x0, some (.int w), x2, x3] (st) h := (mw_at mj_105_6).trans (z_istore_n (Nat.le_of_ble_eq_true rfl) (me_s1_mk (j := 0) (w := x0) rfl))
theorem mj_105_7 : mc_P 105 7 = some (.aload_n 0, 1, 0, 0, 0) := by decide +kernel
theorem s_105_7 {x1 x2 x3 : Option Value} {w : Value} : mw d 105 Q 7 [some w, x1, x2, x3] (st) h = mv_a w (mw d 105 Q 8 [some w, x1, x2, x3] (w :: st) h) := (mw_at mj_105_7).trans (z_aload_n rfl)
theorem mj_105_8 : mc_P 105 8 = some (.getfield 15, 3, 5, 6, 0) := by decide +kernel
theorem s_105_8 {x0 x1 x2 x3 : Option Value} {o : Nat} : mw d 105 Q 8 [x0, x1, x2, x3] (.ref o :: st) h = (mg h o 5 ∧ mw d 105 Q 11 [x0, x1, x2, x3] (va_rf (mh_r h o 6) :: st) h) := (mw_at mj_105_8).trans (z_getr (by decide) (by decide) rfl)
theorem mj_105_11 : mc_P 105 11 = some (.iload_n 1, 1, 0, 0, 0) := by decide +kernel
theorem s_105_11 {x0 x2 x3 : Option Value} {w : Value} : mw d 105 Q 11 [x0, some w, x2, x3] (st) h = mv_i w (mw d 105 Q 12 [x0, some w, x2, x3] (w :: st) h) := (mw_at mj_105_11).trans (z_iload_n rfl)
theorem mj_105_12 : mc_P 105 12 = some (.laload, 1, 0, 0, 0) := by decide +kernel
theorem s_105_12 {x0 x1 x2 x3 : Option Value} {o : Nat} {i : Int32} : mw d 105 Q 12 [x0, x1, x2, x3] (.int i :: .ref o :: st) h = (mg h o 101 ∧ mx i (mh_l h o) ∧ mw d 105 Q 13 [x0, x1, x2, x3] (.long (mh_j h o i.toNatClampNeg) :: st) h) := (mw_at mj_105_12).trans (z_lald)
theorem mj_105_13 : mc_P 105 13 = some (.lneg, 1, 0, 0, 0) := by decide +kernel
theorem s_105_13 {x0 x1 x2 x3 : Option Value} {x : Int64} : mw d 105 Q 13 [x0, x1, x2, x3] (.long x :: st) h = mw d 105 Q 14 [x0, x1, x2, x3] (.long (-x) :: st) h := (mw_at mj_105_13).trans (z_lneg)
theorem mj_105_14 : mc_P 105 14 = some (.lstore_n 2, 1, 0, 0, 0) := by decide +kernel
theorem s_105_14 {x0 x1 x2 x3 : Option Value} {w : Int64} : mw d 105 Q 14 [x0, x1, x2, x3] (.long w :: st) h = mw d 105 Q 15 [x0, mk2 x1, some (.long w), none] (st) h := (mw_at mj_105_14).trans (z_lstore_n (Nat.le_of_ble_eq_true rfl) (me_s2_mk (j := 1) (w := x1) rfl))
theorem mj_105_15 : mc_P 105 15 = some (.aload_n 0, 1, 0, 0, 0) := by decide +kernel
theorem s_105_15 {x1 x2 x3 : Option Value} {w : Value} : mw d 105 Q 15 [some w, x1, x2, x3] (st) h = mv_a w (mw d 105 Q 16 [some w, x1, x2, x3] (w :: st) h) := (mw_at mj_105_15).trans (z_aload_n rfl)
theorem mj_105_16 : mc_P 105 16 = some (.getfield 15, 3, 5, 6, 0) := by decide +kernel
theorem s_105_16 {x0 x1 x2 x3 : Option Value} {o : Nat} : mw d 105 Q 16 [x0, x1, x2, x3] (.ref o :: st) h = (mg h o 5 ∧ mw d 105 Q 19 [x0, x1, x2, x3] (va_rf (mh_r h o 6) :: st) h) := (mw_at mj_105_16).trans (z_getr (by decide) (by decide) rfl)
theorem mj_105_19 : mc_P 105 19 = some (.iload_n 1, 1, 0, 0, 0) := by decide +kernel
theorem s_105_19 {x0 x2 x3 : Option Value} {w : Value} : mw d 105 Q 19 [x0, some w, x2, x3] (st) h = mv_i w (mw d 105 Q 20 [x0, some w, x2, x3] (w :: st) h) := (mw_at mj_105_19).trans (z_iload_n rfl)
theorem mj_105_20 : mc_P 105 20 = some (.aload_n 0, 1, 0, 0, 0) := by decide +kernel
theorem s_105_20 {x1 x2 x3 : Option Value} {w : Value} : mw d 105 Q 20 [some w, x1, x2, x3] (st) h = mv_a w (mw d 105 Q 21 [some w, x1, x2, x3] (w :: st) h) := (mw_at mj_105_20).trans (z_aload_n rfl)
theorem mj_105_21 : mc_P 105 21 = some (.getfield 9, 3, 5, 5, 0) := by decide +kernel
theorem s_105_21 {x0 x1 x2 x3 : Option Value} {o : Nat} : mw d 105 Q 21 [x0, x1, x2, x3] (.ref o :: st) h = (mg h o 5 ∧ mw d 105 Q 24 [x0, x1, x2, x3] (va_rf (mh_r h o 5) :: st) h) := (mw_at mj_105_21).trans (z_getr (by decide) (by decide) rfl)
theorem mj_105_24 : mc_P 105 24 = some (.iload_n 1, 1, 0, 0, 0) := by decide +kernel
theorem s_105_24 {x0 x2 x3 : Option Value} {w : Value} : mw d 105 Q 24 [x0, some w, x2, x3] (st) h = mv_i w (mw d 105 Q 25 [x0, some w, x2, x3] (w :: st) h) := (mw_at mj_105_24).trans (z_iload_n rfl)
theorem mj_105_25 : mc_P 105 25 = some (.laload, 1, 0, 0, 0) := by decide +kernel
theorem s_105_25 {x0 x1 x2 x3 : Option Value} {o : Nat} {i : Int32} : mw d 105 Q 25 [x0, x1, x2, x3] (.int i :: .ref o :: st) h = (mg h o 101 ∧ mx i (mh_l h o) ∧ mw d 105 Q 26 [x0, x1, x2, x3] (.long (mh_j h o i.toNatClampNeg) :: st) h) := (mw_at mj_105_25).trans (z_lald)
theorem mj_105_26 : mc_P 105 26 = some (.lneg, 1, 0, 0, 0) := by decide +kernel
theorem s_105_26 {x0 x1 x2 x3 : Option Value} {x : Int64} : mw d 105 Q 26 [x0, x1, x2, x3] (.long x :: st) h = mw d 105 Q 27 [x0, x1, x2, x3] (.long (-x) :: st) h := (mw_at mj_105_26).trans (z_lneg)
theorem mj_105_27 : mc_P 105 27 = some (.lastore, 1, 0, 0, 0) := by decide +kernel
theorem s_105_27 {x0 x1 x2 x3 : Option Value} {o : Nat} {i : Int32} {w : Int64} : mw d 105 Q 27 [x0, x1, x2, x3] (.long w :: .int i :: .ref o :: st) h = (mg h o 101 ∧ mx i (mh_l h o) ∧ mw d 105 Q 28 [x0, x1, x2, x3] (st) (mh_sj h o i.toNatClampNeg w)) := (mw_at mj_105_27).trans (z_last)
theorem mj_105_28 : mc_P 105 28 = some (.aload_n 0, 1, 0, 0, 0) := by decide +kernel
theorem s_105_28 {x1 x2 x3 : Option Value} {w : Value} : mw d 105 Q 28 [some w, x1, x2, x3] (st) h = mv_a w (mw d 105 Q 29 [some w, x1, x2, x3] (w :: st) h) := (mw_at mj_105_28).trans (z_aload_n rfl)
theorem mj_105_29 : mc_P 105 29 = some (.getfield 9, 3, 5, 5, 0) := by decide +kernel
theorem s_105_29 {x0 x1 x2 x3 : Option Value} {o : Nat} : mw d 105 Q 29 [x0, x1, x2, x3] (.ref o :: st) h = (mg h o 5 ∧ mw d 105 Q 32 [x0, x1, x2, x3] (va_rf (mh_r h o 5) :: st) h) := (mw_at mj_105_29).trans (z_getr (by decide) (by decide) rfl)
theorem mj_105_32 : mc_P 105 32 = some (.iload_n 1, 1, 0, 0, 0) := by decide +kernel
theorem s_105_32 {x0 x2 x3 : Option Value} {w : Value} : mw d 105 Q 32 [x0, some w, x2, x3] (st) h = mv_i w (mw d 105 Q 33 [x0, some w, x2, x3] (w :: st) h) := (mw_at mj_105_32).trans (z_iload_n rfl)
theorem mj_105_33 : mc_P 105 33 = some (.lload_n 2, 1, 0, 0, 0) := by decide +kernel
theorem s_105_33 {x0 x1 x3 : Option Value} {w : Value} : mw d 105 Q 33 [x0, x1, some w, x3] (st) h = mv_l w (mw d 105 Q 34 [x0, x1, some w, x3] (w :: st) h) := (mw_at mj_105_33).trans (z_lload_n rfl)
theorem mj_105_34 : mc_P 105 34 = some (.lastore, 1, 0, 0, 0) := by decide +kernel
theorem s_105_34 {x0 x1 x2 x3 : Option Value} {o : Nat} {i : Int32} {w : Int64} : mw d 105 Q 34 [x0, x1, x2, x3] (.long w :: .int i :: .ref o :: st) h = (mg h o 101 ∧ mx i (mh_l h o) ∧ mw d 105 Q 35 [x0, x1, x2, x3] (st) (mh_sj h o i.toNatClampNeg w)) := (mw_at mj_105_34).trans (z_last)
theorem mj_105_35 : mc_P 105 35 = some (.aload_n 0, 1, 0, 0, 0) := by decide +kernel
theorem s_105_35 {x1 x2 x3 : Option Value} {w : Value} : mw d 105 Q 35 [some w, x1, x2, x3] (st) h = mv_a w (mw d 105 Q 36 [some w, x1, x2, x3] (w :: st) h) := (mw_at mj_105_35).trans (z_aload_n rfl)
theorem mj_105_36 : mc_P 105 36 = some (.getfield 18, 3, 5, 7, 0) := by decide +kernel
theorem s_105_36 {x0 x1 x2 x3 : Option Value} {o : Nat} : mw d 105 Q 36 [x0, x1, x2, x3] (.ref o :: st) h = (mg h o 5 ∧ mw d 105 Q 39 [x0, x1, x2, x3] (va_rf (mh_r h o 7) :: st) h) := (mw_at mj_105_36).trans (z_getr (by decide) (by decide) rfl)
theorem mj_105_39 : mc_P 105 39 = some (.iload_n 1, 1, 0, 0, 0) := by decide +kernel
theorem s_105_39 {x0 x2 x3 : Option Value} {w : Value} : mw d 105 Q 39 [x0, some w, x2, x3] (st) h = mv_i w (mw d 105 Q 40 [x0, some w, x2, x3] (w :: st) h) := (mw_at mj_105_39).trans (z_iload_n rfl)
theorem mj_105_40 : mc_P 105 40 = some (.iconst (-1), 1, 0, 0, 0) := by decide +kernel
theorem s_105_40 {x0 x1 x2 x3 : Option Value} : mw d 105 Q 40 [x0, x1, x2, x3] (st) h = mw d 105 Q 41 [x0, x1, x2, x3] (.int (-1) :: st) h := (mw_at mj_105_40).trans (z_iconst (by decide))
theorem mj_105_41 : mc_P 105 41 = some (.iastore, 1, 0, 0, 0) := by decide +kernel
theorem s_105_41 {x0 x1 x2 x3 : Option Value} {o : Nat} {i w : Int32} : mw d 105 Q 41 [x0, x1, x2, x3] (.int w :: .int i :: .ref o :: st) h = (mg h o 100 ∧ mx i (mh_l h o) ∧ mw d 105 Q 42 [x0, x1, x2, x3] (st) (mh_si h o i.toNatClampNeg w)) := (mw_at mj_105_41).trans (z_iast)
theorem mj_105_42 : mc_P 105 42 = some (.return_, 1, 0, 0, 0) := by decide +kernel
theorem s_105_42 {x0 x1 x2 x3 : Option Value} : mw d 105 Q 42 [x0, x1, x2, x3] ([]) h = Q none h := (mw_at mj_105_42).trans (z_vret)
theorem e_105 {a0 : Nat} : mcall d 105 [.ref a0] h Q = mw d 105 Q 0 [some (.ref a0), none, none, none] [] h := by
  show mw d 105 Q 0 (me_en (mc_nl 105) _) [] h = _
  rw [nl_105]; rfl

/-! InvariantDesk$Ranges.add(I)V -/
theorem mj_106_0 : mc_P 106 0 = some (.aload_n 0, 1, 0, 0, 0) := by decide +kernel
theorem s_106_0 {x1 x2 x3 x4 : Option Value} {w : Value} : mw d 106 Q 0 [some w, x1, x2, x3, x4] (st) h = mv_a w (mw d 106 Q 1 [some w, x1, x2, x3, x4] (w :: st) h) := (mw_at mj_106_0).trans (z_aload_n rfl)
theorem mj_106_1 : mc_P 106 1 = some (.dup, 1, 0, 0, 0) := by decide +kernel
theorem s_106_1 {x0 x1 x2 x3 x4 : Option Value} {w : Value} : mw d 106 Q 1 [x0, x1, x2, x3, x4] (w :: st) h = (w.category = 1 ∧ mw d 106 Q 2 [x0, x1, x2, x3, x4] (w :: w :: st) h) := (mw_at mj_106_1).trans (z_dup)
theorem mj_106_2 : mc_P 106 2 = some (.getfield 61, 3, 5, 8, 0) := by decide +kernel
theorem s_106_2 {x0 x1 x2 x3 x4 : Option Value} {o : Nat} : mw d 106 Q 2 [x0, x1, x2, x3, x4] (.ref o :: st) h = (mg h o 5 ∧ mw d 106 Q 5 [x0, x1, x2, x3, x4] (.int (mh_i h o 8) :: st) h) := (mw_at mj_106_2).trans (z_geti (by decide) (by decide) (Or.inl rfl))
theorem mj_106_5 : mc_P 106 5 = some (.iconst 1, 1, 0, 0, 0) := by decide +kernel
theorem s_106_5 {x0 x1 x2 x3 x4 : Option Value} : mw d 106 Q 5 [x0, x1, x2, x3, x4] (st) h = mw d 106 Q 6 [x0, x1, x2, x3, x4] (.int 1 :: st) h := (mw_at mj_106_5).trans (z_iconst (by decide))
theorem mj_106_6 : mc_P 106 6 = some (.isub, 1, 0, 0, 0) := by decide +kernel
theorem s_106_6 {x0 x1 x2 x3 x4 : Option Value} {x w : Int32} : mw d 106 Q 6 [x0, x1, x2, x3, x4] (.int w :: .int x :: st) h = mw d 106 Q 7 [x0, x1, x2, x3, x4] (.int (x - w) :: st) h := (mw_at mj_106_6).trans (z_isub)
theorem mj_106_7 : mc_P 106 7 = some (.putfield 61, 3, 5, 8, 0) := by decide +kernel
theorem s_106_7 {x0 x1 x2 x3 x4 : Option Value} {o : Nat} {w : Int32} : mw d 106 Q 7 [x0, x1, x2, x3, x4] (.int w :: .ref o :: st) h = (mg h o 5 ∧ mw d 106 Q 10 [x0, x1, x2, x3, x4] (st) (mh_si h o 8 w)) := (mw_at mj_106_7).trans (z_puti (by decide) (by decide) rfl)
theorem mj_106_10 : mc_P 106 10 = some (.aload_n 0, 1, 0, 0, 0) := by decide +kernel
theorem s_106_10 {x1 x2 x3 x4 : Option Value} {w : Value} : mw d 106 Q 10 [some w, x1, x2, x3, x4] (st) h = mv_a w (mw d 106 Q 11 [some w, x1, x2, x3, x4] (w :: st) h) := (mw_at mj_106_10).trans (z_aload_n rfl)
theorem mj_106_11 : mc_P 106 11 = some (.getfield 61, 3, 5, 8, 0) := by decide +kernel
theorem s_106_11 {x0 x1 x2 x3 x4 : Option Value} {o : Nat} : mw d 106 Q 11 [x0, x1, x2, x3, x4] (.ref o :: st) h = (mg h o 5 ∧ mw d 106 Q 14 [x0, x1, x2, x3, x4] (.int (mh_i h o 8) :: st) h) := (mw_at mj_106_11).trans (z_geti (by decide) (by decide) (Or.inl rfl))
theorem mj_106_14 : mc_P 106 14 = some (.iconst 1, 1, 0, 0, 0) := by decide +kernel
theorem s_106_14 {x0 x1 x2 x3 x4 : Option Value} : mw d 106 Q 14 [x0, x1, x2, x3, x4] (st) h = mw d 106 Q 15 [x0, x1, x2, x3, x4] (.int 1 :: st) h := (mw_at mj_106_14).trans (z_iconst (by decide))
theorem mj_106_15 : mc_P 106 15 = some (.isub, 1, 0, 0, 0) := by decide +kernel
theorem s_106_15 {x0 x1 x2 x3 x4 : Option Value} {x w : Int32} : mw d 106 Q 15 [x0, x1, x2, x3, x4] (.int w :: .int x :: st) h = mw d 106 Q 16 [x0, x1, x2, x3, x4] (.int (x - w) :: st) h := (mw_at mj_106_15).trans (z_isub)
theorem mj_106_16 : mc_P 106 16 = some (.istore_n 2, 1, 0, 0, 0) := by decide +kernel
theorem s_106_16 {x0 x1 x2 x3 x4 : Option Value} {w : Int32} : mw d 106 Q 16 [x0, x1, x2, x3, x4] (.int w :: st) h = mw d 106 Q 17 [x0, mk2 x1, some (.int w), x3, x4] (st) h := (mw_at mj_106_16).trans (z_istore_n (Nat.le_of_ble_eq_true rfl) (me_s1_mk (j := 1) (w := x1) rfl))
theorem mj_106_17 : mc_P 106 17 = some (.aload_n 0, 1, 0, 0, 0) := by decide +kernel
theorem s_106_17 {x1 x2 x3 x4 : Option Value} {w : Value} : mw d 106 Q 17 [some w, x1, x2, x3, x4] (st) h = mv_a w (mw d 106 Q 18 [some w, x1, x2, x3, x4] (w :: st) h) := (mw_at mj_106_17).trans (z_aload_n rfl)
theorem mj_106_18 : mc_P 106 18 = some (.getfield 18, 3, 5, 7, 0) := by decide +kernel
theorem s_106_18 {x0 x1 x2 x3 x4 : Option Value} {o : Nat} : mw d 106 Q 18 [x0, x1, x2, x3, x4] (.ref o :: st) h = (mg h o 5 ∧ mw d 106 Q 21 [x0, x1, x2, x3, x4] (va_rf (mh_r h o 7) :: st) h) := (mw_at mj_106_18).trans (z_getr (by decide) (by decide) rfl)
theorem mj_106_21 : mc_P 106 21 = some (.iload_n 2, 1, 0, 0, 0) := by decide +kernel
theorem s_106_21 {x0 x1 x3 x4 : Option Value} {w : Value} : mw d 106 Q 21 [x0, x1, some w, x3, x4] (st) h = mv_i w (mw d 106 Q 22 [x0, x1, some w, x3, x4] (w :: st) h) := (mw_at mj_106_21).trans (z_iload_n rfl)
theorem mj_106_22 : mc_P 106 22 = some (.iaload, 1, 0, 0, 0) := by decide +kernel
theorem s_106_22 {x0 x1 x2 x3 x4 : Option Value} {o : Nat} {i : Int32} : mw d 106 Q 22 [x0, x1, x2, x3, x4] (.int i :: .ref o :: st) h = (mg h o 100 ∧ mx i (mh_l h o) ∧ mw d 106 Q 23 [x0, x1, x2, x3, x4] (.int (mh_i h o i.toNatClampNeg) :: st) h) := (mw_at mj_106_22).trans (z_iald)
theorem mj_106_23 : mc_P 106 23 = some (.iconst (-1), 1, 0, 0, 0) := by decide +kernel
theorem s_106_23 {x0 x1 x2 x3 x4 : Option Value} : mw d 106 Q 23 [x0, x1, x2, x3, x4] (st) h = mw d 106 Q 24 [x0, x1, x2, x3, x4] (.int (-1) :: st) h := (mw_at mj_106_23).trans (z_iconst (by decide))
theorem mj_106_24 : mc_P 106 24 = some (.if_icmp .eq 95, 3, 0, 0, 0) := by decide +kernel
theorem s_106_24 {x0 x1 x2 x3 x4 : Option Value} {x w : Int32} : mw d 106 Q 24 [x0, x1, x2, x3, x4] (.int w :: .int x :: st) h = mB (x = w) (mw d 106 Q) 119 27 [x0, x1, x2, x3, x4] st h := (mw_at mj_106_24).trans (z_icmp_eq (by decide) rfl)
theorem mj_106_27 : mc_P 106 27 = some (.aload_n 0, 1, 0, 0, 0) := by decide +kernel
theorem s_106_27 {x1 x2 x3 x4 : Option Value} {w : Value} : mw d 106 Q 27 [some w, x1, x2, x3, x4] (st) h = mv_a w (mw d 106 Q 28 [some w, x1, x2, x3, x4] (w :: st) h) := (mw_at mj_106_27).trans (z_aload_n rfl)
theorem mj_106_28 : mc_P 106 28 = some (.getfield 18, 3, 5, 7, 0) := by decide +kernel
theorem s_106_28 {x0 x1 x2 x3 x4 : Option Value} {o : Nat} : mw d 106 Q 28 [x0, x1, x2, x3, x4] (.ref o :: st) h = (mg h o 5 ∧ mw d 106 Q 31 [x0, x1, x2, x3, x4] (va_rf (mh_r h o 7) :: st) h) := (mw_at mj_106_28).trans (z_getr (by decide) (by decide) rfl)
theorem mj_106_31 : mc_P 106 31 = some (.iload_n 2, 1, 0, 0, 0) := by decide +kernel
theorem s_106_31 {x0 x1 x3 x4 : Option Value} {w : Value} : mw d 106 Q 31 [x0, x1, some w, x3, x4] (st) h = mv_i w (mw d 106 Q 32 [x0, x1, some w, x3, x4] (w :: st) h) := (mw_at mj_106_31).trans (z_iload_n rfl)
theorem mj_106_32 : mc_P 106 32 = some (.iconst 1, 1, 0, 0, 0) := by decide +kernel
theorem s_106_32 {x0 x1 x2 x3 x4 : Option Value} : mw d 106 Q 32 [x0, x1, x2, x3, x4] (st) h = mw d 106 Q 33 [x0, x1, x2, x3, x4] (.int 1 :: st) h := (mw_at mj_106_32).trans (z_iconst (by decide))
theorem mj_106_33 : mc_P 106 33 = some (.iadd, 1, 0, 0, 0) := by decide +kernel
theorem s_106_33 {x0 x1 x2 x3 x4 : Option Value} {x w : Int32} : mw d 106 Q 33 [x0, x1, x2, x3, x4] (.int w :: .int x :: st) h = mw d 106 Q 34 [x0, x1, x2, x3, x4] (.int (x + w) :: st) h := (mw_at mj_106_33).trans (z_iadd)
theorem mj_106_34 : mc_P 106 34 = some (.iaload, 1, 0, 0, 0) := by decide +kernel
theorem s_106_34 {x0 x1 x2 x3 x4 : Option Value} {o : Nat} {i : Int32} : mw d 106 Q 34 [x0, x1, x2, x3, x4] (.int i :: .ref o :: st) h = (mg h o 100 ∧ mx i (mh_l h o) ∧ mw d 106 Q 35 [x0, x1, x2, x3, x4] (.int (mh_i h o i.toNatClampNeg) :: st) h) := (mw_at mj_106_34).trans (z_iald)
theorem mj_106_35 : mc_P 106 35 = some (.iconst (-1), 1, 0, 0, 0) := by decide +kernel
theorem s_106_35 {x0 x1 x2 x3 x4 : Option Value} : mw d 106 Q 35 [x0, x1, x2, x3, x4] (st) h = mw d 106 Q 36 [x0, x1, x2, x3, x4] (.int (-1) :: st) h := (mw_at mj_106_35).trans (z_iconst (by decide))
theorem mj_106_36 : mc_P 106 36 = some (.if_icmp .eq 83, 3, 0, 0, 0) := by decide +kernel
theorem s_106_36 {x0 x1 x2 x3 x4 : Option Value} {x w : Int32} : mw d 106 Q 36 [x0, x1, x2, x3, x4] (.int w :: .int x :: st) h = mB (x = w) (mw d 106 Q) 119 39 [x0, x1, x2, x3, x4] st h := (mw_at mj_106_36).trans (z_icmp_eq (by decide) rfl)
theorem mj_106_39 : mc_P 106 39 = some (.aload_n 0, 1, 0, 0, 0) := by decide +kernel
theorem s_106_39 {x1 x2 x3 x4 : Option Value} {w : Value} : mw d 106 Q 39 [some w, x1, x2, x3, x4] (st) h = mv_a w (mw d 106 Q 40 [some w, x1, x2, x3, x4] (w :: st) h) := (mw_at mj_106_39).trans (z_aload_n rfl)
theorem mj_106_40 : mc_P 106 40 = some (.getfield 18, 3, 5, 7, 0) := by decide +kernel
theorem s_106_40 {x0 x1 x2 x3 x4 : Option Value} {o : Nat} : mw d 106 Q 40 [x0, x1, x2, x3, x4] (.ref o :: st) h = (mg h o 5 ∧ mw d 106 Q 43 [x0, x1, x2, x3, x4] (va_rf (mh_r h o 7) :: st) h) := (mw_at mj_106_40).trans (z_getr (by decide) (by decide) rfl)
theorem mj_106_43 : mc_P 106 43 = some (.iload_n 2, 1, 0, 0, 0) := by decide +kernel
theorem s_106_43 {x0 x1 x3 x4 : Option Value} {w : Value} : mw d 106 Q 43 [x0, x1, some w, x3, x4] (st) h = mv_i w (mw d 106 Q 44 [x0, x1, some w, x3, x4] (w :: st) h) := (mw_at mj_106_43).trans (z_iload_n rfl)
theorem mj_106_44 : mc_P 106 44 = some (.iaload, 1, 0, 0, 0) := by decide +kernel
theorem s_106_44 {x0 x1 x2 x3 x4 : Option Value} {o : Nat} {i : Int32} : mw d 106 Q 44 [x0, x1, x2, x3, x4] (.int i :: .ref o :: st) h = (mg h o 100 ∧ mx i (mh_l h o) ∧ mw d 106 Q 45 [x0, x1, x2, x3, x4] (.int (mh_i h o i.toNatClampNeg) :: st) h) := (mw_at mj_106_44).trans (z_iald)
theorem mj_106_45 : mc_P 106 45 = some (.aload_n 0, 1, 0, 0, 0) := by decide +kernel
theorem s_106_45 {x1 x2 x3 x4 : Option Value} {w : Value} : mw d 106 Q 45 [some w, x1, x2, x3, x4] (st) h = mv_a w (mw d 106 Q 46 [some w, x1, x2, x3, x4] (w :: st) h) := (mw_at mj_106_45).trans (z_aload_n rfl)
theorem mj_106_46 : mc_P 106 46 = some (.getfield 18, 3, 5, 7, 0) := by decide +kernel
theorem s_106_46 {x0 x1 x2 x3 x4 : Option Value} {o : Nat} : mw d 106 Q 46 [x0, x1, x2, x3, x4] (.ref o :: st) h = (mg h o 5 ∧ mw d 106 Q 49 [x0, x1, x2, x3, x4] (va_rf (mh_r h o 7) :: st) h) := (mw_at mj_106_46).trans (z_getr (by decide) (by decide) rfl)
theorem mj_106_49 : mc_P 106 49 = some (.iload_n 2, 1, 0, 0, 0) := by decide +kernel
theorem s_106_49 {x0 x1 x3 x4 : Option Value} {w : Value} : mw d 106 Q 49 [x0, x1, some w, x3, x4] (st) h = mv_i w (mw d 106 Q 50 [x0, x1, some w, x3, x4] (w :: st) h) := (mw_at mj_106_49).trans (z_iload_n rfl)
theorem mj_106_50 : mc_P 106 50 = some (.iconst 1, 1, 0, 0, 0) := by decide +kernel
theorem s_106_50 {x0 x1 x2 x3 x4 : Option Value} : mw d 106 Q 50 [x0, x1, x2, x3, x4] (st) h = mw d 106 Q 51 [x0, x1, x2, x3, x4] (.int 1 :: st) h := (mw_at mj_106_50).trans (z_iconst (by decide))
theorem mj_106_51 : mc_P 106 51 = some (.iadd, 1, 0, 0, 0) := by decide +kernel
theorem s_106_51 {x0 x1 x2 x3 x4 : Option Value} {x w : Int32} : mw d 106 Q 51 [x0, x1, x2, x3, x4] (.int w :: .int x :: st) h = mw d 106 Q 52 [x0, x1, x2, x3, x4] (.int (x + w) :: st) h := (mw_at mj_106_51).trans (z_iadd)
theorem mj_106_52 : mc_P 106 52 = some (.iaload, 1, 0, 0, 0) := by decide +kernel
theorem s_106_52 {x0 x1 x2 x3 x4 : Option Value} {o : Nat} {i : Int32} : mw d 106 Q 52 [x0, x1, x2, x3, x4] (.int i :: .ref o :: st) h = (mg h o 100 ∧ mx i (mh_l h o) ∧ mw d 106 Q 53 [x0, x1, x2, x3, x4] (.int (mh_i h o i.toNatClampNeg) :: st) h) := (mw_at mj_106_52).trans (z_iald)
theorem mj_106_53 : mc_P 106 53 = some (.if_icmp .eq 66, 3, 0, 0, 0) := by decide +kernel
theorem s_106_53 {x0 x1 x2 x3 x4 : Option Value} {x w : Int32} : mw d 106 Q 53 [x0, x1, x2, x3, x4] (.int w :: .int x :: st) h = mB (x = w) (mw d 106 Q) 119 56 [x0, x1, x2, x3, x4] st h := (mw_at mj_106_53).trans (z_icmp_eq (by decide) rfl)
theorem mj_106_56 : mc_P 106 56 = some (.iconst 2, 1, 0, 0, 0) := by decide +kernel
theorem s_106_56 {x0 x1 x2 x3 x4 : Option Value} : mw d 106 Q 56 [x0, x1, x2, x3, x4] (st) h = mw d 106 Q 57 [x0, x1, x2, x3, x4] (.int 2 :: st) h := (mw_at mj_106_56).trans (z_iconst (by decide))
theorem mj_106_57 : mc_P 106 57 = some (.aload_n 0, 1, 0, 0, 0) := by decide +kernel
theorem s_106_57 {x1 x2 x3 x4 : Option Value} {w : Value} : mw d 106 Q 57 [some w, x1, x2, x3, x4] (st) h = mv_a w (mw d 106 Q 58 [some w, x1, x2, x3, x4] (w :: st) h) := (mw_at mj_106_57).trans (z_aload_n rfl)
theorem mj_106_58 : mc_P 106 58 = some (.getfield 18, 3, 5, 7, 0) := by decide +kernel
theorem s_106_58 {x0 x1 x2 x3 x4 : Option Value} {o : Nat} : mw d 106 Q 58 [x0, x1, x2, x3, x4] (.ref o :: st) h = (mg h o 5 ∧ mw d 106 Q 61 [x0, x1, x2, x3, x4] (va_rf (mh_r h o 7) :: st) h) := (mw_at mj_106_58).trans (z_getr (by decide) (by decide) rfl)
theorem mj_106_61 : mc_P 106 61 = some (.iload_n 2, 1, 0, 0, 0) := by decide +kernel
theorem s_106_61 {x0 x1 x3 x4 : Option Value} {w : Value} : mw d 106 Q 61 [x0, x1, some w, x3, x4] (st) h = mv_i w (mw d 106 Q 62 [x0, x1, some w, x3, x4] (w :: st) h) := (mw_at mj_106_61).trans (z_iload_n rfl)
theorem mj_106_62 : mc_P 106 62 = some (.iaload, 1, 0, 0, 0) := by decide +kernel
theorem s_106_62 {x0 x1 x2 x3 x4 : Option Value} {o : Nat} {i : Int32} : mw d 106 Q 62 [x0, x1, x2, x3, x4] (.int i :: .ref o :: st) h = (mg h o 100 ∧ mx i (mh_l h o) ∧ mw d 106 Q 63 [x0, x1, x2, x3, x4] (.int (mh_i h o i.toNatClampNeg) :: st) h) := (mw_at mj_106_62).trans (z_iald)
theorem mj_106_63 : mc_P 106 63 = some (.imul, 1, 0, 0, 0) := by decide +kernel
theorem s_106_63 {x0 x1 x2 x3 x4 : Option Value} {x w : Int32} : mw d 106 Q 63 [x0, x1, x2, x3, x4] (.int w :: .int x :: st) h = mw d 106 Q 64 [x0, x1, x2, x3, x4] (.int (x * w) :: st) h := (mw_at mj_106_63).trans (z_imul)
theorem mj_106_64 : mc_P 106 64 = some (.istore_n 3, 1, 0, 0, 0) := by decide +kernel
theorem s_106_64 {x0 x1 x2 x3 x4 : Option Value} {w : Int32} : mw d 106 Q 64 [x0, x1, x2, x3, x4] (.int w :: st) h = mw d 106 Q 65 [x0, x1, mk2 x2, some (.int w), x4] (st) h := (mw_at mj_106_64).trans (z_istore_n (Nat.le_of_ble_eq_true rfl) (me_s1_mk (j := 2) (w := x2) rfl))
theorem mj_106_65 : mc_P 106 65 = some (.iconst 2, 1, 0, 0, 0) := by decide +kernel
theorem s_106_65 {x0 x1 x2 x3 x4 : Option Value} : mw d 106 Q 65 [x0, x1, x2, x3, x4] (st) h = mw d 106 Q 66 [x0, x1, x2, x3, x4] (.int 2 :: st) h := (mw_at mj_106_65).trans (z_iconst (by decide))
theorem mj_106_66 : mc_P 106 66 = some (.aload_n 0, 1, 0, 0, 0) := by decide +kernel
theorem s_106_66 {x1 x2 x3 x4 : Option Value} {w : Value} : mw d 106 Q 66 [some w, x1, x2, x3, x4] (st) h = mv_a w (mw d 106 Q 67 [some w, x1, x2, x3, x4] (w :: st) h) := (mw_at mj_106_66).trans (z_aload_n rfl)
theorem mj_106_67 : mc_P 106 67 = some (.getfield 18, 3, 5, 7, 0) := by decide +kernel
theorem s_106_67 {x0 x1 x2 x3 x4 : Option Value} {o : Nat} : mw d 106 Q 67 [x0, x1, x2, x3, x4] (.ref o :: st) h = (mg h o 5 ∧ mw d 106 Q 70 [x0, x1, x2, x3, x4] (va_rf (mh_r h o 7) :: st) h) := (mw_at mj_106_67).trans (z_getr (by decide) (by decide) rfl)
theorem mj_106_70 : mc_P 106 70 = some (.iload_n 2, 1, 0, 0, 0) := by decide +kernel
theorem s_106_70 {x0 x1 x3 x4 : Option Value} {w : Value} : mw d 106 Q 70 [x0, x1, some w, x3, x4] (st) h = mv_i w (mw d 106 Q 71 [x0, x1, some w, x3, x4] (w :: st) h) := (mw_at mj_106_70).trans (z_iload_n rfl)
theorem mj_106_71 : mc_P 106 71 = some (.iconst 1, 1, 0, 0, 0) := by decide +kernel
theorem s_106_71 {x0 x1 x2 x3 x4 : Option Value} : mw d 106 Q 71 [x0, x1, x2, x3, x4] (st) h = mw d 106 Q 72 [x0, x1, x2, x3, x4] (.int 1 :: st) h := (mw_at mj_106_71).trans (z_iconst (by decide))
theorem mj_106_72 : mc_P 106 72 = some (.iadd, 1, 0, 0, 0) := by decide +kernel
theorem s_106_72 {x0 x1 x2 x3 x4 : Option Value} {x w : Int32} : mw d 106 Q 72 [x0, x1, x2, x3, x4] (.int w :: .int x :: st) h = mw d 106 Q 73 [x0, x1, x2, x3, x4] (.int (x + w) :: st) h := (mw_at mj_106_72).trans (z_iadd)
theorem mj_106_73 : mc_P 106 73 = some (.iaload, 1, 0, 0, 0) := by decide +kernel
theorem s_106_73 {x0 x1 x2 x3 x4 : Option Value} {o : Nat} {i : Int32} : mw d 106 Q 73 [x0, x1, x2, x3, x4] (.int i :: .ref o :: st) h = (mg h o 100 ∧ mx i (mh_l h o) ∧ mw d 106 Q 74 [x0, x1, x2, x3, x4] (.int (mh_i h o i.toNatClampNeg) :: st) h) := (mw_at mj_106_73).trans (z_iald)
theorem mj_106_74 : mc_P 106 74 = some (.imul, 1, 0, 0, 0) := by decide +kernel
theorem s_106_74 {x0 x1 x2 x3 x4 : Option Value} {x w : Int32} : mw d 106 Q 74 [x0, x1, x2, x3, x4] (.int w :: .int x :: st) h = mw d 106 Q 75 [x0, x1, x2, x3, x4] (.int (x * w) :: st) h := (mw_at mj_106_74).trans (z_imul)
theorem mj_106_75 : mc_P 106 75 = some (.iload_n 1, 1, 0, 0, 0) := by decide +kernel
theorem s_106_75 {x0 x2 x3 x4 : Option Value} {w : Value} : mw d 106 Q 75 [x0, some w, x2, x3, x4] (st) h = mv_i w (mw d 106 Q 76 [x0, some w, x2, x3, x4] (w :: st) h) := (mw_at mj_106_75).trans (z_iload_n rfl)
theorem mj_106_76 : mc_P 106 76 = some (.iadd, 1, 0, 0, 0) := by decide +kernel
theorem s_106_76 {x0 x1 x2 x3 x4 : Option Value} {x w : Int32} : mw d 106 Q 76 [x0, x1, x2, x3, x4] (.int w :: .int x :: st) h = mw d 106 Q 77 [x0, x1, x2, x3, x4] (.int (x + w) :: st) h := (mw_at mj_106_76).trans (z_iadd)
theorem mj_106_77 : mc_P 106 77 = some (.istore 4, 2, 0, 0, 0) := by decide +kernel
theorem s_106_77 {x0 x1 x2 x3 x4 : Option Value} {w : Int32} : mw d 106 Q 77 [x0, x1, x2, x3, x4] (.int w :: st) h = mw d 106 Q 79 [x0, x1, x2, mk2 x3, some (.int w)] (st) h := (mw_at mj_106_77).trans (z_istore (Nat.le_of_ble_eq_true rfl) (me_s1_mk (j := 3) (w := x3) rfl))
theorem mj_106_79 : mc_P 106 79 = some (.aload_n 0, 1, 0, 0, 0) := by decide +kernel
theorem s_106_79 {x1 x2 x3 x4 : Option Value} {w : Value} : mw d 106 Q 79 [some w, x1, x2, x3, x4] (st) h = mv_a w (mw d 106 Q 80 [some w, x1, x2, x3, x4] (w :: st) h) := (mw_at mj_106_79).trans (z_aload_n rfl)
theorem mj_106_80 : mc_P 106 80 = some (.getfield 9, 3, 5, 5, 0) := by decide +kernel
theorem s_106_80 {x0 x1 x2 x3 x4 : Option Value} {o : Nat} : mw d 106 Q 80 [x0, x1, x2, x3, x4] (.ref o :: st) h = (mg h o 5 ∧ mw d 106 Q 83 [x0, x1, x2, x3, x4] (va_rf (mh_r h o 5) :: st) h) := (mw_at mj_106_80).trans (z_getr (by decide) (by decide) rfl)
theorem mj_106_83 : mc_P 106 83 = some (.iload_n 2, 1, 0, 0, 0) := by decide +kernel
theorem s_106_83 {x0 x1 x3 x4 : Option Value} {w : Value} : mw d 106 Q 83 [x0, x1, some w, x3, x4] (st) h = mv_i w (mw d 106 Q 84 [x0, x1, some w, x3, x4] (w :: st) h) := (mw_at mj_106_83).trans (z_iload_n rfl)
theorem mj_106_84 : mc_P 106 84 = some (.aload_n 0, 1, 0, 0, 0) := by decide +kernel
theorem s_106_84 {x1 x2 x3 x4 : Option Value} {w : Value} : mw d 106 Q 84 [some w, x1, x2, x3, x4] (st) h = mv_a w (mw d 106 Q 85 [some w, x1, x2, x3, x4] (w :: st) h) := (mw_at mj_106_84).trans (z_aload_n rfl)
theorem mj_106_85 : mc_P 106 85 = some (.getfield 49, 3, 5, 1, 0) := by decide +kernel
theorem s_106_85 {x0 x1 x2 x3 x4 : Option Value} {o : Nat} : mw d 106 Q 85 [x0, x1, x2, x3, x4] (.ref o :: st) h = (mg h o 5 ∧ mw d 106 Q 88 [x0, x1, x2, x3, x4] (va_rf (mh_r h o 1) :: st) h) := (mw_at mj_106_85).trans (z_getr (by decide) (by decide) rfl)
theorem mj_106_88 : mc_P 106 88 = some (.iload_n 3, 1, 0, 0, 0) := by decide +kernel
theorem s_106_88 {x0 x1 x2 x4 : Option Value} {w : Value} : mw d 106 Q 88 [x0, x1, x2, some w, x4] (st) h = mv_i w (mw d 106 Q 89 [x0, x1, x2, some w, x4] (w :: st) h) := (mw_at mj_106_88).trans (z_iload_n rfl)
theorem mj_106_89 : mc_P 106 89 = some (.iconst 1, 1, 0, 0, 0) := by decide +kernel
theorem s_106_89 {x0 x1 x2 x3 x4 : Option Value} : mw d 106 Q 89 [x0, x1, x2, x3, x4] (st) h = mw d 106 Q 90 [x0, x1, x2, x3, x4] (.int 1 :: st) h := (mw_at mj_106_89).trans (z_iconst (by decide))
theorem mj_106_90 : mc_P 106 90 = some (.ixor, 1, 0, 0, 0) := by decide +kernel
theorem s_106_90 {x0 x1 x2 x3 x4 : Option Value} {x w : Int32} : mw d 106 Q 90 [x0, x1, x2, x3, x4] (.int w :: .int x :: st) h = mw d 106 Q 91 [x0, x1, x2, x3, x4] (.int (x ^^^ w) :: st) h := (mw_at mj_106_90).trans (z_ixor)
theorem mj_106_91 : mc_P 106 91 = some (.iload 4, 2, 0, 0, 0) := by decide +kernel
theorem s_106_91 {x0 x1 x2 x3 : Option Value} {w : Value} : mw d 106 Q 91 [x0, x1, x2, x3, some w] (st) h = mv_i w (mw d 106 Q 93 [x0, x1, x2, x3, some w] (w :: st) h) := (mw_at mj_106_91).trans (z_iload rfl)
theorem mj_106_93 : mc_P 106 93 = some (.iconst 1, 1, 0, 0, 0) := by decide +kernel
theorem s_106_93 {x0 x1 x2 x3 x4 : Option Value} : mw d 106 Q 93 [x0, x1, x2, x3, x4] (st) h = mw d 106 Q 94 [x0, x1, x2, x3, x4] (.int 1 :: st) h := (mw_at mj_106_93).trans (z_iconst (by decide))
theorem mj_106_94 : mc_P 106 94 = some (.ixor, 1, 0, 0, 0) := by decide +kernel
theorem s_106_94 {x0 x1 x2 x3 x4 : Option Value} {x w : Int32} : mw d 106 Q 94 [x0, x1, x2, x3, x4] (.int w :: .int x :: st) h = mw d 106 Q 95 [x0, x1, x2, x3, x4] (.int (x ^^^ w) :: st) h := (mw_at mj_106_94).trans (z_ixor)
theorem mj_106_95 : mc_P 106 95 = some (.invokevirtual 104, 3, 146, 8, 3) := by decide +kernel
theorem s_106_95 {x0 x1 x2 x3 x4 : Option Value} {o : Nat} {a1 a2 : Value} : mw (d + 1) 106 Q 95 [x0, x1, x2, x3, x4] (a2 :: a1 :: .ref o :: st) h = (mg h o 8 ∧ mca st 8 ∧ mca [.ref o, a1, a2] 5 ∧ mcall d 146 [.ref o, a1, a2] h (mK (d + 1) 106 Q 98 [x0, x1, x2, x3, x4] st)) := (mw_at mj_106_95).trans ((z_invv (As := [a1, a2]) (by decide) rfl rfl).trans (congrArg (And _) (congrArg (And _) (mC_nl nl_146))))
theorem mj_106_98 : mc_P 106 98 = some (.lneg, 1, 0, 0, 0) := by decide +kernel
theorem s_106_98 {x0 x1 x2 x3 x4 : Option Value} {x : Int64} : mw d 106 Q 98 [x0, x1, x2, x3, x4] (.long x :: st) h = mw d 106 Q 99 [x0, x1, x2, x3, x4] (.long (-x) :: st) h := (mw_at mj_106_98).trans (z_lneg)
theorem mj_106_99 : mc_P 106 99 = some (.lastore, 1, 0, 0, 0) := by decide +kernel
theorem s_106_99 {x0 x1 x2 x3 x4 : Option Value} {o : Nat} {i : Int32} {w : Int64} : mw d 106 Q 99 [x0, x1, x2, x3, x4] (.long w :: .int i :: .ref o :: st) h = (mg h o 101 ∧ mx i (mh_l h o) ∧ mw d 106 Q 100 [x0, x1, x2, x3, x4] (st) (mh_sj h o i.toNatClampNeg w)) := (mw_at mj_106_99).trans (z_last)
theorem mj_106_100 : mc_P 106 100 = some (.aload_n 0, 1, 0, 0, 0) := by decide +kernel
theorem s_106_100 {x1 x2 x3 x4 : Option Value} {w : Value} : mw d 106 Q 100 [some w, x1, x2, x3, x4] (st) h = mv_a w (mw d 106 Q 101 [some w, x1, x2, x3, x4] (w :: st) h) := (mw_at mj_106_100).trans (z_aload_n rfl)
theorem mj_106_101 : mc_P 106 101 = some (.getfield 15, 3, 5, 6, 0) := by decide +kernel
theorem s_106_101 {x0 x1 x2 x3 x4 : Option Value} {o : Nat} : mw d 106 Q 101 [x0, x1, x2, x3, x4] (.ref o :: st) h = (mg h o 5 ∧ mw d 106 Q 104 [x0, x1, x2, x3, x4] (va_rf (mh_r h o 6) :: st) h) := (mw_at mj_106_101).trans (z_getr (by decide) (by decide) rfl)
theorem mj_106_104 : mc_P 106 104 = some (.iload_n 2, 1, 0, 0, 0) := by decide +kernel
theorem s_106_104 {x0 x1 x3 x4 : Option Value} {w : Value} : mw d 106 Q 104 [x0, x1, some w, x3, x4] (st) h = mv_i w (mw d 106 Q 105 [x0, x1, some w, x3, x4] (w :: st) h) := (mw_at mj_106_104).trans (z_iload_n rfl)
theorem mj_106_105 : mc_P 106 105 = some (.aload_n 0, 1, 0, 0, 0) := by decide +kernel
theorem s_106_105 {x1 x2 x3 x4 : Option Value} {w : Value} : mw d 106 Q 105 [some w, x1, x2, x3, x4] (st) h = mv_a w (mw d 106 Q 106 [some w, x1, x2, x3, x4] (w :: st) h) := (mw_at mj_106_105).trans (z_aload_n rfl)
theorem mj_106_106 : mc_P 106 106 = some (.getfield 49, 3, 5, 1, 0) := by decide +kernel
theorem s_106_106 {x0 x1 x2 x3 x4 : Option Value} {o : Nat} : mw d 106 Q 106 [x0, x1, x2, x3, x4] (.ref o :: st) h = (mg h o 5 ∧ mw d 106 Q 109 [x0, x1, x2, x3, x4] (va_rf (mh_r h o 1) :: st) h) := (mw_at mj_106_106).trans (z_getr (by decide) (by decide) rfl)
theorem mj_106_109 : mc_P 106 109 = some (.iload_n 3, 1, 0, 0, 0) := by decide +kernel
theorem s_106_109 {x0 x1 x2 x4 : Option Value} {w : Value} : mw d 106 Q 109 [x0, x1, x2, some w, x4] (st) h = mv_i w (mw d 106 Q 110 [x0, x1, x2, some w, x4] (w :: st) h) := (mw_at mj_106_109).trans (z_iload_n rfl)
theorem mj_106_110 : mc_P 106 110 = some (.iload 4, 2, 0, 0, 0) := by decide +kernel
theorem s_106_110 {x0 x1 x2 x3 : Option Value} {w : Value} : mw d 106 Q 110 [x0, x1, x2, x3, some w] (st) h = mv_i w (mw d 106 Q 112 [x0, x1, x2, x3, some w] (w :: st) h) := (mw_at mj_106_110).trans (z_iload rfl)
theorem mj_106_112 : mc_P 106 112 = some (.invokevirtual 104, 3, 146, 8, 3) := by decide +kernel
theorem s_106_112 {x0 x1 x2 x3 x4 : Option Value} {o : Nat} {a1 a2 : Value} : mw (d + 1) 106 Q 112 [x0, x1, x2, x3, x4] (a2 :: a1 :: .ref o :: st) h = (mg h o 8 ∧ mca st 8 ∧ mca [.ref o, a1, a2] 5 ∧ mcall d 146 [.ref o, a1, a2] h (mK (d + 1) 106 Q 115 [x0, x1, x2, x3, x4] st)) := (mw_at mj_106_112).trans ((z_invv (As := [a1, a2]) (by decide) rfl rfl).trans (congrArg (And _) (congrArg (And _) (mC_nl nl_146))))
theorem mj_106_115 : mc_P 106 115 = some (.lastore, 1, 0, 0, 0) := by decide +kernel
theorem s_106_115 {x0 x1 x2 x3 x4 : Option Value} {o : Nat} {i : Int32} {w : Int64} : mw d 106 Q 115 [x0, x1, x2, x3, x4] (.long w :: .int i :: .ref o :: st) h = (mg h o 101 ∧ mx i (mh_l h o) ∧ mw d 106 Q 116 [x0, x1, x2, x3, x4] (st) (mh_sj h o i.toNatClampNeg w)) := (mw_at mj_106_115).trans (z_last)
theorem mj_106_116 : mc_P 106 116 = some (.goto 122, 3, 0, 0, 0) := by decide +kernel
theorem s_106_116 {x0 x1 x2 x3 x4 : Option Value} : mw d 106 Q 116 [x0, x1, x2, x3, x4] (st) h = mw d 106 Q 238 [x0, x1, x2, x3, x4] (st) h := (mw_at mj_106_116).trans (z_goto (by decide))
theorem mj_106_119 : mc_P 106 119 = some (.iload_n 1, 1, 0, 0, 0) := by decide +kernel
theorem s_106_119 {x0 x2 x3 x4 : Option Value} {w : Value} : mw d 106 Q 119 [x0, some w, x2, x3, x4] (st) h = mv_i w (mw d 106 Q 120 [x0, some w, x2, x3, x4] (w :: st) h) := (mw_at mj_106_119).trans (z_iload_n rfl)
theorem mj_106_120 : mc_P 106 120 = some (.ifCond .ne 40, 3, 0, 0, 0) := by decide +kernel
theorem s_106_120 {x0 x1 x2 x3 x4 : Option Value} {x : Int32} : mw d 106 Q 120 [x0, x1, x2, x3, x4] (.int x :: st) h = mB (¬ x = 0) (mw d 106 Q) 160 123 [x0, x1, x2, x3, x4] st h := (mw_at mj_106_120).trans (z_if_ne (by decide) rfl)
theorem mj_106_123 : mc_P 106 123 = some (.aload_n 0, 1, 0, 0, 0) := by decide +kernel
theorem s_106_123 {x1 x2 x3 x4 : Option Value} {w : Value} : mw d 106 Q 123 [some w, x1, x2, x3, x4] (st) h = mv_a w (mw d 106 Q 124 [some w, x1, x2, x3, x4] (w :: st) h) := (mw_at mj_106_123).trans (z_aload_n rfl)
theorem mj_106_124 : mc_P 106 124 = some (.getfield 9, 3, 5, 5, 0) := by decide +kernel
theorem s_106_124 {x0 x1 x2 x3 x4 : Option Value} {o : Nat} : mw d 106 Q 124 [x0, x1, x2, x3, x4] (.ref o :: st) h = (mg h o 5 ∧ mw d 106 Q 127 [x0, x1, x2, x3, x4] (va_rf (mh_r h o 5) :: st) h) := (mw_at mj_106_124).trans (z_getr (by decide) (by decide) rfl)
theorem mj_106_127 : mc_P 106 127 = some (.iload_n 2, 1, 0, 0, 0) := by decide +kernel
theorem s_106_127 {x0 x1 x3 x4 : Option Value} {w : Value} : mw d 106 Q 127 [x0, x1, some w, x3, x4] (st) h = mv_i w (mw d 106 Q 128 [x0, x1, some w, x3, x4] (w :: st) h) := (mw_at mj_106_127).trans (z_iload_n rfl)
theorem mj_106_128 : mc_P 106 128 = some (.dup2, 1, 0, 0, 0) := by decide +kernel
theorem s_106_128 {x0 x1 x2 x3 x4 : Option Value} {x : Int32} {w : Value} : mw d 106 Q 128 [x0, x1, x2, x3, x4] (.int x :: w :: st) h = (w.category = 1 ∧ mw d 106 Q 129 [x0, x1, x2, x3, x4] (.int x :: w :: .int x :: w :: st) h) := (mw_at mj_106_128).trans (z_dup2)
theorem s_106_128l {x0 x1 x2 x3 x4 : Option Value} {x : Int64} {w : Value} : mw d 106 Q 128 [x0, x1, x2, x3, x4] (.long x :: w :: st) h = mw d 106 Q 129 [x0, x1, x2, x3, x4] (.long x :: .long x :: w :: st) h := (mw_at mj_106_128).trans (z_dup2l)
theorem mj_106_129 : mc_P 106 129 = some (.laload, 1, 0, 0, 0) := by decide +kernel
theorem s_106_129 {x0 x1 x2 x3 x4 : Option Value} {o : Nat} {i : Int32} : mw d 106 Q 129 [x0, x1, x2, x3, x4] (.int i :: .ref o :: st) h = (mg h o 101 ∧ mx i (mh_l h o) ∧ mw d 106 Q 130 [x0, x1, x2, x3, x4] (.long (mh_j h o i.toNatClampNeg) :: st) h) := (mw_at mj_106_129).trans (z_lald)
theorem mj_106_130 : mc_P 106 130 = some (.aload_n 0, 1, 0, 0, 0) := by decide +kernel
theorem s_106_130 {x1 x2 x3 x4 : Option Value} {w : Value} : mw d 106 Q 130 [some w, x1, x2, x3, x4] (st) h = mv_a w (mw d 106 Q 131 [some w, x1, x2, x3, x4] (w :: st) h) := (mw_at mj_106_130).trans (z_aload_n rfl)
theorem mj_106_131 : mc_P 106 131 = some (.getfield 9, 3, 5, 5, 0) := by decide +kernel
theorem s_106_131 {x0 x1 x2 x3 x4 : Option Value} {o : Nat} : mw d 106 Q 131 [x0, x1, x2, x3, x4] (.ref o :: st) h = (mg h o 5 ∧ mw d 106 Q 134 [x0, x1, x2, x3, x4] (va_rf (mh_r h o 5) :: st) h) := (mw_at mj_106_131).trans (z_getr (by decide) (by decide) rfl)
theorem mj_106_134 : mc_P 106 134 = some (.iload_n 2, 1, 0, 0, 0) := by decide +kernel
theorem s_106_134 {x0 x1 x3 x4 : Option Value} {w : Value} : mw d 106 Q 134 [x0, x1, some w, x3, x4] (st) h = mv_i w (mw d 106 Q 135 [x0, x1, some w, x3, x4] (w :: st) h) := (mw_at mj_106_134).trans (z_iload_n rfl)
theorem mj_106_135 : mc_P 106 135 = some (.iconst 1, 1, 0, 0, 0) := by decide +kernel
theorem s_106_135 {x0 x1 x2 x3 x4 : Option Value} : mw d 106 Q 135 [x0, x1, x2, x3, x4] (st) h = mw d 106 Q 136 [x0, x1, x2, x3, x4] (.int 1 :: st) h := (mw_at mj_106_135).trans (z_iconst (by decide))
theorem mj_106_136 : mc_P 106 136 = some (.iadd, 1, 0, 0, 0) := by decide +kernel
theorem s_106_136 {x0 x1 x2 x3 x4 : Option Value} {x w : Int32} : mw d 106 Q 136 [x0, x1, x2, x3, x4] (.int w :: .int x :: st) h = mw d 106 Q 137 [x0, x1, x2, x3, x4] (.int (x + w) :: st) h := (mw_at mj_106_136).trans (z_iadd)
theorem mj_106_137 : mc_P 106 137 = some (.laload, 1, 0, 0, 0) := by decide +kernel
theorem s_106_137 {x0 x1 x2 x3 x4 : Option Value} {o : Nat} {i : Int32} : mw d 106 Q 137 [x0, x1, x2, x3, x4] (.int i :: .ref o :: st) h = (mg h o 101 ∧ mx i (mh_l h o) ∧ mw d 106 Q 138 [x0, x1, x2, x3, x4] (.long (mh_j h o i.toNatClampNeg) :: st) h) := (mw_at mj_106_137).trans (z_lald)
theorem mj_106_138 : mc_P 106 138 = some (.ladd, 1, 0, 0, 0) := by decide +kernel
theorem s_106_138 {x0 x1 x2 x3 x4 : Option Value} {x w : Int64} : mw d 106 Q 138 [x0, x1, x2, x3, x4] (.long w :: .long x :: st) h = mw d 106 Q 139 [x0, x1, x2, x3, x4] (.long (x + w) :: st) h := (mw_at mj_106_138).trans (z_ladd)
theorem mj_106_139 : mc_P 106 139 = some (.lastore, 1, 0, 0, 0) := by decide +kernel
theorem s_106_139 {x0 x1 x2 x3 x4 : Option Value} {o : Nat} {i : Int32} {w : Int64} : mw d 106 Q 139 [x0, x1, x2, x3, x4] (.long w :: .int i :: .ref o :: st) h = (mg h o 101 ∧ mx i (mh_l h o) ∧ mw d 106 Q 140 [x0, x1, x2, x3, x4] (st) (mh_sj h o i.toNatClampNeg w)) := (mw_at mj_106_139).trans (z_last)
theorem mj_106_140 : mc_P 106 140 = some (.aload_n 0, 1, 0, 0, 0) := by decide +kernel
theorem s_106_140 {x1 x2 x3 x4 : Option Value} {w : Value} : mw d 106 Q 140 [some w, x1, x2, x3, x4] (st) h = mv_a w (mw d 106 Q 141 [some w, x1, x2, x3, x4] (w :: st) h) := (mw_at mj_106_140).trans (z_aload_n rfl)
theorem mj_106_141 : mc_P 106 141 = some (.getfield 15, 3, 5, 6, 0) := by decide +kernel
theorem s_106_141 {x0 x1 x2 x3 x4 : Option Value} {o : Nat} : mw d 106 Q 141 [x0, x1, x2, x3, x4] (.ref o :: st) h = (mg h o 5 ∧ mw d 106 Q 144 [x0, x1, x2, x3, x4] (va_rf (mh_r h o 6) :: st) h) := (mw_at mj_106_141).trans (z_getr (by decide) (by decide) rfl)
theorem mj_106_144 : mc_P 106 144 = some (.iload_n 2, 1, 0, 0, 0) := by decide +kernel
theorem s_106_144 {x0 x1 x3 x4 : Option Value} {w : Value} : mw d 106 Q 144 [x0, x1, some w, x3, x4] (st) h = mv_i w (mw d 106 Q 145 [x0, x1, some w, x3, x4] (w :: st) h) := (mw_at mj_106_144).trans (z_iload_n rfl)
theorem mj_106_145 : mc_P 106 145 = some (.dup2, 1, 0, 0, 0) := by decide +kernel
theorem s_106_145 {x0 x1 x2 x3 x4 : Option Value} {x : Int32} {w : Value} : mw d 106 Q 145 [x0, x1, x2, x3, x4] (.int x :: w :: st) h = (w.category = 1 ∧ mw d 106 Q 146 [x0, x1, x2, x3, x4] (.int x :: w :: .int x :: w :: st) h) := (mw_at mj_106_145).trans (z_dup2)
theorem s_106_145l {x0 x1 x2 x3 x4 : Option Value} {x : Int64} {w : Value} : mw d 106 Q 145 [x0, x1, x2, x3, x4] (.long x :: w :: st) h = mw d 106 Q 146 [x0, x1, x2, x3, x4] (.long x :: .long x :: w :: st) h := (mw_at mj_106_145).trans (z_dup2l)
theorem mj_106_146 : mc_P 106 146 = some (.laload, 1, 0, 0, 0) := by decide +kernel
theorem s_106_146 {x0 x1 x2 x3 x4 : Option Value} {o : Nat} {i : Int32} : mw d 106 Q 146 [x0, x1, x2, x3, x4] (.int i :: .ref o :: st) h = (mg h o 101 ∧ mx i (mh_l h o) ∧ mw d 106 Q 147 [x0, x1, x2, x3, x4] (.long (mh_j h o i.toNatClampNeg) :: st) h) := (mw_at mj_106_146).trans (z_lald)
theorem mj_106_147 : mc_P 106 147 = some (.aload_n 0, 1, 0, 0, 0) := by decide +kernel
theorem s_106_147 {x1 x2 x3 x4 : Option Value} {w : Value} : mw d 106 Q 147 [some w, x1, x2, x3, x4] (st) h = mv_a w (mw d 106 Q 148 [some w, x1, x2, x3, x4] (w :: st) h) := (mw_at mj_106_147).trans (z_aload_n rfl)
theorem mj_106_148 : mc_P 106 148 = some (.getfield 15, 3, 5, 6, 0) := by decide +kernel
theorem s_106_148 {x0 x1 x2 x3 x4 : Option Value} {o : Nat} : mw d 106 Q 148 [x0, x1, x2, x3, x4] (.ref o :: st) h = (mg h o 5 ∧ mw d 106 Q 151 [x0, x1, x2, x3, x4] (va_rf (mh_r h o 6) :: st) h) := (mw_at mj_106_148).trans (z_getr (by decide) (by decide) rfl)
theorem mj_106_151 : mc_P 106 151 = some (.iload_n 2, 1, 0, 0, 0) := by decide +kernel
theorem s_106_151 {x0 x1 x3 x4 : Option Value} {w : Value} : mw d 106 Q 151 [x0, x1, some w, x3, x4] (st) h = mv_i w (mw d 106 Q 152 [x0, x1, some w, x3, x4] (w :: st) h) := (mw_at mj_106_151).trans (z_iload_n rfl)
theorem mj_106_152 : mc_P 106 152 = some (.iconst 1, 1, 0, 0, 0) := by decide +kernel
theorem s_106_152 {x0 x1 x2 x3 x4 : Option Value} : mw d 106 Q 152 [x0, x1, x2, x3, x4] (st) h = mw d 106 Q 153 [x0, x1, x2, x3, x4] (.int 1 :: st) h := (mw_at mj_106_152).trans (z_iconst (by decide))
theorem mj_106_153 : mc_P 106 153 = some (.iadd, 1, 0, 0, 0) := by decide +kernel
theorem s_106_153 {x0 x1 x2 x3 x4 : Option Value} {x w : Int32} : mw d 106 Q 153 [x0, x1, x2, x3, x4] (.int w :: .int x :: st) h = mw d 106 Q 154 [x0, x1, x2, x3, x4] (.int (x + w) :: st) h := (mw_at mj_106_153).trans (z_iadd)
theorem mj_106_154 : mc_P 106 154 = some (.laload, 1, 0, 0, 0) := by decide +kernel
theorem s_106_154 {x0 x1 x2 x3 x4 : Option Value} {o : Nat} {i : Int32} : mw d 106 Q 154 [x0, x1, x2, x3, x4] (.int i :: .ref o :: st) h = (mg h o 101 ∧ mx i (mh_l h o) ∧ mw d 106 Q 155 [x0, x1, x2, x3, x4] (.long (mh_j h o i.toNatClampNeg) :: st) h) := (mw_at mj_106_154).trans (z_lald)
theorem mj_106_155 : mc_P 106 155 = some (.ladd, 1, 0, 0, 0) := by decide +kernel
theorem s_106_155 {x0 x1 x2 x3 x4 : Option Value} {x w : Int64} : mw d 106 Q 155 [x0, x1, x2, x3, x4] (.long w :: .long x :: st) h = mw d 106 Q 156 [x0, x1, x2, x3, x4] (.long (x + w) :: st) h := (mw_at mj_106_155).trans (z_ladd)
theorem mj_106_156 : mc_P 106 156 = some (.lastore, 1, 0, 0, 0) := by decide +kernel
theorem s_106_156 {x0 x1 x2 x3 x4 : Option Value} {o : Nat} {i : Int32} {w : Int64} : mw d 106 Q 156 [x0, x1, x2, x3, x4] (.long w :: .int i :: .ref o :: st) h = (mg h o 101 ∧ mx i (mh_l h o) ∧ mw d 106 Q 157 [x0, x1, x2, x3, x4] (st) (mh_sj h o i.toNatClampNeg w)) := (mw_at mj_106_156).trans (z_last)
theorem mj_106_157 : mc_P 106 157 = some (.goto 81, 3, 0, 0, 0) := by decide +kernel
theorem s_106_157 {x0 x1 x2 x3 x4 : Option Value} : mw d 106 Q 157 [x0, x1, x2, x3, x4] (st) h = mw d 106 Q 238 [x0, x1, x2, x3, x4] (st) h := (mw_at mj_106_157).trans (z_goto (by decide))
theorem mj_106_160 : mc_P 106 160 = some (.aload_n 0, 1, 0, 0, 0) := by decide +kernel
theorem s_106_160 {x1 x2 x3 x4 : Option Value} {w : Value} : mw d 106 Q 160 [some w, x1, x2, x3, x4] (st) h = mv_a w (mw d 106 Q 161 [some w, x1, x2, x3, x4] (w :: st) h) := (mw_at mj_106_160).trans (z_aload_n rfl)
theorem mj_106_161 : mc_P 106 161 = some (.getfield 18, 3, 5, 7, 0) := by decide +kernel
theorem s_106_161 {x0 x1 x2 x3 x4 : Option Value} {o : Nat} : mw d 106 Q 161 [x0, x1, x2, x3, x4] (.ref o :: st) h = (mg h o 5 ∧ mw d 106 Q 164 [x0, x1, x2, x3, x4] (va_rf (mh_r h o 7) :: st) h) := (mw_at mj_106_161).trans (z_getr (by decide) (by decide) rfl)
theorem mj_106_164 : mc_P 106 164 = some (.iload_n 2, 1, 0, 0, 0) := by decide +kernel
theorem s_106_164 {x0 x1 x3 x4 : Option Value} {w : Value} : mw d 106 Q 164 [x0, x1, some w, x3, x4] (st) h = mv_i w (mw d 106 Q 165 [x0, x1, some w, x3, x4] (w :: st) h) := (mw_at mj_106_164).trans (z_iload_n rfl)
theorem mj_106_165 : mc_P 106 165 = some (.iaload, 1, 0, 0, 0) := by decide +kernel
theorem s_106_165 {x0 x1 x2 x3 x4 : Option Value} {o : Nat} {i : Int32} : mw d 106 Q 165 [x0, x1, x2, x3, x4] (.int i :: .ref o :: st) h = (mg h o 100 ∧ mx i (mh_l h o) ∧ mw d 106 Q 166 [x0, x1, x2, x3, x4] (.int (mh_i h o i.toNatClampNeg) :: st) h) := (mw_at mj_106_165).trans (z_iald)
theorem mj_106_166 : mc_P 106 166 = some (.iconst (-1), 1, 0, 0, 0) := by decide +kernel
theorem s_106_166 {x0 x1 x2 x3 x4 : Option Value} : mw d 106 Q 166 [x0, x1, x2, x3, x4] (st) h = mw d 106 Q 167 [x0, x1, x2, x3, x4] (.int (-1) :: st) h := (mw_at mj_106_166).trans (z_iconst (by decide))
theorem mj_106_167 : mc_P 106 167 = some (.if_icmp .eq 37, 3, 0, 0, 0) := by decide +kernel
theorem s_106_167 {x0 x1 x2 x3 x4 : Option Value} {x w : Int32} : mw d 106 Q 167 [x0, x1, x2, x3, x4] (.int w :: .int x :: st) h = mB (x = w) (mw d 106 Q) 204 170 [x0, x1, x2, x3, x4] st h := (mw_at mj_106_167).trans (z_icmp_eq (by decide) rfl)
theorem mj_106_170 : mc_P 106 170 = some (.aload_n 0, 1, 0, 0, 0) := by decide +kernel
theorem s_106_170 {x1 x2 x3 x4 : Option Value} {w : Value} : mw d 106 Q 170 [some w, x1, x2, x3, x4] (st) h = mv_a w (mw d 106 Q 171 [some w, x1, x2, x3, x4] (w :: st) h) := (mw_at mj_106_170).trans (z_aload_n rfl)
theorem mj_106_171 : mc_P 106 171 = some (.getfield 18, 3, 5, 7, 0) := by decide +kernel
theorem s_106_171 {x0 x1 x2 x3 x4 : Option Value} {o : Nat} : mw d 106 Q 171 [x0, x1, x2, x3, x4] (.ref o :: st) h = (mg h o 5 ∧ mw d 106 Q 174 [x0, x1, x2, x3, x4] (va_rf (mh_r h o 7) :: st) h) := (mw_at mj_106_171).trans (z_getr (by decide) (by decide) rfl)
theorem mj_106_174 : mc_P 106 174 = some (.iload_n 2, 1, 0, 0, 0) := by decide +kernel
theorem s_106_174 {x0 x1 x3 x4 : Option Value} {w : Value} : mw d 106 Q 174 [x0, x1, some w, x3, x4] (st) h = mv_i w (mw d 106 Q 175 [x0, x1, some w, x3, x4] (w :: st) h) := (mw_at mj_106_174).trans (z_iload_n rfl)
theorem mj_106_175 : mc_P 106 175 = some (.iaload, 1, 0, 0, 0) := by decide +kernel
theorem s_106_175 {x0 x1 x2 x3 x4 : Option Value} {o : Nat} {i : Int32} : mw d 106 Q 175 [x0, x1, x2, x3, x4] (.int i :: .ref o :: st) h = (mg h o 100 ∧ mx i (mh_l h o) ∧ mw d 106 Q 176 [x0, x1, x2, x3, x4] (.int (mh_i h o i.toNatClampNeg) :: st) h) := (mw_at mj_106_175).trans (z_iald)
theorem mj_106_176 : mc_P 106 176 = some (.aload_n 0, 1, 0, 0, 0) := by decide +kernel
theorem s_106_176 {x1 x2 x3 x4 : Option Value} {w : Value} : mw d 106 Q 176 [some w, x1, x2, x3, x4] (st) h = mv_a w (mw d 106 Q 177 [some w, x1, x2, x3, x4] (w :: st) h) := (mw_at mj_106_176).trans (z_aload_n rfl)
theorem mj_106_177 : mc_P 106 177 = some (.getfield 18, 3, 5, 7, 0) := by decide +kernel
theorem s_106_177 {x0 x1 x2 x3 x4 : Option Value} {o : Nat} : mw d 106 Q 177 [x0, x1, x2, x3, x4] (.ref o :: st) h = (mg h o 5 ∧ mw d 106 Q 180 [x0, x1, x2, x3, x4] (va_rf (mh_r h o 7) :: st) h) := (mw_at mj_106_177).trans (z_getr (by decide) (by decide) rfl)
theorem mj_106_180 : mc_P 106 180 = some (.iload_n 2, 1, 0, 0, 0) := by decide +kernel
theorem s_106_180 {x0 x1 x3 x4 : Option Value} {w : Value} : mw d 106 Q 180 [x0, x1, some w, x3, x4] (st) h = mv_i w (mw d 106 Q 181 [x0, x1, some w, x3, x4] (w :: st) h) := (mw_at mj_106_180).trans (z_iload_n rfl)
theorem mj_106_181 : mc_P 106 181 = some (.iconst 1, 1, 0, 0, 0) := by decide +kernel
theorem s_106_181 {x0 x1 x2 x3 x4 : Option Value} : mw d 106 Q 181 [x0, x1, x2, x3, x4] (st) h = mw d 106 Q 182 [x0, x1, x2, x3, x4] (.int 1 :: st) h := (mw_at mj_106_181).trans (z_iconst (by decide))
theorem mj_106_182 : mc_P 106 182 = some (.iadd, 1, 0, 0, 0) := by decide +kernel
theorem s_106_182 {x0 x1 x2 x3 x4 : Option Value} {x w : Int32} : mw d 106 Q 182 [x0, x1, x2, x3, x4] (.int w :: .int x :: st) h = mw d 106 Q 183 [x0, x1, x2, x3, x4] (.int (x + w) :: st) h := (mw_at mj_106_182).trans (z_iadd)
theorem mj_106_183 : mc_P 106 183 = some (.iaload, 1, 0, 0, 0) := by decide +kernel
theorem s_106_183 {x0 x1 x2 x3 x4 : Option Value} {o : Nat} {i : Int32} : mw d 106 Q 183 [x0, x1, x2, x3, x4] (.int i :: .ref o :: st) h = (mg h o 100 ∧ mx i (mh_l h o) ∧ mw d 106 Q 184 [x0, x1, x2, x3, x4] (.int (mh_i h o i.toNatClampNeg) :: st) h) := (mw_at mj_106_183).trans (z_iald)
theorem mj_106_184 : mc_P 106 184 = some (.if_icmp .ne 20, 3, 0, 0, 0) := by decide +kernel
theorem s_106_184 {x0 x1 x2 x3 x4 : Option Value} {x w : Int32} : mw d 106 Q 184 [x0, x1, x2, x3, x4] (.int w :: .int x :: st) h = mB (¬ x = w) (mw d 106 Q) 204 187 [x0, x1, x2, x3, x4] st h := (mw_at mj_106_184).trans (z_icmp_ne (by decide) rfl)
theorem mj_106_187 : mc_P 106 187 = some (.aload_n 0, 1, 0, 0, 0) := by decide +kernel
theorem s_106_187 {x1 x2 x3 x4 : Option Value} {w : Value} : mw d 106 Q 187 [some w, x1, x2, x3, x4] (st) h = mv_a w (mw d 106 Q 188 [some w, x1, x2, x3, x4] (w :: st) h) := (mw_at mj_106_187).trans (z_aload_n rfl)
theorem mj_106_188 : mc_P 106 188 = some (.getfield 9, 3, 5, 5, 0) := by decide +kernel
theorem s_106_188 {x0 x1 x2 x3 x4 : Option Value} {o : Nat} : mw d 106 Q 188 [x0, x1, x2, x3, x4] (.ref o :: st) h = (mg h o 5 ∧ mw d 106 Q 191 [x0, x1, x2, x3, x4] (va_rf (mh_r h o 5) :: st) h) := (mw_at mj_106_188).trans (z_getr (by decide) (by decide) rfl)
theorem mj_106_191 : mc_P 106 191 = some (.iload_n 2, 1, 0, 0, 0) := by decide +kernel
theorem s_106_191 {x0 x1 x3 x4 : Option Value} {w : Value} : mw d 106 Q 191 [x0, x1, some w, x3, x4] (st) h = mv_i w (mw d 106 Q 192 [x0, x1, some w, x3, x4] (w :: st) h) := (mw_at mj_106_191).trans (z_iload_n rfl)
theorem mj_106_192 : mc_P 106 192 = some (.lconst 0, 1, 0, 0, 0) := by decide +kernel
theorem s_106_192 {x0 x1 x2 x3 x4 : Option Value} : mw d 106 Q 192 [x0, x1, x2, x3, x4] (st) h = mw d 106 Q 193 [x0, x1, x2, x3, x4] (.long 0 :: st) h := (mw_at mj_106_192).trans (z_lconst (by decide))
theorem mj_106_193 : mc_P 106 193 = some (.lastore, 1, 0, 0, 0) := by decide +kernel
theorem s_106_193 {x0 x1 x2 x3 x4 : Option Value} {o : Nat} {i : Int32} {w : Int64} : mw d 106 Q 193 [x0, x1, x2, x3, x4] (.long w :: .int i :: .ref o :: st) h = (mg h o 101 ∧ mx i (mh_l h o) ∧ mw d 106 Q 194 [x0, x1, x2, x3, x4] (st) (mh_sj h o i.toNatClampNeg w)) := (mw_at mj_106_193).trans (z_last)
theorem mj_106_194 : mc_P 106 194 = some (.aload_n 0, 1, 0, 0, 0) := by decide +kernel
theorem s_106_194 {x1 x2 x3 x4 : Option Value} {w : Value} : mw d 106 Q 194 [some w, x1, x2, x3, x4] (st) h = mv_a w (mw d 106 Q 195 [some w, x1, x2, x3, x4] (w :: st) h) := (mw_at mj_106_194).trans (z_aload_n rfl)
theorem mj_106_195 : mc_P 106 195 = some (.getfield 15, 3, 5, 6, 0) := by decide +kernel
theorem s_106_195 {x0 x1 x2 x3 x4 : Option Value} {o : Nat} : mw d 106 Q 195 [x0, x1, x2, x3, x4] (.ref o :: st) h = (mg h o 5 ∧ mw d 106 Q 198 [x0, x1, x2, x3, x4] (va_rf (mh_r h o 6) :: st) h) := (mw_at mj_106_195).trans (z_getr (by decide) (by decide) rfl)
theorem mj_106_198 : mc_P 106 198 = some (.iload_n 2, 1, 0, 0, 0) := by decide +kernel
theorem s_106_198 {x0 x1 x3 x4 : Option Value} {w : Value} : mw d 106 Q 198 [x0, x1, some w, x3, x4] (st) h = mv_i w (mw d 106 Q 199 [x0, x1, some w, x3, x4] (w :: st) h) := (mw_at mj_106_198).trans (z_iload_n rfl)
theorem mj_106_199 : mc_P 106 199 = some (.lconst 0, 1, 0, 0, 0) := by decide +kernel
theorem s_106_199 {x0 x1 x2 x3 x4 : Option Value} : mw d 106 Q 199 [x0, x1, x2, x3, x4] (st) h = mw d 106 Q 200 [x0, x1, x2, x3, x4] (.long 0 :: st) h := (mw_at mj_106_199).trans (z_lconst (by decide))
theorem mj_106_200 : mc_P 106 200 = some (.lastore, 1, 0, 0, 0) := by decide +kernel
theorem s_106_200 {x0 x1 x2 x3 x4 : Option Value} {o : Nat} {i : Int32} {w : Int64} : mw d 106 Q 200 [x0, x1, x2, x3, x4] (.long w :: .int i :: .ref o :: st) h = (mg h o 101 ∧ mx i (mh_l h o) ∧ mw d 106 Q 201 [x0, x1, x2, x3, x4] (st) (mh_sj h o i.toNatClampNeg w)) := (mw_at mj_106_200).trans (z_last)
theorem mj_106_201 : mc_P 106 201 = some (.goto 37, 3, 0, 0, 0) := by decide +kernel
theorem s_106_201 {x0 x1 x2 x3 x4 : Option Value} : mw d 106 Q 201 [x0, x1, x2, x3, x4] (st) h = mw d 106 Q 238 [x0, x1, x2, x3, x4] (st) h := (mw_at mj_106_201).trans (z_goto (by decide))
theorem mj_106_204 : mc_P 106 204 = some (.aload_n 0, 1, 0, 0, 0) := by decide +kernel
theorem s_106_204 {x1 x2 x3 x4 : Option Value} {w : Value} : mw d 106 Q 204 [some w, x1, x2, x3, x4] (st) h = mv_a w (mw d 106 Q 205 [some w, x1, x2, x3, x4] (w :: st) h) := (mw_at mj_106_204).trans (z_aload_n rfl)
theorem mj_106_205 : mc_P 106 205 = some (.getfield 9, 3, 5, 5, 0) := by decide +kernel
theorem s_106_205 {x0 x1 x2 x3 x4 : Option Value} {o : Nat} : mw d 106 Q 205 [x0, x1, x2, x3, x4] (.ref o :: st) h = (mg h o 5 ∧ mw d 106 Q 208 [x0, x1, x2, x3, x4] (va_rf (mh_r h o 5) :: st) h) := (mw_at mj_106_205).trans (z_getr (by decide) (by decide) rfl)
theorem mj_106_208 : mc_P 106 208 = some (.iload_n 2, 1, 0, 0, 0) := by decide +kernel
theorem s_106_208 {x0 x1 x3 x4 : Option Value} {w : Value} : mw d 106 Q 208 [x0, x1, some w, x3, x4] (st) h = mv_i w (mw d 106 Q 209 [x0, x1, some w, x3, x4] (w :: st) h) := (mw_at mj_106_208).trans (z_iload_n rfl)
theorem mj_106_209 : mc_P 106 209 = some (.dup2, 1, 0, 0, 0) := by decide +kernel
theorem s_106_209 {x0 x1 x2 x3 x4 : Option Value} {x : Int32} {w : Value} : mw d 106 Q 209 [x0, x1, x2, x3, x4] (.int x :: w :: st) h = (w.category = 1 ∧ mw d 106 Q 210 [x0, x1, x2, x3, x4] (.int x :: w :: .int x :: w :: st) h) := (mw_at mj_106_209).trans (z_dup2)
theorem s_106_209l {x0 x1 x2 x3 x4 : Option Value} {x : Int64} {w : Value} : mw d 106 Q 209 [x0, x1, x2, x3, x4] (.long x :: w :: st) h = mw d 106 Q 210 [x0, x1, x2, x3, x4] (.long x :: .long x :: w :: st) h := (mw_at mj_106_209).trans (z_dup2l)
theorem mj_106_210 : mc_P 106 210 = some (.laload, 1, 0, 0, 0) := by decide +kernel
theorem s_106_210 {x0 x1 x2 x3 x4 : Option Value} {o : Nat} {i : Int32} : mw d 106 Q 210 [x0, x1, x2, x3, x4] (.int i :: .ref o :: st) h = (mg h o 101 ∧ mx i (mh_l h o) ∧ mw d 106 Q 211 [x0, x1, x2, x3, x4] (.long (mh_j h o i.toNatClampNeg) :: st) h) := (mw_at mj_106_210).trans (z_lald)
theorem mj_106_211 : mc_P 106 211 = some (.aload_n 0, 1, 0, 0, 0) := by decide +kernel
theorem s_106_211 {x1 x2 x3 x4 : Option Value} {w : Value} : mw d 106 Q 211 [some w, x1, x2, x3, x4] (st) h = mv_a w (mw d 106 Q 212 [some w, x1, x2, x3, x4] (w :: st) h) := (mw_at mj_106_211).trans (z_aload_n rfl)
theorem mj_106_212 : mc_P 106 212 = some (.getfield 15, 3, 5, 6, 0) := by decide +kernel
theorem s_106_212 {x0 x1 x2 x3 x4 : Option Value} {o : Nat} : mw d 106 Q 212 [x0, x1, x2, x3, x4] (.ref o :: st) h = (mg h o 5 ∧ mw d 106 Q 215 [x0, x1, x2, x3, x4] (va_rf (mh_r h o 6) :: st) h) := (mw_at mj_106_212).trans (z_getr (by decide) (by decide) rfl)
theorem mj_106_215 : mc_P 106 215 = some (.iload_n 2, 1, 0, 0, 0) := by decide +kernel
theorem s_106_215 {x0 x1 x3 x4 : Option Value} {w : Value} : mw d 106 Q 215 [x0, x1, some w, x3, x4] (st) h = mv_i w (mw d 106 Q 216 [x0, x1, some w, x3, x4] (w :: st) h) := (mw_at mj_106_215).trans (z_iload_n rfl)
theorem mj_106_216 : mc_P 106 216 = some (.iconst 1, 1, 0, 0, 0) := by decide +kernel
theorem s_106_216 {x0 x1 x2 x3 x4 : Option Value} : mw d 106 Q 216 [x0, x1, x2, x3, x4] (st) h = mw d 106 Q 217 [x0, x1, x2, x3, x4] (.int 1 :: st) h := (mw_at mj_106_216).trans (z_iconst (by decide))
theorem mj_106_217 : mc_P 106 217 = some (.iadd, 1, 0, 0, 0) := by decide +kernel
theorem s_106_217 {x0 x1 x2 x3 x4 : Option Value} {x w : Int32} : mw d 106 Q 217 [x0, x1, x2, x3, x4] (.int w :: .int x :: st) h = mw d 106 Q 218 [x0, x1, x2, x3, x4] (.int (x + w) :: st) h := (mw_at mj_106_217).trans (z_iadd)
theorem mj_106_218 : mc_P 106 218 = some (.laload, 1, 0, 0, 0) := by decide +kernel
theorem s_106_218 {x0 x1 x2 x3 x4 : Option Value} {o : Nat} {i : Int32} : mw d 106 Q 218 [x0, x1, x2, x3, x4] (.int i :: .ref o :: st) h = (mg h o 101 ∧ mx i (mh_l h o) ∧ mw d 106 Q 219 [x0, x1, x2, x3, x4] (.long (mh_j h o i.toNatClampNeg) :: st) h) := (mw_at mj_106_218).trans (z_lald)
theorem mj_106_219 : mc_P 106 219 = some (.lsub, 1, 0, 0, 0) := by decide +kernel
theorem s_106_219 {x0 x1 x2 x3 x4 : Option Value} {x w : Int64} : mw d 106 Q 219 [x0, x1, x2, x3, x4] (.long w :: .long x :: st) h = mw d 106 Q 220 [x0, x1, x2, x3, x4] (.long (x - w) :: st) h := (mw_at mj_106_219).trans (z_lsub)
theorem mj_106_220 : mc_P 106 220 = some (.lastore, 1, 0, 0, 0) := by decide +kernel
theorem s_106_220 {x0 x1 x2 x3 x4 : Option Value} {o : Nat} {i : Int32} {w : Int64} : mw d 106 Q 220 [x0, x1, x2, x3, x4] (.long w :: .int i :: .ref o :: st) h = (mg h o 101 ∧ mx i (mh_l h o) ∧ mw d 106 Q 221 [x0, x1, x2, x3, x4] (st) (mh_sj h o i.toNatClampNeg w)) := (mw_at mj_106_220).trans (z_last)
theorem mj_106_221 : mc_P 106 221 = some (.aload_n 0, 1, 0, 0, 0) := by decide +kernel
theorem s_106_221 {x1 x2 x3 x4 : Option Value} {w : Value} : mw d 106 Q 221 [some w, x1, x2, x3, x4] (st) h = mv_a w (mw d 106 Q 222 [some w, x1, x2, x3, x4] (w :: st) h) := (mw_at mj_106_221).trans (z_aload_n rfl)
theorem mj_106_222 : mc_P 106 222 = some (.getfield 15, 3, 5, 6, 0) := by decide +kernel
theorem s_106_222 {x0 x1 x2 x3 x4 : Option Value} {o : Nat} : mw d 106 Q 222 [x0, x1, x2, x3, x4] (.ref o :: st) h = (mg h o 5 ∧ mw d 106 Q 225 [x0, x1, x2, x3, x4] (va_rf (mh_r h o 6) :: st) h) := (mw_at mj_106_222).trans (z_getr (by decide) (by decide) rfl)
theorem mj_106_225 : mc_P 106 225 = some (.iload_n 2, 1, 0, 0, 0) := by decide +kernel
theorem s_106_225 {x0 x1 x3 x4 : Option Value} {w : Value} : mw d 106 Q 225 [x0, x1, some w, x3, x4] (st) h = mv_i w (mw d 106 Q 226 [x0, x1, some w, x3, x4] (w :: st) h) := (mw_at mj_106_225).trans (z_iload_n rfl)
theorem mj_106_226 : mc_P 106 226 = some (.dup2, 1, 0, 0, 0) := by decide +kernel
theorem s_106_226 {x0 x1 x2 x3 x4 : Option Value} {x : Int32} {w : Value} : mw d 106 Q 226 [x0, x1, x2, x3, x4] (.int x :: w :: st) h = (w.category = 1 ∧ mw d 106 Q 227 [x0, x1, x2, x3, x4] (.int x :: w :: .int x :: w :: st) h) := (mw_at mj_106_226).trans (z_dup2)
theorem s_106_226l {x0 x1 x2 x3 x4 : Option Value} {x : Int64} {w : Value} : mw d 106 Q 226 [x0, x1, x2, x3, x4] (.long x :: w :: st) h = mw d 106 Q 227 [x0, x1, x2, x3, x4] (.long x :: .long x :: w :: st) h := (mw_at mj_106_226).trans (z_dup2l)
theorem mj_106_227 : mc_P 106 227 = some (.laload, 1, 0, 0, 0) := by decide +kernel
theorem s_106_227 {x0 x1 x2 x3 x4 : Option Value} {o : Nat} {i : Int32} : mw d 106 Q 227 [x0, x1, x2, x3, x4] (.int i :: .ref o :: st) h = (mg h o 101 ∧ mx i (mh_l h o) ∧ mw d 106 Q 228 [x0, x1, x2, x3, x4] (.long (mh_j h o i.toNatClampNeg) :: st) h) := (mw_at mj_106_227).trans (z_lald)
theorem mj_106_228 : mc_P 106 228 = some (.aload_n 0, 1, 0, 0, 0) := by decide +kernel
theorem s_106_228 {x1 x2 x3 x4 : Option Value} {w : Value} : mw d 106 Q 228 [some w, x1, x2, x3, x4] (st) h = mv_a w (mw d 106 Q 229 [some w, x1, x2, x3, x4] (w :: st) h) := (mw_at mj_106_228).trans (z_aload_n rfl)
theorem mj_106_229 : mc_P 106 229 = some (.getfield 9, 3, 5, 5, 0) := by decide +kernel
theorem s_106_229 {x0 x1 x2 x3 x4 : Option Value} {o : Nat} : mw d 106 Q 229 [x0, x1, x2, x3, x4] (.ref o :: st) h = (mg h o 5 ∧ mw d 106 Q 232 [x0, x1, x2, x3, x4] (va_rf (mh_r h o 5) :: st) h) := (mw_at mj_106_229).trans (z_getr (by decide) (by decide) rfl)
theorem mj_106_232 : mc_P 106 232 = some (.iload_n 2, 1, 0, 0, 0) := by decide +kernel
theorem s_106_232 {x0 x1 x3 x4 : Option Value} {w : Value} : mw d 106 Q 232 [x0, x1, some w, x3, x4] (st) h = mv_i w (mw d 106 Q 233 [x0, x1, some w, x3, x4] (w :: st) h) := (mw_at mj_106_232).trans (z_iload_n rfl)
theorem mj_106_233 : mc_P 106 233 = some (.iconst 1, 1, 0, 0, 0) := by decide +kernel
theorem s_106_233 {x0 x1 x2 x3 x4 : Option Value} : mw d 106 Q 233 [x0, x1, x2, x3, x4] (st) h = mw d 106 Q 234 [x0, x1, x2, x3, x4] (.int 1 :: st) h := (mw_at mj_106_233).trans (z_iconst (by decide))
theorem mj_106_234 : mc_P 106 234 = some (.iadd, 1, 0, 0, 0) := by decide +kernel
theorem s_106_234 {x0 x1 x2 x3 x4 : Option Value} {x w : Int32} : mw d 106 Q 234 [x0, x1, x2, x3, x4] (.int w :: .int x :: st) h = mw d 106 Q 235 [x0, x1, x2, x3, x4] (.int (x + w) :: st) h := (mw_at mj_106_234).trans (z_iadd)
theorem mj_106_235 : mc_P 106 235 = some (.laload, 1, 0, 0, 0) := by decide +kernel
theorem s_106_235 {x0 x1 x2 x3 x4 : Option Value} {o : Nat} {i : Int32} : mw d 106 Q 235 [x0, x1, x2, x3, x4] (.int i :: .ref o :: st) h = (mg h o 101 ∧ mx i (mh_l h o) ∧ mw d 106 Q 236 [x0, x1, x2, x3, x4] (.long (mh_j h o i.toNatClampNeg) :: st) h) := (mw_at mj_106_235).trans (z_lald)
theorem mj_106_236 : mc_P 106 236 = some (.lsub, 1, 0, 0, 0) := by decide +kernel
theorem s_106_236 {x0 x1 x2 x3 x4 : Option Value} {x w : Int64} : mw d 106 Q 236 [x0, x1, x2, x3, x4] (.long w :: .long x :: st) h = mw d 106 Q 237 [x0, x1, x2, x3, x4] (.long (x - w) :: st) h := (mw_at mj_106_236).trans (z_lsub)
theorem mj_106_237 : mc_P 106 237 = some (.lastore, 1, 0, 0, 0) := by decide +kernel
theorem s_106_237 {x0 x1 x2 x3 x4 : Option Value} {o : Nat} {i : Int32} {w : Int64} : mw d 106 Q 237 [x0, x1, x2, x3, x4] (.long w :: .int i :: .ref o :: st) h = (mg h o 101 ∧ mx i (mh_l h o) ∧ mw d 106 Q 238 [x0, x1, x2, x3, x4] (st) (mh_sj h o i.toNatClampNeg w)) := (mw_at mj_106_237).trans (z_last)
theorem mj_106_238 : mc_P 106 238 = some (.aload_n 0, 1, 0, 0, 0) := by decide +kernel
theorem s_106_238 {x1 x2 x3 x4 : Option Value} {w : Value} : mw d 106 Q 238 [some w, x1, x2, x3, x4] (st) h = mv_a w (mw d 106 Q 239 [some w, x1, x2, x3, x4] (w :: st) h) := (mw_at mj_106_238).trans (z_aload_n rfl)
theorem mj_106_239 : mc_P 106 239 = some (.getfield 18, 3, 5, 7, 0) := by decide +kernel
theorem s_106_239 {x0 x1 x2 x3 x4 : Option Value} {o : Nat} : mw d 106 Q 239 [x0, x1, x2, x3, x4] (.ref o :: st) h = (mg h o 5 ∧ mw d 106 Q 242 [x0, x1, x2, x3, x4] (va_rf (mh_r h o 7) :: st) h) := (mw_at mj_106_239).trans (z_getr (by decide) (by decide) rfl)
theorem mj_106_242 : mc_P 106 242 = some (.iload_n 2, 1, 0, 0, 0) := by decide +kernel
theorem s_106_242 {x0 x1 x3 x4 : Option Value} {w : Value} : mw d 106 Q 242 [x0, x1, some w, x3, x4] (st) h = mv_i w (mw d 106 Q 243 [x0, x1, some w, x3, x4] (w :: st) h) := (mw_at mj_106_242).trans (z_iload_n rfl)
theorem mj_106_243 : mc_P 106 243 = some (.iconst (-1), 1, 0, 0, 0) := by decide +kernel
theorem s_106_243 {x0 x1 x2 x3 x4 : Option Value} : mw d 106 Q 243 [x0, x1, x2, x3, x4] (st) h = mw d 106 Q 244 [x0, x1, x2, x3, x4] (.int (-1) :: st) h := (mw_at mj_106_243).trans (z_iconst (by decide))
theorem mj_106_244 : mc_P 106 244 = some (.iastore, 1, 0, 0, 0) := by decide +kernel
theorem s_106_244 {x0 x1 x2 x3 x4 : Option Value} {o : Nat} {i w : Int32} : mw d 106 Q 244 [x0, x1, x2, x3, x4] (.int w :: .int i :: .ref o :: st) h = (mg h o 100 ∧ mx i (mh_l h o) ∧ mw d 106 Q 245 [x0, x1, x2, x3, x4] (st) (mh_si h o i.toNatClampNeg w)) := (mw_at mj_106_244).trans (z_iast)
theorem mj_106_245 : mc_P 106 245 = some (.return_, 1, 0, 0, 0) := by decide +kernel
theorem s_106_245 {x0 x1 x2 x3 x4 : Option Value} : mw d 106 Q 245 [x0, x1, x2, x3, x4] ([]) h = Q none h := (mw_at mj_106_245).trans (z_vret)
theorem e_106 {a0 : Nat} {a1 : Int32} : mcall d 106 [.ref a0, .int a1] h Q = mw d 106 Q 0 [some (.ref a0), some (.int a1), none, none, none] [] h := by
  show mw d 106 Q 0 (me_en (mc_nl 106) _) [] h = _
  rw [nl_106]; rfl

/-! InvariantDesk$Ranges.multiply()V -/
theorem mj_107_0 : mc_P 107 0 = some (.aload_n 0, 1, 0, 0, 0) := by decide +kernel
theorem s_107_0 {x1 x2 x3 x4 x5 x6 x7 x8 x9 : Option Value} {w : Value} : mw d 107 Q 0 [some w, x1, x2, x3, x4, x5, x6, x7, x8, x9] (st) h = mv_a w (mw d 107 Q 1 [some w, x1, x2, x3, x4, x5, x6, x7, x8, x9] (w :: st) h) := (mw_at mj_107_0).trans (z_aload_n rfl)
theorem mj_107_1 : mc_P 107 1 = some (.dup, 1, 0, 0, 0) := by decide +kernel
theorem s_107_1 {x0 x1 x2 x3 x4 x5 x6 x7 x8 x9 : Option Value} {w : Value} : mw d 107 Q 1 [x0, x1, x2, x3, x4, x5, x6, x7, x8, x9] (w :: st) h = (w.category = 1 ∧ mw d 107 Q 2 [x0, x1, x2, x3, x4, x5, x6, x7, x8, x9] (w :: w :: st) h) := (mw_at mj_107_1).trans (z_dup)
theorem mj_107_2 : mc_P 107 2 = some (.getfield 61, 3, 5, 8, 0) := by decide +kernel
theorem s_107_2 {x0 x1 x2 x3 x4 x5 x6 x7 x8 x9 : Option Value} {o : Nat} : mw d 107 Q 2 [x0, x1, x2, x3, x4, x5, x6, x7, x8, x9] (.ref o :: st) h = (mg h o 5 ∧ mw d 107 Q 5 [x0, x1, x2, x3, x4, x5, x6, x7, x8, x9] (.int (mh_i h o 8) :: st) h) := (mw_at mj_107_2).trans (z_geti (by decide) (by decide) (Or.inl rfl))
theorem mj_107_5 : mc_P 107 5 = some (.iconst 1, 1, 0, 0, 0) := by decide +kernel
theorem s_107_5 {x0 x1 x2 x3 x4 x5 x6 x7 x8 x9 : Option Value} : mw d 107 Q 5 [x0, x1, x2, x3, x4, x5, x6, x7, x8, x9] (st) h = mw d 107 Q 6 [x0, x1, x2, x3, x4, x5, x6, x7, x8, x9] (.int 1 :: st) h := (mw_at mj_107_5).trans (z_iconst (by decide))
theorem mj_107_6 : mc_P 107 6 = some (.isub, 1, 0, 0, 0) := by decide +kernel
theorem s_107_6 {x0 x1 x2 x3 x4 x5 x6 x7 x8 x9 : Option Value} {x w : Int32} : mw d 107 Q 6 [x0, x1, x2, x3, x4, x5, x6, x7, x8, x9] (.int w :: .int x :: st) h = mw d 107 Q 7 [x0, x1, x2, x3, x4, x5, x6, x7, x8, x9] (.int (x - w) :: st) h := (mw_at mj_107_6).trans (z_isub)
theorem mj_107_7 : mc_P 107 7 = some (.putfield 61, 3, 5, 8, 0) := by decide +kernel
theorem s_107_7 {x0 x1 x2 x3 x4 x5 x6 x7 x8 x9 : Option Value} {o : Nat} {w : Int32} : mw d 107 Q 7 [x0, x1, x2, x3, x4, x5, x6, x7, x8, x9] (.int w :: .ref o :: st) h = (mg h o 5 ∧ mw d 107 Q 10 [x0, x1, x2, x3, x4, x5, x6, x7, x8, x9] (st) (mh_si h o 8 w)) := (mw_at mj_107_7).trans (z_puti (by decide) (by decide) rfl)
theorem mj_107_10 : mc_P 107 10 = some (.aload_n 0, 1, 0, 0, 0) := by decide +kernel
theorem s_107_10 {x1 x2 x3 x4 x5 x6 x7 x8 x9 : Option Value} {w : Value} : mw d 107 Q 10 [some w, x1, x2, x3, x4, x5, x6, x7, x8, x9] (st) h = mv_a w (mw d 107 Q 11 [some w, x1, x2, x3, x4, x5, x6, x7, x8, x9] (w :: st) h) := (mw_at mj_107_10).trans (z_aload_n rfl)
theorem mj_107_11 : mc_P 107 11 = some (.getfield 61, 3, 5, 8, 0) := by decide +kernel
theorem s_107_11 {x0 x1 x2 x3 x4 x5 x6 x7 x8 x9 : Option Value} {o : Nat} : mw d 107 Q 11 [x0, x1, x2, x3, x4, x5, x6, x7, x8, x9] (.ref o :: st) h = (mg h o 5 ∧ mw d 107 Q 14 [x0, x1, x2, x3, x4, x5, x6, x7, x8, x9] (.int (mh_i h o 8) :: st) h) := (mw_at mj_107_11).trans (z_geti (by decide) (by decide) (Or.inl rfl))
theorem mj_107_14 : mc_P 107 14 = some (.iconst 1, 1, 0, 0, 0) := by decide +kernel
theorem s_107_14 {x0 x1 x2 x3 x4 x5 x6 x7 x8 x9 : Option Value} : mw d 107 Q 14 [x0, x1, x2, x3, x4, x5, x6, x7, x8, x9] (st) h = mw d 107 Q 15 [x0, x1, x2, x3, x4, x5, x6, x7, x8, x9] (.int 1 :: st) h := (mw_at mj_107_14).trans (z_iconst (by decide))
theorem mj_107_15 : mc_P 107 15 = some (.isub, 1, 0, 0, 0) := by decide +kernel
theorem s_107_15 {x0 x1 x2 x3 x4 x5 x6 x7 x8 x9 : Option Value} {x w : Int32} : mw d 107 Q 15 [x0, x1, x2, x3, x4, x5, x6, x7, x8, x9] (.int w :: .int x :: st) h = mw d 107 Q 16 [x0, x1, x2, x3, x4, x5, x6, x7, x8, x9] (.int (x - w) :: st) h := (mw_at mj_107_15).trans (z_isub)
theorem mj_107_16 : mc_P 107 16 = some (.istore_n 1, 1, 0, 0, 0) := by decide +kernel
theorem s_107_16 {x0 x1 x2 x3 x4 x5 x6 x7 x8 x9 : Option Value} {w : Int32} : mw d 107 Q 16 [x0, x1, x2, x3, x4, x5, x6, x7, x8, x9] (.int w :: st) h = mw d 107 Q 17 [mk2 x0, some (.int w), x2, x3, x4, x5, x6, x7, x8, x9] (st) h := (mw_at mj_107_16).trans (z_istore_n (Nat.le_of_ble_eq_true rfl) (me_s1_mk (j := 0) (w := x0) rfl))
theorem mj_107_17 : mc_P 107 17 = some (.aload_n 0, 1, 0, 0, 0) := by decide +kernel
theorem s_107_17 {x1 x2 x3 x4 x5 x6 x7 x8 x9 : Option Value} {w : Value} : mw d 107 Q 17 [some w, x1, x2, x3, x4, x5, x6, x7, x8, x9] (st) h = mv_a w (mw d 107 Q 18 [some w, x1, x2, x3, x4, x5, x6, x7, x8, x9] (w :: st) h) := (mw_at mj_107_17).trans (z_aload_n rfl)
theorem mj_107_18 : mc_P 107 18 = some (.getfield 9, 3, 5, 5, 0) := by decide +kernel
theorem s_107_18 {x0 x1 x2 x3 x4 x5 x6 x7 x8 x9 : Option Value} {o : Nat} : mw d 107 Q 18 [x0, x1, x2, x3, x4, x5, x6, x7, x8, x9] (.ref o :: st) h = (mg h o 5 ∧ mw d 107 Q 21 [x0, x1, x2, x3, x4, x5, x6, x7, x8, x9] (va_rf (mh_r h o 5) :: st) h) := (mw_at mj_107_18).trans (z_getr (by decide) (by decide) rfl)
theorem mj_107_21 : mc_P 107 21 = some (.iload_n 1, 1, 0, 0, 0) := by decide +kernel
theorem s_107_21 {x0 x2 x3 x4 x5 x6 x7 x8 x9 : Option Value} {w : Value} : mw d 107 Q 21 [x0, some w, x2, x3, x4, x5, x6, x7, x8, x9] (st) h = mv_i w (mw d 107 Q 22 [x0, some w, x2, x3, x4, x5, x6, x7, x8, x9] (w :: st) h) := (mw_at mj_107_21).trans (z_iload_n rfl)
theorem mj_107_22 : mc_P 107 22 = some (.laload, 1, 0, 0, 0) := by decide +kernel
theorem s_107_22 {x0 x1 x2 x3 x4 x5 x6 x7 x8 x9 : Option Value} {o : Nat} {i : Int32} : mw d 107 Q 22 [x0, x1, x2, x3, x4, x5, x6, x7, x8, x9] (.int i :: .ref o :: st) h = (mg h o 101 ∧ mx i (mh_l h o) ∧ mw d 107 Q 23 [x0, x1, x2, x3, x4, x5, x6, x7, x8, x9] (.long (mh_j h o i.toNatClampNeg) :: st) h) := (mw_at mj_107_22).trans (z_lald)
theorem mj_107_23 : mc_P 107 23 = some (.aload_n 0, 1, 0, 0, 0) := by decide +kernel
theorem s_107_23 {x1 x2 x3 x4 x5 x6 x7 x8 x9 : Option Value} {w : Value} : mw d 107 Q 23 [some w, x1, x2, x3, x4, x5, x6, x7, x8, x9] (st) h = mv_a w (mw d 107 Q 24 [some w, x1, x2, x3, x4, x5, x6, x7, x8, x9] (w :: st) h) := (mw_at mj_107_23).trans (z_aload_n rfl)
theorem mj_107_24 : mc_P 107 24 = some (.getfield 9, 3, 5, 5, 0) := by decide +kernel
theorem s_107_24 {x0 x1 x2 x3 x4 x5 x6 x7 x8 x9 : Option Value} {o : Nat} : mw d 107 Q 24 [x0, x1, x2, x3, x4, x5, x6, x7, x8, x9] (.ref o :: st) h = (mg h o 5 ∧ mw d 107 Q 27 [x0, x1, x2, x3, x4, x5, x6, x7, x8, x9] (va_rf (mh_r h o 5) :: st) h) := (mw_at mj_107_24).trans (z_getr (by decide) (by decide) rfl)
theorem mj_107_27 : mc_P 107 27 = some (.iload_n 1, 1, 0, 0, 0) := by decide +kernel
theorem s_107_27 {x0 x2 x3 x4 x5 x6 x7 x8 x9 : Option Value} {w : Value} : mw d 107 Q 27 [x0, some w, x2, x3, x4, x5, x6, x7, x8, x9] (st) h = mv_i w (mw d 107 Q 28 [x0, some w, x2, x3, x4, x5, x6, x7, x8, x9] (w :: st) h) := (mw_at mj_107_27).trans (z_iload_n rfl)
theorem mj_107_28 : mc_P 107 28 = some (.iconst 1, 1, 0, 0, 0) := by decide +kernel
theorem s_107_28 {x0 x1 x2 x3 x4 x5 x6 x7 x8 x9 : Option Value} : mw d 107 Q 28 [x0, x1, x2, x3, x4, x5, x6, x7, x8, x9] (st) h = mw d 107 Q 29 [x0, x1, x2, x3, x4, x5, x6, x7, x8, x9] (.int 1 :: st) h := (mw_at mj_107_28).trans (z_iconst (by decide))
theorem mj_107_29 : mc_P 107 29 = some (.iadd, 1, 0, 0, 0) := by decide +kernel
theorem s_107_29 {x0 x1 x2 x3 x4 x5 x6 x7 x8 x9 : Option Value} {x w : Int32} : mw d 107 Q 29 [x0, x1, x2, x3, x4, x5, x6, x7, x8, x9] (.int w :: .int x :: st) h = mw d 107 Q 30 [x0, x1, x2, x3, x4, x5, x6, x7, x8, x9] (.int (x + w) :: st) h := (mw_at mj_107_29).trans (z_iadd)
theorem mj_107_30 : mc_P 107 30 = some (.laload, 1, 0, 0, 0) := by decide +kernel
theorem s_107_30 {x0 x1 x2 x3 x4 x5 x6 x7 x8 x9 : Option Value} {o : Nat} {i : Int32} : mw d 107 Q 30 [x0, x1, x2, x3, x4, x5, x6, x7, x8, x9] (.int i :: .ref o :: st) h = (mg h o 101 ∧ mx i (mh_l h o) ∧ mw d 107 Q 31 [x0, x1, x2, x3, x4, x5, x6, x7, x8, x9] (.long (mh_j h o i.toNatClampNeg) :: st) h) := (mw_at mj_107_30).trans (z_lald)
theorem mj_107_31 : mc_P 107 31 = some (.lmul, 1, 0, 0, 0) := by decide +kernel
theorem s_107_31 {x0 x1 x2 x3 x4 x5 x6 x7 x8 x9 : Option Value} {x w : Int64} : mw d 107 Q 31 [x0, x1, x2, x3, x4, x5, x6, x7, x8, x9] (.long w :: .long x :: st) h = mw d 107 Q 32 [x0, x1, x2, x3, x4, x5, x6, x7, x8, x9] (.long (x * w) :: st) h := (mw_at mj_107_31).trans (z_lmul)
theorem mj_107_32 : mc_P 107 32 = some (.lstore_n 2, 1, 0, 0, 0) := by decide +kernel
theorem s_107_32 {x0 x1 x2 x3 x4 x5 x6 x7 x8 x9 : Option Value} {w : Int64} : mw d 107 Q 32 [x0, x1, x2, x3, x4, x5, x6, x7, x8, x9] (.long w :: st) h = mw d 107 Q 33 [x0, mk2 x1, some (.long w), none, x4, x5, x6, x7, x8, x9] (st) h := (mw_at mj_107_32).trans (z_lstore_n (Nat.le_of_ble_eq_true rfl) (me_s2_mk (j := 1) (w := x1) rfl))
theorem mj_107_33 : mc_P 107 33 = some (.aload_n 0, 1, 0, 0, 0) := by decide +kernel
theorem s_107_33 {x1 x2 x3 x4 x5 x6 x7 x8 x9 : Option Value} {w : Value} : mw d 107 Q 33 [some w, x1, x2, x3, x4, x5, x6, x7, x8, x9] (st) h = mv_a w (mw d 107 Q 34 [some w, x1, x2, x3, x4, x5, x6, x7, x8, x9] (w :: st) h) := (mw_at mj_107_33).trans (z_aload_n rfl)
theorem mj_107_34 : mc_P 107 34 = some (.getfield 9, 3, 5, 5, 0) := by decide +kernel
theorem s_107_34 {x0 x1 x2 x3 x4 x5 x6 x7 x8 x9 : Option Value} {o : Nat} : mw d 107 Q 34 [x0, x1, x2, x3, x4, x5, x6, x7, x8, x9] (.ref o :: st) h = (mg h o 5 ∧ mw d 107 Q 37 [x0, x1, x2, x3, x4, x5, x6, x7, x8, x9] (va_rf (mh_r h o 5) :: st) h) := (mw_at mj_107_34).trans (z_getr (by decide) (by decide) rfl)
theorem mj_107_37 : mc_P 107 37 = some (.iload_n 1, 1, 0, 0, 0) := by decide +kernel
theorem s_107_37 {x0 x2 x3 x4 x5 x6 x7 x8 x9 : Option Value} {w : Value} : mw d 107 Q 37 [x0, some w, x2, x3, x4, x5, x6, x7, x8, x9] (st) h = mv_i w (mw d 107 Q 38 [x0, some w, x2, x3, x4, x5, x6, x7, x8, x9] (w :: st) h) := (mw_at mj_107_37).trans (z_iload_n rfl)
theorem mj_107_38 : mc_P 107 38 = some (.laload, 1, 0, 0, 0) := by decide +kernel
theorem s_107_38 {x0 x1 x2 x3 x4 x5 x6 x7 x8 x9 : Option Value} {o : Nat} {i : Int32} : mw d 107 Q 38 [x0, x1, x2, x3, x4, x5, x6, x7, x8, x9] (.int i :: .ref o :: st) h = (mg h o 101 ∧ mx i (mh_l h o) ∧ mw d 107 Q 39 [x0, x1, x2, x3, x4, x5, x6, x7, x8, x9] (.long (mh_j h o i.toNatClampNeg) :: st) h) := (mw_at mj_107_38).trans (z_lald)
theorem mj_107_39 : mc_P 107 39 = some (.aload_n 0, 1, 0, 0, 0) := by decide +kernel
theorem s_107_39 {x1 x2 x3 x4 x5 x6 x7 x8 x9 : Option Value} {w : Value} : mw d 107 Q 39 [some w, x1, x2, x3, x4, x5, x6, x7, x8, x9] (st) h = mv_a w (mw d 107 Q 40 [some w, x1, x2, x3, x4, x5, x6, x7, x8, x9] (w :: st) h) := (mw_at mj_107_39).trans (z_aload_n rfl)
theorem mj_107_40 : mc_P 107 40 = some (.getfield 15, 3, 5, 6, 0) := by decide +kernel
theorem s_107_40 {x0 x1 x2 x3 x4 x5 x6 x7 x8 x9 : Option Value} {o : Nat} : mw d 107 Q 40 [x0, x1, x2, x3, x4, x5, x6, x7, x8, x9] (.ref o :: st) h = (mg h o 5 ∧ mw d 107 Q 43 [x0, x1, x2, x3, x4, x5, x6, x7, x8, x9] (va_rf (mh_r h o 6) :: st) h) := (mw_at mj_107_40).trans (z_getr (by decide) (by decide) rfl)
theorem mj_107_43 : mc_P 107 43 = some (.iload_n 1, 1, 0, 0, 0) := by decide +kernel
theorem s_107_43 {x0 x2 x3 x4 x5 x6 x7 x8 x9 : Option Value} {w : Value} : mw d 107 Q 43 [x0, some w, x2, x3, x4, x5, x6, x7, x8, x9] (st) h = mv_i w (mw d 107 Q 44 [x0, some w, x2, x3, x4, x5, x6, x7, x8, x9] (w :: st) h) := (mw_at mj_107_43).trans (z_iload_n rfl)
theorem mj_107_44 : mc_P 107 44 = some (.iconst 1, 1, 0, 0, 0) := by decide +kernel
theorem s_107_44 {x0 x1 x2 x3 x4 x5 x6 x7 x8 x9 : Option Value} : mw d 107 Q 44 [x0, x1, x2, x3, x4, x5, x6, x7, x8, x9] (st) h = mw d 107 Q 45 [x0, x1, x2, x3, x4, x5, x6, x7, x8, x9] (.int 1 :: st) h := (mw_at mj_107_44).trans (z_iconst (by decide))
theorem mj_107_45 : mc_P 107 45 = some (.iadd, 1, 0, 0, 0) := by decide +kernel
theorem s_107_45 {x0 x1 x2 x3 x4 x5 x6 x7 x8 x9 : Option Value} {x w : Int32} : mw d 107 Q 45 [x0, x1, x2, x3, x4, x5, x6, x7, x8, x9] (.int w :: .int x :: st) h = mw d 107 Q 46 [x0, x1, x2, x3, x4, x5, x6, x7, x8, x9] (.int (x + w) :: st) h := (mw_at mj_107_45).trans (z_iadd)
theorem mj_107_46 : mc_P 107 46 = some (.laload, 1, 0, 0, 0) := by decide +kernel
theorem s_107_46 {x0 x1 x2 x3 x4 x5 x6 x7 x8 x9 : Option Value} {o : Nat} {i : Int32} : mw d 107 Q 46 [x0, x1, x2, x3, x4, x5, x6, x7, x8, x9] (.int i :: .ref o :: st) h = (mg h o 101 ∧ mx i (mh_l h o) ∧ mw d 107 Q 47 [x0, x1, x2, x3, x4, x5, x6, x7, x8, x9] (.long (mh_j h o i.toNatClampNeg) :: st) h) := (mw_at mj_107_46).trans (z_lald)
theorem mj_107_47 : mc_P 107 47 = some (.lmul, 1, 0, 0, 0) := by decide +kernel
theorem s_107_47 {x0 x1 x2 x3 x4 x5 x6 x7 x8 x9 : Option Value} {x w : Int64} : mw d 107 Q 47 [x0, x1, x2, x3, x4, x5, x6, x7, x8, x9] (.long w :: .long x :: st) h = mw d 107 Q 48 [x0, x1, x2, x3, x4, x5, x6, x7, x8, x9] (.long (x * w) :: st) h := (mw_at mj_107_47).trans (z_lmul)
theorem mj_107_48 : mc_P 107 48 = some (.lstore 4, 2, 0, 0, 0) := by decide +kernel
theorem s_107_48 {x0 x1 x2 x3 x4 x5 x6 x7 x8 x9 : Option Value} {w : Int64} : mw d 107 Q 48 [x0, x1, x2, x3, x4, x5, x6, x7, x8, x9] (.long w :: st) h = mw d 107 Q 50 [x0, x1, x2, mk2 x3, some (.long w), none, x6, x7, x8, x9] (st) h := (mw_at mj_107_48).trans (z_lstore (Nat.le_of_ble_eq_true rfl) (me_s2_mk (j := 3) (w := x3) rfl))
theorem mj_107_50 : mc_P 107 50 = some (.aload_n 0, 1, 0, 0, 0) := by decide +kernel
theorem s_107_50 {x1 x2 x3 x4 x5 x6 x7 x8 x9 : Option Value} {w : Value} : mw d 107 Q 50 [some w, x1, x2, x3, x4, x5, x6, x7, x8, x9] (st) h = mv_a w (mw d 107 Q 51 [some w, x1, x2, x3, x4, x5, x6, x7, x8, x9] (w :: st) h) := (mw_at mj_107_50).trans (z_aload_n rfl)
theorem mj_107_51 : mc_P 107 51 = some (.getfield 15, 3, 5, 6, 0) := by decide +kernel
theorem s_107_51 {x0 x1 x2 x3 x4 x5 x6 x7 x8 x9 : Option Value} {o : Nat} : mw d 107 Q 51 [x0, x1, x2, x3, x4, x5, x6, x7, x8, x9] (.ref o :: st) h = (mg h o 5 ∧ mw d 107 Q 54 [x0, x1, x2, x3, x4, x5, x6, x7, x8, x9] (va_rf (mh_r h o 6) :: st) h) := (mw_at mj_107_51).trans (z_getr (by decide) (by decide) rfl)
theorem mj_107_54 : mc_P 107 54 = some (.iload_n 1, 1, 0, 0, 0) := by decide +kernel
theorem s_107_54 {x0 x2 x3 x4 x5 x6 x7 x8 x9 : Option Value} {w : Value} : mw d 107 Q 54 [x0, some w, x2, x3, x4, x5, x6, x7, x8, x9] (st) h = mv_i w (mw d 107 Q 55 [x0, some w, x2, x3, x4, x5, x6, x7, x8, x9] (w :: st) h) := (mw_at mj_107_54).trans (z_iload_n rfl)
theorem mj_107_55 : mc_P 107 55 = some (.laload, 1, 0, 0, 0) := by decide +kernel
theorem s_107_55 {x0 x1 x2 x3 x4 x5 x6 x7 x8 x9 : Option Value} {o : Nat} {i : Int32} : mw d 107 Q 55 [x0, x1, x2, x3, x4, x5, x6, x7, x8, x9] (.int i :: .ref o :: st) h = (mg h o 101 ∧ mx i (mh_l h o) ∧ mw d 107 Q 56 [x0, x1, x2, x3, x4, x5, x6, x7, x8, x9] (.long (mh_j h o i.toNatClampNeg) :: st) h) := (mw_at mj_107_55).trans (z_lald)
theorem mj_107_56 : mc_P 107 56 = some (.aload_n 0, 1, 0, 0, 0) := by decide +kernel
theorem s_107_56 {x1 x2 x3 x4 x5 x6 x7 x8 x9 : Option Value} {w : Value} : mw d 107 Q 56 [some w, x1, x2, x3, x4, x5, x6, x7, x8, x9] (st) h = mv_a w (mw d 107 Q 57 [some w, x1, x2, x3, x4, x5, x6, x7, x8, x9] (w :: st) h) := (mw_at mj_107_56).trans (z_aload_n rfl)
theorem mj_107_57 : mc_P 107 57 = some (.getfield 9, 3, 5, 5, 0) := by decide +kernel
theorem s_107_57 {x0 x1 x2 x3 x4 x5 x6 x7 x8 x9 : Option Value} {o : Nat} : mw d 107 Q 57 [x0, x1, x2, x3, x4, x5, x6, x7, x8, x9] (.ref o :: st) h = (mg h o 5 ∧ mw d 107 Q 60 [x0, x1, x2, x3, x4, x5, x6, x7, x8, x9] (va_rf (mh_r h o 5) :: st) h) := (mw_at mj_107_57).trans (z_getr (by decide) (by decide) rfl)
theorem mj_107_60 : mc_P 107 60 = some (.iload_n 1, 1, 0, 0, 0) := by decide +kernel
theorem s_107_60 {x0 x2 x3 x4 x5 x6 x7 x8 x9 : Option Value} {w : Value} : mw d 107 Q 60 [x0, some w, x2, x3, x4, x5, x6, x7, x8, x9] (st) h = mv_i w (mw d 107 Q 61 [x0, some w, x2, x3, x4, x5, x6, x7, x8, x9] (w :: st) h) := (mw_at mj_107_60).trans (z_iload_n rfl)
theorem mj_107_61 : mc_P 107 61 = some (.iconst 1, 1, 0, 0, 0) := by decide +kernel
theorem s_107_61 {x0 x1 x2 x3 x4 x5 x6 x7 x8 x9 : Option Value} : mw d 107 Q 61 [x0, x1, x2, x3, x4, x5, x6, x7, x8, x9] (st) h = mw d 107 Q 62 [x0, x1, x2, x3, x4, x5, x6, x7, x8, x9] (.int 1 :: st) h := (mw_at mj_107_61).trans (z_iconst (by decide))
theorem mj_107_62 : mc_P 107 62 = some (.iadd, 1, 0, 0, 0) := by decide +kernel
theorem s_107_62 {x0 x1 x2 x3 x4 x5 x6 x7 x8 x9 : Option Value} {x w : Int32} : mw d 107 Q 62 [x0, x1, x2, x3, x4, x5, x6, x7, x8, x9] (.int w :: .int x :: st) h = mw d 107 Q 63 [x0, x1, x2, x3, x4, x5, x6, x7, x8, x9] (.int (x + w) :: st) h := (mw_at mj_107_62).trans (z_iadd)
theorem mj_107_63 : mc_P 107 63 = some (.laload, 1, 0, 0, 0) := by decide +kernel
theorem s_107_63 {x0 x1 x2 x3 x4 x5 x6 x7 x8 x9 : Option Value} {o : Nat} {i : Int32} : mw d 107 Q 63 [x0, x1, x2, x3, x4, x5, x6, x7, x8, x9] (.int i :: .ref o :: st) h = (mg h o 101 ∧ mx i (mh_l h o) ∧ mw d 107 Q 64 [x0, x1, x2, x3, x4, x5, x6, x7, x8, x9] (.long (mh_j h o i.toNatClampNeg) :: st) h) := (mw_at mj_107_63).trans (z_lald)
theorem mj_107_64 : mc_P 107 64 = some (.lmul, 1, 0, 0, 0) := by decide +kernel
theorem s_107_64 {x0 x1 x2 x3 x4 x5 x6 x7 x8 x9 : Option Value} {x w : Int64} : mw d 107 Q 64 [x0, x1, x2, x3, x4, x5, x6, x7, x8, x9] (.long w :: .long x :: st) h = mw d 107 Q 65 [x0, x1, x2, x3, x4, x5, x6, x7, x8, x9] (.long (x * w) :: st) h := (mw_at mj_107_64).trans (z_lmul)
theorem mj_107_65 : mc_P 107 65 = some (.lstore 6, 2, 0, 0, 0) := by decide +kernel
theorem s_107_65 {x0 x1 x2 x3 x4 x5 x6 x7 x8 x9 : Option Value} {w : Int64} : mw d 107 Q 65 [x0, x1, x2, x3, x4, x5, x6, x7, x8, x9] (.long w :: st) h = mw d 107 Q 67 [x0, x1, x2, x3, x4, mk2 x5, some (.long w), none, x8, x9] (st) h := (mw_at mj_107_65).trans (z_lstore (Nat.le_of_ble_eq_true rfl) (me_s2_mk (j := 5) (w := x5) rfl))
theorem mj_107_67 : mc_P 107 67 = some (.aload_n 0, 1, 0, 0, 0) := by decide +kernel
theorem s_107_67 {x1 x2 x3 x4 x5 x6 x7 x8 x9 : Option Value} {w : Value} : mw d 107 Q 67 [some w, x1, x2, x3, x4, x5, x6, x7, x8, x9] (st) h = mv_a w (mw d 107 Q 68 [some w, x1, x2, x3, x4, x5, x6, x7, x8, x9] (w :: st) h) := (mw_at mj_107_67).trans (z_aload_n rfl)
theorem mj_107_68 : mc_P 107 68 = some (.getfield 15, 3, 5, 6, 0) := by decide +kernel
theorem s_107_68 {x0 x1 x2 x3 x4 x5 x6 x7 x8 x9 : Option Value} {o : Nat} : mw d 107 Q 68 [x0, x1, x2, x3, x4, x5, x6, x7, x8, x9] (.ref o :: st) h = (mg h o 5 ∧ mw d 107 Q 71 [x0, x1, x2, x3, x4, x5, x6, x7, x8, x9] (va_rf (mh_r h o 6) :: st) h) := (mw_at mj_107_68).trans (z_getr (by decide) (by decide) rfl)
theorem mj_107_71 : mc_P 107 71 = some (.iload_n 1, 1, 0, 0, 0) := by decide +kernel
theorem s_107_71 {x0 x2 x3 x4 x5 x6 x7 x8 x9 : Option Value} {w : Value} : mw d 107 Q 71 [x0, some w, x2, x3, x4, x5, x6, x7, x8, x9] (st) h = mv_i w (mw d 107 Q 72 [x0, some w, x2, x3, x4, x5, x6, x7, x8, x9] (w :: st) h) := (mw_at mj_107_71).trans (z_iload_n rfl)
theorem mj_107_72 : mc_P 107 72 = some (.laload, 1, 0, 0, 0) := by decide +kernel
theorem s_107_72 {x0 x1 x2 x3 x4 x5 x6 x7 x8 x9 : Option Value} {o : Nat} {i : Int32} : mw d 107 Q 72 [x0, x1, x2, x3, x4, x5, x6, x7, x8, x9] (.int i :: .ref o :: st) h = (mg h o 101 ∧ mx i (mh_l h o) ∧ mw d 107 Q 73 [x0, x1, x2, x3, x4, x5, x6, x7, x8, x9] (.long (mh_j h o i.toNatClampNeg) :: st) h) := (mw_at mj_107_72).trans (z_lald)
theorem mj_107_73 : mc_P 107 73 = some (.aload_n 0, 1, 0, 0, 0) := by decide +kernel
theorem s_107_73 {x1 x2 x3 x4 x5 x6 x7 x8 x9 : Option Value} {w : Value} : mw d 107 Q 73 [some w, x1, x2, x3, x4, x5, x6, x7, x8, x9] (st) h = mv_a w (mw d 107 Q 74 [some w, x1, x2, x3, x4, x5, x6, x7, x8, x9] (w :: st) h) := (mw_at mj_107_73).trans (z_aload_n rfl)
theorem mj_107_74 : mc_P 107 74 = some (.getfield 15, 3, 5, 6, 0) := by decide +kernel
theorem s_107_74 {x0 x1 x2 x3 x4 x5 x6 x7 x8 x9 : Option Value} {o : Nat} : mw d 107 Q 74 [x0, x1, x2, x3, x4, x5, x6, x7, x8, x9] (.ref o :: st) h = (mg h o 5 ∧ mw d 107 Q 77 [x0, x1, x2, x3, x4, x5, x6, x7, x8, x9] (va_rf (mh_r h o 6) :: st) h) := (mw_at mj_107_74).trans (z_getr (by decide) (by decide) rfl)
theorem mj_107_77 : mc_P 107 77 = some (.iload_n 1, 1, 0, 0, 0) := by decide +kernel
theorem s_107_77 {x0 x2 x3 x4 x5 x6 x7 x8 x9 : Option Value} {w : Value} : mw d 107 Q 77 [x0, some w, x2, x3, x4, x5, x6, x7, x8, x9] (st) h = mv_i w (mw d 107 Q 78 [x0, some w, x2, x3, x4, x5, x6, x7, x8, x9] (w :: st) h) := (mw_at mj_107_77).trans (z_iload_n rfl)
theorem mj_107_78 : mc_P 107 78 = some (.iconst 1, 1, 0, 0, 0) := by decide +kernel
theorem s_107_78 {x0 x1 x2 x3 x4 x5 x6 x7 x8 x9 : Option Value} : mw d 107 Q 78 [x0, x1, x2, x3, x4, x5, x6, x7, x8, x9] (st) h = mw d 107 Q 79 [x0, x1, x2, x3, x4, x5, x6, x7, x8, x9] (.int 1 :: st) h := (mw_at mj_107_78).trans (z_iconst (by decide))
theorem mj_107_79 : mc_P 107 79 = some (.iadd, 1, 0, 0, 0) := by decide +kernel
theorem s_107_79 {x0 x1 x2 x3 x4 x5 x6 x7 x8 x9 : Option Value} {x w : Int32} : mw d 107 Q 79 [x0, x1, x2, x3, x4, x5, x6, x7, x8, x9] (.int w :: .int x :: st) h = mw d 107 Q 80 [x0, x1, x2, x3, x4, x5, x6, x7, x8, x9] (.int (x + w) :: st) h := (mw_at mj_107_79).trans (z_iadd)
theorem mj_107_80 : mc_P 107 80 = some (.laload, 1, 0, 0, 0) := by decide +kernel
theorem s_107_80 {x0 x1 x2 x3 x4 x5 x6 x7 x8 x9 : Option Value} {o : Nat} {i : Int32} : mw d 107 Q 80 [x0, x1, x2, x3, x4, x5, x6, x7, x8, x9] (.int i :: .ref o :: st) h = (mg h o 101 ∧ mx i (mh_l h o) ∧ mw d 107 Q 81 [x0, x1, x2, x3, x4, x5, x6, x7, x8, x9] (.long (mh_j h o i.toNatClampNeg) :: st) h) := (mw_at mj_107_80).trans (z_lald)
theorem mj_107_81 : mc_P 107 81 = some (.lmul, 1, 0, 0, 0) := by decide +kernel
theorem s_107_81 {x0 x1 x2 x3 x4 x5 x6 x7 x8 x9 : Option Value} {x w : Int64} : mw d 107 Q 81 [x0, x1, x2, x3, x4, x5, x6, x7, x8, x9] (.long w :: .long x :: st) h = mw d 107 Q 82 [x0, x1, x2, x3, x4, x5, x6, x7, x8, x9] (.long (x * w) :: st) h := (mw_at mj_107_81).trans (z_lmul)
theorem mj_107_82 : mc_P 107 82 = some (.lstore 8, 2, 0, 0, 0) := by decide +kernel
theorem s_107_82 {x0 x1 x2 x3 x4 x5 x6 x7 x8 x9 : Option Value} {w : Int64} : mw d 107 Q 82 [x0, x1, x2, x3, x4, x5, x6, x7, x8, x9] (.long w :: st) h = mw d 107 Q 84 [x0, x1, x2, x3, x4, x5, x6, mk2 x7, some (.long w), none] (st) h := (mw_at mj_107_82).trans (z_lstore (Nat.le_of_ble_eq_true rfl) (me_s2_mk (j := 7) (w := x7) rfl))
theorem mj_107_84 : mc_P 107 84 = some (.aload_n 0, 1, 0, 0, 0) := by decide +kernel
theorem s_107_84 {x1 x2 x3 x4 x5 x6 x7 x8 x9 : Option Value} {w : Value} : mw d 107 Q 84 [some w, x1, x2, x3, x4, x5, x6, x7, x8, x9] (st) h = mv_a w (mw d 107 Q 85 [some w, x1, x2, x3, x4, x5, x6, x7, x8, x9] (w :: st) h) := (mw_at mj_107_84).trans (z_aload_n rfl)
theorem mj_107_85 : mc_P 107 85 = some (.getfield 9, 3, 5, 5, 0) := by decide +kernel
theorem s_107_85 {x0 x1 x2 x3 x4 x5 x6 x7 x8 x9 : Option Value} {o : Nat} : mw d 107 Q 85 [x0, x1, x2, x3, x4, x5, x6, x7, x8, x9] (.ref o :: st) h = (mg h o 5 ∧ mw d 107 Q 88 [x0, x1, x2, x3, x4, x5, x6, x7, x8, x9] (va_rf (mh_r h o 5) :: st) h) := (mw_at mj_107_85).trans (z_getr (by decide) (by decide) rfl)
theorem mj_107_88 : mc_P 107 88 = some (.iload_n 1, 1, 0, 0, 0) := by decide +kernel
theorem s_107_88 {x0 x2 x3 x4 x5 x6 x7 x8 x9 : Option Value} {w : Value} : mw d 107 Q 88 [x0, some w, x2, x3, x4, x5, x6, x7, x8, x9] (st) h = mv_i w (mw d 107 Q 89 [x0, some w, x2, x3, x4, x5, x6, x7, x8, x9] (w :: st) h) := (mw_at mj_107_88).trans (z_iload_n rfl)
theorem mj_107_89 : mc_P 107 89 = some (.lload_n 2, 1, 0, 0, 0) := by decide +kernel
theorem s_107_89 {x0 x1 x3 x4 x5 x6 x7 x8 x9 : Option Value} {w : Value} : mw d 107 Q 89 [x0, x1, some w, x3, x4, x5, x6, x7, x8, x9] (st) h = mv_l w (mw d 107 Q 90 [x0, x1, some w, x3, x4, x5, x6, x7, x8, x9] (w :: st) h) := (mw_at mj_107_89).trans (z_lload_n rfl)
theorem mj_107_90 : mc_P 107 90 = some (.lload 4, 2, 0, 0, 0) := by decide +kernel
theorem s_107_90 {x0 x1 x2 x3 x5 x6 x7 x8 x9 : Option Value} {w : Value} : mw d 107 Q 90 [x0, x1, x2, x3, some w, x5, x6, x7, x8, x9] (st) h = mv_l w (mw d 107 Q 92 [x0, x1, x2, x3, some w, x5, x6, x7, x8, x9] (w :: st) h) := (mw_at mj_107_90).trans (z_lload rfl)
theorem mj_107_92 : mc_P 107 92 = some (.invokestatic 117, 3, 0, 22, 0) := by decide +kernel
theorem s_107_92 {x0 x1 x2 x3 x4 x5 x6 x7 x8 x9 : Option Value} {x w : Int64} : mw d 107 Q 92 [x0, x1, x2, x3, x4, x5, x6, x7, x8, x9] (.long w :: .long x :: st) h = (mca st 8 ∧ mw d 107 Q 95 [x0, x1, x2, x3, x4, x5, x6, x7, x8, x9] (.long (if w < x then w else x) :: st) h) := (mw_at mj_107_92).trans (z_lmin)
theorem mj_107_95 : mc_P 107 95 = some (.lload 6, 2, 0, 0, 0) := by decide +kernel
theorem s_107_95 {x0 x1 x2 x3 x4 x5 x7 x8 x9 : Option Value} {w : Value} : mw d 107 Q 95 [x0, x1, x2, x3, x4, x5, some w, x7, x8, x9] (st) h = mv_l w (mw d 107 Q 97 [x0, x1, x2, x3, x4, x5, some w, x7, x8, x9] (w :: st) h) := (mw_at mj_107_95).trans (z_lload rfl)
theorem mj_107_97 : mc_P 107 97 = some (.lload 8, 2, 0, 0, 0) := by decide +kernel
theorem s_107_97 {x0 x1 x2 x3 x4 x5 x6 x7 x9 : Option Value} {w : Value} : mw d 107 Q 97 [x0, x1, x2, x3, x4, x5, x6, x7, some w, x9] (st) h = mv_l w (mw d 107 Q 99 [x0, x1, x2, x3, x4, x5, x6, x7, some w, x9] (w :: st) h) := (mw_at mj_107_97).trans (z_lload rfl)
theorem mj_107_99 : mc_P 107 99 = some (.invokestatic 117, 3, 0, 22, 0) := by decide +kernel
theorem s_107_99 {x0 x1 x2 x3 x4 x5 x6 x7 x8 x9 : Option Value} {x w : Int64} : mw d 107 Q 99 [x0, x1, x2, x3, x4, x5, x6, x7, x8, x9] (.long w :: .long x :: st) h = (mca st 8 ∧ mw d 107 Q 102 [x0, x1, x2, x3, x4, x5, x6, x7, x8, x9] (.long (if w < x then w else x) :: st) h) := (mw_at mj_107_99).trans (z_lmin)
theorem mj_107_102 : mc_P 107 102 = some (.invokestatic 117, 3, 0, 22, 0) := by decide +kernel
theorem s_107_102 {x0 x1 x2 x3 x4 x5 x6 x7 x8 x9 : Option Value} {x w : Int64} : mw d 107 Q 102 [x0, x1, x2, x3, x4, x5, x6, x7, x8, x9] (.long w :: .long x :: st) h = (mca st 8 ∧ mw d 107 Q 105 [x0, x1, x2, x3, x4, x5, x6, x7, x8, x9] (.long (if w < x then w else x) :: st) h) := (mw_at mj_107_102).trans (z_lmin)
theorem mj_107_105 : mc_P 107 105 = some (.lastore, 1, 0, 0, 0) := by decide +kernel
theorem s_107_105 {x0 x1 x2 x3 x4 x5 x6 x7 x8 x9 : Option Value} {o : Nat} {i : Int32} {w : Int64} : mw d 107 Q 105 [x0, x1, x2, x3, x4, x5, x6, x7, x8, x9] (.long w :: .int i :: .ref o :: st) h = (mg h o 101 ∧ mx i (mh_l h o) ∧ mw d 107 Q 106 [x0, x1, x2, x3, x4, x5, x6, x7, x8, x9] (st) (mh_sj h o i.toNatClampNeg w)) := (mw_at mj_107_105).trans (z_last)
theorem mj_107_106 : mc_P 107 106 = some (.aload_n 0, 1, 0, 0, 0) := by decide +kernel
theorem s_107_106 {x1 x2 x3 x4 x5 x6 x7 x8 x9 : Option Value} {w : Value} : mw d 107 Q 106 [some w, x1, x2, x3, x4, x5, x6, x7, x8, x9] (st) h = mv_a w (mw d 107 Q 107 [some w, x1, x2, x3, x4, x5, x6, x7, x8, x9] (w :: st) h) := (mw_at mj_107_106).trans (z_aload_n rfl)
theorem mj_107_107 : mc_P 107 107 = some (.getfield 15, 3, 5, 6, 0) := by decide +kernel
theorem s_107_107 {x0 x1 x2 x3 x4 x5 x6 x7 x8 x9 : Option Value} {o : Nat} : mw d 107 Q 107 [x0, x1, x2, x3, x4, x5, x6, x7, x8, x9] (.ref o :: st) h = (mg h o 5 ∧ mw d 107 Q 110 [x0, x1, x2, x3, x4, x5, x6, x7, x8, x9] (va_rf (mh_r h o 6) :: st) h) := (mw_at mj_107_107).trans (z_getr (by decide) (by decide) rfl)
theorem mj_107_110 : mc_P 107 110 = some (.iload_n 1, 1, 0, 0, 0) := by decide +kernel
theorem s_107_110 {x0 x2 x3 x4 x5 x6 x7 x8 x9 : Option Value} {w : Value} : mw d 107 Q 110 [x0, some w, x2, x3, x4, x5, x6, x7, x8, x9] (st) h = mv_i w (mw d 107 Q 111 [x0, some w, x2, x3, x4, x5, x6, x7, x8, x9] (w :: st) h) := (mw_at mj_107_110).trans (z_iload_n rfl)
theorem mj_107_111 : mc_P 107 111 = some (.lload_n 2, 1, 0, 0, 0) := by decide +kernel
theorem s_107_111 {x0 x1 x3 x4 x5 x6 x7 x8 x9 : Option Value} {w : Value} : mw d 107 Q 111 [x0, x1, some w, x3, x4, x5, x6, x7, x8, x9] (st) h = mv_l w (mw d 107 Q 112 [x0, x1, some w, x3, x4, x5, x6, x7, x8, x9] (w :: st) h) := (mw_at mj_107_111).trans (z_lload_n rfl)
theorem mj_107_112 : mc_P 107 112 = some (.lload 4, 2, 0, 0, 0) := by decide +kernel
theorem s_107_112 {x0 x1 x2 x3 x5 x6 x7 x8 x9 : Option Value} {w : Value} : mw d 107 Q 112 [x0, x1, x2, x3, some w, x5, x6, x7, x8, x9] (st) h = mv_l w (mw d 107 Q 114 [x0, x1, x2, x3, some w, x5, x6, x7, x8, x9] (w :: st) h) := (mw_at mj_107_112).trans (z_lload rfl)
theorem mj_107_114 : mc_P 107 114 = some (.invokestatic 123, 3, 0, 23, 0) := by decide +kernel
theorem s_107_114 {x0 x1 x2 x3 x4 x5 x6 x7 x8 x9 : Option Value} {x w : Int64} : mw d 107 Q 114 [x0, x1, x2, x3, x4, x5, x6, x7, x8, x9] (.long w :: .long x :: st) h = (mca st 8 ∧ mw d 107 Q 117 [x0, x1, x2, x3, x4, x5, x6, x7, x8, x9] (.long (if w < x then x else w) :: st) h) := (mw_at mj_107_114).trans (z_lmax)
theorem mj_107_117 : mc_P 107 117 = some (.lload 6, 2, 0, 0, 0) := by decide +kernel
theorem s_107_117 {x0 x1 x2 x3 x4 x5 x7 x8 x9 : Option Value} {w : Value} : mw d 107 Q 117 [x0, x1, x2, x3, x4, x5, some w, x7, x8, x9] (st) h = mv_l w (mw d 107 Q 119 [x0, x1, x2, x3, x4, x5, some w, x7, x8, x9] (w :: st) h) := (mw_at mj_107_117).trans (z_lload rfl)
theorem mj_107_119 : mc_P 107 119 = some (.lload 8, 2, 0, 0, 0) := by decide +kernel
theorem s_107_119 {x0 x1 x2 x3 x4 x5 x6 x7 x9 : Option Value} {w : Value} : mw d 107 Q 119 [x0, x1, x2, x3, x4, x5, x6, x7, some w, x9] (st) h = mv_l w (mw d 107 Q 121 [x0, x1, x2, x3, x4, x5, x6, x7, some w, x9] (w :: st) h) := (mw_at mj_107_119).trans (z_lload rfl)
theorem mj_107_121 : mc_P 107 121 = some (.invokestatic 123, 3, 0, 23, 0) := by decide +kernel
theorem s_107_121 {x0 x1 x2 x3 x4 x5 x6 x7 x8 x9 : Option Value} {x w : Int64} : mw d 107 Q 121 [x0, x1, x2, x3, x4, x5, x6, x7, x8, x9] (.long w :: .long x :: st) h = (mca st 8 ∧ mw d 107 Q 124 [x0, x1, x2, x3, x4, x5, x6, x7, x8, x9] (.long (if w < x then x else w) :: st) h) := (mw_at mj_107_121).trans (z_lmax)
theorem mj_107_124 : mc_P 107 124 = some (.invokestatic 123, 3, 0, 23, 0) := by decide +kernel
theorem s_107_124 {x0 x1 x2 x3 x4 x5 x6 x7 x8 x9 : Option Value} {x w : Int64} : mw d 107 Q 124 [x0, x1, x2, x3, x4, x5, x6, x7, x8, x9] (.long w :: .long x :: st) h = (mca st 8 ∧ mw d 107 Q 127 [x0, x1, x2, x3, x4, x5, x6, x7, x8, x9] (.long (if w < x then x else w) :: st) h) := (mw_at mj_107_124).trans (z_lmax)
theorem mj_107_127 : mc_P 107 127 = some (.lastore, 1, 0, 0, 0) := by decide +kernel
theorem s_107_127 {x0 x1 x2 x3 x4 x5 x6 x7 x8 x9 : Option Value} {o : Nat} {i : Int32} {w : Int64} : mw d 107 Q 127 [x0, x1, x2, x3, x4, x5, x6, x7, x8, x9] (.long w :: .int i :: .ref o :: st) h = (mg h o 101 ∧ mx i (mh_l h o) ∧ mw d 107 Q 128 [x0, x1, x2, x3, x4, x5, x6, x7, x8, x9] (st) (mh_sj h o i.toNatClampNeg w)) := (mw_at mj_107_127).trans (z_last)
theorem mj_107_128 : mc_P 107 128 = some (.aload_n 0, 1, 0, 0, 0) := by decide +kernel
theorem s_107_128 {x1 x2 x3 x4 x5 x6 x7 x8 x9 : Option Value} {w : Value} : mw d 107 Q 128 [some w, x1, x2, x3, x4, x5, x6, x7, x8, x9] (st) h = mv_a w (mw d 107 Q 129 [some w, x1, x2, x3, x4, x5, x6, x7, x8, x9] (w :: st) h) := (mw_at mj_107_128).trans (z_aload_n rfl)
theorem mj_107_129 : mc_P 107 129 = some (.getfield 18, 3, 5, 7, 0) := by decide +kernel
theorem s_107_129 {x0 x1 x2 x3 x4 x5 x6 x7 x8 x9 : Option Value} {o : Nat} : mw d 107 Q 129 [x0, x1, x2, x3, x4, x5, x6, x7, x8, x9] (.ref o :: st) h = (mg h o 5 ∧ mw d 107 Q 132 [x0, x1, x2, x3, x4, x5, x6, x7, x8, x9] (va_rf (mh_r h o 7) :: st) h) := (mw_at mj_107_129).trans (z_getr (by decide) (by decide) rfl)
theorem mj_107_132 : mc_P 107 132 = some (.iload_n 1, 1, 0, 0, 0) := by decide +kernel
theorem s_107_132 {x0 x2 x3 x4 x5 x6 x7 x8 x9 : Option Value} {w : Value} : mw d 107 Q 132 [x0, some w, x2, x3, x4, x5, x6, x7, x8, x9] (st) h = mv_i w (mw d 107 Q 133 [x0, some w, x2, x3, x4, x5, x6, x7, x8, x9] (w :: st) h) := (mw_at mj_107_132).trans (z_iload_n rfl)
theorem mj_107_133 : mc_P 107 133 = some (.iconst (-1), 1, 0, 0, 0) := by decide +kernel
theorem s_107_133 {x0 x1 x2 x3 x4 x5 x6 x7 x8 x9 : Option Value} : mw d 107 Q 133 [x0, x1, x2, x3, x4, x5, x6, x7, x8, x9] (st) h = mw d 107 Q 134 [x0, x1, x2, x3, x4, x5, x6, x7, x8, x9] (.int (-1) :: st) h := (mw_at mj_107_133).trans (z_iconst (by decide))
theorem mj_107_134 : mc_P 107 134 = some (.iastore, 1, 0, 0, 0) := by decide +kernel
theorem s_107_134 {x0 x1 x2 x3 x4 x5 x6 x7 x8 x9 : Option Value} {o : Nat} {i w : Int32} : mw d 107 Q 134 [x0, x1, x2, x3, x4, x5, x6, x7, x8, x9] (.int w :: .int i :: .ref o :: st) h = (mg h o 100 ∧ mx i (mh_l h o) ∧ mw d 107 Q 135 [x0, x1, x2, x3, x4, x5, x6, x7, x8, x9] (st) (mh_si h o i.toNatClampNeg w)) := (mw_at mj_107_134).trans (z_iast)
theorem mj_107_135 : mc_P 107 135 = some (.return_, 1, 0, 0, 0) := by decide +kernel
theorem s_107_135 {x0 x1 x2 x3 x4 x5 x6 x7 x8 x9 : Option Value} : mw d 107 Q 135 [x0, x1, x2, x3, x4, x5, x6, x7, x8, x9] ([]) h = Q none h := (mw_at mj_107_135).trans (z_vret)
theorem e_107 {a0 : Nat} : mcall d 107 [.ref a0] h Q = mw d 107 Q 0 [some (.ref a0), none, none, none, none, none, none, none, none, none] [] h := by
  show mw d 107 Q 0 (me_en (mc_nl 107) _) [] h = _
  rw [nl_107]; rfl

/-! InvariantDesk$Ranges.hasDivisor()Z -/
theorem mj_108_0 : mc_P 108 0 = some (.aload_n 0, 1, 0, 0, 0) := by decide +kernel
theorem s_108_0 {w : Value} : mw d 108 Q 0 [some w] (st) h = mv_a w (mw d 108 Q 1 [some w] (w :: st) h) := (mw_at mj_108_0).trans (z_aload_n rfl)
theorem mj_108_1 : mc_P 108 1 = some (.getfield 9, 3, 5, 5, 0) := by decide +kernel
theorem s_108_1 {x0 : Option Value} {o : Nat} : mw d 108 Q 1 [x0] (.ref o :: st) h = (mg h o 5 ∧ mw d 108 Q 4 [x0] (va_rf (mh_r h o 5) :: st) h) := (mw_at mj_108_1).trans (z_getr (by decide) (by decide) rfl)
theorem mj_108_4 : mc_P 108 4 = some (.aload_n 0, 1, 0, 0, 0) := by decide +kernel
theorem s_108_4 {w : Value} : mw d 108 Q 4 [some w] (st) h = mv_a w (mw d 108 Q 5 [some w] (w :: st) h) := (mw_at mj_108_4).trans (z_aload_n rfl)
theorem mj_108_5 : mc_P 108 5 = some (.getfield 61, 3, 5, 8, 0) := by decide +kernel
theorem s_108_5 {x0 : Option Value} {o : Nat} : mw d 108 Q 5 [x0] (.ref o :: st) h = (mg h o 5 ∧ mw d 108 Q 8 [x0] (.int (mh_i h o 8) :: st) h) := (mw_at mj_108_5).trans (z_geti (by decide) (by decide) (Or.inl rfl))
theorem mj_108_8 : mc_P 108 8 = some (.laload, 1, 0, 0, 0) := by decide +kernel
theorem s_108_8 {x0 : Option Value} {o : Nat} {i : Int32} : mw d 108 Q 8 [x0] (.int i :: .ref o :: st) h = (mg h o 101 ∧ mx i (mh_l h o) ∧ mw d 108 Q 9 [x0] (.long (mh_j h o i.toNatClampNeg) :: st) h) := (mw_at mj_108_8).trans (z_lald)
theorem mj_108_9 : mc_P 108 9 = some (.lconst 0, 1, 0, 0, 0) := by decide +kernel
theorem s_108_9 {x0 : Option Value} : mw d 108 Q 9 [x0] (st) h = mw d 108 Q 10 [x0] (.long 0 :: st) h := (mw_at mj_108_9).trans (z_lconst (by decide))
theorem mj_108_10 : mc_P 108 10 = some (.lcmp, 1, 0, 0, 0) := by decide +kernel
theorem s_108_10 {x0 : Option Value} {x w : Int64} : mw d 108 Q 10 [x0] (.long w :: .long x :: st) h = mw d 108 Q 11 [x0] (.int (lg_cmp x w) :: st) h := (mw_at mj_108_10).trans (z_lcmp)
theorem mj_108_11 : mc_P 108 11 = some (.ifCond .gt 27, 3, 0, 0, 0) := by decide +kernel
theorem s_108_11 {x0 : Option Value} {x : Int32} : mw d 108 Q 11 [x0] (.int x :: st) h = mB (0 < x) (mw d 108 Q) 38 14 [x0] st h := (mw_at mj_108_11).trans (z_if_gt (by decide) rfl)
theorem mj_108_14 : mc_P 108 14 = some (.aload_n 0, 1, 0, 0, 0) := by decide +kernel
theorem s_108_14 {w : Value} : mw d 108 Q 14 [some w] (st) h = mv_a w (mw d 108 Q 15 [some w] (w :: st) h) := (mw_at mj_108_14).trans (z_aload_n rfl)
theorem mj_108_15 : mc_P 108 15 = some (.getfield 15, 3, 5, 6, 0) := by decide +kernel
theorem s_108_15 {x0 : Option Value} {o : Nat} : mw d 108 Q 15 [x0] (.ref o :: st) h = (mg h o 5 ∧ mw d 108 Q 18 [x0] (va_rf (mh_r h o 6) :: st) h) := (mw_at mj_108_15).trans (z_getr (by decide) (by decide) rfl)
theorem mj_108_18 : mc_P 108 18 = some (.aload_n 0, 1, 0, 0, 0) := by decide +kernel
theorem s_108_18 {w : Value} : mw d 108 Q 18 [some w] (st) h = mv_a w (mw d 108 Q 19 [some w] (w :: st) h) := (mw_at mj_108_18).trans (z_aload_n rfl)
theorem mj_108_19 : mc_P 108 19 = some (.getfield 61, 3, 5, 8, 0) := by decide +kernel
theorem s_108_19 {x0 : Option Value} {o : Nat} : mw d 108 Q 19 [x0] (.ref o :: st) h = (mg h o 5 ∧ mw d 108 Q 22 [x0] (.int (mh_i h o 8) :: st) h) := (mw_at mj_108_19).trans (z_geti (by decide) (by decide) (Or.inl rfl))
theorem mj_108_22 : mc_P 108 22 = some (.laload, 1, 0, 0, 0) := by decide +kernel
theorem s_108_22 {x0 : Option Value} {o : Nat} {i : Int32} : mw d 108 Q 22 [x0] (.int i :: .ref o :: st) h = (mg h o 101 ∧ mx i (mh_l h o) ∧ mw d 108 Q 23 [x0] (.long (mh_j h o i.toNatClampNeg) :: st) h) := (mw_at mj_108_22).trans (z_lald)
theorem mj_108_23 : mc_P 108 23 = some (.lconst 0, 1, 0, 0, 0) := by decide +kernel
theorem s_108_23 {x0 : Option Value} : mw d 108 Q 23 [x0] (st) h = mw d 108 Q 24 [x0] (.long 0 :: st) h := (mw_at mj_108_23).trans (z_lconst (by decide))
theorem mj_108_24 : mc_P 108 24 = some (.lcmp, 1, 0, 0, 0) := by decide +kernel
theorem s_108_24 {x0 : Option Value} {x w : Int64} : mw d 108 Q 24 [x0] (.long w :: .long x :: st) h = mw d 108 Q 25 [x0] (.int (lg_cmp x w) :: st) h := (mw_at mj_108_24).trans (z_lcmp)
theorem mj_108_25 : mc_P 108 25 = some (.ifCond .lt 13, 3, 0, 0, 0) := by decide +kernel
theorem s_108_25 {x0 : Option Value} {x : Int32} : mw d 108 Q 25 [x0] (.int x :: st) h = mB (x < 0) (mw d 108 Q) 38 28 [x0] st h := (mw_at mj_108_25).trans (z_if_lt (by decide) rfl)
theorem mj_108_28 : mc_P 108 28 = some (.aload_n 0, 1, 0, 0, 0) := by decide +kernel
theorem s_108_28 {w : Value} : mw d 108 Q 28 [some w] (st) h = mv_a w (mw d 108 Q 29 [some w] (w :: st) h) := (mw_at mj_108_28).trans (z_aload_n rfl)
theorem mj_108_29 : mc_P 108 29 = some (.dup, 1, 0, 0, 0) := by decide +kernel
theorem s_108_29 {x0 : Option Value} {w : Value} : mw d 108 Q 29 [x0] (w :: st) h = (w.category = 1 ∧ mw d 108 Q 30 [x0] (w :: w :: st) h) := (mw_at mj_108_29).trans (z_dup)
theorem mj_108_30 : mc_P 108 30 = some (.getfield 53, 3, 5, 4, 0) := by decide +kernel
theorem s_108_30 {x0 : Option Value} {o : Nat} : mw d 108 Q 30 [x0] (.ref o :: st) h = (mg h o 5 ∧ mw d 108 Q 33 [x0] (.int (mh_i h o 4) :: st) h) := (mw_at mj_108_30).trans (z_geti (by decide) (by decide) (Or.inl rfl))
theorem mj_108_33 : mc_P 108 33 = some (.iconst 2, 1, 0, 0, 0) := by decide +kernel
theorem s_108_33 {x0 : Option Value} : mw d 108 Q 33 [x0] (st) h = mw d 108 Q 34 [x0] (.int 2 :: st) h := (mw_at mj_108_33).trans (z_iconst (by decide))
theorem mj_108_34 : mc_P 108 34 = some (.ior, 1, 0, 0, 0) := by decide +kernel
theorem s_108_34 {x0 : Option Value} {x w : Int32} : mw d 108 Q 34 [x0] (.int w :: .int x :: st) h = mw d 108 Q 35 [x0] (.int (x ||| w) :: st) h := (mw_at mj_108_34).trans (z_ior)
theorem mj_108_35 : mc_P 108 35 = some (.putfield 53, 3, 5, 4, 0) := by decide +kernel
theorem s_108_35 {x0 : Option Value} {o : Nat} {w : Int32} : mw d 108 Q 35 [x0] (.int w :: .ref o :: st) h = (mg h o 5 ∧ mw d 108 Q 38 [x0] (st) (mh_si h o 4 w)) := (mw_at mj_108_35).trans (z_puti (by decide) (by decide) rfl)
theorem mj_108_38 : mc_P 108 38 = some (.aload_n 0, 1, 0, 0, 0) := by decide +kernel
theorem s_108_38 {w : Value} : mw d 108 Q 38 [some w] (st) h = mv_a w (mw d 108 Q 39 [some w] (w :: st) h) := (mw_at mj_108_38).trans (z_aload_n rfl)
theorem mj_108_39 : mc_P 108 39 = some (.getfield 9, 3, 5, 5, 0) := by decide +kernel
theorem s_108_39 {x0 : Option Value} {o : Nat} : mw d 108 Q 39 [x0] (.ref o :: st) h = (mg h o 5 ∧ mw d 108 Q 42 [x0] (va_rf (mh_r h o 5) :: st) h) := (mw_at mj_108_39).trans (z_getr (by decide) (by decide) rfl)
theorem mj_108_42 : mc_P 108 42 = some (.aload_n 0, 1, 0, 0, 0) := by decide +kernel
theorem s_108_42 {w : Value} : mw d 108 Q 42 [some w] (st) h = mv_a w (mw d 108 Q 43 [some w] (w :: st) h) := (mw_at mj_108_42).trans (z_aload_n rfl)
theorem mj_108_43 : mc_P 108 43 = some (.getfield 61, 3, 5, 8, 0) := by decide +kernel
theorem s_108_43 {x0 : Option Value} {o : Nat} : mw d 108 Q 43 [x0] (.ref o :: st) h = (mg h o 5 ∧ mw d 108 Q 46 [x0] (.int (mh_i h o 8) :: st) h) := (mw_at mj_108_43).trans (z_geti (by decide) (by decide) (Or.inl rfl))
theorem mj_108_46 : mc_P 108 46 = some (.laload, 1, 0, 0, 0) := by decide +kernel
theorem s_108_46 {x0 : Option Value} {o : Nat} {i : Int32} : mw d 108 Q 46 [x0] (.int i :: .ref o :: st) h = (mg h o 101 ∧ mx i (mh_l h o) ∧ mw d 108 Q 47 [x0] (.long (mh_j h o i.toNatClampNeg) :: st) h) := (mw_at mj_108_46).trans (z_lald)
theorem mj_108_47 : mc_P 108 47 = some (.lconst 0, 1, 0, 0, 0) := by decide +kernel
theorem s_108_47 {x0 : Option Value} : mw d 108 Q 47 [x0] (st) h = mw d 108 Q 48 [x0] (.long 0 :: st) h := (mw_at mj_108_47).trans (z_lconst (by decide))
theorem mj_108_48 : mc_P 108 48 = some (.lcmp, 1, 0, 0, 0) := by decide +kernel
theorem s_108_48 {x0 : Option Value} {x w : Int64} : mw d 108 Q 48 [x0] (.long w :: .long x :: st) h = mw d 108 Q 49 [x0] (.int (lg_cmp x w) :: st) h := (mw_at mj_108_48).trans (z_lcmp)
theorem mj_108_49 : mc_P 108 49 = some (.ifCond .ne 17, 3, 0, 0, 0) := by decide +kernel
theorem s_108_49 {x0 : Option Value} {x : Int32} : mw d 108 Q 49 [x0] (.int x :: st) h = mB (¬ x = 0) (mw d 108 Q) 66 52 [x0] st h := (mw_at mj_108_49).trans (z_if_ne (by decide) rfl)
theorem mj_108_52 : mc_P 108 52 = some (.aload_n 0, 1, 0, 0, 0) := by decide +kernel
theorem s_108_52 {w : Value} : mw d 108 Q 52 [some w] (st) h = mv_a w (mw d 108 Q 53 [some w] (w :: st) h) := (mw_at mj_108_52).trans (z_aload_n rfl)
theorem mj_108_53 : mc_P 108 53 = some (.getfield 15, 3, 5, 6, 0) := by decide +kernel
theorem s_108_53 {x0 : Option Value} {o : Nat} : mw d 108 Q 53 [x0] (.ref o :: st) h = (mg h o 5 ∧ mw d 108 Q 56 [x0] (va_rf (mh_r h o 6) :: st) h) := (mw_at mj_108_53).trans (z_getr (by decide) (by decide) rfl)
theorem mj_108_56 : mc_P 108 56 = some (.aload_n 0, 1, 0, 0, 0) := by decide +kernel
theorem s_108_56 {w : Value} : mw d 108 Q 56 [some w] (st) h = mv_a w (mw d 108 Q 57 [some w] (w :: st) h) := (mw_at mj_108_56).trans (z_aload_n rfl)
theorem mj_108_57 : mc_P 108 57 = some (.getfield 61, 3, 5, 8, 0) := by decide +kernel
theorem s_108_57 {x0 : Option Value} {o : Nat} : mw d 108 Q 57 [x0] (.ref o :: st) h = (mg h o 5 ∧ mw d 108 Q 60 [x0] (.int (mh_i h o 8) :: st) h) := (mw_at mj_108_57).trans (z_geti (by decide) (by decide) (Or.inl rfl))
theorem mj_108_60 : mc_P 108 60 = some (.laload, 1, 0, 0, 0) := by decide +kernel
theorem s_108_60 {x0 : Option Value} {o : Nat} {i : Int32} : mw d 108 Q 60 [x0] (.int i :: .ref o :: st) h = (mg h o 101 ∧ mx i (mh_l h o) ∧ mw d 108 Q 61 [x0] (.long (mh_j h o i.toNatClampNeg) :: st) h) := (mw_at mj_108_60).trans (z_lald)
theorem mj_108_61 : mc_P 108 61 = some (.lconst 0, 1, 0, 0, 0) := by decide +kernel
theorem s_108_61 {x0 : Option Value} : mw d 108 Q 61 [x0] (st) h = mw d 108 Q 62 [x0] (.long 0 :: st) h := (mw_at mj_108_61).trans (z_lconst (by decide))
theorem mj_108_62 : mc_P 108 62 = some (.lcmp, 1, 0, 0, 0) := by decide +kernel
theorem s_108_62 {x0 : Option Value} {x w : Int64} : mw d 108 Q 62 [x0] (.long w :: .long x :: st) h = mw d 108 Q 63 [x0] (.int (lg_cmp x w) :: st) h := (mw_at mj_108_62).trans (z_lcmp)
theorem mj_108_63 : mc_P 108 63 = some (.ifCond .eq 7, 3, 0, 0, 0) := by decide +kernel
theorem s_108_63 {x0 : Option Value} {x : Int32} : mw d 108 Q 63 [x0] (.int x :: st) h = mB (x = 0) (mw d 108 Q) 70 66 [x0] st h := (mw_at mj_108_63).trans (z_if_eq (by decide) rfl)
theorem mj_108_66 : mc_P 108 66 = some (.iconst 1, 1, 0, 0, 0) := by decide +kernel
theorem s_108_66 {x0 : Option Value} : mw d 108 Q 66 [x0] (st) h = mw d 108 Q 67 [x0] (.int 1 :: st) h := (mw_at mj_108_66).trans (z_iconst (by decide))
theorem mj_108_67 : mc_P 108 67 = some (.goto 4, 3, 0, 0, 0) := by decide +kernel
theorem s_108_67 {x0 : Option Value} : mw d 108 Q 67 [x0] (st) h = mw d 108 Q 71 [x0] (st) h := (mw_at mj_108_67).trans (z_goto (by decide))
theorem mj_108_70 : mc_P 108 70 = some (.iconst 0, 1, 0, 0, 0) := by decide +kernel
theorem s_108_70 {x0 : Option Value} : mw d 108 Q 70 [x0] (st) h = mw d 108 Q 71 [x0] (.int 0 :: st) h := (mw_at mj_108_70).trans (z_iconst (by decide))
theorem mj_108_71 : mc_P 108 71 = some (.ireturn, 1, 0, 3, 0) := by decide +kernel
theorem s_108_71 {x0 : Option Value} {x : Int32} : mw d 108 Q 71 [x0] ([.int x]) h = ((x = 0 ∨ x = 1) ∧ Q (some (.int x)) h) := (mw_at mj_108_71).trans (z_zret)
theorem e_108 {a0 : Nat} : mcall d 108 [.ref a0] h Q = mw d 108 Q 0 [some (.ref a0)] [] h := by
  show mw d 108 Q 0 (me_en (mc_nl 108) _) [] h = _
  rw [nl_108]; rfl

/-! InvariantDesk$Ranges.divide()Z -/
theorem mj_109_0 : mc_P 109 0 = some (.aload_n 0, 1, 0, 0, 0) := by decide +kernel
theorem s_109_0 {x1 x2 x3 x4 x5 x6 x7 x8 x9 x10 x11 x12 x13 x14 x15 x16 x17 : Option Value} {w : Value} : mw d 109 Q 0 [some w, x1, x2, x3, x4, x5, x6, x7, x8, x9, x10, x11, x12, x13, x14, x15, x16, x17] (st) h = mv_a w (mw d 109 Q 1 [some w, x1, x2, x3, x4, x5, x6, x7, x8, x9, x10, x11, x12, x13, x14, x15, x16, x17] (w :: st) h) := (mw_at mj_109_0).trans (z_aload_n rfl)
theorem mj_109_1 : mc_P 109 1 = some (.dup, 1, 0, 0, 0) := by decide +kernel
theorem s_109_1 {x0 x1 x2 x3 x4 x5 x6 x7 x8 x9 x10 x11 x12 x13 x14 x15 x16 x17 : Option Value} {w : Value} : mw d 109 Q 1 [x0, x1, x2, x3, x4, x5, x6, x7, x8, x9, x10, x11, x12, x13, x14, x15, x16, x17] (w :: st) h = (w.category = 1 ∧ mw d 109 Q 2 [x0, x1, x2, x3, x4, x5, x6, x7, x8, x9, x10, x11, x12, x13, x14, x15, x16, x17] (w :: w :: st) h) := (mw_at mj_109_1).trans (z_dup)
theorem mj_109_2 : mc_P 109 2 = some (.getfield 61, 3, 5, 8, 0) := by decide +kernel
theorem s_109_2 {x0 x1 x2 x3 x4 x5 x6 x7 x8 x9 x10 x11 x12 x13 x14 x15 x16 x17 : Option Value} {o : Nat} : mw d 109 Q 2 [x0, x1, x2, x3, x4, x5, x6, x7, x8, x9, x10, x11, x12, x13, x14, x15, x16, x17] (.ref o :: st) h = (mg h o 5 ∧ mw d 109 Q 5 [x0, x1, x2, x3, x4, x5, x6, x7, x8, x9, x10, x11, x12, x13, x14, x15, x16, x17] (.int (mh_i h o 8) :: st) h) := (mw_at mj_109_2).trans (z_geti (by decide) (by decide) (Or.inl rfl))
theorem mj_109_5 : mc_P 109 5 = some (.iconst 1, 1, 0, 0, 0) := by decide +kernel
theorem s_109_5 {x0 x1 x2 x3 x4 x5 x6 x7 x8 x9 x10 x11 x12 x13 x14 x15 x16 x17 : Option Value} : mw d 109 Q 5 [x0, x1, x2, x3, x4, x5, x6, x7, x8, x9, x10, x11, x12, x13, x14, x15, x16, x17] (st) h = mw d 109 Q 6 [x0, x1, x2, x3, x4, x5, x6, x7, x8, x9, x10, x11, x12, x13, x14, x15, x16, x17] (.int 1 :: st) h := (mw_at mj_109_5).trans (z_iconst (by decide))
theorem mj_109_6 : mc_P 109 6 = some (.isub, 1, 0, 0, 0) := by decide +kernel
theorem s_109_6 {x0 x1 x2 x3 x4 x5 x6 x7 x8 x9 x10 x11 x12 x13 x14 x15 x16 x17 : Option Value} {x w : Int32} : mw d 109 Q 6 [x0, x1, x2, x3, x4, x5, x6, x7, x8, x9, x10, x11, x12, x13, x14, x15, x16, x17] (.int w :: .int x :: st) h = mw d 109 Q 7 [x0, x1, x2, x3, x4, x5, x6, x7, x8, x9, x10, x11, x12, x13, x14, x15, x16, x17] (.int (x - w) :: st) h := (mw_at mj_109_6).trans (z_isub)
theorem mj_109_7 : mc_P 109 7 = some (.putfield 61, 3, 5, 8, 0) := by decide +kernel
theorem s_109_7 {x0 x1 x2 x3 x4 x5 x6 x7 x8 x9 x10 x11 x12 x13 x14 x15 x16 x17 : Option Value} {o : Nat} {w : Int32} : mw d 109 Q 7 [x0, x1, x2, x3, x4, x5, x6, x7, x8, x9, x10, x11, x12, x13, x14, x15, x16, x17] (.int w :: .ref o :: st) h = (mg h o 5 ∧ mw d 109 Q 10 [x0, x1, x2, x3, x4, x5, x6, x7, x8, x9, x10, x11, x12, x13, x14, x15, x16, x17] (st) (mh_si h o 8 w)) := (mw_at mj_109_7).trans (z_puti (by decide) (by decide) rfl)
theorem mj_109_10 : mc_P 109 10 = some (.aload_n 0, 1, 0, 0, 0) := by decide +kernel
theorem s_109_10 {x1 x2 x3 x4 x5 x6 x7 x8 x9 x10 x11 x12 x13 x14 x15 x16 x17 : Option Value} {w : Value} : mw d 109 Q 10 [some w, x1, x2, x3, x4, x5, x6, x7, x8, x9, x10, x11, x12, x13, x14, x15, x16, x17] (st) h = mv_a w (mw d 109 Q 11 [some w, x1, x2, x3, x4, x5, x6, x7, x8, x9, x10, x11, x12, x13, x14, x15, x16, x17] (w :: st) h) := (mw_at mj_109_10).trans (z_aload_n rfl)
theorem mj_109_11 : mc_P 109 11 = some (.getfield 61, 3, 5, 8, 0) := by decide +kernel
theorem s_109_11 {x0 x1 x2 x3 x4 x5 x6 x7 x8 x9 x10 x11 x12 x13 x14 x15 x16 x17 : Option Value} {o : Nat} : mw d 109 Q 11 [x0, x1, x2, x3, x4, x5, x6, x7, x8, x9, x10, x11, x12, x13, x14, x15, x16, x17] (.ref o :: st) h = (mg h o 5 ∧ mw d 109 Q 14 [x0, x1, x2, x3, x4, x5, x6, x7, x8, x9, x10, x11, x12, x13, x14, x15, x16, x17] (.int (mh_i h o 8) :: st) h) := (mw_at mj_109_11).trans (z_geti (by decide) (by decide) (Or.inl rfl))
theorem mj_109_14 : mc_P 109 14 = some (.iconst 1, 1, 0, 0, 0) := by decide +kernel
theorem s_109_14 {x0 x1 x2 x3 x4 x5 x6 x7 x8 x9 x10 x11 x12 x13 x14 x15 x16 x17 : Option Value} : mw d 109 Q 14 [x0, x1, x2, x3, x4, x5, x6, x7, x8, x9, x10, x11, x12, x13, x14, x15, x16, x17] (st) h = mw d 109 Q 15 [x0, x1, x2, x3, x4, x5, x6, x7, x8, x9, x10, x11, x12, x13, x14, x15, x16, x17] (.int 1 :: st) h := (mw_at mj_109_14).trans (z_iconst (by decide))
theorem mj_109_15 : mc_P 109 15 = some (.isub, 1, 0, 0, 0) := by decide +kernel
theorem s_109_15 {x0 x1 x2 x3 x4 x5 x6 x7 x8 x9 x10 x11 x12 x13 x14 x15 x16 x17 : Option Value} {x w : Int32} : mw d 109 Q 15 [x0, x1, x2, x3, x4, x5, x6, x7, x8, x9, x10, x11, x12, x13, x14, x15, x16, x17] (.int w :: .int x :: st) h = mw d 109 Q 16 [x0, x1, x2, x3, x4, x5, x6, x7, x8, x9, x10, x11, x12, x13, x14, x15, x16, x17] (.int (x - w) :: st) h := (mw_at mj_109_15).trans (z_isub)
theorem mj_109_16 : mc_P 109 16 = some (.istore_n 1, 1, 0, 0, 0) := by decide +kernel
theorem s_109_16 {x0 x1 x2 x3 x4 x5 x6 x7 x8 x9 x10 x11 x12 x13 x14 x15 x16 x17 : Option Value} {w : Int32} : mw d 109 Q 16 [x0, x1, x2, x3, x4, x5, x6, x7, x8, x9, x10, x11, x12, x13, x14, x15, x16, x17] (.int w :: st) h = mw d 109 Q 17 [mk2 x0, some (.int w), x2, x3, x4, x5, x6, x7, x8, x9, x10, x11, x12, x13, x14, x15, x16, x17] (st) h := (mw_at mj_109_16).trans (z_istore_n (Nat.le_of_ble_eq_true rfl) (me_s1_mk (j := 0) (w := x0) rfl))
theorem mj_109_17 : mc_P 109 17 = some (.aload_n 0, 1, 0, 0, 0) := by decide +kernel
theorem s_109_17 {x1 x2 x3 x4 x5 x6 x7 x8 x9 x10 x11 x12 x13 x14 x15 x16 x17 : Option Value} {w : Value} : mw d 109 Q 17 [some w, x1, x2, x3, x4, x5, x6, x7, x8, x9, x10, x11, x12, x13, x14, x15, x16, x17] (st) h = mv_a w (mw d 109 Q 18 [some w, x1, x2, x3, x4, x5, x6, x7, x8, x9, x10, x11, x12, x13, x14, x15, x16, x17] (w :: st) h) := (mw_at mj_109_17).trans (z_aload_n rfl)
theorem mj_109_18 : mc_P 109 18 = some (.getfield 18, 3, 5, 7, 0) := by decide +kernel
theorem s_109_18 {x0 x1 x2 x3 x4 x5 x6 x7 x8 x9 x10 x11 x12 x13 x14 x15 x16 x17 : Option Value} {o : Nat} : mw d 109 Q 18 [x0, x1, x2, x3, x4, x5, x6, x7, x8, x9, x10, x11, x12, x13, x14, x15, x16, x17] (.ref o :: st) h = (mg h o 5 ∧ mw d 109 Q 21 [x0, x1, x2, x3, x4, x5, x6, x7, x8, x9, x10, x11, x12, x13, x14, x15, x16, x17] (va_rf (mh_r h o 7) :: st) h) := (mw_at mj_109_18).trans (z_getr (by decide) (by decide) rfl)
theorem mj_109_21 : mc_P 109 21 = some (.iload_n 1, 1, 0, 0, 0) := by decide +kernel
theorem s_109_21 {x0 x2 x3 x4 x5 x6 x7 x8 x9 x10 x11 x12 x13 x14 x15 x16 x17 : Option Value} {w : Value} : mw d 109 Q 21 [x0, some w, x2, x3, x4, x5, x6, x7, x8, x9, x10, x11, x12, x13, x14, x15, x16, x17] (st) h = mv_i w (mw d 109 Q 22 [x0, some w, x2, x3, x4, x5, x6, x7, x8, x9, x10, x11, x12, x13, x14, x15, x16, x17] (w :: st) h) := (mw_at mj_109_21).trans (z_iload_n rfl)
theorem mj_109_22 : mc_P 109 22 = some (.iconst (-1), 1, 0, 0, 0) := by decide +kernel
theorem s_109_22 {x0 x1 x2 x3 x4 x5 x6 x7 x8 x9 x10 x11 x12 x13 x14 x15 x16 x17 : Option Value} : mw d 109 Q 22 [x0, x1, x2, x3, x4, x5, x6, x7, x8, x9, x10, x11, x12, x13, x14, x15, x16, x17] (st) h = mw d 109 Q 23 [x0, x1, x2, x3, x4, x5, x6, x7, x8, x9, x10, x11, x12, x13, x14, x15, x16, x17] (.int (-1) :: st) h := (mw_at mj_109_22).trans (z_iconst (by decide))
theorem mj_109_23 : mc_P 109 23 = some (.iastore, 1, 0, 0, 0) := by decide +kernel
theorem s_109_23 {x0 x1 x2 x3 x4 x5 x6 x7 x8 x9 x10 x11 x12 x13 x14 x15 x16 x17 : Option Value} {o : Nat} {i w : Int32} : mw d 109 Q 23 [x0, x1, x2, x3, x4, x5, x6, x7, x8, x9, x10, x11, x12, x13, x14, x15, x16, x17] (.int w :: .int i :: .ref o :: st) h = (mg h o 100 ∧ mx i (mh_l h o) ∧ mw d 109 Q 24 [x0, x1, x2, x3, x4, x5, x6, x7, x8, x9, x10, x11, x12, x13, x14, x15, x16, x17] (st) (mh_si h o i.toNatClampNeg w)) := (mw_at mj_109_23).trans (z_iast)
theorem mj_109_24 : mc_P 109 24 = some (.aload_n 0, 1, 0, 0, 0) := by decide +kernel
theorem s_109_24 {x1 x2 x3 x4 x5 x6 x7 x8 x9 x10 x11 x12 x13 x14 x15 x16 x17 : Option Value} {w : Value} : mw d 109 Q 24 [some w, x1, x2, x3, x4, x5, x6, x7, x8, x9, x10, x11, x12, x13, x14, x15, x16, x17] (st) h = mv_a w (mw d 109 Q 25 [some w, x1, x2, x3, x4, x5, x6, x7, x8, x9, x10, x11, x12, x13, x14, x15, x16, x17] (w :: st) h) := (mw_at mj_109_24).trans (z_aload_n rfl)
theorem mj_109_25 : mc_P 109 25 = some (.invokevirtual 126, 3, 108, 5, 1) := by decide +kernel
theorem s_109_25 {x0 x1 x2 x3 x4 x5 x6 x7 x8 x9 x10 x11 x12 x13 x14 x15 x16 x17 : Option Value} {o : Nat} : mw (d + 1) 109 Q 25 [x0, x1, x2, x3, x4, x5, x6, x7, x8, x9, x10, x11, x12, x13, x14, x15, x16, x17] (.ref o :: st) h = (mg h o 5 ∧ mca st 8 ∧ mca [.ref o] 1 ∧ mcall d 108 [.ref o] h (mK (d + 1) 109 Q 28 [x0, x1, x2, x3, x4, x5, x6, x7, x8, x9, x10, x11, x12, x13, x14, x15, x16, x17] st)) := (mw_at mj_109_25).trans ((z_invv (As := []) (by decide) rfl rfl).trans (congrArg (And _) (congrArg (And _) (mC_nl nl_108))))
theorem mj_109_28 : mc_P 109 28 = some (.ifCond .ne 5, 3, 0, 0, 0) := by decide +kernel
theorem s_109_28 {x0 x1 x2 x3 x4 x5 x6 x7 x8 x9 x10 x11 x12 x13 x14 x15 x16 x17 : Option Value} {x : Int32} : mw d 109 Q 28 [x0, x1, x2, x3, x4, x5, x6, x7, x8, x9, x10, x11, x12, x13, x14, x15, x16, x17] (.int x :: st) h = mB (¬ x = 0) (mw d 109 Q) 33 31 [x0, x1, x2, x3, x4, x5, x6, x7, x8, x9, x10, x11, x12, x13, x14, x15, x16, x17] st h := (mw_at mj_109_28).trans (z_if_ne (by decide) rfl)
theorem mj_109_31 : mc_P 109 31 = some (.iconst 0, 1, 0, 0, 0) := by decide +kernel
theorem s_109_31 {x0 x1 x2 x3 x4 x5 x6 x7 x8 x9 x10 x11 x12 x13 x14 x15 x16 x17 : Option Value} : mw d 109 Q 31 [x0, x1, x2, x3, x4, x5, x6, x7, x8, x9, x10, x11, x12, x13, x14, x15, x16, x17] (st) h = mw d 109 Q 32 [x0, x1, x2, x3, x4, x5, x6, x7, x8, x9, x10, x11, x12, x13, x14, x15, x16, x17] (.int 0 :: st) h := (mw_at mj_109_31).trans (z_iconst (by decide))
theorem mj_109_32 : mc_P 109 32 = some (.ireturn, 1, 0, 3, 0) := by decide +kernel
theorem s_109_32 {x0 x1 x2 x3 x4 x5 x6 x7 x8 x9 x10 x11 x12 x13 x14 x15 x16 x17 : Option Value} {x : Int32} : mw d 109 Q 32 [x0, x1, x2, x3, x4, x5, x6, x7, x8, x9, x10, x11, x12, x13, x14, x15, x16, x17] ([.int x]) h = ((x = 0 ∨ x = 1) ∧ Q (some (.int x)) h) := (mw_at mj_109_32).trans (z_zret)
theorem mj_109_33 : mc_P 109 33 = some (.aload_n 0, 1, 0, 0, 0) := by decide +kernel
theorem s_109_33 {x1 x2 x3 x4 x5 x6 x7 x8 x9 x10 x11 x12 x13 x14 x15 x16 x17 : Option Value} {w : Value} : mw d 109 Q 33 [some w, x1, x2, x3, x4, x5, x6, x7, x8, x9, x10, x11, x12, x13, x14, x15, x16, x17] (st) h = mv_a w (mw d 109 Q 34 [some w, x1, x2, x3, x4, x5, x6, x7, x8, x9, x10, x11, x12, x13, x14, x15, x16, x17] (w :: st) h) := (mw_at mj_109_33).trans (z_aload_n rfl)
theorem mj_109_34 : mc_P 109 34 = some (.getfield 9, 3, 5, 5, 0) := by decide +kernel
theorem s_109_34 {x0 x1 x2 x3 x4 x5 x6 x7 x8 x9 x10 x11 x12 x13 x14 x15 x16 x17 : Option Value} {o : Nat} : mw d 109 Q 34 [x0, x1, x2, x3, x4, x5, x6, x7, x8, x9, x10, x11, x12, x13, x14, x15, x16, x17] (.ref o :: st) h = (mg h o 5 ∧ mw d 109 Q 37 [x0, x1, x2, x3, x4, x5, x6, x7, x8, x9, x10, x11, x12, x13, x14, x15, x16, x17] (va_rf (mh_r h o 5) :: st) h) := (mw_at mj_109_34).trans (z_getr (by decide) (by decide) rfl)
theorem mj_109_37 : mc_P 109 37 = some (.iload_n 1, 1, 0, 0, 0) := by decide +kernel
theorem s_109_37 {x0 x2 x3 x4 x5 x6 x7 x8 x9 x10 x11 x12 x13 x14 x15 x16 x17 : Option Value} {w : Value} : mw d 109 Q 37 [x0, some w, x2, x3, x4, x5, x6, x7, x8, x9, x10, x11, x12, x13, x14, x15, x16, x17] (st) h = mv_i w (mw d 109 Q 38 [x0, some w, x2, x3, x4, x5, x6, x7, x8, x9, x10, x11, x12, x13, x14, x15, x16, x17] (w :: st) h) := (mw_at mj_109_37).trans (z_iload_n rfl)
theorem mj_109_38 : mc_P 109 38 = some (.iconst 1, 1, 0, 0, 0) := by decide +kernel
theorem s_109_38 {x0 x1 x2 x3 x4 x5 x6 x7 x8 x9 x10 x11 x12 x13 x14 x15 x16 x17 : Option Value} : mw d 109 Q 38 [x0, x1, x2, x3, x4, x5, x6, x7, x8, x9, x10, x11, x12, x13, x14, x15, x16, x17] (st) h = mw d 109 Q 39 [x0, x1, x2, x3, x4, x5, x6, x7, x8, x9, x10, x11, x12, x13, x14, x15, x16, x17] (.int 1 :: st) h := (mw_at mj_109_38).trans (z_iconst (by decide))
theorem mj_109_39 : mc_P 109 39 = some (.iadd, 1, 0, 0, 0) := by decide +kernel
theorem s_109_39 {x0 x1 x2 x3 x4 x5 x6 x7 x8 x9 x10 x11 x12 x13 x14 x15 x16 x17 : Option Value} {x w : Int32} : mw d 109 Q 39 [x0, x1, x2, x3, x4, x5, x6, x7, x8, x9, x10, x11, x12, x13, x14, x15, x16, x17] (.int w :: .int x :: st) h = mw d 109 Q 40 [x0, x1, x2, x3, x4, x5, x6, x7, x8, x9, x10, x11, x12, x13, x14, x15, x16, x17] (.int (x + w) :: st) h := (mw_at mj_109_39).trans (z_iadd)
theorem mj_109_40 : mc_P 109 40 = some (.laload, 1, 0, 0, 0) := by decide +kernel
theorem s_109_40 {x0 x1 x2 x3 x4 x5 x6 x7 x8 x9 x10 x11 x12 x13 x14 x15 x16 x17 : Option Value} {o : Nat} {i : Int32} : mw d 109 Q 40 [x0, x1, x2, x3, x4, x5, x6, x7, x8, x9, x10, x11, x12, x13, x14, x15, x16, x17] (.int i :: .ref o :: st) h = (mg h o 101 ∧ mx i (mh_l h o) ∧ mw d 109 Q 41 [x0, x1, x2, x3, x4, x5, x6, x7, x8, x9, x10, x11, x12, x13, x14, x15, x16, x17] (.long (mh_j h o i.toNatClampNeg) :: st) h) := (mw_at mj_109_40).trans (z_lald)
theorem mj_109_41 : mc_P 109 41 = some (.lconst 0, 1, 0, 0, 0) := by decide +kernel
theorem s_109_41 {x0 x1 x2 x3 x4 x5 x6 x7 x8 x9 x10 x11 x12 x13 x14 x15 x16 x17 : Option Value} : mw d 109 Q 41 [x0, x1, x2, x3, x4, x5, x6, x7, x8, x9, x10, x11, x12, x13, x14, x15, x16, x17] (st) h = mw d 109 Q 42 [x0, x1, x2, x3, x4, x5, x6, x7, x8, x9, x10, x11, x12, x13, x14, x15, x16, x17] (.long 0 :: st) h := (mw_at mj_109_41).trans (z_lconst (by decide))
theorem mj_109_42 : mc_P 109 42 = some (.lcmp, 1, 0, 0, 0) := by decide +kernel
theorem s_109_42 {x0 x1 x2 x3 x4 x5 x6 x7 x8 x9 x10 x11 x12 x13 x14 x15 x16 x17 : Option Value} {x w : Int64} : mw d 109 Q 42 [x0, x1, x2, x3, x4, x5, x6, x7, x8, x9, x10, x11, x12, x13, x14, x15, x16, x17] (.long w :: .long x :: st) h = mw d 109 Q 43 [x0, x1, x2, x3, x4, x5, x6, x7, x8, x9, x10, x11, x12, x13, x14, x15, x16, x17] (.int (lg_cmp x w) :: st) h := (mw_at mj_109_42).trans (z_lcmp)
theorem mj_109_43 : mc_P 109 43 = some (.ifCond .ne 7, 3, 0, 0, 0) := by decide +kernel
theorem s_109_43 {x0 x1 x2 x3 x4 x5 x6 x7 x8 x9 x10 x11 x12 x13 x14 x15 x16 x17 : Option Value} {x : Int32} : mw d 109 Q 43 [x0, x1, x2, x3, x4, x5, x6, x7, x8, x9, x10, x11, x12, x13, x14, x15, x16, x17] (.int x :: st) h = mB (¬ x = 0) (mw d 109 Q) 50 46 [x0, x1, x2, x3, x4, x5, x6, x7, x8, x9, x10, x11, x12, x13, x14, x15, x16, x17] st h := (mw_at mj_109_43).trans (z_if_ne (by decide) rfl)
theorem mj_109_46 : mc_P 109 46 = some (.lconst 1, 1, 0, 0, 0) := by decide +kernel
theorem s_109_46 {x0 x1 x2 x3 x4 x5 x6 x7 x8 x9 x10 x11 x12 x13 x14 x15 x16 x17 : Option Value} : mw d 109 Q 46 [x0, x1, x2, x3, x4, x5, x6, x7, x8, x9, x10, x11, x12, x13, x14, x15, x16, x17] (st) h = mw d 109 Q 47 [x0, x1, x2, x3, x4, x5, x6, x7, x8, x9, x10, x11, x12, x13, x14, x15, x16, x17] (.long 1 :: st) h := (mw_at mj_109_46).trans (z_lconst (by decide))
theorem mj_109_47 : mc_P 109 47 = some (.goto 11, 3, 0, 0, 0) := by decide +kernel
theorem s_109_47 {x0 x1 x2 x3 x4 x5 x6 x7 x8 x9 x10 x11 x12 x13 x14 x15 x16 x17 : Option Value} : mw d 109 Q 47 [x0, x1, x2, x3, x4, x5, x6, x7, x8, x9, x10, x11, x12, x13, x14, x15, x16, x17] (st) h = mw d 109 Q 58 [x0, x1, x2, x3, x4, x5, x6, x7, x8, x9, x10, x11, x12, x13, x14, x15, x16, x17] (st) h := (mw_at mj_109_47).trans (z_goto (by decide))
theorem mj_109_50 : mc_P 109 50 = some (.aload_n 0, 1, 0, 0, 0) := by decide +kernel
theorem s_109_50 {x1 x2 x3 x4 x5 x6 x7 x8 x9 x10 x11 x12 x13 x14 x15 x16 x17 : Option Value} {w : Value} : mw d 109 Q 50 [some w, x1, x2, x3, x4, x5, x6, x7, x8, x9, x10, x11, x12, x13, x14, x15, x16, x17] (st) h = mv_a w (mw d 109 Q 51 [some w, x1, x2, x3, x4, x5, x6, x7, x8, x9, x10, x11, x12, x13, x14, x15, x16, x17] (w :: st) h) := (mw_at mj_109_50).trans (z_aload_n rfl)
theorem mj_109_51 : mc_P 109 51 = some (.getfield 9, 3, 5, 5, 0) := by decide +kernel
theorem s_109_51 {x0 x1 x2 x3 x4 x5 x6 x7 x8 x9 x10 x11 x12 x13 x14 x15 x16 x17 : Option Value} {o : Nat} : mw d 109 Q 51 [x0, x1, x2, x3, x4, x5, x6, x7, x8, x9, x10, x11, x12, x13, x14, x15, x16, x17] (.ref o :: st) h = (mg h o 5 ∧ mw d 109 Q 54 [x0, x1, x2, x3, x4, x5, x6, x7, x8, x9, x10, x11, x12, x13, x14, x15, x16, x17] (va_rf (mh_r h o 5) :: st) h) := (mw_at mj_109_51).trans (z_getr (by decide) (by decide) rfl)
theorem mj_109_54 : mc_P 109 54 = some (.iload_n 1, 1, 0, 0, 0) := by decide +kernel
theorem s_109_54 {x0 x2 x3 x4 x5 x6 x7 x8 x9 x10 x11 x12 x13 x14 x15 x16 x17 : Option Value} {w : Value} : mw d 109 Q 54 [x0, some w, x2, x3, x4, x5, x6, x7, x8, x9, x10, x11, x12, x13, x14, x15, x16, x17] (st) h = mv_i w (mw d 109 Q 55 [x0, some w, x2, x3, x4, x5, x6, x7, x8, x9, x10, x11, x12, x13, x14, x15, x16, x17] (w :: st) h) := (mw_at mj_109_54).trans (z_iload_n rfl)
theorem mj_109_55 : mc_P 109 55 = some (.iconst 1, 1, 0, 0, 0) := by decide +kernel
theorem s_109_55 {x0 x1 x2 x3 x4 x5 x6 x7 x8 x9 x10 x11 x12 x13 x14 x15 x16 x17 : Option Value} : mw d 109 Q 55 [x0, x1, x2, x3, x4, x5, x6, x7, x8, x9, x10, x11, x12, x13, x14, x15, x16, x17] (st) h = mw d 109 Q 56 [x0, x1, x2, x3, x4, x5, x6, x7, x8, x9, x10, x11, x12, x13, x14, x15, x16, x17] (.int 1 :: st) h := (mw_at mj_109_55).trans (z_iconst (by decide))
theorem mj_109_56 : mc_P 109 56 = some (.iadd, 1, 0, 0, 0) := by decide +kernel
theorem s_109_56 {x0 x1 x2 x3 x4 x5 x6 x7 x8 x9 x10 x11 x12 x13 x14 x15 x16 x17 : Option Value} {x w : Int32} : mw d 109 Q 56 [x0, x1, x2, x3, x4, x5, x6, x7, x8, x9, x10, x11, x12, x13, x14, x15, x16, x17] (.int w :: .int x :: st) h = mw d 109 Q 57 [x0, x1, x2, x3, x4, x5, x6, x7, x8, x9, x10, x11, x12, x13, x14, x15, x16, x17] (.int (x + w) :: st) h := (mw_at mj_109_56).trans (z_iadd)
theorem mj_109_57 : mc_P 109 57 = some (.laload, 1, 0, 0, 0) := by decide +kernel
theorem s_109_57 {x0 x1 x2 x3 x4 x5 x6 x7 x8 x9 x10 x11 x12 x13 x14 x15 x16 x17 : Option Value} {o : Nat} {i : Int32} : mw d 109 Q 57 [x0, x1, x2, x3, x4, x5, x6, x7, x8, x9, x10, x11, x12, x13, x14, x15, x16, x17] (.int i :: .ref o :: st) h = (mg h o 101 ∧ mx i (mh_l h o) ∧ mw d 109 Q 58 [x0, x1, x2, x3, x4, x5, x6, x7, x8, x9, x10, x11, x12, x13, x14, x15, x16, x17] (.long (mh_j h o i.toNatClampNeg) :: st) h) := (mw_at mj_109_57).trans (z_lald)
theorem mj_109_58 : mc_P 109 58 = some (.lstore_n 2, 1, 0, 0, 0) := by decide +kernel
theorem s_109_58 {x0 x1 x2 x3 x4 x5 x6 x7 x8 x9 x10 x11 x12 x13 x14 x15 x16 x17 : Option Value} {w : Int64} : mw d 109 Q 58 [x0, x1, x2, x3, x4, x5, x6, x7, x8, x9, x10, x11, x12, x13, x14, x15, x16, x17] (.long w :: st) h = mw d 109 Q 59 [x0, mk2 x1, some (.long w), none, x4, x5, x6, x7, x8, x9, x10, x11, x12, x13, x14, x15, x16, x17] (st) h := (mw_at mj_109_58).trans (z_lstore_n (Nat.le_of_ble_eq_true rfl) (me_s2_mk (j := 1) (w := x1) rfl))
theorem mj_109_59 : mc_P 109 59 = some (.aload_n 0, 1, 0, 0, 0) := by decide +kernel
theorem s_109_59 {x1 x2 x3 x4 x5 x6 x7 x8 x9 x10 x11 x12 x13 x14 x15 x16 x17 : Option Value} {w : Value} : mw d 109 Q 59 [some w, x1, x2, x3, x4, x5, x6, x7, x8, x9, x10, x11, x12, x13, x14, x15, x16, x17] (st) h = mv_a w (mw d 109 Q 60 [some w, x1, x2, x3, x4, x5, x6, x7, x8, x9, x10, x11, x12, x13, x14, x15, x16, x17] (w :: st) h) := (mw_at mj_109_59).trans (z_aload_n rfl)
theorem mj_109_60 : mc_P 109 60 = some (.getfield 15, 3, 5, 6, 0) := by decide +kernel
theorem s_109_60 {x0 x1 x2 x3 x4 x5 x6 x7 x8 x9 x10 x11 x12 x13 x14 x15 x16 x17 : Option Value} {o : Nat} : mw d 109 Q 60 [x0, x1, x2, x3, x4, x5, x6, x7, x8, x9, x10, x11, x12, x13, x14, x15, x16, x17] (.ref o :: st) h = (mg h o 5 ∧ mw d 109 Q 63 [x0, x1, x2, x3, x4, x5, x6, x7, x8, x9, x10, x11, x12, x13, x14, x15, x16, x17] (va_rf (mh_r h o 6) :: st) h) := (mw_at mj_109_60).trans (z_getr (by decide) (by decide) rfl)
theorem mj_109_63 : mc_P 109 63 = some (.iload_n 1, 1, 0, 0, 0) := by decide +kernel
theorem s_109_63 {x0 x2 x3 x4 x5 x6 x7 x8 x9 x10 x11 x12 x13 x14 x15 x16 x17 : Option Value} {w : Value} : mw d 109 Q 63 [x0, some w, x2, x3, x4, x5, x6, x7, x8, x9, x10, x11, x12, x13, x14, x15, x16, x17] (st) h = mv_i w (mw d 109 Q 64 [x0, some w, x2, x3, x4, x5, x6, x7, x8, x9, x10, x11, x12, x13, x14, x15, x16, x17] (w :: st) h) := (mw_at mj_109_63).trans (z_iload_n rfl)
theorem mj_109_64 : mc_P 109 64 = some (.iconst 1, 1, 0, 0, 0) := by decide +kernel
theorem s_109_64 {x0 x1 x2 x3 x4 x5 x6 x7 x8 x9 x10 x11 x12 x13 x14 x15 x16 x17 : Option Value} : mw d 109 Q 64 [x0, x1, x2, x3, x4, x5, x6, x7, x8, x9, x10, x11, x12, x13, x14, x15, x16, x17] (st) h = mw d 109 Q 65 [x0, x1, x2, x3, x4, x5, x6, x7, x8, x9, x10, x11, x12, x13, x14, x15, x16, x17] (.int 1 :: st) h := (mw_at mj_109_64).trans (z_iconst (by decide))
theorem mj_109_65 : mc_P 109 65 = some (.iadd, 1, 0, 0, 0) := by decide +kernel
theorem s_109_65 {x0 x1 x2 x3 x4 x5 x6 x7 x8 x9 x10 x11 x12 x13 x14 x15 x16 x17 : Option Value} {x w : Int32} : mw d 109 Q 65 [x0, x1, x2, x3, x4, x5, x6, x7, x8, x9, x10, x11, x12, x13, x14, x15, x16, x17] (.int w :: .int x :: st) h = mw d 109 Q 66 [x0, x1, x2, x3, x4, x5, x6, x7, x8, x9, x10, x11, x12, x13, x14, x15, x16, x17] (.int (x + w) :: st) h := (mw_at mj_109_65).trans (z_iadd)
theorem mj_109_66 : mc_P 109 66 = some (.laload, 1, 0, 0, 0) := by decide +kernel
theorem s_109_66 {x0 x1 x2 x3 x4 x5 x6 x7 x8 x9 x10 x11 x12 x13 x14 x15 x16 x17 : Option Value} {o : Nat} {i : Int32} : mw d 109 Q 66 [x0, x1, x2, x3, x4, x5, x6, x7, x8, x9, x10, x11, x12, x13, x14, x15, x16, x17] (.int i :: .ref o :: st) h = (mg h o 101 ∧ mx i (mh_l h o) ∧ mw d 109 Q 67 [x0, x1, x2, x3, x4, x5, x6, x7, x8, x9, x10, x11, x12, x13, x14, x15, x16, x17] (.long (mh_j h o i.toNatClampNeg) :: st) h) := (mw_at mj_109_66).trans (z_lald)
theorem mj_109_67 : mc_P 109 67 = some (.lconst 0, 1, 0, 0, 0) := by decide +kernel
theorem s_109_67 {x0 x1 x2 x3 x4 x5 x6 x7 x8 x9 x10 x11 x12 x13 x14 x15 x16 x17 : Option Value} : mw d 109 Q 67 [x0, x1, x2, x3, x4, x5, x6, x7, x8, x9, x10, x11, x12, x13, x14, x15, x16, x17] (st) h = mw d 109 Q 68 [x0, x1, x2, x3, x4, x5, x6, x7, x8, x9, x10, x11, x12, x13, x14, x15, x16, x17] (.long 0 :: st) h := (mw_at mj_109_67).trans (z_lconst (by decide))
theorem mj_109_68 : mc_P 109 68 = some (.lcmp, 1, 0, 0, 0) := by decide +kernel
theorem s_109_68 {x0 x1 x2 x3 x4 x5 x6 x7 x8 x9 x10 x11 x12 x13 x14 x15 x16 x17 : Option Value} {x w : Int64} : mw d 109 Q 68 [x0, x1, x2, x3, x4, x5, x6, x7, x8, x9, x10, x11, x12, x13, x14, x15, x16, x17] (.long w :: .long x :: st) h = mw d 109 Q 69 [x0, x1, x2, x3, x4, x5, x6, x7, x8, x9, x10, x11, x12, x13, x14, x15, x16, x17] (.int (lg_cmp x w) :: st) h := (mw_at mj_109_68).trans (z_lcmp)
theorem mj_109_69 : mc_P 109 69 = some (.ifCond .ne 9, 3, 0, 0, 0) := by decide +kernel
theorem s_109_69 {x0 x1 x2 x3 x4 x5 x6 x7 x8 x9 x10 x11 x12 x13 x14 x15 x16 x17 : Option Value} {x : Int32} : mw d 109 Q 69 [x0, x1, x2, x3, x4, x5, x6, x7, x8, x9, x10, x11, x12, x13, x14, x15, x16, x17] (.int x :: st) h = mB (¬ x = 0) (mw d 109 Q) 78 72 [x0, x1, x2, x3, x4, x5, x6, x7, x8, x9, x10, x11, x12, x13, x14, x15, x16, x17] st h := (mw_at mj_109_69).trans (z_if_ne (by decide) rfl)
theorem mj_109_72 : mc_P 109 72 = some (.ldc2_w 129, 3, 0, 0, (-1)) := by decide +kernel
theorem s_109_72 {x0 x1 x2 x3 x4 x5 x6 x7 x8 x9 x10 x11 x12 x13 x14 x15 x16 x17 : Option Value} : mw d 109 Q 72 [x0, x1, x2, x3, x4, x5, x6, x7, x8, x9, x10, x11, x12, x13, x14, x15, x16, x17] (st) h = mw d 109 Q 75 [x0, x1, x2, x3, x4, x5, x6, x7, x8, x9, x10, x11, x12, x13, x14, x15, x16, x17] (.long (-1) :: st) h := (mw_at mj_109_72).trans (z_ldc2 (by decide))
theorem mj_109_75 : mc_P 109 75 = some (.goto 11, 3, 0, 0, 0) := by decide +kernel
theorem s_109_75 {x0 x1 x2 x3 x4 x5 x6 x7 x8 x9 x10 x11 x12 x13 x14 x15 x16 x17 : Option Value} : mw d 109 Q 75 [x0, x1, x2, x3, x4, x5, x6, x7, x8, x9, x10, x11, x12, x13, x14, x15, x16, x17] (st) h = mw d 109 Q 86 [x0, x1, x2, x3, x4, x5, x6, x7, x8, x9, x10, x11, x12, x13, x14, x15, x16, x17] (st) h := (mw_at mj_109_75).trans (z_goto (by decide))
theorem mj_109_78 : mc_P 109 78 = some (.aload_n 0, 1, 0, 0, 0) := by decide +kernel
theorem s_109_78 {x1 x2 x3 x4 x5 x6 x7 x8 x9 x10 x11 x12 x13 x14 x15 x16 x17 : Option Value} {w : Value} : mw d 109 Q 78 [some w, x1, x2, x3, x4, x5, x6, x7, x8, x9, x10, x11, x12, x13, x14, x15, x16, x17] (st) h = mv_a w (mw d 109 Q 79 [some w, x1, x2, x3, x4, x5, x6, x7, x8, x9, x10, x11, x12, x13, x14, x15, x16, x17] (w :: st) h) := (mw_at mj_109_78).trans (z_aload_n rfl)
theorem mj_109_79 : mc_P 109 79 = some (.getfield 15, 3, 5, 6, 0) := by decide +kernel
theorem s_109_79 {x0 x1 x2 x3 x4 x5 x6 x7 x8 x9 x10 x11 x12 x13 x14 x15 x16 x17 : Option Value} {o : Nat} : mw d 109 Q 79 [x0, x1, x2, x3, x4, x5, x6, x7, x8, x9, x10, x11, x12, x13, x14, x15, x16, x17] (.ref o :: st) h = (mg h o 5 ∧ mw d 109 Q 82 [x0, x1, x2, x3, x4, x5, x6, x7, x8, x9, x10, x11, x12, x13, x14, x15, x16, x17] (va_rf (mh_r h o 6) :: st) h) := (mw_at mj_109_79).trans (z_getr (by decide) (by decide) rfl)
theorem mj_109_82 : mc_P 109 82 = some (.iload_n 1, 1, 0, 0, 0) := by decide +kernel
theorem s_109_82 {x0 x2 x3 x4 x5 x6 x7 x8 x9 x10 x11 x12 x13 x14 x15 x16 x17 : Option Value} {w : Value} : mw d 109 Q 82 [x0, some w, x2, x3, x4, x5, x6, x7, x8, x9, x10, x11, x12, x13, x14, x15, x16, x17] (st) h = mv_i w (mw d 109 Q 83 [x0, some w, x2, x3, x4, x5, x6, x7, x8, x9, x10, x11, x12, x13, x14, x15, x16, x17] (w :: st) h) := (mw_at mj_109_82).trans (z_iload_n rfl)
theorem mj_109_83 : mc_P 109 83 = some (.iconst 1, 1, 0, 0, 0) := by decide +kernel
theorem s_109_83 {x0 x1 x2 x3 x4 x5 x6 x7 x8 x9 x10 x11 x12 x13 x14 x15 x16 x17 : Option Value} : mw d 109 Q 83 [x0, x1, x2, x3, x4, x5, x6, x7, x8, x9, x10, x11, x12, x13, x14, x15, x16, x17] (st) h = mw d 109 Q 84 [x0, x1, x2, x3, x4, x5, x6, x7, x8, x9, x10, x11, x12, x13, x14, x15, x16, x17] (.int 1 :: st) h := (mw_at mj_109_83).trans (z_iconst (by decide))
theorem mj_109_84 : mc_P 109 84 = some (.iadd, 1, 0, 0, 0) := by decide +kernel
theorem s_109_84 {x0 x1 x2 x3 x4 x5 x6 x7 x8 x9 x10 x11 x12 x13 x14 x15 x16 x17 : Option Value} {x w : Int32} : mw d 109 Q 84 [x0, x1, x2, x3, x4, x5, x6, x7, x8, x9, x10, x11, x12, x13, x14, x15, x16, x17] (.int w :: .int x :: st) h = mw d 109 Q 85 [x0, x1, x2, x3, x4, x5, x6, x7, x8, x9, x10, x11, x12, x13, x14, x15, x16, x17] (.int (x + w) :: st) h := (mw_at mj_109_84).trans (z_iadd)
theorem mj_109_85 : mc_P 109 85 = some (.laload, 1, 0, 0, 0) := by decide +kernel
theorem s_109_85 {x0 x1 x2 x3 x4 x5 x6 x7 x8 x9 x10 x11 x12 x13 x14 x15 x16 x17 : Option Value} {o : Nat} {i : Int32} : mw d 109 Q 85 [x0, x1, x2, x3, x4, x5, x6, x7, x8, x9, x10, x11, x12, x13, x14, x15, x16, x17] (.int i :: .ref o :: st) h = (mg h o 101 ∧ mx i (mh_l h o) ∧ mw d 109 Q 86 [x0, x1, x2, x3, x4, x5, x6, x7, x8, x9, x10, x11, x12, x13, x14, x15, x16, x17] (.long (mh_j h o i.toNatClampNeg) :: st) h) := (mw_at mj_109_85).trans (z_lald)
theorem mj_109_86 : mc_P 109 86 = some (.lstore 4, 2, 0, 0, 0) := by decide +kernel
theorem s_109_86 {x0 x1 x2 x3 x4 x5 x6 x7 x8 x9 x10 x11 x12 x13 x14 x15 x16 x17 : Option Value} {w : Int64} : mw d 109 Q 86 [x0, x1, x2, x3, x4, x5, x6, x7, x8, x9, x10, x11, x12, x13, x14, x15, x16, x17] (.long w :: st) h = mw d 109 Q 88 [x0, x1, x2, mk2 x3, some (.long w), none, x6, x7, x8, x9, x10, x11, x12, x13, x14, x15, x16, x17] (st) h := (mw_at mj_109_86).trans (z_lstore (Nat.le_of_ble_eq_true rfl) (me_s2_mk (j := 3) (w := x3) rfl))
theorem mj_109_88 : mc_P 109 88 = some (.lload_n 2, 1, 0, 0, 0) := by decide +kernel
theorem s_109_88 {x0 x1 x3 x4 x5 x6 x7 x8 x9 x10 x11 x12 x13 x14 x15 x16 x17 : Option Value} {w : Value} : mw d 109 Q 88 [x0, x1, some w, x3, x4, x5, x6, x7, x8, x9, x10, x11, x12, x13, x14, x15, x16, x17] (st) h = mv_l w (mw d 109 Q 89 [x0, x1, some w, x3, x4, x5, x6, x7, x8, x9, x10, x11, x12, x13, x14, x15, x16, x17] (w :: st) h) := (mw_at mj_109_88).trans (z_lload_n rfl)
theorem mj_109_89 : mc_P 109 89 = some (.lconst 0, 1, 0, 0, 0) := by decide +kernel
theorem s_109_89 {x0 x1 x2 x3 x4 x5 x6 x7 x8 x9 x10 x11 x12 x13 x14 x15 x16 x17 : Option Value} : mw d 109 Q 89 [x0, x1, x2, x3, x4, x5, x6, x7, x8, x9, x10, x11, x12, x13, x14, x15, x16, x17] (st) h = mw d 109 Q 90 [x0, x1, x2, x3, x4, x5, x6, x7, x8, x9, x10, x11, x12, x13, x14, x15, x16, x17] (.long 0 :: st) h := (mw_at mj_109_89).trans (z_lconst (by decide))
theorem mj_109_90 : mc_P 109 90 = some (.lcmp, 1, 0, 0, 0) := by decide +kernel
theorem s_109_90 {x0 x1 x2 x3 x4 x5 x6 x7 x8 x9 x10 x11 x12 x13 x14 x15 x16 x17 : Option Value} {x w : Int64} : mw d 109 Q 90 [x0, x1, x2, x3, x4, x5, x6, x7, x8, x9, x10, x11, x12, x13, x14, x15, x16, x17] (.long w :: .long x :: st) h = mw d 109 Q 91 [x0, x1, x2, x3, x4, x5, x6, x7, x8, x9, x10, x11, x12, x13, x14, x15, x16, x17] (.int (lg_cmp x w) :: st) h := (mw_at mj_109_90).trans (z_lcmp)
theorem mj_109_91 : mc_P 109 91 = some (.ifCond .le 7, 3, 0, 0, 0) := by decide +kernel
theorem s_109_91 {x0 x1 x2 x3 x4 x5 x6 x7 x8 x9 x10 x11 x12 x13 x14 x15 x16 x17 : Option Value} {x : Int32} : mw d 109 Q 91 [x0, x1, x2, x3, x4, x5, x6, x7, x8, x9, x10, x11, x12, x13, x14, x15, x16, x17] (.int x :: st) h = mB (x ≤ 0) (mw d 109 Q) 98 94 [x0, x1, x2, x3, x4, x5, x6, x7, x8, x9, x10, x11, x12, x13, x14, x15, x16, x17] st h := (mw_at mj_109_91).trans (z_if_le (by decide) rfl)
theorem mj_109_94 : mc_P 109 94 = some (.lload_n 2, 1, 0, 0, 0) := by decide +kernel
theorem s_109_94 {x0 x1 x3 x4 x5 x6 x7 x8 x9 x10 x11 x12 x13 x14 x15 x16 x17 : Option Value} {w : Value} : mw d 109 Q 94 [x0, x1, some w, x3, x4, x5, x6, x7, x8, x9, x10, x11, x12, x13, x14, x15, x16, x17] (st) h = mv_l w (mw d 109 Q 95 [x0, x1, some w, x3, x4, x5, x6, x7, x8, x9, x10, x11, x12, x13, x14, x15, x16, x17] (w :: st) h) := (mw_at mj_109_94).trans (z_lload_n rfl)
theorem mj_109_95 : mc_P 109 95 = some (.goto 11, 3, 0, 0, 0) := by decide +kernel
theorem s_109_95 {x0 x1 x2 x3 x4 x5 x6 x7 x8 x9 x10 x11 x12 x13 x14 x15 x16 x17 : Option Value} : mw d 109 Q 95 [x0, x1, x2, x3, x4, x5, x6, x7, x8, x9, x10, x11, x12, x13, x14, x15, x16, x17] (st) h = mw d 109 Q 106 [x0, x1, x2, x3, x4, x5, x6, x7, x8, x9, x10, x11, x12, x13, x14, x15, x16, x17] (st) h := (mw_at mj_109_95).trans (z_goto (by decide))
theorem mj_109_98 : mc_P 109 98 = some (.lload 4, 2, 0, 0, 0) := by decide +kernel
theorem s_109_98 {x0 x1 x2 x3 x5 x6 x7 x8 x9 x10 x11 x12 x13 x14 x15 x16 x17 : Option Value} {w : Value} : mw d 109 Q 98 [x0, x1, x2, x3, some w, x5, x6, x7, x8, x9, x10, x11, x12, x13, x14, x15, x16, x17] (st) h = mv_l w (mw d 109 Q 100 [x0, x1, x2, x3, some w, x5, x6, x7, x8, x9, x10, x11, x12, x13, x14, x15, x16, x17] (w :: st) h) := (mw_at mj_109_98).trans (z_lload rfl)
theorem mj_109_100 : mc_P 109 100 = some (.ldc2_w 129, 3, 0, 0, (-1)) := by decide +kernel
theorem s_109_100 {x0 x1 x2 x3 x4 x5 x6 x7 x8 x9 x10 x11 x12 x13 x14 x15 x16 x17 : Option Value} : mw d 109 Q 100 [x0, x1, x2, x3, x4, x5, x6, x7, x8, x9, x10, x11, x12, x13, x14, x15, x16, x17] (st) h = mw d 109 Q 103 [x0, x1, x2, x3, x4, x5, x6, x7, x8, x9, x10, x11, x12, x13, x14, x15, x16, x17] (.long (-1) :: st) h := (mw_at mj_109_100).trans (z_ldc2 (by decide))
theorem mj_109_103 : mc_P 109 103 = some (.invokestatic 117, 3, 0, 22, 0) := by decide +kernel
theorem s_109_103 {x0 x1 x2 x3 x4 x5 x6 x7 x8 x9 x10 x11 x12 x13 x14 x15 x16 x17 : Option Value} {x w : Int64} : mw d 109 Q 103 [x0, x1, x2, x3, x4, x5, x6, x7, x8, x9, x10, x11, x12, x13, x14, x15, x16, x17] (.long w :: .long x :: st) h = (mca st 8 ∧ mw d 109 Q 106 [x0, x1, x2, x3, x4, x5, x6, x7, x8, x9, x10, x11, x12, x13, x14, x15, x16, x17] (.long (if w < x then w else x) :: st) h) := (mw_at mj_109_103).trans (z_lmin)
theorem mj_109_106 : mc_P 109 106 = some (.lstore 6, 2, 0, 0, 0) := by decide +kernel
theorem s_109_106 {x0 x1 x2 x3 x4 x5 x6 x7 x8 x9 x10 x11 x12 x13 x14 x15 x16 x17 : Option Value} {w : Int64} : mw d 109 Q 106 [x0, x1, x2, x3, x4, x5, x6, x7, x8, x9, x10, x11, x12, x13, x14, x15, x16, x17] (.long w :: st) h = mw d 109 Q 108 [x0, x1, x2, x3, x4, mk2 x5, some (.long w), none, x8, x9, x10, x11, x12, x13, x14, x15, x16, x17] (st) h := (mw_at mj_109_106).trans (z_lstore (Nat.le_of_ble_eq_true rfl) (me_s2_mk (j := 5) (w := x5) rfl))
theorem mj_109_108 : mc_P 109 108 = some (.lload 4, 2, 0, 0, 0) := by decide +kernel
theorem s_109_108 {x0 x1 x2 x3 x5 x6 x7 x8 x9 x10 x11 x12 x13 x14 x15 x16 x17 : Option Value} {w : Value} : mw d 109 Q 108 [x0, x1, x2, x3, some w, x5, x6, x7, x8, x9, x10, x11, x12, x13, x14, x15, x16, x17] (st) h = mv_l w (mw d 109 Q 110 [x0, x1, x2, x3, some w, x5, x6, x7, x8, x9, x10, x11, x12, x13, x14, x15, x16, x17] (w :: st) h) := (mw_at mj_109_108).trans (z_lload rfl)
theorem mj_109_110 : mc_P 109 110 = some (.lconst 0, 1, 0, 0, 0) := by decide +kernel
theorem s_109_110 {x0 x1 x2 x3 x4 x5 x6 x7 x8 x9 x10 x11 x12 x13 x14 x15 x16 x17 : Option Value} : mw d 109 Q 110 [x0, x1, x2, x3, x4, x5, x6, x7, x8, x9, x10, x11, x12, x13, x14, x15, x16, x17] (st) h = mw d 109 Q 111 [x0, x1, x2, x3, x4, x5, x6, x7, x8, x9, x10, x11, x12, x13, x14, x15, x16, x17] (.long 0 :: st) h := (mw_at mj_109_110).trans (z_lconst (by decide))
theorem mj_109_111 : mc_P 109 111 = some (.lcmp, 1, 0, 0, 0) := by decide +kernel
theorem s_109_111 {x0 x1 x2 x3 x4 x5 x6 x7 x8 x9 x10 x11 x12 x13 x14 x15 x16 x17 : Option Value} {x w : Int64} : mw d 109 Q 111 [x0, x1, x2, x3, x4, x5, x6, x7, x8, x9, x10, x11, x12, x13, x14, x15, x16, x17] (.long w :: .long x :: st) h = mw d 109 Q 112 [x0, x1, x2, x3, x4, x5, x6, x7, x8, x9, x10, x11, x12, x13, x14, x15, x16, x17] (.int (lg_cmp x w) :: st) h := (mw_at mj_109_111).trans (z_lcmp)
theorem mj_109_112 : mc_P 109 112 = some (.ifCond .ge 8, 3, 0, 0, 0) := by decide +kernel
theorem s_109_112 {x0 x1 x2 x3 x4 x5 x6 x7 x8 x9 x10 x11 x12 x13 x14 x15 x16 x17 : Option Value} {x : Int32} : mw d 109 Q 112 [x0, x1, x2, x3, x4, x5, x6, x7, x8, x9, x10, x11, x12, x13, x14, x15, x16, x17] (.int x :: st) h = mB (0 ≤ x) (mw d 109 Q) 120 115 [x0, x1, x2, x3, x4, x5, x6, x7, x8, x9, x10, x11, x12, x13, x14, x15, x16, x17] st h := (mw_at mj_109_112).trans (z_if_ge (by decide) rfl)
theorem mj_109_115 : mc_P 109 115 = some (.lload 4, 2, 0, 0, 0) := by decide +kernel
theorem s_109_115 {x0 x1 x2 x3 x5 x6 x7 x8 x9 x10 x11 x12 x13 x14 x15 x16 x17 : Option Value} {w : Value} : mw d 109 Q 115 [x0, x1, x2, x3, some w, x5, x6, x7, x8, x9, x10, x11, x12, x13, x14, x15, x16, x17] (st) h = mv_l w (mw d 109 Q 117 [x0, x1, x2, x3, some w, x5, x6, x7, x8, x9, x10, x11, x12, x13, x14, x15, x16, x17] (w :: st) h) := (mw_at mj_109_115).trans (z_lload rfl)
theorem mj_109_117 : mc_P 109 117 = some (.goto 8, 3, 0, 0, 0) := by decide +kernel
theorem s_109_117 {x0 x1 x2 x3 x4 x5 x6 x7 x8 x9 x10 x11 x12 x13 x14 x15 x16 x17 : Option Value} : mw d 109 Q 117 [x0, x1, x2, x3, x4, x5, x6, x7, x8, x9, x10, x11, x12, x13, x14, x15, x16, x17] (st) h = mw d 109 Q 125 [x0, x1, x2, x3, x4, x5, x6, x7, x8, x9, x10, x11, x12, x13, x14, x15, x16, x17] (st) h := (mw_at mj_109_117).trans (z_goto (by decide))
theorem mj_109_120 : mc_P 109 120 = some (.lload_n 2, 1, 0, 0, 0) := by decide +kernel
theorem s_109_120 {x0 x1 x3 x4 x5 x6 x7 x8 x9 x10 x11 x12 x13 x14 x15 x16 x17 : Option Value} {w : Value} : mw d 109 Q 120 [x0, x1, some w, x3, x4, x5, x6, x7, x8, x9, x10, x11, x12, x13, x14, x15, x16, x17] (st) h = mv_l w (mw d 109 Q 121 [x0, x1, some w, x3, x4, x5, x6, x7, x8, x9, x10, x11, x12, x13, x14, x15, x16, x17] (w :: st) h) := (mw_at mj_109_120).trans (z_lload_n rfl)
theorem mj_109_121 : mc_P 109 121 = some (.lconst 1, 1, 0, 0, 0) := by decide +kernel
theorem s_109_121 {x0 x1 x2 x3 x4 x5 x6 x7 x8 x9 x10 x11 x12 x13 x14 x15 x16 x17 : Option Value} : mw d 109 Q 121 [x0, x1, x2, x3, x4, x5, x6, x7, x8, x9, x10, x11, x12, x13, x14, x15, x16, x17] (st) h = mw d 109 Q 122 [x0, x1, x2, x3, x4, x5, x6, x7, x8, x9, x10, x11, x12, x13, x14, x15, x16, x17] (.long 1 :: st) h := (mw_at mj_109_121).trans (z_lconst (by decide))
theorem mj_109_122 : mc_P 109 122 = some (.invokestatic 123, 3, 0, 23, 0) := by decide +kernel
theorem s_109_122 {x0 x1 x2 x3 x4 x5 x6 x7 x8 x9 x10 x11 x12 x13 x14 x15 x16 x17 : Option Value} {x w : Int64} : mw d 109 Q 122 [x0, x1, x2, x3, x4, x5, x6, x7, x8, x9, x10, x11, x12, x13, x14, x15, x16, x17] (.long w :: .long x :: st) h = (mca st 8 ∧ mw d 109 Q 125 [x0, x1, x2, x3, x4, x5, x6, x7, x8, x9, x10, x11, x12, x13, x14, x15, x16, x17] (.long (if w < x then x else w) :: st) h) := (mw_at mj_109_122).trans (z_lmax)
theorem mj_109_125 : mc_P 109 125 = some (.lstore 8, 2, 0, 0, 0) := by decide +kernel
theorem s_109_125 {x0 x1 x2 x3 x4 x5 x6 x7 x8 x9 x10 x11 x12 x13 x14 x15 x16 x17 : Option Value} {w : Int64} : mw d 109 Q 125 [x0, x1, x2, x3, x4, x5, x6, x7, x8, x9, x10, x11, x12, x13, x14, x15, x16, x17] (.long w :: st) h = mw d 109 Q 127 [x0, x1, x2, x3, x4, x5, x6, mk2 x7, some (.long w), none, x10, x11, x12, x13, x14, x15, x16, x17] (st) h := (mw_at mj_109_125).trans (z_lstore (Nat.le_of_ble_eq_true rfl) (me_s2_mk (j := 7) (w := x7) rfl))
theorem mj_109_127 : mc_P 109 127 = some (.aload_n 0, 1, 0, 0, 0) := by decide +kernel
theorem s_109_127 {x1 x2 x3 x4 x5 x6 x7 x8 x9 x10 x11 x12 x13 x14 x15 x16 x17 : Option Value} {w : Value} : mw d 109 Q 127 [some w, x1, x2, x3, x4, x5, x6, x7, x8, x9, x10, x11, x12, x13, x14, x15, x16, x17] (st) h = mv_a w (mw d 109 Q 128 [some w, x1, x2, x3, x4, x5, x6, x7, x8, x9, x10, x11, x12, x13, x14, x15, x16, x17] (w :: st) h) := (mw_at mj_109_127).trans (z_aload_n rfl)
theorem mj_109_128 : mc_P 109 128 = some (.getfield 9, 3, 5, 5, 0) := by decide +kernel
theorem s_109_128 {x0 x1 x2 x3 x4 x5 x6 x7 x8 x9 x10 x11 x12 x13 x14 x15 x16 x17 : Option Value} {o : Nat} : mw d 109 Q 128 [x0, x1, x2, x3, x4, x5, x6, x7, x8, x9, x10, x11, x12, x13, x14, x15, x16, x17] (.ref o :: st) h = (mg h o 5 ∧ mw d 109 Q 131 [x0, x1, x2, x3, x4, x5, x6, x7, x8, x9, x10, x11, x12, x13, x14, x15, x16, x17] (va_rf (mh_r h o 5) :: st) h) := (mw_at mj_109_128).trans (z_getr (by decide) (by decide) rfl)
theorem mj_109_131 : mc_P 109 131 = some (.iload_n 1, 1, 0, 0, 0) := by decide +kernel
theorem s_109_131 {x0 x2 x3 x4 x5 x6 x7 x8 x9 x10 x11 x12 x13 x14 x15 x16 x17 : Option Value} {w : Value} : mw d 109 Q 131 [x0, some w, x2, x3, x4, x5, x6, x7, x8, x9, x10, x11, x12, x13, x14, x15, x16, x17] (st) h = mv_i w (mw d 109 Q 132 [x0, some w, x2, x3, x4, x5, x6, x7, x8, x9, x10, x11, x12, x13, x14, x15, x16, x17] (w :: st) h) := (mw_at mj_109_131).trans (z_iload_n rfl)
theorem mj_109_132 : mc_P 109 132 = some (.laload, 1, 0, 0, 0) := by decide +kernel
theorem s_109_132 {x0 x1 x2 x3 x4 x5 x6 x7 x8 x9 x10 x11 x12 x13 x14 x15 x16 x17 : Option Value} {o : Nat} {i : Int32} : mw d 109 Q 132 [x0, x1, x2, x3, x4, x5, x6, x7, x8, x9, x10, x11, x12, x13, x14, x15, x16, x17] (.int i :: .ref o :: st) h = (mg h o 101 ∧ mx i (mh_l h o) ∧ mw d 109 Q 133 [x0, x1, x2, x3, x4, x5, x6, x7, x8, x9, x10, x11, x12, x13, x14, x15, x16, x17] (.long (mh_j h o i.toNatClampNeg) :: st) h) := (mw_at mj_109_132).trans (z_lald)
theorem mj_109_133 : mc_P 109 133 = some (.lstore 10, 2, 0, 0, 0) := by decide +kernel
theorem s_109_133 {x0 x1 x2 x3 x4 x5 x6 x7 x8 x9 x10 x11 x12 x13 x14 x15 x16 x17 : Option Value} {w : Int64} : mw d 109 Q 133 [x0, x1, x2, x3, x4, x5, x6, x7, x8, x9, x10, x11, x12, x13, x14, x15, x16, x17] (.long w :: st) h = mw d 109 Q 135 [x0, x1, x2, x3, x4, x5, x6, x7, x8, mk2 x9, some (.long w), none, x12, x13, x14, x15, x16, x17] (st) h := (mw_at mj_109_133).trans (z_lstore (Nat.le_of_ble_eq_true rfl) (me_s2_mk (j := 9) (w := x9) rfl))
theorem mj_109_135 : mc_P 109 135 = some (.aload_n 0, 1, 0, 0, 0) := by decide +kernel
theorem s_109_135 {x1 x2 x3 x4 x5 x6 x7 x8 x9 x10 x11 x12 x13 x14 x15 x16 x17 : Option Value} {w : Value} : mw d 109 Q 135 [some w, x1, x2, x3, x4, x5, x6, x7, x8, x9, x10, x11, x12, x13, x14, x15, x16, x17] (st) h = mv_a w (mw d 109 Q 136 [some w, x1, x2, x3, x4, x5, x6, x7, x8, x9, x10, x11, x12, x13, x14, x15, x16, x17] (w :: st) h) := (mw_at mj_109_135).trans (z_aload_n rfl)
theorem mj_109_136 : mc_P 109 136 = some (.getfield 15, 3, 5, 6, 0) := by decide +kernel
theorem s_109_136 {x0 x1 x2 x3 x4 x5 x6 x7 x8 x9 x10 x11 x12 x13 x14 x15 x16 x17 : Option Value} {o : Nat} : mw d 109 Q 136 [x0, x1, x2, x3, x4, x5, x6, x7, x8, x9, x10, x11, x12, x13, x14, x15, x16, x17] (.ref o :: st) h = (mg h o 5 ∧ mw d 109 Q 139 [x0, x1, x2, x3, x4, x5, x6, x7, x8, x9, x10, x11, x12, x13, x14, x15, x16, x17] (va_rf (mh_r h o 6) :: st) h) := (mw_at mj_109_136).trans (z_getr (by decide) (by decide) rfl)
theorem mj_109_139 : mc_P 109 139 = some (.iload_n 1, 1, 0, 0, 0) := by decide +kernel
theorem s_109_139 {x0 x2 x3 x4 x5 x6 x7 x8 x9 x10 x11 x12 x13 x14 x15 x16 x17 : Option Value} {w : Value} : mw d 109 Q 139 [x0, some w, x2, x3, x4, x5, x6, x7, x8, x9, x10, x11, x12, x13, x14, x15, x16, x17] (st) h = mv_i w (mw d 109 Q 140 [x0, some w, x2, x3, x4, x5, x6, x7, x8, x9, x10, x11, x12, x13, x14, x15, x16, x17] (w :: st) h) := (mw_at mj_109_139).trans (z_iload_n rfl)
theorem mj_109_140 : mc_P 109 140 = some (.laload, 1, 0, 0, 0) := by decide +kernel
theorem s_109_140 {x0 x1 x2 x3 x4 x5 x6 x7 x8 x9 x10 x11 x12 x13 x14 x15 x16 x17 : Option Value} {o : Nat} {i : Int32} : mw d 109 Q 140 [x0, x1, x2, x3, x4, x5, x6, x7, x8, x9, x10, x11, x12, x13, x14, x15, x16, x17] (.int i :: .ref o :: st) h = (mg h o 101 ∧ mx i (mh_l h o) ∧ mw d 109 Q 141 [x0, x1, x2, x3, x4, x5, x6, x7, x8, x9, x10, x11, x12, x13, x14, x15, x16, x17] (.long (mh_j h o i.toNatClampNeg) :: st) h) := (mw_at mj_109_140).trans (z_lald)
theorem mj_109_141 : mc_P 109 141 = some (.lstore 12, 2, 0, 0, 0) := by decide +kernel
theorem s_109_141 {x0 x1 x2 x3 x4 x5 x6 x7 x8 x9 x10 x11 x12 x13 x14 x15 x16 x17 : Option Value} {w : Int64} : mw d 109 Q 141 [x0, x1, x2, x3, x4, x5, x6, x7, x8, x9, x10, x11, x12, x13, x14, x15, x16, x17] (.long w :: st) h = mw d 109 Q 143 [x0, x1, x2, x3, x4, x5, x6, x7, x8, x9, x10, mk2 x11, some (.long w), none, x14, x15, x16, x17] (st) h := (mw_at mj_109_141).trans (z_lstore (Nat.le_of_ble_eq_true rfl) (me_s2_mk (j := 11) (w := x11) rfl))
theorem mj_109_143 : mc_P 109 143 = some (.lload 10, 2, 0, 0, 0) := by decide +kernel
theorem s_109_143 {x0 x1 x2 x3 x4 x5 x6 x7 x8 x9 x11 x12 x13 x14 x15 x16 x17 : Option Value} {w : Value} : mw d 109 Q 143 [x0, x1, x2, x3, x4, x5, x6, x7, x8, x9, some w, x11, x12, x13, x14, x15, x16, x17] (st) h = mv_l w (mw d 109 Q 145 [x0, x1, x2, x3, x4, x5, x6, x7, x8, x9, some w, x11, x12, x13, x14, x15, x16, x17] (w :: st) h) := (mw_at mj_109_143).trans (z_lload rfl)
theorem mj_109_145 : mc_P 109 145 = some (.lload 12, 2, 0, 0, 0) := by decide +kernel
theorem s_109_145 {x0 x1 x2 x3 x4 x5 x6 x7 x8 x9 x10 x11 x13 x14 x15 x16 x17 : Option Value} {w : Value} : mw d 109 Q 145 [x0, x1, x2, x3, x4, x5, x6, x7, x8, x9, x10, x11, some w, x13, x14, x15, x16, x17] (st) h = mv_l w (mw d 109 Q 147 [x0, x1, x2, x3, x4, x5, x6, x7, x8, x9, x10, x11, some w, x13, x14, x15, x16, x17] (w :: st) h) := (mw_at mj_109_145).trans (z_lload rfl)
theorem mj_109_147 : mc_P 109 147 = some (.lload_n 2, 1, 0, 0, 0) := by decide +kernel
theorem s_109_147 {x0 x1 x3 x4 x5 x6 x7 x8 x9 x10 x11 x12 x13 x14 x15 x16 x17 : Option Value} {w : Value} : mw d 109 Q 147 [x0, x1, some w, x3, x4, x5, x6, x7, x8, x9, x10, x11, x12, x13, x14, x15, x16, x17] (st) h = mv_l w (mw d 109 Q 148 [x0, x1, some w, x3, x4, x5, x6, x7, x8, x9, x10, x11, x12, x13, x14, x15, x16, x17] (w :: st) h) := (mw_at mj_109_147).trans (z_lload_n rfl)
theorem mj_109_148 : mc_P 109 148 = some (.lload 4, 2, 0, 0, 0) := by decide +kernel
theorem s_109_148 {x0 x1 x2 x3 x5 x6 x7 x8 x9 x10 x11 x12 x13 x14 x15 x16 x17 : Option Value} {w : Value} : mw d 109 Q 148 [x0, x1, x2, x3, some w, x5, x6, x7, x8, x9, x10, x11, x12, x13, x14, x15, x16, x17] (st) h = mv_l w (mw d 109 Q 150 [x0, x1, x2, x3, some w, x5, x6, x7, x8, x9, x10, x11, x12, x13, x14, x15, x16, x17] (w :: st) h) := (mw_at mj_109_148).trans (z_lload rfl)
theorem mj_109_150 : mc_P 109 150 = some (.invokestatic 131, 3, 110, 0, 4) := by decide +kernel
theorem s_109_150 {x0 x1 x2 x3 x4 x5 x6 x7 x8 x9 x10 x11 x12 x13 x14 x15 x16 x17 : Option Value} {a0 a1 a2 a3 : Value} : mw (d + 1) 109 Q 150 [x0, x1, x2, x3, x4, x5, x6, x7, x8, x9, x10, x11, x12, x13, x14, x15, x16, x17] (a3 :: a2 :: a1 :: a0 :: st) h = (mca st 8 ∧ mca [a0, a1, a2, a3] 10 ∧ mcall d 110 [a0, a1, a2, a3] h (mK (d + 1) 109 Q 153 [x0, x1, x2, x3, x4, x5, x6, x7, x8, x9, x10, x11, x12, x13, x14, x15, x16, x17] st)) := (mw_at mj_109_150).trans ((z_invs (As := [a0, a1, a2, a3]) rfl rfl).trans (congrArg (And _) (mC_nl nl_110)))
theorem mj_109_153 : mc_P 109 153 = some (.lstore 14, 2, 0, 0, 0) := by decide +kernel
theorem s_109_153 {x0 x1 x2 x3 x4 x5 x6 x7 x8 x9 x10 x11 x12 x13 x14 x15 x16 x17 : Option Value} {w : Int64} : mw d 109 Q 153 [x0, x1, x2, x3, x4, x5, x6, x7, x8, x9, x10, x11, x12, x13, x14, x15, x16, x17] (.long w :: st) h = mw d 109 Q 155 [x0, x1, x2, x3, x4, x5, x6, x7, x8, x9, x10, x11, x12, mk2 x13, some (.long w), none, x16, x17] (st) h := (mw_at mj_109_153).trans (z_lstore (Nat.le_of_ble_eq_true rfl) (me_s2_mk (j := 13) (w := x13) rfl))
theorem mj_109_155 : mc_P 109 155 = some (.lload 10, 2, 0, 0, 0) := by decide +kernel
theorem s_109_155 {x0 x1 x2 x3 x4 x5 x6 x7 x8 x9 x11 x12 x13 x14 x15 x16 x17 : Option Value} {w : Value} : mw d 109 Q 155 [x0, x1, x2, x3, x4, x5, x6, x7, x8, x9, some w, x11, x12, x13, x14, x15, x16, x17] (st) h = mv_l w (mw d 109 Q 157 [x0, x1, x2, x3, x4, x5, x6, x7, x8, x9, some w, x11, x12, x13, x14, x15, x16, x17] (w :: st) h) := (mw_at mj_109_155).trans (z_lload rfl)
theorem mj_109_157 : mc_P 109 157 = some (.lload 12, 2, 0, 0, 0) := by decide +kernel
theorem s_109_157 {x0 x1 x2 x3 x4 x5 x6 x7 x8 x9 x10 x11 x13 x14 x15 x16 x17 : Option Value} {w : Value} : mw d 109 Q 157 [x0, x1, x2, x3, x4, x5, x6, x7, x8, x9, x10, x11, some w, x13, x14, x15, x16, x17] (st) h = mv_l w (mw d 109 Q 159 [x0, x1, x2, x3, x4, x5, x6, x7, x8, x9, x10, x11, some w, x13, x14, x15, x16, x17] (w :: st) h) := (mw_at mj_109_157).trans (z_lload rfl)
theorem mj_109_159 : mc_P 109 159 = some (.lload 6, 2, 0, 0, 0) := by decide +kernel
theorem s_109_159 {x0 x1 x2 x3 x4 x5 x7 x8 x9 x10 x11 x12 x13 x14 x15 x16 x17 : Option Value} {w : Value} : mw d 109 Q 159 [x0, x1, x2, x3, x4, x5, some w, x7, x8, x9, x10, x11, x12, x13, x14, x15, x16, x17] (st) h = mv_l w (mw d 109 Q 161 [x0, x1, x2, x3, x4, x5, some w, x7, x8, x9, x10, x11, x12, x13, x14, x15, x16, x17] (w :: st) h) := (mw_at mj_109_159).trans (z_lload rfl)
theorem mj_109_161 : mc_P 109 161 = some (.lload 8, 2, 0, 0, 0) := by decide +kernel
theorem s_109_161 {x0 x1 x2 x3 x4 x5 x6 x7 x9 x10 x11 x12 x13 x14 x15 x16 x17 : Option Value} {w : Value} : mw d 109 Q 161 [x0, x1, x2, x3, x4, x5, x6, x7, some w, x9, x10, x11, x12, x13, x14, x15, x16, x17] (st) h = mv_l w (mw d 109 Q 163 [x0, x1, x2, x3, x4, x5, x6, x7, some w, x9, x10, x11, x12, x13, x14, x15, x16, x17] (w :: st) h) := (mw_at mj_109_161).trans (z_lload rfl)
theorem mj_109_163 : mc_P 109 163 = some (.invokestatic 131, 3, 110, 0, 4) := by decide +kernel
theorem s_109_163 {x0 x1 x2 x3 x4 x5 x6 x7 x8 x9 x10 x11 x12 x13 x14 x15 x16 x17 : Option Value} {a0 a1 a2 a3 : Value} : mw (d + 1) 109 Q 163 [x0, x1, x2, x3, x4, x5, x6, x7, x8, x9, x10, x11, x12, x13, x14, x15, x16, x17] (a3 :: a2 :: a1 :: a0 :: st) h = (mca st 8 ∧ mca [a0, a1, a2, a3] 10 ∧ mcall d 110 [a0, a1, a2, a3] h (mK (d + 1) 109 Q 166 [x0, x1, x2, x3, x4, x5, x6, x7, x8, x9, x10, x11, x12, x13, x14, x15, x16, x17] st)) := (mw_at mj_109_163).trans ((z_invs (As := [a0, a1, a2, a3]) rfl rfl).trans (congrArg (And _) (mC_nl nl_110)))
theorem mj_109_166 : mc_P 109 166 = some (.lstore 16, 2, 0, 0, 0) := by decide +kernel
theorem s_109_166 {x0 x1 x2 x3 x4 x5 x6 x7 x8 x9 x10 x11 x12 x13 x14 x15 x16 x17 : Option Value} {w : Int64} : mw d 109 Q 166 [x0, x1, x2, x3, x4, x5, x6, x7, x8, x9, x10, x11, x12, x13, x14, x15, x16, x17] (.long w :: st) h = mw d 109 Q 168 [x0, x1, x2, x3, x4, x5, x6, x7, x8, x9, x10, x11, x12, x13, x14, mk2 x15, some (.long w), none] (st) h := (mw_at mj_109_166).trans (z_lstore (Nat.le_of_ble_eq_true rfl) (me_s2_mk (j := 15) (w := x15) rfl))
theorem mj_109_168 : mc_P 109 168 = some (.aload_n 0, 1, 0, 0, 0) := by decide +kernel
theorem s_109_168 {x1 x2 x3 x4 x5 x6 x7 x8 x9 x10 x11 x12 x13 x14 x15 x16 x17 : Option Value} {w : Value} : mw d 109 Q 168 [some w, x1, x2, x3, x4, x5, x6, x7, x8, x9, x10, x11, x12, x13, x14, x15, x16, x17] (st) h = mv_a w (mw d 109 Q 169 [some w, x1, x2, x3, x4, x5, x6, x7, x8, x9, x10, x11, x12, x13, x14, x15, x16, x17] (w :: st) h) := (mw_at mj_109_168).trans (z_aload_n rfl)
theorem mj_109_169 : mc_P 109 169 = some (.getfield 9, 3, 5, 5, 0) := by decide +kernel
theorem s_109_169 {x0 x1 x2 x3 x4 x5 x6 x7 x8 x9 x10 x11 x12 x13 x14 x15 x16 x17 : Option Value} {o : Nat} : mw d 109 Q 169 [x0, x1, x2, x3, x4, x5, x6, x7, x8, x9, x10, x11, x12, x13, x14, x15, x16, x17] (.ref o :: st) h = (mg h o 5 ∧ mw d 109 Q 172 [x0, x1, x2, x3, x4, x5, x6, x7, x8, x9, x10, x11, x12, x13, x14, x15, x16, x17] (va_rf (mh_r h o 5) :: st) h) := (mw_at mj_109_169).trans (z_getr (by decide) (by decide) rfl)
theorem mj_109_172 : mc_P 109 172 = some (.iload_n 1, 1, 0, 0, 0) := by decide +kernel
theorem s_109_172 {x0 x2 x3 x4 x5 x6 x7 x8 x9 x10 x11 x12 x13 x14 x15 x16 x17 : Option Value} {w : Value} : mw d 109 Q 172 [x0, some w, x2, x3, x4, x5, x6, x7, x8, x9, x10, x11, x12, x13, x14, x15, x16, x17] (st) h = mv_i w (mw d 109 Q 173 [x0, some w, x2, x3, x4, x5, x6, x7, x8, x9, x10, x11, x12, x13, x14, x15, x16, x17] (w :: st) h) := (mw_at mj_109_172).trans (z_iload_n rfl)
theorem mj_109_173 : mc_P 109 173 = some (.lload 14, 2, 0, 0, 0) := by decide +kernel
theorem s_109_173 {x0 x1 x2 x3 x4 x5 x6 x7 x8 x9 x10 x11 x12 x13 x15 x16 x17 : Option Value} {w : Value} : mw d 109 Q 173 [x0, x1, x2, x3, x4, x5, x6, x7, x8, x9, x10, x11, x12, x13, some w, x15, x16, x17] (st) h = mv_l w (mw d 109 Q 175 [x0, x1, x2, x3, x4, x5, x6, x7, x8, x9, x10, x11, x12, x13, some w, x15, x16, x17] (w :: st) h) := (mw_at mj_109_173).trans (z_lload rfl)
theorem mj_109_175 : mc_P 109 175 = some (.lload 16, 2, 0, 0, 0) := by decide +kernel
theorem s_109_175 {x0 x1 x2 x3 x4 x5 x6 x7 x8 x9 x10 x11 x12 x13 x14 x15 x17 : Option Value} {w : Value} : mw d 109 Q 175 [x0, x1, x2, x3, x4, x5, x6, x7, x8, x9, x10, x11, x12, x13, x14, x15, some w, x17] (st) h = mv_l w (mw d 109 Q 177 [x0, x1, x2, x3, x4, x5, x6, x7, x8, x9, x10, x11, x12, x13, x14, x15, some w, x17] (w :: st) h) := (mw_at mj_109_175).trans (z_lload rfl)
theorem mj_109_177 : mc_P 109 177 = some (.invokestatic 117, 3, 0, 22, 0) := by decide +kernel
theorem s_109_177 {x0 x1 x2 x3 x4 x5 x6 x7 x8 x9 x10 x11 x12 x13 x14 x15 x16 x17 : Option Value} {x w : Int64} : mw d 109 Q 177 [x0, x1, x2, x3, x4, x5, x6, x7, x8, x9, x10, x11, x12, x13, x14, x15, x16, x17] (.long w :: .long x :: st) h = (mca st 8 ∧ mw d 109 Q 180 [x0, x1, x2, x3, x4, x5, x6, x7, x8, x9, x10, x11, x12, x13, x14, x15, x16, x17] (.long (if w < x then w else x) :: st) h) := (mw_at mj_109_177).trans (z_lmin)
theorem mj_109_180 : mc_P 109 180 = some (.lastore, 1, 0, 0, 0) := by decide +kernel
theorem s_109_180 {x0 x1 x2 x3 x4 x5 x6 x7 x8 x9 x10 x11 x12 x13 x14 x15 x16 x17 : Option Value} {o : Nat} {i : Int32} {w : Int64} : mw d 109 Q 180 [x0, x1, x2, x3, x4, x5, x6, x7, x8, x9, x10, x11, x12, x13, x14, x15, x16, x17] (.long w :: .int i :: .ref o :: st) h = (mg h o 101 ∧ mx i (mh_l h o) ∧ mw d 109 Q 181 [x0, x1, x2, x3, x4, x5, x6, x7, x8, x9, x10, x11, x12, x13, x14, x15, x16, x17] (st) (mh_sj h o i.toNatClampNeg w)) := (mw_at mj_109_180).trans (z_last)
theorem mj_109_181 : mc_P 109 181 = some (.lload 12, 2, 0, 0, 0) := by decide +kernel
theorem s_109_181 {x0 x1 x2 x3 x4 x5 x6 x7 x8 x9 x10 x11 x13 x14 x15 x16 x17 : Option Value} {w : Value} : mw d 109 Q 181 [x0, x1, x2, x3, x4, x5, x6, x7, x8, x9, x10, x11, some w, x13, x14, x15, x16, x17] (st) h = mv_l w (mw d 109 Q 183 [x0, x1, x2, x3, x4, x5, x6, x7, x8, x9, x10, x11, some w, x13, x14, x15, x16, x17] (w :: st) h) := (mw_at mj_109_181).trans (z_lload rfl)
theorem mj_109_183 : mc_P 109 183 = some (.lneg, 1, 0, 0, 0) := by decide +kernel
theorem s_109_183 {x0 x1 x2 x3 x4 x5 x6 x7 x8 x9 x10 x11 x12 x13 x14 x15 x16 x17 : Option Value} {x : Int64} : mw d 109 Q 183 [x0, x1, x2, x3, x4, x5, x6, x7, x8, x9, x10, x11, x12, x13, x14, x15, x16, x17] (.long x :: st) h = mw d 109 Q 184 [x0, x1, x2, x3, x4, x5, x6, x7, x8, x9, x10, x11, x12, x13, x14, x15, x16, x17] (.long (-x) :: st) h := (mw_at mj_109_183).trans (z_lneg)
theorem mj_109_184 : mc_P 109 184 = some (.lload 10, 2, 0, 0, 0) := by decide +kernel
theorem s_109_184 {x0 x1 x2 x3 x4 x5 x6 x7 x8 x9 x11 x12 x13 x14 x15 x16 x17 : Option Value} {w : Value} : mw d 109 Q 184 [x0, x1, x2, x3, x4, x5, x6, x7, x8, x9, some w, x11, x12, x13, x14, x15, x16, x17] (st) h = mv_l w (mw d 109 Q 186 [x0, x1, x2, x3, x4, x5, x6, x7, x8, x9, some w, x11, x12, x13, x14, x15, x16, x17] (w :: st) h) := (mw_at mj_109_184).trans (z_lload rfl)
theorem mj_109_186 : mc_P 109 186 = some (.lneg, 1, 0, 0, 0) := by decide +kernel
theorem s_109_186 {x0 x1 x2 x3 x4 x5 x6 x7 x8 x9 x10 x11 x12 x13 x14 x15 x16 x17 : Option Value} {x : Int64} : mw d 109 Q 186 [x0, x1, x2, x3, x4, x5, x6, x7, x8, x9, x10, x11, x12, x13, x14, x15, x16, x17] (.long x :: st) h = mw d 109 Q 187 [x0, x1, x2, x3, x4, x5, x6, x7, x8, x9, x10, x11, x12, x13, x14, x15, x16, x17] (.long (-x) :: st) h := (mw_at mj_109_186).trans (z_lneg)
theorem mj_109_187 : mc_P 109 187 = some (.lload_n 2, 1, 0, 0, 0) := by decide +kernel
theorem s_109_187 {x0 x1 x3 x4 x5 x6 x7 x8 x9 x10 x11 x12 x13 x14 x15 x16 x17 : Option Value} {w : Value} : mw d 109 Q 187 [x0, x1, some w, x3, x4, x5, x6, x7, x8, x9, x10, x11, x12, x13, x14, x15, x16, x17] (st) h = mv_l w (mw d 109 Q 188 [x0, x1, some w, x3, x4, x5, x6, x7, x8, x9, x10, x11, x12, x13, x14, x15, x16, x17] (w :: st) h) := (mw_at mj_109_187).trans (z_lload_n rfl)
theorem mj_109_188 : mc_P 109 188 = some (.lload 4, 2, 0, 0, 0) := by decide +kernel
theorem s_109_188 {x0 x1 x2 x3 x5 x6 x7 x8 x9 x10 x11 x12 x13 x14 x15 x16 x17 : Option Value} {w : Value} : mw d 109 Q 188 [x0, x1, x2, x3, some w, x5, x6, x7, x8, x9, x10, x11, x12, x13, x14, x15, x16, x17] (st) h = mv_l w (mw d 109 Q 190 [x0, x1, x2, x3, some w, x5, x6, x7, x8, x9, x10, x11, x12, x13, x14, x15, x16, x17] (w :: st) h) := (mw_at mj_109_188).trans (z_lload rfl)
theorem mj_109_190 : mc_P 109 190 = some (.invokestatic 131, 3, 110, 0, 4) := by decide +kernel
theorem s_109_190 {x0 x1 x2 x3 x4 x5 x6 x7 x8 x9 x10 x11 x12 x13 x14 x15 x16 x17 : Option Value} {a0 a1 a2 a3 : Value} : mw (d + 1) 109 Q 190 [x0, x1, x2, x3, x4, x5, x6, x7, x8, x9, x10, x11, x12, x13, x14, x15, x16, x17] (a3 :: a2 :: a1 :: a0 :: st) h = (mca st 8 ∧ mca [a0, a1, a2, a3] 10 ∧ mcall d 110 [a0, a1, a2, a3] h (mK (d + 1) 109 Q 193 [x0, x1, x2, x3, x4, x5, x6, x7, x8, x9, x10, x11, x12, x13, x14, x15, x16, x17] st)) := (mw_at mj_109_190).trans ((z_invs (As := [a0, a1, a2, a3]) rfl rfl).trans (congrArg (And _) (mC_nl nl_110)))
theorem mj_109_193 : mc_P 109 193 = some (.lstore 14, 2, 0, 0, 0) := by decide +kernel
theorem s_109_193 {x0 x1 x2 x3 x4 x5 x6 x7 x8 x9 x10 x11 x12 x13 x14 x15 x16 x17 : Option Value} {w : Int64} : mw d 109 Q 193 [x0, x1, x2, x3, x4, x5, x6, x7, x8, x9, x10, x11, x12, x13, x14, x15, x16, x17] (.long w :: st) h = mw d 109 Q 195 [x0, x1, x2, x3, x4, x5, x6, x7, x8, x9, x10, x11, x12, mk2 x13, some (.long w), none, x16, x17] (st) h := (mw_at mj_109_193).trans (z_lstore (Nat.le_of_ble_eq_true rfl) (me_s2_mk (j := 13) (w := x13) rfl))
theorem mj_109_195 : mc_P 109 195 = some (.lload 12, 2, 0, 0, 0) := by decide +kernel
theorem s_109_195 {x0 x1 x2 x3 x4 x5 x6 x7 x8 x9 x10 x11 x13 x14 x15 x16 x17 : Option Value} {w : Value} : mw d 109 Q 195 [x0, x1, x2, x3, x4, x5, x6, x7, x8, x9, x10, x11, some w, x13, x14, x15, x16, x17] (st) h = mv_l w (mw d 109 Q 197 [x0, x1, x2, x3, x4, x5, x6, x7, x8, x9, x10, x11, some w, x13, x14, x15, x16, x17] (w :: st) h) := (mw_at mj_109_195).trans (z_lload rfl)
theorem mj_109_197 : mc_P 109 197 = some (.lneg, 1, 0, 0, 0) := by decide +kernel
theorem s_109_197 {x0 x1 x2 x3 x4 x5 x6 x7 x8 x9 x10 x11 x12 x13 x14 x15 x16 x17 : Option Value} {x : Int64} : mw d 109 Q 197 [x0, x1, x2, x3, x4, x5, x6, x7, x8, x9, x10, x11, x12, x13, x14, x15, x16, x17] (.long x :: st) h = mw d 109 Q 198 [x0, x1, x2, x3, x4, x5, x6, x7, x8, x9, x10, x11, x12, x13, x14, x15, x16, x17] (.long (-x) :: st) h := (mw_at mj_109_197).trans (z_lneg)
theorem mj_109_198 : mc_P 109 198 = some (.lload 10, 2, 0, 0, 0) := by decide +kernel
theorem s_109_198 {x0 x1 x2 x3 x4 x5 x6 x7 x8 x9 x11 x12 x13 x14 x15 x16 x17 : Option Value} {w : Value} : mw d 109 Q 198 [x0, x1, x2, x3, x4, x5, x6, x7, x8, x9, some w, x11, x12, x13, x14, x15, x16, x17] (st) h = mv_l w (mw d 109 Q 200 [x0, x1, x2, x3, x4, x5, x6, x7, x8, x9, some w, x11, x12, x13, x14, x15, x16, x17] (w :: st) h) := (mw_at mj_109_198).trans (z_lload rfl)
theorem mj_109_200 : mc_P 109 200 = some (.lneg, 1, 0, 0, 0) := by decide +kernel
theorem s_109_200 {x0 x1 x2 x3 x4 x5 x6 x7 x8 x9 x10 x11 x12 x13 x14 x15 x16 x17 : Option Value} {x : Int64} : mw d 109 Q 200 [x0, x1, x2, x3, x4, x5, x6, x7, x8, x9, x10, x11, x12, x13, x14, x15, x16, x17] (.long x :: st) h = mw d 109 Q 201 [x0, x1, x2, x3, x4, x5, x6, x7, x8, x9, x10, x11, x12, x13, x14, x15, x16, x17] (.long (-x) :: st) h := (mw_at mj_109_200).trans (z_lneg)
theorem mj_109_201 : mc_P 109 201 = some (.lload 6, 2, 0, 0, 0) := by decide +kernel
theorem s_109_201 {x0 x1 x2 x3 x4 x5 x7 x8 x9 x10 x11 x12 x13 x14 x15 x16 x17 : Option Value} {w : Value} : mw d 109 Q 201 [x0, x1, x2, x3, x4, x5, some w, x7, x8, x9, x10, x11, x12, x13, x14, x15, x16, x17] (st) h = mv_l w (mw d 109 Q 203 [x0, x1, x2, x3, x4, x5, some w, x7, x8, x9, x10, x11, x12, x13, x14, x15, x16, x17] (w :: st) h) := (mw_at mj_109_201).trans (z_lload rfl)
theorem mj_109_203 : mc_P 109 203 = some (.lload 8, 2, 0, 0, 0) := by decide +kernel
theorem s_109_203 {x0 x1 x2 x3 x4 x5 x6 x7 x9 x10 x11 x12 x13 x14 x15 x16 x17 : Option Value} {w : Value} : mw d 109 Q 203 [x0, x1, x2, x3, x4, x5, x6, x7, some w, x9, x10, x11, x12, x13, x14, x15, x16, x17] (st) h = mv_l w (mw d 109 Q 205 [x0, x1, x2, x3, x4, x5, x6, x7, some w, x9, x10, x11, x12, x13, x14, x15, x16, x17] (w :: st) h) := (mw_at mj_109_203).trans (z_lload rfl)
theorem mj_109_205 : mc_P 109 205 = some (.invokestatic 131, 3, 110, 0, 4) := by decide +kernel
theorem s_109_205 {x0 x1 x2 x3 x4 x5 x6 x7 x8 x9 x10 x11 x12 x13 x14 x15 x16 x17 : Option Value} {a0 a1 a2 a3 : Value} : mw (d + 1) 109 Q 205 [x0, x1, x2, x3, x4, x5, x6, x7, x8, x9, x10, x11, x12, x13, x14, x15, x16, x17] (a3 :: a2 :: a1 :: a0 :: st) h = (mca st 8 ∧ mca [a0, a1, a2, a3] 10 ∧ mcall d 110 [a0, a1, a2, a3] h (mK (d + 1) 109 Q 208 [x0, x1, x2, x3, x4, x5, x6, x7, x8, x9, x10, x11, x12, x13, x14, x15, x16, x17] st)) := (mw_at mj_109_205).trans ((z_invs (As := [a0, a1, a2, a3]) rfl rfl).trans (congrArg (And _) (mC_nl nl_110)))
theorem mj_109_208 : mc_P 109 208 = some (.lstore 16, 2, 0, 0, 0) := by decide +kernel
theorem s_109_208 {x0 x1 x2 x3 x4 x5 x6 x7 x8 x9 x10 x11 x12 x13 x14 x15 x16 x17 : Option Value} {w : Int64} : mw d 109 Q 208 [x0, x1, x2, x3, x4, x5, x6, x7, x8, x9, x10, x11, x12, x13, x14, x15, x16, x17] (.long w :: st) h = mw d 109 Q 210 [x0, x1, x2, x3, x4, x5, x6, x7, x8, x9, x10, x11, x12, x13, x14, mk2 x15, some (.long w), none] (st) h := (mw_at mj_109_208).trans (z_lstore (Nat.le_of_ble_eq_true rfl) (me_s2_mk (j := 15) (w := x15) rfl))
theorem mj_109_210 : mc_P 109 210 = some (.aload_n 0, 1, 0, 0, 0) := by decide +kernel
theorem s_109_210 {x1 x2 x3 x4 x5 x6 x7 x8 x9 x10 x11 x12 x13 x14 x15 x16 x17 : Option Value} {w : Value} : mw d 109 Q 210 [some w, x1, x2, x3, x4, x5, x6, x7, x8, x9, x10, x11, x12, x13, x14, x15, x16, x17] (st) h = mv_a w (mw d 109 Q 211 [some w, x1, x2, x3, x4, x5, x6, x7, x8, x9, x10, x11, x12, x13, x14, x15, x16, x17] (w :: st) h) := (mw_at mj_109_210).trans (z_aload_n rfl)
theorem mj_109_211 : mc_P 109 211 = some (.getfield 15, 3, 5, 6, 0) := by decide +kernel
theorem s_109_211 {x0 x1 x2 x3 x4 x5 x6 x7 x8 x9 x10 x11 x12 x13 x14 x15 x16 x17 : Option Value} {o : Nat} : mw d 109 Q 211 [x0, x1, x2, x3, x4, x5, x6, x7, x8, x9, x10, x11, x12, x13, x14, x15, x16, x17] (.ref o :: st) h = (mg h o 5 ∧ mw d 109 Q 214 [x0, x1, x2, x3, x4, x5, x6, x7, x8, x9, x10, x11, x12, x13, x14, x15, x16, x17] (va_rf (mh_r h o 6) :: st) h) := (mw_at mj_109_211).trans (z_getr (by decide) (by decide) rfl)
theorem mj_109_214 : mc_P 109 214 = some (.iload_n 1, 1, 0, 0, 0) := by decide +kernel
theorem s_109_214 {x0 x2 x3 x4 x5 x6 x7 x8 x9 x10 x11 x12 x13 x14 x15 x16 x17 : Option Value} {w : Value} : mw d 109 Q 214 [x0, some w, x2, x3, x4, x5, x6, x7, x8, x9, x10, x11, x12, x13, x14, x15, x16, x17] (st) h = mv_i w (mw d 109 Q 215 [x0, some w, x2, x3, x4, x5, x6, x7, x8, x9, x10, x11, x12, x13, x14, x15, x16, x17] (w :: st) h) := (mw_at mj_109_214).trans (z_iload_n rfl)
theorem mj_109_215 : mc_P 109 215 = some (.lload 14, 2, 0, 0, 0) := by decide +kernel
theorem s_109_215 {x0 x1 x2 x3 x4 x5 x6 x7 x8 x9 x10 x11 x12 x13 x15 x16 x17 : Option Value} {w : Value} : mw d 109 Q 215 [x0, x1, x2, x3, x4, x5, x6, x7, x8, x9, x10, x11, x12, x13, some w, x15, x16, x17] (st) h = mv_l w (mw d 109 Q 217 [x0, x1, x2, x3, x4, x5, x6, x7, x8, x9, x10, x11, x12, x13, some w, x15, x16, x17] (w :: st) h) := (mw_at mj_109_215).trans (z_lload rfl)
theorem mj_109_217 : mc_P 109 217 = some (.lload 16, 2, 0, 0, 0) := by decide +kernel
theorem s_109_217 {x0 x1 x2 x3 x4 x5 x6 x7 x8 x9 x10 x11 x12 x13 x14 x15 x17 : Option Value} {w : Value} : mw d 109 Q 217 [x0, x1, x2, x3, x4, x5, x6, x7, x8, x9, x10, x11, x12, x13, x14, x15, some w, x17] (st) h = mv_l w (mw d 109 Q 219 [x0, x1, x2, x3, x4, x5, x6, x7, x8, x9, x10, x11, x12, x13, x14, x15, some w, x17] (w :: st) h) := (mw_at mj_109_217).trans (z_lload rfl)
theorem mj_109_219 : mc_P 109 219 = some (.invokestatic 117, 3, 0, 22, 0) := by decide +kernel
theorem s_109_219 {x0 x1 x2 x3 x4 x5 x6 x7 x8 x9 x10 x11 x12 x13 x14 x15 x16 x17 : Option Value} {x w : Int64} : mw d 109 Q 219 [x0, x1, x2, x3, x4, x5, x6, x7, x8, x9, x10, x11, x12, x13, x14, x15, x16, x17] (.long w :: .long x :: st) h = (mca st 8 ∧ mw d 109 Q 222 [x0, x1, x2, x3, x4, x5, x6, x7, x8, x9, x10, x11, x12, x13, x14, x15, x16, x17] (.long (if w < x then w else x) :: st) h) := (mw_at mj_109_219).trans (z_lmin)
theorem mj_109_222 : mc_P 109 222 = some (.lneg, 1, 0, 0, 0) := by decide +kernel
theorem s_109_222 {x0 x1 x2 x3 x4 x5 x6 x7 x8 x9 x10 x11 x12 x13 x14 x15 x16 x17 : Option Value} {x : Int64} : mw d 109 Q 222 [x0, x1, x2, x3, x4, x5, x6, x7, x8, x9, x10, x11, x12, x13, x14, x15, x16, x17] (.long x :: st) h = mw d 109 Q 223 [x0, x1, x2, x3, x4, x5, x6, x7, x8, x9, x10, x11, x12, x13, x14, x15, x16, x17] (.long (-x) :: st) h := (mw_at mj_109_222).trans (z_lneg)
theorem mj_109_223 : mc_P 109 223 = some (.lastore, 1, 0, 0, 0) := by decide +kernel
theorem s_109_223 {x0 x1 x2 x3 x4 x5 x6 x7 x8 x9 x10 x11 x12 x13 x14 x15 x16 x17 : Option Value} {o : Nat} {i : Int32} {w : Int64} : mw d 109 Q 223 [x0, x1, x2, x3, x4, x5, x6, x7, x8, x9, x10, x11, x12, x13, x14, x15, x16, x17] (.long w :: .int i :: .ref o :: st) h = (mg h o 101 ∧ mx i (mh_l h o) ∧ mw d 109 Q 224 [x0, x1, x2, x3, x4, x5, x6, x7, x8, x9, x10, x11, x12, x13, x14, x15, x16, x17] (st) (mh_sj h o i.toNatClampNeg w)) := (mw_at mj_109_223).trans (z_last)
theorem mj_109_224 : mc_P 109 224 = some (.iconst 1, 1, 0, 0, 0) := by decide +kernel
theorem s_109_224 {x0 x1 x2 x3 x4 x5 x6 x7 x8 x9 x10 x11 x12 x13 x14 x15 x16 x17 : Option Value} : mw d 109 Q 224 [x0, x1, x2, x3, x4, x5, x6, x7, x8, x9, x10, x11, x12, x13, x14, x15, x16, x17] (st) h = mw d 109 Q 225 [x0, x1, x2, x3, x4, x5, x6, x7, x8, x9, x10, x11, x12, x13, x14, x15, x16, x17] (.int 1 :: st) h := (mw_at mj_109_224).trans (z_iconst (by decide))
theorem mj_109_225 : mc_P 109 225 = some (.ireturn, 1, 0, 3, 0) := by decide +kernel
theorem s_109_225 {x0 x1 x2 x3 x4 x5 x6 x7 x8 x9 x10 x11 x12 x13 x14 x15 x16 x17 : Option Value} {x : Int32} : mw d 109 Q 225 [x0, x1, x2, x3, x4, x5, x6, x7, x8, x9, x10, x11, x12, x13, x14, x15, x16, x17] ([.int x]) h = ((x = 0 ∨ x = 1) ∧ Q (some (.int x)) h) := (mw_at mj_109_225).trans (z_zret)
theorem e_109 {a0 : Nat} : mcall d 109 [.ref a0] h Q = mw d 109 Q 0 [some (.ref a0), none, none, none, none, none, none, none, none, none, none, none, none, none, none, none, none, none] [] h := by
  show mw d 109 Q 0 (me_en (mc_nl 109) _) [] h = _
  rw [nl_109]; rfl

/-! InvariantDesk$Ranges.leastBy(JJJJ)J -/
theorem mj_110_0 : mc_P 110 0 = some (.lload 4, 2, 0, 0, 0) := by decide +kernel
theorem s_110_0 {x0 x1 x2 x3 x5 x6 x7 x8 x9 : Option Value} {w : Value} : mw d 110 Q 0 [x0, x1, x2, x3, some w, x5, x6, x7, x8, x9] (st) h = mv_l w (mw d 110 Q 2 [x0, x1, x2, x3, some w, x5, x6, x7, x8, x9] (w :: st) h) := (mw_at mj_110_0).trans (z_lload rfl)
theorem mj_110_2 : mc_P 110 2 = some (.lconst 0, 1, 0, 0, 0) := by decide +kernel
theorem s_110_2 {x0 x1 x2 x3 x4 x5 x6 x7 x8 x9 : Option Value} : mw d 110 Q 2 [x0, x1, x2, x3, x4, x5, x6, x7, x8, x9] (st) h = mw d 110 Q 3 [x0, x1, x2, x3, x4, x5, x6, x7, x8, x9] (.long 0 :: st) h := (mw_at mj_110_2).trans (z_lconst (by decide))
theorem mj_110_3 : mc_P 110 3 = some (.lcmp, 1, 0, 0, 0) := by decide +kernel
theorem s_110_3 {x0 x1 x2 x3 x4 x5 x6 x7 x8 x9 : Option Value} {x w : Int64} : mw d 110 Q 3 [x0, x1, x2, x3, x4, x5, x6, x7, x8, x9] (.long w :: .long x :: st) h = mw d 110 Q 4 [x0, x1, x2, x3, x4, x5, x6, x7, x8, x9] (.int (lg_cmp x w) :: st) h := (mw_at mj_110_3).trans (z_lcmp)
theorem mj_110_4 : mc_P 110 4 = some (.ifCond .eq 10, 3, 0, 0, 0) := by decide +kernel
theorem s_110_4 {x0 x1 x2 x3 x4 x5 x6 x7 x8 x9 : Option Value} {x : Int32} : mw d 110 Q 4 [x0, x1, x2, x3, x4, x5, x6, x7, x8, x9] (.int x :: st) h = mB (x = 0) (mw d 110 Q) 14 7 [x0, x1, x2, x3, x4, x5, x6, x7, x8, x9] st h := (mw_at mj_110_4).trans (z_if_eq (by decide) rfl)
theorem mj_110_7 : mc_P 110 7 = some (.lload 6, 2, 0, 0, 0) := by decide +kernel
theorem s_110_7 {x0 x1 x2 x3 x4 x5 x7 x8 x9 : Option Value} {w : Value} : mw d 110 Q 7 [x0, x1, x2, x3, x4, x5, some w, x7, x8, x9] (st) h = mv_l w (mw d 110 Q 9 [x0, x1, x2, x3, x4, x5, some w, x7, x8, x9] (w :: st) h) := (mw_at mj_110_7).trans (z_lload rfl)
theorem mj_110_9 : mc_P 110 9 = some (.lconst 0, 1, 0, 0, 0) := by decide +kernel
theorem s_110_9 {x0 x1 x2 x3 x4 x5 x6 x7 x8 x9 : Option Value} : mw d 110 Q 9 [x0, x1, x2, x3, x4, x5, x6, x7, x8, x9] (st) h = mw d 110 Q 10 [x0, x1, x2, x3, x4, x5, x6, x7, x8, x9] (.long 0 :: st) h := (mw_at mj_110_9).trans (z_lconst (by decide))
theorem mj_110_10 : mc_P 110 10 = some (.lcmp, 1, 0, 0, 0) := by decide +kernel
theorem s_110_10 {x0 x1 x2 x3 x4 x5 x6 x7 x8 x9 : Option Value} {x w : Int64} : mw d 110 Q 10 [x0, x1, x2, x3, x4, x5, x6, x7, x8, x9] (.long w :: .long x :: st) h = mw d 110 Q 11 [x0, x1, x2, x3, x4, x5, x6, x7, x8, x9] (.int (lg_cmp x w) :: st) h := (mw_at mj_110_10).trans (z_lcmp)
theorem mj_110_11 : mc_P 110 11 = some (.ifCond .ne 5, 3, 0, 0, 0) := by decide +kernel
theorem s_110_11 {x0 x1 x2 x3 x4 x5 x6 x7 x8 x9 : Option Value} {x : Int32} : mw d 110 Q 11 [x0, x1, x2, x3, x4, x5, x6, x7, x8, x9] (.int x :: st) h = mB (¬ x = 0) (mw d 110 Q) 16 14 [x0, x1, x2, x3, x4, x5, x6, x7, x8, x9] st h := (mw_at mj_110_11).trans (z_if_ne (by decide) rfl)
theorem mj_110_14 : mc_P 110 14 = some (.lconst 0, 1, 0, 0, 0) := by decide +kernel
theorem s_110_14 {x0 x1 x2 x3 x4 x5 x6 x7 x8 x9 : Option Value} : mw d 110 Q 14 [x0, x1, x2, x3, x4, x5, x6, x7, x8, x9] (st) h = mw d 110 Q 15 [x0, x1, x2, x3, x4, x5, x6, x7, x8, x9] (.long 0 :: st) h := (mw_at mj_110_14).trans (z_lconst (by decide))
theorem mj_110_15 : mc_P 110 15 = some (.lreturn, 1, 0, 0, 0) := by decide +kernel
theorem s_110_15 {x0 x1 x2 x3 x4 x5 x6 x7 x8 x9 : Option Value} {x : Int64} : mw d 110 Q 15 [x0, x1, x2, x3, x4, x5, x6, x7, x8, x9] ([.long x]) h = Q (some (.long x)) h := (mw_at mj_110_15).trans (z_lret)
theorem mj_110_16 : mc_P 110 16 = some (.lload_n 0, 1, 0, 0, 0) := by decide +kernel
theorem s_110_16 {x1 x2 x3 x4 x5 x6 x7 x8 x9 : Option Value} {w : Value} : mw d 110 Q 16 [some w, x1, x2, x3, x4, x5, x6, x7, x8, x9] (st) h = mv_l w (mw d 110 Q 17 [some w, x1, x2, x3, x4, x5, x6, x7, x8, x9] (w :: st) h) := (mw_at mj_110_16).trans (z_lload_n rfl)
theorem mj_110_17 : mc_P 110 17 = some (.lload 4, 2, 0, 0, 0) := by decide +kernel
theorem s_110_17 {x0 x1 x2 x3 x5 x6 x7 x8 x9 : Option Value} {w : Value} : mw d 110 Q 17 [x0, x1, x2, x3, some w, x5, x6, x7, x8, x9] (st) h = mv_l w (mw d 110 Q 19 [x0, x1, x2, x3, some w, x5, x6, x7, x8, x9] (w :: st) h) := (mw_at mj_110_17).trans (z_lload rfl)
theorem mj_110_19 : mc_P 110 19 = some (.ldiv, 1, 0, 0, 0) := by decide +kernel
theorem s_110_19 {x0 x1 x2 x3 x4 x5 x6 x7 x8 x9 : Option Value} {x w : Int64} : mw d 110 Q 19 [x0, x1, x2, x3, x4, x5, x6, x7, x8, x9] (.long w :: .long x :: st) h = (¬ w = 0 ∧ mw d 110 Q 20 [x0, x1, x2, x3, x4, x5, x6, x7, x8, x9] (.long (x / w) :: st) h) := (mw_at mj_110_19).trans (z_ldiv)
theorem mj_110_20 : mc_P 110 20 = some (.lload_n 2, 1, 0, 0, 0) := by decide +kernel
theorem s_110_20 {x0 x1 x3 x4 x5 x6 x7 x8 x9 : Option Value} {w : Value} : mw d 110 Q 20 [x0, x1, some w, x3, x4, x5, x6, x7, x8, x9] (st) h = mv_l w (mw d 110 Q 21 [x0, x1, some w, x3, x4, x5, x6, x7, x8, x9] (w :: st) h) := (mw_at mj_110_20).trans (z_lload_n rfl)
theorem mj_110_21 : mc_P 110 21 = some (.lload 4, 2, 0, 0, 0) := by decide +kernel
theorem s_110_21 {x0 x1 x2 x3 x5 x6 x7 x8 x9 : Option Value} {w : Value} : mw d 110 Q 21 [x0, x1, x2, x3, some w, x5, x6, x7, x8, x9] (st) h = mv_l w (mw d 110 Q 23 [x0, x1, x2, x3, some w, x5, x6, x7, x8, x9] (w :: st) h) := (mw_at mj_110_21).trans (z_lload rfl)
theorem mj_110_23 : mc_P 110 23 = some (.ldiv, 1, 0, 0, 0) := by decide +kernel
theorem s_110_23 {x0 x1 x2 x3 x4 x5 x6 x7 x8 x9 : Option Value} {x w : Int64} : mw d 110 Q 23 [x0, x1, x2, x3, x4, x5, x6, x7, x8, x9] (.long w :: .long x :: st) h = (¬ w = 0 ∧ mw d 110 Q 24 [x0, x1, x2, x3, x4, x5, x6, x7, x8, x9] (.long (x / w) :: st) h) := (mw_at mj_110_23).trans (z_ldiv)
theorem mj_110_24 : mc_P 110 24 = some (.invokestatic 117, 3, 0, 22, 0) := by decide +kernel
theorem s_110_24 {x0 x1 x2 x3 x4 x5 x6 x7 x8 x9 : Option Value} {x w : Int64} : mw d 110 Q 24 [x0, x1, x2, x3, x4, x5, x6, x7, x8, x9] (.long w :: .long x :: st) h = (mca st 8 ∧ mw d 110 Q 27 [x0, x1, x2, x3, x4, x5, x6, x7, x8, x9] (.long (if w < x then w else x) :: st) h) := (mw_at mj_110_24).trans (z_lmin)
theorem mj_110_27 : mc_P 110 27 = some (.lstore 8, 2, 0, 0, 0) := by decide +kernel
theorem s_110_27 {x0 x1 x2 x3 x4 x5 x6 x7 x8 x9 : Option Value} {w : Int64} : mw d 110 Q 27 [x0, x1, x2, x3, x4, x5, x6, x7, x8, x9] (.long w :: st) h = mw d 110 Q 29 [x0, x1, x2, x3, x4, x5, x6, mk2 x7, some (.long w), none] (st) h := (mw_at mj_110_27).trans (z_lstore (Nat.le_of_ble_eq_true rfl) (me_s2_mk (j := 7) (w := x7) rfl))
theorem mj_110_29 : mc_P 110 29 = some (.lload 8, 2, 0, 0, 0) := by decide +kernel
theorem s_110_29 {x0 x1 x2 x3 x4 x5 x6 x7 x9 : Option Value} {w : Value} : mw d 110 Q 29 [x0, x1, x2, x3, x4, x5, x6, x7, some w, x9] (st) h = mv_l w (mw d 110 Q 31 [x0, x1, x2, x3, x4, x5, x6, x7, some w, x9] (w :: st) h) := (mw_at mj_110_29).trans (z_lload rfl)
theorem mj_110_31 : mc_P 110 31 = some (.lload_n 0, 1, 0, 0, 0) := by decide +kernel
theorem s_110_31 {x1 x2 x3 x4 x5 x6 x7 x8 x9 : Option Value} {w : Value} : mw d 110 Q 31 [some w, x1, x2, x3, x4, x5, x6, x7, x8, x9] (st) h = mv_l w (mw d 110 Q 32 [some w, x1, x2, x3, x4, x5, x6, x7, x8, x9] (w :: st) h) := (mw_at mj_110_31).trans (z_lload_n rfl)
theorem mj_110_32 : mc_P 110 32 = some (.lload 6, 2, 0, 0, 0) := by decide +kernel
theorem s_110_32 {x0 x1 x2 x3 x4 x5 x7 x8 x9 : Option Value} {w : Value} : mw d 110 Q 32 [x0, x1, x2, x3, x4, x5, some w, x7, x8, x9] (st) h = mv_l w (mw d 110 Q 34 [x0, x1, x2, x3, x4, x5, some w, x7, x8, x9] (w :: st) h) := (mw_at mj_110_32).trans (z_lload rfl)
theorem mj_110_34 : mc_P 110 34 = some (.ldiv, 1, 0, 0, 0) := by decide +kernel
theorem s_110_34 {x0 x1 x2 x3 x4 x5 x6 x7 x8 x9 : Option Value} {x w : Int64} : mw d 110 Q 34 [x0, x1, x2, x3, x4, x5, x6, x7, x8, x9] (.long w :: .long x :: st) h = (¬ w = 0 ∧ mw d 110 Q 35 [x0, x1, x2, x3, x4, x5, x6, x7, x8, x9] (.long (x / w) :: st) h) := (mw_at mj_110_34).trans (z_ldiv)
theorem mj_110_35 : mc_P 110 35 = some (.lload_n 2, 1, 0, 0, 0) := by decide +kernel
theorem s_110_35 {x0 x1 x3 x4 x5 x6 x7 x8 x9 : Option Value} {w : Value} : mw d 110 Q 35 [x0, x1, some w, x3, x4, x5, x6, x7, x8, x9] (st) h = mv_l w (mw d 110 Q 36 [x0, x1, some w, x3, x4, x5, x6, x7, x8, x9] (w :: st) h) := (mw_at mj_110_35).trans (z_lload_n rfl)
theorem mj_110_36 : mc_P 110 36 = some (.lload 6, 2, 0, 0, 0) := by decide +kernel
theorem s_110_36 {x0 x1 x2 x3 x4 x5 x7 x8 x9 : Option Value} {w : Value} : mw d 110 Q 36 [x0, x1, x2, x3, x4, x5, some w, x7, x8, x9] (st) h = mv_l w (mw d 110 Q 38 [x0, x1, x2, x3, x4, x5, some w, x7, x8, x9] (w :: st) h) := (mw_at mj_110_36).trans (z_lload rfl)
theorem mj_110_38 : mc_P 110 38 = some (.ldiv, 1, 0, 0, 0) := by decide +kernel
theorem s_110_38 {x0 x1 x2 x3 x4 x5 x6 x7 x8 x9 : Option Value} {x w : Int64} : mw d 110 Q 38 [x0, x1, x2, x3, x4, x5, x6, x7, x8, x9] (.long w :: .long x :: st) h = (¬ w = 0 ∧ mw d 110 Q 39 [x0, x1, x2, x3, x4, x5, x6, x7, x8, x9] (.long (x / w) :: st) h) := (mw_at mj_110_38).trans (z_ldiv)
theorem mj_110_39 : mc_P 110 39 = some (.invokestatic 117, 3, 0, 22, 0) := by decide +kernel
theorem s_110_39 {x0 x1 x2 x3 x4 x5 x6 x7 x8 x9 : Option Value} {x w : Int64} : mw d 110 Q 39 [x0, x1, x2, x3, x4, x5, x6, x7, x8, x9] (.long w :: .long x :: st) h = (mca st 8 ∧ mw d 110 Q 42 [x0, x1, x2, x3, x4, x5, x6, x7, x8, x9] (.long (if w < x then w else x) :: st) h) := (mw_at mj_110_39).trans (z_lmin)
theorem mj_110_42 : mc_P 110 42 = some (.invokestatic 117, 3, 0, 22, 0) := by decide +kernel
theorem s_110_42 {x0 x1 x2 x3 x4 x5 x6 x7 x8 x9 : Option Value} {x w : Int64} : mw d 110 Q 42 [x0, x1, x2, x3, x4, x5, x6, x7, x8, x9] (.long w :: .long x :: st) h = (mca st 8 ∧ mw d 110 Q 45 [x0, x1, x2, x3, x4, x5, x6, x7, x8, x9] (.long (if w < x then w else x) :: st) h) := (mw_at mj_110_42).trans (z_lmin)
theorem mj_110_45 : mc_P 110 45 = some (.lreturn, 1, 0, 0, 0) := by decide +kernel
theorem s_110_45 {x0 x1 x2 x3 x4 x5 x6 x7 x8 x9 : Option Value} {x : Int64} : mw d 110 Q 45 [x0, x1, x2, x3, x4, x5, x6, x7, x8, x9] ([.long x]) h = Q (some (.long x)) h := (mw_at mj_110_45).trans (z_lret)
theorem e_110 {a0 : Int64} {a1 : Int64} {a2 : Int64} {a3 : Int64} : mcall d 110 [.long a0, .long a1, .long a2, .long a3] h Q = mw d 110 Q 0 [some (.long a0), none, some (.long a1), none, some (.long a2), none, some (.long a3), none, none, none] [] h := by
  show mw d 110 Q 0 (me_en (mc_nl 110) _) [] h = _
  rw [nl_110]; rfl

/-! InvariantDesk$Ranges.takeRest()Z -/
theorem mj_111_0 : mc_P 111 0 = some (.aload_n 0, 1, 0, 0, 0) := by decide +kernel
theorem s_111_0 {x1 x2 x3 : Option Value} {w : Value} : mw d 111 Q 0 [some w, x1, x2, x3] (st) h = mv_a w (mw d 111 Q 1 [some w, x1, x2, x3] (w :: st) h) := (mw_at mj_111_0).trans (z_aload_n rfl)
theorem mj_111_1 : mc_P 111 1 = some (.dup, 1, 0, 0, 0) := by decide +kernel
theorem s_111_1 {x0 x1 x2 x3 : Option Value} {w : Value} : mw d 111 Q 1 [x0, x1, x2, x3] (w :: st) h = (w.category = 1 ∧ mw d 111 Q 2 [x0, x1, x2, x3] (w :: w :: st) h) := (mw_at mj_111_1).trans (z_dup)
theorem mj_111_2 : mc_P 111 2 = some (.getfield 61, 3, 5, 8, 0) := by decide +kernel
theorem s_111_2 {x0 x1 x2 x3 : Option Value} {o : Nat} : mw d 111 Q 2 [x0, x1, x2, x3] (.ref o :: st) h = (mg h o 5 ∧ mw d 111 Q 5 [x0, x1, x2, x3] (.int (mh_i h o 8) :: st) h) := (mw_at mj_111_2).trans (z_geti (by decide) (by decide) (Or.inl rfl))
theorem mj_111_5 : mc_P 111 5 = some (.iconst 1, 1, 0, 0, 0) := by decide +kernel
theorem s_111_5 {x0 x1 x2 x3 : Option Value} : mw d 111 Q 5 [x0, x1, x2, x3] (st) h = mw d 111 Q 6 [x0, x1, x2, x3] (.int 1 :: st) h := (mw_at mj_111_5).trans (z_iconst (by decide))
theorem mj_111_6 : mc_P 111 6 = some (.isub, 1, 0, 0, 0) := by decide +kernel
theorem s_111_6 {x0 x1 x2 x3 : Option Value} {x w : Int32} : mw d 111 Q 6 [x0, x1, x2, x3] (.int w :: .int x :: st) h = mw d 111 Q 7 [x0, x1, x2, x3] (.int (x - w) :: st) h := (mw_at mj_111_6).trans (z_isub)
theorem mj_111_7 : mc_P 111 7 = some (.putfield 61, 3, 5, 8, 0) := by decide +kernel
theorem s_111_7 {x0 x1 x2 x3 : Option Value} {o : Nat} {w : Int32} : mw d 111 Q 7 [x0, x1, x2, x3] (.int w :: .ref o :: st) h = (mg h o 5 ∧ mw d 111 Q 10 [x0, x1, x2, x3] (st) (mh_si h o 8 w)) := (mw_at mj_111_7).trans (z_puti (by decide) (by decide) rfl)
theorem mj_111_10 : mc_P 111 10 = some (.aload_n 0, 1, 0, 0, 0) := by decide +kernel
theorem s_111_10 {x1 x2 x3 : Option Value} {w : Value} : mw d 111 Q 10 [some w, x1, x2, x3] (st) h = mv_a w (mw d 111 Q 11 [some w, x1, x2, x3] (w :: st) h) := (mw_at mj_111_10).trans (z_aload_n rfl)
theorem mj_111_11 : mc_P 111 11 = some (.getfield 61, 3, 5, 8, 0) := by decide +kernel
theorem s_111_11 {x0 x1 x2 x3 : Option Value} {o : Nat} : mw d 111 Q 11 [x0, x1, x2, x3] (.ref o :: st) h = (mg h o 5 ∧ mw d 111 Q 14 [x0, x1, x2, x3] (.int (mh_i h o 8) :: st) h) := (mw_at mj_111_11).trans (z_geti (by decide) (by decide) (Or.inl rfl))
theorem mj_111_14 : mc_P 111 14 = some (.iconst 1, 1, 0, 0, 0) := by decide +kernel
theorem s_111_14 {x0 x1 x2 x3 : Option Value} : mw d 111 Q 14 [x0, x1, x2, x3] (st) h = mw d 111 Q 15 [x0, x1, x2, x3] (.int 1 :: st) h := (mw_at mj_111_14).trans (z_iconst (by decide))
theorem mj_111_15 : mc_P 111 15 = some (.isub, 1, 0, 0, 0) := by decide +kernel
theorem s_111_15 {x0 x1 x2 x3 : Option Value} {x w : Int32} : mw d 111 Q 15 [x0, x1, x2, x3] (.int w :: .int x :: st) h = mw d 111 Q 16 [x0, x1, x2, x3] (.int (x - w) :: st) h := (mw_at mj_111_15).trans (z_isub)
theorem mj_111_16 : mc_P 111 16 = some (.istore_n 1, 1, 0, 0, 0) := by decide +kernel
theorem s_111_16 {x0 x1 x2 x3 : Option Value} {w : Int32} : mw d 111 Q 16 [x0, x1, x2, x3] (.int w :: st) h = mw d 111 Q 17 [mk2 x0, some (.int w), x2, x3] (st) h := (mw_at mj_111_16).trans (z_istore_n (Nat.le_of_ble_eq_true rfl) (me_s1_mk (j := 0) (w := x0) rfl))
theorem mj_111_17 : mc_P 111 17 = some (.aload_n 0, 1, 0, 0, 0) := by decide +kernel
theorem s_111_17 {x1 x2 x3 : Option Value} {w : Value} : mw d 111 Q 17 [some w, x1, x2, x3] (st) h = mv_a w (mw d 111 Q 18 [some w, x1, x2, x3] (w :: st) h) := (mw_at mj_111_17).trans (z_aload_n rfl)
theorem mj_111_18 : mc_P 111 18 = some (.getfield 18, 3, 5, 7, 0) := by decide +kernel
theorem s_111_18 {x0 x1 x2 x3 : Option Value} {o : Nat} : mw d 111 Q 18 [x0, x1, x2, x3] (.ref o :: st) h = (mg h o 5 ∧ mw d 111 Q 21 [x0, x1, x2, x3] (va_rf (mh_r h o 7) :: st) h) := (mw_at mj_111_18).trans (z_getr (by decide) (by decide) rfl)
theorem mj_111_21 : mc_P 111 21 = some (.iload_n 1, 1, 0, 0, 0) := by decide +kernel
theorem s_111_21 {x0 x2 x3 : Option Value} {w : Value} : mw d 111 Q 21 [x0, some w, x2, x3] (st) h = mv_i w (mw d 111 Q 22 [x0, some w, x2, x3] (w :: st) h) := (mw_at mj_111_21).trans (z_iload_n rfl)
theorem mj_111_22 : mc_P 111 22 = some (.iconst (-1), 1, 0, 0, 0) := by decide +kernel
theorem s_111_22 {x0 x1 x2 x3 : Option Value} : mw d 111 Q 22 [x0, x1, x2, x3] (st) h = mw d 111 Q 23 [x0, x1, x2, x3] (.int (-1) :: st) h := (mw_at mj_111_22).trans (z_iconst (by decide))
theorem mj_111_23 : mc_P 111 23 = some (.iastore, 1, 0, 0, 0) := by decide +kernel
theorem s_111_23 {x0 x1 x2 x3 : Option Value} {o : Nat} {i w : Int32} : mw d 111 Q 23 [x0, x1, x2, x3] (.int w :: .int i :: .ref o :: st) h = (mg h o 100 ∧ mx i (mh_l h o) ∧ mw d 111 Q 24 [x0, x1, x2, x3] (st) (mh_si h o i.toNatClampNeg w)) := (mw_at mj_111_23).trans (z_iast)
theorem mj_111_24 : mc_P 111 24 = some (.aload_n 0, 1, 0, 0, 0) := by decide +kernel
theorem s_111_24 {x1 x2 x3 : Option Value} {w : Value} : mw d 111 Q 24 [some w, x1, x2, x3] (st) h = mv_a w (mw d 111 Q 25 [some w, x1, x2, x3] (w :: st) h) := (mw_at mj_111_24).trans (z_aload_n rfl)
theorem mj_111_25 : mc_P 111 25 = some (.invokevirtual 126, 3, 108, 5, 1) := by decide +kernel
theorem s_111_25 {x0 x1 x2 x3 : Option Value} {o : Nat} : mw (d + 1) 111 Q 25 [x0, x1, x2, x3] (.ref o :: st) h = (mg h o 5 ∧ mca st 8 ∧ mca [.ref o] 1 ∧ mcall d 108 [.ref o] h (mK (d + 1) 111 Q 28 [x0, x1, x2, x3] st)) := (mw_at mj_111_25).trans ((z_invv (As := []) (by decide) rfl rfl).trans (congrArg (And _) (congrArg (And _) (mC_nl nl_108))))
theorem mj_111_28 : mc_P 111 28 = some (.ifCond .ne 5, 3, 0, 0, 0) := by decide +kernel
theorem s_111_28 {x0 x1 x2 x3 : Option Value} {x : Int32} : mw d 111 Q 28 [x0, x1, x2, x3] (.int x :: st) h = mB (¬ x = 0) (mw d 111 Q) 33 31 [x0, x1, x2, x3] st h := (mw_at mj_111_28).trans (z_if_ne (by decide) rfl)
theorem mj_111_31 : mc_P 111 31 = some (.iconst 0, 1, 0, 0, 0) := by decide +kernel
theorem s_111_31 {x0 x1 x2 x3 : Option Value} : mw d 111 Q 31 [x0, x1, x2, x3] (st) h = mw d 111 Q 32 [x0, x1, x2, x3] (.int 0 :: st) h := (mw_at mj_111_31).trans (z_iconst (by decide))
theorem mj_111_32 : mc_P 111 32 = some (.ireturn, 1, 0, 3, 0) := by decide +kernel
theorem s_111_32 {x0 x1 x2 x3 : Option Value} {x : Int32} : mw d 111 Q 32 [x0, x1, x2, x3] ([.int x]) h = ((x = 0 ∨ x = 1) ∧ Q (some (.int x)) h) := (mw_at mj_111_32).trans (z_zret)
theorem mj_111_33 : mc_P 111 33 = some (.aload_n 0, 1, 0, 0, 0) := by decide +kernel
theorem s_111_33 {x1 x2 x3 : Option Value} {w : Value} : mw d 111 Q 33 [some w, x1, x2, x3] (st) h = mv_a w (mw d 111 Q 34 [some w, x1, x2, x3] (w :: st) h) := (mw_at mj_111_33).trans (z_aload_n rfl)
theorem mj_111_34 : mc_P 111 34 = some (.getfield 15, 3, 5, 6, 0) := by decide +kernel
theorem s_111_34 {x0 x1 x2 x3 : Option Value} {o : Nat} : mw d 111 Q 34 [x0, x1, x2, x3] (.ref o :: st) h = (mg h o 5 ∧ mw d 111 Q 37 [x0, x1, x2, x3] (va_rf (mh_r h o 6) :: st) h) := (mw_at mj_111_34).trans (z_getr (by decide) (by decide) rfl)
theorem mj_111_37 : mc_P 111 37 = some (.iload_n 1, 1, 0, 0, 0) := by decide +kernel
theorem s_111_37 {x0 x2 x3 : Option Value} {w : Value} : mw d 111 Q 37 [x0, some w, x2, x3] (st) h = mv_i w (mw d 111 Q 38 [x0, some w, x2, x3] (w :: st) h) := (mw_at mj_111_37).trans (z_iload_n rfl)
theorem mj_111_38 : mc_P 111 38 = some (.iconst 1, 1, 0, 0, 0) := by decide +kernel
theorem s_111_38 {x0 x1 x2 x3 : Option Value} : mw d 111 Q 38 [x0, x1, x2, x3] (st) h = mw d 111 Q 39 [x0, x1, x2, x3] (.int 1 :: st) h := (mw_at mj_111_38).trans (z_iconst (by decide))
theorem mj_111_39 : mc_P 111 39 = some (.iadd, 1, 0, 0, 0) := by decide +kernel
theorem s_111_39 {x0 x1 x2 x3 : Option Value} {x w : Int32} : mw d 111 Q 39 [x0, x1, x2, x3] (.int w :: .int x :: st) h = mw d 111 Q 40 [x0, x1, x2, x3] (.int (x + w) :: st) h := (mw_at mj_111_39).trans (z_iadd)
theorem mj_111_40 : mc_P 111 40 = some (.laload, 1, 0, 0, 0) := by decide +kernel
theorem s_111_40 {x0 x1 x2 x3 : Option Value} {o : Nat} {i : Int32} : mw d 111 Q 40 [x0, x1, x2, x3] (.int i :: .ref o :: st) h = (mg h o 101 ∧ mx i (mh_l h o) ∧ mw d 111 Q 41 [x0, x1, x2, x3] (.long (mh_j h o i.toNatClampNeg) :: st) h) := (mw_at mj_111_40).trans (z_lald)
theorem mj_111_41 : mc_P 111 41 = some (.aload_n 0, 1, 0, 0, 0) := by decide +kernel
theorem s_111_41 {x1 x2 x3 : Option Value} {w : Value} : mw d 111 Q 41 [some w, x1, x2, x3] (st) h = mv_a w (mw d 111 Q 42 [some w, x1, x2, x3] (w :: st) h) := (mw_at mj_111_41).trans (z_aload_n rfl)
theorem mj_111_42 : mc_P 111 42 = some (.getfield 9, 3, 5, 5, 0) := by decide +kernel
theorem s_111_42 {x0 x1 x2 x3 : Option Value} {o : Nat} : mw d 111 Q 42 [x0, x1, x2, x3] (.ref o :: st) h = (mg h o 5 ∧ mw d 111 Q 45 [x0, x1, x2, x3] (va_rf (mh_r h o 5) :: st) h) := (mw_at mj_111_42).trans (z_getr (by decide) (by decide) rfl)
theorem mj_111_45 : mc_P 111 45 = some (.iload_n 1, 1, 0, 0, 0) := by decide +kernel
theorem s_111_45 {x0 x2 x3 : Option Value} {w : Value} : mw d 111 Q 45 [x0, some w, x2, x3] (st) h = mv_i w (mw d 111 Q 46 [x0, some w, x2, x3] (w :: st) h) := (mw_at mj_111_45).trans (z_iload_n rfl)
theorem mj_111_46 : mc_P 111 46 = some (.iconst 1, 1, 0, 0, 0) := by decide +kernel
theorem s_111_46 {x0 x1 x2 x3 : Option Value} : mw d 111 Q 46 [x0, x1, x2, x3] (st) h = mw d 111 Q 47 [x0, x1, x2, x3] (.int 1 :: st) h := (mw_at mj_111_46).trans (z_iconst (by decide))
theorem mj_111_47 : mc_P 111 47 = some (.iadd, 1, 0, 0, 0) := by decide +kernel
theorem s_111_47 {x0 x1 x2 x3 : Option Value} {x w : Int32} : mw d 111 Q 47 [x0, x1, x2, x3] (.int w :: .int x :: st) h = mw d 111 Q 48 [x0, x1, x2, x3] (.int (x + w) :: st) h := (mw_at mj_111_47).trans (z_iadd)
theorem mj_111_48 : mc_P 111 48 = some (.laload, 1, 0, 0, 0) := by decide +kernel
theorem s_111_48 {x0 x1 x2 x3 : Option Value} {o : Nat} {i : Int32} : mw d 111 Q 48 [x0, x1, x2, x3] (.int i :: .ref o :: st) h = (mg h o 101 ∧ mx i (mh_l h o) ∧ mw d 111 Q 49 [x0, x1, x2, x3] (.long (mh_j h o i.toNatClampNeg) :: st) h) := (mw_at mj_111_48).trans (z_lald)
theorem mj_111_49 : mc_P 111 49 = some (.lneg, 1, 0, 0, 0) := by decide +kernel
theorem s_111_49 {x0 x1 x2 x3 : Option Value} {x : Int64} : mw d 111 Q 49 [x0, x1, x2, x3] (.long x :: st) h = mw d 111 Q 50 [x0, x1, x2, x3] (.long (-x) :: st) h := (mw_at mj_111_49).trans (z_lneg)
theorem mj_111_50 : mc_P 111 50 = some (.invokestatic 123, 3, 0, 23, 0) := by decide +kernel
theorem s_111_50 {x0 x1 x2 x3 : Option Value} {x w : Int64} : mw d 111 Q 50 [x0, x1, x2, x3] (.long w :: .long x :: st) h = (mca st 8 ∧ mw d 111 Q 53 [x0, x1, x2, x3] (.long (if w < x then x else w) :: st) h) := (mw_at mj_111_50).trans (z_lmax)
theorem mj_111_53 : mc_P 111 53 = some (.lstore_n 2, 1, 0, 0, 0) := by decide +kernel
theorem s_111_53 {x0 x1 x2 x3 : Option Value} {w : Int64} : mw d 111 Q 53 [x0, x1, x2, x3] (.long w :: st) h = mw d 111 Q 54 [x0, mk2 x1, some (.long w), none] (st) h := (mw_at mj_111_53).trans (z_lstore_n (Nat.le_of_ble_eq_true rfl) (me_s2_mk (j := 1) (w := x1) rfl))
theorem mj_111_54 : mc_P 111 54 = some (.aload_n 0, 1, 0, 0, 0) := by decide +kernel
theorem s_111_54 {x1 x2 x3 : Option Value} {w : Value} : mw d 111 Q 54 [some w, x1, x2, x3] (st) h = mv_a w (mw d 111 Q 55 [some w, x1, x2, x3] (w :: st) h) := (mw_at mj_111_54).trans (z_aload_n rfl)
theorem mj_111_55 : mc_P 111 55 = some (.getfield 9, 3, 5, 5, 0) := by decide +kernel
theorem s_111_55 {x0 x1 x2 x3 : Option Value} {o : Nat} : mw d 111 Q 55 [x0, x1, x2, x3] (.ref o :: st) h = (mg h o 5 ∧ mw d 111 Q 58 [x0, x1, x2, x3] (va_rf (mh_r h o 5) :: st) h) := (mw_at mj_111_55).trans (z_getr (by decide) (by decide) rfl)
theorem mj_111_58 : mc_P 111 58 = some (.iload_n 1, 1, 0, 0, 0) := by decide +kernel
theorem s_111_58 {x0 x2 x3 : Option Value} {w : Value} : mw d 111 Q 58 [x0, some w, x2, x3] (st) h = mv_i w (mw d 111 Q 59 [x0, some w, x2, x3] (w :: st) h) := (mw_at mj_111_58).trans (z_iload_n rfl)
theorem mj_111_59 : mc_P 111 59 = some (.aload_n 0, 1, 0, 0, 0) := by decide +kernel
theorem s_111_59 {x1 x2 x3 : Option Value} {w : Value} : mw d 111 Q 59 [some w, x1, x2, x3] (st) h = mv_a w (mw d 111 Q 60 [some w, x1, x2, x3] (w :: st) h) := (mw_at mj_111_59).trans (z_aload_n rfl)
theorem mj_111_60 : mc_P 111 60 = some (.getfield 9, 3, 5, 5, 0) := by decide +kernel
theorem s_111_60 {x0 x1 x2 x3 : Option Value} {o : Nat} : mw d 111 Q 60 [x0, x1, x2, x3] (.ref o :: st) h = (mg h o 5 ∧ mw d 111 Q 63 [x0, x1, x2, x3] (va_rf (mh_r h o 5) :: st) h) := (mw_at mj_111_60).trans (z_getr (by decide) (by decide) rfl)
theorem mj_111_63 : mc_P 111 63 = some (.iload_n 1, 1, 0, 0, 0) := by decide +kernel
theorem s_111_63 {x0 x2 x3 : Option Value} {w : Value} : mw d 111 Q 63 [x0, some w, x2, x3] (st) h = mv_i w (mw d 111 Q 64 [x0, some w, x2, x3] (w :: st) h) := (mw_at mj_111_63).trans (z_iload_n rfl)
theorem mj_111_64 : mc_P 111 64 = some (.laload, 1, 0, 0, 0) := by decide +kernel
theorem s_111_64 {x0 x1 x2 x3 : Option Value} {o : Nat} {i : Int32} : mw d 111 Q 64 [x0, x1, x2, x3] (.int i :: .ref o :: st) h = (mg h o 101 ∧ mx i (mh_l h o) ∧ mw d 111 Q 65 [x0, x1, x2, x3] (.long (mh_j h o i.toNatClampNeg) :: st) h) := (mw_at mj_111_64).trans (z_lald)
theorem mj_111_65 : mc_P 111 65 = some (.lconst 0, 1, 0, 0, 0) := by decide +kernel
theorem s_111_65 {x0 x1 x2 x3 : Option Value} : mw d 111 Q 65 [x0, x1, x2, x3] (st) h = mw d 111 Q 66 [x0, x1, x2, x3] (.long 0 :: st) h := (mw_at mj_111_65).trans (z_lconst (by decide))
theorem mj_111_66 : mc_P 111 66 = some (.lcmp, 1, 0, 0, 0) := by decide +kernel
theorem s_111_66 {x0 x1 x2 x3 : Option Value} {x w : Int64} : mw d 111 Q 66 [x0, x1, x2, x3] (.long w :: .long x :: st) h = mw d 111 Q 67 [x0, x1, x2, x3] (.int (lg_cmp x w) :: st) h := (mw_at mj_111_66).trans (z_lcmp)
theorem mj_111_67 : mc_P 111 67 = some (.ifCond .lt 7, 3, 0, 0, 0) := by decide +kernel
theorem s_111_67 {x0 x1 x2 x3 : Option Value} {x : Int32} : mw d 111 Q 67 [x0, x1, x2, x3] (.int x :: st) h = mB (x < 0) (mw d 111 Q) 74 70 [x0, x1, x2, x3] st h := (mw_at mj_111_67).trans (z_if_lt (by decide) rfl)
theorem mj_111_70 : mc_P 111 70 = some (.lconst 0, 1, 0, 0, 0) := by decide +kernel
theorem s_111_70 {x0 x1 x2 x3 : Option Value} : mw d 111 Q 70 [x0, x1, x2, x3] (st) h = mw d 111 Q 71 [x0, x1, x2, x3] (.long 0 :: st) h := (mw_at mj_111_70).trans (z_lconst (by decide))
theorem mj_111_71 : mc_P 111 71 = some (.goto 15, 3, 0, 0, 0) := by decide +kernel
theorem s_111_71 {x0 x1 x2 x3 : Option Value} : mw d 111 Q 71 [x0, x1, x2, x3] (st) h = mw d 111 Q 86 [x0, x1, x2, x3] (st) h := (mw_at mj_111_71).trans (z_goto (by decide))
theorem mj_111_74 : mc_P 111 74 = some (.aload_n 0, 1, 0, 0, 0) := by decide +kernel
theorem s_111_74 {x1 x2 x3 : Option Value} {w : Value} : mw d 111 Q 74 [some w, x1, x2, x3] (st) h = mv_a w (mw d 111 Q 75 [some w, x1, x2, x3] (w :: st) h) := (mw_at mj_111_74).trans (z_aload_n rfl)
theorem mj_111_75 : mc_P 111 75 = some (.getfield 9, 3, 5, 5, 0) := by decide +kernel
theorem s_111_75 {x0 x1 x2 x3 : Option Value} {o : Nat} : mw d 111 Q 75 [x0, x1, x2, x3] (.ref o :: st) h = (mg h o 5 ∧ mw d 111 Q 78 [x0, x1, x2, x3] (va_rf (mh_r h o 5) :: st) h) := (mw_at mj_111_75).trans (z_getr (by decide) (by decide) rfl)
theorem mj_111_78 : mc_P 111 78 = some (.iload_n 1, 1, 0, 0, 0) := by decide +kernel
theorem s_111_78 {x0 x2 x3 : Option Value} {w : Value} : mw d 111 Q 78 [x0, some w, x2, x3] (st) h = mv_i w (mw d 111 Q 79 [x0, some w, x2, x3] (w :: st) h) := (mw_at mj_111_78).trans (z_iload_n rfl)
theorem mj_111_79 : mc_P 111 79 = some (.laload, 1, 0, 0, 0) := by decide +kernel
theorem s_111_79 {x0 x1 x2 x3 : Option Value} {o : Nat} {i : Int32} : mw d 111 Q 79 [x0, x1, x2, x3] (.int i :: .ref o :: st) h = (mg h o 101 ∧ mx i (mh_l h o) ∧ mw d 111 Q 80 [x0, x1, x2, x3] (.long (mh_j h o i.toNatClampNeg) :: st) h) := (mw_at mj_111_79).trans (z_lald)
theorem mj_111_80 : mc_P 111 80 = some (.lconst 1, 1, 0, 0, 0) := by decide +kernel
theorem s_111_80 {x0 x1 x2 x3 : Option Value} : mw d 111 Q 80 [x0, x1, x2, x3] (st) h = mw d 111 Q 81 [x0, x1, x2, x3] (.long 1 :: st) h := (mw_at mj_111_80).trans (z_lconst (by decide))
theorem mj_111_81 : mc_P 111 81 = some (.lload_n 2, 1, 0, 0, 0) := by decide +kernel
theorem s_111_81 {x0 x1 x3 : Option Value} {w : Value} : mw d 111 Q 81 [x0, x1, some w, x3] (st) h = mv_l w (mw d 111 Q 82 [x0, x1, some w, x3] (w :: st) h) := (mw_at mj_111_81).trans (z_lload_n rfl)
theorem mj_111_82 : mc_P 111 82 = some (.lsub, 1, 0, 0, 0) := by decide +kernel
theorem s_111_82 {x0 x1 x2 x3 : Option Value} {x w : Int64} : mw d 111 Q 82 [x0, x1, x2, x3] (.long w :: .long x :: st) h = mw d 111 Q 83 [x0, x1, x2, x3] (.long (x - w) :: st) h := (mw_at mj_111_82).trans (z_lsub)
theorem mj_111_83 : mc_P 111 83 = some (.invokestatic 123, 3, 0, 23, 0) := by decide +kernel
theorem s_111_83 {x0 x1 x2 x3 : Option Value} {x w : Int64} : mw d 111 Q 83 [x0, x1, x2, x3] (.long w :: .long x :: st) h = (mca st 8 ∧ mw d 111 Q 86 [x0, x1, x2, x3] (.long (if w < x then x else w) :: st) h) := (mw_at mj_111_83).trans (z_lmax)
theorem mj_111_86 : mc_P 111 86 = some (.lastore, 1, 0, 0, 0) := by decide +kernel
theorem s_111_86 {x0 x1 x2 x3 : Option Value} {o : Nat} {i : Int32} {w : Int64} : mw d 111 Q 86 [x0, x1, x2, x3] (.long w :: .int i :: .ref o :: st) h = (mg h o 101 ∧ mx i (mh_l h o) ∧ mw d 111 Q 87 [x0, x1, x2, x3] (st) (mh_sj h o i.toNatClampNeg w)) := (mw_at mj_111_86).trans (z_last)
theorem mj_111_87 : mc_P 111 87 = some (.aload_n 0, 1, 0, 0, 0) := by decide +kernel
theorem s_111_87 {x1 x2 x3 : Option Value} {w : Value} : mw d 111 Q 87 [some w, x1, x2, x3] (st) h = mv_a w (mw d 111 Q 88 [some w, x1, x2, x3] (w :: st) h) := (mw_at mj_111_87).trans (z_aload_n rfl)
theorem mj_111_88 : mc_P 111 88 = some (.getfield 15, 3, 5, 6, 0) := by decide +kernel
theorem s_111_88 {x0 x1 x2 x3 : Option Value} {o : Nat} : mw d 111 Q 88 [x0, x1, x2, x3] (.ref o :: st) h = (mg h o 5 ∧ mw d 111 Q 91 [x0, x1, x2, x3] (va_rf (mh_r h o 6) :: st) h) := (mw_at mj_111_88).trans (z_getr (by decide) (by decide) rfl)
theorem mj_111_91 : mc_P 111 91 = some (.iload_n 1, 1, 0, 0, 0) := by decide +kernel
theorem s_111_91 {x0 x2 x3 : Option Value} {w : Value} : mw d 111 Q 91 [x0, some w, x2, x3] (st) h = mv_i w (mw d 111 Q 92 [x0, some w, x2, x3] (w :: st) h) := (mw_at mj_111_91).trans (z_iload_n rfl)
theorem mj_111_92 : mc_P 111 92 = some (.aload_n 0, 1, 0, 0, 0) := by decide +kernel
theorem s_111_92 {x1 x2 x3 : Option Value} {w : Value} : mw d 111 Q 92 [some w, x1, x2, x3] (st) h = mv_a w (mw d 111 Q 93 [some w, x1, x2, x3] (w :: st) h) := (mw_at mj_111_92).trans (z_aload_n rfl)
theorem mj_111_93 : mc_P 111 93 = some (.getfield 15, 3, 5, 6, 0) := by decide +kernel
theorem s_111_93 {x0 x1 x2 x3 : Option Value} {o : Nat} : mw d 111 Q 93 [x0, x1, x2, x3] (.ref o :: st) h = (mg h o 5 ∧ mw d 111 Q 96 [x0, x1, x2, x3] (va_rf (mh_r h o 6) :: st) h) := (mw_at mj_111_93).trans (z_getr (by decide) (by decide) rfl)
theorem mj_111_96 : mc_P 111 96 = some (.iload_n 1, 1, 0, 0, 0) := by decide +kernel
theorem s_111_96 {x0 x2 x3 : Option Value} {w : Value} : mw d 111 Q 96 [x0, some w, x2, x3] (st) h = mv_i w (mw d 111 Q 97 [x0, some w, x2, x3] (w :: st) h) := (mw_at mj_111_96).trans (z_iload_n rfl)
theorem mj_111_97 : mc_P 111 97 = some (.laload, 1, 0, 0, 0) := by decide +kernel
theorem s_111_97 {x0 x1 x2 x3 : Option Value} {o : Nat} {i : Int32} : mw d 111 Q 97 [x0, x1, x2, x3] (.int i :: .ref o :: st) h = (mg h o 101 ∧ mx i (mh_l h o) ∧ mw d 111 Q 98 [x0, x1, x2, x3] (.long (mh_j h o i.toNatClampNeg) :: st) h) := (mw_at mj_111_97).trans (z_lald)
theorem mj_111_98 : mc_P 111 98 = some (.lconst 0, 1, 0, 0, 0) := by decide +kernel
theorem s_111_98 {x0 x1 x2 x3 : Option Value} : mw d 111 Q 98 [x0, x1, x2, x3] (st) h = mw d 111 Q 99 [x0, x1, x2, x3] (.long 0 :: st) h := (mw_at mj_111_98).trans (z_lconst (by decide))
theorem mj_111_99 : mc_P 111 99 = some (.lcmp, 1, 0, 0, 0) := by decide +kernel
theorem s_111_99 {x0 x1 x2 x3 : Option Value} {x w : Int64} : mw d 111 Q 99 [x0, x1, x2, x3] (.long w :: .long x :: st) h = mw d 111 Q 100 [x0, x1, x2, x3] (.int (lg_cmp x w) :: st) h := (mw_at mj_111_99).trans (z_lcmp)
theorem mj_111_100 : mc_P 111 100 = some (.ifCond .gt 7, 3, 0, 0, 0) := by decide +kernel
theorem s_111_100 {x0 x1 x2 x3 : Option Value} {x : Int32} : mw d 111 Q 100 [x0, x1, x2, x3] (.int x :: st) h = mB (0 < x) (mw d 111 Q) 107 103 [x0, x1, x2, x3] st h := (mw_at mj_111_100).trans (z_if_gt (by decide) rfl)
theorem mj_111_103 : mc_P 111 103 = some (.lconst 0, 1, 0, 0, 0) := by decide +kernel
theorem s_111_103 {x0 x1 x2 x3 : Option Value} : mw d 111 Q 103 [x0, x1, x2, x3] (st) h = mw d 111 Q 104 [x0, x1, x2, x3] (.long 0 :: st) h := (mw_at mj_111_103).trans (z_lconst (by decide))
theorem mj_111_104 : mc_P 111 104 = some (.goto 15, 3, 0, 0, 0) := by decide +kernel
theorem s_111_104 {x0 x1 x2 x3 : Option Value} : mw d 111 Q 104 [x0, x1, x2, x3] (st) h = mw d 111 Q 119 [x0, x1, x2, x3] (st) h := (mw_at mj_111_104).trans (z_goto (by decide))
theorem mj_111_107 : mc_P 111 107 = some (.aload_n 0, 1, 0, 0, 0) := by decide +kernel
theorem s_111_107 {x1 x2 x3 : Option Value} {w : Value} : mw d 111 Q 107 [some w, x1, x2, x3] (st) h = mv_a w (mw d 111 Q 108 [some w, x1, x2, x3] (w :: st) h) := (mw_at mj_111_107).trans (z_aload_n rfl)
theorem mj_111_108 : mc_P 111 108 = some (.getfield 15, 3, 5, 6, 0) := by decide +kernel
theorem s_111_108 {x0 x1 x2 x3 : Option Value} {o : Nat} : mw d 111 Q 108 [x0, x1, x2, x3] (.ref o :: st) h = (mg h o 5 ∧ mw d 111 Q 111 [x0, x1, x2, x3] (va_rf (mh_r h o 6) :: st) h) := (mw_at mj_111_108).trans (z_getr (by decide) (by decide) rfl)
theorem mj_111_111 : mc_P 111 111 = some (.iload_n 1, 1, 0, 0, 0) := by decide +kernel
theorem s_111_111 {x0 x2 x3 : Option Value} {w : Value} : mw d 111 Q 111 [x0, some w, x2, x3] (st) h = mv_i w (mw d 111 Q 112 [x0, some w, x2, x3] (w :: st) h) := (mw_at mj_111_111).trans (z_iload_n rfl)
theorem mj_111_112 : mc_P 111 112 = some (.laload, 1, 0, 0, 0) := by decide +kernel
theorem s_111_112 {x0 x1 x2 x3 : Option Value} {o : Nat} {i : Int32} : mw d 111 Q 112 [x0, x1, x2, x3] (.int i :: .ref o :: st) h = (mg h o 101 ∧ mx i (mh_l h o) ∧ mw d 111 Q 113 [x0, x1, x2, x3] (.long (mh_j h o i.toNatClampNeg) :: st) h) := (mw_at mj_111_112).trans (z_lald)
theorem mj_111_113 : mc_P 111 113 = some (.lload_n 2, 1, 0, 0, 0) := by decide +kernel
theorem s_111_113 {x0 x1 x3 : Option Value} {w : Value} : mw d 111 Q 113 [x0, x1, some w, x3] (st) h = mv_l w (mw d 111 Q 114 [x0, x1, some w, x3] (w :: st) h) := (mw_at mj_111_113).trans (z_lload_n rfl)
theorem mj_111_114 : mc_P 111 114 = some (.lconst 1, 1, 0, 0, 0) := by decide +kernel
theorem s_111_114 {x0 x1 x2 x3 : Option Value} : mw d 111 Q 114 [x0, x1, x2, x3] (st) h = mw d 111 Q 115 [x0, x1, x2, x3] (.long 1 :: st) h := (mw_at mj_111_114).trans (z_lconst (by decide))
theorem mj_111_115 : mc_P 111 115 = some (.lsub, 1, 0, 0, 0) := by decide +kernel
theorem s_111_115 {x0 x1 x2 x3 : Option Value} {x w : Int64} : mw d 111 Q 115 [x0, x1, x2, x3] (.long w :: .long x :: st) h = mw d 111 Q 116 [x0, x1, x2, x3] (.long (x - w) :: st) h := (mw_at mj_111_115).trans (z_lsub)
theorem mj_111_116 : mc_P 111 116 = some (.invokestatic 117, 3, 0, 22, 0) := by decide +kernel
theorem s_111_116 {x0 x1 x2 x3 : Option Value} {x w : Int64} : mw d 111 Q 116 [x0, x1, x2, x3] (.long w :: .long x :: st) h = (mca st 8 ∧ mw d 111 Q 119 [x0, x1, x2, x3] (.long (if w < x then w else x) :: st) h) := (mw_at mj_111_116).trans (z_lmin)
theorem mj_111_119 : mc_P 111 119 = some (.lastore, 1, 0, 0, 0) := by decide +kernel
theorem s_111_119 {x0 x1 x2 x3 : Option Value} {o : Nat} {i : Int32} {w : Int64} : mw d 111 Q 119 [x0, x1, x2, x3] (.long w :: .int i :: .ref o :: st) h = (mg h o 101 ∧ mx i (mh_l h o) ∧ mw d 111 Q 120 [x0, x1, x2, x3] (st) (mh_sj h o i.toNatClampNeg w)) := (mw_at mj_111_119).trans (z_last)
theorem mj_111_120 : mc_P 111 120 = some (.iconst 1, 1, 0, 0, 0) := by decide +kernel
theorem s_111_120 {x0 x1 x2 x3 : Option Value} : mw d 111 Q 120 [x0, x1, x2, x3] (st) h = mw d 111 Q 121 [x0, x1, x2, x3] (.int 1 :: st) h := (mw_at mj_111_120).trans (z_iconst (by decide))
theorem mj_111_121 : mc_P 111 121 = some (.ireturn, 1, 0, 3, 0) := by decide +kernel
theorem s_111_121 {x0 x1 x2 x3 : Option Value} {x : Int32} : mw d 111 Q 121 [x0, x1, x2, x3] ([.int x]) h = ((x = 0 ∨ x = 1) ∧ Q (some (.int x)) h) := (mw_at mj_111_121).trans (z_zret)
theorem e_111 {a0 : Nat} : mcall d 111 [.ref a0] h Q = mw d 111 Q 0 [some (.ref a0), none, none, none] [] h := by
  show mw d 111 Q 0 (me_en (mc_nl 111) _) [] h = _
  rw [nl_111]; rfl

/-! InvariantDesk$Ranges.keepInts()Z -/
theorem mj_112_0 : mc_P 112 0 = some (.aload_n 0, 1, 0, 0, 0) := by decide +kernel
theorem s_112_0 {x1 : Option Value} {w : Value} : mw d 112 Q 0 [some w, x1] (st) h = mv_a w (mw d 112 Q 1 [some w, x1] (w :: st) h) := (mw_at mj_112_0).trans (z_aload_n rfl)
theorem mj_112_1 : mc_P 112 1 = some (.getfield 61, 3, 5, 8, 0) := by decide +kernel
theorem s_112_1 {x0 x1 : Option Value} {o : Nat} : mw d 112 Q 1 [x0, x1] (.ref o :: st) h = (mg h o 5 ∧ mw d 112 Q 4 [x0, x1] (.int (mh_i h o 8) :: st) h) := (mw_at mj_112_1).trans (z_geti (by decide) (by decide) (Or.inl rfl))
theorem mj_112_4 : mc_P 112 4 = some (.iconst 1, 1, 0, 0, 0) := by decide +kernel
theorem s_112_4 {x0 x1 : Option Value} : mw d 112 Q 4 [x0, x1] (st) h = mw d 112 Q 5 [x0, x1] (.int 1 :: st) h := (mw_at mj_112_4).trans (z_iconst (by decide))
theorem mj_112_5 : mc_P 112 5 = some (.isub, 1, 0, 0, 0) := by decide +kernel
theorem s_112_5 {x0 x1 : Option Value} {x w : Int32} : mw d 112 Q 5 [x0, x1] (.int w :: .int x :: st) h = mw d 112 Q 6 [x0, x1] (.int (x - w) :: st) h := (mw_at mj_112_5).trans (z_isub)
theorem mj_112_6 : mc_P 112 6 = some (.istore_n 1, 1, 0, 0, 0) := by decide +kernel
theorem s_112_6 {x0 x1 : Option Value} {w : Int32} : mw d 112 Q 6 [x0, x1] (.int w :: st) h = mw d 112 Q 7 [mk2 x0, some (.int w)] (st) h := (mw_at mj_112_6).trans (z_istore_n (Nat.le_of_ble_eq_true rfl) (me_s1_mk (j := 0) (w := x0) rfl))
theorem mj_112_7 : mc_P 112 7 = some (.aload_n 0, 1, 0, 0, 0) := by decide +kernel
theorem s_112_7 {x1 : Option Value} {w : Value} : mw d 112 Q 7 [some w, x1] (st) h = mv_a w (mw d 112 Q 8 [some w, x1] (w :: st) h) := (mw_at mj_112_7).trans (z_aload_n rfl)
theorem mj_112_8 : mc_P 112 8 = some (.getfield 9, 3, 5, 5, 0) := by decide +kernel
theorem s_112_8 {x0 x1 : Option Value} {o : Nat} : mw d 112 Q 8 [x0, x1] (.ref o :: st) h = (mg h o 5 ∧ mw d 112 Q 11 [x0, x1] (va_rf (mh_r h o 5) :: st) h) := (mw_at mj_112_8).trans (z_getr (by decide) (by decide) rfl)
theorem mj_112_11 : mc_P 112 11 = some (.iload_n 1, 1, 0, 0, 0) := by decide +kernel
theorem s_112_11 {x0 : Option Value} {w : Value} : mw d 112 Q 11 [x0, some w] (st) h = mv_i w (mw d 112 Q 12 [x0, some w] (w :: st) h) := (mw_at mj_112_11).trans (z_iload_n rfl)
theorem mj_112_12 : mc_P 112 12 = some (.laload, 1, 0, 0, 0) := by decide +kernel
theorem s_112_12 {x0 x1 : Option Value} {o : Nat} {i : Int32} : mw d 112 Q 12 [x0, x1] (.int i :: .ref o :: st) h = (mg h o 101 ∧ mx i (mh_l h o) ∧ mw d 112 Q 13 [x0, x1] (.long (mh_j h o i.toNatClampNeg) :: st) h) := (mw_at mj_112_12).trans (z_lald)
theorem mj_112_13 : mc_P 112 13 = some (.ldc2_w 135, 3, 0, 0, (-2147483648)) := by decide +kernel
theorem s_112_13 {x0 x1 : Option Value} : mw d 112 Q 13 [x0, x1] (st) h = mw d 112 Q 16 [x0, x1] (.long (-2147483648) :: st) h := (mw_at mj_112_13).trans (z_ldc2 (by decide))
theorem mj_112_16 : mc_P 112 16 = some (.lcmp, 1, 0, 0, 0) := by decide +kernel
theorem s_112_16 {x0 x1 : Option Value} {x w : Int64} : mw d 112 Q 16 [x0, x1] (.long w :: .long x :: st) h = mw d 112 Q 17 [x0, x1] (.int (lg_cmp x w) :: st) h := (mw_at mj_112_16).trans (z_lcmp)
theorem mj_112_17 : mc_P 112 17 = some (.ifCond .lt 16, 3, 0, 0, 0) := by decide +kernel
theorem s_112_17 {x0 x1 : Option Value} {x : Int32} : mw d 112 Q 17 [x0, x1] (.int x :: st) h = mB (x < 0) (mw d 112 Q) 33 20 [x0, x1] st h := (mw_at mj_112_17).trans (z_if_lt (by decide) rfl)
theorem mj_112_20 : mc_P 112 20 = some (.aload_n 0, 1, 0, 0, 0) := by decide +kernel
theorem s_112_20 {x1 : Option Value} {w : Value} : mw d 112 Q 20 [some w, x1] (st) h = mv_a w (mw d 112 Q 21 [some w, x1] (w :: st) h) := (mw_at mj_112_20).trans (z_aload_n rfl)
theorem mj_112_21 : mc_P 112 21 = some (.getfield 15, 3, 5, 6, 0) := by decide +kernel
theorem s_112_21 {x0 x1 : Option Value} {o : Nat} : mw d 112 Q 21 [x0, x1] (.ref o :: st) h = (mg h o 5 ∧ mw d 112 Q 24 [x0, x1] (va_rf (mh_r h o 6) :: st) h) := (mw_at mj_112_21).trans (z_getr (by decide) (by decide) rfl)
theorem mj_112_24 : mc_P 112 24 = some (.iload_n 1, 1, 0, 0, 0) := by decide +kernel
theorem s_112_24 {x0 : Option Value} {w : Value} : mw d 112 Q 24 [x0, some w] (st) h = mv_i w (mw d 112 Q 25 [x0, some w] (w :: st) h) := (mw_at mj_112_24).trans (z_iload_n rfl)
theorem mj_112_25 : mc_P 112 25 = some (.laload, 1, 0, 0, 0) := by decide +kernel
theorem s_112_25 {x0 x1 : Option Value} {o : Nat} {i : Int32} : mw d 112 Q 25 [x0, x1] (.int i :: .ref o :: st) h = (mg h o 101 ∧ mx i (mh_l h o) ∧ mw d 112 Q 26 [x0, x1] (.long (mh_j h o i.toNatClampNeg) :: st) h) := (mw_at mj_112_25).trans (z_lald)
theorem mj_112_26 : mc_P 112 26 = some (.ldc2_w 137, 3, 0, 0, 2147483647) := by decide +kernel
theorem s_112_26 {x0 x1 : Option Value} : mw d 112 Q 26 [x0, x1] (st) h = mw d 112 Q 29 [x0, x1] (.long 2147483647 :: st) h := (mw_at mj_112_26).trans (z_ldc2 (by decide))
theorem mj_112_29 : mc_P 112 29 = some (.lcmp, 1, 0, 0, 0) := by decide +kernel
theorem s_112_29 {x0 x1 : Option Value} {x w : Int64} : mw d 112 Q 29 [x0, x1] (.long w :: .long x :: st) h = mw d 112 Q 30 [x0, x1] (.int (lg_cmp x w) :: st) h := (mw_at mj_112_29).trans (z_lcmp)
theorem mj_112_30 : mc_P 112 30 = some (.ifCond .le 13, 3, 0, 0, 0) := by decide +kernel
theorem s_112_30 {x0 x1 : Option Value} {x : Int32} : mw d 112 Q 30 [x0, x1] (.int x :: st) h = mB (x ≤ 0) (mw d 112 Q) 43 33 [x0, x1] st h := (mw_at mj_112_30).trans (z_if_le (by decide) rfl)
theorem mj_112_33 : mc_P 112 33 = some (.aload_n 0, 1, 0, 0, 0) := by decide +kernel
theorem s_112_33 {x1 : Option Value} {w : Value} : mw d 112 Q 33 [some w, x1] (st) h = mv_a w (mw d 112 Q 34 [some w, x1] (w :: st) h) := (mw_at mj_112_33).trans (z_aload_n rfl)
theorem mj_112_34 : mc_P 112 34 = some (.dup, 1, 0, 0, 0) := by decide +kernel
theorem s_112_34 {x0 x1 : Option Value} {w : Value} : mw d 112 Q 34 [x0, x1] (w :: st) h = (w.category = 1 ∧ mw d 112 Q 35 [x0, x1] (w :: w :: st) h) := (mw_at mj_112_34).trans (z_dup)
theorem mj_112_35 : mc_P 112 35 = some (.getfield 53, 3, 5, 4, 0) := by decide +kernel
theorem s_112_35 {x0 x1 : Option Value} {o : Nat} : mw d 112 Q 35 [x0, x1] (.ref o :: st) h = (mg h o 5 ∧ mw d 112 Q 38 [x0, x1] (.int (mh_i h o 4) :: st) h) := (mw_at mj_112_35).trans (z_geti (by decide) (by decide) (Or.inl rfl))
theorem mj_112_38 : mc_P 112 38 = some (.iconst 1, 1, 0, 0, 0) := by decide +kernel
theorem s_112_38 {x0 x1 : Option Value} : mw d 112 Q 38 [x0, x1] (st) h = mw d 112 Q 39 [x0, x1] (.int 1 :: st) h := (mw_at mj_112_38).trans (z_iconst (by decide))
theorem mj_112_39 : mc_P 112 39 = some (.ior, 1, 0, 0, 0) := by decide +kernel
theorem s_112_39 {x0 x1 : Option Value} {x w : Int32} : mw d 112 Q 39 [x0, x1] (.int w :: .int x :: st) h = mw d 112 Q 40 [x0, x1] (.int (x ||| w) :: st) h := (mw_at mj_112_39).trans (z_ior)
theorem mj_112_40 : mc_P 112 40 = some (.putfield 53, 3, 5, 4, 0) := by decide +kernel
theorem s_112_40 {x0 x1 : Option Value} {o : Nat} {w : Int32} : mw d 112 Q 40 [x0, x1] (.int w :: .ref o :: st) h = (mg h o 5 ∧ mw d 112 Q 43 [x0, x1] (st) (mh_si h o 4 w)) := (mw_at mj_112_40).trans (z_puti (by decide) (by decide) rfl)
theorem mj_112_43 : mc_P 112 43 = some (.aload_n 0, 1, 0, 0, 0) := by decide +kernel
theorem s_112_43 {x1 : Option Value} {w : Value} : mw d 112 Q 43 [some w, x1] (st) h = mv_a w (mw d 112 Q 44 [some w, x1] (w :: st) h) := (mw_at mj_112_43).trans (z_aload_n rfl)
theorem mj_112_44 : mc_P 112 44 = some (.getfield 9, 3, 5, 5, 0) := by decide +kernel
theorem s_112_44 {x0 x1 : Option Value} {o : Nat} : mw d 112 Q 44 [x0, x1] (.ref o :: st) h = (mg h o 5 ∧ mw d 112 Q 47 [x0, x1] (va_rf (mh_r h o 5) :: st) h) := (mw_at mj_112_44).trans (z_getr (by decide) (by decide) rfl)
theorem mj_112_47 : mc_P 112 47 = some (.iload_n 1, 1, 0, 0, 0) := by decide +kernel
theorem s_112_47 {x0 : Option Value} {w : Value} : mw d 112 Q 47 [x0, some w] (st) h = mv_i w (mw d 112 Q 48 [x0, some w] (w :: st) h) := (mw_at mj_112_47).trans (z_iload_n rfl)
theorem mj_112_48 : mc_P 112 48 = some (.aload_n 0, 1, 0, 0, 0) := by decide +kernel
theorem s_112_48 {x1 : Option Value} {w : Value} : mw d 112 Q 48 [some w, x1] (st) h = mv_a w (mw d 112 Q 49 [some w, x1] (w :: st) h) := (mw_at mj_112_48).trans (z_aload_n rfl)
theorem mj_112_49 : mc_P 112 49 = some (.getfield 9, 3, 5, 5, 0) := by decide +kernel
theorem s_112_49 {x0 x1 : Option Value} {o : Nat} : mw d 112 Q 49 [x0, x1] (.ref o :: st) h = (mg h o 5 ∧ mw d 112 Q 52 [x0, x1] (va_rf (mh_r h o 5) :: st) h) := (mw_at mj_112_49).trans (z_getr (by decide) (by decide) rfl)
theorem mj_112_52 : mc_P 112 52 = some (.iload_n 1, 1, 0, 0, 0) := by decide +kernel
theorem s_112_52 {x0 : Option Value} {w : Value} : mw d 112 Q 52 [x0, some w] (st) h = mv_i w (mw d 112 Q 53 [x0, some w] (w :: st) h) := (mw_at mj_112_52).trans (z_iload_n rfl)
theorem mj_112_53 : mc_P 112 53 = some (.laload, 1, 0, 0, 0) := by decide +kernel
theorem s_112_53 {x0 x1 : Option Value} {o : Nat} {i : Int32} : mw d 112 Q 53 [x0, x1] (.int i :: .ref o :: st) h = (mg h o 101 ∧ mx i (mh_l h o) ∧ mw d 112 Q 54 [x0, x1] (.long (mh_j h o i.toNatClampNeg) :: st) h) := (mw_at mj_112_53).trans (z_lald)
theorem mj_112_54 : mc_P 112 54 = some (.ldc2_w 135, 3, 0, 0, (-2147483648)) := by decide +kernel
theorem s_112_54 {x0 x1 : Option Value} : mw d 112 Q 54 [x0, x1] (st) h = mw d 112 Q 57 [x0, x1] (.long (-2147483648) :: st) h := (mw_at mj_112_54).trans (z_ldc2 (by decide))
theorem mj_112_57 : mc_P 112 57 = some (.invokestatic 123, 3, 0, 23, 0) := by decide +kernel
theorem s_112_57 {x0 x1 : Option Value} {x w : Int64} : mw d 112 Q 57 [x0, x1] (.long w :: .long x :: st) h = (mca st 8 ∧ mw d 112 Q 60 [x0, x1] (.long (if w < x then x else w) :: st) h) := (mw_at mj_112_57).trans (z_lmax)
theorem mj_112_60 : mc_P 112 60 = some (.lastore, 1, 0, 0, 0) := by decide +kernel
theorem s_112_60 {x0 x1 : Option Value} {o : Nat} {i : Int32} {w : Int64} : mw d 112 Q 60 [x0, x1] (.long w :: .int i :: .ref o :: st) h = (mg h o 101 ∧ mx i (mh_l h o) ∧ mw d 112 Q 61 [x0, x1] (st) (mh_sj h o i.toNatClampNeg w)) := (mw_at mj_112_60).trans (z_last)
theorem mj_112_61 : mc_P 112 61 = some (.aload_n 0, 1, 0, 0, 0) := by decide +kernel
theorem s_112_61 {x1 : Option Value} {w : Value} : mw d 112 Q 61 [some w, x1] (st) h = mv_a w (mw d 112 Q 62 [some w, x1] (w :: st) h) := (mw_at mj_112_61).trans (z_aload_n rfl)
theorem mj_112_62 : mc_P 112 62 = some (.getfield 15, 3, 5, 6, 0) := by decide +kernel
theorem s_112_62 {x0 x1 : Option Value} {o : Nat} : mw d 112 Q 62 [x0, x1] (.ref o :: st) h = (mg h o 5 ∧ mw d 112 Q 65 [x0, x1] (va_rf (mh_r h o 6) :: st) h) := (mw_at mj_112_62).trans (z_getr (by decide) (by decide) rfl)
theorem mj_112_65 : mc_P 112 65 = some (.iload_n 1, 1, 0, 0, 0) := by decide +kernel
theorem s_112_65 {x0 : Option Value} {w : Value} : mw d 112 Q 65 [x0, some w] (st) h = mv_i w (mw d 112 Q 66 [x0, some w] (w :: st) h) := (mw_at mj_112_65).trans (z_iload_n rfl)
theorem mj_112_66 : mc_P 112 66 = some (.aload_n 0, 1, 0, 0, 0) := by decide +kernel
theorem s_112_66 {x1 : Option Value} {w : Value} : mw d 112 Q 66 [some w, x1] (st) h = mv_a w (mw d 112 Q 67 [some w, x1] (w :: st) h) := (mw_at mj_112_66).trans (z_aload_n rfl)
theorem mj_112_67 : mc_P 112 67 = some (.getfield 15, 3, 5, 6, 0) := by decide +kernel
theorem s_112_67 {x0 x1 : Option Value} {o : Nat} : mw d 112 Q 67 [x0, x1] (.ref o :: st) h = (mg h o 5 ∧ mw d 112 Q 70 [x0, x1] (va_rf (mh_r h o 6) :: st) h) := (mw_at mj_112_67).trans (z_getr (by decide) (by decide) rfl)
theorem mj_112_70 : mc_P 112 70 = some (.iload_n 1, 1, 0, 0, 0) := by decide +kernel
theorem s_112_70 {x0 : Option Value} {w : Value} : mw d 112 Q 70 [x0, some w] (st) h = mv_i w (mw d 112 Q 71 [x0, some w] (w :: st) h) := (mw_at mj_112_70).trans (z_iload_n rfl)
theorem mj_112_71 : mc_P 112 71 = some (.laload, 1, 0, 0, 0) := by decide +kernel
theorem s_112_71 {x0 x1 : Option Value} {o : Nat} {i : Int32} : mw d 112 Q 71 [x0, x1] (.int i :: .ref o :: st) h = (mg h o 101 ∧ mx i (mh_l h o) ∧ mw d 112 Q 72 [x0, x1] (.long (mh_j h o i.toNatClampNeg) :: st) h) := (mw_at mj_112_71).trans (z_lald)
theorem mj_112_72 : mc_P 112 72 = some (.ldc2_w 137, 3, 0, 0, 2147483647) := by decide +kernel
theorem s_112_72 {x0 x1 : Option Value} : mw d 112 Q 72 [x0, x1] (st) h = mw d 112 Q 75 [x0, x1] (.long 2147483647 :: st) h := (mw_at mj_112_72).trans (z_ldc2 (by decide))
theorem mj_112_75 : mc_P 112 75 = some (.invokestatic 117, 3, 0, 22, 0) := by decide +kernel
theorem s_112_75 {x0 x1 : Option Value} {x w : Int64} : mw d 112 Q 75 [x0, x1] (.long w :: .long x :: st) h = (mca st 8 ∧ mw d 112 Q 78 [x0, x1] (.long (if w < x then w else x) :: st) h) := (mw_at mj_112_75).trans (z_lmin)
theorem mj_112_78 : mc_P 112 78 = some (.lastore, 1, 0, 0, 0) := by decide +kernel
theorem s_112_78 {x0 x1 : Option Value} {o : Nat} {i : Int32} {w : Int64} : mw d 112 Q 78 [x0, x1] (.long w :: .int i :: .ref o :: st) h = (mg h o 101 ∧ mx i (mh_l h o) ∧ mw d 112 Q 79 [x0, x1] (st) (mh_sj h o i.toNatClampNeg w)) := (mw_at mj_112_78).trans (z_last)
theorem mj_112_79 : mc_P 112 79 = some (.aload_n 0, 1, 0, 0, 0) := by decide +kernel
theorem s_112_79 {x1 : Option Value} {w : Value} : mw d 112 Q 79 [some w, x1] (st) h = mv_a w (mw d 112 Q 80 [some w, x1] (w :: st) h) := (mw_at mj_112_79).trans (z_aload_n rfl)
theorem mj_112_80 : mc_P 112 80 = some (.getfield 9, 3, 5, 5, 0) := by decide +kernel
theorem s_112_80 {x0 x1 : Option Value} {o : Nat} : mw d 112 Q 80 [x0, x1] (.ref o :: st) h = (mg h o 5 ∧ mw d 112 Q 83 [x0, x1] (va_rf (mh_r h o 5) :: st) h) := (mw_at mj_112_80).trans (z_getr (by decide) (by decide) rfl)
theorem mj_112_83 : mc_P 112 83 = some (.iload_n 1, 1, 0, 0, 0) := by decide +kernel
theorem s_112_83 {x0 : Option Value} {w : Value} : mw d 112 Q 83 [x0, some w] (st) h = mv_i w (mw d 112 Q 84 [x0, some w] (w :: st) h) := (mw_at mj_112_83).trans (z_iload_n rfl)
theorem mj_112_84 : mc_P 112 84 = some (.laload, 1, 0, 0, 0) := by decide +kernel
theorem s_112_84 {x0 x1 : Option Value} {o : Nat} {i : Int32} : mw d 112 Q 84 [x0, x1] (.int i :: .ref o :: st) h = (mg h o 101 ∧ mx i (mh_l h o) ∧ mw d 112 Q 85 [x0, x1] (.long (mh_j h o i.toNatClampNeg) :: st) h) := (mw_at mj_112_84).trans (z_lald)
theorem mj_112_85 : mc_P 112 85 = some (.aload_n 0, 1, 0, 0, 0) := by decide +kernel
theorem s_112_85 {x1 : Option Value} {w : Value} : mw d 112 Q 85 [some w, x1] (st) h = mv_a w (mw d 112 Q 86 [some w, x1] (w :: st) h) := (mw_at mj_112_85).trans (z_aload_n rfl)
theorem mj_112_86 : mc_P 112 86 = some (.getfield 15, 3, 5, 6, 0) := by decide +kernel
theorem s_112_86 {x0 x1 : Option Value} {o : Nat} : mw d 112 Q 86 [x0, x1] (.ref o :: st) h = (mg h o 5 ∧ mw d 112 Q 89 [x0, x1] (va_rf (mh_r h o 6) :: st) h) := (mw_at mj_112_86).trans (z_getr (by decide) (by decide) rfl)
theorem mj_112_89 : mc_P 112 89 = some (.iload_n 1, 1, 0, 0, 0) := by decide +kernel
theorem s_112_89 {x0 : Option Value} {w : Value} : mw d 112 Q 89 [x0, some w] (st) h = mv_i w (mw d 112 Q 90 [x0, some w] (w :: st) h) := (mw_at mj_112_89).trans (z_iload_n rfl)
theorem mj_112_90 : mc_P 112 90 = some (.laload, 1, 0, 0, 0) := by decide +kernel
theorem s_112_90 {x0 x1 : Option Value} {o : Nat} {i : Int32} : mw d 112 Q 90 [x0, x1] (.int i :: .ref o :: st) h = (mg h o 101 ∧ mx i (mh_l h o) ∧ mw d 112 Q 91 [x0, x1] (.long (mh_j h o i.toNatClampNeg) :: st) h) := (mw_at mj_112_90).trans (z_lald)
theorem mj_112_91 : mc_P 112 91 = some (.lcmp, 1, 0, 0, 0) := by decide +kernel
theorem s_112_91 {x0 x1 : Option Value} {x w : Int64} : mw d 112 Q 91 [x0, x1] (.long w :: .long x :: st) h = mw d 112 Q 92 [x0, x1] (.int (lg_cmp x w) :: st) h := (mw_at mj_112_91).trans (z_lcmp)
theorem mj_112_92 : mc_P 112 92 = some (.ifCond .gt 7, 3, 0, 0, 0) := by decide +kernel
theorem s_112_92 {x0 x1 : Option Value} {x : Int32} : mw d 112 Q 92 [x0, x1] (.int x :: st) h = mB (0 < x) (mw d 112 Q) 99 95 [x0, x1] st h := (mw_at mj_112_92).trans (z_if_gt (by decide) rfl)
theorem mj_112_95 : mc_P 112 95 = some (.iconst 1, 1, 0, 0, 0) := by decide +kernel
theorem s_112_95 {x0 x1 : Option Value} : mw d 112 Q 95 [x0, x1] (st) h = mw d 112 Q 96 [x0, x1] (.int 1 :: st) h := (mw_at mj_112_95).trans (z_iconst (by decide))
theorem mj_112_96 : mc_P 112 96 = some (.goto 4, 3, 0, 0, 0) := by decide +kernel
theorem s_112_96 {x0 x1 : Option Value} : mw d 112 Q 96 [x0, x1] (st) h = mw d 112 Q 100 [x0, x1] (st) h := (mw_at mj_112_96).trans (z_goto (by decide))
theorem mj_112_99 : mc_P 112 99 = some (.iconst 0, 1, 0, 0, 0) := by decide +kernel
theorem s_112_99 {x0 x1 : Option Value} : mw d 112 Q 99 [x0, x1] (st) h = mw d 112 Q 100 [x0, x1] (.int 0 :: st) h := (mw_at mj_112_99).trans (z_iconst (by decide))
theorem mj_112_100 : mc_P 112 100 = some (.ireturn, 1, 0, 3, 0) := by decide +kernel
theorem s_112_100 {x0 x1 : Option Value} {x : Int32} : mw d 112 Q 100 [x0, x1] ([.int x]) h = ((x = 0 ∨ x = 1) ∧ Q (some (.int x)) h) := (mw_at mj_112_100).trans (z_zret)
theorem e_112 {a0 : Nat} : mcall d 112 [.ref a0] h Q = mw d 112 Q 0 [some (.ref a0), none] [] h := by
  show mw d 112 Q 0 (me_en (mc_nl 112) _) [] h = _
  rw [nl_112]; rfl

/-! InvariantDesk$Ranges.form(II)V -/
theorem mj_113_0 : mc_P 113 0 = some (.aload_n 0, 1, 0, 0, 0) := by decide +kernel
theorem s_113_0 {x1 x2 x3 x4 x5 x6 : Option Value} {w : Value} : mw d 113 Q 0 [some w, x1, x2, x3, x4, x5, x6] (st) h = mv_a w (mw d 113 Q 1 [some w, x1, x2, x3, x4, x5, x6] (w :: st) h) := (mw_at mj_113_0).trans (z_aload_n rfl)
theorem mj_113_1 : mc_P 113 1 = some (.getfield 28, 3, 5, 11, 0) := by decide +kernel
theorem s_113_1 {x0 x1 x2 x3 x4 x5 x6 : Option Value} {o : Nat} : mw d 113 Q 1 [x0, x1, x2, x3, x4, x5, x6] (.ref o :: st) h = (mg h o 5 ∧ mw d 113 Q 4 [x0, x1, x2, x3, x4, x5, x6] (va_rf (mh_r h o 11) :: st) h) := (mw_at mj_113_1).trans (z_getr (by decide) (by decide) rfl)
theorem mj_113_4 : mc_P 113 4 = some (.iconst 0, 1, 0, 0, 0) := by decide +kernel
theorem s_113_4 {x0 x1 x2 x3 x4 x5 x6 : Option Value} : mw d 113 Q 4 [x0, x1, x2, x3, x4, x5, x6] (st) h = mw d 113 Q 5 [x0, x1, x2, x3, x4, x5, x6] (.int 0 :: st) h := (mw_at mj_113_4).trans (z_iconst (by decide))
theorem mj_113_5 : mc_P 113 5 = some (.invokestatic 139, 3, 393, 0, 2) := by decide +kernel
theorem s_113_5 {x0 x1 x2 x3 x4 x5 x6 : Option Value} {a0 a1 : Value} : mw (d + 1) 113 Q 5 [x0, x1, x2, x3, x4, x5, x6] (a1 :: a0 :: st) h = (mca st 8 ∧ mca [a0, a1] 4 ∧ mcall d 393 [a0, a1] h (mK (d + 1) 113 Q 8 [x0, x1, x2, x3, x4, x5, x6] st)) := (mw_at mj_113_5).trans ((z_invs (As := [a0, a1]) rfl rfl).trans (congrArg (And _) (mC_nl nl_393)))
theorem mj_113_8 : mc_P 113 8 = some (.aload_n 0, 1, 0, 0, 0) := by decide +kernel
theorem s_113_8 {x1 x2 x3 x4 x5 x6 : Option Value} {w : Value} : mw d 113 Q 8 [some w, x1, x2, x3, x4, x5, x6] (st) h = mv_a w (mw d 113 Q 9 [some w, x1, x2, x3, x4, x5, x6] (w :: st) h) := (mw_at mj_113_8).trans (z_aload_n rfl)
theorem mj_113_9 : mc_P 113 9 = some (.iconst 0, 1, 0, 0, 0) := by decide +kernel
theorem s_113_9 {x0 x1 x2 x3 x4 x5 x6 : Option Value} : mw d 113 Q 9 [x0, x1, x2, x3, x4, x5, x6] (st) h = mw d 113 Q 10 [x0, x1, x2, x3, x4, x5, x6] (.int 0 :: st) h := (mw_at mj_113_9).trans (z_iconst (by decide))
theorem mj_113_10 : mc_P 113 10 = some (.putfield 145, 3, 5, 13, 0) := by decide +kernel
theorem s_113_10 {x0 x1 x2 x3 x4 x5 x6 : Option Value} {o : Nat} {w : Int32} : mw d 113 Q 10 [x0, x1, x2, x3, x4, x5, x6] (.int w :: .ref o :: st) h = (mg h o 5 ∧ mw d 113 Q 13 [x0, x1, x2, x3, x4, x5, x6] (st) (mh_si h o 13 w)) := (mw_at mj_113_10).trans (z_puti (by decide) (by decide) rfl)
theorem mj_113_13 : mc_P 113 13 = some (.aload_n 0, 1, 0, 0, 0) := by decide +kernel
theorem s_113_13 {x1 x2 x3 x4 x5 x6 : Option Value} {w : Value} : mw d 113 Q 13 [some w, x1, x2, x3, x4, x5, x6] (st) h = mv_a w (mw d 113 Q 14 [some w, x1, x2, x3, x4, x5, x6] (w :: st) h) := (mw_at mj_113_13).trans (z_aload_n rfl)
theorem mj_113_14 : mc_P 113 14 = some (.lconst 0, 1, 0, 0, 0) := by decide +kernel
theorem s_113_14 {x0 x1 x2 x3 x4 x5 x6 : Option Value} : mw d 113 Q 14 [x0, x1, x2, x3, x4, x5, x6] (st) h = mw d 113 Q 15 [x0, x1, x2, x3, x4, x5, x6] (.long 0 :: st) h := (mw_at mj_113_14).trans (z_lconst (by decide))
theorem mj_113_15 : mc_P 113 15 = some (.putfield 148, 3, 5, 14, 0) := by decide +kernel
theorem s_113_15 {x0 x1 x2 x3 x4 x5 x6 : Option Value} {o : Nat} {w : Int64} : mw d 113 Q 15 [x0, x1, x2, x3, x4, x5, x6] (.long w :: .ref o :: st) h = (mg h o 5 ∧ mw d 113 Q 18 [x0, x1, x2, x3, x4, x5, x6] (st) (mh_sj h o 14 w)) := (mw_at mj_113_15).trans (z_putl (by decide) (by decide) rfl)
theorem mj_113_18 : mc_P 113 18 = some (.aload_n 0, 1, 0, 0, 0) := by decide +kernel
theorem s_113_18 {x1 x2 x3 x4 x5 x6 : Option Value} {w : Value} : mw d 113 Q 18 [some w, x1, x2, x3, x4, x5, x6] (st) h = mv_a w (mw d 113 Q 19 [some w, x1, x2, x3, x4, x5, x6] (w :: st) h) := (mw_at mj_113_18).trans (z_aload_n rfl)
theorem mj_113_19 : mc_P 113 19 = some (.lconst 0, 1, 0, 0, 0) := by decide +kernel
theorem s_113_19 {x0 x1 x2 x3 x4 x5 x6 : Option Value} : mw d 113 Q 19 [x0, x1, x2, x3, x4, x5, x6] (st) h = mw d 113 Q 20 [x0, x1, x2, x3, x4, x5, x6] (.long 0 :: st) h := (mw_at mj_113_19).trans (z_lconst (by decide))
theorem mj_113_20 : mc_P 113 20 = some (.putfield 152, 3, 5, 15, 0) := by decide +kernel
theorem s_113_20 {x0 x1 x2 x3 x4 x5 x6 : Option Value} {o : Nat} {w : Int64} : mw d 113 Q 20 [x0, x1, x2, x3, x4, x5, x6] (.long w :: .ref o :: st) h = (mg h o 5 ∧ mw d 113 Q 23 [x0, x1, x2, x3, x4, x5, x6] (st) (mh_sj h o 15 w)) := (mw_at mj_113_20).trans (z_putl (by decide) (by decide) rfl)
theorem mj_113_23 : mc_P 113 23 = some (.aload_n 0, 1, 0, 0, 0) := by decide +kernel
theorem s_113_23 {x1 x2 x3 x4 x5 x6 : Option Value} {w : Value} : mw d 113 Q 23 [some w, x1, x2, x3, x4, x5, x6] (st) h = mv_a w (mw d 113 Q 24 [some w, x1, x2, x3, x4, x5, x6] (w :: st) h) := (mw_at mj_113_23).trans (z_aload_n rfl)
theorem mj_113_24 : mc_P 113 24 = some (.lconst 0, 1, 0, 0, 0) := by decide +kernel
theorem s_113_24 {x0 x1 x2 x3 x4 x5 x6 : Option Value} : mw d 113 Q 24 [x0, x1, x2, x3, x4, x5, x6] (st) h = mw d 113 Q 25 [x0, x1, x2, x3, x4, x5, x6] (.long 0 :: st) h := (mw_at mj_113_24).trans (z_lconst (by decide))
theorem mj_113_25 : mc_P 113 25 = some (.putfield 155, 3, 5, 16, 0) := by decide +kernel
theorem s_113_25 {x0 x1 x2 x3 x4 x5 x6 : Option Value} {o : Nat} {w : Int64} : mw d 113 Q 25 [x0, x1, x2, x3, x4, x5, x6] (.long w :: .ref o :: st) h = (mg h o 5 ∧ mw d 113 Q 28 [x0, x1, x2, x3, x4, x5, x6] (st) (mh_sj h o 16 w)) := (mw_at mj_113_25).trans (z_putl (by decide) (by decide) rfl)
theorem mj_113_28 : mc_P 113 28 = some (.aload_n 0, 1, 0, 0, 0) := by decide +kernel
theorem s_113_28 {x1 x2 x3 x4 x5 x6 : Option Value} {w : Value} : mw d 113 Q 28 [some w, x1, x2, x3, x4, x5, x6] (st) h = mv_a w (mw d 113 Q 29 [some w, x1, x2, x3, x4, x5, x6] (w :: st) h) := (mw_at mj_113_28).trans (z_aload_n rfl)
theorem mj_113_29 : mc_P 113 29 = some (.getfield 37, 3, 5, 0, 0) := by decide +kernel
theorem s_113_29 {x0 x1 x2 x3 x4 x5 x6 : Option Value} {o : Nat} : mw d 113 Q 29 [x0, x1, x2, x3, x4, x5, x6] (.ref o :: st) h = (mg h o 5 ∧ mw d 113 Q 32 [x0, x1, x2, x3, x4, x5, x6] (va_rf (mh_r h o 0) :: st) h) := (mw_at mj_113_29).trans (z_getr (by decide) (by decide) rfl)
theorem mj_113_32 : mc_P 113 32 = some (.getfield 64, 3, 7, 7, 0) := by decide +kernel
theorem s_113_32 {x0 x1 x2 x3 x4 x5 x6 : Option Value} {o : Nat} : mw d 113 Q 32 [x0, x1, x2, x3, x4, x5, x6] (.ref o :: st) h = (mg h o 7 ∧ mw d 113 Q 35 [x0, x1, x2, x3, x4, x5, x6] (va_rf (mh_r h o 7) :: st) h) := (mw_at mj_113_32).trans (z_getr (by decide) (by decide) rfl)
theorem mj_113_35 : mc_P 113 35 = some (.iload_n 1, 1, 0, 0, 0) := by decide +kernel
theorem s_113_35 {x0 x2 x3 x4 x5 x6 : Option Value} {w : Value} : mw d 113 Q 35 [x0, some w, x2, x3, x4, x5, x6] (st) h = mv_i w (mw d 113 Q 36 [x0, some w, x2, x3, x4, x5, x6] (w :: st) h) := (mw_at mj_113_35).trans (z_iload_n rfl)
theorem mj_113_36 : mc_P 113 36 = some (.iaload, 1, 0, 0, 0) := by decide +kernel
theorem s_113_36 {x0 x1 x2 x3 x4 x5 x6 : Option Value} {o : Nat} {i : Int32} : mw d 113 Q 36 [x0, x1, x2, x3, x4, x5, x6] (.int i :: .ref o :: st) h = (mg h o 100 ∧ mx i (mh_l h o) ∧ mw d 113 Q 37 [x0, x1, x2, x3, x4, x5, x6] (.int (mh_i h o i.toNatClampNeg) :: st) h) := (mw_at mj_113_36).trans (z_iald)
theorem mj_113_37 : mc_P 113 37 = some (.istore_n 3, 1, 0, 0, 0) := by decide +kernel
theorem s_113_37 {x0 x1 x2 x3 x4 x5 x6 : Option Value} {w : Int32} : mw d 113 Q 37 [x0, x1, x2, x3, x4, x5, x6] (.int w :: st) h = mw d 113 Q 38 [x0, x1, mk2 x2, some (.int w), x4, x5, x6] (st) h := (mw_at mj_113_37).trans (z_istore_n (Nat.le_of_ble_eq_true rfl) (me_s1_mk (j := 2) (w := x2) rfl))
theorem mj_113_38 : mc_P 113 38 = some (.iload_n 3, 1, 0, 0, 0) := by decide +kernel
theorem s_113_38 {x0 x1 x2 x4 x5 x6 : Option Value} {w : Value} : mw d 113 Q 38 [x0, x1, x2, some w, x4, x5, x6] (st) h = mv_i w (mw d 113 Q 39 [x0, x1, x2, some w, x4, x5, x6] (w :: st) h) := (mw_at mj_113_38).trans (z_iload_n rfl)
theorem mj_113_39 : mc_P 113 39 = some (.aload_n 0, 1, 0, 0, 0) := by decide +kernel
theorem s_113_39 {x1 x2 x3 x4 x5 x6 : Option Value} {w : Value} : mw d 113 Q 39 [some w, x1, x2, x3, x4, x5, x6] (st) h = mv_a w (mw d 113 Q 40 [some w, x1, x2, x3, x4, x5, x6] (w :: st) h) := (mw_at mj_113_39).trans (z_aload_n rfl)
theorem mj_113_40 : mc_P 113 40 = some (.getfield 37, 3, 5, 0, 0) := by decide +kernel
theorem s_113_40 {x0 x1 x2 x3 x4 x5 x6 : Option Value} {o : Nat} : mw d 113 Q 40 [x0, x1, x2, x3, x4, x5, x6] (.ref o :: st) h = (mg h o 5 ∧ mw d 113 Q 43 [x0, x1, x2, x3, x4, x5, x6] (va_rf (mh_r h o 0) :: st) h) := (mw_at mj_113_40).trans (z_getr (by decide) (by decide) rfl)
theorem mj_113_43 : mc_P 113 43 = some (.getfield 64, 3, 7, 7, 0) := by decide +kernel
theorem s_113_43 {x0 x1 x2 x3 x4 x5 x6 : Option Value} {o : Nat} : mw d 113 Q 43 [x0, x1, x2, x3, x4, x5, x6] (.ref o :: st) h = (mg h o 7 ∧ mw d 113 Q 46 [x0, x1, x2, x3, x4, x5, x6] (va_rf (mh_r h o 7) :: st) h) := (mw_at mj_113_43).trans (z_getr (by decide) (by decide) rfl)
theorem mj_113_46 : mc_P 113 46 = some (.iload_n 2, 1, 0, 0, 0) := by decide +kernel
theorem s_113_46 {x0 x1 x3 x4 x5 x6 : Option Value} {w : Value} : mw d 113 Q 46 [x0, x1, some w, x3, x4, x5, x6] (st) h = mv_i w (mw d 113 Q 47 [x0, x1, some w, x3, x4, x5, x6] (w :: st) h) := (mw_at mj_113_46).trans (z_iload_n rfl)
theorem mj_113_47 : mc_P 113 47 = some (.iaload, 1, 0, 0, 0) := by decide +kernel
theorem s_113_47 {x0 x1 x2 x3 x4 x5 x6 : Option Value} {o : Nat} {i : Int32} : mw d 113 Q 47 [x0, x1, x2, x3, x4, x5, x6] (.int i :: .ref o :: st) h = (mg h o 100 ∧ mx i (mh_l h o) ∧ mw d 113 Q 48 [x0, x1, x2, x3, x4, x5, x6] (.int (mh_i h o i.toNatClampNeg) :: st) h) := (mw_at mj_113_47).trans (z_iald)
theorem mj_113_48 : mc_P 113 48 = some (.if_icmp .ge 194, 3, 0, 0, 0) := by decide +kernel
theorem s_113_48 {x0 x1 x2 x3 x4 x5 x6 : Option Value} {x w : Int32} : mw d 113 Q 48 [x0, x1, x2, x3, x4, x5, x6] (.int w :: .int x :: st) h = mB (w ≤ x) (mw d 113 Q) 242 51 [x0, x1, x2, x3, x4, x5, x6] st h := (mw_at mj_113_48).trans (z_icmp_ge (by decide) rfl)
theorem mj_113_51 : mc_P 113 51 = some (.aload_n 0, 1, 0, 0, 0) := by decide +kernel
theorem s_113_51 {x1 x2 x3 x4 x5 x6 : Option Value} {w : Value} : mw d 113 Q 51 [some w, x1, x2, x3, x4, x5, x6] (st) h = mv_a w (mw d 113 Q 52 [some w, x1, x2, x3, x4, x5, x6] (w :: st) h) := (mw_at mj_113_51).trans (z_aload_n rfl)
theorem mj_113_52 : mc_P 113 52 = some (.getfield 37, 3, 5, 0, 0) := by decide +kernel
theorem s_113_52 {x0 x1 x2 x3 x4 x5 x6 : Option Value} {o : Nat} : mw d 113 Q 52 [x0, x1, x2, x3, x4, x5, x6] (.ref o :: st) h = (mg h o 5 ∧ mw d 113 Q 55 [x0, x1, x2, x3, x4, x5, x6] (va_rf (mh_r h o 0) :: st) h) := (mw_at mj_113_52).trans (z_getr (by decide) (by decide) rfl)
theorem mj_113_55 : mc_P 113 55 = some (.getfield 158, 3, 7, 3, 0) := by decide +kernel
theorem s_113_55 {x0 x1 x2 x3 x4 x5 x6 : Option Value} {o : Nat} : mw d 113 Q 55 [x0, x1, x2, x3, x4, x5, x6] (.ref o :: st) h = (mg h o 7 ∧ mw d 113 Q 58 [x0, x1, x2, x3, x4, x5, x6] (va_rf (mh_r h o 3) :: st) h) := (mw_at mj_113_55).trans (z_getr (by decide) (by decide) rfl)
theorem mj_113_58 : mc_P 113 58 = some (.iload_n 3, 1, 0, 0, 0) := by decide +kernel
theorem s_113_58 {x0 x1 x2 x4 x5 x6 : Option Value} {w : Value} : mw d 113 Q 58 [x0, x1, x2, some w, x4, x5, x6] (st) h = mv_i w (mw d 113 Q 59 [x0, x1, x2, some w, x4, x5, x6] (w :: st) h) := (mw_at mj_113_58).trans (z_iload_n rfl)
theorem mj_113_59 : mc_P 113 59 = some (.iaload, 1, 0, 0, 0) := by decide +kernel
theorem s_113_59 {x0 x1 x2 x3 x4 x5 x6 : Option Value} {o : Nat} {i : Int32} : mw d 113 Q 59 [x0, x1, x2, x3, x4, x5, x6] (.int i :: .ref o :: st) h = (mg h o 100 ∧ mx i (mh_l h o) ∧ mw d 113 Q 60 [x0, x1, x2, x3, x4, x5, x6] (.int (mh_i h o i.toNatClampNeg) :: st) h) := (mw_at mj_113_59).trans (z_iald)
theorem mj_113_60 : mc_P 113 60 = some (.iconst 1, 1, 0, 0, 0) := by decide +kernel
theorem s_113_60 {x0 x1 x2 x3 x4 x5 x6 : Option Value} : mw d 113 Q 60 [x0, x1, x2, x3, x4, x5, x6] (st) h = mw d 113 Q 61 [x0, x1, x2, x3, x4, x5, x6] (.int 1 :: st) h := (mw_at mj_113_60).trans (z_iconst (by decide))
theorem mj_113_61 : mc_P 113 61 = some (.if_icmp .ne 7, 3, 0, 0, 0) := by decide +kernel
theorem s_113_61 {x0 x1 x2 x3 x4 x5 x6 : Option Value} {x w : Int32} : mw d 113 Q 61 [x0, x1, x2, x3, x4, x5, x6] (.int w :: .int x :: st) h = mB (¬ x = w) (mw d 113 Q) 68 64 [x0, x1, x2, x3, x4, x5, x6] st h := (mw_at mj_113_61).trans (z_icmp_ne (by decide) rfl)
theorem mj_113_64 : mc_P 113 64 = some (.iconst 1, 1, 0, 0, 0) := by decide +kernel
theorem s_113_64 {x0 x1 x2 x3 x4 x5 x6 : Option Value} : mw d 113 Q 64 [x0, x1, x2, x3, x4, x5, x6] (st) h = mw d 113 Q 65 [x0, x1, x2, x3, x4, x5, x6] (.int 1 :: st) h := (mw_at mj_113_64).trans (z_iconst (by decide))
theorem mj_113_65 : mc_P 113 65 = some (.goto 4, 3, 0, 0, 0) := by decide +kernel
theorem s_113_65 {x0 x1 x2 x3 x4 x5 x6 : Option Value} : mw d 113 Q 65 [x0, x1, x2, x3, x4, x5, x6] (st) h = mw d 113 Q 69 [x0, x1, x2, x3, x4, x5, x6] (st) h := (mw_at mj_113_65).trans (z_goto (by decide))
theorem mj_113_68 : mc_P 113 68 = some (.iconst 0, 1, 0, 0, 0) := by decide +kernel
theorem s_113_68 {x0 x1 x2 x3 x4 x5 x6 : Option Value} : mw d 113 Q 68 [x0, x1, x2, x3, x4, x5, x6] (st) h = mw d 113 Q 69 [x0, x1, x2, x3, x4, x5, x6] (.int 0 :: st) h := (mw_at mj_113_68).trans (z_iconst (by decide))
theorem mj_113_69 : mc_P 113 69 = some (.istore 4, 2, 0, 0, 0) := by decide +kernel
theorem s_113_69 {x0 x1 x2 x3 x4 x5 x6 : Option Value} {w : Int32} : mw d 113 Q 69 [x0, x1, x2, x3, x4, x5, x6] (.int w :: st) h = mw d 113 Q 71 [x0, x1, x2, mk2 x3, some (.int w), x5, x6] (st) h := (mw_at mj_113_69).trans (z_istore (Nat.le_of_ble_eq_true rfl) (me_s1_mk (j := 3) (w := x3) rfl))
theorem mj_113_71 : mc_P 113 71 = some (.aload_n 0, 1, 0, 0, 0) := by decide +kernel
theorem s_113_71 {x1 x2 x3 x4 x5 x6 : Option Value} {w : Value} : mw d 113 Q 71 [some w, x1, x2, x3, x4, x5, x6] (st) h = mv_a w (mw d 113 Q 72 [some w, x1, x2, x3, x4, x5, x6] (w :: st) h) := (mw_at mj_113_71).trans (z_aload_n rfl)
theorem mj_113_72 : mc_P 113 72 = some (.dup, 1, 0, 0, 0) := by decide +kernel
theorem s_113_72 {x0 x1 x2 x3 x4 x5 x6 : Option Value} {w : Value} : mw d 113 Q 72 [x0, x1, x2, x3, x4, x5, x6] (w :: st) h = (w.category = 1 ∧ mw d 113 Q 73 [x0, x1, x2, x3, x4, x5, x6] (w :: w :: st) h) := (mw_at mj_113_72).trans (z_dup)
theorem mj_113_73 : mc_P 113 73 = some (.getfield 148, 3, 5, 14, 0) := by decide +kernel
theorem s_113_73 {x0 x1 x2 x3 x4 x5 x6 : Option Value} {o : Nat} : mw d 113 Q 73 [x0, x1, x2, x3, x4, x5, x6] (.ref o :: st) h = (mg h o 5 ∧ mw d 113 Q 76 [x0, x1, x2, x3, x4, x5, x6] (.long (mh_j h o 14) :: st) h) := (mw_at mj_113_73).trans (z_getl (by decide) (by decide) rfl)
theorem mj_113_76 : mc_P 113 76 = some (.iload 4, 2, 0, 0, 0) := by decide +kernel
theorem s_113_76 {x0 x1 x2 x3 x5 x6 : Option Value} {w : Value} : mw d 113 Q 76 [x0, x1, x2, x3, some w, x5, x6] (st) h = mv_i w (mw d 113 Q 78 [x0, x1, x2, x3, some w, x5, x6] (w :: st) h) := (mw_at mj_113_76).trans (z_iload rfl)
theorem mj_113_78 : mc_P 113 78 = some (.ifCond .eq 13, 3, 0, 0, 0) := by decide +kernel
theorem s_113_78 {x0 x1 x2 x3 x4 x5 x6 : Option Value} {x : Int32} : mw d 113 Q 78 [x0, x1, x2, x3, x4, x5, x6] (.int x :: st) h = mB (x = 0) (mw d 113 Q) 91 81 [x0, x1, x2, x3, x4, x5, x6] st h := (mw_at mj_113_78).trans (z_if_eq (by decide) rfl)
theorem mj_113_81 : mc_P 113 81 = some (.aload_n 0, 1, 0, 0, 0) := by decide +kernel
theorem s_113_81 {x1 x2 x3 x4 x5 x6 : Option Value} {w : Value} : mw d 113 Q 81 [some w, x1, x2, x3, x4, x5, x6] (st) h = mv_a w (mw d 113 Q 82 [some w, x1, x2, x3, x4, x5, x6] (w :: st) h) := (mw_at mj_113_81).trans (z_aload_n rfl)
theorem mj_113_82 : mc_P 113 82 = some (.getfield 25, 3, 5, 10, 0) := by decide +kernel
theorem s_113_82 {x0 x1 x2 x3 x4 x5 x6 : Option Value} {o : Nat} : mw d 113 Q 82 [x0, x1, x2, x3, x4, x5, x6] (.ref o :: st) h = (mg h o 5 ∧ mw d 113 Q 85 [x0, x1, x2, x3, x4, x5, x6] (va_rf (mh_r h o 10) :: st) h) := (mw_at mj_113_82).trans (z_getr (by decide) (by decide) rfl)
theorem mj_113_85 : mc_P 113 85 = some (.iload_n 3, 1, 0, 0, 0) := by decide +kernel
theorem s_113_85 {x0 x1 x2 x4 x5 x6 : Option Value} {w : Value} : mw d 113 Q 85 [x0, x1, x2, some w, x4, x5, x6] (st) h = mv_i w (mw d 113 Q 86 [x0, x1, x2, some w, x4, x5, x6] (w :: st) h) := (mw_at mj_113_85).trans (z_iload_n rfl)
theorem mj_113_86 : mc_P 113 86 = some (.laload, 1, 0, 0, 0) := by decide +kernel
theorem s_113_86 {x0 x1 x2 x3 x4 x5 x6 : Option Value} {o : Nat} {i : Int32} : mw d 113 Q 86 [x0, x1, x2, x3, x4, x5, x6] (.int i :: .ref o :: st) h = (mg h o 101 ∧ mx i (mh_l h o) ∧ mw d 113 Q 87 [x0, x1, x2, x3, x4, x5, x6] (.long (mh_j h o i.toNatClampNeg) :: st) h) := (mw_at mj_113_86).trans (z_lald)
theorem mj_113_87 : mc_P 113 87 = some (.lneg, 1, 0, 0, 0) := by decide +kernel
theorem s_113_87 {x0 x1 x2 x3 x4 x5 x6 : Option Value} {x : Int64} : mw d 113 Q 87 [x0, x1, x2, x3, x4, x5, x6] (.long x :: st) h = mw d 113 Q 88 [x0, x1, x2, x3, x4, x5, x6] (.long (-x) :: st) h := (mw_at mj_113_87).trans (z_lneg)
theorem mj_113_88 : mc_P 113 88 = some (.goto 9, 3, 0, 0, 0) := by decide +kernel
theorem s_113_88 {x0 x1 x2 x3 x4 x5 x6 : Option Value} : mw d 113 Q 88 [x0, x1, x2, x3, x4, x5, x6] (st) h = mw d 113 Q 97 [x0, x1, x2, x3, x4, x5, x6] (st) h := (mw_at mj_113_88).trans (z_goto (by decide))
theorem mj_113_91 : mc_P 113 91 = some (.aload_n 0, 1, 0, 0, 0) := by decide +kernel
theorem s_113_91 {x1 x2 x3 x4 x5 x6 : Option Value} {w : Value} : mw d 113 Q 91 [some w, x1, x2, x3, x4, x5, x6] (st) h = mv_a w (mw d 113 Q 92 [some w, x1, x2, x3, x4, x5, x6] (w :: st) h) := (mw_at mj_113_91).trans (z_aload_n rfl)
theorem mj_113_92 : mc_P 113 92 = some (.getfield 22, 3, 5, 9, 0) := by decide +kernel
theorem s_113_92 {x0 x1 x2 x3 x4 x5 x6 : Option Value} {o : Nat} : mw d 113 Q 92 [x0, x1, x2, x3, x4, x5, x6] (.ref o :: st) h = (mg h o 5 ∧ mw d 113 Q 95 [x0, x1, x2, x3, x4, x5, x6] (va_rf (mh_r h o 9) :: st) h) := (mw_at mj_113_92).trans (z_getr (by decide) (by decide) rfl)
theorem mj_113_95 : mc_P 113 95 = some (.iload_n 3, 1, 0, 0, 0) := by decide +kernel
theorem s_113_95 {x0 x1 x2 x4 x5 x6 : Option Value} {w : Value} : mw d 113 Q 95 [x0, x1, x2, some w, x4, x5, x6] (st) h = mv_i w (mw d 113 Q 96 [x0, x1, x2, some w, x4, x5, x6] (w :: st) h) := (mw_at mj_113_95).trans (z_iload_n rfl)
theorem mj_113_96 : mc_P 113 96 = some (.laload, 1, 0, 0, 0) := by decide +kernel
theorem s_113_96 {x0 x1 x2 x3 x4 x5 x6 : Option Value} {o : Nat} {i : Int32} : mw d 113 Q 96 [x0, x1, x2, x3, x4, x5, x6] (.int i :: .ref o :: st) h = (mg h o 101 ∧ mx i (mh_l h o) ∧ mw d 113 Q 97 [x0, x1, x2, x3, x4, x5, x6] (.long (mh_j h o i.toNatClampNeg) :: st) h) := (mw_at mj_113_96).trans (z_lald)
theorem mj_113_97 : mc_P 113 97 = some (.ladd, 1, 0, 0, 0) := by decide +kernel
theorem s_113_97 {x0 x1 x2 x3 x4 x5 x6 : Option Value} {x w : Int64} : mw d 113 Q 97 [x0, x1, x2, x3, x4, x5, x6] (.long w :: .long x :: st) h = mw d 113 Q 98 [x0, x1, x2, x3, x4, x5, x6] (.long (x + w) :: st) h := (mw_at mj_113_97).trans (z_ladd)
theorem mj_113_98 : mc_P 113 98 = some (.putfield 148, 3, 5, 14, 0) := by decide +kernel
theorem s_113_98 {x0 x1 x2 x3 x4 x5 x6 : Option Value} {o : Nat} {w : Int64} : mw d 113 Q 98 [x0, x1, x2, x3, x4, x5, x6] (.long w :: .ref o :: st) h = (mg h o 5 ∧ mw d 113 Q 101 [x0, x1, x2, x3, x4, x5, x6] (st) (mh_sj h o 14 w)) := (mw_at mj_113_98).trans (z_putl (by decide) (by decide) rfl)
theorem mj_113_101 : mc_P 113 101 = some (.aload_n 0, 1, 0, 0, 0) := by decide +kernel
theorem s_113_101 {x1 x2 x3 x4 x5 x6 : Option Value} {w : Value} : mw d 113 Q 101 [some w, x1, x2, x3, x4, x5, x6] (st) h = mv_a w (mw d 113 Q 102 [some w, x1, x2, x3, x4, x5, x6] (w :: st) h) := (mw_at mj_113_101).trans (z_aload_n rfl)
theorem mj_113_102 : mc_P 113 102 = some (.dup, 1, 0, 0, 0) := by decide +kernel
theorem s_113_102 {x0 x1 x2 x3 x4 x5 x6 : Option Value} {w : Value} : mw d 113 Q 102 [x0, x1, x2, x3, x4, x5, x6] (w :: st) h = (w.category = 1 ∧ mw d 113 Q 103 [x0, x1, x2, x3, x4, x5, x6] (w :: w :: st) h) := (mw_at mj_113_102).trans (z_dup)
theorem mj_113_103 : mc_P 113 103 = some (.getfield 152, 3, 5, 15, 0) := by decide +kernel
theorem s_113_103 {x0 x1 x2 x3 x4 x5 x6 : Option Value} {o : Nat} : mw d 113 Q 103 [x0, x1, x2, x3, x4, x5, x6] (.ref o :: st) h = (mg h o 5 ∧ mw d 113 Q 106 [x0, x1, x2, x3, x4, x5, x6] (.long (mh_j h o 15) :: st) h) := (mw_at mj_113_103).trans (z_getl (by decide) (by decide) rfl)
theorem mj_113_106 : mc_P 113 106 = some (.iload 4, 2, 0, 0, 0) := by decide +kernel
theorem s_113_106 {x0 x1 x2 x3 x5 x6 : Option Value} {w : Value} : mw d 113 Q 106 [x0, x1, x2, x3, some w, x5, x6] (st) h = mv_i w (mw d 113 Q 108 [x0, x1, x2, x3, some w, x5, x6] (w :: st) h) := (mw_at mj_113_106).trans (z_iload rfl)
theorem mj_113_108 : mc_P 113 108 = some (.ifCond .eq 13, 3, 0, 0, 0) := by decide +kernel
theorem s_113_108 {x0 x1 x2 x3 x4 x5 x6 : Option Value} {x : Int32} : mw d 113 Q 108 [x0, x1, x2, x3, x4, x5, x6] (.int x :: st) h = mB (x = 0) (mw d 113 Q) 121 111 [x0, x1, x2, x3, x4, x5, x6] st h := (mw_at mj_113_108).trans (z_if_eq (by decide) rfl)
theorem mj_113_111 : mc_P 113 111 = some (.aload_n 0, 1, 0, 0, 0) := by decide +kernel
theorem s_113_111 {x1 x2 x3 x4 x5 x6 : Option Value} {w : Value} : mw d 113 Q 111 [some w, x1, x2, x3, x4, x5, x6] (st) h = mv_a w (mw d 113 Q 112 [some w, x1, x2, x3, x4, x5, x6] (w :: st) h) := (mw_at mj_113_111).trans (z_aload_n rfl)
theorem mj_113_112 : mc_P 113 112 = some (.getfield 22, 3, 5, 9, 0) := by decide +kernel
theorem s_113_112 {x0 x1 x2 x3 x4 x5 x6 : Option Value} {o : Nat} : mw d 113 Q 112 [x0, x1, x2, x3, x4, x5, x6] (.ref o :: st) h = (mg h o 5 ∧ mw d 113 Q 115 [x0, x1, x2, x3, x4, x5, x6] (va_rf (mh_r h o 9) :: st) h) := (mw_at mj_113_112).trans (z_getr (by decide) (by decide) rfl)
theorem mj_113_115 : mc_P 113 115 = some (.iload_n 3, 1, 0, 0, 0) := by decide +kernel
theorem s_113_115 {x0 x1 x2 x4 x5 x6 : Option Value} {w : Value} : mw d 113 Q 115 [x0, x1, x2, some w, x4, x5, x6] (st) h = mv_i w (mw d 113 Q 116 [x0, x1, x2, some w, x4, x5, x6] (w :: st) h) := (mw_at mj_113_115).trans (z_iload_n rfl)
theorem mj_113_116 : mc_P 113 116 = some (.laload, 1, 0, 0, 0) := by decide +kernel
theorem s_113_116 {x0 x1 x2 x3 x4 x5 x6 : Option Value} {o : Nat} {i : Int32} : mw d 113 Q 116 [x0, x1, x2, x3, x4, x5, x6] (.int i :: .ref o :: st) h = (mg h o 101 ∧ mx i (mh_l h o) ∧ mw d 113 Q 117 [x0, x1, x2, x3, x4, x5, x6] (.long (mh_j h o i.toNatClampNeg) :: st) h) := (mw_at mj_113_116).trans (z_lald)
theorem mj_113_117 : mc_P 113 117 = some (.lneg, 1, 0, 0, 0) := by decide +kernel
theorem s_113_117 {x0 x1 x2 x3 x4 x5 x6 : Option Value} {x : Int64} : mw d 113 Q 117 [x0, x1, x2, x3, x4, x5, x6] (.long x :: st) h = mw d 113 Q 118 [x0, x1, x2, x3, x4, x5, x6] (.long (-x) :: st) h := (mw_at mj_113_117).trans (z_lneg)
theorem mj_113_118 : mc_P 113 118 = some (.goto 9, 3, 0, 0, 0) := by decide +kernel
theorem s_113_118 {x0 x1 x2 x3 x4 x5 x6 : Option Value} : mw d 113 Q 118 [x0, x1, x2, x3, x4, x5, x6] (st) h = mw d 113 Q 127 [x0, x1, x2, x3, x4, x5, x6] (st) h := (mw_at mj_113_118).trans (z_goto (by decide))
theorem mj_113_121 : mc_P 113 121 = some (.aload_n 0, 1, 0, 0, 0) := by decide +kernel
theorem s_113_121 {x1 x2 x3 x4 x5 x6 : Option Value} {w : Value} : mw d 113 Q 121 [some w, x1, x2, x3, x4, x5, x6] (st) h = mv_a w (mw d 113 Q 122 [some w, x1, x2, x3, x4, x5, x6] (w :: st) h) := (mw_at mj_113_121).trans (z_aload_n rfl)
theorem mj_113_122 : mc_P 113 122 = some (.getfield 25, 3, 5, 10, 0) := by decide +kernel
theorem s_113_122 {x0 x1 x2 x3 x4 x5 x6 : Option Value} {o : Nat} : mw d 113 Q 122 [x0, x1, x2, x3, x4, x5, x6] (.ref o :: st) h = (mg h o 5 ∧ mw d 113 Q 125 [x0, x1, x2, x3, x4, x5, x6] (va_rf (mh_r h o 10) :: st) h) := (mw_at mj_113_122).trans (z_getr (by decide) (by decide) rfl)
theorem mj_113_125 : mc_P 113 125 = some (.iload_n 3, 1, 0, 0, 0) := by decide +kernel
theorem s_113_125 {x0 x1 x2 x4 x5 x6 : Option Value} {w : Value} : mw d 113 Q 125 [x0, x1, x2, some w, x4, x5, x6] (st) h = mv_i w (mw d 113 Q 126 [x0, x1, x2, some w, x4, x5, x6] (w :: st) h) := (mw_at mj_113_125).trans (z_iload_n rfl)
theorem mj_113_126 : mc_P 113 126 = some (.laload, 1, 0, 0, 0) := by decide +kernel
theorem s_113_126 {x0 x1 x2 x3 x4 x5 x6 : Option Value} {o : Nat} {i : Int32} : mw d 113 Q 126 [x0, x1, x2, x3, x4, x5, x6] (.int i :: .ref o :: st) h = (mg h o 101 ∧ mx i (mh_l h o) ∧ mw d 113 Q 127 [x0, x1, x2, x3, x4, x5, x6] (.long (mh_j h o i.toNatClampNeg) :: st) h) := (mw_at mj_113_126).trans (z_lald)
theorem mj_113_127 : mc_P 113 127 = some (.ladd, 1, 0, 0, 0) := by decide +kernel
theorem s_113_127 {x0 x1 x2 x3 x4 x5 x6 : Option Value} {x w : Int64} : mw d 113 Q 127 [x0, x1, x2, x3, x4, x5, x6] (.long w :: .long x :: st) h = mw d 113 Q 128 [x0, x1, x2, x3, x4, x5, x6] (.long (x + w) :: st) h := (mw_at mj_113_127).trans (z_ladd)
theorem mj_113_128 : mc_P 113 128 = some (.putfield 152, 3, 5, 15, 0) := by decide +kernel
theorem s_113_128 {x0 x1 x2 x3 x4 x5 x6 : Option Value} {o : Nat} {w : Int64} : mw d 113 Q 128 [x0, x1, x2, x3, x4, x5, x6] (.long w :: .ref o :: st) h = (mg h o 5 ∧ mw d 113 Q 131 [x0, x1, x2, x3, x4, x5, x6] (st) (mh_sj h o 15 w)) := (mw_at mj_113_128).trans (z_putl (by decide) (by decide) rfl)
theorem mj_113_131 : mc_P 113 131 = some (.aload_n 0, 1, 0, 0, 0) := by decide +kernel
theorem s_113_131 {x1 x2 x3 x4 x5 x6 : Option Value} {w : Value} : mw d 113 Q 131 [some w, x1, x2, x3, x4, x5, x6] (st) h = mv_a w (mw d 113 Q 132 [some w, x1, x2, x3, x4, x5, x6] (w :: st) h) := (mw_at mj_113_131).trans (z_aload_n rfl)
theorem mj_113_132 : mc_P 113 132 = some (.getfield 37, 3, 5, 0, 0) := by decide +kernel
theorem s_113_132 {x0 x1 x2 x3 x4 x5 x6 : Option Value} {o : Nat} : mw d 113 Q 132 [x0, x1, x2, x3, x4, x5, x6] (.ref o :: st) h = (mg h o 5 ∧ mw d 113 Q 135 [x0, x1, x2, x3, x4, x5, x6] (va_rf (mh_r h o 0) :: st) h) := (mw_at mj_113_132).trans (z_getr (by decide) (by decide) rfl)
theorem mj_113_135 : mc_P 113 135 = some (.getfield 161, 3, 7, 4, 0) := by decide +kernel
theorem s_113_135 {x0 x1 x2 x3 x4 x5 x6 : Option Value} {o : Nat} : mw d 113 Q 135 [x0, x1, x2, x3, x4, x5, x6] (.ref o :: st) h = (mg h o 7 ∧ mw d 113 Q 138 [x0, x1, x2, x3, x4, x5, x6] (va_rf (mh_r h o 4) :: st) h) := (mw_at mj_113_135).trans (z_getr (by decide) (by decide) rfl)
theorem mj_113_138 : mc_P 113 138 = some (.iload_n 3, 1, 0, 0, 0) := by decide +kernel
theorem s_113_138 {x0 x1 x2 x4 x5 x6 : Option Value} {w : Value} : mw d 113 Q 138 [x0, x1, x2, some w, x4, x5, x6] (st) h = mv_i w (mw d 113 Q 139 [x0, x1, x2, some w, x4, x5, x6] (w :: st) h) := (mw_at mj_113_138).trans (z_iload_n rfl)
theorem mj_113_139 : mc_P 113 139 = some (.iaload, 1, 0, 0, 0) := by decide +kernel
theorem s_113_139 {x0 x1 x2 x3 x4 x5 x6 : Option Value} {o : Nat} {i : Int32} : mw d 113 Q 139 [x0, x1, x2, x3, x4, x5, x6] (.int i :: .ref o :: st) h = (mg h o 100 ∧ mx i (mh_l h o) ∧ mw d 113 Q 140 [x0, x1, x2, x3, x4, x5, x6] (.int (mh_i h o i.toNatClampNeg) :: st) h) := (mw_at mj_113_139).trans (z_iald)
theorem mj_113_140 : mc_P 113 140 = some (.istore 5, 2, 0, 0, 0) := by decide +kernel
theorem s_113_140 {x0 x1 x2 x3 x4 x5 x6 : Option Value} {w : Int32} : mw d 113 Q 140 [x0, x1, x2, x3, x4, x5, x6] (.int w :: st) h = mw d 113 Q 142 [x0, x1, x2, x3, mk2 x4, some (.int w), x6] (st) h := (mw_at mj_113_140).trans (z_istore (Nat.le_of_ble_eq_true rfl) (me_s1_mk (j := 4) (w := x4) rfl))
theorem mj_113_142 : mc_P 113 142 = some (.iload 5, 2, 0, 0, 0) := by decide +kernel
theorem s_113_142 {x0 x1 x2 x3 x4 x6 : Option Value} {w : Value} : mw d 113 Q 142 [x0, x1, x2, x3, x4, some w, x6] (st) h = mv_i w (mw d 113 Q 144 [x0, x1, x2, x3, x4, some w, x6] (w :: st) h) := (mw_at mj_113_142).trans (z_iload rfl)
theorem mj_113_144 : mc_P 113 144 = some (.iconst (-1), 1, 0, 0, 0) := by decide +kernel
theorem s_113_144 {x0 x1 x2 x3 x4 x5 x6 : Option Value} : mw d 113 Q 144 [x0, x1, x2, x3, x4, x5, x6] (st) h = mw d 113 Q 145 [x0, x1, x2, x3, x4, x5, x6] (.int (-1) :: st) h := (mw_at mj_113_144).trans (z_iconst (by decide))
theorem mj_113_145 : mc_P 113 145 = some (.if_icmp .ne 36, 3, 0, 0, 0) := by decide +kernel
theorem s_113_145 {x0 x1 x2 x3 x4 x5 x6 : Option Value} {x w : Int32} : mw d 113 Q 145 [x0, x1, x2, x3, x4, x5, x6] (.int w :: .int x :: st) h = mB (¬ x = w) (mw d 113 Q) 181 148 [x0, x1, x2, x3, x4, x5, x6] st h := (mw_at mj_113_145).trans (z_icmp_ne (by decide) rfl)
theorem mj_113_148 : mc_P 113 148 = some (.aload_n 0, 1, 0, 0, 0) := by decide +kernel
theorem s_113_148 {x1 x2 x3 x4 x5 x6 : Option Value} {w : Value} : mw d 113 Q 148 [some w, x1, x2, x3, x4, x5, x6] (st) h = mv_a w (mw d 113 Q 149 [some w, x1, x2, x3, x4, x5, x6] (w :: st) h) := (mw_at mj_113_148).trans (z_aload_n rfl)
theorem mj_113_149 : mc_P 113 149 = some (.dup, 1, 0, 0, 0) := by decide +kernel
theorem s_113_149 {x0 x1 x2 x3 x4 x5 x6 : Option Value} {w : Value} : mw d 113 Q 149 [x0, x1, x2, x3, x4, x5, x6] (w :: st) h = (w.category = 1 ∧ mw d 113 Q 150 [x0, x1, x2, x3, x4, x5, x6] (w :: w :: st) h) := (mw_at mj_113_149).trans (z_dup)
theorem mj_113_150 : mc_P 113 150 = some (.getfield 155, 3, 5, 16, 0) := by decide +kernel
theorem s_113_150 {x0 x1 x2 x3 x4 x5 x6 : Option Value} {o : Nat} : mw d 113 Q 150 [x0, x1, x2, x3, x4, x5, x6] (.ref o :: st) h = (mg h o 5 ∧ mw d 113 Q 153 [x0, x1, x2, x3, x4, x5, x6] (.long (mh_j h o 16) :: st) h) := (mw_at mj_113_150).trans (z_getl (by decide) (by decide) rfl)
theorem mj_113_153 : mc_P 113 153 = some (.iload 4, 2, 0, 0, 0) := by decide +kernel
theorem s_113_153 {x0 x1 x2 x3 x5 x6 : Option Value} {w : Value} : mw d 113 Q 153 [x0, x1, x2, x3, some w, x5, x6] (st) h = mv_i w (mw d 113 Q 155 [x0, x1, x2, x3, some w, x5, x6] (w :: st) h) := (mw_at mj_113_153).trans (z_iload rfl)
theorem mj_113_155 : mc_P 113 155 = some (.ifCond .eq 13, 3, 0, 0, 0) := by decide +kernel
theorem s_113_155 {x0 x1 x2 x3 x4 x5 x6 : Option Value} {x : Int32} : mw d 113 Q 155 [x0, x1, x2, x3, x4, x5, x6] (.int x :: st) h = mB (x = 0) (mw d 113 Q) 168 158 [x0, x1, x2, x3, x4, x5, x6] st h := (mw_at mj_113_155).trans (z_if_eq (by decide) rfl)
theorem mj_113_158 : mc_P 113 158 = some (.aload_n 0, 1, 0, 0, 0) := by decide +kernel
theorem s_113_158 {x1 x2 x3 x4 x5 x6 : Option Value} {w : Value} : mw d 113 Q 158 [some w, x1, x2, x3, x4, x5, x6] (st) h = mv_a w (mw d 113 Q 159 [some w, x1, x2, x3, x4, x5, x6] (w :: st) h) := (mw_at mj_113_158).trans (z_aload_n rfl)
theorem mj_113_159 : mc_P 113 159 = some (.getfield 22, 3, 5, 9, 0) := by decide +kernel
theorem s_113_159 {x0 x1 x2 x3 x4 x5 x6 : Option Value} {o : Nat} : mw d 113 Q 159 [x0, x1, x2, x3, x4, x5, x6] (.ref o :: st) h = (mg h o 5 ∧ mw d 113 Q 162 [x0, x1, x2, x3, x4, x5, x6] (va_rf (mh_r h o 9) :: st) h) := (mw_at mj_113_159).trans (z_getr (by decide) (by decide) rfl)
theorem mj_113_162 : mc_P 113 162 = some (.iload_n 3, 1, 0, 0, 0) := by decide +kernel
theorem s_113_162 {x0 x1 x2 x4 x5 x6 : Option Value} {w : Value} : mw d 113 Q 162 [x0, x1, x2, some w, x4, x5, x6] (st) h = mv_i w (mw d 113 Q 163 [x0, x1, x2, some w, x4, x5, x6] (w :: st) h) := (mw_at mj_113_162).trans (z_iload_n rfl)
theorem mj_113_163 : mc_P 113 163 = some (.laload, 1, 0, 0, 0) := by decide +kernel
theorem s_113_163 {x0 x1 x2 x3 x4 x5 x6 : Option Value} {o : Nat} {i : Int32} : mw d 113 Q 163 [x0, x1, x2, x3, x4, x5, x6] (.int i :: .ref o :: st) h = (mg h o 101 ∧ mx i (mh_l h o) ∧ mw d 113 Q 164 [x0, x1, x2, x3, x4, x5, x6] (.long (mh_j h o i.toNatClampNeg) :: st) h) := (mw_at mj_113_163).trans (z_lald)
theorem mj_113_164 : mc_P 113 164 = some (.lneg, 1, 0, 0, 0) := by decide +kernel
theorem s_113_164 {x0 x1 x2 x3 x4 x5 x6 : Option Value} {x : Int64} : mw d 113 Q 164 [x0, x1, x2, x3, x4, x5, x6] (.long x :: st) h = mw d 113 Q 165 [x0, x1, x2, x3, x4, x5, x6] (.long (-x) :: st) h := (mw_at mj_113_164).trans (z_lneg)
theorem mj_113_165 : mc_P 113 165 = some (.goto 9, 3, 0, 0, 0) := by decide +kernel
theorem s_113_165 {x0 x1 x2 x3 x4 x5 x6 : Option Value} : mw d 113 Q 165 [x0, x1, x2, x3, x4, x5, x6] (st) h = mw d 113 Q 174 [x0, x1, x2, x3, x4, x5, x6] (st) h := (mw_at mj_113_165).trans (z_goto (by decide))
theorem mj_113_168 : mc_P 113 168 = some (.aload_n 0, 1, 0, 0, 0) := by decide +kernel
theorem s_113_168 {x1 x2 x3 x4 x5 x6 : Option Value} {w : Value} : mw d 113 Q 168 [some w, x1, x2, x3, x4, x5, x6] (st) h = mv_a w (mw d 113 Q 169 [some w, x1, x2, x3, x4, x5, x6] (w :: st) h) := (mw_at mj_113_168).trans (z_aload_n rfl)
theorem mj_113_169 : mc_P 113 169 = some (.getfield 22, 3, 5, 9, 0) := by decide +kernel
theorem s_113_169 {x0 x1 x2 x3 x4 x5 x6 : Option Value} {o : Nat} : mw d 113 Q 169 [x0, x1, x2, x3, x4, x5, x6] (.ref o :: st) h = (mg h o 5 ∧ mw d 113 Q 172 [x0, x1, x2, x3, x4, x5, x6] (va_rf (mh_r h o 9) :: st) h) := (mw_at mj_113_169).trans (z_getr (by decide) (by decide) rfl)
theorem mj_113_172 : mc_P 113 172 = some (.iload_n 3, 1, 0, 0, 0) := by decide +kernel
theorem s_113_172 {x0 x1 x2 x4 x5 x6 : Option Value} {w : Value} : mw d 113 Q 172 [x0, x1, x2, some w, x4, x5, x6] (st) h = mv_i w (mw d 113 Q 173 [x0, x1, x2, some w, x4, x5, x6] (w :: st) h) := (mw_at mj_113_172).trans (z_iload_n rfl)
theorem mj_113_173 : mc_P 113 173 = some (.laload, 1, 0, 0, 0) := by decide +kernel
theorem s_113_173 {x0 x1 x2 x3 x4 x5 x6 : Option Value} {o : Nat} {i : Int32} : mw d 113 Q 173 [x0, x1, x2, x3, x4, x5, x6] (.int i :: .ref o :: st) h = (mg h o 101 ∧ mx i (mh_l h o) ∧ mw d 113 Q 174 [x0, x1, x2, x3, x4, x5, x6] (.long (mh_j h o i.toNatClampNeg) :: st) h) := (mw_at mj_113_173).trans (z_lald)
theorem mj_113_174 : mc_P 113 174 = some (.ladd, 1, 0, 0, 0) := by decide +kernel
theorem s_113_174 {x0 x1 x2 x3 x4 x5 x6 : Option Value} {x w : Int64} : mw d 113 Q 174 [x0, x1, x2, x3, x4, x5, x6] (.long w :: .long x :: st) h = mw d 113 Q 175 [x0, x1, x2, x3, x4, x5, x6] (.long (x + w) :: st) h := (mw_at mj_113_174).trans (z_ladd)
theorem mj_113_175 : mc_P 113 175 = some (.putfield 155, 3, 5, 16, 0) := by decide +kernel
theorem s_113_175 {x0 x1 x2 x3 x4 x5 x6 : Option Value} {o : Nat} {w : Int64} : mw d 113 Q 175 [x0, x1, x2, x3, x4, x5, x6] (.long w :: .ref o :: st) h = (mg h o 5 ∧ mw d 113 Q 178 [x0, x1, x2, x3, x4, x5, x6] (st) (mh_sj h o 16 w)) := (mw_at mj_113_175).trans (z_putl (by decide) (by decide) rfl)
theorem mj_113_178 : mc_P 113 178 = some (.goto 13, 3, 0, 0, 0) := by decide +kernel
theorem s_113_178 {x0 x1 x2 x3 x4 x5 x6 : Option Value} : mw d 113 Q 178 [x0, x1, x2, x3, x4, x5, x6] (st) h = mw d 113 Q 191 [x0, x1, x2, x3, x4, x5, x6] (st) h := (mw_at mj_113_178).trans (z_goto (by decide))
theorem mj_113_181 : mc_P 113 181 = some (.aload_n 0, 1, 0, 0, 0) := by decide +kernel
theorem s_113_181 {x1 x2 x3 x4 x5 x6 : Option Value} {w : Value} : mw d 113 Q 181 [some w, x1, x2, x3, x4, x5, x6] (st) h = mv_a w (mw d 113 Q 182 [some w, x1, x2, x3, x4, x5, x6] (w :: st) h) := (mw_at mj_113_181).trans (z_aload_n rfl)
theorem mj_113_182 : mc_P 113 182 = some (.dup, 1, 0, 0, 0) := by decide +kernel
theorem s_113_182 {x0 x1 x2 x3 x4 x5 x6 : Option Value} {w : Value} : mw d 113 Q 182 [x0, x1, x2, x3, x4, x5, x6] (w :: st) h = (w.category = 1 ∧ mw d 113 Q 183 [x0, x1, x2, x3, x4, x5, x6] (w :: w :: st) h) := (mw_at mj_113_182).trans (z_dup)
theorem mj_113_183 : mc_P 113 183 = some (.getfield 145, 3, 5, 13, 0) := by decide +kernel
theorem s_113_183 {x0 x1 x2 x3 x4 x5 x6 : Option Value} {o : Nat} : mw d 113 Q 183 [x0, x1, x2, x3, x4, x5, x6] (.ref o :: st) h = (mg h o 5 ∧ mw d 113 Q 186 [x0, x1, x2, x3, x4, x5, x6] (.int (mh_i h o 13) :: st) h) := (mw_at mj_113_183).trans (z_geti (by decide) (by decide) (Or.inl rfl))
theorem mj_113_186 : mc_P 113 186 = some (.iconst 1, 1, 0, 0, 0) := by decide +kernel
theorem s_113_186 {x0 x1 x2 x3 x4 x5 x6 : Option Value} : mw d 113 Q 186 [x0, x1, x2, x3, x4, x5, x6] (st) h = mw d 113 Q 187 [x0, x1, x2, x3, x4, x5, x6] (.int 1 :: st) h := (mw_at mj_113_186).trans (z_iconst (by decide))
theorem mj_113_187 : mc_P 113 187 = some (.iadd, 1, 0, 0, 0) := by decide +kernel
theorem s_113_187 {x0 x1 x2 x3 x4 x5 x6 : Option Value} {x w : Int32} : mw d 113 Q 187 [x0, x1, x2, x3, x4, x5, x6] (.int w :: .int x :: st) h = mw d 113 Q 188 [x0, x1, x2, x3, x4, x5, x6] (.int (x + w) :: st) h := (mw_at mj_113_187).trans (z_iadd)
theorem mj_113_188 : mc_P 113 188 = some (.putfield 145, 3, 5, 13, 0) := by decide +kernel
theorem s_113_188 {x0 x1 x2 x3 x4 x5 x6 : Option Value} {o : Nat} {w : Int32} : mw d 113 Q 188 [x0, x1, x2, x3, x4, x5, x6] (.int w :: .ref o :: st) h = (mg h o 5 ∧ mw d 113 Q 191 [x0, x1, x2, x3, x4, x5, x6] (st) (mh_si h o 13 w)) := (mw_at mj_113_188).trans (z_puti (by decide) (by decide) rfl)
theorem mj_113_191 : mc_P 113 191 = some (.iload 5, 2, 0, 0, 0) := by decide +kernel
theorem s_113_191 {x0 x1 x2 x3 x4 x6 : Option Value} {w : Value} : mw d 113 Q 191 [x0, x1, x2, x3, x4, some w, x6] (st) h = mv_i w (mw d 113 Q 193 [x0, x1, x2, x3, x4, some w, x6] (w :: st) h) := (mw_at mj_113_191).trans (z_iload rfl)
theorem mj_113_193 : mc_P 113 193 = some (.ifCond .lt 43, 3, 0, 0, 0) := by decide +kernel
theorem s_113_193 {x0 x1 x2 x3 x4 x5 x6 : Option Value} {x : Int32} : mw d 113 Q 193 [x0, x1, x2, x3, x4, x5, x6] (.int x :: st) h = mB (x < 0) (mw d 113 Q) 236 196 [x0, x1, x2, x3, x4, x5, x6] st h := (mw_at mj_113_193).trans (z_if_lt (by decide) rfl)
theorem mj_113_196 : mc_P 113 196 = some (.aload_n 0, 1, 0, 0, 0) := by decide +kernel
theorem s_113_196 {x1 x2 x3 x4 x5 x6 : Option Value} {w : Value} : mw d 113 Q 196 [some w, x1, x2, x3, x4, x5, x6] (st) h = mv_a w (mw d 113 Q 197 [some w, x1, x2, x3, x4, x5, x6] (w :: st) h) := (mw_at mj_113_196).trans (z_aload_n rfl)
theorem mj_113_197 : mc_P 113 197 = some (.getfield 41, 3, 5, 2, 0) := by decide +kernel
theorem s_113_197 {x0 x1 x2 x3 x4 x5 x6 : Option Value} {o : Nat} : mw d 113 Q 197 [x0, x1, x2, x3, x4, x5, x6] (.ref o :: st) h = (mg h o 5 ∧ mw d 113 Q 200 [x0, x1, x2, x3, x4, x5, x6] (.int (mh_i h o 2) :: st) h) := (mw_at mj_113_197).trans (z_geti (by decide) (by decide) (Or.inl rfl))
theorem mj_113_200 : mc_P 113 200 = some (.iload 5, 2, 0, 0, 0) := by decide +kernel
theorem s_113_200 {x0 x1 x2 x3 x4 x6 : Option Value} {w : Value} : mw d 113 Q 200 [x0, x1, x2, x3, x4, some w, x6] (st) h = mv_i w (mw d 113 Q 202 [x0, x1, x2, x3, x4, some w, x6] (w :: st) h) := (mw_at mj_113_200).trans (z_iload rfl)
theorem mj_113_202 : mc_P 113 202 = some (.iadd, 1, 0, 0, 0) := by decide +kernel
theorem s_113_202 {x0 x1 x2 x3 x4 x5 x6 : Option Value} {x w : Int32} : mw d 113 Q 202 [x0, x1, x2, x3, x4, x5, x6] (.int w :: .int x :: st) h = mw d 113 Q 203 [x0, x1, x2, x3, x4, x5, x6] (.int (x + w) :: st) h := (mw_at mj_113_202).trans (z_iadd)
theorem mj_113_203 : mc_P 113 203 = some (.istore 6, 2, 0, 0, 0) := by decide +kernel
theorem s_113_203 {x0 x1 x2 x3 x4 x5 x6 : Option Value} {w : Int32} : mw d 113 Q 203 [x0, x1, x2, x3, x4, x5, x6] (.int w :: st) h = mw d 113 Q 205 [x0, x1, x2, x3, x4, mk2 x5, some (.int w)] (st) h := (mw_at mj_113_203).trans (z_istore (Nat.le_of_ble_eq_true rfl) (me_s1_mk (j := 5) (w := x5) rfl))
theorem mj_113_205 : mc_P 113 205 = some (.aload_n 0, 1, 0, 0, 0) := by decide +kernel
theorem s_113_205 {x1 x2 x3 x4 x5 x6 : Option Value} {w : Value} : mw d 113 Q 205 [some w, x1, x2, x3, x4, x5, x6] (st) h = mv_a w (mw d 113 Q 206 [some w, x1, x2, x3, x4, x5, x6] (w :: st) h) := (mw_at mj_113_205).trans (z_aload_n rfl)
theorem mj_113_206 : mc_P 113 206 = some (.getfield 28, 3, 5, 11, 0) := by decide +kernel
theorem s_113_206 {x0 x1 x2 x3 x4 x5 x6 : Option Value} {o : Nat} : mw d 113 Q 206 [x0, x1, x2, x3, x4, x5, x6] (.ref o :: st) h = (mg h o 5 ∧ mw d 113 Q 209 [x0, x1, x2, x3, x4, x5, x6] (va_rf (mh_r h o 11) :: st) h) := (mw_at mj_113_206).trans (z_getr (by decide) (by decide) rfl)
theorem mj_113_209 : mc_P 113 209 = some (.iload 6, 2, 0, 0, 0) := by decide +kernel
theorem s_113_209 {x0 x1 x2 x3 x4 x5 : Option Value} {w : Value} : mw d 113 Q 209 [x0, x1, x2, x3, x4, x5, some w] (st) h = mv_i w (mw d 113 Q 211 [x0, x1, x2, x3, x4, x5, some w] (w :: st) h) := (mw_at mj_113_209).trans (z_iload rfl)
theorem mj_113_211 : mc_P 113 211 = some (.aload_n 0, 1, 0, 0, 0) := by decide +kernel
theorem s_113_211 {x1 x2 x3 x4 x5 x6 : Option Value} {w : Value} : mw d 113 Q 211 [some w, x1, x2, x3, x4, x5, x6] (st) h = mv_a w (mw d 113 Q 212 [some w, x1, x2, x3, x4, x5, x6] (w :: st) h) := (mw_at mj_113_211).trans (z_aload_n rfl)
theorem mj_113_212 : mc_P 113 212 = some (.getfield 28, 3, 5, 11, 0) := by decide +kernel
theorem s_113_212 {x0 x1 x2 x3 x4 x5 x6 : Option Value} {o : Nat} : mw d 113 Q 212 [x0, x1, x2, x3, x4, x5, x6] (.ref o :: st) h = (mg h o 5 ∧ mw d 113 Q 215 [x0, x1, x2, x3, x4, x5, x6] (va_rf (mh_r h o 11) :: st) h) := (mw_at mj_113_212).trans (z_getr (by decide) (by decide) rfl)
theorem mj_113_215 : mc_P 113 215 = some (.iload 6, 2, 0, 0, 0) := by decide +kernel
theorem s_113_215 {x0 x1 x2 x3 x4 x5 : Option Value} {w : Value} : mw d 113 Q 215 [x0, x1, x2, x3, x4, x5, some w] (st) h = mv_i w (mw d 113 Q 217 [x0, x1, x2, x3, x4, x5, some w] (w :: st) h) := (mw_at mj_113_215).trans (z_iload rfl)
theorem mj_113_217 : mc_P 113 217 = some (.iaload, 1, 0, 0, 0) := by decide +kernel
theorem s_113_217 {x0 x1 x2 x3 x4 x5 x6 : Option Value} {o : Nat} {i : Int32} : mw d 113 Q 217 [x0, x1, x2, x3, x4, x5, x6] (.int i :: .ref o :: st) h = (mg h o 100 ∧ mx i (mh_l h o) ∧ mw d 113 Q 218 [x0, x1, x2, x3, x4, x5, x6] (.int (mh_i h o i.toNatClampNeg) :: st) h) := (mw_at mj_113_217).trans (z_iald)
theorem mj_113_218 : mc_P 113 218 = some (.ifCond .eq 7, 3, 0, 0, 0) := by decide +kernel
theorem s_113_218 {x0 x1 x2 x3 x4 x5 x6 : Option Value} {x : Int32} : mw d 113 Q 218 [x0, x1, x2, x3, x4, x5, x6] (.int x :: st) h = mB (x = 0) (mw d 113 Q) 225 221 [x0, x1, x2, x3, x4, x5, x6] st h := (mw_at mj_113_218).trans (z_if_eq (by decide) rfl)
theorem mj_113_221 : mc_P 113 221 = some (.iconst 2, 1, 0, 0, 0) := by decide +kernel
theorem s_113_221 {x0 x1 x2 x3 x4 x5 x6 : Option Value} : mw d 113 Q 221 [x0, x1, x2, x3, x4, x5, x6] (st) h = mw d 113 Q 222 [x0, x1, x2, x3, x4, x5, x6] (.int 2 :: st) h := (mw_at mj_113_221).trans (z_iconst (by decide))
theorem mj_113_222 : mc_P 113 222 = some (.goto 13, 3, 0, 0, 0) := by decide +kernel
theorem s_113_222 {x0 x1 x2 x3 x4 x5 x6 : Option Value} : mw d 113 Q 222 [x0, x1, x2, x3, x4, x5, x6] (st) h = mw d 113 Q 235 [x0, x1, x2, x3, x4, x5, x6] (st) h := (mw_at mj_113_222).trans (z_goto (by decide))
theorem mj_113_225 : mc_P 113 225 = some (.iload 4, 2, 0, 0, 0) := by decide +kernel
theorem s_113_225 {x0 x1 x2 x3 x5 x6 : Option Value} {w : Value} : mw d 113 Q 225 [x0, x1, x2, x3, some w, x5, x6] (st) h = mv_i w (mw d 113 Q 227 [x0, x1, x2, x3, some w, x5, x6] (w :: st) h) := (mw_at mj_113_225).trans (z_iload rfl)
theorem mj_113_227 : mc_P 113 227 = some (.ifCond .eq 7, 3, 0, 0, 0) := by decide +kernel
theorem s_113_227 {x0 x1 x2 x3 x4 x5 x6 : Option Value} {x : Int32} : mw d 113 Q 227 [x0, x1, x2, x3, x4, x5, x6] (.int x :: st) h = mB (x = 0) (mw d 113 Q) 234 230 [x0, x1, x2, x3, x4, x5, x6] st h := (mw_at mj_113_227).trans (z_if_eq (by decide) rfl)
theorem mj_113_230 : mc_P 113 230 = some (.iconst (-1), 1, 0, 0, 0) := by decide +kernel
theorem s_113_230 {x0 x1 x2 x3 x4 x5 x6 : Option Value} : mw d 113 Q 230 [x0, x1, x2, x3, x4, x5, x6] (st) h = mw d 113 Q 231 [x0, x1, x2, x3, x4, x5, x6] (.int (-1) :: st) h := (mw_at mj_113_230).trans (z_iconst (by decide))
theorem mj_113_231 : mc_P 113 231 = some (.goto 4, 3, 0, 0, 0) := by decide +kernel
theorem s_113_231 {x0 x1 x2 x3 x4 x5 x6 : Option Value} : mw d 113 Q 231 [x0, x1, x2, x3, x4, x5, x6] (st) h = mw d 113 Q 235 [x0, x1, x2, x3, x4, x5, x6] (st) h := (mw_at mj_113_231).trans (z_goto (by decide))
theorem mj_113_234 : mc_P 113 234 = some (.iconst 1, 1, 0, 0, 0) := by decide +kernel
theorem s_113_234 {x0 x1 x2 x3 x4 x5 x6 : Option Value} : mw d 113 Q 234 [x0, x1, x2, x3, x4, x5, x6] (st) h = mw d 113 Q 235 [x0, x1, x2, x3, x4, x5, x6] (.int 1 :: st) h := (mw_at mj_113_234).trans (z_iconst (by decide))
theorem mj_113_235 : mc_P 113 235 = some (.iastore, 1, 0, 0, 0) := by decide +kernel
theorem s_113_235 {x0 x1 x2 x3 x4 x5 x6 : Option Value} {o : Nat} {i w : Int32} : mw d 113 Q 235 [x0, x1, x2, x3, x4, x5, x6] (.int w :: .int i :: .ref o :: st) h = (mg h o 100 ∧ mx i (mh_l h o) ∧ mw d 113 Q 236 [x0, x1, x2, x3, x4, x5, x6] (st) (mh_si h o i.toNatClampNeg w)) := (mw_at mj_113_235).trans (z_iast)
theorem mj_113_236 : mc_P 113 236 = some (.iinc 3 1, 3, 0, 0, 0) := by decide +kernel
theorem s_113_236 {x0 x1 x2 x4 x5 x6 : Option Value} {w : Int32} : mw d 113 Q 236 [x0, x1, x2, some (.int w), x4, x5, x6] (st) h = mw d 113 Q 239 [x0, x1, mk2 x2, some (.int (w + 1)), x4, x5, x6] (st) h := (mw_at mj_113_236).trans (z_iinc rfl (Nat.le_of_ble_eq_true rfl) (by decide) (me_s1_mk (j := 2) (w := x2) rfl))
theorem mj_113_239 : mc_P 113 239 = some (.goto (-201), 3, 0, 0, 0) := by decide +kernel
theorem s_113_239 {x0 x1 x2 x3 x4 x5 x6 : Option Value} : mw d 113 Q 239 [x0, x1, x2, x3, x4, x5, x6] (st) h = mw d 113 Q 38 [x0, x1, x2, x3, x4, x5, x6] (st) h := (mw_at mj_113_239).trans (z_goto (by decide))
theorem mj_113_242 : mc_P 113 242 = some (.aload_n 0, 1, 0, 0, 0) := by decide +kernel
theorem s_113_242 {x1 x2 x3 x4 x5 x6 : Option Value} {w : Value} : mw d 113 Q 242 [some w, x1, x2, x3, x4, x5, x6] (st) h = mv_a w (mw d 113 Q 243 [some w, x1, x2, x3, x4, x5, x6] (w :: st) h) := (mw_at mj_113_242).trans (z_aload_n rfl)
theorem mj_113_243 : mc_P 113 243 = some (.iconst 0, 1, 0, 0, 0) := by decide +kernel
theorem s_113_243 {x0 x1 x2 x3 x4 x5 x6 : Option Value} : mw d 113 Q 243 [x0, x1, x2, x3, x4, x5, x6] (st) h = mw d 113 Q 244 [x0, x1, x2, x3, x4, x5, x6] (.int 0 :: st) h := (mw_at mj_113_243).trans (z_iconst (by decide))
theorem mj_113_244 : mc_P 113 244 = some (.putfield 164, 3, 5, 12, 0) := by decide +kernel
theorem s_113_244 {x0 x1 x2 x3 x4 x5 x6 : Option Value} {o : Nat} {w : Int32} : mw d 113 Q 244 [x0, x1, x2, x3, x4, x5, x6] (.int w :: .ref o :: st) h = (mg h o 5 ∧ mw d 113 Q 247 [x0, x1, x2, x3, x4, x5, x6] (st) (mh_si h o 12 w)) := (mw_at mj_113_244).trans (z_puti (by decide) (by decide) rfl)
theorem mj_113_247 : mc_P 113 247 = some (.iconst 0, 1, 0, 0, 0) := by decide +kernel
theorem s_113_247 {x0 x1 x2 x3 x4 x5 x6 : Option Value} : mw d 113 Q 247 [x0, x1, x2, x3, x4, x5, x6] (st) h = mw d 113 Q 248 [x0, x1, x2, x3, x4, x5, x6] (.int 0 :: st) h := (mw_at mj_113_247).trans (z_iconst (by decide))
theorem mj_113_248 : mc_P 113 248 = some (.istore_n 3, 1, 0, 0, 0) := by decide +kernel
theorem s_113_248 {x0 x1 x2 x3 x4 x5 x6 : Option Value} {w : Int32} : mw d 113 Q 248 [x0, x1, x2, x3, x4, x5, x6] (.int w :: st) h = mw d 113 Q 249 [x0, x1, mk2 x2, some (.int w), x4, x5, x6] (st) h := (mw_at mj_113_248).trans (z_istore_n (Nat.le_of_ble_eq_true rfl) (me_s1_mk (j := 2) (w := x2) rfl))
theorem mj_113_249 : mc_P 113 249 = some (.iload_n 3, 1, 0, 0, 0) := by decide +kernel
theorem s_113_249 {x0 x1 x2 x4 x5 x6 : Option Value} {w : Value} : mw d 113 Q 249 [x0, x1, x2, some w, x4, x5, x6] (st) h = mv_i w (mw d 113 Q 250 [x0, x1, x2, some w, x4, x5, x6] (w :: st) h) := (mw_at mj_113_249).trans (z_iload_n rfl)
theorem mj_113_250 : mc_P 113 250 = some (.bipush 12, 2, 0, 0, 0) := by decide +kernel
theorem s_113_250 {x0 x1 x2 x3 x4 x5 x6 : Option Value} : mw d 113 Q 250 [x0, x1, x2, x3, x4, x5, x6] (st) h = mw d 113 Q 252 [x0, x1, x2, x3, x4, x5, x6] (.int 12 :: st) h := (mw_at mj_113_250).trans (z_bipush (by decide))
theorem mj_113_252 : mc_P 113 252 = some (.if_icmp .ge 27, 3, 0, 0, 0) := by decide +kernel
theorem s_113_252 {x0 x1 x2 x3 x4 x5 x6 : Option Value} {x w : Int32} : mw d 113 Q 252 [x0, x1, x2, x3, x4, x5, x6] (.int w :: .int x :: st) h = mB (w ≤ x) (mw d 113 Q) 279 255 [x0, x1, x2, x3, x4, x5, x6] st h := (mw_at mj_113_252).trans (z_icmp_ge (by decide) rfl)
theorem mj_113_255 : mc_P 113 255 = some (.aload_n 0, 1, 0, 0, 0) := by decide +kernel
theorem s_113_255 {x1 x2 x3 x4 x5 x6 : Option Value} {w : Value} : mw d 113 Q 255 [some w, x1, x2, x3, x4, x5, x6] (st) h = mv_a w (mw d 113 Q 256 [some w, x1, x2, x3, x4, x5, x6] (w :: st) h) := (mw_at mj_113_255).trans (z_aload_n rfl)
theorem mj_113_256 : mc_P 113 256 = some (.iload_n 3, 1, 0, 0, 0) := by decide +kernel
theorem s_113_256 {x0 x1 x2 x4 x5 x6 : Option Value} {w : Value} : mw d 113 Q 256 [x0, x1, x2, some w, x4, x5, x6] (st) h = mv_i w (mw d 113 Q 257 [x0, x1, x2, some w, x4, x5, x6] (w :: st) h) := (mw_at mj_113_256).trans (z_iload_n rfl)
theorem mj_113_257 : mc_P 113 257 = some (.invokevirtual 167, 3, 114, 5, 2) := by decide +kernel
theorem s_113_257 {x0 x1 x2 x3 x4 x5 x6 : Option Value} {o : Nat} {a1 : Value} : mw (d + 1) 113 Q 257 [x0, x1, x2, x3, x4, x5, x6] (a1 :: .ref o :: st) h = (mg h o 5 ∧ mca st 8 ∧ mca [.ref o, a1] 2 ∧ mcall d 114 [.ref o, a1] h (mK (d + 1) 113 Q 260 [x0, x1, x2, x3, x4, x5, x6] st)) := (mw_at mj_113_257).trans ((z_invv (As := [a1]) (by decide) rfl rfl).trans (congrArg (And _) (congrArg (And _) (mC_nl nl_114))))
theorem mj_113_260 : mc_P 113 260 = some (.ifCond .eq 13, 3, 0, 0, 0) := by decide +kernel
theorem s_113_260 {x0 x1 x2 x3 x4 x5 x6 : Option Value} {x : Int32} : mw d 113 Q 260 [x0, x1, x2, x3, x4, x5, x6] (.int x :: st) h = mB (x = 0) (mw d 113 Q) 273 263 [x0, x1, x2, x3, x4, x5, x6] st h := (mw_at mj_113_260).trans (z_if_eq (by decide) rfl)
theorem mj_113_263 : mc_P 113 263 = some (.aload_n 0, 1, 0, 0, 0) := by decide +kernel
theorem s_113_263 {x1 x2 x3 x4 x5 x6 : Option Value} {w : Value} : mw d 113 Q 263 [some w, x1, x2, x3, x4, x5, x6] (st) h = mv_a w (mw d 113 Q 264 [some w, x1, x2, x3, x4, x5, x6] (w :: st) h) := (mw_at mj_113_263).trans (z_aload_n rfl)
theorem mj_113_264 : mc_P 113 264 = some (.dup, 1, 0, 0, 0) := by decide +kernel
theorem s_113_264 {x0 x1 x2 x3 x4 x5 x6 : Option Value} {w : Value} : mw d 113 Q 264 [x0, x1, x2, x3, x4, x5, x6] (w :: st) h = (w.category = 1 ∧ mw d 113 Q 265 [x0, x1, x2, x3, x4, x5, x6] (w :: w :: st) h) := (mw_at mj_113_264).trans (z_dup)
theorem mj_113_265 : mc_P 113 265 = some (.getfield 164, 3, 5, 12, 0) := by decide +kernel
theorem s_113_265 {x0 x1 x2 x3 x4 x5 x6 : Option Value} {o : Nat} : mw d 113 Q 265 [x0, x1, x2, x3, x4, x5, x6] (.ref o :: st) h = (mg h o 5 ∧ mw d 113 Q 268 [x0, x1, x2, x3, x4, x5, x6] (.int (mh_i h o 12) :: st) h) := (mw_at mj_113_265).trans (z_geti (by decide) (by decide) (Or.inl rfl))
theorem mj_113_268 : mc_P 113 268 = some (.iconst 1, 1, 0, 0, 0) := by decide +kernel
theorem s_113_268 {x0 x1 x2 x3 x4 x5 x6 : Option Value} : mw d 113 Q 268 [x0, x1, x2, x3, x4, x5, x6] (st) h = mw d 113 Q 269 [x0, x1, x2, x3, x4, x5, x6] (.int 1 :: st) h := (mw_at mj_113_268).trans (z_iconst (by decide))
theorem mj_113_269 : mc_P 113 269 = some (.iadd, 1, 0, 0, 0) := by decide +kernel
theorem s_113_269 {x0 x1 x2 x3 x4 x5 x6 : Option Value} {x w : Int32} : mw d 113 Q 269 [x0, x1, x2, x3, x4, x5, x6] (.int w :: .int x :: st) h = mw d 113 Q 270 [x0, x1, x2, x3, x4, x5, x6] (.int (x + w) :: st) h := (mw_at mj_113_269).trans (z_iadd)
theorem mj_113_270 : mc_P 113 270 = some (.putfield 164, 3, 5, 12, 0) := by decide +kernel
theorem s_113_270 {x0 x1 x2 x3 x4 x5 x6 : Option Value} {o : Nat} {w : Int32} : mw d 113 Q 270 [x0, x1, x2, x3, x4, x5, x6] (.int w :: .ref o :: st) h = (mg h o 5 ∧ mw d 113 Q 273 [x0, x1, x2, x3, x4, x5, x6] (st) (mh_si h o 12 w)) := (mw_at mj_113_270).trans (z_puti (by decide) (by decide) rfl)
theorem mj_113_273 : mc_P 113 273 = some (.iinc 3 1, 3, 0, 0, 0) := by decide +kernel
theorem s_113_273 {x0 x1 x2 x4 x5 x6 : Option Value} {w : Int32} : mw d 113 Q 273 [x0, x1, x2, some (.int w), x4, x5, x6] (st) h = mw d 113 Q 276 [x0, x1, mk2 x2, some (.int (w + 1)), x4, x5, x6] (st) h := (mw_at mj_113_273).trans (z_iinc rfl (Nat.le_of_ble_eq_true rfl) (by decide) (me_s1_mk (j := 2) (w := x2) rfl))
theorem mj_113_276 : mc_P 113 276 = some (.goto (-27), 3, 0, 0, 0) := by decide +kernel
theorem s_113_276 {x0 x1 x2 x3 x4 x5 x6 : Option Value} : mw d 113 Q 276 [x0, x1, x2, x3, x4, x5, x6] (st) h = mw d 113 Q 249 [x0, x1, x2, x3, x4, x5, x6] (st) h := (mw_at mj_113_276).trans (z_goto (by decide))
theorem mj_113_279 : mc_P 113 279 = some (.return_, 1, 0, 0, 0) := by decide +kernel
theorem s_113_279 {x0 x1 x2 x3 x4 x5 x6 : Option Value} : mw d 113 Q 279 [x0, x1, x2, x3, x4, x5, x6] ([]) h = Q none h := (mw_at mj_113_279).trans (z_vret)
theorem e_113 {a0 : Nat} {a1 : Int32} {a2 : Int32} : mcall d 113 [.ref a0, .int a1, .int a2] h Q = mw d 113 Q 0 [some (.ref a0), some (.int a1), some (.int a2), none, none, none, none] [] h := by
  show mw d 113 Q 0 (me_en (mc_nl 113) _) [] h = _
  rw [nl_113]; rfl

/-! InvariantDesk$Ranges.isFree(I)Z -/
theorem mj_114_0 : mc_P 114 0 = some (.aload_n 0, 1, 0, 0, 0) := by decide +kernel
theorem s_114_0 {x1 : Option Value} {w : Value} : mw d 114 Q 0 [some w, x1] (st) h = mv_a w (mw d 114 Q 1 [some w, x1] (w :: st) h) := (mw_at mj_114_0).trans (z_aload_n rfl)
theorem mj_114_1 : mc_P 114 1 = some (.getfield 28, 3, 5, 11, 0) := by decide +kernel
theorem s_114_1 {x0 x1 : Option Value} {o : Nat} : mw d 114 Q 1 [x0, x1] (.ref o :: st) h = (mg h o 5 ∧ mw d 114 Q 4 [x0, x1] (va_rf (mh_r h o 11) :: st) h) := (mw_at mj_114_1).trans (z_getr (by decide) (by decide) rfl)
theorem mj_114_4 : mc_P 114 4 = some (.iload_n 1, 1, 0, 0, 0) := by decide +kernel
theorem s_114_4 {x0 : Option Value} {w : Value} : mw d 114 Q 4 [x0, some w] (st) h = mv_i w (mw d 114 Q 5 [x0, some w] (w :: st) h) := (mw_at mj_114_4).trans (z_iload_n rfl)
theorem mj_114_5 : mc_P 114 5 = some (.iaload, 1, 0, 0, 0) := by decide +kernel
theorem s_114_5 {x0 x1 : Option Value} {o : Nat} {i : Int32} : mw d 114 Q 5 [x0, x1] (.int i :: .ref o :: st) h = (mg h o 100 ∧ mx i (mh_l h o) ∧ mw d 114 Q 6 [x0, x1] (.int (mh_i h o i.toNatClampNeg) :: st) h) := (mw_at mj_114_5).trans (z_iald)
theorem mj_114_6 : mc_P 114 6 = some (.iconst 1, 1, 0, 0, 0) := by decide +kernel
theorem s_114_6 {x0 x1 : Option Value} : mw d 114 Q 6 [x0, x1] (st) h = mw d 114 Q 7 [x0, x1] (.int 1 :: st) h := (mw_at mj_114_6).trans (z_iconst (by decide))
theorem mj_114_7 : mc_P 114 7 = some (.if_icmp .eq 13, 3, 0, 0, 0) := by decide +kernel
theorem s_114_7 {x0 x1 : Option Value} {x w : Int32} : mw d 114 Q 7 [x0, x1] (.int w :: .int x :: st) h = mB (x = w) (mw d 114 Q) 20 10 [x0, x1] st h := (mw_at mj_114_7).trans (z_icmp_eq (by decide) rfl)
theorem mj_114_10 : mc_P 114 10 = some (.aload_n 0, 1, 0, 0, 0) := by decide +kernel
theorem s_114_10 {x1 : Option Value} {w : Value} : mw d 114 Q 10 [some w, x1] (st) h = mv_a w (mw d 114 Q 11 [some w, x1] (w :: st) h) := (mw_at mj_114_10).trans (z_aload_n rfl)
theorem mj_114_11 : mc_P 114 11 = some (.getfield 28, 3, 5, 11, 0) := by decide +kernel
theorem s_114_11 {x0 x1 : Option Value} {o : Nat} : mw d 114 Q 11 [x0, x1] (.ref o :: st) h = (mg h o 5 ∧ mw d 114 Q 14 [x0, x1] (va_rf (mh_r h o 11) :: st) h) := (mw_at mj_114_11).trans (z_getr (by decide) (by decide) rfl)
theorem mj_114_14 : mc_P 114 14 = some (.iload_n 1, 1, 0, 0, 0) := by decide +kernel
theorem s_114_14 {x0 : Option Value} {w : Value} : mw d 114 Q 14 [x0, some w] (st) h = mv_i w (mw d 114 Q 15 [x0, some w] (w :: st) h) := (mw_at mj_114_14).trans (z_iload_n rfl)
theorem mj_114_15 : mc_P 114 15 = some (.iaload, 1, 0, 0, 0) := by decide +kernel
theorem s_114_15 {x0 x1 : Option Value} {o : Nat} {i : Int32} : mw d 114 Q 15 [x0, x1] (.int i :: .ref o :: st) h = (mg h o 100 ∧ mx i (mh_l h o) ∧ mw d 114 Q 16 [x0, x1] (.int (mh_i h o i.toNatClampNeg) :: st) h) := (mw_at mj_114_15).trans (z_iald)
theorem mj_114_16 : mc_P 114 16 = some (.iconst (-1), 1, 0, 0, 0) := by decide +kernel
theorem s_114_16 {x0 x1 : Option Value} : mw d 114 Q 16 [x0, x1] (st) h = mw d 114 Q 17 [x0, x1] (.int (-1) :: st) h := (mw_at mj_114_16).trans (z_iconst (by decide))
theorem mj_114_17 : mc_P 114 17 = some (.if_icmp .ne 7, 3, 0, 0, 0) := by decide +kernel
theorem s_114_17 {x0 x1 : Option Value} {x w : Int32} : mw d 114 Q 17 [x0, x1] (.int w :: .int x :: st) h = mB (¬ x = w) (mw d 114 Q) 24 20 [x0, x1] st h := (mw_at mj_114_17).trans (z_icmp_ne (by decide) rfl)
theorem mj_114_20 : mc_P 114 20 = some (.iconst 1, 1, 0, 0, 0) := by decide +kernel
theorem s_114_20 {x0 x1 : Option Value} : mw d 114 Q 20 [x0, x1] (st) h = mw d 114 Q 21 [x0, x1] (.int 1 :: st) h := (mw_at mj_114_20).trans (z_iconst (by decide))
theorem mj_114_21 : mc_P 114 21 = some (.goto 4, 3, 0, 0, 0) := by decide +kernel
theorem s_114_21 {x0 x1 : Option Value} : mw d 114 Q 21 [x0, x1] (st) h = mw d 114 Q 25 [x0, x1] (st) h := (mw_at mj_114_21).trans (z_goto (by decide))
theorem mj_114_24 : mc_P 114 24 = some (.iconst 0, 1, 0, 0, 0) := by decide +kernel
theorem s_114_24 {x0 x1 : Option Value} : mw d 114 Q 24 [x0, x1] (st) h = mw d 114 Q 25 [x0, x1] (.int 0 :: st) h := (mw_at mj_114_24).trans (z_iconst (by decide))
theorem mj_114_25 : mc_P 114 25 = some (.ireturn, 1, 0, 3, 0) := by decide +kernel
theorem s_114_25 {x0 x1 : Option Value} {x : Int32} : mw d 114 Q 25 [x0, x1] ([.int x]) h = ((x = 0 ∨ x = 1) ∧ Q (some (.int x)) h) := (mw_at mj_114_25).trans (z_zret)
theorem e_114 {a0 : Nat} {a1 : Int32} : mcall d 114 [.ref a0, .int a1] h Q = mw d 114 Q 0 [some (.ref a0), some (.int a1)] [] h := by
  show mw d 114 Q 0 (me_en (mc_nl 114) _) [] h = _
  rw [nl_114]; rfl

/-! InvariantDesk$Ranges.findOthers(II)V -/
theorem mj_115_0 : mc_P 115 0 = some (.aload_n 0, 1, 0, 0, 0) := by decide +kernel
theorem s_115_0 {x1 x2 x3 x4 x5 x6 x7 : Option Value} {w : Value} : mw d 115 Q 0 [some w, x1, x2, x3, x4, x5, x6, x7] (st) h = mv_a w (mw d 115 Q 1 [some w, x1, x2, x3, x4, x5, x6, x7] (w :: st) h) := (mw_at mj_115_0).trans (z_aload_n rfl)
theorem mj_115_1 : mc_P 115 1 = some (.getfield 145, 3, 5, 13, 0) := by decide +kernel
theorem s_115_1 {x0 x1 x2 x3 x4 x5 x6 x7 : Option Value} {o : Nat} : mw d 115 Q 1 [x0, x1, x2, x3, x4, x5, x6, x7] (.ref o :: st) h = (mg h o 5 ∧ mw d 115 Q 4 [x0, x1, x2, x3, x4, x5, x6, x7] (.int (mh_i h o 13) :: st) h) := (mw_at mj_115_1).trans (z_geti (by decide) (by decide) (Or.inl rfl))
theorem mj_115_4 : mc_P 115 4 = some (.istore_n 3, 1, 0, 0, 0) := by decide +kernel
theorem s_115_4 {x0 x1 x2 x3 x4 x5 x6 x7 : Option Value} {w : Int32} : mw d 115 Q 4 [x0, x1, x2, x3, x4, x5, x6, x7] (.int w :: st) h = mw d 115 Q 5 [x0, x1, mk2 x2, some (.int w), x4, x5, x6, x7] (st) h := (mw_at mj_115_4).trans (z_istore_n (Nat.le_of_ble_eq_true rfl) (me_s1_mk (j := 2) (w := x2) rfl))
theorem mj_115_5 : mc_P 115 5 = some (.iconst (-1), 1, 0, 0, 0) := by decide +kernel
theorem s_115_5 {x0 x1 x2 x3 x4 x5 x6 x7 : Option Value} : mw d 115 Q 5 [x0, x1, x2, x3, x4, x5, x6, x7] (st) h = mw d 115 Q 6 [x0, x1, x2, x3, x4, x5, x6, x7] (.int (-1) :: st) h := (mw_at mj_115_5).trans (z_iconst (by decide))
theorem mj_115_6 : mc_P 115 6 = some (.istore 4, 2, 0, 0, 0) := by decide +kernel
theorem s_115_6 {x0 x1 x2 x3 x4 x5 x6 x7 : Option Value} {w : Int32} : mw d 115 Q 6 [x0, x1, x2, x3, x4, x5, x6, x7] (.int w :: st) h = mw d 115 Q 8 [x0, x1, x2, mk2 x3, some (.int w), x5, x6, x7] (st) h := (mw_at mj_115_6).trans (z_istore (Nat.le_of_ble_eq_true rfl) (me_s1_mk (j := 3) (w := x3) rfl))
theorem mj_115_8 : mc_P 115 8 = some (.iconst (-1), 1, 0, 0, 0) := by decide +kernel
theorem s_115_8 {x0 x1 x2 x3 x4 x5 x6 x7 : Option Value} : mw d 115 Q 8 [x0, x1, x2, x3, x4, x5, x6, x7] (st) h = mw d 115 Q 9 [x0, x1, x2, x3, x4, x5, x6, x7] (.int (-1) :: st) h := (mw_at mj_115_8).trans (z_iconst (by decide))
theorem mj_115_9 : mc_P 115 9 = some (.istore 5, 2, 0, 0, 0) := by decide +kernel
theorem s_115_9 {x0 x1 x2 x3 x4 x5 x6 x7 : Option Value} {w : Int32} : mw d 115 Q 9 [x0, x1, x2, x3, x4, x5, x6, x7] (.int w :: st) h = mw d 115 Q 11 [x0, x1, x2, x3, mk2 x4, some (.int w), x6, x7] (st) h := (mw_at mj_115_9).trans (z_istore (Nat.le_of_ble_eq_true rfl) (me_s1_mk (j := 4) (w := x4) rfl))
theorem mj_115_11 : mc_P 115 11 = some (.aload_n 0, 1, 0, 0, 0) := by decide +kernel
theorem s_115_11 {x1 x2 x3 x4 x5 x6 x7 : Option Value} {w : Value} : mw d 115 Q 11 [some w, x1, x2, x3, x4, x5, x6, x7] (st) h = mv_a w (mw d 115 Q 12 [some w, x1, x2, x3, x4, x5, x6, x7] (w :: st) h) := (mw_at mj_115_11).trans (z_aload_n rfl)
theorem mj_115_12 : mc_P 115 12 = some (.aload_n 0, 1, 0, 0, 0) := by decide +kernel
theorem s_115_12 {x1 x2 x3 x4 x5 x6 x7 : Option Value} {w : Value} : mw d 115 Q 12 [some w, x1, x2, x3, x4, x5, x6, x7] (st) h = mv_a w (mw d 115 Q 13 [some w, x1, x2, x3, x4, x5, x6, x7] (w :: st) h) := (mw_at mj_115_12).trans (z_aload_n rfl)
theorem mj_115_13 : mc_P 115 13 = some (.getfield 148, 3, 5, 14, 0) := by decide +kernel
theorem s_115_13 {x0 x1 x2 x3 x4 x5 x6 x7 : Option Value} {o : Nat} : mw d 115 Q 13 [x0, x1, x2, x3, x4, x5, x6, x7] (.ref o :: st) h = (mg h o 5 ∧ mw d 115 Q 16 [x0, x1, x2, x3, x4, x5, x6, x7] (.long (mh_j h o 14) :: st) h) := (mw_at mj_115_13).trans (z_getl (by decide) (by decide) rfl)
theorem mj_115_16 : mc_P 115 16 = some (.putfield 170, 3, 5, 17, 0) := by decide +kernel
theorem s_115_16 {x0 x1 x2 x3 x4 x5 x6 x7 : Option Value} {o : Nat} {w : Int64} : mw d 115 Q 16 [x0, x1, x2, x3, x4, x5, x6, x7] (.long w :: .ref o :: st) h = (mg h o 5 ∧ mw d 115 Q 19 [x0, x1, x2, x3, x4, x5, x6, x7] (st) (mh_sj h o 17 w)) := (mw_at mj_115_16).trans (z_putl (by decide) (by decide) rfl)
theorem mj_115_19 : mc_P 115 19 = some (.aload_n 0, 1, 0, 0, 0) := by decide +kernel
theorem s_115_19 {x1 x2 x3 x4 x5 x6 x7 : Option Value} {w : Value} : mw d 115 Q 19 [some w, x1, x2, x3, x4, x5, x6, x7] (st) h = mv_a w (mw d 115 Q 20 [some w, x1, x2, x3, x4, x5, x6, x7] (w :: st) h) := (mw_at mj_115_19).trans (z_aload_n rfl)
theorem mj_115_20 : mc_P 115 20 = some (.aload_n 0, 1, 0, 0, 0) := by decide +kernel
theorem s_115_20 {x1 x2 x3 x4 x5 x6 x7 : Option Value} {w : Value} : mw d 115 Q 20 [some w, x1, x2, x3, x4, x5, x6, x7] (st) h = mv_a w (mw d 115 Q 21 [some w, x1, x2, x3, x4, x5, x6, x7] (w :: st) h) := (mw_at mj_115_20).trans (z_aload_n rfl)
theorem mj_115_21 : mc_P 115 21 = some (.getfield 152, 3, 5, 15, 0) := by decide +kernel
theorem s_115_21 {x0 x1 x2 x3 x4 x5 x6 x7 : Option Value} {o : Nat} : mw d 115 Q 21 [x0, x1, x2, x3, x4, x5, x6, x7] (.ref o :: st) h = (mg h o 5 ∧ mw d 115 Q 24 [x0, x1, x2, x3, x4, x5, x6, x7] (.long (mh_j h o 15) :: st) h) := (mw_at mj_115_21).trans (z_getl (by decide) (by decide) rfl)
theorem mj_115_24 : mc_P 115 24 = some (.putfield 173, 3, 5, 18, 0) := by decide +kernel
theorem s_115_24 {x0 x1 x2 x3 x4 x5 x6 x7 : Option Value} {o : Nat} {w : Int64} : mw d 115 Q 24 [x0, x1, x2, x3, x4, x5, x6, x7] (.long w :: .ref o :: st) h = (mg h o 5 ∧ mw d 115 Q 27 [x0, x1, x2, x3, x4, x5, x6, x7] (st) (mh_sj h o 18 w)) := (mw_at mj_115_24).trans (z_putl (by decide) (by decide) rfl)
theorem mj_115_27 : mc_P 115 27 = some (.iconst 0, 1, 0, 0, 0) := by decide +kernel
theorem s_115_27 {x0 x1 x2 x3 x4 x5 x6 x7 : Option Value} : mw d 115 Q 27 [x0, x1, x2, x3, x4, x5, x6, x7] (st) h = mw d 115 Q 28 [x0, x1, x2, x3, x4, x5, x6, x7] (.int 0 :: st) h := (mw_at mj_115_27).trans (z_iconst (by decide))
theorem mj_115_28 : mc_P 115 28 = some (.istore 6, 2, 0, 0, 0) := by decide +kernel
theorem s_115_28 {x0 x1 x2 x3 x4 x5 x6 x7 : Option Value} {w : Int32} : mw d 115 Q 28 [x0, x1, x2, x3, x4, x5, x6, x7] (.int w :: st) h = mw d 115 Q 30 [x0, x1, x2, x3, x4, mk2 x5, some (.int w), x7] (st) h := (mw_at mj_115_28).trans (z_istore (Nat.le_of_ble_eq_true rfl) (me_s1_mk (j := 5) (w := x5) rfl))
theorem mj_115_30 : mc_P 115 30 = some (.iload 6, 2, 0, 0, 0) := by decide +kernel
theorem s_115_30 {x0 x1 x2 x3 x4 x5 x7 : Option Value} {w : Value} : mw d 115 Q 30 [x0, x1, x2, x3, x4, x5, some w, x7] (st) h = mv_i w (mw d 115 Q 32 [x0, x1, x2, x3, x4, x5, some w, x7] (w :: st) h) := (mw_at mj_115_30).trans (z_iload rfl)
theorem mj_115_32 : mc_P 115 32 = some (.bipush 12, 2, 0, 0, 0) := by decide +kernel
theorem s_115_32 {x0 x1 x2 x3 x4 x5 x6 x7 : Option Value} : mw d 115 Q 32 [x0, x1, x2, x3, x4, x5, x6, x7] (st) h = mw d 115 Q 34 [x0, x1, x2, x3, x4, x5, x6, x7] (.int 12 :: st) h := (mw_at mj_115_32).trans (z_bipush (by decide))
theorem mj_115_34 : mc_P 115 34 = some (.if_icmp .ge 113, 3, 0, 0, 0) := by decide +kernel
theorem s_115_34 {x0 x1 x2 x3 x4 x5 x6 x7 : Option Value} {x w : Int32} : mw d 115 Q 34 [x0, x1, x2, x3, x4, x5, x6, x7] (.int w :: .int x :: st) h = mB (w ≤ x) (mw d 115 Q) 147 37 [x0, x1, x2, x3, x4, x5, x6, x7] st h := (mw_at mj_115_34).trans (z_icmp_ge (by decide) rfl)
theorem mj_115_37 : mc_P 115 37 = some (.aload_n 0, 1, 0, 0, 0) := by decide +kernel
theorem s_115_37 {x1 x2 x3 x4 x5 x6 x7 : Option Value} {w : Value} : mw d 115 Q 37 [some w, x1, x2, x3, x4, x5, x6, x7] (st) h = mv_a w (mw d 115 Q 38 [some w, x1, x2, x3, x4, x5, x6, x7] (w :: st) h) := (mw_at mj_115_37).trans (z_aload_n rfl)
theorem mj_115_38 : mc_P 115 38 = some (.iload 6, 2, 0, 0, 0) := by decide +kernel
theorem s_115_38 {x0 x1 x2 x3 x4 x5 x7 : Option Value} {w : Value} : mw d 115 Q 38 [x0, x1, x2, x3, x4, x5, some w, x7] (st) h = mv_i w (mw d 115 Q 40 [x0, x1, x2, x3, x4, x5, some w, x7] (w :: st) h) := (mw_at mj_115_38).trans (z_iload rfl)
theorem mj_115_40 : mc_P 115 40 = some (.invokevirtual 167, 3, 114, 5, 2) := by decide +kernel
theorem s_115_40 {x0 x1 x2 x3 x4 x5 x6 x7 : Option Value} {o : Nat} {a1 : Value} : mw (d + 1) 115 Q 40 [x0, x1, x2, x3, x4, x5, x6, x7] (a1 :: .ref o :: st) h = (mg h o 5 ∧ mca st 8 ∧ mca [.ref o, a1] 2 ∧ mcall d 114 [.ref o, a1] h (mK (d + 1) 115 Q 43 [x0, x1, x2, x3, x4, x5, x6, x7] st)) := (mw_at mj_115_40).trans ((z_invv (As := [a1]) (by decide) rfl rfl).trans (congrArg (And _) (congrArg (And _) (mC_nl nl_114))))
theorem mj_115_43 : mc_P 115 43 = some (.ifCond .eq 98, 3, 0, 0, 0) := by decide +kernel
theorem s_115_43 {x0 x1 x2 x3 x4 x5 x6 x7 : Option Value} {x : Int32} : mw d 115 Q 43 [x0, x1, x2, x3, x4, x5, x6, x7] (.int x :: st) h = mB (x = 0) (mw d 115 Q) 141 46 [x0, x1, x2, x3, x4, x5, x6, x7] st h := (mw_at mj_115_43).trans (z_if_eq (by decide) rfl)
theorem mj_115_46 : mc_P 115 46 = some (.aload_n 0, 1, 0, 0, 0) := by decide +kernel
theorem s_115_46 {x1 x2 x3 x4 x5 x6 x7 : Option Value} {w : Value} : mw d 115 Q 46 [some w, x1, x2, x3, x4, x5, x6, x7] (st) h = mv_a w (mw d 115 Q 47 [some w, x1, x2, x3, x4, x5, x6, x7] (w :: st) h) := (mw_at mj_115_46).trans (z_aload_n rfl)
theorem mj_115_47 : mc_P 115 47 = some (.getfield 28, 3, 5, 11, 0) := by decide +kernel
theorem s_115_47 {x0 x1 x2 x3 x4 x5 x6 x7 : Option Value} {o : Nat} : mw d 115 Q 47 [x0, x1, x2, x3, x4, x5, x6, x7] (.ref o :: st) h = (mg h o 5 ∧ mw d 115 Q 50 [x0, x1, x2, x3, x4, x5, x6, x7] (va_rf (mh_r h o 11) :: st) h) := (mw_at mj_115_47).trans (z_getr (by decide) (by decide) rfl)
theorem mj_115_50 : mc_P 115 50 = some (.iload 6, 2, 0, 0, 0) := by decide +kernel
theorem s_115_50 {x0 x1 x2 x3 x4 x5 x7 : Option Value} {w : Value} : mw d 115 Q 50 [x0, x1, x2, x3, x4, x5, some w, x7] (st) h = mv_i w (mw d 115 Q 52 [x0, x1, x2, x3, x4, x5, some w, x7] (w :: st) h) := (mw_at mj_115_50).trans (z_iload rfl)
theorem mj_115_52 : mc_P 115 52 = some (.iaload, 1, 0, 0, 0) := by decide +kernel
theorem s_115_52 {x0 x1 x2 x3 x4 x5 x6 x7 : Option Value} {o : Nat} {i : Int32} : mw d 115 Q 52 [x0, x1, x2, x3, x4, x5, x6, x7] (.int i :: .ref o :: st) h = (mg h o 100 ∧ mx i (mh_l h o) ∧ mw d 115 Q 53 [x0, x1, x2, x3, x4, x5, x6, x7] (.int (mh_i h o i.toNatClampNeg) :: st) h) := (mw_at mj_115_52).trans (z_iald)
theorem mj_115_53 : mc_P 115 53 = some (.ifCond .ge 12, 3, 0, 0, 0) := by decide +kernel
theorem s_115_53 {x0 x1 x2 x3 x4 x5 x6 x7 : Option Value} {x : Int32} : mw d 115 Q 53 [x0, x1, x2, x3, x4, x5, x6, x7] (.int x :: st) h = mB (0 ≤ x) (mw d 115 Q) 65 56 [x0, x1, x2, x3, x4, x5, x6, x7] st h := (mw_at mj_115_53).trans (z_if_ge (by decide) rfl)
theorem mj_115_56 : mc_P 115 56 = some (.iconst 2, 1, 0, 0, 0) := by decide +kernel
theorem s_115_56 {x0 x1 x2 x3 x4 x5 x6 x7 : Option Value} : mw d 115 Q 56 [x0, x1, x2, x3, x4, x5, x6, x7] (st) h = mw d 115 Q 57 [x0, x1, x2, x3, x4, x5, x6, x7] (.int 2 :: st) h := (mw_at mj_115_56).trans (z_iconst (by decide))
theorem mj_115_57 : mc_P 115 57 = some (.iload 6, 2, 0, 0, 0) := by decide +kernel
theorem s_115_57 {x0 x1 x2 x3 x4 x5 x7 : Option Value} {w : Value} : mw d 115 Q 57 [x0, x1, x2, x3, x4, x5, some w, x7] (st) h = mv_i w (mw d 115 Q 59 [x0, x1, x2, x3, x4, x5, some w, x7] (w :: st) h) := (mw_at mj_115_57).trans (z_iload rfl)
theorem mj_115_59 : mc_P 115 59 = some (.imul, 1, 0, 0, 0) := by decide +kernel
theorem s_115_59 {x0 x1 x2 x3 x4 x5 x6 x7 : Option Value} {x w : Int32} : mw d 115 Q 59 [x0, x1, x2, x3, x4, x5, x6, x7] (.int w :: .int x :: st) h = mw d 115 Q 60 [x0, x1, x2, x3, x4, x5, x6, x7] (.int (x * w) :: st) h := (mw_at mj_115_59).trans (z_imul)
theorem mj_115_60 : mc_P 115 60 = some (.iconst 1, 1, 0, 0, 0) := by decide +kernel
theorem s_115_60 {x0 x1 x2 x3 x4 x5 x6 x7 : Option Value} : mw d 115 Q 60 [x0, x1, x2, x3, x4, x5, x6, x7] (st) h = mw d 115 Q 61 [x0, x1, x2, x3, x4, x5, x6, x7] (.int 1 :: st) h := (mw_at mj_115_60).trans (z_iconst (by decide))
theorem mj_115_61 : mc_P 115 61 = some (.iadd, 1, 0, 0, 0) := by decide +kernel
theorem s_115_61 {x0 x1 x2 x3 x4 x5 x6 x7 : Option Value} {x w : Int32} : mw d 115 Q 61 [x0, x1, x2, x3, x4, x5, x6, x7] (.int w :: .int x :: st) h = mw d 115 Q 62 [x0, x1, x2, x3, x4, x5, x6, x7] (.int (x + w) :: st) h := (mw_at mj_115_61).trans (z_iadd)
theorem mj_115_62 : mc_P 115 62 = some (.goto 7, 3, 0, 0, 0) := by decide +kernel
theorem s_115_62 {x0 x1 x2 x3 x4 x5 x6 x7 : Option Value} : mw d 115 Q 62 [x0, x1, x2, x3, x4, x5, x6, x7] (st) h = mw d 115 Q 69 [x0, x1, x2, x3, x4, x5, x6, x7] (st) h := (mw_at mj_115_62).trans (z_goto (by decide))
theorem mj_115_65 : mc_P 115 65 = some (.iconst 2, 1, 0, 0, 0) := by decide +kernel
theorem s_115_65 {x0 x1 x2 x3 x4 x5 x6 x7 : Option Value} : mw d 115 Q 65 [x0, x1, x2, x3, x4, x5, x6, x7] (st) h = mw d 115 Q 66 [x0, x1, x2, x3, x4, x5, x6, x7] (.int 2 :: st) h := (mw_at mj_115_65).trans (z_iconst (by decide))
theorem mj_115_66 : mc_P 115 66 = some (.iload 6, 2, 0, 0, 0) := by decide +kernel
theorem s_115_66 {x0 x1 x2 x3 x4 x5 x7 : Option Value} {w : Value} : mw d 115 Q 66 [x0, x1, x2, x3, x4, x5, some w, x7] (st) h = mv_i w (mw d 115 Q 68 [x0, x1, x2, x3, x4, x5, some w, x7] (w :: st) h) := (mw_at mj_115_66).trans (z_iload rfl)
theorem mj_115_68 : mc_P 115 68 = some (.imul, 1, 0, 0, 0) := by decide +kernel
theorem s_115_68 {x0 x1 x2 x3 x4 x5 x6 x7 : Option Value} {x w : Int32} : mw d 115 Q 68 [x0, x1, x2, x3, x4, x5, x6, x7] (.int w :: .int x :: st) h = mw d 115 Q 69 [x0, x1, x2, x3, x4, x5, x6, x7] (.int (x * w) :: st) h := (mw_at mj_115_68).trans (z_imul)
theorem mj_115_69 : mc_P 115 69 = some (.istore 7, 2, 0, 0, 0) := by decide +kernel
theorem s_115_69 {x0 x1 x2 x3 x4 x5 x6 x7 : Option Value} {w : Int32} : mw d 115 Q 69 [x0, x1, x2, x3, x4, x5, x6, x7] (.int w :: st) h = mw d 115 Q 71 [x0, x1, x2, x3, x4, x5, mk2 x6, some (.int w)] (st) h := (mw_at mj_115_69).trans (z_istore (Nat.le_of_ble_eq_true rfl) (me_s1_mk (j := 6) (w := x6) rfl))
theorem mj_115_71 : mc_P 115 71 = some (.iload 6, 2, 0, 0, 0) := by decide +kernel
theorem s_115_71 {x0 x1 x2 x3 x4 x5 x7 : Option Value} {w : Value} : mw d 115 Q 71 [x0, x1, x2, x3, x4, x5, some w, x7] (st) h = mv_i w (mw d 115 Q 73 [x0, x1, x2, x3, x4, x5, some w, x7] (w :: st) h) := (mw_at mj_115_71).trans (z_iload rfl)
theorem mj_115_73 : mc_P 115 73 = some (.iload_n 1, 1, 0, 0, 0) := by decide +kernel
theorem s_115_73 {x0 x2 x3 x4 x5 x6 x7 : Option Value} {w : Value} : mw d 115 Q 73 [x0, some w, x2, x3, x4, x5, x6, x7] (st) h = mv_i w (mw d 115 Q 74 [x0, some w, x2, x3, x4, x5, x6, x7] (w :: st) h) := (mw_at mj_115_73).trans (z_iload_n rfl)
theorem mj_115_74 : mc_P 115 74 = some (.if_icmp .eq 9, 3, 0, 0, 0) := by decide +kernel
theorem s_115_74 {x0 x1 x2 x3 x4 x5 x6 x7 : Option Value} {x w : Int32} : mw d 115 Q 74 [x0, x1, x2, x3, x4, x5, x6, x7] (.int w :: .int x :: st) h = mB (x = w) (mw d 115 Q) 83 77 [x0, x1, x2, x3, x4, x5, x6, x7] st h := (mw_at mj_115_74).trans (z_icmp_eq (by decide) rfl)
theorem mj_115_77 : mc_P 115 77 = some (.iload 6, 2, 0, 0, 0) := by decide +kernel
theorem s_115_77 {x0 x1 x2 x3 x4 x5 x7 : Option Value} {w : Value} : mw d 115 Q 77 [x0, x1, x2, x3, x4, x5, some w, x7] (st) h = mv_i w (mw d 115 Q 79 [x0, x1, x2, x3, x4, x5, some w, x7] (w :: st) h) := (mw_at mj_115_77).trans (z_iload rfl)
theorem mj_115_79 : mc_P 115 79 = some (.iload_n 2, 1, 0, 0, 0) := by decide +kernel
theorem s_115_79 {x0 x1 x3 x4 x5 x6 x7 : Option Value} {w : Value} : mw d 115 Q 79 [x0, x1, some w, x3, x4, x5, x6, x7] (st) h = mv_i w (mw d 115 Q 80 [x0, x1, some w, x3, x4, x5, x6, x7] (w :: st) h) := (mw_at mj_115_79).trans (z_iload_n rfl)
theorem mj_115_80 : mc_P 115 80 = some (.if_icmp .ne 53, 3, 0, 0, 0) := by decide +kernel
theorem s_115_80 {x0 x1 x2 x3 x4 x5 x6 x7 : Option Value} {x w : Int32} : mw d 115 Q 80 [x0, x1, x2, x3, x4, x5, x6, x7] (.int w :: .int x :: st) h = mB (¬ x = w) (mw d 115 Q) 133 83 [x0, x1, x2, x3, x4, x5, x6, x7] st h := (mw_at mj_115_80).trans (z_icmp_ne (by decide) rfl)
theorem mj_115_83 : mc_P 115 83 = some (.aload_n 0, 1, 0, 0, 0) := by decide +kernel
theorem s_115_83 {x1 x2 x3 x4 x5 x6 x7 : Option Value} {w : Value} : mw d 115 Q 83 [some w, x1, x2, x3, x4, x5, x6, x7] (st) h = mv_a w (mw d 115 Q 84 [some w, x1, x2, x3, x4, x5, x6, x7] (w :: st) h) := (mw_at mj_115_83).trans (z_aload_n rfl)
theorem mj_115_84 : mc_P 115 84 = some (.dup, 1, 0, 0, 0) := by decide +kernel
theorem s_115_84 {x0 x1 x2 x3 x4 x5 x6 x7 : Option Value} {w : Value} : mw d 115 Q 84 [x0, x1, x2, x3, x4, x5, x6, x7] (w :: st) h = (w.category = 1 ∧ mw d 115 Q 85 [x0, x1, x2, x3, x4, x5, x6, x7] (w :: w :: st) h) := (mw_at mj_115_84).trans (z_dup)
theorem mj_115_85 : mc_P 115 85 = some (.getfield 170, 3, 5, 17, 0) := by decide +kernel
theorem s_115_85 {x0 x1 x2 x3 x4 x5 x6 x7 : Option Value} {o : Nat} : mw d 115 Q 85 [x0, x1, x2, x3, x4, x5, x6, x7] (.ref o :: st) h = (mg h o 5 ∧ mw d 115 Q 88 [x0, x1, x2, x3, x4, x5, x6, x7] (.long (mh_j h o 17) :: st) h) := (mw_at mj_115_85).trans (z_getl (by decide) (by decide) rfl)
theorem mj_115_88 : mc_P 115 88 = some (.aload_n 0, 1, 0, 0, 0) := by decide +kernel
theorem s_115_88 {x1 x2 x3 x4 x5 x6 x7 : Option Value} {w : Value} : mw d 115 Q 88 [some w, x1, x2, x3, x4, x5, x6, x7] (st) h = mv_a w (mw d 115 Q 89 [some w, x1, x2, x3, x4, x5, x6, x7] (w :: st) h) := (mw_at mj_115_88).trans (z_aload_n rfl)
theorem mj_115_89 : mc_P 115 89 = some (.getfield 49, 3, 5, 1, 0) := by decide +kernel
theorem s_115_89 {x0 x1 x2 x3 x4 x5 x6 x7 : Option Value} {o : Nat} : mw d 115 Q 89 [x0, x1, x2, x3, x4, x5, x6, x7] (.ref o :: st) h = (mg h o 5 ∧ mw d 115 Q 92 [x0, x1, x2, x3, x4, x5, x6, x7] (va_rf (mh_r h o 1) :: st) h) := (mw_at mj_115_89).trans (z_getr (by decide) (by decide) rfl)
theorem mj_115_92 : mc_P 115 92 = some (.iload 7, 2, 0, 0, 0) := by decide +kernel
theorem s_115_92 {x0 x1 x2 x3 x4 x5 x6 : Option Value} {w : Value} : mw d 115 Q 92 [x0, x1, x2, x3, x4, x5, x6, some w] (st) h = mv_i w (mw d 115 Q 94 [x0, x1, x2, x3, x4, x5, x6, some w] (w :: st) h) := (mw_at mj_115_92).trans (z_iload rfl)
theorem mj_115_94 : mc_P 115 94 = some (.iconst 1, 1, 0, 0, 0) := by decide +kernel
theorem s_115_94 {x0 x1 x2 x3 x4 x5 x6 x7 : Option Value} : mw d 115 Q 94 [x0, x1, x2, x3, x4, x5, x6, x7] (st) h = mw d 115 Q 95 [x0, x1, x2, x3, x4, x5, x6, x7] (.int 1 :: st) h := (mw_at mj_115_94).trans (z_iconst (by decide))
theorem mj_115_95 : mc_P 115 95 = some (.ixor, 1, 0, 0, 0) := by decide +kernel
theorem s_115_95 {x0 x1 x2 x3 x4 x5 x6 x7 : Option Value} {x w : Int32} : mw d 115 Q 95 [x0, x1, x2, x3, x4, x5, x6, x7] (.int w :: .int x :: st) h = mw d 115 Q 96 [x0, x1, x2, x3, x4, x5, x6, x7] (.int (x ^^^ w) :: st) h := (mw_at mj_115_95).trans (z_ixor)
theorem mj_115_96 : mc_P 115 96 = some (.iload 7, 2, 0, 0, 0) := by decide +kernel
theorem s_115_96 {x0 x1 x2 x3 x4 x5 x6 : Option Value} {w : Value} : mw d 115 Q 96 [x0, x1, x2, x3, x4, x5, x6, some w] (st) h = mv_i w (mw d 115 Q 98 [x0, x1, x2, x3, x4, x5, x6, some w] (w :: st) h) := (mw_at mj_115_96).trans (z_iload rfl)
theorem mj_115_98 : mc_P 115 98 = some (.iconst 1, 1, 0, 0, 0) := by decide +kernel
theorem s_115_98 {x0 x1 x2 x3 x4 x5 x6 x7 : Option Value} : mw d 115 Q 98 [x0, x1, x2, x3, x4, x5, x6, x7] (st) h = mw d 115 Q 99 [x0, x1, x2, x3, x4, x5, x6, x7] (.int 1 :: st) h := (mw_at mj_115_98).trans (z_iconst (by decide))
theorem mj_115_99 : mc_P 115 99 = some (.ixor, 1, 0, 0, 0) := by decide +kernel
theorem s_115_99 {x0 x1 x2 x3 x4 x5 x6 x7 : Option Value} {x w : Int32} : mw d 115 Q 99 [x0, x1, x2, x3, x4, x5, x6, x7] (.int w :: .int x :: st) h = mw d 115 Q 100 [x0, x1, x2, x3, x4, x5, x6, x7] (.int (x ^^^ w) :: st) h := (mw_at mj_115_99).trans (z_ixor)
theorem mj_115_100 : mc_P 115 100 = some (.invokevirtual 104, 3, 146, 8, 3) := by decide +kernel
theorem s_115_100 {x0 x1 x2 x3 x4 x5 x6 x7 : Option Value} {o : Nat} {a1 a2 : Value} : mw (d + 1) 115 Q 100 [x0, x1, x2, x3, x4, x5, x6, x7] (a2 :: a1 :: .ref o :: st) h = (mg h o 8 ∧ mca st 8 ∧ mca [.ref o, a1, a2] 5 ∧ mcall d 146 [.ref o, a1, a2] h (mK (d + 1) 115 Q 103 [x0, x1, x2, x3, x4, x5, x6, x7] st)) := (mw_at mj_115_100).trans ((z_invv (As := [a1, a2]) (by decide) rfl rfl).trans (congrArg (And _) (congrArg (And _) (mC_nl nl_146))))
theorem mj_115_103 : mc_P 115 103 = some (.ladd, 1, 0, 0, 0) := by decide +kernel
theorem s_115_103 {x0 x1 x2 x3 x4 x5 x6 x7 : Option Value} {x w : Int64} : mw d 115 Q 103 [x0, x1, x2, x3, x4, x5, x6, x7] (.long w :: .long x :: st) h = mw d 115 Q 104 [x0, x1, x2, x3, x4, x5, x6, x7] (.long (x + w) :: st) h := (mw_at mj_115_103).trans (z_ladd)
theorem mj_115_104 : mc_P 115 104 = some (.putfield 170, 3, 5, 17, 0) := by decide +kernel
theorem s_115_104 {x0 x1 x2 x3 x4 x5 x6 x7 : Option Value} {o : Nat} {w : Int64} : mw d 115 Q 104 [x0, x1, x2, x3, x4, x5, x6, x7] (.long w :: .ref o :: st) h = (mg h o 5 ∧ mw d 115 Q 107 [x0, x1, x2, x3, x4, x5, x6, x7] (st) (mh_sj h o 17 w)) := (mw_at mj_115_104).trans (z_putl (by decide) (by decide) rfl)
theorem mj_115_107 : mc_P 115 107 = some (.aload_n 0, 1, 0, 0, 0) := by decide +kernel
theorem s_115_107 {x1 x2 x3 x4 x5 x6 x7 : Option Value} {w : Value} : mw d 115 Q 107 [some w, x1, x2, x3, x4, x5, x6, x7] (st) h = mv_a w (mw d 115 Q 108 [some w, x1, x2, x3, x4, x5, x6, x7] (w :: st) h) := (mw_at mj_115_107).trans (z_aload_n rfl)
theorem mj_115_108 : mc_P 115 108 = some (.dup, 1, 0, 0, 0) := by decide +kernel
theorem s_115_108 {x0 x1 x2 x3 x4 x5 x6 x7 : Option Value} {w : Value} : mw d 115 Q 108 [x0, x1, x2, x3, x4, x5, x6, x7] (w :: st) h = (w.category = 1 ∧ mw d 115 Q 109 [x0, x1, x2, x3, x4, x5, x6, x7] (w :: w :: st) h) := (mw_at mj_115_108).trans (z_dup)
theorem mj_115_109 : mc_P 115 109 = some (.getfield 173, 3, 5, 18, 0) := by decide +kernel
theorem s_115_109 {x0 x1 x2 x3 x4 x5 x6 x7 : Option Value} {o : Nat} : mw d 115 Q 109 [x0, x1, x2, x3, x4, x5, x6, x7] (.ref o :: st) h = (mg h o 5 ∧ mw d 115 Q 112 [x0, x1, x2, x3, x4, x5, x6, x7] (.long (mh_j h o 18) :: st) h) := (mw_at mj_115_109).trans (z_getl (by decide) (by decide) rfl)
theorem mj_115_112 : mc_P 115 112 = some (.aload_n 0, 1, 0, 0, 0) := by decide +kernel
theorem s_115_112 {x1 x2 x3 x4 x5 x6 x7 : Option Value} {w : Value} : mw d 115 Q 112 [some w, x1, x2, x3, x4, x5, x6, x7] (st) h = mv_a w (mw d 115 Q 113 [some w, x1, x2, x3, x4, x5, x6, x7] (w :: st) h) := (mw_at mj_115_112).trans (z_aload_n rfl)
theorem mj_115_113 : mc_P 115 113 = some (.getfield 49, 3, 5, 1, 0) := by decide +kernel
theorem s_115_113 {x0 x1 x2 x3 x4 x5 x6 x7 : Option Value} {o : Nat} : mw d 115 Q 113 [x0, x1, x2, x3, x4, x5, x6, x7] (.ref o :: st) h = (mg h o 5 ∧ mw d 115 Q 116 [x0, x1, x2, x3, x4, x5, x6, x7] (va_rf (mh_r h o 1) :: st) h) := (mw_at mj_115_113).trans (z_getr (by decide) (by decide) rfl)
theorem mj_115_116 : mc_P 115 116 = some (.iload 7, 2, 0, 0, 0) := by decide +kernel
theorem s_115_116 {x0 x1 x2 x3 x4 x5 x6 : Option Value} {w : Value} : mw d 115 Q 116 [x0, x1, x2, x3, x4, x5, x6, some w] (st) h = mv_i w (mw d 115 Q 118 [x0, x1, x2, x3, x4, x5, x6, some w] (w :: st) h) := (mw_at mj_115_116).trans (z_iload rfl)
theorem mj_115_118 : mc_P 115 118 = some (.iload 7, 2, 0, 0, 0) := by decide +kernel
theorem s_115_118 {x0 x1 x2 x3 x4 x5 x6 : Option Value} {w : Value} : mw d 115 Q 118 [x0, x1, x2, x3, x4, x5, x6, some w] (st) h = mv_i w (mw d 115 Q 120 [x0, x1, x2, x3, x4, x5, x6, some w] (w :: st) h) := (mw_at mj_115_118).trans (z_iload rfl)
theorem mj_115_120 : mc_P 115 120 = some (.invokevirtual 104, 3, 146, 8, 3) := by decide +kernel
theorem s_115_120 {x0 x1 x2 x3 x4 x5 x6 x7 : Option Value} {o : Nat} {a1 a2 : Value} : mw (d + 1) 115 Q 120 [x0, x1, x2, x3, x4, x5, x6, x7] (a2 :: a1 :: .ref o :: st) h = (mg h o 8 ∧ mca st 8 ∧ mca [.ref o, a1, a2] 5 ∧ mcall d 146 [.ref o, a1, a2] h (mK (d + 1) 115 Q 123 [x0, x1, x2, x3, x4, x5, x6, x7] st)) := (mw_at mj_115_120).trans ((z_invv (As := [a1, a2]) (by decide) rfl rfl).trans (congrArg (And _) (congrArg (And _) (mC_nl nl_146))))
theorem mj_115_123 : mc_P 115 123 = some (.lsub, 1, 0, 0, 0) := by decide +kernel
theorem s_115_123 {x0 x1 x2 x3 x4 x5 x6 x7 : Option Value} {x w : Int64} : mw d 115 Q 123 [x0, x1, x2, x3, x4, x5, x6, x7] (.long w :: .long x :: st) h = mw d 115 Q 124 [x0, x1, x2, x3, x4, x5, x6, x7] (.long (x - w) :: st) h := (mw_at mj_115_123).trans (z_lsub)
theorem mj_115_124 : mc_P 115 124 = some (.putfield 173, 3, 5, 18, 0) := by decide +kernel
theorem s_115_124 {x0 x1 x2 x3 x4 x5 x6 x7 : Option Value} {o : Nat} {w : Int64} : mw d 115 Q 124 [x0, x1, x2, x3, x4, x5, x6, x7] (.long w :: .ref o :: st) h = (mg h o 5 ∧ mw d 115 Q 127 [x0, x1, x2, x3, x4, x5, x6, x7] (st) (mh_sj h o 18 w)) := (mw_at mj_115_124).trans (z_putl (by decide) (by decide) rfl)
theorem mj_115_127 : mc_P 115 127 = some (.iinc 3 (-1), 3, 0, 0, 0) := by decide +kernel
theorem s_115_127 {x0 x1 x2 x4 x5 x6 x7 : Option Value} {w : Int32} : mw d 115 Q 127 [x0, x1, x2, some (.int w), x4, x5, x6, x7] (st) h = mw d 115 Q 130 [x0, x1, mk2 x2, some (.int (w + (-1))), x4, x5, x6, x7] (st) h := (mw_at mj_115_127).trans (z_iinc rfl (Nat.le_of_ble_eq_true rfl) (by decide) (me_s1_mk (j := 2) (w := x2) rfl))
theorem mj_115_130 : mc_P 115 130 = some (.goto 11, 3, 0, 0, 0) := by decide +kernel
theorem s_115_130 {x0 x1 x2 x3 x4 x5 x6 x7 : Option Value} : mw d 115 Q 130 [x0, x1, x2, x3, x4, x5, x6, x7] (st) h = mw d 115 Q 141 [x0, x1, x2, x3, x4, x5, x6, x7] (st) h := (mw_at mj_115_130).trans (z_goto (by decide))
theorem mj_115_133 : mc_P 115 133 = some (.iload 5, 2, 0, 0, 0) := by decide +kernel
theorem s_115_133 {x0 x1 x2 x3 x4 x6 x7 : Option Value} {w : Value} : mw d 115 Q 133 [x0, x1, x2, x3, x4, some w, x6, x7] (st) h = mv_i w (mw d 115 Q 135 [x0, x1, x2, x3, x4, some w, x6, x7] (w :: st) h) := (mw_at mj_115_133).trans (z_iload rfl)
theorem mj_115_135 : mc_P 115 135 = some (.istore 4, 2, 0, 0, 0) := by decide +kernel
theorem s_115_135 {x0 x1 x2 x3 x4 x5 x6 x7 : Option Value} {w : Int32} : mw d 115 Q 135 [x0, x1, x2, x3, x4, x5, x6, x7] (.int w :: st) h = mw d 115 Q 137 [x0, x1, x2, mk2 x3, some (.int w), x5, x6, x7] (st) h := (mw_at mj_115_135).trans (z_istore (Nat.le_of_ble_eq_true rfl) (me_s1_mk (j := 3) (w := x3) rfl))
theorem mj_115_137 : mc_P 115 137 = some (.iload 7, 2, 0, 0, 0) := by decide +kernel
theorem s_115_137 {x0 x1 x2 x3 x4 x5 x6 : Option Value} {w : Value} : mw d 115 Q 137 [x0, x1, x2, x3, x4, x5, x6, some w] (st) h = mv_i w (mw d 115 Q 139 [x0, x1, x2, x3, x4, x5, x6, some w] (w :: st) h) := (mw_at mj_115_137).trans (z_iload rfl)
theorem mj_115_139 : mc_P 115 139 = some (.istore 5, 2, 0, 0, 0) := by decide +kernel
theorem s_115_139 {x0 x1 x2 x3 x4 x5 x6 x7 : Option Value} {w : Int32} : mw d 115 Q 139 [x0, x1, x2, x3, x4, x5, x6, x7] (.int w :: st) h = mw d 115 Q 141 [x0, x1, x2, x3, mk2 x4, some (.int w), x6, x7] (st) h := (mw_at mj_115_139).trans (z_istore (Nat.le_of_ble_eq_true rfl) (me_s1_mk (j := 4) (w := x4) rfl))
theorem mj_115_141 : mc_P 115 141 = some (.iinc 6 1, 3, 0, 0, 0) := by decide +kernel
theorem s_115_141 {x0 x1 x2 x3 x4 x5 x7 : Option Value} {w : Int32} : mw d 115 Q 141 [x0, x1, x2, x3, x4, x5, some (.int w), x7] (st) h = mw d 115 Q 144 [x0, x1, x2, x3, x4, mk2 x5, some (.int (w + 1)), x7] (st) h := (mw_at mj_115_141).trans (z_iinc rfl (Nat.le_of_ble_eq_true rfl) (by decide) (me_s1_mk (j := 5) (w := x5) rfl))
theorem mj_115_144 : mc_P 115 144 = some (.goto (-114), 3, 0, 0, 0) := by decide +kernel
theorem s_115_144 {x0 x1 x2 x3 x4 x5 x6 x7 : Option Value} : mw d 115 Q 144 [x0, x1, x2, x3, x4, x5, x6, x7] (st) h = mw d 115 Q 30 [x0, x1, x2, x3, x4, x5, x6, x7] (st) h := (mw_at mj_115_144).trans (z_goto (by decide))
theorem mj_115_147 : mc_P 115 147 = some (.aload_n 0, 1, 0, 0, 0) := by decide +kernel
theorem s_115_147 {x1 x2 x3 x4 x5 x6 x7 : Option Value} {w : Value} : mw d 115 Q 147 [some w, x1, x2, x3, x4, x5, x6, x7] (st) h = mv_a w (mw d 115 Q 148 [some w, x1, x2, x3, x4, x5, x6, x7] (w :: st) h) := (mw_at mj_115_147).trans (z_aload_n rfl)
theorem mj_115_148 : mc_P 115 148 = some (.getfield 164, 3, 5, 12, 0) := by decide +kernel
theorem s_115_148 {x0 x1 x2 x3 x4 x5 x6 x7 : Option Value} {o : Nat} : mw d 115 Q 148 [x0, x1, x2, x3, x4, x5, x6, x7] (.ref o :: st) h = (mg h o 5 ∧ mw d 115 Q 151 [x0, x1, x2, x3, x4, x5, x6, x7] (.int (mh_i h o 12) :: st) h) := (mw_at mj_115_148).trans (z_geti (by decide) (by decide) (Or.inl rfl))
theorem mj_115_151 : mc_P 115 151 = some (.aload_n 0, 1, 0, 0, 0) := by decide +kernel
theorem s_115_151 {x1 x2 x3 x4 x5 x6 x7 : Option Value} {w : Value} : mw d 115 Q 151 [some w, x1, x2, x3, x4, x5, x6, x7] (st) h = mv_a w (mw d 115 Q 152 [some w, x1, x2, x3, x4, x5, x6, x7] (w :: st) h) := (mw_at mj_115_151).trans (z_aload_n rfl)
theorem mj_115_152 : mc_P 115 152 = some (.getfield 145, 3, 5, 13, 0) := by decide +kernel
theorem s_115_152 {x0 x1 x2 x3 x4 x5 x6 x7 : Option Value} {o : Nat} : mw d 115 Q 152 [x0, x1, x2, x3, x4, x5, x6, x7] (.ref o :: st) h = (mg h o 5 ∧ mw d 115 Q 155 [x0, x1, x2, x3, x4, x5, x6, x7] (.int (mh_i h o 13) :: st) h) := (mw_at mj_115_152).trans (z_geti (by decide) (by decide) (Or.inl rfl))
theorem mj_115_155 : mc_P 115 155 = some (.if_icmp .ne 58, 3, 0, 0, 0) := by decide +kernel
theorem s_115_155 {x0 x1 x2 x3 x4 x5 x6 x7 : Option Value} {x w : Int32} : mw d 115 Q 155 [x0, x1, x2, x3, x4, x5, x6, x7] (.int w :: .int x :: st) h = mB (¬ x = w) (mw d 115 Q) 213 158 [x0, x1, x2, x3, x4, x5, x6, x7] st h := (mw_at mj_115_155).trans (z_icmp_ne (by decide) rfl)
theorem mj_115_158 : mc_P 115 158 = some (.iload_n 3, 1, 0, 0, 0) := by decide +kernel
theorem s_115_158 {x0 x1 x2 x4 x5 x6 x7 : Option Value} {w : Value} : mw d 115 Q 158 [x0, x1, x2, some w, x4, x5, x6, x7] (st) h = mv_i w (mw d 115 Q 159 [x0, x1, x2, some w, x4, x5, x6, x7] (w :: st) h) := (mw_at mj_115_158).trans (z_iload_n rfl)
theorem mj_115_159 : mc_P 115 159 = some (.iconst 2, 1, 0, 0, 0) := by decide +kernel
theorem s_115_159 {x0 x1 x2 x3 x4 x5 x6 x7 : Option Value} : mw d 115 Q 159 [x0, x1, x2, x3, x4, x5, x6, x7] (st) h = mw d 115 Q 160 [x0, x1, x2, x3, x4, x5, x6, x7] (.int 2 :: st) h := (mw_at mj_115_159).trans (z_iconst (by decide))
theorem mj_115_160 : mc_P 115 160 = some (.if_icmp .ne 53, 3, 0, 0, 0) := by decide +kernel
theorem s_115_160 {x0 x1 x2 x3 x4 x5 x6 x7 : Option Value} {x w : Int32} : mw d 115 Q 160 [x0, x1, x2, x3, x4, x5, x6, x7] (.int w :: .int x :: st) h = mB (¬ x = w) (mw d 115 Q) 213 163 [x0, x1, x2, x3, x4, x5, x6, x7] st h := (mw_at mj_115_160).trans (z_icmp_ne (by decide) rfl)
theorem mj_115_163 : mc_P 115 163 = some (.iload 4, 2, 0, 0, 0) := by decide +kernel
theorem s_115_163 {x0 x1 x2 x3 x5 x6 x7 : Option Value} {w : Value} : mw d 115 Q 163 [x0, x1, x2, x3, some w, x5, x6, x7] (st) h = mv_i w (mw d 115 Q 165 [x0, x1, x2, x3, some w, x5, x6, x7] (w :: st) h) := (mw_at mj_115_163).trans (z_iload rfl)
theorem mj_115_165 : mc_P 115 165 = some (.iconst (-1), 1, 0, 0, 0) := by decide +kernel
theorem s_115_165 {x0 x1 x2 x3 x4 x5 x6 x7 : Option Value} : mw d 115 Q 165 [x0, x1, x2, x3, x4, x5, x6, x7] (st) h = mw d 115 Q 166 [x0, x1, x2, x3, x4, x5, x6, x7] (.int (-1) :: st) h := (mw_at mj_115_165).trans (z_iconst (by decide))
theorem mj_115_166 : mc_P 115 166 = some (.if_icmp .eq 47, 3, 0, 0, 0) := by decide +kernel
theorem s_115_166 {x0 x1 x2 x3 x4 x5 x6 x7 : Option Value} {x w : Int32} : mw d 115 Q 166 [x0, x1, x2, x3, x4, x5, x6, x7] (.int w :: .int x :: st) h = mB (x = w) (mw d 115 Q) 213 169 [x0, x1, x2, x3, x4, x5, x6, x7] st h := (mw_at mj_115_166).trans (z_icmp_eq (by decide) rfl)
theorem mj_115_169 : mc_P 115 169 = some (.aload_n 0, 1, 0, 0, 0) := by decide +kernel
theorem s_115_169 {x1 x2 x3 x4 x5 x6 x7 : Option Value} {w : Value} : mw d 115 Q 169 [some w, x1, x2, x3, x4, x5, x6, x7] (st) h = mv_a w (mw d 115 Q 170 [some w, x1, x2, x3, x4, x5, x6, x7] (w :: st) h) := (mw_at mj_115_169).trans (z_aload_n rfl)
theorem mj_115_170 : mc_P 115 170 = some (.aload_n 0, 1, 0, 0, 0) := by decide +kernel
theorem s_115_170 {x1 x2 x3 x4 x5 x6 x7 : Option Value} {w : Value} : mw d 115 Q 170 [some w, x1, x2, x3, x4, x5, x6, x7] (st) h = mv_a w (mw d 115 Q 171 [some w, x1, x2, x3, x4, x5, x6, x7] (w :: st) h) := (mw_at mj_115_170).trans (z_aload_n rfl)
theorem mj_115_171 : mc_P 115 171 = some (.getfield 155, 3, 5, 16, 0) := by decide +kernel
theorem s_115_171 {x0 x1 x2 x3 x4 x5 x6 x7 : Option Value} {o : Nat} : mw d 115 Q 171 [x0, x1, x2, x3, x4, x5, x6, x7] (.ref o :: st) h = (mg h o 5 ∧ mw d 115 Q 174 [x0, x1, x2, x3, x4, x5, x6, x7] (.long (mh_j h o 16) :: st) h) := (mw_at mj_115_171).trans (z_getl (by decide) (by decide) rfl)
theorem mj_115_174 : mc_P 115 174 = some (.aload_n 0, 1, 0, 0, 0) := by decide +kernel
theorem s_115_174 {x1 x2 x3 x4 x5 x6 x7 : Option Value} {w : Value} : mw d 115 Q 174 [some w, x1, x2, x3, x4, x5, x6, x7] (st) h = mv_a w (mw d 115 Q 175 [some w, x1, x2, x3, x4, x5, x6, x7] (w :: st) h) := (mw_at mj_115_174).trans (z_aload_n rfl)
theorem mj_115_175 : mc_P 115 175 = some (.getfield 49, 3, 5, 1, 0) := by decide +kernel
theorem s_115_175 {x0 x1 x2 x3 x4 x5 x6 x7 : Option Value} {o : Nat} : mw d 115 Q 175 [x0, x1, x2, x3, x4, x5, x6, x7] (.ref o :: st) h = (mg h o 5 ∧ mw d 115 Q 178 [x0, x1, x2, x3, x4, x5, x6, x7] (va_rf (mh_r h o 1) :: st) h) := (mw_at mj_115_175).trans (z_getr (by decide) (by decide) rfl)
theorem mj_115_178 : mc_P 115 178 = some (.iload 4, 2, 0, 0, 0) := by decide +kernel
theorem s_115_178 {x0 x1 x2 x3 x5 x6 x7 : Option Value} {w : Value} : mw d 115 Q 178 [x0, x1, x2, x3, some w, x5, x6, x7] (st) h = mv_i w (mw d 115 Q 180 [x0, x1, x2, x3, some w, x5, x6, x7] (w :: st) h) := (mw_at mj_115_178).trans (z_iload rfl)
theorem mj_115_180 : mc_P 115 180 = some (.iconst 1, 1, 0, 0, 0) := by decide +kernel
theorem s_115_180 {x0 x1 x2 x3 x4 x5 x6 x7 : Option Value} : mw d 115 Q 180 [x0, x1, x2, x3, x4, x5, x6, x7] (st) h = mw d 115 Q 181 [x0, x1, x2, x3, x4, x5, x6, x7] (.int 1 :: st) h := (mw_at mj_115_180).trans (z_iconst (by decide))
theorem mj_115_181 : mc_P 115 181 = some (.ixor, 1, 0, 0, 0) := by decide +kernel
theorem s_115_181 {x0 x1 x2 x3 x4 x5 x6 x7 : Option Value} {x w : Int32} : mw d 115 Q 181 [x0, x1, x2, x3, x4, x5, x6, x7] (.int w :: .int x :: st) h = mw d 115 Q 182 [x0, x1, x2, x3, x4, x5, x6, x7] (.int (x ^^^ w) :: st) h := (mw_at mj_115_181).trans (z_ixor)
theorem mj_115_182 : mc_P 115 182 = some (.iload 5, 2, 0, 0, 0) := by decide +kernel
theorem s_115_182 {x0 x1 x2 x3 x4 x6 x7 : Option Value} {w : Value} : mw d 115 Q 182 [x0, x1, x2, x3, x4, some w, x6, x7] (st) h = mv_i w (mw d 115 Q 184 [x0, x1, x2, x3, x4, some w, x6, x7] (w :: st) h) := (mw_at mj_115_182).trans (z_iload rfl)
theorem mj_115_184 : mc_P 115 184 = some (.iconst 1, 1, 0, 0, 0) := by decide +kernel
theorem s_115_184 {x0 x1 x2 x3 x4 x5 x6 x7 : Option Value} : mw d 115 Q 184 [x0, x1, x2, x3, x4, x5, x6, x7] (st) h = mw d 115 Q 185 [x0, x1, x2, x3, x4, x5, x6, x7] (.int 1 :: st) h := (mw_at mj_115_184).trans (z_iconst (by decide))
theorem mj_115_185 : mc_P 115 185 = some (.ixor, 1, 0, 0, 0) := by decide +kernel
theorem s_115_185 {x0 x1 x2 x3 x4 x5 x6 x7 : Option Value} {x w : Int32} : mw d 115 Q 185 [x0, x1, x2, x3, x4, x5, x6, x7] (.int w :: .int x :: st) h = mw d 115 Q 186 [x0, x1, x2, x3, x4, x5, x6, x7] (.int (x ^^^ w) :: st) h := (mw_at mj_115_185).trans (z_ixor)
theorem mj_115_186 : mc_P 115 186 = some (.invokevirtual 104, 3, 146, 8, 3) := by decide +kernel
theorem s_115_186 {x0 x1 x2 x3 x4 x5 x6 x7 : Option Value} {o : Nat} {a1 a2 : Value} : mw (d + 1) 115 Q 186 [x0, x1, x2, x3, x4, x5, x6, x7] (a2 :: a1 :: .ref o :: st) h = (mg h o 8 ∧ mca st 8 ∧ mca [.ref o, a1, a2] 5 ∧ mcall d 146 [.ref o, a1, a2] h (mK (d + 1) 115 Q 189 [x0, x1, x2, x3, x4, x5, x6, x7] st)) := (mw_at mj_115_186).trans ((z_invv (As := [a1, a2]) (by decide) rfl rfl).trans (congrArg (And _) (congrArg (And _) (mC_nl nl_146))))
theorem mj_115_189 : mc_P 115 189 = some (.lsub, 1, 0, 0, 0) := by decide +kernel
theorem s_115_189 {x0 x1 x2 x3 x4 x5 x6 x7 : Option Value} {x w : Int64} : mw d 115 Q 189 [x0, x1, x2, x3, x4, x5, x6, x7] (.long w :: .long x :: st) h = mw d 115 Q 190 [x0, x1, x2, x3, x4, x5, x6, x7] (.long (x - w) :: st) h := (mw_at mj_115_189).trans (z_lsub)
theorem mj_115_190 : mc_P 115 190 = some (.putfield 170, 3, 5, 17, 0) := by decide +kernel
theorem s_115_190 {x0 x1 x2 x3 x4 x5 x6 x7 : Option Value} {o : Nat} {w : Int64} : mw d 115 Q 190 [x0, x1, x2, x3, x4, x5, x6, x7] (.long w :: .ref o :: st) h = (mg h o 5 ∧ mw d 115 Q 193 [x0, x1, x2, x3, x4, x5, x6, x7] (st) (mh_sj h o 17 w)) := (mw_at mj_115_190).trans (z_putl (by decide) (by decide) rfl)
theorem mj_115_193 : mc_P 115 193 = some (.aload_n 0, 1, 0, 0, 0) := by decide +kernel
theorem s_115_193 {x1 x2 x3 x4 x5 x6 x7 : Option Value} {w : Value} : mw d 115 Q 193 [some w, x1, x2, x3, x4, x5, x6, x7] (st) h = mv_a w (mw d 115 Q 194 [some w, x1, x2, x3, x4, x5, x6, x7] (w :: st) h) := (mw_at mj_115_193).trans (z_aload_n rfl)
theorem mj_115_194 : mc_P 115 194 = some (.aload_n 0, 1, 0, 0, 0) := by decide +kernel
theorem s_115_194 {x1 x2 x3 x4 x5 x6 x7 : Option Value} {w : Value} : mw d 115 Q 194 [some w, x1, x2, x3, x4, x5, x6, x7] (st) h = mv_a w (mw d 115 Q 195 [some w, x1, x2, x3, x4, x5, x6, x7] (w :: st) h) := (mw_at mj_115_194).trans (z_aload_n rfl)
theorem mj_115_195 : mc_P 115 195 = some (.getfield 155, 3, 5, 16, 0) := by decide +kernel
theorem s_115_195 {x0 x1 x2 x3 x4 x5 x6 x7 : Option Value} {o : Nat} : mw d 115 Q 195 [x0, x1, x2, x3, x4, x5, x6, x7] (.ref o :: st) h = (mg h o 5 ∧ mw d 115 Q 198 [x0, x1, x2, x3, x4, x5, x6, x7] (.long (mh_j h o 16) :: st) h) := (mw_at mj_115_195).trans (z_getl (by decide) (by decide) rfl)
theorem mj_115_198 : mc_P 115 198 = some (.aload_n 0, 1, 0, 0, 0) := by decide +kernel
theorem s_115_198 {x1 x2 x3 x4 x5 x6 x7 : Option Value} {w : Value} : mw d 115 Q 198 [some w, x1, x2, x3, x4, x5, x6, x7] (st) h = mv_a w (mw d 115 Q 199 [some w, x1, x2, x3, x4, x5, x6, x7] (w :: st) h) := (mw_at mj_115_198).trans (z_aload_n rfl)
theorem mj_115_199 : mc_P 115 199 = some (.getfield 49, 3, 5, 1, 0) := by decide +kernel
theorem s_115_199 {x0 x1 x2 x3 x4 x5 x6 x7 : Option Value} {o : Nat} : mw d 115 Q 199 [x0, x1, x2, x3, x4, x5, x6, x7] (.ref o :: st) h = (mg h o 5 ∧ mw d 115 Q 202 [x0, x1, x2, x3, x4, x5, x6, x7] (va_rf (mh_r h o 1) :: st) h) := (mw_at mj_115_199).trans (z_getr (by decide) (by decide) rfl)
theorem mj_115_202 : mc_P 115 202 = some (.iload 4, 2, 0, 0, 0) := by decide +kernel
theorem s_115_202 {x0 x1 x2 x3 x5 x6 x7 : Option Value} {w : Value} : mw d 115 Q 202 [x0, x1, x2, x3, some w, x5, x6, x7] (st) h = mv_i w (mw d 115 Q 204 [x0, x1, x2, x3, some w, x5, x6, x7] (w :: st) h) := (mw_at mj_115_202).trans (z_iload rfl)
theorem mj_115_204 : mc_P 115 204 = some (.iload 5, 2, 0, 0, 0) := by decide +kernel
theorem s_115_204 {x0 x1 x2 x3 x4 x6 x7 : Option Value} {w : Value} : mw d 115 Q 204 [x0, x1, x2, x3, x4, some w, x6, x7] (st) h = mv_i w (mw d 115 Q 206 [x0, x1, x2, x3, x4, some w, x6, x7] (w :: st) h) := (mw_at mj_115_204).trans (z_iload rfl)
theorem mj_115_206 : mc_P 115 206 = some (.invokevirtual 104, 3, 146, 8, 3) := by decide +kernel
theorem s_115_206 {x0 x1 x2 x3 x4 x5 x6 x7 : Option Value} {o : Nat} {a1 a2 : Value} : mw (d + 1) 115 Q 206 [x0, x1, x2, x3, x4, x5, x6, x7] (a2 :: a1 :: .ref o :: st) h = (mg h o 8 ∧ mca st 8 ∧ mca [.ref o, a1, a2] 5 ∧ mcall d 146 [.ref o, a1, a2] h (mK (d + 1) 115 Q 209 [x0, x1, x2, x3, x4, x5, x6, x7] st)) := (mw_at mj_115_206).trans ((z_invv (As := [a1, a2]) (by decide) rfl rfl).trans (congrArg (And _) (congrArg (And _) (mC_nl nl_146))))
theorem mj_115_209 : mc_P 115 209 = some (.ladd, 1, 0, 0, 0) := by decide +kernel
theorem s_115_209 {x0 x1 x2 x3 x4 x5 x6 x7 : Option Value} {x w : Int64} : mw d 115 Q 209 [x0, x1, x2, x3, x4, x5, x6, x7] (.long w :: .long x :: st) h = mw d 115 Q 210 [x0, x1, x2, x3, x4, x5, x6, x7] (.long (x + w) :: st) h := (mw_at mj_115_209).trans (z_ladd)
theorem mj_115_210 : mc_P 115 210 = some (.putfield 173, 3, 5, 18, 0) := by decide +kernel
theorem s_115_210 {x0 x1 x2 x3 x4 x5 x6 x7 : Option Value} {o : Nat} {w : Int64} : mw d 115 Q 210 [x0, x1, x2, x3, x4, x5, x6, x7] (.long w :: .ref o :: st) h = (mg h o 5 ∧ mw d 115 Q 213 [x0, x1, x2, x3, x4, x5, x6, x7] (st) (mh_sj h o 18 w)) := (mw_at mj_115_210).trans (z_putl (by decide) (by decide) rfl)
theorem mj_115_213 : mc_P 115 213 = some (.return_, 1, 0, 0, 0) := by decide +kernel
theorem s_115_213 {x0 x1 x2 x3 x4 x5 x6 x7 : Option Value} : mw d 115 Q 213 [x0, x1, x2, x3, x4, x5, x6, x7] ([]) h = Q none h := (mw_at mj_115_213).trans (z_vret)
theorem e_115 {a0 : Nat} {a1 : Int32} {a2 : Int32} : mcall d 115 [.ref a0, .int a1, .int a2] h Q = mw d 115 Q 0 [some (.ref a0), some (.int a1), some (.int a2), none, none, none, none, none] [] h := by
  show mw d 115 Q 0 (me_en (mc_nl 115) _) [] h = _
  rw [nl_115]; rfl

end SR
