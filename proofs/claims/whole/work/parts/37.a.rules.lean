/-! rules of methods, by program (wip/whole/srule.py) -/
section SR
variable {d : Nat} {Q : Option Value → mh_H → Prop} {st : List Value} {h : mh_H}
/-! InvariantDeskModel$Known.<init>()V -/
theorem mj_276_0 : mc_P 276 0 = some (.aload_n 0, 1, 0, 0, 0) := by decide +kernel
theorem s_276_0 {w : Value} : mw d 276 Q 0 [some w] (st) h = mv_a w (mw d 276 Q 1 [some w] (w :: st) h) := (mw_at mj_276_0).trans (z_aload_n rfl)
theorem mj_276_1 : mc_P 276 1 = some (.invokespecial 1, 3, 0, 1, 0) := by decide +kernel
theorem s_276_1 {x0 : Option Value} {o : Nat} : mw d 276 Q 1 [x0] (.ref o :: st) h = (mca st 8 ∧ mw d 276 Q 4 [x0] (st) h) := (mw_at mj_276_1).trans (z_obj)
theorem mj_276_4 : mc_P 276 4 = some (.aload_n 0, 1, 0, 0, 0) := by decide +kernel
theorem s_276_4 {w : Value} : mw d 276 Q 4 [some w] (st) h = mv_a w (mw d 276 Q 5 [some w] (w :: st) h) := (mw_at mj_276_4).trans (z_aload_n rfl)
theorem mj_276_5 : mc_P 276 5 = some (.sipush 576, 3, 0, 0, 0) := by decide +kernel
theorem s_276_5 {x0 : Option Value} : mw d 276 Q 5 [x0] (st) h = mw d 276 Q 8 [x0] (.int 576 :: st) h := (mw_at mj_276_5).trans (z_sipush (by decide))
theorem mj_276_8 : mc_P 276 8 = some (.newarray .long, 2, 101, 0, 0) := by decide +kernel
theorem s_276_8 {x0 : Option Value} {i : Int32} : mw d 276 Q 8 [x0] (.int i :: st) h = (mN i ∧ mw d 276 Q 10 [x0] (.ref (mh_n h) :: st) (mh_new h 101 i.toNatClampNeg)) := (mw_at mj_276_8).trans (z_newa (by decide) (by decide))
theorem mj_276_10 : mc_P 276 10 = some (.putfield 9, 3, 13, 3, 0) := by decide +kernel
theorem s_276_10 {x0 : Option Value} {o w : Nat} : mw d 276 Q 10 [x0] (.ref w :: .ref o :: st) h = (mg h o 13 ∧ mw d 276 Q 13 [x0] (st) (mh_sr h o 3 (some w))) := (mw_at mj_276_10).trans (z_putr (by decide) (by decide) rfl)
theorem s_276_10n {x0 : Option Value} {o : Nat} : mw d 276 Q 10 [x0] (.null :: .ref o :: st) h = (mg h o 13 ∧ mw d 276 Q 13 [x0] (st) (mh_sr h o 3 none)) := (mw_at mj_276_10).trans (z_putn (by decide) (by decide) rfl)
theorem mj_276_13 : mc_P 276 13 = some (.aload_n 0, 1, 0, 0, 0) := by decide +kernel
theorem s_276_13 {w : Value} : mw d 276 Q 13 [some w] (st) h = mv_a w (mw d 276 Q 14 [some w] (w :: st) h) := (mw_at mj_276_13).trans (z_aload_n rfl)
theorem mj_276_14 : mc_P 276 14 = some (.bipush 6, 2, 0, 0, 0) := by decide +kernel
theorem s_276_14 {x0 : Option Value} : mw d 276 Q 14 [x0] (st) h = mw d 276 Q 16 [x0] (.int 6 :: st) h := (mw_at mj_276_14).trans (z_bipush (by decide))
theorem mj_276_16 : mc_P 276 16 = some (.newarray .long, 2, 101, 0, 0) := by decide +kernel
theorem s_276_16 {x0 : Option Value} {i : Int32} : mw d 276 Q 16 [x0] (.int i :: st) h = (mN i ∧ mw d 276 Q 18 [x0] (.ref (mh_n h) :: st) (mh_new h 101 i.toNatClampNeg)) := (mw_at mj_276_16).trans (z_newa (by decide) (by decide))
theorem mj_276_18 : mc_P 276 18 = some (.putfield 13, 3, 13, 4, 0) := by decide +kernel
theorem s_276_18 {x0 : Option Value} {o w : Nat} : mw d 276 Q 18 [x0] (.ref w :: .ref o :: st) h = (mg h o 13 ∧ mw d 276 Q 21 [x0] (st) (mh_sr h o 4 (some w))) := (mw_at mj_276_18).trans (z_putr (by decide) (by decide) rfl)
theorem s_276_18n {x0 : Option Value} {o : Nat} : mw d 276 Q 18 [x0] (.null :: .ref o :: st) h = (mg h o 13 ∧ mw d 276 Q 21 [x0] (st) (mh_sr h o 4 none)) := (mw_at mj_276_18).trans (z_putn (by decide) (by decide) rfl)
theorem mj_276_21 : mc_P 276 21 = some (.aload_n 0, 1, 0, 0, 0) := by decide +kernel
theorem s_276_21 {w : Value} : mw d 276 Q 21 [some w] (st) h = mv_a w (mw d 276 Q 22 [some w] (w :: st) h) := (mw_at mj_276_21).trans (z_aload_n rfl)
theorem mj_276_22 : mc_P 276 22 = some (.bipush 6, 2, 0, 0, 0) := by decide +kernel
theorem s_276_22 {x0 : Option Value} : mw d 276 Q 22 [x0] (st) h = mw d 276 Q 24 [x0] (.int 6 :: st) h := (mw_at mj_276_22).trans (z_bipush (by decide))
theorem mj_276_24 : mc_P 276 24 = some (.newarray .long, 2, 101, 0, 0) := by decide +kernel
theorem s_276_24 {x0 : Option Value} {i : Int32} : mw d 276 Q 24 [x0] (.int i :: st) h = (mN i ∧ mw d 276 Q 26 [x0] (.ref (mh_n h) :: st) (mh_new h 101 i.toNatClampNeg)) := (mw_at mj_276_24).trans (z_newa (by decide) (by decide))
theorem mj_276_26 : mc_P 276 26 = some (.putfield 16, 3, 13, 5, 0) := by decide +kernel
theorem s_276_26 {x0 : Option Value} {o w : Nat} : mw d 276 Q 26 [x0] (.ref w :: .ref o :: st) h = (mg h o 13 ∧ mw d 276 Q 29 [x0] (st) (mh_sr h o 5 (some w))) := (mw_at mj_276_26).trans (z_putr (by decide) (by decide) rfl)
theorem s_276_26n {x0 : Option Value} {o : Nat} : mw d 276 Q 26 [x0] (.null :: .ref o :: st) h = (mg h o 13 ∧ mw d 276 Q 29 [x0] (st) (mh_sr h o 5 none)) := (mw_at mj_276_26).trans (z_putn (by decide) (by decide) rfl)
theorem mj_276_29 : mc_P 276 29 = some (.aload_n 0, 1, 0, 0, 0) := by decide +kernel
theorem s_276_29 {w : Value} : mw d 276 Q 29 [some w] (st) h = mv_a w (mw d 276 Q 30 [some w] (w :: st) h) := (mw_at mj_276_29).trans (z_aload_n rfl)
theorem mj_276_30 : mc_P 276 30 = some (.bipush 6, 2, 0, 0, 0) := by decide +kernel
theorem s_276_30 {x0 : Option Value} : mw d 276 Q 30 [x0] (st) h = mw d 276 Q 32 [x0] (.int 6 :: st) h := (mw_at mj_276_30).trans (z_bipush (by decide))
theorem mj_276_32 : mc_P 276 32 = some (.newarray .int, 2, 100, 0, 0) := by decide +kernel
theorem s_276_32 {x0 : Option Value} {i : Int32} : mw d 276 Q 32 [x0] (.int i :: st) h = (mN i ∧ mw d 276 Q 34 [x0] (.ref (mh_n h) :: st) (mh_new h 100 i.toNatClampNeg)) := (mw_at mj_276_32).trans (z_newa (by decide) (by decide))
theorem mj_276_34 : mc_P 276 34 = some (.putfield 19, 3, 13, 6, 0) := by decide +kernel
theorem s_276_34 {x0 : Option Value} {o w : Nat} : mw d 276 Q 34 [x0] (.ref w :: .ref o :: st) h = (mg h o 13 ∧ mw d 276 Q 37 [x0] (st) (mh_sr h o 6 (some w))) := (mw_at mj_276_34).trans (z_putr (by decide) (by decide) rfl)
theorem s_276_34n {x0 : Option Value} {o : Nat} : mw d 276 Q 34 [x0] (.null :: .ref o :: st) h = (mg h o 13 ∧ mw d 276 Q 37 [x0] (st) (mh_sr h o 6 none)) := (mw_at mj_276_34).trans (z_putn (by decide) (by decide) rfl)
theorem mj_276_37 : mc_P 276 37 = some (.return_, 1, 0, 0, 0) := by decide +kernel
theorem s_276_37 {x0 : Option Value} : mw d 276 Q 37 [x0] ([]) h = Q none h := (mw_at mj_276_37).trans (z_vret)
theorem e_276 {a0 : Nat} : mcall d 276 [.ref a0] h Q = mw d 276 Q 0 [some (.ref a0)] [] h := by
  show mw d 276 Q 0 (me_en (mc_nl 276) _) [] h = _
  rw [nl_276]; rfl

end SR
