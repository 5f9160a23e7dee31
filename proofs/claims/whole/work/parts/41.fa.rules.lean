/-! rules of methods, by program (wip/whole/srule.py) -/
section SR
variable {d : Nat} {Q : Option Value → mh_H → Prop} {st : List Value} {h : mh_H}
theorem mj_4_74 : mc_P 4 74 = some (.invokevirtual 127, 3, 166, 9, 1) := by decide +kernel
theorem s_4_74 {x0 x1 x2 x3 : Option Value} {o : Nat} : mw (d + 1) 4 Q 74 [x0, x1, x2, x3] (.ref o :: st) h = (mg h o 9 ∧ mca st 8 ∧ mca [.ref o] 1 ∧ mcall d 166 [.ref o] h (mK (d + 1) 4 Q 77 [x0, x1, x2, x3] st)) := (mw_at mj_4_74).trans ((z_invv (As := []) (by decide) rfl rfl).trans (congrArg (And _) (congrArg (And _) (mC_nl nl_166))))
theorem mj_4_107 : mc_P 4 107 = some (.invokevirtual 134, 3, 165, 9, 1) := by decide +kernel
theorem s_4_107 {x0 x1 x2 x3 : Option Value} {o : Nat} : mw (d + 1) 4 Q 107 [x0, x1, x2, x3] (.ref o :: st) h = (mg h o 9 ∧ mca st 8 ∧ mca [.ref o] 1 ∧ mcall d 165 [.ref o] h (mK (d + 1) 4 Q 110 [x0, x1, x2, x3] st)) := (mw_at mj_4_107).trans ((z_invv (As := []) (by decide) rfl rfl).trans (congrArg (And _) (congrArg (And _) (mC_nl nl_165))))
theorem mj_5_53 : mc_P 5 53 = some (.invokevirtual 127, 3, 166, 9, 1) := by decide +kernel
theorem s_5_53 {x0 x1 x2 x3 : Option Value} {o : Nat} : mw (d + 1) 5 Q 53 [x0, x1, x2, x3] (.ref o :: st) h = (mg h o 9 ∧ mca st 8 ∧ mca [.ref o] 1 ∧ mcall d 166 [.ref o] h (mK (d + 1) 5 Q 56 [x0, x1, x2, x3] st)) := (mw_at mj_5_53).trans ((z_invv (As := []) (by decide) rfl rfl).trans (congrArg (And _) (congrArg (And _) (mC_nl nl_166))))
end SR
