set_option maxRecDepth 100000
/-! the reference's end, whole -/
/-- what its end leaves of what it doesn't concern -/
def REd (h h' : mh_H) : Prop := (∀ b j, (2637 ≤ b ∧ b ≤ 2643) ∨ (b = 81 ∧ (j = 54 ∨ j = 57 ∨ j = 60)) → mh_i h' b j = mh_i h b j) ∧ (mh_i h' 81 2 = 0 ∧ mh_i h' 81 64 = 0 ∧ mh_i h' 81 65 = 0 ∧ mh_i h' 81 66 = 0) ∧ (qN h' ≤ qN h) ∧ (qS h' ≤ qS h)
theorem REd.of {h h' : mh_H} (q : (∀ b j, (2637 ≤ b ∧ b ≤ 2643) ∨ (b = 81 ∧ (j = 54 ∨ j = 57 ∨ j = 60)) → mh_i h' b j = mh_i h b j) ∧ (mh_i h' 81 2 = 0 ∧ mh_i h' 81 64 = 0 ∧ mh_i h' 81 65 = 0 ∧ mh_i h' 81 66 = 0) ∧ (qN h' ≤ qN h) ∧ (qS h' ≤ qS h)) : REd h h' := q
theorem REd.i {h h' : mh_H} (q : REd h h') : ∀ b j, (2637 ≤ b ∧ b ≤ 2643) ∨ (b = 81 ∧ (j = 54 ∨ j = 57 ∨ j = 60)) → mh_i h' b j = mh_i h b j := q.1
theorem REd.z {h h' : mh_H} (q : REd h h') : mh_i h' 81 2 = 0 ∧ mh_i h' 81 64 = 0 ∧ mh_i h' 81 65 = 0 ∧ mh_i h' 81 66 = 0 := q.2.1
theorem REd.N {h h' : mh_H} (q : REd h h') : qN h' ≤ qN h := q.2.2.1
theorem REd.S {h h' : mh_H} (q : REd h h') : qS h' ≤ qS h := q.2.2.2
section REs
variable {d : Nat} {h h1 h' : mh_H} {n N j : Nat} {Bt : Nat → Int32} {T : tr}
theorem fG_rm {W : Nat → Nat → Prop} (x : fG W h h1) : qN h1 = qN h ∧ qS h1 = qS h := by
  obtain ⟨u1, u2, u3, u4, u5, -⟩ := x
  unfold qN qS ln cnS
  rw [u3, u4, u5, u2]
  exact ⟨rfl, rfl⟩
/-- nothing of it is known any more -/
theorem RBz_n (B : RBz h) (x : fG (fun b j => eWr b j ∨ yWr b j) h h') (NO : NOP h') (z : mh_i h' 99 0 = 0) (ko' : ∀ q, 1 ≤ q → q < 250 → (∀ A, RK h (132 + 10 * q) A → RK h' (132 + 10 * q) A) ∧ ∀ A, RK h (137 + 10 * q) A → RK h' (137 + 10 * q) A) : RBz h' := by
  refine RBz.of ⟨RYh_G x B.Y, fun q hq => ?_, fun k hk => ?_, z⟩
  · by_cases c : q = 0
    · subst c
      exact ⟨⟨_, NO.2.1⟩, _, NO.2.2.1⟩
    · obtain ⟨⟨a, a1⟩, b, b1⟩ := B.K q hq
      obtain ⟨u1, u2⟩ := ko' q (by omega) hq
      exact ⟨⟨a, u1 a a1⟩, b, u2 b b1⟩
  · rw [(x.2.2.2.2.2 2643 k (by unfold eWr yWr noW lyWr; omega)).1]
    exact B.s k hk
theorem REd_n (x : fG (fun b j => eWr b j ∨ yWr b j) h h') (NO : NOP h') (z2 : mh_i h' 81 2 = 0) : REd h h' := by
  obtain ⟨r1, r2⟩ := fG_rm x
  obtain ⟨-, -, -, -, ⟨-, w2, w3, w4⟩, -⟩ := NO
  exact REd.of ⟨fun b j hb => (x.2.2.2.2.2 b j (by unfold eWr yWr noW lyWr; omega)).1, ⟨z2, w2, w3, w4⟩, Int.le_of_eq r1, Int.le_of_eq r2⟩
/-- a fault in the text -/
theorem end_rF (B : RBz h) {fed : Nat} (e2 : mh_i h 81 2 = Int32.ofNat fed) (hf : n ≤ fed) (hfd : fed ≤ 16400) (hn : n ≤ 10300) (eB : ∀ i, i < n → mh_i h 82 i = Bt i) (hv : ∀ i, i < n → ∃ m, m < 256 ∧ Bt i = Int32.ofNat m) (hN : 8 * (toks Bt n).length + 6 ≤ N) (e : pgZ (tkK (toks Bt n)) (tkPl (toks Bt n)) (fun i => nvl Bt (n - tkPl (toks Bt n) i) (tkPl (toks Bt n) i) 0) N (toks Bt n).length 0 = (j, none)) : ∃ h', RBz h' ∧ NOP h' ∧ REd h h' ∧ (mh_i h' 81 47 = 0 ∧ mh_i h' 81 48 = Int32.ofNat (tkPl (toks Bt n) j) ∧ mh_i h' 81 49 = 1) ∧ ∀ Q, mcall 2046 331 [.ref 81, .int (Int32.ofNat n)] h Q = Q (some (.int 1)) h' := by
  have R := w_331 (D := 2040) (N := N) B.Y.F e2 hf hfd (by omega) eB hv B.s B.z hN (by omega)
  rw [e] at R
  obtain ⟨h1, y2, f1, a9, a10, a99, run⟩ := R
  have k1 : ∀ q, q < 250 → (∀ A, RK h (132 + 10 * q) A → RK h1 (132 + 10 * q) A) ∧ ∀ A, RK h (137 + 10 * q) A → RK h1 (137 + 10 * q) A := fun q hq => ⟨fun A r => RK_fz (fG_z f1) (fun y hy j => by unfold eWr; omega) r, fun A r => RK_fz (fG_z f1) (fun y hy j => by unfold eWr; omega) r⟩
  obtain ⟨-, c0, C0⟩ := B.K 0 (by omega)
  obtain ⟨h2, g1, g2, ⟨g3, g4, g5, g6⟩, g7, g8⟩ := y_331a (d := 2041) (x1 := some (.int (Int32.ofNat n))) (x2 := y2) (RF_G f1 B.Y.F) ((k1 0 (by omega)).2 c0 C0) a9
  have fx : fG (fun b j => eWr b j ∨ yWr b j) h h2 := fG_t (fG_w f1 (fun _ _ z => Or.inl z)) (fG_w g1 (fun _ _ z => Or.inr z))
  have z9 : mh_i h2 99 0 = 0 := by rw [(g1.2.2.2.2.2 99 0 (by unfold yWr noW lyWr; omega)).1]; exact a99
  refine ⟨h2, RBz_n B fx g2 z9 (fun q q1 hq => ⟨fun A r => (g7 q q1 hq).1 A ((k1 q hq).1 A r), fun A r => (g7 q q1 hq).2 A ((k1 q hq).2 A r)⟩), g2, REd_n fx g2 g3, ⟨g4, by rw [g5]; exact a10, g6⟩, fun Q => (run Q).trans (g8 Q)⟩
end REs
section REt
variable {h : mh_H} {n N j f : Nat} {Bt : Nat → Int32} {T : tr} {Sc : cps}
/-- something is wrong with the program -/
theorem end_rW (B : RBz h) {fed : Nat} (e2 : mh_i h 81 2 = Int32.ofNat fed) (hf : n ≤ fed) (hfd : fed ≤ 16400) (hn : n ≤ 10300) (eB : ∀ i, i < n → mh_i h 82 i = Bt i) (hv : ∀ i, i < n → ∃ m, m < 256 ∧ Bt i = Int32.ofNat m) (hN : 8 * (toks Bt n).length + 6 ≤ N + 1) (e : pgZ (tkK (toks Bt n)) (tkPl (toks Bt n)) (fun i => nvl Bt (n - tkPl (toks Bt n) i) (tkPl (toks Bt n) i) 0) (N + 1) (toks Bt n).length 0 = (j, some T)) (Z : fnZ (spe Bt n (tkPl (toks Bt n)) (tkWd (toks Bt n))) Sc N T 0 0 (Sc.1 9) (Sc.1 8)) (hc : 0 < Sc.1 9) (h8 : Sc.1 8 < 20000) (hfu : ts ((lyDs (spe Bt n (tkPl (toks Bt n)) (tkWd (toks Bt n))) (Sc.2 15) (tkPl (toks Bt n)) T (Sc.1 9)).FT (Sc.1 9 - 1)) + rkF (lyDs (spe Bt n (tkPl (toks Bt n)) (tkWd (toks Bt n))) (Sc.2 15) (tkPl (toks Bt n)) T (Sc.1 9)) (Sc.1 9 - 1) ≤ f) (W : ¬ (lyT (lyDs (spe Bt n (tkPl (toks Bt n)) (tkWd (toks Bt n))) (Sc.2 15) (tkPl (toks Bt n)) T (Sc.1 9)) f (tkPl (toks Bt n) (Sc.2 15 (6 * (Sc.1 9 - 1))).toNatClampNeg)).1.1 = 0) : ∃ h', RBz h' ∧ NOP h' ∧ REd h h' ∧ (mh_i h' 81 47 = Int32.ofNat (lyT (lyDs (spe Bt n (tkPl (toks Bt n)) (tkWd (toks Bt n))) (Sc.2 15) (tkPl (toks Bt n)) T (Sc.1 9)) f (tkPl (toks Bt n) (Sc.2 15 (6 * (Sc.1 9 - 1))).toNatClampNeg)).1.1 ∧ mh_i h' 81 48 = Int32.ofNat (lyT (lyDs (spe Bt n (tkPl (toks Bt n)) (tkWd (toks Bt n))) (Sc.2 15) (tkPl (toks Bt n)) T (Sc.1 9)) f (tkPl (toks Bt n) (Sc.2 15 (6 * (Sc.1 9 - 1))).toNatClampNeg)).1.2 ∧ mh_i h' 81 49 = 2) ∧ ∀ Q, mcall 2046 331 [.ref 81, .int (Int32.ofNat n)] h Q = Q (some (.int 2)) h' := by
  have tl := toks_len (Bt := Bt) (n := n)
  obtain ⟨g1, g2, g3, g4⟩ := TX_of (f := (toks Bt n).length) hn e
  have R := w_331 (D := 2040) (N := N + 1) B.Y.F e2 hf hfd (by omega) eB hv B.s B.z hN (by omega)
  rw [e] at R
  obtain ⟨h1, NL, y2, f1, I, kn, nd1, pw1, b9, run⟩ := R
  obtain ⟨nl, RL⟩ := RLT_of hn I kn nd1 pw1 g1 g2 g3 g4 Z h8 hc
  have C1 := RL h1 (fun _ _ _ _ => rfl) rfl
  have k1 : ∀ q, q < 250 → (∀ A, RK h (132 + 10 * q) A → RK h1 (132 + 10 * q) A) ∧ ∀ A, RK h (137 + 10 * q) A → RK h1 (137 + 10 * q) A := fun q hq => ⟨fun A r => RK_fz (fG_z f1) (fun y hy j => by unfold eWr; omega) r, fun A r => RK_fz (fG_z f1) (fun y hy j => by unfold eWr; omega) r⟩
  obtain ⟨-, c0, C0⟩ := B.K 0 (by omega)
  have eP := nP_all (m := (toks Bt n).length) Z g1 (fun i k2 => tk_2 i k2) (by omega) (g := Sc.1 9 - 1) (by omega) C1.T.1
  obtain ⟨h2, q1, q2, ⟨q3, q4, q5, q6⟩, q7, q8⟩ := y_331b (d := 2041) (f := f) (x1 := some (.int (Int32.ofNat n))) (x2 := y2) (RF_G f1 B.Y.F) ((k1 0 (by omega)).2 c0 C0) b9 RL hc (ST_all Z g1 h8) (ls_all Z g1 hc) eP hfu (by omega) W
  have fx : fG (fun b j => eWr b j ∨ yWr b j) h h2 := fG_t (fG_w f1 (fun _ _ z => Or.inl z)) (fG_w q1 (fun _ _ z => Or.inr z))
  have z0 : mh_i h1 99 0 = 0 := by
    have := I.2.1.2.1 0 (Nat.zero_le _)
    rw [List.take_zero] at this
    exact this
  have z9 : mh_i h2 99 0 = 0 := by rw [(q1.2.2.2.2.2 99 0 (by unfold yWr noW lyWr; omega)).1]; exact z0
  exact ⟨h2, RBz_n B fx q2 z9 (fun q q1' hq => ⟨fun A r => (q7 q q1' hq).1 A ((k1 q hq).1 A r), fun A r => (q7 q q1' hq).2 A ((k1 q hq).2 A r)⟩), q2, REd_n fx q2 q3, ⟨q4, q5, q6⟩, fun Q => (run Q).trans (q8 Q)⟩
end REt
