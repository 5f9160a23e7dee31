set_option maxRecDepth 100000
/-! Knowns that live, and steps with them -/
def lv (h : mh_H) (k o : Nat) : Prop := ∃ i, i < k ∧ mh_r h 119 i = some o
section LVs
variable {s0 s1 k d : Nat} {V U : Nat → Nat → Prop} {h h1 h2 : mh_H} {T : Nat} {sN : Int → Prop} {en : Int → Nat} {o q : Nat} {C D : Option ab}
theorem lv_sp (l : lv h k o) : sp h o := by
  obtain ⟨i, -, e⟩ := l
  exact ⟨i, e⟩
theorem lv_w (l : lv h k o) (hk : k ≤ s1) : lv h s1 o := by
  obtain ⟨i, a, e⟩ := l
  exact ⟨i, by omega, e⟩
theorem rq_lv (x : rq s0 V h h1) (l : lv h k o) : lv h1 k o := by
  obtain ⟨i, a, e⟩ := l
  exact ⟨i, a, x.k i o e⟩
theorem lv_ne (J : RJ h T sN en) (l : lv h s0 o) {i a : Nat} (hi : s0 ≤ i) (e : mh_r h 119 i = some a) : o ≠ a := fun z => by
  obtain ⟨j, j1, j2⟩ := l
  rw [← z] at e
  have := J.i i j o e j2
  omega
theorem rq_K (J : RJ h T sN en) (x : rq s0 V h h1) (l : lv h s0 o) (n : ∀ y, y ≤ 4 → ∀ j, ¬ V (o + y) j) (c : RK h o C) : RK h1 o C := by
  obtain ⟨PQ, PS, PU, PF, PL, PH, lP, P⟩ := J.p
  have lo := sp_lo J (lv_sp l)
  refine RK_fz x.f.1 (fun y hy j w => ?_) c
  rcases w with w | w | w | ⟨i, a, w1, w2, w3⟩ | w
  · omega
  · exact sp_pa P (lv_sp l) hy w
  · omega
  · exact kc_no J (lv_sp l) ⟨i, w2⟩ (lv_ne J l w1 w2) y hy w3
  · exact n y hy j w
theorem rqW_no (J : RJ h T sN en) (v : vK h V) {b j : Nat} (w : rqW s0 V h b j) : (b = 115 ∧ (j = 11 ∨ (23 ≤ j ∧ j ≤ 33))) ∨ (b = 119 ∧ s0 ≤ j) ∨ (124 ≤ b ∧ b ≤ 129) ∨ 2644 ≤ b := by
  obtain ⟨PQ, PS, PU, PF, PL, PH, lP, P⟩ := J.p
  rcases w with w | w | w | ⟨i, a, w1, w2, w3⟩ | w
  · exact Or.inl w
  · exact Or.inr (Or.inr (P.n b ((PR_pa P).mp w)))
  · exact Or.inr (Or.inl w)
  · have := (J.s i a w2).1
    unfold kc at w3
    exact Or.inr (Or.inr (Or.inr (by omega)))
  · obtain ⟨o, s, ho⟩ := v b j w
    have := sp_lo J s
    unfold kc at ho
    exact Or.inr (Or.inr (Or.inr (by omega)))
theorem rq_lo (J : RJ h T sN en) (v : vK h V) (x : rq s0 V h h1) {b c : Nat} (g : mg h b c) (hb : b < 124 ∨ (129 < b ∧ b < 2644)) {j : Nat} (hj : ¬ (b = 115 ∧ (j = 11 ∨ (23 ≤ j ∧ j ≤ 33)))) (h119 : b ≠ 119) : mh_i h1 b j = mh_i h b j ∧ mh_j h1 b j = mh_j h b j ∧ mh_r h1 b j = mh_r h b j := x.f.1.2.2 b j g.2 (fun w => by have := rqW_no J v w; omega)
theorem rq_tr (J : RJ h T sN en) (v : vK h V) (x : rq s0 V h h1) : mh_i h1 93 = mh_i h 93 ∧ mh_i h1 95 = mh_i h 95 ∧ mh_i h1 97 = mh_i h 97 := by
  exact ⟨funext fun j => (rq_lo J v x (J.a.F.g 93 102 26000 (by decide +kernel)) (by omega) (by omega) (by omega)).1, funext fun j => (rq_lo J v x (J.a.F.g 95 100 26000 (by decide +kernel)) (by omega) (by omega) (by omega)).1, funext fun j => (rq_lo J v x (J.a.F.g 97 100 26000 (by decide +kernel)) (by omega) (by omega) (by omega)).1⟩
theorem vF {X : mh_H} : vK X (fun _ _ => False) := fun _ _ w => absurd w (fun z => z)
/-- Analysis.take, as a step -/
theorem t_226 (J : RJ h T sN en) (hk : mh_i h 115 11 = Int32.ofNat k) (hk2 : k < 2048) : ∃ h' o, rq k (fun _ _ => False) h h' ∧ RJ h' T sN en ∧ mh_r h' 119 k = some o ∧ mh_i h' 115 11 = Int32.ofNat (k + 1) ∧ mh_i h' 115 24 = mh_i h 115 24 ∧ ko h' o ∧ ∀ Q, mcall (d + 1) 226 [.ref 115] h Q = Q (some (.ref o)) h' := by
  obtain ⟨h', o, e1, e2, f, e3, e4, J', e5⟩ := u_226 (d := d) J hk hk2
  have g := J.a.g
  refine ⟨h', o, ⟨fR_w f (fun b j _ w => ?_), fun x hx => ?_, fun i a e => ?_, fun i a e => ?_⟩, J', e1, e4, fz_i f.1 g (fun w => by omega), (J'.s k o e1).2, e5⟩
  · rcases w with w | w
    · exact Or.inl ⟨w.1, Or.inl w.2⟩
    · exact Or.inr (Or.inr (Or.inl ⟨w.1, by omega⟩))
  · obtain ⟨j, j1, j2, j3⟩ := hx
    rw [fz_r f.1 g (fun w => by omega)] at j3
    exact Or.inl ⟨j, j1, j2, j3⟩
  · by_cases c : i = k
    · rw [c] at e ⊢
      rcases e2 with e2 | e2
      · rw [e] at e2; cases e2; exact e1
      · rw [e] at e2; exact absurd e2.1 (by intro z; cases z)
    · rw [e3 i c]; exact e
  · by_cases c : i = k
    · rw [c] at e ⊢
      rw [e1] at e
      cases e
      rcases e2 with e2 | e2
      · exact Or.inl e2
      · exact Or.inr ⟨by omega, Nat.le_refl _⟩
    · rw [e3 i c] at e; exact Or.inl e
theorem rs_ij (J : RJ h T sN en) {to : Nat} (s : sp h to) (x : fq (kW to) h h1) (j : Nat) : mh_i h1 115 j = mh_i h 115 j := (x.2.2.2.2.2 115 (fun w => by
  have := sp_lo J s
  unfold kW at w
  omega)).1 j
theorem RJ_k (J : RJ h T sN en) (s : sp h o) (x : fq (kW o) h h1) (k : ko h1 o) : RJ h1 T sN en := by
  obtain ⟨PQ, PS, PU, PF, PL, PH, lP, P⟩ := J.p
  exact RJ_1 J s (rs_k x) ⟨_, _, _, _, _, _, _, PR_k J s (rs_k x) (fun j _ _ => by rw [x.2.2.1]) P⟩ k
/-- Known.become -/
theorem t_281 (J : RJ h T sN en) (s : sp h o) (ne : o ≠ q) (c : RK h q C) : ∃ h', rs (fun b _ => kc o b) h h' ∧ RJ h' T sN en ∧ RK h' o C ∧ (∀ j, mh_i h' 115 j = mh_i h 115 j) ∧ ∀ Q, mcall d 281 [.ref o, .ref q] h Q = Q none h' := by
  obtain ⟨i, hi⟩ := s
  obtain ⟨h', f, r, e⟩ := k_281 (d := d) (J.s i o hi).2 c ne
  exact ⟨h', rs_k f, RJ_k J ⟨i, hi⟩ f (RK_ko r), r, rs_ij J ⟨i, hi⟩ f, e⟩
/-- Known.join -/
theorem t_293 (J : RJ h T sN en) (s : sp h o) (ne : o ≠ q) (c : RK h o C) (c2 : RK h q D) (hn : ∀ A' B', C = some A' → D = some B' → A'.n = B'.n ∧ A'.a = B'.a) : ∃ h', rs (fun b _ => kc o b) h h' ∧ RJ h' T sN en ∧ RK h' o (o_join C D) ∧ (∀ j, mh_i h' 115 j = mh_i h 115 j) ∧ ∀ Q, mcall (d + 1) 293 [.ref o, .ref q] h Q = Q none h' := by
  obtain ⟨h', f, r, e⟩ := k_293o (d := d) c c2 ne hn
  exact ⟨h', rs_k f, RJ_k J s f (RK_ko r), r, rs_ij J s f, e⟩
/-- Analysis.taken -/
theorem t_227 (J : RJ h T sN en) (hk : mh_i h 115 11 = Int32.ofNat k) (hk2 : k < 2048) (l : lv h k q) (c : RK h q C) : ∃ h' o, rq k (fun _ _ => False) h h' ∧ RJ h' T sN en ∧ mh_r h' 119 k = some o ∧ mh_i h' 115 11 = Int32.ofNat (k + 1) ∧ mh_i h' 115 24 = mh_i h 115 24 ∧ RK h' o C ∧ ∀ Q, mcall (d + 2) 227 [.ref 115, .ref q] h Q = Q (some (.ref o)) h' := by
  obtain ⟨h1, o, x, J1, e1, e2, e3, e4, e5⟩ := t_226 (d := d) J hk hk2
  have l1 := rq_lv x l
  have c1 := rq_K J x l (fun _ _ _ w => w) c
  have ne : o ≠ q := fun z => lv_ne J1 l1 (Nat.le_refl _) e1 z.symm
  obtain ⟨h2, y, J2, r2, i2, e6⟩ := t_281 (d := d + 1) J1 ⟨k, e1⟩ ne c1
  have y' : rq k (fun _ _ => False) h1 h2 := rq_w (rq_rs (s0 := k) J1 (vK_1 ⟨k, e1⟩) y) (Nat.le_refl _) (fun b j _ w => Or.inr (Or.inr (Or.inr (Or.inr (Or.inl ⟨k, o, Nat.le_refl _, e1, w⟩)))))
  have g := J.a.g
  have go : mg h1 o 13 := e4.1
  refine ⟨h2, o, rq_t x y', J2, y'.k k o e1, (i2 11).trans e2, (i2 24).trans e3, r2, fun Q => ?_⟩
  simp (disch := omega) only [s_227_0, s_227_1, s_227_4, s_227_4n, s_227_5, s_227_6, s_227_7, s_227_10, s_227_11, s_227_11n, e_227, mv_i_1, mv_l_1, mv_a_1, mv_a_2, mv_a_3, mk2_n, mk2_i, mk2_l, mk2_a, mk2_u, mk2_x, mB_T, mB_F, mS_cons, mS_nil, mSB_T, mSB_F, mca_nil, mca_i, mca_l, mca_r, mca_u, mca_x, mcat_i, mcat_l, mcat_r, mcat_u, mcat_x, mK_some, mK_none, va_rf_s, va_rf_n, lgc_eq, lgc_lt, lgc_gt, lgc_ge, lgc_le, mrd_104, mrd_105, mrd_106, mrd_107, true_and, and_true, and_self, false_and, and_false, true_or, or_true, false_or, or_false, not_true_eq_false, not_false_eq_true, mgb, mga, mgr, mN, reduceCtorEq, ↓reduceIte, eq_self, ge_iff_le, gt_iff_lt, Nat.reduceAdd, Nat.reduceMul, Nat.reduceSub, Nat.reduceLT, Nat.reduceGT, Nat.reduceEqDiff, Nat.reduceLeDiff, Nat.left_eq_add, Nat.add_eq_left, Nat.reduceMod, Nat.reduceDiv, Nat.succ_ne_self, g, go, e5, e6]
end LVs
