set_option maxRecDepth 100000
/-! block -/
section BLs
variable {d : Nat} {hs h h1 h2 : mh_H} {s0 s1 sA o b p e k z T f g : Nat} {E E1 : nv} {D : fd} {w0 w1 : wd} {s O X : Option ab} {G : pgm} {J : pin} {A : ab} {nx' : Int32} {t cs r : tr} {m n : Nat}
theorem nx_p : (nx n cs E).ta = E.ta ∧ E.T ≤ (nx n cs E).T ∧ E.nu ≤ (nx n cs E).nu ∧ E.ar ≤ (nx n cs E).ar ∧ ∀ x, x < E.ar → (nx n cs E).rm x = E.rm x := by
  have id' : E.ta = E.ta ∧ E.T ≤ E.T ∧ E.nu ≤ E.nu ∧ E.ar ≤ E.ar ∧ ∀ x, x < E.ar → E.rm x = E.rm x := ⟨rfl, Nat.le_refl _, Nat.le_refl _, Nat.le_refl _, fun _ _ => rfl⟩
  unfold nx
  split
  · cases cs with
    | leaf u => exact id'
    | branch a b c => exact ⟨rfl, Nat.le_succ _, Nat.le_succ _, Nat.le_refl _, fun _ _ => rfl⟩
  · split
    · cases cs with
      | leaf u => exact id'
      | branch a b c =>
        cases c with
        | leaf u => exact id'
        | branch a2 b2 c2 => exact ⟨rfl, Nat.le_succ _, Nat.le_refl _, Nat.le_succ _, fun x hx => if_neg (by omega)⟩
    · exact id'
theorem nx_m {rec : tr → Nat → Nat → nv → Prop} (L : LN G J D rec n cs p E) (m12 : E.nu ≤ 12 ∧ E.ar ≤ 6) : (nx n cs E).nu ≤ 12 ∧ (nx n cs E).ar ≤ 6 := by
  have nx0 : ¬ tK n = 3 → ¬ tK n = 4 → (nx n cs E).nu ≤ 12 ∧ (nx n cs E).ar ≤ 6 := fun z1 z2 => by unfold nx; rw [if_neg z1, if_neg z2]; exact m12
  rcases L with ⟨z, m, u, t, rfl, -, -, q, -⟩ | ⟨z, m, u, q0, u', r', rfl, -, -, q, -⟩ | ⟨z, -⟩ | ⟨z, -⟩ | ⟨z, -⟩ | ⟨z, -⟩ | ⟨z, -⟩ | ⟨z, -⟩ | ⟨z, -⟩
  · unfold nx; rw [if_pos z]; exact ⟨q, m12.2⟩
  · unfold nx; rw [if_neg (by omega), if_pos z]; exact ⟨m12.1, q⟩
  · exact nx0 (by omega) (by omega)
  · exact nx0 (by omega) (by omega)
  · exact nx0 (by omega) (by omega)
  · exact nx0 (by omega) (by omega)
  · exact nx0 (by omega) (by omega)
  · exact nx0 (by omega) (by omega)
  · exact nx0 (by omega) (by omega)
/-- pointsIn of a statement that lies -/
theorem LN_Q (LN' : LN G J D (LW G J D f) n cs p E) (hfu : E.fu ≤ D.c) (hE : p < G.E p) (hE2 : G.E p ≤ 249) (R : RA h s1 E D w0) (N : nd (mh_i h 93) (mh_i h 95) (mh_i h 97) k (.branch n cs r)) (hb : k + 1 + ts cs ≤ 26000) (hd : 2 * (G.E p - p) + 2 ≤ d) : ∀ Q, mcall d 254 [.ref 115, .int (Int32.ofNat k)] h Q = Q (some (.int (Int32.ofNat (G.E p - p)))) h := by
  refine u_254 (d := d) (G := G) (J := J) (D := D) (rec := fun t p e E => LW G J D f t p e E ∧ e ≤ 249) (fun t p e E w => LW_Q f t p e E w.1 w.2) (n := n) (cs := cs) (r := r) (p := p) (k := k) (E := E) ?_ hfu hE R.j R.F R.X R.f N hb hd
  unfold LN at LN' ⊢
  rcases LN' with w | w | w | w | ⟨hk, m, u, m2, u2, t, g, tk, w⟩ | ⟨hk, m, c, b, bs, q, w1, w2, w3, w4, w5, w6, w7, w8, w9, w10⟩ | ⟨hk, m, c, b, bs, u, w⟩ | w | w
  · exact Or.inl w
  · exact Or.inr (Or.inl w)
  · exact Or.inr (Or.inr (Or.inl w))
  · exact Or.inr (Or.inr (Or.inr (Or.inl w)))
  · obtain ⟨w1, w2, w3, w4, w5, w6, w7, w8, w9, w10, w11, w12, w13⟩ := w
    exact Or.inr (Or.inr (Or.inr (Or.inr (Or.inl ⟨hk, m, u, m2, u2, t, g, tk, w1, w2, w3, w4, w5, w6, w7, w8, w9, w10, w11, w12, w13, hE2⟩))))
  · refine Or.inr (Or.inr (Or.inr (Or.inr (Or.inr (Or.inl ⟨hk, m, c, b, bs, q, w1, w2, w3, w4, w5, w6, w7, w8, ⟨w9, by omega⟩, ?_⟩)))))
    rcases w10 with w | ⟨b2, bs2, u, a1, a2⟩
    · exact Or.inl w
    · exact Or.inr ⟨b2, bs2, u, a1, a2, hE2⟩
  · obtain ⟨w1, w2, w3, w4, w5, w6, w7⟩ := w
    exact Or.inr (Or.inr (Or.inr (Or.inr (Or.inr (Or.inr (Or.inl ⟨hk, m, c, b, bs, u, w1, w2, w3, w4, w5, w6, w7, hE2⟩))))))
  · exact Or.inr (Or.inr (Or.inr (Or.inr (Or.inr (Or.inr (Or.inr (Or.inl w)))))))
  · exact Or.inr (Or.inr (Or.inr (Or.inr (Or.inr (Or.inr (Or.inr (Or.inr w)))))))
/-- a statement -/
theorem stm (B : BQ G J D f) (hG : G.fx = fxJ J) (L : LN G J D (LW G J D f) n cs p E) (hen : J.en p = E.en) (e1 : G.n p = E.nu) (e2 : G.a p = E.ar) (hpE : p < G.E p) (hE : G.E p ≤ 249) (hfu : E.fu ≤ D.c) (hw : wW w0 ≤ 4000) (S : SA h s0 o E D w0 s) (N : nd (mh_i h 93) (mh_i h 95) (mh_i h 97) k (.branch n cs r)) (hb : k + 1 + ts cs ≤ 26000) (hs : s0 + (DS G (DB G f) p s w0).2.2 + 1 ≤ 2048) (hd : 4 * (G.E p - p) + 829 ≤ d) : ∃ h', BFi G h h' s0 o E.T p (G.E p) (nx n cs E) D (DS G (DB G f) p s w0).2.1 (DS G (DB G f) p s w0).1 ∧ ∀ Q, mcall d 261 [.ref 115, .int (Int32.ofNat k), .int (Int32.ofNat p), .int nx', .ref o] h Q = Q none h' := by
  by_cases h789 : ¬ tK n = 7 ∧ ¬ tK n = 8 ∧ ¬ tK n = 9
  · exact stm_s L h789 hG hen (by omega) e1 e2 hw S N hb (by omega) (by omega)
  · have nx0 : nx n cs E = E := by
      have z1 : ¬ tK n = 3 := fun z => h789 (by omega)
      have z2 : ¬ tK n = 4 := fun z => h789 (by omega)
      unfold nx; rw [if_neg z1, if_neg z2]
    rw [nx0]
    rcases L with ⟨z, -⟩ | ⟨z, -⟩ | ⟨z, -⟩ | ⟨z, -⟩ | ⟨hk, m, u, m2, u2, t, g, tk, rfl, w1, w2, w3, w4, w5, w6, w7, w8, w9, w10, w11, w12⟩ | ⟨hk, m, c, b, bs, q, rfl, w1, w2, w3, w4, w5, w6, w7, w8, w9⟩ | ⟨hk, m, c, b, bs, u, rfl, w1, w2, w3, w4, w5, w6⟩ | ⟨z, -⟩ | ⟨z, -⟩
    · exact absurd ⟨by omega, by omega, by omega⟩ h789
    · exact absurd ⟨by omega, by omega, by omega⟩ h789
    · exact absurd ⟨by omega, by omega, by omega⟩ h789
    · exact absurd ⟨by omega, by omega, by omega⟩ h789
    · exact stm_c B hk hG hen e1 e2 w1 w2 w3 w4 hpE hE hfu w5 w6 w7 w8 w9 w10 w11 w12 hw S N hb hs hd
    · exact stm_i B hk hG hen e1 e2 w1 w2 w3 w4 w5 w6 w7 hE hfu w8 w9 hw S N hb hs hd
    · exact stm_w B hk hG hen e1 e2 w1 w2 w3 w4 w5 hpE hE w6 hw S N hb hs hd
    · exact absurd ⟨by omega, by omega, by omega⟩ h789
    · exact absurd ⟨by omega, by omega, by omega⟩ h789
/-- the row of statements, from one of them on -/
def BL (G : pgm) (J : pin) (D : fd) (f : Nat) : Prop := ∀ (t : tr) (p e : Nat) (E : nv), LW G J D f t p e E → ∀ (d b k z s0 o eN : Nat) (nx' : Int32) (h : mh_H) (s : Option ab) (w0 : wd) (x2 x5 x6 : Option Value) (n7 : Int32) (x11 : Option Value), SA h s0 o E D w0 s → nd (mh_i h 93) (mh_i h 95) (mh_i h 97) k t → k + ts t = b + z → b + z ≤ 26000 → b < 26000 → mh_i h 97 b = Int32.ofNat z → s0 + (DB G f p e s w0).2.2 + 1 ≤ 2048 → e ≤ 249 → eN ≤ 249 → 4 * (e - p) + 829 ≤ d → ∃ h' E' y8 y10 y11, rq s0 (sV o E.T) h h' ∧ RA h' s0 E' D (DB G f p e s w0).2.1 ∧ E'.fu = E.fu ∧ E'.ta = E.ta ∧ E.nu ≤ E'.nu ∧ E.ar ≤ E'.ar ∧ (∀ x, x < E.ar → E'.rm x = E.rm x) ∧ RK h' o (DB G f p e s w0).1 ∧ shp E'.nu E'.ar E'.rm (DB G f p e s w0).1 ∧ (∀ q, cnQ G h q → cnQ G h' q) ∧ (wW (DB G f p e s w0).2.1 ≤ 4000 → ∀ q, p ≤ q → q < e → cnQ G h' q ∧ cnQ G h' (q + 1000)) ∧ ∀ Q, mw (d + 1) 257 Q 35 [some (.ref 115), some (.int (Int32.ofNat b)), x2, some (.int nx'), some (.ref o), x5, x6, some (.int n7), some (.int (Int32.ofNat p)), some (.int (Int32.ofNat eN)), some (.int (Int32.ofNat k)), x11] [] h = mw (d + 1) 257 Q 101 [some (.ref 115), some (.int (Int32.ofNat b)), x2, some (.int nx'), some (.ref o), x5, x6, some (.int n7), y8, some (.int (Int32.ofNat eN)), y10, y11] [] h'
theorem blk_e (S : SA h s0 o E D w0 s) (L0 : p = e) (hk : k = b + z) (hb : b + z ≤ 26000) (hb2 : b < 26000) (hz : mh_i h 97 b = Int32.ofNat z) {x2 x5 x6 x7 x8 x9 x11 : Option Value} : ∀ Q, mw (d + 1) 257 Q 35 [some (.ref 115), some (.int (Int32.ofNat b)), x2, some (.int nx'), some (.ref o), x5, x6, x7, x8, x9, some (.int (Int32.ofNat k)), x11] [] h = mw (d + 1) 257 Q 101 [some (.ref 115), some (.int (Int32.ofNat b)), x2, some (.int nx'), some (.ref o), x5, x6, x7, x8, x9, some (.int (Int32.ofNat k)), x11] [] h := fun Q => by
  have J0 := S.A.j
  have g := J0.a.g
  have c0 := u_228 (d := d) J0.a hb2 hz
  subst hk
  have le : (b + z ≤ b + z) = True := eq_true (Nat.le_refl _)
  have lt : (b + z < b + z) = False := eq_false (by omega)
  clear S J0
  rw [s_257_35]
  simp (disch := omega) only [s_257_0, s_257_1, s_257_4, s_257_6, s_257_7, s_257_10, s_257_12, s_257_13, s_257_16, s_257_18, s_257_19, s_257_21, s_257_22, s_257_23, s_257_24, s_257_27, s_257_28, s_257_30, s_257_31, s_257_32, s_257_33, s_257_37, s_257_38, s_257_39, s_257_42, s_257_45, s_257_46, s_257_49, s_257_52, s_257_54, s_257_55, s_257_57, s_257_60, s_257_61, s_257_63, s_257_64, s_257_66, s_257_68, s_257_70, s_257_72, s_257_75, s_257_77, s_257_80, s_257_81, s_257_83, s_257_86, s_257_88, s_257_90, s_257_91, s_257_93, s_257_96, s_257_98, s_257_102, s_257_104, s_257_107, s_257_108, s_257_110, s_257_113, s_257_114, s_257_116, s_257_119, s_257_121, s_257_123, s_257_125, s_257_128, e_257, mv_i_1, mv_l_1, mv_a_1, mv_a_2, mv_a_3, mk2_n, mk2_i, mk2_l, mk2_a, mk2_u, mk2_x, mB_T, mB_F, mS_cons, mS_nil, mSB_T, mSB_F, mca_nil, mca_i, mca_l, mca_r, mca_u, mca_x, mcat_i, mcat_l, mcat_r, mcat_u, mcat_x, mK_some, mK_none, va_rf_s, va_rf_n, lgc_eq, lgc_lt, lgc_gt, lgc_ge, lgc_le, mrd_104, mrd_105, mrd_106, mrd_107, true_and, and_true, and_self, false_and, and_false, true_or, or_true, false_or, or_false, not_true_eq_false, not_false_eq_true, mgb, mga, mgr, mN, reduceCtorEq, ↓reduceIte, eq_self, ge_iff_le, gt_iff_lt, Nat.reduceAdd, Nat.reduceMul, Nat.reduceSub, Nat.reduceLT, Nat.reduceGT, Nat.reduceEqDiff, Nat.reduceLeDiff, Nat.left_eq_add, Nat.add_eq_left, Nat.reduceMod, Nat.reduceDiv, Nat.succ_ne_self, g, c0, nn_le, nn_lt, le, lt]
theorem BL_0 (S : SA h s0 o E D w0 s) (nm : ∀ Q x2 x5 x6 x7 x8 x9 x11, mw (d + 1) 257 Q 35 [some (.ref 115), some (.int (Int32.ofNat b)), x2, some (.int nx'), some (.ref o), x5, x6, x7, x8, x9, some (.int (Int32.ofNat k)), x11] [] h = mw (d + 1) 257 Q 101 [some (.ref 115), some (.int (Int32.ofNat b)), x2, some (.int nx'), some (.ref o), x5, x6, x7, x8, x9, some (.int (Int32.ofNat k)), x11] [] h) (hc : wW w0 ≤ 4000 → ∀ q, p ≤ q → q < e → cnQ G h q ∧ cnQ G h (q + 1000)) {x2 x5 x6 x7 x8 x9 x11 : Option Value} : ∃ h' E' y8 y10 y11, rq s0 (sV o E.T) h h' ∧ RA h' s0 E' D w0 ∧ E'.fu = E.fu ∧ E'.ta = E.ta ∧ E.nu ≤ E'.nu ∧ E.ar ≤ E'.ar ∧ (∀ x, x < E.ar → E'.rm x = E.rm x) ∧ RK h' o s ∧ shp E'.nu E'.ar E'.rm s ∧ (∀ q, cnQ G h q → cnQ G h' q) ∧ (wW w0 ≤ 4000 → ∀ q, p ≤ q → q < e → cnQ G h' q ∧ cnQ G h' (q + 1000)) ∧ ∀ Q, mw (d + 1) 257 Q 35 [some (.ref 115), some (.int (Int32.ofNat b)), x2, some (.int nx'), some (.ref o), x5, x6, x7, x8, x9, some (.int (Int32.ofNat k)), x11] [] h = mw (d + 1) 257 Q 101 [some (.ref 115), some (.int (Int32.ofNat b)), x2, some (.int nx'), some (.ref o), x5, x6, x7, y8, x9, y10, y11] [] h' := ⟨h, E, _, _, _, rq_id, S.A, rfl, rfl, Nat.le_refl _, Nat.le_refl _, fun _ _ => rfl, S.k, S.sh, fun _ w => w, hc, fun Q => nm Q _ _ _ _ _ _ _⟩
end BLs
