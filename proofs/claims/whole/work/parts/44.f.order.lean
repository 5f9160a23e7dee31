set_option maxRecDepth 100000
/-! a row that lies is in order: WB, FLT -/
section LWs
variable {d : Nat} {p e k f n c0 : Nat} {E : nv} {D : fd} {G : pgm} {J : pin} {A : ab} {t cs r : tr} {s : Option ab}
theorem WB_e {a : Nat} {r : Nat → Nat} (h : p = e) : WB G f p e n a r := by
  cases f with
  | zero => exact h
  | succ f => exact Or.inl h
theorem eRo_w (e1 : A.n = E.nu) (e2 : A.a = E.ar) (e3 : ∀ x, x < E.ar → A.rm x = E.rm x) : ∀ t, eRo E t → wR E.sN E.en A t := by
  intro t
  induction t with
  | leaf u => exact fun _ => trivial
  | branch m cs r _ ih => exact fun w => ⟨w.1.1 A e1 e2 e3, ih w.2⟩
/-- shapes behind a simple statement -/
theorem sim_shp {rec : tr → Nat → Nat → nv → Prop} (L : LN G J D rec n cs p E) (hk : ¬ tK n = 7 ∧ ¬ tK n = 8 ∧ ¬ tK n = 9) (hG : G.fx = fxJ J) (hen : J.en p = E.en) (sh : shp E.nu E.ar E.rm (some A)) : shp (nx n cs E).nu (nx n cs E).ar (nx n cs E).rm (G.fx p A).1 := by
  obtain ⟨T', e1, e2, e3⟩ := sh A rfl
  have nx0 : ¬ tK n = 3 → ¬ tK n = 4 → nx n cs E = E := fun z1 z2 => by unfold nx; rw [if_neg z1, if_neg z2]
  have fin : ∀ (s' : Option ab) E', nx n cs E = E' → (fo G p (some A)).1 = s' → shp E'.nu E'.ar E'.rm s' → shp (nx n cs E).nu (nx n cs E).ar (nx n cs E).rm (G.fx p A).1 := fun s' E' h1 h2 h3 => by
    rw [h1]
    have h2' : (G.fx p A).1 = s' := h2
    rw [h2']
    exact h3
  rcases L with ⟨hk3, m, u, t, rfl, -, -, hn, hT, -, hv⟩ | ⟨hk4, m, u, q, u', r', rfl, -, -, hn, hT, -, jc, q1, q2, jz⟩ | ⟨hk5, m, u, t, rfl, -, -, -, jc, hsn, hx, jx, jt, hS⟩ | ⟨hk6, m, u, t, rfl, -, -, -, jc, hsn, hx, hr1, hr2, jx, jt, hS, hS2⟩ | ⟨z, -⟩ | ⟨z, -⟩ | ⟨z, -⟩ | ⟨hk10, -, -, jc, jt, hC, hsp⟩ | ⟨hk11, -, -, jc, jt, hS, jtk, hta, hsp⟩
  · have enx : nx n (.branch m (.leaf u) t) E = E.addN (tV m) := by unfold nx; rw [if_pos hk3]
    rcases hv with ⟨⟨u', rfl⟩, jc⟩ | ⟨jc, jt, hS⟩
    · have fe := fx_J (A := A) hG hen jc
      refine fin _ _ enx (by rw [fe]; rfl) (shp_r sh (s' := a_zero A) (fun B e => ?_))
      obtain ⟨q1, q2, q3, q4, -⟩ := zero_ok T' (by omega) e
      exact ⟨q1, q2.trans (by rw [e1]; rfl), q3, q4⟩
    · have fe := fx_J (A := A) hG hen jc
      rw [jt] at fe
      refine fin _ _ enx (by rw [fe]; rfl) (shp_r sh (s' := a_set E.en A A A.n true t) (fun B e => ?_))
      obtain ⟨q1, q2, q3, q4, -⟩ := set_ok (new := true) T' T' (hS.1 A e1 e2 e3) (fun _ => ⟨rfl, by omega⟩) (fun z => by cases z) e
      exact ⟨q1, q2.trans (by rw [if_pos rfl, e1]; rfl), q3, q4⟩
  · have enx : nx n (.branch m (.leaf u) (.branch q (.leaf u') r')) E = E.addA (tV m) (tV q).toNat := by unfold nx; rw [if_neg (by omega), if_pos hk4]
    have fe := fx_J (A := A) hG hen jc
    rw [jz] at fe
    refine fin (some (a_arr (tV q).toNat A)) _ enx (by rw [fe]; rfl) (fun B e => ?_)
    have e' : a_arr (tV q).toNat A = B := by injection e
    subst e'
    refine ⟨T_arr T' (by omega), e1, by show A.a + 1 = E.ar + 1; omega, fun x hx => ?_⟩
    show (if x = A.a then (tV q).toNat else A.rm x) = if x = E.ar then (tV q).toNat else E.rm x
    have hx' : x < E.ar + 1 := hx
    rw [e2]
    by_cases c : x = E.ar
    · rw [if_pos c, if_pos c]
    · rw [if_neg c, if_neg c]; exact e3 x (by omega)
  · have fe := fx_J (A := A) hG hen jc
    rw [jt, jx] at fe
    refine fin _ _ (nx0 (by omega) (by omega)) (by rw [fe]; rfl) (shp_r sh (s' := a_set E.en A A (E.en (tV m)) false t) (fun B e => ?_))
    obtain ⟨q1, q2, q3, q4, -⟩ := set_ok (new := false) T' T' (hS.1 A e1 e2 e3) (fun z => by cases z) (fun _ => by omega) e
    exact ⟨q1, q2.trans (by rw [if_neg (by decide), e1]), q3, q4⟩
  · have fe := fx_J (A := A) hG hen jc
    rw [jt, jx] at fe
    refine fin _ _ (nx0 (by omega) (by omega)) (by rw [fe]; rfl) (shp_r sh (s' := (a_put E.en A (E.en (tV m)) t (tT t)).1) (fun B e => ?_))
    obtain ⟨q1, q2, q3, q4⟩ := T_put T' (by omega) (hS2.1 A e1 e2 e3) e
    exact ⟨q1, q2.trans e1, q3, q4⟩
  · exact absurd z hk.1
  · exact absurd z hk.2.1
  · exact absurd z hk.2.2
  · have fe := fx_J (A := A) hG hen jc
    rw [jt] at fe
    have okA : okS A (some A) := fun B e => by cases e; exact ⟨T', rfl, rfl, rfl⟩
    refine fin _ _ (nx0 (by omega) (by omega)) (by rw [fe]; rfl) (shp_r sh (s' := (spl E.en cs false false (some A) none).1) (fun B e => ?_))
    obtain ⟨q1, q2, q3, q4⟩ := ((spl_ok cs).1 false (some A) none (hC.1 A e1 e2 e3) okA).1 B e
    exact ⟨q1, q2.trans e1, q3, q4⟩
  · have fe := fx_J (A := A) hG hen jc
    rw [jt, jtk] at fe
    refine fin _ _ (nx0 (by omega) (by omega)) (by rw [fe]; rfl) (shp_r sh (s' := a_ret E.en A E.ta cs) (fun B e => ?_))
    obtain ⟨q1, q2, q3, q4⟩ := ret_ok T' (hS.1 A e1 e2 e3) (fun y hy => by rw [e1]; exact hta y hy) B e
    exact ⟨q1, q2.trans e1, q3, q4⟩
theorem LW_WB (hG : G.fx = fxJ J) : ∀ f t p e E, LW G J D f t p e E → WB G f p e E.nu E.ar E.rm := by
  intro f
  induction f with
  | zero =>
    intro t p e E L
    cases t with
    | leaf u => exact WB_e L
    | branch n cs r => exact absurd L (fun z => z)
  | succ f ih =>
    intro t p e E L
    cases t with
    | leaf u => exact WB_e L
    | branch n cs r =>
      obtain ⟨hpe, -, e1, e2, hen, ⟨-, e3⟩, hE1, hE2, hfu, LN', LR⟩ := L
      have wr := ih r (G.E p) e _ LR
      have LN2 := LN'
      refine Or.inr ⟨hpe, e1, e2, e3, hE1, hE2, ?_⟩
      by_cases h789 : ¬ tK n = 7 ∧ ¬ tK n = 8 ∧ ¬ tK n = 9
      · have kd9 : G.kd p ≠ 4 ∧ G.kd p ≠ 5 ∧ G.kd p ≠ 6 ∧ G.E p = p + 1 := by
          rcases LN' with ⟨z, m, u, t, -, q, q2, -⟩ | ⟨z, m, u, q0, u', r', -, q, q2, -⟩ | ⟨z, m, u, t, -, q, q2, -⟩ | ⟨z, m, u, t, -, q, q2, -⟩ | ⟨z, -⟩ | ⟨z, -⟩ | ⟨z, -⟩ | ⟨z, q, q2, -⟩ | ⟨z, q, q2, -⟩
          · omega
          · omega
          · omega
          · omega
          · exact absurd z h789.1
          · exact absurd z h789.2.1
          · exact absurd z h789.2.2
          · omega
          · omega
        obtain ⟨k4, k5, k6, hE⟩ := kd9
        rw [if_neg k4, if_neg k5, if_neg k6]
        obtain ⟨p1, p2, p3, p4, p5⟩ := nx_p (n := n) (cs := cs) (E := E)
        exact ⟨hE, (nx n cs E).nu, (nx n cs E).ar, (nx n cs E).rm, p3, p4, p5, fun A sh => sim_shp LN2 h789 hG hen sh, wr⟩
      · have nx0 : nx n cs E = E := by
          have z1 : ¬ tK n = 3 := fun z => h789 (by omega)
          have z2 : ¬ tK n = 4 := fun z => h789 (by omega)
          unfold nx; rw [if_neg z1, if_neg z2]
        rw [nx0] at wr
        rcases LN' with ⟨z, -⟩ | ⟨z, -⟩ | ⟨z, -⟩ | ⟨z, -⟩ | ⟨hk, m, u, m2, u2, t, g, tk, rfl, w1, w2, w3, w4, w5, w6, w7, w8, w9, w10, w11, w12⟩ | ⟨hk, m, c, b, bs, q, rfl, w1, w2, w3, w4, w5, w6, w7, w8, w9⟩ | ⟨hk, m, c, b, bs, u, rfl, w1, w2, w3, w4, w5, w6⟩ | ⟨z, -⟩ | ⟨z, -⟩
        · exact absurd ⟨by omega, by omega, by omega⟩ h789
        · exact absurd ⟨by omega, by omega, by omega⟩ h789
        · exact absurd ⟨by omega, by omega, by omega⟩ h789
        · exact absurd ⟨by omega, by omega, by omega⟩ h789
        · rw [if_pos w1]
          have wb := ih _ _ _ _ w12
          obtain ⟨-, p2, p3, p4, -⟩ := addL_p (E := E.go g tk) (D.p g)
          rw [p2, p3, p4] at wb
          refine ⟨E.nu + (D.p g).length, by omega, fun A sh => ?_, wb, wr⟩
          obtain ⟨T', a1, a2, a3⟩ := sh A rfl
          have fe := fx_J (A := A) hG hen w2
          rw [w3] at fe
          have fe' : (G.fx p A).1 = (a_call E.en A t (some A)).1 := by
            have : G.fx p A = _ := fe
            rw [this]; rfl
          rw [fe']
          intro B eB
          obtain ⟨q1, q2, q3, B', q4, q5⟩ := call_ok T' t (some A) (eRo_w a1 a2 a3 t w4) (fun B e => by cases e; exact ⟨T', rfl, rfl, by omega⟩) B eB
          cases q4
          exact ⟨q1, by omega, q2.trans a2, fun x hx => by rw [q3]; exact a3 x hx⟩
        · rw [if_neg (by omega), if_pos w1]
          refine ⟨w6, w7, fun A sh => ?_, ih _ _ _ _ w8, ?_, wr⟩
          · have fe := fo_7 (s := some A) hG hen w2 w3
            obtain ⟨s1, s2⟩ := spl_shp w4 sh
            rw [← fe] at s1 s2
            exact ⟨s1, s2⟩
          · rcases w9 with ⟨-, z⟩ | ⟨b2, bs2, u, -, z⟩
            · exact WB_e z
            · exact ih _ _ _ _ z
        · rw [if_neg (by omega), if_neg (by omega), if_pos w1]
          refine ⟨fun A sh => ?_, ih _ _ _ _ w6, wr⟩
          have fe := fo_7 (s := some A) hG hen w2 w3
          obtain ⟨s1, s2⟩ := spl_shp w4 sh
          rw [← fe] at s1 s2
          exact ⟨s1, s2⟩
        · exact absurd ⟨by omega, by omega, by omega⟩ h789
        · exact absurd ⟨by omega, by omega, by omega⟩ h789
theorem spl_oL (hC : eCo E cs) (sh : shp E.nu E.ar E.rm (some A)) : oL E.nu E.ar (spl E.en cs false false (some A) none).1 (some A) ∧ oL E.nu E.ar (spl E.en cs false false (some A) none).2.1 (some A) := by
  obtain ⟨T', e1, e2, e3⟩ := sh A rfl
  obtain ⟨q1, q2⟩ := (spl_le cs).1 false (some A) none (hC.1 A e1 e2 e3) (okL_id T')
  have q3 := q1.2
  have q4 := q2.2
  rw [e1, e2] at q3 q4
  exact ⟨q3, q4⟩
theorem LW_F (hG : G.fx = fxJ J) : ∀ f t p e E, LW G J D f t p e E → ∀ q, p ≤ q → q < e → G.kd q = 5 ∨ G.kd q = 6 → ∀ A, shp (G.n q) (G.a q) (G.rm q) (some A) → oL (G.n q) (G.a q) (G.fx q A).1 (some A) ∧ oL (G.n q) (G.a q) (G.fx q A).2.1 (some A) := by
  intro f
  induction f with
  | zero =>
    intro t p e E L q q1 q2
    cases t with
    | leaf u => have : p = e := L; omega
    | branch n cs r => exact absurd L (fun z => z)
  | succ f ih =>
    intro t p e E L q q1 q2
    cases t with
    | leaf u => have : p = e := L; omega
    | branch n cs r =>
      obtain ⟨hpe, -, e1, e2, hen, ⟨-, e3⟩, hE1, hE2, hfu, LN', LR⟩ := L
      by_cases c : G.E p ≤ q
      · exact ih r (G.E p) e _ LR q c q2
      · have cond : ∀ (m : Nat) (c' t' : tr), J.c p = 7 → J.t p = .branch m c' t' → eCo E (.branch m c' t') → q = p → ∀ A, shp (G.n q) (G.a q) (G.rm q) (some A) → oL (G.n q) (G.a q) (G.fx q A).1 (some A) ∧ oL (G.n q) (G.a q) (G.fx q A).2.1 (some A) := fun m c' t' jc jt hC eq A sh => by
          subst eq
          have sh' : shp E.nu E.ar E.rm (some A) := fun B e => by
            obtain ⟨T', a1, a2, a3⟩ := sh B e
            exact ⟨T', a1.trans e1, a2.trans e2, fun x hx => (a3 x (by omega)).trans (e3 x hx).symm⟩
          have fe := fo_7 (s := some A) hG hen jc jt
          obtain ⟨s1, s2⟩ := spl_oL hC sh'
          rw [← fe] at s1 s2
          rw [e1, e2]
          exact ⟨s1, s2⟩
        intro hk
        rcases LN' with ⟨z, m, u, t, -, w, w2, -⟩ | ⟨z, m, u, q0, u', r', -, w, w2, -⟩ | ⟨z, m, u, t, -, w, w2, -⟩ | ⟨z, m, u, t, -, w, w2, -⟩ | ⟨hk', m, u, m2, u2, t, g, tk, rfl, w1, w2, w3, w4, w5, w6, w7, w8, w9, w10, w11, w12⟩ | ⟨hk', m, c', b, bs, q', rfl, w1, w2, w3, w4, w5, w6, w7, w8, w9⟩ | ⟨hk', m, c', b, bs, u, rfl, w1, w2, w3, w4, w5, w6⟩ | ⟨z, w, w2, -⟩ | ⟨z, w, w2, -⟩
        · have : q = p := by omega
          rw [this] at hk; omega
        · have : q = p := by omega
          rw [this] at hk; omega
        · have : q = p := by omega
          rw [this] at hk; omega
        · have : q = p := by omega
          rw [this] at hk; omega
        · by_cases eq : q = p
          · rw [eq] at hk; omega
          · exact ih _ _ _ _ w12 q (by omega) (by omega) hk
        · by_cases eq : q = p
          · exact cond m c' _ w2 w3 w4 eq
          · by_cases c2 : q < G.M p
            · exact ih _ _ _ _ w8 q (by omega) c2 hk
            · rcases w9 with ⟨-, z⟩ | ⟨b2, bs2, u, -, z⟩
              · omega
              · exact ih _ _ _ _ z q (by omega) (by omega) hk
        · by_cases eq : q = p
          · exact cond m c' _ w2 w3 w4 eq
          · exact ih _ _ _ _ w6 q (by omega) (by omega) hk
        · have : q = p := by omega
          rw [this] at hk; omega
        · have : q = p := by omega
          rw [this] at hk; omega
/-- spares are enough for a program that lies -/
theorem LW_sp (hG : G.fx = fxJ J) (L : LW G J D f t 0 c0 E) (hc : c0 ≤ 249) (hsp : ∀ p, p < c0 → G.sp p ≤ 350) (sh : shp E.nu E.ar E.rm s) {w0 : wd} (hw : wW w0 = 0) : (DB G f 0 c0 s w0).2.2 ≤ 2046 := spr_end (fun p hp => LW_F hG f t 0 c0 E L p (Nat.zero_le _) hp) hsp hc (LW_WB hG f t 0 c0 E L) sh hw
end LWs
