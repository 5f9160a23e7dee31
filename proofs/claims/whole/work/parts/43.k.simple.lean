set_option maxRecDepth 100000
/-! simple statements, all -/
section SLl
variable {d : Nat} {h h1 : mh_H} {s0 s1 o b p k T : Nat} {E E' : nv} {D : fd} {w0 : wd} {s s' : Option ab} {G : pgm} {J : pin} {A : ab} {t : tr} {m : Nat} {u : Unit} {al : Int32}
theorem fx_J (hG : G.fx = fxJ J) (hen : J.en p = E.en) {c : Nat} (hc : J.c p = c) : fo G p (some A) = fxp c E.en (J.t p) (J.x p) (J.sz p) (J.tk p) A := by
  show G.fx p A = _
  rw [hG]
  show fxp (J.c p) (J.en p) (J.t p) (J.x p) (J.sz p) (J.tk p) A = _
  rw [hc, hen]
theorem shp_r {n a n' : Nat} {r : Nat → Nat} (sh : shp n a r (some A)) (q : ∀ B, s' = some B → ab_T B ∧ B.n = n' ∧ B.a = A.a ∧ B.rm = A.rm) : shp n' a r s' := fun B e => by
  obtain ⟨T, e1, e2, e3⟩ := sh A rfl
  obtain ⟨q1, q2, q3, q4⟩ := q B e
  exact ⟨q1, q2, q3.trans e2, fun x hx => by rw [q4]; exact e3 x hx⟩
theorem ret_ok {sN : Int → Prop} {en : Int → Nat} {tk : Option Nat} (T : ab_T A) (w : wS sN en A t false) (ht : ∀ y, tk = some y → y < A.n) : ∀ B, a_ret en A tk t = some B → ab_T B ∧ B.n = A.n ∧ B.a = A.a ∧ B.rm = A.rm := fun B e => by
  cases tk with
  | some y =>
    obtain ⟨q1, q2, q3, q4, -⟩ := set_ok (new := false) T T w (fun z => by cases z) (fun _ => ht y rfl) e
    exact ⟨q1, q2, q3, q4⟩
  | none =>
    unfold a_ret at e
    cases hv : (ev en A t none).1 with
    | none => rw [hv] at e; cases e
    | some q => rw [hv] at e; cases e; exact ⟨T, rfl, rfl, rfl⟩
theorem sim_all {rec : tr → Nat → Nat → nv → Prop} {n : Nat} {cs r : tr} (L : LN G J D rec n cs p E) (hk : ¬ tK n = 7 ∧ ¬ tK n = 8 ∧ ¬ tK n = 9) (hG : G.fx = fxJ J) (hen : J.en p = E.en) (A0 : RA h s0 E D w0) (l : lv h s0 o) (c : RK h o s) (sh : shp E.nu E.ar E.rm s) (a2 : mh_i h o 2 = Int32.ofNat E.ar) (al : mh_i h 115 24 = 0) (N : nd (mh_i h 93) (mh_i h 95) (mh_i h 97) k (.branch n cs r)) (hb : k + 1 + ts cs ≤ 26000) (hs : s0 + G.sp p ≤ 2048) (hd : 810 ≤ d) : ∃ h', SFi G h h' s0 s0 o E.T (nx n cs E) D w0 (fo G p s).1 (fo G p s).2.2 ∧ shp (nx n cs E).nu (nx n cs E).ar (nx n cs E).rm (fo G p s).1 ∧ ∀ Q, mcall d 262 [.ref 115, .int (Int32.ofNat k), .ref o, .int (kb (decide (s ≠ none)))] h Q = Q none h' := by
  obtain ⟨d, rfl⟩ : ∃ d', d = d' + 3 := ⟨d - 3, by omega⟩
  have hs1 : 1 ≤ G.sp p := by
    rcases L with ⟨-, m, u, t, -, -, -, -, -, q, -⟩ | ⟨-, m, u, q0, u', r', -, -, -, -, -, q, -⟩ | ⟨-, m, u, t, -, -, -, q, -⟩ | ⟨-, m, u, t, -, -, -, q, -⟩ | ⟨z, -⟩ | ⟨z, -⟩ | ⟨z, -⟩ | ⟨-, -, -, -, -, -, q⟩ | ⟨-, -, -, -, -, -, -, -, q⟩
    · omega
    · omega
    · omega
    · omega
    · exact absurd z hk.1
    · exact absurd z hk.2.1
    · exact absurd z hk.2.2
    · omega
    · omega
  obtain ⟨n1, -, n3, n4, -⟩ := id N
  obtain ⟨h1, b, x1, S, ⟨t1, t2, t3⟩, c1, run1⟩ := sim_0 (d := d) (G := G) (kd := Int32.ofNat (tK n)) (is := kb (decide (s ≠ none))) A0 l c a2 al (by omega) (by omega) n1
  rw [← t1, ← t2, ← t3] at n4
  rw [← t3] at n3
  have fin : ∀ E' s' v, (∃ h', SFi G h1 h' s0 s0 o E.T E' D w0 s' v ∧ ∀ Q, mw (d + 2 + 1) 262 Q 25 [some (.ref 115), some (.int (Int32.ofNat k)), some (.ref o), some (.int (kb (decide (s ≠ none)))), some (.int (Int32.ofNat s0)), some (.ref b), none, none] [.int (Int32.ofNat (tK n))] h1 = Q none h') → shp E'.nu E'.ar E'.rm s' → nx n cs E = E' → (fo G p s).1 = s' → (fo G p s).2.2 = v → ∃ h', SFi G h h' s0 s0 o E.T (nx n cs E) D w0 (fo G p s).1 (fo G p s).2.2 ∧ shp (nx n cs E).nu (nx n cs E).ar (nx n cs E).rm (fo G p s).1 ∧ ∀ Q, mcall (d + 3) 262 [.ref 115, .int (Int32.ofNat k), .ref o, .int (kb (decide (s ≠ none)))] h Q = Q none h' := fun E' s' v ⟨h', F, run⟩ hsh e1 e2 e3 => by
    rw [e1, e2, e3]
    exact ⟨h', ⟨rq_t x1 F.x, F.A, F.k, F.a, F.al, fun q w => F.c q (c1 q w)⟩, hsh, fun Q => (run1 Q).trans (run Q)⟩
  have nx0 : ¬ tK n = 3 → ¬ tK n = 4 → nx n cs E = E := fun z1 z2 => by unfold nx; rw [if_neg z1, if_neg z2]
  clear run1 x1 c1 A0 l c a2 al N n1
  rcases L with ⟨hk3, m, u, t, rfl, -, -, hn, hT, -, hv⟩ | ⟨hk4, m, u, q, u', r', rfl, -, -, hn, hT, -, jc, q1, q2, jz⟩ | ⟨hk5, m, u, t, rfl, -, -, -, jc, hsn, hx, jx, jt, hS⟩ | ⟨hk6, m, u, t, rfl, -, -, -, jc, hsn, hx, hr1, hr2, jx, jt, hS, hS2⟩ | ⟨z, -⟩ | ⟨z, -⟩ | ⟨z, -⟩ | ⟨hk10, -, -, jc, jt, hC, hsp⟩ | ⟨hk11, -, -, jc, jt, hS, jtk, hta, hsp⟩
  · obtain ⟨-, v1, -, -, nt⟩ := n4
    have v1' : (mh_i h1 95 (k + 1)).toInt = tV m := v1
    have enx : nx n (.branch m (.leaf u) t) E = E.addN (tV m) := by unfold nx; rw [if_pos hk3]
    rw [hk3] at fin
    have tsu : ts (.branch m (.leaf u) t) = 1 + ts t := by rw [ts_B]; show 1 + 0 + ts t = _; omega
    rw [tsu] at hb n3
    cases s with
    | none => exact fin _ _ _ (var_n (d := d + 2) S hn hT v1' (by omega)) shp_n enx rfl rfl
    | some A =>
      obtain ⟨T', e1, e2, e3⟩ := sh A rfl
      rcases hv with ⟨⟨u', rfl⟩, jc⟩ | ⟨jc, jt, hS⟩
      · have fe := fx_J (A := A) hG hen jc
        have n3' : mh_i h1 97 k = 2 := n3
        refine fin _ _ _ (var_0 (d := d + 2) S sh hn hT v1' n3' (by omega) (by omega)) ?_ enx (by rw [fe]; rfl) (by rw [fe]; rfl)
        exact shp_r sh (fun B e => by
          obtain ⟨q1, q2, q3, q4, -⟩ := zero_ok T' (by omega) e
          exact ⟨q1, q2.trans (by rw [e1]; rfl), q3, q4⟩)
      · have fe := fx_J (A := A) hG hen jc
        rw [jt] at fe
        have nt' : nd (mh_i h1 93) (mh_i h1 95) (mh_i h1 97) (k + 2) t := nt
        have w1 := hS.1 A e1 e2 e3
        have t1' : 1 ≤ ts t := by
          cases t with
          | leaf u => exact absurd w1 (fun z => z)
          | branch a b c => rw [ts_B]; omega
        refine fin _ _ _ (var_1 (d := d + 2) (z := 1 + (1 + ts t)) S sh hS hn hT v1' n3 (by omega) nt' (by omega) (by omega) (by omega)) ?_ enx (by rw [fe]; rfl) (by rw [fe]; rfl)
        exact shp_r sh (fun B e => by
          obtain ⟨q1, q2, q3, q4, -⟩ := set_ok (new := true) T' T' w1 (fun _ => ⟨rfl, by omega⟩) (fun z => by cases z) e
          exact ⟨q1, q2.trans (by rw [if_pos rfl, e1]; rfl), q3, q4⟩)
  · obtain ⟨-, v1, -, -, -, v2, -⟩ := n4
    have v1' : (mh_i h1 95 (k + 1)).toInt = tV m := v1
    have v2' : (mh_i h1 95 (k + 2)).toInt = tV q := v2
    have hz : mh_i h1 95 (k + 2) = Int32.ofNat (tV q).toNat := Int32.toInt_inj.mp (by rw [v2', nn_int (by omega)]; omega)
    have enx : nx n (.branch m (.leaf u) (.branch q (.leaf u') r')) E = E.addA (tV m) (tV q).toNat := by unfold nx; rw [if_neg (by omega), if_pos hk4]
    rw [hk4] at fin
    have tsu : ts (.branch m (.leaf u) (.branch q (.leaf u') r')) = 2 + ts r' := by rw [ts_B, ts_B]; show 1 + 0 + (1 + 0 + ts r') = _; omega
    rw [tsu] at hb
    have ar := arr_1 (d := d + 2) (G := G) S sh hn hT v1' hz (by omega) (x3 := some (.int (kb (decide (s ≠ none)))))
    cases s with
    | none => exact fin _ _ _ ar shp_n enx rfl rfl
    | some A =>
      obtain ⟨T', e1, e2, e3⟩ := sh A rfl
      have fe := fx_J (A := A) hG hen jc
      rw [jz] at fe
      refine fin _ _ _ ar ?_ enx (by rw [fe]; rfl) (by rw [fe]; rfl)
      intro B e
      have e' : a_arr (tV q).toNat A = B := by injection e
      subst e'
      refine ⟨T_arr T' (by omega), e1, by show A.a + 1 = E.ar + 1; omega, fun x hx => ?_⟩
      show (if x = A.a then (tV q).toNat else A.rm x) = if x = E.ar then (tV q).toNat else E.rm x
      have hx' : x < E.ar + 1 := hx
      rw [e2]
      by_cases c : x = E.ar
      · rw [if_pos c, if_pos c]
      · rw [if_neg c, if_neg c]; exact e3 x (by omega)
  · obtain ⟨-, v1, -, -, nt⟩ := n4
    have v1' : (mh_i h1 95 (k + 1)).toInt = tV m := v1
    have nt' : nd (mh_i h1 93) (mh_i h1 95) (mh_i h1 97) (k + 2) t := nt
    have enx := nx0 (by omega) (by omega)
    rw [hk5] at fin
    have tsu : ts (.branch m (.leaf u) t) = 1 + ts t := by rw [ts_B]; show 1 + 0 + ts t = _; omega
    rw [tsu] at hb
    cases s with
    | none => exact fin _ _ _ (sim_n (d := d + 2) S (Or.inl rfl)) shp_n enx rfl rfl
    | some A =>
      obtain ⟨T', e1, e2, e3⟩ := sh A rfl
      have fe := fx_J (A := A) hG hen jc
      rw [jt, jx] at fe
      have w1 := hS.1 A e1 e2 e3
      refine fin _ _ _ (set_1 (d := d + 2) S sh hS v1' hsn hx (by omega) nt' (by omega) (by omega)) ?_ enx (by rw [fe]; rfl) (by rw [fe]; rfl)
      exact shp_r sh (fun B e => by
        obtain ⟨q1, q2, q3, q4, -⟩ := set_ok (new := false) T' T' w1 (fun z => by cases z) (fun _ => by omega) e
        exact ⟨q1, q2.trans (by rw [if_neg (by decide), e1]), q3, q4⟩)
  · obtain ⟨-, v1, -, -, nt⟩ := n4
    have v1' : (mh_i h1 95 (k + 1)).toInt = tV m := v1
    have nt' : nd (mh_i h1 93) (mh_i h1 95) (mh_i h1 97) (k + 2) t := nt
    have enx := nx0 (by omega) (by omega)
    rw [hk6] at fin
    have tsu : ts (.branch m (.leaf u) t) = 1 + ts t := by rw [ts_B]; show 1 + 0 + ts t = _; omega
    rw [tsu] at hb
    cases s with
    | none => exact fin _ _ _ (sim_n (d := d + 2) S (Or.inr (Or.inl rfl))) shp_n enx rfl rfl
    | some A =>
      obtain ⟨T', e1, e2, e3⟩ := sh A rfl
      have fe := fx_J (A := A) hG hen jc
      rw [jt, jx] at fe
      have w2 := hS2.1 A e1 e2 e3
      refine fin _ _ _ (put_1 (d := d + 2) S sh hS hS2 v1' hsn hx hr2 nt' (by omega) (by omega)) ?_ enx (by rw [fe]; rfl) (by rw [fe]; rfl)
      exact shp_r sh (fun B e => by
        obtain ⟨q1, q2, q3, q4⟩ := T_put T' (by omega) w2 e
        exact ⟨q1, q2.trans e1, q3, q4⟩)
  · exact absurd z hk.1
  · exact absurd z hk.2.1
  · exact absurd z hk.2.2
  · have enx := nx0 (by omega) (by omega)
    rw [hk10] at fin
    cases s with
    | none => exact fin _ _ _ (sim_n (d := d + 2) S (Or.inr (Or.inr (Or.inl rfl)))) shp_n enx rfl rfl
    | some A =>
      obtain ⟨T', e1, e2, e3⟩ := sh A rfl
      have fe := fx_J (A := A) hG hen jc
      rw [jt] at fe
      have okA : okS A (some A) := fun B e => by cases e; exact ⟨T', rfl, rfl, rfl⟩
      refine fin _ _ _ (ass_1 (d := d + 2) S sh hC n4 (by omega) (by omega) (by omega)) ?_ enx (by rw [fe]; rfl) (by rw [fe]; rfl)
      exact shp_r sh (fun B e => by
        obtain ⟨q1, q2, q3, q4⟩ := ((spl_ok cs).1 false (some A) none (hC.1 A e1 e2 e3) okA).1 B e
        exact ⟨q1, q2.trans e1, q3, q4⟩)
  · have enx := nx0 (by omega) (by omega)
    rw [hk11] at fin
    cases s with
    | none => exact fin _ _ _ (sim_n (d := d + 2) S (Or.inr (Or.inr (Or.inr rfl)))) shp_n enx rfl rfl
    | some A =>
      obtain ⟨T', e1, e2, e3⟩ := sh A rfl
      have fe := fx_J (A := A) hG hen jc
      rw [jt, jtk] at fe
      refine fin _ _ _ (ret_1 (d := d + 2) S sh hS hta n4 (by omega) (by omega)) ?_ enx (by rw [fe]; rfl) (by rw [fe]; rfl)
      exact shp_r sh (fun B e => by
        obtain ⟨q1, q2, q3, q4⟩ := ret_ok T' (hS.1 A e1 e2 e3) (fun y hy => by rw [e1]; exact hta y hy) B e
        exact ⟨q1, q2.trans e1, q3, q4⟩)
end SLl
