set_option maxRecDepth 100000
/-! names by their numbers; the reference's wrong, meantNow, lookName, isNew, give -/
section SPs
variable {Bt : Nat → Int32} {n : Nat} {P U : Nat → Nat} {a b c v : Nat}
theorem spz_i : ∀ f k, spz Bt n a b f k = true ↔ ∀ j, j < f → bt Bt n (a + (k + j)) = bt Bt n (b + (k + j)) := by
  intro f
  induction f with
  | zero => exact fun k => ⟨fun _ j h => absurd h (Nat.not_lt_zero _), fun _ => rfl⟩
  | succ f ih =>
    intro k
    show (if bt Bt n (a + k) = bt Bt n (b + k) then spz Bt n a b f (k + 1) else false) = true ↔ _
    by_cases q : bt Bt n (a + k) = bt Bt n (b + k)
    · rw [if_pos q, ih]
      refine ⟨fun h j hj => ?_, fun h j hj => ?_⟩
      · cases j with
        | zero => exact q
        | succ j =>
          have := h j (by omega)
          rw [show k + (j + 1) = k + 1 + j from by omega]
          exact this
      · have := h (j + 1) (by omega)
        rw [show k + 1 + j = k + (j + 1) from by omega]
        exact this
    · rw [if_neg q]
      exact ⟨fun h => (by cases h), fun h => absurd (h 0 (by omega)) q⟩
theorem spe_i : spe Bt n P U a b = true ↔ U a = U b ∧ ∀ j, j < U a → bt Bt n (P a + j) = bt Bt n (P b + j) := by
  unfold spe
  by_cases q : U a = U b
  · rw [if_pos q, spz_i]
    refine ⟨fun h => ⟨q, fun j hj => ?_⟩, fun h j hj => ?_⟩
    · have := h j hj
      rw [Nat.zero_add] at this
      exact this
    · rw [Nat.zero_add]
      exact h.2 j hj
  · rw [if_neg q]
    exact ⟨fun h => (by cases h), fun h => absurd h.1 q⟩
theorem spe_sy (h : spe Bt n P U a b = true) : spe Bt n P U b a = true := by
  rw [spe_i] at h ⊢
  exact ⟨h.1.symm, fun j hj => (h.2 j (by omega)).symm⟩
theorem spe_tr (h : spe Bt n P U a b = true) (h2 : spe Bt n P U b c = true) : spe Bt n P U a c = true := by
  rw [spe_i] at h h2 ⊢
  exact ⟨h.1.trans h2.1, fun j hj => (h.2 j hj).trans (h2.2 j (by omega))⟩
theorem nix_sp (h : spe Bt n P U a v = true) : ∀ L, nix (spe Bt n P U) L a = nix (spe Bt n P U) L v := by
  intro L
  induction L with
  | nil => rfl
  | cons b l ih =>
    show (if spe Bt n P U b a = true then 0 else nix (spe Bt n P U) l a + 1) = (if spe Bt n P U b v = true then 0 else nix (spe Bt n P U) l v + 1)
    by_cases q : spe Bt n P U b a = true
    · rw [if_pos q, if_pos (spe_tr q h)]
    · rw [if_neg q, if_neg (fun z => q (spe_tr z (spe_sy h))), ih]
theorem nix_q {L : List Nat} (ka : nix (spe Bt n P U) L a < L.length) (kv : nix (spe Bt n P U) L v < L.length) : nix (spe Bt n P U) L a = nix (spe Bt n P U) L v ↔ spe Bt n P U a v = true := by
  refine ⟨fun h => ?_, fun h => nix_sp h L⟩
  obtain ⟨c, c1, c2⟩ := nix_yes L ka
  obtain ⟨c', d1, d2⟩ := nix_yes L kv
  rw [h, d1] at c1
  cases c1
  exact spe_tr (spe_sy c2) d2
end SPs
def lyWr (b j : Nat) : Prop := (100 ≤ b ∧ b ≤ 114) ∨ (b = 81 ∧ (j = 33 ∨ (42 ≤ j ∧ j ≤ 48)))
/-- something is wrong -/
def wrH (h : mh_H) (w p : Int32) : mh_H := mh_si (mh_si h 81 47 w) 81 48 p
/-- where a name stands among those known -/
def ixE (sp : Nat → Nat → Bool) : cen → Nat → Option Nat
  | [], _ => none
  | (a, _) :: r, v => if sp a v = true then some r.length else ixE sp r v
/-- the names known in the reference's rows: numbers of names, slots, rooms, BLOCKs -/
def enR (h : mh_H) (nm : Nat → Nat) (X : lcx) (bs id : Nat) : cen → Nat → Prop
  | [], _ => True
  | (a, z) :: r, b => (mh_i h 109 (bs + r.length) = Int32.ofNat (nm a) ∧ nm a < 100000 ∧ mh_i h 110 (bs + r.length) = Int32.ofNat (if z = 0 then X.nb + cnZl r else X.na + cnAl r) ∧ mh_i h 111 (bs + r.length) = Int32.ofNat z ∧ z < 100000 ∧ ∃ i, i < 100000 ∧ mh_i h 112 (bs + r.length) = Int32.ofNat i ∧ (i = id ↔ 0 < b)) ∧ enR h nm X bs id r (b - 1)
def REN (h : mh_H) (nm : Nat → Nat) (X : lcx) (L : cen) (b id bs : Nat) : Prop := (RF h) ∧ (mh_i h 81 42 = Int32.ofNat (bs + L.length)) ∧ (mh_i h 81 43 = Int32.ofNat bs) ∧ (bs + L.length ≤ 40) ∧ (enR h nm X bs id L b) ∧ (id < 100000)
theorem REN.of {h : mh_H} {nm : Nat → Nat} {X : lcx} {L : cen} {b id bs : Nat} (q : (RF h) ∧ (mh_i h 81 42 = Int32.ofNat (bs + L.length)) ∧ (mh_i h 81 43 = Int32.ofNat bs) ∧ (bs + L.length ≤ 40) ∧ (enR h nm X bs id L b) ∧ (id < 100000)) : REN h nm X L b id bs := q
theorem REN.F {h : mh_H} {nm : Nat → Nat} {X : lcx} {L : cen} {b id bs : Nat} (q : REN h nm X L b id bs) : RF h := q.1
theorem REN.e {h : mh_H} {nm : Nat → Nat} {X : lcx} {L : cen} {b id bs : Nat} (q : REN h nm X L b id bs) : mh_i h 81 42 = Int32.ofNat (bs + L.length) := q.2.1
theorem REN.b {h : mh_H} {nm : Nat → Nat} {X : lcx} {L : cen} {b id bs : Nat} (q : REN h nm X L b id bs) : mh_i h 81 43 = Int32.ofNat bs := q.2.2.1
theorem REN.l {h : mh_H} {nm : Nat → Nat} {X : lcx} {L : cen} {b id bs : Nat} (q : REN h nm X L b id bs) : bs + L.length ≤ 40 := q.2.2.2.1
theorem REN.n {h : mh_H} {nm : Nat → Nat} {X : lcx} {L : cen} {b id bs : Nat} (q : REN h nm X L b id bs) : enR h nm X bs id L b := q.2.2.2.2.1
theorem REN.i {h : mh_H} {nm : Nat → Nat} {X : lcx} {L : cen} {b id bs : Nat} (q : REN h nm X L b id bs) : id < 100000 := q.2.2.2.2.2
section RNs
variable {d : Nat} {h : mh_H} {sp : Nat → Nat → Bool} {nm : Nat → Nat} {X : lcx} {L : cen} {b id bs v k : Nat}
theorem c_335 (F : RF h) {w : Int32} (hk : k < 26000) (e : mh_i h 81 47 = 0) : ∀ Q, mcall d 335 [.ref 81, .int w, .int (Int32.ofNat k)] h Q = Q (some (.int 0)) (wrH h w (mh_i h 94 k)) := by
  intro Q
  have g := F.g 81 14 70 (by decide +kernel)
  have r20 := F.f 81 20 94 (by decide +kernel)
  have g20 := F.g 94 100 26000 (by decide +kernel)
  have l20 := F.l 94 100 26000 (by decide +kernel)
  have z0 : ((0 : Int32) = 0) = True := eq_true rfl
  unfold wrH
  clear F
  simp (disch := omega) only [s_335_0, s_335_1, s_335_4, s_335_7, s_335_8, s_335_9, s_335_12, s_335_13, s_335_14, s_335_17, s_335_18, s_335_19, s_335_22, s_335_23, e_335, mv_i_1, mv_l_1, mv_a_1, mv_a_2, mv_a_3, mk2_n, mk2_i, mk2_l, mk2_a, mk2_u, mk2_x, mB_T, mB_F, mS_cons, mS_nil, mSB_T, mSB_F, mca_nil, mca_i, mca_l, mca_r, mca_u, mca_x, mcat_i, mcat_l, mcat_r, mcat_u, mcat_x, mK_some, mK_none, va_rf_s, va_rf_n, lgc_eq, lgc_lt, lgc_gt, lgc_ge, lgc_le, mrd_104, mrd_105, mrd_106, mrd_107, true_and, and_true, and_self, false_and, and_false, true_or, or_true, false_or, or_false, not_true_eq_false, not_false_eq_true, mgb, mga, mgr, mN, reduceCtorEq, ↓reduceIte, eq_self, ge_iff_le, gt_iff_lt, hk_si, hk_sj, hk_sr, hl_si, hl_sj, hl_sr, hn_si, hn_sj, hn_sr, hs_si, hs_sj, hs_sr, hi_sj, hi_sr, hj_si, hj_sr, hr_si, hr_sj, hi_si, hj_sj, hr_sr, mg_si, mg_sj, mg_sr, Nat.reduceAdd, Nat.reduceMul, Nat.reduceSub, Nat.reduceLT, Nat.reduceGT, Nat.reduceEqDiff, Nat.reduceLeDiff, Nat.left_eq_add, Nat.add_eq_left, Nat.reduceMod, Nat.reduceDiv, Nat.succ_ne_self, g, r20, g20, l20, e, z0, nn_mxT, nn_clamp]
/-- meantNow -/
theorem l_340 (F : RF h) (eb : mh_i h 81 43 = Int32.ofNat bs) (kv : nm v < 100000) {x1 : Int32} (ex : x1 = Int32.ofNat (nm v)) : ∀ L b, bs + L.length ≤ 40 → enR h nm X bs id L b → (∀ a z, (a, z) ∈ L → (nm a = nm v ↔ sp a v = true)) → ∀ Q, mw d 340 Q 7 [some (.ref 81), some (.int x1), some (.int (Int32.ofNat (bs + L.length) - 1))] [] h = Q (some (.int (match ixE sp L v with | none => -1 | some i => Int32.ofNat (bs + i)))) h := by
  have g := F.g 81 14 70 (by decide +kernel)
  have r38 := F.f 81 38 109 (by decide +kernel)
  have g38 := F.g 109 100 40 (by decide +kernel)
  have l38 := F.l 109 100 40 (by decide +kernel)
  clear F
  intro L
  induction L with
  | nil =>
    intro b hl _ _ Q
    have hl' : bs + 0 ≤ 40 := hl
    have lt : (Int32.ofNat (bs + ([] : cen).length) - 1 < Int32.ofNat bs) = True := by
      show (Int32.ofNat bs - 1 < Int32.ofNat bs) = True
      have hi := nn_int (a := bs) (by omega)
      refine eq_true ?_
      rw [Int32.lt_iff_toInt_lt, Int32.toInt_sub, hi]
      have e1 : (1 : Int32).toInt = 1 := rfl
      rw [e1]
      have : ((bs : Int) - 1).bmod (2 ^ 32) = (bs : Int) - 1 := by
        apply Int.bmod_eq_of_le <;> omega
      rw [this]
      omega
    rw [s_340_7]
    simp (disch := omega) only [s_340_0, s_340_1, s_340_4, s_340_5, s_340_6, s_340_8, s_340_9, s_340_12, s_340_15, s_340_16, s_340_19, s_340_20, s_340_21, s_340_22, s_340_25, s_340_26, s_340_27, s_340_30, s_340_33, s_340_34, e_340, mv_i_1, mv_l_1, mv_a_1, mv_a_2, mv_a_3, mk2_n, mk2_i, mk2_l, mk2_a, mk2_u, mk2_x, mB_T, mB_F, mS_cons, mS_nil, mSB_T, mSB_F, mca_nil, mca_i, mca_l, mca_r, mca_u, mca_x, mcat_i, mcat_l, mcat_r, mcat_u, mcat_x, mK_some, mK_none, va_rf_s, va_rf_n, lgc_eq, lgc_lt, lgc_gt, lgc_ge, lgc_le, mrd_104, mrd_105, mrd_106, mrd_107, true_and, and_true, and_self, false_and, and_false, true_or, or_true, false_or, or_false, not_true_eq_false, not_false_eq_true, mgb, mga, mgr, mN, reduceCtorEq, ↓reduceIte, eq_self, ge_iff_le, gt_iff_lt, Nat.reduceAdd, Nat.reduceMul, Nat.reduceSub, Nat.reduceLT, Nat.reduceGT, Nat.reduceEqDiff, Nat.reduceLeDiff, Nat.left_eq_add, Nat.add_eq_left, Nat.reduceMod, Nat.reduceDiv, Nat.succ_ne_self, g, eb, lt, ixE]
  | cons e r ih =>
    obtain ⟨a, z⟩ := e
    intro b hl w hq Q
    obtain ⟨⟨w1, w2, -⟩, w3⟩ := w
    have hl' : bs + (r.length + 1) ≤ 40 := hl
    have es : Int32.ofNat (bs + ((a, z) :: r).length) - 1 = Int32.ofNat (bs + r.length) := nn_sub (a := bs + (r.length + 1)) (b := 1) (by omega)
    have lt : (Int32.ofNat (bs + r.length) < Int32.ofNat bs) = False := (nn_lt (by omega) (by omega)).trans (eq_false (by omega))
    have i1 := ih (b - 1) (by omega) w3 (fun a' z' m => hq a' z' (List.mem_cons_of_mem _ m)) Q
    have em : Int32.ofNat (bs + r.length) + -1 = Int32.ofNat (bs + r.length) - 1 := (Int32.sub_eq_add_neg ..).symm
    have eq0 : (Int32.ofNat (nm a) = x1) = (nm a = nm v) := by rw [ex]; exact nn_eq (by omega) (by omega)
    have hqa := hq a z List.mem_cons_self
    have ix : ixE sp ((a, z) :: r) v = if sp a v = true then some r.length else ixE sp r v := rfl
    rw [es, ix]
    by_cases c : sp a v = true
    · rw [if_pos c]
      have c' : (Int32.ofNat (nm a) = x1) = True := eq0.trans (eq_true (hqa.mpr c))
      clear i1 ih
      rw [s_340_7]
      simp (disch := omega) only [s_340_0, s_340_1, s_340_4, s_340_5, s_340_6, s_340_8, s_340_9, s_340_12, s_340_15, s_340_16, s_340_19, s_340_20, s_340_21, s_340_22, s_340_25, s_340_26, s_340_27, s_340_30, s_340_33, s_340_34, e_340, mv_i_1, mv_l_1, mv_a_1, mv_a_2, mv_a_3, mk2_n, mk2_i, mk2_l, mk2_a, mk2_u, mk2_x, mB_T, mB_F, mS_cons, mS_nil, mSB_T, mSB_F, mca_nil, mca_i, mca_l, mca_r, mca_u, mca_x, mcat_i, mcat_l, mcat_r, mcat_u, mcat_x, mK_some, mK_none, va_rf_s, va_rf_n, lgc_eq, lgc_lt, lgc_gt, lgc_ge, lgc_le, mrd_104, mrd_105, mrd_106, mrd_107, true_and, and_true, and_self, false_and, and_false, true_or, or_true, false_or, or_false, not_true_eq_false, not_false_eq_true, mgb, mga, mgr, mN, reduceCtorEq, ↓reduceIte, eq_self, ge_iff_le, gt_iff_lt, Nat.reduceAdd, Nat.reduceMul, Nat.reduceSub, Nat.reduceLT, Nat.reduceGT, Nat.reduceEqDiff, Nat.reduceLeDiff, Nat.left_eq_add, Nat.add_eq_left, Nat.reduceMod, Nat.reduceDiv, Nat.succ_ne_self, g, eb, lt, r38, g38, l38, w1, c', nn_mxT, nn_clamp]
    · rw [if_neg c, ← i1]
      have c' : (Int32.ofNat (nm a) = x1) = False := eq0.trans (eq_false (fun q => c (hqa.mp q)))
      clear i1 ih
      rw [s_340_7]
      simp (disch := omega) only [s_340_0, s_340_1, s_340_4, s_340_5, s_340_6, s_340_8, s_340_9, s_340_12, s_340_15, s_340_16, s_340_19, s_340_20, s_340_21, s_340_22, s_340_25, s_340_26, s_340_27, s_340_30, s_340_33, s_340_34, e_340, mv_i_1, mv_l_1, mv_a_1, mv_a_2, mv_a_3, mk2_n, mk2_i, mk2_l, mk2_a, mk2_u, mk2_x, mB_T, mB_F, mS_cons, mS_nil, mSB_T, mSB_F, mca_nil, mca_i, mca_l, mca_r, mca_u, mca_x, mcat_i, mcat_l, mcat_r, mcat_u, mcat_x, mK_some, mK_none, va_rf_s, va_rf_n, lgc_eq, lgc_lt, lgc_gt, lgc_ge, lgc_le, mrd_104, mrd_105, mrd_106, mrd_107, true_and, and_true, and_self, false_and, and_false, true_or, or_true, false_or, or_false, not_true_eq_false, not_false_eq_true, mgb, mga, mgr, mN, reduceCtorEq, ↓reduceIte, eq_self, ge_iff_le, gt_iff_lt, Nat.reduceAdd, Nat.reduceMul, Nat.reduceSub, Nat.reduceLT, Nat.reduceGT, Nat.reduceEqDiff, Nat.reduceLeDiff, Nat.left_eq_add, Nat.add_eq_left, Nat.reduceMod, Nat.reduceDiv, Nat.succ_ne_self, g, eb, lt, r38, g38, l38, w1, c', nn_mxT, nn_clamp, em]
theorem c_340 (R : REN h nm X L b id bs) (kv : nm v < 100000) (hq : ∀ a z, (a, z) ∈ L → (nm a = nm v ↔ sp a v = true)) : ∀ Q, mcall d 340 [.ref 81, .int (Int32.ofNat (nm v))] h Q = Q (some (.int (match ixE sp L v with | none => -1 | some i => Int32.ofNat (bs + i)))) h := by
  intro Q
  have g := R.F.g 81 14 70 (by decide +kernel)
  have e := R.e
  have lp := l_340 (d := d) (sp := sp) (v := v) R.F R.b kv rfl L b R.l R.n hq Q
  rw [← lp]
  clear R lp
  simp (disch := omega) only [s_340_0, s_340_1, s_340_4, s_340_5, s_340_6, s_340_8, s_340_9, s_340_12, s_340_15, s_340_16, s_340_19, s_340_20, s_340_21, s_340_22, s_340_25, s_340_26, s_340_27, s_340_30, s_340_33, s_340_34, e_340, mv_i_1, mv_l_1, mv_a_1, mv_a_2, mv_a_3, mk2_n, mk2_i, mk2_l, mk2_a, mk2_u, mk2_x, mB_T, mB_F, mS_cons, mS_nil, mSB_T, mSB_F, mca_nil, mca_i, mca_l, mca_r, mca_u, mca_x, mcat_i, mcat_l, mcat_r, mcat_u, mcat_x, mK_some, mK_none, va_rf_s, va_rf_n, lgc_eq, lgc_lt, lgc_gt, lgc_ge, lgc_le, mrd_104, mrd_105, mrd_106, mrd_107, true_and, and_true, and_self, false_and, and_false, true_or, or_true, false_or, or_false, not_true_eq_false, not_false_eq_true, mgb, mga, mgr, mN, reduceCtorEq, ↓reduceIte, eq_self, ge_iff_le, gt_iff_lt, Nat.reduceAdd, Nat.reduceMul, Nat.reduceSub, Nat.reduceLT, Nat.reduceGT, Nat.reduceEqDiff, Nat.reduceLeDiff, Nat.left_eq_add, Nat.add_eq_left, Nat.reduceMod, Nat.reduceDiv, Nat.succ_ne_self, g, e]
theorem ix_lo : ∀ (L : cen) v, (ixE sp L v = none ↔ loE sp L (v : Nat) = none) ∧ (∀ i, ixE sp L v = some i → ∃ a z r, L.drop (L.length - 1 - i) = (a, z) :: r ∧ r.length = i ∧ loE sp L (v : Nat) = some (slE r z, z) ∧ i < L.length) := by
  intro L
  induction L with
  | nil => exact fun v => ⟨⟨fun _ => rfl, fun _ => rfl⟩, fun i e => by cases e⟩
  | cons e r ih =>
    obtain ⟨a, z⟩ := e
    intro v
    have ix : ixE sp ((a, z) :: r) v = if sp a v = true then some r.length else ixE sp r v := rfl
    have lo : loE sp ((a, z) :: r) (v : Nat) = if sp a (v : Int).toNat = true then some (slE r z, z) else loE sp r (v : Nat) := rfl
    rw [ix, lo, Int.toNat_natCast]
    by_cases c : sp a v = true
    · rw [if_pos c, if_pos c]
      refine ⟨⟨fun e => (by cases e), fun e => (by cases e)⟩, fun i e => ?_⟩
      cases e
      exact ⟨a, z, r, by rw [show ((a, z) :: r).length - 1 - r.length = 0 from by show r.length + 1 - 1 - r.length = 0; omega]; rfl, rfl, rfl, by show r.length < r.length + 1; omega⟩
    · rw [if_neg c, if_neg c]
      refine ⟨(ih v).1, fun i e => ?_⟩
      obtain ⟨a', z', r', h1, h2, h3, h4⟩ := (ih v).2 i e
      refine ⟨a', z', r', ?_, h2, h3, by show i < r.length + 1; omega⟩
      rw [show ((a, z) :: r).length - 1 - i = (r.length - 1 - i) + 1 from by show r.length + 1 - 1 - i = _; omega]
      exact h1
theorem enR_d : ∀ (L : cen) b i a z r, enR h nm X bs id L b → L.drop (L.length - 1 - i) = (a, z) :: r → r.length = i → i < L.length → mh_i h 111 (bs + i) = Int32.ofNat z ∧ z < 100000 := by
  intro L
  induction L with
  | nil => intro b i a z r _ _ _ h; exact absurd h (Nat.not_lt_zero _)
  | cons e l ih =>
    obtain ⟨a0, z0⟩ := e
    intro b i a z r w e1 e2 hi
    obtain ⟨⟨w1, w2, w3, w4, w5, -⟩, w7⟩ := w
    have hi' : i < l.length + 1 := hi
    by_cases c : i = l.length
    · rw [show ((a0, z0) :: l).length - 1 - i = 0 from by show l.length + 1 - 1 - i = 0; omega] at e1
      cases e1
      rw [c]
      exact ⟨w4, w5⟩
    · rw [show ((a0, z0) :: l).length - 1 - i = (l.length - 1 - i) + 1 from by show l.length + 1 - 1 - i = _; omega] at e1
      exact ih (b - 1) i a z r w7 e1 e2 (by omega)
/-- lookName -/
theorem c_341 (R : REN h nm X L b id bs) (hk : k < 26000) (ev : mh_i h 95 k = Int32.ofNat (nm v)) (kv : nm v < 100000) (hq : ∀ a z, (a, z) ∈ L → (nm a = nm v ↔ sp a v = true)) (e0 : mh_i h 81 47 = 0) {ar : Bool} : ∀ Q, mcall (d + 1) 341 [.ref 81, .int (Int32.ofNat k), .int (kb ar)] h Q = if lkW (loE sp L) (v : Nat) ar = 0 then Q (some (.int 1)) h else Q (some (.int 0)) (wrH h (Int32.ofNat (lkW (loE sp L) (v : Nat) ar)) (mh_i h 94 k)) := by
  intro Q
  have F := R.F
  have g := F.g 81 14 70 (by decide +kernel)
  have r21 := F.f 81 21 95 (by decide +kernel)
  have g21 := F.g 95 100 26000 (by decide +kernel)
  have l21 := F.l 95 100 26000 (by decide +kernel)
  have r40 := F.f 81 40 111 (by decide +kernel)
  have g40 := F.g 111 100 40 (by decide +kernel)
  have l40 := F.l 111 100 40 (by decide +kernel)
  have hl := R.l
  have a0 := c_340 (d := d) (sp := sp) (v := v) R kv hq
  obtain ⟨x1, x2⟩ := ix_lo (sp := sp) L v
  have w1 := c_335 (d := d) (k := k) (w := 1) F hk e0
  have w3 := c_335 (d := d) (k := k) (w := 3) F hk e0
  have m1 : ((-1 : Int32) = -1) = True := eq_true rfl
  have k1 : kb true = 1 := rfl
  have k0 : kb false = 0 := rfl
  have n1 : ((1 : Int32) = 0) = False := by decide
  have n10 : ((0 : Int32) = 1) = False := by decide
  have z0 : ((0 : Int32) = 0) = True := eq_true rfl
  have z1 : ((1 : Int32) = 1) = True := eq_true rfl
  cases hx : ixE sp L v with
  | none =>
    rw [hx] at a0
    have lw : lkW (loE sp L) (v : Nat) ar = 1 := by unfold lkW; rw [x1.mp hx]
    rw [lw, if_neg (by decide)]
    have i1 : Int32.ofNat 1 = 1 := rfl
    rw [i1]
    clear R F
    simp (disch := omega) only [s_341_0, s_341_1, s_341_2, s_341_5, s_341_6, s_341_7, s_341_10, s_341_11, s_341_12, s_341_13, s_341_16, s_341_17, s_341_18, s_341_19, s_341_22, s_341_25, s_341_26, s_341_29, s_341_30, s_341_31, s_341_34, s_341_35, s_341_38, s_341_39, s_341_40, s_341_43, s_341_44, s_341_45, s_341_46, s_341_49, s_341_52, s_341_53, s_341_56, s_341_57, e_341, mv_i_1, mv_l_1, mv_a_1, mv_a_2, mv_a_3, mk2_n, mk2_i, mk2_l, mk2_a, mk2_u, mk2_x, mB_T, mB_F, mS_cons, mS_nil, mSB_T, mSB_F, mca_nil, mca_i, mca_l, mca_r, mca_u, mca_x, mcat_i, mcat_l, mcat_r, mcat_u, mcat_x, mK_some, mK_none, va_rf_s, va_rf_n, lgc_eq, lgc_lt, lgc_gt, lgc_ge, lgc_le, mrd_104, mrd_105, mrd_106, mrd_107, true_and, and_true, and_self, false_and, and_false, true_or, or_true, false_or, or_false, not_true_eq_false, not_false_eq_true, mgb, mga, mgr, mN, reduceCtorEq, ↓reduceIte, eq_self, ge_iff_le, gt_iff_lt, Nat.reduceAdd, Nat.reduceMul, Nat.reduceSub, Nat.reduceLT, Nat.reduceGT, Nat.reduceEqDiff, Nat.reduceLeDiff, Nat.left_eq_add, Nat.add_eq_left, Nat.reduceMod, Nat.reduceDiv, Nat.succ_ne_self, g, r21, g21, l21, ev, nn_mxT, nn_clamp, a0, m1, w1]
  | some i =>
    rw [hx] at a0
    obtain ⟨a, z, r, h1, h2, h3, h4⟩ := x2 i hx
    obtain ⟨e1, e2⟩ := enR_d L b i a z r R.n h1 h2 h4
    have ni : (Int32.ofNat (bs + i) = -1) = False := nn_m2 (by omega)
    have zle : (Int32.ofNat z ≤ 0) = (z = 0) := by
      rw [show (0 : Int32) = Int32.ofNat 0 from rfl, nn_le (by omega) (by omega)]
      exact propext ⟨fun q => by omega, fun q => by omega⟩
    have lw : lkW (loE sp L) (v : Nat) ar = if ar = true then (if 0 < z then 0 else 3) else (if 0 < z then 3 else 0) := by unfold lkW; rw [h3]
    rw [lw]
    have i3 : Int32.ofNat 3 = 3 := rfl
    clear R F
    cases ar with
    | true =>
      have q1 : (if (true = true) then (if 0 < z then 0 else 3) else (if 0 < z then 3 else 0)) = (if 0 < z then 0 else 3) := if_pos rfl
      rw [q1, k1]
      by_cases c : z = 0
      · have c' := zle.trans (eq_true c)
        rw [if_neg (show ¬ 0 < z by omega), if_neg (by decide), i3]
        simp (disch := omega) only [s_341_0, s_341_1, s_341_2, s_341_5, s_341_6, s_341_7, s_341_10, s_341_11, s_341_12, s_341_13, s_341_16, s_341_17, s_341_18, s_341_19, s_341_22, s_341_25, s_341_26, s_341_29, s_341_30, s_341_31, s_341_34, s_341_35, s_341_38, s_341_39, s_341_40, s_341_43, s_341_44, s_341_45, s_341_46, s_341_49, s_341_52, s_341_53, s_341_56, s_341_57, e_341, mv_i_1, mv_l_1, mv_a_1, mv_a_2, mv_a_3, mk2_n, mk2_i, mk2_l, mk2_a, mk2_u, mk2_x, mB_T, mB_F, mS_cons, mS_nil, mSB_T, mSB_F, mca_nil, mca_i, mca_l, mca_r, mca_u, mca_x, mcat_i, mcat_l, mcat_r, mcat_u, mcat_x, mK_some, mK_none, va_rf_s, va_rf_n, lgc_eq, lgc_lt, lgc_gt, lgc_ge, lgc_le, mrd_104, mrd_105, mrd_106, mrd_107, true_and, and_true, and_self, false_and, and_false, true_or, or_true, false_or, or_false, not_true_eq_false, not_false_eq_true, mgb, mga, mgr, mN, reduceCtorEq, ↓reduceIte, eq_self, ge_iff_le, gt_iff_lt, Nat.reduceAdd, Nat.reduceMul, Nat.reduceSub, Nat.reduceLT, Nat.reduceGT, Nat.reduceEqDiff, Nat.reduceLeDiff, Nat.left_eq_add, Nat.add_eq_left, Nat.reduceMod, Nat.reduceDiv, Nat.succ_ne_self, g, r21, g21, l21, r40, g40, l40, ev, e1, nn_mxT, nn_clamp, a0, ni, c', n10, w3, z0]
      · have c' := zle.trans (eq_false c)
        rw [if_pos (show 0 < z by omega), if_pos rfl]
        simp (disch := omega) only [s_341_0, s_341_1, s_341_2, s_341_5, s_341_6, s_341_7, s_341_10, s_341_11, s_341_12, s_341_13, s_341_16, s_341_17, s_341_18, s_341_19, s_341_22, s_341_25, s_341_26, s_341_29, s_341_30, s_341_31, s_341_34, s_341_35, s_341_38, s_341_39, s_341_40, s_341_43, s_341_44, s_341_45, s_341_46, s_341_49, s_341_52, s_341_53, s_341_56, s_341_57, e_341, mv_i_1, mv_l_1, mv_a_1, mv_a_2, mv_a_3, mk2_n, mk2_i, mk2_l, mk2_a, mk2_u, mk2_x, mB_T, mB_F, mS_cons, mS_nil, mSB_T, mSB_F, mca_nil, mca_i, mca_l, mca_r, mca_u, mca_x, mcat_i, mcat_l, mcat_r, mcat_u, mcat_x, mK_some, mK_none, va_rf_s, va_rf_n, lgc_eq, lgc_lt, lgc_gt, lgc_ge, lgc_le, mrd_104, mrd_105, mrd_106, mrd_107, true_and, and_true, and_self, false_and, and_false, true_or, or_true, false_or, or_false, not_true_eq_false, not_false_eq_true, mgb, mga, mgr, mN, reduceCtorEq, ↓reduceIte, eq_self, ge_iff_le, gt_iff_lt, Nat.reduceAdd, Nat.reduceMul, Nat.reduceSub, Nat.reduceLT, Nat.reduceGT, Nat.reduceEqDiff, Nat.reduceLeDiff, Nat.left_eq_add, Nat.add_eq_left, Nat.reduceMod, Nat.reduceDiv, Nat.succ_ne_self, g, r21, g21, l21, r40, g40, l40, ev, e1, nn_mxT, nn_clamp, a0, ni, c', z1]
    | false =>
      have q0 : (if (false = true) then (if 0 < z then 0 else 3) else (if 0 < z then 3 else 0)) = (if 0 < z then 3 else 0) := if_neg (by decide)
      rw [q0, k0]
      by_cases c : z = 0
      · have c' := zle.trans (eq_true c)
        rw [if_neg (show ¬ 0 < z by omega), if_pos rfl]
        simp (disch := omega) only [s_341_0, s_341_1, s_341_2, s_341_5, s_341_6, s_341_7, s_341_10, s_341_11, s_341_12, s_341_13, s_341_16, s_341_17, s_341_18, s_341_19, s_341_22, s_341_25, s_341_26, s_341_29, s_341_30, s_341_31, s_341_34, s_341_35, s_341_38, s_341_39, s_341_40, s_341_43, s_341_44, s_341_45, s_341_46, s_341_49, s_341_52, s_341_53, s_341_56, s_341_57, e_341, mv_i_1, mv_l_1, mv_a_1, mv_a_2, mv_a_3, mk2_n, mk2_i, mk2_l, mk2_a, mk2_u, mk2_x, mB_T, mB_F, mS_cons, mS_nil, mSB_T, mSB_F, mca_nil, mca_i, mca_l, mca_r, mca_u, mca_x, mcat_i, mcat_l, mcat_r, mcat_u, mcat_x, mK_some, mK_none, va_rf_s, va_rf_n, lgc_eq, lgc_lt, lgc_gt, lgc_ge, lgc_le, mrd_104, mrd_105, mrd_106, mrd_107, true_and, and_true, and_self, false_and, and_false, true_or, or_true, false_or, or_false, not_true_eq_false, not_false_eq_true, mgb, mga, mgr, mN, reduceCtorEq, ↓reduceIte, eq_self, ge_iff_le, gt_iff_lt, Nat.reduceAdd, Nat.reduceMul, Nat.reduceSub, Nat.reduceLT, Nat.reduceGT, Nat.reduceEqDiff, Nat.reduceLeDiff, Nat.left_eq_add, Nat.add_eq_left, Nat.reduceMod, Nat.reduceDiv, Nat.succ_ne_self, g, r21, g21, l21, r40, g40, l40, ev, e1, nn_mxT, nn_clamp, a0, ni, c', z0]
      · have c' := zle.trans (eq_false c)
        rw [if_pos (show 0 < z by omega), if_neg (by decide), i3]
        simp (disch := omega) only [s_341_0, s_341_1, s_341_2, s_341_5, s_341_6, s_341_7, s_341_10, s_341_11, s_341_12, s_341_13, s_341_16, s_341_17, s_341_18, s_341_19, s_341_22, s_341_25, s_341_26, s_341_29, s_341_30, s_341_31, s_341_34, s_341_35, s_341_38, s_341_39, s_341_40, s_341_43, s_341_44, s_341_45, s_341_46, s_341_49, s_341_52, s_341_53, s_341_56, s_341_57, e_341, mv_i_1, mv_l_1, mv_a_1, mv_a_2, mv_a_3, mk2_n, mk2_i, mk2_l, mk2_a, mk2_u, mk2_x, mB_T, mB_F, mS_cons, mS_nil, mSB_T, mSB_F, mca_nil, mca_i, mca_l, mca_r, mca_u, mca_x, mcat_i, mcat_l, mcat_r, mcat_u, mcat_x, mK_some, mK_none, va_rf_s, va_rf_n, lgc_eq, lgc_lt, lgc_gt, lgc_ge, lgc_le, mrd_104, mrd_105, mrd_106, mrd_107, true_and, and_true, and_self, false_and, and_false, true_or, or_true, false_or, or_false, not_true_eq_false, not_false_eq_true, mgb, mga, mgr, mN, reduceCtorEq, ↓reduceIte, eq_self, ge_iff_le, gt_iff_lt, Nat.reduceAdd, Nat.reduceMul, Nat.reduceSub, Nat.reduceLT, Nat.reduceGT, Nat.reduceEqDiff, Nat.reduceLeDiff, Nat.left_eq_add, Nat.add_eq_left, Nat.reduceMod, Nat.reduceDiv, Nat.succ_ne_self, g, r21, g21, l21, r40, g40, l40, ev, e1, nn_mxT, nn_clamp, a0, ni, c', n1, w3, z0]
end RNs
