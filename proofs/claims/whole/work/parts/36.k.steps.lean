set_option maxRecDepth 100000
/-! steps of the reference's analysis: its own fields, the rows of parts, and V -/
def paR (h : mh_H) (b : Nat) : Prop := ∃ j, 27 ≤ j ∧ j ≤ 32 ∧ mh_r h 115 j = some b
def rsW (V : Nat → Nat → Prop) (h : mh_H) (b j : Nat) : Prop := (b = 115 ∧ 24 ≤ j ∧ j ≤ 33) ∨ paR h b ∨ V b j
def rs (V : Nat → Nat → Prop) (h h' : mh_H) : Prop := fR (rsW V h) h h' ∧ ∀ x, paR h' x → paR h x ∨ mh_n h ≤ x
/-- a Known that the analysis works with -/
def sp (h : mh_H) (o : Nat) : Prop := ∃ i, mh_r h 119 i = some o
def KS (h : mh_H) : Prop := ∀ i a, mh_r h 119 i = some a → 2644 ≤ a ∧ ko h a
def kc (o b : Nat) : Prop := o ≤ b ∧ b ≤ o + 4
abbrev RJ (h : mh_H) (T : Nat) (sN : Int → Prop) (en : Int → Nat) : Prop := (AE h T sN en) ∧ (∃ PQ PS PU PF PL PH lP, PR h PQ PS PU PF PL PH lP) ∧ (KS h) ∧ (∀ i j a, mh_r h 119 i = some a → mh_r h 119 j = some a → i = j)
theorem RJ.a {h : mh_H} {T : Nat} {sN : Int → Prop} {en : Int → Nat} (q : RJ h T sN en) : AE h T sN en := q.1
theorem RJ.p {h : mh_H} {T : Nat} {sN : Int → Prop} {en : Int → Nat} (q : RJ h T sN en) : ∃ PQ PS PU PF PL PH lP, PR h PQ PS PU PF PL PH lP := q.2.1
theorem RJ.s {h : mh_H} {T : Nat} {sN : Int → Prop} {en : Int → Nat} (q : RJ h T sN en) : KS h := q.2.2.1
theorem RJ.i {h : mh_H} {T : Nat} {sN : Int → Prop} {en : Int → Nat} (q : RJ h T sN en) : ∀ i j a, mh_r h 119 i = some a → mh_r h 119 j = some a → i = j := q.2.2.2
section RSs
variable {V U : Nat → Nat → Prop} {h h1 h2 : mh_H} {T : Nat} {sN : Int → Prop} {en : Int → Nat} {PQ PS PU PF PL PH lP : Nat}
theorem rs_id : rs V h h := ⟨fR_id, fun _ hx => Or.inl hx⟩
theorem rs_t (x : rs V h h1) (y : rs V h1 h2) : rs V h h2 := by
  refine ⟨fR_n x.1 (fR_w y.1 (fun b j hb w => ?_)), fun z hz => ?_⟩
  · rcases w with w | w | w
    · exact Or.inl (Or.inl w)
    · rcases x.2 b w with q | q
      · exact Or.inl (Or.inr (Or.inl q))
      · exact Or.inr q
    · exact Or.inl (Or.inr (Or.inr w))
  · have := x.1.1.1
    rcases y.2 z hz with q | q
    · exact x.2 z q
    · exact Or.inr (by omega)
theorem rs_w (x : rs V h h1) (w : ∀ b j, b < mh_n h → V b j → U b j) : rs U h h1 := ⟨fR_w x.1 (fun b j hb z => by
  rcases z with z | z | z
  · exact Or.inl z
  · exact Or.inr (Or.inl z)
  · exact Or.inr (Or.inr (w b j hb z))), x.2⟩
/-- where the rows are the same cells -/
theorem rs_of (x : fR (rsW V h) h h1) (e : ∀ j, 27 ≤ j → j ≤ 32 → mh_r h1 115 j = mh_r h 115 j) : rs V h h1 := ⟨x, fun z hz => by
  obtain ⟨j, j1, j2, j3⟩ := hz
  exact Or.inl ⟨j, j1, j2, by rw [← e j j1 j2]; exact j3⟩⟩
theorem rs_fq {X : Nat → Prop} (x : fq X h h1) : rs (fun b _ => X b) h h1 := rs_of (fR_w (fR_fq x) (fun b j _ w => Or.inr (Or.inr w))) (fun j _ _ => by rw [x.2.2.1])
theorem rs_aS {al : Int32} {lo hi : Int64} : rs V h (aS h 115 al lo hi) := rs_of (fR_aS (fun j hj => Or.inl ⟨rfl, by omega, by omega⟩)) (fun j _ _ => rfl)
theorem rs_si {k : Nat} {v : Int32} (h1 : 24 ≤ k) (h2 : k ≤ 33) : rs V h (mh_si h 115 k v) := rs_of (fR_si (Or.inl ⟨rfl, h1, h2⟩)) (fun j _ _ => rfl)
theorem PR_pa (P : PR h PQ PS PU PF PL PH lP) {b : Nat} : paR h b ↔ b = PQ ∨ b = PS ∨ b = PU ∨ b = PF ∨ b = PL ∨ b = PH := by
  constructor
  · rintro ⟨j, j1, j2, j3⟩
    have : j = 27 ∨ j = 28 ∨ j = 29 ∨ j = 30 ∨ j = 31 ∨ j = 32 := by omega
    rcases this with e | e | e | e | e | e
    · rw [e, P.r27] at j3; cases j3; simp
    · rw [e, P.r28] at j3; cases j3; simp
    · rw [e, P.r29] at j3; cases j3; simp
    · rw [e, P.r30] at j3; cases j3; simp
    · rw [e, P.r31] at j3; cases j3; simp
    · rw [e, P.r32] at j3; cases j3; simp
  · rintro (e | e | e | e | e | e)
    · exact ⟨27, by omega, by omega, by rw [e]; exact P.r27⟩
    · exact ⟨28, by omega, by omega, by rw [e]; exact P.r28⟩
    · exact ⟨29, by omega, by omega, by rw [e]; exact P.r29⟩
    · exact ⟨30, by omega, by omega, by rw [e]; exact P.r30⟩
    · exact ⟨31, by omega, by omega, by rw [e]; exact P.r31⟩
    · exact ⟨32, by omega, by omega, by rw [e]; exact P.r32⟩
/-- V touches Knowns alone -/
def vK (h : mh_H) (V : Nat → Nat → Prop) : Prop := ∀ b j, V b j → ∃ o, sp h o ∧ kc o b
theorem vK_1 {o : Nat} (s : sp h o) : vK h (fun b _ => kc o b) := fun b _ w => ⟨o, s, w⟩
theorem rsW_no (J : RJ h T sN en) (v : vK h V) {b j : Nat} (w : rsW V h b j) : (b = 115 ∧ 24 ≤ j ∧ j ≤ 33) ∨ (124 ≤ b ∧ b ≤ 129) ∨ 2644 ≤ b := by
  obtain ⟨PQ, PS, PU, PF, PL, PH, lP, P⟩ := J.p
  rcases w with w | w | w
  · exact Or.inl w
  · exact Or.inr (P.n b ((PR_pa P).mp w))
  · obtain ⟨o, ⟨i, hi⟩, ho⟩ := v b j w
    have := (J.s i o hi).1
    unfold kc at ho
    exact Or.inr (Or.inr (by omega))
theorem rs_F (J : RJ h T sN en) (v : vK h V) (x : rs V h h1) : RF h1 := RF_fz x.1.1 J.a.F (fun j w => by have := rsW_no J v w; omega) (fun j hj w => by have := rsW_no J v w; simp at hj; omega) (fun p hp => ⟨fun j _ => ⟨fun w => by have := rsW_no J v w; omega, fun w => by have := rsW_no J v w; omega⟩, fun w => by have := rsW_no J v w; omega, fun w => by have := rsW_no J v w; omega⟩) (fun j _ w => by have := rsW_no J v w; omega)
theorem rs_A (J : RJ h T sN en) (v : vK h V) (x : rs V h h1) : AE h1 T sN en := AE_fz x.1.1 J.a (rs_F J v x) (fun w => by have := rsW_no J v w; omega) (fun w => by have := rsW_no J v w; omega) (fun w => by have := rsW_no J v w; omega) (fun w => by have := rsW_no J v w; omega) (fun j => ⟨fun w => by have := rsW_no J v w; omega, fun w => by have := rsW_no J v w; omega⟩)
/-- what lies below the analysis' own rows stays -/
theorem rs_lo (J : RJ h T sN en) (v : vK h V) (x : rs V h h1) {b c : Nat} (g : mg h b c) (hb : b < 124 ∨ (129 < b ∧ b < 2644)) {j : Nat} (hj : ¬ (b = 115 ∧ 24 ≤ j ∧ j ≤ 33)) : mh_i h1 b j = mh_i h b j ∧ mh_j h1 b j = mh_j h b j ∧ mh_r h1 b j = mh_r h b j := by
  have w : ¬ rsW V h b j := fun w => by have := rsW_no J v w; omega
  exact x.1.1.2.2 b j g.2 w
theorem rs_tr (J : RJ h T sN en) (v : vK h V) (x : rs V h h1) : mh_i h1 93 = mh_i h 93 ∧ mh_i h1 95 = mh_i h 95 ∧ mh_i h1 97 = mh_i h 97 := by
  exact ⟨funext fun j => (rs_lo J v x (J.a.F.g 93 102 26000 (by decide +kernel)) (by omega) (by omega)).1, funext fun j => (rs_lo J v x (J.a.F.g 95 100 26000 (by decide +kernel)) (by omega) (by omega)).1, funext fun j => (rs_lo J v x (J.a.F.g 97 100 26000 (by decide +kernel)) (by omega) (by omega)).1⟩
theorem rs_sp (J : RJ h T sN en) (v : vK h V) (x : rs V h h1) (i : Nat) : mh_r h1 119 i = mh_r h 119 i := (rs_lo J v x (J.a.F.g 119 106 2048 (by decide +kernel)) (by omega) (by omega)).2.2
theorem rs_s (J : RJ h T sN en) (v : vK h V) (x : rs V h h1) {o : Nat} : sp h1 o ↔ sp h o := by
  unfold sp
  constructor
  · rintro ⟨i, e⟩; exact ⟨i, by rw [← rs_sp J v x i]; exact e⟩
  · rintro ⟨i, e⟩; exact ⟨i, by rw [rs_sp J v x i]; exact e⟩
/-- other Knowns stay -/
theorem sp_pa (P : PR h PQ PS PU PF PL PH lP) {o : Nat} (s : sp h o) {y : Nat} (hy : y ≤ 4) : ¬ paR h (o + y) := fun w => by
  obtain ⟨i, hi⟩ := s
  have := (P.s i o hi).2 (o + y) ((PR_pa P).mp w)
  omega
theorem rs_K (J : RJ h T sN en) (x : rs V h h1) {o : Nat} (s : sp h o) (n : ∀ y, y ≤ 4 → ∀ j, ¬ V (o + y) j) {A : Option ab} (k : RK h o A) : RK h1 o A := by
  obtain ⟨PQ, PS, PU, PF, PL, PH, lP, P⟩ := J.p
  refine RK_fz x.1.1 (fun y hy j w => ?_) k
  rcases w with w | w | w
  · obtain ⟨i, hi⟩ := s
    have := (J.s i o hi).1
    omega
  · exact sp_pa P s hy w
  · exact n y hy j w
theorem kc_no (J : RJ h T sN en) {o p : Nat} (s : sp h o) (q : sp h p) (ne : o ≠ p) : ∀ y, y ≤ 4 → ¬ kc p (o + y) := by
  obtain ⟨i, hi⟩ := s
  obtain ⟨j, hj⟩ := q
  have k1 := (J.s i o hi).2
  have k2 := (J.s j p hj).2
  have n := ko_ap k2 k1 (fun z => ne z.symm)
  intro y hy w
  unfold kc at w
  have := n y (o + y - p) hy (by omega)
  omega
/-- all stays in order where one Known was changed -/
theorem RJ_1 (J : RJ h T sN en) {to : Nat} (s : sp h to) (x : rs (fun b _ => kc to b) h h1) (p : ∃ PQ PS PU PF PL PH lP, PR h1 PQ PS PU PF PL PH lP) (k : ko h1 to) : RJ h1 T sN en := by
  have v := vK_1 s
  refine ⟨rs_A J v x, p, fun i a hi => ?_, fun i j a hi hj => J.i i j a (by rw [← rs_sp J v x i]; exact hi) (by rw [← rs_sp J v x j]; exact hj)⟩
  rw [rs_sp J v x i] at hi
  obtain ⟨a1, ka⟩ := J.s i a hi
  refine ⟨a1, ?_⟩
  by_cases e : a = to
  · rw [e]; exact k
  · obtain ⟨PQ, PS, PU, PF, PL, PH, lP, P⟩ := J.p
    refine ko_fz x.1.1 (fun j w => ?_) ka
    rcases w with w | w | w
    · omega
    · exact sp_pa P ⟨i, hi⟩ (y := 0) (by omega) w
    · exact kc_no J ⟨i, hi⟩ s e 0 (by omega) w
/-- likewise where none was -/
theorem RJ_0 (J : RJ h T sN en) (x : rs (fun _ _ => False) h h1) (p : ∃ PQ PS PU PF PL PH lP, PR h1 PQ PS PU PF PL PH lP) : RJ h1 T sN en := by
  have v : vK h (fun _ _ => False) := fun _ _ w => absurd w (fun z => z)
  refine ⟨rs_A J v x, p, fun i a hi => ?_, fun i j a hi hj => J.i i j a (by rw [← rs_sp J v x i]; exact hi) (by rw [← rs_sp J v x j]; exact hj)⟩
  rw [rs_sp J v x i] at hi
  obtain ⟨a1, ka⟩ := J.s i a hi
  refine ⟨a1, ?_⟩
  obtain ⟨PQ, PS, PU, PF, PL, PH, lP, P⟩ := J.p
  refine ko_fz x.1.1 (fun j w => ?_) ka
  rcases w with w | w | w
  · omega
  · exact sp_pa P ⟨i, hi⟩ (y := 0) (by omega) w
  · exact w
/-- a Known's own step -/
theorem rs_k {o : Nat} (x : fq (kW o) h h1) : rs (fun b _ => kc o b) h h1 := rs_w (rs_fq x) (fun b _ _ w => by unfold kW at w; unfold kc; omega)
theorem PR_k (J : RJ h T sN en) {o : Nat} (s : sp h o) (x : rs (fun b _ => kc o b) h h1) (er : ∀ j, 27 ≤ j → j ≤ 32 → mh_r h1 115 j = mh_r h 115 j) (P : PR h PQ PS PU PF PL PH lP) : PR h1 PQ PS PU PF PL PH lP := by
  have g := J.a.g
  have v := vK_1 s
  have sp' := rs_sp J v x
  have z := x.1.1
  obtain ⟨r27, r28, r29, r30, r31, r32, g27, g28, g29, g30, g31, g32, l27, l28, l29, l30, l31, l32, d1, d2, d3, d4, n, s', c, b⟩ := P
  refine ⟨by rw [er 27 (by omega) (by omega)]; exact r27, by rw [er 28 (by omega) (by omega)]; exact r28, by rw [er 29 (by omega) (by omega)]; exact r29, by rw [er 30 (by omega) (by omega)]; exact r30, by rw [er 31 (by omega) (by omega)]; exact r31, by rw [er 32 (by omega) (by omega)]; exact r32, fz_mg z g27, fz_mg z g28, fz_mg z g29, fz_mg z g30, fz_mg z g31, fz_mg z g32, by rw [fz_l z g27]; exact l27, by rw [fz_l z g28]; exact l28, by rw [fz_l z g29]; exact l29, by rw [fz_l z g30]; exact l30, by rw [fz_l z g31]; exact l31, by rw [fz_l z g32]; exact l32, d1, d2, d3, d4, n, fun i a hi => ?_, c, b⟩
  rw [sp' i] at hi
  exact ⟨Nat.lt_of_lt_of_le (s' i a hi).1 z.1, (s' i a hi).2⟩
end RSs
