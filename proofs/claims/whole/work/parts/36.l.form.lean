set_option maxRecDepth 100000
/-! Analysis.set -/
theorem OT_le {A : ab} (hT : ab_T A) {ps : List pa} {sk : Nat → Bool} {a b : Int} (hr : ∀ i, i < ps.length → pqL ps i ≤ pqH ps i) (hU : ∀ i, i < ps.length → pqF ps i = true → pqU ps i < 2 * A.n) (h : OT (a_gr A) ps sk a b) : a ≤ b := by
  by_cases c : pq2 ps sk
  · obtain ⟨i, j, ij, hj, ci, cj⟩ := n64_2 c.1
    obtain ⟨e1, e2⟩ := h.1 c i j ij hj ci cj
    have u1 := hU i (by omega) (c.2 i (by omega) ci)
    have u2 := hU j hj (c.2 j hj cj)
    have key : 0 ≤ a_gr A (oc_b (pqU ps i)) (oc_b (pqU ps j)) + a_gr A (pqU ps i) (pqU ps j) := by
      generalize pqU ps i = v at *
      generalize pqU ps j = w at *
      have C := hT.t.1
      have tri := hT.t.2.1
      unfold a_gr
      by_cases e : v = w
      · subst e
        rw [if_pos rfl, if_pos rfl, oc_bb]
        have d1 := C.1 v u1
        have d2 := tri (oc_b v) (oc_bl u1) v v u1 u1
        have e1 := hT.t.2.2.1 v u1
        have e2 := hT.t.2.2.1 (oc_b v) (oc_bl u1)
        rw [oc_bb] at e2
        omega
      · rw [if_neg e, if_neg (fun z => e (oc_bi.mp z)), oc_bb]
        have d1 := C.1 w u2
        have d2 := tri (oc_b v) (oc_bl u1) w w u2 u2
        have d3 := C.2 (oc_b w) v (oc_bl u2) u1
        rw [oc_bb] at d3
        omega
    omega
  · obtain ⟨e1, e2⟩ := h.2 c
    rw [e1, e2]
    refine sI_le _ (fun i hi => ?_)
    split
    · exact Int.le_refl _
    · exact hr i hi
section WRo
variable {d : Nat} {h h1 h2 X : mh_H} {T N H to : Nat} {sN : Int → Prop} {en : Int → Nat} {A : ab} {PQ PS PU PF PL PH lP : Nat} {PQ1 PS1 PU1 PF1 PL1 PH1 lP1 : Nat} {l : List (Nat × Bool × tr)}
theorem rs_PP {q : Nat} (P : PR h PQ PS PU PF PL PH lP) (x : PP h PQ PS PU PF PL PH q en l h1 PQ1 PS1 PU1 PF1 PL1 PH1 lP1) : rs (fun _ _ => False) h h1 := by
  refine ⟨fR_w x.f (fun b j _ w => ?_), fun z hz => ?_⟩
  · unfold pW at w
    rcases w with w | w
    · exact Or.inl ⟨w.1, by omega, by omega⟩
    · exact Or.inr (Or.inl ((PR_pa P).mpr (by rcases w with w | w | w <;> simp [w])))
  · obtain ⟨w1, w2, w3, w4, w5, w6⟩ := x.w
    have pa : ∀ X X', pNew h X X' → (X = PQ ∨ X = PS ∨ X = PU ∨ X = PF ∨ X = PL ∨ X = PH) → paR h X' ∨ mh_n h ≤ X' := fun X X' w hX => by
      rcases w with w | w
      · rw [w]; exact Or.inl ((PR_pa P).mpr hX)
      · exact Or.inr w
    rcases (PR_pa x.P).mp hz with e | e | e | e | e | e
    · rw [e]; exact pa PQ PQ1 w1 (by simp)
    · rw [e]; exact pa PS PS1 w2 (by simp)
    · rw [e]; exact pa PU PU1 w3 (by simp)
    · rw [e]; exact pa PF PF1 w4 (by simp)
    · rw [e]; exact pa PL PL1 w5 (by simp)
    · rw [e]; exact pa PH PH1 w6 (by simp)
/-- parts, then weighed -/
theorem wr_of (J : RJ h T sN en) (P : PR h PQ PS PU PF PL PH lP) (x : PP h PQ PS PU PF PL PH 0 en l h1 PQ1 PS1 PU1 PF1 PL1 PH1 lP1) (r23 : mh_r h 115 23 = some N) (sN' : sp h N) (k : RK h N (some A)) (hT : ab_T A) (hl : ∀ e ∈ l, pgP (mh_i h 93) (mh_i h 95) (mh_i h 97) sN en A 0 26000 H e ∧ (ev en A e.2.2 none).1 ≠ none) (hm : l.length ≤ 12000) (hd : 2 * H + 7 ≤ d) : ∃ h2, rs (fun _ _ => False) h h2 ∧ RJ h2 T sN en ∧ WR h2 T sN en N A l H PQ1 PS1 PU1 PF1 PL1 PH1 lP1 ∧ mh_i h2 115 24 = mh_i h 115 24 ∧ ∀ Q, mcall d 244 [.ref 115] h1 Q = Q none h2 := by
  have v : vK h (fun _ _ => False) := fun _ _ w => absurd w (fun z => z)
  have x1 := rs_PP P x
  have J1 := RJ_0 J x1 ⟨_, _, _, _, _, _, _, x.P⟩
  have r1 := (rs_lo J v x1 (b := 115) J.a.g (by omega) (j := 23) (by omega)).2.2
  have k1 := rs_K J x1 sN' (fun _ _ _ w => w) k
  obtain ⟨t1, t2, t3⟩ := rs_tr J v x1
  have P1 := x.P
  have s1 := (rs_s J v x1 (o := N)).mpr sN'
  have c1 := x.c
  have b1 := x.b
  rw [Nat.zero_add] at c1 b1
  have nr := x.n
  have hN : ∀ y, y ≤ 4 → ∀ j, ¬ wgW PF1 PL1 PH1 (N + y) j := fun y hy j w => by
    have np := sp_pa P1 s1 hy
    unfold wgW at w
    rcases w with w | w
    · obtain ⟨i, hi⟩ := sN'
      have := (J.s i N hi).1
      omega
    · exact np ((PR_pa P1).mpr (by rcases w with w | w | w <;> simp [w]))
  obtain ⟨h2, f, al, vv, ev'⟩ := u_244 (d := d) (l := l) (H := H) J1.a (r1.trans r23) k1 hT P1 hN c1 b1 (fun i e he => by have := nr i e he; rw [Nat.zero_add] at this; exact this) (by rw [t1, t2, t3]; exact hl) hd
  have x2 : rs (fun _ _ => False) h1 h2 := rs_of (fR_w f (fun b j _ w => by
    unfold wgW at w
    rcases w with w | w
    · exact Or.inl ⟨w.1, by omega, by omega⟩
    · exact Or.inr (Or.inl ((PR_pa P1).mpr (by rcases w with w | w | w <;> simp [w]))))) (fun j j1 j2 => fz_r f.1 J1.a.g (fun w => by
    unfold wgW at w
    have n4 := P1.n PF1 (by simp)
    have n5 := P1.n PL1 (by simp)
    have n6 := P1.n PH1 (by simp)
    omega))
  obtain ⟨a2, P2, ⟨q1, q2, q3⟩, r2, c2, RQ, RS', RU⟩ := wg_st J1.a P1 f.1
  have v1 : vK h1 (fun _ _ => False) := fun _ _ w => absurd w (fun z => z)
  have J2 := RJ_0 J1 x2 ⟨_, _, _, _, _, _, _, P2⟩
  have al0 : mh_i h1 115 24 = mh_i h 115 24 := fz_i x.f.1 J.a.g (fun w => by
    unfold pW at w
    have n1 := P.n PQ (by simp)
    have n2 := P.n PS (by simp)
    have n3 := P.n PU (by simp)
    omega)
  refine ⟨h2, rs_t x1 x2, J2, ⟨a2, P2, r2.trans (r1.trans r23), rs_K J1 x2 s1 (fun _ _ _ w => w) k1, hT, c2.trans c1, b1, hm, fun i e he => ?_, vv, by rw [q1, q2, q3, t1, t2, t3]; exact hl⟩, al.trans al0, ev'⟩
  have := nr i e he
  rw [Nat.zero_add] at this
  rw [RQ, RS', RU]; exact this
/-- what changes the analysis' low and high, and one Known -/
def tW (to b j : Nat) : Prop := (b = 115 ∧ 25 ≤ j ∧ j ≤ 26) ∨ kc to b
theorem tW_rs (J : RJ h T sN en) (s : sp h to) (x : fR (tW to) h X) : rs (fun b _ => kc to b) h X := rs_of (fR_w x (fun b j _ w => by
  rcases w with w | w
  · exact Or.inl ⟨w.1, by omega, by omega⟩
  · exact Or.inr (Or.inr w))) (fun j j1 j2 => fz_r x.1 J.a.g (fun w => by
  obtain ⟨i, hi⟩ := s
  have := (J.s i to hi).1
  unfold tW kc at w
  omega))
theorem tW_t (x : fR (tW to) h h1) (y : fR (tW to) h1 h2) : fR (tW to) h h2 := fR_t x y
theorem tW_aS {lo hi : Int64} : fR (tW to) h (aS h 115 (mh_i h 115 24) lo hi) := by
  refine ⟨⟨Nat.le_refl _, fun _ _ => ⟨rfl, rfl⟩, fun b j _ hw => ⟨?_, ?_, rfl⟩⟩, Int.le_refl _, Int.le_refl _⟩
  · rw [aS_i]
    split
    · next z => rw [z.1, z.2]
    · rfl
  · rw [aS_j, if_neg (fun z => hw (Or.inl ⟨z.1, by omega, by omega⟩)), if_neg (fun z => hw (Or.inl ⟨z.1, by omega, by omega⟩))]
theorem tW_k (x : fq (kW to) h h1) : fR (tW to) h h1 := fR_w (fR_fq x) (fun b _ _ w => Or.inr (by unfold kW at w; unfold kc; omega))
theorem RJ_tW (J : RJ h T sN en) (s : sp h to) (x : fR (tW to) h X) (k : ko X to) (P : PR h PQ PS PU PF PL PH lP) : RJ X T sN en ∧ PR X PQ PS PU PF PL PH lP := by
  have y := tW_rs J s x
  have P' := PR_k J s y (fun j j1 j2 => fz_r x.1 J.a.g (fun w => by
    obtain ⟨i, hi⟩ := s
    have := (J.s i to hi).1
    unfold tW kc at w
    omega)) P
  exact ⟨RJ_1 J s y ⟨_, _, _, _, _, _, _, P'⟩ k, P'⟩
theorem WR_tW (J : RJ h T sN en) (s : sp h to) (sN' : sp h N) (ne : N ≠ to) (x : fR (tW to) h X) (k : ko X to) (R : WR h T sN en N A l H PQ PS PU PF PL PH lP) : WR X T sN en N A l H PQ PS PU PF PL PH lP := by
  obtain ⟨J', P'⟩ := RJ_tW J s x k R.P
  have y := tW_rs J s x
  have v := vK_1 s
  have to2 : 2644 ≤ to := by
    obtain ⟨i, hi⟩ := s
    exact (J.s i to hi).1
  have g := J.a.g
  have pn : ∀ b, paR h b → ∀ j, ¬ tW to b j := fun b hb j w => by
    have n := R.P.n b ((PR_pa R.P).mp hb)
    unfold tW kc at w
    rcases w with w | w
    · omega
    · have e : b = to + (b - to) := by omega
      rw [e] at hb
      exact sp_pa R.P s (by omega) hb
  have pa : ∀ z, z = PQ ∨ z = PS ∨ z = PU ∨ z = PF ∨ z = PL ∨ z = PH → paR h z := fun z hz => (PR_pa R.P).mpr hz
  obtain ⟨t1, t2, t3⟩ := rs_tr J v y
  refine ⟨J'.a, P', ?_, rs_K J y sN' (fun y' hy _ w => kc_no J sN' s ne y' hy w) R.k, R.T, ?_, R.b, R.m, fun i e he => ?_, fun i hi => ?_, by rw [t1, t2, t3]; exact R.e⟩
  · rw [fz_r x.1 g (fun w => by unfold tW kc at w; omega)]; exact R.r23
  · rw [fz_i x.1 g (fun w => by unfold tW kc at w; omega)]; exact R.c
  · rw [fz_i x.1 R.P.g27 (pn PQ (pa PQ (by simp)) i), fz_i x.1 R.P.g28 (pn PS (pa PS (by simp)) i), fz_i x.1 R.P.g29 (pn PU (pa PU (by simp)) i)]
    exact R.rows i e he
  · rw [fz_i x.1 R.P.g30 (pn PF (pa PF (by simp)) i), fz_j x.1 R.P.g31 (pn PL (pa PL (by simp)) i), fz_j x.1 R.P.g32 (pn PH (pa PH (by simp)) i)]
    exact R.v i hi
end WRo
