set_option maxRecDepth 100000
/-! THE CLASS'S lay IS lyT -/
section LBs
variable {D : lyD} {Pt : Nat → lpt} {M : Nat}
/-- the statements of points are among the source's -/
theorem LYR_sb (HF : ∀ g, g < D.c → D.S g + stLq (D.FT g) ≤ M) : ∀ f fb t k w s p e L b X, LYR D Pt f fb t k w s p e L b X → X.fu < D.c → s + stLq t ≤ M → ∀ q, p ≤ q → q < e → (Pt q).S < M := by
  intro f
  induction f with
  | zero =>
    intro fb t k w s p e L b X y hX hM q h1 h2
    cases t with
    | leaf _ => exact absurd (show p = e from y) (by omega)
    | branch n cs r => exact absurd y (fun z => z)
  | succ f ih =>
    intro fb t k w s p e L b X y hX hM q h1 h2
    cases t with
    | leaf _ => exact absurd (show p = e from y) (by omega)
    | branch n cs r =>
      obtain ⟨⟨y1, y1'⟩, ⟨a1, a2, a3, a4, a5, a6, a7, a8⟩, ⟨y3, y4⟩, y5, y6, y7⟩ := y
      rw [stLq_S] at hM
      have pS : 0 < stS n cs := stLq_1 (.branch n cs (.leaf ())) (by show 0 < 1 + ts cs + 0; omega)
      by_cases c0 : q = p
      · subst c0
        omega
      · by_cases c1 : (Pt p).E ≤ q
        · exact ih _ _ _ _ _ _ _ _ _ _ y7 hX (by omega) q c1 h2
        · have lt : q < (Pt p).E := by omega
          rcases y6 with ⟨kk, a, ff, t, g, ec, -, gX, z⟩ | ⟨kk, c, cc, b1, bs1, q', ec, z1, z2, z3, z4⟩ | ⟨kk, c, cc, b1, bs1, ec, z⟩ | ⟨-, -, -, z⟩
          · exact ih _ _ _ _ _ _ _ _ _ _ z (by show g < D.c; omega) (HF g (by omega)) q (by omega) lt
          · subst ec
            rcases z4 with ⟨eq, z4⟩ | ⟨b2, bs2, eq, z4⟩
            · subst eq
              have es : stS n (.branch c cc (.branch b1 bs1 (.leaf ()))) = 1 + stLq bs1 + 0 := stLq_8l kk
              exact ih _ _ _ _ _ _ _ _ _ _ z3 hX (by omega) q (by omega) (by omega)
            · subst eq
              have es : stS n (.branch c cc (.branch b1 bs1 (.branch b2 bs2 (.leaf ())))) = 1 + stLq bs1 + stLq bs2 + 0 := stLq_8 kk
              by_cases c2 : q < (Pt p).M
              · exact ih _ _ _ _ _ _ _ _ _ _ z3 hX (by omega) q (by omega) c2
              · exact ih _ _ _ _ _ _ _ _ _ _ z4 hX (by omega) q (by omega) lt
          · subst ec
            have es : stS n (.branch c cc (.branch b1 bs1 (.leaf ()))) = 1 + stLq bs1 + 0 := stLq_9 kk
            exact ih _ _ _ _ _ _ _ _ _ _ z hX (by omega) q (by omega) lt
          · omega
/-- what points of a layout are, all of it -/
theorem LYR_bd {f : Nat} {fb : Bool} {t : tr} {k w s p e : Nat} {L : cen} {b : Nat} {X : lcx} (y : LYR D Pt f fb t k w s p e L b X) {q : Nat} (h1 : p ≤ q) (h2 : q < e) : (q < (Pt q).E ∧ (Pt q).E ≤ (Pt q).B ∧ (Pt q).B ≤ e) ∧ (tK (Pt q).N = 8 → q < (Pt q).M ∧ (Pt q).M ≤ (Pt q).E) := by
  obtain ⟨hB, f', fb', r, b', z⟩ := LYR_at _ _ _ _ _ _ _ _ _ _ _ y q h1 h2
  obtain ⟨-, -, ⟨z3, z4⟩, -, z6, -⟩ := z
  refine ⟨⟨z3, z4, hB⟩, fun k8 => ?_⟩
  rcases z6 with ⟨kk, -⟩ | ⟨-, c, cc, b1, bs1, q', -, m1, m2, -⟩ | ⟨kk, -⟩ | ⟨-, n8, -⟩
  · omega
  · exact ⟨m1, m2⟩
  · omega
  · exact absurd k8 n8
theorem stN_3 {sp : Nat → Nat → Bool} {s : cps} {nf : Nat} {rec : tr → Nat → Nat → cen → Prop} {n : Nat} {cs : tr} {k k' : Nat} {L : cen} {b : Nat} {rl : Bool} (h : stN sp s nf rec n cs k k' L b rl) : 3 ≤ tK n ∧ tK n ≤ 11 := by
  obtain ⟨-, h⟩ := h
  rcases h with ⟨v, -⟩ | ⟨v, -⟩ | ⟨v, -⟩ | ⟨v, -⟩ | ⟨v, -⟩ | ⟨v, -⟩ | ⟨v, -⟩ | ⟨v, -⟩ | ⟨v, -⟩ <;> omega
end LBs
/-- behind layEnd and link -/
def fLe (e : Nat) (h h' : mh_H) : Prop := mh_n h ≤ mh_n h' ∧ (∀ b, b < mh_n h → mh_k h' b = mh_k h b ∧ mh_l h' b = mh_l h b) ∧ (∀ b j, b < mh_n h → ¬ (((b = 21 ∨ b = 22) ∧ j = e) ∨ (b = 2 ∧ j = 2) ∨ (27 ≤ b ∧ b ≤ 29)) → mh_i h' b j = mh_i h b j ∧ mh_j h' b j = mh_j h b j) ∧ (∀ b j, b < mh_n h → ¬ (b = 20 ∧ j = e) → mh_r h' b j = mh_r h b j)
section LEm
variable {d : Nat} {h h1 h2 : mh_H} {B n m : Nat} {D : lyD} {Sf : cps} {Pt : Nat → lpt} {e r S : Nat} {L : cen} {X : lcx} {cl ta : Option Nat}
theorem ns_j {y j : Nat} : mh_j (nsH h) y j = if y = mh_n h then 0 else mh_j h y j := by
  unfold nsH
  simp only [hj_si, hj_new]
theorem le_j {y j : Nat} (hy : y < mh_n h) : mh_j (leH h e) y j = mh_j h y j := by
  unfold leH
  simp only [hj_si, hj_sr]
  rw [ns_j, if_neg (show ¬ y = mh_n h by omega)]
theorem fLe_le : fLe e h (leH h e) := by
  obtain ⟨-, -, n1, -⟩ := le_k (h := h) (e := e) (y := 0)
  refine ⟨by omega, fun b hb => ?_, fun b j hb w => ⟨le_i hb (fun z => w (Or.inl z)) (fun z => w (Or.inr (Or.inl z))), le_j hb⟩, fun b j hb w => by rw [le_r hb, if_neg w]⟩
  obtain ⟨k1, l1, -, -⟩ := le_k (h := h) (e := e) (y := b)
  rw [k1, l1, if_neg (by omega), if_neg (by omega)]
  exact ⟨rfl, rfl⟩
theorem fLe_G (x : fLe e h h1) (f : fG lnW h1 h2) : fLe e h h2 := by
  obtain ⟨x1, x2, x3, x4⟩ := x
  obtain ⟨f1, f2, f3, f4, f5, f6⟩ := f
  refine ⟨by omega, fun b hb => by rw [f1, f2]; exact x2 b hb, fun b j hb w => ?_, fun b j hb w => by rw [f3]; exact x4 b j hb w⟩
  obtain ⟨a1, a2⟩ := f6 b j (fun z => w (Or.inr (Or.inr z)))
  obtain ⟨b1, b2⟩ := x3 b j hb w
  exact ⟨a1.trans b1, a2.trans b2⟩
theorem fLe_g {b c : Nat} (x : fLe e h h1) (g : mg h b c) : mg h1 b c := by
  obtain ⟨g1, g2⟩ := g
  exact ⟨(x.2.1 b g2).1.trans g1, Nat.lt_of_lt_of_le g2 x.1⟩
theorem CF_e (x : fLe e h h1) (hN : 2644 ≤ mh_n h) (F : CF h) : CF h1 := by
  refine ⟨fun t ht => ⟨fLe_g x (F.k t ht).1, (x.2.1 _ (F.k t ht).1.2).2.trans (F.k t ht).2⟩, fun t ht => ?_⟩
  have hne : t.1 ≠ 20 := by
    have : ∀ t ∈ cfR, t.1 ≠ 20 := by decide +kernel
    exact this t ht
  have hlt : t.1 < 2644 := by
    have : ∀ t ∈ cfR, t.1 < 2644 := by decide +kernel
    exact this t ht
  rw [x.2.2.2 _ _ (by omega) (fun z => hne z.1)]
  exact F.r t ht
theorem CLC_e (x : fLe e h h1) (C : CLC h B n m D Sf) : CLC h1 B n m D Sf := by
  have hB := C.B
  obtain ⟨t1, t2, t3, t4, t5⟩ := C.t
  obtain ⟨s1, s2, s3, s4, s5⟩ := C.s
  obtain ⟨e1, e2, e3, e4⟩ := C.e
  have hN : 2644 ≤ mh_n h := by have := t2.2; omega
  have ii : ∀ b j c, B ≤ b → mg h b c → mh_i h1 b j = mh_i h b j := fun b j c hb g => (x.2.2.1 b j g.2 (by omega)).1
  have rr : ∀ b j c, B ≤ b → mg h b c → mh_r h1 b j = mh_r h b j := fun b j c hb g => x.2.2.2 b j g.2 (by omega)
  refine CLC.of ⟨CF_e x hN C.F, hB, ⟨(x.2.2.2 2 0 (by omega) (by omega)).trans t1, fLe_g x t2, (rr _ _ _ (by omega) t2).trans t3, fLe_g x t4, (x.2.1 _ t4.2).2.trans t5⟩, ⟨(x.2.2.2 2 1 (by omega) (by omega)).trans s1, fLe_g x s2, (rr _ _ _ (by omega) s2).trans s3, fLe_g x s4, (x.2.1 _ s4.2).2.trans s5⟩, ⟨(rr _ _ _ (by omega) s2).trans e1, fLe_g x e2, (x.2.1 _ e2.2).2.trans e3, (ii _ _ _ (by omega) s2).trans e4⟩, C.d, fun j => (ii _ _ _ (by omega) e2).trans (C.h j), fun t ht => ⟨(ii _ _ _ (by omega) t4).trans (C.p t ht).1, (C.p t ht).2⟩, fun i hi => ?_⟩
  obtain ⟨q1, q2, q3⟩ := C.q i hi
  exact ⟨(rr _ _ _ (by omega) s4).trans q1, fLe_g x q2, fun j => (ii _ _ _ (by omega) q2).trans (q3 j)⟩
theorem TKc_e (F : CF h) (x : fLe e h h1) (hN : 2644 ≤ mh_n h) (hc : ∀ c, cl = some c → c < e) (w : TKc h cl ta) : TKc h1 cl ta := by
  rcases w with w | ⟨c, Sq, w1, w2, w3, w4⟩
  · exact Or.inl w
  · have cp := hc c w1
    refine Or.inr ⟨c, Sq, w1, (x.2.2.2 20 c (by omega) (by omega)).trans w2, fLe_g x w3, ?_⟩
    have cy := st_cy F w3 8
    have e8 : mh_i h1 Sq 8 = mh_i h Sq 8 := (x.2.2.1 Sq 8 w3.2 (fun z => cy (by unfold cyW; omega))).1
    rw [e8]
    rcases w4 with w4 | ⟨sl, nq, y1, y2, y3, y4⟩
    · exact Or.inl w4
    · exact Or.inr ⟨sl, nq, y1, y2, ((x.2.2.1 21 c (by omega) (by omega)).1).trans y3, y4⟩
theorem CPo_e (F : CF h) (x : fLe e h h1) (hN : 2644 ≤ mh_n h) (hr : r < e) (w : CPo h B D S L X r) : CPo h1 B D S L X r := by
  obtain ⟨cl, c1, c2, c3⟩ := w.c
  have ii : ∀ b j, b ≤ 26 ∨ b = 30 → ¬ (b = 2) → (b = 21 ∨ b = 22 → j < e) → mh_i h1 b j = mh_i h b j := fun b j hb h2 hj => (x.2.2.1 b j (by omega) (by omega)).1
  exact CPo.of ⟨(x.2.2.2 20 r (by omega) (by omega)).trans w.s, (ii 21 r (by omega) (by omega) (by omega)).trans w.n, (ii 22 r (by omega) (by omega) (by omega)).trans w.a, ⟨cl, (ii 23 r (by omega) (by omega) (by omega)).trans c1, c2, TKc_e F x hN (fun c e => by have := c2 c e; omega) c3⟩, (ii 24 r (by omega) (by omega) (by omega)).trans w.o, fun y hy => (ii 30 _ (by omega) (by omega) (by omega)).trans (w.z y hy), fun y hy => (ii 30 _ (by omega) (by omega) (by omega)).trans (w.y y hy), w.b⟩
theorem CPz_e (F : CF h) (x : fLe e h h1) (hN : 2644 ≤ mh_n h) (w : CPz h B D Pt 0 e) : CPz h1 B D Pt 0 e := fun r r1 r2 => by
  obtain ⟨w1, w2, w3⟩ := w r r1 r2
  exact ⟨CPo_e F x hN r2 w1, ((x.2.2.1 26 r (by omega) (by omega)).1).trans w2, fun z => ((x.2.2.1 25 r (by omega) (by omega)).1).trans (w3 z)⟩
end LEm
