set_option maxRecDepth 100000
/-! the reference's rows at the points of a layout: nodes, what comes behind -/
/-- the node of a point, and its BLOCK -/
def NDq (h : mh_H) (nm : Nat → Nat) (Pt : Nat → lpt) (cnt q : Nat) : Prop := ∃ r zw, trR h nm (.branch (Pt q).N (Pt q).C r) (Pt q).K (Int32.ofNat (Pt q).W) ∧ mh_i h 97 (Pt q).W = Int32.ofNat zw ∧ (Pt q).K + 1 + ts (Pt q).C + ts r = (Pt q).W + zw ∧ (Pt q).W + zw ≤ cnt ∧ (Pt q).W < (Pt q).K ∧ (ts r = 0 ↔ (Pt q).E = (Pt q).B)
section NDs
variable {h : mh_H} {nm : Nat → Nat} {KN : Nat → Prop} {K : Nat → Int32} {D : lyD} {Pt : Nat → lpt} {FK : Nat → Nat} {T : tr} {m cnt e0 : Nat} {sp : Nat → Nat → Bool} {NL : List Nat}
theorem LYR_nd (C : RLC h nm KN D K m cnt FK T) : ∀ f fb t k w s p e L b X, LYR D Pt f fb t k w s p e L b X → X.fu < D.c → trR h nm t k (Int32.ofNat w) → (∃ zw, mh_i h 97 w = Int32.ofNat zw ∧ k + ts t = w + zw ∧ w + zw ≤ cnt ∧ w < k) → ∀ q, p ≤ q → q < e → NDq h nm Pt cnt q := by
  intro f
  induction f with
  | zero =>
    intro fb t k w s p e L b X y _ _ _ q h1 h2
    cases t with
    | leaf _ => exact absurd (show p = e from y) (by omega)
    | branch n cs r => exact absurd y (fun z => z)
  | succ f ih =>
    intro fb t k w s p e L b X y hX tR Z q h1 h2
    cases t with
    | leaf _ => exact absurd (show p = e from y) (by omega)
    | branch n cs r =>
      obtain ⟨⟨y1, y1'⟩, ⟨a1, a2, a3, a4, a5, a6, a7, a8⟩, ⟨y3, y4⟩, y5, y6, y7⟩ := y
      obtain ⟨zw, z1, z2, z3, z4⟩ := Z
      rw [ts_B] at z2
      have tR0 := tR
      obtain ⟨t1, t2, t3⟩ := tR
      by_cases c0 : q = p
      · subst c0
        refine ⟨r, zw, by rw [a1, a2, a6, a7]; exact tR0, by rw [a7]; exact z1, by rw [a6, a2, a7]; omega, by rw [a7]; exact z3, by rw [a6, a7]; exact z4, ?_⟩
        rw [a5]
        cases r with
        | leaf u =>
          have ee : (Pt q).E = e := by cases f <;> exact y7
          exact ⟨fun _ => ee, fun _ => rfl⟩
        | branch n2 cs2 r2 =>
          have lt : (Pt q).E < e := by
            cases f with
            | zero => exact absurd y7 (fun z => z)
            | succ f => exact y7.1.1
          exact ⟨fun z => by rw [ts_B] at z; omega, fun z => by omega⟩
      · by_cases c1 : (Pt p).E ≤ q
        · exact ih _ _ _ _ _ _ _ _ _ _ y7 hX t3 ⟨zw, z1, by omega, z3, by omega⟩ q c1 h2
        · have lt : q < (Pt p).E := by omega
          rcases y6 with ⟨kk, a, ff, t, g, ec, -, gX, z⟩ | ⟨kk, c, cc, b1, bs1, q', ec, m1, m2, z5, z6⟩ | ⟨kk, c, cc, b1, bs1, ec, z⟩ | ⟨-, -, -, z⟩
          · have FQ := C.f g (by omega)
            obtain ⟨f1, f2, f3⟩ := FQ.w
            exact ih _ _ _ _ _ _ _ _ _ _ z (by show g < D.c; omega) FQ.t ⟨1 + ts (D.FT g), FQ.s, by omega, by have := FQ.u; omega, by omega⟩ q (by omega) lt
          · subst ec
            obtain ⟨c1', c2', c3'⟩ := t2
            obtain ⟨⟨d1, d2, d3, d4, d5, d6⟩, d7, d8⟩ := c3'
            rw [ts_B, ts_B] at z2
            have e1 : k + 1 + 1 + ts cc = k + 2 + ts cc := by omega
            rw [e1] at d6 d7 d8
            by_cases c2 : q < (Pt p).M
            · exact ih _ _ _ _ _ _ _ _ _ _ z5 hX (by rw [show k + 3 + ts cc = k + 2 + ts cc + 1 from by omega]; exact d7) ⟨1 + ts bs1, d6, by omega, by omega, by omega⟩ q (by omega) c2
            · rcases z6 with ⟨eq, z6⟩ | ⟨b2, bs2, eq, z6⟩
              · omega
              · subst eq
                obtain ⟨⟨g1, g2, g3, g4, g5, g6⟩, g7, g8⟩ := d8
                rw [ts_B] at z2
                have e2 : k + 2 + ts cc + 1 + ts bs1 = k + 3 + ts cc + ts bs1 := by omega
                rw [e2] at g6 g7
                exact ih _ _ _ _ _ _ _ _ _ _ z6 hX (by rw [show k + 4 + ts cc + ts bs1 = k + 3 + ts cc + ts bs1 + 1 from by omega]; exact g7) ⟨1 + ts bs2, g6, by omega, by omega, by omega⟩ q (by omega) lt
          · subst ec
            obtain ⟨c1', c2', c3'⟩ := t2
            obtain ⟨⟨d1, d2, d3, d4, d5, d6⟩, d7, d8⟩ := c3'
            rw [ts_B, ts_B] at z2
            have e1 : k + 1 + 1 + ts cc = k + 2 + ts cc := by omega
            rw [e1] at d6 d7
            exact ih _ _ _ _ _ _ _ _ _ _ z hX (by rw [show k + 3 + ts cc = k + 2 + ts cc + 1 from by omega]; exact d7) ⟨1 + ts bs1, d6, by omega, by omega, by omega⟩ q (by omega) lt
          · omega
theorem trR_nd (hN : NL.length < 100000) : ∀ t k o, trR h (fun a => nix sp NL a) t k o → nd (mh_i h 93) (mh_i h 95) (mh_i h 97) k (rn sp NL t) := by
  intro t
  induction t with
  | leaf u => exact fun _ _ _ => trivial
  | branch n cs r ih1 ih2 =>
    intro k o w
    obtain ⟨⟨w1, w2, w3, w4, w5, w6⟩, w7, w8⟩ := w
    rw [rn_B]
    refine ⟨by rw [rn_K]; exact w1, ?_, by rw [ts_rn]; exact w6, ih1 _ _ w7, by rw [ts_rn]; exact ih2 _ _ w8⟩
    by_cases c : tK n = 13
    · rw [rn_V c, w3 c]
      have := nix_le (sp := sp) (t := (tV n).toNat) NL
      exact nn_int (show nix sp NL (tV n).toNat < 2147483648 by omega)
    · rw [rn_no c]
      exact w4 c
theorem tK64 {n : Nat} : tK n < 64 := by unfold tK; omega
/-- after(p) -/
theorem afr_of (he : e0 ≤ 249) (hcn : cnt ≤ 25000) (ND : ∀ q, q < e0 → NDq h nm Pt cnt q) (RP : PTz h nm Pt 0 e0) (ow : ∀ q o, q < e0 → (Pt q).X.ow = some o → o < q) (bd : ∀ q, q < e0 → (Pt q).E ≤ (Pt q).B) : ∀ N q, q < N → q < e0 → ∀ m, q < m → afr h (e0 + 1) m q (bh Pt e0 q) := by
  intro N
  induction N with
  | zero => exact fun q z => absurd z (Nat.not_lt_zero _)
  | succ N ih =>
    intro q hN hq m hm
    obtain ⟨r, zw, w1, w2, w3, w4, w5, w6⟩ := ND q hq
    obtain ⟨R, r102⟩ := RP q (Nat.zero_le _) hq
    obtain ⟨⟨x1, x2, x3, x4, x5, x6⟩, -⟩ := w1
    have b := bd q hq
    cases m with
    | zero => omega
    | succ m =>
      refine ⟨(Pt q).K, (Pt q).W, 1 + ts (Pt q).C, zw, by omega, R.k, by omega, x5, by omega, x6, w2, by omega, by omega, ?_⟩
      rw [bh_e ow hq]
      by_cases c : (Pt q).E < (Pt q).B
      · rw [if_pos c]
        have : ¬ ts r = 0 := fun z => by have := w6.mp z; omega
        exact Or.inl ⟨by omega, r102⟩
      · rw [if_neg c]
        have r0 : ts r = 0 := w6.mpr (by omega)
        refine Or.inr ⟨by omega, ?_⟩
        have o := R.o
        cases ho : (Pt q).X.ow with
        | none =>
          rw [ho] at o
          exact Or.inl ⟨o, rfl⟩
        | some u =>
          rw [ho] at o
          have lt := ow q u hq ho
          obtain ⟨Ru, -⟩ := RP u (Nat.zero_le _) (by omega)
          obtain ⟨r', zw', v1, v2, v3, v4, v5, v6⟩ := ND u (by omega)
          obtain ⟨⟨g1, -⟩, -⟩ := v1
          refine Or.inr ⟨u, (Pt u).K, tK (Pt u).N, by omega, o, Ru.k, by omega, tK64, g1, ?_⟩
          show (tK (Pt u).N = 9 ∧ (if tK (Pt u).N = 9 then u else bh Pt e0 u) = u) ∨ (¬ tK (Pt u).N = 9 ∧ afr h (e0 + 1) m u (if tK (Pt u).N = 9 then u else bh Pt e0 u))
          by_cases c9 : tK (Pt u).N = 9
          · rw [if_pos c9]
            exact Or.inl ⟨c9, rfl⟩
          · rw [if_neg c9]
            exact Or.inr ⟨c9, ih u (by omega) (by omega) m (by omega)⟩
/-- the first point of an else -/
theorem obF_of (he : e0 ≤ 249) (hcn : cnt ≤ 25000) (ND : ∀ q, q < e0 → NDq h nm Pt cnt q) (RP : PTz h nm Pt 0 e0) {p : Nat} (hp : p < e0) (hE : (Pt p).E ≤ e0) {c : Nat} {cc : tr} {b1 : Nat} {bs1 q : tr} (ec : (Pt p).C = .branch c cc (.branch b1 bs1 q)) {f' : Nat} {bs2 : tr} (z3 : LYR D Pt f' false bs1 ((Pt p).K + 3 + ts cc) ((Pt p).K + 2 + ts cc) ((Pt p).S + 1) (p + 1) (Pt p).M (Pt p).L 0 (lyB (Pt p).X p)) (z4 : LYR D Pt f' false bs2 ((Pt p).K + 4 + ts cc + ts bs1) ((Pt p).K + 3 + ts cc + ts bs1) ((Pt p).S + 1 + stLq bs1) (Pt p).M (Pt p).E (Pt p).L 0 (lyB (Pt p).X p)) (hM : p < (Pt p).M) (lt : (Pt p).M < (Pt p).E) : obF h p (Pt p).M := by
  obtain ⟨r, zw, w1, w2, w3, w4, w5, w6⟩ := ND p hp
  obtain ⟨R, r102⟩ := RP p (Nat.zero_le _) hp
  rw [ec] at w1 w3
  obtain ⟨x1, ⟨⟨u1, u2, u3, u4, u5, u6⟩, -, ⟨v1, v2, v3, v4, v5, v6⟩, -⟩, -⟩ := w1
  rw [ts_B, ts_B] at w3
  have e1 : (Pt p).K + 1 + 1 + ts cc = (Pt p).K + 2 + ts cc := by omega
  rw [e1] at v6
  refine ⟨(Pt p).K, 1 + ts cc, (Pt p).K + 2 + ts cc, 1 + ts bs1, by omega, by omega, R.k, by omega, u6, by omega, by omega, v6, fun j j1 j2 => ?_⟩
  obtain ⟨Rj, -⟩ := RP j (Nat.zero_le _) (by omega)
  obtain ⟨r', zw', y1, y2, y3, y4, y5, y6⟩ := ND j (by omega)
  obtain ⟨⟨-, -, -, -, g5, -⟩, -⟩ := y1
  refine ⟨(Pt j).K, Int32.ofNat (Pt j).W, Rj.k, by omega, g5, ?_⟩
  rw [Rj.o]
  by_cases cj : j = (Pt p).M
  · obtain ⟨l1, l2⟩ := LYR_1 z4 lt
    have hW : (Pt (Pt p).M).W = (Pt p).K + 3 + ts cc + ts bs1 := by
      rcases LYR_ow _ _ _ _ _ _ _ _ _ _ _ z4 (Pt p).M (Nat.le_refl _) lt with ⟨-, -, i⟩ | ⟨o, o1, o2⟩
      · exact i
      · have := o2.2.1
        omega
    rw [cj, l2, hW, show (Pt p).K + 2 + ts cc + (1 + ts bs1) = (Pt p).K + 3 + ts cc + ts bs1 from by omega]
    exact ⟨fun _ => rfl, fun _ => ⟨rfl, rfl⟩⟩
  · refine ⟨fun z => absurd z (fun z => ?_), fun z => absurd z cj⟩
    rcases LYR_ow _ _ _ _ _ _ _ _ _ _ _ z3 j (by omega) (by omega) with ⟨-, -, i⟩ | ⟨o, o1, o2⟩
    · have z2 := z.2
      rw [i, nn_eq (by omega) (by omega)] at z2
      omega
    · have z1 := z.1
      rw [o2.1] at z1
      have z1' : Int32.ofNat o = Int32.ofNat p := z1
      have := o2.2.1
      rw [nn_eq (by omega) (by omega)] at z1'
      omega
end NDs
