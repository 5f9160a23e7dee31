set_option maxRecDepth 100000
/-! who owns a point, and what comes behind it -/
def OWq (D : lyD) (Pt : Nat → lpt) (q o : Nat) : Prop := (Pt q).X.ow = some o ∧ o < q ∧ q < (Pt o).E ∧
  ((tK (Pt o).N = 7 ∧ (Pt q).B = (Pt o).E ∧ (Pt q).W = D.B (Pt q).X.fu) ∨
   (tK (Pt o).N = 8 ∧ ∃ c cc b1 bs1 qq, (Pt o).C = .branch c cc (.branch b1 bs1 qq) ∧ ((q < (Pt o).M ∧ (Pt q).B = (Pt o).M ∧ (Pt q).W = (Pt o).K + 2 + ts cc) ∨ ((Pt o).M ≤ q ∧ (Pt q).B = (Pt o).E ∧ (Pt q).W = (Pt o).K + 3 + ts cc + ts bs1))) ∨
   (tK (Pt o).N = 9 ∧ (Pt q).B = (Pt o).E ∧ ∃ c cc b1 bs1, (Pt o).C = .branch c cc (.branch b1 bs1 (.leaf ())) ∧ (Pt q).W = (Pt o).K + 2 + ts cc))
/-- what comes behind a point, where its BLOCK ends with it -/
def bhF (Pt : Nat → lpt) (e : Nat) : Nat → Nat → Nat
  | 0, _ => e
  | f + 1, q => if (Pt q).E < (Pt q).B then (Pt q).E else (match (Pt q).X.ow with
    | none => e
    | some o => if tK (Pt o).N = 9 then o else bhF Pt e f o)
def bh (Pt : Nat → lpt) (e q : Nat) : Nat := bhF Pt e (q + 1) q
def fstP (Pt : Nat → lpt) (e q : Nat) : Nat := if q + 1 < (if tK (Pt q).N = 8 then (Pt q).M else (Pt q).E) then q + 1 else if tK (Pt q).N = 9 then q else bh Pt e q
def othP (Pt : Nat → lpt) (e q : Nat) : Nat := if tK (Pt q).N = 8 ∧ (Pt q).M < (Pt q).E then (Pt q).M else bh Pt e q
section OWs
variable {D : lyD} {Pt : Nat → lpt}
theorem LYR_ow : ∀ f fb t k w s p e L b X, LYR D Pt f fb t k w s p e L b X → ∀ q, p ≤ q → q < e → ((Pt q).X = X ∧ (Pt q).B = e ∧ (Pt q).W = w) ∨ ∃ o, p ≤ o ∧ OWq D Pt q o := by
  intro f
  induction f with
  | zero =>
    intro fb t k w s p e L b X y q h1 h2
    cases t with
    | leaf _ => exact absurd (show p = e from y) (by omega)
    | branch n cs r => exact absurd y (fun z => z)
  | succ f ih =>
    intro fb t k w s p e L b X y q h1 h2
    cases t with
    | leaf _ => exact absurd (show p = e from y) (by omega)
    | branch n cs r =>
      obtain ⟨⟨y1, y1'⟩, ⟨a1, a2, a3, a4, a5, a6, a7, a8⟩, ⟨y3, y4⟩, y5, y6, y7⟩ := y
      by_cases c0 : q = p
      · subst c0
        exact Or.inl ⟨a4, a5, a7⟩
      · by_cases c1 : (Pt p).E ≤ q
        · rcases ih _ _ _ _ _ _ _ _ _ _ y7 q c1 h2 with i | ⟨o, o1, o2⟩
          · exact Or.inl i
          · exact Or.inr ⟨o, by omega, o2⟩
        · have lt : q < (Pt p).E := by omega
          refine Or.inr ?_
          rcases y6 with ⟨kk, a, ff, t, g, ec, -, -, z⟩ | ⟨kk, c, cc, b1, bs1, q', ec, z1, z2, z3, z4⟩ | ⟨kk, c, cc, b1, bs1, ec, z⟩ | ⟨-, -, -, z⟩
          · rcases ih _ _ _ _ _ _ _ _ _ _ z q (by omega) lt with ⟨i1, i2, i3⟩ | ⟨o, o1, o2⟩
            · exact ⟨p, Nat.le_refl _, by rw [i1]; rfl, by omega, lt, Or.inl ⟨by rw [a1]; exact kk, i2, by rw [i1]; exact i3⟩⟩
            · exact ⟨o, by omega, o2⟩
          · by_cases c2 : q < (Pt p).M
            · rcases ih _ _ _ _ _ _ _ _ _ _ z3 q (by omega) c2 with ⟨i1, i2, i3⟩ | ⟨o, o1, o2⟩
              · exact ⟨p, Nat.le_refl _, by rw [i1]; rfl, by omega, lt, Or.inr (Or.inl ⟨by rw [a1]; exact kk, c, cc, b1, bs1, q', by rw [a2, ec], Or.inl ⟨c2, i2, by rw [a6]; exact i3⟩⟩)⟩
              · exact ⟨o, by omega, o2⟩
            · rcases z4 with ⟨-, z4⟩ | ⟨b2, bs2, e2, z4⟩
              · omega
              · rcases ih _ _ _ _ _ _ _ _ _ _ z4 q (by omega) lt with ⟨i1, i2, i3⟩ | ⟨o, o1, o2⟩
                · exact ⟨p, Nat.le_refl _, by rw [i1]; rfl, by omega, lt, Or.inr (Or.inl ⟨by rw [a1]; exact kk, c, cc, b1, bs1, q', by rw [a2, ec], Or.inr ⟨by omega, i2, by rw [a6]; exact i3⟩⟩)⟩
                · exact ⟨o, by omega, o2⟩
          · rcases ih _ _ _ _ _ _ _ _ _ _ z q (by omega) lt with ⟨i1, i2, i3⟩ | ⟨o, o1, o2⟩
            · exact ⟨p, Nat.le_refl _, by rw [i1]; rfl, by omega, lt, Or.inr (Or.inr ⟨by rw [a1]; exact kk, i2, c, cc, b1, bs1, by rw [a2, ec], by rw [a6]; exact i3⟩)⟩
            · exact ⟨o, by omega, o2⟩
          · omega
/-- enough fuel -/
theorem bhF_2 {e n : Nat} (ow : ∀ q o, q < n → (Pt q).X.ow = some o → o < q) : ∀ f g q, q < f → q < g → q < n → bhF Pt e f q = bhF Pt e g q := by
  intro f
  induction f with
  | zero => intro g q h; exact absurd h (Nat.not_lt_zero _)
  | succ f ih =>
    intro g q hf hg hn
    cases g with
    | zero => exact absurd hg (Nat.not_lt_zero _)
    | succ g =>
      show (if (Pt q).E < (Pt q).B then (Pt q).E else (match (Pt q).X.ow with | none => e | some o => if tK (Pt o).N = 9 then o else bhF Pt e f o)) = (if (Pt q).E < (Pt q).B then (Pt q).E else (match (Pt q).X.ow with | none => e | some o => if tK (Pt o).N = 9 then o else bhF Pt e g o))
      cases ho : (Pt q).X.ow with
      | none => rfl
      | some o =>
        have oq := ow q o hn ho
        show (if (Pt q).E < (Pt q).B then (Pt q).E else (if tK (Pt o).N = 9 then o else bhF Pt e f o)) = (if (Pt q).E < (Pt q).B then (Pt q).E else (if tK (Pt o).N = 9 then o else bhF Pt e g o))
        rw [ih g o (by omega) (by omega) (by omega)]
theorem bhF_s {e n : Nat} (ow : ∀ q o, q < n → (Pt q).X.ow = some o → o < q) (f q : Nat) (h1 : q < f) (h2 : q < n) : bhF Pt e f q = bh Pt e q := bhF_2 ow f (q + 1) q h1 (Nat.lt_succ_self q) h2
theorem bh_e {e n q : Nat} (ow : ∀ q o, q < n → (Pt q).X.ow = some o → o < q) (hq : q < n) : bh Pt e q = if (Pt q).E < (Pt q).B then (Pt q).E else (match (Pt q).X.ow with | none => e | some o => if tK (Pt o).N = 9 then o else bh Pt e o) := by
  show (if (Pt q).E < (Pt q).B then (Pt q).E else (match (Pt q).X.ow with | none => e | some o => if tK (Pt o).N = 9 then o else bhF Pt e q o)) = _
  by_cases c : (Pt q).E < (Pt q).B
  · rw [if_pos c, if_pos c]
  · rw [if_neg c, if_neg c]
    cases ho : (Pt q).X.ow with
    | none => rfl
    | some o =>
      have oq := ow q o hq ho
      show (if tK (Pt o).N = 9 then o else bhF Pt e q o) = (if tK (Pt o).N = 9 then o else bh Pt e o)
      rw [bhF_s ow q o oq (by omega)]
/-- the statement of a point -/
theorem LYR_st {Sc : cps} {N : Nat} (STg : ∀ g, g < D.c → ∃ k', stR D.sp Sc g N true (D.FT g) (D.S g) k' (D.FP g) (D.FP g).length) : ∀ f fb t k w s p e L b X N' s', LYR D Pt f fb t k w s p e L b X → stR D.sp Sc X.fu N' fb t s s' L b → X.fu < D.c → ∀ q, p ≤ q → q < e → (Pt q).X.fu < D.c ∧ ∃ N' s1 b rl, stN D.sp Sc (Pt q).X.fu (fun bs x y L' => stR D.sp Sc (Pt q).X.fu N' false bs x y L' 0) (Pt q).N (Pt q).C (Pt q).S s1 (Pt q).L b rl ∧ lyW D (Pt q).N (Pt q).C q (Pt q).L b rl (Pt q).X = (0, 0) := by
  intro f
  induction f with
  | zero =>
    intro fb t k w s p e L b X N' s' y st hX q h1 h2
    cases t with
    | leaf _ => exact absurd (show p = e from y) (by omega)
    | branch n cs r => exact absurd y (fun z => z)
  | succ f ih =>
    intro fb t k w s p e L b X N' s' y st hX q h1 h2
    cases t with
    | leaf _ => exact absurd (show p = e from y) (by omega)
    | branch n cs r =>
      obtain ⟨⟨y1, y1'⟩, ⟨a1, a2, a3, a4, a5, a6, a7, a8⟩, ⟨y3, y4⟩, y5, y6, y7⟩ := y
      cases N' with
      | zero => exact absurd st (fun z => z)
      | succ N' =>
      have eT := stR_L (N' + 1) _ _ _ _ _ _ st
      obtain ⟨s1, st1, st2⟩ := st
      have e2 := stR_L _ _ _ _ _ _ _ st2
      have sL : s1 = s + stS n cs := by rw [stLq_S] at eT; omega
      by_cases c0 : q = p
      · subst c0
        rw [a1, a2, a3, a4, a8]
        exact ⟨hX, N', s1, b, _, st1, y5⟩
      · by_cases c1 : (Pt p).E ≤ q
        · rw [← sL] at y7
          exact ih _ _ _ _ _ _ _ _ _ _ N' s' y7 st2 hX q c1 h2
        · have lt : q < (Pt p).E := by omega
          obtain ⟨-, wk⟩ := st1
          rcases y6 with ⟨kk, a, ff, t, g, ec, -, gX, z⟩ | ⟨kk, c, cc, b1, bs1, q', ec, z1, z2, z3, z4⟩ | ⟨kk, c, cc, b1, bs1, ec, z⟩ | ⟨-, -, -, z⟩
          · obtain ⟨k', Sg⟩ := STg g (by omega)
            exact ih _ _ _ _ _ _ _ _ _ _ N k' z Sg (by show g < D.c; omega) q (by omega) lt
          · rcases wk with ⟨v, -⟩ | ⟨v, -⟩ | ⟨v, -⟩ | ⟨v, -⟩ | ⟨v, -⟩ | ⟨-, c', cc', b1', bs1', q'', k2, c0', c1', ec', -, -, -, -, -, -, r1, r2⟩ | ⟨v, -⟩ | ⟨v, -⟩ | ⟨v, -⟩
            · omega
            · omega
            · omega
            · omega
            · omega
            · rw [ec] at ec'
              cases ec'
              have ek := stR_L _ _ _ _ _ _ _ r1
              by_cases c2 : q < (Pt p).M
              · exact ih _ _ _ _ _ _ _ _ _ (lyB X p) N' k2 z3 r1 hX q (by omega) c2
              · rcases z4 with ⟨-, z4⟩ | ⟨b2, bs2, e2', z4⟩
                · omega
                · rcases r2 with ⟨r2, -⟩ | ⟨b2', bs2', r2, r3⟩
                  · rw [r2] at e2'; cases e2'
                  · rw [r2] at e2'
                    cases e2'
                    rw [← ek] at z4
                    exact ih _ _ _ _ _ _ _ _ _ (lyB X p) N' s1 z4 r3 hX q (by omega) lt
            · omega
            · omega
            · omega
          · rcases wk with ⟨v, -⟩ | ⟨v, -⟩ | ⟨v, -⟩ | ⟨v, -⟩ | ⟨v, -⟩ | ⟨v, -⟩ | ⟨-, c', cc', b1', bs1', c0', c1', ec', -, -, -, -, -, r1⟩ | ⟨v, -⟩ | ⟨v, -⟩
            · omega
            · omega
            · omega
            · omega
            · omega
            · omega
            · rw [ec] at ec'
              cases ec'
              exact ih _ _ _ _ _ _ _ _ _ (lyB X p) N' s1 z r1 hX q (by omega) lt
            · omega
            · omega
          · clear wk ih y7 STg st2 eT e2 sL
            omega
end OWs
