set_option maxRecDepth 100000
/-! points of a layout, one by one -/
section LYt
variable {D : lyD} {Pt : Nat → lpt}
theorem LYR_at : ∀ f fb t k w s p e L b X, LYR D Pt f fb t k w s p e L b X → ∀ q, p ≤ q → q < e → (Pt q).B ≤ e ∧ ∃ f' fb' r b', LYR D Pt (f' + 1) fb' (.branch (Pt q).N (Pt q).C r) (Pt q).K (Pt q).W (Pt q).S q (Pt q).B (Pt q).L b' (Pt q).X := by
  intro f
  induction f with
  | zero =>
    intro fb t k w s p e L b X y q h1 h2
    cases t with
    | leaf _ => exact absurd (show p = e from y) (by omega)
    | branch n cs r => exact absurd y (fun z => z)
  | succ f ih =>
    intro fb t k w s p e L b X y q h1 h2
    cases t with
    | leaf _ => exact absurd (show p = e from y) (by omega)
    | branch n cs r =>
      have y0 := y
      obtain ⟨⟨y1, y1'⟩, ⟨a1, a2, a3, a4, a5, a6, a7, a8⟩, ⟨y3, y4⟩, y5, y6, y7⟩ := y
      by_cases c0 : q = p
      · subst c0
        refine ⟨Nat.le_of_eq a5, f, fb, r, b, ?_⟩
        rw [a1, a2, a3, a4, a5, a6, a7, a8]
        exact y0
      · by_cases c1 : (Pt p).E ≤ q
        · exact ih _ _ _ _ _ _ _ _ _ _ y7 q c1 h2
        · have lt : q < (Pt p).E := by omega
          have key : (Pt q).B ≤ (Pt p).E ∧ ∃ f' fb' r b', LYR D Pt (f' + 1) fb' (.branch (Pt q).N (Pt q).C r) (Pt q).K (Pt q).W (Pt q).S q (Pt q).B (Pt q).L b' (Pt q).X := by
            rcases y6 with ⟨-, a, ff, t, g, -, -, -, z⟩ | ⟨-, c, cc, b1, bs1, q', -, z1, z2, z3, z4⟩ | ⟨-, c, cc, b1, bs1, -, z⟩ | ⟨-, -, -, z⟩
            · exact ih _ _ _ _ _ _ _ _ _ _ z q (by omega) lt
            · by_cases c2 : q < (Pt p).M
              · obtain ⟨i1, i2⟩ := ih _ _ _ _ _ _ _ _ _ _ z3 q (by omega) c2
                exact ⟨by omega, i2⟩
              · rcases z4 with ⟨-, z4⟩ | ⟨b2, bs2, -, z4⟩
                · omega
                · exact ih _ _ _ _ _ _ _ _ _ _ z4 q (by omega) lt
            · exact ih _ _ _ _ _ _ _ _ _ _ z q (by omega) lt
            · omega
          exact ⟨by omega, key.2⟩
/-- what lies is what is found -/
theorem LYN_q {f n : Nat} {cs : tr} {k s p : Nat} {L : cen} {X : lcx} (ih : ∀ fb t k w s p e L b X, LYR D Pt f fb t k w s p e L b X → (lyQ D f fb t p L b X).1.1 = 0 ∧ (lyQ D f fb t p L b X).2 = e) (w : LYN D Pt (LYR D Pt f) n cs k s p L X) : (lyU D (lyQ D f) n cs p L X).1.1 = 0 ∧ (lyU D (lyQ D f) n cs p L X).2 = (Pt p).E := by
  rcases w with ⟨kk, a, ff, t, g, ec, hg, -, z⟩ | ⟨kk, c, cc, b1, bs1, q, ec, z1, z2, z3, z4⟩ | ⟨kk, c, cc, b1, bs1, ec, z⟩ | ⟨n7, n8, n9, z⟩
  · subst ec
    have eU : lyU D (lyQ D f) n (.branch a (.leaf ()) (.branch ff (.leaf ()) t)) p L X = lyQ D f true (D.FT g) (p + 1) (D.FP g) (D.FP g).length (lyC D X L p g a) := by
      unfold lyU
      rw [if_pos kk]
      show lyUc D (lyQ D f) p L X a (fmH D.sp D.H X.fu (tV ff).toNat) = _
      rw [hg]
      rfl
    rw [eU]
    exact ih _ _ _ _ _ _ _ _ _ _ z
  · subst ec
    have eU : lyU D (lyQ D f) n (.branch c cc (.branch b1 bs1 q)) p L X = lyG (lyQ D f false bs1 (p + 1) L 0 (lyB X p)) (lyUq (lyQ D f) p L X q) := by
      unfold lyU
      rw [if_neg (by omega), if_pos kk]
    rw [eU]
    obtain ⟨i1, i2⟩ := ih _ _ _ _ _ _ _ _ _ _ z3
    unfold lyG
    rw [if_pos i1, i2]
    rcases z4 with ⟨eq, z4⟩ | ⟨b2, bs2, eq, z4⟩
    · subst eq
      exact ⟨rfl, z4⟩
    · subst eq
      exact ih _ _ _ _ _ _ _ _ _ _ z4
  · subst ec
    have eU : lyU D (lyQ D f) n (.branch c cc (.branch b1 bs1 (.leaf ()))) p L X = lyQ D f false bs1 (p + 1) L 0 (lyB X p) := by
      unfold lyU
      rw [if_neg (by omega), if_neg (by omega), if_pos kk]
    rw [eU]
    exact ih _ _ _ _ _ _ _ _ _ _ z
  · have eU : lyU D (lyQ D f) n cs p L X = ((0, 0), p + 1) := by
      unfold lyU
      rw [if_neg n7, if_neg n8, if_neg n9]
    rw [eU]
    exact ⟨rfl, z.symm⟩
theorem lyQ_S {f n : Nat} {fb : Bool} {cs r : tr} {p : Nat} {L : cen} {b : Nat} {X : lcx} : lyQ D (f + 1) fb (.branch n cs r) p L b X = lyG (lyG (lyW D n cs p L b (fb && decide (ts r = 0)) X, p) fun _ => lyU D (lyQ D f) n cs p L X) fun e => lyQ D f fb r e (nxE n cs L) (b + ((nxE n cs L).length - L.length)) X := by
  have e0 : lyQ D (f + 1) fb (.branch n cs r) p L b X = lyG (lyW D n cs p L b (fb && decide (ts r = 0)) X, p) fun _ => lyG (lyU D (lyQ D f) n cs p L X) fun e => lyQ D f fb r e (nxE n cs L) (b + ((nxE n cs L).length - L.length)) X := rfl
  rw [e0]
  generalize lyW D n cs p L b (fb && decide (ts r = 0)) X = w
  by_cases c : w.1 = 0
  · have e1 : ∀ k : Nat → lyq, lyG (w, p) k = k p := fun k => if_pos c
    rw [e1, e1]
  · have e1 : ∀ k : Nat → lyq, lyG (w, p) k = (w, p) := fun k => if_neg c
    rw [e1, e1, e1]
theorem LYR_q : ∀ f fb t k w s p e L b X, LYR D Pt f fb t k w s p e L b X → (lyQ D f fb t p L b X).1.1 = 0 ∧ (lyQ D f fb t p L b X).2 = e := by
  intro f
  induction f with
  | zero =>
    intro fb t k w s p e L b X y
    cases t with
    | leaf _ => exact ⟨rfl, y⟩
    | branch n cs r => exact absurd y (fun z => z)
  | succ f ih =>
    intro fb t k w s p e L b X y
    cases t with
    | leaf _ => exact ⟨rfl, y⟩
    | branch n cs r =>
      obtain ⟨y1, y2, y3, y5, y6, y7⟩ := y
      obtain ⟨j1, j2⟩ := LYN_q ih y6
      obtain ⟨i1, i2⟩ := ih _ _ _ _ _ _ _ _ _ _ y7
      rw [lyQ_S, y5]
      have e1 : ∀ k : Nat → lyq, lyG ((0, 0), p) k = k p := fun k => if_pos rfl
      rw [e1]
      have e2 : ∀ k : Nat → lyq, lyG (lyU D (lyQ D f) n cs p L X) k = k (Pt p).E := fun k => (if_pos j1).trans (by rw [j2])
      rw [e2]
      exact ⟨i1, i2⟩
end LYt
section LYb
variable {D : lyD} {sp : Nat → Nat → Bool} {H : Nat → Int32} {nf n a f p b : Nat} {lo : lkt} {t cs : tr} {L : cen} {rl : Bool} {X : lcx}
theorem wrC_b : (wrC sp H nf lo a f t).1 < 100 := by
  unfold wrC
  by_cases c : (fw (if tK a = 13 then (lkW lo (tV a) false, tP a) else (0, 0)) (if fmH sp H nf (tV f).toNat = none then (4, tP f) else (0, 0))).1 = 0
  · rw [if_pos c]
    cases fmH sp H nf (tV f).toNat with
    | none => show 0 < 100; decide
    | some g =>
      show (if ¬ Int32.ofNat (tlc t) = H (6 * g + 1) then (5, tP f) else if tK a = 13 ∧ H (6 * g + 5) = -1 then (6, tP f) else lwT lo t).1 < 100
      split
      · show 5 < 100; decide
      · split
        · show 6 < 100; decide
        · exact (lwT_b t).1
  · rw [if_neg c]
    exact fw_b (fw2_b lkW_b) (fw2_b (by decide))
theorem wrS_lt : (wrS sp H nf L b rl n cs).1 < 100 := by
  unfold wrS
  repeat' split
  all_goals first | exact fw_b (fw2_b (by decide)) (lwT_b _).1 | exact fw_b (fw2_b (by decide)) (fw2_b (by decide)) | exact fw_b lkW_b (lwT_b _).1 | exact wrC_b | exact (lwT_b _).1 | (refine fw_b ?_ ?_ <;> first | exact (lwT_b _).1 | (show 0 < 100; decide) | (show 2 < 100; decide) | (show 9 < 100; decide)) | (show 0 < 100; decide) | (show 6 < 100; decide)
theorem lyWc_b : ∀ o, (lyWc D n t L X o).1 < 100 := by
  intro o
  cases o with
  | none => show 0 < 100; decide
  | some g =>
    show (if ¬ D.H (6 * g + 2) = -1 then (2, D.P (D.H (6 * g + 2)).toNatClampNeg) else if 12 < X.nb + cnZl L + tlc t then (10, tP n) else (0, 0)).1 < 100
    split
    · show 2 < 100; decide
    · split
      · show 10 < 100; decide
      · show 0 < 100; decide
theorem lyW_b : (lyW D n cs p L b rl X).1 < 100 := by
  have wm : (wrM D n cs L b rl X).1 < 100 := by
    unfold wrM
    split
    · show 7 < 100; decide
    · exact wrS_lt
  unfold lyW
  by_cases c1 : p = 249
  · rw [if_pos c1]; show 11 < 100; decide
  rw [if_neg c1]
  by_cases c2 : ¬ (wrM D n cs L b rl X).1 = 0
  · rw [if_pos c2]; exact wm
  rw [if_neg c2]
  by_cases c7 : tK n = 7
  · rw [if_pos c7]
    split
    · exact lyWc_b _
    · show 0 < 100; decide
  rw [if_neg c7]
  repeat' split
  all_goals first | (show 10 < 100; decide) | (show 13 < 100; decide) | (show 0 < 100; decide)
theorem lyG_b {q : lyq} {k : Nat → lyq} (h1 : q.1.1 < 100) (h2 : ∀ e, (k e).1.1 < 100) : (lyG q k).1.1 < 100 := by
  unfold lyG
  split
  · exact h2 _
  · exact h1
theorem lyQ_b : ∀ f fb t p L b X, (lyQ D f fb t p L b X).1.1 < 100 := by
  intro f
  induction f with
  | zero =>
    intro fb t p L b X
    cases t <;> (show 0 < 100; decide)
  | succ f ih =>
    intro fb t p L b X
    cases t with
    | leaf _ => show 0 < 100; decide
    | branch n cs r =>
      have e0 : lyQ D (f + 1) fb (.branch n cs r) p L b X = lyG (lyW D n cs p L b (fb && decide (ts r = 0)) X, p) fun _ => lyG (lyU D (lyQ D f) n cs p L X) fun e => lyQ D f fb r e (nxE n cs L) (b + ((nxE n cs L).length - L.length)) X := rfl
      rw [e0]
      refine lyG_b lyW_b (fun _ => lyG_b ?_ (fun e => ih _ _ _ _ _ _))
      unfold lyU
      by_cases c7 : tK n = 7
      · rw [if_pos c7]
        split
        · rename_i a _ ff _ _
          show (lyUc D (lyQ D f) p L X a (fmH D.sp D.H X.fu (tV ff).toNat)).1.1 < 100
          cases fmH D.sp D.H X.fu (tV ff).toNat with
          | none => show 0 < 100; decide
          | some g => exact ih _ _ _ _ _ _
        · show 0 < 100; decide
      rw [if_neg c7]
      by_cases c8 : tK n = 8
      · rw [if_pos c8]
        split
        · rename_i bs q
          refine lyG_b (ih _ _ _ _ _ _) (fun e => ?_)
          cases q with
          | leaf _ => show 0 < 100; decide
          | branch b2 bs2 r2 => exact ih _ _ _ _ _ _
        · show 0 < 100; decide
      rw [if_neg c8]
      by_cases c9 : tK n = 9
      · rw [if_pos c9]
        split
        · exact ih _ _ _ _ _ _
        · show 0 < 100; decide
      rw [if_neg c9]
      show 0 < 100
      decide
end LYb
