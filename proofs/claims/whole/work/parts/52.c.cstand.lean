set_option maxRecDepth 100000
/-! statements that stand go on standing -/
theorem fsr_c {p q : Nat → Bool} : ∀ c, (∀ k, k < c → p k = q k) → fsr p c = fsr q c := by
  intro c
  induction c with
  | zero => exact fun _ => rfl
  | succ c ih =>
    intro h
    show (if p c = true then some c else fsr p c) = (if q c = true then some c else fsr q c)
    rw [h c (Nat.lt_succ_self _), ih (fun k hk => h k (by omega))]
section STg
variable {sp : Nat → Nat → Bool} {s s' : cps} {H H' : Nat → Int32} {nf w : Nat} {L : cen} {lo : lkt}
theorem fmH_c {i : Nat} (e : ∀ j, j < 6 * nf → H' j = H j) : fmH sp H' nf i = fmH sp H nf i := fsr_c nf (fun k hk => by rw [e (6 * k) (by omega)])
theorem wrC_c {a f : Nat} {t : tr} (e : ∀ j, j < 6 * nf → H' j = H j) : wrC sp H' nf lo a f t = wrC sp H nf lo a f t := by
  unfold wrC
  rw [fmH_c e]
  have fb : ∀ g, fmH sp H nf (tV f).toNat = some g → g < nf := fun g hg => (fsr_b _ _ hg).1
  generalize fmH sp H nf (tV f).toNat = o at fb
  cases o with
  | none => rfl
  | some g =>
    have hg := fb g rfl
    show (if _ then (if ¬ Int32.ofNat (tlc t) = H' (6 * g + 1) then _ else if tK a = 13 ∧ H' (6 * g + 5) = -1 then _ else _) else _) = (if _ then (if ¬ Int32.ofNat (tlc t) = H (6 * g + 1) then _ else if tK a = 13 ∧ H (6 * g + 5) = -1 then _ else _) else _)
    rw [e (6 * g + 1) (by omega), e (6 * g + 5) (by omega)]
theorem wrS_c {b n : Nat} {rl : Bool} {cs : tr} (e : ∀ j, j < 6 * nf → H' j = H j) : wrS sp H' nf L b rl n cs = wrS sp H nf L b rl n cs := by
  rcases cs with _ | ⟨a, c, _ | ⟨f, c2, t⟩⟩
  · rfl
  · rfl
  · show (if tK n = 3 then _ else if tK n = 4 then _ else if tK n = 6 then _ else if tK n = 7 then wrC sp H' nf (loE sp L) a f t else _) = (if tK n = 3 then _ else if tK n = 4 then _ else if tK n = 6 then _ else if tK n = 7 then wrC sp H nf (loE sp L) a f t else _)
    rw [wrC_c e]
/-- rows go on -/
theorem stN_le {rec : tr → Nat → Nat → cen → Prop} {n k k' b : Nat} {cs : tr} {rl : Bool} (hr : ∀ t x y M, rec t x y M → x ≤ y) (w : stN sp s nf rec n cs k k' L b rl) : k < k' := by
  obtain ⟨-, w⟩ := w
  rcases w with ⟨-, a, t, -, e, -⟩ | ⟨-, a, q, -, e, -⟩ | ⟨-, a, t, x, -, e, -⟩ | ⟨-, a, t, x, -, e, -⟩ | ⟨-, a, f, t, x, -, e, -⟩ | ⟨-, c, cc, b1, bs1, q, k1, c0, c1, -, -, -, -, -, -, -, r1, r2⟩ | ⟨-, c, cc, b1, bs1, c0, c1, -, -, -, -, -, -, r1⟩ | ⟨-, c0, c1, e, -⟩ | ⟨-, x, e, -⟩
  · omega
  · omega
  · omega
  · omega
  · omega
  · have := hr _ _ _ _ r1
    rcases r2 with ⟨-, e⟩ | ⟨b2, bs2, -, r2⟩
    · omega
    · have := hr _ _ _ _ r2; omega
  · have := hr _ _ _ _ r1; omega
  · omega
  · omega
theorem stR_le : ∀ f fb t k k' L b, stR sp s nf f fb t k k' L b → k ≤ k' := by
  intro f
  induction f with
  | zero =>
    intro fb t k k' L b w
    cases t with
    | leaf _ => exact Nat.le_of_eq (Eq.symm w)
    | branch n cs r => exact absurd w (fun z => z)
  | succ f ih =>
    intro fb t k k' L b w
    cases t with
    | leaf _ => exact Nat.le_of_eq (Eq.symm w)
    | branch n cs r =>
      obtain ⟨k1, w1, w2⟩ := w
      have h1 := stN_le (fun t x y M z => ih false t x y M 0 z) w1
      have h2 := ih fb r k1 k' _ _ w2
      omega
theorem stN_g {rec rec' : tr → Nat → Nat → cen → Prop} {n k k' b : Nat} {cs : tr} {rl : Bool} (F : CRx s s' (s.1 7)) (hu : ∀ x j, x < s.1 8 → s'.2 (24 + x) j = s.2 (24 + x) j) (hh : ∀ j, j < 6 * nf → s'.2 15 j = s.2 15 j) (hr : ∀ t x y M, rec t x y M → x ≤ y) (hg : ∀ t x y M, y ≤ s.1 8 → rec t x y M → rec' t x y M) (hk : k' ≤ s.1 8) (w : stN sp s nf rec n cs k k' L b rl) : stN sp s' nf rec' n cs k k' L b rl := by
  have hlt := stN_le hr w
  have h7 := F.m.2.2.2
  have e : ∀ j, s'.2 (24 + k) j = s.2 (24 + k) j := fun j => hu k j (by omega)
  obtain ⟨⟨w0, w1, w2, w3, w4, w5⟩, w⟩ := w
  have ef : ∀ i, fmH sp (s'.2 15) nf i = fmH sp (s.2 15) nf i := fun i => fmH_c hh
  refine ⟨⟨(e 0).trans w0, (e 1).trans w1, (e 2).trans w2, (e 3).trans w3, (e 4).trans w4, by rw [e 5, e 6, wrS_c hh]; exact w5⟩, ?_⟩
  rcases w with ⟨kk, a, t, e1, e2, e3, e4, e5⟩ | ⟨kk, a, q, e1, e2, e3, e4⟩ | ⟨kk, a, t, x, e1, e2, e3, e4, e5⟩ | ⟨kk, a, t, x, e1, e2, e3, e4, e5, e6⟩ | ⟨kk, a, f, t, x, e1, e2, e3, e4, e5, e6, e7⟩ | ⟨kk, c, cc, b1, bs1, q, k1, c0, c1, e1, e2, e3, e4, e5, e6, e7, r1, r2⟩ | ⟨kk, c, cc, b1, bs1, c0, c1, e1, e2, e3, e4, e5, e6, r1⟩ | ⟨kk, c0, c1, e1, e2, e3, e4, e5⟩ | ⟨kk, x, e1, e2, e3⟩
  · refine Or.inl ⟨kk, a, t, e1, e2, (e 7).trans e3, (e 9).trans e4, ?_⟩
    rcases e5 with ⟨y1, y2⟩ | ⟨y1, y2, x, y3, y4⟩
    · exact Or.inl ⟨y1, (e 11).trans y2⟩
    · exact Or.inr ⟨y1, (e 11).trans y2, x, (e 10).trans y3, SUX_r F y4⟩
  · exact Or.inr (Or.inl ⟨kk, a, q, e1, e2, (e 7).trans e3, (e 9).trans e4⟩)
  · exact Or.inr (Or.inr (Or.inl ⟨kk, a, t, x, e1, e2, (e 8).trans e3, (e 10).trans e4, SUX_r F e5⟩))
  · exact Or.inr (Or.inr (Or.inr (Or.inl ⟨kk, a, t, x, e1, e2, fun sl z h1 h2 => ⟨(e 8).trans (e3 sl z h1 h2).1, (e 9).trans (e3 sl z h1 h2).2⟩, (e 10).trans e4, SUX_r F e5, SUX_r F e6⟩)))
  · exact Or.inr (Or.inr (Or.inr (Or.inr (Or.inl ⟨kk, a, f, t, x, e1, e2, (e 8).trans e3, by rw [ef]; exact (e 14).trans e4, (e 11).trans e5, (e 10).trans e6, suMR_r t x F e7⟩))))
  · refine Or.inr (Or.inr (Or.inr (Or.inr (Or.inr (Or.inl ⟨kk, c, cc, b1, bs1, q, k1, c0, c1, e1, (e 12).trans e2, (e 13).trans e3, by omega, cy_r F e4 e5, (e 15).trans e6, (e 16).trans e7, ?_, ?_⟩)))))
    · refine hg _ _ _ _ ?_ r1
      rcases r2 with ⟨-, z⟩ | ⟨b2, bs2, -, r2⟩
      · omega
      · have := hr _ _ _ _ r2; omega
    · rcases r2 with ⟨z0, z⟩ | ⟨b2, bs2, z0, r2⟩
      · exact Or.inl ⟨z0, z⟩
      · exact Or.inr ⟨b2, bs2, z0, hg _ _ _ _ hk r2⟩
  · exact Or.inr (Or.inr (Or.inr (Or.inr (Or.inr (Or.inr (Or.inl ⟨kk, c, cc, b1, bs1, c0, c1, e1, (e 12).trans e2, (e 13).trans e3, by omega, cy_r F e4 e5, (e 16).trans e6, hg _ _ _ _ hk r1⟩))))))
  · exact Or.inr (Or.inr (Or.inr (Or.inr (Or.inr (Or.inr (Or.inr (Or.inl ⟨kk, c0, c1, e1, (e 12).trans e2, (e 13).trans e3, by omega, cy_r F e4 e5⟩)))))))
  · exact Or.inr (Or.inr (Or.inr (Or.inr (Or.inr (Or.inr (Or.inr (Or.inr ⟨kk, x, e1, (e 10).trans e2, SUX_r F e3⟩)))))))
theorem stR_g (F : CRx s s' (s.1 7)) (hu : ∀ x j, x < s.1 8 → s'.2 (24 + x) j = s.2 (24 + x) j) (hh : ∀ j, j < 6 * nf → s'.2 15 j = s.2 15 j) : ∀ f fb t k k' L b, k' ≤ s.1 8 → stR sp s nf f fb t k k' L b → stR sp s' nf f fb t k k' L b := by
  intro f
  induction f with
  | zero =>
    intro fb t k k' L b hk w
    cases t with
    | leaf _ => exact w
    | branch n cs r => exact absurd w (fun z => z)
  | succ f ih =>
    intro fb t k k' L b hk w
    cases t with
    | leaf _ => exact w
    | branch n cs r =>
      obtain ⟨k1, w1, w2⟩ := w
      have h2 := stR_le f fb r k1 k' _ _ w2
      exact ⟨k1, stN_g F hu hh (fun t x y M z => stR_le f false t x y M 0 z) (fun t x y M hy z => ih false t x y M 0 hy z) (by omega) w1, ih fb r k1 k' _ _ hk w2⟩
end STg
