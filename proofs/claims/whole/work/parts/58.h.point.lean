set_option maxRecDepth 100000
/-! a point of a layout, what it is -/
/-- what stands at a point, by its kind -/
def PIK (D : lyD) (n : Nat) (cs : tr) (L : cen) (X : lcx) : Prop :=
  (tK n = 3 ∧ ∃ a t, cs = .branch a (.leaf ()) t ∧ tK a = 13 ∧ X.nb + cnZl L < 12 ∧ (t = .leaf () ∨ ∃ x cx, t = tNd x cx ∧ gSq t ∧ (lwT (loE D.sp L) t).1 = 0)) ∨
  (tK n = 4 ∧ ∃ a q, cs = .branch a (.leaf ()) (.branch q (.leaf ()) (.leaf ())) ∧ tK a = 13 ∧ tK q = 12 ∧ X.na + cnAl L < 6 ∧ 1 ≤ tV q ∧ tV q ≤ 64) ∨
  (tK n = 5 ∧ ∃ a x cx, cs = .branch a (.leaf ()) (tNd x cx) ∧ tK a = 13 ∧ (∃ s, loE D.sp L (tV a) = some (s, 0)) ∧ gSq (tNd x cx) ∧ (lwT (loE D.sp L) (tNd x cx)).1 = 0) ∨
  (tK n = 6 ∧ ∃ a x cx y cy, cs = .branch a (.leaf ()) (.branch x cx (tNd y cy)) ∧ tK a = 13 ∧ (∃ s z, loE D.sp L (tV a) = some (s, z) ∧ 0 < z) ∧ gSq (.branch x cx (tNd y cy)) ∧ gSq (tNd y cy) ∧ (lwT (loE D.sp L) (.branch x cx (tNd y cy))).1 = 0) ∨
  (tK n = 7 ∧ ∃ a ff t g, cs = .branch a (.leaf ()) (.branch ff (.leaf ()) t) ∧ tK ff = 13 ∧ (tK a = 13 ∨ tK a = 33) ∧ (tK a = 13 → ∃ s, loE D.sp L (tV a) = some (s, 0)) ∧ gRq t ∧ (lwT (loE D.sp L) t).1 = 0 ∧ fmH D.sp D.H X.fu (tV ff).toNat = some g ∧ g < X.fu ∧ Int32.ofNat (tlc t) = D.H (6 * g + 1) ∧ X.nb + cnZl L + tlc t ≤ 12 ∧ (tK a = 13 → ¬ D.H (6 * g + 5) = -1)) ∨
  ((tK n = 8 ∨ tK n = 9) ∧ ∃ c cc q, cs = .branch c cc q ∧ gCq cs ∧ (lwN (loE D.sp L) c cc).1 = 0) ∨
  (tK n = 10 ∧ ∃ c cc, cs = tNd c cc ∧ gCq cs ∧ (lwN (loE D.sp L) c cc).1 = 0) ∨
  (tK n = 11 ∧ ∃ x cx, cs = tNd x cx ∧ gSq cs ∧ (lwT (loE D.sp L) cs).1 = 0)
section PIs
variable {D : lyD} {n p b : Nat} {cs : tr} {L : cen} {X : lcx} {rl : Bool}
theorem wrM_0 (h : (wrM D n cs L b rl X).1 = 0) : (wrS D.sp D.H X.fu L b rl n cs).1 = 0 := by
  unfold wrM at h
  by_cases c : tK n = 11 ∧ rl = true ∧ X.fu + 1 = D.c
  · rw [if_pos c] at h; exact absurd h (by show ¬ 7 = 0; decide)
  · rw [if_neg c] at h; exact h
theorem PIK_of {r : tr} (w : lyW D n cs p L b rl X = (0, 0)) (G : gbQ n cs) (S : syT (.branch n cs r)) (b1 : X.nb + cnZl L ≤ 12) (b2 : X.na + cnAl L ≤ 6) (lS : (∃ c cc q, cs = .branch c cc q) ∨ (tK n ≠ 8 ∧ tK n ≠ 9)) : PIK D n cs L X := by
  have w1 : (lyW D n cs p L b rl X).1 = 0 := by rw [w]
  obtain ⟨p249, wm⟩ := lyW_0 w1
  have ws := wrM_0 wm
  obtain ⟨⟨k3, k11⟩, g3, g4, g5, g6, g7, g8, g11⟩ := G
  obtain ⟨⟨s3, s4, s5, s6, s7, s10⟩, -⟩ := S
  have ew : lyW D n cs p L b rl X = (if tK n = 7 then (match cs with
    | .branch _ _ (.branch f _ t) => lyWc D n t L X (fmH D.sp D.H X.fu (tV f).toNat)
    | _ => (0, 0))
  else if tK n = 3 then (if X.nb + cnZl L = 12 then (10, tP n) else (0, 0))
  else if tK n = 4 then (if X.na + cnAl L = 6 then (13, tP n) else (0, 0))
  else (0, 0)) := by
    unfold lyW
    rw [if_neg p249, if_neg (fun z => z wm)]
    rfl
  have hk : tK n = 3 ∨ tK n = 4 ∨ tK n = 5 ∨ tK n = 6 ∨ tK n = 7 ∨ (tK n = 8 ∨ tK n = 9) ∨ tK n = 10 ∨ tK n = 11 := by omega
  rcases hk with k | k | k | k | k | k | k | k
  · obtain ⟨a, t, ec, ka, -⟩ := s3 k
    obtain ⟨a', t', ec', gt⟩ := g3 k
    subst ec
    cases ec'
    rw [wrS_3 k] at ws
    obtain ⟨-, w3⟩ := fw_00 ws
    rw [w, if_neg (by omega), if_pos k] at ew
    refine Or.inl ⟨k, a, t, rfl, ka, ?_, ?_⟩
    · by_cases c : X.nb + cnZl L = 12
      · rw [if_pos c] at ew; cases ew
      · omega
    · rcases gt with e | gt
      · exact Or.inl e
      · refine Or.inr ?_
        rcases t with u | ⟨x, cx, r'⟩
        · exact absurd gt.1 (fun z => z)
        · obtain ⟨a2, t2, e2, -, l1⟩ := s3 k
          cases e2
          cases r' with
          | leaf u => exact ⟨x, cx, rfl, gt, w3⟩
          | branch y cy r2 => exact absurd l1 (by show ¬ tlc r2 + 1 + 1 ≤ 1; omega)
  · obtain ⟨a, q, ec, ka, kq⟩ := s4 k
    subst ec
    rw [wrS_4 k] at ws
    obtain ⟨-, w3⟩ := fw_00 ws
    rw [w, if_neg (by omega), if_neg (by omega), if_pos k] at ew
    refine Or.inr (Or.inl ⟨k, a, q, rfl, ka, kq, ?_, ?_⟩)
    · by_cases c : X.na + cnAl L = 6
      · rw [if_pos c] at ew; cases ew
      · omega
    · by_cases c : tV q < 1 ∨ 64 < tV q
      · rw [if_pos c] at w3; exact absurd w3 (by show ¬ 9 = 0; decide)
      · omega
  · obtain ⟨a, x, cx, ec, ka⟩ := s5 k
    obtain ⟨a', t', ec', gt⟩ := g5 k
    subst ec
    cases ec'
    rw [wrS_l (Or.inr k)] at ws
    obtain ⟨w3, w4⟩ := lw_0 ws
    rw [lwN_13 ka] at w3
    exact Or.inr (Or.inr (Or.inl ⟨k, a, x, cx, rfl, ka, lk_n w3, gt, w4⟩))
  · obtain ⟨a, x, cx, y, cy, ec, ka⟩ := s6 k
    obtain ⟨a', t', ec', gt, gt2⟩ := g6 k
    subst ec
    cases ec'
    rw [wrS_6 k] at ws
    obtain ⟨w3, w4⟩ := fw_00 ws
    exact Or.inr (Or.inr (Or.inr (Or.inl ⟨k, a, x, cx, y, cy, rfl, ka, lk_a w3, gt, gt2, w4⟩)))
  · obtain ⟨a, ff, t, ec, ka, kf⟩ := s7 k
    obtain ⟨a', f', t', ec', gt⟩ := g7 k
    subst ec
    cases ec'
    rw [wrS_7 k] at ws
    obtain ⟨g, hg⟩ := wrC_g0 ws
    have ht := wrC_t ws hg
    rw [w, if_pos k] at ew
    have ew' : lyWc D n t L X (fmH D.sp D.H X.fu (tV ff).toNat) = (0, 0) := ew.symm
    rw [hg] at ew'
    have ew2 : (if ¬ D.H (6 * g + 2) = -1 then (2, D.P (D.H (6 * g + 2)).toNatClampNeg) else if 12 < X.nb + cnZl L + tlc t then (10, tP n) else (0, 0)) = (0, 0) := ew'
    have h12 : X.nb + cnZl L + tlc t ≤ 12 := by
      by_cases c : ¬ D.H (6 * g + 2) = -1
      · rw [if_pos c] at ew2; cases ew2
      · rw [if_neg c] at ew2
        by_cases c2 : 12 < X.nb + cnZl L + tlc t
        · rw [if_pos c2] at ew2; cases ew2
        · omega
    have key : (tK a = 13 → ∃ s, loE D.sp L (tV a) = some (s, 0)) ∧ (lwT (loE D.sp L) t).1 = 0 ∧ (tK a = 13 → ¬ D.H (6 * g + 5) = -1) := by
      unfold wrC at ws
      by_cases c : (fw (if tK a = 13 then (lkW (loE D.sp L) (tV a) false, tP a) else (0, 0)) (if fmH D.sp D.H X.fu (tV ff).toNat = none then (4, tP ff) else (0, 0))).1 = 0
      · rw [if_pos c, hg] at ws
        have ws' : (if ¬ Int32.ofNat (tlc t) = D.H (6 * g + 1) then (5, tP ff) else if tK a = 13 ∧ D.H (6 * g + 5) = -1 then (6, tP ff) else lwT (loE D.sp L) t).1 = 0 := ws
        rw [if_neg (fun z => z ht)] at ws'
        obtain ⟨c1, -⟩ := fw_00 c
        by_cases c6 : tK a = 13 ∧ D.H (6 * g + 5) = -1
        · rw [if_pos c6] at ws'; exact absurd ws' (by show ¬ 6 = 0; decide)
        · rw [if_neg c6] at ws'
          refine ⟨fun z => ?_, ws', fun z q => c6 ⟨z, q⟩⟩
          rw [if_pos z] at c1
          exact lk_n c1
      · rw [if_neg c] at ws; exact absurd ws c
    exact Or.inr (Or.inr (Or.inr (Or.inr (Or.inl ⟨k, a, ff, t, g, rfl, kf, ka, key.1, gt, key.2.1, hg, (fsr_b _ _ hg).1, ht, h12, key.2.2⟩))))
  · rcases lS with ⟨c, cc, q, ec⟩ | z
    · subst ec
      rw [wrS_b k] at ws
      exact Or.inr (Or.inr (Or.inr (Or.inr (Or.inr (Or.inl ⟨k, c, cc, q, rfl, g8 (k.elim (fun z => Or.inl z) (fun z => Or.inr (Or.inl z))), (lw_0 ws).1⟩)))))
    · omega
  · obtain ⟨x, cx, ec⟩ := s10 (Or.inl k)
    subst ec
    rw [wrS_l (Or.inl k)] at ws
    exact Or.inr (Or.inr (Or.inr (Or.inr (Or.inr (Or.inr (Or.inl ⟨k, x, cx, rfl, g8 (Or.inr (Or.inr k)), (lw_0 ws).1⟩))))))
  · obtain ⟨x, cx, ec⟩ := s10 (Or.inr k)
    subst ec
    refine Or.inr (Or.inr (Or.inr (Or.inr (Or.inr (Or.inr (Or.inr ⟨k, x, cx, rfl, g11 k, ?_⟩))))))
    have e : wrS D.sp D.H X.fu L b rl n (tNd x cx) = if rl = true then lwT (loE D.sp L) (tNd x cx) else (6, tP n) := by
      unfold wrS
      rw [if_neg (by omega), if_neg (by omega), if_neg (by omega), if_neg (by omega), if_neg (by omega), if_pos k]
    rw [e] at ws
    by_cases c : rl = true
    · rw [if_pos c] at ws; exact ws
    · rw [if_neg c] at ws; exact absurd ws (by show ¬ 6 = 0; decide)
end PIs
section WCl
variable {sp : Nat → Nat → Bool} {NL : List Nat} {L : cen} {nb na nn a : Nat} {rm : Nat → Nat} {sN : Int → Prop} {en : Int → Nat} {A : ab}
theorem wC_rn (O : LOQ sp NL L nb na nn a rm sN en) (hA : abQ A nn a rm) : ∀ t, (∀ n cs r, t = .branch n cs r → gcT t false → (lwN (loE sp L) n cs).1 = 0 → wC sN en A (rn sp NL t) false) ∧ (gcT t true → (lwT (loE sp L) t).1 = 0 → wC sN en A (rn sp NL t) true) := by
  intro t
  induction t with
  | leaf u => exact ⟨fun n cs r e => (by cases e), fun _ _ => rfl⟩
  | branch n cs r ih1 ih2 =>
    have node : ∀ mo, gcT (.branch n cs r) mo → (lwN (loE sp L) n cs).1 = 0 → (mo = true → wC sN en A (rn sp NL r) true) → wC sN en A (rn sp NL (.branch n cs r)) mo := fun mo g w hr => by
      have g1 : (if tK n = 26 then gcT cs false else if tK n = 24 ∨ tK n = 25 then gcT cs true else (27 ≤ tK n ∧ tK n ≤ 32 ∧ match cs with
      | .branch m1 c1 (.branch m2 c2 r2) => (gxT (.branch m1 c1 (.branch m2 c2 r2)) false ∧ pz (.branch m1 c1 (.branch m2 c2 r2)) false ∧ pn (.branch m1 c1 (.branch m2 c2 r2)) false ≤ 6000 ∧ sh (.branch m1 c1 (.branch m2 c2 r2)) false ≤ 124) ∧ gxT (.branch m2 c2 r2) false ∧ pz (.branch m2 c2 r2) false ∧ pn (.branch m2 c2 r2) false ≤ 6000 ∧ sh (.branch m2 c2 r2) false ≤ 124
      | _ => False)) := by rcases cs with _ | ⟨_, _, _ | ⟨_, _, _⟩⟩ <;> exact g.1
      have goal : ∀ X : Prop, X → (X → wC sN en A (rn sp NL (.branch n cs r)) mo) → wC sN en A (rn sp NL (.branch n cs r)) mo := fun X a b => b a
      by_cases k26 : tK n = 26
      · rw [if_pos k26] at g1
        rw [lwN_o (by omega) (by omega) (by omega)] at w
        have hc : wC sN en A (rn sp NL cs) false := by
          cases cs with
          | leaf u => exact absurd g1 (by intro z; cases z)
          | branch n2 cs2 r2 => exact ih1.1 n2 cs2 r2 rfl g1 (lw_0 w).1
        rcases cs with u | ⟨m1, c1, _ | ⟨m2, c2, r2⟩⟩
        all_goals
          refine ⟨?_, hr⟩
          show (if tK (rnN sp NL n) = 26 then _ else _)
          rw [rn_K, if_pos k26]
          exact hc
      by_cases k25 : tK n = 24 ∨ tK n = 25
      · rw [if_neg k26, if_pos k25] at g1
        rw [lwN_o (by omega) (by omega) (by omega)] at w
        have hc := ih1.2 g1 w
        rcases cs with u | ⟨m1, c1, _ | ⟨m2, c2, r2⟩⟩
        all_goals
          refine ⟨?_, hr⟩
          show (if tK (rnN sp NL n) = 26 then _ else if tK (rnN sp NL n) = 24 ∨ tK (rnN sp NL n) = 25 then _ else _)
          rw [rn_K, if_neg k26, if_pos k25]
          exact hc
      rw [if_neg k26, if_neg k25] at g1
      obtain ⟨k27, k32, g2⟩ := g1
      rw [lwN_o (by omega) (by omega) (by omega)] at w
      rcases cs with u | ⟨m1, c1, _ | ⟨m2, c2, r2⟩⟩
      · exact absurd g2 (fun z => z)
      · exact absurd g2 (fun z => z)
      · obtain ⟨⟨g3, g4, g5, g6⟩, g7, g8, g9, g10⟩ := g2
        have a1 := wS_rn O hA (.branch m1 c1 (.branch m2 c2 r2)) false g3 w
        have a2 := wS_rn O hA (.branch m2 c2 r2) false g7 (lw_0 w).2
        have p1 := pz_rn (sp := sp) (L := NL) (.branch m1 c1 (.branch m2 c2 r2)) false
        have p2 := pz_rn (sp := sp) (L := NL) (.branch m2 c2 r2) false
        have q1 := pn_rn (sp := sp) (L := NL) (.branch m1 c1 (.branch m2 c2 r2)) false
        have q2 := pn_rn (sp := sp) (L := NL) (.branch m2 c2 r2) false
        refine ⟨?_, hr⟩
        show (if tK (rnN sp NL n) = 26 then _ else if tK (rnN sp NL n) = 24 ∨ tK (rnN sp NL n) = 25 then _ else (27 ≤ tK (rnN sp NL n) ∧ tK (rnN sp NL n) ≤ 32 ∧ wS sN en A (rn sp NL (.branch m1 c1 (.branch m2 c2 r2))) false ∧ pz (rn sp NL (.branch m1 c1 (.branch m2 c2 r2))) false ∧ pn (rn sp NL (.branch m1 c1 (.branch m2 c2 r2))) false ≤ 6000 ∧ wS sN en A (rn sp NL (.branch m2 c2 r2)) false ∧ pz (rn sp NL (.branch m2 c2 r2)) false ∧ pn (rn sp NL (.branch m2 c2 r2)) false ≤ 6000))
        rw [rn_K, if_neg k26, if_neg k25, p1, p2, q1, q2]
        exact ⟨k27, k32, a1, g4, g5, a2, g8, g9⟩
    refine ⟨fun n' cs' r' e g w => ?_, fun g w => ?_⟩
    · cases e
      exact node false g w (fun z => by cases z)
    · obtain ⟨w1, w2⟩ := lw_0 w
      have gr : gcT r true := by rcases cs with _ | ⟨_, _, _ | ⟨_, _, _⟩⟩ <;> exact g.2 rfl
      exact node true g w1 (fun _ => ih2.2 gr w2)
end WCl
