set_option maxRecDepth 100000
/-! where points lead: at the top of a program; what a run needs -/
section SHs
variable {sp : Nat → Nat → Bool} {NL : List Nat} {D : lyD} {Pt : Nat → lpt} {E0 : nv} {e : Nat} {Φ : Nat → Prop} {h : mh_H} {Y C E TT UU SC SP nC nE nS pa : Nat}
theorem PIK_k {n : Nat} {cs : tr} {L : cen} {X : lcx} (w : PIK D n cs L X) : 3 ≤ tK n ∧ tK n ≤ 11 := by
  rcases w with ⟨k, -⟩ | ⟨k, -⟩ | ⟨k, -⟩ | ⟨k, -⟩ | ⟨k, -⟩ | ⟨k, -⟩ | ⟨k, -⟩ | ⟨k, -⟩ <;> omega
theorem SUC_top (PT : ∀ q, q < e → PTp sp NL Pt E0 D q) (ow : ∀ q o, q < e → (Pt q).X.ow = some o → o < q) {f k w s : Nat} (ly : LYR D Pt f true (D.FT (D.c - 1)) k w s 0 e [] 0 (lyX0 D)) : SUC (pgG sp NL Pt E0 e) (fstP Pt e) (othP Pt e) f 0 e e := SUC_of (E0 := E0) ow (fun q hq => PIK_k (PT q hq).k) f true _ k w s 0 e 0 [] (lyX0 D) ly (Nat.le_refl _)
/-- all parameters are numbers -/
theorem FP_all0 : ∀ (F : cen), (∀ a z, (a, z) ∈ F → z = 0) → cnZl F = F.length ∧ cnAl F = 0 := by
  intro F
  induction F with
  | nil => exact fun _ => ⟨rfl, rfl⟩
  | cons x F ihF =>
    obtain ⟨x1, x2⟩ := x
    intro w
    have z0 := w x1 x2 List.mem_cons_self
    subst z0
    obtain ⟨i1, i2⟩ := ihF (fun u v q => w u v (List.mem_cons_of_mem _ q))
    rw [cnZ_0, cnA_0, i1, i2]
    exact ⟨rfl, rfl⟩
theorem SH_top (H : PGH sp NL D) (PT : ∀ q, q < e → PTp sp NL Pt E0 D q) (ow : ∀ q o, q < e → (Pt q).X.ow = some o → o < q) {f k w s : Nat} (ly : LYR D Pt f true (D.FT (D.c - 1)) k w s 0 e [] 0 (lyX0 D)) : ∀ q, q < e → SHp (pgG sp NL Pt E0 e) (pJ sp NL Pt E0) (fstP Pt e) (othP Pt e) e q := by
  refine fun q hq => SH_of (E0 := E0) ow (fun q hq => PIK_k (PT q hq).k) (fun q hq k4 => ?_) (fun q hq k7 a ff t g ec hg => ?_) f true _ k w s 0 e 0 [] (lyX0 D) ly (Nat.le_refl _) (Nat.le_refl _) ?_ q (Nat.zero_le _) hq
  · rcases (PT q hq).k with ⟨kk, -⟩ | ⟨kk, a, v, ec, ka, kv, h6, q1, q2⟩ | ⟨kk, -⟩ | ⟨kk, -⟩ | ⟨kk, -⟩ | ⟨kk, -⟩ | ⟨kk, -⟩ | ⟨kk, -⟩
    · omega
    · exact ⟨a, v, _, _, ec, q1⟩
    all_goals omega
  · rcases (PT q hq).k with ⟨kk, -⟩ | ⟨kk, -⟩ | ⟨kk, -⟩ | ⟨kk, -⟩ | ⟨kk, a', ff', t', g', ec', kf, ka, la, gt, wt, hg', gX, hl, h12, -⟩ | ⟨kk, -⟩ | ⟨kk, -⟩ | ⟨kk, -⟩
    · omega
    · omega
    · omega
    · omega
    · rw [ec] at ec'
      cases ec'
      rw [hg] at hg'
      cases hg'
      have hX := (PT q hq).f
      obtain ⟨-, -, h6, h7, h8, -⟩ := H.f g (by omega)
      obtain ⟨i1, i2⟩ := FP_all0 (D.FP g) h6
      rw [h7] at hl
      have ll : tlc t = (D.FP g).length := (nn_eq (a := tlc t) (b := (D.FP g).length) (by omega) (by omega)) ▸ hl
      exact ⟨by rw [i1]; exact ll.symm, i2⟩
    all_goals omega
  · have n0 : (pgG sp NL Pt E0 e).n e = 0 := if_neg (Nat.lt_irrefl e)
    have a0 : (pgG sp NL Pt E0 e).a e = 0 := if_neg (Nat.lt_irrefl e)
    show shLe (pgG sp NL Pt E0 e) _ _ _ e
    exact ⟨by rw [n0]; exact Nat.zero_le _, by rw [a0]; exact Nat.zero_le _, fun x hx => by rw [a0] at hx; exact absurd hx (Nat.not_lt_zero _)⟩
/-- all SUMs of a point are in order -/
theorem wT_of {p St nb na nm n a : Nat} {rm : Nat → Nat} {sN : Int → Prop} {en : Int → Nat} {c : Nat} {t : tr} {x sz : Nat} {tk : Option Nat} (w : PTC h Y C E TT UU SC SP nC nE nS pa p St nb na nm n a rm sN en c t x sz tk) : wT c sN en (A0 n a rm) t := by
  obtain ⟨W1, -, -, W4, W5, W6, W7, W9⟩ := w
  have su : ∀ t sum, suA h C E TT UU SC SP nC nE nS pa nb na sN en n a rm t sum → wS sN en (A0 n a rm) t false := fun t sum q => by
    obtain ⟨c0, p0, q⟩ := q
    exact (q (A0 n a rm) rfl rfl (fun _ _ => rfl)).w
  refine ⟨fun k => ?_, fun k => ?_, fun k => ?_, fun k => ?_⟩
  · rcases k with k | k | k
    · obtain ⟨-, -, -, s1, s2, -, -, -, -, q⟩ := W1 k
      exact su _ _ q
    · obtain ⟨-, s1, s2, -, -, -, q⟩ := W4 k
      exact su _ _ q
    · obtain ⟨-, -, s2, -, q⟩ := W9 k
      exact su _ _ q
  · obtain ⟨-, s1, s2, z, -, -, -, -, -, -, -, q1, q2⟩ := W5 k
    exact ⟨su _ _ q1, su _ _ q2⟩
  · obtain ⟨-, s1, s2, -, -, -, -, -, q⟩ := W6 k
    have all : ∀ t sum, suR h C E TT UU SC SP nC nE nS pa nb na sN en n a rm t sum → wR sN en (A0 n a rm) t := by
      intro t
      induction t with
      | leaf _ => exact fun _ _ => trivial
      | branch m cs r _ ih => exact fun sum w => ⟨su _ _ w.1, ih (sum + 1) w.2⟩
    exact all _ _ q
  · obtain ⟨-, k0, ce, KA, WA, nK, KK, WW, -, -, q⟩ := W7 k
    exact (q (A0 n a rm) rfl rfl (fun _ _ => rfl)).1
theorem jC_7 {n : Nat} {cs : tr} (k : tK n = 8 ∨ tK n = 9) : jC n cs = 7 := by
  unfold jC
  rw [if_neg (by omega), if_neg (by omega), if_neg (by omega), if_neg (by omega), if_neg (by omega), if_pos k]
theorem jC_b {n : Nat} {cs : tr} : 1 ≤ jC n cs ∧ jC n cs ≤ 9 := by
  unfold jC
  repeat' split
  all_goals omega
theorem jC_3 {n : Nat} {cs : tr} (k : jC n cs = 3) : tK n = 4 := by
  unfold jC at k
  by_cases c3 : tK n = 3
  · rw [if_pos c3] at k
    split at k <;> omega
  · rw [if_neg c3] at k
    by_cases c4 : tK n = 4
    · exact c4
    · rw [if_neg c4] at k
      repeat' split at k
      all_goals omega
theorem af_J {q m : Nat} : afN ((pJ2 sp NL Pt E0).c q) m ((pJ2 sp NL Pt E0).t q) = afN ((pJ sp NL Pt E0).c q) m ((pJ sp NL Pt E0).t q) := by
  show afN (jC (Pt q).N (Pt q).C) m (jT2 (Pt q).N (rn sp NL (Pt q).C)) = afN (jC (Pt q).N (Pt q).C) m (jT (Pt q).N (rn sp NL (Pt q).C))
  by_cases k : tK (Pt q).N = 8 ∨ tK (Pt q).N = 9
  · rw [jC_7 k]
    rfl
  · unfold jT2
    rw [if_neg k]
theorem SHN_of (H : PGH sp NL D) (PT : ∀ q, q < e → PTp sp NL Pt E0 D q) (ow : ∀ q o, q < e → (Pt q).X.ow = some o → o < q) {f k w s : Nat} (ly : LYR D Pt f true (D.FT (D.c - 1)) k w s 0 e [] 0 (lyX0 D)) (I : ICm Y C E TT UU SC SP nC nE nS pa (pgG sp NL Pt E0 e) (pJ2 sp NL Pt E0) (e + 1) h) (O : ∀ q, q < e → OMx Φ (Pt q).L (Pt q).X) : SHN (pgG sp NL Pt E0 e) (pJ2 sp NL Pt E0) (e + 1) (fstP Pt e) (othP Pt e) := by
  have sh := SH_top H PT ow ly
  refine SHN.of ⟨fun p hp => ?_, fun p hp k7 => ?_, fun p hp => ?_, fun p hp x hx => ?_, fun p hp k3 => ?_, fun p hp k5 => ?_⟩
  · obtain ⟨⟨a1, a2, a3, a4⟩, -⟩ := sh p (by omega)
    rw [← af_J] at a2
    exact ⟨by omega, a2, a3, a4⟩
  · obtain ⟨-, b⟩ := sh p (by omega)
    obtain ⟨b1, b2, b3, b4⟩ := b k7
    exact ⟨by omega, b2, b3, b4⟩
  · obtain ⟨St, nb, na, nm, -, -, -, -, -, -, q7, -⟩ := I.2 p hp
    exact wT_of q7
  · by_cases c : p < e
    · have e1 : (pgG sp NL Pt E0 e).a p = (Pt p).X.na + cnAl (Pt p).L := if_pos c
      rw [e1] at hx
      exact (OM_a (O p c) hx).2
    · have e1 : (pgG sp NL Pt E0 e).a p = 0 := if_neg c
      rw [e1] at hx
      exact absurd hx (Nat.not_lt_zero _)
  · have k4 : tK (Pt p).N = 4 := jC_3 k3
    show (if tK (Pt p).N = 4 then (tV (hd1 (tT (Pt p).C))).toNat else 0) ≤ 64
    rw [if_pos k4]
    rcases (PT p (by omega)).k with ⟨kk, -⟩ | ⟨kk, a, v, ec, ka, kv, h6, q1, q2⟩ | ⟨kk, -⟩ | ⟨kk, -⟩ | ⟨kk, -⟩ | ⟨kk, -⟩ | ⟨kk, -⟩ | ⟨kk, -⟩
    · omega
    · rw [ec]
      show (tV v).toNat ≤ 64
      omega
    all_goals omega
  · obtain ⟨St, nb, na, nm, -, -, -, -, -, -, q7, -⟩ := I.2 p hp
    obtain ⟨-, -, -, -, W5, -⟩ := q7
    exact (W5 k5).1
end SHs
