set_option maxRecDepth 100000
/-! Effect.putAside -/
def nw (h : mh_H) : mh_H := nwS (mh_n h) (mh_new h 8 6)
def puH (h : mh_H) (n Ho Fa Be Sp : Nat) : mh_H := mh_sr (mh_sr (mh_sr (mh_sr (mh_sr h 51 n (some Ho)) 34 3 (some Be)) 34 2 (some Sp)) 34 4 (some Fa)) 35 1 (some Fa)
theorem cfR_le : ∀ t ∈ cfR, t.1 ≤ 73 := by decide +kernel
section PUs
variable {d : Nat} {h h1 : mh_H} {P R lP Y C E TT UU SC SP nC nE nS nb na Ho Fa Be n m Sp : Nat}
theorem nw_n : mh_n (nw h) = mh_n h + 3 := nrfl rfl
theorem nw_s : mh_s (nw h) = mh_s h + 330 := nrfl rfl
theorem nw_z : fz (fun _ _ => False) h (nw h) := by
  refine ⟨by rw [nw_n]; omega, fun b hb => ?_, fun b j hb _ => ?_⟩
  · have n0 : ¬ b = mh_n h := by omega
    have n1 : ∀ i, ¬ b = mh_n h + i := fun i => by omega
    unfold nw nwS
    simp only [hk_sr, hl_sr, hk_new, hl_new, hn_sr, hn_new, Nat.add_assoc, Nat.reduceAdd, n0, n1, if_false, and_self]
  · have n0 : ¬ b = mh_n h := by omega
    have n1 : ∀ i, ¬ b = mh_n h + i := fun i => by omega
    unfold nw nwS
    simp only [hi_sr, hj_sr, hr_sr, hi_new, hj_new, hr_nw, hn_sr, hn_new, Nat.add_assoc, Nat.reduceAdd, n0, n1, if_false, false_and, and_self]
theorem nw_so : so (nw h) (mh_n h) := by
  unfold so mg nw nwS
  simp only [hk_sr, hl_sr, hr_sr, hk_new, hl_new, hr_nw, hn_sr, hn_new, Nat.add_assoc, Nat.reduceAdd, if_false, if_true, false_and, and_self, and_true, true_and, Nat.left_eq_add, Nat.add_eq_left, Nat.add_left_cancel_iff, Nat.reduceEqDiff, Nat.lt_add_right_iff_pos, Nat.add_lt_add_iff_left, Nat.reduceLT]
theorem pl_n (F : CF h) {b j : Nat} (p : isPl b j) : b < mh_n h := by
  have := (F.g 73 104 250 (by decide +kernel)).2
  unfold isPl at p
  omega
/-- where cells are new and nothing else -/
theorem SV_0 (x : fz (fun _ _ => False) h h1) (V : SV h P R lP Y C E TT UU SC SP nC nE nS nb na Ho Fa Be n) : SV h1 P R lP Y C E TT UU SC SP nC nE nS nb na Ho Fa Be n ∧ ∀ b j, isPl b j → mh_r h1 b j = mh_r h b j := by
  have n73 := (V.F.g 73 104 250 (by decide +kernel)).2
  have rr : ∀ b j, b < mh_n h → mh_r h1 b j = mh_r h b j := fun b j hb => (x.2.2 b j hb (fun z => z)).2.2
  have ri : ∀ b j, b < mh_n h → mh_i h1 b j = mh_i h b j := fun b j hb => (x.2.2 b j hb (fun z => z)).1
  have pr : ∀ b j, isPl b j → mh_r h1 b j = mh_r h b j := fun b j p => rr b j (pl_n V.F p)
  have cc : ∀ o, cs h1 o → cs h o := fun o ⟨b, j, p, e⟩ => ⟨b, j, p, by rw [← pr b j p]; exact e⟩
  have q := V.q
  have p := V.p
  refine ⟨⟨⟨fun t ht => ⟨fz_mg x (V.F.k t ht).1, by rw [fz_l x (V.F.k t ht).1]; exact (V.F.k t ht).2⟩, fun t ht => by rw [rr _ _ (by have := cfR_le t ht; omega)]; exact V.F.r t ht⟩, ⟨fun b j o hp e => ?_, fun b j b' j' o hp hp' e e' => ?_⟩, ?_, ?_, ?_, ?_, ?_, ?_, ?_, ?_, ?_, ?_, ?_⟩, pr⟩
  · rw [pr b j hp] at e
    exact ⟨so_fz x (fun z => z) (fun z => z) (V.S.o b j o hp e).1, (V.S.o b j o hp e).2⟩
  · rw [pr b j hp] at e
    rw [pr b' j' hp'] at e'
    exact V.S.i b j b' j' o hp hp' e e'
  · exact ⟨by rw [rr _ _ (by omega)]; exact p.r9, by rw [rr _ _ (by omega)]; exact p.r10, fz_mg x p.g9, fz_mg x p.g10, by rw [fz_l x p.g9]; exact p.l9, by rw [fz_l x p.g10]; exact p.l10, p.d, p.n, fun o c => p.s o (cc o c), p.b⟩
  · have ry : ∀ j, mh_r h1 Y j = mh_r h Y j := fun j => rr Y j q.gY.2
    exact ⟨fz_mg x q.gY, by rw [ry]; exact q.r0, by rw [ry]; exact q.r2, by rw [ry]; exact q.r3, by rw [ry]; exact q.r4, by rw [ry]; exact q.r6, by rw [ry]; exact q.r7, fz_mg x q.gC, fz_mg x q.gE, fz_mg x q.gT, fz_mg x q.gU, fz_mg x q.g6, fz_mg x q.g7, by rw [fz_l x q.gC]; exact q.lC, by rw [fz_l x q.gE]; exact q.lE, by rw [fz_l x q.gT]; exact q.lT, by rw [fz_l x q.gU]; exact q.lU, by rw [fz_l x q.g6]; exact q.l6, by rw [fz_l x q.g7]; exact q.l7, q.n, q.bC, q.bE, q.bS⟩
  · rw [rr _ _ (by omega)]; exact V.r0
  · rw [rr _ _ (by omega)]; exact V.r1
  · rw [ri _ _ (by omega)]; exact V.f2
  · rw [ri _ _ (by omega)]; exact V.f3
  · rw [rr _ _ (by omega)]; exact V.y
  · rw [rr _ _ (by omega)]; exact V.h2
  · rw [rr _ _ (by omega)]; exact V.h3
  · rw [rr _ _ (by omega)]; exact V.h4
  · rw [ri _ _ (by omega)]; exact V.a6
theorem pu_o : rO h (puH h n Ho Fa Be Sp) := ⟨rfl, rfl, rfl, rfl, rfl, rfl, fun b j w => by
  unfold puH
  rw [hr_sr, if_neg (by omega), hr_sr, if_neg (by omega), hr_sr, if_neg (by omega), hr_sr, if_neg (by omega), hr_sr, if_neg (by omega)]⟩
theorem pu_2 : mh_r (puH h n Ho Fa Be Sp) 34 2 = some Sp := by
  unfold puH
  rw [hr_sr, if_neg (by omega), hr_sr, if_neg (by omega), hr_sr, if_pos ⟨rfl, rfl⟩]
theorem pu_3 : mh_r (puH h n Ho Fa Be Sp) 34 3 = some Be := by
  unfold puH
  rw [hr_sr, if_neg (by omega), hr_sr, if_neg (by omega), hr_sr, if_neg (by omega), hr_sr, if_pos ⟨rfl, rfl⟩]
theorem pu_4 : mh_r (puH h n Ho Fa Be Sp) 34 4 = some Fa := by
  unfold puH
  rw [hr_sr, if_neg (by omega), hr_sr, if_pos ⟨rfl, rfl⟩]
theorem pu_1 : mh_r (puH h n Ho Fa Be Sp) 35 1 = some Fa := by
  unfold puH
  rw [hr_sr, if_pos ⟨rfl, rfl⟩]
theorem pu_n : mh_r (puH h n Ho Fa Be Sp) 51 n = some Ho := by
  unfold puH
  rw [hr_sr, if_neg (by omega), hr_sr, if_neg (by omega), hr_sr, if_neg (by omega), hr_sr, if_neg (by omega), hr_sr, if_pos ⟨rfl, rfl⟩]
theorem pu_r {b j : Nat} (w : ¬ ((b = 34 ∧ (j = 2 ∨ j = 3 ∨ j = 4)) ∨ (b = 35 ∧ j = 1) ∨ (b = 51 ∧ j = n))) : mh_r (puH h n Ho Fa Be Sp) b j = mh_r h b j := by
  unfold puH
  rw [hr_sr, if_neg (by omega), hr_sr, if_neg (by omega), hr_sr, if_neg (by omega), hr_sr, if_neg (by omega), hr_sr, if_neg (by omega)]
theorem put_r (V : SV h P R lP Y C E TT UU SC SP nC nE nS nb na Ho Fa Be m) (sP : so h Sp) (aP : cAd Sp) (un : ∀ b j, isPl b j → mh_r h b j = some Sp → b = 51 ∧ j = n) (pr : ∀ z, z = P ∨ z = R → z < Sp ∨ Sp + 2 < z) : SV (puH h n Ho Fa Be Sp) P R lP Y C E TT UU SC SP nC nE nS nb na Sp Be Fa m ∧ ∀ o, cs (puH h n Ho Fa Be Sp) o → cs h o ∨ o = Sp := by
  have x := pu_o (h := h) (n := n) (Ho := Ho) (Fa := Fa) (Be := Be) (Sp := Sp)
  have p2 : isPl 34 2 := Or.inl ⟨rfl, by omega⟩
  have p3 : isPl 34 3 := Or.inl ⟨rfl, by omega⟩
  have p4 : isPl 34 4 := Or.inl ⟨rfl, by omega⟩
  have old : ∀ b j o, isPl b j → mh_r (puH h n Ho Fa Be Sp) b j = some o → (b = 34 ∧ j = 2 ∧ o = Sp) ∨ ∃ b0 j0, isPl b0 j0 ∧ mh_r h b0 j0 = some o ∧ ¬ (b0 = 51 ∧ j0 = n) ∧ ((b = 34 ∧ j = 3 ∧ b0 = 34 ∧ j0 = 4) ∨ (b = 34 ∧ j = 4 ∧ b0 = 34 ∧ j0 = 3) ∨ (b = 51 ∧ j = n ∧ b0 = 34 ∧ j0 = 2) ∨ (b0 = b ∧ j0 = j ∧ ¬ (b = 34 ∧ (j = 2 ∨ j = 3 ∨ j = 4)))) := fun b j o p e => by
    by_cases c2 : b = 34 ∧ j = 2
    · rw [c2.1, c2.2, pu_2] at e; cases e; exact Or.inl ⟨c2.1, c2.2, rfl⟩
    · by_cases c3 : b = 34 ∧ j = 3
      · rw [c3.1, c3.2, pu_3] at e; cases e; exact Or.inr ⟨34, 4, p4, V.h4, by omega, Or.inl ⟨c3.1, c3.2, rfl, rfl⟩⟩
      · by_cases c4 : b = 34 ∧ j = 4
        · rw [c4.1, c4.2, pu_4] at e; cases e; exact Or.inr ⟨34, 3, p3, V.h3, by omega, Or.inr (Or.inl ⟨c4.1, c4.2, rfl, rfl⟩)⟩
        · by_cases c5 : b = 51 ∧ j = n
          · rw [c5.1, c5.2, pu_n] at e; cases e; exact Or.inr ⟨34, 2, p2, V.h2, by omega, Or.inr (Or.inr (Or.inl ⟨c5.1, c5.2, rfl, rfl⟩))⟩
          · have b35 : ¬ b = 35 := by unfold isPl at p; omega
            rw [pu_r (by omega)] at e
            exact Or.inr ⟨b, j, p, e, c5, Or.inr (Or.inr (Or.inr ⟨rfl, rfl, by omega⟩))⟩
  have cc : ∀ o, cs (puH h n Ho Fa Be Sp) o → cs h o ∨ o = Sp := fun o ⟨b, j, p, e⟩ => by
    rcases old b j o p e with ⟨-, -, q⟩ | ⟨b0, j0, q1, q2, -⟩
    · exact Or.inr q
    · exact Or.inl ⟨b0, j0, q1, q2⟩
  refine ⟨⟨rO_CF x V.F, ⟨fun b j o p e => ?_, fun b j b' j' o p p' e e' => ?_⟩, rO_CP x (fun o c => (cc o c).elim Or.inl (fun q => Or.inr (by rw [q]; exact pr))) V.p, rO_SQ x V.q, by rw [pu_r (by omega)]; exact V.r0, pu_1, by rw [x.ei]; exact V.f2, by rw [x.ei]; exact V.f3, by rw [pu_r (by omega)]; exact V.y, pu_2, pu_3, pu_4, by rw [x.ei]; exact V.a6⟩, cc⟩
  · rcases cc o ⟨b, j, p, e⟩ with q | q
    · obtain ⟨s, a⟩ := cs_so V.S q
      exact ⟨rO_so x a s, a⟩
    · rw [q]; exact ⟨rO_so x aP sP, aP⟩
  · rcases old b j o p e with ⟨a1, a2, a3⟩ | ⟨b0, j0, q1, q2, q3, q4⟩ <;> rcases old b' j' o p' e' with ⟨a1', a2', a3'⟩ | ⟨b0', j0', q1', q2', q3', q4'⟩
    · omega
    · exact absurd (un b0' j0' q1' (by rw [← a3]; exact q2')) q3'
    · exact absurd (un b0 j0 q1 (by rw [← a3']; exact q2)) q3
    · have := V.S.i b0 j0 b0' j0' o q1 q1' q2 q2'
      omega
end PUs
