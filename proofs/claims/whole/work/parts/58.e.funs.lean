set_option maxRecDepth 100000
/-! functions, as the class knows them -/
section FIs
variable {s : cps} {x y j : Nat}
theorem fiA_n : (fiA s).2 (24 + x) j = s.2 (24 + x) j := by
  unfold fiA
  rw [u2_2, if_neg (by omega), u2_2, if_neg (by omega)]
theorem fiS_n (h5 : j ≠ 5) (h6 : j ≠ 6) : (fiS s).2 (24 + x) j = s.2 (24 + x) j := by
  unfold fiS
  by_cases c : s.1 9 = 0 ∨ s.2 15 (6 * (s.1 9 - 1) + 5) = -1
  · rw [if_pos c]; exact fiA_n
  · rw [if_neg c, u2_2, if_neg (fun z => h6 z.2), u2_2, if_neg (fun z => h5 z.2)]
    exact fiA_n
theorem fiS_0 (c : s.2 15 (6 * (s.1 9 - 1) + 5) = -1) : (fiS s).2 (24 + x) j = s.2 (24 + x) j := by
  unfold fiS
  rw [if_pos (Or.inr c)]
  exact fiA_n
theorem fiS_v (h9 : ¬ s.1 9 = 0) (c : s.2 15 (6 * (s.1 9 - 1) + 5) = Int32.ofNat y) (hy : y < 1000000) : ((fiS s).2 (24 + x) 5 = if x = y then 7 else s.2 (24 + x) 5) ∧ ((fiS s).2 (24 + x) 6 = if x = y then s.2 (24 + y) 2 else s.2 (24 + x) 6) := by
  unfold fiS
  have ne : ¬ s.2 15 (6 * (s.1 9 - 1) + 5) = -1 := fun z => by
    rw [c] at z
    have e' : (Int32.ofNat y = -1) = False := nn_m2 (by omega)
    exact e' ▸ z
  have cy : (s.2 15 (6 * (s.1 9 - 1) + 5)).toNatClampNeg = y := by rw [c]; exact nn_clamp (by omega)
  rw [if_neg (fun z => z.elim h9 ne), cy]
  constructor
  · rw [u2_2, if_neg (by omega), u2_2]
    by_cases e : x = y
    · rw [if_pos ⟨by omega, rfl⟩, if_pos e]
    · rw [if_neg (by omega), if_neg e]
      exact fiA_n
  · rw [u2_2]
    by_cases e : x = y
    · rw [if_pos ⟨by omega, rfl⟩, if_pos e]
    · rw [if_neg (by omega), if_neg e, u2_2, if_neg (by omega)]
      exact fiA_n
end FIs
/-- a function, one of the program -/
def FPK (K : Nat → Int32) (P : Nat → Nat) (sp : Nat → Nat → Bool) (s : cps) (N : Nat) (L : cen) (t : tr) (cs : tr) (g i x y : Nat) : Prop := (∃ a r b0, cs = .branch a (.leaf ()) (tC r (tNd b0 t)) ∧ tK a = 13 ∧ (tV a).toNat = i ∧ pmT K P r (i + 2) ∧ tK b0 = 2 ∧ L = prL r [] ∧ tP a = P i) ∧ (K i = 2) ∧ (L.length = L.length ∧ cnZl L = L.length ∧ cnAl L = 0) ∧ (∀ j, j < L.length → zTk L j = i + 2 + 2 * j) ∧ (∀ a z, (a, z) ∈ L → K a = 2 ∧ z = 0) ∧ (0 < L.length → K (i + 2 * L.length) = 2) ∧ (s.2 15 (6 * g) = Int32.ofNat i) ∧ (s.2 15 (6 * g + 1) = Int32.ofNat L.length) ∧ (s.2 15 (6 * g + 2) = rpT sp L) ∧ (s.2 15 (6 * g + 3) = Int32.ofNat x) ∧ (s.2 15 (6 * g + 4) = Int32.ofNat y) ∧ (s.2 15 (6 * g + 5) = (if gvT t = true then Int32.ofNat (y - 1) else -1)) ∧ (stR sp s g N true t x y L L.length) ∧ (gbM t 0)
theorem FPK.of {K : Nat → Int32} {P : Nat → Nat} {sp : Nat → Nat → Bool} {s : cps} {N : Nat} {L : cen} {t : tr} {cs : tr} {g i x y : Nat} (q : (∃ a r b0, cs = .branch a (.leaf ()) (tC r (tNd b0 t)) ∧ tK a = 13 ∧ (tV a).toNat = i ∧ pmT K P r (i + 2) ∧ tK b0 = 2 ∧ L = prL r [] ∧ tP a = P i) ∧ (K i = 2) ∧ (L.length = L.length ∧ cnZl L = L.length ∧ cnAl L = 0) ∧ (∀ j, j < L.length → zTk L j = i + 2 + 2 * j) ∧ (∀ a z, (a, z) ∈ L → K a = 2 ∧ z = 0) ∧ (0 < L.length → K (i + 2 * L.length) = 2) ∧ (s.2 15 (6 * g) = Int32.ofNat i) ∧ (s.2 15 (6 * g + 1) = Int32.ofNat L.length) ∧ (s.2 15 (6 * g + 2) = rpT sp L) ∧ (s.2 15 (6 * g + 3) = Int32.ofNat x) ∧ (s.2 15 (6 * g + 4) = Int32.ofNat y) ∧ (s.2 15 (6 * g + 5) = (if gvT t = true then Int32.ofNat (y - 1) else -1)) ∧ (stR sp s g N true t x y L L.length) ∧ (gbM t 0)) : FPK K P sp s N L t cs g i x y := q
theorem FPK.c {K : Nat → Int32} {P : Nat → Nat} {sp : Nat → Nat → Bool} {s : cps} {N : Nat} {L : cen} {t : tr} {cs : tr} {g i x y : Nat} (q : FPK K P sp s N L t cs g i x y) : ∃ a r b0, cs = .branch a (.leaf ()) (tC r (tNd b0 t)) ∧ tK a = 13 ∧ (tV a).toNat = i ∧ pmT K P r (i + 2) ∧ tK b0 = 2 ∧ L = prL r [] ∧ tP a = P i := q.1
theorem FPK.k {K : Nat → Int32} {P : Nat → Nat} {sp : Nat → Nat → Bool} {s : cps} {N : Nat} {L : cen} {t : tr} {cs : tr} {g i x y : Nat} (q : FPK K P sp s N L t cs g i x y) : K i = 2 := q.2.1
theorem FPK.z {K : Nat → Int32} {P : Nat → Nat} {sp : Nat → Nat → Bool} {s : cps} {N : Nat} {L : cen} {t : tr} {cs : tr} {g i x y : Nat} (q : FPK K P sp s N L t cs g i x y) : L.length = L.length ∧ cnZl L = L.length ∧ cnAl L = 0 := q.2.2.1
theorem FPK.j {K : Nat → Int32} {P : Nat → Nat} {sp : Nat → Nat → Bool} {s : cps} {N : Nat} {L : cen} {t : tr} {cs : tr} {g i x y : Nat} (q : FPK K P sp s N L t cs g i x y) : ∀ j, j < L.length → zTk L j = i + 2 + 2 * j := q.2.2.2.1
theorem FPK.m {K : Nat → Int32} {P : Nat → Nat} {sp : Nat → Nat → Bool} {s : cps} {N : Nat} {L : cen} {t : tr} {cs : tr} {g i x y : Nat} (q : FPK K P sp s N L t cs g i x y) : ∀ a z, (a, z) ∈ L → K a = 2 ∧ z = 0 := q.2.2.2.2.1
theorem FPK.l {K : Nat → Int32} {P : Nat → Nat} {sp : Nat → Nat → Bool} {s : cps} {N : Nat} {L : cen} {t : tr} {cs : tr} {g i x y : Nat} (q : FPK K P sp s N L t cs g i x y) : 0 < L.length → K (i + 2 * L.length) = 2 := q.2.2.2.2.2.1
theorem FPK.h0 {K : Nat → Int32} {P : Nat → Nat} {sp : Nat → Nat → Bool} {s : cps} {N : Nat} {L : cen} {t : tr} {cs : tr} {g i x y : Nat} (q : FPK K P sp s N L t cs g i x y) : s.2 15 (6 * g) = Int32.ofNat i := q.2.2.2.2.2.2.1
theorem FPK.h1 {K : Nat → Int32} {P : Nat → Nat} {sp : Nat → Nat → Bool} {s : cps} {N : Nat} {L : cen} {t : tr} {cs : tr} {g i x y : Nat} (q : FPK K P sp s N L t cs g i x y) : s.2 15 (6 * g + 1) = Int32.ofNat L.length := q.2.2.2.2.2.2.2.1
theorem FPK.h2 {K : Nat → Int32} {P : Nat → Nat} {sp : Nat → Nat → Bool} {s : cps} {N : Nat} {L : cen} {t : tr} {cs : tr} {g i x y : Nat} (q : FPK K P sp s N L t cs g i x y) : s.2 15 (6 * g + 2) = rpT sp L := q.2.2.2.2.2.2.2.2.1
theorem FPK.h3 {K : Nat → Int32} {P : Nat → Nat} {sp : Nat → Nat → Bool} {s : cps} {N : Nat} {L : cen} {t : tr} {cs : tr} {g i x y : Nat} (q : FPK K P sp s N L t cs g i x y) : s.2 15 (6 * g + 3) = Int32.ofNat x := q.2.2.2.2.2.2.2.2.2.1
theorem FPK.h4 {K : Nat → Int32} {P : Nat → Nat} {sp : Nat → Nat → Bool} {s : cps} {N : Nat} {L : cen} {t : tr} {cs : tr} {g i x y : Nat} (q : FPK K P sp s N L t cs g i x y) : s.2 15 (6 * g + 4) = Int32.ofNat y := q.2.2.2.2.2.2.2.2.2.2.1
theorem FPK.h5 {K : Nat → Int32} {P : Nat → Nat} {sp : Nat → Nat → Bool} {s : cps} {N : Nat} {L : cen} {t : tr} {cs : tr} {g i x y : Nat} (q : FPK K P sp s N L t cs g i x y) : s.2 15 (6 * g + 5) = (if gvT t = true then Int32.ofNat (y - 1) else -1) := q.2.2.2.2.2.2.2.2.2.2.2.1
theorem FPK.s {K : Nat → Int32} {P : Nat → Nat} {sp : Nat → Nat → Bool} {s : cps} {N : Nat} {L : cen} {t : tr} {cs : tr} {g i x y : Nat} (q : FPK K P sp s N L t cs g i x y) : stR sp s g N true t x y L L.length := q.2.2.2.2.2.2.2.2.2.2.2.2.1
theorem FPK.g {K : Nat → Int32} {P : Nat → Nat} {sp : Nat → Nat → Bool} {s : cps} {N : Nat} {L : cen} {t : tr} {cs : tr} {g i x y : Nat} (q : FPK K P sp s N L t cs g i x y) : gbM t 0 := q.2.2.2.2.2.2.2.2.2.2.2.2.2
section FPs
variable {K : Nat → Int32} {m : Nat} {sp : Nat → Nat → Bool} {Sc : cps} {P : Nat → Nat} {T : tr} {N g : Nat}
theorem FP_of {cs : tr} {x y : Nat} (w : fnN sp Sc N g cs x y) (G : fnG K P cs) : ∃ i, FPK K P sp Sc N (prX (tT cs) []) (blX (tT cs)) cs g i x y := by
  obtain ⟨a, r, b0, bs, ec, ⟨ka, pw, kb0⟩, h0, h1, h2, h3, h4, h5, st⟩ := w
  obtain ⟨a', r', b0', bs', i, ec', ka', va, ki, pm, kb', gb, pa⟩ := G
  have P1 := prX_C (bs := bs) kb0 r [] pw
  have P2 := prX_C (bs := bs') kb' r' [] (pmT_W _ _ pm)
  have ee : a = a' ∧ tC r (tNd b0 bs) = tC r' (tNd b0' bs') := by
    have := ec.symm.trans ec'
    injection this with q1 q2 q3
    exact ⟨q1, q3⟩
  obtain ⟨ea, et⟩ := ee
  subst ea
  rw [← et, P1.1, P1.2] at P2
  have tt : tT cs = tC r (tNd b0 bs) := by rw [ec]; rfl
  have eFP : prX (tT cs) [] = prL r [] := by rw [tt]; exact P1.1
  have eFT : blX (tT cs) = bs := by rw [tt]; exact P1.2
  have ti : (tV a).toNat = i := by rw [va]; exact Int.toNat_natCast i
  obtain ⟨⟨z1, z2, z3⟩, z4, z5, z6⟩ := pm_z (K := K) (i0 := i + 2) r' (i + 2) [] pm rfl rfl rfl (fun j hj => absurd hj (Nat.not_lt_zero _)) (fun a z q => absurd q (by simp))
  rw [← P2.1] at z1 z2 z3 z4 z5
  rw [ti] at h0
  rw [eFP, eFT]
  refine ⟨i, FPK.of ⟨⟨a, r', b0', ?_, ka, ti, pm, kb', P2.1, pa⟩, ki, ⟨rfl, z2, z3⟩, z4, z5, fun q => ?_, h0, h1, h2, h3, h4, h5, st, by rw [P2.2]; exact gb⟩⟩
  · rw [ec', P2.2]
  have l0 : ([] : cen).length = 0 := rfl
  rw [l0, Nat.zero_add] at z1
  have := z6 (by omega)
  rw [show i + 2 + 2 * (tlc r' - 1) = i + 2 * (prL r []).length from by omega] at this
  exact this
theorem FC_of (Z : fnZ sp Sc N T 0 0 (Sc.1 9) (Sc.1 8)) (G : fgZ K P T) (tv : tvT K m T) (sy : syT T) (hz : ∀ i, K i = 2 → i < m) (hm : m ≤ 20000) (hT : ts T < 50000) (h8 : Sc.1 8 < 20000) : ∀ g, g < Sc.1 9 → FCq (lyDs sp (Sc.2 15) P T (Sc.1 9)) K m Sc (fiS Sc) N g := by
  obtain ⟨⟨zc, -⟩, xs, ys, atz⟩ := fnZ_at T 0 0 _ _ Z
  rw [Nat.zero_add] at zc
  intro g hg
  have pk : ∀ g, g < Sc.1 9 → ∃ i, FPK K P sp Sc N (prX (tT (fnA T g)) []) (blX (tT (fnA T g))) (fnA T g) g i (xs g) (ys g) := fun g hg => by
    obtain ⟨-, fnn, -⟩ := atz g (by omega)
    rw [Nat.zero_add] at fnn
    exact FP_of fnn (fgZ_at T G g (by omega))
  obtain ⟨i, F⟩ := pk g hg
  obtain ⟨iL, FL⟩ := pk (Sc.1 9 - 1) (by omega)
  obtain ⟨⟨x1, x2, x3⟩, -, ord, lst⟩ := atz g (by omega)
  obtain ⟨⟨u1, u2', u3⟩, -, -, lstL⟩ := atz (Sc.1 9 - 1) (by omega)
  have tvb : tvT K m (blX (tT (fnA T g))) := sub_bl (Φ := tvT K m) (fun _ => trivial) (fun n cs r w => ⟨w.2.1, w.2.2⟩) T tv g
  have syb : syT (blX (tT (fnA T g))) := sub_bl (Φ := syT) (fun _ => trivial) (fun n cs r w => ⟨w.2.1, w.2.2⟩) T sy g
  have tsb := ts_bl T g
  have hS : (lyDs sp (Sc.2 15) P T (Sc.1 9)).S g = xs g := by
    show (Sc.2 15 (6 * g + 3)).toNatClampNeg = xs g
    rw [F.h3]
    exact nn_clamp (by omega)
  have fm := F.m
  have fl := F.l
  have lenb : (prX (tT (fnA T g)) []).length < 50000 := by
    by_cases c : 0 < (prX (tT (fnA T g)) []).length
    · have := hz _ (fl c)
      omega
    · omega
  have c8 : (fiS Sc).1 8 = Sc.1 8 := by rw [fi_8]
  refine FCq.of ⟨⟨i, F.h0, F.j, fun z => hz _ (fl z)⟩, ⟨F.z.2.1, F.z.2.2, lenb⟩, F.h1, fun z => ?_, ⟨by rw [hS]; exact F.h3, by rw [hS]; omega⟩, ⟨ys g, F.h4, by rw [c8]; exact x3, ?_, ?_⟩, Nat.lt_of_le_of_lt tsb hT, ⟨tvb, syb⟩⟩
  · rcases rpT_m (sp := sp) (prX (tT (fnA T g)) []) with q | ⟨a, z', q1, q2⟩
    · exact absurd (F.h2.trans q) z
    · exact ⟨a, hz _ (fm a z' q1).1, F.h2.trans q2⟩
  · rw [hS]; exact F.s
  · rw [hS]
    refine wfR_of (D := lyDs sp (Sc.2 15) P T (Sc.1 9)) rfl N true _ _ (ys g) _ _ F.s (fun x h1 h2 => ?_)
    show (g + 1 = Sc.1 9 ∧ true = true ∧ gvT (blX (tT (fnA T g))) = true ∧ x + 1 = ys g → _) ∧ (¬ (g + 1 = Sc.1 9 ∧ true = true ∧ gvT (blX (tT (fnA T g))) = true ∧ x + 1 = ys g) → _)
    have h5L := FL.h5
    by_cases gv : gvT (blX (tT (fnA T (Sc.1 9 - 1)))) = true
    · rw [if_pos gv] at h5L
      obtain ⟨v5, v6⟩ := fiS_v (x := x) (by omega) h5L (by omega)
      rw [v5, v6]
      have sl := stR_L _ _ _ _ _ _ _ FL.s
      have tp : 0 < ts (blX (tT (fnA T (Sc.1 9 - 1)))) := by
        generalize blX (tT (fnA T (Sc.1 9 - 1))) = tq at gv
        cases tq with
        | leaf _ => cases gv
        | branch n cs r => show 0 < 1 + ts cs + ts r; omega
      have sp1 := stLq_1 _ tp
      refine ⟨fun z => ?_, fun z => ?_⟩
      · obtain ⟨z1, -, z3, z4⟩ := z
        have eg : g = Sc.1 9 - 1 := by omega
        subst eg
        rw [if_pos (by omega), if_pos (by omega)]
        exact ⟨rfl, by rw [show ys (Sc.1 9 - 1) - 1 = x from by omega]⟩
      · have ne : ¬ x = ys (Sc.1 9 - 1) - 1 := fun e => by
          by_cases eg : g = Sc.1 9 - 1
          · subst eg
            exact z ⟨by omega, rfl, gv, by omega⟩
          · have := ord (Sc.1 9 - 1) (by omega) (by omega)
            omega
        rw [if_neg ne, if_neg ne]
        exact ⟨rfl, rfl⟩
    · rw [if_neg gv] at h5L
      rw [fiS_0 h5L, fiS_0 h5L]
      refine ⟨fun z => absurd z.2.2.1 (fun q => gv ?_), fun _ => ⟨rfl, rfl⟩⟩
      have eg : g = Sc.1 9 - 1 := by omega
      rw [eg] at q
      exact q
end FPs
