set_option maxRecDepth 100000
/-! what stays of the reference where only the other side, or the text that is fed, shown or put in, changes -/
def WRf (W : Nat → Nat → Prop) (KR : Nat → Prop) (h : mh_H) : Prop := (∀ b, 81 ≤ b → b < 2644 → KR b) ∧ (∀ b j o, KR b → mh_r h b j = some o → KR o) ∧ (∀ b j, KR b → W b j → (b = 81 ∧ (j = 2 ∨ j = 54 ∨ j = 55 ∨ j = 57 ∨ j = 60 ∨ (64 ≤ j ∧ j ≤ 69))) ∨ b = 82 ∨ (2637 ≤ b ∧ b ≤ 2642))
theorem WRf.of {W : Nat → Nat → Prop} {KR : Nat → Prop} {h : mh_H} (q : (∀ b, 81 ≤ b → b < 2644 → KR b) ∧ (∀ b j o, KR b → mh_r h b j = some o → KR o) ∧ (∀ b j, KR b → W b j → (b = 81 ∧ (j = 2 ∨ j = 54 ∨ j = 55 ∨ j = 57 ∨ j = 60 ∨ (64 ≤ j ∧ j ≤ 69))) ∨ b = 82 ∨ (2637 ≤ b ∧ b ≤ 2642))) : WRf W KR h := q
theorem WRf.z {W : Nat → Nat → Prop} {KR : Nat → Prop} {h : mh_H} (q : WRf W KR h) : ∀ b, 81 ≤ b → b < 2644 → KR b := q.1
theorem WRf.c {W : Nat → Nat → Prop} {KR : Nat → Prop} {h : mh_H} (q : WRf W KR h) : ∀ b j o, KR b → mh_r h b j = some o → KR o := q.2.1
theorem WRf.w {W : Nat → Nat → Prop} {KR : Nat → Prop} {h : mh_H} (q : WRf W KR h) : ∀ b j, KR b → W b j → (b = 81 ∧ (j = 2 ∨ j = 54 ∨ j = 55 ∨ j = 57 ∨ j = 60 ∨ (64 ≤ j ∧ j ≤ 69))) ∨ b = 82 ∨ (2637 ≤ b ∧ b ≤ 2642) := q.2.2
section WRs
variable {W : Nat → Nat → Prop} {KR : Nat → Prop} {h h1 : mh_H}
theorem wr_n (k : WRf W KR h) {b : Nat} (hb : KR b) (n0 : b ≠ 81 ∧ b ≠ 82 ∧ (b < 2637 ∨ 2642 < b)) : ∀ j, ¬ W b j := fun j w => by
  rcases k.w b j hb w with z | z | z <;> omega
theorem wr_b (k : WRf W KR h) {b : Nat} (n0 : 83 ≤ b ∧ b < 2637) : ∀ j, ¬ W b j := wr_n k (k.z b (by omega) (by omega)) (by omega)
theorem wr_8 (k : WRf W KR h) {j : Nat} (n0 : ¬ (j = 2 ∨ j = 54 ∨ j = 55 ∨ j = 57 ∨ j = 60 ∨ (64 ≤ j ∧ j ≤ 69))) : ¬ W 81 j := fun w => by
  rcases k.w 81 j (k.z 81 (by omega) (by omega)) w with z | z | z
  · exact n0 z.2
  · omega
  · omega
theorem wr_i (f : fz W h h1) (k : WRf W KR h) (hn : 2644 ≤ mh_n h) (b : Nat) (n0 : 83 ≤ b ∧ b < 2637) : mh_i h1 b = mh_i h b := funext fun j => (f.2.2 b j (by omega) (wr_b k n0 j)).1
theorem wr_8i (f : fz W h h1) (k : WRf W KR h) (hn : 2644 ≤ mh_n h) (j : Nat) (n0 : ¬ (j = 2 ∨ j = 54 ∨ j = 55 ∨ j = 57 ∨ j = 60 ∨ (64 ≤ j ∧ j ≤ 69))) : mh_i h1 81 j = mh_i h 81 j := (f.2.2 81 j (by omega) (wr_8 k n0)).1
theorem wr_r (f : fz W h h1) (k : WRf W KR h) (hn : 2644 ≤ mh_n h) (b : Nat) (n0 : 83 ≤ b ∧ b < 2637) : mh_r h1 b = mh_r h b := funext fun j => (f.2.2 b j (by omega) (wr_b k n0 j)).2.2
theorem RF_n (F : RF h) : 2644 ≤ mh_n h := (F.g 2643 107 8 (by decide +kernel)).2
theorem RF_r (f : fz W h h1) (k : WRf W KR h) (F : RF h) : RF h1 := by
  have hn := RF_n F
  have r115 := wr_r f k hn 115 (by omega)
  have r116 := wr_r f k hn 116 (by omega)
  have r117 := wr_r f k hn 117 (by omega)
  obtain ⟨f1, f2, f3, f4, b, f5, f6⟩ := F
  refine ⟨fun t ht => ⟨fz_mg f (f1 t ht).1, (fz_l f (f1 t ht).1).trans (f1 t ht).2⟩, fun t ht => ?_, fun p hp => ?_, ko_fz f (wr_b k (by omega)) f4, b, by rw [r115]; exact f5, Nat.lt_of_lt_of_le f6 f.1⟩
  · have q : ∀ t ∈ rfR, (81 ≤ t.1 ∧ t.1 < 2644) ∧ ¬ ((t.1 = 81 ∧ (t.2.1 = 2 ∨ t.2.1 = 54 ∨ t.2.1 = 55 ∨ t.2.1 = 57 ∨ t.2.1 = 60 ∨ (64 ≤ t.2.1 ∧ t.2.1 ≤ 69))) ∨ t.1 = 82 ∨ (2637 ≤ t.1 ∧ t.1 ≤ 2642)) := by decide +kernel
    obtain ⟨q1, q2⟩ := q t ht
    rw [(f.2.2 t.1 t.2.1 (by omega) (fun w => q2 (k.w _ _ (k.z _ q1.1 q1.2) w))).2.2]
    exact f2 t ht
  · obtain ⟨g1, g2, g3, g4⟩ := f3 p hp
    exact ⟨ko_fz f (wr_b k (by omega)) g1, ko_fz f (wr_b k (by omega)) g2, by rw [r116]; exact g3, by rw [r117]; exact g4⟩
theorem RK_r (f : fz W h h1) (k : WRf W KR h) {o : Nat} {v : Option ab} (ho : 83 ≤ o ∧ o + 4 < 2637) (r : RK h o v) : RK h1 o v := RK_fz f (fun y hy => wr_b k (by omega)) r
theorem PR_r (f : fz W h h1) (k : WRf W KR h) (F : RF h) {PQ PS PU PF PL PH lP : Nat} (P : PR h PQ PS PU PF PL PH lP) : PR h1 PQ PS PU PF PL PH lP := PR_fz f F P (fun j _ _ => wr_b k (by omega) j) (fun i a e => Or.inl (by rw [wr_r f k (RF_n F) 119 (by omega)] at e; exact e))
theorem KS_r (f : fz W h h1) (k : WRf W KR h) (F : RF h) (S : KS h) : KS h1 := fun i a e => by
  rw [wr_r f k (RF_n F) 119 (by omega)] at e
  obtain ⟨a1, a2⟩ := S i a e
  exact ⟨a1, ko_fz f (wr_n k (k.c 119 i a (k.z 119 (by omega) (by omega)) e) (by omega)) a2⟩
theorem paR_r (f : fz W h h1) (k : WRf W KR h) (F : RF h) {b : Nat} : paR h1 b ↔ paR h b := by
  unfold paR
  rw [wr_r f k (RF_n F) 115 (by omega)]
theorem RYh_r (f : fz W h h1) (k : WRf W KR h) (Y : RYh h) : RYh h1 := by
  have hn := RF_n Y.F
  have r119 := wr_r f k hn 119 (by omega)
  have r115 := wr_r f k hn 115 (by omega)
  obtain ⟨PQ, PS, PU, PF, PL, PH, lP, pr⟩ := Y.P
  obtain ⟨c, t1, t2, t3, t4, t5, t6, t7⟩ := Y.t
  exact RYh.of ⟨RF_r f k Y.F, ⟨PQ, PS, PU, PF, PL, PH, lP, PR_r f k Y.F pr⟩, KS_r f k Y.F Y.K, by rw [r119]; exact Y.u, c, by rw [r115]; exact t1, fz_mg f t2, by rw [fz_l f t2]; exact t3, by rw [fz_l f t2]; exact t4, t5, by rw [r119]; exact t6, fun z => t7 ((paR_r f k Y.F).mp z)⟩
theorem RZ_r (f : fz W h h1) (k : WRf W KR h) (Z : RZ h) : RZ h1 := by
  have hn := RF_n Z.F
  have r119 := wr_r f k hn 119 (by omega)
  have r115 := wr_r f k hn 115 (by omega)
  obtain ⟨z1, z2, z3, z4, ⟨PQ, PS, PU, PF, PL, PH, lP, pr⟩, z6, z7⟩ := Z
  exact ⟨RF_r f k z1, by rw [r115]; exact z2, by rw [r115]; exact z3, by rw [r115]; exact z4, ⟨PQ, PS, PU, PF, PL, PH, lP, PR_r f k z1 pr⟩, KS_r f k z1 z6, by rw [r119]; exact z7⟩
theorem FT_r (f : fz W h h1) (k : WRf W KR h) (F : RF h) {D : fd} (T : FT h D) : FT h1 D := by
  have hn := RF_n F
  have r119 := wr_r f k hn 119 (by omega)
  have r115 := wr_r f k hn 115 (by omega)
  obtain ⟨c, t1, t2, t3, t4, t5, t6, t7, t8⟩ := T
  have kc' := k.c 115 12 c (k.z 115 (by omega) (by omega)) t1
  exact ⟨c, by rw [r115]; exact t1, fz_mg f t2, by rw [fz_l f t2]; exact t3, by rw [fz_l f t2]; exact t4, t5, by rw [r119]; exact t6, fun z => t7 ((paR_r f k F).mp z), fun g hg => by rw [fz_i f t2 (wr_n k kc' (by omega) g)]; exact t8 g hg⟩
/-- the reference's room: what is left of it -/
theorem qN_r (f : fz W h h1) (k : WRf W KR h) (Y : RYh h) : qN h1 = qN h + ((mh_n h1 : Int) - (mh_n h : Int)) ∧ qS h1 = qS h + ((mh_s h1 : Int) - (mh_s h : Int)) := by
  have hn := RF_n Y.F
  have r119 := wr_r f k hn 119 (by omega)
  have r115 := wr_r f k hn 115 (by omega)
  obtain ⟨PQ, PS, PU, PF, PL, PH, lP, pr⟩ := Y.P
  obtain ⟨c, t1, t2, -⟩ := Y.t
  have e1 : cnS h1 119 2048 = cnS h 119 2048 := cnS_c (fun i => by rw [r119])
  have e2 : ln h1 115 27 = ln h 115 27 := by
    unfold ln
    rw [r115, pr.1]
    exact fz_l f pr.2.2.2.2.2.2.1
  have e3 : ln h1 115 12 = ln h 115 12 := by
    unfold ln
    rw [r115, t1]
    exact fz_l f t2
  unfold qN qS
  rw [e1, e2, e3]
  constructor <;> omega
theorem RPT_c {p : Nat} {sN : Int → Prop} {en aR : Int → Nat} {n a : Nat} {rm : Nat → Nat} {cc : Nat} {t : tr} {x : Nat} {tk : Option Nat} {cnt f1 o1 : Nat} (e : ∀ b, b = 93 ∨ b = 95 ∨ b = 96 ∨ b = 97 ∨ (100 ≤ b ∧ b ≤ 108) → mh_i h1 b = mh_i h b) (w : RPT h p sN en aR n a rm cc t x tk cnt f1 o1) : RPT h1 p sN en aR n a rm cc t x tk cnt f1 o1 := by
  have eA : afr h1 cnt = afr h cnt := by
    funext a b c
    exact propext ⟨afr_G (fun b hb => (e b (by omega)).symm) a b c, afr_G (fun b hb => e b (by omega)) a b c⟩
  unfold RPT glF obF at w ⊢
  rw [e 93 (by omega), e 95 (by omega), e 96 (by omega), e 97 (by omega), e 100 (by omega), e 101 (by omega), e 102 (by omega), e 103 (by omega), e 104 (by omega), e 105 (by omega), e 106 (by omega), e 107 (by omega), eA]
  exact w
theorem MTT_c {p : Nat} {sN : Int → Prop} {en aR : Int → Nat} (e : ∀ b, b = 93 ∨ b = 95 ∨ b = 96 ∨ b = 97 ∨ (100 ≤ b ∧ b ≤ 108) → mh_i h1 b = mh_i h b) (w : MTT h p sN en aR) : MTT h1 p sN en aR := by
  unfold MTT at w ⊢
  rw [e 105 (by omega), e 106 (by omega), e 107 (by omega), e 108 (by omega)]
  exact w
end WRs
