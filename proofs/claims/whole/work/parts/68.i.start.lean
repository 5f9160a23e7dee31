set_option maxRecDepth 100000
/-! THE START: the reference's cells -/
def zwZ (h : mh_H) : mh_H := zwC (zwB (zwA h))
section ZFs
variable {d : Nat} {h h1 hE : mh_H}
theorem zw_no {b j : Nat} (hb : b ≠ 81) : ¬ zwW b j := fun z => hb z.1
theorem no_no {b j : Nat} (hb : 142 ≤ b) : ¬ noW b j := fun z => by
  unfold noW at z
  omega
theorem zz_z (hn : mh_n h = 2632) : fz zwW h (zwZ h) := by
  have x : fz (fun b j => zwW b j ∨ b = 2643) h (zwZ h) := fz_t (fz_w (fz_t (zw_Az hn) zw_Bz) (fun _ _ _ z => Or.inl z)) zw_Cz
  exact fz_w x (fun b j hb z => z.elim id (fun q => absurd hb (by omega)))
theorem zz_n (hn : mh_n h = 2632) : mh_n (zwZ h) = 2644 := by
  unfold zwZ
  rw [zw_Ck.2.2]
  exact zw_Bn (zw_An hn)
theorem zz_g (g : mg h 81 14) (hn : mh_n h = 2632) : mg (zwA h) 81 14 ∧ mg (zwB (zwA h)) 81 14 ∧ mg (zwZ h) 81 14 := ⟨fz_mg (zw_Az hn) g, fz_mg zw_Bz (fz_mg (zw_Az hn) g), fz_mg (zz_z hn) g⟩
/-- the run, whole -/
theorem zz_run (g : mg h 81 14) (hn : mh_n h = 2632) (y : ∀ Q : Option Value → mh_H → Prop, mcall d 299 [.ref 81] (zwZ h) Q = Q none h1) : ∀ Q, mw (d + 1) 298 Q 308 [some (.ref 81)] [.ref 115, .ref 81] h = Q none h1 := fun Q => by
  obtain ⟨g1, g2, g3⟩ := zz_g g hn
  have nB : mh_n (zwB (zwA h)) = 2644 := zw_Bn (zw_An hn)
  have k := (zw_Bk (zw_An hn)).2.2.2.2.2.2
  exact (zw_1 g hn Q).trans ((zw_2 g1 (zw_An hn) Q).trans ((zw_3 g2 ⟨k.1, Nat.lt_of_lt_of_eq (by decide) nB.symm⟩ k.2 Q).trans (zw_4 g3 y Q)))
theorem zz_k (hn : mh_n h = 2632) : (mh_k (zwZ h) 2637 = 100 ∧ mh_l (zwZ h) 2637 = 24000) ∧ (mh_k (zwZ h) 2638 = 100 ∧ mh_l (zwZ h) 2638 = 24000) ∧ (mh_k (zwZ h) 2639 = 100 ∧ mh_l (zwZ h) 2639 = 1000) ∧ (mh_k (zwZ h) 2640 = 100 ∧ mh_l (zwZ h) 2640 = 12) ∧ (mh_k (zwZ h) 2641 = 100 ∧ mh_l (zwZ h) 2641 = 384) ∧ (mh_k (zwZ h) 2642 = 101 ∧ mh_l (zwZ h) 2642 = 13) ∧ (mh_k (zwZ h) 2643 = 107 ∧ mh_l (zwZ h) 2643 = 8) := by
  unfold zwZ
  rw [zw_Ck.1, zw_Ck.2.1]
  exact zw_Bk (zw_An hn)
theorem zz_r (hn : mh_n h = 2632) : mh_r (zwZ h) 81 0 = some 2643 ∧ mh_r (zwZ h) 81 52 = some 115 ∧ mh_r (zwZ h) 81 53 = some 2632 ∧ mh_r (zwZ h) 81 56 = some 2637 ∧ mh_r (zwZ h) 81 58 = some 2638 ∧ mh_r (zwZ h) 81 59 = some 2639 ∧ mh_r (zwZ h) 81 61 = some 2640 ∧ mh_r (zwZ h) 81 62 = some 2641 ∧ mh_r (zwZ h) 81 63 = some 2642 := by
  obtain ⟨r0, rj⟩ := zw_Cr (h := zwB (zwA h))
  obtain ⟨b1, b2, b3, b4, b5, b6, b7, b8⟩ := zw_Br (zw_An hn)
  exact ⟨r0, (rj 52 (by decide)).trans (b1.trans (zw_Ar hn)), (rj 53 (by decide)).trans b2, (rj 56 (by decide)).trans b3, (rj 58 (by decide)).trans b4, (rj 59 (by decide)).trans b5, (rj 61 (by decide)).trans b6, (rj 62 (by decide)).trans b7, (rj 63 (by decide)).trans b8⟩
theorem zz_w (hn : mh_n h = 2632) : RK (zwZ h) 2632 (some A00) := by
  have x : fz (fun b j => zwW b j ∨ b = 2643) (zwA h) (zwZ h) := fz_t (fz_w zw_Bz (fun _ _ _ z => Or.inl z)) zw_Cz
  exact RK_fz x (fun y hy j z => by unfold zwW at z; omega) (zw_Ak hn)
theorem zz_i (hn : mh_n h = 2632) : ∀ j, mh_i (zwZ h) 2639 j = 0 := fun j => by
  have n1 : mh_n (zwB (zwA h)) = 2644 := zw_Bn (zw_An hn)
  exact (zw_Cz.2.2 2639 j (Nat.lt_of_lt_of_eq (by decide) n1.symm) (fun z => z.elim (zw_no (by decide)) (by decide))).1.trans (zw_Bi (zw_An hn) j)
theorem zz_F (hn : mh_n h = 2632) (K : ∀ t ∈ rfK, t.1 < 132 → mg h t.1 t.2.1 ∧ mh_l h t.1 = t.2.2) (R : ∀ t ∈ rfR, t.1 < 132 ∧ (t.1 = 115 ∨ (1 ≤ t.2.1 ∧ t.2.1 < 52)) → mh_r h t.1 t.2.1 = some t.2.2) (P : ∀ p, p < 250 → RK h (132 + 10 * p) (some A00) ∧ RK h (137 + 10 * p) (some A00) ∧ mh_r h 116 p = some (132 + 10 * p) ∧ mh_r h 117 p = some (137 + 10 * p)) (c : mh_r h 115 12 = some 120) : RF (zwZ h) := by
  have x := zz_z hn
  have nZ := zz_n hn
  obtain ⟨⟨k1, l1⟩, ⟨k2, l2⟩, ⟨k3, l3⟩, ⟨k4, l4⟩, ⟨k5, l5⟩, ⟨k6, l6⟩, k7, l7⟩ := zz_k hn
  obtain ⟨r0, r1, r2, r3, r4, r5, r6, r7, r8⟩ := zz_r hn
  have lt : ∀ b, b < 2644 → b < mh_n (zwZ h) := fun b hb => by rw [nZ]; exact hb
  refine ⟨fun t ht => ?_, fun t ht => ?_, fun p hp => ?_, RK_ko (zz_w hn), 120, ?_, lt 120 (by omega)⟩
  · have q : ∀ t ∈ rfK, t.1 < 132 ∨ t = (2637, 100, 24000) ∨ t = (2638, 100, 24000) ∨ t = (2639, 100, 1000) ∨ t = (2640, 100, 12) ∨ t = (2641, 100, 384) ∨ t = (2642, 101, 13) ∨ t = (2643, 107, 8) := by decide +kernel
    rcases q t ht with z | z | z | z | z | z | z | z
    · obtain ⟨a1, a2⟩ := K t ht z
      exact ⟨fz_mg x a1, (fz_l x a1).trans a2⟩
    · rw [z]; exact ⟨⟨k1, lt 2637 (by omega)⟩, l1⟩
    · rw [z]; exact ⟨⟨k2, lt 2638 (by omega)⟩, l2⟩
    · rw [z]; exact ⟨⟨k3, lt 2639 (by omega)⟩, l3⟩
    · rw [z]; exact ⟨⟨k4, lt 2640 (by omega)⟩, l4⟩
    · rw [z]; exact ⟨⟨k5, lt 2641 (by omega)⟩, l5⟩
    · rw [z]; exact ⟨⟨k6, lt 2642 (by omega)⟩, l6⟩
    · rw [z]; exact ⟨⟨k7, lt 2643 (by omega)⟩, l7⟩
  · have q : ∀ t ∈ rfR, (t.1 < 132 ∧ (t.1 = 115 ∨ (1 ≤ t.2.1 ∧ t.2.1 < 52))) ∨ t = (81, 0, 2643) ∨ t = (81, 52, 115) ∨ t = (81, 53, 2632) ∨ t = (81, 56, 2637) ∨ t = (81, 58, 2638) ∨ t = (81, 59, 2639) ∨ t = (81, 61, 2640) ∨ t = (81, 62, 2641) ∨ t = (81, 63, 2642) := by decide +kernel
    rcases q t ht with z | z | z | z | z | z | z | z | z | z
    · rw [← R t ht z]
      exact (x.2.2 t.1 t.2.1 (by omega) (fun w => by unfold zwW at w; omega)).2.2
    · rw [z]; exact r0
    · rw [z]; exact r1
    · rw [z]; exact r2
    · rw [z]; exact r3
    · rw [z]; exact r4
    · rw [z]; exact r5
    · rw [z]; exact r6
    · rw [z]; exact r7
    · rw [z]; exact r8
  · obtain ⟨p1, p2, p3, p4⟩ := P p hp
    refine ⟨ko_fz x (fun j => zw_no (by omega)) (RK_ko p1), ko_fz x (fun j => zw_no (by omega)) (RK_ko p2), ?_, ?_⟩
    · rw [← p3]
      exact (x.2.2 116 p (by omega) (zw_no (by decide))).2.2
    · rw [← p4]
      exact (x.2.2 117 p (by omega) (zw_no (by decide))).2.2
  · rw [← c]
    exact (x.2.2 115 12 (by omega) (zw_no (by decide))).2.2
/-- the words -/
theorem zz_s (k : Nat) (hk : k < 8) : me_xr (mh_i (zwZ h) 2643 k) = .retAddr (3 * (18 + k) + 3) := by
  have xr : ∀ n, 0 < n → n < 100 → me_xr (Int32.ofNat n) = .retAddr n := fun n h0 h1 => by
    unfold me_xr
    rw [if_neg (fun z => by
      have e := congrArg Int32.toNatClampNeg z
      rw [nn_clamp (by omega), show (0 : Int32).toNatClampNeg = 0 from by decide] at e
      omega), nn_clamp (by omega)]
  obtain ⟨c0, c1, c2, c3, c4, c5, c6, c7⟩ := zw_Ci (h := zwB (zwA h))
  have e : k = 0 ∨ k = 1 ∨ k = 2 ∨ k = 3 ∨ k = 4 ∨ k = 5 ∨ k = 6 ∨ k = 7 := by omega
  unfold zwZ
  rcases e with z | z | z | z | z | z | z | z <;> rw [z]
  · rw [c0]; exact xr 57 (by omega) (by omega)
  · rw [c1]; exact xr 60 (by omega) (by omega)
  · rw [c2]; exact xr 63 (by omega) (by omega)
  · rw [c3]; exact xr 66 (by omega) (by omega)
  · rw [c4]; exact xr 69 (by omega) (by omega)
  · rw [c5]; exact xr 72 (by omega) (by omega)
  · rw [c6]; exact xr 75 (by omega) (by omega)
  · rw [c7]; exact xr 78 (by omega) (by omega)
end ZFs
