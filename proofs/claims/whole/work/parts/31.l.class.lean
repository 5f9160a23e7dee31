set_option maxRecDepth 100000
section RK4
variable {h : mh_H} {o L G D P R X Y C E SC SP nC nE nS nb na : Nat} {A : ab} {sN : Int → Prop} {en : Int → Nat}
theorem O0_br (H : RE h o L G D P R X Y C E SC SP nC nE nS nb na A) {n : Nat} {cs r : tr} (i0 : O0 h o L G D P R C E SC SP nC nE nS nb na A sN en cs) (i1 : O0 h o L G D P R C E SC SP nC nE nS nb na A sN en (tT cs)) (i2 : O1 h o L G D P R C E SC SP nC nE nS nb na A sN en (tT cs)) : O0 h o L G D P R C E SC SP nC nE nS nb na A sN en (.branch n cs r) := by
  intro d sum part k Ke pE Ht al lw hg nm pl ph x4 c w k1 k2 k3 s1 s2 s3 s4 s5 s6 pn
  have B := H.B
  have S := H.S
  have low : ∀ (x y : Int64) (z : Int32), (∀ j, j < Ht → up lw Ht x j = lw j ∧ up hg Ht y j = hg j ∧ up nm Ht z j = nm j) := fun x y z j hj => ⟨up_n (by omega), up_n (by omega), up_n (by omega)⟩
  have tn : tN (.branch n cs r) = if tK n = 13 then some (tV n) else none := rfl
  have tn0 : ¬ tK n = 13 → (tN (.branch n cs r)).map en = none := fun z => by rw [tn, if_neg z]; rfl
  have cp := cl_pos w
  have k0 : mh_i h o 2 = Int32.ofNat nb := H.f2
  have k00 : mh_i h o 3 = Int32.ofNat na := H.f3
  by_cases k12 : tK n = 12
  · rw [cl_12 k12] at k1 pn ⊢
    rw [sh_12 k12] at s6
    obtain ⟨c1, c2⟩ := cd_12 k12 c
    have w' := w_12 k12 w
    rw [tn0 (by omega), ev_12 k12]
    obtain ⟨-, -, -, -, t5⟩ := rk_1 (d := d) (al := al) (lw := lw) (hg := hg) (nm := nm) (pl := pl) (ph := ph) B S (H := Ht) (part := part) (x4 := x4) s1 s2 k3 (k := k) (by omega) (by omega)
    have F := t5 (Or.inl c1) true (Ht + 1) _ _ _ al (fun Q' => by rw [c1]; exact q_102a (d := d + 1) (al := al) (lw := lw) (hg := hg) (nm := nm) (pl := pl) (ph := ph) B (by omega) Q')
    have K := rk_K (d := d + 2) (F := fun Q => mw (d + 3) 99 Q 25 [some (.ref o), some (.int (Int32.ofNat sum)), some (.int (Int32.ofNat part)), some (.int (Int32.ofNat k)), x4] [] (rS h o L G D P R al (Int32.ofNat Ht) lw hg nm pl ph)) (al := al) (al1 := 0) (al2 := 0) (lw := lw) (hg := hg) (nm := nm) (pl := pl) (ph := ph) B (by omega) (sum := sum) (part := part) (k := k) (s := none) (fun Q => by rw [i32_or0]; exact F Q) (low _ _ _) up_s
    rw [e_al0, up_s, up_s, Int32.toInt_toInt64, c2, e_ints_id w' w' (Int.le_refl _)] at K
    exact K
  · by_cases k13 : tK n = 13
    · rw [cl_13 k13] at k1 pn ⊢
      rw [sh_13 k13] at s6
      obtain ⟨c1, s, c2, c3⟩ := cd_13 k13 c
      obtain ⟨w1, w2⟩ := w_13 k13 w
      rw [ev_13 k13]
      have sn : (tN (.branch n cs r)).map en = some (en (tV n)) := by rw [tn, if_pos k13]; rfl
      rw [sn]
      obtain ⟨-, -, -, -, t5⟩ := rk_1 (d := d) (al := al) (lw := lw) (hg := hg) (nm := nm) (pl := pl) (ph := ph) B S (H := Ht) (part := part) (x4 := x4) s1 s2 k3 (k := k) (by omega) (by omega)
      obtain ⟨x, y, p1, p2, p3⟩ := q_102n (d := d + 1) (al := al) (lw := lw) (hg := hg) (nm := nm) (pl := pl) (ph := ph) B H.hP H.r H.T (H := Ht) (by omega) (s := s) (nb := nb) (z := mh_i h C (3 * k + 2)) k0 (by omega)
      have F := t5 (Or.inr (Or.inl c1)) true (Ht + 1) _ _ _ al (fun Q' => by rw [c1, c2]; exact p3 Q')
      have K := rk_K (d := d + 2) (F := fun Q => mw (d + 3) 99 Q 25 [some (.ref o), some (.int (Int32.ofNat sum)), some (.int (Int32.ofNat part)), some (.int (Int32.ofNat k)), x4] [] (rS h o L G D P R al (Int32.ofNat Ht) lw hg nm pl ph)) (al := al) (al1 := 0) (al2 := 0) (lw := lw) (hg := hg) (nm := nm) (pl := pl) (ph := ph) B (by omega) (sum := sum) (part := part) (k := k) (s := some (en (tV n))) (fun Q => by rw [i32_or0]; exact F Q) (low _ _ _) (by rw [up_s, c3]; rfl)
      obtain ⟨b1, b2, b3⟩ := ab_nm H.T w2
      rw [e_al0, up_s, up_s, p1, p2, ← c3, e_ints_id b1 b2 b3] at K
      exact K
    · by_cases k14 : tK n = 14
      · obtain ⟨m, cs', r', rfl, v1, v2, v3, v4, v5, v6⟩ := w_14 k14 w
        rw [cl_14 k14] at k1 pn ⊢
        rw [sh_14 k14] at s6
        obtain ⟨c1, c2, ⟨s, c3, c4⟩, c5⟩ := cd_14 k14 c
        have cp' := cl_pos v6
        rw [tn0 k13, ev_14 (cs := cs') k14]
        have i1' : O0 h o L G D P R C E SC SP nC nE nS nb na A sN en r' := i1
        have ka : k + (cl r' false + 1) - 1 = k + cl r' false := by omega
        rw [ka] at pn ⊢
        have Z1 := i1' d sum part k Ke pE Ht al lw hg nm pl ph x4 c1 v6 (by omega) k2 k3 s1 s2 s3 s4 s5 (by omega) (PN_le pn (by omega))
        refine rkP_bi Z1 (fun lw1 hg1 nm1 a b q1 q2 => ?_)
        obtain ⟨b1, b2, b3⟩ := (ev_in H.T r').1 v6 a b q1
        have NN := rk_n H (d := d + 3) (Ht := Ht) (al := al ||| (ev en A r' none).2) (lw := lw1) (hg := hg1) (nm := nm1) (pl := pl) (ph := ph) (x4 := some (.int 1)) s1 s3 s4 s5 (k := k + cl r' false - 1) (by omega) (PN_le pn (by omega))
        have kb' : k + cl r' false - 1 + 1 = k + cl r' false := by omega
        rw [kb'] at NN
        refine rkP_F NN ?_
        obtain ⟨-, -, -, -, t5⟩ := rk_1 (d := d) (al := al ||| (ev en A r' none).2) (lw := lw1) (hg := hg1) (nm := nm1) (pl := pl) (ph := ph) B S (H := Ht + 1) (part := part) (x4 := some (.int 1)) s1 s2 k3 (k := k + cl r' false) (by omega) (by omega)
        obtain ⟨f, x, y, e1, H', lw', hg', nm', e2, e3⟩ := q_102c (d := d + 1) (al := al ||| (ev en A r' none).2) (lw := lw1) (hg := hg1) (nm := nm1) (pl := pl) (ph := ph) B H.hP H.r H.T (H := Ht) (by omega) (s := s) (nb := na) (z := A.rm (en (tV m))) k00 (by omega) (by rw [c4]) ⟨v4, v5⟩ (by rw [q2.2.1, q2.2.2.1]; exact b3)
        rw [q2.2.1, q2.2.2.1, ← c4] at e1 e3
        have F := t5 (Or.inr (Or.inr (Or.inl c2))) f H' lw' hg' nm' _ (fun Q' => by rw [c2, c3, c5]; exact e3 Q')
        cases f with
        | false =>
          refine rk_N (d := d + 2) (al1 := (e_cell A (en (tV m)) a b).2) (H1 := H') (lw1 := lw') (hg1 := hg') (nm1 := nm') ?_ F
          exact Prod.ext (eR_n e1 rfl) rfl
        | true =>
          obtain ⟨g1, g2, g3, g4⟩ := e2 rfl
          subst g1 g2 g3 g4
          obtain ⟨x', y', h1, h2, h3⟩ := eR_s e1 rfl
          have K := rk_K (d := d + 2) (F := fun Q => mw (d + 3) 99 Q 25 [some (.ref o), some (.int (Int32.ofNat sum)), some (.int (Int32.ofNat part)), some (.int (Int32.ofNat (k + cl r' false))), some (.int 1)] [] (rS h o L G D P R (al ||| (ev en A r' none).2) (Int32.ofNat (Ht + 1)) lw1 hg1 nm1 pl ph)) (al := al ||| (ev en A r' none).2) (al1 := (e_cell A (en (tV m)) a b).2) (al2 := 0) (lw := lw1) (hg := hg1) (nm := nm1) (pl := pl) (ph := ph) B (by omega) (sum := sum) (part := part) (k := k + cl r' false) (s := none) F (fun j hj => ⟨up_n (by omega), up_n (by omega), up_n (by omega)⟩) up_s
          have hl : x' = A.lo (en (tV m)) ∧ y' = A.hi (en (tV m)) := by
            unfold e_cell at h1
            dsimp only at h1
            split at h1
            · cases h1; exact ⟨rfl, rfl⟩
            · cases h1
          have te := H.T.e (en (tV m)) v3
          rw [up_s, up_s, h2, h3, e_ints_id (by unfold iI; omega) (by unfold iI; omega) (by omega)] at K
          have ee : e_al (e_cell A (en (tV m)) a b).2 (some (x', y'), 0) = e_cell A (en (tV m)) a b := by
            refine Prod.ext h1.symm ?_
            exact i32_or0 _
          rw [ee] at K
          exact K
      · by_cases k15 : tK n = 15
        · have w' := w_15 k15 w
          rw [cl_15 k15] at k1 pn ⊢
          rw [sh_15 k15] at s6
          obtain ⟨c1, c2⟩ := cd_15 k15 c
          have cp' := cl_pos w'
          rw [tn0 k13, ev_15 k15]
          have ka : k + (cl cs false + 1) - 1 = k + cl cs false := by omega
          rw [ka] at pn ⊢
          have Z1 := i0 d sum part k Ke pE Ht al lw hg nm pl ph x4 c1 w' (by omega) k2 k3 s1 s2 s3 s4 s5 (by omega) (PN_le pn (by omega))
          refine rkP_bi Z1 (fun lw1 hg1 nm1 a b q1 q2 => ?_)
          obtain ⟨b1, b2, b3⟩ := (ev_in H.T cs).1 w' a b q1
          have NN := rk_n H (d := d + 3) (Ht := Ht) (al := al ||| (ev en A cs none).2) (lw := lw1) (hg := hg1) (nm := nm1) (pl := pl) (ph := ph) (x4 := some (.int 1)) s1 s3 s4 s5 (k := k + cl cs false - 1) (by omega) (PN_le pn (by omega))
          have kb' : k + cl cs false - 1 + 1 = k + cl cs false := by omega
          rw [kb'] at NN
          refine rkP_F NN ?_
          obtain ⟨t1, -⟩ := rk_1 (d := d) (al := al ||| (ev en A cs none).2) (lw := lw1) (hg := hg1) (nm := nm1) (pl := pl) (ph := ph) B S (H := Ht + 1) (part := part) (x4 := some (.int 1)) s1 s2 k3 (k := k + cl cs false) (by omega) (by omega)
          have F := t1 c2 (Ht + 1) _ _ _ (fun Q' => c_105 (d := d + 2) (Q := Q') (al := al ||| (ev en A cs none).2) (lw := lw1) (hg := hg1) (nm := nm1) (pl := pl) (ph := ph) B (by omega))
          have K := rk_K (d := d + 2) (F := fun Q => mw (d + 3) 99 Q 25 [some (.ref o), some (.int (Int32.ofNat sum)), some (.int (Int32.ofNat part)), some (.int (Int32.ofNat (k + cl cs false))), some (.int 1)] [] (rS h o L G D P R (al ||| (ev en A cs none).2) (Int32.ofNat (Ht + 1)) lw1 hg1 nm1 pl ph)) (al := al ||| (ev en A cs none).2) (al1 := 0) (al2 := 0) (lw := lw1) (hg := hg1) (nm := nm1) (pl := pl) (ph := ph) (Ht := Ht) B (by omega) (sum := sum) (part := part) (k := k + cl cs false) (s := none) (fun Q => by rw [i32_or0]; exact F Q) (fun j hj => ⟨up_n (by omega), up_n (by omega), up_n (by omega)⟩) up_s
          have v1 := q2.2.1
          have v2 := q2.2.2.1
          unfold iI at b1 b2
          rw [e_al0, up_s, up_s, i64_n (by omega), i64_n (by omega), v1, v2] at K
          exact K
        · by_cases k16 : tK n = 16
          · rw [cl_16 k16] at k1 pn ⊢
            rw [sh_16 k16] at s6
            rw [tn0 k13]
            obtain ⟨-, -, -, -, t5⟩ := rk_1 (d := d) (al := al) (lw := lw) (hg := hg) (nm := nm) (pl := pl) (ph := ph) B S (H := Ht) (part := part) (x4 := x4) s1 s2 k3 (k := k) (by omega) (by omega)
            have DO : ∀ l g, mh_i h C (3 * k) = 4 → (mh_i h C (3 * k + 1)).toInt = l → (mh_i h C (3 * k + 2)).toInt = g → iI l → iI g → l ≤ g → rkP (d + 3) (mkR h o L G D P R pl ph) o sum part (k + 1 - 1) al Ht lw hg nm (some (l, g), 0) none (fun Q => mw (d + 3) 99 Q 25 [some (.ref o), some (.int (Int32.ofNat sum)), some (.int (Int32.ofNat part)), some (.int (Int32.ofNat k)), x4] [] (rS h o L G D P R al (Int32.ofNat Ht) lw hg nm pl ph)) := by
              intro l g c1 c2 c3 b1 b2 b3
              have F := t5 (Or.inr (Or.inr (Or.inr c1))) true (Ht + 1) _ _ _ al (fun Q' => by rw [c1]; exact q_102i (d := d + 1) (al := al) (lw := lw) (hg := hg) (nm := nm) (pl := pl) (ph := ph) B (by omega) Q')
              have K := rk_K (d := d + 2) (F := fun Q => mw (d + 3) 99 Q 25 [some (.ref o), some (.int (Int32.ofNat sum)), some (.int (Int32.ofNat part)), some (.int (Int32.ofNat k)), x4] [] (rS h o L G D P R al (Int32.ofNat Ht) lw hg nm pl ph)) (al := al) (al1 := 0) (al2 := 0) (lw := lw) (hg := hg) (nm := nm) (pl := pl) (ph := ph) B (by omega) (sum := sum) (part := part) (k := k) (s := none) (fun Q => by rw [i32_or0]; exact F Q) (low _ _ _) up_s
              rw [e_al0, up_s, up_s, Int32.toInt_toInt64, Int32.toInt_toInt64, c2, c3, e_ints_id b1 b2 b3] at K
              exact K
            rcases w_16 k16 w with ⟨u, rfl⟩ | ⟨l, d1, g', d2, r3, rfl, v1, v2, v3, v4⟩
            · obtain ⟨c1, c2, c3⟩ := cd_16 k16 c
              rw [ev_16 k16]
              exact DO _ _ c1 c2 c3 (by unfold iI; omega) (by unfold iI; omega) (by omega)
            · obtain ⟨c1, c2, c3⟩ := cd_16b k16 c
              rw [ev_16b k16]
              exact DO _ _ c1 c2 c3 v2 v3 v4
          · obtain ⟨m, cs', r', rfl, w1, w2⟩ := w_17 ⟨k12, k13, k14, k15, k16⟩ w
            rw [cl_17 ⟨k12, k13, k14, k15, k16⟩] at k1 pn ⊢
            rw [sh_17 ⟨k12, k13, k14, k15, k16⟩] at s6
            obtain ⟨c1, c2, c3⟩ := cd_17 ⟨k12, k13, k14, k15, k16⟩ c
            have cp' := cl_pos w1
            rw [tn0 k13, ev_17 ⟨k12, k13, k14, k15, k16⟩]
            have i2' : O1 h o L G D P R C E SC SP nC nE nS nb na A sN en r' := i2
            have Z1 := i0 d sum part k Ke pE Ht al lw hg nm pl ph x4 c1 w1 (by omega) k2 k3 s1 s2 s3 s4 s5 (by omega) (PN_le pn (by omega))
            refine rkP_bi Z1 (fun lw1 hg1 nm1 a b q1 q2 => ?_)
            obtain ⟨b1, b2, b3⟩ := (ev_in H.T _).1 w1 a b q1
            have kb' : k + cl (.branch m cs' r') false - 1 + 1 = k + cl (.branch m cs' r') false := by omega
            have tnm : tN (.branch m cs' r') = if tK m = 13 then some (tV m) else none := rfl
            have Z2 := i2' d sum part (k + cl (.branch m cs' r') false - 1) Ke pE Ht (al ||| (ev en A (.branch m cs' r') none).2) lw1 hg1 nm1 pl ph a b (if tK m = 13 then some (tV m) else none) (by rw [kb']; exact c2) w2 (by omega) k2 k3 s1 s2 s3 s4 s5 (by omega) (PN_le pn (by omega)) q2.2.1 q2.2.2.1 b1 b2 b3 (by rw [← tnm]; exact q2.2.2.2) (by rw [← tnm]; exact nmC_of w1 q1)
            have ke : k + cl (.branch m cs' r') false - 1 + cl r' true = k + (cl (.branch m cs' r') false + cl r' true) - 1 := by omega
            have tsr : ¬ ts r' = 0 := by omega
            rw [ke, if_neg tsr] at Z2
            exact Z2
/-- the class's reckoning is ev: one value more, or nothing -/
theorem o_99 (H : RE h o L G D P R X Y C E SC SP nC nE nS nb na A) : ∀ t, O0 h o L G D P R C E SC SP nC nE nS nb na A sN en t ∧ O1 h o L G D P R C E SC SP nC nE nS nb na A sN en t ∧ O0 h o L G D P R C E SC SP nC nE nS nb na A sN en (tT t) ∧ O1 h o L G D P R C E SC SP nC nE nS nb na A sN en (tT t) := by
  have L0 : ∀ u, O0 h o L G D P R C E SC SP nC nE nS nb na A sN en (.leaf u) := by
    intro u d sum part k Ke pE Ht al lw hg nm pl ph x4 _ w
    exact absurd w (fun z => z)
  intro t
  induction t with
  | leaf u => exact ⟨L0 u, O1_leaf u, L0 u, O1_leaf u⟩
  | branch n cs r ih1 ih2 => exact ⟨O0_br H ih1.1 ih1.2.2.1 ih1.2.2.2, O1_br H ih1.1 ih2.2.1, ih2.1, ih2.2.1⟩
end RK4
