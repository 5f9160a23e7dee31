theorem mi_276_0 : mc_P 276 0 = some (.aload_n 0, 1, 0, 0, 0) := by decide +kernel
theorem mi_276_1 : mc_P 276 1 = some (.invokespecial 1, 3, 0, 1, 0) := by decide +kernel
theorem mi_276_4 : mc_P 276 4 = some (.aload_n 0, 1, 0, 0, 0) := by decide +kernel
theorem mi_276_5 : mc_P 276 5 = some (.sipush 576, 3, 0, 0, 0) := by decide +kernel
theorem mi_276_8 : mc_P 276 8 = some (.newarray .long, 2, 101, 0, 0) := by decide +kernel
theorem mi_276_10 : mc_P 276 10 = some (.putfield 9, 3, 13, 3, 0) := by decide +kernel
theorem mi_276_13 : mc_P 276 13 = some (.aload_n 0, 1, 0, 0, 0) := by decide +kernel
theorem mi_276_14 : mc_P 276 14 = some (.bipush 6, 2, 0, 0, 0) := by decide +kernel
theorem mi_276_16 : mc_P 276 16 = some (.newarray .long, 2, 101, 0, 0) := by decide +kernel
theorem mi_276_18 : mc_P 276 18 = some (.putfield 13, 3, 13, 4, 0) := by decide +kernel
theorem mi_276_21 : mc_P 276 21 = some (.aload_n 0, 1, 0, 0, 0) := by decide +kernel
theorem mi_276_22 : mc_P 276 22 = some (.bipush 6, 2, 0, 0, 0) := by decide +kernel
theorem mi_276_24 : mc_P 276 24 = some (.newarray .long, 2, 101, 0, 0) := by decide +kernel
theorem mi_276_26 : mc_P 276 26 = some (.putfield 16, 3, 13, 5, 0) := by decide +kernel
theorem mi_276_29 : mc_P 276 29 = some (.aload_n 0, 1, 0, 0, 0) := by decide +kernel
theorem mi_276_30 : mc_P 276 30 = some (.bipush 6, 2, 0, 0, 0) := by decide +kernel
theorem mi_276_32 : mc_P 276 32 = some (.newarray .int, 2, 100, 0, 0) := by decide +kernel
theorem mi_276_34 : mc_P 276 34 = some (.putfield 19, 3, 13, 6, 0) := by decide +kernel
theorem mi_276_37 : mc_P 276 37 = some (.return_, 1, 0, 0, 0) := by decide +kernel
theorem mi_225_141 : mc_P 225 141 = some (.iconst 0, 1, 0, 0, 0) := by decide +kernel
theorem mi_225_142 : mc_P 225 142 = some (.istore_n 1, 1, 0, 0, 0) := by decide +kernel
theorem mi_225_143 : mc_P 225 143 = some (.iload_n 1, 1, 0, 0, 0) := by decide +kernel
theorem mi_225_144 : mc_P 225 144 = some (.sipush 250, 3, 0, 0, 0) := by decide +kernel
theorem mi_225_147 : mc_P 225 147 = some (.if_icmp .ge 35, 3, 0, 0, 0) := by decide +kernel
theorem mi_225_150 : mc_P 225 150 = some (.aload_n 0, 1, 0, 0, 0) := by decide +kernel
theorem mi_225_151 : mc_P 225 151 = some (.getfield 11, 3, 12, 4, 0) := by decide +kernel
theorem mi_225_154 : mc_P 225 154 = some (.iload_n 1, 1, 0, 0, 0) := by decide +kernel
theorem mi_225_155 : mc_P 225 155 = some (.new 9, 3, 13, 0, 0) := by decide +kernel
theorem mi_225_158 : mc_P 225 158 = some (.dup, 1, 0, 0, 0) := by decide +kernel
theorem mi_225_159 : mc_P 225 159 = some (.invokespecial 63, 3, 276, 2, 1) := by decide +kernel
theorem mi_225_162 : mc_P 225 162 = some (.aastore, 1, 0, 0, 0) := by decide +kernel
theorem mi_225_163 : mc_P 225 163 = some (.aload_n 0, 1, 0, 0, 0) := by decide +kernel
theorem mi_225_164 : mc_P 225 164 = some (.getfield 15, 3, 12, 5, 0) := by decide +kernel
theorem mi_225_167 : mc_P 225 167 = some (.iload_n 1, 1, 0, 0, 0) := by decide +kernel
theorem mi_225_168 : mc_P 225 168 = some (.new 9, 3, 13, 0, 0) := by decide +kernel
theorem mi_225_171 : mc_P 225 171 = some (.dup, 1, 0, 0, 0) := by decide +kernel
theorem mi_225_172 : mc_P 225 172 = some (.invokespecial 63, 3, 276, 2, 1) := by decide +kernel
theorem mi_225_175 : mc_P 225 175 = some (.aastore, 1, 0, 0, 0) := by decide +kernel
theorem mi_225_176 : mc_P 225 176 = some (.iinc 1 1, 3, 0, 0, 0) := by decide +kernel
theorem mi_225_179 : mc_P 225 179 = some (.goto (-36), 3, 0, 0, 0) := by decide +kernel
theorem mi_225_182 : mc_P 225 182 = some (.return_, 1, 0, 0, 0) := by decide +kernel
/-! Known.<init> -/
def kn_i (o : Nat) (h : mh_H) : mh_H := mh_sr (mh_new (mh_sr (mh_new (mh_sr (mh_new (mh_sr (mh_new h 101 576) o 3 (some (mh_n h))) 101 6) o 4 (some (mh_n h + 1))) 101 6) o 5 (some (mh_n h + 2))) 100 6) o 6 (some (mh_n h + 3))
theorem kn_init {d o : Nat} {h : mh_H} (hk : mh_k h o = 13) (ho : o < mh_n h) : mcall d 276 [.ref o] h (fun r h' => r = none ∧ h' = kn_i o h) := by
  show mw d 276 _ 0 [some (.ref o)] [] h
  refine mr_aload_n mi_276_0 rfl ?_
  refine mr_obj mi_276_1 (Nat.zero_le _) ?_
  refine mr_aload_n mi_276_4 rfl ?_
  refine mr_sipush (x := 576) mi_276_5 (by decide) ?_
  refine mr_newa (N := 576) mi_276_8 (by decide) (by decide) (by decide) (by decide) ?_
  have k1 : mh_k (mh_new h 101 576) o = 13 := (mh_k_new_old ho).trans hk
  have o1 : o < mh_n (mh_new h 101 576) := Nat.lt_succ_of_lt ho
  refine mr_putr mi_276_10 k1 o1 rfl ?_
  refine mr_aload_n mi_276_13 rfl ?_
  refine mr_bipush (x := 6) mi_276_14 (by decide) ?_
  refine mr_newa (N := 6) mi_276_16 (by decide) (by decide) (by decide) (by decide) ?_
  have k2 := (mh_k_new_old (h := mh_sr (mh_new h 101 576) o 3 (some (mh_n h))) (kind := 101) (len := 6) o1).trans k1
  have o2 : o < mh_n h + 2 := Nat.lt_succ_of_lt o1
  refine mr_putr mi_276_18 k2 o2 rfl ?_
  refine mr_aload_n mi_276_21 rfl ?_
  refine mr_bipush (x := 6) mi_276_22 (by decide) ?_
  refine mr_newa (N := 6) mi_276_24 (by decide) (by decide) (by decide) (by decide) ?_
  have k3 := (mh_k_new_old (h := mh_sr (mh_new (mh_sr (mh_new h 101 576) o 3 (some (mh_n h))) 101 6) o 4 (some (mh_n h + 1))) (kind := 101) (len := 6) o2).trans k2
  have o3 : o < mh_n h + 3 := Nat.lt_succ_of_lt o2
  refine mr_putr mi_276_26 k3 o3 rfl ?_
  refine mr_aload_n mi_276_29 rfl ?_
  refine mr_bipush (x := 6) mi_276_30 (by decide) ?_
  refine mr_newa (N := 6) mi_276_32 (by decide) (by decide) (by decide) (by decide) ?_
  have k4 := (mh_k_new_old (h := mh_sr (mh_new (mh_sr (mh_new (mh_sr (mh_new h 101 576) o 3 (some (mh_n h))) 101 6) o 4 (some (mh_n h + 1))) 101 6) o 5 (some (mh_n h + 2))) (kind := 100) (len := 6) o3).trans k3
  have o4 : o < mh_n h + 4 := Nat.lt_succ_of_lt o3
  refine mr_putr mi_276_34 k4 o4 rfl ?_
  exact mr_vret mi_276_37 ⟨rfl, rfl⟩
/-! the reference's Analysis.<init>: 250 times two Knowns -/
theorem nl_276 : mc_nl 276 = 1 := by decide +kernel
theorem hr_new {h : mh_H} {kind len b j : Nat} (hb : b < mh_n h) : mh_r (mh_new h kind len) b j = mh_r h b j := by
  have e : b ≠ mh_n h := by omega
  show mh_w (mh_r h) (mh_n h) (fun _ => none) b j = _
  simp [mh_w, e]
theorem hr_sr_ne {h : mh_H} {a k b j : Nat} {v : Option Nat} (e : b ≠ a) : mh_r (mh_sr h a k v) b j = mh_r h b j := if_neg (fun z => e z.1)
theorem kn_fr {o b : Nat} {h : mh_H} (hb : b < mh_n h) : mh_k (kn_i o h) b = mh_k h b ∧ mh_l (kn_i o h) b = mh_l h b ∧ (b ≠ o → ∀ j, mh_r (kn_i o h) b j = mh_r h b j) := by
  have b1 : b < mh_n (mh_new h 101 576) := Nat.lt_succ_of_lt hb
  have b2 : b < mh_n h + 2 := Nat.lt_succ_of_lt b1
  have b3 : b < mh_n h + 3 := Nat.lt_succ_of_lt b2
  refine ⟨?_, ?_, fun e j => ?_⟩
  · exact (mh_k_new_old (kind := 100) (len := 6) (h := mh_sr (mh_new (mh_sr (mh_new (mh_sr (mh_new h 101 576) o 3 (some (mh_n h))) 101 6) o 4 (some (mh_n h + 1))) 101 6) o 5 (some (mh_n h + 2))) b3).trans ((mh_k_new_old (kind := 101) (len := 6) (h := mh_sr (mh_new (mh_sr (mh_new h 101 576) o 3 (some (mh_n h))) 101 6) o 4 (some (mh_n h + 1))) b2).trans ((mh_k_new_old (kind := 101) (len := 6) (h := mh_sr (mh_new h 101 576) o 3 (some (mh_n h))) b1).trans (mh_k_new_old (kind := 101) (len := 576) hb)))
  · exact (mh_l_new_old (kind := 100) (len := 6) (h := mh_sr (mh_new (mh_sr (mh_new (mh_sr (mh_new h 101 576) o 3 (some (mh_n h))) 101 6) o 4 (some (mh_n h + 1))) 101 6) o 5 (some (mh_n h + 2))) b3).trans ((mh_l_new_old (kind := 101) (len := 6) (h := mh_sr (mh_new (mh_sr (mh_new h 101 576) o 3 (some (mh_n h))) 101 6) o 4 (some (mh_n h + 1))) b2).trans ((mh_l_new_old (kind := 101) (len := 6) (h := mh_sr (mh_new h 101 576) o 3 (some (mh_n h))) b1).trans (mh_l_new_old (kind := 101) (len := 576) hb)))
  · unfold kn_i
    rw [hr_sr_ne e, hr_new (h := mh_sr (mh_new (mh_sr (mh_new (mh_sr (mh_new h 101 576) o 3 (some (mh_n h))) 101 6) o 4 (some (mh_n h + 1))) 101 6) o 5 (some (mh_n h + 2))) b3, hr_sr_ne e, hr_new (h := mh_sr (mh_new (mh_sr (mh_new h 101 576) o 3 (some (mh_n h))) 101 6) o 4 (some (mh_n h + 1))) b2, hr_sr_ne e, hr_new (h := mh_sr (mh_new h 101 576) o 3 (some (mh_n h))) b1, hr_sr_ne e, hr_new hb]
/-- a new Known, its rows made -/
def kn_new (h : mh_H) : mh_H := kn_i (mh_n h) (mh_new h 13 7)
theorem kn_new_fr {b : Nat} {h : mh_H} (hb : b < mh_n h) : mh_k (kn_new h) b = mh_k h b ∧ mh_l (kn_new h) b = mh_l h b ∧ ∀ j, mh_r (kn_new h) b j = mh_r h b j := by
  obtain ⟨q1, q2, q3⟩ := kn_fr (o := mh_n h) (h := mh_new h 13 7) (Nat.lt_succ_of_lt hb)
  exact ⟨q1.trans (mh_k_new_old hb), q2.trans (mh_l_new_old hb), fun j => (q3 (by omega) j).trans (hr_new hb)⟩
theorem kn_new_k {h : mh_H} : mh_k (kn_new h) (mh_n h) = 13 := ((kn_fr (o := mh_n h) (h := mh_new h 13 7) (Nat.lt_succ_self _)).1).trans mh_k_new
theorem kn_new_n {h : mh_H} : mh_n (kn_new h) = mh_n h + 5 := rfl
def lp_b (A B p : Nat) (h : mh_H) : mh_H := mh_sr (kn_new (mh_sr (kn_new h) A p (some (mh_n h)))) B p (some (mh_n h + 5))
def lp (A B : Nat) : Nat → Nat → mh_H → mh_H
  | 0, _, h => h
  | m + 1, p, h => lp A B m (p + 1) (lp_b A B p h)
def lp_I (t A B : Nat) (h : mh_H) : Prop := (mh_k h t = 12 ∧ t < mh_n h) ∧ (mh_k h A = 106 ∧ A < mh_n h ∧ mh_l h A = 250) ∧ (mh_k h B = 106 ∧ B < mh_n h ∧ mh_l h B = 250) ∧ mh_r h t 4 = some A ∧ mh_r h t 5 = some B
theorem lp_I_kn {t A B : Nat} {h : mh_H} (hI : lp_I t A B h) : lp_I t A B (kn_new h) := by
  obtain ⟨⟨a1, a2⟩, ⟨b1, b2, b3⟩, ⟨c1, c2, c3⟩, e1, e2⟩ := hI
  obtain ⟨f1, f2, f3⟩ := kn_new_fr a2
  obtain ⟨g1, g2, g3⟩ := kn_new_fr b2
  obtain ⟨i1, i2, i3⟩ := kn_new_fr c2
  have hn := kn_new_n (h := h)
  exact ⟨⟨f1.trans a1, by omega⟩, ⟨g1.trans b1, by omega, g2.trans b3⟩, ⟨i1.trans c1, by omega, i2.trans c3⟩, (f3 4).trans e1, (f3 5).trans e2⟩
theorem lp_I_sr {t A B a p : Nat} {v : Option Nat} {h : mh_H} (hI : lp_I t A B h) (ha : mh_k h a = 106) : lp_I t A B (mh_sr h a p v) := by
  obtain ⟨⟨a1, a2⟩, b, c, e1, e2⟩ := hI
  have ne : t ≠ a := fun z => by rw [z, ha] at a1; cases a1
  exact ⟨⟨a1, a2⟩, b, c, (hr_sr_ne ne).trans e1, (hr_sr_ne ne).trans e2⟩
theorem lp_I_b {t A B p : Nat} {h : mh_H} (hI : lp_I t A B h) : lp_I t A B (lp_b A B p h) := by
  have h1 := lp_I_kn hI
  have h2 := lp_I_sr (a := A) (p := p) (v := some (mh_n h)) h1 h1.2.1.1
  have h3 := lp_I_kn h2
  exact lp_I_sr h3 h3.2.2.1.1
theorem lp_run {d t A B : Nat} {Q : Option Value → mh_H → Prop} : ∀ (m p : Nat) (h : mh_H), p + m = 250 → lp_I t A B h → mw (d + 1) 225 Q 182 [some (.ref t), some (.int 250)] [] (lp A B m p h) → mw (d + 1) 225 Q 143 [some (.ref t), some (.int (Int32.ofNat p))] [] h := by
  intro m
  induction m with
  | zero =>
    intro p h hp hI k
    have hp : p = 250 := by omega
    subst hp
    refine mr_iload_n mi_225_143 rfl ?_
    refine mr_sipush (x := 250) mi_225_144 (by decide) ?_
    exact mr_icmp_ge (tgt := 182) mi_225_147 (by decide) (fun _ => k) (fun z => absurd (by decide) z)
  | succ m ih =>
    intro p h hp hI k
    have h1 := lp_I_kn hI
    have h2 := lp_I_sr (a := A) (p := p) (v := some (mh_n h)) h1 h1.2.1.1
    have h3 := lp_I_kn h2
    have hpi : (Int32.ofNat p).toInt = p := Int32.toInt_ofNat_of_lt (by omega)
    have hpn : (Int32.ofNat p).toNatClampNeg = p := Int32.toNatClampNeg_ofNat_of_lt (by omega)
    have hp0 : 0 ≤ Int32.ofNat p := by rw [Int32.le_iff_toInt_le, hpi]; exact Int.natCast_nonneg p
    refine mr_iload_n mi_225_143 rfl ?_
    refine mr_sipush (x := 250) mi_225_144 (by decide) ?_
    refine mr_icmp_ge (tgt := 182) mi_225_147 (by decide) (fun z => ?_) (fun _ => ?_)
    · rw [Int32.le_iff_toInt_le, hpi] at z
      have : ((250 : Int32)).toInt = 250 := by decide
      omega
    refine mr_aload_n mi_225_150 rfl ?_
    refine mr_getr mi_225_151 hI.1.1 hI.1.2 rfl hI.2.2.2.1 rfl ?_
    refine mr_iload_n mi_225_154 rfl ?_
    refine mr_new mi_225_155 (by decide) ?_
    refine mr_dup mi_225_158 rfl ?_
    refine mr_ini (As := []) (rest := [.ref (mh_n h), .int (Int32.ofNat p), .ref A]) mi_225_159 (by decide) rfl rfl (Nat.le_of_ble_eq_true rfl) (nl_276 ▸ (Nat.le_of_ble_eq_true rfl)) (kn_init (o := mh_n h) mh_k_new (Nat.lt_succ_self _)) (fun r h' q => ?_)
    obtain ⟨rfl, rfl⟩ := q
    show mw (d + 1) 225 Q 162 [some (.ref t), some (.int (Int32.ofNat p))] [.ref (mh_n h), .int (Int32.ofNat p), .ref A] (kn_new h)
    refine mr_aast mi_225_162 (by rw [h1.2.1.1]; decide) h1.2.1.2.1 hp0 hpn (by rw [h1.2.1.2.2]; omega) (by rw [kn_new_n]; omega) (by rw [kn_new_k, h1.2.1.1]; rfl) ?_
    refine mr_aload_n mi_225_163 rfl ?_
    refine mr_getr mi_225_164 h2.1.1 h2.1.2 rfl h2.2.2.2.2 rfl ?_
    refine mr_iload_n mi_225_167 rfl ?_
    refine mr_new mi_225_168 (by decide) ?_
    refine mr_dup mi_225_171 rfl ?_
    refine mr_ini (As := []) (rest := [.ref (mh_n h + 5), .int (Int32.ofNat p), .ref B]) mi_225_172 (by decide) rfl rfl (Nat.le_of_ble_eq_true rfl) (nl_276 ▸ (Nat.le_of_ble_eq_true rfl)) (kn_init (o := mh_n h + 5) mh_k_new (Nat.lt_succ_self _)) (fun r h' q => ?_)
    obtain ⟨rfl, rfl⟩ := q
    show mw (d + 1) 225 Q 175 [some (.ref t), some (.int (Int32.ofNat p))] [.ref (mh_n h + 5), .int (Int32.ofNat p), .ref B] (kn_new (mh_sr (kn_new h) A p (some (mh_n h))))
    refine mr_aast mi_225_175 (by rw [h3.2.2.1.1]; decide) h3.2.2.1.2.1 hp0 hpn (by rw [h3.2.2.1.2.2]; omega) (Nat.lt_of_lt_of_le (Nat.lt_succ_self (mh_n h + 5)) (Nat.le_add_right _ 4)) ((kn_new_k (h := mh_sr (kn_new h) A p (some (mh_n h)))).trans (by rw [h3.2.2.1.1]; rfl)) ?_
    refine mr_iinc (z := Int32.ofNat (p + 1)) (ls' := [some (.ref t), some (.int (Int32.ofNat (p + 1)))]) mi_225_176 rfl (Nat.le_of_ble_eq_true rfl) (by rw [Int32.ofNat_add]; rfl) rfl ?_
    refine mr_goto (tgt := 143) mi_225_179 (by decide) ?_
    exact ih (p + 1) _ (by omega) (lp_I_b hI) k
