set_option maxRecDepth 100000
/-! the class's parser over a SUM: single goals -/
abbrev RXn (d : Nat) (h : mh_H) (B : Nat) (P : Nat → Nat) (s : cps) (w q i j kf : Nat) : Prop := ∃ k s', PL d h B k s s' ∧ CFx s s' w q ∧ k ≤ 20 * (j - i) + kf ∧ s'.2 16 7 = Int32.ofNat (P j)
abbrev RXs (d : Nat) (h : mh_H) (B : Nat) (lo : lkt) (b : Bool) (ka : Nat) (s : cps) (w : Nat) (tu : Bool) (i dp j : Nat) (t : tr) : Prop := ∃ k s', PL d h B k s s' ∧ CFx s s' w (s.1 5) ∧ k + ka ≤ 20 * (j - i) + 1 ∧ SOK s s' w j dp (s.1 4 + cl t b) (s.1 5 + pn t b) (lwT lo t) ∧ cl t b ≤ j - i ∧ pn t b ≤ j - i ∧ cdx lo (s'.2 6) t b (s.1 4) ∧ pax lo (s'.2 7) (s'.2 8) (s'.2 9) t b tu (s.1 5) (s.1 4)
abbrev RXt (d : Nat) (h : mh_H) (B : Nat) (lo : lkt) (s : cps) (w fr : Nat) (tu : Bool) (i dp j : Nat) (t : tr) : Prop := ∃ k s', PL d h B k s s' ∧ CFx s s' w fr ∧ k ≤ 20 * (j - i) + 1 ∧ SOK s s' w j dp (s.1 4 + cl t true) (if ts t = 0 then s.1 5 else fr + 1) (lwT lo t) ∧ cl t true ≤ j - i ∧ cdx lo (s'.2 6) t true (s.1 4) ∧ (0 < ts t → s'.2 7 fr = Int32.ofNat (s.1 4 + cl t true) ∧ s'.2 8 fr = kb tu ∧ s'.2 9 fr = -2) ∧ (ts t = 0 → CFx s s' w (s.1 5))
def RXa (d : Nat) (h : mh_H) (B : Nat) (P : Nat → Nat) (lo : lkt) (b : Bool) (ka kf : Nat) (s : cps) (w : Nat) (tu : Bool) (i dp : Nat) (r : pqr) : Prop := match r with
  | (j, none) => RXn d h B P s w (s.1 5) i j kf
  | (j, some t) => RXs d h B lo b ka s w tu i dp j t
def RXc (d : Nat) (h : mh_H) (B : Nat) (P : Nat → Nat) (lo : lkt) (s : cps) (w fr : Nat) (tu : Bool) (i dp : Nat) (r : pqr) : Prop := match r with
  | (j, none) => RXn d h B P s w fr i j 2
  | (j, some t) => RXt d h B lo s w fr tu i dp j t
theorem tun_b {tu : Bool} : tun tu < 8388608 := by cases tu <;> decide
theorem tun_k {tu : Bool} : Int32.ofNat (tun tu) = kb tu := by cases tu <;> rfl
theorem tun_n {tu : Bool} : (1 : Int32) - Int32.ofNat (tun tu) = Int32.ofNat (tun (!tu)) := by cases tu <;> decide
theorem tun_2 {f : Nat} {tu : Bool} : 2 * Int32.ofNat f + Int32.ofNat (tun tu) = Int32.ofNat (2 * f + tun tu) := by
  rw [show (2 : Int32) = Int32.ofNat 2 from rfl, nn_mul, nn_add]
section STs
variable {d : Nat} {h : mh_H} {B n m : Nat} {Bt : Nat → Int32} {K : Nat → Int32} {P U : Nat → Nat} {V : Nat → Int} {s s' : cps} {lo : lkt} {w i dp x : Nat}
theorem as_23 {g y : Int32} {j : Nat} : (asS s g y).2 23 j = if j = s.1 0 then glI g y else s.2 23 j := by
  unfold asS
  rw [u1_2, u2_2]
  by_cases c : j = s.1 0
  · rw [if_pos ⟨rfl, c⟩, if_pos c]
  · rw [if_neg (fun z => c z.2), if_neg c]
theorem gL_w (t : CTK h B n m Bt K P U V) (hi : i < m) (h1 : dp ≤ i) (h2 : dp ≤ 60) (h3 : w ≤ 12 * dp + 35) : w < gL n := by
  have := t.m
  unfold gL
  omega
theorem st_nt (b : CPB h B n) (t : CTK h B n m Bt K P U V) (H : CHs Bt n m P U s lo i dp) (T : TOP s w 163 x) (hw : w < gL n) (q1 : ¬ K i = 43) (q2 : ¬ K i = 45) : PL (d + 10) h B 1 s (u1 s 0 w) := by
  have hi : (u1 s 0 w).1 1 = i := H.i
  exact it_70 b T hw ⟨by decide, by decide, by decide⟩ (c_70f (d := d + 6) (s := u1 s 0 w) b t (by rw [hi]; exact H.b) (by rw [hi]; exact q1) (by rw [hi]; exact q2))
theorem st_nf (b : CPB h B n) (t : CTK h B n m Bt K P U V) (H : CHs Bt n m P U s lo i dp) (T : TOP s w 165 x) (hw : w < gL n) (q : ¬ (K i = 42 ∨ K i = 47 ∨ K i = 37)) : PL (d + 10) h B 1 s (u1 s 0 w) := by
  have hi : (u1 s 0 w).1 1 = i := H.i
  exact it_70 b T hw ⟨by decide, by decide, by decide⟩ (c_70i (d := d + 6) (s := u1 s 0 w) b t (by rw [hi]; exact H.b) (by rw [hi]; exact q))
theorem st_lv (b : CPB h B n) (T : TOP s w 170 x) (hw : w < gL n) (hd : s.1 2 = dp) (h1 : 1 ≤ dp) : PL (d + 10) h B 1 s (u1 (u1 s 0 w) 2 (dp - 1)) := by
  have e : (u1 s 0 w).1 2 = dp := hd
  have z := c_70m (d := d + 6) (s := u1 s 0 w) b (w := Int32.ofNat x) (by rw [e]; exact h1)
  rw [e] at z
  exact it_70 b T hw ⟨by decide, by decide, by decide⟩ z
theorem st_op (b : CPB h B n) (T : TOP s w 167 x) (hw : w < gL n) (h4 : s.1 4 ≤ n) : PL (d + 10) h B 1 s (emS (u1 s 0 w) (Int32.ofNat x) 0 0) :=
  it_70 b T hw ⟨by decide, by decide, by decide⟩ (c_70j (d := d + 6) (s := u1 s 0 w) b h4)
theorem st_pl (b : CPB h B n) (T : TOP s w 168 x) (hw : w < gL n) (h4 : s.1 4 ≤ n) : PL (d + 10) h B 1 s (emS (u1 s 0 w) 3 (Int32.ofNat (x / 128)) (Int32.ofNat (x % 128))) := by
  have z := c_70k (d := d + 6) (s := u1 s 0 w) b (w := Int32.ofNat x) h4
  have hx := T.b.2
  rw [show (128 : Int32) = Int32.ofNat 128 from rfl, nn_rem (by omega) (by decide), nn_div (by omega) (by decide)] at z
  exact it_70 b T hw ⟨by decide, by decide, by decide⟩ z
theorem st_mw (b : CPB h B n) {fr : Nat} {tu : Bool} (T : TOP s w 169 (2 * fr + tun tu)) (hw : w < gL n) (hf : fr ≤ n) : PL (d + 10) h B 1 s (ptS (u1 (u1 s 0 w) 5 fr) (kb tu) (-2)) := by
  have hx := T.b.2
  have ht : tun tu < 2 := by cases tu <;> decide
  have e1 : Int32.ofNat (2 * fr + tun tu) / 2 = Int32.ofNat fr := by
    rw [show (2 : Int32) = Int32.ofNat 2 from rfl, nn_div (by omega) (by decide)]
    congr 1
    omega
  have e2 : Int32.ofNat (2 * fr + tun tu) - Int32.ofNat (2 * fr + tun tu) / 2 * 2 = kb tu := by
    rw [show (2 : Int32) = Int32.ofNat 2 from rfl, nn_rem (by omega) (by decide), ← tun_k]
    congr 1
    omega
  exact it_70 b T hw ⟨by decide, by decide, by decide⟩ (c_70l (d := d + 6) (s := u1 s 0 w) b e1 e2 hf)
theorem st_tk (b : CPB h B n) (t : CTK h B n m Bt K P U V) (hi : s.1 1 = i) (hm : i < m) {g : Nat} (hg : g < 140) (T : TOP s w g x) (hw : w < gL n) (q : K i = Int32.ofNat g) : PL (d + 10) h B 1 s (u1 (u1 s 0 w) 1 (i + 1)) := by
  have e : (u1 s 0 w).1 1 = i := hi
  have z := c_51 (d := d + 7) (s := u1 s 0 w) b t (k := Int32.ofNat g) (by rw [e]; exact hm)
  have f : (u1 s 0 w).2 16 7 = -1 := T.f
  unfold tkS at z
  rw [if_pos f, e, if_pos q] at z
  exact it_51 b T hw hg z
theorem st_tn (b : CPB h B n) (t : CTK h B n m Bt K P U V) (hi : s.1 1 = i) (hm : i < m) {g : Nat} (hg : g < 140) (T : TOP s w g x) (hw : w < gL n) (q : ¬ K i = Int32.ofNat g) : PL (d + 10) h B 1 s (u2 (u1 s 0 w) 16 7 (Int32.ofNat (P i))) := by
  have e : (u1 s 0 w).1 1 = i := hi
  have z := c_51 (d := d + 7) (s := u1 s 0 w) b t (k := Int32.ofNat g) (by rw [e]; exact hm)
  have f : (u1 s 0 w).2 16 7 = -1 := T.f
  unfold tkS at z
  rw [if_pos f, e, if_neg q] at z
  exact it_51 b T hw hg z
theorem em_6 {a c e : Int32} {j : Nat} : (emS s a c e).2 6 j = if j = 3 * s.1 4 + 2 then e else if j = 3 * s.1 4 + 1 then c else if j = 3 * s.1 4 then a else s.2 6 j := by
  unfold emS
  rw [u1_2, u2_2, u2_2, u2_2]
  simp only [true_and]
theorem pt_7 {a c : Int32} {j : Nat} : (ptS s a c).2 7 j = if j = s.1 5 then Int32.ofNat (s.1 4) else s.2 7 j := by
  unfold ptS
  rw [u1_2, u2_2, if_neg (by omega), u2_2, if_neg (by omega), u2_2]
  simp only [true_and]
theorem pt_8 {a c : Int32} {j : Nat} : (ptS s a c).2 8 j = if j = s.1 5 then a else s.2 8 j := by
  unfold ptS
  rw [u1_2, u2_2, if_neg (by omega), u2_2]
  simp only [true_and]
  split
  · rfl
  · rw [u2_2, if_neg (by omega)]
theorem pt_9 {a c : Int32} {j : Nat} : (ptS s a c).2 9 j = if j = s.1 5 then c else s.2 9 j := by
  unfold ptS
  rw [u1_2, u2_2]
  simp only [true_and]
  split
  · rfl
  · rw [u2_2, if_neg (by omega), u2_2, if_neg (by omega)]
end STs
