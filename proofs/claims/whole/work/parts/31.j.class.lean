set_option maxRecDepth 100000
/-- the range of a NAME, where a value is one -/
def nmC (A : ab) (s : Option Nat) (a b : Int) : Prop := ∀ p, s = some p → p < A.n ∧ a = -a_gr A (2 * p + 1) (2 * p + 1) ∧ b = a_gr A (2 * p) (2 * p)
theorem e_ints_0 : e_ints 0 0 = (some (0, 0), 0) := by decide
theorem two_18 {en : Int → Nat} {A : ab} {n1 n2 : Option Int} {a b c d : Int} (h1 : nmC A (n1.map en) a b) (h2 : nmC A (n2.map en) c d) : e_two en A 18 n1 n2 a b c d = e_ints (e_add A 0 (n1.map en) (n2.map en) a b c d).1 (e_add A 0 (n1.map en) (n2.map en) a b c d).2 := by
  cases n1 with
  | none => rfl
  | some x =>
    cases n2 with
    | none => rfl
    | some y =>
      show (if 18 = 18 ∨ 18 = 19 then e_nm A 18 (en x) (en y) c d else e_op 18 a b c d) = e_ints (if en x = en y then (if 0 = 0 then (a + c, b + d) else (0, 0)) else (-a_gr A (2 * en x + 1) (oc_b (2 * en y + 0)), a_gr A (2 * en x) (2 * en y + 0))).1 (if en x = en y then (if 0 = 0 then (a + c, b + d) else (0, 0)) else (-a_gr A (2 * en x + 1) (oc_b (2 * en y + 0)), a_gr A (2 * en x) (2 * en y + 0))).2
      rw [if_pos (Or.inl rfl)]
      unfold e_nm
      by_cases q : en x = en y
      · have q1 := h1 (en x) rfl
        have q2 := h2 (en y) rfl
        rw [if_pos q, if_pos q, if_neg (by omega), if_pos rfl]
        rw [← q] at q2
        have ea : a = c := by rw [q1.2.1, q2.2.1]
        have eb : b = d := by rw [q1.2.2, q2.2.2]
        rw [ea, eb]
        show e_ints (2 * c) (2 * d) = e_ints (c + c) (d + d)
        rw [Int.two_mul, Int.two_mul]
      · rw [if_neg q, if_neg q, if_pos rfl]; rfl
theorem two_19 {en : Int → Nat} {A : ab} {n1 n2 : Option Int} {a b c d : Int} : e_two en A 19 n1 n2 a b c d = e_ints (e_add A 1 (n1.map en) (n2.map en) a b c d).1 (e_add A 1 (n1.map en) (n2.map en) a b c d).2 := by
  cases n1 with
  | none => rfl
  | some x =>
    cases n2 with
    | none => rfl
    | some y =>
      show (if 19 = 18 ∨ 19 = 19 then e_nm A 19 (en x) (en y) c d else e_op 19 a b c d) = e_ints (if en x = en y then (if 1 = 0 then (a + c, b + d) else (0, 0)) else (-a_gr A (2 * en x + 1) (oc_b (2 * en y + 1)), a_gr A (2 * en x) (2 * en y + 1))).1 (if en x = en y then (if 1 = 0 then (a + c, b + d) else (0, 0)) else (-a_gr A (2 * en x + 1) (oc_b (2 * en y + 1)), a_gr A (2 * en x) (2 * en y + 1))).2
      rw [if_pos (Or.inr rfl)]
      unfold e_nm
      by_cases q : en x = en y
      · rw [if_pos q, if_pos q, if_pos rfl, if_neg (by omega)]
        exact e_ints_0.symm
      · rw [if_neg q, if_neg q, if_neg (by omega)]
theorem two_op {en : Int → Nat} {A : ab} {k : Nat} {n1 n2 : Option Int} {a b c d : Int} (hk : ¬ k = 18 ∧ ¬ k = 19) : e_two en A k n1 n2 a b c d = e_op k a b c d := by
  cases n1 with
  | none => rfl
  | some x =>
    cases n2 with
    | none => rfl
    | some y =>
      show (if k = 18 ∨ k = 19 then _ else _) = _
      rw [if_neg (by omega)]
theorem e_al0 (q : er) : e_al 0 q = q := by
  unfold e_al
  have : (0 : Int32) ||| q.2 = q.2 := by
    rw [← Int32.toBitVec_inj, Int32.toBitVec_or]
    show 0#32 ||| q.2.toBitVec = _
    exact BitVec.zero_or
  rw [this]
/-- what keepInts leaves as it is -/
theorem e_ints_id {a b : Int} (ha : iI a) (hb : iI b) (hab : a ≤ b) : e_ints a b = (some (a, b), 0) := by
  unfold iI at ha hb
  unfold e_ints
  rw [if_pos (by omega), if_neg (by omega), show max a (-2147483648) = a by omega, show min b 2147483647 = b by omega]
section RK2
variable {d : Nat} {h : mh_H} {o L G D P R X Y C E SC SP nC nE nS : Nat} {al : Int32} {Ht : Nat} {lw hg : Nat → Int64} {nm : Nat → Int32} {pl ph : Nat → Int64} {A : ab} {en : Int → Nat}
theorem rk_B (B : RB h o L G D P R X) (S : SB h o D Y C E SC SP nC nE nS) (hP : ∀ y, y ≤ 2 → ¬ X + y = P ∧ ¬ X + y = R) (r : RS h X (some A)) (hT : ab_T A) {sum part k Ke kk : Nat} (hs : sum + 1 < nS) (hKe : mh_i h SC (sum + 1) = Int32.ofNat Ke) (hKe2 : Ke < 1000000) (hk : k < Ke) (hk3 : 3 * k + 2 < nC) (hH : Ht + 1 < 124) (hkk : kk = 18 ∨ kk = 19 ∨ kk = 21 ∨ kk = 22 ∨ kk = 23) (hC : mh_i h C (3 * k) = opb kk) {n1 n2 : Option Int} {a b c e : Int} (v1 : (lw Ht).toInt = a) (v2 : (hg Ht).toInt = b) (v3 : (lw (Ht + 1)).toInt = c) (v4 : (hg (Ht + 1)).toInt = e) (w1 : nm Ht = nSl (n1.map en)) (w2 : nm (Ht + 1) = nSl (n2.map en)) (c1 : nmC A (n1.map en) a b) (c2 : nmC A (n2.map en) c e) (ia : iI a) (ib : iI b) (ic : iI c) (ie : iI e) (iab : a ≤ b) (ice : c ≤ e) {x4 : Option Value} : rkP (d + 3) (mkR h o L G D P R pl ph) o sum part k al Ht lw hg nm (e_two en A kk n1 n2 a b c e) none (fun Q => mw (d + 3) 99 Q 25 [some (.ref o), some (.int (Int32.ofNat sum)), some (.int (Int32.ofNat part)), some (.int (Int32.ofNat k)), x4] [] (rS h o L G D P R al (Int32.ofNat (Ht + 2)) lw hg nm pl ph)) := by
  obtain ⟨-, t2, t3, t4, -⟩ := rk_1 (d := d) (al := al) (lw := lw) (hg := hg) (nm := nm) (pl := pl) (ph := ph) B S (H := Ht + 2) (part := part) (x4 := x4) hs hKe hKe2 hk hk3
  have low : ∀ (x y : Int64), (∀ j, j < Ht → up lw Ht x j = lw j ∧ up hg Ht y j = hg j ∧ up nm Ht (-1) j = nm j) := fun x y j hj => ⟨up_n (by omega), up_n (by omega), up_n (by omega)⟩
  have a0 : ∀ Z : Int32, rS h o L G D P R al Z lw hg nm pl ph = rS h o L G D P R (al ||| 0) Z lw hg nm pl ph := fun Z => by rw [i32_or0]
  subst v1 v2 v3 v4
  have ADD : ∀ t : Nat, (t = 0 ∧ mh_i h C (3 * k) = 43 ∨ t = 1 ∧ mh_i h C (3 * k) = 45) → rkP (d + 3) (mkR h o L G D P R pl ph) o sum part k al Ht lw hg nm (e_ints (e_add A t (n1.map en) (n2.map en) (lw Ht).toInt (hg Ht).toInt (lw (Ht + 1)).toInt (hg (Ht + 1)).toInt).1 (e_add A t (n1.map en) (n2.map en) (lw Ht).toInt (hg Ht).toInt (lw (Ht + 1)).toInt (hg (Ht + 1)).toInt).2) none (fun Q => mw (d + 3) 99 Q 25 [some (.ref o), some (.int (Int32.ofNat sum)), some (.int (Int32.ofNat part)), some (.int (Int32.ofNat k)), x4] [] (rS h o L G D P R al (Int32.ofNat (Ht + 2)) lw hg nm pl ph)) := by
    intro t ht
    obtain ⟨x, y, p1, p2⟩ := q_106 (d := d + 1) (al := al) (lw := lw) (hg := hg) (nm := nm) (pl := pl) (ph := ph) B hP r hT hH (t := t) (by omega) w1 w2 (fun p hp => (c1 p hp).1) (fun p hp => (c2 p hp).1) ia ib ic ie
    have F := t2 t ht (Ht + 1) (up lw Ht x) (up hg Ht y) (up nm Ht (-1)) p2
    have K := rk_K (d := d + 2) (F := (fun Q => mw (d + 3) 99 Q 25 [some (.ref o), some (.int (Int32.ofNat sum)), some (.int (Int32.ofNat part)), some (.int (Int32.ofNat k)), x4] [] (rS h o L G D P R al (Int32.ofNat (Ht + 2)) lw hg nm pl ph))) (al := al) (al1 := 0) (al2 := 0) (lw := lw) (hg := hg) (nm := nm) (pl := pl) (ph := ph) B (by omega) (sum := sum) (part := part) (k := k) (s := none) (fun Q => by rw [i32_or0]; exact F Q) (low x y) up_s
    rw [e_al0, up_s, up_s] at K
    have e1 := congrArg Prod.fst p1
    have e2 := congrArg Prod.snd p1
    rw [← e1, ← e2]
    exact K
  rcases hkk with rfl | rfl | rfl | rfl | rfl
  · rw [two_18 c1 c2]; exact ADD 0 (Or.inl ⟨rfl, hC⟩)
  · rw [two_19]; exact ADD 1 (Or.inr ⟨rfl, hC⟩)
  · rw [two_op (by omega)]
    have F := t3 hC (Ht + 1) _ _ _ (fun Q' => c_107 (d := d + 2) (Q := Q') (al := al) (lw := lw) (hg := hg) (nm := nm) (pl := pl) (ph := ph) B hH)
    have K := rk_K (d := d + 2) (F := (fun Q => mw (d + 3) 99 Q 25 [some (.ref o), some (.int (Int32.ofNat sum)), some (.int (Int32.ofNat part)), some (.int (Int32.ofNat k)), x4] [] (rS h o L G D P R al (Int32.ofNat (Ht + 2)) lw hg nm pl ph))) (al := al) (al1 := 0) (al2 := 0) (lw := lw) (hg := hg) (nm := nm) (pl := pl) (ph := ph) B (by omega) (sum := sum) (part := part) (k := k) (s := none) (fun Q => by rw [i32_or0]; exact F Q) (low _ _) up_s
    rw [e_al0, up_s, up_s] at K
    have m1 := mul_r ia ic
    have m2 := mul_r ia ie
    have m3 := mul_r ib ic
    have m4 := mul_r ib ie
    have e : e_op 21 (lw Ht).toInt (hg Ht).toInt (lw (Ht + 1)).toInt (hg (Ht + 1)).toInt = e_ints (lmin (lmin (lw Ht * lw (Ht + 1)) (lw Ht * hg (Ht + 1))) (lmin (hg Ht * lw (Ht + 1)) (hg Ht * hg (Ht + 1)))).toInt (lmax (lmax (lw Ht * lw (Ht + 1)) (lw Ht * hg (Ht + 1))) (lmax (hg Ht * lw (Ht + 1)) (hg Ht * hg (Ht + 1)))).toInt := by
      rw [lmin_int, lmin_int, lmin_int, lmax_int, lmax_int, lmax_int, lmul_int (by omega) (by omega), lmul_int (by omega) (by omega), lmul_int (by omega) (by omega), lmul_int (by omega) (by omega)]; rfl
    rw [e]
    exact K
  · rw [two_op (by omega)]
    have eo : e_op 22 (lw Ht).toInt (hg Ht).toInt (lw (Ht + 1)).toInt (hg (Ht + 1)).toInt = e_over (lw Ht).toInt (hg Ht).toInt (lw (Ht + 1)).toInt (hg (Ht + 1)).toInt := rfl
    rw [eo]
    by_cases z : lw (Ht + 1) = 0 ∧ hg (Ht + 1) = 0
    · have F := t4 109 (Or.inl ⟨rfl, hC⟩) false (Ht + 1) lw hg (up nm Ht (-1)) (al ||| 2) (q_109n (d := d + 1) B hH z)
      refine rk_N (d := d + 2) (al1 := 2) ?_ F
      unfold e_over
      rw [if_pos (by rw [z.1, z.2]; decide)]
    · obtain ⟨x, y, p1, p2, p3⟩ := q_109 (d := d + 1) (al := al) (lw := lw) (hg := hg) (nm := nm) (pl := pl) (ph := ph) B hH ia ib ic ie ice z
      have F := t4 109 (Or.inl ⟨rfl, hC⟩) true (Ht + 1) (up lw Ht x) (up hg Ht y) (up nm Ht (-1)) _ p3
      have K := rk_K (d := d + 2) (F := (fun Q => mw (d + 3) 99 Q 25 [some (.ref o), some (.int (Int32.ofNat sum)), some (.int (Int32.ofNat part)), some (.int (Int32.ofNat k)), x4] [] (rS h o L G D P R al (Int32.ofNat (Ht + 2)) lw hg nm pl ph))) (al := al) (al1 := e_dv (lw (Ht + 1)).toInt (hg (Ht + 1)).toInt) (al2 := 0) (lw := lw) (hg := hg) (nm := nm) (pl := pl) (ph := ph) B (by omega) (sum := sum) (part := part) (k := k) (s := none) F (low x y) up_s
      rw [up_s, up_s, p1, p2] at K
      have zi : ¬ ((lw (Ht + 1)).toInt = 0 ∧ (hg (Ht + 1)).toInt = 0) := fun w => z ⟨eq64.mpr (by rw [w.1]; decide), eq64.mpr (by rw [w.2]; decide)⟩
      have e : e_over (lw Ht).toInt (hg Ht).toInt (lw (Ht + 1)).toInt (hg (Ht + 1)).toInt = e_al (e_dv (lw (Ht + 1)).toInt (hg (Ht + 1)).toInt) (e_ints ((e_bys (lw (Ht + 1)).toInt (hg (Ht + 1)).toInt).foldl (fun m y => min m (min ((lw Ht).toInt.tdiv y) ((hg Ht).toInt.tdiv y))) 9223372036854775807) ((e_bys (lw (Ht + 1)).toInt (hg (Ht + 1)).toInt).foldl (fun m y => max m (max ((lw Ht).toInt.tdiv y) ((hg Ht).toInt.tdiv y))) (-9223372036854775808))) := by unfold e_over; rw [if_neg zi]
      rw [e]
      exact K
  · rw [two_op (by omega)]
    have eo : e_op 23 (lw Ht).toInt (hg Ht).toInt (lw (Ht + 1)).toInt (hg (Ht + 1)).toInt = e_rest (lw Ht).toInt (hg Ht).toInt (lw (Ht + 1)).toInt (hg (Ht + 1)).toInt := rfl
    rw [eo]
    by_cases z : lw (Ht + 1) = 0 ∧ hg (Ht + 1) = 0
    · have F := t4 111 (Or.inr ⟨rfl, hC⟩) false (Ht + 1) lw hg (up nm Ht (-1)) (al ||| 2) (q_111n (d := d + 1) B hH z)
      refine rk_N (d := d + 2) (al1 := 2) ?_ F
      unfold e_rest
      rw [if_pos (by rw [z.1, z.2]; decide)]
    · obtain ⟨x, y, p1, p3⟩ := q_111 (d := d + 1) (al := al) (lw := lw) (hg := hg) (nm := nm) (pl := pl) (ph := ph) B hH ia ib ic ie ice z
      have F := t4 111 (Or.inr ⟨rfl, hC⟩) true (Ht + 1) (up lw Ht x) (up hg Ht y) (up nm Ht (-1)) _ p3
      have K := rk_K (d := d + 2) (F := (fun Q => mw (d + 3) 99 Q 25 [some (.ref o), some (.int (Int32.ofNat sum)), some (.int (Int32.ofNat part)), some (.int (Int32.ofNat k)), x4] [] (rS h o L G D P R al (Int32.ofNat (Ht + 2)) lw hg nm pl ph))) (al := al) (al1 := e_dv (lw (Ht + 1)).toInt (hg (Ht + 1)).toInt) (al2 := 0) (lw := lw) (hg := hg) (nm := nm) (pl := pl) (ph := ph) B (by omega) (sum := sum) (part := part) (k := k) (s := none) F (low x y) up_s
      rw [up_s, up_s] at K
      obtain ⟨i1, i2, i3⟩ := e_rest_in ia ib ic ie p1.symm
      rw [e_ints_id i1 i2 i3] at K
      have zi : ¬ ((lw (Ht + 1)).toInt = 0 ∧ (hg (Ht + 1)).toInt = 0) := fun w => z ⟨eq64.mpr (by rw [w.1]; decide), eq64.mpr (by rw [w.2]; decide)⟩
      have e : e_rest (lw Ht).toInt (hg Ht).toInt (lw (Ht + 1)).toInt (hg (Ht + 1)).toInt = e_al (e_dv (lw (Ht + 1)).toInt (hg (Ht + 1)).toInt) (some (x.toInt, y.toInt), 0) := by
        refine Prod.ext p1.symm ?_
        show _ = e_dv _ _ ||| 0
        rw [i32_or0]
        unfold e_rest
        rw [if_neg zi]
      rw [e]
      exact K
end RK2
