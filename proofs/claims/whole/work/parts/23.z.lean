/-- an equation that simp must carry as such -/
theorem nrfl {α : Sort _} {a b : α} (h : a = b) : a = b := h
/-! RULES for simp: a run's predicate is equal to what stands behind its next instruction. mw_at, lw_at bring it to mz; a row z_ an instruction -/
def mz (e : Option me_R) (K : Nat → me_L → List Value → mh_H → Prop) (C : Nat → List Value → List Value → Prop) (R : Option Value → Prop) : Prop := match e with
  | some (.inl (pc, ls, st, h)) => K pc ls st h
  | some (.inr (.inl (y, as, rest))) => C y as rest
  | some (.inr (.inr r)) => R r
  | none => False
/-- behind a call -/
def mK (d y : Nat) (Q : Option Value → mh_H → Prop) (pc : Nat) (ls : me_L) (st : List Value) (r : Option Value) (h : mh_H) : Prop := mw d y Q pc ls (r.toList ++ st) h
def mC (d y : Nat) (Q : Option Value → mh_H → Prop) (pc : Nat) (ls : me_L) (h : mh_H) (y' : Nat) (as rest : List Value) : Prop := match d with
  | 0 => False
  | d' + 1 => (as.map fun v => v.category).sum ≤ mc_nl y' ∧ mcall d' y' as h (mK (d' + 1) y Q (pc + 3) ls rest)
theorem mw_unf {d y pc : Nat} {Q : Option Value → mh_H → Prop} {ls : me_L} {st : List Value} {h : mh_H} : mw d y Q pc ls st h = mz (mm_step mc_P y pc ls st h) (mw d y Q) (mC d y Q pc ls h) (fun r => Q r h) := by
  apply propext
  cases hs : mm_step mc_P y pc ls st h with
  | none =>
    constructor
    · rintro ⟨n, r, h', e, q⟩
      cases n with
      | zero => cases e
      | succ n => unfold mm_run at e; rw [hs] at e; cases e
    · intro k; cases k
  | some e =>
    match e, hs with
    | .inl (pc', ls', st', h'), hs =>
      constructor
      · rintro ⟨n, r, h2, e, q⟩
        cases n with
        | zero => cases e
        | succ n => unfold mm_run at e; rw [hs] at e; exact ⟨n, r, h2, e, q⟩
      · intro k; exact mw_st hs k
    | .inr (.inr r), hs =>
      constructor
      · rintro ⟨n, r1, h2, e, q⟩
        cases n with
        | zero => cases e
        | succ n =>
          unfold mm_run at e; rw [hs] at e
          cases e
          exact q
      · intro k; exact mw_rt hs k
    | .inr (.inl (y', as, rest)), hs =>
      constructor
      · rintro ⟨n, r1, h2, e, q⟩
        cases n with
        | zero => cases e
        | succ n =>
          unfold mm_run at e; rw [hs] at e
          dsimp only at e
          cases d with
          | zero => cases e
          | succ d =>
            by_cases hc : (as.map fun v => v.category).sum ≤ mc_nl y'
            · rw [show decide ((as.map fun v => v.category).sum ≤ mc_nl y') = true from decide_eq_true hc] at e
              dsimp only at e
              split at e
              next r3 h3 e3 => exact ⟨hc, n, r3, h3, e3, n, r1, h2, e, q⟩
              next => cases e
            · rw [show decide ((as.map fun v => v.category).sum ≤ mc_nl y') = false from decide_eq_false hc] at e
              cases e
      · cases d with
        | zero => intro k; cases k
        | succ d => rintro ⟨hc, k⟩; exact mw_cl hs hc k (fun r h' z => z)
theorem mw_at {d y pc l a b : Nat} {v : Int} {ins : Instr} {Q : Option Value → mh_H → Prop} {ls : me_L} {st : List Value} {h : mh_H} (hP : mc_P y pc = some (ins, l, a, b, v)) : mw d y Q pc ls st h = mz (mm_ins ins a b v pc ls st h) (mw d y Q) (mC d y Q pc ls h) (fun r => Q r h) := by
  rw [mw_unf, mm_at hP]
theorem mK_some {d y pc : Nat} {Q : Option Value → mh_H → Prop} {ls : me_L} {st : List Value} {v : Value} {h : mh_H} : mK d y Q pc ls st (some v) h = mw d y Q pc ls (v :: st) h := nrfl rfl
theorem mK_none {d y pc : Nat} {Q : Option Value → mh_H → Prop} {ls : me_L} {st : List Value} {h : mh_H} : mK d y Q pc ls st none h = mw d y Q pc ls st h := nrfl rfl
/-- a value of the right sort -/
def mv_i (v : Value) (p : Prop) : Prop := match v with
  | .int _ => p
  | _ => False
def mv_l (v : Value) (p : Prop) : Prop := match v with
  | .long _ => p
  | _ => False
def mv_a (v : Value) (p : Prop) : Prop := match v with
  | .ref _ => p
  | .null => p
  | .retAddr _ => p
  | _ => False
theorem mv_i_1 {x : Int32} {p : Prop} : mv_i (.int x) p = p := nrfl rfl
theorem mv_l_1 {x : Int64} {p : Prop} : mv_l (.long x) p = p := nrfl rfl
theorem mv_a_1 {x : Nat} {p : Prop} : mv_a (.ref x) p = p := nrfl rfl
theorem mv_a_2 {p : Prop} : mv_a .null p = p := nrfl rfl
theorem mv_a_3 {x : Nat} {p : Prop} : mv_a (.retAddr x) p = p := nrfl rfl
/-- a long in the local below goes -/
def mk2 (v : Option Value) : Option Value := match v with
  | some (.long _) => none
  | some (.double _) => none
  | w => w
theorem mk2_n : mk2 none = none := nrfl rfl
theorem mk2_i {x : Int32} : mk2 (some (.int x)) = some (.int x) := nrfl rfl
theorem mk2_l {x : Int64} : mk2 (some (.long x)) = none := nrfl rfl
theorem mk2_a {x : Nat} : mk2 (some (.ref x)) = some (.ref x) := nrfl rfl
theorem mk2_u : mk2 (some .null) = some .null := nrfl rfl
theorem mk2_x {x : Nat} : mk2 (some (.retAddr x)) = some (.retAddr x) := nrfl rfl
theorem me_c2_mk {ls : me_L} {j : Nat} {w : Option Value} (hj : ls[j]? = some w) : me_c2 ls (j + 1) = ls.set j (mk2 w) := by
  have hsame : ls.set j w = ls := by
    apply List.ext_getElem?
    intro i
    by_cases e : j = i
    · subst e
      rw [List.getElem?_set]
      have : j < ls.length := by
        rcases Nat.lt_or_ge j ls.length with z | z
        · exact z
        · rw [List.getElem?_eq_none z] at hj; cases hj
      rw [if_pos rfl, if_pos this]; exact hj.symm
    · rw [List.getElem?_set]; simp [e]
  cases w with
  | none => simp only [me_c2, hj, mk2]; exact hsame.symm
  | some v =>
    cases v <;> first
      | (simp only [me_c2, hj, mk2, Value.category]; exact hsame.symm)
      | (simp only [me_c2, hj, mk2, Value.category]; rfl)
/-- an object of that class; an array of that kind -/
def mg (h : mh_H) (o ci : Nat) : Prop := mh_k h o = ci ∧ o < mh_n h
/-- a place of a row of that length -/
def mx (i : Int32) (n : Nat) : Prop := 0 ≤ i ∧ i.toNatClampNeg < n
/-- what still lies on the stack below a call -/
def mcs (st : List Value) : Prop := (st.map fun v => v.category).sum ≤ 8
def mN (i : Int32) : Prop := 0 ≤ i ∧ i.toNatClampNeg ≤ 10000000
/-- a branch: both ways -/
def mB (c : Prop) (K : Nat → me_L → List Value → mh_H → Prop) (t n : Nat) (ls : me_L) (st : List Value) (h : mh_H) : Prop := (c → K t ls st h) ∧ (¬ c → K n ls st h)
section
variable {c : Prop} {K : Nat → me_L → List Value → mh_H → Prop} {t n : Nat} {ls : me_L} {st : List Value} {h : mh_H}
theorem mB_T : mB True K t n ls st h = K t ls st h := by simp [mB]
theorem mB_F : mB False K t n ls st h = K n ls st h := by simp [mB]
theorem mB_i (k1 : c → K t ls st h) (k2 : ¬ c → K n ls st h) : mB c K t n ls st h := ⟨k1, k2⟩
end
/-- a switch: cases and where they lead -/
def mS (x : Int32) (K : Nat → me_L → List Value → mh_H → Prop) (df : Nat) (ls : me_L) (st : List Value) (h : mh_H) : List (Int32 × Nat) → Prop
  | [] => K df ls st h
  | (c, t) :: r => (x = c → K t ls st h) ∧ (¬ x = c → mS x K df ls st h r)
def mSB (c : Prop) (x : Int32) (K : Nat → me_L → List Value → mh_H → Prop) (df : Nat) (ls : me_L) (st : List Value) (h : mh_H) (t : Nat) (r : List (Int32 × Nat)) : Prop := (c → K t ls st h) ∧ (¬ c → mS x K df ls st h r)
section
variable {x z : Int32} {K : Nat → me_L → List Value → mh_H → Prop} {df t : Nat} {ls : me_L} {st : List Value} {h : mh_H} {r : List (Int32 × Nat)} {c : Prop}
theorem mS_nil : mS x K df ls st h [] = K df ls st h := nrfl rfl
theorem mS_cons : mS x K df ls st h ((z, t) :: r) = mSB (x = z) x K df ls st h t r := nrfl rfl
theorem mSB_T : mSB True x K df ls st h t r = K t ls st h := by simp [mSB]
theorem mSB_F : mSB False x K df ls st h t r = mS x K df ls st h r := by simp [mSB]
theorem mSB_i (k1 : c → K t ls st h) (k2 : ¬ c → mS x K df ls st h r) : mSB c x K df ls st h t r := ⟨k1, k2⟩
end
/-- how many words -/
def mca (st : List Value) (n : Nat) : Prop := (st.map fun v => v.category).sum ≤ n
theorem mca_nil {n : Nat} : mca [] n = True := eq_true (Nat.zero_le n)
section
variable {st : List Value} {n : Nat}
theorem mca_i {x : Int32} : mca (.int x :: st) (n + 1) = mca st n := by simp [mca, Value.category]; omega
theorem mca_l {x : Int64} : mca (.long x :: st) (n + 2) = mca st n := by simp [mca, Value.category]; omega
theorem mca_r {x : Nat} : mca (.ref x :: st) (n + 1) = mca st n := by simp [mca, Value.category]; omega
theorem mca_u : mca (.null :: st) (n + 1) = mca st n := by simp [mca, Value.category]; omega
theorem mca_x {x : Nat} : mca (.retAddr x :: st) (n + 1) = mca st n := by simp [mca, Value.category]; omega
end
section MZ
variable {K : Nat → me_L → List Value → mh_H → Prop} {C : Nat → List Value → List Value → Prop} {R : Option Value → Prop} {pc a b : Nat} {v : Int} {ls ls' : me_L} {st : List Value} {h : mh_H}
theorem mz_1 {e : Option me_R} {c : Bool} : mz (me_1 e c) K C R = (c = true ∧ mz e K C R) := by cases c <;> simp [me_1, mz]
theorem mz_go : mz (me_go pc ls st h) K C R = K pc ls st h := nrfl rfl
theorem mz_jp {off : Int} {t : Nat} (ht : (pc : Int) + off = (t : Int)) : mz (me_jp pc off ls st h) K C R = K t ls st h := by
  unfold me_jp
  rw [ht, if_pos (Int.natCast_nonneg t)]
  rfl
theorem mz_br {c : Bool} {q : Prop} {off : Int} {t n : Nat} (hq : (c = true) = q) (ht : (pc : Int) + off = (t : Int)) (hn : pc + 3 = n) : mz (me_br c pc off ls st h) K C R = mB q K t n ls st h := by
  subst hn hq
  cases c with
  | true => simp only [me_br, mB_T]; exact mz_jp ht
  | false =>
    simp only [me_br, mB_F, Bool.false_eq_true]
    rw [mz_1, ht]
    simp [Int.natCast_nonneg, mz_go]

theorem z_iconst {n : Int} {x : Int32} (hx : Int32.ofInt n = x) : mz (mm_ins (.iconst n) a b v pc ls st h) K C R = K (pc + 1) ls (.int x :: st) h := by subst hx; rfl
theorem z_bipush {n : Int} {x : Int32} (hx : (Int8.ofInt n).toInt32 = x) : mz (mm_ins (.bipush n) a b v pc ls st h) K C R = K (pc + 2) ls (.int x :: st) h := by subst hx; rfl
theorem z_sipush {n : Int} {x : Int32} (hx : (Int16.ofInt n).toInt32 = x) : mz (mm_ins (.sipush n) a b v pc ls st h) K C R = K (pc + 3) ls (.int x :: st) h := by subst hx; rfl
theorem z_lconst {n : Fin 2} {x : Int64} (hx : Int64.ofNat n = x) : mz (mm_ins (.lconst n) a b v pc ls st h) K C R = K (pc + 1) ls (.long x :: st) h := by subst hx; rfl
theorem z_null : mz (mm_ins .aconst_null a b v pc ls st h) K C R = K (pc + 1) ls (.null :: st) h := nrfl rfl
theorem z_ldc {i : Nat} {x : Int32} (hx : Int32.ofInt v = x) : mz (mm_ins (.ldc i) a 0 v pc ls st h) K C R = K (pc + 2) ls (.int x :: st) h := by subst hx; rfl
theorem z_ldcS {i : Nat} : mz (mm_ins (.ldc i) a 1 v pc ls st h) K C R = K (pc + 2) ls (.retAddr a :: st) h := nrfl rfl
theorem z_ldcW {i : Nat} : mz (mm_ins (.ldc_w i) a 1 v pc ls st h) K C R = K (pc + 3) ls (.retAddr a :: st) h := nrfl rfl
theorem z_gets0 {i : Nat} : mz (mm_ins (.getstatic i) a 0 v pc ls st h) K C R = K (pc + 3) ls (.retAddr a :: st) h := nrfl rfl
theorem z_gets1 {i : Nat} {x : Int32} (hx : Int32.ofInt v = x) : mz (mm_ins (.getstatic i) a 1 v pc ls st h) K C R = K (pc + 3) ls (.int x :: st) h := by subst hx; rfl
theorem z_ldc2 {i : Nat} {x : Int64} (hx : Int64.ofInt v = x) : mz (mm_ins (.ldc2_w i) a b v pc ls st h) K C R = K (pc + 3) ls (.long x :: st) h := by subst hx; rfl
theorem z_iload {i : Nat} {x : Value} (hv : ls[(i : Nat)]? = some (some x)) : mz (mm_ins (.iload i) a b v pc ls st h) K C R = mv_i x (K (pc + 2) ls (x :: st) h) := by cases x <;> simp [mm_ins, me_pv, me_oi, me_ld, hv, mz, me_go, mv_i]
theorem z_iload_n {i : Fin 4} {x : Value} (hv : ls[(i : Nat)]? = some (some x)) : mz (mm_ins (.iload_n i) a b v pc ls st h) K C R = mv_i x (K (pc + 1) ls (x :: st) h) := by cases x <;> simp [mm_ins, me_pv, me_oi, me_ld, hv, mz, me_go, mv_i]
theorem z_lload {i : Nat} {x : Value} (hv : ls[(i : Nat)]? = some (some x)) : mz (mm_ins (.lload i) a b v pc ls st h) K C R = mv_l x (K (pc + 2) ls (x :: st) h) := by cases x <;> simp [mm_ins, me_pv, me_ol, me_ld, hv, mz, me_go, mv_l]
theorem z_lload_n {i : Fin 4} {x : Value} (hv : ls[(i : Nat)]? = some (some x)) : mz (mm_ins (.lload_n i) a b v pc ls st h) K C R = mv_l x (K (pc + 1) ls (x :: st) h) := by cases x <;> simp [mm_ins, me_pv, me_ol, me_ld, hv, mz, me_go, mv_l]
theorem z_aload {i : Nat} {x : Value} (hv : ls[(i : Nat)]? = some (some x)) : mz (mm_ins (.aload i) a b v pc ls st h) K C R = mv_a x (K (pc + 2) ls (x :: st) h) := by cases x <;> simp [mm_ins, me_pv, me_oa, me_ld, hv, mz, me_go, mv_a]
theorem z_aload_n {i : Fin 4} {x : Value} (hv : ls[(i : Nat)]? = some (some x)) : mz (mm_ins (.aload_n i) a b v pc ls st h) K C R = mv_a x (K (pc + 1) ls (x :: st) h) := by cases x <;> simp [mm_ins, me_pv, me_oa, me_ld, hv, mz, me_go, mv_a]
theorem z_istore {i : Nat} {x : Int32} (hi : (i : Nat) < ls.length) (hl : me_s1 ls i (.int x) = ls') : mz (mm_ins (.istore i) a b v pc ls (.int x :: st) h) K C R = K (pc + 2) ls' st h := by subst hl; simp [mm_ins, me_st, me_1, hi, mz, me_go]
theorem z_istore_n {i : Fin 4} {x : Int32} (hi : (i : Nat) < ls.length) (hl : me_s1 ls i (.int x) = ls') : mz (mm_ins (.istore_n i) a b v pc ls (.int x :: st) h) K C R = K (pc + 1) ls' st h := by subst hl; simp [mm_ins, me_st, me_1, hi, mz, me_go]
theorem z_lstore {i : Nat} {x : Int64} (hi : (i : Nat) + 1 < ls.length) (hl : me_s2 ls i (.long x) = ls') : mz (mm_ins (.lstore i) a b v pc ls (.long x :: st) h) K C R = K (pc + 2) ls' st h := by subst hl; simp [mm_ins, me_sl, me_1, hi, mz, me_go]
theorem z_lstore_n {i : Fin 4} {x : Int64} (hi : (i : Nat) + 1 < ls.length) (hl : me_s2 ls i (.long x) = ls') : mz (mm_ins (.lstore_n i) a b v pc ls (.long x :: st) h) K C R = K (pc + 1) ls' st h := by subst hl; simp [mm_ins, me_sl, me_1, hi, mz, me_go]
theorem z_astore {i : Nat} {x : Nat} (hi : (i : Nat) < ls.length) (hl : me_s1 ls i (.ref x) = ls') : mz (mm_ins (.astore i) a b v pc ls (.ref x :: st) h) K C R = K (pc + 2) ls' st h := by subst hl; simp [mm_ins, me_st, me_1, hi, mz, me_go]
theorem z_astore_n {i : Fin 4} {x : Nat} (hi : (i : Nat) < ls.length) (hl : me_s1 ls i (.ref x) = ls') : mz (mm_ins (.astore_n i) a b v pc ls (.ref x :: st) h) K C R = K (pc + 1) ls' st h := by subst hl; simp [mm_ins, me_st, me_1, hi, mz, me_go]
theorem z_astoreN {i : Nat} (hi : (i : Nat) < ls.length) (hl : me_s1 ls i (.null) = ls') : mz (mm_ins (.astore i) a b v pc ls (.null :: st) h) K C R = K (pc + 2) ls' st h := by subst hl; simp [mm_ins, me_st, me_1, hi, mz, me_go]
theorem z_astoreN_n {i : Fin 4} (hi : (i : Nat) < ls.length) (hl : me_s1 ls i (.null) = ls') : mz (mm_ins (.astore_n i) a b v pc ls (.null :: st) h) K C R = K (pc + 1) ls' st h := by subst hl; simp [mm_ins, me_st, me_1, hi, mz, me_go]
theorem z_astoreX {i : Nat} {x : Nat} (hi : (i : Nat) < ls.length) (hl : me_s1 ls i (.retAddr x) = ls') : mz (mm_ins (.astore i) a b v pc ls (.retAddr x :: st) h) K C R = K (pc + 2) ls' st h := by subst hl; simp [mm_ins, me_st, me_1, hi, mz, me_go]
theorem z_astoreX_n {i : Fin 4} {x : Nat} (hi : (i : Nat) < ls.length) (hl : me_s1 ls i (.retAddr x) = ls') : mz (mm_ins (.astore_n i) a b v pc ls (.retAddr x :: st) h) K C R = K (pc + 1) ls' st h := by subst hl; simp [mm_ins, me_st, me_1, hi, mz, me_go]
theorem z_iinc {i : Nat} {n : Int} {x w : Int32} (hv : ls[i]? = some (some (.int x))) (hi : i < ls.length) (hn : Int32.ofInt n = w) (hl : me_s1 ls i (.int (x + w)) = ls') : mz (mm_ins (.iinc i n) a b v pc ls st h) K C R = K (pc + 3) ls' st h := by subst hl hn; simp only [mm_ins, me_ld, hv, me_st, me_1, hi, decide_true, mz, me_go]
theorem mz_ob {o ci k : Nat} {p : Prop} (hc : ci < 100) (hk : k < mt_nf ci) : (me_ob h o ci k = true ∧ p) = (mg h o ci ∧ p) := by
  simp only [me_ob, mg, hc, hk, decide_true, Bool.and_true, Bool.and_eq_true, decide_eq_true_eq]
  rw [and_comm (a := o < mh_n h)]
theorem z_geti {i o ci k : Nat} (hc : ci < 100) (hk : k < mt_nf ci) (ht : mt_tc ci k = 0 ∨ mt_tc ci k = 3) : mz (mm_ins (.getfield i) ci k v pc ls (.ref o :: st) h) K C R = (mg h o ci ∧ K (pc + 3) ls (.int (mh_i h o k) :: st) h) := by
  refine (mz_1 (e := me_go (pc + 3) ls (me_rd h o k :: st) h) (c := me_ob h o ci k)).trans ?_
  rw [mz_ob hc hk]
  apply propext
  refine and_congr_right (fun q => ?_)
  rw [mz_go, me_rd, q.1]
  rcases ht with e | e <;> rw [e] <;> exact Iff.rfl
theorem z_getl {i o ci k : Nat} (hc : ci < 100) (hk : k < mt_nf ci) (ht : mt_tc ci k = 1) : mz (mm_ins (.getfield i) ci k v pc ls (.ref o :: st) h) K C R = (mg h o ci ∧ K (pc + 3) ls (.long (mh_j h o k) :: st) h) := by
  refine (mz_1 (e := me_go (pc + 3) ls (me_rd h o k :: st) h) (c := me_ob h o ci k)).trans ?_
  rw [mz_ob hc hk]
  apply propext
  refine and_congr_right (fun q => ?_)
  rw [mz_go, me_rd, q.1, ht]; exact Iff.rfl
theorem z_getr {i o ci k : Nat} (hc : ci < 100) (hk : k < mt_nf ci) (ht : mt_tc ci k = 2) : mz (mm_ins (.getfield i) ci k v pc ls (.ref o :: st) h) K C R = (mg h o ci ∧ K (pc + 3) ls (va_rf (mh_r h o k) :: st) h) := by
  refine (mz_1 (e := me_go (pc + 3) ls (me_rd h o k :: st) h) (c := me_ob h o ci k)).trans ?_
  rw [mz_ob hc hk]
  apply propext
  refine and_congr_right (fun q => ?_)
  rw [mz_go, me_rd, q.1, ht]; exact Iff.rfl
theorem z_getx {i x k : Nat} {w : Value} (hk : k < 2) (hw : me_xf k x = w) : mz (mm_ins (.getfield i) 90 k v pc ls (.retAddr x :: st) h) K C R = (me_xs x = true ∧ K (pc + 3) ls (w :: st) h) := by
  subst hw
  refine (mz_1 (e := me_go (pc + 3) ls (me_xf k x :: st) h)).trans ?_
  simp [hk, mz_go]
theorem z_puti {i o ci k : Nat} {x : Int32} (hc : ci < 100) (hk : k < mt_nf ci) (ht : mt_tc ci k = 0) : mz (mm_ins (.putfield i) ci k v pc ls (.int x :: .ref o :: st) h) K C R = (mg h o ci ∧ K (pc + 3) ls st (mh_si h o k x)) := by
  refine (mz_1 (e := me_ph (me_wr h o ci k (.int x)) (pc + 3) ls st) (c := me_ob h o ci k)).trans ?_
  rw [mz_ob hc hk]; simp [me_wr, ht, me_ph, mz_go]
theorem z_putz {i o ci k : Nat} {x : Int32} (hc : ci < 100) (hk : k < mt_nf ci) (ht : mt_tc ci k = 3) : mz (mm_ins (.putfield i) ci k v pc ls (.int x :: .ref o :: st) h) K C R = (mg h o ci ∧ (x = 0 ∨ x = 1) ∧ K (pc + 3) ls st (mh_si h o k x)) := by
  refine (mz_1 (e := me_ph (me_wr h o ci k (.int x)) (pc + 3) ls st) (c := me_ob h o ci k)).trans ?_
  rw [mz_ob hc hk]
  by_cases q : x = 0 ∨ x = 1
  · simp [me_wr, ht, me_ph, mz_go, q]
  · simp [me_wr, ht, me_ph, mz, q]
theorem z_putl {i o ci k : Nat} {x : Int64} (hc : ci < 100) (hk : k < mt_nf ci) (ht : mt_tc ci k = 1) : mz (mm_ins (.putfield i) ci k v pc ls (.long x :: .ref o :: st) h) K C R = (mg h o ci ∧ K (pc + 3) ls st (mh_sj h o k x)) := by
  refine (mz_1 (e := me_ph (me_wr h o ci k (.long x)) (pc + 3) ls st) (c := me_ob h o ci k)).trans ?_
  rw [mz_ob hc hk]; simp [me_wr, ht, me_ph, mz_go]
theorem z_putr {i o ci k x : Nat} (hc : ci < 100) (hk : k < mt_nf ci) (ht : mt_tc ci k = 2) : mz (mm_ins (.putfield i) ci k v pc ls (.ref x :: .ref o :: st) h) K C R = (mg h o ci ∧ K (pc + 3) ls st (mh_sr h o k (some x))) := by
  refine (mz_1 (e := me_ph (me_wr h o ci k (.ref x)) (pc + 3) ls st) (c := me_ob h o ci k)).trans ?_
  rw [mz_ob hc hk]; simp [me_wr, ht, me_ph, mz_go]
theorem z_putn {i o ci k : Nat} (hc : ci < 100) (hk : k < mt_nf ci) (ht : mt_tc ci k = 2) : mz (mm_ins (.putfield i) ci k v pc ls (.null :: .ref o :: st) h) K C R = (mg h o ci ∧ K (pc + 3) ls st (mh_sr h o k none)) := by
  refine (mz_1 (e := me_ph (me_wr h o ci k .null) (pc + 3) ls st) (c := me_ob h o ci k)).trans ?_
  rw [mz_ob hc hk]; simp [me_wr, ht, me_ph, mz_go]
theorem mz_ix {o kd : Nat} {i : Int32} {p : Prop} {c : Bool} (hkd : 100 ≤ kd) (hc : (c = true) = (mh_k h o = kd)) : ((me_ix h o i && c) = true ∧ p) = (mg h o kd ∧ mx i (mh_l h o) ∧ p) := by
  simp only [me_ix, mg, mx, Bool.and_eq_true, decide_eq_true_eq, hc]
  apply propext
  constructor
  · rintro ⟨⟨⟨q1, q2, q3, q4⟩, q5⟩, q6⟩; exact ⟨⟨q5, q1⟩, ⟨q3, q4⟩, q6⟩
  · rintro ⟨⟨q5, q1⟩, ⟨q3, q4⟩, q6⟩; exact ⟨⟨⟨q1, q5 ▸ hkd, q3, q4⟩, q5⟩, q6⟩
theorem z_iald {o : Nat} {i : Int32} : mz (mm_ins .iaload a b v pc ls (.int i :: .ref o :: st) h) K C R = (mg h o 100 ∧ mx i (mh_l h o) ∧ K (pc + 1) ls (.int (mh_i h o i.toNatClampNeg) :: st) h) := by
  refine (mz_1 (e := me_go (pc + 1) ls (.int (mh_i h o i.toNatClampNeg) :: st) h)).trans ?_
  rw [mz_ix (kd := 100) (by decide) (by simp)]; rfl
theorem z_iaX {i : Int32} : mz (mm_ins .iaload a b v pc ls (.int i :: .retAddr 2 :: st) h) K C R = (mx i 24 ∧ K (pc + 1) ls (.int (mx_row.getD i.toNatClampNeg 0) :: st) h) := by
  refine (mz_1 (e := me_go (pc + 1) ls (.int (mx_row.getD i.toNatClampNeg 0) :: st) h)).trans ?_
  simp [mx, mz_go]
theorem z_lald {o : Nat} {i : Int32} : mz (mm_ins .laload a b v pc ls (.int i :: .ref o :: st) h) K C R = (mg h o 101 ∧ mx i (mh_l h o) ∧ K (pc + 1) ls (.long (mh_j h o i.toNatClampNeg) :: st) h) := by
  refine (mz_1 (e := me_go (pc + 1) ls (.long (mh_j h o i.toNatClampNeg) :: st) h)).trans ?_
  rw [mz_ix (kd := 101) (by decide) (by simp)]; rfl
/-- a row of bytes or booleans -/
def mgb (h : mh_H) (o : Nat) : Prop := (mh_k h o = 102 ∨ mh_k h o = 103) ∧ o < mh_n h
theorem z_bald {o : Nat} {i : Int32} : mz (mm_ins .baload a b v pc ls (.int i :: .ref o :: st) h) K C R = (mgb h o ∧ mx i (mh_l h o) ∧ K (pc + 1) ls (.int (mh_i h o i.toNatClampNeg) :: st) h) := by
  refine (mz_1 (e := me_go (pc + 1) ls (.int (mh_i h o i.toNatClampNeg) :: st) h)).trans ?_
  simp only [me_ix, mgb, mx, Bool.and_eq_true, Bool.or_eq_true, decide_eq_true_eq, mz_go]
  apply propext
  constructor
  · rintro ⟨⟨⟨q1, q2, q3, q4⟩, q5⟩, q6⟩; exact ⟨⟨q5, q1⟩, ⟨q3, q4⟩, q6⟩
  · rintro ⟨⟨q5, q1⟩, ⟨q3, q4⟩, q6⟩; exact ⟨⟨⟨q1, by omega, q3, q4⟩, q5⟩, q6⟩
theorem z_baX {x : Nat} {i : Int32} : mz (mm_ins .baload a b v pc ls (.int i :: .retAddr x :: st) h) K C R = (me_xb x = true ∧ mx i (mx_len.getD (x / 3 - 1) 0) ∧ K (pc + 1) ls (.int ((mx_byt.getD (x / 3 - 1) []).getD i.toNatClampNeg 0) :: st) h) := by
  refine (mz_1 (e := me_go (pc + 1) ls (.int ((mx_byt.getD (x / 3 - 1) []).getD i.toNatClampNeg 0) :: st) h)).trans ?_
  simp only [mx, Bool.and_eq_true, decide_eq_true_eq, mz_go, and_assoc]
/-- a row of references; what it holds -/
def mgr (h : mh_H) (o : Nat) : Prop := (104 ≤ mh_k h o ∧ mh_k h o < 108) ∧ o < mh_n h
def mrd (kd : Nat) (h : mh_H) (o k : Nat) : Value := if kd = 107 then me_xr (mh_i h o k) else va_rf (mh_r h o k)
theorem mrd_104 {o k : Nat} : mrd 104 h o k = va_rf (mh_r h o k) := nrfl rfl
theorem mrd_105 {o k : Nat} : mrd 105 h o k = va_rf (mh_r h o k) := nrfl rfl
theorem mrd_106 {o k : Nat} : mrd 106 h o k = va_rf (mh_r h o k) := nrfl rfl
theorem mrd_107 {o k : Nat} : mrd 107 h o k = me_xr (mh_i h o k) := nrfl rfl
theorem z_aald {o : Nat} {i : Int32} : mz (mm_ins .aaload a b v pc ls (.int i :: .ref o :: st) h) K C R = (mgr h o ∧ mx i (mh_l h o) ∧ K (pc + 1) ls (mrd (mh_k h o) h o i.toNatClampNeg :: st) h) := by
  refine (mz_1 (e := me_go (pc + 1) ls (me_rd h o i.toNatClampNeg :: st) h)).trans ?_
  have e : 104 ≤ mh_k h o → mh_k h o < 108 → me_rd h o i.toNatClampNeg = mrd (mh_k h o) h o i.toNatClampNeg := by
    intro q1 q2
    have : mh_k h o = 104 ∨ mh_k h o = 105 ∨ mh_k h o = 106 ∨ mh_k h o = 107 := by omega
    rcases this with z | z | z | z <;> rw [me_rd, z] <;> rfl
  simp only [me_ix, mgr, mx, Bool.and_eq_true, decide_eq_true_eq, mz_go]
  apply propext
  constructor
  · rintro ⟨⟨⟨q1, q2, q3, q4⟩, q5, q6⟩, q7⟩; rw [e q5 q6] at q7; exact ⟨⟨⟨q5, q6⟩, q1⟩, ⟨q3, q4⟩, q7⟩
  · rintro ⟨⟨⟨q5, q6⟩, q1⟩, ⟨q3, q4⟩, q7⟩; rw [← e q5 q6] at q7; exact ⟨⟨⟨q1, by omega, q3, q4⟩, q5, q6⟩, q7⟩
theorem z_iast {o : Nat} {i x : Int32} : mz (mm_ins .iastore a b v pc ls (.int x :: .int i :: .ref o :: st) h) K C R = (mg h o 100 ∧ mx i (mh_l h o) ∧ K (pc + 1) ls st (mh_si h o i.toNatClampNeg x)) := by
  refine (mz_1 (e := me_go (pc + 1) ls st (mh_si h o i.toNatClampNeg x))).trans ?_
  rw [mz_ix (kd := 100) (by decide) (by simp)]; rfl
theorem z_last {o : Nat} {i : Int32} {x : Int64} : mz (mm_ins .lastore a b v pc ls (.long x :: .int i :: .ref o :: st) h) K C R = (mg h o 101 ∧ mx i (mh_l h o) ∧ K (pc + 1) ls st (mh_sj h o i.toNatClampNeg x)) := by
  refine (mz_1 (e := me_go (pc + 1) ls st (mh_sj h o i.toNatClampNeg x))).trans ?_
  rw [mz_ix (kd := 101) (by decide) (by simp)]; rfl
/-- what a row of bytes or booleans takes -/
def mna (h : mh_H) (o : Nat) (x : Int32) : Int32 := if mh_k h o = 102 then vp_nar .byte x else vp_nar .boolean x
theorem z_bast {o : Nat} {i x : Int32} : mz (mm_ins .bastore a b v pc ls (.int x :: .int i :: .ref o :: st) h) K C R = (mgb h o ∧ mx i (mh_l h o) ∧ K (pc + 1) ls st (mh_si h o i.toNatClampNeg (mna h o x))) := by
  by_cases e : mh_k h o = 102
  · have e1 : mm_ins .bastore a b v pc ls (.int x :: .int i :: .ref o :: st) h = me_1 (me_go (pc + 1) ls st (mh_si h o i.toNatClampNeg (vp_nar .byte x))) (me_ix h o i) := by
      simp only [mm_ins, e, decide_true]
    rw [e1, mz_1]
    simp only [me_ix, mgb, mx, Bool.and_eq_true, decide_eq_true_eq, mz_go, mna, e, if_true]
    apply propext
    constructor
    · rintro ⟨⟨q1, q2, q3, q4⟩, q6⟩; exact ⟨⟨Or.inl trivial, q1⟩, ⟨q3, q4⟩, q6⟩
    · rintro ⟨⟨q5, q1⟩, ⟨q3, q4⟩, q6⟩; exact ⟨⟨q1, by omega, q3, q4⟩, q6⟩
  · have e1 : mm_ins .bastore a b v pc ls (.int x :: .int i :: .ref o :: st) h = me_1 (me_go (pc + 1) ls st (mh_si h o i.toNatClampNeg (vp_nar .boolean x))) (me_ix h o i && decide (mh_k h o = 103)) := by
      simp only [mm_ins, e, decide_false]
    rw [e1, mz_1]
    simp only [me_ix, mgb, mx, Bool.and_eq_true, decide_eq_true_eq, mz_go, mna, e, if_false, false_or]
    apply propext
    constructor
    · rintro ⟨⟨⟨q1, q2, q3, q4⟩, q5⟩, q6⟩; exact ⟨⟨q5, q1⟩, ⟨q3, q4⟩, q6⟩
    · rintro ⟨⟨q5, q1⟩, ⟨q3, q4⟩, q6⟩; exact ⟨⟨⟨q1, by omega, q3, q4⟩, q5⟩, q6⟩
theorem z_aast {o w : Nat} {i : Int32} : mz (mm_ins .aastore a b v pc ls (.ref w :: .int i :: .ref o :: st) h) K C R = (mgr h o ∧ mx i (mh_l h o) ∧ mh_k h o < 107 ∧ mg h w (me_ac (mh_k h o)) ∧ K (pc + 1) ls st (mh_sr h o i.toNatClampNeg (some w))) := by
  refine (mz_1 (e := me_go (pc + 1) ls st (mh_sr h o i.toNatClampNeg (some w)))).trans ?_
  have hac : ∀ kd, me_ac kd < 100 := by intro kd; unfold me_ac; split; omega; split; omega; split; omega; omega
  simp only [me_ix, mgr, mg, mx, me_rc, Bool.and_eq_true, decide_eq_true_eq, mz_go, hac, and_true]
  apply propext
  constructor
  · rintro ⟨⟨⟨q1, q2, q3, q4⟩, q5, q6, q7, q8⟩, q9⟩; exact ⟨⟨⟨q5, by omega⟩, q1⟩, ⟨q3, q4⟩, q6, ⟨q8, q7⟩, q9⟩
  · rintro ⟨⟨⟨q5, _⟩, q1⟩, ⟨q3, q4⟩, q6, ⟨q8, q7⟩, q9⟩; exact ⟨⟨⟨q1, by omega, q3, q4⟩, q5, q6, q7, q8⟩, q9⟩
theorem z_aastN {o : Nat} {i : Int32} : mz (mm_ins .aastore a b v pc ls (.null :: .int i :: .ref o :: st) h) K C R = (mgr h o ∧ mx i (mh_l h o) ∧ mh_k h o < 107 ∧ K (pc + 1) ls st (mh_sr h o i.toNatClampNeg none)) := by
  refine (mz_1 (e := me_go (pc + 1) ls st (mh_sr h o i.toNatClampNeg none))).trans ?_
  simp only [me_ix, mgr, mx, Bool.and_eq_true, decide_eq_true_eq, mz_go]
  apply propext
  constructor
  · rintro ⟨⟨⟨q1, q2, q3, q4⟩, q5, q6⟩, q9⟩; exact ⟨⟨⟨q5, by omega⟩, q1⟩, ⟨q3, q4⟩, q6, q9⟩
  · rintro ⟨⟨⟨q5, _⟩, q1⟩, ⟨q3, q4⟩, q6, q9⟩; exact ⟨⟨⟨q1, by omega, q3, q4⟩, q5, q6⟩, q9⟩
theorem z_aastS {o x : Nat} {i : Int32} : mz (mm_ins .aastore a b v pc ls (.retAddr x :: .int i :: .ref o :: st) h) K C R = (mg h o 107 ∧ mx i (mh_l h o) ∧ me_xs x = true ∧ K (pc + 1) ls st (mh_si h o i.toNatClampNeg (Int32.ofNat x))) := by
  refine (mz_1 (e := me_go (pc + 1) ls st (mh_si h o i.toNatClampNeg (Int32.ofNat x)))).trans ?_
  simp only [me_ix, mg, mx, Bool.and_eq_true, decide_eq_true_eq, mz_go]
  apply propext
  constructor
  · rintro ⟨⟨⟨q1, q2, q3, q4⟩, q5, q6⟩, q9⟩; exact ⟨⟨q5, q1⟩, ⟨q3, q4⟩, q6, q9⟩
  · rintro ⟨⟨q5, q1⟩, ⟨q3, q4⟩, q6, q9⟩; exact ⟨⟨⟨q1, by omega, q3, q4⟩, q5, q6⟩, q9⟩
/-- an array -/
def mga (h : mh_H) (o : Nat) : Prop := o < mh_n h ∧ 100 ≤ mh_k h o ∧ mh_k h o < 108
theorem z_alen {o : Nat} : mz (mm_ins .arraylength a b v pc ls (.ref o :: st) h) K C R = (mga h o ∧ K (pc + 1) ls (.int (Int32.ofNat (mh_l h o)) :: st) h) := by
  refine (mz_1 (e := me_go (pc + 1) ls (.int (Int32.ofNat (mh_l h o)) :: st) h)).trans ?_
  simp only [mga, Bool.and_eq_true, decide_eq_true_eq, mz_go]
theorem z_alenX {x : Nat} : mz (mm_ins .arraylength a b v pc ls (.retAddr x :: st) h) K C R = (me_xb x = true ∧ K (pc + 1) ls (.int (Int32.ofNat (mx_len.getD (x / 3 - 1) 0)) :: st) h) := mz_1 (e := me_go (pc + 1) ls (.int (Int32.ofNat (mx_len.getD (x / 3 - 1) 0)) :: st) h)
theorem z_cast {i o : Nat} : mz (mm_ins (.checkcast i) 102 b v pc ls (.ref o :: st) h) K C R = (mg h o 102 ∧ K (pc + 3) ls (.ref o :: st) h) := by
  refine (mz_1 (e := me_go (pc + 3) ls (.ref o :: st) h)).trans ?_
  simp only [mg, Bool.and_eq_true, decide_eq_true_eq, mz_go, and_true]
  rw [and_comm (a := o < mh_n h)]
theorem z_newa {t : ArrayType} {i : Int32} (h1 : 100 ≤ a) (h2 : a < 104) : mz (mm_ins (.newarray t) a b v pc ls (.int i :: st) h) K C R = (mN i ∧ K (pc + 2) ls (.ref (mh_n h) :: st) (mh_new h a i.toNatClampNeg)) := by
  refine (mz_1 (e := me_go (pc + 2) ls (.ref (mh_n h) :: st) (mh_new h a i.toNatClampNeg))).trans ?_
  simp only [mN, Bool.and_eq_true, decide_eq_true_eq, mz_go, h1, h2, and_true]
theorem z_anewa {j : Nat} {i : Int32} (h1 : 104 ≤ a) (h2 : a < 108) : mz (mm_ins (.anewarray j) a b v pc ls (.int i :: st) h) K C R = (mN i ∧ K (pc + 3) ls (.ref (mh_n h) :: st) (mh_new h a i.toNatClampNeg)) := by
  refine (mz_1 (e := me_go (pc + 3) ls (.ref (mh_n h) :: st) (mh_new h a i.toNatClampNeg))).trans ?_
  simp only [mN, Bool.and_eq_true, decide_eq_true_eq, mz_go, h1, h2, and_true]
theorem z_new {i n : Nat} (h1 : a < 15) (hn : mt_nf a = n) : mz (mm_ins (.new i) a b v pc ls st h) K C R = K (pc + 3) ls (.ref (mh_n h) :: st) (mh_new h a n) := by
  subst hn
  refine (mz_1 (e := me_go (pc + 3) ls (.ref (mh_n h) :: st) (mh_new h a (mt_nf a)))).trans ?_
  simp only [h1, decide_true, true_and, mz_go]
theorem z_iadd {x w : Int32} : mz (mm_ins .iadd a b v pc ls (.int w :: .int x :: st) h) K C R = K (pc + 1) ls (.int (x + w) :: st) h := nrfl rfl
theorem z_isub {x w : Int32} : mz (mm_ins .isub a b v pc ls (.int w :: .int x :: st) h) K C R = K (pc + 1) ls (.int (x - w) :: st) h := nrfl rfl
theorem z_imul {x w : Int32} : mz (mm_ins .imul a b v pc ls (.int w :: .int x :: st) h) K C R = K (pc + 1) ls (.int (x * w) :: st) h := nrfl rfl
theorem z_iand {x w : Int32} : mz (mm_ins .iand a b v pc ls (.int w :: .int x :: st) h) K C R = K (pc + 1) ls (.int (x &&& w) :: st) h := nrfl rfl
theorem z_ior {x w : Int32} : mz (mm_ins .ior a b v pc ls (.int w :: .int x :: st) h) K C R = K (pc + 1) ls (.int (x ||| w) :: st) h := nrfl rfl
theorem z_ixor {x w : Int32} : mz (mm_ins .ixor a b v pc ls (.int w :: .int x :: st) h) K C R = K (pc + 1) ls (.int (x ^^^ w) :: st) h := nrfl rfl
theorem z_ishl {x w : Int32} : mz (mm_ins .ishl a b v pc ls (.int w :: .int x :: st) h) K C R = K (pc + 1) ls (.int (x <<< (w &&& 31)) :: st) h := nrfl rfl
theorem z_ishr {x w : Int32} : mz (mm_ins .ishr a b v pc ls (.int w :: .int x :: st) h) K C R = K (pc + 1) ls (.int (x >>> (w &&& 31)) :: st) h := nrfl rfl
theorem z_iushr {x w : Int32} : mz (mm_ins .iushr a b v pc ls (.int w :: .int x :: st) h) K C R = K (pc + 1) ls (.int ((x.toUInt32 >>> (w.toUInt32 &&& Int32.toUInt32 31)).toInt32) :: st) h := nrfl rfl
theorem z_idiv {x w : Int32} : mz (mm_ins .idiv a b v pc ls (.int w :: .int x :: st) h) K C R = (¬ w = 0 ∧ K (pc + 1) ls (.int (x / w) :: st) h) := by
  by_cases q : w = 0 <;> simp [mm_ins, me_i2, me_pi, q, mz, me_go]
theorem z_irem {x w : Int32} : mz (mm_ins .irem a b v pc ls (.int w :: .int x :: st) h) K C R = (¬ w = 0 ∧ K (pc + 1) ls (.int (x - x / w * w) :: st) h) := by
  by_cases q : w = 0 <;> simp [mm_ins, me_i2, me_pi, q, mz, me_go]
theorem z_ladd {x w : Int64} : mz (mm_ins .ladd a b v pc ls (.long w :: .long x :: st) h) K C R = K (pc + 1) ls (.long (x + w) :: st) h := nrfl rfl
theorem z_lsub {x w : Int64} : mz (mm_ins .lsub a b v pc ls (.long w :: .long x :: st) h) K C R = K (pc + 1) ls (.long (x - w) :: st) h := nrfl rfl
theorem z_lmul {x w : Int64} : mz (mm_ins .lmul a b v pc ls (.long w :: .long x :: st) h) K C R = K (pc + 1) ls (.long (x * w) :: st) h := nrfl rfl
theorem z_land {x w : Int64} : mz (mm_ins .land a b v pc ls (.long w :: .long x :: st) h) K C R = K (pc + 1) ls (.long (x &&& w) :: st) h := nrfl rfl
theorem z_lor {x w : Int64} : mz (mm_ins .lor a b v pc ls (.long w :: .long x :: st) h) K C R = K (pc + 1) ls (.long (x ||| w) :: st) h := nrfl rfl
theorem z_lxor {x w : Int64} : mz (mm_ins .lxor a b v pc ls (.long w :: .long x :: st) h) K C R = K (pc + 1) ls (.long (x ^^^ w) :: st) h := nrfl rfl
theorem z_ldiv {x w : Int64} : mz (mm_ins .ldiv a b v pc ls (.long w :: .long x :: st) h) K C R = (¬ w = 0 ∧ K (pc + 1) ls (.long (x / w) :: st) h) := by
  by_cases q : w = 0 <;> simp [mm_ins, me_l2, me_pl, q, mz, me_go]
theorem z_lrem {x w : Int64} : mz (mm_ins .lrem a b v pc ls (.long w :: .long x :: st) h) K C R = (¬ w = 0 ∧ K (pc + 1) ls (.long (x - x / w * w) :: st) h) := by
  by_cases q : w = 0 <;> simp [mm_ins, me_l2, me_pl, q, mz, me_go]
theorem z_lshl {x : Int64} {w : Int32} : mz (mm_ins .lshl a b v pc ls (.int w :: .long x :: st) h) K C R = K (pc + 1) ls (.long (x <<< (w.toInt64 &&& 63)) :: st) h := rfl
theorem z_ineg {x : Int32} : mz (mm_ins .ineg a b v pc ls (.int x :: st) h) K C R = K (pc + 1) ls (.int (-x) :: st) h := nrfl rfl
theorem z_lneg {x : Int64} : mz (mm_ins .lneg a b v pc ls (.long x :: st) h) K C R = K (pc + 1) ls (.long (-x) :: st) h := nrfl rfl
theorem z_lcmp {x w : Int64} : mz (mm_ins .lcmp a b v pc ls (.long w :: .long x :: st) h) K C R = K (pc + 1) ls (.int (lg_cmp x w) :: st) h := nrfl rfl
theorem z_i2l {x : Int32} : mz (mm_ins .i2l a b v pc ls (.int x :: st) h) K C R = K (pc + 1) ls (.long x.toInt64 :: st) h := nrfl rfl
theorem z_l2i {x : Int64} : mz (mm_ins .l2i a b v pc ls (.long x :: st) h) K C R = K (pc + 1) ls (.int x.toInt32 :: st) h := nrfl rfl
theorem z_i2b {x : Int32} : mz (mm_ins .i2b a b v pc ls (.int x :: st) h) K C R = K (pc + 1) ls (.int x.toInt8.toInt32 :: st) h := nrfl rfl
theorem z_i2c {x : Int32} : mz (mm_ins .i2c a b v pc ls (.int x :: st) h) K C R = K (pc + 1) ls (.int (x.toUInt32 % 65536).toInt32 :: st) h := nrfl rfl
theorem z_dup {x : Value} : mz (mm_ins .dup a b v pc ls (x :: st) h) K C R = (x.category = 1 ∧ K (pc + 1) ls (x :: x :: st) h) := by
  refine (mz_1 (e := me_go (pc + 1) ls (x :: x :: st) h)).trans ?_
  simp only [decide_eq_true_eq, mz_go]
theorem z_dup2l {x : Int64} {w : Value} : mz (mm_ins .dup2 a b v pc ls (.long x :: w :: st) h) K C R = K (pc + 1) ls (.long x :: .long x :: w :: st) h := nrfl rfl
theorem z_dup2 {x : Int32} {w : Value} : mz (mm_ins .dup2 a b v pc ls (.int x :: w :: st) h) K C R = (w.category = 1 ∧ K (pc + 1) ls (.int x :: w :: .int x :: w :: st) h) := by
  refine (mz_1 (e := me_go (pc + 1) ls (.int x :: w :: .int x :: w :: st) h)).trans ?_
  simp only [Bool.and_eq_true, decide_eq_true_eq, mz_go]
  simp only [show (Value.int x).category = 1 from rfl, true_and]
theorem z_dupx {x w : Value} : mz (mm_ins .dup_x1 a b v pc ls (x :: w :: st) h) K C R = ((x.category = 1 ∧ w.category = 1) ∧ K (pc + 1) ls (x :: w :: x :: st) h) := by
  refine (mz_1 (e := me_go (pc + 1) ls (x :: w :: x :: st) h)).trans ?_
  simp only [decide_eq_true_eq, Bool.and_eq_true, mz_go]
theorem z_pop {x : Value} : mz (mm_ins .pop a b v pc ls (x :: st) h) K C R = (x.category = 1 ∧ K (pc + 1) ls st h) := by
  refine (mz_1 (e := me_go (pc + 1) ls st h)).trans ?_
  simp only [decide_eq_true_eq, mz_go]
theorem z_pop2 {x : Value} : mz (mm_ins .pop2 a b v pc ls (x :: st) h) K C R = (x.category = 2 ∧ K (pc + 1) ls st h) := by
  refine (mz_1 (e := me_go (pc + 1) ls st h)).trans ?_
  simp only [decide_eq_true_eq, mz_go]
theorem mcat_i {x : Int32} : (Value.int x).category = 1 := nrfl rfl
theorem mcat_l {x : Int64} : (Value.long x).category = 2 := nrfl rfl
theorem mcat_r {x : Nat} : (Value.ref x).category = 1 := nrfl rfl
theorem mcat_u : Value.null.category = 1 := nrfl rfl
theorem mcat_x {x : Nat} : (Value.retAddr x).category = 1 := nrfl rfl
theorem z_goto {off : Int} {t : Nat} (ht : (pc : Int) + off = (t : Int)) : mz (mm_ins (.goto off) a b v pc ls st h) K C R = K t ls st h := mz_jp ht
theorem z_if_eq {x : Int32} {off : Int} {t n : Nat} (ht : (pc : Int) + off = (t : Int)) (hn : pc + 3 = n) : mz (mm_ins (.ifCond .eq off) a b v pc ls (.int x :: st) h) K C R = mB (x = 0) K t n ls st h := mz_br (c := me_cz .eq x) (by simp [me_cz]) ht hn
theorem z_icmp_eq {x w : Int32} {off : Int} {t n : Nat} (ht : (pc : Int) + off = (t : Int)) (hn : pc + 3 = n) : mz (mm_ins (.if_icmp .eq off) a b v pc ls (.int w :: .int x :: st) h) K C R = mB (x = w) K t n ls st h := mz_br (c := me_cc .eq x w) (by simp [me_cc]) ht hn
theorem z_if_ne {x : Int32} {off : Int} {t n : Nat} (ht : (pc : Int) + off = (t : Int)) (hn : pc + 3 = n) : mz (mm_ins (.ifCond .ne off) a b v pc ls (.int x :: st) h) K C R = mB (¬ x = 0) K t n ls st h := mz_br (c := me_cz .ne x) (by simp [me_cz]) ht hn
theorem z_icmp_ne {x w : Int32} {off : Int} {t n : Nat} (ht : (pc : Int) + off = (t : Int)) (hn : pc + 3 = n) : mz (mm_ins (.if_icmp .ne off) a b v pc ls (.int w :: .int x :: st) h) K C R = mB (¬ x = w) K t n ls st h := mz_br (c := me_cc .ne x w) (by simp [me_cc]) ht hn
theorem z_if_lt {x : Int32} {off : Int} {t n : Nat} (ht : (pc : Int) + off = (t : Int)) (hn : pc + 3 = n) : mz (mm_ins (.ifCond .lt off) a b v pc ls (.int x :: st) h) K C R = mB (x < 0) K t n ls st h := mz_br (c := me_cz .lt x) (by simp [me_cz]) ht hn
theorem z_icmp_lt {x w : Int32} {off : Int} {t n : Nat} (ht : (pc : Int) + off = (t : Int)) (hn : pc + 3 = n) : mz (mm_ins (.if_icmp .lt off) a b v pc ls (.int w :: .int x :: st) h) K C R = mB (x < w) K t n ls st h := mz_br (c := me_cc .lt x w) (by simp [me_cc]) ht hn
theorem z_if_ge {x : Int32} {off : Int} {t n : Nat} (ht : (pc : Int) + off = (t : Int)) (hn : pc + 3 = n) : mz (mm_ins (.ifCond .ge off) a b v pc ls (.int x :: st) h) K C R = mB (0 ≤ x) K t n ls st h := mz_br (c := me_cz .ge x) (by simp [me_cz]) ht hn
theorem z_icmp_ge {x w : Int32} {off : Int} {t n : Nat} (ht : (pc : Int) + off = (t : Int)) (hn : pc + 3 = n) : mz (mm_ins (.if_icmp .ge off) a b v pc ls (.int w :: .int x :: st) h) K C R = mB (w ≤ x) K t n ls st h := mz_br (c := me_cc .ge x w) (by simp [me_cc]) ht hn
theorem z_if_gt {x : Int32} {off : Int} {t n : Nat} (ht : (pc : Int) + off = (t : Int)) (hn : pc + 3 = n) : mz (mm_ins (.ifCond .gt off) a b v pc ls (.int x :: st) h) K C R = mB (0 < x) K t n ls st h := mz_br (c := me_cz .gt x) (by simp [me_cz]) ht hn
theorem z_icmp_gt {x w : Int32} {off : Int} {t n : Nat} (ht : (pc : Int) + off = (t : Int)) (hn : pc + 3 = n) : mz (mm_ins (.if_icmp .gt off) a b v pc ls (.int w :: .int x :: st) h) K C R = mB (w < x) K t n ls st h := mz_br (c := me_cc .gt x w) (by simp [me_cc]) ht hn
theorem z_if_le {x : Int32} {off : Int} {t n : Nat} (ht : (pc : Int) + off = (t : Int)) (hn : pc + 3 = n) : mz (mm_ins (.ifCond .le off) a b v pc ls (.int x :: st) h) K C R = mB (x ≤ 0) K t n ls st h := mz_br (c := me_cz .le x) (by simp [me_cz]) ht hn
theorem z_icmp_le {x w : Int32} {off : Int} {t n : Nat} (ht : (pc : Int) + off = (t : Int)) (hn : pc + 3 = n) : mz (mm_ins (.if_icmp .le off) a b v pc ls (.int w :: .int x :: st) h) K C R = mB (x ≤ w) K t n ls st h := mz_br (c := me_cc .le x w) (by simp [me_cc]) ht hn
theorem z_nullT {off : Int} {t : Nat} (ht : (pc : Int) + off = (t : Int)) : mz (mm_ins (.ifnull off) a b v pc ls (.null :: st) h) K C R = K t ls st h := mz_jp ht
theorem z_nullF {off : Int} {x : Nat} : mz (mm_ins (.ifnull off) a b v pc ls (.ref x :: st) h) K C R = K (pc + 3) ls st h := nrfl rfl
theorem z_nnullT {off : Int} {x t : Nat} (ht : (pc : Int) + off = (t : Int)) : mz (mm_ins (.ifnonnull off) a b v pc ls (.ref x :: st) h) K C R = K t ls st h := mz_jp ht
theorem z_nnullF {off : Int} : mz (mm_ins (.ifnonnull off) a b v pc ls (.null :: st) h) K C R = K (pc + 3) ls st h := nrfl rfl
theorem z_iret {x : Int32} : mz (mm_ins .ireturn a 0 v pc ls [.int x] h) K C R = R (some (.int x)) := nrfl rfl
theorem z_zret {x : Int32} : mz (mm_ins .ireturn a 3 v pc ls [.int x] h) K C R = ((x = 0 ∨ x = 1) ∧ R (some (.int x))) := by
  refine (mz_1 (e := some (.inr (.inr (some (.int x)))))).trans ?_
  simp [mz]
theorem z_cret {x : Int32} : mz (mm_ins .ireturn a 4 v pc ls [.int x] h) K C R = (narrow .char (.int x) = .int x ∧ R (some (.int x))) := by
  refine (mz_1 (e := some (.inr (.inr (some (.int x)))))).trans ?_
  simp [mz]
theorem z_bret {x : Int32} : mz (mm_ins .ireturn a 5 v pc ls [.int x] h) K C R = (narrow .byte (.int x) = .int x ∧ R (some (.int x))) := by
  refine (mz_1 (e := some (.inr (.inr (some (.int x)))))).trans ?_
  simp [mz]
theorem z_lret {x : Int64} : mz (mm_ins .lreturn a b v pc ls [.long x] h) K C R = R (some (.long x)) := nrfl rfl
theorem z_aret {x : Nat} : mz (mm_ins .areturn a b v pc ls [.ref x] h) K C R = R (some (.ref x)) := nrfl rfl
theorem z_aretN : mz (mm_ins .areturn a b v pc ls [.null] h) K C R = R (some .null) := nrfl rfl
theorem z_vret : mz (mm_ins .return_ a b v pc ls [] h) K C R = R none := nrfl rfl
theorem mz_cl {y' n : Nat} {As rest st0 : List Value} (hst : st0 = As.reverse ++ rest) (hn : n = As.length) : mz (me_cl y' n st0) K C R = (mca rest 8 ∧ C y' As rest) := by
  subst hst hn
  refine (mz_1 (e := some (.inr (.inl (y', ((As.reverse ++ rest).take As.length).reverse, (As.reverse ++ rest).drop As.length))))).trans ?_
  rw [show As.length = As.reverse.length from List.length_reverse.symm, List.take_left, List.drop_left, List.reverse_reverse]
  simp [mca, mz]
theorem z_invs {i y' : Nat} {As rest st0 : List Value} (hst : st0 = As.reverse ++ rest) (hn : v.toNat = As.length) : mz (mm_ins (.invokestatic i) y' 0 v pc ls st0 h) K C R = (mca rest 8 ∧ C y' As rest) := mz_cl hst hn
theorem mz_top {o : Value} {n : Nat} {As rest st0 : List Value} (hst : st0 = (o :: As).reverse ++ rest) (hn : n = As.length + 1) : st0[n - 1]? = some o := by
  rw [hst, hn, List.reverse_cons, List.append_assoc, Nat.add_sub_cancel, ← List.length_reverse (as := As), List.getElem?_append_right (Nat.le_refl _), Nat.sub_self]
  rfl
theorem z_invv {i y' ci o : Nat} {As rest st0 : List Value} (hci : ci < 15) (hst : st0 = (Value.ref o :: As).reverse ++ rest) (hn : v.toNat = As.length + 1) : mz (mm_ins (.invokevirtual i) y' ci v pc ls st0 h) K C R = (mg h o ci ∧ mca rest 8 ∧ C y' (.ref o :: As) rest) := by
  have e : mm_ins (.invokevirtual i) y' ci v pc ls st0 h = me_1 (me_cl y' v.toNat st0) (me_rc h (st0[v.toNat - 1]?) ci && decide (1 ≤ v.toNat)) := by
    unfold mm_ins
    dsimp only
    split
    · omega
    · omega
    · rfl
  rw [e, mz_1, mz_top hst hn, mz_cl hst hn]
  simp only [me_rc, mg, show ci < 100 by omega, show 1 ≤ v.toNat by omega, decide_true, Bool.and_true, Bool.and_eq_true, decide_eq_true_eq]
  rw [and_comm (a := o < mh_n h)]
theorem z_invx {i y' x : Nat} {As rest st0 : List Value} (hst : st0 = (Value.retAddr x :: As).reverse ++ rest) (hn : v.toNat = As.length + 1) : mz (mm_ins (.invokevirtual i) y' 90 v pc ls st0 h) K C R = (me_xs x = true ∧ mca rest 8 ∧ C y' (.retAddr x :: As) rest) := by
  have e : mm_ins (.invokevirtual i) y' 90 v pc ls st0 h = me_1 (me_cl y' v.toNat st0) (me_xc (st0[v.toNat - 1]?) && decide (1 ≤ v.toNat)) := rfl
  rw [e, mz_1, mz_top hst hn, mz_cl hst hn]
  simp only [me_xc, show 1 ≤ v.toNat by omega, decide_true, Bool.and_true]
theorem z_invsp {i y' o : Nat} {As rest st0 : List Value} (hb : ¬ b = 1) (hst : st0 = (Value.ref o :: As).reverse ++ rest) (hn : v.toNat = As.length + 1) : mz (mm_ins (.invokespecial i) y' b v pc ls st0 h) K C R = (mca rest 8 ∧ C y' (.ref o :: As) rest) := by
  have e : mm_ins (.invokespecial i) y' b v pc ls st0 h = me_1 (me_cl y' v.toNat st0) (me_isr (st0[v.toNat - 1]?) && decide (1 ≤ v.toNat)) := by
    unfold mm_ins
    dsimp only
    split
    · omega
    · rfl
  rw [e, mz_1, mz_top hst hn, mz_cl hst hn]
  simp only [me_isr, show 1 ≤ v.toNat by omega, decide_true, Bool.and_true, true_and]
theorem z_obj {i o : Nat} : mz (mm_ins (.invokespecial i) a 1 v pc ls (.ref o :: st) h) K C R = (mca st 8 ∧ K (pc + 3) ls st h) := by
  refine (mz_1 (e := me_go (pc + 3) ls st h)).trans ?_
  simp only [decide_eq_true_eq, mz_go, mca]
theorem z_min {i : Nat} {x w : Int32} : mz (mm_ins (.invokestatic i) a 20 v pc ls (.int w :: .int x :: st) h) K C R = (mca st 8 ∧ K (pc + 3) ls (.int (if w < x then w else x) :: st) h) := by
  refine (mz_1 (e := me_go (pc + 3) ls (.int (if w < x then w else x) :: st) h)).trans ?_
  simp only [decide_eq_true_eq, mz_go, mca]
theorem z_max {i : Nat} {x w : Int32} : mz (mm_ins (.invokestatic i) a 21 v pc ls (.int w :: .int x :: st) h) K C R = (mca st 8 ∧ K (pc + 3) ls (.int (if x < w then w else x) :: st) h) := by
  refine (mz_1 (e := me_go (pc + 3) ls (.int (if x < w then w else x) :: st) h)).trans ?_
  simp only [decide_eq_true_eq, mz_go, mca]
theorem z_lmin {i : Nat} {x w : Int64} : mz (mm_ins (.invokestatic i) a 22 v pc ls (.long w :: .long x :: st) h) K C R = (mca st 8 ∧ K (pc + 3) ls (.long (if w < x then w else x) :: st) h) := by
  refine (mz_1 (e := me_go (pc + 3) ls (.long (if w < x then w else x) :: st) h)).trans ?_
  simp only [decide_eq_true_eq, mz_go, mca]
theorem z_lmax {i : Nat} {x w : Int64} : mz (mm_ins (.invokestatic i) a 23 v pc ls (.long w :: .long x :: st) h) K C R = (mca st 8 ∧ K (pc + 3) ls (.long (if w < x then x else w) :: st) h) := by
  refine (mz_1 (e := me_go (pc + 3) ls (.long (if w < x then x else w) :: st) h)).trans ?_
  simp only [decide_eq_true_eq, mz_go, mca]
theorem z_labs {i : Nat} {x : Int64} : mz (mm_ins (.invokestatic i) a 24 v pc ls (.long x :: st) h) K C R = (mca st 8 ∧ K (pc + 3) ls (.long (if 0 < x then x else -x) :: st) h) := by
  refine (mz_1 (e := me_go (pc + 3) ls (.long (if 0 < x then x else -x) :: st) h)).trans ?_
  simp only [decide_eq_true_eq, mz_go, mca]
theorem z_fd {i : Nat} {x w : Int64} : mz (mm_ins (.invokestatic i) a 25 v pc ls (.long w :: .long x :: st) h) K C R = (¬ w = 0 ∧ mca st 8 ∧ K (pc + 3) ls (.long (fd_v x w) :: st) h) := by
  refine (mz_1 (e := me_go (pc + 3) ls (.long (fd_v x w) :: st) h)).trans ?_
  simp only [decide_eq_true_eq, Bool.and_eq_true, mz_go, mca, and_assoc]
theorem z_copy {i o dd : Nat} {sp dp n : Int32} : mz (mm_ins (.invokestatic i) a 30 v pc ls (.int n :: .int dp :: .ref dd :: .int sp :: .ref o :: st) h) K C R = (me_cpok h o dd sp dp n = true ∧ mca st 8 ∧ K (pc + 3) ls st (mh_cp h o sp.toNatClampNeg dd dp.toNatClampNeg n.toNatClampNeg)) := by
  refine (mz_1 (e := me_go (pc + 3) ls st (mh_cp h o sp.toNatClampNeg dd dp.toNatClampNeg n.toNatClampNeg))).trans ?_
  simp only [decide_eq_true_eq, Bool.and_eq_true, mz_go, mca, and_assoc]
theorem z_clone {i o : Nat} : mz (mm_ins (.invokevirtual i) a 91 v pc ls (.ref o :: st) h) K C R = (mg h o 102 ∧ me_bf h o = true ∧ mca st 8 ∧ K (pc + 3) ls (.ref (mh_n h) :: st) (mh_cl h o)) := by
  refine (mz_1 (e := me_go (pc + 3) ls (.ref (mh_n h) :: st) (mh_cl h o))).trans ?_
  simp only [decide_eq_true_eq, Bool.and_eq_true, mz_go, mca, mg, and_assoc]
  apply propext
  constructor
  · rintro ⟨q1, q2, q3⟩; exact ⟨q2, q1, q3⟩
  · rintro ⟨q1, q2, q3⟩; exact ⟨q2, q1, q3⟩
/-! switches -/
theorem z_tab {df lo hi : Int} {offs : Array Int} {x : Int32} {cs : List (Int32 × Nat)} {dft : Nat} (hd : (pc : Int) + df = (dft : Int)) (hh : hi + 1 = lo + (offs.toList.length : Int)) (hc : cs.map (fun q => (q.1.toInt, (q.2 : Int))) = offs.toList.mapIdx (fun i o => (lo + (i : Int), (pc : Int) + o))) : mz (mm_ins (.tableswitch df lo hi offs) a b v pc ls (.int x :: st) h) K C R = mS x K dft ls st h cs := by
  have key : ∀ (l : List Int) (lo : Int) (cs : List (Int32 × Nat)), cs.map (fun q => (q.1.toInt, (q.2 : Int))) = l.mapIdx (fun i o => (lo + (i : Int), (pc : Int) + o)) → (x.toInt < lo ∨ lo + (l.length : Int) ≤ x.toInt → mS x K dft ls st h cs = K dft ls st h) ∧ (∀ off, lo ≤ x.toInt → l[(x.toInt - lo).toNat]? = some off → mS x K dft ls st h cs = mz (me_jp pc off ls st h) K C R) := by
    intro l
    induction l with
    | nil =>
      intro lo cs hcs
      cases cs with
      | nil => exact ⟨fun _ => rfl, fun off _ q => by cases q⟩
      | cons q r => cases hcs
    | cons p l ih =>
      intro lo cs hcs
      cases cs with
      | nil => rw [List.mapIdx_cons] at hcs; cases hcs
      | cons q r =>
        rw [List.mapIdx_cons, List.map_cons] at hcs
        obtain ⟨e0, e3⟩ := List.cons.inj hcs
        have e1 : q.1.toInt = lo := by have := congrArg Prod.fst e0; simpa using this
        have e2 : (pc : Int) + p = (q.2 : Int) := (congrArg Prod.snd e0).symm
        have e4 : (fun (i : Nat) (o : Int) => (lo + ((i + 1 : Nat) : Int), (pc : Int) + o)) = (fun (i : Nat) (o : Int) => (lo + 1 + (i : Int), (pc : Int) + o)) := by
          funext i o; rw [show lo + ((i + 1 : Nat) : Int) = lo + 1 + (i : Int) by omega]
        rw [e4] at e3
        obtain ⟨i1, i2⟩ := ih (lo + 1) r e3
        by_cases e : x.toInt = lo
        · have ex : x = q.1 := Int32.toInt_inj.mp (by rw [e, e1])
          refine ⟨fun z => ?_, fun off _ z => ?_⟩
          · simp only [List.length_cons] at z; omega
          · have hp : p = off := by rw [e, Int.sub_self] at z; exact Option.some.inj z
            rw [← hp, mz_jp e2]
            simp [mS, ex]
        · have ex : ¬ x = q.1 := fun z => e (by rw [z, e1])
          have em : mS x K dft ls st h (q :: r) = mS x K dft ls st h r := by simp [mS, ex]
          rw [em]
          refine ⟨fun z => i1 (by simp only [List.length_cons] at z; omega), fun off z1 z2 => i2 off (by omega) ?_⟩
          rw [show (x.toInt - lo).toNat = (x.toInt - (lo + 1)).toNat + 1 by omega] at z2
          exact z2
  obtain ⟨k1, k2⟩ := key offs.toList lo cs hc
  by_cases q : x.toInt < lo ∨ hi < x.toInt
  · have e : mm_ins (.tableswitch df lo hi offs) a b v pc ls (.int x :: st) h = me_jp pc df ls st h := by
      simp only [mm_ins, q, decide_true]
    rw [e, mz_jp hd, k1 (by omega)]
  · have hl : (x.toInt - lo).toNat < offs.toList.length := by omega
    have e : mm_ins (.tableswitch df lo hi offs) a b v pc ls (.int x :: st) h = me_jp pc (offs.toList[(x.toInt - lo).toNat]) ls st h := by
      have : offs[(x.toInt - lo).toNat]? = some (offs.toList[(x.toInt - lo).toNat]) := by
        rw [← Array.getElem?_toList]; exact List.getElem?_eq_getElem hl
      simp only [mm_ins, q, decide_false, this, me_sw]
    rw [e]
    exact (k2 _ (by omega) (List.getElem?_eq_getElem hl)).symm
theorem z_look {df : Int} {ps : Array (Int × Int)} {x : Int32} {cs : List (Int32 × Nat)} {dft : Nat} (hd : (pc : Int) + df = (dft : Int)) (hs : ((ps.toList.zip (ps.toList.drop 1)).all (fun (a, next) => a.1 < next.1)) = true) (hc : ps.toList.map (fun q => (q.1, (pc : Int) + q.2)) = cs.map (fun q => (q.1.toInt, (q.2 : Int)))) : mz (mm_ins (.lookupswitch df ps) a b v pc ls (.int x :: st) h) K C R = mS x K dft ls st h cs := by
  have key : ∀ (l : List (Int × Int)) (cs : List (Int32 × Nat)), l.map (fun q => (q.1, (pc : Int) + q.2)) = cs.map (fun q => (q.1.toInt, (q.2 : Int))) → mz (me_jp pc (Op.lookupswitch.offset l df x.toInt) ls st h) K C R = mS x K dft ls st h cs := by
    intro l
    induction l with
    | nil =>
      intro cs hcs
      cases cs with
      | nil => exact mz_jp hd
      | cons q r => cases hcs
    | cons p l ih =>
      intro cs hcs
      cases cs with
      | nil => cases hcs
      | cons q r =>
        simp only [List.map_cons, List.cons.injEq, Prod.mk.injEq] at hcs
        obtain ⟨⟨e1, e2⟩, e3⟩ := hcs
        by_cases e : x = q.1
        · have : Op.lookupswitch.offset (p :: l) df x.toInt = p.2 := by
            unfold Op.lookupswitch.offset
            simp [e1, e]
          rw [this, mz_jp e2]
          simp [mS, e]
        · have ne : ¬ p.1 = x.toInt := fun z => e (Int32.toInt_inj.mp (by rw [← z, e1]))
          have : Op.lookupswitch.offset (p :: l) df x.toInt = Op.lookupswitch.offset l df x.toInt := by
            conv => lhs; unfold Op.lookupswitch.offset
            simp [ne, Ne.symm ne]
          rw [this, ih r e3]
          simp [mS, e]
  refine (mz_1 (e := me_jp pc (Op.lookupswitch.offset ps.toList df x.toInt) ls st h)).trans ?_
  rw [hs, key ps.toList cs hc]
  simp
end MZ
theorem me_s1_mk {ls : me_L} {j : Nat} {w : Option Value} {v : Value} (hj : ls[j]? = some w) : me_s1 ls (j + 1) v = (ls.set j (mk2 w)).set (j + 1) (some v) := by unfold me_s1; rw [me_c2_mk hj]
theorem me_s2_mk {ls : me_L} {j : Nat} {w : Option Value} {v : Value} (hj : ls[j]? = some w) : me_s2 ls (j + 1) v = ((ls.set j (mk2 w)).set (j + 1) (some v)).set (j + 2) none := by unfold me_s2; rw [me_c2_mk hj]
theorem mC_nl {d y pc y' n : Nat} {Q : Option Value → mh_H → Prop} {ls : me_L} {h : mh_H} {as rest : List Value} (hn : mc_nl y' = n) : mC (d + 1) y Q pc ls h y' as rest = (mca as n ∧ mcall d y' as h (mK (d + 1) y Q (pc + 3) ls rest)) := by subst hn; rfl
/-! reads over writes, as rules for simp -/
section MHR
variable {h : mh_H} {a k b j : Nat} {v : Int32} {w : Int64} {r : Option Nat}
theorem hk_si : mh_k (mh_si h a k v) = mh_k h := nrfl rfl
theorem hk_sj : mh_k (mh_sj h a k w) = mh_k h := nrfl rfl
theorem hk_sr : mh_k (mh_sr h a k r) = mh_k h := nrfl rfl
theorem hl_si : mh_l (mh_si h a k v) = mh_l h := nrfl rfl
theorem hl_sj : mh_l (mh_sj h a k w) = mh_l h := nrfl rfl
theorem hl_sr : mh_l (mh_sr h a k r) = mh_l h := nrfl rfl
theorem hn_si : mh_n (mh_si h a k v) = mh_n h := nrfl rfl
theorem hn_sj : mh_n (mh_sj h a k w) = mh_n h := nrfl rfl
theorem hn_sr : mh_n (mh_sr h a k r) = mh_n h := nrfl rfl
theorem hs_si : mh_s (mh_si h a k v) = mh_s h := nrfl rfl
theorem hs_sj : mh_s (mh_sj h a k w) = mh_s h := nrfl rfl
theorem hs_sr : mh_s (mh_sr h a k r) = mh_s h := nrfl rfl
theorem hi_sj : mh_i (mh_sj h a k w) = mh_i h := nrfl rfl
theorem hi_sr : mh_i (mh_sr h a k r) = mh_i h := nrfl rfl
theorem hj_si : mh_j (mh_si h a k v) = mh_j h := nrfl rfl
theorem hj_sr : mh_j (mh_sr h a k r) = mh_j h := nrfl rfl
theorem hr_si : mh_r (mh_si h a k v) = mh_r h := nrfl rfl
theorem hr_sj : mh_r (mh_sj h a k w) = mh_r h := nrfl rfl
theorem hi_si : mh_i (mh_si h a k v) b j = if b = a ∧ j = k then v else mh_i h b j := nrfl rfl
theorem hj_sj : mh_j (mh_sj h a k w) b j = if b = a ∧ j = k then w else mh_j h b j := nrfl rfl
theorem hr_sr : mh_r (mh_sr h a k r) b j = if b = a ∧ j = k then r else mh_r h b j := nrfl rfl
theorem mg_si {o ci : Nat} : mg (mh_si h a k v) o ci = mg h o ci := nrfl rfl
theorem mg_sj {o ci : Nat} : mg (mh_sj h a k w) o ci = mg h o ci := nrfl rfl
theorem mg_sr {o ci : Nat} : mg (mh_sr h a k r) o ci = mg h o ci := nrfl rfl
end MHR
theorem va_rf_s {a : Nat} : va_rf (some a) = .ref a := nrfl rfl
theorem va_rf_n : va_rf none = .null := nrfl rfl
theorem lgc_eq {x w : Int64} : (lg_cmp x w = 0) = (x = w) := by
  unfold lg_cmp
  by_cases e : x = w
  · subst e; simp
  · split <;> simp_all
theorem lgc_lt {x w : Int64} : (lg_cmp x w < 0) = (x < w) := by
  unfold lg_cmp
  apply propext
  split
  · next q => constructor
              · intro z; exact absurd z (by decide)
              · intro z; rw [Int64.lt_iff_toInt_lt] at z; have q := Int64.lt_iff_toInt_lt.mp q; omega
  · split
    · next q1 q2 => subst q2; constructor
                    · intro z; exact absurd z (by decide)
                    · intro z; exact absurd z q1
    · next q1 q2 => constructor
                    · intro _
                      rw [Int64.lt_iff_toInt_lt]
                      have : ¬ w.toInt < x.toInt := fun z => q1 (Int64.lt_iff_toInt_lt.mpr z)
                      have : ¬ x.toInt = w.toInt := fun z => q2 (Int64.toInt_inj.mp z)
                      omega
                    · intro _; decide
theorem lgc_gt {x w : Int64} : (0 < lg_cmp x w) = (w < x) := by
  unfold lg_cmp
  apply propext
  split
  · next q => exact ⟨fun _ => q, fun _ => by decide⟩
  · split
    · next q1 q2 => exact ⟨fun z => absurd z (by decide), fun z => absurd z q1⟩
    · next q1 q2 => exact ⟨fun z => absurd z (by decide), fun z => absurd z q1⟩
theorem lgc_ge {x w : Int64} : (0 ≤ lg_cmp x w) = (w ≤ x) := by
  have e : (0 ≤ lg_cmp x w) = ¬ (lg_cmp x w < 0) := by rw [Int32.not_lt]
  rw [e, lgc_lt, Int64.not_lt]
theorem lgc_le {x w : Int64} : (lg_cmp x w ≤ 0) = (x ≤ w) := by
  have e : (lg_cmp x w ≤ 0) = ¬ (0 < lg_cmp x w) := by rw [Int32.not_lt]
  rw [e, lgc_gt, Int64.not_lt]
section MHC
variable {h : mh_H} {o sp d dp n b j : Nat}
theorem hk_cp : mh_k (mh_cp h o sp d dp n) = mh_k h := nrfl rfl
theorem hl_cp : mh_l (mh_cp h o sp d dp n) = mh_l h := nrfl rfl
theorem hn_cp : mh_n (mh_cp h o sp d dp n) = mh_n h := nrfl rfl
theorem hs_cp : mh_s (mh_cp h o sp d dp n) = mh_s h := nrfl rfl
theorem hr_cp : mh_r (mh_cp h o sp d dp n) = mh_r h := nrfl rfl
theorem hi_cp : mh_i (mh_cp h o sp d dp n) b j = if b = d ∧ dp ≤ j ∧ j < dp + n then mh_i h o (sp + (j - dp)) else mh_i h b j := nrfl rfl
theorem hj_cp : mh_j (mh_cp h o sp d dp n) b j = if b = d ∧ dp ≤ j ∧ j < dp + n then mh_j h o (sp + (j - dp)) else mh_j h b j := nrfl rfl
theorem mg_cp {x ci : Nat} : mg (mh_cp h o sp d dp n) x ci = mg h x ci := nrfl rfl
theorem mh_cp_0 : mh_cp h o sp d dp 0 = h := by
  unfold mh_cp
  have e1 : (fun (b j : Nat) => if b = d ∧ dp ≤ j ∧ j < dp + 0 then mh_i h o (sp + (j - dp)) else mh_i h b j) = mh_i h := by
    funext b j; exact if_neg (by omega)
  have e2 : (fun (b j : Nat) => if b = d ∧ dp ≤ j ∧ j < dp + 0 then mh_j h o (sp + (j - dp)) else mh_j h b j) = mh_j h := by
    funext b j; exact if_neg (by omega)
  rw [e1, e2]; rfl
theorem cpok_eq {sp dp n : Int32} : (me_cpok h o d sp dp n = true) = ((o < mh_n h ∧ d < mh_n h ∧ mh_k h o = mh_k h d ∧ 100 ≤ mh_k h d ∧ mh_k h d < 104) ∧ (0 ≤ sp ∧ 0 ≤ dp ∧ 0 ≤ n ∧ sp.toNatClampNeg + n.toNatClampNeg ≤ mh_l h o ∧ dp.toNatClampNeg + n.toNatClampNeg ≤ mh_l h d) ∧ me_bf h o = true) := by
  unfold me_cpok
  simp only [Bool.and_eq_true, decide_eq_true_eq]
theorem bf_eq (hk : mh_k h o < 102) : me_bf h o = true := by unfold me_bf; simp [hk]
end MHC
theorem le_nlt {a b : Int32} : (a ≤ b) = ¬ (b < a) := by rw [Int32.not_lt]
theorem le_nlt64 {a b : Int64} : (a ≤ b) = ¬ (b < a) := by rw [Int64.not_lt]
theorem mB_not {c : Prop} {K : Nat → me_L → List Value → mh_H → Prop} {t n : Nat} {ls : me_L} {st : List Value} {h : mh_H} : mB (¬ c) K t n ls st h = mB c K n t ls st h := by
  unfold mB; apply propext; constructor
  · rintro ⟨k1, k2⟩; exact ⟨fun q => k2 (fun z => z q), k1⟩
  · rintro ⟨k1, k2⟩; exact ⟨k2, fun q => k1 (Classical.not_not.mp q)⟩
section MHN
variable {h : mh_H} {kd len b j : Nat}
theorem hk_new : mh_k (mh_new h kd len) b = if b = mh_n h then kd else mh_k h b := nrfl rfl
theorem hl_new : mh_l (mh_new h kd len) b = if b = mh_n h then len else mh_l h b := nrfl rfl
theorem hi_new : mh_i (mh_new h kd len) b j = if b = mh_n h then 0 else mh_i h b j := by
  show mh_w (mh_i h) (mh_n h) (fun _ => 0) b j = _
  unfold mh_w; split <;> rfl
theorem hj_new : mh_j (mh_new h kd len) b j = if b = mh_n h then 0 else mh_j h b j := by
  show mh_w (mh_j h) (mh_n h) (fun _ => 0) b j = _
  unfold mh_w; split <;> rfl
theorem hr_nw : mh_r (mh_new h kd len) b j = if b = mh_n h then none else mh_r h b j := by
  show mh_w (mh_r h) (mh_n h) (fun _ => none) b j = _
  unfold mh_w; split <;> rfl
theorem hn_new : mh_n (mh_new h kd len) = mh_n h + 1 := nrfl rfl
theorem hs_new : mh_s (mh_new h kd len) = mh_s h + len := nrfl rfl
theorem mg_new {ci : Nat} : mg (mh_new h kd len) b ci = if b = mh_n h then kd = ci else mg h b ci := by
  unfold mg
  rw [hk_new, hn_new]
  by_cases e : b = mh_n h
  · simp [e]
  · rw [if_neg e, if_neg e]
    apply propext
    constructor
    · rintro ⟨q1, q2⟩; exact ⟨q1, by omega⟩
    · rintro ⟨q1, q2⟩; exact ⟨q1, by omega⟩
end MHN
/-! rows of bytes and booleans hold bytes and booleans: kept by every run -/
def mbt (kd : Nat) : FieldType := if kd = 102 then .byte else .boolean
def mbf (h : mh_H) : Prop := ∀ o, o < mh_n h → (mh_k h o = 102 ∨ mh_k h o = 103) → ∀ i, fits (mbt (mh_k h o)) (.int (mh_i h o i)) = true
theorem mbf_bf {h : mh_H} {o : Nat} (hb : mbf h) (ho : o < mh_n h) (hk : mh_k h o < 104) : me_bf h o = true := by
  unfold me_bf
  by_cases e : mh_k h o < 102
  · simp [e]
  · rw [Bool.or_eq_true]
    right
    rw [List.all_eq_true]
    intro i _
    exact hb o ho (by omega) i
theorem mbf_0 {kd : Nat} : fits (mbt kd) (.int 0) = true := by unfold mbt; split <;> rfl
theorem mbf_nb {x : Int32} : fits .byte (.int (vp_nar .byte x)) = true := by
  have e : vp_nar .byte x = x.toInt8.toInt32 := rfl
  rw [e]
  show (decide (-128 ≤ x.toInt8.toInt32) && decide (x.toInt8.toInt32 ≤ 127)) = true
  have h1 := Int8.le_toInt x.toInt8
  have h2 := Int8.toInt_lt x.toInt8
  rw [Bool.and_eq_true, decide_eq_true_eq, decide_eq_true_eq, Int32.le_iff_toInt_le, Int32.le_iff_toInt_le, Int8.toInt_toInt32]
  have e1 : ((-128 : Int32)).toInt = -128 := rfl
  have e2 : ((127 : Int32)).toInt = 127 := rfl
  rw [e1, e2]
  constructor <;> omega
theorem mbf_nz {x : Int32} : fits .boolean (.int (vp_nar .boolean x)) = true := by
  have e : vp_nar .boolean x = x &&& 1 := rfl
  rw [e]
  show ((x &&& 1 == 0) || (x &&& 1 == 1)) = true
  rw [Bool.or_eq_true, beq_iff_eq, beq_iff_eq]
  have : ∀ b : BitVec 32, b &&& 1 = 0 ∨ b &&& 1 = 1 := by
    intro b
    have e : (b &&& 1).toNat = b.toNat % 2 := by rw [BitVec.toNat_and]; exact Nat.and_one_is_mod _
    rcases Nat.mod_two_eq_zero_or_one b.toNat with q | q
    · left; exact BitVec.eq_of_toNat_eq (by rw [e, q]; rfl)
    · right; exact BitVec.eq_of_toNat_eq (by rw [e, q]; rfl)
  rcases this x.toBitVec with q | q
  · left; exact Int32.toBitVec_inj.mp q
  · right; exact Int32.toBitVec_inj.mp q
def mbo (h : mh_H) (r : Option me_R) : Prop := ∀ (pc' : Nat) (ls' : me_L) (st' : List Value) (h' : mh_H), r = some (.inl (pc', ls', st', h')) → mbf h → mbf h'
section MBO
variable {h : mh_H} {pc : Nat} {ls : me_L} {st : List Value}
theorem mbo_none : mbo h none := fun _ _ _ _ e => by cases e
theorem mbo_go {h2 : mh_H} (k : mbf h → mbf h2) : mbo h (me_go pc ls st h2) := fun _ _ _ _ e => by cases e; exact k
theorem mbo_same : mbo h (me_go pc ls st h) := mbo_go id
theorem mbo_1 {r : Option me_R} {b : Bool} (k : b = true → mbo h r) : mbo h (me_1 r b) := fun p l s h' e => by
  cases b with
  | true => exact k rfl p l s h' e
  | false => cases e
theorem mbo_jp {off : Int} : mbo h (me_jp pc off ls st h) := by
  unfold me_jp
  split
  · exact mbo_same
  · exact mbo_none
theorem mbo_br {b : Bool} {off : Int} : mbo h (me_br b pc off ls st h) := by
  cases b with
  | true => exact mbo_jp
  | false => exact mbo_1 fun _ => mbo_same
theorem mbo_pv {r : Option Value} : mbo h (me_pv r pc ls st h) := by
  cases r with
  | none => exact mbo_none
  | some x => exact mbo_same
theorem mbo_pi {r : Option Int32} : mbo h (me_pi r pc ls st h) := by
  cases r with
  | none => exact mbo_none
  | some x => exact mbo_same
theorem mbo_pl {r : Option Int64} : mbo h (me_pl r pc ls st h) := by
  cases r with
  | none => exact mbo_none
  | some x => exact mbo_same
theorem mbo_sw {r : Option Int} : mbo h (me_sw r pc ls st h) := by
  cases r with
  | none => exact mbo_none
  | some x => exact mbo_jp
theorem mbo_ret {r : Option Value} : mbo h (some (.inr (.inr r))) := fun _ _ _ _ e => by cases e
theorem mbo_cl {y n : Nat} : mbo h (me_cl y n st) := mbo_1 fun _ _ _ _ _ e => by cases e
/-- writes of ints elsewhere -/
theorem mbf_si {o k : Nat} {v : Int32} (hk : ¬ (mh_k h o = 102 ∨ mh_k h o = 103)) (hb : mbf h) : mbf (mh_si h o k v) := by
  intro p hp hkp i
  have ne : ¬ (p = o ∧ i = k) := fun z => hk (by rw [← z.1]; exact hkp)
  show fits (mbt (mh_k h p)) (.int (if p = o ∧ i = k then v else mh_i h p i)) = true
  rw [if_neg ne]
  exact hb p hp hkp i
theorem mbf_sb {o k : Nat} {v : Int32} (hv : fits (mbt (mh_k h o)) (.int v) = true) (hb : mbf h) : mbf (mh_si h o k v) := by
  intro p hp hkp i
  show fits (mbt (mh_k h p)) (.int (if p = o ∧ i = k then v else mh_i h p i)) = true
  split
  · next z => rw [z.1]; exact hv
  · exact hb p hp hkp i
theorem mbf_sj {o k : Nat} {v : Int64} (hb : mbf h) : mbf (mh_sj h o k v) := hb
theorem mbf_sr {o k : Nat} {v : Option Nat} (hb : mbf h) : mbf (mh_sr h o k v) := hb
theorem mbf_new {kd len : Nat} (hb : mbf h) : mbf (mh_new h kd len) := by
  intro p hp hkp i
  have hp' : p < mh_n h + 1 := hp
  by_cases e : p = mh_n h
  · have e1 : mh_i (mh_new h kd len) p i = 0 := by
      show mh_w (mh_i h) (mh_n h) (fun _ => 0) p i = 0
      unfold mh_w; rw [if_pos e]
    rw [e1]; exact mbf_0
  · have e1 : mh_i (mh_new h kd len) p i = mh_i h p i := by
      show mh_w (mh_i h) (mh_n h) (fun _ => 0) p i = _
      unfold mh_w; rw [if_neg e]
    have e2 : mh_k (mh_new h kd len) p = mh_k h p := by
      show mh_w (mh_k h) (mh_n h) kd p = _
      unfold mh_w; rw [if_neg e]
    rw [e2] at hkp
    rw [e1, e2]
    exact hb p (by omega) hkp i
theorem mbf_cl {o : Nat} (ho : o < mh_n h) (hb : mbf h) : mbf (mh_cl h o) := by
  intro p hp hkp i
  have hp' : p < mh_n h + 1 := hp
  by_cases e : p = mh_n h
  · have e1 : mh_i (mh_cl h o) p i = mh_i h o i := by
      show mh_w (mh_i h) (mh_n h) (mh_i h o) p i = _
      unfold mh_w; rw [if_pos e]
    have e2 : mh_k (mh_cl h o) p = mh_k h o := by
      show mh_w (mh_k h) (mh_n h) (mh_k h o) p = _
      unfold mh_w; rw [if_pos e]
    rw [e2] at hkp
    rw [e1, e2]
    exact hb o ho hkp i
  · have e1 : mh_i (mh_cl h o) p i = mh_i h p i := by
      show mh_w (mh_i h) (mh_n h) (mh_i h o) p i = _
      unfold mh_w; rw [if_neg e]
    have e2 : mh_k (mh_cl h o) p = mh_k h p := by
      show mh_w (mh_k h) (mh_n h) (mh_k h o) p = _
      unfold mh_w; rw [if_neg e]
    rw [e2] at hkp
    rw [e1, e2]
    exact hb p (by omega) hkp i
theorem mbf_cp {o sp d dp n : Nat} (ho : o < mh_n h) (hk : mh_k h o = mh_k h d) (hb : mbf h) : mbf (mh_cp h o sp d dp n) := by
  intro p hp hkp i
  show fits (mbt (mh_k h p)) (.int (if p = d ∧ dp ≤ i ∧ i < dp + n then mh_i h o (sp + (i - dp)) else mh_i h p i)) = true
  have hkp' : mh_k h p = 102 ∨ mh_k h p = 103 := hkp
  split
  · next z => rw [z.1, ← hk]; exact hb o ho (by rw [hk, ← z.1]; exact hkp') _
  · exact hb p hp hkp' i
theorem mbo_ph {o ci k : Nat} {x : Value} (hk : mh_k h o = ci) (hc : ci < 100) : mbo h (me_ph (me_wr h o ci k x) pc ls st) := by
  unfold me_wr
  split
  · split
    · exact mbo_go (mbf_si (by omega))
    · exact mbo_none
  · split
    · exact mbo_go mbf_sj
    · exact mbo_none
  · split
    · exact mbo_go mbf_sr
    · exact mbo_none
  · split
    · exact mbo_go mbf_sr
    · exact mbo_none
  · exact mbo_none
theorem mbo_obk {o a b : Nat} (e : me_ob h o a b = true) : mh_k h o = a ∧ a < 100 := by
  unfold me_ob at e
  simp only [Bool.and_eq_true, decide_eq_true_eq] at e
  exact ⟨e.2.1, e.2.2.1⟩
end MBO
theorem mm_ins_mbo (ins : Instr) (a b : Nat) (v : Int) (pc : Nat) (ls : me_L) (st : List Value) (h : mh_H) : mbo h (mm_ins ins a b v pc ls st h) := by
  cases ins <;> unfold mm_ins <;> dsimp only <;>
    first
    | exact mbo_none
    | exact mbo_same
    | exact mbo_pv
    | exact mbo_jp
    | exact mbo_1 fun _ => mbo_same
    | exact mbo_1 fun _ => mbo_go mbf_new
    | exact mbo_1 fun _ => mbo_cl
    | (split <;> first
        | exact mbo_none
        | exact mbo_same
        | exact mbo_1 fun _ => mbo_same
        | exact mbo_1 fun _ => mbo_go mbf_new
        | exact mbo_1 fun _ => mbo_ret
        | exact mbo_ret
        | exact mbo_1 fun _ => mbo_jp
        | exact mbo_jp
        | exact mbo_br
        | exact mbo_pi
        | exact mbo_pl
        | exact mbo_1 fun e => mbo_ph (mbo_obk e).1 (mbo_obk e).2
        | exact mbo_1 fun _ => mbo_cl
        | exact mbo_cl
        | exact mbo_1 fun _ => mbo_go mbf_sj
        | exact mbo_1 fun _ => mbo_go mbf_sr
        | (refine mbo_1 fun e => mbo_go (mbf_si ?_)
           simp only [Bool.and_eq_true, decide_eq_true_eq] at e
           omega)
        | (split <;> first
            | exact mbo_none
            | exact mbo_jp
            | exact mbo_sw
            | exact mbo_same
            | exact mbo_1 fun _ => mbo_same
            | (refine mbo_1 fun e => mbo_go (mbf_cl ?_)
               simp only [Bool.and_eq_true, decide_eq_true_eq] at e
               exact e.1)
            | (refine mbo_1 fun e => mbo_go (mbf_cp ?_ ?_) <;>
               (simp only [me_cpok, Bool.and_eq_true, decide_eq_true_eq] at e
                first | exact e.1.1.1 | exact e.1.1.2.2.1))
            | (refine mbo_1 fun e => mbo_go (mbf_sb ?_)
               rename_i hq
               simp only [decide_eq_true_eq] at hq
               unfold mbt
               rw [if_pos hq]
               exact mbf_nb)
            | (refine mbo_1 fun e => mbo_go (mbf_sb ?_)
               rename_i hq
               simp only [decide_eq_false_iff_not] at hq
               unfold mbt
               rw [if_neg hq]
               exact mbf_nz)))
theorem mm_mbf (P : me_P) (nl : Nat → Nat) : ∀ (n d y pc : Nat) (ls : me_L) (st : List Value) (h : mh_H) (r : Option Value) (h' : mh_H), mm_run P nl n d y pc ls st h = some (r, h') → mbf h → mbf h' := by
  intro n
  induction n with
  | zero => intro d y pc ls st h r h' e; cases e
  | succ n ih =>
    intro d y pc ls st h r h' e hb
    unfold mm_run at e
    split at e
    next pc1 ls1 st1 h1 hst =>
      unfold mm_step at hst
      split at hst
      next ins len a b v hP => exact ih _ _ _ _ _ _ _ _ e (mm_ins_mbo ins a b v pc ls st h _ _ _ _ hst hb)
      next => cases hst
    next r1 hst => cases e; exact hb
    next y' args rest hst =>
      split at e
      next d1 hdec =>
        split at e
        next r2 h2 hr => exact ih _ _ _ _ _ _ _ _ e (ih _ _ _ _ _ _ _ _ hr hb)
        next => cases e
      next => cases e
    next => cases e
/-- what a run gives, and that rows of bytes still hold bytes -/
theorem mw_mbf {d y pc : Nat} {Q : Option Value → mh_H → Prop} {ls : me_L} {st : List Value} {h : mh_H} (hb : mbf h) (k : mw d y Q pc ls st h) : mw d y (fun r h' => Q r h' ∧ mbf h') pc ls st h := by
  obtain ⟨n, r, h', e, q⟩ := k
  exact ⟨n, r, h', e, q, mm_mbf _ _ _ _ _ _ _ _ _ _ _ e hb⟩
theorem mq_mbf {y : Nat} : ∀ (k n d pc : Nat) (ls : me_L) (st : List Value) (h : mh_H) (pc' : Nat) (ls' : me_L) (st' : List Value) (h' : mh_H), mq_pre y k n d pc ls st h = some (pc', ls', st', h') → mbf h → mbf h' := by
  intro k
  induction k with
  | zero => intro n d pc ls st h pc' ls' st' h' e hb; cases e; exact hb
  | succ k ih =>
    intro n d pc ls st h pc' ls' st' h' e hb
    unfold mq_pre at e
    split at e
    next pc1 ls1 st1 h1 hs =>
      unfold mm_step at hs
      split at hs
      next ins len a b v hP => exact ih _ _ _ _ _ _ _ _ _ _ e (mm_ins_mbo ins a b v pc ls st h _ _ _ _ hs hb)
      next => cases hs
    next y' as rest hs =>
      split at e
      next d1 hdec =>
        split at e
        next r2 h2 hr => exact ih _ _ _ _ _ _ _ _ _ _ e (mm_mbf _ _ _ _ _ _ _ _ _ _ _ hr hb)
        next => cases e
      next => cases e
    next => cases e
theorem mn_mbf : ∀ (k n d pc : Nat) (ls : me_L) (st : List Value) (h : mh_H) (pc' : Nat) (ls' : me_L) (st' : List Value) (h' : mh_H), mn_pre k n d pc ls st h = some (pc', ls', st', h') → mbf h → mbf h' := by
  intro k
  induction k with
  | zero => intro n d pc ls st h pc' ls' st' h' e hb; cases e; exact hb
  | succ k ih =>
    intro n d pc ls st h pc' ls' st' h' e hb
    unfold mn_pre at e
    split at e
    next ins len a b v hP =>
      split at e
      next hz =>
        split at e
        next pc1 ls1 st1 h1 hs => exact ih _ _ _ _ _ _ _ _ _ _ e (mm_ins_mbo ins a b v pc ls st h _ _ _ _ hs hb)
        next y' as rest hs =>
          split at e
          next d1 hdec =>
            split at e
            next r2 h2 hr => exact ih _ _ _ _ _ _ _ _ _ _ e (mm_mbf _ _ _ _ _ _ _ _ _ _ _ hr hb)
            next => cases e
          next => cases e
        next => cases e
      next => cases e
    next => cases e
theorem mbf_mh0 : mbf mh_0 := fun o ho => absurd ho (Nat.not_lt_zero o)
theorem mbf_kn {h : mh_H} (hb : mbf h) : mbf (kn_new h) := mbf_sr (mbf_new (mbf_sr (mbf_new (mbf_sr (mbf_new (mbf_sr (mbf_new (mbf_new hb))))))))
theorem mbf_lp {A B : Nat} : ∀ (m p : Nat) (h : mh_H), mbf h → mbf (lp A B m p h) := by
  intro m
  induction m with
  | zero => intro p h hb; exact hb
  | succ m ih => intro p h hb; exact ih (p + 1) _ (mbf_sr (mbf_kn (mbf_sr (mbf_kn hb))))
theorem mp_mbf : mbf mp_hE := by
  have a : mbf mp_hA := mn_mbf _ _ _ _ _ _ _ _ _ _ _ (mq_eq mp_cA) mbf_mh0
  have b : mbf mp_hB := mq_mbf _ _ _ _ _ _ _ _ _ _ _ (mq_eq mp_cB) a
  have c : mbf mp_hC := mq_mbf _ _ _ _ _ _ _ _ _ _ _ (mq_eq mp_cC) b
  have e : mbf mp_hD := mbf_lp 250 0 mp_hC c
  exact mq_mbf _ _ _ _ _ _ _ _ _ _ _ (mq_eq mp_cE) e
/-! the same for the law's own frame -/
def lK (L : Nat) (xs : Nat → Int32) (d : Nat) (Q : Option Value → mh_H → Prop) (pc : Nat) (ls : me_L) (st : List Value) (r : Option Value) (h : mh_H) : Prop := lw L xs d Q pc ls (r.toList ++ st) h
def lC (L : Nat) (xs : Nat → Int32) (d : Nat) (Q : Option Value → mh_H → Prop) (pc : Nat) (ls : me_L) (h : mh_H) (y' : Nat) (as rest : List Value) : Prop := match d with
  | 0 => False
  | d' + 1 => (as.map fun v => v.category).sum ≤ mc_nl y' ∧ mcall d' y' as h (lK L xs (d' + 1) Q (pc + 3) ls rest)
section LZ
variable {L : Nat} {xs : Nat → Int32} {d pc l a b : Nat} {v : Int} {ins : Instr} {Q : Option Value → mh_H → Prop} {ls : me_L} {st : List Value} {h : mh_H}
theorem lw_unf : lw L xs d Q pc ls st h = mz (ml_step L xs pc ls st h) (lw L xs d Q) (lC L xs d Q pc ls h) (fun r => Q r h) := by
  apply propext
  cases hs : ml_step L xs pc ls st h with
  | none =>
    constructor
    · rintro ⟨n, r, h', e, q⟩
      cases n with
      | zero => cases e
      | succ n => unfold ml_run at e; rw [hs] at e; cases e
    · intro k; cases k
  | some e =>
    match e, hs with
    | .inl (pc', ls', st', h'), hs =>
      constructor
      · rintro ⟨n, r, h2, e, q⟩
        cases n with
        | zero => cases e
        | succ n => unfold ml_run at e; rw [hs] at e; exact ⟨n, r, h2, e, q⟩
      · intro k; exact lw_st hs k
    | .inr (.inr r), hs =>
      constructor
      · rintro ⟨n, r1, h2, e, q⟩
        cases n with
        | zero => cases e
        | succ n =>
          unfold ml_run at e; rw [hs] at e
          cases e
          exact q
      · intro k; exact lw_rt hs k
    | .inr (.inl (y', as, rest)), hs =>
      constructor
      · rintro ⟨n, r1, h2, e, q⟩
        cases n with
        | zero => cases e
        | succ n =>
          unfold ml_run at e; rw [hs] at e
          dsimp only at e
          cases d with
          | zero => cases e
          | succ d =>
            by_cases hc : (as.map fun v => v.category).sum ≤ mc_nl y'
            · rw [show decide ((as.map fun v => v.category).sum ≤ mc_nl y') = true from decide_eq_true hc] at e
              dsimp only at e
              split at e
              next r3 h3 e3 => exact ⟨hc, n, r3, h3, e3, n, r1, h2, e, q⟩
              next => cases e
            · rw [show decide ((as.map fun v => v.category).sum ≤ mc_nl y') = false from decide_eq_false hc] at e
              cases e
      · cases d with
        | zero => intro k; cases k
        | succ d => rintro ⟨hc, k⟩; exact lw_cl hs hc k (fun r h' z => z)
theorem lw_at (hP : mc_P ml_y pc = some (ins, l, a, b, v)) (hz : ml_nz ins = true) : lw L xs d Q pc ls st h = mz (mm_ins ins a b v pc ls st h) (lw L xs d Q) (lC L xs d Q pc ls h) (fun r => Q r h) := by
  rw [lw_unf, ml_at hP hz]
theorem lw_scr {i : Int32} (hP : mc_P ml_y pc = some (.iaload, l, a, b, v)) : lw L xs d Q pc ls (.int i :: .retAddr 8 :: st) h = (mx i L ∧ lw L xs d Q (pc + 1) ls (.int (xs i.toNatClampNeg) :: st) h) := by
  rw [lw_unf]
  unfold ml_step
  rw [hP]
  refine (mz_1 (e := me_go (pc + 1) ls (.int (xs i.toNatClampNeg) :: st) h)).trans ?_
  simp [mx, mz_go]
theorem lw_len (hP : mc_P ml_y pc = some (.arraylength, l, a, b, v)) : lw L xs d Q pc ls (.retAddr 8 :: st) h = lw L xs d Q (pc + 1) ls (.int (Int32.ofNat L) :: st) h := by
  rw [lw_unf]
  unfold ml_step
  rw [hP]
  refine (mz_1 (e := me_go (pc + 1) ls (.int (Int32.ofNat L) :: st) h)).trans ?_
  simp [mz_go]
theorem lC_nl {y' n : Nat} {as rest : List Value} (hn : mc_nl y' = n) : lC L xs (d + 1) Q pc ls h y' as rest = (mca as n ∧ mcall d y' as h (lK L xs (d + 1) Q (pc + 3) ls rest)) := by subst hn; rfl
theorem lK_some {w : Value} : lK L xs d Q pc ls st (some w) h = lw L xs d Q pc ls (w :: st) h := nrfl rfl
theorem lK_none : lK L xs d Q pc ls st none h = lw L xs d Q pc ls st h := nrfl rfl
end LZ
theorem nl_0 : mc_nl 0 = 3 := by decide +kernel
theorem nl_1 : mc_nl 1 = 4 := by decide +kernel
theorem nl_2 : mc_nl 2 = 3 := by decide +kernel
theorem nl_3 : mc_nl 3 = 3 := by decide +kernel
theorem nl_4 : mc_nl 4 = 4 := by decide +kernel
theorem nl_5 : mc_nl 5 = 4 := by decide +kernel
theorem nl_6 : mc_nl 6 = 4 := by decide +kernel
theorem nl_7 : mc_nl 7 = 3 := by decide +kernel
theorem nl_8 : mc_nl 8 = 3 := by decide +kernel
theorem nl_9 : mc_nl 9 = 2 := by decide +kernel
theorem nl_10 : mc_nl 10 = 2 := by decide +kernel
theorem nl_11 : mc_nl 11 = 2 := by decide +kernel
theorem nl_12 : mc_nl 12 = 2 := by decide +kernel
theorem nl_13 : mc_nl 13 = 5 := by decide +kernel
theorem nl_14 : mc_nl 14 = 3 := by decide +kernel
theorem nl_15 : mc_nl 15 = 9 := by decide +kernel
theorem nl_16 : mc_nl 16 = 9 := by decide +kernel
theorem nl_17 : mc_nl 17 = 7 := by decide +kernel
theorem nl_18 : mc_nl 18 = 2 := by decide +kernel
theorem nl_19 : mc_nl 19 = 3 := by decide +kernel
theorem nl_20 : mc_nl 20 = 2 := by decide +kernel
theorem nl_21 : mc_nl 21 = 3 := by decide +kernel
theorem nl_22 : mc_nl 22 = 1 := by decide +kernel
theorem nl_23 : mc_nl 23 = 5 := by decide +kernel
theorem nl_24 : mc_nl 24 = 11 := by decide +kernel
theorem nl_25 : mc_nl 25 = 2 := by decide +kernel
theorem nl_26 : mc_nl 26 = 2 := by decide +kernel
theorem nl_27 : mc_nl 27 = 1 := by decide +kernel
theorem nl_28 : mc_nl 28 = 6 := by decide +kernel
theorem nl_29 : mc_nl 29 = 4 := by decide +kernel
theorem nl_30 : mc_nl 30 = 5 := by decide +kernel
theorem nl_31 : mc_nl 31 = 2 := by decide +kernel
theorem nl_32 : mc_nl 32 = 3 := by decide +kernel
theorem nl_33 : mc_nl 33 = 4 := by decide +kernel
theorem nl_34 : mc_nl 34 = 4 := by decide +kernel
theorem nl_35 : mc_nl 35 = 8 := by decide +kernel
theorem nl_36 : mc_nl 36 = 3 := by decide +kernel
theorem nl_37 : mc_nl 37 = 6 := by decide +kernel
theorem nl_38 : mc_nl 38 = 2 := by decide +kernel
theorem nl_39 : mc_nl 39 = 3 := by decide +kernel
theorem nl_40 : mc_nl 40 = 4 := by decide +kernel
theorem nl_41 : mc_nl 41 = 4 := by decide +kernel
theorem nl_42 : mc_nl 42 = 6 := by decide +kernel
theorem nl_43 : mc_nl 43 = 3 := by decide +kernel
theorem nl_44 : mc_nl 44 = 4 := by decide +kernel
theorem nl_45 : mc_nl 45 = 2 := by decide +kernel
theorem nl_46 : mc_nl 46 = 3 := by decide +kernel
theorem nl_47 : mc_nl 47 = 1 := by decide +kernel
theorem nl_48 : mc_nl 48 = 2 := by decide +kernel
theorem nl_49 : mc_nl 49 = 1 := by decide +kernel
theorem nl_50 : mc_nl 50 = 1 := by decide +kernel
theorem nl_51 : mc_nl 51 = 2 := by decide +kernel
theorem nl_52 : mc_nl 52 = 1 := by decide +kernel
theorem nl_53 : mc_nl 53 = 3 := by decide +kernel
theorem nl_54 : mc_nl 54 = 3 := by decide +kernel
theorem nl_55 : mc_nl 55 = 2 := by decide +kernel
theorem nl_56 : mc_nl 56 = 3 := by decide +kernel
theorem nl_57 : mc_nl 57 = 2 := by decide +kernel
theorem nl_58 : mc_nl 58 = 1 := by decide +kernel
theorem nl_59 : mc_nl 59 = 3 := by decide +kernel
theorem nl_60 : mc_nl 60 = 1 := by decide +kernel
theorem nl_61 : mc_nl 61 = 3 := by decide +kernel
theorem nl_62 : mc_nl 62 = 1 := by decide +kernel
theorem nl_63 : mc_nl 63 = 2 := by decide +kernel
theorem nl_64 : mc_nl 64 = 2 := by decide +kernel
theorem nl_65 : mc_nl 65 = 2 := by decide +kernel
theorem nl_66 : mc_nl 66 = 4 := by decide +kernel
theorem nl_67 : mc_nl 67 = 2 := by decide +kernel
theorem nl_68 : mc_nl 68 = 1 := by decide +kernel
theorem nl_69 : mc_nl 69 = 3 := by decide +kernel
theorem nl_70 : mc_nl 70 = 3 := by decide +kernel
theorem nl_71 : mc_nl 71 = 2 := by decide +kernel
theorem nl_72 : mc_nl 72 = 3 := by decide +kernel
theorem nl_73 : mc_nl 73 = 7 := by decide +kernel
theorem nl_74 : mc_nl 74 = 4 := by decide +kernel
theorem nl_75 : mc_nl 75 = 3 := by decide +kernel
theorem nl_76 : mc_nl 76 = 1 := by decide +kernel
theorem nl_77 : mc_nl 77 = 3 := by decide +kernel
theorem nl_78 : mc_nl 78 = 1 := by decide +kernel
theorem nl_79 : mc_nl 79 = 1 := by decide +kernel
theorem nl_80 : mc_nl 80 = 2 := by decide +kernel
theorem nl_81 : mc_nl 81 = 2 := by decide +kernel
theorem nl_82 : mc_nl 82 = 3 := by decide +kernel
theorem nl_83 : mc_nl 83 = 3 := by decide +kernel
theorem nl_84 : mc_nl 84 = 4 := by decide +kernel
theorem nl_85 : mc_nl 85 = 7 := by decide +kernel
theorem nl_86 : mc_nl 86 = 3 := by decide +kernel
theorem nl_87 : mc_nl 87 = 4 := by decide +kernel
theorem nl_88 : mc_nl 88 = 4 := by decide +kernel
theorem nl_89 : mc_nl 89 = 3 := by decide +kernel
theorem nl_90 : mc_nl 90 = 5 := by decide +kernel
theorem nl_91 : mc_nl 91 = 6 := by decide +kernel
theorem nl_92 : mc_nl 92 = 1 := by decide +kernel
theorem nl_93 : mc_nl 93 = 4 := by decide +kernel
theorem nl_94 : mc_nl 94 = 4 := by decide +kernel
theorem nl_95 : mc_nl 95 = 2 := by decide +kernel
theorem nl_96 : mc_nl 96 = 1 := by decide +kernel
theorem nl_97 : mc_nl 97 = 4 := by decide +kernel
theorem nl_98 : mc_nl 98 = 2 := by decide +kernel
theorem nl_99 : mc_nl 99 = 5 := by decide +kernel
theorem nl_100 : mc_nl 100 = 2 := by decide +kernel
theorem nl_101 : mc_nl 101 = 6 := by decide +kernel
theorem nl_102 : mc_nl 102 = 6 := by decide +kernel
theorem nl_103 : mc_nl 103 = 2 := by decide +kernel
theorem nl_104 : mc_nl 104 = 2 := by decide +kernel
theorem nl_105 : mc_nl 105 = 4 := by decide +kernel
theorem nl_106 : mc_nl 106 = 5 := by decide +kernel
theorem nl_107 : mc_nl 107 = 10 := by decide +kernel
theorem nl_108 : mc_nl 108 = 1 := by decide +kernel
theorem nl_109 : mc_nl 109 = 18 := by decide +kernel
theorem nl_110 : mc_nl 110 = 10 := by decide +kernel
theorem nl_111 : mc_nl 111 = 4 := by decide +kernel
theorem nl_112 : mc_nl 112 = 2 := by decide +kernel
theorem nl_113 : mc_nl 113 = 7 := by decide +kernel
theorem nl_114 : mc_nl 114 = 2 := by decide +kernel
theorem nl_115 : mc_nl 115 = 8 := by decide +kernel
theorem nl_116 : mc_nl 116 = 3 := by decide +kernel
theorem nl_117 : mc_nl 117 = 1 := by decide +kernel
theorem nl_118 : mc_nl 118 = 2 := by decide +kernel
theorem nl_119 : mc_nl 119 = 3 := by decide +kernel
theorem nl_120 : mc_nl 120 = 2 := by decide +kernel
theorem nl_121 : mc_nl 121 = 3 := by decide +kernel
theorem nl_122 : mc_nl 122 = 2 := by decide +kernel
theorem nl_123 : mc_nl 123 = 2 := by decide +kernel
theorem nl_124 : mc_nl 124 = 2 := by decide +kernel
theorem nl_125 : mc_nl 125 = 2 := by decide +kernel
theorem nl_126 : mc_nl 126 = 4 := by decide +kernel
theorem nl_127 : mc_nl 127 = 3 := by decide +kernel
theorem nl_128 : mc_nl 128 = 3 := by decide +kernel
theorem nl_129 : mc_nl 129 = 1 := by decide +kernel
theorem nl_130 : mc_nl 130 = 3 := by decide +kernel
theorem nl_131 : mc_nl 131 = 2 := by decide +kernel
theorem nl_132 : mc_nl 132 = 6 := by decide +kernel
theorem nl_133 : mc_nl 133 = 3 := by decide +kernel
theorem nl_134 : mc_nl 134 = 4 := by decide +kernel
theorem nl_135 : mc_nl 135 = 2 := by decide +kernel
theorem nl_136 : mc_nl 136 = 1 := by decide +kernel
theorem nl_137 : mc_nl 137 = 3 := by decide +kernel
theorem nl_138 : mc_nl 138 = 2 := by decide +kernel
theorem nl_139 : mc_nl 139 = 1 := by decide +kernel
theorem nl_140 : mc_nl 140 = 2 := by decide +kernel
theorem nl_141 : mc_nl 141 = 1 := by decide +kernel
theorem nl_142 : mc_nl 142 = 1 := by decide +kernel
theorem nl_143 : mc_nl 143 = 1 := by decide +kernel
theorem nl_144 : mc_nl 144 = 2 := by decide +kernel
theorem nl_145 : mc_nl 145 = 3 := by decide +kernel
theorem nl_146 : mc_nl 146 = 5 := by decide +kernel
theorem nl_147 : mc_nl 147 = 8 := by decide +kernel
theorem nl_148 : mc_nl 148 = 1 := by decide +kernel
theorem nl_149 : mc_nl 149 = 3 := by decide +kernel
theorem nl_150 : mc_nl 150 = 2 := by decide +kernel
theorem nl_151 : mc_nl 151 = 3 := by decide +kernel
theorem nl_152 : mc_nl 152 = 5 := by decide +kernel
theorem nl_153 : mc_nl 153 = 1 := by decide +kernel
theorem nl_154 : mc_nl 154 = 1 := by decide +kernel
theorem nl_155 : mc_nl 155 = 4 := by decide +kernel
theorem nl_156 : mc_nl 156 = 4 := by decide +kernel
theorem nl_157 : mc_nl 157 = 5 := by decide +kernel
theorem nl_158 : mc_nl 158 = 8 := by decide +kernel
theorem nl_159 : mc_nl 159 = 3 := by decide +kernel
theorem nl_160 : mc_nl 160 = 18 := by decide +kernel
theorem nl_161 : mc_nl 161 = 2 := by decide +kernel
theorem nl_162 : mc_nl 162 = 5 := by decide +kernel
theorem nl_163 : mc_nl 163 = 10 := by decide +kernel
theorem nl_164 : mc_nl 164 = 6 := by decide +kernel
theorem nl_165 : mc_nl 165 = 1 := by decide +kernel
theorem nl_166 : mc_nl 166 = 1 := by decide +kernel
theorem nl_167 : mc_nl 167 = 3 := by decide +kernel
theorem nl_168 : mc_nl 168 = 5 := by decide +kernel
theorem nl_169 : mc_nl 169 = 4 := by decide +kernel
theorem nl_170 : mc_nl 170 = 2 := by decide +kernel
theorem nl_171 : mc_nl 171 = 5 := by decide +kernel
theorem nl_172 : mc_nl 172 = 1 := by decide +kernel
theorem nl_173 : mc_nl 173 = 1 := by decide +kernel
theorem nl_174 : mc_nl 174 = 4 := by decide +kernel
theorem nl_175 : mc_nl 175 = 4 := by decide +kernel
theorem nl_176 : mc_nl 176 = 5 := by decide +kernel
theorem nl_177 : mc_nl 177 = 5 := by decide +kernel
theorem nl_178 : mc_nl 178 = 4 := by decide +kernel
theorem nl_179 : mc_nl 179 = 2 := by decide +kernel
theorem nl_180 : mc_nl 180 = 3 := by decide +kernel
theorem nl_181 : mc_nl 181 = 5 := by decide +kernel
theorem nl_182 : mc_nl 182 = 4 := by decide +kernel
theorem nl_183 : mc_nl 183 = 1 := by decide +kernel
theorem nl_184 : mc_nl 184 = 6 := by decide +kernel
theorem nl_185 : mc_nl 185 = 3 := by decide +kernel
theorem nl_186 : mc_nl 186 = 7 := by decide +kernel
theorem nl_187 : mc_nl 187 = 2 := by decide +kernel
theorem nl_188 : mc_nl 188 = 1 := by decide +kernel
theorem nl_189 : mc_nl 189 = 2 := by decide +kernel
theorem nl_190 : mc_nl 190 = 1 := by decide +kernel
theorem nl_191 : mc_nl 191 = 3 := by decide +kernel
theorem nl_192 : mc_nl 192 = 2 := by decide +kernel
theorem nl_193 : mc_nl 193 = 9 := by decide +kernel
theorem nl_194 : mc_nl 194 = 3 := by decide +kernel
theorem nl_195 : mc_nl 195 = 2 := by decide +kernel
theorem nl_196 : mc_nl 196 = 8 := by decide +kernel
theorem nl_197 : mc_nl 197 = 3 := by decide +kernel
theorem nl_198 : mc_nl 198 = 6 := by decide +kernel
theorem nl_199 : mc_nl 199 = 11 := by decide +kernel
theorem nl_200 : mc_nl 200 = 7 := by decide +kernel
theorem nl_201 : mc_nl 201 = 2 := by decide +kernel
theorem nl_202 : mc_nl 202 = 3 := by decide +kernel
theorem nl_203 : mc_nl 203 = 1 := by decide +kernel
theorem nl_204 : mc_nl 204 = 2 := by decide +kernel
theorem nl_205 : mc_nl 205 = 4 := by decide +kernel
theorem nl_206 : mc_nl 206 = 2 := by decide +kernel
theorem nl_207 : mc_nl 207 = 2 := by decide +kernel
theorem nl_208 : mc_nl 208 = 3 := by decide +kernel
theorem nl_209 : mc_nl 209 = 2 := by decide +kernel
theorem nl_210 : mc_nl 210 = 3 := by decide +kernel
theorem nl_211 : mc_nl 211 = 4 := by decide +kernel
theorem nl_212 : mc_nl 212 = 1 := by decide +kernel
theorem nl_213 : mc_nl 213 = 4 := by decide +kernel
theorem nl_214 : mc_nl 214 = 2 := by decide +kernel
theorem nl_215 : mc_nl 215 = 4 := by decide +kernel
theorem nl_216 : mc_nl 216 = 6 := by decide +kernel
theorem nl_217 : mc_nl 217 = 7 := by decide +kernel
theorem nl_218 : mc_nl 218 = 4 := by decide +kernel
theorem nl_219 : mc_nl 219 = 1 := by decide +kernel
theorem nl_220 : mc_nl 220 = 5 := by decide +kernel
theorem nl_221 : mc_nl 221 = 4 := by decide +kernel
theorem nl_222 : mc_nl 222 = 3 := by decide +kernel
theorem nl_223 : mc_nl 223 = 9 := by decide +kernel
theorem nl_224 : mc_nl 224 = 2 := by decide +kernel
theorem nl_226 : mc_nl 226 = 1 := by decide +kernel
theorem nl_227 : mc_nl 227 = 3 := by decide +kernel
theorem nl_228 : mc_nl 228 = 2 := by decide +kernel
theorem nl_229 : mc_nl 229 = 3 := by decide +kernel
theorem nl_230 : mc_nl 230 = 3 := by decide +kernel
theorem nl_231 : mc_nl 231 = 5 := by decide +kernel
theorem nl_232 : mc_nl 232 = 5 := by decide +kernel
theorem nl_233 : mc_nl 233 = 3 := by decide +kernel
theorem nl_234 : mc_nl 234 = 4 := by decide +kernel
theorem nl_235 : mc_nl 235 = 9 := by decide +kernel
theorem nl_236 : mc_nl 236 = 6 := by decide +kernel
theorem nl_237 : mc_nl 237 = 10 := by decide +kernel
theorem nl_238 : mc_nl 238 = 5 := by decide +kernel
theorem nl_239 : mc_nl 239 = 17 := by decide +kernel
theorem nl_240 : mc_nl 240 = 11 := by decide +kernel
theorem nl_241 : mc_nl 241 = 6 := by decide +kernel
theorem nl_242 : mc_nl 242 = 2 := by decide +kernel
theorem nl_243 : mc_nl 243 = 4 := by decide +kernel
theorem nl_244 : mc_nl 244 = 5 := by decide +kernel
theorem nl_245 : mc_nl 245 = 2 := by decide +kernel
theorem nl_246 : mc_nl 246 = 14 := by decide +kernel
theorem nl_247 : mc_nl 247 = 12 := by decide +kernel
theorem nl_248 : mc_nl 248 = 11 := by decide +kernel
theorem nl_249 : mc_nl 249 = 2 := by decide +kernel
theorem nl_250 : mc_nl 250 = 6 := by decide +kernel
theorem nl_251 : mc_nl 251 = 12 := by decide +kernel
theorem nl_252 : mc_nl 252 = 7 := by decide +kernel
theorem nl_253 : mc_nl 253 = 4 := by decide +kernel
theorem nl_254 : mc_nl 254 = 5 := by decide +kernel
theorem nl_255 : mc_nl 255 = 3 := by decide +kernel
theorem nl_256 : mc_nl 256 = 3 := by decide +kernel
theorem nl_257 : mc_nl 257 = 12 := by decide +kernel
theorem nl_258 : mc_nl 258 = 3 := by decide +kernel
theorem nl_259 : mc_nl 259 = 2 := by decide +kernel
theorem nl_260 : mc_nl 260 = 6 := by decide +kernel
theorem nl_261 : mc_nl 261 = 6 := by decide +kernel
theorem nl_262 : mc_nl 262 = 8 := by decide +kernel
theorem nl_263 : mc_nl 263 = 6 := by decide +kernel
theorem nl_264 : mc_nl 264 = 13 := by decide +kernel
theorem nl_265 : mc_nl 265 = 19 := by decide +kernel
theorem nl_266 : mc_nl 266 = 4 := by decide +kernel
theorem nl_267 : mc_nl 267 = 10 := by decide +kernel
theorem nl_268 : mc_nl 268 = 14 := by decide +kernel
theorem nl_269 : mc_nl 269 = 10 := by decide +kernel
theorem nl_270 : mc_nl 270 = 6 := by decide +kernel
theorem nl_271 : mc_nl 271 = 1 := by decide +kernel
theorem nl_272 : mc_nl 272 = 1 := by decide +kernel
theorem nl_273 : mc_nl 273 = 4 := by decide +kernel
theorem nl_274 : mc_nl 274 = 3 := by decide +kernel
theorem nl_275 : mc_nl 275 = 2 := by decide +kernel
theorem nl_277 : mc_nl 277 = 1 := by decide +kernel
theorem nl_278 : mc_nl 278 = 1 := by decide +kernel
theorem nl_279 : mc_nl 279 = 2 := by decide +kernel
theorem nl_280 : mc_nl 280 = 1 := by decide +kernel
theorem nl_281 : mc_nl 281 = 2 := by decide +kernel
theorem nl_282 : mc_nl 282 = 5 := by decide +kernel
theorem nl_283 : mc_nl 283 = 2 := by decide +kernel
theorem nl_284 : mc_nl 284 = 2 := by decide +kernel
theorem nl_285 : mc_nl 285 = 7 := by decide +kernel
theorem nl_286 : mc_nl 286 = 8 := by decide +kernel
theorem nl_287 : mc_nl 287 = 7 := by decide +kernel
theorem nl_288 : mc_nl 288 = 1 := by decide +kernel
theorem nl_289 : mc_nl 289 = 2 := by decide +kernel
theorem nl_290 : mc_nl 290 = 3 := by decide +kernel
theorem nl_291 : mc_nl 291 = 6 := by decide +kernel
theorem nl_292 : mc_nl 292 = 13 := by decide +kernel
theorem nl_293 : mc_nl 293 = 4 := by decide +kernel
theorem nl_294 : mc_nl 294 = 5 := by decide +kernel
theorem nl_295 : mc_nl 295 = 4 := by decide +kernel
theorem nl_296 : mc_nl 296 = 2 := by decide +kernel
theorem nl_297 : mc_nl 297 = 6 := by decide +kernel
theorem nl_299 : mc_nl 299 = 1 := by decide +kernel
theorem nl_300 : mc_nl 300 = 6 := by decide +kernel
theorem nl_301 : mc_nl 301 = 8 := by decide +kernel
theorem nl_302 : mc_nl 302 = 4 := by decide +kernel
theorem nl_303 : mc_nl 303 = 1 := by decide +kernel
theorem nl_304 : mc_nl 304 = 1 := by decide +kernel
theorem nl_305 : mc_nl 305 = 2 := by decide +kernel
theorem nl_306 : mc_nl 306 = 5 := by decide +kernel
theorem nl_307 : mc_nl 307 = 6 := by decide +kernel
theorem nl_308 : mc_nl 308 = 6 := by decide +kernel
theorem nl_309 : mc_nl 309 = 6 := by decide +kernel
theorem nl_310 : mc_nl 310 = 1 := by decide +kernel
theorem nl_311 : mc_nl 311 = 2 := by decide +kernel
theorem nl_312 : mc_nl 312 = 2 := by decide +kernel
theorem nl_313 : mc_nl 313 = 4 := by decide +kernel
theorem nl_314 : mc_nl 314 = 3 := by decide +kernel
theorem nl_315 : mc_nl 315 = 2 := by decide +kernel
theorem nl_316 : mc_nl 316 = 6 := by decide +kernel
theorem nl_317 : mc_nl 317 = 2 := by decide +kernel
theorem nl_318 : mc_nl 318 = 5 := by decide +kernel
theorem nl_319 : mc_nl 319 = 5 := by decide +kernel
theorem nl_320 : mc_nl 320 = 6 := by decide +kernel
theorem nl_321 : mc_nl 321 = 2 := by decide +kernel
theorem nl_322 : mc_nl 322 = 6 := by decide +kernel
theorem nl_323 : mc_nl 323 = 6 := by decide +kernel
theorem nl_324 : mc_nl 324 = 3 := by decide +kernel
theorem nl_325 : mc_nl 325 = 3 := by decide +kernel
theorem nl_326 : mc_nl 326 = 6 := by decide +kernel
theorem nl_327 : mc_nl 327 = 5 := by decide +kernel
theorem nl_328 : mc_nl 328 = 2 := by decide +kernel
theorem nl_329 : mc_nl 329 = 5 := by decide +kernel
theorem nl_330 : mc_nl 330 = 6 := by decide +kernel
theorem nl_331 : mc_nl 331 = 3 := by decide +kernel
theorem nl_332 : mc_nl 332 = 2 := by decide +kernel
theorem nl_333 : mc_nl 333 = 2 := by decide +kernel
theorem nl_334 : mc_nl 334 = 2 := by decide +kernel
theorem nl_335 : mc_nl 335 = 3 := by decide +kernel
theorem nl_336 : mc_nl 336 = 4 := by decide +kernel
theorem nl_337 : mc_nl 337 = 3 := by decide +kernel
theorem nl_338 : mc_nl 338 = 3 := by decide +kernel
theorem nl_339 : mc_nl 339 = 5 := by decide +kernel
theorem nl_340 : mc_nl 340 = 3 := by decide +kernel
theorem nl_341 : mc_nl 341 = 4 := by decide +kernel
theorem nl_342 : mc_nl 342 = 4 := by decide +kernel
theorem nl_343 : mc_nl 343 = 4 := by decide +kernel
theorem nl_344 : mc_nl 344 = 5 := by decide +kernel
theorem nl_345 : mc_nl 345 = 3 := by decide +kernel
theorem nl_346 : mc_nl 346 = 9 := by decide +kernel
theorem nl_347 : mc_nl 347 = 10 := by decide +kernel
theorem nl_348 : mc_nl 348 = 13 := by decide +kernel
theorem nl_349 : mc_nl 349 = 3 := by decide +kernel
theorem nl_350 : mc_nl 350 = 1 := by decide +kernel
theorem nl_351 : mc_nl 351 = 4 := by decide +kernel
theorem nl_352 : mc_nl 352 = 5 := by decide +kernel
theorem nl_353 : mc_nl 353 = 2 := by decide +kernel
theorem nl_354 : mc_nl 354 = 2 := by decide +kernel
theorem nl_355 : mc_nl 355 = 3 := by decide +kernel
theorem nl_356 : mc_nl 356 = 2 := by decide +kernel
theorem nl_357 : mc_nl 357 = 3 := by decide +kernel
theorem nl_358 : mc_nl 358 = 1 := by decide +kernel
theorem nl_359 : mc_nl 359 = 6 := by decide +kernel
theorem nl_360 : mc_nl 360 = 7 := by decide +kernel
theorem nl_361 : mc_nl 361 = 6 := by decide +kernel
theorem nl_362 : mc_nl 362 = 7 := by decide +kernel
theorem nl_363 : mc_nl 363 = 5 := by decide +kernel
theorem nl_364 : mc_nl 364 = 10 := by decide +kernel
theorem nl_365 : mc_nl 365 = 4 := by decide +kernel
theorem nl_366 : mc_nl 366 = 4 := by decide +kernel
theorem nl_367 : mc_nl 367 = 1 := by decide +kernel
theorem nl_368 : mc_nl 368 = 1 := by decide +kernel
theorem nl_369 : mc_nl 369 = 2 := by decide +kernel
theorem nl_370 : mc_nl 370 = 2 := by decide +kernel
theorem nl_371 : mc_nl 371 = 3 := by decide +kernel
theorem nl_372 : mc_nl 372 = 3 := by decide +kernel
theorem nl_373 : mc_nl 373 = 2 := by decide +kernel
theorem nl_374 : mc_nl 374 = 1 := by decide +kernel
theorem nl_375 : mc_nl 375 = 6 := by decide +kernel
theorem nl_376 : mc_nl 376 = 2 := by decide +kernel
theorem nl_377 : mc_nl 377 = 7 := by decide +kernel
theorem nl_378 : mc_nl 378 = 5 := by decide +kernel
theorem nl_379 : mc_nl 379 = 9 := by decide +kernel
theorem nl_380 : mc_nl 380 = 6 := by decide +kernel
theorem nl_381 : mc_nl 381 = 3 := by decide +kernel
theorem nl_382 : mc_nl 382 = 1 := by decide +kernel
theorem nl_383 : mc_nl 383 = 1 := by decide +kernel
theorem nl_384 : mc_nl 384 = 3 := by decide +kernel
theorem nl_385 : mc_nl 385 = 2 := by decide +kernel
theorem nl_386 : mc_nl 386 = 1 := by decide +kernel
theorem nl_387 : mc_nl 387 = 3 := by decide +kernel
theorem nl_388 : mc_nl 388 = 7 := by decide +kernel
theorem nl_389 : mc_nl 389 = 5 := by decide +kernel
theorem nl_390 : mc_nl 390 = 6 := by decide +kernel
theorem nl_391 : mc_nl 391 = 2 := by decide +kernel
theorem nl_392 : mc_nl 392 = 3 := by decide +kernel
theorem nl_393 : mc_nl 393 = 4 := by decide +kernel
theorem nl_394 : mc_nl 394 = 1 := by decide +kernel
theorem nl_395 : mc_nl 395 = 1 := by decide +kernel
theorem nl_396 : mc_nl 396 = 1 := by decide +kernel
theorem nl_397 : mc_nl 397 = 2 := by decide +kernel
theorem nl_398 : mc_nl 398 = 2 := by decide +kernel
theorem nl_399 : mc_nl 399 = 2 := by decide +kernel
theorem nl_400 : mc_nl 400 = 3 := by decide +kernel
theorem nl_401 : mc_nl 401 = 2 := by decide +kernel
theorem nl_402 : mc_nl 402 = 4 := by decide +kernel
theorem nl_403 : mc_nl 403 = 1 := by decide +kernel
theorem nl_404 : mc_nl 404 = 6 := by decide +kernel
theorem nl_405 : mc_nl 405 = 3 := by decide +kernel
