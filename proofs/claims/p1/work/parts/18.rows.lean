/-! REASONING over the small machine: mw says that a run from here ends, and how; a row an instruction -/
theorem mm_fuel (P : me_P) (nl : Nat → Nat) : ∀ (n m d y pc : Nat) (ls : me_L) (st : List Value) (h : mh_H) (x : Option Value × mh_H), n ≤ m → mm_run P nl n d y pc ls st h = some x → mm_run P nl m d y pc ls st h = some x := by
  intro n
  induction n with
  | zero => intro m d y pc ls st h x _ e; cases e
  | succ n ih =>
    intro m d y pc ls st h x hm e
    obtain ⟨k, rfl⟩ : ∃ k, m = k + 1 := ⟨m - 1, by omega⟩
    have hk : n ≤ k := by omega
    unfold mm_run at e ⊢
    split at e
    next pc1 ls1 st1 h1 hst => exact ih _ _ _ _ _ _ _ _ hk e
    next r1 hst => exact e
    next y' as rest hst =>
      split at e
      next d1 hdec =>
        split at e
        next r2 h2 hr =>
          rw [ih _ _ _ _ _ _ _ _ hk hr]
          exact ih _ _ _ _ _ _ _ _ hk e
        next => cases e
      next => cases e
    next => cases e
theorem mm_deep (P : me_P) (nl : Nat → Nat) : ∀ (n d d' y pc : Nat) (ls : me_L) (st : List Value) (h : mh_H) (x : Option Value × mh_H), d ≤ d' → mm_run P nl n d y pc ls st h = some x → mm_run P nl n d' y pc ls st h = some x := by
  intro n
  induction n with
  | zero => intro d d' y pc ls st h x _ e; cases e
  | succ n ih =>
    intro d d' y pc ls st h x hd e
    unfold mm_run at e ⊢
    split at e
    next pc1 ls1 st1 h1 hst => exact ih _ _ _ _ _ _ _ _ hd e
    next r1 hst => exact e
    next y' as rest hst =>
      split at e
      next d1 hdec =>
        obtain ⟨k, rfl⟩ : ∃ k, d' = k + 1 := ⟨d' - 1, by omega⟩
        have hk : d1 ≤ k := by omega
        rw [hdec]
        dsimp only
        split at e
        next r2 h2 hr =>
          rw [ih _ _ _ _ _ _ _ _ hk hr]
          exact ih _ _ _ _ _ _ _ _ hd e
        next => cases e
      next => cases e
    next => cases e
def mw (d y : Nat) (Q : Option Value → mh_H → Prop) (pc : Nat) (ls : me_L) (st : List Value) (h : mh_H) : Prop := ∃ (n : Nat) (r : Option Value) (h' : mh_H), mm_run mc_P mc_nl n d y pc ls st h = some (r, h') ∧ Q r h'
/-- a method's contract at some arguments and a heap -/
def mcall (d y : Nat) (as : List Value) (h : mh_H) (Q : Option Value → mh_H → Prop) : Prop := mw d y Q 0 (me_en (mc_nl y) as) [] h
theorem mw_weak {d y pc : Nat} {Q Q' : Option Value → mh_H → Prop} {ls : me_L} {st : List Value} {h : mh_H} (k : mw d y Q pc ls st h) (hq : ∀ r h', Q r h' → Q' r h') : mw d y Q' pc ls st h := by
  obtain ⟨n, r, h', e, q⟩ := k
  exact ⟨n, r, h', e, hq r h' q⟩
theorem mw_deep {d d' y pc : Nat} {Q : Option Value → mh_H → Prop} {ls : me_L} {st : List Value} {h : mh_H} (hd : d ≤ d') (k : mw d y Q pc ls st h) : mw d' y Q pc ls st h := by
  obtain ⟨n, r, h', e, q⟩ := k
  exact ⟨n, r, h', mm_deep _ _ _ _ _ _ _ _ _ _ _ hd e, q⟩
section MR
variable {d y pc : Nat} {Q : Option Value → mh_H → Prop} {ls ls' : me_L} {st : List Value} {h : mh_H} {l a b : Nat} {v : Int}
theorem mw_st {pc' : Nat} {st' : List Value} {h' : mh_H} (hs : mm_step mc_P y pc ls st h = some (.inl (pc', ls', st', h'))) (k : mw d y Q pc' ls' st' h') : mw d y Q pc ls st h := by
  obtain ⟨n, r, h2, e, q⟩ := k
  refine ⟨n + 1, r, h2, ?_, q⟩
  unfold mm_run
  rw [hs]
  exact e
theorem mw_rt {r : Option Value} (hs : mm_step mc_P y pc ls st h = some (.inr (.inr r))) (hq : Q r h) : mw d y Q pc ls st h := by
  refine ⟨1, r, h, ?_, hq⟩
  unfold mm_run
  rw [hs]
theorem mw_cl {y' : Nat} {as rest : List Value} {Q' : Option Value → mh_H → Prop} (hs : mm_step mc_P y pc ls st h = some (.inr (.inl (y', as, rest)))) (hsum : (as.map fun v => v.category).sum ≤ mc_nl y') (hc : mcall d y' as h Q') (k : ∀ r h', Q' r h' → mw (d + 1) y Q (pc + 3) ls (r.toList ++ rest) h') : mw (d + 1) y Q pc ls st h := by
  obtain ⟨n1, r1, h1, e1, q1⟩ := hc
  obtain ⟨n2, r2, h2, e2, q2⟩ := k r1 h1 q1
  refine ⟨max n1 n2 + 1, r2, h2, ?_, q2⟩
  unfold mm_run
  rw [hs]
  dsimp only
  rw [show decide ((as.map fun v => v.category).sum ≤ mc_nl y') = true from decide_eq_true hsum]
  dsimp only
  rw [mm_fuel _ _ _ _ _ _ _ _ _ _ _ (Nat.le_max_left n1 n2) e1]
  exact mm_fuel _ _ _ _ _ _ _ _ _ _ _ (Nat.le_max_right n1 n2) e2
theorem mm_at {ins : Instr} (hP : mc_P y pc = some (ins, l, a, b, v)) : mm_step mc_P y pc ls st h = mm_ins ins a b v pc ls st h := by
  unfold mm_step
  rw [hP]

theorem mr_iconst {n : Int} {x : Int32} (hP : mc_P y pc = some (.iconst n, l, a, b, v)) (hx : Int32.ofInt n = x) (k : mw d y Q (pc + 1) ls (.int x :: st) h) : mw d y Q pc ls st h := by
  exact mw_st (by rw [mm_at hP]; subst hx; rfl) k
theorem mr_bipush {n : Int} {x : Int32} (hP : mc_P y pc = some (.bipush n, l, a, b, v)) (hx : (Int8.ofInt n).toInt32 = x) (k : mw d y Q (pc + 2) ls (.int x :: st) h) : mw d y Q pc ls st h := by
  exact mw_st (by rw [mm_at hP]; subst hx; rfl) k
theorem mr_sipush {n : Int} {x : Int32} (hP : mc_P y pc = some (.sipush n, l, a, b, v)) (hx : (Int16.ofInt n).toInt32 = x) (k : mw d y Q (pc + 3) ls (.int x :: st) h) : mw d y Q pc ls st h := by
  exact mw_st (by rw [mm_at hP]; subst hx; rfl) k
theorem mr_lconst {n : Fin 2} {x : Int64} (hP : mc_P y pc = some (.lconst n, l, a, b, v)) (hx : Int64.ofNat n = x) (k : mw d y Q (pc + 1) ls (.long x :: st) h) : mw d y Q pc ls st h := by
  exact mw_st (by rw [mm_at hP]; subst hx; rfl) k
theorem mr_null (hP : mc_P y pc = some (.aconst_null, l, a, b, v)) (k : mw d y Q (pc + 1) ls (.null :: st) h) : mw d y Q pc ls st h := by
  exact mw_st (by rw [mm_at hP]; rfl) k
theorem mr_ldc {idx : Nat} {x : Int32} (hP : mc_P y pc = some (.ldc idx, l, a, 0, v)) (hx : Int32.ofInt v = x) (k : mw d y Q (pc + 2) ls (.int x :: st) h) : mw d y Q pc ls st h := mw_st (by rw [mm_at hP]; subst hx; rfl) k
theorem mr_ldcS {idx : Nat} (hP : mc_P y pc = some (.ldc idx, l, a, 1, v)) (k : mw d y Q (pc + 2) ls (.retAddr a :: st) h) : mw d y Q pc ls st h := mw_st (by rw [mm_at hP]; rfl) k
theorem mr_ldcW {idx : Nat} (hP : mc_P y pc = some (.ldc_w idx, l, a, 1, v)) (k : mw d y Q (pc + 3) ls (.retAddr a :: st) h) : mw d y Q pc ls st h := mw_st (by rw [mm_at hP]; rfl) k
theorem mr_gets0 {idx : Nat} (hP : mc_P y pc = some (.getstatic idx, l, a, 0, v)) (k : mw d y Q (pc + 3) ls (.retAddr a :: st) h) : mw d y Q pc ls st h := mw_st (by rw [mm_at hP]; rfl) k
theorem mr_gets1 {idx : Nat} {x : Int32} (hP : mc_P y pc = some (.getstatic idx, l, a, 1, v)) (hx : Int32.ofInt v = x) (k : mw d y Q (pc + 3) ls (.int x :: st) h) : mw d y Q pc ls st h := mw_st (by rw [mm_at hP]; subst hx; rfl) k
theorem mr_ldc2 {idx : Nat} {x : Int64} (hP : mc_P y pc = some (.ldc2_w idx, l, a, b, v)) (hx : Int64.ofInt v = x) (k : mw d y Q (pc + 3) ls (.long x :: st) h) : mw d y Q pc ls st h := by
  exact mw_st (by rw [mm_at hP]; subst hx; rfl) k
theorem mr_iload {i : Nat} {x : Int32} (hP : mc_P y pc = some (.iload i, l, a, b, v)) (hv : ls[i]? = some (some (.int x))) (k : mw d y Q (pc + 2) ls (.int x :: st) h) : mw d y Q pc ls st h := mw_st (by rw [mm_at hP]; simp [mm_ins, me_pv, me_oi, me_ld, hv]; rfl) k
theorem mr_iload_n {i : Fin 4} {x : Int32} (hP : mc_P y pc = some (.iload_n i, l, a, b, v)) (hv : ls[(i : Nat)]? = some (some (.int x))) (k : mw d y Q (pc + 1) ls (.int x :: st) h) : mw d y Q pc ls st h := mw_st (by rw [mm_at hP]; simp [mm_ins, me_pv, me_oi, me_ld, hv]; rfl) k
theorem mr_lload {i : Nat} {x : Int64} (hP : mc_P y pc = some (.lload i, l, a, b, v)) (hv : ls[i]? = some (some (.long x))) (k : mw d y Q (pc + 2) ls (.long x :: st) h) : mw d y Q pc ls st h := mw_st (by rw [mm_at hP]; simp [mm_ins, me_pv, me_ol, me_ld, hv]; rfl) k
theorem mr_lload_n {i : Fin 4} {x : Int64} (hP : mc_P y pc = some (.lload_n i, l, a, b, v)) (hv : ls[(i : Nat)]? = some (some (.long x))) (k : mw d y Q (pc + 1) ls (.long x :: st) h) : mw d y Q pc ls st h := mw_st (by rw [mm_at hP]; simp [mm_ins, me_pv, me_ol, me_ld, hv]; rfl) k
theorem mr_aload {i : Nat} {x : Nat} (hP : mc_P y pc = some (.aload i, l, a, b, v)) (hv : ls[i]? = some (some (.ref x))) (k : mw d y Q (pc + 2) ls (.ref x :: st) h) : mw d y Q pc ls st h := mw_st (by rw [mm_at hP]; simp [mm_ins, me_pv, me_oa, me_ld, hv]; rfl) k
theorem mr_aload_n {i : Fin 4} {x : Nat} (hP : mc_P y pc = some (.aload_n i, l, a, b, v)) (hv : ls[(i : Nat)]? = some (some (.ref x))) (k : mw d y Q (pc + 1) ls (.ref x :: st) h) : mw d y Q pc ls st h := mw_st (by rw [mm_at hP]; simp [mm_ins, me_pv, me_oa, me_ld, hv]; rfl) k
theorem mr_astore {i : Nat} {x : Nat} (hP : mc_P y pc = some (.astore i, l, a, b, v)) (hi : i < ls.length) (hl : me_s1 ls i (.ref x) = ls') (k : mw d y Q (pc + 2) ls' st h) : mw d y Q pc ls (.ref x :: st) h := mw_st (by rw [mm_at hP]; subst hl; simp [mm_ins, me_st, me_1, hi]; rfl) k
theorem mr_astore_n {i : Fin 4} {x : Nat} (hP : mc_P y pc = some (.astore_n i, l, a, b, v)) (hi : (i : Nat) < ls.length) (hl : me_s1 ls i (.ref x) = ls') (k : mw d y Q (pc + 1) ls' st h) : mw d y Q pc ls (.ref x :: st) h := mw_st (by rw [mm_at hP]; subst hl; simp [mm_ins, me_st, me_1, hi]; rfl) k
theorem mr_aloadN {i : Nat} (hP : mc_P y pc = some (.aload i, l, a, b, v)) (hv : ls[i]? = some (some (.null))) (k : mw d y Q (pc + 2) ls (.null :: st) h) : mw d y Q pc ls st h := mw_st (by rw [mm_at hP]; simp [mm_ins, me_pv, me_oa, me_ld, hv]; rfl) k
theorem mr_aload_nN {i : Fin 4} (hP : mc_P y pc = some (.aload_n i, l, a, b, v)) (hv : ls[(i : Nat)]? = some (some (.null))) (k : mw d y Q (pc + 1) ls (.null :: st) h) : mw d y Q pc ls st h := mw_st (by rw [mm_at hP]; simp [mm_ins, me_pv, me_oa, me_ld, hv]; rfl) k
theorem mr_astoreN {i : Nat} (hP : mc_P y pc = some (.astore i, l, a, b, v)) (hi : i < ls.length) (hl : me_s1 ls i (.null) = ls') (k : mw d y Q (pc + 2) ls' st h) : mw d y Q pc ls (.null :: st) h := mw_st (by rw [mm_at hP]; subst hl; simp [mm_ins, me_st, me_1, hi]; rfl) k
theorem mr_astore_nN {i : Fin 4} (hP : mc_P y pc = some (.astore_n i, l, a, b, v)) (hi : (i : Nat) < ls.length) (hl : me_s1 ls i (.null) = ls') (k : mw d y Q (pc + 1) ls' st h) : mw d y Q pc ls (.null :: st) h := mw_st (by rw [mm_at hP]; subst hl; simp [mm_ins, me_st, me_1, hi]; rfl) k
theorem mr_aloadX {i : Nat} {x : Nat} (hP : mc_P y pc = some (.aload i, l, a, b, v)) (hv : ls[i]? = some (some (.retAddr x))) (k : mw d y Q (pc + 2) ls (.retAddr x :: st) h) : mw d y Q pc ls st h := mw_st (by rw [mm_at hP]; simp [mm_ins, me_pv, me_oa, me_ld, hv]; rfl) k
theorem mr_aload_nX {i : Fin 4} {x : Nat} (hP : mc_P y pc = some (.aload_n i, l, a, b, v)) (hv : ls[(i : Nat)]? = some (some (.retAddr x))) (k : mw d y Q (pc + 1) ls (.retAddr x :: st) h) : mw d y Q pc ls st h := mw_st (by rw [mm_at hP]; simp [mm_ins, me_pv, me_oa, me_ld, hv]; rfl) k
theorem mr_astoreX {i : Nat} {x : Nat} (hP : mc_P y pc = some (.astore i, l, a, b, v)) (hi : i < ls.length) (hl : me_s1 ls i (.retAddr x) = ls') (k : mw d y Q (pc + 2) ls' st h) : mw d y Q pc ls (.retAddr x :: st) h := mw_st (by rw [mm_at hP]; subst hl; simp [mm_ins, me_st, me_1, hi]; rfl) k
theorem mr_astore_nX {i : Fin 4} {x : Nat} (hP : mc_P y pc = some (.astore_n i, l, a, b, v)) (hi : (i : Nat) < ls.length) (hl : me_s1 ls i (.retAddr x) = ls') (k : mw d y Q (pc + 1) ls' st h) : mw d y Q pc ls (.retAddr x :: st) h := mw_st (by rw [mm_at hP]; subst hl; simp [mm_ins, me_st, me_1, hi]; rfl) k
theorem mr_istore {i : Nat} {x : Int32} (hP : mc_P y pc = some (.istore i, l, a, b, v)) (hi : (i : Nat) < ls.length) (hl : me_s1 ls i (.int x) = ls') (k : mw d y Q (pc + 2) ls' st h) : mw d y Q pc ls (.int x :: st) h := mw_st (by rw [mm_at hP]; subst hl; simp [mm_ins, me_st, me_1, hi]; rfl) k
theorem mr_istore_n {i : Fin 4} {x : Int32} (hP : mc_P y pc = some (.istore_n i, l, a, b, v)) (hi : (i : Nat) < ls.length) (hl : me_s1 ls i (.int x) = ls') (k : mw d y Q (pc + 1) ls' st h) : mw d y Q pc ls (.int x :: st) h := mw_st (by rw [mm_at hP]; subst hl; simp [mm_ins, me_st, me_1, hi]; rfl) k
theorem mr_lstore {i : Nat} {x : Int64} (hP : mc_P y pc = some (.lstore i, l, a, b, v)) (hi : (i : Nat) + 1 < ls.length) (hl : me_s2 ls i (.long x) = ls') (k : mw d y Q (pc + 2) ls' st h) : mw d y Q pc ls (.long x :: st) h := mw_st (by rw [mm_at hP]; subst hl; simp [mm_ins, me_sl, me_1, hi]; rfl) k
theorem mr_lstore_n {i : Fin 4} {x : Int64} (hP : mc_P y pc = some (.lstore_n i, l, a, b, v)) (hi : (i : Nat) + 1 < ls.length) (hl : me_s2 ls i (.long x) = ls') (k : mw d y Q (pc + 1) ls' st h) : mw d y Q pc ls (.long x :: st) h := mw_st (by rw [mm_at hP]; subst hl; simp [mm_ins, me_sl, me_1, hi]; rfl) k
theorem mr_iinc {i : Nat} {n : Int} {x z : Int32} (hP : mc_P y pc = some (.iinc i n, l, a, b, v)) (hv : ls[i]? = some (some (.int x))) (hi : i < ls.length) (hz : x + Int32.ofInt n = z) (hl : me_s1 ls i (.int z) = ls') (k : mw d y Q (pc + 3) ls' st h) : mw d y Q pc ls st h := mw_st (by rw [mm_at hP]; subst hl; subst hz; have e : me_ld ls i = some (.int x) := (by unfold me_ld; rw [hv]); simp only [mm_ins, e, me_st, me_1, decide_eq_true hi]; rfl) k
theorem mr_iadd {x z w : Int32} (hP : mc_P y pc = some (.iadd, l, a, b, v)) (hr : x + z = w) (k : mw d y Q (pc + 1) ls (.int w :: st) h) : mw d y Q pc ls (.int z :: .int x :: st) h := mw_st (by rw [mm_at hP]; subst hr; rfl) k
theorem mr_isub {x z w : Int32} (hP : mc_P y pc = some (.isub, l, a, b, v)) (hr : x - z = w) (k : mw d y Q (pc + 1) ls (.int w :: st) h) : mw d y Q pc ls (.int z :: .int x :: st) h := mw_st (by rw [mm_at hP]; subst hr; rfl) k
theorem mr_imul {x z w : Int32} (hP : mc_P y pc = some (.imul, l, a, b, v)) (hr : x * z = w) (k : mw d y Q (pc + 1) ls (.int w :: st) h) : mw d y Q pc ls (.int z :: .int x :: st) h := mw_st (by rw [mm_at hP]; subst hr; rfl) k
theorem mr_iand {x z w : Int32} (hP : mc_P y pc = some (.iand, l, a, b, v)) (hr : x &&& z = w) (k : mw d y Q (pc + 1) ls (.int w :: st) h) : mw d y Q pc ls (.int z :: .int x :: st) h := mw_st (by rw [mm_at hP]; subst hr; rfl) k
theorem mr_ior {x z w : Int32} (hP : mc_P y pc = some (.ior, l, a, b, v)) (hr : x ||| z = w) (k : mw d y Q (pc + 1) ls (.int w :: st) h) : mw d y Q pc ls (.int z :: .int x :: st) h := mw_st (by rw [mm_at hP]; subst hr; rfl) k
theorem mr_ixor {x z w : Int32} (hP : mc_P y pc = some (.ixor, l, a, b, v)) (hr : x ^^^ z = w) (k : mw d y Q (pc + 1) ls (.int w :: st) h) : mw d y Q pc ls (.int z :: .int x :: st) h := mw_st (by rw [mm_at hP]; subst hr; rfl) k
theorem mr_ishl {x z w : Int32} (hP : mc_P y pc = some (.ishl, l, a, b, v)) (hr : x <<< (z &&& 31) = w) (k : mw d y Q (pc + 1) ls (.int w :: st) h) : mw d y Q pc ls (.int z :: .int x :: st) h := mw_st (by rw [mm_at hP]; subst hr; rfl) k
theorem mr_ishr {x z w : Int32} (hP : mc_P y pc = some (.ishr, l, a, b, v)) (hr : x >>> (z &&& 31) = w) (k : mw d y Q (pc + 1) ls (.int w :: st) h) : mw d y Q pc ls (.int z :: .int x :: st) h := mw_st (by rw [mm_at hP]; subst hr; rfl) k
theorem mr_iushr {x z w : Int32} (hP : mc_P y pc = some (.iushr, l, a, b, v)) (hr : (x.toUInt32 >>> (z.toUInt32 &&& Int32.toUInt32 31)).toInt32 = w) (k : mw d y Q (pc + 1) ls (.int w :: st) h) : mw d y Q pc ls (.int z :: .int x :: st) h := mw_st (by rw [mm_at hP]; subst hr; rfl) k
theorem mr_ladd {x z w : Int64} (hP : mc_P y pc = some (.ladd, l, a, b, v)) (hr : x + z = w) (k : mw d y Q (pc + 1) ls (.long w :: st) h) : mw d y Q pc ls (.long z :: .long x :: st) h := mw_st (by rw [mm_at hP]; subst hr; rfl) k
theorem mr_lsub {x z w : Int64} (hP : mc_P y pc = some (.lsub, l, a, b, v)) (hr : x - z = w) (k : mw d y Q (pc + 1) ls (.long w :: st) h) : mw d y Q pc ls (.long z :: .long x :: st) h := mw_st (by rw [mm_at hP]; subst hr; rfl) k
theorem mr_lmul {x z w : Int64} (hP : mc_P y pc = some (.lmul, l, a, b, v)) (hr : x * z = w) (k : mw d y Q (pc + 1) ls (.long w :: st) h) : mw d y Q pc ls (.long z :: .long x :: st) h := mw_st (by rw [mm_at hP]; subst hr; rfl) k
theorem mr_land {x z w : Int64} (hP : mc_P y pc = some (.land, l, a, b, v)) (hr : x &&& z = w) (k : mw d y Q (pc + 1) ls (.long w :: st) h) : mw d y Q pc ls (.long z :: .long x :: st) h := mw_st (by rw [mm_at hP]; subst hr; rfl) k
theorem mr_lor {x z w : Int64} (hP : mc_P y pc = some (.lor, l, a, b, v)) (hr : x ||| z = w) (k : mw d y Q (pc + 1) ls (.long w :: st) h) : mw d y Q pc ls (.long z :: .long x :: st) h := mw_st (by rw [mm_at hP]; subst hr; rfl) k
theorem mr_lxor {x z w : Int64} (hP : mc_P y pc = some (.lxor, l, a, b, v)) (hr : x ^^^ z = w) (k : mw d y Q (pc + 1) ls (.long w :: st) h) : mw d y Q pc ls (.long z :: .long x :: st) h := mw_st (by rw [mm_at hP]; subst hr; rfl) k
theorem mr_idiv {x z w : Int32} (hP : mc_P y pc = some (.idiv, l, a, b, v)) (hz : ¬ z = 0) (hr : x / z = w) (k : mw d y Q (pc + 1) ls (.int w :: st) h) : mw d y Q pc ls (.int z :: .int x :: st) h := mw_st (by rw [mm_at hP]; subst hr; simp [mm_ins, me_i2, me_l2, hz]; rfl) k
theorem mr_irem {x z w : Int32} (hP : mc_P y pc = some (.irem, l, a, b, v)) (hz : ¬ z = 0) (hr : x - x / z * z = w) (k : mw d y Q (pc + 1) ls (.int w :: st) h) : mw d y Q pc ls (.int z :: .int x :: st) h := mw_st (by rw [mm_at hP]; subst hr; simp [mm_ins, me_i2, me_l2, hz]; rfl) k
theorem mr_ldiv {x z w : Int64} (hP : mc_P y pc = some (.ldiv, l, a, b, v)) (hz : ¬ z = 0) (hr : x / z = w) (k : mw d y Q (pc + 1) ls (.long w :: st) h) : mw d y Q pc ls (.long z :: .long x :: st) h := mw_st (by rw [mm_at hP]; subst hr; simp [mm_ins, me_i2, me_l2, hz]; rfl) k
theorem mr_lrem {x z w : Int64} (hP : mc_P y pc = some (.lrem, l, a, b, v)) (hz : ¬ z = 0) (hr : x - x / z * z = w) (k : mw d y Q (pc + 1) ls (.long w :: st) h) : mw d y Q pc ls (.long z :: .long x :: st) h := mw_st (by rw [mm_at hP]; subst hr; simp [mm_ins, me_i2, me_l2, hz]; rfl) k
theorem mr_ineg {x : Int32} {w : Int32} (hP : mc_P y pc = some (.ineg, l, a, b, v)) (hr : -x = w) (k : mw d y Q (pc + 1) ls (.int w :: st) h) : mw d y Q pc ls (.int x :: st) h := mw_st (by rw [mm_at hP]; subst hr; rfl) k
theorem mr_lneg {x : Int64} {w : Int64} (hP : mc_P y pc = some (.lneg, l, a, b, v)) (hr : -x = w) (k : mw d y Q (pc + 1) ls (.long w :: st) h) : mw d y Q pc ls (.long x :: st) h := mw_st (by rw [mm_at hP]; subst hr; rfl) k
theorem mr_i2l {x : Int32} {w : Int64} (hP : mc_P y pc = some (.i2l, l, a, b, v)) (hr : x.toInt64 = w) (k : mw d y Q (pc + 1) ls (.long w :: st) h) : mw d y Q pc ls (.int x :: st) h := mw_st (by rw [mm_at hP]; subst hr; rfl) k
theorem mr_l2i {x : Int64} {w : Int32} (hP : mc_P y pc = some (.l2i, l, a, b, v)) (hr : x.toInt32 = w) (k : mw d y Q (pc + 1) ls (.int w :: st) h) : mw d y Q pc ls (.long x :: st) h := mw_st (by rw [mm_at hP]; subst hr; rfl) k
theorem mr_i2b {x : Int32} {w : Int32} (hP : mc_P y pc = some (.i2b, l, a, b, v)) (hr : x.toInt8.toInt32 = w) (k : mw d y Q (pc + 1) ls (.int w :: st) h) : mw d y Q pc ls (.int x :: st) h := mw_st (by rw [mm_at hP]; subst hr; rfl) k
theorem mr_i2c {x : Int32} {w : Int32} (hP : mc_P y pc = some (.i2c, l, a, b, v)) (hr : (x.toUInt32 % 65536).toInt32 = w) (k : mw d y Q (pc + 1) ls (.int w :: st) h) : mw d y Q pc ls (.int x :: st) h := mw_st (by rw [mm_at hP]; subst hr; rfl) k
theorem mr_lcmp {x z : Int64} {w : Int32} (hP : mc_P y pc = some (.lcmp, l, a, b, v)) (hr : lg_cmp x z = w) (k : mw d y Q (pc + 1) ls (.int w :: st) h) : mw d y Q pc ls (.long z :: .long x :: st) h := mw_st (by rw [mm_at hP]; subst hr; rfl) k
theorem mr_lshl {x w : Int64} {z : Int32} (hP : mc_P y pc = some (.lshl, l, a, b, v)) (hr : x <<< (z.toInt64 &&& 63) = w) (k : mw d y Q (pc + 1) ls (.long w :: st) h) : mw d y Q pc ls (.int z :: .long x :: st) h := mw_st (by rw [mm_at hP]; subst hr; rfl) k
theorem mr_dup {x : Value} (hP : mc_P y pc = some (.dup, l, a, b, v)) (hc : x.category = 1) (k : mw d y Q (pc + 1) ls (x :: x :: st) h) : mw d y Q pc ls (x :: st) h := mw_st (by rw [mm_at hP]; simp [mm_ins, me_1, hc]; rfl) k
theorem mr_pop {x : Value} (hP : mc_P y pc = some (.pop, l, a, b, v)) (hc : x.category = 1) (k : mw d y Q (pc + 1) ls st h) : mw d y Q pc ls (x :: st) h := mw_st (by rw [mm_at hP]; simp [mm_ins, me_1, hc]; rfl) k
theorem mr_pop2 {x : Value} (hP : mc_P y pc = some (.pop2, l, a, b, v)) (hc : x.category = 2) (k : mw d y Q (pc + 1) ls st h) : mw d y Q pc ls (x :: st) h := mw_st (by rw [mm_at hP]; simp [mm_ins, me_1, hc]; rfl) k
theorem mr_dup_x1 {x z : Value} (hP : mc_P y pc = some (.dup_x1, l, a, b, v)) (hc : x.category = 1) (hc2 : z.category = 1) (k : mw d y Q (pc + 1) ls (x :: z :: x :: st) h) : mw d y Q pc ls (x :: z :: st) h := mw_st (by rw [mm_at hP]; simp [mm_ins, me_1, hc, hc2]; rfl) k
theorem mr_dup2 {x z : Value} (hP : mc_P y pc = some (.dup2, l, a, b, v)) (hc : x.category = 1) (hc2 : z.category = 1) (k : mw d y Q (pc + 1) ls (x :: z :: x :: z :: st) h) : mw d y Q pc ls (x :: z :: st) h := mw_st (by rw [mm_at hP]; simp [mm_ins, me_1, hc, hc2]; rfl) k
theorem mr_goto {off : Int} {tgt : Nat} (hP : mc_P y pc = some (.goto off, l, a, b, v)) (ht : (pc : Int) + off = (tgt : Int)) (k : mw d y Q tgt ls st h) : mw d y Q pc ls st h := mw_st (by rw [mm_at hP]; simp [mm_ins, me_jp, ht]; rfl) k
theorem mr_br {q : Bool} {off : Int} {tgt : Nat} {ins : Instr} {st0 : List Value} (hP : mc_P y pc = some (ins, l, a, b, v)) (hi : mm_ins ins a b v pc ls st0 h = me_br q pc off ls st h) (ht : (pc : Int) + off = (tgt : Int)) (kt : q = true → mw d y Q tgt ls st h) (kf : q = false → mw d y Q (pc + 3) ls st h) : mw d y Q pc ls st0 h := by
  cases q with
  | true => exact mw_st (by rw [mm_at hP, hi]; simp [me_br, me_jp, ht]; rfl) (kt rfl)
  | false => exact mw_st (by rw [mm_at hP, hi]; simp [me_br, me_1, ht]; rfl) (kf rfl)
theorem mr_if_eq {x : Int32} {off : Int} {tgt : Nat} (hP : mc_P y pc = some (.ifCond .eq off, l, a, b, v)) (ht : (pc : Int) + off = (tgt : Int)) (kt : x = 0 → mw d y Q tgt ls st h) (kf : ¬ x = 0 → mw d y Q (pc + 3) ls st h) : mw d y Q pc ls (.int x :: st) h := mr_br hP rfl ht (fun z => kt (of_decide_eq_true z)) (fun z => kf (by have z := of_decide_eq_false z; first | exact z | exact Decidable.not_not.mp z))
theorem mr_icmp_eq {x z : Int32} {off : Int} {tgt : Nat} (hP : mc_P y pc = some (.if_icmp .eq off, l, a, b, v)) (ht : (pc : Int) + off = (tgt : Int)) (kt : x = z → mw d y Q tgt ls st h) (kf : ¬ x = z → mw d y Q (pc + 3) ls st h) : mw d y Q pc ls (.int z :: .int x :: st) h := mr_br hP rfl ht (fun z => kt (of_decide_eq_true z)) (fun z => kf (by have z := of_decide_eq_false z; first | exact z | exact Decidable.not_not.mp z))
theorem mr_if_ne {x : Int32} {off : Int} {tgt : Nat} (hP : mc_P y pc = some (.ifCond .ne off, l, a, b, v)) (ht : (pc : Int) + off = (tgt : Int)) (kt : ¬ x = 0 → mw d y Q tgt ls st h) (kf : x = 0 → mw d y Q (pc + 3) ls st h) : mw d y Q pc ls (.int x :: st) h := mr_br hP rfl ht (fun z => kt (of_decide_eq_true z)) (fun z => kf (by have z := of_decide_eq_false z; first | exact z | exact Decidable.not_not.mp z))
theorem mr_icmp_ne {x z : Int32} {off : Int} {tgt : Nat} (hP : mc_P y pc = some (.if_icmp .ne off, l, a, b, v)) (ht : (pc : Int) + off = (tgt : Int)) (kt : ¬ x = z → mw d y Q tgt ls st h) (kf : x = z → mw d y Q (pc + 3) ls st h) : mw d y Q pc ls (.int z :: .int x :: st) h := mr_br hP rfl ht (fun z => kt (of_decide_eq_true z)) (fun z => kf (by have z := of_decide_eq_false z; first | exact z | exact Decidable.not_not.mp z))
theorem mr_if_lt {x : Int32} {off : Int} {tgt : Nat} (hP : mc_P y pc = some (.ifCond .lt off, l, a, b, v)) (ht : (pc : Int) + off = (tgt : Int)) (kt : x < 0 → mw d y Q tgt ls st h) (kf : ¬ x < 0 → mw d y Q (pc + 3) ls st h) : mw d y Q pc ls (.int x :: st) h := mr_br hP rfl ht (fun z => kt (of_decide_eq_true z)) (fun z => kf (by have z := of_decide_eq_false z; first | exact z | exact Decidable.not_not.mp z))
theorem mr_icmp_lt {x z : Int32} {off : Int} {tgt : Nat} (hP : mc_P y pc = some (.if_icmp .lt off, l, a, b, v)) (ht : (pc : Int) + off = (tgt : Int)) (kt : x < z → mw d y Q tgt ls st h) (kf : ¬ x < z → mw d y Q (pc + 3) ls st h) : mw d y Q pc ls (.int z :: .int x :: st) h := mr_br hP rfl ht (fun z => kt (of_decide_eq_true z)) (fun z => kf (by have z := of_decide_eq_false z; first | exact z | exact Decidable.not_not.mp z))
theorem mr_if_ge {x : Int32} {off : Int} {tgt : Nat} (hP : mc_P y pc = some (.ifCond .ge off, l, a, b, v)) (ht : (pc : Int) + off = (tgt : Int)) (kt : 0 ≤ x → mw d y Q tgt ls st h) (kf : ¬ 0 ≤ x → mw d y Q (pc + 3) ls st h) : mw d y Q pc ls (.int x :: st) h := mr_br hP rfl ht (fun z => kt (of_decide_eq_true z)) (fun z => kf (by have z := of_decide_eq_false z; first | exact z | exact Decidable.not_not.mp z))
theorem mr_icmp_ge {x z : Int32} {off : Int} {tgt : Nat} (hP : mc_P y pc = some (.if_icmp .ge off, l, a, b, v)) (ht : (pc : Int) + off = (tgt : Int)) (kt : z ≤ x → mw d y Q tgt ls st h) (kf : ¬ z ≤ x → mw d y Q (pc + 3) ls st h) : mw d y Q pc ls (.int z :: .int x :: st) h := mr_br hP rfl ht (fun z => kt (of_decide_eq_true z)) (fun z => kf (by have z := of_decide_eq_false z; first | exact z | exact Decidable.not_not.mp z))
theorem mr_if_gt {x : Int32} {off : Int} {tgt : Nat} (hP : mc_P y pc = some (.ifCond .gt off, l, a, b, v)) (ht : (pc : Int) + off = (tgt : Int)) (kt : 0 < x → mw d y Q tgt ls st h) (kf : ¬ 0 < x → mw d y Q (pc + 3) ls st h) : mw d y Q pc ls (.int x :: st) h := mr_br hP rfl ht (fun z => kt (of_decide_eq_true z)) (fun z => kf (by have z := of_decide_eq_false z; first | exact z | exact Decidable.not_not.mp z))
theorem mr_icmp_gt {x z : Int32} {off : Int} {tgt : Nat} (hP : mc_P y pc = some (.if_icmp .gt off, l, a, b, v)) (ht : (pc : Int) + off = (tgt : Int)) (kt : z < x → mw d y Q tgt ls st h) (kf : ¬ z < x → mw d y Q (pc + 3) ls st h) : mw d y Q pc ls (.int z :: .int x :: st) h := mr_br hP rfl ht (fun z => kt (of_decide_eq_true z)) (fun z => kf (by have z := of_decide_eq_false z; first | exact z | exact Decidable.not_not.mp z))
theorem mr_if_le {x : Int32} {off : Int} {tgt : Nat} (hP : mc_P y pc = some (.ifCond .le off, l, a, b, v)) (ht : (pc : Int) + off = (tgt : Int)) (kt : x ≤ 0 → mw d y Q tgt ls st h) (kf : ¬ x ≤ 0 → mw d y Q (pc + 3) ls st h) : mw d y Q pc ls (.int x :: st) h := mr_br hP rfl ht (fun z => kt (of_decide_eq_true z)) (fun z => kf (by have z := of_decide_eq_false z; first | exact z | exact Decidable.not_not.mp z))
theorem mr_icmp_le {x z : Int32} {off : Int} {tgt : Nat} (hP : mc_P y pc = some (.if_icmp .le off, l, a, b, v)) (ht : (pc : Int) + off = (tgt : Int)) (kt : x ≤ z → mw d y Q tgt ls st h) (kf : ¬ x ≤ z → mw d y Q (pc + 3) ls st h) : mw d y Q pc ls (.int z :: .int x :: st) h := mr_br hP rfl ht (fun z => kt (of_decide_eq_true z)) (fun z => kf (by have z := of_decide_eq_false z; first | exact z | exact Decidable.not_not.mp z))
theorem mr_ifnullN {off : Int} {tgt : Nat} (hP : mc_P y pc = some (.ifnull off, l, a, b, v)) (ht : (pc : Int) + off = (tgt : Int)) (k : mw d y Q tgt ls st h) : mw d y Q pc ls (.null :: st) h := mw_st (by rw [mm_at hP]; simp [mm_ins, me_jp, ht]; rfl) k
theorem mr_ifnull {off : Int} {x : Nat} (hP : mc_P y pc = some (.ifnull off, l, a, b, v)) (k : mw d y Q (pc + 3) ls st h) : mw d y Q pc ls (.ref x :: st) h := mw_st (by rw [mm_at hP]; rfl) k
theorem mr_ifnonnullN {off : Int} (hP : mc_P y pc = some (.ifnonnull off, l, a, b, v)) (k : mw d y Q (pc + 3) ls st h) : mw d y Q pc ls (.null :: st) h := mw_st (by rw [mm_at hP]; rfl) k
theorem mr_ifnonnull {off : Int} {tgt x : Nat} (hP : mc_P y pc = some (.ifnonnull off, l, a, b, v)) (ht : (pc : Int) + off = (tgt : Int)) (k : mw d y Q tgt ls st h) : mw d y Q pc ls (.ref x :: st) h := mw_st (by rw [mm_at hP]; simp [mm_ins, me_jp, ht]; rfl) k
theorem mr_tabOut {df lo hi : Int} {offs : Array Int} {x : Int32} {tgt : Nat} (hP : mc_P y pc = some (.tableswitch df lo hi offs, l, a, b, v)) (hc : x.toInt < lo ∨ hi < x.toInt) (ht : (pc : Int) + df = (tgt : Int)) (k : mw d y Q tgt ls st h) : mw d y Q pc ls (.int x :: st) h := mw_st (by rw [mm_at hP]; simp only [mm_ins, decide_eq_true hc]; simp [me_jp, ht]; rfl) k
theorem mr_tabIn {df lo hi : Int} {offs : Array Int} {x : Int32} {off : Int} {tgt : Nat} (hP : mc_P y pc = some (.tableswitch df lo hi offs, l, a, b, v)) (hc : ¬ (x.toInt < lo ∨ hi < x.toInt)) (ho : offs[(x.toInt - lo).toNat]? = some off) (ht : (pc : Int) + off = (tgt : Int)) (k : mw d y Q tgt ls st h) : mw d y Q pc ls (.int x :: st) h := mw_st (by rw [mm_at hP]; simp only [mm_ins, decide_eq_false hc, ho, me_sw]; simp [me_jp, ht]; rfl) k
theorem mr_look {df : Int} {ps : Array (Int × Int)} {x : Int32} {off : Int} {tgt : Nat} (hP : mc_P y pc = some (.lookupswitch df ps, l, a, b, v)) (hs : (ps.toList.zip (ps.toList.drop 1)).all (fun (a, next) => a.1 < next.1) = true) (ho : Op.lookupswitch.offset ps.toList df x.toInt = off) (ht : (pc : Int) + off = (tgt : Int)) (k : mw d y Q tgt ls st h) : mw d y Q pc ls (.int x :: st) h := mw_st (by rw [mm_at hP]; simp only [mm_ins, hs, ho, me_1]; simp [me_jp, ht]; rfl) k
/-! fields: o is an object of class ci -/
theorem mr_geti {idx o ci k : Nat} {x : Int32} (hP : mc_P y pc = some (.getfield idx, l, ci, k, v)) (hk : mh_k h o = ci) (ho : o < mh_n h) (hs : (decide (ci < 100) && (decide (k < mt_nf ci) && (decide (mt_tc ci k = 0) || decide (mt_tc ci k = 3)))) = true) (hv : mh_i h o k = x) (kk : mw d y Q (pc + 3) ls (.int x :: st) h) : mw d y Q pc ls (.ref o :: st) h := by
  simp only [Bool.and_eq_true, Bool.or_eq_true, decide_eq_true_eq] at hs
  have hr : me_rd h o k = .int x := by
    subst hv
    unfold me_rd
    rw [hk]
    rcases hs.2.2 with e | e <;> rw [e] <;> rfl
  exact mw_st (by rw [mm_at hP]; simp [mm_ins, me_1, me_ob, hk, ho, hs.1, hs.2.1, hr]; rfl) kk
theorem mr_getj {idx o ci k : Nat} {x : Int64} (hP : mc_P y pc = some (.getfield idx, l, ci, k, v)) (hk : mh_k h o = ci) (ho : o < mh_n h) (hs : (decide (ci < 100) && (decide (k < mt_nf ci) && decide (mt_tc ci k = 1))) = true) (hv : mh_j h o k = x) (kk : mw d y Q (pc + 3) ls (.long x :: st) h) : mw d y Q pc ls (.ref o :: st) h := by
  simp only [Bool.and_eq_true, decide_eq_true_eq] at hs
  have hr : me_rd h o k = .long x := by
    subst hv
    unfold me_rd
    rw [hk, hs.2.2]
    rfl
  exact mw_st (by rw [mm_at hP]; simp [mm_ins, me_1, me_ob, hk, ho, hs.1, hs.2.1, hr]; rfl) kk
theorem mr_getr {idx o ci k : Nat} {w : Option Nat} {x : Value} (hP : mc_P y pc = some (.getfield idx, l, ci, k, v)) (hk : mh_k h o = ci) (ho : o < mh_n h) (hs : (decide (ci < 100) && (decide (k < mt_nf ci) && decide (mt_tc ci k = 2))) = true) (hw : mh_r h o k = w) (hx : va_rf w = x) (kk : mw d y Q (pc + 3) ls (x :: st) h) : mw d y Q pc ls (.ref o :: st) h := by
  simp only [Bool.and_eq_true, decide_eq_true_eq] at hs
  have hr : me_rd h o k = x := by
    unfold me_rd
    rw [hk, hs.2.2, ← hx, ← hw]
    rfl
  exact mw_st (by rw [mm_at hP]; simp [mm_ins, me_1, me_ob, hk, ho, hs.1, hs.2.1, hr]; rfl) kk
theorem mr_puti {idx o ci k : Nat} {x : Int32} (hP : mc_P y pc = some (.putfield idx, l, ci, k, v)) (hk : mh_k h o = ci) (ho : o < mh_n h) (hs : (decide (ci < 100) && (decide (k < mt_nf ci) && decide (mt_tc ci k = 0))) = true) (kk : mw d y Q (pc + 3) ls st (mh_si h o k x)) : mw d y Q pc ls (.int x :: .ref o :: st) h := by
  simp only [Bool.and_eq_true, decide_eq_true_eq] at hs
  exact mw_st (by rw [mm_at hP]; simp [mm_ins, me_1, me_ph, me_wr, me_ob, hk, ho, hs.1, hs.2.1, hs.2.2]; rfl) kk
theorem mr_putz {idx o ci k : Nat} {x : Int32} (hP : mc_P y pc = some (.putfield idx, l, ci, k, v)) (hk : mh_k h o = ci) (ho : o < mh_n h) (hs : (decide (ci < 100) && (decide (k < mt_nf ci) && decide (mt_tc ci k = 3))) = true) (hz : x = 0 ∨ x = 1) (kk : mw d y Q (pc + 3) ls st (mh_si h o k x)) : mw d y Q pc ls (.int x :: .ref o :: st) h := by
  simp only [Bool.and_eq_true, decide_eq_true_eq] at hs
  exact mw_st (by rw [mm_at hP]; simp [mm_ins, me_1, me_ph, me_wr, me_ob, hk, ho, hs.1, hs.2.1, hs.2.2, hz]; rfl) kk
theorem mr_putj {idx o ci k : Nat} {x : Int64} (hP : mc_P y pc = some (.putfield idx, l, ci, k, v)) (hk : mh_k h o = ci) (ho : o < mh_n h) (hs : (decide (ci < 100) && (decide (k < mt_nf ci) && decide (mt_tc ci k = 1))) = true) (kk : mw d y Q (pc + 3) ls st (mh_sj h o k x)) : mw d y Q pc ls (.long x :: .ref o :: st) h := by
  simp only [Bool.and_eq_true, decide_eq_true_eq] at hs
  exact mw_st (by rw [mm_at hP]; simp [mm_ins, me_1, me_ph, me_wr, me_ob, hk, ho, hs.1, hs.2.1, hs.2.2]; rfl) kk
theorem mr_putr {idx o ci k x : Nat} (hP : mc_P y pc = some (.putfield idx, l, ci, k, v)) (hk : mh_k h o = ci) (ho : o < mh_n h) (hs : (decide (ci < 100) && (decide (k < mt_nf ci) && decide (mt_tc ci k = 2))) = true) (kk : mw d y Q (pc + 3) ls st (mh_sr h o k (some x))) : mw d y Q pc ls (.ref x :: .ref o :: st) h := by
  simp only [Bool.and_eq_true, decide_eq_true_eq] at hs
  exact mw_st (by rw [mm_at hP]; simp [mm_ins, me_1, me_ph, me_wr, me_ob, hk, ho, hs.1, hs.2.1, hs.2.2]; rfl) kk
theorem mr_putn {idx o ci k : Nat} (hP : mc_P y pc = some (.putfield idx, l, ci, k, v)) (hk : mh_k h o = ci) (ho : o < mh_n h) (hs : (decide (ci < 100) && (decide (k < mt_nf ci) && decide (mt_tc ci k = 2))) = true) (kk : mw d y Q (pc + 3) ls st (mh_sr h o k none)) : mw d y Q pc ls (.null :: .ref o :: st) h := by
  simp only [Bool.and_eq_true, decide_eq_true_eq] at hs
  exact mw_st (by rw [mm_at hP]; simp [mm_ins, me_1, me_ph, me_wr, me_ob, hk, ho, hs.1, hs.2.1, hs.2.2]; rfl) kk
/-! rows: i is the place j -/
theorem mr_iald {o j : Nat} {i : Int32} {x : Int32} (hP : mc_P y pc = some (.iaload, l, a, b, v)) (hk : mh_k h o = 100) (ho : o < mh_n h) (hi : 0 ≤ i) (hj : i.toNatClampNeg = j) (hl : j < mh_l h o) (hv : mh_i h o j = x) (kk : mw d y Q (pc + 1) ls (.int x :: st) h) : mw d y Q pc ls (.int i :: .ref o :: st) h := by
  subst hj
  subst hv
  exact mw_st (by rw [mm_at hP]; simp [mm_ins, me_1, me_ix, hk, ho, hi, hl]; rfl) kk
theorem mr_lald {o j : Nat} {i : Int32} {x : Int64} (hP : mc_P y pc = some (.laload, l, a, b, v)) (hk : mh_k h o = 101) (ho : o < mh_n h) (hi : 0 ≤ i) (hj : i.toNatClampNeg = j) (hl : j < mh_l h o) (hv : mh_j h o j = x) (kk : mw d y Q (pc + 1) ls (.long x :: st) h) : mw d y Q pc ls (.int i :: .ref o :: st) h := by
  subst hj
  subst hv
  exact mw_st (by rw [mm_at hP]; simp [mm_ins, me_1, me_ix, hk, ho, hi, hl]; rfl) kk
theorem mr_bald {o j : Nat} {i : Int32} {x : Int32} (hP : mc_P y pc = some (.baload, l, a, b, v)) (hk : mh_k h o = 102 ∨ mh_k h o = 103) (ho : o < mh_n h) (hi : 0 ≤ i) (hj : i.toNatClampNeg = j) (hl : j < mh_l h o) (hv : mh_i h o j = x) (kk : mw d y Q (pc + 1) ls (.int x :: st) h) : mw d y Q pc ls (.int i :: .ref o :: st) h := by
  subst hj
  subst hv
  exact mw_st (by rw [mm_at hP]; rcases hk with hk | hk <;> (simp [mm_ins, me_1, me_ix, hk, ho, hi, hl]; rfl)) kk
theorem mr_aald {o j : Nat} {i : Int32} {w : Option Nat} {x : Value} (hP : mc_P y pc = some (.aaload, l, a, b, v)) (hk : 104 ≤ mh_k h o ∧ mh_k h o < 107) (ho : o < mh_n h) (hi : 0 ≤ i) (hj : i.toNatClampNeg = j) (hl : j < mh_l h o) (hw : mh_r h o j = w) (hx : va_rf w = x) (kk : mw d y Q (pc + 1) ls (x :: st) h) : mw d y Q pc ls (.int i :: .ref o :: st) h := by
  subst hj
  have hr : me_rd h o i.toNatClampNeg = x := by
    unfold me_rd
    rw [mt_tc_ref hk.1 hk.2, ← hx, ← hw]
    rfl
  exact mw_st (by rw [mm_at hP]; simp [mm_ins, me_1, me_ix, hk.1, ho, hi, hl, hr, show mh_k h o < 108 by omega, show 100 ≤ mh_k h o by omega]; rfl) kk
theorem mr_iast {o j : Nat} {i x : Int32} (hP : mc_P y pc = some (.iastore, l, a, b, v)) (hk : mh_k h o = 100) (ho : o < mh_n h) (hi : 0 ≤ i) (hj : i.toNatClampNeg = j) (hl : j < mh_l h o) (kk : mw d y Q (pc + 1) ls st (mh_si h o j x)) : mw d y Q pc ls (.int x :: .int i :: .ref o :: st) h := by
  subst hj
  exact mw_st (by rw [mm_at hP]; simp [mm_ins, me_1, me_ix, hk, ho, hi, hl]; rfl) kk
theorem mr_last {o j : Nat} {i : Int32} {x : Int64} (hP : mc_P y pc = some (.lastore, l, a, b, v)) (hk : mh_k h o = 101) (ho : o < mh_n h) (hi : 0 ≤ i) (hj : i.toNatClampNeg = j) (hl : j < mh_l h o) (kk : mw d y Q (pc + 1) ls st (mh_sj h o j x)) : mw d y Q pc ls (.long x :: .int i :: .ref o :: st) h := by
  subst hj
  exact mw_st (by rw [mm_at hP]; simp [mm_ins, me_1, me_ix, hk, ho, hi, hl]; rfl) kk
theorem mr_bast {o j : Nat} {i x : Int32} (hP : mc_P y pc = some (.bastore, l, a, b, v)) (hk : mh_k h o = 102) (ho : o < mh_n h) (hi : 0 ≤ i) (hj : i.toNatClampNeg = j) (hl : j < mh_l h o) (kk : mw d y Q (pc + 1) ls st (mh_si h o j (vp_nar .byte x))) : mw d y Q pc ls (.int x :: .int i :: .ref o :: st) h := by
  subst hj
  exact mw_st (by rw [mm_at hP]; simp [mm_ins, me_1, me_ix, hk, ho, hi, hl]; rfl) kk
theorem mr_zast {o j : Nat} {i x : Int32} (hP : mc_P y pc = some (.bastore, l, a, b, v)) (hk : mh_k h o = 103) (ho : o < mh_n h) (hi : 0 ≤ i) (hj : i.toNatClampNeg = j) (hl : j < mh_l h o) (kk : mw d y Q (pc + 1) ls st (mh_si h o j (vp_nar .boolean x))) : mw d y Q pc ls (.int x :: .int i :: .ref o :: st) h := by
  subst hj
  exact mw_st (by rw [mm_at hP]; simp [mm_ins, me_1, me_ix, hk, ho, hi, hl]; rfl) kk
theorem mr_aast {o j w : Nat} {i : Int32} (hP : mc_P y pc = some (.aastore, l, a, b, v)) (hk : 104 ≤ mh_k h o ∧ mh_k h o < 107) (ho : o < mh_n h) (hi : 0 ≤ i) (hj : i.toNatClampNeg = j) (hl : j < mh_l h o) (hw : w < mh_n h) (hwk : mh_k h w = me_ac (mh_k h o)) (kk : mw d y Q (pc + 1) ls st (mh_sr h o j (some w))) : mw d y Q pc ls (.ref w :: .int i :: .ref o :: st) h := by
  subst hj
  have h9 : me_ac (mh_k h o) < 100 := by
    have e : mh_k h o = 104 ∨ mh_k h o = 105 ∨ mh_k h o = 106 := by omega
    rcases e with e | e | e <;> rw [e] <;> decide
  exact mw_st (by rw [mm_at hP]; simp [mm_ins, me_1, me_ix, me_rc, hk.1, hk.2, ho, hi, hl, hw, hwk, h9, show 100 ≤ mh_k h o by omega]; rfl) kk
theorem mr_alen {o : Nat} {x : Int32} (hP : mc_P y pc = some (.arraylength, l, a, b, v)) (hk : 100 ≤ mh_k h o ∧ mh_k h o < 108) (ho : o < mh_n h) (hx : Int32.ofNat (mh_l h o) = x) (kk : mw d y Q (pc + 1) ls (.int x :: st) h) : mw d y Q pc ls (.ref o :: st) h := by
  subst hx
  exact mw_st (by rw [mm_at hP]; simp [mm_ins, me_1, hk.1, hk.2, ho]; rfl) kk
theorem mr_new {idx ci : Nat} (hP : mc_P y pc = some (.new idx, l, ci, b, v)) (hc : ci < 15) (kk : mw d y Q (pc + 3) ls (.ref (mh_n h) :: st) (mh_new h ci (mt_nf ci))) : mw d y Q pc ls st h := mw_st (by rw [mm_at hP]; simp [mm_ins, me_1, hc]; rfl) kk
theorem mr_newa {t : ArrayType} {n : Int32} {N kd : Nat} (hP : mc_P y pc = some (.newarray t, l, kd, b, v)) (hn : 0 ≤ n) (hN : n.toNatClampNeg = N) (hb : N ≤ 10000000) (hk : 100 ≤ kd ∧ kd < 104) (kk : mw d y Q (pc + 2) ls (.ref (mh_n h) :: st) (mh_new h kd N)) : mw d y Q pc ls (.int n :: st) h := by
  subst hN
  exact mw_st (by rw [mm_at hP]; simp [mm_ins, me_1, hn, hb, hk.1, hk.2]; rfl) kk
theorem mr_anew {idx : Nat} {n : Int32} {N kd : Nat} (hP : mc_P y pc = some (.anewarray idx, l, kd, b, v)) (hn : 0 ≤ n) (hN : n.toNatClampNeg = N) (hb : N ≤ 10000000) (hk : 104 ≤ kd ∧ kd < 108) (kk : mw d y Q (pc + 3) ls (.ref (mh_n h) :: st) (mh_new h kd N)) : mw d y Q pc ls (.int n :: st) h := by
  subst hN
  exact mw_st (by rw [mm_at hP]; simp [mm_ins, me_1, hn, hb, hk.1, hk.2]; rfl) kk
/-! returns -/
theorem mr_iret {x : Int32} (hP : mc_P y pc = some (.ireturn, l, a, 0, v)) (hq : Q (some (.int x)) h) : mw d y Q pc ls [.int x] h := mw_rt (by rw [mm_at hP]; rfl) hq
theorem mr_zret {x : Int32} (hP : mc_P y pc = some (.ireturn, l, a, 3, v)) (hx : x = 0 ∨ x = 1) (hq : Q (some (.int x)) h) : mw d y Q pc ls [.int x] h := mw_rt (by rw [mm_at hP]; rcases hx with rfl | rfl <;> rfl) hq
theorem mr_lret {x : Int64} (hP : mc_P y pc = some (.lreturn, l, a, b, v)) (hq : Q (some (.long x)) h) : mw d y Q pc ls [.long x] h := mw_rt (by rw [mm_at hP]; rfl) hq
theorem mr_aret {x : Nat} (hP : mc_P y pc = some (.areturn, l, a, b, v)) (hq : Q (some (.ref x)) h) : mw d y Q pc ls [.ref x] h := mw_rt (by rw [mm_at hP]; rfl) hq
theorem mr_vret (hP : mc_P y pc = some (.return_, l, a, b, v)) (hq : Q none h) : mw d y Q pc ls [] h := mw_rt (by rw [mm_at hP]; rfl) hq
/-! calls: the arguments as they stand on the stack, the last one first -/
theorem mr_call {y' n : Nat} {As rest : List Value} {Q' : Option Value → mh_H → Prop} {ins : Instr} {st0 : List Value} (hP : mc_P y pc = some (ins, l, y', b, v)) (hi : mm_ins ins y' b v pc ls st0 h = me_cl y' n st0) (hst : st0 = As.reverse ++ rest) (hn : As.length = n) (hw : (rest.map fun v => v.category).sum ≤ 8) (hsum : (As.map fun v => v.category).sum ≤ mc_nl y') (hc : mcall d y' As h Q') (k : ∀ r h', Q' r h' → mw (d + 1) y Q (pc + 3) ls (r.toList ++ rest) h') : mw (d + 1) y Q pc ls st0 h := by
  subst hst
  refine mw_cl ?_ hsum hc k
  have e1 : (As.reverse ++ rest).take n = As.reverse := by rw [← hn, ← List.length_reverse (as := As), List.take_left]
  have e2 : (As.reverse ++ rest).drop n = rest := by rw [← hn, ← List.length_reverse (as := As), List.drop_left]
  rw [mm_at hP, hi]
  unfold me_cl
  rw [e1, e2, List.reverse_reverse]
  have e3 : n ≤ (As.reverse ++ rest).length := by rw [List.length_append, List.length_reverse]; omega
  simp [me_1, hw, hn]
theorem mr_inv {idx y' ci o : Nat} {As rest st0 : List Value} {Q' : Option Value → mh_H → Prop} (hP : mc_P y pc = some (.invokevirtual idx, l, y', ci, v)) (hci : ci < 15) (hst : st0 = (Value.ref o :: As).reverse ++ rest) (hn : v.toNat = As.length + 1) (hk : mh_k h o = ci) (ho : o < mh_n h) (hw : (rest.map fun v => v.category).sum ≤ 8) (hsum : ((Value.ref o :: As).map fun v => v.category).sum ≤ mc_nl y') (hc : mcall d y' (.ref o :: As) h Q') (k : ∀ r h', Q' r h' → mw (d + 1) y Q (pc + 3) ls (r.toList ++ rest) h') : mw (d + 1) y Q pc ls st0 h := by
  refine mr_call (n := v.toNat) hP ?_ hst hn.symm hw hsum hc k
  have hr : st0[v.toNat - 1]? = some (.ref o) := by
    rw [hst, hn, List.reverse_cons, List.append_assoc, Nat.add_sub_cancel, ← List.length_reverse (as := As), List.getElem?_append_right (Nat.le_refl _), Nat.sub_self]
    rfl
  unfold mm_ins
  dsimp only
  split
  · omega
  · omega
  · rw [hr]
    simp [me_1, me_rc, hk, ho, show ci < 100 by omega, show 1 ≤ v.toNat by omega]
theorem mr_ins {idx y' : Nat} {As rest st0 : List Value} {Q' : Option Value → mh_H → Prop} (hP : mc_P y pc = some (.invokestatic idx, l, y', 0, v)) (hst : st0 = As.reverse ++ rest) (hn : v.toNat = As.length) (hw : (rest.map fun v => v.category).sum ≤ 8) (hsum : (As.map fun v => v.category).sum ≤ mc_nl y') (hc : mcall d y' As h Q') (k : ∀ r h', Q' r h' → mw (d + 1) y Q (pc + 3) ls (r.toList ++ rest) h') : mw (d + 1) y Q pc ls st0 h := mr_call (n := v.toNat) hP rfl hst hn.symm hw hsum hc k
theorem mr_ini {idx y' o : Nat} {As rest st0 : List Value} {Q' : Option Value → mh_H → Prop} (hP : mc_P y pc = some (.invokespecial idx, l, y', b, v)) (hb1 : ¬ b = 1) (hst : st0 = (Value.ref o :: As).reverse ++ rest) (hn : v.toNat = As.length + 1) (hw : (rest.map fun v => v.category).sum ≤ 8) (hsum : ((Value.ref o :: As).map fun v => v.category).sum ≤ mc_nl y') (hc : mcall d y' (.ref o :: As) h Q') (k : ∀ r h', Q' r h' → mw (d + 1) y Q (pc + 3) ls (r.toList ++ rest) h') : mw (d + 1) y Q pc ls st0 h := by
  refine mr_call (n := v.toNat) hP ?_ hst hn.symm hw hsum hc k
  have hr : st0[v.toNat - 1]? = some (.ref o) := by
    rw [hst, hn, List.reverse_cons, List.append_assoc, Nat.add_sub_cancel, ← List.length_reverse (as := As), List.getElem?_append_right (Nat.le_refl _), Nat.sub_self]
    rfl
  unfold mm_ins
  dsimp only
  split
  · omega
  · rw [hr]
    simp [me_1, me_isr, show 1 ≤ v.toNat by omega]
theorem mr_obj {idx o : Nat} (hP : mc_P y pc = some (.invokespecial idx, l, a, 1, v)) (hw : (st.map fun v => v.category).sum ≤ 8) (kk : mw d y Q (pc + 3) ls st h) : mw d y Q pc ls (.ref o :: st) h := mw_st (by rw [mm_at hP]; simp [mm_ins, me_1, hw]; rfl) kk
end MR

