set_option maxRecDepth 100000
/-! trees with numbers of names: what stays -/
def rnN (sp : Nat → Nat → Bool) (L : List Nat) (n : Nat) : Nat := if tK n = 13 then tE 13 (tP n) (nix sp L (tV n).toNat : Nat) else n
section RNl
variable {sp : Nat → Nat → Bool} {L : List Nat} {n : Nat} {cs r : tr}
theorem rn_B : rn sp L (.branch n cs r) = .branch (rnN sp L n) (rn sp L cs) (rn sp L r) := rfl
theorem rn_K : tK (rnN sp L n) = tK n := by
  unfold rnN
  by_cases c : tK n = 13
  · rw [if_pos c, tE_K (by decide)]; exact c.symm
  · rw [if_neg c]
theorem rn_no (h : tK n ≠ 13) : rnN sp L n = n := if_neg h
theorem rn_V (h : tK n = 13) : tV (rnN sp L n) = ((nix sp L (tV n).toNat : Nat) : Int) := by
  unfold rnN
  rw [if_pos h, tE_V (by decide) (by unfold tP; omega)]
theorem rn_P : tP (rnN sp L n) = tP n := by
  unfold rnN
  by_cases c : tK n = 13
  · rw [if_pos c, tE_P (by decide) (by unfold tP; omega)]
  · rw [if_neg c]
theorem tr_in2 {M : tr → Prop} (l : ∀ u, M (.leaf u)) (b : ∀ n cs r, M cs → M (tT cs) → M r → M (.branch n cs r)) : ∀ t, M t := by
  have key : ∀ t, M t ∧ M (tT t) := by
    intro t
    induction t with
    | leaf u => exact ⟨l u, l u⟩
    | branch n cs r ihc ihr => exact ⟨b n cs r ihc.1 ihc.2 ihr.1, ihr.1⟩
  exact fun t => (key t).1
theorem tT_rn (t : tr) : tT (rn sp L t) = rn sp L (tT t) := by cases t <;> rfl
theorem th_rn : ∀ t, th (rn sp L t) = th t := by
  intro t
  induction t with
  | leaf u => rfl
  | branch n cs r ihc ihr =>
    show max (1 + th (rn sp L cs)) (th (rn sp L r)) = max (1 + th cs) (th r)
    rw [ihc, ihr]
theorem tl_rn : ∀ t, tl (rn sp L t) = tl t := by
  intro t
  induction t with
  | leaf u => rfl
  | branch n cs r ihc ihr =>
    show 1 + tl (rn sp L r) = 1 + tl r
    rw [ihr]
theorem tl_tlc : ∀ t : tr, tl t = tlc t := by
  intro t
  induction t with
  | leaf u => rfl
  | branch n cs r ihc ihr =>
    show 1 + tl r = tlc r + 1
    rw [ihr]
    omega
theorem cn_rn : ∀ t, cn3 (rn sp L t) = cn3 t := by
  intro t
  induction t with
  | leaf u => rfl
  | branch n cs r ihc ihr =>
    show max (if tK (rnN sp L n) = 26 then cn3 (rn sp L cs) else if tK (rnN sp L n) = 24 ∨ tK (rnN sp L n) = 25 then 3 + cn3 (rn sp L cs) else 0) (cn3 (rn sp L r)) = max (if tK n = 26 then cn3 cs else if tK n = 24 ∨ tK n = 25 then 3 + cn3 cs else 0) (cn3 r)
    rw [rn_K, ihc, ihr]
theorem jpn_L : pn (.branch n cs r) true = pn cs false + pn r true := by rcases cs with _ | ⟨_, _, _⟩ <;> rfl
theorem pn_rn : ∀ t b, pn (rn sp L t) b = pn t b := by
  refine tr_in2 (fun u b => by cases b <;> rfl) (fun n cs r hc hd hr b => ?_)
  cases b with
  | true => rw [rn_B, jpn_L, jpn_L, hc, hr]
  | false =>
    rcases cs with u | ⟨m, c', r'⟩
    · show (if tK (rnN sp L n) = 15 then 0 else if tK (rnN sp L n) = 17 then 0 else 1) = (if tK n = 15 then 0 else if tK n = 17 then 0 else 1)
      rw [rn_K]
    · have hd' : pn (rn sp L r') true = pn r' true := hd true
      show (if tK (rnN sp L n) = 15 then pn (rn sp L (.branch m c' r')) false else if tK (rnN sp L n) = 17 then pn (rn sp L (.branch m c' r')) false + pn (rn sp L r') true else 1) = (if tK n = 15 then pn (.branch m c' r') false else if tK n = 17 then pn (.branch m c' r') false + pn r' true else 1)
      rw [rn_K, hc, hd']
theorem jcl_L : cl (.branch n cs r) true = cl cs false + 1 + cl r true := by rcases cs with _ | ⟨_, _, _ | ⟨_, _, _⟩⟩ <;> rfl
theorem cl_rn : ∀ t b, cl (rn sp L t) b = cl t b := by
  refine tr_in2 (fun u b => by cases b <;> rfl) (fun n cs r hc hd hr b => ?_)
  cases b with
  | true => rw [rn_B, jcl_L, jcl_L, hc, hr]
  | false =>
    rcases cs with u | ⟨m, c', r'⟩
    · show (if tK (rnN sp L n) = 12 then 1 else if tK (rnN sp L n) = 13 then 1 else if tK (rnN sp L n) = 14 then 1 else if tK (rnN sp L n) = 15 then 0 + 1 else if tK (rnN sp L n) = 16 then 1 else 0) = (if tK n = 12 then 1 else if tK n = 13 then 1 else if tK n = 14 then 1 else if tK n = 15 then 0 + 1 else if tK n = 16 then 1 else 0)
      rw [rn_K]
    · have hd' : cl (rn sp L r') true = cl r' true := hd true
      have hd2 : cl (rn sp L r') false = cl r' false := hd false
      show (if tK (rnN sp L n) = 12 then 1 else if tK (rnN sp L n) = 13 then 1 else if tK (rnN sp L n) = 14 then cl (rn sp L r') false + 1 else if tK (rnN sp L n) = 15 then cl (rn sp L (.branch m c' r')) false + 1 else if tK (rnN sp L n) = 16 then 1 else cl (rn sp L (.branch m c' r')) false + cl (rn sp L r') true) = (if tK n = 12 then 1 else if tK n = 13 then 1 else if tK n = 14 then cl r' false + 1 else if tK n = 15 then cl (.branch m c' r') false + 1 else if tK n = 16 then 1 else cl (.branch m c' r') false + cl r' true)
      rw [rn_K, hc, hd', hd2]
theorem jsh_L : sh (.branch n cs r) true = max (sh cs false) (sh r true) := by rcases cs with _ | ⟨_, _, _⟩ <;> rfl
theorem sh_rn : ∀ t b, sh (rn sp L t) b = sh t b := by
  refine tr_in2 (fun u b => by cases b <;> rfl) (fun n cs r hc hd hr b => ?_)
  cases b with
  | true => rw [rn_B, jsh_L, jsh_L, hc, hr]
  | false =>
    rcases cs with u | ⟨m, c', r'⟩
    · show (if tK (rnN sp L n) = 12 then 1 else if tK (rnN sp L n) = 13 then 1 else if tK (rnN sp L n) = 14 then 1 else if tK (rnN sp L n) = 15 then 0 else if tK (rnN sp L n) = 16 then 1 else 0) = (if tK n = 12 then 1 else if tK n = 13 then 1 else if tK n = 14 then 1 else if tK n = 15 then 0 else if tK n = 16 then 1 else 0)
      rw [rn_K]
    · have hd' : sh (rn sp L r') true = sh r' true := hd true
      have hd2 : sh (rn sp L r') false = sh r' false := hd false
      show (if tK (rnN sp L n) = 12 then 1 else if tK (rnN sp L n) = 13 then 1 else if tK (rnN sp L n) = 14 then sh (rn sp L r') false else if tK (rnN sp L n) = 15 then sh (rn sp L (.branch m c' r')) false else if tK (rnN sp L n) = 16 then 1 else max (sh (rn sp L (.branch m c' r')) false) (1 + sh (rn sp L r') true)) = (if tK n = 12 then 1 else if tK n = 13 then 1 else if tK n = 14 then sh r' false else if tK n = 15 then sh (.branch m c' r') false else if tK n = 16 then 1 else max (sh (.branch m c' r') false) (1 + sh r' true))
      rw [rn_K, hc, hd', hd2]
theorem jpz_L : pz (.branch n cs r) true = ((tK n = 18 ∨ tK n = 19) ∧ pz cs false ∧ pz r true) := by rcases cs with _ | ⟨_, _, _⟩ <;> rfl
theorem pz_rn : ∀ t b, pz (rn sp L t) b = pz t b := by
  refine tr_in2 (fun u b => by cases b <;> rfl) (fun n cs r hc hd hr b => ?_)
  cases b with
  | true => rw [rn_B, jpz_L, jpz_L, hc, hr, rn_K]
  | false =>
    rcases cs with u | ⟨m, c', r'⟩
    · show (if tK (rnN sp L n) = 15 then True else if tK (rnN sp L n) = 17 then True else True) = (if tK n = 15 then True else if tK n = 17 then True else True)
      rw [rn_K]
    · have hd' : pz (rn sp L r') true = pz r' true := hd true
      show (if tK (rnN sp L n) = 15 then pz (rn sp L (.branch m c' r')) false else if tK (rnN sp L n) = 17 then (pz (rn sp L (.branch m c' r')) false ∧ pz (rn sp L r') true) else True) = (if tK n = 15 then pz (.branch m c' r') false else if tK n = 17 then (pz (.branch m c' r') false ∧ pz r' true) else True)
      rw [rn_K, hc, hd']
end RNl
/-- what NAMEs mean here -/
def LOQ (sp : Nat → Nat → Bool) (NL : List Nat) (L : cen) (nb na n a : Nat) (rm : Nat → Nat) (sN : Int → Prop) (en : Int → Nat) : Prop := ∀ v s z, loE sp L v = some (s, z) → sN (nix sp NL v.toNat : Nat) ∧ (z = 0 → en (nix sp NL v.toNat : Nat) = nb + s ∧ nb + s < n) ∧ (0 < z → en (nix sp NL v.toNat : Nat) = na + s ∧ na + s < a ∧ rm (na + s) = z ∧ z ≤ 64)
def abQ (A : ab) (n a : Nat) (rm : Nat → Nat) : Prop := A.n = n ∧ A.a = a ∧ ∀ x, x < a → A.rm x = rm x
section WSl
variable {sp : Nat → Nat → Bool} {NL : List Nat} {L : cen} {nb na nn a : Nat} {rm : Nat → Nat} {sN : Int → Prop} {en : Int → Nat} {A : ab} {lo : lkt} {n m k q : Nat} {cs r c' r' : tr} {C E T W : Nat → Int32} {tu : Bool}
theorem fw_00 {x y : Nat × Nat} (h : (fw x y).1 = 0) : x.1 = 0 ∧ y.1 = 0 := by
  unfold fw at h
  by_cases c : x.1 = 0
  · rw [if_pos c] at h; exact ⟨c, h⟩
  · rw [if_neg c] at h; exact absurd h c
theorem lw_0 (h : (lwT lo (.branch n cs r)).1 = 0) : (lwN lo n cs).1 = 0 ∧ (lwT lo r).1 = 0 := by
  rw [lwT_B] at h
  exact fw_00 h
theorem lk_n {v : Int} (h : lkW lo v false = 0) : ∃ s, lo v = some (s, 0) := by
  unfold lkW at h
  cases e : lo v with
  | none => rw [e] at h; exact absurd h (by decide)
  | some q =>
    rw [e] at h
    have h' : (if 0 < q.2 then 3 else 0) = 0 := h
    by_cases c : 0 < q.2
    · rw [if_pos c] at h'; exact absurd h' (by decide)
    · exact ⟨q.1, by rw [show q = (q.1, 0) from Prod.ext rfl (by show q.2 = 0; omega)]⟩
theorem lk_a {v : Int} (h : lkW lo v true = 0) : ∃ s z, lo v = some (s, z) ∧ 0 < z := by
  unfold lkW at h
  cases e : lo v with
  | none => rw [e] at h; exact absurd h (by decide)
  | some q =>
    rw [e] at h
    have h' : (if 0 < q.2 then 0 else 3) = 0 := h
    by_cases c : 0 < q.2
    · exact ⟨q.1, q.2, rfl, c⟩
    · rw [if_neg c] at h'; exact absurd h' (by decide)
theorem wS_rn (O : LOQ sp NL L nb na nn a rm sN en) (hA : abQ A nn a rm) : ∀ t b, gxT t b → (lwT (loE sp L) t).1 = 0 → wS sN en A (rn sp NL t) b := by
  obtain ⟨a1, a2, a3⟩ := hA
  refine tr_in2 (fun u b g _ => ?_) (fun n cs r hc hd hr b g w => ?_)
  · cases b with
    | false => exact absurd g (fun z => z)
    | true => exact trivial
  obtain ⟨w1, w2⟩ := lw_0 w
  cases b with
  | true =>
    have g' : (tK n = 18 ∨ tK n = 19 ∨ tK n = 21 ∨ tK n = 22 ∨ tK n = 23) ∧ gxT cs false ∧ gxT r true := by rcases cs with _ | ⟨_, _, _ | ⟨_, _, _⟩⟩ <;> exact g
    obtain ⟨g1, g2, g3⟩ := g'
    rw [lwN_o (by omega) (by omega) (by omega)] at w1
    have goal : wS sN en A (.branch (rnN sp NL n) (rn sp NL cs) (rn sp NL r)) true = ((tK (rnN sp NL n) = 18 ∨ tK (rnN sp NL n) = 19 ∨ tK (rnN sp NL n) = 21 ∨ tK (rnN sp NL n) = 22 ∨ tK (rnN sp NL n) = 23) ∧ wS sN en A (rn sp NL cs) false ∧ wS sN en A (rn sp NL r) true) := by rcases cs with _ | ⟨_, _, _ | ⟨_, _, _⟩⟩ <;> rfl
    rw [rn_B, goal, rn_K]
    exact ⟨g1, hc false g2 w1, hr true g3 w2⟩
  | false =>
    rw [rn_B]
    rcases cs with u | ⟨m, c', r'⟩
    · have g' : (if tK n = 12 then iI (tV n) else if tK n = 13 then True else if tK n = 14 then False else if tK n = 15 then False else if tK n = 16 then True else ((tK n = 17 ∨ tK n = 20) ∧ False)) := g
      show (if tK (rnN sp NL n) = 12 then iI (tV (rnN sp NL n)) else if tK (rnN sp NL n) = 13 then sN (tV (rnN sp NL n)) ∧ en (tV (rnN sp NL n)) < A.n else if tK (rnN sp NL n) = 14 then False else if tK (rnN sp NL n) = 15 then False else if tK (rnN sp NL n) = 16 then True else False)
      rw [rn_K]
      by_cases k12 : tK n = 12
      · rw [if_pos k12] at g' ⊢
        rw [rn_no (by omega)]
        exact g'
      rw [if_neg k12] at g' ⊢
      by_cases k13 : tK n = 13
      · rw [if_pos k13, rn_V k13]
        rw [lwN_13 k13] at w1
        obtain ⟨s, e⟩ := lk_n w1
        obtain ⟨o1, o2, -⟩ := O _ _ _ e
        obtain ⟨o2, o3⟩ := o2 rfl
        exact ⟨o1, by rw [o2, a1]; exact o3⟩
      rw [if_neg k13] at g' ⊢
      by_cases k14 : tK n = 14
      · rw [if_pos k14] at g'; exact absurd g' (fun z => z)
      rw [if_neg k14] at g' ⊢
      by_cases k15 : tK n = 15
      · rw [if_pos k15] at g'; exact absurd g' (fun z => z)
      rw [if_neg k15] at g' ⊢
      by_cases k16 : tK n = 16
      · rw [if_pos k16]; exact trivial
      · rw [if_neg k16] at g'; exact absurd g'.2 (fun z => z)
    · rcases r' with u | ⟨m2, c2, r2⟩
      · have g' : (if tK n = 12 then iI (tV n) else if tK n = 13 then True else if tK n = 14 then (tK m = 13 ∧ ts c' = 0 ∧ False) else if tK n = 15 then gxT (.branch m c' (.leaf u)) false else if tK n = 16 then False else ((tK n = 17 ∨ tK n = 20) ∧ gxT (.branch m c' (.leaf u)) false ∧ True)) := g
        show (if tK (rnN sp NL n) = 12 then iI (tV (rnN sp NL n)) else if tK (rnN sp NL n) = 13 then sN (tV (rnN sp NL n)) ∧ en (tV (rnN sp NL n)) < A.n else if tK (rnN sp NL n) = 14 then (ts (rn sp NL c') = 0 ∧ sN (tV (rnN sp NL m)) ∧ en (tV (rnN sp NL m)) < A.a ∧ 1 ≤ A.rm (en (tV (rnN sp NL m))) ∧ A.rm (en (tV (rnN sp NL m))) ≤ 64 ∧ False) else if tK (rnN sp NL n) = 15 then wS sN en A (rn sp NL (.branch m c' (.leaf u))) false else if tK (rnN sp NL n) = 16 then False else (wS sN en A (rn sp NL (.branch m c' (.leaf u))) false ∧ True))
        rw [rn_K]
        by_cases k12 : tK n = 12
        · rw [if_pos k12] at g' ⊢
          rw [rn_no (by omega)]
          exact g'
        rw [if_neg k12] at g' ⊢
        by_cases k13 : tK n = 13
        · rw [if_pos k13, rn_V k13]
          rw [lwN_13 k13] at w1
          obtain ⟨s, e⟩ := lk_n w1
          obtain ⟨o1, o2, -⟩ := O _ _ _ e
          obtain ⟨o2, o3⟩ := o2 rfl
          exact ⟨o1, by rw [o2, a1]; exact o3⟩
        rw [if_neg k13] at g' ⊢
        by_cases k14 : tK n = 14
        · rw [if_pos k14] at g'; exact absurd g'.2.2 (fun z => z)
        rw [if_neg k14] at g' ⊢
        by_cases k15 : tK n = 15
        · rw [if_pos k15] at g' ⊢
          rw [lwN_o k13 k14 (by omega)] at w1
          exact hc false g' w1
        rw [if_neg k15] at g' ⊢
        by_cases k16 : tK n = 16
        · rw [if_pos k16] at g'; exact absurd g' (fun z => z)
        · rw [if_neg k16] at g' ⊢
          rw [lwN_o k13 k14 k16] at w1
          exact ⟨hc false g'.2.1 w1, trivial⟩
      · have g' : (if tK n = 12 then iI (tV n) else if tK n = 13 then True else if tK n = 14 then (tK m = 13 ∧ ts c' = 0 ∧ gxT (.branch m2 c2 r2) false) else if tK n = 15 then gxT (.branch m c' (.branch m2 c2 r2)) false else if tK n = 16 then (ts c' = 0 ∧ (tK m = 12 ∧ tK m2 = 12) ∧ iI (tV m) ∧ iI (tV m2)) else ((tK n = 17 ∨ tK n = 20) ∧ gxT (.branch m c' (.branch m2 c2 r2)) false ∧ gxT (.branch m2 c2 r2) true)) := g
        show (if tK (rnN sp NL n) = 12 then iI (tV (rnN sp NL n)) else if tK (rnN sp NL n) = 13 then sN (tV (rnN sp NL n)) ∧ en (tV (rnN sp NL n)) < A.n else if tK (rnN sp NL n) = 14 then (ts (rn sp NL c') = 0 ∧ sN (tV (rnN sp NL m)) ∧ en (tV (rnN sp NL m)) < A.a ∧ 1 ≤ A.rm (en (tV (rnN sp NL m))) ∧ A.rm (en (tV (rnN sp NL m))) ≤ 64 ∧ wS sN en A (rn sp NL (.branch m2 c2 r2)) false) else if tK (rnN sp NL n) = 15 then wS sN en A (rn sp NL (.branch m c' (.branch m2 c2 r2))) false else if tK (rnN sp NL n) = 16 then (ts (rn sp NL c') = 0 ∧ iI (tV (rnN sp NL m)) ∧ iI (tV (rnN sp NL m2)) ∧ tV (rnN sp NL m) ≤ tV (rnN sp NL m2)) else (wS sN en A (rn sp NL (.branch m c' (.branch m2 c2 r2))) false ∧ wS sN en A (rn sp NL (.branch m2 c2 r2)) true))
        rw [rn_K]
        by_cases k12 : tK n = 12
        · rw [if_pos k12] at g' ⊢
          rw [rn_no (by omega)]
          exact g'
        rw [if_neg k12] at g' ⊢
        by_cases k13 : tK n = 13
        · rw [if_pos k13, rn_V k13]
          rw [lwN_13 k13] at w1
          obtain ⟨s, e⟩ := lk_n w1
          obtain ⟨o1, o2, -⟩ := O _ _ _ e
          obtain ⟨o2, o3⟩ := o2 rfl
          exact ⟨o1, by rw [o2, a1]; exact o3⟩
        rw [if_neg k13] at g' ⊢
        by_cases k14 : tK n = 14
        · rw [if_pos k14] at g' ⊢
          rw [lwN_14 k14] at w1
          obtain ⟨g1, g2, g3⟩ := g'
          obtain ⟨w3, w4⟩ := fw_00 w1
          obtain ⟨s, z, e, hz⟩ := lk_a w3
          obtain ⟨o1, -, o2⟩ := O _ _ _ e
          obtain ⟨o3, o4, o5, o6⟩ := o2 hz
          rw [rn_V g1, ts_rn, o3]
          exact ⟨g2, o1, by rw [a2]; exact o4, by rw [a3 _ o4, o5]; exact hz, by rw [a3 _ o4, o5]; exact o6, hd false g3 w4⟩
        rw [if_neg k14] at g' ⊢
        by_cases k15 : tK n = 15
        · rw [if_pos k15] at g' ⊢
          rw [lwN_o k13 k14 (by omega)] at w1
          exact hc false g' w1
        rw [if_neg k15] at g' ⊢
        by_cases k16 : tK n = 16
        · rw [if_pos k16] at g' ⊢
          rw [lwN_16b k16] at w1
          obtain ⟨g1, ⟨g2, g3⟩, g4, g5⟩ := g'
          rw [rn_no (by omega), rn_no (by omega), ts_rn]
          refine ⟨g1, g4, g5, ?_⟩
          by_cases c : tV m2 < tV m
          · rw [if_pos c] at w1; exact absurd w1 (by show ¬ 8 = 0; decide)
          · omega
        · rw [if_neg k16] at g' ⊢
          rw [lwN_o k13 k14 k16] at w1
          exact ⟨hc false g'.2.1 w1, hd true g'.2.2 (lw_0 w1).2⟩
end WSl
