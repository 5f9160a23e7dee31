set_option maxRecDepth 100000
/-! NAMES, pure: a list of tokens, no two spelled alike; a token's number; a tree with numbers instead of tokens -/
def nix (sp : Nat → Nat → Bool) : List Nat → Nat → Nat
  | [], _ => 0
  | a :: l, t => if sp a t = true then 0 else nix sp l t + 1
def nad (sp : Nat → Nat → Bool) (L : List Nat) (t : Nat) : List Nat := if nix sp L t < L.length then L else L ++ [t]
def rn (sp : Nat → Nat → Bool) (L : List Nat) : tr → tr
  | .leaf u => .leaf u
  | .branch n cs r => .branch (if tK n = 13 then tE 13 (tP n) (nix sp L (tV n).toNat : Nat) else n) (rn sp L cs) (rn sp L r)
def knT (sp : Nat → Nat → Bool) (L : List Nat) : tr → Prop
  | .leaf _ => True
  | .branch n cs r => (tK n = 13 → nix sp L (tV n).toNat < L.length) ∧ knT sp L cs ∧ knT sp L r
def lsN (f : Nat → Nat) : List Nat → Nat
  | [] => 0
  | a :: l => f a + lsN f l
def smN (f : Nat → Nat) : Nat → Nat
  | 0 => 0
  | m + 1 => smN f m + f m
/-- names in order -/
def nmG (sp : Nat → Nat → Bool) (K : Nat → Int32) (m : Nat) : List Nat → Prop
  | [] => True
  | a :: l => (a < m ∧ K a = 2 ∧ ∀ b, b ∈ l → sp a b = false) ∧ nmG sp K m l
section NXs
variable {sp : Nat → Nat → Bool} {L M : List Nat} {t m : Nat} {K : Nat → Int32}
theorem nix_le : ∀ L, nix sp L t ≤ L.length := by
  intro L
  induction L with
  | nil => exact Nat.le_refl _
  | cons a l ih =>
    show (if sp a t = true then 0 else nix sp l t + 1) ≤ l.length + 1
    split <;> omega
theorem nix_app : ∀ L, nix sp L t < L.length → nix sp (L ++ M) t = nix sp L t := by
  intro L
  induction L with
  | nil => exact fun h => absurd h (Nat.not_lt_zero _)
  | cons a l ih =>
    intro h
    have h' : (if sp a t = true then 0 else nix sp l t + 1) < l.length + 1 := h
    show (if sp a t = true then 0 else nix sp (l ++ M) t + 1) = (if sp a t = true then 0 else nix sp l t + 1)
    by_cases c : sp a t = true
    · rw [if_pos c, if_pos c]
    · rw [if_neg c] at h' ⊢
      rw [if_neg c, ih (by omega)]
theorem nix_nw : ∀ L, ¬ nix sp L t < L.length → sp t t = true → nix sp (L ++ [t]) t = L.length := by
  intro L
  induction L with
  | nil =>
    intro _ e
    show (if sp t t = true then 0 else _) = 0
    rw [if_pos e]
  | cons a l ih =>
    intro h e
    have h' : ¬ (if sp a t = true then 0 else nix sp l t + 1) < l.length + 1 := h
    show (if sp a t = true then 0 else nix sp (l ++ [t]) t + 1) = l.length + 1
    by_cases c : sp a t = true
    · rw [if_pos c] at h'; omega
    · rw [if_neg c] at h' ⊢
      rw [ih (by omega) e]
theorem nix_no : ∀ L, ¬ nix sp L t < L.length → ∀ a, a ∈ L → sp a t = false := by
  intro L
  induction L with
  | nil => intro _ a h; cases h
  | cons b l ih =>
    intro h a ha
    have h' : ¬ (if sp b t = true then 0 else nix sp l t + 1) < l.length + 1 := h
    by_cases c : sp b t = true
    · rw [if_pos c] at h'; omega
    · rw [if_neg c] at h'
      rcases List.mem_cons.mp ha with e | e
      · rw [e]; exact Bool.eq_false_iff.mpr c
      · exact ih (by omega) a e
theorem nix_yes : ∀ L, nix sp L t < L.length → ∃ a, L[nix sp L t]? = some a ∧ sp a t = true := by
  intro L
  induction L with
  | nil => exact fun h => absurd h (Nat.not_lt_zero _)
  | cons b l ih =>
    intro h
    have h' : (if sp b t = true then 0 else nix sp l t + 1) < l.length + 1 := h
    have e : nix sp (b :: l) t = (if sp b t = true then 0 else nix sp l t + 1) := rfl
    rw [e]
    by_cases c : sp b t = true
    · rw [if_pos c]; exact ⟨b, rfl, c⟩
    · rw [if_neg c] at h' ⊢
      exact ih (by omega)
theorem nad_k (e : sp t t = true) : nix sp (nad sp L t) t < (nad sp L t).length ∧ nix sp (nad sp L t) t = nix sp L t := by
  unfold nad
  by_cases c : nix sp L t < L.length
  · rw [if_pos c]; exact ⟨c, rfl⟩
  · rw [if_neg c, nix_nw L c e, List.length_append]
    have := nix_le (sp := sp) (t := t) L
    exact ⟨by show L.length < L.length + 1; omega, by omega⟩
theorem nad_x : ∃ M, nad sp L t = L ++ M := by
  unfold nad
  split
  · exact ⟨[], (List.append_nil _).symm⟩
  · exact ⟨[t], rfl⟩
theorem rn_app : ∀ t, knT sp L t → rn sp (L ++ M) t = rn sp L t ∧ knT sp (L ++ M) t := by
  intro t
  induction t with
  | leaf u => exact fun _ => ⟨rfl, trivial⟩
  | branch n cs r i1 i2 =>
    intro z
    obtain ⟨z1, z2, z3⟩ := z
    obtain ⟨a1, a2⟩ := i1 z2
    obtain ⟨b1, b2⟩ := i2 z3
    refine ⟨?_, fun k => ?_, a2, b2⟩
    · show Lean.RArray.branch (if tK n = 13 then tE 13 (tP n) (nix sp (L ++ M) (tV n).toNat : Nat) else n) (rn sp (L ++ M) cs) (rn sp (L ++ M) r) = Lean.RArray.branch (if tK n = 13 then tE 13 (tP n) (nix sp L (tV n).toNat : Nat) else n) (rn sp L cs) (rn sp L r)
      rw [a1, b1]
      by_cases c : tK n = 13
      · rw [if_pos c, if_pos c, nix_app L (z1 c)]
      · rw [if_neg c, if_neg c]
    · rw [nix_app L (z1 k), List.length_append]
      have := z1 k
      omega
theorem ts_rn : ∀ t, ts (rn sp L t) = ts t := by
  intro t
  induction t with
  | leaf u => rfl
  | branch n cs r i1 i2 =>
    show 1 + ts (rn sp L cs) + ts (rn sp L r) = 1 + ts cs + ts r
    rw [i1, i2]
theorem sm_o (f : Nat → Nat) {a : Nat} : ∀ m, m ≤ a → smN (fun i => if i = a then 0 else f i) m = smN f m := by
  intro m
  induction m with
  | zero => exact fun _ => rfl
  | succ m ih =>
    intro h
    show smN _ m + (if m = a then 0 else f m) = smN f m + f m
    rw [ih (by omega), if_neg (by omega)]
theorem sm_z (f : Nat → Nat) {a : Nat} : ∀ m, a < m → smN f m = f a + smN (fun i => if i = a then 0 else f i) m := by
  intro m
  induction m with
  | zero => exact fun h => absurd h (Nat.not_lt_zero _)
  | succ m ih =>
    intro h
    show smN f m + f m = f a + (smN (fun i => if i = a then 0 else f i) m + (if m = a then 0 else f m))
    by_cases c : m = a
    · rw [if_pos c, sm_o f m (by omega), c]; omega
    · rw [if_neg c, ih (by omega)]; omega
theorem ls_z (f : Nat → Nat) {a : Nat} : ∀ l : List Nat, a ∉ l → lsN (fun i => if i = a then 0 else f i) l = lsN f l := by
  intro l
  induction l with
  | nil => exact fun _ => rfl
  | cons b l ih =>
    intro h
    show (if b = a then 0 else f b) + lsN _ l = f b + lsN f l
    rw [if_neg (fun z => h (by rw [z]; exact List.mem_cons_self)), ih (fun z => h (List.mem_cons_of_mem _ z))]
theorem ls_sm : ∀ (l : List Nat) (f : Nat → Nat), l.Nodup → (∀ a, a ∈ l → a < m) → lsN f l ≤ smN f m := by
  intro l
  induction l with
  | nil => exact fun f _ _ => Nat.zero_le _
  | cons a l ih =>
    intro f nd hm
    obtain ⟨n1, n2⟩ := List.nodup_cons.mp nd
    have := ih (fun i => if i = a then 0 else f i) n2 (fun b hb => hm b (List.mem_cons_of_mem _ hb))
    rw [ls_z f l n1] at this
    rw [sm_z f m (hm a List.mem_cons_self)]
    show f a + lsN f l ≤ _
    omega
theorem nmG_n : ∀ L, (∀ a, sp a a = true) → nmG sp K m L → L.Nodup ∧ ∀ a, a ∈ L → a < m ∧ K a = 2 := by
  intro L
  induction L with
  | nil => exact fun _ _ => ⟨List.nodup_nil, fun a h => by cases h⟩
  | cons b l ih =>
    intro e z
    obtain ⟨⟨z1, z2, z3⟩, z4⟩ := z
    obtain ⟨i1, i2⟩ := ih e z4
    refine ⟨List.nodup_cons.mpr ⟨fun h => ?_, i1⟩, fun a ha => ?_⟩
    · have := z3 b h
      rw [e b] at this
      cases this
    · rcases List.mem_cons.mp ha with q | q
      · rw [q]; exact ⟨z1, z2⟩
      · exact i2 a q
theorem nmG_a (ht : t < m) (k2 : K t = 2) : ∀ L, nmG sp K m L → (∀ a, a ∈ L → sp a t = false) → nmG sp K m (L ++ [t]) := by
  intro L
  induction L with
  | nil => exact fun _ _ => ⟨⟨ht, k2, fun b h => by cases h⟩, trivial⟩
  | cons b l ih =>
    intro z h
    obtain ⟨⟨z1, z2, z3⟩, z4⟩ := z
    refine ⟨⟨z1, z2, fun c hc => ?_⟩, ih z4 (fun a ha => h a (List.mem_cons_of_mem _ ha))⟩
    rcases List.mem_append.mp hc with q | q
    · exact z3 c q
    · rw [List.mem_singleton.mp q]
      exact h b List.mem_cons_self
theorem nad_G (ht : t < m) (k2 : K t = 2) (G : nmG sp K m L) : nmG sp K m (nad sp L t) := by
  unfold nad
  split
  · exact G
  · rename_i c
    exact nmG_a ht k2 L G (nix_no L c)
theorem ls_app (f : Nat → Nat) : ∀ L M : List Nat, lsN f (L ++ M) = lsN f L + lsN f M := by
  intro L
  induction L with
  | nil => intro M; show lsN f M = 0 + lsN f M; omega
  | cons a l ih => intro M; show f a + lsN f (l ++ M) = f a + lsN f l + lsN f M; rw [ih]; omega
theorem ls_tk (f : Nat → Nat) : ∀ (L : List Nat) k a, L[k]? = some a → lsN f (L.take (k + 1)) = lsN f (L.take k) + f a ∧ lsN f (L.take k) + f a ≤ lsN f L := by
  intro L
  induction L with
  | nil => intro k a h; cases h
  | cons b l ih =>
    intro k a h
    cases k with
    | zero =>
      cases h
      refine ⟨?_, ?_⟩
      · show f b + lsN f [] = 0 + f b
        show f b + 0 = 0 + f b
        omega
      · show 0 + f b ≤ f b + lsN f l
        omega
    | succ k =>
      obtain ⟨i1, i2⟩ := ih k a h
      refine ⟨?_, ?_⟩
      · show f b + lsN f (l.take (k + 1)) = f b + lsN f (l.take k) + f a
        omega
      · show f b + lsN f (l.take k) + f a ≤ f b + lsN f l
        omega
theorem sm_sh (f : Nat → Nat) : ∀ m, smN f (m + 1) = f 0 + smN (fun i => f (i + 1)) m := by
  intro m
  induction m with
  | zero => show 0 + f 0 = f 0 + 0; omega
  | succ m ih =>
    show smN f (m + 1) + f (m + 1) = f 0 + (smN (fun i => f (i + 1)) m + f (m + 1))
    rw [ih]; omega
end NXs
theorem wt_sm : ∀ T : tks, smN (fun i => if tkK T i = 2 then tkWd T i + 1 else 0) T.length = wtL T := by
  intro T
  induction T with
  | nil => rfl
  | cons e r ih =>
    obtain ⟨k, p, w⟩ := e
    rw [List.length_cons, sm_sh]
    show (if k = 2 then w + 1 else 0) + smN (fun i => if tkK r i = 2 then tkWd r i + 1 else 0) r.length = _
    rw [ih]
    rfl
theorem spz_r {Bt : Nat → Int32} {n a : Nat} : ∀ f k, spz Bt n a a f k = true := by
  intro f
  induction f with
  | zero => exact fun _ => rfl
  | succ f ih =>
    intro k
    show (if bt Bt n (a + k) = bt Bt n (a + k) then spz Bt n a a f (k + 1) else false) = true
    rw [if_pos rfl, ih]
theorem spe_r {Bt : Nat → Int32} {n a : Nat} {P U : Nat → Nat} : spe Bt n P U a a = true := by
  unfold spe
  rw [if_pos rfl, spz_r]
/-- how many names, how many letters -/
theorem nm_room {Bt : Nat → Int32} {n : Nat} {L : List Nat} (G : nmG (spe Bt n (tkPl (toks Bt n)) (tkWd (toks Bt n))) (tkK (toks Bt n)) (toks Bt n).length L) : lsN (tkWd (toks Bt n)) L + L.length ≤ n + 1 ∧ 2 * L.length ≤ n + 1 := by
  obtain ⟨nd, am⟩ := nmG_n L (fun _ => spe_r) G
  have h1 := ls_sm (m := (toks Bt n).length) L (fun i => if tkK (toks Bt n) i = 2 then tkWd (toks Bt n) i + 1 else 0) nd (fun a ha => (am a ha).1)
  rw [wt_sm] at h1
  have h2 := toks_w (B := Bt) (n := n)
  have key : ∀ l : List Nat, (∀ a, a ∈ l → a < (toks Bt n).length ∧ tkK (toks Bt n) a = 2) → lsN (fun i => if tkK (toks Bt n) i = 2 then tkWd (toks Bt n) i + 1 else 0) l = lsN (tkWd (toks Bt n)) l + l.length ∧ l.length ≤ lsN (tkWd (toks Bt n)) l := by
    intro l
    induction l with
    | nil => exact fun _ => ⟨rfl, Nat.le_refl _⟩
    | cons a l ih =>
      intro h
      obtain ⟨i1, i2⟩ := ih (fun b hb => h b (List.mem_cons_of_mem _ hb))
      obtain ⟨a1, a2⟩ := h a List.mem_cons_self
      have w1 := ((tkG_i (B := Bt) (n := n) (toks Bt n) 0 a toks_G a1).2.2.1 (by rw [a2]; decide) (by rw [a2]; decide)).1
      refine ⟨?_, ?_⟩
      · show (if tkK (toks Bt n) a = 2 then tkWd (toks Bt n) a + 1 else 0) + lsN _ l = tkWd (toks Bt n) a + lsN (tkWd (toks Bt n)) l + (l.length + 1)
        rw [if_pos a2, i1]; omega
      · show l.length + 1 ≤ tkWd (toks Bt n) a + lsN (tkWd (toks Bt n)) l
        omega
  obtain ⟨k1, k2⟩ := key L am
  rw [k1] at h1
  omega
