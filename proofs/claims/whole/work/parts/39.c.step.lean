set_option maxRecDepth 100000
/-! a step of Effect: what it writes, what stays -/
def efW (h : mh_H) (b j : Nat) : Prop := (b = 34 ∧ (j = 2 ∨ j = 3 ∨ j = 4 ∨ j = 6 ∨ j = 8)) ∨ b = 35 ∨ (36 ≤ b ∧ b ≤ 38) ∨ b = 41 ∨ b = 51 ∨ b = 52 ∨ mh_r h 35 9 = some b ∨ mh_r h 35 10 = some b ∨ ∃ o, mine 0 h o ∧ o ≤ b ∧ b ≤ o + 2
def sE (h h' : mh_H) : Prop := fD (efW h) h h' ∧ (∀ o, mine 0 h' o → mine 0 h o ∨ mh_n h ≤ o) ∧ ∀ x, mh_r h' 35 9 = some x ∨ mh_r h' 35 10 = some x → mh_r h 35 9 = some x ∨ mh_r h 35 10 = some x ∨ mh_n h ≤ x
/-- what stands before and behind each of them -/
abbrev BS (h : mh_H) (Y C E TT UU SC SP nC nE nS : Nat) : Prop := (CF h) ∧ (CS h) ∧ (∃ P R lP, CP h P R lP) ∧ (SQ h Y C E TT UU SC SP nC nE nS) ∧ (mh_r h 2 1 = some Y) ∧ (2644 ≤ mh_n h) ∧ (∃ Ho Fa Be, mh_r h 34 2 = some Ho ∧ mh_r h 34 3 = some Fa ∧ mh_r h 34 4 = some Be)
theorem BS.F {h : mh_H} {Y C E TT UU SC SP nC nE nS : Nat} (q : BS h Y C E TT UU SC SP nC nE nS) : CF h := q.1
theorem BS.S {h : mh_H} {Y C E TT UU SC SP nC nE nS : Nat} (q : BS h Y C E TT UU SC SP nC nE nS) : CS h := q.2.1
theorem BS.p {h : mh_H} {Y C E TT UU SC SP nC nE nS : Nat} (q : BS h Y C E TT UU SC SP nC nE nS) : ∃ P R lP, CP h P R lP := q.2.2.1
theorem BS.q {h : mh_H} {Y C E TT UU SC SP nC nE nS : Nat} (q : BS h Y C E TT UU SC SP nC nE nS) : SQ h Y C E TT UU SC SP nC nE nS := q.2.2.2.1
theorem BS.y {h : mh_H} {Y C E TT UU SC SP nC nE nS : Nat} (q : BS h Y C E TT UU SC SP nC nE nS) : mh_r h 2 1 = some Y := q.2.2.2.2.1
theorem BS.N {h : mh_H} {Y C E TT UU SC SP nC nE nS : Nat} (q : BS h Y C E TT UU SC SP nC nE nS) : 2644 ≤ mh_n h := q.2.2.2.2.2.1
theorem BS.o {h : mh_H} {Y C E TT UU SC SP nC nE nS : Nat} (q : BS h Y C E TT UU SC SP nC nE nS) : ∃ Ho Fa Be, mh_r h 34 2 = some Ho ∧ mh_r h 34 3 = some Fa ∧ mh_r h 34 4 = some Be := q.2.2.2.2.2.2
section EFs
variable {d : Nat} {h h1 h2 : mh_H} {P R lP Y C E TT UU SC SP nC nE nS nb na Ho Fa Be n : Nat}
theorem sE_id : sE h h := ⟨fD_id, fun _ x => Or.inl x, fun x w => w.elim Or.inl (fun w => Or.inr (Or.inl w))⟩
theorem sE_t (x : sE h h1) (y : sE h1 h2) : sE h h2 := by
  have w : fz (fun b j => efW h b j ∨ mh_n h ≤ b) h1 h2 := fz_w y.1.1 (fun b j _ z => by
    unfold efW at z ⊢
    rcases z with z | z | z | z | z | z | z | z | ⟨o, o1, o2⟩
    · exact Or.inl (Or.inl z)
    · exact Or.inl (Or.inr (Or.inl z))
    · exact Or.inl (Or.inr (Or.inr (Or.inl z)))
    · exact Or.inl (Or.inr (Or.inr (Or.inr (Or.inl z))))
    · exact Or.inl (Or.inr (Or.inr (Or.inr (Or.inr (Or.inl z)))))
    · exact Or.inl (Or.inr (Or.inr (Or.inr (Or.inr (Or.inr (Or.inl z))))))
    · rcases x.2.2 b (Or.inl z) with q | q | q
      · exact Or.inl (Or.inr (Or.inr (Or.inr (Or.inr (Or.inr (Or.inr (Or.inl q)))))))
      · exact Or.inl (Or.inr (Or.inr (Or.inr (Or.inr (Or.inr (Or.inr (Or.inr (Or.inl q))))))))
      · exact Or.inr q
    · rcases x.2.2 b (Or.inr z) with q | q | q
      · exact Or.inl (Or.inr (Or.inr (Or.inr (Or.inr (Or.inr (Or.inr (Or.inl q)))))))
      · exact Or.inl (Or.inr (Or.inr (Or.inr (Or.inr (Or.inr (Or.inr (Or.inr (Or.inl q))))))))
      · exact Or.inr q
    · rcases x.2.1 o o1 with q | q
      · exact Or.inl (Or.inr (Or.inr (Or.inr (Or.inr (Or.inr (Or.inr (Or.inr (Or.inr ⟨o, q, o2⟩))))))))
      · exact Or.inr (by omega))
  have n1 := x.1.1.1
  refine ⟨⟨fz_n (m := 0) (Nat.zero_le _) x.1.1 w, Int.le_trans y.1.2.1 x.1.2.1, Int.le_trans y.1.2.2 x.1.2.2⟩, fun o ho => ?_, fun o ho => ?_⟩
  · rcases y.2.1 o ho with q | q
    · exact x.2.1 o q
    · exact Or.inr (by omega)
  · rcases y.2.2 o ho with q | q | q
    · exact x.2.2 o (Or.inl q)
    · exact x.2.2 o (Or.inr q)
    · exact Or.inr (Or.inr (by omega))
/-- what changes no reference -/
theorem sE_G {W : Nat → Nat → Prop} (y : mh_r h 2 1 = some Y) (x : fG W h h1) (w : ∀ b j, W b j → efW h b j) (wy : ¬ W Y 5) : sE h h1 := by
  refine ⟨fD_w (fG_D x (fun Z hZ => ?_)) (fun b j _ v => w b j v), fun o m => Or.inl ?_, fun v hv => ?_⟩
  · rw [y] at hZ; cases hZ; exact wy
  · unfold mine at m ⊢; rw [fG_r x] at m; exact m
  · rw [fG_r x] at hv; exact hv.elim Or.inl (fun q => Or.inr (Or.inl q))
theorem mine_cs {m o : Nat} (x : mine m h o) : cs h o := by
  rcases x with x | x | x | ⟨i, -, x⟩
  · exact ⟨34, 2, Or.inl ⟨rfl, by omega⟩, x⟩
  · exact ⟨34, 3, Or.inl ⟨rfl, by omega⟩, x⟩
  · exact ⟨34, 4, Or.inl ⟨rfl, by omega⟩, x⟩
  · exact ⟨51, i, Or.inr (Or.inl rfl), x⟩
/-- a State that isn't Effect's stays -/
theorem sE_k (B : BS h Y C E TT UU SC SP nC nE nS) {o : Nat} {v : Option ab} (x : sE h h1) (c : cs h o) (no : ¬ mine 0 h o) (k : RS h o v) : RS h1 o v := by
  obtain ⟨P, R, lP, p⟩ := B.p
  refine RS_fz x.1.1 (fun y hy j w => ?_) k
  have a := (cs_so B.S c).2
  unfold cAd at a
  have pP := p.s o c P (by simp)
  have pR := p.s o c R (by simp)
  unfold efW at w
  rcases w with w | w | w | w | w | w | w | w | ⟨o', m1, m2, m3⟩
  · omega
  · omega
  · omega
  · omega
  · omega
  · omega
  · rw [p.r9] at w; cases w; omega
  · rw [p.r10] at w; cases w; omega
  · have := cs_ap B.S c (mine_cs m1) (fun z => no (by rw [z]; exact m1))
    omega
/-- other cells stay -/
theorem sE_i (B : BS h Y C E TT UU SC SP nC nE nS) {b c : Nat} (x : sE h h1) (g : mg h b c) (c8 : c ≠ 8) (c1 : c ≠ 101) (nb' : ¬ (b = 34 ∨ b = 35 ∨ b = 38 ∨ b = 41 ∨ b = 51)) (j : Nat) : mh_i h1 b j = mh_i h b j ∧ mh_r h1 b j = mh_r h b j := by
  obtain ⟨P, R, lP, p⟩ := B.p
  have w : ¬ efW h b j := fun w => by
    have k36 := (B.F.g 36 101 124 (by decide +kernel)).1
    have k37 := (B.F.g 37 101 124 (by decide +kernel)).1
    have k52 := (B.F.g 52 101 48 (by decide +kernel)).1
    have g1 := g.1
    unfold efW at w
    rcases w with w | w | w | w | w | w | w | w | ⟨o, o1, o2, o3⟩
    · omega
    · omega
    · have : b = 36 ∨ b = 37 := by omega
      rcases this with e | e <;> (rw [e] at g1; omega)
    · omega
    · omega
    · rw [w] at g1; omega
    · rw [p.r9] at w; cases w; have := p.g9.1; omega
    · rw [p.r10] at w; cases w; have := p.g10.1; omega
    · have := so_k (cs_so B.S (mine_cs o1)).1 g c8 c1
      omega
  have := x.1.1.2.2 b j g.2 w
  exact ⟨this.1, this.2.2⟩
theorem SU_sE {lQ : Nat} {sN : Int → Prop} {en : Int → Nat} {A : ab} {t : tr} {tu : Bool} {sum c0 p0 : Nat} (B : BS h Y C E TT UU SC SP nC nE nS) (x : sE h h1) (U : SU h C E TT UU SC SP nC nE nS lQ nb na sN en A t tu sum c0 p0) : SU h1 C E TT UU SC SP nC nE nS lQ nb na sN en A t tu sum c0 p0 := by
  have q := B.q
  have e : ∀ b, mg h b 100 → (b = C ∨ b = E ∨ b = TT ∨ b = UU ∨ b = SC ∨ b = SP) → mh_i h1 b = mh_i h b := fun b g hb => funext fun j => (sE_i B x g (by omega) (by omega) (by have := q.n b (by omega); omega) j).1
  have eC := e C q.gC (by simp)
  have eE := e E q.gE (by simp)
  have eT := e TT q.gT (by simp)
  have eU := e UU q.gU (by simp)
  have e6 := e SC q.g6 (by simp)
  have e7 := e SP q.g7 (by simp)
  exact ⟨U.s, by rw [e6]; exact U.c0, by rw [e6]; exact U.c1, by rw [e7]; exact U.p0, by rw [e7]; exact U.p1, by rw [eC]; exact U.c, U.w, U.z, U.m, by rw [eE]; exact U.e, by rw [eT, eU]; exact U.u, U.b1, U.b3, U.b4, U.b6⟩
theorem SV.bs (V : SV h P R lP Y C E TT UU SC SP nC nE nS nb na Ho Fa Be n) (hN : 2644 ≤ mh_n h) : BS h Y C E TT UU SC SP nC nE nS := ⟨V.F, V.S, ⟨P, R, lP, V.p⟩, V.q, V.y, hN, ⟨Ho, Fa, Be, V.h2, V.h3, V.h4⟩⟩
/-- a step of split is a step of Effect -/
theorem sS_sE (V : SV h P R lP Y C E TT UU SC SP nC nE nS nb na Ho Fa Be n) (x : sS 0 P R h h1) : sE h h1 := by
  have g35 := (V.F.g 35 5 19 (by decide +kernel)).2
  have key : ∀ j, j = 9 ∨ j = 10 → mh_r h1 35 j = mh_r h 35 j := fun j hj => (x.1.1.2.2 35 j g35 (fun w => by
    have nP := V.p.n P (by simp)
    have nR := V.p.n R (by simp)
    unfold svW at w
    rcases w with w | w | w | w | w | w | w | w | ⟨o, o1, o2, o3⟩
    · omega
    · omega
    · omega
    · omega
    · omega
    · omega
    · omega
    · omega
    · have a := (cs_so V.S (mine_cs o1)).2
      unfold cAd at a
      omega)).2.2
  refine ⟨fD_w x.1 (fun b j _ w => ?_), x.2, fun v hv => ?_⟩
  · unfold svW at w
    unfold efW
    rcases w with w | w | w | w | w | w | w | w | w
    · exact Or.inl ⟨w.1, by omega⟩
    · exact Or.inr (Or.inl w.1)
    · exact Or.inr (Or.inr (Or.inl w))
    · exact Or.inr (Or.inr (Or.inr (Or.inl w)))
    · exact Or.inr (Or.inr (Or.inr (Or.inr (Or.inr (Or.inl w)))))
    · exact Or.inr (Or.inr (Or.inr (Or.inr (Or.inr (Or.inr (Or.inl (by rw [w]; exact V.p.r9)))))))
    · exact Or.inr (Or.inr (Or.inr (Or.inr (Or.inr (Or.inr (Or.inr (Or.inl (by rw [w]; exact V.p.r10))))))))
    · exact Or.inr (Or.inr (Or.inr (Or.inr (Or.inl w.1))))
    · exact Or.inr (Or.inr (Or.inr (Or.inr (Or.inr (Or.inr (Or.inr (Or.inr w)))))))
  · rw [key 9 (by omega), key 10 (by omega)] at hv
    exact hv.elim Or.inl (fun q => Or.inr (Or.inl q))
/-- lookFrom is a step of Effect -/
theorem lf_sE {P' R' : Nat} (p : CP h P R lP) {lP' : Nat} (p' : CP h1 P' R' lP') (F : CF h) (f : fD lfW h h1) (e : ∀ x, x = P' ∨ x = R' → x = P ∨ x = R ∨ mh_n h ≤ x) : sE h h1 := by
  refine ⟨fD_w f (fun b j _ w => Or.inr (Or.inl w.1)), fun o m => Or.inl ?_, fun v hv => ?_⟩
  · unfold mine at m ⊢
    rw [lz_pl F f.1 34 2 (Or.inl ⟨rfl, by omega⟩), lz_pl F f.1 34 3 (Or.inl ⟨rfl, by omega⟩), lz_pl F f.1 34 4 (Or.inl ⟨rfl, by omega⟩)] at m
    rcases m with m | m | m | ⟨i, i1, m⟩
    · exact Or.inl m
    · exact Or.inr (Or.inl m)
    · exact Or.inr (Or.inr (Or.inl m))
    · rw [lz_pl F f.1 51 i (Or.inr (Or.inl rfl))] at m
      exact Or.inr (Or.inr (Or.inr ⟨i, i1, m⟩))
  · rw [p'.r9, p'.r10] at hv
    have : v = P' ∨ v = R' := hv.elim (fun q => Or.inl (by cases q; rfl)) (fun q => Or.inr (by cases q; rfl))
    rcases e v this with q | q | q
    · rw [q]; exact Or.inl p.r9
    · rw [q]; exact Or.inr (Or.inl p.r10)
    · exact Or.inr (Or.inr q)
end EFs
