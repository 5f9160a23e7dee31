set_option maxRecDepth 100000
/-! Analysis.analyse: a while, whole -/
def CCn (d Y C E TT UU SC SP nC nE nS : Nat) (G : pgm) (cnt : Nat) (I : mh_H → Prop) (p k : Nat) (h : mh_H) (r0 c w0 : Nat) (res : rs3) : Prop := ∃ h1 r1, zS (aV k) (aU k) h h1 ∧ r1 ≤ r0 + c + 5 * (min (wW res.2.1) 4001 - w0) ∧ OUT h1 Y C E TT UU SC SP nC nE nS G cnt I (G.E p) k res.1 res.2.1 ∧ gA d cnt h r0 h1 r1
theorem trs_1 {G : pgm} {rc : rc3} {p g mx : Nat} {S h n be : Option ab} {ω : wd} : trs G rc p S (g + 1) h n be ω mx = @ite _ ((o_le n h ∧ o_le h n) ∨ 4000 < wW ω) (Classical.propDecidable _) (h, be, ω, mx) (@ite _ (o_le (rnd G rc p S n ω).1 n) (Classical.propDecidable _) (trs G rc p S g n (rnd G rc p S n ω).1 (rnd G rc p S n ω).2.1 (rnd G rc p S n ω).2.2.1 (max mx (6 + (rnd G rc p S n ω).2.2.2))) (h, (rnd G rc p S n ω).2.1, (rnd G rc p S n ω).2.2.1, max mx (6 + (rnd G rc p S n ω).2.2.2))) := rfl
theorem clm_1 {G : pgm} {rc : rc3} {p g mx r : Nat} {S h told n be : Option ab} {ω : wd} : clm G rc p S (g + 1) h told n be ω mx r = @ite _ (o_le n told ∨ 4000 < wW ω) (Classical.propDecidable _) (h, n, be, ω, mx) (clm G rc p S g (if r ≤ 2 then o_join h n else o_cl (o_wid told n)) (if r ≤ 2 then o_join h n else o_wid told n) (rnd G rc p S (if r ≤ 2 then o_join h n else o_cl (o_wid told n)) ω).1 (rnd G rc p S (if r ≤ 2 then o_join h n else o_cl (o_wid told n)) ω).2.1 (rnd G rc p S (if r ≤ 2 then o_join h n else o_cl (o_wid told n)) ω).2.2.1 (max mx (4 + (rnd G rc p S (if r ≤ 2 then o_join h n else o_cl (o_wid told n)) ω).2.2.2)) (r + 1)) := rfl
section SXs
variable {d : Nat} {h : mh_H} {Y C E TT UU SC SP nC nE nS : Nat} {G : pgm} {cnt k p r0 f n a : Nat} {r : Nat → Nat} {I : mh_H → Prop} {ω : wd} {A S : ab}
theorem nul_k {V U : Nat → Nat → Prop} {h h1 : mh_H} (x : zS V U h h1) (hV : ∀ b j, (b = 62 ∨ b = 63 ∨ b = 64) → V b j → j = k) (n62 : mh_r h 62 k ≠ none) (N : nul h) : nul h1 := fun i hi => by
  have P : ∀ b, (b = 62 ∨ b = 63 ∨ b = 64) → isPl b i := fun b hb => by unfold isPl; omega
  rcases N i hi with ⟨n1, n2, n3⟩ | ⟨n1, n2, n3⟩
  · have ne : i ≠ k := fun e => n62 (by rw [← e]; exact n1)
    exact Or.inl ⟨x.pz 62 i (P 62 (by omega)) (fun z => ne (hV 62 i (by omega) z)) n1, x.pz 63 i (P 63 (by omega)) (fun z => ne (hV 63 i (by omega) z)) n2, x.pz 64 i (P 64 (by omega)) (fun z => ne (hV 64 i (by omega) z)) n3⟩
  · exact Or.inr ⟨x.pn 62 i (P 62 (by omega)) (by omega) n1, x.pn 63 i (P 63 (by omega)) (by omega) n2, x.pn 64 i (P 64 (by omega)) (by omega) n3⟩
theorem pv_n {h : mh_H} {b j : Nat} {v : Option ab} (q : pv h b j v) : mh_r h b j ≠ none := by
  obtain ⟨o, e, -⟩ := q
  rw [e]; exact fun z => by cases z
/-- behind endRound -/
theorem AN_er (hI : hIp Y C E TT UU SC SP nC nE nS I) {h h2 h3 : mh_H} {s1 s' : Option ab} {e p' k' : Nat} (N : AN h Y C E TT UU SC SP nC nE nS G cnt I e (k + 1) s1 ω) (x2 : zS (fun b j => b = 53 ∧ j = 6) (fun _ _ => False) h h2) (x3 : zS (kV k) (kX k) h2 h3) (B3 : BS h3 Y C E TT UU SC SP nC nE nS) (n62 : mh_r h 62 k ≠ none) (kn : pv h3 53 6 s') (a7 : mh_i h3 53 7 = Int32.ofNat p') (a9 : mh_i h3 53 9 = Int32.ofNat k') (hk : k' ≤ 250) (ha : p' < cnt) : AN h3 Y C E TT UU SC SP nC nE nS G cnt I p' k' s' ω ∧ zS (aV k) (aU k) h h3 := by
  have x23 : zS (kV k) (kX k) h h3 := zS_t (zS_w x2 (fun b j z => by unfold kV; omega) (fun _ _ z => z.elim)) x3
  refine ⟨AN_mk hI N x23 B3 (fun b j u => by unfold kX kU at u; unfold aI; omega) (fun q => by unfold kV; omega) (fun j => by unfold kX kU; omega) (by unfold kX kU; omega) (by unfold kX kU; omega) kn a7 a9 hk ha (nul_k (k := k) x23 (fun b j hb z => by unfold kV at z; omega) n62 N.nu), zS_w x23 (fun b j z => by unfold kV at z; unfold aV; omega) (fun b j z => by unfold kX kU at z; unfold aU; omega)⟩
/-- the last round -/
theorem S_fin (EF : EFF Y C E TT UU SC SP nC nE nS G cnt I) (hI : hIp Y C E TT UU SC SP nC nE nS I) (ih : SIM d Y C E TT UU SC SP nC nE nS G cnt I f) (w : WG G f p cnt k n a r) (N : AN h Y C E TT UU SC SP nC nE nS G cnt I p (k + 1) (some A) ω) (sA : shp n a r (some A)) (a59 : mh_i h 59 k = Int32.ofNat p) (a60 : mh_i h 60 k = 2) (n61 : mh_r h 61 k ≠ none) (q62 : pv h 62 k (some S)) (hr : r0 + 5 * (4001 - wW ω) + 20 < 1000000) (be : Option ab) (mx : Nat) : CCn d Y C E TT UU SC SP nC nE nS G cnt I p k h r0 0 (wW ω) (finD G (DB G f) p (some S) (some A, be, ω, mx)) := by
  have hw := N.hw
  have hk := N.hk
  have kp := w.kp
  have e : finD G (DB G f) p (some S) (some A, be, ω, mx) = ((rnd G (DB G f) p (some S) (some A) ω).2.1, (rnd G (DB G f) p (some S) (some A) ω).2.2.1, max mx (6 + (rnd G (DB G f) p (some S) (some A) ω).2.2.2)) := by
    unfold finD
    rw [if_neg (by show ¬ 4000 < wW ω; omega)]
  rw [e]
  unfold CCn
  dsimp only
  obtain ⟨h1, r1, x1, hr1, g1, o1⟩ := S_rnd (d := d) (r0 := r0) (ph := 2) EF hI ih w (some S) N sA a59 a60 (by omega) n61 hr
  rcases o1 with ⟨w1, T1⟩ | ⟨s1, w0, w1, -, sg, N1, F1, q61, -⟩
  · exact ⟨h1, r1, x1, by omega, Or.inr ⟨w1, T1⟩, g1⟩
  · have b59 : mh_i h1 59 k = Int32.ofNat p := by rw [F1.fi 59 (by omega)]; exact a59
    obtain ⟨h2, x2, B2, k2, F2, p2, gg⟩ := S_end (d := d) w N1 sg b59
    have g53 := N1.B.F.g 53 0 17 (by decide +kernel)
    have i2 : ∀ j, mh_i h2 53 j = mh_i h1 53 j := fun j => x2.ii 53 0 j g53 (by decide) (by decide) (by unfold eff; omega) (fun z => z)
    obtain ⟨h3, x3, B3, k3, a9, a7, c3⟩ := c_8L (d := d) B2 (by omega : k < 250) (by rw [i2]; exact N1.a9) (p2 _ (q61 rfl)) k2 (by rw [F2.fi 60 (by omega), F1.fi 60 (by omega)]; exact a60)
    obtain ⟨N3, x13⟩ := AN_er hI N1 x2 x3 B3 (pv_n (F1.fp 62 (by omega) _ q62)) k3 (by rw [a7, i2]; exact N1.a7) a9 (by omega) w.hE2
    exact ⟨h3, r1 + 1, zS_t x1 x13, by omega, Or.inl ⟨w1, N3⟩, gA_t g1 (gg h3 r1 (by omega) c3)⟩
/-- less is tried -/
theorem S_try (EF : EFF Y C E TT UU SC SP nC nE nS G cnt I) (hI : hIp Y C E TT UU SC SP nC nE nS I) (ih : SIM d Y C E TT UU SC SP nC nE nS G cnt I f) (w : WG G f p cnt k n a r) (sS : shp n a r (some S)) : ∀ g t0 (h : mh_H) r0 (H N1 : ab) (now be : Option ab) (ω : wd) (mx : Nat), g + t0 = 2 → AN h Y C E TT UU SC SP nC nE nS G cnt I p (k + 1) now ω → shp n a r (some H) → shp n a r (some N1) → mh_i h 59 k = Int32.ofNat p → mh_r h 61 k ≠ none → pv h 62 k (some S) → pv h 63 k (some H) → r0 + 5 * (4001 - wW ω) + 20 < 1000000 → ((t0 < 2 ∧ ¬ (o_le (some N1) (some H) ∧ o_le (some H) (some N1)) ∧ now = some N1 ∧ pv h 61 k (some N1) ∧ mh_i h 66 k = Int32.ofNat (t0 + 1) ∧ mh_i h 60 k = 1) ∨ ((2 ≤ t0 ∨ (o_le (some N1) (some H) ∧ o_le (some H) (some N1))) ∧ now = some H ∧ mh_i h 60 k = 2)) → CCn d Y C E TT UU SC SP nC nE nS G cnt I p k h r0 0 (wW ω) (trsD G (DB G f) p (some S) g (some H) (some N1) be ω mx) := by
  intro g
  induction g with
  | zero =>
    intro t0 h r0 H N1 now be ω mx ht N sH sN a59 n61 q62 q63 hr c
    rcases c with ⟨c, -⟩ | ⟨-, e, a60⟩
    · omega
    · subst e
      exact S_fin EF hI ih w N sH a59 a60 n61 q62 hr be mx
  | succ g ihg =>
    intro t0 h r0 H N1 now be ω mx ht N sH sN a59 n61 q62 q63 hr c
    have hw := N.hw
    have hk := N.hk
    have kp := w.kp
    rcases c with ⟨c, ns, e, q61, a66, a60⟩ | ⟨c, e, a60⟩
    · subst e
      have e1 : trsD G (DB G f) p (some S) (g + 1) (some H) (some N1) be ω mx = finD G (DB G f) p (some S) (@ite _ (o_le (rnd G (DB G f) p (some S) (some N1) ω).1 (some N1)) (Classical.propDecidable _) (trs G (DB G f) p (some S) g (some N1) (rnd G (DB G f) p (some S) (some N1) ω).1 (rnd G (DB G f) p (some S) (some N1) ω).2.1 (rnd G (DB G f) p (some S) (some N1) ω).2.2.1 (max mx (6 + (rnd G (DB G f) p (some S) (some N1) ω).2.2.2))) (some H, (rnd G (DB G f) p (some S) (some N1) ω).2.1, (rnd G (DB G f) p (some S) (some N1) ω).2.2.1, max mx (6 + (rnd G (DB G f) p (some S) (some N1) ω).2.2.2))) := by
        unfold trsD
        rw [trs_1, if_neg (fun z => z.elim ns (fun z => by omega))]
      obtain ⟨h1, r1, x1, hr1, g1, o1⟩ := S_rnd (d := d) (r0 := r0) (ph := 1) EF hI ih w (some S) N sN a59 a60 (by omega) n61 hr
      rw [e1]
      generalize rnd G (DB G f) p (some S) (some N1) ω = q at *
      rcases o1 with ⟨w1, T1⟩ | ⟨s1, w0, w1, en, sg, N1', F1, -, k61⟩
      · refine ⟨h1, r1, x1, ?_, Or.inr ⟨?_, T1⟩, g1⟩
        · have m : wW q.2.2.1 ≤ wW (finD G (DB G f) p (some S) (@ite _ (o_le q.1 (some N1)) (Classical.propDecidable _) (trs G (DB G f) p (some S) g (some N1) q.1 q.2.1 q.2.2.1 (max mx (6 + q.2.2.2))) (some H, q.2.1, q.2.2.1, max mx (6 + q.2.2.2)))).2.1 := by
            refine Nat.le_trans ?_ (finD_w (DB_w G f))
            split
            · exact trs_w (DB_w G f) _ _ _ _ _ _
            · exact Nat.le_refl _
          omega
        · refine Nat.lt_of_lt_of_le w1 (Nat.le_trans ?_ (finD_w (DB_w G f)))
          split
          · exact trs_w (DB_w G f) _ _ _ _ _ _
          · exact Nat.le_refl _
      · have b59 : mh_i h1 59 k = Int32.ofNat p := by rw [F1.fi 59 (by omega)]; exact a59
        obtain ⟨h2, x2, B2, k2, F2, p2, gg⟩ := S_end (d := d) w N1' sg b59
        have F12 := FR_t F1 F2
        have g53 := N1'.B.F.g 53 0 17 (by decide +kernel)
        have i2 : ∀ j, mh_i h2 53 j = mh_i h1 53 j := fun j => x2.ii 53 0 j g53 (by decide) (by decide) (by unfold eff; omega) (fun z => z)
        have sk := keep_shp sg
        have sq : shp n a r q.1 := by rw [en]; exact join_shp sS sk
        obtain ⟨h3, x3, B3, a7, a9, o3, c3⟩ := c_8T (d := d) (p := p) (t0 := t0 + 1) B2 (by omega : k < 250) (by rw [F12.fi 59 (by omega)]; exact a59) k2 (F12.fp 62 (by omega) _ q62) (F12.fp 63 (by omega) _ q63) (p2 _ (k61 (by omega) _ q61)) sS sk sH sN (by rw [F12.fi 60 (by omega)]; exact a60) (by rw [F12.fi 66 (by omega)]; exact a66) (by omega)
        rw [← en] at o3
        have g13 : gA d cnt h r0 h3 (r1 + 1) := gA_t g1 (gg h3 r1 (by omega) c3)
        have a93 : mh_i h3 53 9 = Int32.ofNat (k + 1) := by rw [a9, i2]; exact N1'.a9
        have q623 : pv h3 62 k (some S) := x3.pp _ _ _ (by unfold isPl; omega) (by unfold kV; omega) (F12.fp 62 (by omega) _ q62)
        have a593 : mh_i h3 59 k = Int32.ofNat p := by rw [x3.ii 59 100 k (B2.F.g 59 100 250 (by decide +kernel)) (by decide) (by decide) (by unfold eff; omega) (by unfold kX kU; omega), F12.fi 59 (by omega)]; exact a59
        have n613 : mh_r h3 61 k ≠ none := x3.pn 61 k (by unfold isPl; omega) (by decide) (F12.fn n61)
        have n621 : mh_r h1 62 k ≠ none := pv_n (F1.fp 62 (by omega) _ q62)
        have hE1 := w.hE1
        have hE2 := w.hE2
        have fin : ∀ {now : Option ab}, pv h3 53 6 now → AN h3 Y C E TT UU SC SP nC nE nS G cnt I p (k + 1) now q.2.2.1 ∧ zS (aV k) (aU k) h h3 := fun kn => by
          obtain ⟨N3, x13⟩ := AN_er hI N1' x2 x3 B3 n621 kn a7 a93 hk (by omega)
          exact ⟨N3, zS_t x1 x13⟩
        have up : ∀ res : rs3, wW q.2.2.1 ≤ wW res.2.1 → zS (aV k) (aU k) h h3 → CCn d Y C E TT UU SC SP nC nE nS G cnt I p k h3 (r1 + 1) 0 (wW q.2.2.1) res → CCn d Y C E TT UU SC SP nC nE nS G cnt I p k h r0 0 (wW ω) res := fun res hm x13 ⟨h4, r4, x4, hr4, o4, g4⟩ => ⟨h4, r4, zS_t x13 x4, by omega, o4, gA_t g13 g4⟩
        rcases o3 with ⟨nle, k63, kn3, b66, b60⟩ | ⟨le, k63, o3⟩
        · rw [if_neg nle]
          obtain ⟨N3, x13⟩ := fin kn3
          exact up _ (finD_w (t := (some H, q.2.1, q.2.2.1, max mx (6 + q.2.2.2))) (DB_w G f)) x13 (S_fin EF hI ih w N3 sH a593 b60 n613 q623 (by omega) _ _)
        · rw [if_pos le]
          obtain ⟨Q1, eQ⟩ : ∃ Q1, q.1 = some Q1 := by
            rw [en]
            cases o_keep n a s1 <;> exact ⟨_, rfl⟩
          rw [eQ] at o3 sq ⊢
          rcases o3 with ⟨t2, ns2, kn3, k613, b66, b60⟩ | ⟨t2, kn3, b66, b60⟩
          · obtain ⟨N3, x13⟩ := fin kn3
            exact up _ (trsD_w (DB_w G f)) x13 (ihg (t0 + 1) h3 (r1 + 1) N1 Q1 (some Q1) q.2.1 q.2.2.1 _ (by omega) N3 sN sq a593 n613 q623 k63 (by omega) (Or.inl ⟨t2, ns2, rfl, k613, b66, b60⟩))
          · obtain ⟨N3, x13⟩ := fin kn3
            exact up _ (trsD_w (DB_w G f)) x13 (ihg (t0 + 1) h3 (r1 + 1) N1 Q1 (some N1) q.2.1 q.2.2.1 _ (by omega) N3 sN sq a593 n613 q623 k63 (by omega) (Or.inr ⟨t2, rfl, b60⟩))
    · subst e
      have e1 : trsD G (DB G f) p (some S) (g + 1) (some H) (some N1) be ω mx = finD G (DB G f) p (some S) (some H, be, ω, mx) := by
        unfold trsD
        rw [trs_1, if_pos (Or.inl (c.elim (fun z => by omega) (fun z => z)))]
      rw [e1]
      exact S_fin EF hI ih w N sH a59 a60 n61 q62 hr be mx
end SXs
