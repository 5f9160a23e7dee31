set_option maxRecDepth 100000
/-! the reference's rows at the points of a layout: NAMEs, returns; RPT, MTT -/
/-- the room of the newest one of that name -/
def apR (sp : Nat → Nat → Bool) (NL : List Nat) : cen → Int → Nat
  | [], _ => 0
  | (a, z) :: r, v => if v = nmI sp NL a then z else apR sp NL r v
section MTs
variable {h : mh_H} {sp : Nat → Nat → Bool} {NL : List Nat} {L : cen} {X : lcx} {E : nv} {p : Nat} {Pt : Nat → lpt} {E0 : nv} {D : lyD}
/-- the newest one of that name, in the rows -/
theorem mn_at (hN : NL.length < 100000) (Q : EQx E X) (bb : X.nb + cnZl L ≤ 12 ∧ X.na + cnAl L ≤ 6) : ∀ L : cen, mnR h (fun a => nix sp NL a) X p L → ∀ v, sN2 sp NL L v → ∃ e, e < L.length ∧ (mh_i h 106 (40 * p + e)).toInt = v ∧ (∀ e', e < e' → e' < L.length → ¬ (mh_i h 106 (40 * p + e')).toInt = v) ∧ mh_i h 107 (40 * p + e) = Int32.ofNat ((addC sp NL E L).en v) ∧ mh_i h 108 (40 * p + e) = Int32.ofNat (apR sp NL L v) := by
  intro L
  induction L with
  | nil => intro _ v w; obtain ⟨a, z, m, -⟩ := w; cases m
  | cons x r ih =>
    obtain ⟨a, z⟩ := x
    intro M v w
    obtain ⟨⟨m1, m2, m3⟩, m4⟩ := M
    have el : ((a, z) :: r).length = r.length + 1 := rfl
    have nl := nix_le (sp := sp) (t := a) NL
    have i1 : (mh_i h 106 (40 * p + r.length)).toInt = nmI sp NL a := by rw [m1]; exact nn_int (show nix sp NL a < 2147483648 by omega)
    have ap : apR sp NL ((a, z) :: r) v = if v = nmI sp NL a then z else apR sp NL r v := rfl
    obtain ⟨v1, v2, -⟩ := ad_v (sp := sp) (NL := NL) (E := E) r
    have en : (addC sp NL E ((a, z) :: r)).en v = if v = nmI sp NL a then (if z = 0 then X.nb + cnZl r else X.na + cnAl r) else (addC sp NL E r).en v := by
      by_cases c : z = 0
      · subst c
        rw [ad_0, if_pos rfl]
        show (if v = nmI sp NL a then (addC sp NL E r).nu else (addC sp NL E r).en v) = _
        rw [v1, Q.n]
      · rw [ad_n c, if_neg c]
        show (if v = nmI sp NL a then (addC sp NL E r).ar else (addC sp NL E r).en v) = _
        rw [v2, Q.a]
    by_cases c : v = nmI sp NL a
    · refine ⟨r.length, by omega, i1.trans c.symm, fun e' h1 h2 => by rw [el] at h2; omega, ?_, ?_⟩
      · rw [en, if_pos c]; exact m2
      · rw [ap, if_pos c]; exact m3
    · have w' : sN2 sp NL r v := by
        obtain ⟨b, y, m, e⟩ := w
        rcases List.mem_cons.mp m with m | m
        · cases m
          exact absurd e c
        · exact ⟨b, y, m, e⟩
      obtain ⟨e, j1, j2, j3, j4, j5⟩ := ih m4 v w'
      refine ⟨e, by omega, j2, fun e' h1 h2 => ?_, by rw [en, if_neg c]; exact j4, by rw [ap, if_neg c]; exact j5⟩
      rw [el] at h2
      by_cases ce : e' = r.length
      · rw [ce, i1]
        exact fun z => c z.symm
      · exact j3 e' h1 (by omega)
theorem apR_l (hq : ∀ a v, nix sp NL a < NL.length → (nix sp NL a = nix sp NL v ↔ sp a v = true)) {v : Int} : ∀ L : cen, LIV sp NL L → ∀ s z, loE sp L v = some (s, z) → apR sp NL L (nmI sp NL v.toNat) = z := by
  intro L
  induction L with
  | nil => intro _ s z e; cases e
  | cons e r ih =>
    obtain ⟨a, z'⟩ := e
    intro w s z e
    have lo : loE sp ((a, z') :: r) v = if sp a v.toNat = true then some (slE r z', z') else loE sp r v := rfl
    rw [lo] at e
    have ka := (w a z' List.mem_cons_self).1
    have hqa := hq a v.toNat ka
    show (if nmI sp NL v.toNat = nmI sp NL a then z' else apR sp NL r (nmI sp NL v.toNat)) = z
    by_cases c : sp a v.toNat = true
    · rw [if_pos c] at e
      cases e
      rw [if_pos (by unfold nmI; rw [hqa.mpr c])]
    · rw [if_neg c] at e
      rw [if_neg (fun q => c (hqa.mp (by unfold nmI at q; omega)))]
      exact ih (fun x y q => w x y (List.mem_cons_of_mem _ q)) s z e
/-- rooms of CELLs -/
theorem xA_rn (hq : ∀ a v, nix sp NL a < NL.length → (nix sp NL a = nix sp NL v ↔ sp a v = true)) (LI : LIV sp NL L) {K : Nat → Int32} {m : Nat} {nb na nn a : Nat} {rm : Nat → Nat} {sN : Int → Prop} {en : Int → Nat} (O : LOQ sp NL L nb na nn a rm sN en) : ∀ t, tvT K m t → (lwT (loE sp L) t).1 = 0 → xA (apR sp NL L) en rm (rn sp NL t) := by
  refine tr_in2 (fun u _ _ => trivial) (fun n cs r hc hd hr tv w => ?_)
  obtain ⟨w1, w2⟩ := lw_0 w
  obtain ⟨⟨t13, t14, t16⟩, tc, tr'⟩ := tv
  have xr := hr tr' w2
  rw [rn_B, xA_B, rn_K]
  by_cases k13 : tK n = 13
  · obtain ⟨-, ec⟩ := t13 k13
    subst ec
    exact ⟨fun z => absurd z (by omega), trivial, xr⟩
  by_cases k14 : tK n = 14
  · obtain ⟨y, r', ec, ky⟩ := t14 k14
    subst ec
    rw [lwN_14 k14] at w1
    obtain ⟨w3, w4⟩ := fw_00 w1
    obtain ⟨s, z, e, hz⟩ := lk_a w3
    obtain ⟨o1, -, o2⟩ := O _ _ _ e
    obtain ⟨o3, o4, o5, o6⟩ := o2 hz
    have xr' := hd tc.2.2 w4
    refine ⟨fun _ => ?_, ?_, xr⟩
    · show apR sp NL L (tV (rnN sp NL y)) = rm (en (tV (rnN sp NL y)))
      rw [rn_V ky, o3, o5]
      exact apR_l hq L LI s z e
    · rw [rn_B, xA_B, rn_K]
      exact ⟨fun q => absurd q (by omega), trivial, xr'⟩
  by_cases k16 : tK n = 16
  · refine ⟨fun z => absurd z (by omega), ?_, xr⟩
    rcases t16 k16 with ec | ⟨y, z, ec, ky, kz⟩
    · subst ec
      trivial
    · subst ec
      rw [rn_B, xA_B, rn_K, rn_B, xA_B, rn_K]
      exact ⟨fun q => absurd q (by omega), trivial, fun q => absurd q (by omega), trivial, trivial⟩
  · rw [lwN_o k13 k14 k16] at w1
    exact ⟨fun z => absurd z k14, hc tc w1, xr⟩
/-- what is below points is below functions -/
theorem LYR_sub {Φ : tr → Prop} (hs : ∀ n cs r, Φ (.branch n cs r) → Φ cs ∧ Φ r) (HF : ∀ g, g < D.c → Φ (D.FT g)) : ∀ f fb t k w s p e L b X, LYR D Pt f fb t k w s p e L b X → X.fu < D.c → Φ t → ∀ q, p ≤ q → q < e → ∃ r, Φ (.branch (Pt q).N (Pt q).C r) := by
  intro f
  induction f with
  | zero =>
    intro fb t k w s p e L b X y _ _ q h1 h2
    cases t with
    | leaf _ => exact absurd (show p = e from y) (by omega)
    | branch n cs r => exact absurd y (fun z => z)
  | succ f ih =>
    intro fb t k w s p e L b X y hX ph q h1 h2
    cases t with
    | leaf _ => exact absurd (show p = e from y) (by omega)
    | branch n cs r =>
      obtain ⟨⟨y1, y1'⟩, ⟨a1, a2, a3, a4, a5, a6, a7, a8⟩, ⟨y3, y4⟩, y5, y6, y7⟩ := y
      obtain ⟨pc, pr⟩ := hs _ _ _ ph
      by_cases c0 : q = p
      · subst c0
        exact ⟨r, by rw [a1, a2]; exact ph⟩
      · by_cases c1 : (Pt p).E ≤ q
        · exact ih _ _ _ _ _ _ _ _ _ _ y7 hX pr q c1 h2
        · have lt : q < (Pt p).E := by omega
          rcases y6 with ⟨kk, a, ff, t, g, ec, -, gX, z⟩ | ⟨kk, c, cc, b1, bs1, q', ec, m1, m2, z3, z4⟩ | ⟨kk, c, cc, b1, bs1, ec, z⟩ | ⟨-, -, -, z⟩
          · exact ih _ _ _ _ _ _ _ _ _ _ z (by show g < D.c; omega) (HF g (by omega)) q (by omega) lt
          · subst ec
            obtain ⟨-, p2⟩ := hs _ _ _ pc
            obtain ⟨p3, p4⟩ := hs _ _ _ p2
            by_cases c2 : q < (Pt p).M
            · exact ih _ _ _ _ _ _ _ _ _ _ z3 hX p3 q (by omega) c2
            · rcases z4 with ⟨-, z4⟩ | ⟨b2, bs2, eq, z4⟩
              · omega
              · subst eq
                exact ih _ _ _ _ _ _ _ _ _ _ z4 hX (hs _ _ _ p4).1 q (by omega) lt
          · subst ec
            obtain ⟨-, p2⟩ := hs _ _ _ pc
            exact ih _ _ _ _ _ _ _ _ _ _ z hX (hs _ _ _ p2).1 q (by omega) lt
          · omega
/-- a return lies in what a call calls -/
theorem LYR_ret : ∀ f fb t k w s p e L b X, LYR D Pt f fb t k w s p e L b X → (fb = true → X.fu + 1 = D.c ∨ ∃ c a ff tt g, c < p ∧ tK (Pt c).N = 7 ∧ (Pt c).C = .branch a (.leaf ()) (.branch ff (.leaf ()) tt) ∧ X = lyC D (Pt c).X (Pt c).L c g a) → ∀ q, p ≤ q → q < e → tK (Pt q).N = 11 → ∃ c a ff tt g, c < q ∧ tK (Pt c).N = 7 ∧ (Pt c).C = .branch a (.leaf ()) (.branch ff (.leaf ()) tt) ∧ (Pt q).X = lyC D (Pt c).X (Pt c).L c g a := by
  intro f
  induction f with
  | zero =>
    intro fb t k w s p e L b X y _ q h1 h2
    cases t with
    | leaf _ => exact absurd (show p = e from y) (by omega)
    | branch n cs r => exact absurd y (fun z => z)
  | succ f ih =>
    intro fb t k w s p e L b X y hb q h1 h2 k11
    cases t with
    | leaf _ => exact absurd (show p = e from y) (by omega)
    | branch n cs r =>
      obtain ⟨⟨y1, y1'⟩, ⟨a1, a2, a3, a4, a5, a6, a7, a8⟩, ⟨y3, y4⟩, y5, y6, y7⟩ := y
      by_cases c0 : q = p
      · subst c0
        rw [a1] at k11
        have w1 : (lyW D n cs q L b (fb && decide (ts r = 0)) X).1 = 0 := by rw [y5]
        obtain ⟨-, wm⟩ := lyW_0 w1
        have ws := wrM_0 wm
        have e : wrS D.sp D.H X.fu L b (fb && decide (ts r = 0)) n cs = if (fb && decide (ts r = 0)) = true then lwT (loE D.sp L) cs else (6, tP n) := by
          unfold wrS
          rw [if_neg (by omega), if_neg (by omega), if_neg (by omega), if_neg (by omega), if_neg (by omega), if_pos k11]
        rw [e] at ws
        by_cases rl : (fb && decide (ts r = 0)) = true
        · have fbt : fb = true := by
            cases fb with
            | false => exact absurd rl (by simp)
            | true => rfl
          rcases hb fbt with z | ⟨c, a, ff, tt, g, z1, z2, z3, z4⟩
          · unfold wrM at wm
            rw [if_pos ⟨k11, rl, z⟩] at wm
            exact absurd wm (by show ¬ 7 = 0; decide)
          · exact ⟨c, a, ff, tt, g, z1, z2, z3, by rw [a4]; exact z4⟩
        · rw [if_neg rl] at ws
          exact absurd ws (by show ¬ 6 = 0; decide)
      · by_cases c1 : (Pt p).E ≤ q
        · exact ih _ _ _ _ _ _ _ _ _ _ y7 (fun z => (hb z).imp id (fun ⟨c, a, ff, tt, g, u1, u2, u3, u4⟩ => ⟨c, a, ff, tt, g, by omega, u2, u3, u4⟩)) q c1 h2 k11
        · have lt : q < (Pt p).E := by omega
          rcases y6 with ⟨kk, a, ff, t, g, ec, -, gX, z⟩ | ⟨kk, c, cc, b1, bs1, q', ec, m1, m2, z3, z4⟩ | ⟨kk, c, cc, b1, bs1, ec, z⟩ | ⟨-, -, -, z⟩
          · exact ih _ _ _ _ _ _ _ _ _ _ z (fun _ => Or.inr ⟨p, a, ff, t, g, by omega, by rw [a1]; exact kk, by rw [a2]; exact ec, by rw [a3, a4]⟩) q (by omega) lt k11
          · by_cases c2 : q < (Pt p).M
            · exact ih _ _ _ _ _ _ _ _ _ _ z3 (fun z => by cases z) q (by omega) c2 k11
            · rcases z4 with ⟨-, z4⟩ | ⟨b2, bs2, eq, z4⟩
              · omega
              · exact ih _ _ _ _ _ _ _ _ _ _ z4 (fun z => by cases z) q (by omega) lt k11
          · exact ih _ _ _ _ _ _ _ _ _ _ z (fun z => by cases z) q (by omega) lt k11
          · omega
end MTs
