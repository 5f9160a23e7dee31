section
variable {h h1 : mh_H} {W : Nat → Nat → Prop}
theorem fG_me (f : fG W h h1) {b c : Nat} : mg h1 b c = mg h b c := by unfold mg; rw [f.1, f.2.2.2.1]
theorem RF_G {W : Nat → Nat → Prop} (f : fG W h h1) (F : RF h) : RF h1 := by
  have kf : ∀ o, ko h o → ko h1 o := fun o s => by
    unfold ko at s ⊢
    rw [f.2.2.1, f.2.1]
    simp only [fG_me f]
    exact s
  refine ⟨fun t ht => ?_, fun t ht => ?_, fun p hp => ?_, kf _ F.w, ?_⟩
  · obtain ⟨a, b⟩ := F.k t ht
    exact ⟨by rw [fG_me f]; exact a, by rw [f.2.1]; exact b⟩
  · rw [f.2.2.1]; exact F.r t ht
  · obtain ⟨a, b, c, d⟩ := F.p p hp
    exact ⟨kf _ a, kf _ b, by rw [f.2.2.1]; exact c, by rw [f.2.2.1]; exact d⟩
  · obtain ⟨b, b1, b2⟩ := F.fn
    exact ⟨b, by rw [f.2.2.1]; exact b1, by rw [f.2.2.2.1]; exact b2⟩
theorem nn_m2 {k : Nat} (hk : k < 1000000) : (Int32.ofNat k = -1) = False := eq_false (fun z => by
  have e := congrArg Int32.toInt z
  rw [nn_int (by omega)] at e
  have e1 : (-1 : Int32).toInt = -1 := rfl
  omega)
end
