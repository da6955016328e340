/-! the first memory -/
theorem cn0 (b : Nat) : cn 0 b := ⟨by decide, by rw [show mj_cl (0 : Int32) = 0 by decide]; exact Nat.zero_le _⟩
theorem way0 {w wd on R G fa fr we : Nat} (h7 : mi_L w 7 = 0) (h8 : mi_L w 8 = 0) (h9 : mi_L w 9 = 0) : I_way mi_L (fun _ => 0) w wd on R G fa fr we (40, 0) := by
  have c0 : mj_cl (0 : Int32) = 0 := by decide
  refine ⟨⟨h7, ⟨cn0 _, Nat.zero_le _⟩, fun i hi => ?_⟩, ⟨h8, cn0 _, ?_⟩, h9⟩
  · rw [c0] at hi
    omega
  · show I_fate _ _ (mj_cl 0)
    rw [c0]
    exact ⟨fun i hi => by omega, fun i hi => by omega, fun i k hi => by omega, fun i k hi => by omega⟩
theorem Inv0 : Inv 0 M1 := by
  have c0 : mj_cl (0 : Int32) = 0 := by decide
  have e0 : M1 0 = mi_L := rfl
  have e1 : M1 4 1 = fun _ => 0 := rfl
  have z : ∀ i : Nat, ¬ i < mj_cl (0 : Int32) := fun i hi => by
    rw [c0] at hi
    omega
  refine ⟨⟨rfl, rfl, fun β hβ => ?_⟩, ?_, ⟨rfl, cn0 _, fun i hi => absurd hi (z i), rfl, rfl⟩, rfl, Or.inl rfl⟩
  · rcases (by omega : β = 0 ∨ β = 1 ∨ β = 2) with rfl | rfl | rfl <;> exact ⟨rfl, rfl, rfl, rfl⟩
  · rw [e0, e1]
    refine ⟨⟨?_, ?_, rfl, cn0 _⟩, ?_, ⟨?_, ?_, ?_, ?_, ?_, ?_, ?_⟩, ?_, ?_, ?_, ?_, ?_⟩
    · exact ⟨rfl, by decide, by decide, by decide, by decide, by decide, by decide, by decide, by decide, by decide, by decide, by decide⟩
    · unfold I_rng rg
      decide
    · exact ⟨⟨rfl, by decide, by decide⟩, ⟨rfl, by decide, by decide⟩, ⟨rfl, by decide, by decide⟩, ⟨rfl, by decide, by decide⟩, ⟨rfl, by decide, by decide⟩, ⟨rfl, cn0 _, fun i hi => absurd hi (z i)⟩, ⟨rfl, cn0 _, fun i hi => absurd hi (z i)⟩, ⟨rfl, cn0 _, fun i hi => absurd hi (z i)⟩, rfl⟩
    · exact ⟨⟨by decide, by decide, by decide⟩, ⟨rfl, by decide, by decide⟩, ⟨rfl, by decide, by decide⟩, rfl, ⟨rfl, by decide, by decide⟩, ⟨rfl, by decide, by decide⟩, rfl⟩
    · exact ⟨rfl, cn0 _, fun i hi => absurd hi (z i)⟩
    · exact ⟨rfl, cn0 _, fun i hi => absurd hi (z i)⟩
    · exact ⟨rfl, cn0 _, fun i hi => absurd hi (z i)⟩
    · refine ⟨Or.inl ⟨rfl, rfl⟩, fun _ => rfl, ⟨by decide, by decide⟩, fun q => ?_⟩
      rcases q with q | q <;> exact absurd q (by decide)
    · exact Or.inl ⟨rfl, rfl⟩
    · refine ⟨fun q => absurd rfl q, fun q => ?_, fun _ _ => ⟨rfl, rfl⟩, fun _ => rfl⟩
      rcases q with q | q
      · exact absurd q (by decide)
      · exact absurd rfl q
    · refine ⟨rfl, cn0 _, ?_, ?_, cn0 _, fun i hi => absurd hi (z i), fun a b ha => absurd ha (z a)⟩
      · rw [c0]
        exact Nat.zero_le _
      · rw [c0]
        rfl
    · exact ⟨⟨rfl, cn0 _, fun i hi => by rw [c0] at hi; omega⟩, ⟨rfl, cn0 _, fun i hi => absurd hi (z i)⟩, ⟨rfl, by decide, by decide⟩, fun _ _ => rfl⟩
    · exact ⟨way0 rfl rfl rfl, rfl, fun i hi => absurd hi (z i)⟩
    · exact way0 rfl rfl rfl
    · exact ⟨rfl, rfl, cn0 _, cn0 _, fun i hi => absurd hi (z i)⟩
