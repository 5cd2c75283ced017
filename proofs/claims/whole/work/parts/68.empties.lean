/-! empties -/
theorem e_empties {c : Nat} {G : Nat → Nat → Nat} {rc mn : Int32} {F : Nat → Nat → Int32} {U : Nat → Int32} (hu : UR c G rc F mn U) (ch : Int32) : f_X5_empties rc ch = some (rc, 0, ch + nI 1, 0, 0, 0, 0) ∧ f_X6_empties mn = some (rc, 0, 0, 0, 0, 0) ∧ UR 0 G 0 F 0 U := by
  have h0 := hu.none
  obtain ⟨hc, rfl, rfl, _⟩ := hu
  exact ⟨rfl, rfl, h0⟩
