/-! the units: class (Roster) and reference hold the same facts -/
/-- the most that a fact may be -/
def mx : Nat → Nat := fun w => ([12, 99, 3, 99, 99] : List Nat).getD w 0
/-- c units with the facts G, in the class's rows and in the reference's row -/
def UR (c : Nat) (G : Nat → Nat → Nat) (rc : Int32) (F : Nat → Nat → Int32) (mn : Int32) (U : Nat → Int32) : Prop :=
  c ≤ 12 ∧ rc = nI c ∧ mn = nI c ∧ ∀ u, u < c → ∀ w, w < 5 → F w u = nI (G w u) ∧ U (5 * u + w) = nI (G w u) ∧ G w u ≤ mx w
theorem mx_le (w : Nat) : mx w ≤ 99 := by
  rcases (show w = 0 ∨ w = 1 ∨ w = 2 ∨ w = 3 ∨ w = 4 ∨ 5 ≤ w by omega) with rfl | rfl | rfl | rfl | rfl | h
  · decide
  · decide
  · decide
  · decide
  · decide
  · unfold mx
    rw [List.getD_eq_getElem?_getD, List.getElem?_eq_none (by simpa using h)]
    decide
theorem e_fact {c u w : Nat} {F : Nat → Nat → Int32} (hc : c ≤ 12) (hu : u < c) (hw : w < 5) : f_X3_fact (nI c) F (nI u) (nI w) = some (F w u) := by
  simp (disch := omega) only [f_X3_fact, l0, l5, i_lt, i_le, i_in, i_cl, d_t, if_pos, if_neg]
theorem e_fact0 {c u w : Nat} {F : Nat → Nat → Int32} (hc : c ≤ 12) (hu : c ≤ u) (hu2 : u < 2147483648) : f_X3_fact (nI c) F (nI u) (nI w) = some 0 := by
  simp (disch := omega) only [f_X3_fact, l0, l5, i_lt, i_le, i_in, i_cl, d_t, if_pos, if_neg]
theorem e_at {c u w : Nat} {U : Nat → Int32} (hc : c ≤ 12) (hu : u < c) (hw : w < 5) : f_X6_at U (nI u) (nI w) = some (U (5 * u + w)) := by
  simp (disch := omega) only [f_X6_at, l5, pk_mul, nI_add, i_in, i_cl, d_t, if_pos]
theorem e_lp_sum {c w : Nat} {F : Nat → Nat → Int32} {G : Nat → Nat → Nat} (hc : c ≤ 12) (hw : w < 5) (hF : ∀ u, u < c → ∀ w, w < 5 → F w u = nI (G w u) ∧ G w u ≤ 99) :
    ∀ n i, i ≤ c → c < n + i → lp_X3_sum_4 (nI c) F (nI w) n (nI (fb_sm (fun u => if 0 < G 0 u then G w u else 0) i)) (nI i) = some (nI (fb_sm (fun u => if 0 < G 0 u then G w u else 0) c)) := by
  intro n
  induction n with
  | zero => intro i h1 h2; omega
  | succ n ih =>
    intro i h1 h2
    rw [lp_X3_sum_4]
    by_cases h : i = c
    · subst h
      simp (disch := omega) only [i_le, if_pos]
    · have hi : i < c := by omega
      have g0 := hF i hi 0 (by omega)
      have gw := hF i hi w hw
      simp (disch := omega) only [l0, l1, i_le, if_neg, e_fact, bs, g0.1, gw.1, nI_add]
      have e : fb_sm (fun u => if 0 < G 0 u then G w u else 0) (i + 1) = fb_sm (fun u => if 0 < G 0 u then G w u else 0) i + (if 0 < G 0 i then G w i else 0) := fb_sm_succ _ _
      rw [← ih (i + 1) (by omega) (by omega), e]
      by_cases hz : 0 < G 0 i
      · simp (disch := omega) only [if_neg, if_pos, bs]
      · simp (disch := omega) only [if_neg, if_pos, bs, Nat.add_zero]
