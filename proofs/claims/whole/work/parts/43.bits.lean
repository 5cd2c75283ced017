/-! how many are in a sample; the walk that is kept -/
theorem bits_tab : ∀ a, a < 64 → ∀ b, b < 64 → f_X6_bits (nI (64 * a + b)) = f_J6_bitCount_0f7a4 (nI (64 * a + b)) := by decide +kernel
theorem e_bits {s : Nat} (h : s < 4096) : f_X6_bits (nI s) = f_J6_bitCount_0f7a4 (nI s) := by
  have := bits_tab (s / 64) (by omega) (s % 64) (by omega)
  rwa [Nat.div_add_mod] at this
theorem e_lp_walks {k : Nat} {q : Int32 × Int32 × Int32 × Int32 × Int32 × Int32 × (Nat → Int32) × (Nat → Int32)} (hq : q.2.2.2.1 = nI k) (hk : k ≤ 12) :
    ∀ n i p, i ≤ 3 * k → 3 * k < n + i → (∀ j, j < i → p j = q.2.2.2.2.2.2.2 j) → ∃ p', lp_X6_walks_35 q n (nI i) p = some p' ∧ ∀ j, j < 3 * k → p' j = q.2.2.2.2.2.2.2 j := by
  intro n
  induction n with
  | zero => intro i p h1 h2; omega
  | succ n ih =>
    intro i p h1 h2 h3
    rw [lp_X6_walks_35, hq, l3, pk_mul]
    by_cases e : i = 3 * k
    · subst e
      rw [if_pos (by rw [i_le (by omega) (by omega)]; omega)]
      exact ⟨p, rfl, h3⟩
    · rw [if_neg (by rw [i_le (by omega) (by omega)]; omega), i_in (by omega), if_pos (decide_eq_true (by omega)), if_pos (decide_eq_true (by omega)), i_cl (by omega), l1, nI_add]
      refine ih (i + 1) _ (by omega) (by omega) (fun j hj => ?_)
      show (if j = i then _ else p j) = _
      by_cases e2 : j = i
      · rw [if_pos e2, e2]
      · rw [if_neg e2]; exact h3 j (by omega)
