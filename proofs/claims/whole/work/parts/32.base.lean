/-! STAGE B: the functions themselves; no machine in it. First: numbers -/
theorem i_lt {a b : Nat} (ha : a < 2147483648) (hb : b < 2147483648) : (nI a < nI b) = (a < b) := propext (nI_ltI ha hb)
theorem i_le {a b : Nat} (ha : a < 2147483648) (hb : b < 2147483648) : (nI a ≤ nI b) = (a ≤ b) := propext (nI_leI ha hb)
theorem i_eq {a b : Nat} (ha : a < 2147483648) (hb : b < 2147483648) : (nI a = nI b) = (a = b) := propext (nI_eq ha hb)
theorem i_ti {a : Nat} (ha : a < 2147483648) : (nI a).toInt = (a : Int) := nI_toInt ha
theorem i_m1 {a : Nat} (ha : a < 2147483648) : (nI a = -1) = False := by
  refine eq_false (fun h => ?_)
  have h1 := congrArg Int32.toInt h
  rw [i_ti ha] at h1
  have h2 : (-1 : Int32).toInt = -1 := by decide
  omega
theorem i_m1' {a : Nat} (ha : a < 2147483648) : ((-1) = nI a) = False := by
  refine eq_false (fun h => ?_)
  have h1 := i_m1 ha
  rw [h] at h1
  exact absurd rfl (of_eq_false h1)
theorem i_in {i n : Nat} (hi : i < 2147483648) : inB (nI i) n = decide (i < n) := by
  unfold inB
  have h0 : ¬ nI i < 0 := nI_pos hi
  have h1 : (nI i).toNatClampNeg = i := nI_clamp hi
  rw [h1]
  by_cases h : i < n
  · rw [decide_eq_true h]
    exact decide_eq_true (fun q => by rcases q with q | q; exact h0 q; omega)
  · rw [decide_eq_false h]
    exact decide_eq_false (fun q => q (Or.inr (by omega)))
theorem i_cl {a : Nat} (ha : a < 2147483648) : (nI a).toNatClampNeg = a := nI_clamp ha
theorem i_sub {a b : Nat} (h : b ≤ a) : nI a - nI b = nI (a - b) := pk_sub h
theorem i_cl0 : Int32.toNatClampNeg 0 = 0 := by decide
theorem l0 : (0 : Int32) = nI 0 := by decide
theorem l1 : (1 : Int32) = nI 1 := by decide
theorem l2 : (2 : Int32) = nI 2 := by decide
theorem l3 : (3 : Int32) = nI 3 := by decide
theorem l4 : (4 : Int32) = nI 4 := by decide
theorem l5 : (5 : Int32) = nI 5 := by decide
theorem l6 : (6 : Int32) = nI 6 := by decide
theorem l7 : (7 : Int32) = nI 7 := by decide
theorem l8 : (8 : Int32) = nI 8 := by decide
theorem l9 : (9 : Int32) = nI 9 := by decide
theorem l10 : (10 : Int32) = nI 10 := by decide
theorem l11 : (11 : Int32) = nI 11 := by decide
theorem l12 : (12 : Int32) = nI 12 := by decide
theorem l13 : (13 : Int32) = nI 13 := by decide
theorem l24 : (24 : Int32) = nI 24 := by decide
theorem l30 : (30 : Int32) = nI 30 := by decide
theorem l31 : (31 : Int32) = nI 31 := by decide
theorem l32 : (32 : Int32) = nI 32 := by decide
theorem l36 : (36 : Int32) = nI 36 := by decide
theorem l43 : (43 : Int32) = nI 43 := by decide
theorem l45 : (45 : Int32) = nI 45 := by decide
theorem l48 : (48 : Int32) = nI 48 := by decide
theorem l57 : (57 : Int32) = nI 57 := by decide
theorem l59 : (59 : Int32) = nI 59 := by decide
theorem l60 : (60 : Int32) = nI 60 := by decide
theorem l64 : (64 : Int32) = nI 64 := by decide
theorem l97 : (97 : Int32) = nI 97 := by decide
theorem l99 : (99 : Int32) = nI 99 := by decide
theorem l120 : (120 : Int32) = nI 120 := by decide
theorem l122 : (122 : Int32) = nI 122 := by decide
theorem l127 : (127 : Int32) = nI 127 := by decide
theorem l150 : (150 : Int32) = nI 150 := by decide
theorem l300 : (300 : Int32) = nI 300 := by decide
theorem l4096 : (4096 : Int32) = nI 4096 := by decide
theorem l332640 : (332640 : Int32) = nI 332640 := by decide
theorem FU_eq : FU = 5000 := rfl
theorem bs {α β : Type} (a : α) (f : α → Option β) : Option.bind (some a) f = f a := rfl
theorem d_t {p : Prop} [Decidable p] : (decide p = true) = p := propext decide_eq_true_iff
/-- the longs' order, seen through lcmp -/
theorem c_lt (a b : Int64) : (lg_cmp a b < 0) = (a < b) := by
  unfold lg_cmp
  rcases (show a.toInt < b.toInt ∨ a.toInt = b.toInt ∨ b.toInt < a.toInt by omega) with h | h | h
  · have h1 : ¬ a > b := by rw [gt_iff_lt, fa_lt64]; omega
    have h2 : ¬ a = b := by rw [fa_eq64]; omega
    rw [if_neg h1, if_neg h2]
    exact propext ⟨fun _ => (fa_lt64 a b).mpr h, fun _ => by decide⟩
  · have h1 : ¬ a > b := by rw [gt_iff_lt, fa_lt64]; omega
    have h2 : a = b := by rw [fa_eq64]; omega
    rw [if_neg h1, if_pos h2]
    exact propext ⟨fun q => absurd q (by decide), fun q => absurd ((fa_lt64 a b).mp q) (by omega)⟩
  · have h1 : a > b := by rw [gt_iff_lt, fa_lt64]; omega
    rw [if_pos h1]
    exact propext ⟨fun q => absurd q (by decide), fun q => absurd ((fa_lt64 a b).mp q) (by omega)⟩
theorem c_gt (a b : Int64) : (0 < lg_cmp a b) = (b < a) := by
  unfold lg_cmp
  rcases (show a.toInt < b.toInt ∨ a.toInt = b.toInt ∨ b.toInt < a.toInt by omega) with h | h | h
  · have h1 : ¬ a > b := by rw [gt_iff_lt, fa_lt64]; omega
    have h2 : ¬ a = b := by rw [fa_eq64]; omega
    rw [if_neg h1, if_neg h2]
    exact propext ⟨fun q => absurd q (by decide), fun q => absurd ((fa_lt64 b a).mp q) (by omega)⟩
  · have h1 : ¬ a > b := by rw [gt_iff_lt, fa_lt64]; omega
    have h2 : a = b := by rw [fa_eq64]; omega
    rw [if_neg h1, if_pos h2]
    exact propext ⟨fun q => absurd q (by decide), fun q => absurd ((fa_lt64 b a).mp q) (by omega)⟩
  · have h1 : a > b := by rw [gt_iff_lt, fa_lt64]; omega
    rw [if_pos h1]
    exact propext ⟨fun _ => h1, fun _ => by decide⟩
theorem c_ge (a b : Int64) : (0 ≤ lg_cmp a b) = (b ≤ a) := propext (lg_cmp_ge a b)
theorem c_eq (a b : Int64) : (lg_cmp a b = 0) = (a = b) := by
  unfold lg_cmp
  rcases (show a.toInt < b.toInt ∨ a.toInt = b.toInt ∨ b.toInt < a.toInt by omega) with h | h | h
  · have h1 : ¬ a > b := by rw [gt_iff_lt, fa_lt64]; omega
    have h2 : ¬ a = b := by rw [fa_eq64]; omega
    rw [if_neg h1, if_neg h2]
    exact propext ⟨fun q => absurd q (by decide), fun q => absurd q h2⟩
  · have h1 : ¬ a > b := by rw [gt_iff_lt, fa_lt64]; omega
    have h2 : a = b := by rw [fa_eq64]; omega
    rw [if_neg h1, if_pos h2]
    exact propext ⟨fun _ => h2, fun _ => rfl⟩
  · have h1 : a > b := by rw [gt_iff_lt, fa_lt64]; omega
    have h2 : ¬ a = b := by rw [fa_eq64]; omega
    rw [if_pos h1]
    exact propext ⟨fun q => absurd q (by decide), fun q => absurd q h2⟩
/-- in(v, low, high) of ints taken as longs -/
theorem e_in (a b c : Int32) : f_X6_in a.toInt64 b.toInt64 c.toInt64 = some (if a < b then 0 else if c < a then 0 else 1) := by
  unfold f_X6_in
  simp only [c_lt, c_gt, fa_wide_lt]
  by_cases h1 : a < b
  · rw [if_pos h1, if_pos h1]
  · rw [if_neg h1, if_neg h1]
    by_cases h2 : c < a
    · rw [if_pos h2, if_pos h2]
    · rw [if_neg h2, if_neg h2]
theorem e_in' {x y : Int64} {b c : Int32} (a : Int32) (hx : b.toInt64 = x) (hy : c.toInt64 = y) : f_X6_in a.toInt64 x y = some (if a < b then 0 else if c < a then 0 else 1) := by
  rw [← hx, ← hy]
  exact e_in a b c
