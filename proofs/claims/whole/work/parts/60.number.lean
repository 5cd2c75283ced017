/-! reading: numbers -/
def nd (b : Nat → Nat) : Nat → Bool := fun j => !decide (48 ≤ b j ∧ b j ≤ 57)
/-- behind the digits -/
def de (b : Nat → Nat) (t a : Nat) : Nat := nxt (nd b) t a
/-- the number of the first k digits from a on -/
def dV (b : Nat → Nat) (a : Nat) : Nat → Nat
  | 0 => 0
  | k + 1 => 10 * dV b a k + (b (a + k) - 48)
theorem de_in {b : Nat → Nat} {t a i : Nat} (h : a + i < de b t a) : 48 ≤ b (a + i) ∧ b (a + i) ≤ 57 := by
  have h2 : (!decide (48 ≤ b (a + i) ∧ b (a + i) ≤ 57)) = false := nxt_not (p := nd b) (c := t) (i := a) (j := a + i) (by omega) h
  exact Classical.byContradiction (fun q => by rw [decide_eq_false q] at h2; cases h2)
theorem de_at {b : Nat → Nat} {t a : Nat} (h : de b t a < t) : ¬ (48 ≤ b (de b t a) ∧ b (de b t a) ≤ 57) := by
  intro q
  have h2 : (!decide (48 ≤ b (de b t a) ∧ b (de b t a) ≤ 57)) = true := nxt_holds (p := nd b) h
  rw [decide_eq_true q] at h2
  cases h2
theorem dV_lt {b : Nat → Nat} {a : Nat} : ∀ k, (∀ i, i < k → 48 ≤ b (a + i) ∧ b (a + i) ≤ 57) → dV b a k < 10 ^ k
  | 0, _ => Nat.zero_lt_one
  | k + 1, h => by
    have g := h k (by omega)
    have := dV_lt k (fun i hi => h i (by omega))
    rw [dV, Nat.pow_succ]
    omega
theorem dV_lt8 {b : Nat → Nat} {a k : Nat} (hk : k ≤ 7) (h : ∀ i, i < k → 48 ≤ b (a + i) ∧ b (a + i) ≤ 57) : dV b a k < 10000000 := by
  have h1 := dV_lt k h
  have h2 : 10 ^ k ≤ 10 ^ 7 := Nat.pow_le_pow_right (by decide) hk
  have h3 : 10 ^ 7 = 10000000 := by decide
  omega
theorem d_step {v c : Nat} (hc : 48 ≤ c) : 10 * nI v + nI c - 48 = nI (10 * v + (c - 48)) := by
  rw [l10, pk_mul, nI_add, l48, i_sub (by omega)]
  congr 1
  omega
/-- at most d + 1 digits are looked at -/
theorem e_lp_rn {t a d : Nat} {b : Nat → Nat} {st : Nat → Int32} (ht : t ≤ 120) (hv : ∀ j, j < t → st j = nI (b j)) (hb : ∀ j, j < t → b j ≤ 127) (ha : a ≤ t) (hd : d ≤ 6) :
    ∀ n k, k ≤ min (de b t a - a) (d + 1) → d + 1 < n + k → lp_X4_readNumber_7 (nI d) (nI t) st n (nI (dV b a k)) (nI k) (nI k) (nI (a + k)) = some (nI (dV b a (min (de b t a - a) (d + 1))), nI (min (de b t a - a) (d + 1)), nI (a + min (de b t a - a) (d + 1))) := by
  have hge : a ≤ de b t a := nxt_from ha
  have hle : de b t a ≤ t := nxt_le _ _ _
  intro n
  induction n with
  | zero => intro k h1 h2; omega
  | succ n ih =>
    intro k h1 h2
    rw [lp_X4_readNumber_7]
    by_cases g : d < k
    · rw [if_pos (by rw [i_lt (by omega) (by omega)]; omega), show k = min (de b t a - a) (d + 1) by omega]
    · rw [if_neg (by rw [i_lt (by omega) (by omega)]; omega), e_byteAt ht hv (by omega), bs, bs, bs]
      by_cases g2 : a + k < de b t a
      · have hl := de_in g2
        rw [if_pos (show a + k < t by omega), if_neg (by rw [l48, i_lt (by omega) (by omega)]; omega), if_neg (by rw [l57, i_lt (by omega) (by omega)]; omega), d_step hl.1, l1, nI_add, nI_add, Nat.add_assoc]
        exact ih (k + 1) (by omega) (by omega)
      · have hk : a + k = de b t a := by omega
        have e : k = min (de b t a - a) (d + 1) := by omega
        by_cases g3 : a + k < t
        · have hb2 := hb (a + k) g3
          have hn : ¬ (48 ≤ b (a + k) ∧ b (a + k) ≤ 57) := by rw [hk] at g3 ⊢; exact de_at g3
          rw [if_pos g3]
          by_cases g4 : b (a + k) < 48
          · rw [if_pos (by rw [l48, i_lt (by omega) (by omega)]; omega), ← e]
          · rw [if_neg (by rw [l48, i_lt (by omega) (by omega)]; omega), if_pos (by rw [l57, i_lt (by omega) (by omega)]; omega), ← e]
        · rw [if_neg g3, if_pos (by decide), ← e]
/-- a number of one to d digits -/
def rdN (b : Nat → Nat) (t a d : Nat) : Option Nat := if 1 ≤ de b t a - a ∧ de b t a - a ≤ d then some (dV b a (de b t a - a)) else none
theorem e_readNumber {t a d : Nat} {b : Nat → Nat} {st : Nat → Int32} (ht : t ≤ 120) (hv : ∀ j, j < t → st j = nI (b j)) (hb : ∀ j, j < t → b j ≤ 127) (ha : a ≤ t) (hd : d ≤ 6) :
    ∃ z, f_X4_readNumber (nI t) (nI a) st (nI d) = some (eO (rdN b t a d), nI z) ∧ (rdN b t a d ≠ none → z = de b t a) ∧ z ≤ t := by
  have hge : a ≤ de b t a := nxt_from ha
  have hle : de b t a ≤ t := nxt_le _ _ _
  have h : lp_X4_readNumber_7 (nI d) (nI t) st FU 0 0 0 (nI a) = _ := e_lp_rn ht hv hb ha hd FU 0 (by omega) (by rw [FU_eq]; omega)
  refine ⟨a + min (de b t a - a) (d + 1), ?_, ?_, by omega⟩
  · unfold f_X4_readNumber rdN
    rw [h, bs]
    show (if nI (min (de b t a - a) (d + 1)) = 0 then some ((-1 : Int32), nI (a + min (de b t a - a) (d + 1))) else if nI (min (de b t a - a) (d + 1)) ≤ nI d then some (nI (dV b a (min (de b t a - a) (d + 1))), nI (a + min (de b t a - a) (d + 1))) else some (-1, nI (a + min (de b t a - a) (d + 1)))) = _
    by_cases g : de b t a - a = 0
    · rw [if_pos (by rw [l0, i_eq (by omega) (by omega)]; omega), if_neg (by omega)]; rfl
    · rw [if_neg (by rw [l0, i_eq (by omega) (by omega)]; omega)]
      by_cases g2 : de b t a - a ≤ d
      · rw [if_pos (by rw [i_le (by omega) (by omega)]; omega), if_pos (by omega), show min (de b t a - a) (d + 1) = de b t a - a by omega]; rfl
      · rw [if_neg (by rw [i_le (by omega) (by omega)]; omega), if_neg (by omega)]; rfl
  · intro q
    unfold rdN at q
    by_cases g : 1 ≤ de b t a - a ∧ de b t a - a ≤ d
    · omega
    · rw [if_neg g] at q
      exact absurd rfl q
theorem e_lp_tn {t a : Nat} {b : Nat → Nat} {mt : Nat → Int32} (ht : t ≤ 120) (hv : ∀ j, j < t → mt j = nI (b j)) (hb : ∀ j, j < t → b j ≤ 127) (ha : a ≤ t) :
    ∀ n k, k ≤ min (de b t a - a) 7 → 7 < n + k → lp_X6_takesNumber_12 (nI t) mt (nI a) n (nI (a + k)) (nI (dV b a k)) = some (nI (a + min (de b t a - a) 7), nI (dV b a (min (de b t a - a) 7))) := by
  have hge : a ≤ de b t a := nxt_from ha
  have hle : de b t a ≤ t := nxt_le _ _ _
  intro n
  induction n with
  | zero => intro k h1 h2; omega
  | succ n ih =>
    intro k h1 h2
    have hi := e_isByte (i := a + k) (lo := 48) (hi := 57) ht hv hb (by omega) (by omega) (by omega)
    rw [← l48, ← l57] at hi
    rw [lp_X6_takesNumber_12, hi, bs]
    simp only [bIv]
    by_cases g : a + k < de b t a
    · have hl := de_in g
      rw [if_neg (by rw [decide_eq_true (show a + k < t ∧ 48 ≤ b (a + k) ∧ b (a + k) ≤ 57 from ⟨by omega, hl⟩)]; decide), i_sub (by omega), show a + k - a = k by omega]
      by_cases g8 : 7 ≤ k
      · rw [if_pos (by rw [l7, i_le (by omega) (by omega)]; omega), show k = min (de b t a - a) 7 by omega]
      · rw [if_neg (by rw [l7, i_le (by omega) (by omega)]; omega), i_in (by omega), if_pos (decide_eq_true (by omega)), i_cl (by omega), hv (a + k) (by omega), d_step hl.1, show nI (a + k) + 1 = nI (a + (k + 1)) by rw [l1, nI_add, Nat.add_assoc]]
        exact ih (k + 1) (by omega) (by omega)
    · have hk : a + k = de b t a := by omega
      have hno : decide (a + k < t ∧ 48 ≤ b (a + k) ∧ b (a + k) ≤ 57) = false := by
        apply decide_eq_false
        rintro ⟨q1, q2⟩
        rw [hk] at q1 q2
        exact de_at q1 q2
      rw [if_pos hno, show k = min (de b t a - a) 7 by omega]
/-- a number that may stand: at most mo -/
def okN (b : Nat → Nat) (t a d : Nat) (mo : Int) : Option Nat := match rdN b t a d with
  | none => none
  | some v => if (v : Int) ≤ mo then some v else none
theorem e_takesNumber {t a0 d : Nat} {b : Nat → Nat} {mt : Nat → Int32} {mo : Int32} (ht : t ≤ 120) (hv : ∀ j, j < t → mt j = nI (b j)) (hb : ∀ j, j < t → b j ≤ 127) (ha : a0 ≤ t) (hd : d ≤ 6) :
    f_X6_takesNumber (nI t) (nI a0) mt (nI d) mo = some (eO (okN b t (sk b t a0) d mo.toInt), nI (if okN b t (sk b t a0) d mo.toInt = none then sk b t a0 else de b t (sk b t a0))) := by
  have hs := sk_le b t a0
  obtain ⟨a, ea⟩ : ∃ a, a = sk b t a0 := ⟨_, rfl⟩
  rw [← ea] at hs ⊢
  have hge : a ≤ de b t a := nxt_from hs
  have hle : de b t a ≤ t := nxt_le _ _ _
  have k1 : lp_X6_takesNumber_12 (nI t) mt (nI a) FU (nI a) 0 = _ := e_lp_tn ht hv hb hs FU 0 (by omega) (by rw [FU_eq]; omega)
  have hi := e_isByte (i := a + min (de b t a - a) 7) (lo := 48) (hi := 57) ht hv hb (by omega) (by omega) (by omega)
  rw [← l48, ← l57] at hi
  have hV : dV b a (min (de b t a - a) 7) < 10000000 := dV_lt8 (by omega) (fun i hi => de_in (t := t) (by omega))
  unfold f_X6_takesNumber
  rw [e_skipM ht hv hb ha, ← ea, bs, k1, bs]
  dsimp (config := { instances := true }) only
  rw [i_sub (by omega), show a + min (de b t a - a) 7 - a = min (de b t a - a) 7 by omega, L1, in_nI (by omega) (by omega) (by omega), bs, hi, bs]
  unfold okN rdN
  by_cases g : 1 ≤ de b t a - a ∧ de b t a - a ≤ d
  · have em : min (de b t a - a) 7 = de b t a - a := by omega
    rw [em] at hV ⊢
    rw [show a + (de b t a - a) = de b t a by omega]
    have hno : decide (de b t a < t ∧ 48 ≤ b (de b t a) ∧ b (de b t a) ≤ 57) = false := by
      apply decide_eq_false
      rintro ⟨q1, q2⟩
      exact de_at q1 q2
    rw [hno]
    simp only [if_pos g]
    rw [if_neg (show ¬ (1 : Int32) = 0 by decide)]
    by_cases g2 : (dV b a (de b t a - a) : Int) ≤ mo.toInt
    · rw [if_neg (show ¬ mo < nI (dV b a (de b t a - a)) by rw [fa_lt, i_ti (by omega)]; omega), if_pos (show bI false = 0 from rfl), bs]
      simp only [if_pos g2, if_neg (show ¬ (1 : Int32) = 0 by decide), bs]
      rfl
    · rw [if_pos (show mo < nI (dV b a (de b t a - a)) by rw [fa_lt, i_ti (by omega)]; omega), bs]
      simp only [if_neg g2, if_true, bs]
      rfl
  · simp only [if_neg g]
    rw [if_neg (show ¬ (1 ≤ min (de b t a - a) 7 ∧ min (de b t a - a) 7 ≤ d) by omega)]
    simp only [if_true, bs]
    rfl
