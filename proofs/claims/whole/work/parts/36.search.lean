/-! who is open; the next one that is; the best one -/
def op (L : Nat → Nat) (i : Nat) : Bool := decide (0 < L i ∧ L i < 12)
/-- what is left of each, in the class's row (0 behind the units) and in the reference's -/
def CL (c : Nat) (L : Nat → Nat) (a : Nat → Int32) : Prop := ∀ i, i < 12 → a i = nI (if i < c then L i else 0)
def ML (c : Nat) (L : Nat → Nat) (a : Nat → Int32) : Prop := ∀ i, i < c → a i = nI (L i)
def LB (c : Nat) (L : Nat → Nat) : Prop := c ≤ 12 ∧ ∀ i, i < c → L i ≤ 12
def nx (p : Nat → Bool) (c : Nat) : Nat → Nat → Nat
  | 0, _ => c
  | k + 1, i => if p i then i else nx p c k (i + 1)
/-- the least one from i on for which p holds; c if there is none -/
def nxt (p : Nat → Bool) (c i : Nat) : Nat := nx p c (c - i) i
theorem nxt_ge {p : Nat → Bool} {c i : Nat} (h : c ≤ i) : nxt p c i = c := by
  unfold nxt
  rw [show c - i = 0 by omega]
  rfl
theorem nxt_yes {p : Nat → Bool} {c i : Nat} (h : i < c) (hp : p i = true) : nxt p c i = i := by
  unfold nxt
  rw [show c - i = (c - (i + 1)) + 1 by omega, nx, if_pos hp]
theorem nxt_no {p : Nat → Bool} {c i : Nat} (h : i < c) (hp : p i = false) : nxt p c i = nxt p c (i + 1) := by
  unfold nxt
  rw [show c - i = (c - (i + 1)) + 1 by omega, nx, if_neg (by rw [hp]; decide)]
theorem nxt_spec (p : Nat → Bool) (c : Nat) : ∀ k i, i + k = c → (nxt p c i ≤ c ∧ i ≤ nxt p c i ∧ (nxt p c i < c → p (nxt p c i) = true) ∧ ∀ j, i ≤ j → j < nxt p c i → p j = false) := by
  intro k
  induction k with
  | zero =>
    intro i h
    rw [nxt_ge (by omega)]
    exact ⟨Nat.le_refl _, by omega, fun q => absurd q (Nat.lt_irrefl _), fun j h1 h2 => by omega⟩
  | succ k ih =>
    intro i h
    cases hp : p i with
    | true =>
      rw [nxt_yes (by omega) hp]
      exact ⟨by omega, Nat.le_refl _, fun _ => hp, fun j h1 h2 => by omega⟩
    | false =>
      rw [nxt_no (by omega) hp]
      obtain ⟨h1, h2, h3, h4⟩ := ih (i + 1) (by omega)
      refine ⟨h1, by omega, h3, fun j g1 g2 => ?_⟩
      by_cases hj : j = i
      · subst hj; exact hp
      · exact h4 j (by omega) g2
theorem nxt_le (p : Nat → Bool) (c i : Nat) : nxt p c i ≤ c := by
  by_cases h : i ≤ c
  · exact (nxt_spec p c (c - i) i (by omega)).1
  · rw [nxt_ge (by omega)]; exact Nat.le_refl _
theorem nxt_from {p : Nat → Bool} {c i : Nat} (h : i ≤ c) : i ≤ nxt p c i := (nxt_spec p c (c - i) i (by omega)).2.1
theorem nxt_holds {p : Nat → Bool} {c i : Nat} (h : nxt p c i < c) : p (nxt p c i) = true := by
  by_cases hi : i ≤ c
  · exact (nxt_spec p c (c - i) i (by omega)).2.2.1 h
  · rw [nxt_ge (by omega)] at h; omega
theorem nxt_not {p : Nat → Bool} {c i j : Nat} (h1 : i ≤ j) (h2 : j < nxt p c i) : p j = false := by
  have := nxt_le p c i
  exact (nxt_spec p c (c - i) i (by omega)).2.2.2 j h1 h2
/-- searching by p and then by q is searching by both -/
theorem nxt_both {p q : Nat → Bool} {c i : Nat} (h : nxt p c i < c) : nxt (fun j => p j && q j) c i = if q (nxt p c i) = true then nxt p c i else nxt (fun j => p j && q j) c (nxt p c i + 1) := by
  have key : ∀ k i, i + k = c → nxt p c i < c → nxt (fun j => p j && q j) c i = if q (nxt p c i) = true then nxt p c i else nxt (fun j => p j && q j) c (nxt p c i + 1) := by
    intro k
    induction k with
    | zero => intro i h1 h2; rw [nxt_ge (by omega)] at h2; omega
    | succ k ih =>
      intro i h1 h2
      cases hp : p i with
      | true =>
        rw [nxt_yes (by omega) hp]
        by_cases hq : q i = true
        · rw [if_pos hq]
          exact nxt_yes (p := fun j => p j && q j) (by omega) (by simp [hp, hq])
        · rw [if_neg hq]
          exact nxt_no (p := fun j => p j && q j) (by omega) (by simp [hp, hq])
      | false =>
        rw [nxt_no (by omega) hp] at h2 ⊢
        rw [← ih (i + 1) (by omega) h2]
        exact nxt_no (p := fun j => p j && q j) (by omega) (by simp [hp])
  by_cases hi : i ≤ c
  · exact key (c - i) i (by omega) h
  · rw [nxt_ge (by omega)] at h; omega
theorem nxt_bothN {p q : Nat → Bool} {c i : Nat} (h : ¬ nxt p c i < c) : nxt (fun j => p j && q j) c i = c := by
  have h0 := nxt_le (fun j => p j && q j) c i
  have h1 := nxt_le p c i
  rcases Nat.lt_or_ge (nxt (fun j => p j && q j) c i) c with g | g
  · exfalso
    have g1 := nxt_holds g
    simp only [Bool.and_eq_true] at g1
    have hi : i ≤ c := by
      rcases Nat.lt_or_ge c i with z | z
      · rw [nxt_ge (p := fun j => p j && q j) (by omega)] at g; omega
      · exact z
    have g2 := nxt_from (p := fun j => p j && q j) hi
    have g3 := nxt_not (p := p) (c := c) (i := i) g2 (by omega)
    rw [g1.1] at g3
    cases g3
  · omega
/-- a truth as an int -/
def bI (b : Bool) : Int32 := if b = true then nI 1 else nI 0
theorem bI0 (b : Bool) : (bI b = nI 0) = (b = false) := by
  cases b
  · exact propext ⟨fun _ => rfl, fun _ => rfl⟩
  · exact propext ⟨fun q => absurd q (by decide), fun q => by cases q⟩
theorem bI_t : bI true = nI 1 := rfl
theorem bI_f : bI false = nI 0 := rfl
theorem op_iff {L : Nat → Nat} {i : Nat} : op L i = true ↔ 0 < L i ∧ L i < 12 := by unfold op; exact decide_eq_true_iff
theorem op_no {L : Nat → Nat} {i : Nat} (h : ¬ (0 < L i ∧ L i < 12)) : op L i = false := by unfold op; exact decide_eq_false h
/-- isOpen, both -/
theorem e_isOpen {c i : Nat} {L : Nat → Nat} {a : Nat → Int32} (h : CL c L a) (hb : LB c L) (hi : i ≤ 12) : f_X0_isOpen a (nI i) = some (bI (decide (i < c) && op L i)) := by
  have hc := hb.1
  unfold f_X0_isOpen
  by_cases h12 : i = 12
  · subst h12
    simp (disch := omega) only [l0, l1, l12, i_lt, i_le, if_neg, if_pos]
    rw [decide_eq_false (by omega)]
    rfl
  · have hv := h i (by omega)
    by_cases hic : i < c
    · have hl := hb.2 i hic
      rw [if_pos hic] at hv
      simp (disch := omega) only [l0, l1, l12, i_lt, i_le, i_in, i_cl, d_t, if_neg, if_pos, hv]
      rw [decide_eq_true hic, Bool.true_and]
      by_cases h1 : 0 < L i
      · by_cases h2 : L i < 12
        · rw [if_neg (by omega), if_neg (by omega), op_iff.mpr ⟨h1, h2⟩]
          rfl
        · rw [if_neg (by omega), if_pos (by omega), op_no (fun q => h2 q.2)]
          rfl
      · rw [if_pos (by omega), op_no (fun q => h1 q.1)]
        rfl
    · rw [if_neg hic] at hv
      simp (disch := omega) only [l0, l1, l12, i_lt, i_le, i_in, i_cl, d_t, if_neg, if_pos, hv]
      rw [decide_eq_false hic, Bool.false_and]
      rfl
theorem e_isOpen6 {c i : Nat} {L : Nat → Nat} {a : Nat → Int32} (h : ML c L a) (hb : LB c L) (hi : i < c) : f_X6_isOpen a (nI i) = some (bI (op L i)) := by
  have hc := hb.1
  have hl := hb.2 i hi
  unfold f_X6_isOpen
  simp (disch := omega) only [l0, l1, L1, L11, i_in, i_cl, d_t, if_pos, h i hi, in_nI, bs]
  by_cases h1 : 0 < L i ∧ L i < 12
  · rw [if_pos (by omega), op_iff.mpr h1]
    rfl
  · rw [if_neg (by omega), op_no h1]
    rfl
theorem e_lp_openFrom {c : Nat} {L : Nat → Nat} {a : Nat → Int32} (h : CL c L a) (hb : LB c L) :
    ∀ n i, i ≤ 12 → 12 < n + i → lp_X0_openFrom_2 a n (nI i) = some (if nxt (op L) c i < c then (0, nI (nxt (op L) c i)) else (1, nI 12)) := by
  have hc := hb.1
  intro n
  induction n with
  | zero => intro i h1 h2; omega
  | succ n ih =>
    intro i h1 h2
    rw [lp_X0_openFrom_2]
    by_cases h12 : i = 12
    · subst h12
      simp (disch := omega) only [l12, i_le, if_pos]
      rw [if_neg (by rw [nxt_ge (by omega)]; omega)]
    · rw [e_isOpen h hb h1]
      simp (disch := omega) only [l0, l1, l12, i_le, if_neg, bs, nI_add, bI0]
      by_cases hic : i < c
      · rw [decide_eq_true hic, Bool.true_and]
        cases hp : op L i with
        | true =>
          rw [if_neg (by decide), nxt_yes hic hp, if_pos hic]
        | false =>
          rw [if_pos rfl, nxt_no hic hp, ih (i + 1) (by omega) (by omega)]
      · rw [decide_eq_false hic, Bool.false_and, if_pos rfl, ih (i + 1) (by omega) (by omega), nxt_ge (by omega), nxt_ge (by omega)]
/-- a place, or NONE -/
def eN (c k : Nat) : Int32 := if k < c then nI k else -1
theorem e_openFrom {c i : Nat} {L : Nat → Nat} {a : Nat → Int32} (h : CL c L a) (hb : LB c L) (hi : i ≤ 12) : f_X0_openFrom a (nI i) = some (eN c (nxt (op L) c i)) := by
  unfold f_X0_openFrom eN
  rw [e_lp_openFrom h hb FU i hi (by rw [FU_eq]; omega), bs]
  by_cases hk : nxt (op L) c i < c
  · rw [if_pos hk, if_pos hk, if_pos rfl]
  · rw [if_neg hk, if_neg hk, if_neg (by decide)]
theorem e_lp_firstOpen {c : Nat} {L : Nat → Nat} {a : Nat → Int32} (h : ML c L a) (hb : LB c L) :
    ∀ n i, i ≤ c → c < n + i → lp_X6_firstOpen_2 (nI c) a n (nI i) = some (nI (nxt (op L) c i)) := by
  have hc := hb.1
  intro n
  induction n with
  | zero => intro i h1 h2; omega
  | succ n ih =>
    intro i h1 h2
    rw [lp_X6_firstOpen_2]
    by_cases hic : i = c
    · subst hic
      simp (disch := omega) only [i_le, if_pos]
      rw [nxt_ge (by omega)]
    · have hic : i < c := by omega
      rw [e_isOpen6 h hb hic]
      simp (disch := omega) only [l0, l1, i_le, if_neg, bs, nI_add, bI0]
      cases hp : op L i with
      | true => rw [if_neg (by decide), nxt_yes hic hp]
      | false => rw [if_pos rfl, nxt_no hic hp, ih (i + 1) (by omega) (by omega)]
theorem e_firstOpen {c i : Nat} {L : Nat → Nat} {a : Nat → Int32} (h : ML c L a) (hb : LB c L) (hi : i ≤ c) : f_X6_firstOpen (nI c) a (nI i) = some (nI (nxt (op L) c i)) := by
  have hc := hb.1
  unfold f_X6_firstOpen
  rw [e_lp_firstOpen h hb FU i hi (by rw [FU_eq]; omega), bs]
