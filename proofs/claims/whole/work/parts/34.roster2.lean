/-! sums, distances, what is counted up -/
def sumN (G : Nat → Nat → Nat) (w c : Nat) : Nat := fb_sm (fun u => if 0 < G 0 u then G w u else 0) c
def opnN (G : Nat → Nat → Nat) (c : Nat) : Nat := fb_sm (fun u => if 0 < G 0 u ∧ G 0 u < 12 then 1 else 0) c
def dN (a b : Nat) : Nat := if a ≤ b then b - a else a - b
/-- what the units' facts are like -/
def FG (c : Nat) (G : Nat → Nat → Nat) (F : Nat → Nat → Int32) : Prop := c ≤ 12 ∧ ∀ u, u < c → ∀ w, w < 5 → F w u = nI (G w u) ∧ G w u ≤ mx w
def UG (c : Nat) (G : Nat → Nat → Nat) (U : Nat → Int32) : Prop := c ≤ 12 ∧ ∀ u, u < c → ∀ w, w < 5 → U (5 * u + w) = nI (G w u) ∧ G w u ≤ mx w
theorem UR.F {c : Nat} {G : Nat → Nat → Nat} {rc mn : Int32} {F : Nat → Nat → Int32} {U : Nat → Int32} (h : UR c G rc F mn U) : FG c G F := ⟨h.1, fun u hu w hw => ⟨(h.2.2.2 u hu w hw).1, (h.2.2.2 u hu w hw).2.2⟩⟩
theorem UR.U {c : Nat} {G : Nat → Nat → Nat} {rc mn : Int32} {F : Nat → Nat → Int32} {U : Nat → Int32} (h : UR c G rc F mn U) : UG c G U := ⟨h.1, fun u hu w hw => ⟨(h.2.2.2 u hu w hw).2.1, (h.2.2.2 u hu w hw).2.2⟩⟩
theorem FG.v {c : Nat} {G : Nat → Nat → Nat} {F : Nat → Nat → Int32} (h : FG c G F) {u w : Nat} (hu : u < c) (hw : w < 5) : F w u = nI (G w u) ∧ G w u ≤ 99 := ⟨(h.2 u hu w hw).1, Nat.le_trans (h.2 u hu w hw).2 (mx_le w)⟩
theorem UG.v {c : Nat} {G : Nat → Nat → Nat} {U : Nat → Int32} (h : UG c G U) {u w : Nat} (hu : u < c) (hw : w < 5) : U (5 * u + w) = nI (G w u) ∧ G w u ≤ 99 := ⟨(h.2 u hu w hw).1, Nat.le_trans (h.2 u hu w hw).2 (mx_le w)⟩
theorem FG.f {c : Nat} {G : Nat → Nat → Nat} {F : Nat → Nat → Int32} (h : FG c G F) {u w : Nat} (hu : u < c) (hw : w < 5) : f_X3_fact (nI c) F (nI u) (nI w) = some (nI (G w u)) := by
  rw [e_fact h.1 hu hw, (h.v hu hw).1]
theorem UG.f {c : Nat} {G : Nat → Nat → Nat} {U : Nat → Int32} (h : UG c G U) {u w : Nat} (hu : u < c) (hw : w < 5) : f_X6_at U (nI u) (nI w) = some (nI (G w u)) := by
  rw [e_at h.1 hu hw, (h.v hu hw).1]
theorem FG.g0 {c : Nat} {G : Nat → Nat → Nat} {F : Nat → Nat → Int32} (h : FG c G F) {u : Nat} (hu : u < c) : G 0 u ≤ 12 := (h.2 u hu 0 (by omega)).2
theorem UG.g0 {c : Nat} {G : Nat → Nat → Nat} {U : Nat → Int32} (h : UG c G U) {u : Nat} (hu : u < c) : G 0 u ≤ 12 := (h.2 u hu 0 (by omega)).2
theorem e_sum {c w : Nat} {G : Nat → Nat → Nat} {F : Nat → Nat → Int32} (h : FG c G F) (hw : w < 5) : f_X3_sum (nI c) F (nI w) = some (nI (sumN G w c)) := by
  unfold f_X3_sum
  have h1 := e_lp_sum (G := G) h.1 hw (fun u hu w hw => h.v hu hw) FU 0 (Nat.zero_le _) (by have := h.1; rw [FU_eq]; omega)
  have h2 : lp_X3_sum_4 (nI c) F (nI w) FU 0 0 = some (nI (sumN G w c)) := h1
  rw [h2]
  rfl
theorem e_lp_sumOf {c w : Nat} {U : Nat → Int32} {G : Nat → Nat → Nat} (h : UG c G U) (hw : w < 5) :
    ∀ n i, i ≤ c → c < n + i → lp_X6_sumOf_4 (nI c) U (nI w) n (nI (sumN G w i)) (nI i) = some (nI (sumN G w c)) := by
  have hc := h.1
  intro n
  induction n with
  | zero => intro i h1 h2; omega
  | succ n ih =>
    intro i h1 h2
    rw [lp_X6_sumOf_4]
    by_cases hi : i = c
    · subst hi
      simp (disch := omega) only [i_le, if_pos]
    · have hi : i < c := by omega
      have g0 := h.f hi (w := 0) (by omega)
      have gw := h.f hi hw
      have b0 := (h.v hi (w := 0) (by omega)).2
      simp (disch := omega) only [l0, l1, i_le, if_neg, bs, g0, gw, nI_add]
      have e : sumN G w (i + 1) = sumN G w i + (if 0 < G 0 i then G w i else 0) := fb_sm_succ _ _
      rw [← ih (i + 1) (by omega) (by omega), e]
      by_cases hz : 0 < G 0 i
      · simp (disch := omega) only [if_neg, if_pos, bs, nI_add]
      · simp (disch := omega) only [if_neg, if_pos, bs, Nat.add_zero, nI_add]
theorem e_sumOf {c w : Nat} {G : Nat → Nat → Nat} {U : Nat → Int32} (h : UG c G U) (hw : w < 5) : f_X6_sumOf (nI c) U (nI w) = some (nI (sumN G w c)) := by
  unfold f_X6_sumOf
  have h1 := e_lp_sumOf h hw FU 0 (Nat.zero_le _) (by have := h.1; rw [FU_eq]; omega)
  have h2 : lp_X6_sumOf_4 (nI c) U (nI w) FU 0 0 = some (nI (sumN G w c)) := h1
  rw [h2]
  rfl
theorem e_lp_open {c : Nat} {F : Nat → Nat → Int32} {G : Nat → Nat → Nat} (h : FG c G F) :
    ∀ n i, i ≤ c → c < n + i → lp_X3_openAtFirst_4 (nI c) F n (nI (opnN G i)) (nI i) = some (nI (opnN G c)) := by
  have hc := h.1
  intro n
  induction n with
  | zero => intro i h1 h2; omega
  | succ n ih =>
    intro i h1 h2
    rw [lp_X3_openAtFirst_4]
    by_cases hi : i = c
    · subst hi
      simp (disch := omega) only [i_le, if_pos]
    · have hi : i < c := by omega
      have g0 := h.f hi (w := 0) (by omega)
      have b0 := h.g0 hi
      simp (disch := omega) only [l0, l1, l12, i_le, if_neg, bs, g0, nI_add]
      have e : opnN G (i + 1) = opnN G i + (if 0 < G 0 i ∧ G 0 i < 12 then 1 else 0) := fb_sm_succ _ _
      rw [← ih (i + 1) (by omega) (by omega), e]
      by_cases hz : 0 < G 0 i
      · by_cases hy : G 0 i < 12
        · simp (disch := omega) only [if_neg, if_pos, bs]
        · simp (disch := omega) only [if_neg, if_pos, bs, Nat.add_zero]
      · simp (disch := omega) only [if_neg, if_pos, bs, Nat.add_zero]
theorem e_open {c : Nat} {G : Nat → Nat → Nat} {F : Nat → Nat → Int32} (h : FG c G F) : f_X3_openAtFirst (nI c) F = some (nI (opnN G c)) := by
  unfold f_X3_openAtFirst
  have h1 := e_lp_open h FU 0 (Nat.zero_le _) (by have := h.1; rw [FU_eq]; omega)
  have h2 : lp_X3_openAtFirst_4 (nI c) F FU 0 0 = some (nI (opnN G c)) := h1
  rw [h2]
  rfl
theorem in_nI {a lo hi : Nat} (ha : a < 2147483648) (hl : lo < 2147483648) (hh : hi < 2147483648) : f_X6_in (nI a).toInt64 (nI lo).toInt64 (nI hi).toInt64 = some (if lo ≤ a ∧ a ≤ hi then 1 else 0) := by
  rw [e_in]
  simp (disch := omega) only [i_lt]
  by_cases h1 : a < lo
  · rw [if_pos h1, if_neg (by omega)]
  · rw [if_neg h1]
    by_cases h2 : hi < a
    · rw [if_pos h2, if_neg (by omega)]
    · rw [if_neg h2, if_pos (by omega)]
theorem L0 : (0 : Int64) = (nI 0).toInt64 := by decide
theorem L1 : (1 : Int64) = (nI 1).toInt64 := by decide
theorem L3 : (3 : Int64) = (nI 3).toInt64 := by decide
theorem L4 : (4 : Int64) = (nI 4).toInt64 := by decide
theorem L5 : (5 : Int64) = (nI 5).toInt64 := by decide
theorem L11 : (11 : Int64) = (nI 11).toInt64 := by decide
theorem L12 : (12 : Int64) = (nI 12).toInt64 := by decide
theorem e_lp_opens {c : Nat} {U : Nat → Int32} {G : Nat → Nat → Nat} (h : UG c G U) :
    ∀ n i, i ≤ c → c < n + i → lp_X6_opens_4 (nI c) U n (nI (opnN G i)) (nI i) = some (nI (opnN G c)) := by
  have hc := h.1
  intro n
  induction n with
  | zero => intro i h1 h2; omega
  | succ n ih =>
    intro i h1 h2
    rw [lp_X6_opens_4]
    by_cases hi : i = c
    · subst hi
      simp (disch := omega) only [i_le, if_pos]
    · have hi : i < c := by omega
      have g0 := h.f hi (w := 0) (by omega)
      have b0 := h.g0 hi
      simp (disch := omega) only [l0, l1, L1, L11, i_le, if_neg, bs, g0, nI_add, in_nI]
      have e : opnN G (i + 1) = opnN G i + (if 0 < G 0 i ∧ G 0 i < 12 then 1 else 0) := fb_sm_succ _ _
      rw [← ih (i + 1) (by omega) (by omega), e]
      by_cases hz : 0 < G 0 i ∧ G 0 i < 12
      · have hz' : 1 ≤ G 0 i ∧ G 0 i ≤ 11 := by omega
        simp (disch := omega) only [if_pos hz, if_pos hz', i_eq, if_neg, if_pos, bs, nI_add]
      · have hz' : ¬ (1 ≤ G 0 i ∧ G 0 i ≤ 11) := by omega
        simp (disch := omega) only [if_neg hz, if_neg hz', i_eq, if_neg, if_pos, if_true, bs, nI_add]
theorem e_opens {c : Nat} {G : Nat → Nat → Nat} {U : Nat → Int32} (h : UG c G U) : f_X6_opens (nI c) U = some (nI (opnN G c)) := by
  unfold f_X6_opens
  have h1 := e_lp_opens h FU 0 (Nat.zero_le _) (by have := h.1; rw [FU_eq]; omega)
  have h2 : lp_X6_opens_4 (nI c) U FU 0 0 = some (nI (opnN G c)) := h1
  rw [h2]
  rfl
theorem abs_i {a b : Nat} (ha : a < 1000000) (hb : b < 1000000) : (if nI 0 ≤ nI a - nI b then nI a - nI b else nI 0 - (nI a - nI b)) = nI (dN a b) := by
  have ht : (nI a - nI b).toInt = (a : Int) - b := pk_sub_toInt (by omega) (by omega)
  unfold dN
  by_cases h : b ≤ a
  · have h0 : nI 0 ≤ nI a - nI b := by
      rw [fa_le, ht, i_ti (by omega)]
      omega
    rw [if_pos h0, i_sub h]
    by_cases h2 : a ≤ b
    · rw [if_pos h2]
      have : a = b := by omega
      subst this
      rfl
    · rw [if_neg h2]
  · have h0 : ¬ nI 0 ≤ nI a - nI b := by
      rw [fa_le, ht, i_ti (by omega)]
      omega
    rw [if_neg h0, if_pos (by omega)]
    apply (fa_eq _ _).mpr
    rw [i_ti (by omega)]
    rw [fb_subI, ht, i_ti (by omega)]
    · omega
    · rw [ht, i_ti (by omega)]; omega
    · rw [ht, i_ti (by omega)]; omega
theorem e_dist {c u v : Nat} {G : Nat → Nat → Nat} {F : Nat → Nat → Int32} (h : FG c G F) (hu : u < c) (hv : v < c) : f_X3_distance (nI c) F (nI u) (nI v) = some (nI (dN (G 1 u) (G 1 v))) := by
  unfold f_X3_distance
  have g1 := h.f hu (w := 1) (by omega)
  have g2 := h.f hv (w := 1) (by omega)
  have b1 := (h.v hu (w := 1) (by omega)).2
  have b2 := (h.v hv (w := 1) (by omega)).2
  simp only [l0, l1, g1, g2, bs]
  exact congrArg some (abs_i (by omega) (by omega))
theorem dN_comm (a b : Nat) : dN a b = dN b a := by
  unfold dN
  by_cases h : a ≤ b
  · by_cases h2 : b ≤ a
    · rw [if_pos h, if_pos h2]; omega
    · rw [if_pos h, if_neg h2]
  · rw [if_neg h, if_pos (by omega)]
theorem e_far {a b : Nat} (ha : a < 2147483648) (hb : b < 2147483648) : f_X6_far (nI a) (nI b) = some (nI (dN a b)) := by
  unfold f_X6_far dN
  simp (disch := omega) only [i_le]
  by_cases h : a ≤ b
  · rw [if_pos h, if_pos h, i_sub h]
  · rw [if_neg h, if_neg h, i_sub (by omega)]
theorem dN_le {a b m : Nat} (ha : a ≤ m) (hb : b ≤ m) : dN a b ≤ m := by
  unfold dN
  by_cases h : a ≤ b
  · rw [if_pos h]; omega
  · rw [if_neg h]; omega
