/-! bits; what is counted up; by how much it misses -/
theorem sh_l : ∀ n, n < 32 → ((nI n &&& nI 31).toBitVec.smod 32).toNat = n := by decide +kernel
theorem i_shr {s u : Nat} (hs : s < 2147483648) (hu : u < 32) : nI s >>> (nI u &&& nI 31) = nI (s / 2 ^ u) := pk_shrN hs _ u (sh_l u hu)
theorem i_and1 (x : Nat) : nI x &&& nI 1 = nI (x % 2) := fa_mask x 1
theorem i_bit {s u : Nat} (hs : s < 2147483648) (hu : u < 32) : ((nI s >>> (nI u &&& nI 31)) &&& nI 1 = nI 1) = (s / 2 ^ u % 2 = 1) := by
  rw [i_shr hs hu, i_and1]
  exact i_eq (by omega) (by omega)
theorem pow_le {u m : Nat} (h : u ≤ m) : 2 ^ u ≤ 2 ^ m := Nat.pow_le_pow_right (by decide) h
theorem i_shl {u : Nat} (hu : u < 31) : nI 1 <<< (nI u &&& nI 31) = nI (2 ^ u) := by
  have h := pk_shlN (n := 1) (nI u &&& nI 31) u (sh_l u (by omega)) (by have := pow_le (u := u) (m := 31) (by omega); omega)
  rw [h, Nat.one_mul]
theorem e_has {s u : Nat} (hs : s < 2147483648) (hu : u < 32) : f_X6_has (nI s) (nI u) = some (if s / 2 ^ u % 2 = 1 then nI 1 else nI 0) := by
  unfold f_X6_has
  simp (disch := omega) only [l31, l1, l0, i_bit]
  by_cases h : s / 2 ^ u % 2 = 1
  · rw [if_pos h, if_pos h]
  · rw [if_neg h, if_neg h]
theorem e_holds {s u : Nat} (hs : s < 2147483648) (hu : u < 12) : f_X0_holds (nI s) (nI u) = some (if s / 2 ^ u % 2 = 1 then nI 1 else nI 0) := by
  unfold f_X0_holds
  simp (disch := omega) only [l31, l1, l0, l12, i_bit, i_lt, i_le, if_neg]
  by_cases h : s / 2 ^ u % 2 = 1
  · rw [if_pos h, if_pos h]
  · rw [if_neg h, if_neg h]
def cuN (s : Nat) (G : Nat → Nat → Nat) (w c : Nat) : Nat := fb_sm (fun u => if s / 2 ^ u % 2 = 1 ∧ 0 < G 0 u then G w u * (332640 / G 0 u) else 0) c
theorem cuN_le {s : Nat} {G : Nat → Nat → Nat} {w c : Nat} (h : ∀ u, u < c → G w u ≤ 99) : cuN s G w c ≤ c * 32931360 := by
  unfold cuN
  refine fb_sm_bound (fun u hu => ?_)
  by_cases hz : s / 2 ^ u % 2 = 1 ∧ 0 < G 0 u
  · rw [if_pos hz]
    have h1 := h u hu
    have h2 : 332640 / G 0 u ≤ 332640 := Nat.div_le_self _ _
    have := Nat.mul_le_mul h1 h2
    omega
  · rw [if_neg hz]
    omega
theorem e_lp_cu {c s w : Nat} {F : Nat → Nat → Int32} {G : Nat → Nat → Nat} (h : FG c G F) (hs : s < 2147483648) (hw : w < 5) :
    ∀ n i, i ≤ c → c < n + i → lp_X3_countUp_5 (nI c) F (nI s) (nI w) n (lN (cuN s G w i)) (nI i) = some (lN (cuN s G w c)) := by
  have hc := h.1
  intro n
  induction n with
  | zero => intro i h1 h2; omega
  | succ n ih =>
    intro i h1 h2
    rw [lp_X3_countUp_5]
    by_cases hi : i = c
    · subst hi
      simp (disch := omega) only [i_le, if_pos]
    · have hi : i < c := by omega
      have g0 := h.f hi (w := 0) (by omega)
      have gw := h.f hi hw
      have b0 := h.g0 hi
      have bw := (h.v hi hw).2
      have e : cuN s G w (i + 1) = cuN s G w i + (if s / 2 ^ i % 2 = 1 ∧ 0 < G 0 i then G w i * (332640 / G 0 i) else 0) := fb_sm_succ _ _
      have ih' := ih (i + 1) (by omega) (by omega)
      rw [e] at ih'
      simp (disch := omega) only [l0, l1, l31, l332640, i_le, i_eq, if_neg, bs, g0, gw, nI_add, i_bit]
      by_cases hb : s / 2 ^ i % 2 = 1
      · by_cases hz : 0 < G 0 i
        · have hz2 : s / 2 ^ i % 2 = 1 ∧ 0 < G 0 i := ⟨hb, hz⟩
          have hd : 332640 / G 0 i ≤ 332640 := Nat.div_le_self _ _
          rw [if_pos hz2] at ih'
          simp (disch := omega) only [if_pos hb, if_neg, bs, pk_div, nI_l, lN_mul, lN_add]
          exact ih'
        · have hz2 : ¬ (s / 2 ^ i % 2 = 1 ∧ 0 < G 0 i) := fun q => hz q.2
          rw [if_neg hz2, Nat.add_zero] at ih'
          simp (disch := omega) only [if_pos hb, if_pos, bs]
          exact ih'
      · have hz2 : ¬ (s / 2 ^ i % 2 = 1 ∧ 0 < G 0 i) := fun q => hb q.1
        rw [if_neg hz2, Nat.add_zero] at ih'
        simp (disch := omega) only [if_neg hb, bs]
        exact ih'
theorem e_cu {c s w : Nat} {G : Nat → Nat → Nat} {F : Nat → Nat → Int32} (h : FG c G F) (hs : s < 2147483648) (hw : w < 5) : f_X3_countUp (nI c) F (nI s) (nI w) = some (lN (cuN s G w c)) := by
  unfold f_X3_countUp
  have h1 := e_lp_cu h hs hw FU 0 (Nat.zero_le _) (by have := h.1; rw [FU_eq]; omega)
  have h2 : lp_X3_countUp_5 (nI c) F (nI s) (nI w) FU 0 0 = some (lN (cuN s G w c)) := h1
  rw [h2]
  rfl
theorem e_lp_cu6 {c s w : Nat} {U : Nat → Int32} {G : Nat → Nat → Nat} (h : UG c G U) (hs : s < 2147483648) (hw : w < 5) :
    ∀ n i, i ≤ c → c < n + i → lp_X6_countedUp_5 (nI c) (nI s) U (nI w) n (lN (cuN s G w i)) (nI i) = some (lN (cuN s G w c)) := by
  have hc := h.1
  intro n
  induction n with
  | zero => intro i h1 h2; omega
  | succ n ih =>
    intro i h1 h2
    rw [lp_X6_countedUp_5]
    by_cases hi : i = c
    · subst hi
      simp (disch := omega) only [i_le, if_pos]
    · have hi : i < c := by omega
      have g0 := h.f hi (w := 0) (by omega)
      have gw := h.f hi hw
      have b0 := h.g0 hi
      have bw := (h.v hi hw).2
      have e : cuN s G w (i + 1) = cuN s G w i + (if s / 2 ^ i % 2 = 1 ∧ 0 < G 0 i then G w i * (332640 / G 0 i) else 0) := fb_sm_succ _ _
      have ih' := ih (i + 1) (by omega) (by omega)
      rw [e] at ih'
      simp (disch := omega) only [l0, l1, l332640, i_le, i_eq, if_neg, bs, g0, gw, nI_add, e_has]
      by_cases hb : s / 2 ^ i % 2 = 1
      · by_cases hz : 0 < G 0 i
        · have hz2 : s / 2 ^ i % 2 = 1 ∧ 0 < G 0 i := ⟨hb, hz⟩
          have hd : 332640 / G 0 i ≤ 332640 := Nat.div_le_self _ _
          rw [if_pos hz2] at ih'
          simp (disch := omega) only [if_pos hb, i_eq, if_neg, bs, pk_div, nI_l, lN_mul, lN_add]
          exact ih'
        · have hz2 : ¬ (s / 2 ^ i % 2 = 1 ∧ 0 < G 0 i) := fun q => hz q.2
          rw [if_neg hz2] at ih'
          simp (disch := omega) only [if_pos hb, i_eq, if_neg, if_pos, bs, if_true]
          rw [← ih', ← lN_add]
          rfl
      · have hz2 : ¬ (s / 2 ^ i % 2 = 1 ∧ 0 < G 0 i) := fun q => hb q.1
        rw [if_neg hz2] at ih'
        simp (disch := omega) only [if_neg hb, i_eq, bs, if_true]
        rw [← ih', ← lN_add]
        rfl
theorem e_cu6 {c s w : Nat} {G : Nat → Nat → Nat} {U : Nat → Int32} (h : UG c G U) (hs : s < 2147483648) (hw : w < 5) : f_X6_countedUp (nI c) U (nI s) (nI w) = some (lN (cuN s G w c)) := by
  unfold f_X6_countedUp
  have h1 := e_lp_cu6 h hs hw FU 0 (Nat.zero_le _) (by have := h.1; rw [FU_eq]; omega)
  have h2 : lp_X6_countedUp_5 (nI c) (nI s) U (nI w) FU 0 0 = some (lN (cuN s G w c)) := h1
  rw [h2]
  rfl
def missN (s : Nat) (G : Nat → Nat → Nat) (c : Nat) : Nat := dN (cuN s G 3 c) (27720 * sumN G 3 c)
theorem l_ti {a : Nat} (ha : a < 9223372036854775808) : (lN a).toInt = (a : Int) := pk_lT ha
theorem l_sub_ti {a b : Nat} (ha : a < 4611686018427387904) (hb : b < 4611686018427387904) : (lN a - lN b).toInt = (a : Int) - b := by
  rw [fb_subL]
  · rw [l_ti (by omega), l_ti (by omega)]
  · rw [l_ti (by omega), l_ti (by omega)]; omega
  · rw [l_ti (by omega), l_ti (by omega)]; omega
theorem l_neg_ti {x : Int64} (h : -9223372036854775808 < x.toInt) : (-x).toInt = - x.toInt := by
  have e : -x = 0 - x := by
    apply Int64.toBitVec_inj.mp
    simp
  have h0 : (0 : Int64).toInt = 0 := by decide
  have hr := fb_rngL x
  rw [e, fb_subL, h0]
  · omega
  · rw [h0]; omega
  · rw [h0]; omega
theorem abs_l1 {a b : Nat} (ha : a < 4611686018427387904) (hb : b < 4611686018427387904) : (if 0 < lN a - lN b then lN a - lN b else -(lN a - lN b)) = lN (dN a b) := by
  have ht := l_sub_ti ha hb
  have h0 : (0 : Int64).toInt = 0 := by decide
  have hd : (lN (dN a b)).toInt = (dN a b : Int) := l_ti (by have := dN_le (a := a) (b := b) (m := 4611686018427387904) (by omega) (by omega); omega)
  apply (fa_eq64 _ _).mpr
  rw [hd]
  unfold dN
  by_cases h : b < a
  · rw [if_pos ((fa_lt64 _ _).mpr (by rw [ht, h0]; omega)), ht, if_neg (by omega)]
    omega
  · rw [if_neg (fun q => by rw [fa_lt64, ht, h0] at q; omega), l_neg_ti (by omega), ht, if_pos (by omega)]
    omega
theorem abs_l2 {a b : Nat} (ha : a < 4611686018427387904) (hb : b < 4611686018427387904) : (if 0 ≤ lg_cmp (lN a - lN b) 0 then some (lN a - lN b) else some (-(lN a - lN b))) = some (lN (dN a b)) := by
  have ht := l_sub_ti ha hb
  have h0 : (0 : Int64).toInt = 0 := by decide
  have hd : (lN (dN a b)).toInt = (dN a b : Int) := l_ti (by have := dN_le (a := a) (b := b) (m := 4611686018427387904) (by omega) (by omega); omega)
  simp only [c_ge]
  by_cases h : b ≤ a
  · rw [if_pos ((fa_le64 _ _).mpr (by rw [ht, h0]; omega))]
    refine congrArg some ((fa_eq64 _ _).mpr ?_)
    rw [ht, hd]
    unfold dN
    by_cases h2 : a ≤ b
    · rw [if_pos h2]; omega
    · rw [if_neg h2]; omega
  · rw [if_neg (fun q => by rw [fa_le64, ht, h0] at q; omega)]
    refine congrArg some ((fa_eq64 _ _).mpr ?_)
    rw [l_neg_ti (by omega), ht, hd]
    unfold dN
    rw [if_pos (by omega)]
    omega
theorem sumN_le {G : Nat → Nat → Nat} {w c : Nat} (h : ∀ u, u < c → G w u ≤ 99) : sumN G w c ≤ c * 99 := by
  unfold sumN
  refine fb_sm_bound (fun u hu => ?_)
  by_cases hz : 0 < G 0 u
  · rw [if_pos hz]; exact h u hu
  · rw [if_neg hz]; omega
theorem L27720 : (27720 : Int64) = lN 27720 := rfl
theorem e_miss {c s : Nat} {G : Nat → Nat → Nat} {F : Nat → Nat → Int32} (h : FG c G F) (hs : s < 2147483648) : f_X3_miss (nI c) F (nI s) = some (lN (missN s G c)) := by
  unfold f_X3_miss
  have h1 := e_cu h hs (w := 3) (by omega)
  have h2 := e_sum h (w := 3) (by omega)
  have b1 := cuN_le (s := s) (G := G) (w := 3) (c := c) (fun u hu => (h.v hu (by omega)).2)
  have b2 := sumN_le (G := G) (w := 3) (c := c) (fun u hu => (h.v hu (by omega)).2)
  have hc := h.1
  rw [l3, h1, bs, h2, bs, nI_l (by omega), L27720, lN_mul]
  unfold missN
  rw [abs_l1 (by omega) (by omega), Nat.mul_comm]
theorem e_miss6 {c s : Nat} {G : Nat → Nat → Nat} {U : Nat → Int32} (h : UG c G U) (hs : s < 2147483648) : f_X6_missOf (nI c) U (nI s) = some (lN (missN s G c)) := by
  unfold f_X6_missOf
  have h1 := e_cu6 h hs (w := 3) (by omega)
  have h2 := e_sumOf h (w := 3) (by omega)
  have b1 := cuN_le (s := s) (G := G) (w := 3) (c := c) (fun u hu => (h.v hu (by omega)).2)
  have b2 := sumN_le (G := G) (w := 3) (c := c) (fun u hu => (h.v hu (by omega)).2)
  have hc := h.1
  rw [l3, h1, bs, h2, bs, nI_l (by omega), L27720, lN_mul]
  unfold missN
  exact abs_l2 (by omega) (by omega)
theorem missN_le {s c : Nat} {G : Nat → Nat → Nat} (hc : c ≤ 12) (h : ∀ u, u < c → G 3 u ≤ 99) : missN s G c ≤ 1000000000 := by
  have b1 := cuN_le (s := s) (G := G) (w := 3) (c := c) h
  have b2 := sumN_le (G := G) (w := 3) (c := c) h
  unfold missN
  exact dN_le (by omega) (by omega)
