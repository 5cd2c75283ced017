/-! inside and spread -/
theorem b01 {s u : Nat} : ((if s / 2 ^ u % 2 = 1 then nI 1 else nI 0) = 0) = ¬ (s / 2 ^ u % 2 = 1) := by
  by_cases g : s / 2 ^ u % 2 = 1
  · rw [if_pos g]; exact propext ⟨fun q => absurd q (by decide), fun q => absurd g q⟩
  · rw [if_neg g]; exact propext ⟨fun _ => g, fun _ => rfl⟩
theorem e_lp_inside {c s t : Nat} {G : Nat → Nat → Nat} {F : Nat → Nat → Int32} {U : Nat → Int32} (hF : FG c G F) (hU : UG c G U) (hs : s < 4096) (ht : t < 100) :
    ∀ n m i v, i ≤ c → c < n + i → c < m + i → ∃ r, lp_X5_inside_19 (nI c) (nI s) F (nI t) n v (nI i) = some r ∧ lp_X6_inside_23 (nI c) (nI s) U (nI t) m v (nI i) = some r := by
  have hc := hF.1
  intro n
  induction n with
  | zero => intro m i v h1 h2; omega
  | succ n ih =>
    intro m i v h1 h2 h3
    obtain ⟨m, rfl⟩ : ∃ m', m = m' + 1 := ⟨m - 1, by omega⟩
    rw [lp_X5_inside_19, lp_X6_inside_23]
    by_cases e : i = c
    · subst e
      simp only [if_pos (show nI i ≤ nI i by rw [i_le (by omega) (by omega)]; omega)]
      exact ⟨v, rfl, rfl⟩
    · have hic : i < c := by omega
      have f2 : f_X3_fact (nI c) F (nI i) 2 = some (nI (G 2 i)) := hF.f hic (w := 2) (by omega)
      have u2 : f_X6_at U (nI i) 2 = some (nI (G 2 i)) := hU.f hic (w := 2) (by omega)
      simp only [if_neg (show ¬ nI c ≤ nI i by rw [i_le (by omega) (by omega)]; omega)]
      rw [e_holds (by omega) (by omega), e_has (by omega) (by omega), bs, bs, f2, u2, bs, bs]
      simp only [b01]
      have hv0 : v + 0 = v := Int32.add_zero v
      rw [l1, nI_add, ← l1]
      by_cases g : s / 2 ^ i % 2 = 1
      · simp only [if_neg (show ¬ ¬ (s / 2 ^ i % 2 = 1) from fun q => q g)]
        by_cases g2 : nI (G 2 i) = nI t
        · simp only [if_pos g2, bs]
          exact ih m (i + 1) _ (by omega) (by omega) (by omega)
        · simp only [if_neg g2, bs, hv0]
          exact ih m (i + 1) _ (by omega) (by omega) (by omega)
      · simp only [if_pos g, bs, hv0]
        exact ih m (i + 1) _ (by omega) (by omega) (by omega)
theorem e_inside {c s : Nat} {G : Nat → Nat → Nat} {rc mn xb xf : Int32} {F : Nat → Nat → Int32} {U q : Nat → Int32} (hu : UR c G rc F mn U) (hs : s < 4096) (hq : RQ xb xf q) (a : Int32) :
    ∃ r xb' xf' q', f_X5_inside xb xf rc F (nI s) a = some (r, xb', xf') ∧ f_X6_inside mn (nI s) U q a = some (r, q') ∧ RQ xb' xf' q' := by
  have hF := hu.F
  have hU := hu.U
  obtain ⟨hc, rfl, rfl, _⟩ := hu
  have f2 : f_X3_fits 2 a = f_X3_fits (nI 2) a := rfl
  have i2 : f_X6_in a.toInt64 0 3 = f_X6_in a.toInt64 0 (nI (mx 2)).toInt64 := by rw [L3]; rfl
  unfold f_X5_inside f_X6_inside
  rw [f2, i2]
  rcases e_fits (w := 2) (by omega) a with ⟨g1, g2⟩ | ⟨t, ht, rfl, g1, g2⟩
  · rw [g1, g2]
    exact ⟨-2, xb + 1, xf, _, rfl, rfl, hq.bad⟩
  · obtain ⟨r, e1, e2⟩ := e_lp_inside hF hU hs (show t < 100 by have := mx_le 2; omega) FU FU 0 0 (by omega) (by rw [FU_eq]; omega) (by rw [FU_eq]; omega)
    rw [← l0] at e1 e2
    rw [g1, g2, e1, e2]
    exact ⟨r, xb, xf, q, rfl, rfl, hq⟩
/-- the least of a set, if it has one -/
def MNM (P : Nat → Prop) : Option Nat → Prop
  | none => ∀ d, ¬ P d
  | some d => P d ∧ ∀ d', P d' → d ≤ d'
def mna (o : Option Nat) (x : Nat) : Option Nat := match o with
  | none => some x
  | some d => some (if x < d then x else d)
theorem MNM.add {P P2 : Nat → Prop} {o : Option Nat} {x : Nat} (h : MNM P o) (h2 : ∀ d, P2 d ↔ P d ∨ d = x) : MNM P2 (mna o x) := by
  cases o with
  | none =>
    refine ⟨(h2 x).mpr (Or.inr rfl), fun d' hd => ?_⟩
    rcases (h2 d').mp hd with z | z
    · exact absurd z (h d')
    · omega
  | some d =>
    show P2 (if x < d then x else d) ∧ _
    by_cases g : x < d
    · rw [if_pos g]
      refine ⟨(h2 x).mpr (Or.inr rfl), fun d' hd => ?_⟩
      rcases (h2 d').mp hd with z | z
      · have := h.2 d' z; omega
      · omega
    · rw [if_neg g]
      refine ⟨(h2 d).mpr (Or.inl h.1), fun d' hd => ?_⟩
      rcases (h2 d').mp hd with z | z
      · exact h.2 d' z
      · omega
theorem MNM.same {P P2 : Nat → Prop} {o : Option Nat} (h : MNM P o) (h2 : ∀ d, P2 d ↔ P d) : MNM P2 o := by
  cases o with
  | none => exact fun d hd => h d ((h2 d).mp hd)
  | some d => exact ⟨(h2 d).mpr h.1, fun d' hd => h.2 d' ((h2 d').mp hd)⟩
theorem MNM.one {P : Nat → Prop} {o o2 : Option Nat} (h : MNM P o) (h2 : MNM P o2) : o = o2 := by
  cases o with
  | none => cases o2 with
    | none => rfl
    | some d => exact absurd h2.1 (h d)
  | some d => cases o2 with
    | none => exact absurd h.1 (h2 d)
    | some d2 =>
      have := h.2 d2 h2.1
      have := h2.2 d h.1
      rw [show d = d2 by omega]
theorem mna_lt {o : Option Nat} {x : Nat} (h : ∀ d, o = some d → d < 1000) (hx : x < 1000) : ∀ d, mna o x = some d → d < 1000 := by
  intro d hd
  cases o with
  | none => cases hd; exact hx
  | some y =>
    have := h y rfl
    cases hd
    split <;> omega
theorem mna_c {o : Option Nat} {x : Nat} (h : ∀ d, o = some d → d < 1000) (hx : x < 1000) : (if eO o = -1 then some (nI x) else some (if nI x < eO o then nI x else eO o)) = some (eO (mna o x)) := by
  cases o with
  | none => rfl
  | some d =>
    have hd := h d rfl
    have e : eO (some d) = nI d := rfl
    rw [e, if_neg (of_eq_false (i_m1 (by omega)))]
    simp (disch := omega) only [i_lt]
    show _ = some (nI (if x < d then x else d))
    by_cases g : x < d
    · rw [if_pos g, if_pos g]
    · rw [if_neg g, if_neg g]
theorem mna_m {o : Option Nat} {x : Nat} (h : ∀ d, o = some d → d < 1000) (hx : x < 1000) : ∃ z, (if eO o = -1 then some (1 : Int32) else if eO o ≤ nI x then some 0 else some 1) = some z ∧ (if z = 0 then some (eO o) else some (nI x)) = some (eO (mna o x)) := by
  cases o with
  | none => exact ⟨1, rfl, rfl⟩
  | some d =>
    have hd := h d rfl
    have e : eO (some d) = nI d := rfl
    rw [e, if_neg (of_eq_false (i_m1 (by omega)))]
    simp (disch := omega) only [i_le]
    show ∃ z, _ = some z ∧ _ = some (nI (if x < d then x else d))
    by_cases g : x < d
    · rw [if_neg (show ¬ d ≤ x by omega), if_pos g]; exact ⟨1, rfl, rfl⟩
    · rw [if_pos (show d ≤ x by omega), if_neg g]; exact ⟨0, rfl, rfl⟩
/-- the distances between those of the sample, as far as they were seen -/
def hd (s i : Nat) : Prop := s / 2 ^ i % 2 = 1
def PC (s c : Nat) (G : Nat → Nat → Nat) (i j d : Nat) : Prop := ∃ a b, a < b ∧ b < c ∧ hd s a ∧ hd s b ∧ (a < i ∨ (a = i ∧ b < j)) ∧ d = dN (G 1 a) (G 1 b)
def PM (s : Nat) (G : Nat → Nat → Nat) (i j d : Nat) : Prop := ∃ a b, b < a ∧ hd s a ∧ hd s b ∧ (a < i ∨ (a = i ∧ b < j)) ∧ d = dN (G 1 a) (G 1 b)
theorem e_lp_spC {c s i : Nat} {G : Nat → Nat → Nat} {F : Nat → Nat → Int32} (hF : FG c G F) (hs : s < 4096) (hi : i < c) :
    ∀ n j o, i < j → j ≤ c → c < n + j → (∀ d, o = some d → d < 1000) → MNM (PC s c G i j) o → ∃ o', lp_X5_spread_19 (nI c) (nI s) (nI i) F n (eO o) (nI j) = some (eO o') ∧ (∀ d, o' = some d → d < 1000) ∧ MNM (PC s c G i c) o' := by
  have hc := hF.1
  intro n
  induction n with
  | zero => intro j o h0 h1 h2; omega
  | succ n ih =>
    intro j o h0 h1 h2 h3 h4
    rw [lp_X5_spread_19]
    by_cases e : j = c
    · subst e
      rw [if_pos (by rw [i_le (by omega) (by omega)]; omega)]
      exact ⟨o, rfl, h3, h4⟩
    · have hx : dN (G 1 i) (G 1 j) < 1000 := by
        have := dN_le ((hF.v hi (w := 1) (by omega)).2) ((hF.v (show j < c by omega) (w := 1) (by omega)).2)
        omega
      rw [if_neg (by rw [i_le (by omega) (by omega)]; omega), e_holds (by omega) (by omega), e_holds (by omega) (by omega), e_dist hF hi (by omega), bs, bs, bs, mna_c h3 hx, bs, show nI j + 1 = nI (j + 1) by rw [l1, nI_add]]
      simp only [b01]
      have hno : ¬ (hd s i ∧ hd s j) → MNM (PC s c G i (j + 1)) o := fun hn => h4.same (fun d => by
        constructor
        · rintro ⟨a, b, k1, k2, k3, k4, k5, k6⟩
          refine ⟨a, b, k1, k2, k3, k4, ?_, k6⟩
          rcases k5 with k5 | ⟨k5, k7⟩
          · exact Or.inl k5
          · by_cases eb : b = j
            · subst eb; subst k5; exact absurd ⟨k3, k4⟩ hn
            · exact Or.inr ⟨k5, by omega⟩
        · rintro ⟨a, b, k1, k2, k3, k4, k5, k6⟩
          refine ⟨a, b, k1, k2, k3, k4, ?_, k6⟩
          rcases k5 with k5 | ⟨k5, k7⟩
          · exact Or.inl k5
          · exact Or.inr ⟨k5, by omega⟩)
      by_cases g1 : s / 2 ^ i % 2 = 1
      · rw [if_neg (fun q => q g1)]
        by_cases g2 : s / 2 ^ j % 2 = 1
        · rw [if_neg (fun q => q g2), bs]
          refine ih (j + 1) _ (by omega) (by omega) (by omega) (mna_lt h3 hx) (h4.add (fun d => ?_))
          constructor
          · rintro ⟨a, b, k1, k2, k3, k4, k5, k6⟩
            by_cases eb : a = i ∧ b = j
            · obtain ⟨rfl, rfl⟩ := eb
              exact Or.inr k6
            · refine Or.inl ⟨a, b, k1, k2, k3, k4, ?_, k6⟩
              rcases k5 with k5 | ⟨k5, k7⟩
              · exact Or.inl k5
              · exact Or.inr ⟨k5, by omega⟩
          · rintro (⟨a, b, k1, k2, k3, k4, k5, k6⟩ | k6)
            · refine ⟨a, b, k1, k2, k3, k4, ?_, k6⟩
              rcases k5 with k5 | ⟨k5, k7⟩
              · exact Or.inl k5
              · exact Or.inr ⟨k5, by omega⟩
            · exact ⟨i, j, h0, by omega, g1, g2, Or.inr ⟨rfl, by omega⟩, k6⟩
        · rw [if_pos g2, bs]
          exact ih (j + 1) o (by omega) (by omega) (by omega) h3 (hno (fun q => g2 q.2))
      · rw [if_pos g1, bs]
        exact ih (j + 1) o (by omega) (by omega) (by omega) h3 (hno (fun q => g1 q.1))
theorem e_lp_spC2 {c s : Nat} {G : Nat → Nat → Nat} {F : Nat → Nat → Int32} (hF : FG c G F) (hs : s < 4096) :
    ∀ n i o, i ≤ c → c < n + i → (∀ d, o = some d → d < 1000) → MNM (PC s c G i 0) o → ∃ o', lp_X5_spread_4 (nI c) (nI s) F n (eO o) (nI i) = some (eO o') ∧ MNM (PC s c G c 0) o' := by
  have hc := hF.1
  intro n
  induction n with
  | zero => intro i o h1 h2; omega
  | succ n ih =>
    intro i o h1 h2 h3 h4
    rw [lp_X5_spread_4]
    by_cases e : i = c
    · subst e
      rw [if_pos (by rw [i_le (by omega) (by omega)]; omega)]
      exact ⟨o, rfl, h4⟩
    · rw [if_neg (by rw [i_le (by omega) (by omega)]; omega), l1, nI_add]
      have h5 : MNM (PC s c G i (i + 1)) o := h4.same (fun d => by
        constructor
        · rintro ⟨a, b, k1, k2, k3, k4, k5, k6⟩
          exact ⟨a, b, k1, k2, k3, k4, Or.inl (by omega), k6⟩
        · rintro ⟨a, b, k1, k2, k3, k4, k5, k6⟩
          exact ⟨a, b, k1, k2, k3, k4, Or.inl (by omega), k6⟩)
      obtain ⟨o', a1, a2, a3⟩ := e_lp_spC hF hs (show i < c by omega) FU (i + 1) o (by omega) (by omega) (by rw [FU_eq]; omega) h3 h5
      rw [a1, bs]
      refine ih (i + 1) o' (by omega) (by omega) a2 (a3.same (fun d => ?_))
      constructor
      · rintro ⟨a, b, k1, k2, k3, k4, k5, k6⟩
        exact ⟨a, b, k1, k2, k3, k4, by omega, k6⟩
      · rintro ⟨a, b, k1, k2, k3, k4, k5, k6⟩
        exact ⟨a, b, k1, k2, k3, k4, by omega, k6⟩
theorem e_lp_spM {c s i : Nat} {G : Nat → Nat → Nat} {U : Nat → Int32} (hU : UG c G U) (hs : s < 4096) (hi : i < c) :
    ∀ n j o, j ≤ i → i < n + j → (∀ d, o = some d → d < 1000) → MNM (PM s G i j) o → ∃ o', lp_X6_spread_14 (nI i) U (nI s) n (eO o) (nI j) = some (eO o') ∧ (∀ d, o' = some d → d < 1000) ∧ MNM (PM s G i i) o' := by
  have hc := hU.1
  intro n
  induction n with
  | zero => intro j o h1 h2; omega
  | succ n ih =>
    intro j o h1 h2 h3 h4
    rw [lp_X6_spread_14]
    by_cases e : j = i
    · subst e
      rw [if_pos (by rw [i_le (by omega) (by omega)]; omega)]
      exact ⟨o, rfl, h3, h4⟩
    · have v1 := (hU.v hi (w := 1) (by omega)).2
      have v2 := (hU.v (show j < c by omega) (w := 1) (by omega)).2
      have hx : dN (G 1 i) (G 1 j) < 1000 := by
        have := dN_le v1 v2
        omega
      have u1 : f_X6_at U (nI i) 1 = some (nI (G 1 i)) := hU.f hi (w := 1) (by omega)
      have u2 : f_X6_at U (nI j) 1 = some (nI (G 1 j)) := hU.f (show j < c by omega) (w := 1) (by omega)
      obtain ⟨z, z1, z2⟩ := mna_m h3 hx
      rw [if_neg (by rw [i_le (by omega) (by omega)]; omega), u1, u2, bs, bs, e_far (by omega) (by omega), bs, e_has (by omega) (by omega), e_has (by omega) (by omega), bs, bs, z1]
      simp only [b01]
      have hno : ¬ (hd s i ∧ hd s j) → MNM (PM s G i (j + 1)) o := fun hn => h4.same (fun d => by
        constructor
        · rintro ⟨a, b, k1, k3, k4, k5, k6⟩
          refine ⟨a, b, k1, k3, k4, ?_, k6⟩
          rcases k5 with k5 | ⟨k5, k7⟩
          · exact Or.inl k5
          · by_cases eb : b = j
            · subst eb; subst k5; exact absurd ⟨k3, k4⟩ hn
            · exact Or.inr ⟨k5, by omega⟩
        · rintro ⟨a, b, k1, k3, k4, k5, k6⟩
          refine ⟨a, b, k1, k3, k4, ?_, k6⟩
          rcases k5 with k5 | ⟨k5, k7⟩
          · exact Or.inl k5
          · exact Or.inr ⟨k5, by omega⟩)
      have i1 : nI j + 1 = nI (j + 1) := by rw [l1, nI_add]
      by_cases g1 : s / 2 ^ i % 2 = 1
      · rw [if_neg (fun q => q g1)]
        by_cases g2 : s / 2 ^ j % 2 = 1
        · rw [if_neg (fun q => q g2), bs, z2, bs, i1]
          refine ih (j + 1) _ (by omega) (by omega) (mna_lt h3 hx) (h4.add (fun d => ?_))
          constructor
          · rintro ⟨a, b, k1, k3, k4, k5, k6⟩
            by_cases eb : a = i ∧ b = j
            · obtain ⟨rfl, rfl⟩ := eb
              exact Or.inr k6
            · refine Or.inl ⟨a, b, k1, k3, k4, ?_, k6⟩
              rcases k5 with k5 | ⟨k5, k7⟩
              · exact Or.inl k5
              · exact Or.inr ⟨k5, by omega⟩
          · rintro (⟨a, b, k1, k3, k4, k5, k6⟩ | k6)
            · refine ⟨a, b, k1, k3, k4, ?_, k6⟩
              rcases k5 with k5 | ⟨k5, k7⟩
              · exact Or.inl k5
              · exact Or.inr ⟨k5, by omega⟩
            · exact ⟨i, j, by omega, g1, g2, Or.inr ⟨rfl, by omega⟩, k6⟩
        · rw [if_pos g2, bs, if_pos rfl, bs, i1]
          exact ih (j + 1) o (by omega) (by omega) h3 (hno (fun q => g2 q.2))
      · rw [if_pos g1, bs, if_pos rfl, bs, i1]
        exact ih (j + 1) o (by omega) (by omega) h3 (hno (fun q => g1 q.1))
theorem e_lp_spM2 {c s : Nat} {G : Nat → Nat → Nat} {U : Nat → Int32} (hU : UG c G U) (hs : s < 4096) :
    ∀ n i o, i ≤ c → c < n + i → (∀ d, o = some d → d < 1000) → MNM (PM s G i 0) o → ∃ o', lp_X6_spread_4 (nI c) U (nI s) n (eO o) (nI i) = some (eO o') ∧ MNM (PM s G c 0) o' := by
  have hc := hU.1
  intro n
  induction n with
  | zero => intro i o h1 h2; omega
  | succ n ih =>
    intro i o h1 h2 h3 h4
    rw [lp_X6_spread_4]
    by_cases e : i = c
    · subst e
      rw [if_pos (by rw [i_le (by omega) (by omega)]; omega)]
      exact ⟨o, rfl, h4⟩
    · rw [if_neg (by rw [i_le (by omega) (by omega)]; omega)]
      obtain ⟨o', a1, a2, a3⟩ := e_lp_spM hU hs (show i < c by omega) FU 0 o (by omega) (by rw [FU_eq]; omega) h3 h4
      rw [← l0] at a1
      rw [a1, bs, l1, nI_add]
      refine ih (i + 1) o' (by omega) (by omega) a2 (a3.same (fun d => ?_))
      constructor
      · rintro ⟨a, b, k1, k3, k4, k5, k6⟩
        exact ⟨a, b, k1, k3, k4, by omega, k6⟩
      · rintro ⟨a, b, k1, k3, k4, k5, k6⟩
        exact ⟨a, b, k1, k3, k4, by omega, k6⟩
theorem e_spread {c s : Nat} {G : Nat → Nat → Nat} {rc mn : Int32} {F : Nat → Nat → Int32} {U : Nat → Int32} (hu : UR c G rc F mn U) (hs : s < 4096) : ∃ r, f_X5_spread rc F (nI s) = some r ∧ f_X6_spread mn (nI s) U = some r := by
  have hF := hu.F
  have hU := hu.U
  obtain ⟨hc, rfl, rfl, _⟩ := hu
  obtain ⟨o1, a1, a2⟩ := e_lp_spC2 hF hs FU 0 none (by omega) (by rw [FU_eq]; omega) (fun d q => by cases q) (fun d => by rintro ⟨a, b, k1, k2, k3, k4, k5, k6⟩; omega)
  obtain ⟨o2, b1, b2⟩ := e_lp_spM2 hU hs FU 0 none (by omega) (by rw [FU_eq]; omega) (fun d q => by cases q) (fun d => by rintro ⟨a, b, k1, k3, k4, k5, k6⟩; omega)
  have e : o1 = o2 := a2.one (b2.same (fun d => by
    constructor
    · rintro ⟨a, b, k1, k2, k3, k4, k5, k6⟩
      exact ⟨b, a, k1, k4, k3, by omega, by rw [k6, dN_comm]⟩
    · rintro ⟨a, b, k1, k3, k4, k5, k6⟩
      exact ⟨b, a, k1, by omega, k4, k3, by omega, by rw [k6, dN_comm]⟩))
  subst e
  have a1 : lp_X5_spread_4 (nI c) (nI s) F FU (-1) 0 = some (eO o1) := a1
  have b1 : lp_X6_spread_4 (nI c) U (nI s) FU (-1) 0 = some (eO o1) := b1
  refine ⟨eO o1, ?_, ?_⟩
  · unfold f_X5_spread; rw [a1, bs]
  · unfold f_X6_spread; rw [b1, bs]
