/-! whom a play is between: the class's pick and the reference's finds -/
def ost (L : Nat → Nat) (G : Nat → Nat → Nat) (t : Nat) : Nat → Bool := fun j => op L j && decide (G 2 j = t)
theorem e_lp_ost {c t : Nat} {L : Nat → Nat} {G : Nat → Nat → Nat} {a : Nat → Int32} {F : Nat → Nat → Int32} (hf : FG c G F) (h : CL c L a) (hb : LB c L) (ht : t < 100) :
    ∀ n i, i ≤ 12 → 12 < n + i → lp_X0_openOfStratum_3 a (nI c) F (nI t) n (nI i) = some (if nxt (ost L G t) c i < c then (0, nI (nxt (ost L G t) c i)) else (1, nI 12)) := by
  have hc := hb.1
  intro n
  induction n with
  | zero => intro i h1 h2; omega
  | succ n ih =>
    intro i h1 h2
    rw [lp_X0_openOfStratum_3]
    by_cases h12 : i = 12
    · subst h12
      simp (disch := omega) only [l12, i_le, if_pos]
      rw [if_neg (by rw [nxt_ge (by omega)]; omega)]
    · rw [e_isOpen h hb h1]
      simp (disch := omega) only [l0, l1, l2, l12, i_le, if_neg, bs, nI_add, bI0]
      by_cases hic : i < c
      · rw [decide_eq_true hic, Bool.true_and]
        have g := hf.v hic (w := 2) (by omega)
        cases hp : op L i with
        | true =>
          rw [if_neg (by decide), hf.f hic (by omega), bs]
          simp (disch := omega) only [i_eq]
          by_cases hg : G 2 i = t
          · have hq : ost L G t i = true := by unfold ost; rw [hp, decide_eq_true hg]; rfl
            rw [if_pos hg, nxt_yes hic hq, if_pos hic]
          · have hq : ost L G t i = false := by unfold ost; rw [hp, decide_eq_false hg]; rfl
            rw [if_neg hg, nxt_no hic hq, ih (i + 1) (by omega) (by omega)]
        | false =>
          have hq : ost L G t i = false := by unfold ost; rw [hp]; rfl
          rw [if_pos rfl, nxt_no hic hq, ih (i + 1) (by omega) (by omega)]
      · rw [decide_eq_false hic, Bool.false_and, if_pos rfl, ih (i + 1) (by omega) (by omega), nxt_ge (by omega), nxt_ge (by omega)]
theorem e_ost {c t i : Nat} {L : Nat → Nat} {G : Nat → Nat → Nat} {a : Nat → Int32} {F : Nat → Nat → Int32} (hf : FG c G F) (h : CL c L a) (hb : LB c L) (ht : t < 100) (hi : i ≤ 12) :
    f_X0_openOfStratum (nI c) F a (nI t) (nI i) = some (eN c (nxt (ost L G t) c i)) := by
  unfold f_X0_openOfStratum eN
  rw [e_lp_ost hf h hb ht FU i hi (by rw [FU_eq]; omega), bs]
  by_cases hk : nxt (ost L G t) c i < c
  · rw [if_pos hk, if_pos hk, if_pos rfl]
  · rw [if_neg hk, if_neg hk, if_neg (by decide)]
theorem e_lp_nextIn {c t : Nat} {L : Nat → Nat} {G : Nat → Nat → Nat} {a U : Nat → Int32} (hu : UG c G U) (h : ML c L a) (hb : LB c L) (ht : t < 100) :
    ∀ n i, i ≤ c → c < n + i → lp_X6_nextIn_6 (nI c) U (nI t) a n (nI (nxt (op L) c i)) = some (nI (nxt (ost L G t) c i)) := by
  have hc := hb.1
  intro n
  induction n with
  | zero => intro i h1 h2; omega
  | succ n ih =>
    intro i h1 h2
    rw [lp_X6_nextIn_6]
    have hle := nxt_le (op L) c i
    have hfr := nxt_from (p := op L) h1
    by_cases hk : nxt (op L) c i < c
    · have hb2 : nxt (ost L G t) c i = if decide (G 2 (nxt (op L) c i) = t) = true then nxt (op L) c i else nxt (ost L G t) c (nxt (op L) c i + 1) := nxt_both (q := fun j => decide (G 2 j = t)) hk
      have g := hu.v hk (w := 2) (by omega)
      rw [hb2]
      simp (disch := omega) only [l1, l2, i_le, if_neg, hu.f hk, bs, i_eq, nI_add, d_t]
      by_cases hg : G 2 (nxt (op L) c i) = t
      · rw [if_pos hg, if_pos hg]
      · rw [if_neg hg, if_neg hg, e_firstOpen h hb (by omega), bs]
        exact ih _ (by omega) (by omega)
    · have hb2 : nxt (ost L G t) c i = c := nxt_bothN (q := fun j => decide (G 2 j = t)) (by omega)
      simp (disch := omega) only [i_le, if_pos]
      rw [hb2, show nxt (op L) c i = c by omega]
theorem e_nextIn {c t i : Nat} {L : Nat → Nat} {G : Nat → Nat → Nat} {a U : Nat → Int32} (hu : UG c G U) (h : ML c L a) (hb : LB c L) (ht : t < 100) (hi : i ≤ c) :
    f_X6_nextIn (nI c) U a (nI t) (nI i) = some (nI (nxt (ost L G t) c i)) := by
  have hc := hb.1
  unfold f_X6_nextIn
  rw [e_firstOpen h hb hi, bs, e_lp_nextIn hu h hb ht FU i hi (by rw [FU_eq]; omega), bs]
/-- the first stratum from t on that has two open ones -/
def strS (c : Nat) (G : Nat → Nat → Nat) (L : Nat → Nat) : Nat → Nat → Option (Nat × Nat)
  | 0, _ => none
  | k + 1, t => if nxt (ost L G t) c (nxt (ost L G t) c 0 + 1) < c then some (nxt (ost L G t) c 0, nxt (ost L G t) c (nxt (ost L G t) c 0 + 1)) else strS c G L k (t + 1)
def strC : Option (Nat × Nat) → Nat × Int32 × Int32
  | none => (1, 0, 0)
  | some p => (0, nI p.1, nI p.2)
def strM (one two : Int32) : Option (Nat × Nat) → Int32 × Int32
  | none => (one, two)
  | some p => (nI p.1, nI p.2)
theorem eN_m1 {c k : Nat} (hc : c ≤ 12) : (eN c k = -1) = ¬ (k < c) := by
  unfold eN
  by_cases h : k < c
  · rw [if_pos h, i_m1 (by omega)]
    exact propext ⟨fun q => q.elim, fun q => q h⟩
  · rw [if_neg h]
    exact propext ⟨fun _ => h, fun _ => rfl⟩
theorem eN_lt {c k : Nat} (h : k < c) : eN c k = nI k := if_pos h
theorem e_strC {c : Nat} {L : Nat → Nat} {G : Nat → Nat → Nat} {a : Nat → Int32} {F : Nat → Nat → Int32} (hf : FG c G F) (h : CL c L a) (hb : LB c L) :
    ∀ n t, t ≤ 4 → 4 < n + t → lp_X0_pickOfStratum_2 (nI c) F a n (nI t) = some (strC (strS c G L (4 - t) t)) := by
  have hc := hb.1
  intro n
  induction n with
  | zero => intro t h1 h2; omega
  | succ n ih =>
    intro t h1 h2
    rw [lp_X0_pickOfStratum_2]
    by_cases h4 : t = 4
    · subst h4
      simp (disch := omega) only [l4, i_le, if_pos]
      rfl
    · have hl1 := nxt_le (ost L G t) c 0
      rw [show 4 - t = (4 - (t + 1)) + 1 by omega, strS]
      have e0 : f_X0_openOfStratum (nI c) F a (nI t) 0 = some (eN c (nxt (ost L G t) c 0)) := e_ost (i := 0) hf h hb (by omega) (by omega)
      rw [e0]
      simp (disch := omega) only [l4, i_le, if_neg, bs, eN_m1 hc]
      by_cases hk : nxt (ost L G t) c 0 < c
      · rw [if_neg (by omega), eN_lt hk]
        simp only [l1, nI_add]
        rw [e_ost hf h hb (by omega) (by omega), bs, bs]
        simp only [← l1, eN_m1 hc]
        by_cases hk2 : nxt (ost L G t) c (nxt (ost L G t) c 0 + 1) < c
        · rw [if_neg (by omega), if_pos hk2, eN_lt hk2]
          rfl
        · rw [if_pos hk2, if_neg hk2]
          exact ih _ (by omega) (by omega)
      · rw [if_pos hk, bs, if_pos rfl, if_neg (by rw [nxt_ge (c := c) (i := _ + 1) (by omega)]; omega), l1, nI_add]
        exact ih _ (by omega) (by omega)
theorem e_strM1 {c : Nat} {a U : Nat → Int32} {n : Nat} {t : Nat} {one two : Int32} (ht : t ≤ 4) : lp_X6_finds_101 (nI c) U a (n + 1) 1 (nI t) one two = some (one, two) := by
  rw [lp_X6_finds_101]
  by_cases h4 : t = 4
  · subst h4
    simp (disch := omega) only [l4, i_le, if_pos]
  · simp (disch := omega) only [l4, i_le, if_neg]
    rw [if_neg (by decide)]
theorem e_strM {c : Nat} {L : Nat → Nat} {G : Nat → Nat → Nat} {a U : Nat → Int32} (hu : UG c G U) (h : ML c L a) (hb : LB c L) :
    ∀ n t one two, t ≤ 4 → 5 < n + t → lp_X6_finds_101 (nI c) U a n 0 (nI t) one two = some (strM one two (strS c G L (4 - t) t)) := by
  have hc := hb.1
  intro n
  induction n with
  | zero => intro t one two h1 h2; omega
  | succ n ih =>
    intro t one two h1 h2
    rw [lp_X6_finds_101]
    by_cases h4 : t = 4
    · subst h4
      simp (disch := omega) only [l4, i_le, if_pos]
      rfl
    · have hl1 := nxt_le (ost L G t) c 0
      rw [show 4 - t = (4 - (t + 1)) + 1 by omega, strS, if_neg (by rw [l4, i_le (by omega) (by omega)]; omega), if_pos rfl]
      have e0 : f_X6_nextIn (nI c) U a (nI t) 0 = some (nI (nxt (ost L G t) c 0)) := e_nextIn (i := 0) hu h hb (by omega) (by omega)
      rw [e0, bs]
      simp (disch := omega) only [i_le]
      have hn : nxt (ost L G t) c (nxt (ost L G t) c 0 + 1) ≤ c := nxt_le _ _ _
      have e1 : (if c ≤ nxt (ost L G t) c 0 then some (nI c) else Option.bind (f_X6_nextIn (nI c) U a (nI t) (nI (nxt (ost L G t) c 0) + 1)) (fun (q18 : Int32) => some q18)) = some (nI (nxt (ost L G t) c (nxt (ost L G t) c 0 + 1))) := by
        by_cases hk : c ≤ nxt (ost L G t) c 0
        · rw [if_pos hk, nxt_ge (c := c) (i := _ + 1) (by omega)]
        · rw [if_neg hk, l1, nI_add, e_nextIn hu h hb (by omega) (by omega), bs]
      rw [e1, bs]
      simp (disch := omega) only [i_le]
      by_cases hk2 : nxt (ost L G t) c (nxt (ost L G t) c 0 + 1) < c
      · rw [if_neg (by omega), if_pos hk2, bs, if_neg (by decide), if_neg (by decide), bs, bs]
        obtain ⟨m, hm⟩ : ∃ m, n = m + 1 := ⟨n - 1, by omega⟩
        subst hm
        have := e_strM1 (c := c) (a := a) (U := U) (n := m) (t := t + 1) (one := nI (nxt (ost L G t) c 0)) (two := nI (nxt (ost L G t) c (nxt (ost L G t) c 0 + 1))) (by omega)
        rw [← nI_add, ← l1] at this
        exact this
      · rw [if_pos (by omega), if_neg hk2, bs, if_pos rfl, if_pos rfl, bs, bs, l1, nI_add]
        exact ih _ _ _ (by omega) (by omega)
/-- whom: nobody, one alone, two -/
def pkS (w c : Nat) (G : Nat → Nat → Nat) (L : Nat → Nat) : Option (Nat × Option Nat) :=
  if nxt (op L) c 0 < c then
    if nxt (op L) c (nxt (op L) c 0 + 1) < c then
      if w = 1 then some (nxt (op L) c 0, bst (cand c L (some (nxt (op L) c 0))) (kN G (nxt (op L) c 0)) c)
      else if w = 2 then (match strS c G L 4 0 with
        | none => some (nxt (op L) c 0, some (nxt (op L) c (nxt (op L) c 0 + 1)))
        | some p => some (p.1, some p.2))
      else if w = 3 then some (nxt (op L) c 0, bst (cand c L (some (nxt (op L) c 0))) (kF G (nxt (op L) c 0)) c)
      else if w = 4 then (match bst (cand c L none) (kC L) c with
        | none => none
        | some j => some (j, bst (cand c L (some j)) (kC L) c))
      else some (nxt (op L) c 0, some (nxt (op L) c (nxt (op L) c 0 + 1)))
    else some (nxt (op L) c 0, none)
  else none
def pkC : Option (Nat × Option Nat) → Int32 × Int32 × Int32
  | none => (0, -1, -1)
  | some p => (1, nI p.1, eO p.2)
def pkM (c : Nat) (two : Int32) : Option (Nat × Option Nat) → Int32 × Int32 × Int32
  | none => (0, nI c, two)
  | some p => (1, nI p.1, eO p.2)
theorem bst_has {p : Nat → Bool} {key : Nat → Int} {n j : Nat} (hj : j < n) (h : p j = true) : ∃ k, bst p key n = some k := by
  cases ho : bst p key n with
  | none => have := bst_none ho j hj; rw [h] at this; cases this
  | some k => exact ⟨k, rfl⟩
theorem cand_o {c : Nat} {L : Nat → Nat} {i : Nat} (h : i < c) (ho : op L i = true) : cand c L none i = true := by
  rw [cand_lt h, ho, decide_eq_true (show none ≠ some i from fun q => by cases q)]
  rfl
theorem e_pick {w c : Nat} {L : Nat → Nat} {G : Nat → Nat → Nat} {a : Nat → Int32} {F : Nat → Nat → Int32} (hw : w < 5) (hf : FG c G F) (h : CL c L a) (hb : LB c L) :
    f_X0_pick (nI c) F a (nI w) = some (pkC (pkS w c G L)) := by
  have hc := hb.1
  unfold f_X0_pick pkS
  have e0 : f_X0_openFrom a 0 = some (eN c (nxt (op L) c 0)) := e_openFrom (i := 0) h hb (by omega)
  rw [e0, bs]
  simp only [eN_m1 hc]
  by_cases hk : nxt (op L) c 0 < c
  · have hp := nxt_holds hk
    rw [if_neg (by omega), if_pos hk, eN_lt hk, l1, nI_add, e_openFrom h hb (by omega), bs]
    simp only [← l1, eN_m1 hc]
    by_cases hk2 : nxt (op L) c (nxt (op L) c 0 + 1) < c
    · rw [if_neg (by omega), if_pos hk2, eN_lt hk2]
      have hn := e_near hf h hb rfl rfl hk hk2
      have hfa := e_farD hf h hb rfl rfl hk hk2
      have hst : f_X0_pickOfStratum (nI c) F (nI (nxt (op L) c 0)) (nI (nxt (op L) c (nxt (op L) c 0 + 1))) a = some (strM (nI (nxt (op L) c 0)) (nI (nxt (op L) c (nxt (op L) c 0 + 1))) (strS c G L 4 0)) := by
        unfold f_X0_pickOfStratum
        have := e_strC hf h hb FU 0 (by omega) (by rw [FU_eq]; omega)
        rw [← l0] at this
        rw [this, bs]
        cases strS c G L 4 0 with
        | none => rfl
        | some p => rfl
      have hch : f_X0_pickByChance a = some (eO (bst (cand c L none) (kC L) c), eO (bst (cand c L (bst (cand c L none) (kC L) c)) (kC L) c)) := by
        unfold f_X0_pickByChance
        have g1 : f_X0_mostLeftBut a (-1) = some (eO (bst (cand c L none) (kC L) c)) := e_mlb (ob := none) h hb (fun b q => by cases q)
        rw [g1, bs, e_mlb h hb (fun b q => by have := (bst_some q).1; omega), bs]
      rw [hn, hfa, hst, hch]
      rcases (show w = 0 ∨ w = 1 ∨ w = 2 ∨ w = 3 ∨ w = 4 by omega) with q | q | q | q | q <;> subst q
      · rfl
      · rfl
      · show Option.bind (some ((strM (nI (nxt (op L) c 0)) (nI (nxt (op L) c (nxt (op L) c 0 + 1))) (strS c G L 4 0)).1, (strM (nI (nxt (op L) c 0)) (nI (nxt (op L) c (nxt (op L) c 0 + 1))) (strS c G L 4 0)).2)) (fun (q9 : Int32 × Int32) => some ((1 : Int32), q9.1, q9.2)) = _
        rw [bs, if_neg (by decide), if_pos rfl]
        cases strS c G L 4 0 with
        | none => rfl
        | some p => rfl
      · rfl
      · obtain ⟨j, hj⟩ := bst_has (key := kC L) hk (cand_o hk hp)
        rw [hj]
        rfl
    · rw [if_pos hk2, if_neg hk2]
      show some (1, nI (nxt (op L) c 0), eN c _) = some (1, nI (nxt (op L) c 0), -1)
      unfold eN
      rw [if_neg hk2]
  · rw [if_pos hk, if_neg hk]
    show some (0, eN c _, (-1 : Int32)) = some (0, -1, -1)
    unfold eN
    rw [if_neg hk]
theorem e_finds {w c : Nat} {L : Nat → Nat} {G : Nat → Nat → Nat} {a U : Nat → Int32} {two : Int32} (hw : w < 5) (hu : UG c G U) (h : ML c L a) (hb : LB c L) :
    f_X6_finds (nI c) (nI w) two U a = some (pkM c two (pkS w c G L)) := by
  have hc := hb.1
  unfold f_X6_finds pkS
  have e0 : f_X6_firstOpen (nI c) a 0 = some (nI (nxt (op L) c 0)) := e_firstOpen (i := 0) h hb (by omega)
  have hle := nxt_le (op L) c 0
  have hle2 := nxt_le (op L) c (nxt (op L) c 0 + 1)
  rw [e0, bs]
  simp (disch := omega) only [i_eq]
  by_cases hk : nxt (op L) c 0 < c
  · have hp := nxt_holds hk
    rw [if_neg (by omega), if_pos hk, l1, nI_add, e_firstOpen h hb (by omega), bs]
    simp (disch := omega) only [← l1, i_eq]
    by_cases hk2 : nxt (op L) c (nxt (op L) c 0 + 1) < c
    · rw [if_neg (by omega), if_pos hk2]
      have hn := e_bestN hu h hb hk
      have hfa := e_bestF hu h hb hk
      have hst := e_strM hu h hb FU 0 (nI (nxt (op L) c 0)) (nI (nxt (op L) c (nxt (op L) c 0 + 1))) (by omega) (by rw [FU_eq]; omega)
      rw [← l0] at hst
      have g1 : f_X6_bestOf (nI c) U a (-1) 4 = some (eO (bst (cand c L none) (kC L) c)) := e_bestC (ob := none) hu h hb (fun b q => by cases q)
      have g2 := e_bestC (ob := bst (cand c L none) (kC L) c) hu h hb (fun b q => by have := (bst_some q).1; omega)
      have g3 : Option.bind (f_X6_bestOf (nI c) U a (-1) 4) (fun (q11 : Int32) => Option.bind (f_X6_bestOf (nI c) U a q11 4) (fun (q12 : Int32) => some (q11, q12))) = some (eO (bst (cand c L none) (kC L) c), eO (bst (cand c L (bst (cand c L none) (kC L) c)) (kC L) c)) := by rw [g1, bs, g2, bs]
      rw [hst, g3]
      rcases (show w = 0 ∨ w = 1 ∨ w = 2 ∨ w = 3 ∨ w = 4 by omega) with q | q | q | q | q <;> subst q
      · rfl
      · rw [hn]; rfl
      · show Option.bind (some ((strM (nI (nxt (op L) c 0)) (nI (nxt (op L) c (nxt (op L) c 0 + 1))) (strS c G L 4 0)).1, (strM (nI (nxt (op L) c 0)) (nI (nxt (op L) c (nxt (op L) c 0 + 1))) (strS c G L 4 0)).2)) (fun (q9 : Int32 × Int32) => some ((1 : Int32), q9.1, q9.2)) = _
        rw [bs, if_neg (by decide), if_pos rfl]
        cases strS c G L 4 0 with
        | none => rfl
        | some p => rfl
      · rw [hfa]; rfl
      · obtain ⟨j, hj⟩ := bst_has (key := kC L) hk (cand_o hk hp)
        rw [hj]
        rfl
    · rw [if_pos (by omega), if_neg hk2]
      rfl
  · rw [if_pos (by omega), if_neg hk, show nxt (op L) c 0 = c by omega]
    rfl
theorem strS_ok {c : Nat} {G : Nat → Nat → Nat} {L : Nat → Nat} : ∀ k t p, strS c G L k t = some p → (p.1 < c ∧ op L p.1 = true) ∧ (p.2 < c ∧ op L p.2 = true) ∧ p.1 ≠ p.2
  | 0, _, p, h => by cases h
  | k + 1, t, p, h => by
    rw [strS] at h
    by_cases hk : nxt (ost L G t) c (nxt (ost L G t) c 0 + 1) < c
    · rw [if_pos hk] at h
      cases h
      have hu : nxt (ost L G t) c 0 < c := by
        have := nxt_le (ost L G t) c 0
        rcases Nat.lt_or_ge (nxt (ost L G t) c 0) c with z | z
        · exact z
        · rw [nxt_ge (c := c) (i := _ + 1) (by omega)] at hk; omega
      have h1 := nxt_holds hu
      have h2 := nxt_holds hk
      have h3 := nxt_from (p := ost L G t) (c := c) (i := nxt (ost L G t) c 0 + 1) (by omega)
      unfold ost at h1 h2
      simp only [Bool.and_eq_true] at h1 h2
      exact ⟨⟨hu, h1.1⟩, ⟨hk, h2.1⟩, by show nxt _ _ _ ≠ nxt _ _ _; omega⟩
    · rw [if_neg hk] at h
      exact strS_ok k (t + 1) p h
/-- who is chosen is open; two are two -/
theorem pk_ok {w c : Nat} {G : Nat → Nat → Nat} {L : Nat → Nat} {u : Nat} {ov : Option Nat} (h : pkS w c G L = some (u, ov)) : (u < c ∧ op L u = true) ∧ ∀ v, ov = some v → (v < c ∧ op L v = true) ∧ u ≠ v := by
  unfold pkS at h
  by_cases hk : nxt (op L) c 0 < c
  · have hp := nxt_holds hk
    rw [if_pos hk] at h
    by_cases hk2 : nxt (op L) c (nxt (op L) c 0 + 1) < c
    · have hp2 := nxt_holds hk2
      have h3 := nxt_from (p := op L) (c := c) (i := nxt (op L) c 0 + 1) (by omega)
      have hd : (nxt (op L) c 0 < c ∧ op L (nxt (op L) c 0) = true) ∧ ∀ v, some (nxt (op L) c (nxt (op L) c 0 + 1)) = some v → (v < c ∧ op L v = true) ∧ (nxt (op L) c 0) ≠ v :=
        ⟨⟨hk, hp⟩, fun v q => by cases q; exact ⟨⟨hk2, hp2⟩, by omega⟩⟩
      have hb : ∀ key u v, bst (cand c L (some u)) key c = some v → (v < c ∧ op L v = true) ∧ u ≠ v := fun key u v q => by
        have := cand_ok (bst_some q).2
        exact ⟨⟨this.1, this.2.1⟩, fun e => this.2.2 (by rw [e])⟩
      rw [if_pos hk2] at h
      by_cases w1 : w = 1
      · rw [if_pos w1] at h
        cases h
        exact ⟨⟨hk, hp⟩, fun v q => hb _ _ v q⟩
      · rw [if_neg w1] at h
        by_cases w2 : w = 2
        · rw [if_pos w2] at h
          cases hs : strS c G L 4 0 with
          | none =>
            rw [hs] at h
            cases h
            exact hd
          | some p =>
            rw [hs] at h
            cases h
            have := strS_ok 4 0 p hs
            exact ⟨this.1, fun v q => by cases q; exact ⟨this.2.1, this.2.2⟩⟩
        · rw [if_neg w2] at h
          by_cases w3 : w = 3
          · rw [if_pos w3] at h
            cases h
            exact ⟨⟨hk, hp⟩, fun v q => hb _ _ v q⟩
          · rw [if_neg w3] at h
            by_cases w4 : w = 4
            · rw [if_pos w4] at h
              cases hs : bst (cand c L none) (kC L) c with
              | none => rw [hs] at h; cases h
              | some j =>
                rw [hs] at h
                cases h
                have := cand_ok (bst_some hs).2
                exact ⟨⟨this.1, this.2.1⟩, fun v q => hb _ _ v q⟩
            · rw [if_neg w4] at h
              cases h
              exact hd
    · rw [if_neg hk2] at h
      cases h
      exact ⟨⟨hk, hp⟩, fun v q => by cases q⟩
  · rw [if_neg hk] at h
    cases h
