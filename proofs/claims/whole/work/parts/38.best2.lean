/-! the reference's bestOf, the class's byDistance and mostLeftBut: the same best one -/
def kN (G : Nat → Nat → Nat) (b : Nat) : Nat → Int := fun i => -(dN (G 1 i) (G 1 b) : Int)
def kF (G : Nat → Nat → Nat) (b : Nat) : Nat → Int := fun i => (dN (G 1 i) (G 1 b) : Int)
def kC (L : Nat → Nat) : Nat → Int := fun i => (L i : Int)
theorem e_bestN {c b : Nat} {L : Nat → Nat} {G : Nat → Nat → Nat} {a U : Nat → Int32} (hu : UG c G U) (hm : ML c L a) (hb : LB c L) (hbc : b < c) : f_X6_bestOf (nI c) U a (nI b) (nI 1) = some (eO (bst (cand c L (some b)) (kN G b) c)) := by
  have hc := hb.1
  unfold f_X6_bestOf
  have h : lp_X6_bestOf_8 (nI c) (nI b) U (nI 1) a FU (-1) 0 0 = some (eO (bst (cand c L (some b)) (kN G b) c)) := e_lp_bestN hu hm hb hbc FU 0 0 (Nat.zero_le _) (by rw [FU_eq]; omega) (fun j hj => by cases hj)
  rw [h, bs]
theorem e_bestF {c b : Nat} {L : Nat → Nat} {G : Nat → Nat → Nat} {a U : Nat → Int32} (hu : UG c G U) (hm : ML c L a) (hb : LB c L) (hbc : b < c) : f_X6_bestOf (nI c) U a (nI b) (nI 3) = some (eO (bst (cand c L (some b)) (kF G b) c)) := by
  have hc := hb.1
  unfold f_X6_bestOf
  have h : lp_X6_bestOf_8 (nI c) (nI b) U (nI 3) a FU (-1) 0 0 = some (eO (bst (cand c L (some b)) (kF G b) c)) := e_lp_bestF hu hm hb hbc FU 0 0 (Nat.zero_le _) (by rw [FU_eq]; omega) (fun j hj => by cases hj)
  rw [h, bs]
theorem e_bestC {c : Nat} {ob : Option Nat} {L : Nat → Nat} {G : Nat → Nat → Nat} {a U : Nat → Int32} (hu : UG c G U) (hm : ML c L a) (hb : LB c L) (hbc : ∀ b, ob = some b → b < c) : f_X6_bestOf (nI c) U a (eO ob) 4 = some (eO (bst (cand c L ob) (kC L) c)) := by
  have hc := hb.1
  unfold f_X6_bestOf
  have h : lp_X6_bestOf_8 (nI c) (eO ob) U 4 a FU (-1) 0 0 = some (eO (bst (cand c L ob) (kC L) c)) := e_lp_bestC hu hm hb hbc FU 0 0 (Nat.zero_le _) (by rw [FU_eq]; omega) (fun j hj => by cases hj)
  rw [h, bs]
theorem e_lp_byD {c u : Nat} {L : Nat → Nat} {G : Nat → Nat → Nat} {a : Nat → Int32} {F : Nat → Nat → Int32} {a1 : Int32} {σ : Int} (hf : FG c G F) (hm : CL c L a) (hb : LB c L) (huc : u < c) (ha1 : ∀ d, d ≤ 99 → (a1 * nI d).toInt = σ * d) :
    ∀ n i j least, i ≤ 12 → 12 < n + i → u < i → bst (cand c L (some u)) (fun i => -(σ * (dN (G 1 i) (G 1 u) : Int))) i = some j → least.toInt = σ * (dN (G 1 j) (G 1 u) : Int) →
      lp_X0_byDistance_29 a (nI c) F (nI u) a1 n (nI j) least (nI i) = some (eO (bst (cand c L (some u)) (fun i => -(σ * (dN (G 1 i) (G 1 u) : Int))) c)) := by
  have hc := hb.1
  intro n
  induction n with
  | zero => intro i j least h1 h2; omega
  | succ n ih =>
    intro i j least h1 h2 hui hj hl
    rw [lp_X0_byDistance_29]
    have hjl := (bst_some hj).1
    by_cases h12 : i = 12
    · subst h12
      rw [if_pos (by rw [l12, i_le (by omega) (by omega)]; omega), ← bst12 hc, hj]
      rfl
    · rw [if_neg (by rw [l12, i_le (by omega) (by omega)]; omega), e_isOpen hm hb h1, bs]
      simp only [l0, bI0]
      rw [l1, nI_add]
      have hs : bst (cand c L (some u)) (fun i => -(σ * (dN (G 1 i) (G 1 u) : Int))) (i + 1) = bs1 (cand c L (some u)) (fun i => -(σ * (dN (G 1 i) (G 1 u) : Int))) (some j) i := by rw [← hj]; rfl
      unfold bs1 at hs
      have hne : (some u ≠ some i) := fun q => by cases q; omega
      cases ho : (decide (i < c) && op L i) with
      | false =>
        have hn : cand c L (some u) i = false := by unfold cand; rw [ho, Bool.false_and]
        rw [hn, if_neg (by decide)] at hs
        rw [if_pos rfl, bs, if_pos ((fa_le _ _).mpr (Int.le_refl _)), bs]
        exact ih (i + 1) j least (by omega) (by omega) (by omega) hs hl
      | true =>
        have hy : cand c L (some u) i = true := by unfold cand; rw [ho, decide_eq_true hne]; rfl
        have hic : i < c := (cand_ok hy).1
        rw [hy, if_pos rfl] at hs
        have hs : bst (cand c L (some u)) (fun i => -(σ * (dN (G 1 i) (G 1 u) : Int))) (i + 1) = if -(σ * (dN (G 1 j) (G 1 u) : Int)) < -(σ * (dN (G 1 i) (G 1 u) : Int)) then some i else some j := hs
        have hd := dN_le ((hf.v huc (w := 1) (by omega)).2) ((hf.v hic (w := 1) (by omega)).2)
        have ht := ha1 _ hd
        rw [if_neg (by decide), e_dist hf huc hic, bs, bs]
        rw [dN_comm (G 1 u) (G 1 i)] at ht ⊢
        by_cases hlt : -(σ * (dN (G 1 j) (G 1 u) : Int)) < -(σ * (dN (G 1 i) (G 1 u) : Int))
        · rw [if_pos hlt] at hs
          rw [if_neg (by rw [fa_le, ht, hl]; omega), bs]
          exact ih (i + 1) i _ (by omega) (by omega) (by omega) hs ht
        · rw [if_neg hlt] at hs
          rw [if_pos (by rw [fa_le, ht, hl]; omega), bs]
          exact ih (i + 1) j least (by omega) (by omega) (by omega) hs hl
/-- byDistance from the two least open ones on -/
theorem e_byD {c u v : Nat} {L : Nat → Nat} {G : Nat → Nat → Nat} {a : Nat → Int32} {F : Nat → Nat → Int32} {a1 : Int32} {σ : Int} (hf : FG c G F) (hm : CL c L a) (hb : LB c L) (hu : u = nxt (op L) c 0) (hv : v = nxt (op L) c (u + 1)) (huc : u < c) (hvc : v < c) (ha1 : ∀ d, d ≤ 99 → (a1 * nI d).toInt = σ * d) :
    f_X0_byDistance (nI c) F (nI u) (nI v) a a1 = some (eO (bst (cand c L (some u)) (fun i => -(σ * (dN (G 1 i) (G 1 u) : Int))) c)) := by
  have hc := hb.1
  unfold f_X0_byDistance
  have huv : u < v := by have := nxt_from (p := op L) (c := c) (i := u + 1) (by omega); omega
  have hpv : op L v = true := by rw [hv]; exact nxt_holds (by omega)
  have hfirst : bst (cand c L (some u)) (fun i => -(σ * (dN (G 1 i) (G 1 u) : Int))) (v + 1) = some v := by
    refine bst_first (fun i hi => ?_) ?_
    · rw [cand_lt (by omega)]
      by_cases hiu : i = u
      · subst hiu
        rw [decide_eq_false (fun q => q rfl), Bool.and_false]
      · have hn : op L i = false := by
          by_cases hlt : i < u
          · exact nxt_not (p := op L) (c := c) (i := 0) (by omega) (by omega)
          · exact nxt_not (p := op L) (c := c) (i := u + 1) (by omega) (by omega)
        rw [hn, Bool.false_and]
    · rw [cand_lt hvc, hpv, decide_eq_true (show some u ≠ some v from fun q => by cases q; omega)]
      rfl
  have hd := dN_le ((hf.v huc (w := 1) (by omega)).2) ((hf.v hvc (w := 1) (by omega)).2)
  have ht := ha1 _ hd
  rw [e_dist hf huc hvc, bs, l1, nI_add]
  rw [dN_comm (G 1 u) (G 1 v)] at ht ⊢
  rw [e_lp_byD hf hm hb huc ha1 FU (v + 1) v _ (by omega) (by rw [FU_eq]; omega) (by omega) hfirst ht, bs]
theorem e_near {c u v : Nat} {L : Nat → Nat} {G : Nat → Nat → Nat} {a : Nat → Int32} {F : Nat → Nat → Int32} (hf : FG c G F) (hm : CL c L a) (hb : LB c L) (hu : u = nxt (op L) c 0) (hv : v = nxt (op L) c (u + 1)) (huc : u < c) (hvc : v < c) :
    f_X0_byDistance (nI c) F (nI u) (nI v) a 1 = some (eO (bst (cand c L (some u)) (kN G u) c)) := by
  have h := e_byD (a1 := 1) (σ := 1) hf hm hb hu hv huc hvc (fun d hd => by rw [l1, pk_mul, i_ti (by omega)]; omega)
  rw [h]
  congr 3
  funext i
  unfold kN
  omega
theorem e_farD {c u v : Nat} {L : Nat → Nat} {G : Nat → Nat → Nat} {a : Nat → Int32} {F : Nat → Nat → Int32} (hf : FG c G F) (hm : CL c L a) (hb : LB c L) (hu : u = nxt (op L) c 0) (hv : v = nxt (op L) c (u + 1)) (huc : u < c) (hvc : v < c) :
    f_X0_byDistance (nI c) F (nI u) (nI v) a (-1) = some (eO (bst (cand c L (some u)) (kF G u) c)) := by
  have hm1 : (-1 : Int32).toInt = -1 := by decide
  have h := e_byD (a1 := -1) (σ := -1) hf hm hb hu hv huc hvc (fun d hd => by
    rw [fb_mulI, hm1, i_ti (by omega)]
    · rw [hm1, i_ti (by omega)]; omega
    · rw [hm1, i_ti (by omega)]; omega)
  rw [h]
  congr 3
  funext i
  unfold kF
  omega
def mv (L : Nat → Nat) : Option Nat → Nat
  | none => 0
  | some j => L j
theorem e_lp_mlb {c : Nat} {ob : Option Nat} {L : Nat → Nat} {a : Nat → Int32} (hm : CL c L a) (hb : LB c L) (hob : ∀ b, ob = some b → b < c) :
    ∀ n i, i ≤ 12 → 12 < n + i → lp_X0_mostLeftBut_7 (eO ob) a n (eO (bst (cand c L ob) (kC L) i)) (nI (mv L (bst (cand c L ob) (kC L) i))) (nI i) = some (eO (bst (cand c L ob) (kC L) c)) := by
  have hc := hb.1
  intro n
  induction n with
  | zero => intro i h1 h2; omega
  | succ n ih =>
    intro i h1 h2
    rw [lp_X0_mostLeftBut_7]
    by_cases h12 : i = 12
    · subst h12
      rw [if_pos (by rw [l12, i_le (by omega) (by omega)]; omega), ← bst12 hc]
    · rw [if_neg (by rw [l12, i_le (by omega) (by omega)]; omega), i_in (by omega), i_cl (by omega), l1, nI_add, l12]
      have ih' := ih (i + 1) (by omega) (by omega)
      have hbb : ∀ b, ob = some b → b < 2147483648 := fun b e => by have := hob b e; omega
      have hmv : mv L (bst (cand c L ob) (kC L) i) ≤ 12 := by
        cases ho : bst (cand c L ob) (kC L) i with
        | none => exact Nat.zero_le _
        | some j =>
          have := cand_ok (bst_some ho).2
          exact hb.2 j this.1
      simp only [eO_eq (show i < 2147483648 by omega) hbb, if_pos (show decide (i < 12) = true from decide_eq_true (by omega))]
      have hs : bst (cand c L ob) (kC L) (i + 1) = bs1 (cand c L ob) (kC L) (bst (cand c L ob) (kC L) i) i := rfl
      unfold bs1 at hs
      by_cases hbi : ob = some i
      · have hn : cand c L ob i = false := by
          have := hob i hbi
          rw [cand_lt this, decide_eq_false (fun q => q hbi), Bool.and_false]
        rw [if_pos hbi, bs]
        rw [hn, if_neg (by decide)] at hs
        rw [hs] at ih'
        exact ih'
      · rw [if_neg hbi]
        have hv := hm i (by omega)
        by_cases hic : i < c
        · rw [if_pos hic] at hv
          have hl := hb.2 i hic
          simp (disch := omega) only [hv, i_le]
          by_cases hL12 : L i = 12
          · have hn : cand c L ob i = false := by rw [cand_lt hic, op_no (by omega), Bool.false_and]
            rw [if_pos (by omega), bs]
            rw [hn, if_neg (by decide)] at hs
            rw [hs] at ih'
            exact ih'
          · rw [if_neg (by omega)]
            by_cases hL0 : L i = 0
            · have hn : cand c L ob i = false := by rw [cand_lt hic, op_no (by omega), Bool.false_and]
              rw [if_pos (by omega), bs]
              rw [hn, if_neg (by decide)] at hs
              rw [hs] at ih'
              exact ih'
            · have hy : cand c L ob i = true := by rw [cand_lt hic, op_iff.mpr (by omega), decide_eq_true hbi]; rfl
              rw [hy, if_pos rfl] at hs
              cases ho : bst (cand c L ob) (kC L) i with
              | none =>
                rw [ho] at hs
                have hs : bst (cand c L ob) (kC L) (i + 1) = some i := hs
                rw [if_neg (by show ¬ L i ≤ 0; omega), bs]
                rw [hs] at ih'
                exact ih'
              | some j =>
                rw [ho] at hs
                have hs : bst (cand c L ob) (kC L) (i + 1) = if (L j : Int) < (L i : Int) then some i else some j := hs
                by_cases hlt : L j < L i
                · rw [if_pos (by omega)] at hs
                  rw [if_neg (by show ¬ L i ≤ L j; omega), bs]
                  rw [hs] at ih'
                  exact ih'
                · rw [if_neg (by omega)] at hs
                  rw [if_pos (by show L i ≤ L j; omega), bs]
                  rw [hs] at ih'
                  exact ih'
        · rw [if_neg hic] at hv
          have hn : cand c L ob i = false := cand_ge (by omega)
          simp (disch := omega) only [hv, i_le, if_pos, if_neg, bs]
          rw [hn, if_neg (by decide)] at hs
          rw [hs] at ih'
          exact ih'
theorem e_mlb {c : Nat} {ob : Option Nat} {L : Nat → Nat} {a : Nat → Int32} (hm : CL c L a) (hb : LB c L) (hob : ∀ b, ob = some b → b < c) : f_X0_mostLeftBut a (eO ob) = some (eO (bst (cand c L ob) (kC L) c)) := by
  unfold f_X0_mostLeftBut
  have h : lp_X0_mostLeftBut_7 (eO ob) a FU (-1) 0 0 = some (eO (bst (cand c L ob) (kC L) c)) := e_lp_mlb hm hb hob FU 0 (Nat.zero_le _) (by rw [FU_eq]; omega)
  rw [h, bs]
