/-! the best one by a key, of like ones the least -/
def bs1 (p : Nat → Bool) (key : Nat → Int) (o : Option Nat) (i : Nat) : Option Nat := if p i = true then (match o with
  | none => some i
  | some j => if key j < key i then some i else some j) else o
def bst (p : Nat → Bool) (key : Nat → Int) : Nat → Option Nat
  | 0 => none
  | n + 1 => bs1 p key (bst p key n) n
def eO (o : Option Nat) : Int32 := match o with
  | none => -1
  | some j => nI j
theorem bst_no {p : Nat → Bool} {key : Nat → Int} {n : Nat} (h : p n = false) : bst p key (n + 1) = bst p key n := by
  show bs1 p key (bst p key n) n = _
  unfold bs1
  rw [h, if_neg (by decide)]
theorem bst_ext {p : Nat → Bool} {key : Nat → Int} {c : Nat} (h : ∀ i, c ≤ i → p i = false) : ∀ k, bst p key (c + k) = bst p key c
  | 0 => rfl
  | k + 1 => by
    rw [show c + (k + 1) = (c + k) + 1 by omega, bst_no (h _ (by omega))]
    exact bst_ext h k
theorem bst_some {p : Nat → Bool} {key : Nat → Int} : ∀ {n j : Nat}, bst p key n = some j → j < n ∧ p j = true
  | 0, j, h => by cases h
  | n + 1, j, h => by
    have h' : bs1 p key (bst p key n) n = some j := h
    unfold bs1 at h'
    cases hp : p n with
    | false =>
      rw [hp, if_neg (by decide)] at h'
      have := bst_some h'
      exact ⟨by omega, this.2⟩
    | true =>
      rw [hp, if_pos rfl] at h'
      cases ho : bst p key n with
      | none =>
        rw [ho] at h'
        cases h'
        exact ⟨by omega, hp⟩
      | some k =>
        rw [ho] at h'
        have hk := bst_some ho
        by_cases hlt : key k < key n
        · have h2 : (if key k < key n then some n else some k) = some j := h'
          rw [if_pos hlt] at h2
          cases h2
          exact ⟨by omega, hp⟩
        · have h2 : (if key k < key n then some n else some k) = some j := h'
          rw [if_neg hlt] at h2
          cases h2
          exact ⟨by omega, hk.2⟩
theorem bst_none {p : Nat → Bool} {key : Nat → Int} : ∀ {n : Nat}, bst p key n = none → ∀ j, j < n → p j = false
  | 0, _, j, hj => by omega
  | n + 1, h, j, hj => by
    have h' : bs1 p key (bst p key n) n = none := h
    unfold bs1 at h'
    cases hp : p n with
    | false =>
      rw [hp, if_neg (by decide)] at h'
      by_cases e : j = n
      · subst e; exact hp
      · exact bst_none h' j (by omega)
    | true =>
      rw [hp, if_pos rfl] at h'
      cases ho : bst p key n with
      | none => rw [ho] at h'; cases h'
      | some k =>
        rw [ho] at h'
        have h2 : (if key k < key n then some n else some k) = none := h'
        by_cases hlt : key k < key n
        · rw [if_pos hlt] at h2; cases h2
        · rw [if_neg hlt] at h2; cases h2
/-- the first for which p holds is the best so far -/
theorem bst_first {p : Nat → Bool} {key : Nat → Int} {v : Nat} (h : ∀ i, i < v → p i = false) (hv : p v = true) : bst p key (v + 1) = some v := by
  have h0 : bst p key v = none := by
    cases ho : bst p key v with
    | none => rfl
    | some j =>
      have := bst_some ho
      rw [h j this.1] at this
      cases this.2
  show bs1 p key (bst p key v) v = _
  unfold bs1
  rw [hv, if_pos rfl, h0]
/-- those that may be chosen beside ob -/
def cand (c : Nat) (L : Nat → Nat) (ob : Option Nat) (i : Nat) : Bool := (decide (i < c) && op L i) && decide (ob ≠ some i)
theorem cand_ge {c : Nat} {L : Nat → Nat} {ob : Option Nat} {i : Nat} (h : c ≤ i) : cand c L ob i = false := by
  unfold cand
  rw [decide_eq_false (by omega)]
  rfl
theorem cand_lt {c : Nat} {L : Nat → Nat} {ob : Option Nat} {i : Nat} (h : i < c) : cand c L ob i = (op L i && decide (ob ≠ some i)) := by
  unfold cand
  rw [decide_eq_true h, Bool.true_and]
theorem cand_ok {c : Nat} {L : Nat → Nat} {ob : Option Nat} {i : Nat} (h : cand c L ob i = true) : i < c ∧ op L i = true ∧ ob ≠ some i := by
  unfold cand at h
  simp only [Bool.and_eq_true, decide_eq_true_eq] at h
  exact ⟨h.1.1, h.1.2, h.2⟩
theorem bst12 {c : Nat} {L : Nat → Nat} {ob : Option Nat} {key : Nat → Int} (hc : c ≤ 12) : bst (cand c L ob) key 12 = bst (cand c L ob) key c := by
  have := bst_ext (p := cand c L ob) (key := key) (c := c) (fun i h => cand_ge h) (12 - c)
  rwa [show c + (12 - c) = 12 by omega] at this
theorem eO_eq {ob : Option Nat} {i : Nat} (hi : i < 2147483648) (hb : ∀ b, ob = some b → b < 2147483648) : (nI i = eO ob) = (ob = some i) := by
  cases ob with
  | none => exact (i_m1 hi).trans (eq_false (fun q => by cases q)).symm
  | some b =>
    show (nI i = nI b) = _
    rw [i_eq hi (hb b rfl)]
    exact propext ⟨fun q => by rw [q], fun q => by cases q; rfl⟩
theorem eO_m1 {o : Option Nat} (h : ∀ b, o = some b → b < 2147483648) : (eO o = -1) = (o = none) := by
  cases o with
  | none => exact propext ⟨fun _ => rfl, fun _ => rfl⟩
  | some b => exact (i_m1 (h b rfl)).trans (eq_false (fun q => by cases q)).symm
theorem neg_ti {d : Nat} (h : d < 2147483648) : (-nI d).toInt = -(d : Int) := by
  rw [fb_negI, i_ti h]
  rw [i_ti h]
  omega
/-- one round of the reference's bestOf, its key known -/
theorem best_step {c i : Nat} {L : Nat → Nat} {a U : Nat → Int32} {ob : Option Nat} {key : Nat → Int} {k32 most sort : Int32} {n : Nat} {R : Option Int32}
    (hm : ML c L a) (hb : LB c L) (hi : i < c) (hob : ∀ b, ob = some b → b < c) (hk : k32.toInt = key i) (hmo : ∀ j, bst (cand c L ob) key i = some j → most.toInt = key j)
    (hR : ∀ most', (∀ j, bst (cand c L ob) key (i + 1) = some j → most'.toInt = key j) → lp_X6_bestOf_8 (nI c) (eO ob) U sort a n (eO (bst (cand c L ob) key (i + 1))) most' (nI (i + 1)) = R) :
    Option.bind (if nI i = eO ob then some (eO (bst (cand c L ob) key i), most) else Option.bind (f_X6_isOpen a (nI i)) (fun (q13 : Int32) => if q13 = 0 then some (eO (bst (cand c L ob) key i), most) else if eO (bst (cand c L ob) key i) = (-1) then some (nI i, k32) else if k32 ≤ most then some (eO (bst (cand c L ob) key i), most) else some (nI i, k32))) (fun (q12 : Int32 × Int32) => lp_X6_bestOf_8 (nI c) (eO ob) U sort a n q12.1 q12.2 (nI i + 1)) = R := by
  have hc := hb.1
  have hbb : ∀ b, ob = some b → b < 2147483648 := fun b e => by have := hob b e; omega
  have hbj : ∀ j, bst (cand c L ob) key i = some j → j < 2147483648 := fun j e => by have := (bst_some e).1; omega
  rw [e_isOpen6 hm hb hi]
  simp only [eO_eq (show i < 2147483648 by omega) hbb, eO_m1 hbj]
  simp only [bs, l0, l1, nI_add, bI0]
  by_cases h1 : ob = some i
  · have hn : cand c L ob i = false := by rw [cand_lt hi, decide_eq_false (fun q => q h1), Bool.and_false]
    rw [if_pos h1, bs, ← bst_no (key := key) hn]
    exact hR most (fun j hj => hmo j (by rw [bst_no hn] at hj; exact hj))
  · rw [if_neg h1]
    cases hp : op L i with
    | false =>
      have hn : cand c L ob i = false := by rw [cand_lt hi, hp, Bool.false_and]
      rw [if_pos rfl, bs, ← bst_no (key := key) hn]
      exact hR most (fun j hj => hmo j (by rw [bst_no hn] at hj; exact hj))
    | true =>
      have hy : cand c L ob i = true := by rw [cand_lt hi, hp, decide_eq_true h1]; rfl
      rw [if_neg (by decide)]
      have hs : bst (cand c L ob) key (i + 1) = bs1 (cand c L ob) key (bst (cand c L ob) key i) i := rfl
      unfold bs1 at hs
      rw [hy, if_pos rfl] at hs
      cases ho : bst (cand c L ob) key i with
      | none =>
        rw [ho] at hs
        rw [if_pos rfl, bs]
        have h2 := hR k32 (fun j hj => by rw [hs] at hj; cases hj; exact hk)
        rw [hs] at h2
        exact h2
      | some j =>
        rw [ho] at hs
        have hs : bst (cand c L ob) key (i + 1) = if key j < key i then some i else some j := hs
        rw [if_neg (by intro q; cases q)]
        have hmj := hmo j ho
        by_cases hlt : key j < key i
        · rw [if_neg (by rw [fa_le, hk, hmj]; omega), bs]
          rw [if_pos hlt] at hs
          have h2 := hR k32 (fun j hj => by rw [hs] at hj; cases hj; exact hk)
          rw [hs] at h2
          exact h2
        · rw [if_pos (by rw [fa_le, hk, hmj]; omega), bs]
          rw [if_neg hlt] at hs
          have h2 := hR most (fun j' hj => by rw [hs] at hj; cases hj; exact hmj)
          rw [hs] at h2
          exact h2
theorem e_lp_bestN {c b : Nat} {L : Nat → Nat} {G : Nat → Nat → Nat} {a U : Nat → Int32} (hu : UG c G U) (hm : ML c L a) (hb : LB c L) (hbc : b < c) :
    ∀ n i most, i ≤ c → c < n + i → (∀ j, bst (cand c L (some b)) (fun i => -(dN (G 1 i) (G 1 b) : Int)) i = some j → most.toInt = -(dN (G 1 j) (G 1 b) : Int)) →
      lp_X6_bestOf_8 (nI c) (eO (some b)) U (nI 1) a n (eO (bst (cand c L (some b)) (fun i => -(dN (G 1 i) (G 1 b) : Int)) i)) most (nI i) = some (eO (bst (cand c L (some b)) (fun i => -(dN (G 1 i) (G 1 b) : Int)) c)) := by
  have hc := hb.1
  intro n
  induction n with
  | zero => intro i most h1 h2; omega
  | succ n ih =>
    intro i most h1 h2 h3
    rw [lp_X6_bestOf_8]
    by_cases hic : i = c
    · subst hic
      simp (disch := omega) only [i_le, if_pos]
    · have hic : i < c := by omega
      have g1 := hu.f hic (w := 1) (by omega)
      have g2 := hu.f hbc (w := 1) (by omega)
      have b1 := (hu.v hic (w := 1) (by omega)).2
      have b2 := (hu.v hbc (w := 1) (by omega)).2
      have hd := dN_le b1 b2
      rw [if_neg (by rw [i_le (by omega) (by omega)]; omega)]
      rw [if_neg (show ¬ eO (some b) = -1 from of_eq_false (i_m1 (by omega)))]
      have e1 : f_X6_at U (nI i) 1 = some (nI (G 1 i)) := g1
      have e2 : f_X6_at U (eO (some b)) 1 = some (nI (G 1 b)) := g2
      rw [e1, bs, e2, bs, e_far (by omega) (by omega), bs, bs, if_pos (show nI 1 = 1 from l1.symm), bs]
      exact best_step (key := fun i => -(dN (G 1 i) (G 1 b) : Int)) hm hb hic (fun b' e => by cases e; exact hbc) (neg_ti (by omega)) h3 (fun most' h4 => ih (i + 1) most' (by omega) (by omega) h4)
theorem e_lp_bestF {c b : Nat} {L : Nat → Nat} {G : Nat → Nat → Nat} {a U : Nat → Int32} (hu : UG c G U) (hm : ML c L a) (hb : LB c L) (hbc : b < c) :
    ∀ n i most, i ≤ c → c < n + i → (∀ j, bst (cand c L (some b)) (fun i => (dN (G 1 i) (G 1 b) : Int)) i = some j → most.toInt = (dN (G 1 j) (G 1 b) : Int)) →
      lp_X6_bestOf_8 (nI c) (eO (some b)) U (nI 3) a n (eO (bst (cand c L (some b)) (fun i => (dN (G 1 i) (G 1 b) : Int)) i)) most (nI i) = some (eO (bst (cand c L (some b)) (fun i => (dN (G 1 i) (G 1 b) : Int)) c)) := by
  have hc := hb.1
  intro n
  induction n with
  | zero => intro i most h1 h2; omega
  | succ n ih =>
    intro i most h1 h2 h3
    rw [lp_X6_bestOf_8]
    by_cases hic : i = c
    · subst hic
      simp (disch := omega) only [i_le, if_pos]
    · have hic : i < c := by omega
      have g1 := hu.f hic (w := 1) (by omega)
      have g2 := hu.f hbc (w := 1) (by omega)
      have b1 := (hu.v hic (w := 1) (by omega)).2
      have b2 := (hu.v hbc (w := 1) (by omega)).2
      have hd := dN_le b1 b2
      rw [if_neg (by rw [i_le (by omega) (by omega)]; omega)]
      rw [if_neg (show ¬ eO (some b) = -1 from of_eq_false (i_m1 (by omega)))]
      have e1 : f_X6_at U (nI i) 1 = some (nI (G 1 i)) := g1
      have e2 : f_X6_at U (eO (some b)) 1 = some (nI (G 1 b)) := g2
      rw [e1, bs, e2, bs, e_far (by omega) (by omega), bs, bs, if_neg (show ¬ nI 3 = 1 by decide), if_pos (show nI 3 = 3 from l3.symm), bs]
      exact best_step (key := fun i => (dN (G 1 i) (G 1 b) : Int)) hm hb hic (fun b' e => by cases e; exact hbc) (i_ti (by omega)) h3 (fun most' h4 => ih (i + 1) most' (by omega) (by omega) h4)
theorem e_lp_bestC {c : Nat} {ob : Option Nat} {L : Nat → Nat} {G : Nat → Nat → Nat} {a U : Nat → Int32} (hu : UG c G U) (hm : ML c L a) (hb : LB c L) (hbc : ∀ b, ob = some b → b < c) :
    ∀ n i most, i ≤ c → c < n + i → (∀ j, bst (cand c L ob) (fun i => (L i : Int)) i = some j → most.toInt = (L j : Int)) →
      lp_X6_bestOf_8 (nI c) (eO ob) U (nI 4) a n (eO (bst (cand c L ob) (fun i => (L i : Int)) i)) most (nI i) = some (eO (bst (cand c L ob) (fun i => (L i : Int)) c)) := by
  have hc := hb.1
  intro n
  induction n with
  | zero => intro i most h1 h2; omega
  | succ n ih =>
    intro i most h1 h2 h3
    rw [lp_X6_bestOf_8]
    by_cases hic : i = c
    · subst hic
      simp (disch := omega) only [i_le, if_pos]
    · have hic : i < c := by omega
      have hl := hb.2 i hic
      rw [if_neg (by rw [i_le (by omega) (by omega)]; omega)]
      have e0 : ∃ z, (if eO ob = -1 then some 0 else Option.bind (f_X6_at U (nI i) 1) (fun (q4 : Int32) => Option.bind (f_X6_at U (eO ob) 1) (fun (q5 : Int32) => Option.bind (f_X6_far q4 q5) (fun (q6 : Int32) => some q6)))) = some z := by
        cases ob with
        | none => exact ⟨0, if_pos rfl⟩
        | some b =>
          have hb2 := hbc b rfl
          have g1 := hu.f hic (w := 1) (by omega)
          have g2 := hu.f hb2 (w := 1) (by omega)
          have b1 := (hu.v hic (w := 1) (by omega)).2
          have b2 := (hu.v hb2 (w := 1) (by omega)).2
          have e1 : f_X6_at U (nI i) 1 = some (nI (G 1 i)) := g1
          have e2 : f_X6_at U (eO (some b)) 1 = some (nI (G 1 b)) := g2
          refine ⟨nI (dN (G 1 i) (G 1 b)), ?_⟩
          rw [if_neg (show ¬ eO (some b) = -1 from of_eq_false (i_m1 (by omega))), e1, bs, e2, bs, e_far (by omega) (by omega), bs]
      obtain ⟨z, hz⟩ := e0
      rw [hz, bs, if_neg (show ¬ nI 4 = 1 by decide), if_neg (show ¬ nI 4 = 3 by decide), i_in (by omega), if_pos (decide_eq_true (by omega)), bs, i_cl (by omega), hm i hic]
      exact best_step (key := fun i => (L i : Int)) hm hb hic hbc (i_ti (by omega)) h3 (fun most' h4 => ih (i + 1) most' (by omega) (by omega) h4)
