/-! which samples can be: the reference's row -/
def wbL (w c : Nat) (G : Nat → Nat → Nat) (b : Nat) : Nat → Nat → (Nat → Nat) → (Nat → Nat)
  | 0, _, L => L
  | k + 1, j, L => match pkS w c G L with
    | none => L
    | some p => wbL w c G b k (j + 1) (plL L p.1 p.2 (decide (b / 2 ^ j % 2 = 1)))
theorem e_lp_lay75 {w c b : Nat} {G : Nat → Nat → Nat} {U : Nat → Int32} (hw : w < 5) (hu : UG c G U) (hb : b < 4096) :
    ∀ k n j L one two a, ocN L c ≤ k → k < n → j + k ≤ 12 → ML c L a → LB c L → ∃ one' two' a', lp_X6_layCan_75 (nI c) (nI w) U (nI b) n (nI j) one two a = some (one', two', a') ∧ ML c (wbL w c G b k j L) a' ∧ LB c (wbL w c G b k j L) := by
  have hc := hu.1
  intro k
  induction k with
  | zero =>
    intro n j L one two a h1 h2 h3 hM hB
    obtain ⟨n, rfl⟩ : ∃ n', n = n' + 1 := ⟨n - 1, by omega⟩
    have h0 : nxt (op L) c 0 = c := oc_no (by omega)
    have hp : pkS w c G L = none := by unfold pkS; rw [h0, if_neg (Nat.lt_irrefl _)]
    refine ⟨nI c, two, a, ?_, hM, hB⟩
    rw [lp_X6_layCan_75, e_finds hw hu hM hB, hp, bs, if_pos (by rfl)]
    rfl
  | succ k ih =>
    intro n j L one two a h1 h2 h3 hM hB
    obtain ⟨n, rfl⟩ : ∃ n', n = n' + 1 := ⟨n - 1, by omega⟩
    rw [lp_X6_layCan_75, e_finds hw hu hM hB, bs, wbL]
    cases hp : pkS w c G L with
    | none =>
      refine ⟨nI c, two, a, ?_, hM, hB⟩
      rw [if_pos (by rfl)]
      rfl
    | some p =>
      obtain ⟨pu, ov⟩ := p
      obtain ⟨⟨hu1, hu2⟩, hv1⟩ := pk_ok hp
      have hv2 : ∀ v, ov = some v → v < c := fun v e => (hv1 v e).1.1
      rw [if_neg (show ¬ (pkM c two (some (pu, ov))).1 = 0 by show ¬ (1 : Int32) = 0; decide)]
      dsimp (config := { instances := true }) only [pkM]
      have hh : f_X6_has (nI b) (nI j) = some (bI (decide (b / 2 ^ j % 2 = 1))) := by
        rw [e_has (by omega) (by omega)]
        by_cases g : b / 2 ^ j % 2 = 1
        · rw [if_pos g, decide_eq_true g]; rfl
        · rw [if_neg g, decide_eq_false g]; rfl
      obtain ⟨a', g1, g2⟩ := e_gets (won := decide (b / 2 ^ j % 2 = 1)) hM hB hu1 hv2
      rw [hh, bs, g1, bs, show nI j + 1 = nI (j + 1) by rw [l1, nI_add]]
      exact ih n (j + 1) _ _ _ a' (by have := pl_oc (won := decide (b / 2 ^ j % 2 = 1)) hB ⟨hu1, hu2⟩ hv1; omega) (by omega) (by omega) g2 (plL_LB hB hu1 hv2)
theorem two_bit {low j bit h : Nat} (hl : low < 2 ^ j) (hb : bit < 2) : (low + 2 ^ j * (bit + 2 * h)) / 2 ^ j % 2 = bit := by
  rw [Nat.add_mul_div_left _ _ (Nat.two_pow_pos j), Nat.div_eq_of_lt hl]
  omega
theorem rch_iff {w c : Nat} {G : Nat → Nat → Nat} : ∀ k j L low s, low < 2 ^ j → (rchB w c G k L s = true ↔ ∃ h, h < 2 ^ k ∧ s = wsN (wbL w c G (low + 2 ^ j * h) k j L) c) := by
  intro k
  induction k with
  | zero =>
    intro j L low s hl
    rw [rchB]
    constructor
    · intro h
      exact ⟨0, by decide, of_decide_eq_true h⟩
    · rintro ⟨h, _, e⟩
      exact decide_eq_true e
  | succ k ih =>
    intro j L low s hl
    rw [rchB]
    cases hp : pkS w c G L with
    | none =>
      have hw : ∀ b, wbL w c G b (k + 1) j L = L := fun b => by rw [wbL, hp]
      constructor
      · intro h
        exact ⟨0, Nat.two_pow_pos _, by rw [hw]; exact of_decide_eq_true h⟩
      · rintro ⟨h, _, e⟩
        rw [hw] at e
        exact decide_eq_true e
    | some p =>
      have hw : ∀ bit h, bit < 2 → wbL w c G (low + 2 ^ j * (bit + 2 * h)) (k + 1) j L = wbL w c G (low + 2 ^ j * bit + 2 ^ (j + 1) * h) k (j + 1) (plL L p.1 p.2 (decide (bit = 1))) := fun bit h hb => by
        rw [wbL, hp]
        show wbL w c G _ k (j + 1) (plL L p.1 p.2 (decide (_ / 2 ^ j % 2 = 1))) = _
        rw [two_bit hl hb]
        congr 1
        rw [Nat.mul_add, Nat.pow_succ, Nat.mul_assoc, Nat.add_assoc]
      have hlow : ∀ bit, bit < 2 → low + 2 ^ j * bit < 2 ^ (j + 1) := fun bit hb => by
        rw [Nat.pow_succ]
        have : 2 ^ j * bit ≤ 2 ^ j * 1 := Nat.mul_le_mul_left _ (by omega)
        omega
      show (rchB w c G k (plL L p.1 p.2 true) s || rchB w c G k (plL L p.1 p.2 false) s) = true ↔ _
      rw [Bool.or_eq_true, ih (j + 1) _ (low + 2 ^ j * 1) s (hlow 1 (by omega)), ih (j + 1) _ (low + 2 ^ j * 0) s (hlow 0 (by omega))]
      constructor
      · rintro (⟨h, h1, h2⟩ | ⟨h, h1, h2⟩)
        · refine ⟨1 + 2 * h, by rw [Nat.pow_succ]; omega, ?_⟩
          rw [hw 1 h (by omega)]; exact h2
        · refine ⟨0 + 2 * h, by rw [Nat.pow_succ]; omega, ?_⟩
          rw [hw 0 h (by omega)]; exact h2
      · rintro ⟨h, h1, h2⟩
        rw [Nat.pow_succ] at h1
        rcases Nat.mod_two_eq_zero_or_one h with e | e
        · right
          refine ⟨h / 2, by omega, ?_⟩
          have eh : h = 0 + 2 * (h / 2) := by omega
          rw [eh, hw 0 _ (by omega)] at h2
          exact h2
        · left
          refine ⟨h / 2, by omega, ?_⟩
          have eh : h = 1 + 2 * (h / 2) := by omega
          rw [eh, hw 1 _ (by omega)] at h2
          exact h2
def exB (f : Nat → Bool) : Nat → Bool
  | 0 => false
  | b + 1 => exB f b || f b
theorem exB_iff {f : Nat → Bool} : ∀ n, exB f n = true ↔ ∃ b, b < n ∧ f b = true
  | 0 => ⟨fun h => (by cases h), fun ⟨b, h, _⟩ => (by omega)⟩
  | n + 1 => by
    rw [exB, Bool.or_eq_true, exB_iff n]
    constructor
    · rintro (⟨b, h1, h2⟩ | h)
      · exact ⟨b, by omega, h2⟩
      · exact ⟨n, by omega, h⟩
    · rintro ⟨b, h1, h2⟩
      by_cases e : b = n
      · subst e; exact Or.inr h2
      · exact Or.inl ⟨b, by omega, h2⟩
/-- what can be, as the reference's row has it -/
def CB (P : Nat → Bool) (a : Nat → Int32) : Prop := ∀ s, s < 4096 → a s = bI (P s)
theorem e_lp_lay2 : ∀ n i a, i ≤ 4096 → 4096 < n + i → (∀ j, j < i → a j = bI false) → ∃ a', lp_X6_layCan_2 n (nI i) a = some a' ∧ CB (fun _ => false) a' := by
  intro n
  induction n with
  | zero => intro i a h1 h2; omega
  | succ n ih =>
    intro i a h1 h2 h3
    rw [lp_X6_layCan_2]
    by_cases e : i = 4096
    · subst e
      rw [if_pos (by rw [l4096, i_le (by omega) (by omega)]; omega)]
      exact ⟨a, rfl, h3⟩
    · rw [if_neg (by rw [l4096, i_le (by omega) (by omega)]; omega), i_in (by omega), if_pos (decide_eq_true (by omega)), i_cl (by omega), l1, nI_add]
      refine ih (i + 1) _ (by omega) (by omega) (fun j hj => ?_)
      show (if j = i then _ else a j) = _
      by_cases e2 : j = i
      · rw [if_pos e2]; decide
      · rw [if_neg e2]; exact h3 j (by omega)
theorem e_lp_lay30 {c : Nat} {L : Nat → Nat} {a : Nat → Int32} (h : ML c L a) (hb : LB c L) :
    ∀ n i, i ≤ c → c < n + i → lp_X6_layCan_30 (nI c) a n (nI (ocN L i)) (nI i) = some (nI (ocN L c)) := by
  have hc := hb.1
  intro n
  induction n with
  | zero => intro i h1 h2; omega
  | succ n ih =>
    intro i h1 h2
    rw [lp_X6_layCan_30]
    by_cases e : i = c
    · subst e
      rw [if_pos (by rw [i_le (by omega) (by omega)]; omega)]
    · have hic : i < c := by omega
      rw [if_neg (by rw [i_le (by omega) (by omega)]; omega), e_isOpen6 h hb hic, bs]
      have e1 : (if bI (op L i) = 0 then some (0 : Int32) else some 1) = some (nI (if op L i = true then 1 else 0)) := by
        cases op L i <;> rfl
      rw [e1, bs, nI_add, l1, nI_add]
      exact ih (i + 1) (by omega) (by omega)
theorem e_lp_lay62 {w c : Nat} {G : Nat → Nat → Nat} {U : Nat → Int32} (hw : w < 5) (hu : UG c G U) {k : Nat} (hk : ocN (fun j => G 0 j) c = k) :
    ∀ n b one two a can, b ≤ 2 ^ k → 2 ^ k < n + b → CB (fun s => exB (fun b' => decide (s = wsN (wbL w c G b' k 0 (fun j => G 0 j)) c)) b) can →
      ∃ one' two' a' can', lp_X6_layCan_62 (nI k) (nI c) U (nI w) n (nI b) one two a can = some (one', two', a', can') ∧ CB (fun s => exB (fun b' => decide (s = wsN (wbL w c G b' k 0 (fun j => G 0 j)) c)) (2 ^ k)) can' := by
  have hc := hu.1
  have hkc : k ≤ 12 := by have := oc_le (fun j => G 0 j) c; omega
  have hp := pow12 hkc
  intro n
  induction n with
  | zero => intro b one two a can h1 h2; omega
  | succ n ih =>
    intro b one two a can h1 h2 h3
    rw [lp_X6_layCan_62, l1, l31, i_shl (by omega)]
    by_cases e : b = 2 ^ k
    · subst e
      rw [if_pos (by rw [i_le (by omega) (by omega)]; omega)]
      exact ⟨one, two, a, can, rfl, h3⟩
    · rw [if_neg (by rw [i_le (by omega) (by omega)]; omega)]
      obtain ⟨a1, g1, g2⟩ := e_begins (a := a) hu
      have hB : LB c (fun j => G 0 j) := ⟨hc, fun i hi => hu.g0 hi⟩
      obtain ⟨one', two', a2, g3, g4, g5⟩ := e_lp_lay75 (b := b) hw hu (by omega) k FU 0 (fun j => G 0 j) one two a1 (by omega) (by rw [FU_eq]; omega) (by omega) g2 hB
      have g3 : lp_X6_layCan_75 (nI c) (nI w) U (nI b) FU 0 one two a1 = some (one', two', a2) := g3
      have hws : wsN (wbL w c G b k 0 (fun j => G 0 j)) c < 4096 := Nat.lt_of_lt_of_le (ws_lt _ c) (pow12 hc)
      rw [g1, bs, g3, bs]
      dsimp (config := { instances := true }) only
      rw [e_sampleNow g4 g5, bs, i_in (by omega), if_pos (decide_eq_true hws), i_cl (by omega), nI_add]
      refine ih (b + 1) _ _ _ _ (by omega) (by omega) (fun s hs => ?_)
      show (if s = wsN (wbL w c G b k 0 (fun j => G 0 j)) c then _ else can s) = bI (exB _ b || decide _)
      by_cases e2 : s = wsN (wbL w c G b k 0 (fun j => G 0 j)) c
      · rw [if_pos e2, decide_eq_true e2, Bool.or_true]
        decide
      · rw [if_neg e2, decide_eq_false e2, Bool.or_false]
        exact h3 s hs
/-- the samples that can be: the set of both -/
def canS (w c : Nat) (G : Nat → Nat → Nat) (s : Nat) : Bool := rchB w c G (ocN (fun j => G 0 j) c) (fun j => G 0 j) s
theorem e_layCan {w c : Nat} {G : Nat → Nat → Nat} {U : Nat → Int32} (hw : w < 5) (hu : UG c G U) (one two : Int32) (a can : Nat → Int32) :
    ∃ one' two' a' can', f_X6_layCan (nI c) (nI w) one two U a can = some (one', two', a', can') ∧ CB (canS w c G) can' := by
  have hc := hu.1
  have hB : LB c (fun j => G 0 j) := ⟨hc, fun i hi => hu.g0 hi⟩
  have hp := pow12 (show ocN (fun j => G 0 j) c ≤ 12 by have := oc_le (fun j => G 0 j) c; omega)
  obtain ⟨c1, e1, h1⟩ := e_lp_lay2 FU 0 can (by omega) (by rw [FU_eq]; omega) (fun j hj => by omega)
  obtain ⟨a1, e2, h2⟩ := e_begins (a := a) hu
  have e3 : lp_X6_layCan_30 (nI c) a1 FU 0 0 = some (nI (ocN (fun j => G 0 j) c)) := e_lp_lay30 h2 hB FU 0 (by omega) (by rw [FU_eq]; omega)
  obtain ⟨one', two', a', can', e4, h4⟩ := e_lp_lay62 hw hu rfl FU 0 one two a1 c1 (Nat.zero_le _) (by rw [FU_eq]; omega) h1
  rw [← l0] at e1 e4
  refine ⟨one', two', a', can', ?_, fun s hs => ?_⟩
  · unfold f_X6_layCan
    rw [e1, bs, e2, bs, e3, bs, e4, bs]
  · rw [h4 s hs]
    refine congrArg bI ?_
    show exB _ _ = canS w c G s
    have key := rch_iff (w := w) (c := c) (G := G) (ocN (fun j => G 0 j) c) 0 (fun j => G 0 j) 0 s (by decide)
    apply Bool.eq_iff_iff.mpr
    rw [exB_iff]
    unfold canS
    rw [key]
    constructor
    · rintro ⟨b, k1, k2⟩
      refine ⟨b, k1, ?_⟩
      rw [Nat.pow_zero, Nat.one_mul, Nat.zero_add]
      exact of_decide_eq_true k2
    · rintro ⟨b, k1, k2⟩
      rw [Nat.pow_zero, Nat.one_mul, Nat.zero_add] at k2
      exact ⟨b, k1, decide_eq_true k2⟩
/-- what is known in the class -/
def SB (P : Nat → Bool) (f : Nat → Int64) : Prop := ∀ s, s < 4096 → sb f s = P s
theorem e_explore0 {w c : Nat} {G : Nat → Nat → Nat} {F : Nat → Nat → Int32} (hw : w < 5) (hf : FG c G F) (ch u v : Int32) (a : Nat → Int32) (f : Nat → Int64) :
    ∃ u' v' a' f', j_X1_explore_20 f (nI c) F a u v (nI w) ch = some (u', v', a', ch, nI w, f') ∧ SB (canS w c G) f' := by
  have hc := hf.1
  have hB : LB c (fun j => G 0 j) := ⟨hc, fun i hi => hf.g0 hi⟩
  obtain ⟨f1, e1, h1⟩ := e_fill (f := f)
  obtain ⟨a1, e2, h2⟩ := e_begin (a := a) hf
  have hoc := oc_le (fun j => G 0 j) c
  obtain ⟨u', v', a', f', e3, _, h3⟩ := e_follow hw hf (ocN (fun j => G 0 j) c) 14 0 (fun j => G 0 j) u v a1 f1 (Nat.le_refl _) (by omega) (by omega) h2 hB
  have e3 : f_X1_follow 14 (nI c) F u v a1 f1 (nI w) 0 = some (u', v', a', f') := e3
  refine ⟨u', v', a', f', ?_, fun s hs => ?_⟩
  · unfold j_X1_explore_20
    rw [e1, bs, e2, bs, e3, bs]
  · rw [h3 s hs, h1 s hs, Bool.false_or]
    rfl
