/-! reading: the reference's word -/
theorem vN_inj {b b2 : Nat → Nat} {a a2 : Nat} : ∀ k k2, (∀ i, i < k → 97 ≤ b (a + i) ∧ b (a + i) ≤ 122) → (∀ i, i < k2 → 97 ≤ b2 (a2 + i) ∧ b2 (a2 + i) ≤ 122) → vN b a k = vN b2 a2 k2 → k = k2 ∧ ∀ i, i < k → b (a + i) = b2 (a2 + i)
  | 0, 0, _, _, _ => ⟨rfl, fun i h => by omega⟩
  | 0, k2 + 1, _, h2, e => by
    exfalso
    have := h2 k2 (by omega)
    have e : 0 = 27 * vN b2 a2 k2 + (b2 (a2 + k2) - 96) := e
    omega
  | k + 1, 0, h1, _, e => by
    exfalso
    have := h1 k (by omega)
    have e : 27 * vN b a k + (b (a + k) - 96) = 0 := e
    omega
  | k + 1, k2 + 1, h1, h2, e => by
    have g1 := h1 k (by omega)
    have g2 := h2 k2 (by omega)
    have e : 27 * vN b a k + (b (a + k) - 96) = 27 * vN b2 a2 k2 + (b2 (a2 + k2) - 96) := e
    have ev : vN b a k = vN b2 a2 k2 := by omega
    obtain ⟨i1, i2⟩ := vN_inj k k2 (fun i hi => h1 i (by omega)) (fun i hi => h2 i (by omega)) ev
    subst i1
    refine ⟨rfl, fun i hi => ?_⟩
    by_cases ei : i = k
    · subst ei; omega
    · exact i2 i (by omega)
theorem vN_lt {b : Nat → Nat} {a : Nat} : ∀ k, (∀ i, i < k → 97 ≤ b (a + i) ∧ b (a + i) ≤ 122) → vN b a k < 27 ^ k
  | 0, _ => Nat.zero_lt_one
  | k + 1, h => by
    have g := h k (by omega)
    have := vN_lt k (fun i hi => h i (by omega))
    rw [vN, Nat.pow_succ]
    omega
theorem le_in {b : Nat → Nat} {t a i : Nat} (h : a + i < le b t a) : 97 ≤ b (a + i) ∧ b (a + i) ≤ 122 := by
  have := nxt_not (p := nl b) (c := t) (i := a) (j := a + i) (by omega) h
  unfold nl at this
  simpa using this
theorem le_at {b : Nat → Nat} {t a : Nat} (h : le b t a < t) : ¬ (97 ≤ b (le b t a) ∧ b (le b t a) ≤ 122) := by
  intro q
  have h2 : (!decide (97 ≤ b (le b t a) ∧ b (le b t a) ≤ 122)) = true := nxt_holds (p := nl b) h
  rw [decide_eq_true q] at h2
  cases h2
theorem e_lp_tw11 {t a : Nat} {b : Nat → Nat} {mt : Nat → Int32} (ht : t ≤ 120) (hv : ∀ j, j < t → mt j = nI (b j)) (hb : ∀ j, j < t → b j ≤ 127) (ha : a ≤ t) :
    ∀ n k, k ≤ min (le b t a - a) 8 → 8 < n + k → lp_X6_takesWord_11 (nI t) mt (nI a) n (nI (a + k)) (lN (vN b a k)) = some (nI (a + min (le b t a - a) 8), lN (vN b a (min (le b t a - a) 8))) := by
  have hge : a ≤ le b t a := nxt_from ha
  have hle : le b t a ≤ t := nxt_le _ _ _
  intro n
  induction n with
  | zero => intro k h1 h2; omega
  | succ n ih =>
    intro k h1 h2
    have hi := e_isByte (i := a + k) (lo := 97) (hi := 122) ht hv hb (by omega) (by omega) (by omega)
    rw [lp_X6_takesWord_11, l97, l122, hi, bs]
    simp only [bIv]
    by_cases g : a + k < le b t a
    · have hl := le_in g
      rw [if_neg (by rw [decide_eq_true (show a + k < t ∧ 97 ≤ b (a + k) ∧ b (a + k) ≤ 122 from ⟨by omega, hl⟩)]; decide), i_sub (by omega), show a + k - a = k by omega]
      by_cases g8 : 8 ≤ k
      · rw [if_pos (by rw [l8, i_le (by omega) (by omega)]; omega), show k = min (le b t a - a) 8 by omega]
      · rw [if_neg (by rw [l8, i_le (by omega) (by omega)]; omega), i_in (by omega), if_pos (decide_eq_true (by omega)), i_cl (by omega), hv (a + k) (by omega)]
        have e27 : f_X6_by27 (lN (vN b a k)) (nI (b (a + k))) = some (lN (vN b a (k + 1))) := by
          unfold f_X6_by27
          have x27 : (27 : Int64) = lN 27 := rfl
          have x97 : (97 : Int64) = lN 97 := rfl
          have x1 : (1 : Int64) = lN 1 := rfl
          have xw : (nI (b (a + k))).toInt64 = lN (b (a + k)) := by
            apply Int64.toInt_inj.mp
            rw [Int32.toInt_toInt64, i_ti (by omega), l_ti (by omega)]
          rw [if_neg (by rw [l0, i_eq (by omega) (by omega)]; omega), x27, x97, x1, xw, lN_mul, lN_add, lN_sub (by omega), lN_add, vN]
          congr 2
          omega
        rw [e27, bs, show nI (a + k) + 1 = nI (a + (k + 1)) by rw [l1, nI_add, Nat.add_assoc]]
        exact ih (k + 1) (by omega) (by omega)
    · have hk : a + k = le b t a := by omega
      have hno : decide (a + k < t ∧ 97 ≤ b (a + k) ∧ b (a + k) ≤ 122) = false := by
        apply decide_eq_false
        rintro ⟨q1, q2⟩
        rw [hk] at q1 q2
        exact le_at q1 q2
      rw [if_pos hno, show k = min (le b t a - a) 8 by omega]
/-- the class's word number as the reference's -/
def uo (w : Nat) : Nat := if w < 5 then w else if w = 5 then 10 else if w < 11 then w - 1 else w
theorem cod_tab : ∀ m, m < 13 → cod m < 13 ∧ uo (cod m) = m := by decide
theorem uo_tab : ∀ w, w < 13 → uo w < 13 ∧ cod (uo w) = w := by decide
theorem wd_inj : ∀ w, w < 13 → ∀ v, v < 13 → wd w = wd v → w = v := by decide +kernel
theorem isW_list {b : Nat → Nat} {a e w : Nat} (h : isW b a e w = true) : wd w = (List.range (e - a)).map (fun i => b (a + i)) := by
  have h := of_decide_eq_true h
  apply List.ext_getElem
  · rw [h.1]; simp
  · intro i h1 h2
    have := h.2 i h1
    rw [List.getD_eq_getElem?_getD, List.getElem?_eq_getElem h1] at this
    simp at this ⊢
    exact this.symm
theorem isW_one {b : Nat → Nat} {a e w v : Nat} (hw : w < 13) (hv : v < 13) (h1 : isW b a e w = true) (h2 : isW b a e v = true) : w = v := wd_inj w hw v hv (by rw [isW_list h1, isW_list h2])
/-- the last for which p holds -/
def lm (p : Nat → Bool) : Nat → Option Nat
  | 0 => none
  | v + 1 => if p v = true then some v else lm p v
theorem lm_spec {p : Nat → Bool} : ∀ n, (lm p n = none ∧ ∀ v, v < n → p v = false) ∨ ∃ v, lm p n = some v ∧ v < n ∧ p v = true
  | 0 => Or.inl ⟨rfl, fun v h => by omega⟩
  | n + 1 => by
    rw [lm]
    cases hp : p n with
    | true => right; exact ⟨n, if_pos rfl, by omega, hp⟩
    | false =>
      rw [if_neg (by decide)]
      rcases lm_spec (p := p) n with ⟨h1, h2⟩ | ⟨v, h1, h2, h3⟩
      · left
        refine ⟨h1, fun v hv => ?_⟩
        by_cases e : v = n
        · subst e; exact hp
        · exact h2 v (by omega)
      · right; exact ⟨v, h1, by omega, h3⟩
theorem mm_is {t a v : Nat} {b : Nat → Nat} (ha : a ≤ t) (hv : v < 13) :
    (decide (vW (cod v) = vN b a (min (le b t a - a) 8)) && !decide (a + min (le b t a - a) 8 < t ∧ 97 ≤ b (a + min (le b t a - a) 8) ∧ b (a + min (le b t a - a) 8) ≤ 122)) = isW b a (le b t a) (cod v) := by
  have hge : a ≤ le b t a := nxt_from ha
  have hle : le b t a ≤ t := nxt_le _ _ _
  have hc := (cod_tab v hv).1
  obtain ⟨_, h2, h3⟩ := wd_len (cod v) hc
  by_cases g : le b t a - a ≤ 8
  · rw [Nat.min_eq_left g, show a + (le b t a - a) = le b t a by omega]
    have hno : decide (le b t a < t ∧ 97 ≤ b (le b t a) ∧ b (le b t a) ≤ 122) = false := by
      apply decide_eq_false
      rintro ⟨q1, q2⟩
      exact le_at q1 q2
    rw [hno]
    show (decide _ && true) = _
    rw [Bool.and_true]
    unfold isW
    apply decide_eq_decide.mpr
    constructor
    · intro q
      obtain ⟨q1, q2⟩ := vN_inj (b := fun i => (wd (cod v)).getD i 0) (a := 0) (b2 := b) (a2 := a) (wd (cod v)).length (le b t a - a) (fun i hi => by rw [Nat.zero_add]; exact wd_rng (cod v) hc i hi) (fun i hi => le_in (t := t) (by omega)) q
      refine ⟨q1, fun i hi => ?_⟩
      have := q2 i hi
      rw [Nat.zero_add] at this
      exact this.symm
    · rintro ⟨q1, q2⟩
      unfold vW
      rw [← q1]
      have : ∀ k, k ≤ (wd (cod v)).length → vN (fun i => (wd (cod v)).getD i 0) 0 k = vN b a k := by
        intro k
        induction k with
        | zero => intro _; rfl
        | succ k ih =>
          intro hk
          rw [vN, vN, ih (by omega), q2 k (by omega), Nat.zero_add]
      exact this _ (Nat.le_refl _)
  · rw [Nat.min_eq_right (by omega)]
    have hl := le_in (b := b) (t := t) (a := a) (i := 8) (by omega)
    rw [decide_eq_true (show a + 8 < t ∧ 97 ≤ b (a + 8) ∧ b (a + 8) ≤ 122 from ⟨by omega, hl⟩)]
    show (decide _ && false) = _
    rw [Bool.and_false]
    unfold isW
    rw [decide_eq_false (fun q => by have := q.1; omega)]
theorem e_lp_tw57 {t a : Nat} {b : Nat → Nat} {mt : Nat → Int32} (ht : t ≤ 120) (hv : ∀ j, j < t → mt j = nI (b j)) (hb : ∀ j, j < t → b j ≤ 127) (ha : a ≤ t) :
    ∀ n v, v ≤ 13 → 13 < n + v → lp_X6_takesWord_57 (nI (a + min (le b t a - a) 8), lN (vN b a (min (le b t a - a) 8))) (nI t) mt n (eO (lm (fun m => isW b a (le b t a) (cod m)) v)) (nI v) = some (eO (lm (fun m => isW b a (le b t a) (cod m)) 13)) := by
  have hge : a ≤ le b t a := nxt_from ha
  have hle : le b t a ≤ t := nxt_le _ _ _
  have hK : vN b a (min (le b t a - a) 8) < 1000000000000 := by
    have h1 := vN_lt (b := b) (a := a) (min (le b t a - a) 8) (fun i hi => le_in (t := t) (by omega))
    have h2 : 27 ^ (min (le b t a - a) 8) ≤ 27 ^ 8 := Nat.pow_le_pow_right (by decide) (by omega)
    have h3 : 27 ^ 8 = 282429536481 := by decide
    omega
  have hW : ∀ v, v < 13 → vW (cod v) < 1000000000000 := by decide +kernel
  intro n
  induction n with
  | zero => intro v h1 h2; omega
  | succ n ih =>
    intro v h1 h2
    rw [lp_X6_takesWord_57]
    by_cases g : v = 13
    · subst g
      rw [if_pos (by rw [l13, i_le (by omega) (by omega)]; omega)]
    · have hv13 : v < 13 := by omega
      have hi := e_isByte (i := a + min (le b t a - a) 8) (lo := 97) (hi := 122) ht hv hb (by omega) (by omega) (by omega)
      have hmm := mm_is (b := b) (t := t) (a := a) ha hv13
      have ihv := ih (v + 1) (by omega) (by omega)
      rw [lm] at ihv
      rw [if_neg (by rw [l13, i_le (by omega) (by omega)]; omega), let_tab v hv13, bs]
      dsimp (config := { instances := true }) only
      rw [l97, l122, hi, bs, show nI v + 1 = nI (v + 1) by rw [l1, nI_add]]
      simp only [c_eq, bIv]
      have eL : (lN (vW (cod v)) = lN (vN b a (min (le b t a - a) 8))) = (vW (cod v) = vN b a (min (le b t a - a) 8)) := propext (pk_lEQ (by have := hW v hv13; omega) (by omega))
      simp only [eL]
      by_cases g1 : vW (cod v) = vN b a (min (le b t a - a) 8)
      · rw [decide_eq_true g1, Bool.true_and] at hmm
        rw [if_pos g1]
        cases hd : decide (a + min (le b t a - a) 8 < t ∧ 97 ≤ b (a + min (le b t a - a) 8) ∧ b (a + min (le b t a - a) 8) ≤ 122) with
        | false =>
          rw [hd] at hmm
          have hmm : true = isW b a (le b t a) (cod v) := hmm
          rw [if_pos rfl, bs]
          rw [← hmm, if_pos rfl] at ihv
          exact ihv
        | true =>
          rw [hd] at hmm
          have hmm : false = isW b a (le b t a) (cod v) := hmm
          rw [if_neg (by decide), bs]
          rw [← hmm, if_neg (by decide)] at ihv
          exact ihv
      · rw [decide_eq_false g1, Bool.false_and] at hmm
        rw [if_neg g1, bs]
        rw [← hmm, if_neg (by decide)] at ihv
        exact ihv
/-- the word that stands at a, by the class's number -/
def wcl (b : Nat → Nat) (t a : Nat) : Option Nat := if nxt (isW b a (le b t a)) 13 0 < 13 then some (nxt (isW b a (le b t a)) 13 0) else none
theorem wcl_eN {b : Nat → Nat} {t a : Nat} : eN 13 (nxt (isW b a (le b t a)) 13 0) = eO (wcl b t a) := by
  unfold eN wcl
  by_cases g : nxt (isW b a (le b t a)) 13 0 < 13
  · rw [if_pos g, if_pos g]; rfl
  · rw [if_neg g, if_neg g]; rfl
theorem wcl_lm {b : Nat → Nat} {t a : Nat} : lm (fun m => isW b a (le b t a) (cod m)) 13 = (wcl b t a).map uo := by
  unfold wcl
  by_cases g : nxt (isW b a (le b t a)) 13 0 < 13
  · rw [if_pos g]
    have hp := nxt_holds g
    have hu := uo_tab _ g
    rcases lm_spec (p := fun m => isW b a (le b t a) (cod m)) 13 with ⟨h1, h2⟩ | ⟨v, h1, h2, h3⟩
    · exfalso
      have := h2 (uo (nxt (isW b a (le b t a)) 13 0)) hu.1
      rw [show cod (uo (nxt (isW b a (le b t a)) 13 0)) = nxt (isW b a (le b t a)) 13 0 from hu.2, hp] at this
      cases this
    · have hc := cod_tab v h2
      have := isW_one hc.1 g h3 hp
      rw [h1, Option.map_some, ← this, hc.2]
  · rw [if_neg g]
    have hn : nxt (isW b a (le b t a)) 13 0 = 13 := by have := nxt_le (isW b a (le b t a)) 13 0; omega
    rcases lm_spec (p := fun m => isW b a (le b t a) (cod m)) 13 with ⟨h1, h2⟩ | ⟨v, h1, h2, h3⟩
    · rw [h1]; rfl
    · exfalso
      have hc := cod_tab v h2
      have := nxt_not (p := isW b a (le b t a)) (c := 13) (i := 0) (j := cod v) (Nat.zero_le _) (by omega)
      rw [this] at h3
      cases h3
theorem e_takesWord {t a0 : Nat} {b : Nat → Nat} {mt : Nat → Int32} (ht : t ≤ 120) (hv : ∀ j, j < t → mt j = nI (b j)) (hb : ∀ j, j < t → b j ≤ 127) (ha : a0 ≤ t) :
    f_X6_takesWord (nI t) (nI a0) mt = some (eO ((wcl b t (sk b t a0)).map uo), nI (if wcl b t (sk b t a0) = none then sk b t a0 else le b t (sk b t a0))) := by
  have hs := sk_le b t a0
  have hge : sk b t a0 ≤ le b t (sk b t a0) := nxt_from hs
  have hle : le b t (sk b t a0) ≤ t := nxt_le _ _ _
  have k1 : lp_X6_takesWord_11 (nI t) mt (nI (sk b t a0)) FU (nI (sk b t a0)) 0 = _ := e_lp_tw11 ht hv hb hs FU 0 (by omega) (by rw [FU_eq]; omega)
  have k2 : lp_X6_takesWord_57 _ (nI t) mt FU (-1) 0 = _ := e_lp_tw57 ht hv hb hs FU 0 (by omega) (by rw [FU_eq]; omega)
  unfold f_X6_takesWord
  rw [e_skipM ht hv hb ha, bs, k1, bs, k2, bs, wcl_lm]
  cases hw : wcl b t (sk b t a0) with
  | none =>
    rw [if_pos (show eO (Option.map uo none) = -1 from rfl), if_pos rfl, bs]
  | some w =>
    have hw13 : w < 13 ∧ isW b (sk b t a0) (le b t (sk b t a0)) w = true := by
      unfold wcl at hw
      by_cases g : nxt (isW b (sk b t a0) (le b t (sk b t a0))) 13 0 < 13
      · rw [if_pos g] at hw
        cases hw
        exact ⟨g, nxt_holds g⟩
      · rw [if_neg g] at hw; cases hw
    have hu := uo_tab w hw13.1
    have hlen := (wd_len w hw13.1).2
    have hW := of_decide_eq_true hw13.2
    rw [if_neg (show ¬ eO (Option.map uo (some w)) = -1 from of_eq_false (i_m1 (show uo w < 2147483648 by omega))), if_neg (by intro q; cases q), bs]
    show some (_, nI (sk b t a0 + min (le b t (sk b t a0) - sk b t a0) 8)) = _
    rw [Nat.min_eq_left (by omega), show sk b t a0 + (le b t (sk b t a0) - sk b t a0) = le b t (sk b t a0) by omega]
