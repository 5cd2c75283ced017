/-! reading: the numbers of a sentence -/
def moN (w i u : Nat) : Int := if w = 11 then 999999 else if w = 5 then (mx i : Int) else if i = 0 then (u : Int) - 1 else (mx (w - 6) : Int)
def nuN (w : Nat) : Nat := if w < 5 then 0 else if w = 12 then 0 else if w = 5 then 5 else if w = 11 then 1 else 2
def dgN (w : Nat) : Nat := if w = 11 then 6 else 2
theorem nu_tab : ∀ w, w < 13 → f_X4_numbersBehind (nI w) = some (nI (nuN w)) ∧ f_X6_argsOf (nI (uo w)) = some (nI (nuN w)) ∧ nuN w ≤ 5 := by decide +kernel
theorem dg_tab : ∀ w, w < 13 → (if nI w = 11 then some (6 : Int32) else some 2) = some (nI (dgN w)) ∧ (if nI (uo w) = 11 then some (6 : Int32) else some 2) = some (nI (dgN w)) ∧ dgN w ≤ 6 := by decide +kernel
theorem e_fits1 {w v : Nat} (hw : w < 5) (hv : v < 2147483648) : f_X3_fits (nI w) (nI v) = some (bI (decide ((v : Int) ≤ (mx w : Int)))) := by
  have hm := mx_le w
  rcases e_fits hw (nI v) with ⟨h1, h2⟩ | ⟨x, hx, e, h1, h2⟩
  · rw [L0, in_nI hv (by omega) (by omega)] at h2
    have : ¬ v ≤ mx w := fun q => by rw [if_pos ⟨Nat.zero_le _, q⟩] at h2; cases h2
    rw [h1, decide_eq_false (by omega)]; rfl
  · rw [i_eq hv (by omega)] at e
    subst e
    rw [h1, decide_eq_true (by omega)]; rfl
theorem e_mayStand {w i u v : Nat} (hw : 5 ≤ w) (hw2 : w < 12) (hi : i < nuN w) (hu : u ≤ 12) (hv : v < 10000000) (hd : w = 11 → v < 1000000) : f_X4_mayStand (nI u) (nI w) (nI i) (nI v) = some (bI (decide ((v : Int) ≤ moN w i u))) := by
  have hn := (nu_tab w (by omega)).2.2
  unfold f_X4_mayStand moN
  by_cases h11 : w = 11
  · rw [if_pos (by rw [l11, i_eq (by omega) (by omega)]; exact h11), if_pos h11]
    have := hd h11
    unfold f_X5_isSeed
    rw [if_neg (by rw [l0, i_lt (by omega) (by omega)]; omega), if_neg (by rw [l999999, i_lt (by omega) (by omega)]; omega), bs, decide_eq_true (by omega)]; rfl
  · rw [if_neg (by rw [l11, i_eq (by omega) (by omega)]; exact h11), if_neg h11]
    by_cases h5 : w = 5
    · rw [if_pos (by rw [l5, i_eq (by omega) (by omega)]; exact h5), if_pos h5, e_fits1 (by omega) (by omega), bs]
    · rw [if_neg (by rw [l5, i_eq (by omega) (by omega)]; exact h5), if_neg h5]
      by_cases h0 : i = 0
      · rw [if_pos (by rw [l0, i_eq (by omega) (by omega)]; exact h0), if_pos h0]
        by_cases g : u ≤ v
        · rw [if_pos (by rw [i_le (by omega) (by omega)]; exact g), decide_eq_false (by omega)]; rfl
        · rw [if_neg (by rw [i_le (by omega) (by omega)]; exact g), decide_eq_true (by omega)]; rfl
      · rw [if_neg (by rw [l0, i_eq (by omega) (by omega)]; exact h0), if_neg h0, l6, i_sub (by omega), e_fits1 (by omega) (by omega), bs]
theorem e_mostAt {w i u : Nat} (hw : 5 ≤ w) (hw2 : w < 12) (hi : i < nuN w) (hu : u ≤ 12) : ∃ mo, f_X6_mostAt (nI (uo w)) (nI i) (nI u) = some mo ∧ mo.toInt = moN w i u := by
  have hn := (nu_tab w (by omega)).2.2
  unfold f_X6_mostAt moN
  by_cases h11 : w = 11
  · subst h11
    exact ⟨999999, rfl, (if_pos rfl).symm ▸ (by decide)⟩
  · rw [if_neg h11]
    by_cases h5 : w = 5
    · subst h5
      refine ⟨nI (mx i), ?_, ?_⟩
      · rw [if_neg (by decide), if_pos (by decide), e_mostOf (by omega), bs]
      · rw [if_pos rfl, i_ti (by have := mx_le i; omega)]
    · have e : uo w = w - 1 := by unfold uo; rw [if_neg (by omega), if_neg h5, if_pos (by omega)]
      rw [if_neg h5, e, if_neg (by rw [l11, i_eq (by omega) (by omega)]; omega), if_neg (by rw [l10, i_eq (by omega) (by omega)]; omega)]
      by_cases h0 : i = 0
      · subst h0
        refine ⟨nI u - 1, if_pos rfl, ?_⟩
        have h1 : (1 : Int32).toInt = 1 := rfl
        rw [if_pos rfl, fb_subI, i_ti (by omega), h1]
        · rw [i_ti (by omega), h1]; omega
        · rw [i_ti (by omega), h1]; omega
      · refine ⟨nI (mx (w - 6)), ?_, ?_⟩
        · rw [if_neg (by rw [l0, i_eq (by omega) (by omega)]; exact h0), l5, i_sub (by omega), show w - 1 - 5 = w - 6 by omega, e_mostOf (by omega), bs]
        · rw [if_neg h0, i_ti (by have := mx_le (w - 6); omega)]
/-- the numbers from the i-th on: are they there, where it ends (or where it fails), which they are -/
def nm (b : Nat → Nat) (t w u : Nat) : Nat → Nat → Nat → Bool × Nat × List Nat
  | 0, _, a => (true, a, [])
  | k + 1, i, a => match okN b t (sk b t a) (dgN w) (moN w i u) with
    | none => (false, sk b t a, [])
    | some v => ((nm b t w u k (i + 1) (de b t (sk b t a))).1, (nm b t w u k (i + 1) (de b t (sk b t a))).2.1, v :: (nm b t w u k (i + 1) (de b t (sk b t a))).2.2)
theorem ok_some {b : Nat → Nat} {t a d v : Nat} {mo : Int} (h : okN b t a d mo = some v) : rdN b t a d = some v ∧ (v : Int) ≤ mo := by
  unfold okN at h
  cases hr : rdN b t a d with
  | none => rw [hr] at h; cases h
  | some x =>
    rw [hr] at h
    have h : (if (x : Int) ≤ mo then some x else none) = some v := h
    by_cases g : (x : Int) ≤ mo
    · rw [if_pos g] at h; cases h; exact ⟨rfl, g⟩
    · rw [if_neg g] at h; cases h
theorem rd_lt {b : Nat → Nat} {t a d v : Nat} (ha : a ≤ t) (hd : d ≤ 6) (h : rdN b t a d = some v) : v < 1000000 := by
  unfold rdN at h
  by_cases g : 1 ≤ de b t a - a ∧ de b t a - a ≤ d
  · rw [if_pos g] at h
    cases h
    have h1 := dV_lt (b := b) (a := a) (de b t a - a) (fun i hi => de_in (t := t) (by omega))
    have h2 : 10 ^ (de b t a - a) ≤ 10 ^ 6 := Nat.pow_le_pow_right (by decide) (by omega)
    have h3 : 10 ^ 6 = 1000000 := by decide
    omega
  · rw [if_neg g] at h; cases h
theorem nu_5 : ∀ w, w < 13 → 0 < nuN w → 5 ≤ w ∧ w < 12 := by decide
theorem nm_le {b : Nat → Nat} {t w u : Nat} : ∀ k i a, a ≤ t → (nm b t w u k i a).2.1 ≤ t ∧ a ≤ (nm b t w u k i a).2.1
  | 0, _, a, h => ⟨h, Nat.le_refl _⟩
  | k + 1, i, a, h => by
    have hs := sk_le b t a
    have hs2 := sk_ge (b := b) h
    rw [nm]
    cases okN b t (sk b t a) (dgN w) (moN w i u) with
    | none => exact ⟨hs, hs2⟩
    | some v =>
      have h1 : sk b t a ≤ de b t (sk b t a) := nxt_from hs
      have h2 : de b t (sk b t a) ≤ t := nxt_le _ _ _
      have := nm_le k (i + 1) (de b t (sk b t a)) h2 (b := b) (w := w) (u := u)
      exact ⟨this.1, Nat.le_trans hs2 (Nat.le_trans h1 this.2)⟩
theorem e_lp_rs {t w u S : Nat} {b : Nat → Nat} {st : Nat → Int32} {x : Int32} (ht : t ≤ 120) (hv : ∀ j, j < t → st j = nI (b j)) (hb : ∀ j, j < t → b j ≤ 127) (hw : w < 13) (hu : u ≤ 12) (hS : S < 30) :
    ∀ k n i a ar, i + k = nuN w → k < n → a ≤ t → ∃ fl er at' ar', lp_X4_readSentence_42 (nI w, x) (nI t) st (nI u) (nI S) n (nI i) (nI a) ar = some (fl, er, at', ar') ∧
      ((nm b t w u k i a).1 = false → fl = 0 ∧ er = nI (nm b t w u k i a).2.1) ∧ ((nm b t w u k i a).1 = true → fl = 1 ∧ at' = nI (nm b t w u k i a).2.1 ∧ ∀ j, j < k → ar' (5 * S + i + j) = nI ((nm b t w u k i a).2.2.getD j 0)) ∧ ∀ j, j < 5 * S + i → ar' j = ar j := by
  have hn := nu_tab w hw
  have hdg := dg_tab w hw
  intro k
  induction k with
  | zero =>
    intro n i a ar h1 h2 h3
    obtain ⟨n, rfl⟩ : ∃ n', n = n' + 1 := ⟨n - 1, by omega⟩
    refine ⟨1, 0, nI a, ar, ?_, fun q => (by cases q), fun _ => ⟨rfl, rfl, fun j hj => (by omega)⟩, fun j _ => rfl⟩
    rw [lp_X4_readSentence_42]
    show Option.bind (f_X4_numbersBehind (nI w)) _ = _
    rw [hn.1, bs, if_pos (by rw [i_le (by omega) (by omega)]; omega)]
  | succ k ih =>
    intro n i a ar h1 h2 h3
    obtain ⟨n, rfl⟩ : ∃ n', n = n' + 1 := ⟨n - 1, by omega⟩
    have hw5 := nu_5 w hw (by omega)
    have hs := sk_le b t a
    have hde : de b t (sk b t a) ≤ t := nxt_le _ _ _
    obtain ⟨z, r1, r2, r3⟩ := e_readNumber ht hv hb hs hdg.2.2
    have hst : lp_X4_readSentence_42 (nI w, x) (nI t) st (nI u) (nI S) (n + 1) (nI i) (nI a) ar = if eO (rdN b t (sk b t a) (dgN w)) = -1 then some (0, nI (sk b t a), nI z, ar) else Option.bind (f_X4_mayStand (nI u) (nI w) (nI i) (eO (rdN b t (sk b t a) (dgN w)))) (fun (q12 : Int32) => if q12 = 0 then some (0, nI (sk b t a), nI z, ar) else lp_X4_readSentence_42 (nI w, x) (nI t) st (nI u) (nI S) n (nI (i + 1)) (nI z) (upd ar (5 * S + i) (eO (rdN b t (sk b t a) (dgN w))))) := by
      rw [lp_X4_readSentence_42]
      dsimp (config := { instances := true }) only
      rw [hn.1, bs, if_neg (show ¬ nI (nuN w) ≤ nI i by rw [i_le (by omega) (by omega)]; omega), e_skipC ht hv hb h3, bs, hdg.1, bs, r1, bs]
      dsimp (config := { instances := true }) only
      simp (disch := omega) only [l5, l1, pk_mul, nI_add, i_in, i_cl, d_t, if_pos]
      rw [show S * 5 + i = 5 * S + i by omega]
    rw [hst, nm]
    cases hr : rdN b t (sk b t a) (dgN w) with
    | none =>
      have hok : okN b t (sk b t a) (dgN w) (moN w i u) = none := by unfold okN; rw [hr]
      rw [hok]
      exact ⟨0, _, _, ar, if_pos rfl, fun _ => ⟨rfl, rfl⟩, fun q => (by cases q), fun j _ => rfl⟩
    | some v =>
      have hv6 := rd_lt hs hdg.2.2 hr
      have hok : okN b t (sk b t a) (dgN w) (moN w i u) = if (v : Int) ≤ moN w i u then some v else none := by unfold okN; rw [hr]
      have hz : z = de b t (sk b t a) := r2 (by rw [hr]; intro q; cases q)
      have e : eO (some v) = nI v := rfl
      rw [e, if_neg (of_eq_false (i_m1 (by omega))), e_mayStand hw5.1 hw5.2 (by omega) hu (by omega) (fun _ => hv6), bs, hok]
      simp only [bIv]
      by_cases g : (v : Int) ≤ moN w i u
      · rw [decide_eq_true g, if_neg (by decide), if_pos g, hz]
        obtain ⟨fl, er, at', ar', q1, q2, q3, q4⟩ := ih n (i + 1) (de b t (sk b t a)) (upd ar (5 * S + i) (nI v)) (by omega) (by omega) hde
        refine ⟨fl, er, at', ar', q1, q2, fun q => ?_, fun j hj => ?_⟩
        · obtain ⟨p1, p2, p3⟩ := q3 q
          refine ⟨p1, p2, fun j hj => ?_⟩
          cases j with
          | zero =>
            rw [Nat.add_zero, q4 (5 * S + i) (by omega)]
            show (if 5 * S + i = 5 * S + i then nI v else _) = nI v
            rw [if_pos rfl]
          | succ j =>
            have := p3 j (by omega)
            rw [show 5 * S + i + (j + 1) = 5 * S + (i + 1) + j by omega, this]
            rfl
        · rw [q4 j (by omega)]
          show (if j = 5 * S + i then nI v else ar j) = ar j
          rw [if_neg (by omega)]
      · rw [decide_eq_false g, if_pos rfl, if_neg g]
        exact ⟨0, _, _, ar, rfl, fun _ => ⟨rfl, rfl⟩, fun q => (by cases q), fun j _ => rfl⟩
theorem e_lp_rm {t w u : Nat} {b : Nat → Nat} {mt : Nat → Int32} {x : Int32} (ht : t ≤ 120) (hv : ∀ j, j < t → mt j = nI (b j)) (hb : ∀ j, j < t → b j ≤ 127) (hw : w < 13) (hu : u ≤ 12) :
    ∀ k n i a ar, i + k = nuN w → k + 1 < n → a ≤ t → ∃ ar', lp_X6_reads_48 (nI (uo w), x) (nI u) (nI t) mt n 1 (nI i) (nI a) ar = some (bI (nm b t w u k i a).1, nI (nm b t w u k i a).2.1, ar') ∧
      ((nm b t w u k i a).1 = true → ∀ j, j < k → ar' (i + j) = nI ((nm b t w u k i a).2.2.getD j 0)) ∧ ∀ j, j < i → ar' j = ar j := by
  have hn := nu_tab w hw
  have hdg := dg_tab w hw
  intro k
  induction k with
  | zero =>
    intro n i a ar h1 h2 h3
    obtain ⟨n, rfl⟩ : ∃ n', n = n' + 1 := ⟨n - 1, by omega⟩
    refine ⟨ar, ?_, fun _ j hj => (by omega), fun j _ => rfl⟩
    rw [lp_X6_reads_48, if_neg (by decide)]
    show Option.bind (f_X6_argsOf (nI (uo w))) _ = _
    rw [hn.2.1, bs, if_pos (by rw [i_le (by omega) (by omega)]; omega)]
    rfl
  | succ k ih =>
    intro n i a ar h1 h2 h3
    obtain ⟨n, rfl⟩ : ∃ n', n = n' + 1 := ⟨n - 1, by omega⟩
    have hw5 := nu_5 w hw (by omega)
    have hs := sk_le b t a
    have hde : de b t (sk b t a) ≤ t := nxt_le _ _ _
    obtain ⟨mo, m1, m2⟩ := e_mostAt (w := w) (i := i) (u := u) hw5.1 hw5.2 (by omega) hu
    have htn := e_takesNumber (mo := mo) ht hv hb h3 hdg.2.2
    rw [m2] at htn
    rw [lp_X6_reads_48, if_neg (by decide)]
    dsimp (config := { instances := true }) only
    rw [hn.2.1, bs, if_neg (show ¬ nI (nuN w) ≤ nI i by rw [i_le (by omega) (by omega)]; omega), hdg.2.1, bs, m1, bs, htn, bs]
    dsimp (config := { instances := true }) only
    rw [i_in (by omega), if_pos (show decide (i < 5) = true from decide_eq_true (by omega)), if_pos (show decide (i < 5) = true from decide_eq_true (by omega)), i_cl (by omega)]
    have hup : ∀ y : Int32, upd ar i y i = y := fun y => if_pos rfl
    rw [hup, show nI i + 1 = nI (i + 1) by rw [l1, nI_add], nm]
    cases hok : okN b t (sk b t a) (dgN w) (moN w i u) with
    | none =>
      obtain ⟨n, rfl⟩ : ∃ n', n = n' + 1 := ⟨n - 1, by omega⟩
      refine ⟨upd ar i (-1), ?_, fun q => (by cases q), fun j hj => if_neg (by omega)⟩
      rw [if_pos (show eO none = -1 from rfl), bs, if_pos rfl, lp_X6_reads_48, if_pos rfl]
      rfl
    | some v =>
      have hr := ok_some hok
      have hv6 := rd_lt hs hdg.2.2 hr.1
      have e : eO (some v) = nI v := rfl
      rw [e, if_neg (of_eq_false (i_m1 (by omega))), bs, if_neg (by intro q; cases q)]
      obtain ⟨ar', q1, q2, q3⟩ := ih n (i + 1) (de b t (sk b t a)) (upd ar i (nI v)) (by omega) (by omega) hde
      refine ⟨ar', q1, fun q j hj => ?_, fun j hj => ?_⟩
      · cases j with
        | zero =>
          rw [Nat.add_zero, q3 i (by omega), hup]
          rfl
        | succ j =>
          have := q2 q j (by omega)
          rw [show i + (j + 1) = i + 1 + j by omega, this]
          rfl
      · rw [q3 j (by omega)]
        exact if_neg (by omega)
