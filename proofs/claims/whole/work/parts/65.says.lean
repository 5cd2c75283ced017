/-! the class's read -/
theorem e_read {t c : Nat} {b : Nat → Nat} {st vb ar : Nat → Int32} (ht : t ≤ 120) (hv : ∀ j, j < t → st j = nI (b j)) (hb : ∀ j, j < t → b j ≤ 127) (hc : c ≤ 12) :
    (∀ p, tp b t 31 c 0 = .inl p → ∃ x1 x2 x3 x4 x5, f_X4_read (nI t) st vb ar (nI c) = some (nI p, x1, x2, x3, x4, x5)) ∧
    (∀ l, tp b t 31 c 0 = .inr l → l = [] → ∃ x1 x2 x3 x4 x5, f_X4_read (nI t) st vb ar (nI c) = some (nI t, x1, x2, x3, x4, x5)) ∧
    ∀ l, tp b t 31 c 0 = .inr l → l ≠ [] → ∃ x1 x2 vb' ar', f_X4_read (nI t) st vb ar (nI c) = some (-1, nI l.length, x1, x2, vb', ar') ∧ HL 0 l vb' ar' ∧ l.length ≤ 30 := by
  obtain ⟨k1, k2⟩ := e_lp_read ht hv hb 31 FU 0 c 0 vb ar (by omega) (by rw [FU_eq]; omega) hc (by omega) (by omega)
  unfold f_X4_read
  refine ⟨fun p q => ?_, fun l q e => ?_, fun l q e => ?_⟩
  · obtain ⟨S', x1, x2, x3, x4, h⟩ := k1 p q
    rw [← l0] at h
    rw [h, bs]
    exact ⟨_, _, _, _, _, rfl⟩
  · obtain ⟨x1, x2, vb', ar', h, _, _, _, _⟩ := k2 l q
    subst e
    rw [← l0] at h
    rw [h, bs]
    exact ⟨_, _, _, _, _, rfl⟩
  · obtain ⟨x1, x2, vb', ar', h, hH, hl, _, _⟩ := k2 l q
    rw [← l0] at h
    rw [Nat.zero_add] at h hl
    have hpos : 0 < l.length := List.length_pos_iff.mpr e
    rw [h, bs]
    refine ⟨x1, x2, vb', ar', ?_, hH, hl⟩
    dsimp (config := { instances := true }) only
    rw [if_pos rfl, if_neg (show ¬ nI l.length = 0 by rw [l0, i_eq (by omega) (by omega)]; omega)]
/-- the reference's first pass: nothing but the place and the numbers change -/
theorem e_pass0 {t : Nat} {b : Nat → Nat} {mt : Nat → Int32} (ht : t ≤ 120) (hv : ∀ j, j < t → mt j = nI (b j)) (hb : ∀ j, j < t → b j ≤ 127) (z1 z2 z3 z4 z5 z6 z7 z8 z9 z10 z11 z12 : Int32) (y1 y2 y3 y4 y5 : Nat → Int32) :
    ∀ m n r u a nu, t < 4 * m + a → m < n → u ≤ 12 → a ≤ t → sk b t a = a → a < t →
      (∀ p, tp b t m u a = .inl p → ∃ x nu', lp_X6_goesThrough_19 (nI t) mt 0 n (nI r) (nI u) 1 z1 z2 z3 z4 z5 z6 z7 z8 z9 z10 z11 z12 (nI a) y1 y2 y3 y4 y5 nu = some (0, x, z1, z2, z3, z4, z5, z6, z7, z8, z9, z10, z11, z12, nI p, y1, y2, y3, y4, y5, nu')) ∧
      ∀ l, tp b t m u a = .inr l → ∃ x nu', lp_X6_goesThrough_19 (nI t) mt 0 n (nI r) (nI u) 1 z1 z2 z3 z4 z5 z6 z7 z8 z9 z10 z11 z12 (nI a) y1 y2 y3 y4 y5 nu = some (1, nI (r + l.length), z1, z2, z3, z4, z5, z6, z7, z8, z9, z10, z11, z12, x, y1, y2, y3, y4, y5, nu') := by
  intro m
  induction m with
  | zero => intro n r u a nu h0 h1 h2 h3 h4 h5; omega
  | succ m ih =>
    intro n r u a nu h0 h1 h2 h3 h4 h5
    obtain ⟨n, rfl⟩ : ∃ n', n = n' + 1 := ⟨n - 1, by omega⟩
    obtain ⟨c1, c2⟩ := e_sentM (u := u) (nu := nu) ht hv hb h3 h2
    rw [h4] at c1 c2
    rw [lp_X6_goesThrough_19, if_neg (show ¬ (1 : Int32) = 0 by decide), tp, h4, if_pos h5]
    cases hsn : sn b t u a with
    | inl p =>
      obtain ⟨nu', k1⟩ := c1 p hsn
      refine ⟨fun p' q => ?_, fun l q => (by cases q)⟩
      cases q
      rw [k1, bs]
      exact ⟨_, nu', rfl⟩
    | inr p =>
      obtain ⟨nu', k1, _⟩ := c2 p hsn
      have hok := (sn_ok (b := b) h3 h2).1 p hsn
      have hu' := nxu_le (b := b) hok h2
      obtain ⟨o1, o2, o3, o4, o5⟩ := hok
      have huo := (uo_tab p.1 o1).1
      have e10 : (if nI (uo p.1) = 10 then some (1 : Int32) else some 0) = some (nI (if p.1 = 5 then 1 else 0)) := by
        simp only [uo10 p.1 o1]
        by_cases g : p.1 = 5
        · rw [if_pos g, if_pos g, l1]
        · rw [if_neg g, if_neg g, l0]
      have hs := sk_le b t p.2.2
      rw [k1, bs]
      dsimp (config := { instances := true }) only
      rw [if_neg (of_eq_false (i_m1 (show uo p.1 < 2147483648 by omega))), e10, bs, if_pos rfl, bs, e_skipM ht hv hb o4, bs, nI_add, show nI r + 1 = nI (r + 1) by rw [l1, nI_add]]
      by_cases g : sk b t p.2.2 < t
      · rw [if_neg (show ¬ nI t ≤ nI (sk b t p.2.2) by rw [i_le (by omega) (by omega)]; omega), bs]
        have hge := sk_ge (b := b) o4
        obtain ⟨i1, i2⟩ := ih n (r + 1) (nxu u p.1) (sk b t p.2.2) nu' (by omega) (by omega) hu' hs (sk_sk b t p.2.2) g
        have htp : tp b t m (nxu u p.1) (sk b t p.2.2) = tp b t m (nxu u p.1) p.2.2 := by
          cases m with
          | zero => rfl
          | succ m => rw [tp, tp, sk_sk]
        rw [htp] at i1 i2
        cases hx : tp b t m (nxu u p.1) p.2.2 with
        | inl e =>
          refine ⟨fun p' q => ?_, fun l q => (by cases q)⟩
          cases q
          exact i1 e hx
        | inr l =>
          refine ⟨fun p' q => (by cases q), fun l' q => ?_⟩
          cases q
          obtain ⟨x, nu2, k3⟩ := i2 l hx
          refine ⟨x, nu2, ?_⟩
          rw [show r + ((p.1, p.2.1) :: l).length = r + 1 + l.length by show r + (l.length + 1) = _; omega]
          exact k3
      · rw [if_pos (show nI t ≤ nI (sk b t p.2.2) by rw [i_le (by omega) (by omega)]; omega), bs]
        obtain ⟨n, rfl⟩ : ∃ n', n = n' + 1 := ⟨n - 1, by omega⟩
        have hx : tp b t m (nxu u p.1) p.2.2 = .inr [] := by
          cases m with
          | zero => rfl
          | succ m => rw [tp, if_neg g]
        rw [hx, lp_X6_goesThrough_19, if_pos rfl]
        refine ⟨fun p' q => (by cases q), fun l' q => ?_⟩
        cases q
        exact ⟨_, _, rfl⟩
