/-! reading: the whole text -/
def nxu (u w : Nat) : Nat := u + if w = 5 then 1 else 0
/-- the sentences from a on, or where it fails -/
def tp (b : Nat → Nat) (t : Nat) : Nat → Nat → Nat → Sum Nat (List (Nat × List Nat))
  | 0, _, _ => .inr []
  | n + 1, u, a => if sk b t a < t then (match sn b t u (sk b t a) with
    | .inl p => .inl p
    | .inr p => match tp b t n (nxu u p.1) p.2.2 with
      | .inl e => .inl e
      | .inr l => .inr ((p.1, p.2.1) :: l)) else .inr []
/-- the class's rows hold the sentences l from the S-th on -/
def HL (S : Nat) (l : List (Nat × List Nat)) (vb ar : Nat → Int32) : Prop := ∀ j, j < l.length → vb (S + j) = nI (l.getD j (0, [])).1 ∧ ∀ i, i < nuN (l.getD j (0, [])).1 → ar (5 * (S + j) + i) = nI ((l.getD j (0, [])).2.getD i 0)
theorem nxu_le {b : Nat → Nat} {t u a : Nat} {p : Nat × List Nat × Nat} (h : SOK t u a p) (hu : u ≤ 12) : nxu u p.1 ≤ 12 := by
  unfold nxu
  by_cases g : p.1 = 5
  · have := h.2.1 g
    rw [if_pos g]; omega
  · rw [if_neg g]; omega
theorem nu_le5 : ∀ w, w < 13 → nuN w ≤ 5 := by decide
theorem e_lp_read {t : Nat} {b : Nat → Nat} {st : Nat → Int32} (ht : t ≤ 120) (hv : ∀ j, j < t → st j = nI (b j)) (hb : ∀ j, j < t → b j ≤ 127) :
    ∀ m n S u a vb ar, t < 4 * m + a → m < n → u ≤ 12 → a ≤ t → 4 * S ≤ a →
      (∀ p, tp b t m u a = .inl p → ∃ S' x1 x2 x3 x4, lp_X4_read_17 (nI t) st n (nI S) (nI S) (nI a) (nI u) vb ar = some (1, nI p, S', x1, x2, x3, x4)) ∧
      ∀ l, tp b t m u a = .inr l → ∃ x1 x2 vb' ar', lp_X4_read_17 (nI t) st n (nI S) (nI S) (nI a) (nI u) vb ar = some (0, 0, nI (S + l.length), x1, x2, vb', ar') ∧ HL S l vb' ar' ∧ S + l.length ≤ 30 ∧ (∀ j, j < S → vb' j = vb j) ∧ ∀ j, j < 5 * S → ar' j = ar j := by
  intro m
  induction m with
  | zero => intro n S u a vb ar h0 h1 h2 h3 h4; omega
  | succ m ih =>
    intro n S u a vb ar h0 h1 h2 h3 h4
    obtain ⟨n, rfl⟩ : ∃ n', n = n' + 1 := ⟨n - 1, by omega⟩
    have hs := sk_le b t a
    have hs2 := sk_ge (b := b) h3
    rw [lp_X4_read_17, if_neg (show ¬ 30 < nI S by rw [l30, i_lt (by omega) (by omega)]; omega), e_skipC ht hv hb h3, bs, tp]
    by_cases g : sk b t a < t
    · rw [if_pos g, if_pos (show nI (sk b t a) < nI t by rw [i_lt (by omega) (by omega)]; exact g)]
      obtain ⟨c1, c2⟩ := e_sentC (u := u) (a := sk b t a) (S := S) (vb := vb) (ar := ar) ht hv hb hs h2 (by omega)
      cases hsn : sn b t u (sk b t a) with
      | inl p =>
        obtain ⟨at', ar', k1⟩ := c1 p hsn
        have hp := (sn_ok (b := b) hs h2).2 p hsn
        refine ⟨fun p' q => ?_, fun l q => (by cases q)⟩
        cases q
        rw [k1, bs]
        dsimp (config := { instances := true }) only
        rw [if_neg (of_eq_false (i_m1 (show p < 2147483648 by omega)))]
        exact ⟨_, _, _, _, _, rfl⟩
      | inr p =>
        obtain ⟨ar', k1, k2, k3⟩ := c2 p hsn
        have hok := (sn_ok (b := b) hs h2).1 p hsn
        have hu' := nxu_le (b := b) hok h2
        obtain ⟨o1, o2, o3, o4, o5⟩ := hok
        have ihh := ih n (S + 1) (nxu u p.1) p.2.2 (upd vb S (nI p.1)) ar' (by omega) (by omega) hu' o4 (by omega)
        rw [k1, bs]
        dsimp (config := { instances := true }) only
        rw [if_pos rfl, show nI S + 1 = nI (S + 1) by rw [l1, nI_add]]
        cases htp : tp b t m (nxu u p.1) p.2.2 with
        | inl e =>
          refine ⟨fun p' q => ?_, fun l q => (by cases q)⟩
          cases q
          exact ihh.1 e htp
        | inr l =>
          refine ⟨fun p' q => (by cases q), fun l' q => ?_⟩
          cases q
          obtain ⟨x1, x2, vb', ar2, q1, q2, q3, q4, q5⟩ := ihh.2 l htp
          have hn5 := nu_le5 p.1 o1
          refine ⟨x1, x2, vb', ar2, ?_, ?_, ?_, ?_, ?_⟩
          · rw [show S + ((p.1, p.2.1) :: l).length = S + 1 + l.length by show S + (l.length + 1) = _; omega]
            exact q1
          · intro j hj
            cases j with
            | zero =>
              refine ⟨?_, fun i hi => ?_⟩
              · rw [Nat.add_zero, q4 S (by omega)]
                show (if S = S then nI p.1 else _) = nI p.1
                rw [if_pos rfl]
              · have hi : i < nuN p.1 := hi
                rw [Nat.add_zero, q5 (5 * S + i) (by omega)]
                exact k2 i hi
            | succ j =>
              have := q2 j (by show j < l.length; have : j + 1 < l.length + 1 := hj; omega)
              rw [show S + (j + 1) = S + 1 + j by omega]
              exact this
          · show S + (l.length + 1) ≤ 30
            omega
          · intro j hj
            rw [q4 j (by omega)]
            show (if j = S then nI p.1 else vb j) = vb j
            rw [if_neg (by omega)]
          · intro j hj
            rw [q5 j (by omega)]
            exact k3 j hj
    · rw [if_neg g, if_neg (show ¬ nI (sk b t a) < nI t by rw [i_lt (by omega) (by omega)]; exact g)]
      refine ⟨fun p q => (by cases q), fun l q => ?_⟩
      cases q
      refine ⟨_, _, vb, ar, rfl, fun j hj => ?_, ?_, fun j _ => rfl, fun j _ => rfl⟩
      · exact absurd hj (Nat.not_lt_zero j)
      · show S + 0 ≤ 30
        omega
