/-! can, many, sizes, least: what is known is kept -/
/-- what the class keeps is right, if it still holds -/
def CV (c : Nat) (G : Nat → Nat → Nat) (C : Nat) (ch kc km : Int32) (f : Nat → Int64) : Prop :=
  ch = nI C ∧ C < 1000000000 ∧ (kc = -1 ∨ ∃ K, K ≤ C ∧ kc = nI K) ∧ ∀ w, w < 5 → kc = ch → km = nI w → SB (canS w c G) f
/-- a change makes what is kept old -/
theorem CV.chg {c c' C d : Nat} {G G' : Nat → Nat → Nat} {ch kc km : Int32} {f : Nat → Int64} (h : CV c G C ch kc km f) (hd : 0 < d) (hb : C + d < 1000000000) : CV c' G' (C + d) (ch + nI d) kc km f := by
  obtain ⟨rfl, h1, h2, h3⟩ := h
  refine ⟨by rw [nI_add], hb, ?_, fun w hw e => ?_⟩
  · rcases h2 with h2 | ⟨K, k1, k2⟩
    · exact Or.inl h2
    · exact Or.inr ⟨K, by omega, k2⟩
  · exfalso
    rw [nI_add] at e
    rcases h2 with h2 | ⟨K, k1, k2⟩
    · rw [h2] at e
      exact (of_eq_false (i_m1' (show C + d < 2147483648 by omega))) e
    · rw [k2, i_eq (by omega) (by omega)] at e
      omega
theorem CV.same {c C : Nat} {G : Nat → Nat → Nat} {ch kc km : Int32} {f : Nat → Int64} (h : CV c G C ch kc km f) : CV c G (C + 0) (ch + nI 0) kc km f := by
  have : ch + nI 0 = ch := by rw [← l0]; exact Int32.add_zero ch
  rw [this]
  exact h
theorem e_explore {w c C : Nat} {G : Nat → Nat → Nat} {F : Nat → Nat → Int32} {ch kc km : Int32} {f : Nat → Int64} (hw : w < 5) (hf : FG c G F) (h : CV c G C ch kc km f) (u v : Int32) (a : Nat → Int32) :
    ∃ u' v' a' kc' km' f', f_X1_explore (nI c) ch F u v a kc km f (nI w) = some (u', v', a', kc', km', f') ∧ SB (canS w c G) f' ∧ CV c G C ch kc' km' f' := by
  obtain ⟨u', v', a', f', e, hS⟩ := e_explore0 hw hf ch u v a f
  have hnew : CV c G C ch ch (nI w) f' := ⟨h.1, h.2.1, Or.inr ⟨C, Nat.le_refl _, h.1⟩, fun w' hw' _ e' => by
    rw [i_eq (by omega) (by omega)] at e'
    rw [← e']; exact hS⟩
  unfold f_X1_explore
  by_cases g1 : kc = ch
  · rw [if_pos g1]
    by_cases g2 : km = nI w
    · rw [if_pos g2]
      exact ⟨u, v, a, kc, km, f, rfl, h.2.2.2 w hw g1 g2, h⟩
    · rw [if_neg g2]
      exact ⟨u', v', a', ch, nI w, f', e, hS, hnew⟩
  · rw [if_neg g1]
    exact ⟨u', v', a', ch, nI w, f', e, hS, hnew⟩
theorem bIv (b : Bool) : (bI b = 0) = (b = false) := bI0 b
/-- has one with these, both -/
theorem e_lp_hasWith {P : Nat → Bool} {f : Nat → Int64} (h : SB P f) (a : Int32) :
    ∀ n i, i ≤ 4096 → 4096 < n + i → (∃ r, lp_X1_hasWith_2 a f n (nI i) = some r ∧ (r = 0 ↔ ∃ s, i ≤ s ∧ s < 4096 ∧ (nI s &&& a) = a ∧ P s = true)) := by
  intro n
  induction n with
  | zero => intro i h1 h2; omega
  | succ n ih =>
    intro i h1 h2
    rw [lp_X1_hasWith_2]
    by_cases e : i = 4096
    · subst e
      rw [if_pos (by rw [l4096, i_le (by omega) (by omega)]; omega)]
      exact ⟨1, rfl, ⟨fun q => (by cases q), fun ⟨s, k1, k2, _⟩ => (by omega)⟩⟩
    · rw [if_neg (by rw [l4096, i_le (by omega) (by omega)]; omega), e_seen (show i < 4096 by omega), h i (by omega), bs, l1, nI_add]
      obtain ⟨r, ih1, ih2⟩ := ih (i + 1) (by omega) (by omega)
      have skip : ¬ ((nI i &&& a) = a ∧ P i = true) → (r = 0 ↔ ∃ s, i ≤ s ∧ s < 4096 ∧ (nI s &&& a) = a ∧ P s = true) := fun hn => by
        rw [ih2]
        constructor
        · rintro ⟨s, k1, k2, k3⟩; exact ⟨s, by omega, k2, k3⟩
        · rintro ⟨s, k1, k2, k3⟩
          by_cases es : s = i
          · subst es; exact absurd k3 hn
          · exact ⟨s, by omega, k2, k3⟩
      by_cases g : (nI i &&& a) = a
      · rw [if_pos g]
        simp only [bIv]
        cases hP : P i with
        | false =>
          rw [if_pos rfl]
          exact ⟨r, ih1, skip (fun q => by rw [hP] at q; cases q.2)⟩
        | true =>
          rw [if_neg (by decide)]
          exact ⟨0, rfl, ⟨fun _ => ⟨i, Nat.le_refl _, by omega, g, hP⟩, fun _ => rfl⟩⟩
      · rw [if_neg g]
        exact ⟨r, ih1, skip (fun q => g q.1)⟩
theorem e_lp_can {P : Nat → Bool} {q : Int32 × Int32 × (Nat → Int32) × (Nat → Int32)} (h : CB P q.2.2.2) (a0 a1 : Int32) :
    ∀ n i b, i ≤ 4096 → 4096 < n + i → ∃ r, lp_X6_can_41 q a0 a1 n (bI b) (nI i) = some (bI r) ∧ (r = true ↔ b = true ∨ ∃ s, i ≤ s ∧ s < 4096 ∧ (nI s &&& ((1 <<< (a0 &&& 31)) ||| (1 <<< (a1 &&& 31)))) = ((1 <<< (a0 &&& 31)) ||| (1 <<< (a1 &&& 31))) ∧ P s = true) := by
  intro n
  induction n with
  | zero => intro i b h1 h2; omega
  | succ n ih =>
    intro i b h1 h2
    rw [lp_X6_can_41]
    by_cases e : i = 4096
    · subst e
      rw [if_pos (by rw [l4096, i_le (by omega) (by omega)]; omega)]
      exact ⟨b, rfl, ⟨fun q => Or.inl q, fun q => q.elim id (fun ⟨s, k1, k2, _⟩ => by omega)⟩⟩
    · rw [if_neg (by rw [l4096, i_le (by omega) (by omega)]; omega), i_in (by omega), if_pos (show decide (i < 4096) = true from decide_eq_true (by omega)), i_cl (by omega), h i (by omega)]
      simp only [bIv]
      have i1 : nI i + 1 = nI (i + 1) := by rw [l1, nI_add]
      rw [i1]
      cases hb : b with
      | true =>
        rw [if_neg (by decide), bs]
        obtain ⟨r, k1, k2⟩ := ih (i + 1) true (by omega) (by omega)
        refine ⟨r, k1, ?_⟩
        rw [k2]
        exact ⟨fun _ => Or.inl rfl, fun _ => Or.inl rfl⟩
      | false =>
        rw [if_pos rfl]
        have next : ∀ b', (b' = true ↔ (nI i &&& ((1 <<< (a0 &&& 31)) ||| (1 <<< (a1 &&& 31)))) = ((1 <<< (a0 &&& 31)) ||| (1 <<< (a1 &&& 31))) ∧ P i = true) → ∃ r, lp_X6_can_41 q a0 a1 n (bI b') (nI (i + 1)) = some (bI r) ∧ (r = true ↔ false = true ∨ ∃ s, i ≤ s ∧ s < 4096 ∧ (nI s &&& ((1 <<< (a0 &&& 31)) ||| (1 <<< (a1 &&& 31)))) = ((1 <<< (a0 &&& 31)) ||| (1 <<< (a1 &&& 31))) ∧ P s = true) := fun b' hb' => by
          obtain ⟨r, k1, k2⟩ := ih (i + 1) b' (by omega) (by omega)
          refine ⟨r, k1, ?_⟩
          rw [k2, hb']
          constructor
          · rintro (k | ⟨s, j1, j2, j3⟩)
            · exact Or.inr ⟨i, Nat.le_refl _, by omega, k⟩
            · exact Or.inr ⟨s, by omega, j2, j3⟩
          · rintro (k | ⟨s, j1, j2, j3⟩)
            · cases k
            · by_cases es : s = i
              · subst es; exact Or.inl j3
              · exact Or.inr ⟨s, by omega, j2, j3⟩
        cases hP : P i with
        | false =>
          rw [if_pos rfl, bs]
          exact next false ⟨fun q => (by cases q), fun q => by rw [hP] at q; cases q.2⟩
        | true =>
          rw [if_neg (by decide)]
          by_cases g : (nI i &&& ((1 <<< (a0 &&& 31)) ||| (1 <<< (a1 &&& 31)))) = ((1 <<< (a0 &&& 31)) ||| (1 <<< (a1 &&& 31)))
          · rw [if_pos g, bs]
            exact next true ⟨fun _ => ⟨g, hP⟩, fun _ => rfl⟩
          · rw [if_neg g, bs]
            exact next false ⟨fun q => (by cases q), fun q => absurd q.1 g⟩
theorem e_can {w c C : Nat} {G : Nat → Nat → Nat} {rc mn xb xf ch kc km : Int32} {F : Nat → Nat → Int32} {U q : Nat → Int32} {f : Nat → Int64} (hw : w < 5) (hu : UR c G rc F mn U) (hq : RQ xb xf q) (hk : CV c G C ch kc km f) (u v one two a0 a1 : Int32) (a ml can : Nat → Int32) :
    ∃ r xb' xf' q' u' v' a' kc' km' f' one' two' ml' can', f_X5_can (nI w) xb xf rc ch F u v a kc km f a0 a1 = some (r, xb', xf', u', v', a', kc', km', f') ∧ f_X6_can mn (nI w) one two U q ml can a0 a1 = some (r, one', two', q', ml', can') ∧ RQ xb' xf' q' ∧ CV c G C ch kc' km' f' := by
  have hF := hu.F
  have hU := hu.U
  obtain ⟨hc, rfl, rfl, _⟩ := hu
  rcases e_unit hc a0 with ⟨h1, h2⟩ | ⟨u0, huc, rfl, h1, h2⟩
  · refine ⟨-2, xb + 1, xf, _, u, v, a, kc, km, f, one, two, ml, can, ?_, ?_, hq.bad, hk⟩
    · unfold f_X5_can; rw [h1]; rfl
    · unfold f_X6_can; rw [h2]; rfl
  rcases e_unit hc a1 with ⟨k1, k2⟩ | ⟨v0, hvc, rfl, k1, k2⟩
  · refine ⟨-2, xb + 1, xf, _, u, v, a, kc, km, f, one, two, ml, can, ?_, ?_, hq.bad, hk⟩
    · unfold f_X5_can; rw [h1, bs, if_neg (by decide), k1]; rfl
    · unfold f_X6_can; rw [h2, bs, if_neg (by decide), k2]; rfl
  obtain ⟨u', v', a', kc', km', f', e1, hS, hk'⟩ := e_explore hw hF hk u v a
  obtain ⟨one', two', ml', can', e2, hC⟩ := e_layCan hw hU one two ml can
  obtain ⟨r1, e3, hr1⟩ := e_lp_hasWith hS ((1 <<< (nI u0 &&& 31)) ||| (1 <<< (nI v0 &&& 31))) FU 0 (by omega) (by rw [FU_eq]; omega)
  obtain ⟨r2, e4, hr2⟩ := e_lp_can (q := (one', two', ml', can')) hC (nI u0) (nI v0) FU 0 false (by omega) (by rw [FU_eq]; omega)
  have e3 : lp_X1_hasWith_2 ((1 <<< (nI u0 &&& 31)) ||| (1 <<< (nI v0 &&& 31))) f' FU 0 = some r1 := e3
  have e4 : lp_X6_can_41 (one', two', ml', can') (nI u0) (nI v0) FU 0 0 = some (bI r2) := e4
  refine ⟨bI r2, xb, xf, q, u', v', a', kc', km', f', one', two', ml', can', ?_, ?_, hq, hk'⟩
  · unfold f_X5_can f_X1_hasWith
    rw [h1, bs, if_neg (by decide), k1, bs, if_neg (by decide), e1, bs]
    dsimp (config := { instances := true }) only
    rw [e3, bs]
    by_cases g : r1 = 0
    · have : r2 = true := hr2.mpr (Or.inr (hr1.mp g))
      rw [if_pos g, this]; rfl
    · have : r2 = false := by
        cases hr : r2 with
        | false => rfl
        | true =>
          rw [hr] at hr2
          rcases hr2.mp rfl with z | z
          · cases z
          · exact absurd (hr1.mpr z) g
      rw [if_neg g, this]; rfl
  · unfold f_X6_can
    rw [h2, bs, if_neg (by decide), k2, bs, if_neg (by decide), e2, bs, e4, bs]
    cases r2 <;> rfl
theorem e_lp_many {P : Nat → Bool} {q : Int32 × Int32 × (Nat → Int32) × (Nat → Int32)} (h : CB P q.2.2.2) :
    ∀ n i, i ≤ 4096 → 4096 < n + i → lp_X6_many_8 q n (nI (fb_ct P i)) (nI i) = some (nI (fb_ct P 4096)) := by
  intro n
  induction n with
  | zero => intro i h1 h2; omega
  | succ n ih =>
    intro i h1 h2
    rw [lp_X6_many_8]
    by_cases e : i = 4096
    · subst e
      rw [if_pos (by rw [l4096, i_le (by omega) (by omega)]; omega)]
    · rw [if_neg (by rw [l4096, i_le (by omega) (by omega)]; omega), i_in (by omega), if_pos (show decide (i < 4096) = true from decide_eq_true (by omega)), i_cl (by omega), h i (by omega)]
      have e1 : (if bI (P i) = 0 then some (0 : Int32) else some 1) = some (nI (if P i = true then 1 else 0)) := by
        cases P i <;> rfl
      rw [e1, bs, nI_add, show nI i + 1 = nI (i + 1) by rw [l1, nI_add]]
      exact ih (i + 1) (by omega) (by omega)
theorem e_many {w c C : Nat} {G : Nat → Nat → Nat} {rc mn ch kc km : Int32} {F : Nat → Nat → Int32} {U : Nat → Int32} {f : Nat → Int64} (hw : w < 5) (hu : UR c G rc F mn U) (hk : CV c G C ch kc km f) (u v one two : Int32) (a ml can : Nat → Int32) :
    ∃ r u' v' a' kc' km' f' one' two' ml' can', f_X5_many (nI w) rc ch F u v a kc km f = some (r, u', v', a', kc', km', f') ∧ f_X6_many mn (nI w) one two U ml can = some (r, one', two', ml', can') ∧ CV c G C ch kc' km' f' := by
  have hF := hu.F
  have hU := hu.U
  obtain ⟨hc, rfl, rfl, _⟩ := hu
  obtain ⟨u', v', a', kc', km', f', e1, hS, hk'⟩ := e_explore hw hF hk u v a
  obtain ⟨one', two', ml', can', e2, hC⟩ := e_layCan hw hU one two ml can
  have e4 : lp_X6_many_8 (one', two', ml', can') FU 0 0 = some (nI (fb_ct (canS w c G) 4096)) := e_lp_many (q := (one', two', ml', can')) hC FU 0 (by omega) (by rw [FU_eq]; omega)
  refine ⟨nI (fb_ct (canS w c G) 4096), u', v', a', kc', km', f', one', two', ml', can', ?_, ?_, hk'⟩
  · unfold f_X5_many
    rw [e1, bs]
    dsimp (config := { instances := true }) only
    rw [e_howMany, bs, fb_ct_cong (fun s hs => hS s hs)]
  · unfold f_X6_many
    rw [e2, bs, e4, bs]
/-- the fewest, the most -/
theorem e_lp_sizes {P : Nat → Bool} {f : Nat → Int64} {q : Int32 × Int32 × (Nat → Int32) × (Nat → Int32)} (hS : SB P f) (h : CB P q.2.2.2) :
    ∀ n m k i x y, i ≤ 4096 → 4096 < n + i → 4096 < m + i → 4096 < k + i → ∃ x' y', lp_X1_fewestUnits_5 f n x (nI i) = some x' ∧ lp_X1_mostUnits_4 f m y (nI i) = some y' ∧ lp_X6_sizes_29 q k x y (nI i) = some (x', y') := by
  intro n
  induction n with
  | zero => intro m k i x y h1 h2; omega
  | succ n ih =>
    intro m k i x y h1 h2 h3 h4
    obtain ⟨m, rfl⟩ : ∃ m', m = m' + 1 := ⟨m - 1, by omega⟩
    obtain ⟨k, rfl⟩ : ∃ k', k = k' + 1 := ⟨k - 1, by omega⟩
    rw [lp_X1_fewestUnits_5, lp_X1_mostUnits_4, lp_X6_sizes_29]
    by_cases e : i = 4096
    · subst e
      have h0 : 4096 ≤ nI 4096 := by rw [l4096, i_le (by omega) (by omega)]; omega
      simp only [if_pos h0]
      exact ⟨x, y, rfl, rfl, rfl⟩
    · have h0 : ¬ 4096 ≤ nI i := by rw [l4096, i_le (by omega) (by omega)]; omega
      simp only [if_neg h0]
      have i1 : nI i + 1 = nI (i + 1) := by rw [l1, nI_add]
      obtain ⟨z, hz⟩ : ∃ z, f_J6_bitCount_0f7a4 (nI i) = some z := ⟨_, rfl⟩
      have hz6 : f_X6_bits (nI i) = some z := by rw [e_bits (by omega), hz]
      rw [e_seen (show i < 4096 by omega), hS i (by omega), i_in (by omega), i_cl (by omega), h i (by omega), hz, hz6, i1]
      simp only [bs, bIv, if_pos (show decide (i < 4096) = true from decide_eq_true (by omega))]
      cases hP : P i with
      | false =>
        simp only [if_true, bs]
        exact ih m k (i + 1) x y (by omega) (by omega) (by omega) (by omega)
      | true =>
        simp only [show (true = false) = False from eq_false (by decide), if_false, bs]
        obtain ⟨x2, q1, q2⟩ : ∃ x2, (if z < x then z else x) = x2 ∧ (if x ≤ z then some x else some z) = some x2 := by
          by_cases g : z < x
          · refine ⟨z, if_pos g, if_neg ?_⟩
            rw [fa_le]; rw [fa_lt] at g; omega
          · refine ⟨x, if_neg g, if_pos ?_⟩
            rw [fa_le]; rw [fa_lt] at g; omega
        obtain ⟨y2, q3, q4⟩ : ∃ y2, (if y < z then z else y) = y2 ∧ (if z ≤ y then some y else some z) = some y2 := by
          by_cases g : y < z
          · refine ⟨z, if_pos g, if_neg ?_⟩
            rw [fa_le]; rw [fa_lt] at g; omega
          · refine ⟨y, if_neg g, if_pos ?_⟩
            rw [fa_le]; rw [fa_lt] at g; omega
        rw [q1, q2, q3, q4, bs, bs]
        exact ih m k (i + 1) x2 y2 (by omega) (by omega) (by omega) (by omega)
theorem e_sizes {w c C : Nat} {G : Nat → Nat → Nat} {rc mn xb xf ch kc km : Int32} {F : Nat → Nat → Int32} {U q : Nat → Int32} {f : Nat → Int64} (hw : w < 5) (hu : UR c G rc F mn U) (hq : RQ xb xf q) (hk : CV c G C ch kc km f) (u v one two a0 : Int32) (a ml can : Nat → Int32) :
    ∃ r xb' xf' q' u' v' a' kc' km' f' one' two' ml' can', f_X5_sizes (nI w) xb xf rc ch F u v a kc km f a0 = some (r, xb', xf', u', v', a', kc', km', f') ∧ f_X6_sizes mn (nI w) one two U q ml can a0 = some (r, one', two', q', ml', can') ∧ RQ xb' xf' q' ∧ CV c G C ch kc' km' f' := by
  have hF := hu.F
  have hU := hu.U
  obtain ⟨hc, rfl, rfl, _⟩ := hu
  rcases i_cases a0 with h | ⟨j, hj, rfl⟩
  · refine ⟨-2, xb + 1, xf, _, u, v, a, kc, km, f, one, two, ml, can, ?_, ?_, hq.bad, hk⟩
    · unfold f_X5_sizes; rw [if_pos h]; rfl
    · unfold f_X6_sizes; rw [L0, L1, in_neg h]; rfl
  have j0 : ¬ nI j < 0 := by rw [l0, i_lt (by omega) (by omega)]; omega
  by_cases g : j ≤ 1
  · have j1 : nI j ≤ 1 := by rw [l1, i_le (by omega) (by omega)]; omega
    obtain ⟨u', v', a', kc', km', f', e1, hS, hk'⟩ := e_explore hw hF hk u v a
    obtain ⟨one', two', ml', can', e2, hC⟩ := e_layCan hw hU one two ml can
    obtain ⟨x', y', e3, e4, e5⟩ := e_lp_sizes (q := (one', two', ml', can')) hS hC FU FU FU 0 12 0 (by omega) (by rw [FU_eq]; omega) (by rw [FU_eq]; omega) (by rw [FU_eq]; omega)
    rw [← l0] at e3 e4 e5
    have k5 : f_X5_sizes (nI w) xb xf (nI c) ch F u v a kc km f (nI j) = if nI j = 0 then some (x', xb, xf, u', v', a', kc', km', f') else some (y', xb, xf, u', v', a', kc', km', f') := by
      unfold f_X5_sizes f_X1_fewestUnits f_X1_mostUnits
      rw [if_neg j0, if_pos j1, e1, bs]
      dsimp (config := { instances := true }) only
      rw [e3, e4]
      rfl
    have k6 : f_X6_sizes (nI c) (nI w) one two U q ml can (nI j) = if nI j = 0 then some (x', one', two', q, ml', can') else some (y', one', two', q, ml', can') := by
      unfold f_X6_sizes
      rw [L0, L1, in_yes (by omega) g (by omega), bs, if_neg (show ¬ (1 : Int32) = 0 by decide), e2, bs, e5, bs]
    rw [k5, k6]
    by_cases g0 : nI j = 0
    · exact ⟨x', xb, xf, q, u', v', a', kc', km', f', one', two', ml', can', if_pos g0, if_pos g0, hq, hk'⟩
    · exact ⟨y', xb, xf, q, u', v', a', kc', km', f', one', two', ml', can', if_neg g0, if_neg g0, hq, hk'⟩
  · refine ⟨-2, xb + 1, xf, _, u, v, a, kc, km, f, one, two, ml, can, ?_, ?_, hq.bad, hk⟩
    · unfold f_X5_sizes; rw [if_neg j0, if_neg (show ¬ nI j ≤ 1 by rw [l1, i_le (by omega) (by omega)]; omega)]; rfl
    · unfold f_X6_sizes; rw [L0, L1, in_no (by omega) (by omega) (by omega) (by omega)]; rfl
