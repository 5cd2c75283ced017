/-! least -/
def eL1 : Option Nat → Int64
  | none => -1
  | some d => lN d
def eL2 : Option Nat → Int64
  | none => -1
  | some d => lN d
theorem L_lt {a b : Nat} (ha : a < 9223372036854775808) (hb : b < 9223372036854775808) : (lN a < lN b) = (a < b) := propext (pk_lLT ha hb)
theorem L_le {a b : Nat} (ha : a < 9223372036854775808) (hb : b < 9223372036854775808) : (lN a ≤ lN b) = (a ≤ b) := propext (pk_lLE ha hb)
theorem e_lp_least {P : Nat → Bool} {f : Nat → Int64} {q : Int32 × Int32 × (Nat → Int32) × (Nat → Int32)} {c : Nat} {G : Nat → Nat → Nat} {F : Nat → Nat → Int32} {U : Nat → Int32} (hF : FG c G F) (hU : UG c G U) (hS : SB P f) (h : CB P q.2.2.2) :
    ∀ n k i o, i ≤ 4096 → 4096 < n + i → 4096 < k + i → (∀ d, o = some d → d ≤ 1000000000) → ∃ o', lp_X1_leastMiss_7 f (nI c) F n (eL1 o) (nI i) = some (eL1 o') ∧ lp_X6_least_10 q (nI c) U k (eL2 o) (nI i) = some (eL2 o') ∧ ((o ≠ none ∨ ∃ s, i ≤ s ∧ s < 4096 ∧ P s = true) → o' ≠ none) := by
  intro n
  induction n with
  | zero => intro k i o h1 h2; omega
  | succ n ih =>
    intro k i o h1 h2 h3 h4
    obtain ⟨k, rfl⟩ : ∃ k', k = k' + 1 := ⟨k - 1, by omega⟩
    rw [lp_X1_leastMiss_7, lp_X6_least_10]
    by_cases e : i = 4096
    · subst e
      have h0 : 4096 ≤ nI 4096 := by rw [l4096, i_le (by omega) (by omega)]; omega
      simp only [if_pos h0]
      refine ⟨o, rfl, rfl, fun q => ?_⟩
      rcases q with q | ⟨s, k1, k2, _⟩
      · exact q
      · omega
    · have h0 : ¬ 4096 ≤ nI i := by rw [l4096, i_le (by omega) (by omega)]; omega
      simp only [if_neg h0]
      have i1 : nI i + 1 = nI (i + 1) := by rw [l1, nI_add]
      have hm := missN_le (s := i) (G := G) hF.1 (fun u hu => (hF.v hu (w := 3) (by omega)).2)
      rw [e_seen (show i < 4096 by omega), hS i (by omega), i_in (by omega), i_cl (by omega), h i (by omega), e_miss hF (by omega), e_miss6 hU (by omega), i1]
      simp only [bs, bIv, if_pos (show decide (i < 4096) = true from decide_eq_true (by omega))]
      cases hP : P i with
      | false =>
        simp only [if_true, bs]
        obtain ⟨o', a1, a2, a3⟩ := ih k (i + 1) o (by omega) (by omega) (by omega) h4
        refine ⟨o', a1, a2, fun q => a3 ?_⟩
        rcases q with q | ⟨s, k1, k2, k3⟩
        · exact Or.inl q
        · right
          by_cases es : s = i
          · subst es; rw [hP] at k3; cases k3
          · exact ⟨s, by omega, k2, k3⟩
      | true =>
        simp only [show (true = false) = False from eq_false (by decide), if_false, bs]
        obtain ⟨d, hd, q1, q2⟩ : ∃ d, d ≤ 1000000000 ∧ (if lg_cmp (eL1 o) (-1) = 0 then some (lN (missN i G c)) else some (if lN (missN i G c) < eL1 o then lN (missN i G c) else eL1 o)) = some (eL1 (some d)) ∧ (if lg_cmp (eL2 o) 0 < 0 then some (lN (missN i G c)) else if 0 ≤ lg_cmp (lN (missN i G c)) (eL2 o) then some (eL2 o) else some (lN (missN i G c))) = some (eL2 (some d)) := by
          cases o with
          | none =>
            refine ⟨missN i G c, hm, ?_, ?_⟩
            · rw [if_pos (show lg_cmp (eL1 none) (-1) = 0 by rw [c_eq]; rfl)]; rfl
            · rw [if_pos (show lg_cmp (eL2 none) 0 < 0 by decide)]; rfl
          | some d0 =>
            have hd0 := h4 d0 rfl
            have e1 : eL1 (some d0) = lN d0 := rfl
            have e2 : eL2 (some d0) = lN d0 := rfl
            have e0 : (0 : Int64) = lN 0 := rfl
            rw [e1, e2, if_neg (ln_ne (show d0 < 9223372036854775808 by omega))]
            simp only [c_lt, c_ge]
            rw [if_neg (show ¬ lN d0 < 0 by rw [e0, L_lt (by omega) (by omega)]; omega)]
            by_cases g : missN i G c < d0
            · refine ⟨missN i G c, hm, ?_, ?_⟩
              · rw [if_pos (by rw [L_lt (by omega) (by omega)]; exact g)]; rfl
              · rw [if_neg (by rw [L_le (by omega) (by omega)]; omega)]; rfl
            · refine ⟨d0, hd0, ?_, ?_⟩
              · rw [if_neg (by rw [L_lt (by omega) (by omega)]; exact g)]; rfl
              · rw [if_pos (by rw [L_le (by omega) (by omega)]; omega)]; rfl
        rw [q1, q2, bs, bs, bs]
        obtain ⟨o', a1, a2, a3⟩ := ih k (i + 1) (some d) (by omega) (by omega) (by omega) (fun d' e => by cases e; exact hd)
        exact ⟨o', a1, a2, fun _ => a3 (Or.inl (by intro q; cases q))⟩
theorem rch_some {w c : Nat} {G : Nat → Nat → Nat} (hc : c ≤ 12) : ∀ k L, ∃ s, s < 4096 ∧ rchB w c G k L s = true
  | 0, L => ⟨wsN L c, Nat.lt_of_lt_of_le (ws_lt L c) (pow12 hc), decide_eq_true rfl⟩
  | k + 1, L => by
    cases hp : pkS w c G L with
    | none => exact ⟨wsN L c, Nat.lt_of_lt_of_le (ws_lt L c) (pow12 hc), by rw [rchB, hp]; exact decide_eq_true rfl⟩
    | some p =>
      obtain ⟨s, h1, h2⟩ := rch_some hc k (plL L p.1 p.2 true)
      refine ⟨s, h1, ?_⟩
      rw [rchB, hp]
      show (rchB w c G k (plL L p.1 p.2 true) s || _) = true
      rw [h2]; rfl
theorem e_least {w c C : Nat} {G : Nat → Nat → Nat} {rc mn ch kc km : Int32} {F : Nat → Nat → Int32} {U : Nat → Int32} {f : Nat → Int64} (hw : w < 5) (hu : UR c G rc F mn U) (hk : CV c G C ch kc km f) (u v one two : Int32) (a ml can : Nat → Int32) :
    ∃ r u' v' a' kc' km' f' one' two' ml' can', f_X5_least (nI w) rc ch F u v a kc km f = some (r, u', v', a', kc', km', f') ∧ f_X6_least mn (nI w) one two U ml can = some (r, one', two', ml', can') ∧ CV c G C ch kc' km' f' := by
  have hF := hu.F
  have hU := hu.U
  obtain ⟨hc, rfl, rfl, _⟩ := hu
  obtain ⟨u', v', a', kc', km', f', e1, hS, hk'⟩ := e_explore hw hF hk u v a
  obtain ⟨one', two', ml', can', e2, hC⟩ := e_layCan hw hU one two ml can
  obtain ⟨o', e3, e4, e5⟩ := e_lp_least (q := (one', two', ml', can')) hF hU hS hC FU FU 0 none (by omega) (by rw [FU_eq]; omega) (by rw [FU_eq]; omega) (fun d e => by cases e)
  have hne : o' ≠ none := e5 (Or.inr (by
    obtain ⟨s, h1, h2⟩ := rch_some (w := w) (G := G) hc (ocN (fun j => G 0 j) c) (fun j => G 0 j)
    exact ⟨s, Nat.zero_le _, h1, h2⟩))
  cases ho : o' with
  | none => exact absurd ho hne
  | some d =>
    rw [ho] at e3 e4
    have e3 : lp_X1_leastMiss_7 f' (nI c) F FU (-1) 0 = some (lN d) := e3
    have e4 : lp_X6_least_10 (one', two', ml', can') (nI c) U FU (-1) 0 = some (lN d) := e4
    refine ⟨lN d, u', v', a', kc', km', f', one', two', ml', can', ?_, ?_, hk'⟩
    · unfold f_X5_least f_X1_leastMiss
      rw [e1, bs]
      dsimp (config := { instances := true }) only
      rw [e3, bs, bs]
    · unfold f_X6_least
      rw [e2, bs, e4, bs]
