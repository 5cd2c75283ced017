/-! reading: one sentence -/
def sn (b : Nat → Nat) (t u a : Nat) : Sum Nat (Nat × List Nat × Nat) := match wcl b t a with
  | none => .inl a
  | some w => if w = 5 ∧ u = 12 then .inl a else
    if (nm b t w u (nuN w) 0 (le b t a)).1 = true then
      (if sk b t (nm b t w u (nuN w) 0 (le b t a)).2.1 < t ∧ b (sk b t (nm b t w u (nuN w) 0 (le b t a)).2.1) = 59 then .inr (w, (nm b t w u (nuN w) 0 (le b t a)).2.2, sk b t (nm b t w u (nuN w) 0 (le b t a)).2.1 + 1) else .inl (sk b t (nm b t w u (nuN w) 0 (le b t a)).2.1))
    else .inl (nm b t w u (nuN w) 0 (le b t a)).2.1
theorem wcl_some {b : Nat → Nat} {t a w : Nat} (h : wcl b t a = some w) : w < 13 ∧ isW b a (le b t a) w = true := by
  unfold wcl at h
  by_cases g : nxt (isW b a (le b t a)) 13 0 < 13
  · rw [if_pos g] at h
    cases h
    exact ⟨g, nxt_holds g⟩
  · rw [if_neg g] at h; cases h
theorem nm_vals {b : Nat → Nat} {t w u : Nat} : ∀ k i a, (nm b t w u k i a).1 = true → ∀ j, j < k → (((nm b t w u k i a).2.2.getD j 0 : Nat) : Int) ≤ moN w (i + j) u
  | 0, _, _, _, j, hj => by omega
  | k + 1, i, a, h, j, hj => by
    rw [nm] at h ⊢
    cases hok : okN b t (sk b t a) (dgN w) (moN w i u) with
    | none => rw [hok] at h; cases h
    | some v =>
      rw [hok] at h
      have h : (nm b t w u k (i + 1) (de b t (sk b t a))).1 = true := h
      cases j with
      | zero => exact (ok_some hok).2
      | succ j =>
        have := nm_vals k (i + 1) (de b t (sk b t a)) h j (by omega)
        rw [show i + (j + 1) = i + 1 + j by omega]
        exact this
theorem wd_min : ∀ w, w < 13 → 3 ≤ (wd w).length := by decide
/-- what a sentence that can be read is like -/
def SOK (t u a : Nat) (p : Nat × List Nat × Nat) : Prop := p.1 < 13 ∧ (p.1 = 5 → u < 12) ∧ (∀ j, j < nuN p.1 → ((p.2.1.getD j 0 : Nat) : Int) ≤ moN p.1 j u) ∧ p.2.2 ≤ t ∧ a + 4 ≤ p.2.2
theorem sn_ok {b : Nat → Nat} {t u a : Nat} (ha : a ≤ t) (hu : u ≤ 12) : (∀ p, sn b t u a = .inr p → SOK t u a p) ∧ ∀ p, sn b t u a = .inl p → p ≤ t := by
  have h1 : a ≤ le b t a := nxt_from ha
  have h2 : le b t a ≤ t := nxt_le _ _ _
  unfold sn
  cases hw : wcl b t a with
  | none => exact ⟨fun p q => (by cases q), fun p q => by cases q; exact ha⟩
  | some w =>
    have hW := wcl_some hw
    have hl := (of_decide_eq_true hW.2).1
    have h3 := wd_min w hW.1
    have hn := nm_le (b := b) (w := w) (u := u) (nuN w) 0 (le b t a) h2
    have hs := sk_le b t (nm b t w u (nuN w) 0 (le b t a)).2.1
    have hs2 := sk_ge (b := b) hn.1
    dsimp only
    by_cases g1 : w = 5 ∧ u = 12
    · rw [if_pos g1]
      exact ⟨fun p q => (by cases q), fun p q => by cases q; exact ha⟩
    · rw [if_neg g1]
      by_cases g2 : (nm b t w u (nuN w) 0 (le b t a)).1 = true
      · rw [if_pos g2]
        by_cases g3 : sk b t (nm b t w u (nuN w) 0 (le b t a)).2.1 < t ∧ b (sk b t (nm b t w u (nuN w) 0 (le b t a)).2.1) = 59
        · rw [if_pos g3]
          refine ⟨fun p q => ?_, fun p q => by cases q⟩
          cases q
          refine ⟨hW.1, fun e => ?_, fun j hj => ?_, ?_, ?_⟩
          · have : ¬ u = 12 := fun q => g1 ⟨e, q⟩
            omega
          · have := nm_vals (b := b) (t := t) (w := w) (u := u) (nuN w) 0 (le b t a) g2 j hj
            rw [Nat.zero_add] at this
            exact this
          · show sk b t _ + 1 ≤ t
            omega
          · show a + 4 ≤ sk b t _ + 1
            omega
        · rw [if_neg g3]
          exact ⟨fun p q => (by cases q), fun p q => by cases q; exact hs⟩
      · rw [if_neg g2]
        exact ⟨fun p q => (by cases q), fun p q => by cases q; exact hn.1⟩
theorem e_sentC {t u a S : Nat} {b : Nat → Nat} {st vb ar : Nat → Int32} (ht : t ≤ 120) (hv : ∀ j, j < t → st j = nI (b j)) (hb : ∀ j, j < t → b j ≤ 127) (ha : a ≤ t) (hu : u ≤ 12) (hS : S < 30) :
    (∀ p, sn b t u a = .inl p → ∃ at' ar', f_X4_readSentence (nI t) (nI S) (nI a) (nI u) st vb ar = some (nI p, nI S, at', nI u, vb, ar')) ∧
    ∀ p, sn b t u a = .inr p → ∃ ar', f_X4_readSentence (nI t) (nI S) (nI a) (nI u) st vb ar = some (-1, nI (S + 1), nI p.2.2, nI (u + if p.1 = 5 then 1 else 0), upd vb S (nI p.1), ar') ∧ (∀ j, j < nuN p.1 → ar' (5 * S + j) = nI (p.2.1.getD j 0)) ∧ ∀ j, j < 5 * S → ar' j = ar j := by
  have h1 : a ≤ le b t a := nxt_from ha
  have h2 : le b t a ≤ t := nxt_le _ _ _
  have hrw := e_readWord ht hv hb ha
  rw [wcl_eN] at hrw
  unfold f_X4_readSentence sn
  rw [hrw, bs]
  dsimp (config := { instances := true }) only
  cases hw : wcl b t a with
  | none =>
    refine ⟨fun p q => ?_, fun p q => by cases q⟩
    cases q
    exact ⟨_, _, if_pos rfl⟩
  | some w =>
    have hW := wcl_some hw
    have hn := nm_le (b := b) (w := w) (u := u) (nuN w) 0 (le b t a) h2
    have hs := sk_le b t (nm b t w u (nuN w) 0 (le b t a)).2.1
    have e : eO (some w) = nI w := rfl
    obtain ⟨fl, er, at', ar', k1, k2, k3, k4⟩ := e_lp_rs (x := nI (le b t a)) (S := S) ht hv hb hW.1 hu hS (nuN w) FU 0 (le b t a) ar (by omega) (by have := (nu_tab w hW.1).2.2; rw [FU_eq]; omega) h2
    rw [← l0] at k1
    have hj : j_X4_readSentence_40 (nI w, nI (le b t a)) (nI t) st (nI u) (nI S) ar vb = if fl = 0 then some (er, nI S, at', nI u, vb, ar') else Option.bind (f_X4_skipBlanks (nI t) at' st) (fun (q16 : Int32) => Option.bind (f_X4_byteAt (nI t) st q16) (fun (q17 : Int32) => if q17 = 59 then Option.bind (if nI w = 5 then some 1 else some 0) (fun (q20 : Int32) => if inB (nI S) 30 then some ((-1), (nI S + 1), (q16 + 1), (nI u + q20), (upd vb (Int32.toNatClampNeg (nI S)) (nI w)), ar') else none) else some (q16, nI S, q16, nI u, vb, ar'))) := by
      unfold j_X4_readSentence_40
      dsimp (config := { instances := true }) only
      rw [k1, bs]
    rw [e, if_neg (of_eq_false (i_m1 (by omega))), if_neg (show ¬ 30 ≤ nI S by rw [l30, i_le (by omega) (by omega)]; omega), hj]
    have hcond : (if nI w = 5 then (if nI u < 12 then (if fl = 0 then some (er, nI S, at', nI u, vb, ar') else Option.bind (f_X4_skipBlanks (nI t) at' st) (fun (q16 : Int32) => Option.bind (f_X4_byteAt (nI t) st q16) (fun (q17 : Int32) => if q17 = 59 then Option.bind (if nI w = 5 then some 1 else some 0) (fun (q20 : Int32) => if inB (nI S) 30 then some ((-1), (nI S + 1), (q16 + 1), (nI u + q20), (upd vb (Int32.toNatClampNeg (nI S)) (nI w)), ar') else none) else some (q16, nI S, q16, nI u, vb, ar')))) else some (nI a, nI S, nI (le b t a), nI u, vb, ar)) else (if fl = 0 then some (er, nI S, at', nI u, vb, ar') else Option.bind (f_X4_skipBlanks (nI t) at' st) (fun (q16 : Int32) => Option.bind (f_X4_byteAt (nI t) st q16) (fun (q17 : Int32) => if q17 = 59 then Option.bind (if nI w = 5 then some 1 else some 0) (fun (q20 : Int32) => if inB (nI S) 30 then some ((-1), (nI S + 1), (q16 + 1), (nI u + q20), (upd vb (Int32.toNatClampNeg (nI S)) (nI w)), ar') else none) else some (q16, nI S, q16, nI u, vb, ar'))))) =
        if w = 5 ∧ u = 12 then some (nI a, nI S, nI (le b t a), nI u, vb, ar) else (if fl = 0 then some (er, nI S, at', nI u, vb, ar') else Option.bind (f_X4_skipBlanks (nI t) at' st) (fun (q16 : Int32) => Option.bind (f_X4_byteAt (nI t) st q16) (fun (q17 : Int32) => if q17 = 59 then Option.bind (if nI w = 5 then some 1 else some 0) (fun (q20 : Int32) => if inB (nI S) 30 then some ((-1), (nI S + 1), (q16 + 1), (nI u + q20), (upd vb (Int32.toNatClampNeg (nI S)) (nI w)), ar') else none) else some (q16, nI S, q16, nI u, vb, ar')))) := by
      by_cases g5 : w = 5
      · rw [if_pos (show nI w = 5 by rw [g5]; rfl)]
        by_cases g12 : u = 12
        · rw [if_neg (show ¬ nI u < 12 by rw [l12, i_lt (by omega) (by omega)]; omega), if_pos (show w = 5 ∧ u = 12 from ⟨g5, g12⟩)]
        · rw [if_pos (show nI u < 12 by rw [l12, i_lt (by omega) (by omega)]; omega), if_neg (show ¬ (w = 5 ∧ u = 12) from fun q => g12 q.2)]
      · rw [if_neg (show ¬ nI w = 5 by rw [l5, i_eq (by omega) (by omega)]; exact g5), if_neg (show ¬ (w = 5 ∧ u = 12) from fun q => g5 q.1)]
    rw [hcond]
    dsimp only
    by_cases g1 : w = 5 ∧ u = 12
    · simp only [if_pos g1]
      refine ⟨fun p q => ?_, fun p q => by cases q⟩
      cases q
      exact ⟨_, _, rfl⟩
    · simp only [if_neg g1]
      by_cases g2 : (nm b t w u (nuN w) 0 (le b t a)).1 = true
      · obtain ⟨m1, m2, m3⟩ := k3 g2
        simp only [if_pos g2]
        rw [if_neg (show ¬ fl = 0 by omega), m2, e_skipC ht hv hb hn.1, bs, e_byteAt ht hv (by omega), bs]
        have e5 : (if nI w = 5 then some (1 : Int32) else some 0) = some (nI (if w = 5 then 1 else 0)) := by
          by_cases g5 : w = 5
          · rw [if_pos g5, if_pos (by rw [g5]; rfl), l1]
          · rw [if_neg g5, if_neg (by rw [l5, i_eq (by omega) (by omega)]; exact g5), l0]
        rw [e5, bs, i_in (by omega), if_pos (show decide (S < 30) = true from decide_eq_true hS), i_cl (by omega), nI_add, show nI S + 1 = nI (S + 1) by rw [l1, nI_add], show nI (sk b t (nm b t w u (nuN w) 0 (le b t a)).2.1) + 1 = nI (sk b t (nm b t w u (nuN w) 0 (le b t a)).2.1 + 1) by rw [l1, nI_add]]
        by_cases g3 : sk b t (nm b t w u (nuN w) 0 (le b t a)).2.1 < t ∧ b (sk b t (nm b t w u (nuN w) 0 (le b t a)).2.1) = 59
        · simp only [if_pos g3]
          rw [if_pos g3.1, g3.2, if_pos (show nI 59 = 59 from l59.symm)]
          refine ⟨fun p q => (by cases q), fun p q => ?_⟩
          cases q
          refine ⟨ar', rfl, fun j hj => ?_, fun j hj => k4 j (by omega)⟩
          have := m3 j hj
          rw [Nat.add_zero] at this
          exact this
        · have hne : ¬ (if sk b t (nm b t w u (nuN w) 0 (le b t a)).2.1 < t then nI (b (sk b t (nm b t w u (nuN w) 0 (le b t a)).2.1)) else -1) = 59 := by
            by_cases g4 : sk b t (nm b t w u (nuN w) 0 (le b t a)).2.1 < t
            · have := hb _ g4
              rw [if_pos g4, l59, i_eq (by omega) (by omega)]
              exact fun q => g3 ⟨g4, q⟩
            · rw [if_neg g4]; decide
          simp only [if_neg g3]
          rw [if_neg hne]
          refine ⟨fun p q => ?_, fun p q => by cases q⟩
          cases q
          exact ⟨_, _, rfl⟩
      · have g2f : (nm b t w u (nuN w) 0 (le b t a)).1 = false := by
          cases hx : (nm b t w u (nuN w) 0 (le b t a)).1 with
          | false => rfl
          | true => exact absurd hx g2
        obtain ⟨m1, m2⟩ := k2 g2f
        simp only [if_neg g2]
        rw [if_pos m1, m2]
        refine ⟨fun p q => ?_, fun p q => by cases q⟩
        cases q
        exact ⟨_, _, rfl⟩
theorem nm_sk {b : Nat → Nat} {t w u : Nat} : ∀ {k i a : Nat}, (nm b t w u k i a).1 = false → sk b t (nm b t w u k i a).2.1 = (nm b t w u k i a).2.1
  | 0, _, _, h => by cases h
  | k + 1, i, a, h => by
    rw [nm] at h ⊢
    cases hok : okN b t (sk b t a) (dgN w) (moN w i u) with
    | none => exact sk_sk b t a
    | some v =>
      rw [hok] at h
      exact nm_sk (k := k) h
theorem uo10 : ∀ w, w < 13 → (nI (uo w) = 10) = (w = 5) := by
  intro w hw
  have h : ∀ w, w < 13 → (nI (uo w) = 10 ↔ w = 5) := by decide +kernel
  exact propext (h w hw)
theorem e_sentM {t u a0 : Nat} {b : Nat → Nat} {mt nu : Nat → Int32} (ht : t ≤ 120) (hv : ∀ j, j < t → mt j = nI (b j)) (hb : ∀ j, j < t → b j ≤ 127) (ha : a0 ≤ t) (hu : u ≤ 12) :
    (∀ p, sn b t u (sk b t a0) = .inl p → ∃ nu', f_X6_reads (nI t) (nI a0) mt nu (nI u) = some (-1, nI p, nu')) ∧
    ∀ p, sn b t u (sk b t a0) = .inr p → ∃ nu', f_X6_reads (nI t) (nI a0) mt nu (nI u) = some (nI (uo p.1), nI p.2.2, nu') ∧ ∀ j, j < nuN p.1 → nu' j = nI (p.2.1.getD j 0) := by
  have hs0 := sk_le b t a0
  have hsk := sk_sk b t a0
  obtain ⟨a, ea⟩ : ∃ a, a = sk b t a0 := ⟨_, rfl⟩
  have htw := e_takesWord ht hv hb hs0
  rw [hsk] at htw
  have hskip := e_skipM ht hv hb ha
  rw [← ea] at hs0 hsk htw hskip ⊢
  have h1 : a ≤ le b t a := nxt_from hs0
  have h2 : le b t a ≤ t := nxt_le _ _ _
  unfold f_X6_reads sn
  rw [hskip, bs, htw, bs]
  dsimp (config := { instances := true }) only
  cases hw : wcl b t a with
  | none =>
    refine ⟨fun p q => ?_, fun p q => (by cases q)⟩
    cases q
    rw [if_neg (show ¬ eO (Option.map uo none) = 10 by decide)]
    unfold j_X6_reads_33
    dsimp (config := { instances := true }) only
    rw [if_pos (show eO (Option.map uo none) = -1 from rfl), bs, show FU = 4999 + 1 from rfl, lp_X6_reads_48, if_pos rfl, bs]
    dsimp (config := { instances := true }) only
    rw [if_pos rfl, e_skipM ht hv hb hs0, hsk, bs, if_pos rfl]
    exact ⟨nu, rfl⟩
  | some w =>
    have hW := wcl_some hw
    have hn := nm_le (b := b) (w := w) (u := u) (nuN w) 0 (le b t a) h2
    have hs := sk_le b t (nm b t w u (nuN w) 0 (le b t a)).2.1
    have huo := (uo_tab w hW.1).1
    have e : eO (Option.map uo (some w)) = nI (uo w) := rfl
    rw [e, if_neg (show ¬ (some w = none) by intro q; cases q)]
    simp only [uo10 w hW.1]
    obtain ⟨nu', k1, k2, k3⟩ := e_lp_rm (x := nI (le b t a)) ht hv hb hW.1 hu (nuN w) FU 0 (le b t a) nu (by omega) (by have := (nu_tab w hW.1).2.2; rw [FU_eq]; omega) h2
    rw [← l0] at k1
    have hi := e_isByte (i := sk b t (nm b t w u (nuN w) 0 (le b t a)).2.1) (lo := 59) (hi := 59) ht hv hb (by omega) (by omega) (by omega)
    rw [← l59] at hi
    have hj : j_X6_reads_33 (nI (uo w), nI (le b t a)) (nI u) (nI t) mt nu = if bI (nm b t w u (nuN w) 0 (le b t a)).1 = 0 then some (-1, nI (sk b t (nm b t w u (nuN w) 0 (le b t a)).2.1), nu') else if bI (decide (sk b t (nm b t w u (nuN w) 0 (le b t a)).2.1 < t ∧ 59 ≤ b (sk b t (nm b t w u (nuN w) 0 (le b t a)).2.1) ∧ b (sk b t (nm b t w u (nuN w) 0 (le b t a)).2.1) ≤ 59)) = 0 then some (-1, nI (sk b t (nm b t w u (nuN w) 0 (le b t a)).2.1), nu') else some (nI (uo w), nI (sk b t (nm b t w u (nuN w) 0 (le b t a)).2.1 + 1), nu') := by
      unfold j_X6_reads_33
      dsimp (config := { instances := true }) only
      rw [if_neg (of_eq_false (i_m1 (show uo w < 2147483648 by omega))), bs, k1, bs]
      dsimp (config := { instances := true }) only
      rw [e_skipM ht hv hb hn.1, bs, hi, bs, show nI (sk b t (nm b t w u (nuN w) 0 (le b t a)).2.1) + 1 = nI (sk b t (nm b t w u (nuN w) 0 (le b t a)).2.1 + 1) by rw [l1, nI_add]]
    rw [hj]
    simp only [bIv]
    have hcond : ∀ X : Option (Int32 × Int32 × (Nat → Int32)), (if w = 5 then (if nI u = 12 then some ((-1 : Int32), nI a, nu) else X) else X) = if w = 5 ∧ u = 12 then some (-1, nI a, nu) else X := fun X => by
      by_cases g5 : w = 5
      · rw [if_pos g5]
        by_cases g12 : u = 12
        · rw [if_pos (show nI u = 12 by rw [g12]; rfl), if_pos ⟨g5, g12⟩]
        · rw [if_neg (show ¬ nI u = 12 by rw [l12, i_eq (by omega) (by omega)]; exact g12), if_neg (fun q => g12 q.2)]
      · rw [if_neg g5, if_neg (fun q => g5 q.1)]
    rw [hcond]
    by_cases g1 : w = 5 ∧ u = 12
    · simp only [if_pos g1]
      refine ⟨fun p q => ?_, fun p q => (by cases q)⟩
      cases q
      exact ⟨nu, rfl⟩
    · simp only [if_neg g1]
      by_cases g2 : (nm b t w u (nuN w) 0 (le b t a)).1 = true
      · simp only [if_pos g2, if_neg (show ¬ (nm b t w u (nuN w) 0 (le b t a)).1 = false by rw [g2]; decide)]
        by_cases g3 : sk b t (nm b t w u (nuN w) 0 (le b t a)).2.1 < t ∧ b (sk b t (nm b t w u (nuN w) 0 (le b t a)).2.1) = 59
        · simp only [if_pos g3]
          rw [if_neg (show ¬ decide (sk b t (nm b t w u (nuN w) 0 (le b t a)).2.1 < t ∧ 59 ≤ b (sk b t (nm b t w u (nuN w) 0 (le b t a)).2.1) ∧ b (sk b t (nm b t w u (nuN w) 0 (le b t a)).2.1) ≤ 59) = false by rw [decide_eq_true (by omega)]; decide)]
          refine ⟨fun p q => (by cases q), fun p q => ?_⟩
          cases q
          refine ⟨nu', rfl, fun j hj => ?_⟩
          have := k2 g2 j hj
          rw [Nat.zero_add] at this
          exact this
        · simp only [if_neg g3]
          rw [if_pos (show decide (sk b t (nm b t w u (nuN w) 0 (le b t a)).2.1 < t ∧ 59 ≤ b (sk b t (nm b t w u (nuN w) 0 (le b t a)).2.1) ∧ b (sk b t (nm b t w u (nuN w) 0 (le b t a)).2.1) ≤ 59) = false from decide_eq_false (by omega))]
          refine ⟨fun p q => ?_, fun p q => (by cases q)⟩
          cases q
          exact ⟨nu', rfl⟩
      · have g2f : (nm b t w u (nuN w) 0 (le b t a)).1 = false := by
          cases hx : (nm b t w u (nuN w) 0 (le b t a)).1 with
          | false => rfl
          | true => exact absurd hx g2
        simp only [if_neg g2, if_pos g2f]
        refine ⟨fun p q => ?_, fun p q => (by cases q)⟩
        cases q
        rw [nm_sk g2f]
        exact ⟨nu', rfl⟩
