/-! more plain calls -/
/-- the text that waits, the answer that was given -/
def TXT (t : Nat) (b : Nat → Nat) (sl : Int32) (st : Nat → Int32) (ml : Int32) (mt : Nat → Int32) : Prop := t ≤ 120 ∧ sl = nI t ∧ ml = nI t ∧ ∀ i, i < t → st i = nI (b i) ∧ mt i = nI (b i) ∧ b i ≤ 127
def ANS (p : Nat) (pl : Int32) (ps : Nat → Int32) (al : Int32) (an : Nat → Int32) : Prop := p ≤ 300 ∧ pl = nI p ∧ al = nI p ∧ ∀ i, i < p → ps i = an i
theorem nar_b {m : Nat} (h : m ≤ 127) : vp_nar .byte ((Int32.toInt8 (nI m)).toInt32) = nI m := by
  have e : (nI m).toInt8.toInt32 = nI m := fb_byte (by rw [i_ti (by omega)]; omega) (by rw [i_ti (by omega)]; omega)
  rw [e]
  exact e
theorem e_type {t : Nat} {b : Nat → Nat} {sl ml xb xf : Int32} {st mt q : Nat → Int32} (ht : TXT t b sl st ml mt) (hq : RQ xb xf q) (a : Int32) :
    ∃ r xb' xf' q' t' b' sl' st' ml' mt', f_X5_type xb xf sl st a = some (r, xb', xf', sl', st') ∧ f_X6_type ml q mt a = some (r, ml', q', mt') ∧ RQ xb' xf' q' ∧ TXT t' b' sl' st' ml' mt' := by
  have ht0 := ht
  obtain ⟨h1, rfl, rfl, hv⟩ := ht
  rcases i_cases a with h | ⟨m, hm, rfl⟩
  · refine ⟨-2, xb + 1, xf, _, t, b, _, st, _, mt, ?_, ?_, hq.bad, ht0⟩
    · unfold f_X5_type; rw [if_pos h]; rfl
    · unfold f_X6_type; rw [L0, L127, in_neg h]; rfl
  · have m0 : ¬ nI m < 0 := by rw [l0, i_lt (by omega) (by omega)]; omega
    by_cases g : m ≤ 127
    · have m1 : nI m ≤ 127 := by rw [l127, i_le (by omega) (by omega)]; omega
      by_cases g2 : t < 120
      · refine ⟨nI (t + 1), xb, xf, q, t + 1, fun i => if i = t then m else b i, nI (t + 1), upd st t (nI m), nI (t + 1), upd mt t (nI m), ?_, ?_, hq, by omega, rfl, rfl, fun i hi => ?_⟩
        · unfold f_X5_type f_X4_append
          rw [if_neg m0, if_pos m1, if_pos (by rw [l120, i_lt (by omega) (by omega)]; omega), if_neg (by rw [l120, i_le (by omega) (by omega)]; omega), i_in (by omega), if_pos (decide_eq_true g2), i_cl (by omega), nar_b g, l1, nI_add]
          rfl
        · unfold f_X6_type
          rw [L0, L127, in_yes (by omega) (by omega) (by omega), bs, if_neg (by decide), if_neg (by rw [l120, i_eq (by omega) (by omega)]; omega), i_in (by omega), if_pos (decide_eq_true g2), i_cl (by omega), l1, nI_add]
        · show (if i = t then nI m else st i) = _ ∧ (if i = t then nI m else mt i) = _ ∧ (if i = t then m else b i) ≤ 127
          by_cases e : i = t
          · simp only [if_pos e]; exact ⟨trivial, trivial, g⟩
          · simp only [if_neg e]; exact hv i (by omega)
      · refine ⟨-4, xb, xf + 1, _, t, b, _, st, _, mt, ?_, ?_, hq.full, ht0⟩
        · unfold f_X5_type
          rw [if_neg m0, if_pos m1, if_neg (by rw [l120, i_lt (by omega) (by omega)]; omega)]; rfl
        · unfold f_X6_type
          rw [L0, L127, in_yes (by omega) (by omega) (by omega), bs, if_neg (by decide), if_pos (by rw [l120, i_eq (by omega) (by omega)]; omega)]; rfl
    · have m1 : ¬ nI m ≤ 127 := by rw [l127, i_le (by omega) (by omega)]; omega
      refine ⟨-2, xb + 1, xf, _, t, b, _, st, _, mt, ?_, ?_, hq.bad, ht0⟩
      · unfold f_X5_type; rw [if_neg m0, if_neg m1]; rfl
      · unfold f_X6_type; rw [L0, L127, in_no (by omega) (by omega) (by omega) (by omega)]; rfl
theorem TXT.clear {t : Nat} {b : Nat → Nat} {sl ml : Int32} {st mt : Nat → Int32} (ht : TXT t b sl st ml mt) : f_X5_clear sl = some (sl, 0) ∧ f_X6_clear ml = some (sl, 0) ∧ TXT 0 b 0 st 0 mt := by
  obtain ⟨h1, rfl, rfl, hv⟩ := ht
  exact ⟨rfl, rfl, by omega, rfl, rfl, fun i hi => by omega⟩
theorem e_sign {p i : Nat} {ps : Nat → Int32} (hp : p ≤ 300) (hi : i < p) : f_X2_sign (nI p) ps (nI i) = some (ps i) := by
  unfold f_X2_sign
  rw [if_neg (by rw [l0, i_lt (by omega) (by omega)]; omega), if_neg (by rw [i_le (by omega) (by omega)]; omega), if_neg (by rw [l300, i_le (by omega) (by omega)]; omega), i_in (by omega), if_pos (decide_eq_true (by omega)), i_cl (by omega)]
theorem e_answer {p : Nat} {pl al xb xf : Int32} {ps an q : Nat → Int32} (ha : ANS p pl ps al an) (hq : RQ xb xf q) (a : Int32) :
    ∃ r xb' xf' q', f_X5_answer xb xf pl ps a = some (r, xb', xf') ∧ f_X6_answer al q an a = some (r, q') ∧ RQ xb' xf' q' := by
  obtain ⟨h1, rfl, rfl, hv⟩ := ha
  unfold f_X5_answer f_X6_answer
  by_cases g : -1 ≤ a
  · simp only [if_pos g]
    by_cases g2 : a = -1
    · simp only [if_pos g2]
      exact ⟨nI p, xb, xf, q, rfl, rfl, hq⟩
    · simp only [if_neg g2]
      rcases i_cases a with h | ⟨m, hm, rfl⟩
      · exfalso
        rw [fa_lt] at h
        rw [fa_le] at g
        have e1 : (-1 : Int32).toInt = -1 := by decide
        have e0 : (0 : Int32).toInt = 0 := by decide
        exact g2 (Int32.toInt_inj.mp (by omega))
      · by_cases g3 : p ≤ m
        · simp only [if_pos (show nI p ≤ nI m by rw [i_le (by omega) (by omega)]; omega)]
          exact ⟨-5, xb, xf, q, rfl, rfl, hq⟩
        · simp only [if_neg (show ¬ nI p ≤ nI m by rw [i_le (by omega) (by omega)]; omega)]
          rw [e_sign h1 (by omega), i_in (by omega), if_pos (decide_eq_true (by omega)), i_cl (by omega), ← hv m (by omega)]
          exact ⟨ps m, xb, xf, q, rfl, rfl, hq⟩
  · simp only [if_neg g]
    exact ⟨-10, xb + 1, xf, _, rfl, rfl, hq.bad⟩
theorem e_state {w c t p i : Nat} {xb xf : Int32} {q : Nat → Int32} (hq : RQ xb xf q) (hi : i ≤ 6) : ∃ r, f_X5_state (nI w) xb xf (nI c) (nI t) (nI p) (nI i) = some r ∧ f_X6_toldOf (nI c) (nI w) (nI t) (nI p) q (nI i) = some r := by
  obtain ⟨h0, h1, h2⟩ := hq
  rcases (show i = 0 ∨ i = 1 ∨ i = 2 ∨ i = 3 ∨ i = 4 ∨ i = 5 ∨ i = 6 by omega) with e | e | e | e | e | e | e <;> subst e
  · exact ⟨xb, rfl, by rw [← h0]; rfl⟩
  · exact ⟨0, rfl, by rw [← h1]; rfl⟩
  · exact ⟨xf, rfl, by rw [← h2]; rfl⟩
  · exact ⟨nI t, rfl, rfl⟩
  · exact ⟨nI c, rfl, rfl⟩
  · exact ⟨nI w, rfl, rfl⟩
  · exact ⟨nI p, rfl, rfl⟩
theorem e_told {w c t p : Nat} {xb xf : Int32} {q : Nat → Int32} (hq : RQ xb xf q) (a : Int32) :
    ∃ r xb' xf' q', f_X5_told (nI w) xb xf (nI c) (nI t) (nI p) a = some (r, xb', xf') ∧ f_X6_told (nI c) (nI w) (nI t) (nI p) q a = some (r, q') ∧ RQ xb' xf' q' := by
  rcases i_cases a with h | ⟨m, hm, rfl⟩
  · refine ⟨-2, xb + 1, xf, _, ?_, ?_, hq.bad⟩
    · unfold f_X5_told; rw [if_pos h]; rfl
    · unfold f_X6_told; rw [L0, L6, in_neg h]; rfl
  · have m0 : ¬ nI m < 0 := by rw [l0, i_lt (by omega) (by omega)]; omega
    by_cases g : m ≤ 6
    · obtain ⟨r, h1, h2⟩ := e_state (w := w) (c := c) (t := t) (p := p) hq g
      refine ⟨r, xb, xf, q, ?_, ?_, hq⟩
      · unfold f_X5_told; rw [if_neg m0, if_pos (by rw [l6, i_le (by omega) (by omega)]; omega), h1]; rfl
      · unfold f_X6_told; rw [L0, L6, in_yes (by omega) (by omega) (by omega), bs, if_neg (by decide), h2]; rfl
    · refine ⟨-2, xb + 1, xf, _, ?_, ?_, hq.bad⟩
      · unfold f_X5_told; rw [if_neg m0, if_neg (by rw [l6, i_le (by omega) (by omega)]; omega)]; rfl
      · unfold f_X6_told; rw [L0, L6, in_no (by omega) (by omega) (by omega) (by omega)]; rfl
/-- the four loops of digest -/
theorem e_lp_dig1 {w c t p : Nat} {xb xf : Int32} {q : Nat → Int32} (hq : RQ xb xf q) :
    ∀ n m x i, i ≤ 7 → 7 < n + i → 7 < m + i → ∃ y, lp_X5_digest_6 (nI w) xb xf (nI c) (nI t) (nI p) n x (nI i) = some y ∧ lp_X6_digest_6 (nI c) (nI w) (nI t) (nI p) q m x (nI i) = some y := by
  intro n
  induction n with
  | zero => intro m x i h1 h2; omega
  | succ n ih =>
    intro m x i h1 h2 h3
    obtain ⟨m, rfl⟩ : ∃ m', m = m' + 1 := ⟨m - 1, by omega⟩
    rw [lp_X5_digest_6, lp_X6_digest_6]
    by_cases e : i = 7
    · subst e
      rw [if_pos (by decide), if_pos (by decide)]
      exact ⟨x, rfl, rfl⟩
    · obtain ⟨r, e1, e2⟩ := e_state (w := w) (c := c) (t := t) (p := p) (i := i) hq (by omega)
      rw [if_neg (by rw [l6, i_lt (by omega) (by omega)]; omega), if_neg (by rw [l7, i_le (by omega) (by omega)]; omega), e1, e2, bs, bs, l1, nI_add]
      exact ih m _ (i + 1) (by omega) (by omega) (by omega)
theorem e_lp_dig2 {c s u : Nat} {G : Nat → Nat → Nat} {F : Nat → Nat → Int32} {U : Nat → Int32} (hF : FG c G F) (hU : UG c G U) (hs : s < 4096) (hu : u < c) :
    ∀ n m x i, i ≤ 5 → 6 < n + i → 5 < m + i → ∃ y, lp_X5_digest_47 (nI c) F (nI s) (nI u) n x (nI i) = some (31 * y + (if s / 2 ^ u % 2 = 1 then nI 1 else nI 0).toInt64) ∧ lp_X6_digest_44 U (nI u) m x (nI i) = some y := by
  have hc := hF.1
  intro n
  induction n with
  | zero => intro m x i h1 h2; omega
  | succ n ih =>
    intro m x i h1 h2 h3
    obtain ⟨m, rfl⟩ : ∃ m', m = m' + 1 := ⟨m - 1, by omega⟩
    rw [lp_X5_digest_47, lp_X6_digest_44, if_neg (by rw [l5, i_lt (by omega) (by omega)]; omega), e_known hF hs hu h1, bs, l1, nI_add]
    by_cases e : i = 5
    · subst e
      obtain ⟨n, rfl⟩ : ∃ n', n = n' + 1 := ⟨n - 1, by omega⟩
      rw [lp_X5_digest_47, if_pos (by decide), if_pos rfl]
      refine ⟨x, rfl, ?_⟩
      rw [if_pos (by decide)]
    · rw [if_neg e, if_neg (show ¬ 5 ≤ nI i by rw [l5, i_le (by omega) (by omega)]; omega), hU.f hu (by omega), bs]
      exact ih m _ (i + 1) (by omega) (by omega) (by omega)
theorem e_lp_dig3 {c s : Nat} {G : Nat → Nat → Nat} {F : Nat → Nat → Int32} {U : Nat → Int32} (hF : FG c G F) (hU : UG c G U) (hs : s < 4096) :
    ∀ n m x i, i ≤ c → c < n + i → c < m + i → ∃ y, lp_X5_digest_33 (nI c) F (nI s) n x (nI i) = some y ∧ lp_X6_digest_33 (nI c) U (nI s) m x (nI i) = some y := by
  have hc := hF.1
  intro n
  induction n with
  | zero => intro m x i h1 h2; omega
  | succ n ih =>
    intro m x i h1 h2 h3
    obtain ⟨m, rfl⟩ : ∃ m', m = m' + 1 := ⟨m - 1, by omega⟩
    rw [lp_X5_digest_33, lp_X6_digest_33]
    by_cases e : i = c
    · subst e
      simp only [if_pos (show nI i ≤ nI i by rw [i_le (by omega) (by omega)]; omega)]
      exact ⟨x, rfl, rfl⟩
    · simp only [if_neg (show ¬ nI c ≤ nI i by rw [i_le (by omega) (by omega)]; omega)]
      obtain ⟨y, e1, e2⟩ := e_lp_dig2 hF hU hs (show i < c by omega) FU FU x 0 (by omega) (by rw [FU_eq]; omega) (by rw [FU_eq]; omega)
      rw [← l0] at e1 e2
      rw [e1, e2, bs, bs, e_has (by omega) (by omega), bs]
      have e3 : (if (if s / 2 ^ i % 2 = 1 then nI 1 else nI 0) = 0 then some (0 : Int32) else some 1) = some (if s / 2 ^ i % 2 = 1 then nI 1 else nI 0) := h01
      rw [← l0] at e3 ⊢
      rw [e3, bs, l1, nI_add, ← l1]
      exact ih m _ (i + 1) (by omega) (by omega) (by omega)
theorem e_lp_dig4 {x1 x2 x3 x4 : Int32} :
    ∀ n m x i, i ≤ 4 → 4 < n + i → 4 < m + i → ∃ y, lp_X5_digest_82 x1 x2 x3 x4 n x (nI i) = some y ∧ lp_X6_digest_103 x1 x2 x3 x4 m x (nI i) = some y := by
  intro n
  induction n with
  | zero => intro m x i h1 h2; omega
  | succ n ih =>
    intro m x i h1 h2 h3
    obtain ⟨m, rfl⟩ : ∃ m', m = m' + 1 := ⟨m - 1, by omega⟩
    rw [lp_X5_digest_82, lp_X6_digest_103]
    by_cases e : i = 4
    · subst e
      rw [if_pos (by decide), if_pos (by decide)]
      exact ⟨x, rfl, rfl⟩
    · obtain ⟨r, hr⟩ : ∃ r, (if nI i = 0 then some x1 else if nI i = 1 then some x2 else if nI i = 2 then some x3 else some x4) = some r := by
        split
        · exact ⟨_, rfl⟩
        · split
          · exact ⟨_, rfl⟩
          · split
            · exact ⟨_, rfl⟩
            · exact ⟨_, rfl⟩
      unfold f_X0_tally f_X6_wasOf
      rw [if_neg (show ¬ 3 < nI i by rw [l3, i_lt (by omega) (by omega)]; omega), if_neg (show ¬ 4 ≤ nI i by rw [l4, i_le (by omega) (by omega)]; omega), hr, bs, bs, l1, nI_add]
      exact ih m _ (i + 1) (by omega) (by omega) (by omega)
theorem e_lp_dig5 {p : Nat} {ps an : Nat → Int32} (hp : p ≤ 300) (hv : ∀ i, i < p → ps i = an i) :
    ∀ n m x i, i ≤ p → p < n + i → p < m + i → ∃ y, lp_X5_digest_111 (nI p) ps n x (nI i) = some y ∧ lp_X6_digest_129 (nI p) an m x (nI i) = some y := by
  intro n
  induction n with
  | zero => intro m x i h1 h2; omega
  | succ n ih =>
    intro m x i h1 h2 h3
    obtain ⟨m, rfl⟩ : ∃ m', m = m' + 1 := ⟨m - 1, by omega⟩
    rw [lp_X5_digest_111, lp_X6_digest_129]
    by_cases e : i = p
    · subst e
      simp only [if_pos (show nI i ≤ nI i by rw [i_le (by omega) (by omega)]; omega)]
      exact ⟨x, rfl, rfl⟩
    · simp only [if_neg (show ¬ nI p ≤ nI i by rw [i_le (by omega) (by omega)]; omega)]
      rw [e_sign hp (by omega), bs, i_in (by omega), if_pos (decide_eq_true (by omega)), i_cl (by omega), ← hv i (by omega), l1, nI_add]
      exact ih m _ (i + 1) (by omega) (by omega) (by omega)
theorem e_digest {w c s t p : Nat} {G : Nat → Nat → Nat} {rc mn xb xf x1 x2 x3 pl al : Int32} {F : Nat → Nat → Int32} {U q ps an : Nat → Int32} (hu : UR c G rc F mn U) (hs : s < 4096) (hq : RQ xb xf q) (ha : ANS p pl ps al an) :
    ∃ y, f_X5_digest (nI w) xb xf rc F (nI s) x1 x2 x3 (nI t) pl ps = some y ∧ f_X6_digest mn (nI w) (nI s) x1 x2 x3 (nI t) al U q an = some y := by
  have hF := hu.F
  have hU := hu.U
  obtain ⟨hc, rfl, rfl, _⟩ := hu
  obtain ⟨hp, rfl, rfl, hv⟩ := ha
  obtain ⟨y1, a1, b1⟩ := e_lp_dig1 (w := w) (c := c) (t := t) (p := p) hq FU FU 2029 0 (by omega) (by rw [FU_eq]; omega) (by rw [FU_eq]; omega)
  obtain ⟨y2, a2, b2⟩ := e_lp_dig3 hF hU hs FU FU y1 0 (by omega) (by rw [FU_eq]; omega) (by rw [FU_eq]; omega)
  obtain ⟨y3, a3, b3⟩ := e_lp_dig4 (x1 := nI s) (x2 := x1) (x3 := x2) (x4 := x3) FU FU y2 0 (by omega) (by rw [FU_eq]; omega) (by rw [FU_eq]; omega)
  obtain ⟨y4, a4, b4⟩ := e_lp_dig5 hp hv FU FU y3 0 (by omega) (by rw [FU_eq]; omega) (by rw [FU_eq]; omega)
  rw [← l0] at a1 b1 a2 b2 a3 b3 a4 b4
  refine ⟨y4, ?_, ?_⟩
  · unfold f_X5_digest; rw [a1, bs, a2, bs, a3, bs, a4, bs]
  · unfold f_X6_digest; rw [b1, bs, b2, bs, b3, bs, b4, bs]
