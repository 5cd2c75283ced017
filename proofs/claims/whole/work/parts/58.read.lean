/-! reading: blanks and words -/
theorem e_byteAt {t i : Nat} {b : Nat → Nat} {st : Nat → Int32} (ht : t ≤ 120) (hv : ∀ j, j < t → st j = nI (b j)) (hi : i ≤ 1000) : f_X4_byteAt (nI t) st (nI i) = some (if i < t then nI (b i) else -1) := by
  unfold f_X4_byteAt
  rw [if_neg (by rw [l0, i_lt (by omega) (by omega)]; omega)]
  by_cases g : i < t
  · rw [if_pos g, if_neg (by rw [i_le (by omega) (by omega)]; omega), if_neg (by rw [l120, i_le (by omega) (by omega)]; omega), i_in (by omega), if_pos (decide_eq_true (by omega)), i_cl (by omega), hv i g]
  · rw [if_neg g, if_pos (by rw [i_le (by omega) (by omega)]; omega)]
theorem e_isByte {t i lo hi : Nat} {b : Nat → Nat} {mt : Nat → Int32} (ht : t ≤ 120) (hv : ∀ j, j < t → mt j = nI (b j)) (hb : ∀ j, j < t → b j ≤ 127) (hi' : i ≤ 1000) (hl : lo ≤ 1000) (hh : hi ≤ 1000) :
    f_X6_isByte (nI t) mt (nI i) (nI lo) (nI hi) = some (bI (decide (i < t ∧ lo ≤ b i ∧ b i ≤ hi))) := by
  unfold f_X6_isByte
  by_cases g : i < t
  · have := hb i g
    rw [if_neg (by rw [i_le (by omega) (by omega)]; omega), i_in (by omega), if_pos (decide_eq_true (by omega)), i_cl (by omega), hv i g, in_nI (by omega) (by omega) (by omega), bs]
    by_cases g2 : lo ≤ b i ∧ b i ≤ hi
    · rw [if_pos g2, decide_eq_true ⟨g, g2⟩]; rfl
    · rw [if_neg g2, decide_eq_false (fun q => g2 q.2)]; rfl
  · rw [if_pos (by rw [i_le (by omega) (by omega)]; omega), decide_eq_false (fun q => g q.1)]; rfl
/-- behind the blanks -/
def nb (b : Nat → Nat) : Nat → Bool := fun j => !decide (b j = 32)
def sk (b : Nat → Nat) (t a : Nat) : Nat := nxt (nb b) t a
theorem e_lp_skipC {t : Nat} {b : Nat → Nat} {st : Nat → Int32} (ht : t ≤ 120) (hv : ∀ j, j < t → st j = nI (b j)) (hb : ∀ j, j < t → b j ≤ 127) :
    ∀ n k i, k ≤ i → i ≤ t → t < n + i → lp_X4_skipBlanks_2 (nI t) st n (nI k) (nI i) = some (nI (sk b t i)) := by
  intro n
  induction n with
  | zero => intro k i h1 h2 h3; omega
  | succ n ih =>
    intro k i h1 h2 h3
    rw [lp_X4_skipBlanks_2]
    by_cases g : 120 ≤ k
    · rw [if_pos (by rw [l120, i_le (by omega) (by omega)]; omega)]
      unfold sk
      rw [nxt_ge (by omega), show i = t by omega]
    · rw [if_neg (by rw [l120, i_le (by omega) (by omega)]; omega), e_byteAt ht hv (by omega), bs]
      by_cases gi : i < t
      · have := hb i gi
        simp (disch := omega) only [if_pos gi, l32, i_eq]
        by_cases gb : b i = 32
        · have : nb b i = false := by unfold nb; rw [decide_eq_true gb]; rfl
          rw [if_pos gb, l1, nI_add, nI_add, ih (k + 1) (i + 1) (by omega) (by omega) (by omega)]
          unfold sk
          rw [nxt_no gi this]
        · have : nb b i = true := by unfold nb; rw [decide_eq_false gb]; rfl
          rw [if_neg gb]
          unfold sk
          rw [nxt_yes gi this]
      · rw [if_neg gi, if_neg (by decide)]
        unfold sk
        rw [nxt_ge (by omega), show i = t by omega]
theorem e_skipC {t a : Nat} {b : Nat → Nat} {st : Nat → Int32} (ht : t ≤ 120) (hv : ∀ j, j < t → st j = nI (b j)) (hb : ∀ j, j < t → b j ≤ 127) (ha : a ≤ t) : f_X4_skipBlanks (nI t) (nI a) st = some (nI (sk b t a)) := by
  unfold f_X4_skipBlanks
  have h := e_lp_skipC ht hv hb FU 0 a (by omega) ha (by rw [FU_eq]; omega)
  rw [← l0] at h
  rw [h, bs]
theorem e_lp_skipM {t : Nat} {b : Nat → Nat} {mt : Nat → Int32} (ht : t ≤ 120) (hv : ∀ j, j < t → mt j = nI (b j)) (hb : ∀ j, j < t → b j ≤ 127) :
    ∀ n i, i ≤ t → t < n + i → lp_X6_skip_0 (nI t) mt n (nI i) = some (nI (sk b t i)) := by
  intro n
  induction n with
  | zero => intro i h1 h2; omega
  | succ n ih =>
    intro i h1 h2
    rw [lp_X6_skip_0]
    by_cases gi : i < t
    · have := hb i gi
      rw [if_neg (by rw [i_le (by omega) (by omega)]; omega), i_in (by omega), if_pos (decide_eq_true (by omega)), i_cl (by omega), hv i gi]
      simp (disch := omega) only [l32, i_eq]
      by_cases gb : b i = 32
      · have : nb b i = false := by unfold nb; rw [decide_eq_true gb]; rfl
        rw [if_pos gb, l1, nI_add, ih (i + 1) (by omega) (by omega)]
        unfold sk
        rw [nxt_no gi this]
      · have : nb b i = true := by unfold nb; rw [decide_eq_false gb]; rfl
        rw [if_neg gb]
        unfold sk
        rw [nxt_yes gi this]
    · rw [if_pos (by rw [i_le (by omega) (by omega)]; omega)]
      unfold sk
      rw [nxt_ge (by omega), show i = t by omega]
theorem e_skipM {t a : Nat} {b : Nat → Nat} {mt : Nat → Int32} (ht : t ≤ 120) (hv : ∀ j, j < t → mt j = nI (b j)) (hb : ∀ j, j < t → b j ≤ 127) (ha : a ≤ t) : f_X6_skip (nI t) (nI a) mt = some (nI (sk b t a)) := by
  unfold f_X6_skip
  rw [e_lp_skipM ht hv hb FU a ha (by rw [FU_eq]; omega), bs]
theorem sk_le (b : Nat → Nat) (t a : Nat) : sk b t a ≤ t := nxt_le _ _ _
theorem sk_ge {b : Nat → Nat} {t a : Nat} (h : a ≤ t) : a ≤ sk b t a := nxt_from h
theorem sk_sk (b : Nat → Nat) (t a : Nat) : sk b t (sk b t a) = sk b t a := by
  by_cases g : sk b t a < t
  · exact nxt_yes g (nxt_holds g)
  · have := sk_le b t a
    have e : sk b t a = t := by omega
    rw [e]
    exact nxt_ge (Nat.le_refl _)
/-- behind the letters -/
def nl (b : Nat → Nat) : Nat → Bool := fun j => !decide (97 ≤ b j ∧ b j ≤ 122)
def le (b : Nat → Nat) (t a : Nat) : Nat := nxt (nl b) t a
theorem e_lp_rw7 {t : Nat} {b : Nat → Nat} {st : Nat → Int32} (ht : t ≤ 120) (hv : ∀ j, j < t → st j = nI (b j)) (hb : ∀ j, j < t → b j ≤ 127) :
    ∀ n k i, k ≤ i → i ≤ t → t < n + i → lp_X4_readWord_7 (nI t) st n (nI k) (nI i) = some (nI (le b t i)) := by
  intro n
  induction n with
  | zero => intro k i h1 h2 h3; omega
  | succ n ih =>
    intro k i h1 h2 h3
    rw [lp_X4_readWord_7]
    by_cases g : 120 ≤ k
    · rw [if_pos (by rw [l120, i_le (by omega) (by omega)]; omega)]
      unfold le
      rw [nxt_ge (by omega), show i = t by omega]
    · rw [if_neg (by rw [l120, i_le (by omega) (by omega)]; omega), e_byteAt ht hv (by omega), bs, bs]
      by_cases gi : i < t
      · have := hb i gi
        simp (disch := omega) only [if_pos gi, l97, l122, i_lt]
        by_cases gb : 97 ≤ b i ∧ b i ≤ 122
        · have hn : nl b i = false := by unfold nl; rw [decide_eq_true gb]; rfl
          rw [if_neg (by omega), if_neg (by omega), l1, nI_add, nI_add, ih (k + 1) (i + 1) (by omega) (by omega) (by omega)]
          unfold le
          rw [nxt_no gi hn]
        · have hn : nl b i = true := by unfold nl; rw [decide_eq_false gb]; rfl
          have : le b t i = i := nxt_yes gi hn
          rw [this]
          by_cases g1 : b i < 97
          · rw [if_pos g1]
          · rw [if_neg g1, if_pos (by omega)]
      · rw [if_neg gi, if_pos (by decide)]
        unfold le
        rw [nxt_ge (by omega), show i = t by omega]
/-- the word w stands from a to e -/
def isW (b : Nat → Nat) (a e w : Nat) : Bool := decide ((wd w).length = e - a ∧ ∀ i, i < (wd w).length → b (a + i) = (wd w).getD i 0)
theorem e_lp_stands {t a w : Nat} {b : Nat → Nat} {st : Nat → Int32} (ht : t ≤ 120) (hv : ∀ j, j < t → st j = nI (b j)) (hb : ∀ j, j < t → b j ≤ 127) (hw : w < 13) (ha : a + (wd w).length ≤ t) :
    ∀ n i, i ≤ (wd w).length → (wd w).length < n + i → ∃ r, lp_X4_stands_15 w (nI t) st (nI a) n (nI i) = some r ∧ (r = 0 ↔ ¬ ∀ j, i ≤ j → j < (wd w).length → b (a + j) = (wd w).getD j 0) := by
  obtain ⟨h1, h2, h3⟩ := wd_len w hw
  intro n
  induction n with
  | zero => intro i g1 g2; omega
  | succ n ih =>
    intro i g1 g2
    rw [lp_X4_stands_15, h1, bs]
    by_cases e : i = (wd w).length
    · rw [if_pos (by rw [i_le (by omega) (by omega)]; omega)]
      exact ⟨1, rfl, ⟨fun q => (by cases q), fun q => absurd (fun j k1 k2 => (by omega)) q⟩⟩
    · have hi : i < (wd w).length := by omega
      have hr := wd_rng w hw i hi
      have hb2 := hb (a + i) (by omega)
      rw [if_neg (by rw [i_le (by omega) (by omega)]; omega), nI_add, e_byteAt ht hv (by omega), bs, wd_chr w hw i hi, bs, if_pos (show a + i < t by omega), show nI i + 1 = nI (i + 1) by rw [l1, nI_add]]
      simp (disch := omega) only [i_eq]
      by_cases g : b (a + i) = (wd w).getD i 0
      · rw [if_pos g]
        obtain ⟨r, k1, k2⟩ := ih (i + 1) (by omega) (by omega)
        refine ⟨r, k1, ?_⟩
        rw [k2]
        constructor
        · intro q q2; exact q (fun j j1 j2 => q2 j (by omega) j2)
        · intro q q2
          refine q (fun j j1 j2 => ?_)
          by_cases ej : j = i
          · subst ej; exact g
          · exact q2 j (by omega) j2
      · rw [if_neg g]
        exact ⟨0, rfl, ⟨fun _ q => g (q i (Nat.le_refl _) hi), fun _ => rfl⟩⟩
theorem e_stands {t a e w : Nat} {b : Nat → Nat} {st : Nat → Int32} (ht : t ≤ 120) (hv : ∀ j, j < t → st j = nI (b j)) (hb : ∀ j, j < t → b j ≤ 127) (hw : w < 13) (ha : a ≤ e) (he : e ≤ t) : f_X4_stands (nI t) st w (nI a) (nI e) = some (bI (isW b a e w)) := by
  obtain ⟨h1, h2, h3⟩ := wd_len w hw
  unfold f_X4_stands
  rw [h1, bs, i_sub ha]
  simp (disch := omega) only [i_eq]
  unfold isW
  by_cases g : (wd w).length = e - a
  · rw [if_pos g]
    obtain ⟨r, k1, k2⟩ := e_lp_stands ht hv hb hw (show a + (wd w).length ≤ t by omega) FU 0 (by omega) (by rw [FU_eq]; omega)
    rw [← l0] at k1
    rw [k1, bs]
    by_cases gr : r = 0
    · rw [if_pos gr, decide_eq_false (fun q => k2.mp gr (fun j _ j2 => q.2 j j2))]; rfl
    · have : ∀ j, 0 ≤ j → j < (wd w).length → b (a + j) = (wd w).getD j 0 := Classical.byContradiction (fun q => gr (k2.mpr q))
      rw [if_neg gr, decide_eq_true ⟨g, fun j j2 => this j (Nat.zero_le _) j2⟩]; rfl
  · rw [if_neg g, decide_eq_false (fun q => g q.1)]; rfl
theorem e_lp_rw57 {t a e : Nat} {b : Nat → Nat} {st : Nat → Int32} (ht : t ≤ 120) (hv : ∀ j, j < t → st j = nI (b j)) (hb : ∀ j, j < t → b j ≤ 127) (ha : a ≤ e) (he : e ≤ t) :
    ∀ n v, v ≤ 13 → 13 < n + v → lp_X4_readWord_57 (nI t) st (nI a) (nI e) n (nI v) = some (if nxt (isW b a e) 13 v < 13 then (0, nI (nxt (isW b a e) 13 v)) else (1, nI 13)) := by
  intro n
  induction n with
  | zero => intro v h1 h2; omega
  | succ n ih =>
    intro v h1 h2
    rw [lp_X4_readWord_57]
    by_cases g : v = 13
    · subst g
      rw [if_pos (by rw [l13, i_le (by omega) (by omega)]; omega), if_neg (by rw [nxt_ge (by omega)]; omega)]
    · have hv13 : v < 13 := by omega
      rw [if_neg (by rw [l13, i_le (by omega) (by omega)]; omega), word_tab v hv13, bs, e_stands ht hv hb hv13 ha he, bs]
      simp only [bIv]
      cases hp : isW b a e v with
      | false => rw [if_pos rfl, nxt_no hv13 hp, show nI v + 1 = nI (v + 1) by rw [l1, nI_add]]; exact ih (v + 1) (by omega) (by omega)
      | true => rw [if_neg (by decide), nxt_yes hv13 hp, if_pos hv13]
theorem e_readWord {t a : Nat} {b : Nat → Nat} {st : Nat → Int32} (ht : t ≤ 120) (hv : ∀ j, j < t → st j = nI (b j)) (hb : ∀ j, j < t → b j ≤ 127) (ha : a ≤ t) :
    f_X4_readWord (nI t) (nI a) st = some (eN 13 (nxt (isW b a (le b t a)) 13 0), nI (le b t a)) := by
  have h1 : a ≤ le b t a := nxt_from ha
  have h2 : le b t a ≤ t := nxt_le _ _ _
  have k1 := e_lp_rw7 ht hv hb FU 0 a (by omega) ha (by rw [FU_eq]; omega)
  have k2 := e_lp_rw57 ht hv hb h1 h2 FU 0 (by omega) (by rw [FU_eq]; omega)
  rw [← l0] at k1 k2
  unfold f_X4_readWord eN
  rw [k1, bs, k2, bs]
  by_cases g : nxt (isW b a (le b t a)) 13 0 < 13
  · rw [if_pos g, if_pos g, if_pos rfl]
  · rw [if_neg g, if_neg g, if_neg (by decide)]
