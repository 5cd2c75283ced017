/-! the beginning and the end of a walk -/
theorem e_lp_begin {c : Nat} {G : Nat → Nat → Nat} {F : Nat → Nat → Int32} (hf : FG c G F) :
    ∀ n i a, i ≤ 12 → 12 < n + i → (∀ j, j < i → a j = nI (if j < c then G 0 j else 0)) → ∃ a', lp_X0_begin_2 (nI c) F n (nI i) a = some a' ∧ CL c (fun j => G 0 j) a' := by
  have hc := hf.1
  intro n
  induction n with
  | zero => intro i a h1 h2; omega
  | succ n ih =>
    intro i a h1 h2 h3
    rw [lp_X0_begin_2]
    by_cases h12 : i = 12
    · subst h12
      rw [if_pos (by rw [l12, i_le (by omega) (by omega)]; omega)]
      exact ⟨a, rfl, h3⟩
    · rw [if_neg (by rw [l12, i_le (by omega) (by omega)]; omega)]
      have e : f_X3_fact (nI c) F (nI i) 0 = some (nI (if i < c then G 0 i else 0)) := by
        by_cases hi : i < c
        · rw [if_pos hi]; exact hf.f hi (w := 0) (by omega)
        · rw [if_neg hi]; exact e_fact0 (w := 0) hc (by omega) (by omega)
      rw [e, bs, i_in (by omega), if_pos (decide_eq_true (by omega)), i_cl (by omega), l1, nI_add]
      refine ih (i + 1) _ (by omega) (by omega) (fun j hj => ?_)
      show (if j = i then _ else a j) = _
      by_cases e2 : j = i
      · subst e2; rw [if_pos rfl]
      · rw [if_neg e2]; exact h3 j (by omega)
theorem e_begin {c : Nat} {G : Nat → Nat → Nat} {F : Nat → Nat → Int32} {a : Nat → Int32} (hf : FG c G F) : ∃ a', f_X0_begin (nI c) F a = some a' ∧ CL c (fun j => G 0 j) a' := by
  obtain ⟨a', h1, h2⟩ := e_lp_begin hf FU 0 a (by omega) (by rw [FU_eq]; omega) (fun j hj => by omega)
  refine ⟨a', ?_, h2⟩
  unfold f_X0_begin
  rw [l0, h1, bs]
theorem e_lp_begins {c : Nat} {G : Nat → Nat → Nat} {U : Nat → Int32} (hu : UG c G U) :
    ∀ n i a, i ≤ c → c < n + i → (∀ j, j < i → a j = nI (G 0 j)) → ∃ a', lp_X6_begins_2 (nI c) U n (nI i) a = some a' ∧ ML c (fun j => G 0 j) a' := by
  have hc := hu.1
  intro n
  induction n with
  | zero => intro i a h1 h2; omega
  | succ n ih =>
    intro i a h1 h2 h3
    rw [lp_X6_begins_2]
    by_cases h12 : i = c
    · subst h12
      rw [if_pos (by rw [i_le (by omega) (by omega)]; omega)]
      exact ⟨a, rfl, h3⟩
    · rw [if_neg (by rw [i_le (by omega) (by omega)]; omega)]
      have e : f_X6_at U (nI i) 0 = some (nI (G 0 i)) := hu.f (show i < c by omega) (w := 0) (by omega)
      rw [e, bs, i_in (by omega), if_pos (decide_eq_true (by omega)), i_cl (by omega), l1, nI_add]
      refine ih (i + 1) _ (by omega) (by omega) (fun j hj => ?_)
      show (if j = i then _ else a j) = _
      by_cases e2 : j = i
      · subst e2; rw [if_pos rfl]
      · rw [if_neg e2]; exact h3 j (by omega)
theorem e_begins {c : Nat} {G : Nat → Nat → Nat} {U : Nat → Int32} {a : Nat → Int32} (hu : UG c G U) : ∃ a', f_X6_begins (nI c) U a = some a' ∧ ML c (fun j => G 0 j) a' := by
  have hc := hu.1
  obtain ⟨a', h1, h2⟩ := e_lp_begins hu FU 0 a (by omega) (by rw [FU_eq]; omega) (fun j hj => by omega)
  refine ⟨a', ?_, h2⟩
  unfold f_X6_begins
  rw [l0, h1, bs]
/-- those of which all is left, as a sample -/
def wsN (L : Nat → Nat) : Nat → Nat
  | 0 => 0
  | i + 1 => if L i = 12 then wsN L i ||| 2 ^ i else wsN L i
theorem ws_lt (L : Nat → Nat) : ∀ i, wsN L i < 2 ^ i
  | 0 => Nat.zero_lt_one
  | i + 1 => by
    have h := ws_lt L i
    have hp : 2 ^ i < 2 ^ (i + 1) := Nat.pow_lt_pow_right (by decide) (by omega)
    rw [wsN]
    by_cases e : L i = 12
    · rw [if_pos e]
      exact Nat.or_lt_two_pow (by omega) hp
    · rw [if_neg e]; omega
theorem ws_cong {L L2 : Nat → Nat} : ∀ c, (∀ i, i < c → L i = L2 i) → wsN L c = wsN L2 c
  | 0, _ => rfl
  | c + 1, h => by rw [wsN, wsN, ws_cong c (fun i hi => h i (by omega)), h c (by omega)]
theorem e_lp_whole {c : Nat} {L : Nat → Nat} {a : Nat → Int32} (h : CL c L a) (hb : LB c L) :
    ∀ n i, i ≤ 12 → 12 < n + i → lp_X0_wholeOnes_4 a n (nI (wsN L (min i c))) (nI i) = some (nI (wsN L c)) := by
  have hc := hb.1
  intro n
  induction n with
  | zero => intro i h1 h2; omega
  | succ n ih =>
    intro i h1 h2
    rw [lp_X0_wholeOnes_4]
    by_cases h12 : i = 12
    · subst h12
      rw [if_pos (by rw [l12, i_le (by omega) (by omega)]; omega), Nat.min_eq_right hc]
    · rw [if_neg (by rw [l12, i_le (by omega) (by omega)]; omega), i_in (by omega), if_pos (decide_eq_true (by omega)), i_cl (by omega), h i (by omega)]
      have ih' := ih (i + 1) (by omega) (by omega)
      rw [l1, l31, i_shl (by omega), nI_add]
      by_cases hic : i < c
      · have hl := hb.2 i hic
        rw [Nat.min_eq_left (by omega)] at ih' ⊢
        rw [wsN] at ih'
        simp (disch := omega) only [if_pos hic, l12, i_eq, fa_or]
        by_cases e : L i = 12
        · rw [if_pos e, bs]; rw [if_pos e] at ih'; exact ih'
        · rw [if_neg e, bs]; rw [if_neg e] at ih'; exact ih'
      · rw [if_neg hic]
        rw [Nat.min_eq_right (by omega)] at ih' ⊢
        rw [if_neg (by decide), bs]
        exact ih'
theorem e_whole {c : Nat} {L : Nat → Nat} {a : Nat → Int32} (h : CL c L a) (hb : LB c L) : f_X0_wholeOnes a = some (nI (wsN L c)) := by
  unfold f_X0_wholeOnes
  have := e_lp_whole h hb FU 0 (by omega) (by rw [FU_eq]; omega)
  rw [Nat.zero_min] at this
  have e : lp_X0_wholeOnes_4 a FU 0 0 = some (nI (wsN L c)) := this
  rw [e, bs]
theorem e_lp_sampleNow {c : Nat} {L : Nat → Nat} {a : Nat → Int32} (h : ML c L a) (hb : LB c L) :
    ∀ n i, i ≤ c → c < n + i → lp_X6_sampleNow_4 (nI c) a n (nI (wsN L i)) (nI i) = some (nI (wsN L c)) := by
  have hc := hb.1
  intro n
  induction n with
  | zero => intro i h1 h2; omega
  | succ n ih =>
    intro i h1 h2
    rw [lp_X6_sampleNow_4]
    by_cases h12 : i = c
    · subst h12
      rw [if_pos (by rw [i_le (by omega) (by omega)]; omega)]
    · have hic : i < c := by omega
      have hl := hb.2 i hic
      have ih' := ih (i + 1) (by omega) (by omega)
      rw [wsN] at ih'
      rw [if_neg (by rw [i_le (by omega) (by omega)]; omega), i_in (by omega), if_pos (decide_eq_true (by omega)), i_cl (by omega), h i hic, l1, l31, i_shl (by omega), nI_add]
      simp (disch := omega) only [l12, i_eq]
      by_cases e : L i = 12
      · rw [if_pos e, bs, fa_or]; rw [if_pos e] at ih'; exact ih'
      · rw [if_neg e, bs, l0, fa_or, Nat.or_zero]; rw [if_neg e] at ih'; exact ih'
theorem e_sampleNow {c : Nat} {L : Nat → Nat} {a : Nat → Int32} (h : ML c L a) (hb : LB c L) : f_X6_sampleNow (nI c) a = some (nI (wsN L c)) := by
  have hc := hb.1
  unfold f_X6_sampleNow
  have e : lp_X6_sampleNow_4 (nI c) a FU 0 0 = some (nI (wsN L c)) := e_lp_sampleNow h hb FU 0 (by omega) (by rw [FU_eq]; omega)
  rw [e, bs]
/-- run and walked: the same sample, the same plays -/
theorem e_run {w c : Nat} {G : Nat → Nat → Nat} {F : Nat → Nat → Int32} {U : Nat → Int32} (hw : w < 5) (hf : FG c G F) (hu : UG c G U) (u v one two x : Int32) (l f1 f2 f3 ml pn : Nat → Int32) :
    ∃ s k sm lg u' v' one' two' l' f1' f2' f3' ml' pn', f_X0_run (nI c) F u v l f1 f2 f3 (nI w) x = some (nI s, nI k, nI sm, nI lg, u', v', l', f1', f2', f3') ∧
      f_X6_walked (nI c) (nI w) one two U ml pn x = some (nI s, one', two', nI k, nI sm, nI lg, ml', pn') ∧ s < 2 ^ c ∧ k ≤ 12 ∧ sm ≤ 12 ∧ lg ≤ 12 ∧ REC k f1' f2' f3' pn' := by
  have hc := hf.1
  obtain ⟨a, ea, hC⟩ := e_begin (a := l) hf
  obtain ⟨b, eb, hM⟩ := e_begins (a := ml) hu
  have hB : LB c (fun j => G 0 j) := ⟨hc, fun i hi => hf.g0 hi⟩
  have hW := e_lp_walk hw hf hu FU FU x.toInt64 0 0 0 _ a b f1 f2 f3 pn u v one two hC hM hB (by have := oc_le (fun j => G 0 j) c; omega) (by rw [FU_eq]; omega) (by rw [FU_eq]; omega) (Nat.le_refl _) (Nat.le_refl _) (fun i hi => by omega)
  obtain ⟨k, sm, lg, L, a', b', f1', f2', f3', pn', u', v', one', two', e1, e2, hk, hs, hg, hC', hM', hB', hR⟩ := hW
  refine ⟨wsN L c, k, sm, lg, u', v', one', two', a', f1', f2', f3', b', pn', ?_, ?_, ws_lt L c, hk, by omega, by omega, hR⟩
  · have e1 : lp_X0_run_16 (nI c) F (nI w) FU x.toInt64 0 0 0 0 u v a f1 f2 f3 = some (nI k, nI sm, nI lg, u', v', a', f1', f2', f3') := e1
    unfold f_X0_run f_X0_forget
    rw [bs, ea, bs, e1, bs, e_whole hC' hB', bs]
  · have e2 : lp_X6_walked_22 (nI c) (nI w) U FU x.toInt64 one two 0 0 0 b pn = some (one', two', nI k, nI sm, nI lg, b', pn') := e2
    unfold f_X6_walked
    rw [eb, bs, e2, bs, e_sampleNow hM' hB', bs]
