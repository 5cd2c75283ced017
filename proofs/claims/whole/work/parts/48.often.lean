/-! often, both, best -/
theorem e_areSeeds (a a1 : Int32) : (f_X5_areSeeds a a1 = some 0 ∧ f_X6_areSeeds a a1 = some 0) ∨ ∃ m k, m ≤ 999999 ∧ 1 ≤ k ∧ k ≤ 60 ∧ a = nI m ∧ a1 = nI k ∧ f_X5_areSeeds a a1 = some 1 ∧ f_X6_areSeeds a a1 = some 1 := by
  unfold f_X5_areSeeds f_X6_areSeeds
  rcases e_isSeed a with ⟨h1, h2⟩ | ⟨m, hm, rfl, h1, h2⟩
  · left; rw [h1, h2]; exact ⟨rfl, rfl⟩
  · rw [h1, h2, bs, bs]
    simp only [if_neg (show ¬ (1 : Int32) = 0 by decide)]
    rcases i_cases a1 with h | ⟨k, hk, rfl⟩
    · left
      have h1 : a1 < 1 := by
        rw [fa_lt] at h ⊢
        have e1 : (1 : Int32).toInt = 1 := by decide
        have e0 : (0 : Int32).toInt = 0 := by decide
        omega
      rw [if_pos h1, L1, L60, e_in, if_pos (by rw [← l1]; exact h1), bs]
      exact ⟨rfl, rfl⟩
    · by_cases g : 1 ≤ k ∧ k ≤ 60
      · rw [if_neg (show ¬ nI k < 1 by rw [l1, i_lt (by omega) (by omega)]; omega), if_neg (show ¬ 60 < nI k by rw [l60, i_lt (by omega) (by omega)]; omega), L1, L60, in_yes g.1 g.2 (by omega), bs, if_neg (show ¬ (1 : Int32) = 0 by decide)]
        by_cases g2 : 1000000 < nI m + nI k
        · left; rw [if_pos g2]; exact ⟨rfl, rfl⟩
        · right; rw [if_neg g2]; exact ⟨m, k, hm, g.1, g.2, rfl, rfl, rfl, rfl⟩
      · left
        rw [L1, L60, in_no hk g (by omega) (by omega)]
        by_cases g1 : k < 1
        · rw [if_pos (show nI k < 1 by rw [l1, i_lt (by omega) (by omega)]; omega)]
          exact ⟨rfl, rfl⟩
        · rw [if_neg (show ¬ nI k < 1 by rw [l1, i_lt (by omega) (by omega)]; omega), if_pos (show 60 < nI k by rw [l60, i_lt (by omega) (by omega)]; omega)]
          exact ⟨rfl, rfl⟩
theorem e_lp_often {w c k : Nat} {G : Nat → Nat → Nat} {F : Nat → Nat → Int32} {U : Nat → Int32} (hw : w < 5) (hf : FG c G F) (hu : UG c G U) (hk : k ≤ 60) (a0 a1 : Int32) :
    ∀ n m i v t1 t2 t3 t4 t5 t6 tl f1 f2 f3 o1 o2 o3 o4 o5 ml pn, i ≤ k → k < n + i → k < m + i →
      ∃ r t1' t2' t3' t4' t5' t6' tl' f1' f2' f3' o1' o2' o3' o4' o5' ml' pn', lp_X5_walksWith_6 (nI k) (nI c) F (nI w) a1 a0 n v (nI i) t1 t2 t3 t4 t5 t6 tl f1 f2 f3 = some (r, t1', t2', t3', t4', t5', t6', tl', f1', f2', f3') ∧
        lp_X6_howOften_6 (nI k) (nI c) (nI w) U a1 a0 m v (nI i) o1 o2 o3 o4 o5 ml pn = some (r, o1', o2', o3', o4', o5', ml', pn') := by
  intro n
  induction n with
  | zero => intro m i v t1 t2 t3 t4 t5 t6 tl f1 f2 f3 o1 o2 o3 o4 o5 ml pn h1 h2; omega
  | succ n ih =>
    intro m i v t1 t2 t3 t4 t5 t6 tl f1 f2 f3 o1 o2 o3 o4 o5 ml pn h1 h2 h3
    obtain ⟨m, rfl⟩ : ∃ m', m = m' + 1 := ⟨m - 1, by omega⟩
    rw [lp_X5_walksWith_6, lp_X6_howOften_6]
    by_cases e : i = k
    · subst e
      simp only [if_pos (show nI i ≤ nI i by rw [i_le (by omega) (by omega)]; omega)]
      exact ⟨v, t1, t2, t3, t4, t5, t6, tl, f1, f2, f3, o1, o2, o3, o4, o5, ml, pn, rfl, rfl⟩
    · simp only [if_neg (show ¬ nI k ≤ nI i by rw [i_le (by omega) (by omega)]; omega)]
      obtain ⟨s, k', sm, lg, u', v', one', two', l', f1', f2', f3', ml', pn', b1, b2, _, _, _, _, _⟩ := e_run hw hf hu t5 t6 o1 o2 (a1 + nI i) tl f1 f2 f3 ml pn
      rw [b1, b2, bs, bs]
      dsimp (config := { instances := true }) only
      have hq : ∃ v', (if (nI s &&& a0) = a0 then some (v + 1) else some v) = some v' ∧ ∃ d, (if (nI s &&& a0) = a0 then some (1 : Int32) else some 0) = some d ∧ v + d = v' := by
        by_cases g : (nI s &&& a0) = a0
        · exact ⟨v + 1, if_pos g, 1, if_pos g, rfl⟩
        · exact ⟨v, if_neg g, 0, if_neg g, Int32.add_zero v⟩
      obtain ⟨v2, q1, d, q2, q3⟩ := hq
      rw [q1, q2, bs, bs, q3, l1, nI_add]
      exact ih m (i + 1) v2 _ _ _ _ _ _ _ _ _ _ _ _ _ _ _ _ _ (by omega) (by omega) (by omega)
theorem e_howOften {w c k : Nat} {G : Nat → Nat → Nat} {F : Nat → Nat → Int32} {U : Nat → Int32} (hw : w < 5) (hf : FG c G F) (hu : UG c G U) (hk : k ≤ 60) (a0 a1 t1 t2 t3 t4 t5 t6 o1 o2 o3 o4 o5 : Int32) (tl f1 f2 f3 ml pn : Nat → Int32) :
    ∃ r t1' t2' t3' t4' t5' t6' tl' f1' f2' f3' o1' o2' o3' o4' o5' ml' pn', f_X5_walksWith (nI w) (nI c) F t1 t2 t3 t4 t5 t6 tl f1 f2 f3 a0 a1 (nI k) = some (r, t1', t2', t3', t4', t5', t6', tl', f1', f2', f3') ∧
      f_X6_howOften (nI c) (nI w) o1 o2 o3 o4 o5 U ml pn a0 a1 (nI k) = some (r, o1', o2', o3', o4', o5', ml', pn') := by
  obtain ⟨r, t1', t2', t3', t4', t5', t6', tl', f1', f2', f3', o1', o2', o3', o4', o5', ml', pn', b1, b2⟩ := e_lp_often hw hf hu hk a0 a1 FU FU 0 0 t1 t2 t3 t4 t5 t6 tl f1 f2 f3 o1 o2 o3 o4 o5 ml pn (by omega) (by rw [FU_eq]; omega) (by rw [FU_eq]; omega)
  rw [← l0] at b1 b2
  refine ⟨r, t1', t2', t3', t4', t5', t6', tl', f1', f2', f3', o1', o2', o3', o4', o5', ml', pn', ?_, ?_⟩
  · unfold f_X5_walksWith; rw [b1, bs]
  · unfold f_X6_howOften; rw [b2, bs]
theorem e_often {w c : Nat} {G : Nat → Nat → Nat} {rc mn xb xf : Int32} {F : Nat → Nat → Int32} {U q : Nat → Int32} (hw : w < 5) (hu : UR c G rc F mn U) (hq : RQ xb xf q) (t1 t2 t3 t4 t5 t6 o1 o2 o3 o4 o5 a0 a1 a2 : Int32) (tl f1 f2 f3 ml pn : Nat → Int32) :
    ∃ r xb' xf' q' t1' t2' t3' t4' t5' t6' tl' f1' f2' f3' o1' o2' o3' o4' o5' ml' pn', f_X5_often (nI w) xb xf rc F t1 t2 t3 t4 t5 t6 tl f1 f2 f3 a0 a1 a2 = some (r, xb', xf', t1', t2', t3', t4', t5', t6', tl', f1', f2', f3') ∧
      f_X6_often mn (nI w) o1 o2 o3 o4 o5 U q ml pn a0 a1 a2 = some (r, o1', o2', o3', o4', o5', q', ml', pn') ∧ RQ xb' xf' q' := by
  have hF := hu.F
  have hU := hu.U
  obtain ⟨hc, rfl, rfl, _⟩ := hu
  rcases e_unit hc a0 with ⟨h1, h2⟩ | ⟨u, huc, rfl, h1, h2⟩
  · refine ⟨-2, xb + 1, xf, _, t1, t2, t3, t4, t5, t6, tl, f1, f2, f3, o1, o2, o3, o4, o5, ml, pn, ?_, ?_, hq.bad⟩
    · unfold f_X5_often; rw [h1]; rfl
    · unfold f_X6_often; rw [h2]; rfl
  rcases e_areSeeds a1 a2 with ⟨s1, s2⟩ | ⟨m, k, hm, hk1, hk, rfl, rfl, s1, s2⟩
  · refine ⟨-2, xb + 1, xf, _, t1, t2, t3, t4, t5, t6, tl, f1, f2, f3, o1, o2, o3, o4, o5, ml, pn, ?_, ?_, hq.bad⟩
    · unfold f_X5_often; rw [h1, bs, if_neg (by decide), s1]; rfl
    · unfold f_X6_often; rw [h2, bs, if_neg (by decide), s2]; rfl
  obtain ⟨r, t1', t2', t3', t4', t5', t6', tl', f1', f2', f3', o1', o2', o3', o4', o5', ml', pn', b1, b2⟩ := e_howOften hw hF hU hk (1 <<< (nI u &&& 31)) (nI m) t1 t2 t3 t4 t5 t6 o1 o2 o3 o4 o5 tl f1 f2 f3 ml pn
  refine ⟨r, xb, xf, q, t1', t2', t3', t4', t5', t6', tl', f1', f2', f3', o1', o2', o3', o4', o5', ml', pn', ?_, ?_, hq⟩
  · unfold f_X5_often; rw [h1, bs, if_neg (by decide), s1, bs, if_neg (by decide), b1, bs]
  · unfold f_X6_often; rw [h2, bs, if_neg (by decide), s2, bs, if_neg (by decide), b2, bs]
theorem e_both {w c : Nat} {G : Nat → Nat → Nat} {rc mn xb xf : Int32} {F : Nat → Nat → Int32} {U q : Nat → Int32} (hw : w < 5) (hu : UR c G rc F mn U) (hq : RQ xb xf q) (t1 t2 t3 t4 t5 t6 o1 o2 o3 o4 o5 a0 a1 a2 a3 : Int32) (tl f1 f2 f3 ml pn : Nat → Int32) :
    ∃ r xb' xf' q' t1' t2' t3' t4' t5' t6' tl' f1' f2' f3' o1' o2' o3' o4' o5' ml' pn', f_X5_both (nI w) xb xf rc F t1 t2 t3 t4 t5 t6 tl f1 f2 f3 a0 a1 a2 a3 = some (r, xb', xf', t1', t2', t3', t4', t5', t6', tl', f1', f2', f3') ∧
      f_X6_both mn (nI w) o1 o2 o3 o4 o5 U q ml pn a0 a1 a2 a3 = some (r, o1', o2', o3', o4', o5', q', ml', pn') ∧ RQ xb' xf' q' := by
  have hF := hu.F
  have hU := hu.U
  obtain ⟨hc, rfl, rfl, _⟩ := hu
  rcases e_unit hc a0 with ⟨h1, h2⟩ | ⟨u, huc, rfl, h1, h2⟩
  · refine ⟨-2, xb + 1, xf, _, t1, t2, t3, t4, t5, t6, tl, f1, f2, f3, o1, o2, o3, o4, o5, ml, pn, ?_, ?_, hq.bad⟩
    · unfold f_X5_both; rw [h1]; rfl
    · unfold f_X6_both; rw [h2]; rfl
  rcases e_unit hc a1 with ⟨k1, k2⟩ | ⟨v, hvc, rfl, k1, k2⟩
  · refine ⟨-2, xb + 1, xf, _, t1, t2, t3, t4, t5, t6, tl, f1, f2, f3, o1, o2, o3, o4, o5, ml, pn, ?_, ?_, hq.bad⟩
    · unfold f_X5_both; rw [h1, bs, if_neg (by decide), k1]; rfl
    · unfold f_X6_both; rw [h2, bs, if_neg (by decide), k2]; rfl
  by_cases e : nI u = nI v
  · refine ⟨-2, xb + 1, xf, _, t1, t2, t3, t4, t5, t6, tl, f1, f2, f3, o1, o2, o3, o4, o5, ml, pn, ?_, ?_, hq.bad⟩
    · unfold f_X5_both; rw [h1, bs, if_neg (by decide), k1, bs, if_neg (by decide), if_pos e]; rfl
    · unfold f_X6_both; rw [h2, bs, if_neg (by decide), k2, bs, if_neg (by decide), if_pos e]; rfl
  rcases e_areSeeds a2 a3 with ⟨s1, s2⟩ | ⟨m, k, hm, hk1, hk, rfl, rfl, s1, s2⟩
  · refine ⟨-2, xb + 1, xf, _, t1, t2, t3, t4, t5, t6, tl, f1, f2, f3, o1, o2, o3, o4, o5, ml, pn, ?_, ?_, hq.bad⟩
    · unfold f_X5_both; rw [h1, bs, if_neg (by decide), k1, bs, if_neg (by decide), if_neg e, s1]; rfl
    · unfold f_X6_both; rw [h2, bs, if_neg (by decide), k2, bs, if_neg (by decide), if_neg e, s2]; rfl
  obtain ⟨r, t1', t2', t3', t4', t5', t6', tl', f1', f2', f3', o1', o2', o3', o4', o5', ml', pn', b1, b2⟩ := e_howOften hw hF hU hk ((1 <<< (nI u &&& 31)) ||| (1 <<< (nI v &&& 31))) (nI m) t1 t2 t3 t4 t5 t6 o1 o2 o3 o4 o5 tl f1 f2 f3 ml pn
  refine ⟨r, xb, xf, q, t1', t2', t3', t4', t5', t6', tl', f1', f2', f3', o1', o2', o3', o4', o5', ml', pn', ?_, ?_, hq⟩
  · unfold f_X5_both; rw [h1, bs, if_neg (by decide), k1, bs, if_neg (by decide), if_neg e, s1, bs, if_neg (by decide), b1, bs]
  · unfold f_X6_both; rw [h2, bs, if_neg (by decide), k2, bs, if_neg (by decide), if_neg e, s2, bs, if_neg (by decide), b2, bs]
theorem ln_ne {d : Nat} (h : d < 9223372036854775808) : ¬ lg_cmp (lN d) (-1) = 0 := by
  rw [c_eq]
  intro e
  have e2 := congrArg Int64.toInt e
  rw [l_ti h] at e2
  have e1 : (-1 : Int64).toInt = -1 := by decide
  omega
theorem e_lp_best {w c k : Nat} {G : Nat → Nat → Nat} {F : Nat → Nat → Int32} {U : Nat → Int32} (hw : w < 5) (hf : FG c G F) (hu : UG c G U) (hk : k ≤ 60) (a0 : Int32) :
    ∀ n m i v (z : Nat) t1 t2 t3 t4 t5 t6 tl f1 f2 f3 o1 o2 o3 o4 o5 ml pn, z ≤ 1000000000 → i ≤ k → k < n + i → k < m + i →
      ∃ r y t1' t2' t3' t4' t5' t6' tl' f1' f2' f3' o1' o2' o3' o4' o5' ml' pn', lp_X5_best_36 (nI k) (nI c) F (nI w) a0 n v (lN z) (nI i) t1 t2 t3 t4 t5 t6 tl f1 f2 f3 = some (r, y, t1', t2', t3', t4', t5', t6', tl', f1', f2', f3') ∧
        lp_X6_best_43 (nI k) (nI c) (nI w) U a0 m v (lN z) (nI i) o1 o2 o3 o4 o5 ml pn = some (r, y, o1', o2', o3', o4', o5', ml', pn') := by
  intro n
  induction n with
  | zero => intro m i v z t1 t2 t3 t4 t5 t6 tl f1 f2 f3 o1 o2 o3 o4 o5 ml pn hz h1 h2; omega
  | succ n ih =>
    intro m i v z t1 t2 t3 t4 t5 t6 tl f1 f2 f3 o1 o2 o3 o4 o5 ml pn hz h1 h2 h3
    obtain ⟨m, rfl⟩ : ∃ m', m = m' + 1 := ⟨m - 1, by omega⟩
    rw [lp_X5_best_36, lp_X6_best_43]
    by_cases e : i = k
    · subst e
      simp only [if_pos (show nI i ≤ nI i by rw [i_le (by omega) (by omega)]; omega)]
      exact ⟨v, lN z, t1, t2, t3, t4, t5, t6, tl, f1, f2, f3, o1, o2, o3, o4, o5, ml, pn, rfl, rfl⟩
    · simp only [if_neg (show ¬ nI k ≤ nI i by rw [i_le (by omega) (by omega)]; omega)]
      obtain ⟨s, k', sm, lg, u', v', one', two', l', f1', f2', f3', ml', pn', b1, b2, hs, _, _, _, _⟩ := e_run hw hf hu t5 t6 o1 o2 (a0 + nI i) tl f1 f2 f3 ml pn
      have hs2 := pow12 hf.1
      rw [b1, b2, bs, bs]
      dsimp (config := { instances := true }) only
      have hmiss := missN_le (s := s) (G := G) hf.1 (fun u hu => (hf.v hu (w := 3) (by omega)).2)
      rw [e_miss hf (by omega), e_miss6 hu (by omega), bs, bs, if_neg (ln_ne (show z < 9223372036854775808 by omega))]
      obtain ⟨v2, z2, hz2, q1, q2, q3⟩ : ∃ v2 z2, z2 ≤ 1000000000 ∧ (if 0 ≤ lg_cmp (lN (missN s G c)) (lN z) then some (v, lN z) else some (a0 + nI i, lN (missN s G c))) = some (v2, lN z2) ∧ (if 0 ≤ lg_cmp (lN (missN s G c)) (lN z) then some v else some (a0 + nI i)) = some v2 ∧ (if 0 ≤ lg_cmp (lN (missN s G c)) (lN z) then some (lN z) else some (lN (missN s G c))) = some (lN z2) := by
        by_cases g : 0 ≤ lg_cmp (lN (missN s G c)) (lN z)
        · exact ⟨v, z, hz, if_pos g, if_pos g, if_pos g⟩
        · exact ⟨a0 + nI i, missN s G c, hmiss, if_neg g, if_neg g, if_neg g⟩
      rw [q1, q2, q3, bs, bs, bs, l1, nI_add]
      exact ih m (i + 1) v2 z2 _ _ _ _ _ _ _ _ _ _ _ _ _ _ _ _ _ hz2 (by omega) (by omega) (by omega)
theorem e_best {w c : Nat} {G : Nat → Nat → Nat} {rc mn xb xf : Int32} {F : Nat → Nat → Int32} {U q : Nat → Int32} (hw : w < 5) (hu : UR c G rc F mn U) (hq : RQ xb xf q) (t1 t2 t3 t4 t5 t6 o1 o2 o3 o4 o5 a0 a1 a2 : Int32) (tl f1 f2 f3 ml pn : Nat → Int32) :
    ∃ r xb' xf' q' t1' t2' t3' t4' t5' t6' tl' f1' f2' f3' o1' o2' o3' o4' o5' ml' pn', f_X5_best (nI w) xb xf rc F t1 t2 t3 t4 t5 t6 tl f1 f2 f3 a0 a1 a2 = some (r, xb', xf', t1', t2', t3', t4', t5', t6', tl', f1', f2', f3') ∧
      f_X6_best mn (nI w) o1 o2 o3 o4 o5 U q ml pn a0 a1 a2 = some (r, o1', o2', o3', o4', o5', q', ml', pn') ∧ RQ xb' xf' q' := by
  have hF := hu.F
  have hU := hu.U
  obtain ⟨hc, rfl, rfl, _⟩ := hu
  rcases e_areSeeds a0 a1 with ⟨s1, s2⟩ | ⟨m, k, hm, hk1, hk, rfl, rfl, s1, s2⟩
  · refine ⟨(-2 : Int32).toInt64, xb + 1, xf, _, t1, t2, t3, t4, t5, t6, tl, f1, f2, f3, o1, o2, o3, o4, o5, ml, pn, ?_, ?_, hq.bad⟩
    · unfold f_X5_best; rw [s1]; rfl
    · unfold f_X6_best; rw [s2]; rfl
  rcases i_cases a2 with h | ⟨j, hj, rfl⟩
  · refine ⟨(-2 : Int32).toInt64, xb + 1, xf, _, t1, t2, t3, t4, t5, t6, tl, f1, f2, f3, o1, o2, o3, o4, o5, ml, pn, ?_, ?_, hq.bad⟩
    · unfold f_X5_best; rw [s1, bs, if_neg (by decide), if_pos h]; rfl
    · unfold f_X6_best; rw [s2, bs, if_neg (by decide), L0, L1, in_neg h]; rfl
  have j0 : ¬ nI j < 0 := by rw [l0, i_lt (by omega) (by omega)]; omega
  by_cases g : j ≤ 1
  · obtain ⟨s, k', sm, lg, u', v', one', two', l', f1', f2', f3', ml', pn', b1, b2, hs, _, _, _, _⟩ := e_run hw hF hU t5 t6 o1 o2 (nI m) tl f1 f2 f3 ml pn
    have hs2 := pow12 hc
    have hmiss := missN_le (s := s) (G := G) hc (fun u hu => (hF.v hu (w := 3) (by omega)).2)
    obtain ⟨r, y, t1', t2', t3', t4', t5', t6', tl', f1'', f2'', f3'', o1', o2', o3', o4', o5', ml'', pn'', c1, c2⟩ := e_lp_best hw hF hU hk (nI m) 4999 5000 1 (nI m) (missN s G c) (nI s) (nI k') (nI sm) (nI lg) u' v' l' f1' f2' f3' one' two' (nI k') (nI sm) (nI lg) ml' pn' hmiss hk1 (by omega) (by omega)
    have hfirst : lp_X5_best_36 (nI k) (nI c) F (nI w) (nI m) FU (nI m) (-1) 0 t1 t2 t3 t4 t5 t6 tl f1 f2 f3 = some (r, y, t1', t2', t3', t4', t5', t6', tl', f1'', f2'', f3'') := by
      rw [show FU = 4999 + 1 from rfl, lp_X5_best_36, if_neg (by rw [l0, i_le (by omega) (by omega)]; omega), Int32.add_zero, b1, bs]
      dsimp (config := { instances := true }) only
      rw [e_miss hF (by omega), bs, if_pos (show lg_cmp (-1) (-1) = 0 by rw [c_eq]), bs]
      exact c1
    have e5 : f_X5_best (nI w) xb xf (nI c) F t1 t2 t3 t4 t5 t6 tl f1 f2 f3 (nI m) (nI k) (nI j) = if nI j = 0 then some (r.toInt64, xb, xf, t1', t2', t3', t4', t5', t6', tl', f1'', f2'', f3'') else some (y, xb, xf, t1', t2', t3', t4', t5', t6', tl', f1'', f2'', f3'') := by
      unfold f_X5_best
      rw [s1, bs, if_neg (by decide), if_neg j0, if_pos (by rw [l1, i_le (by omega) (by omega)]; omega), hfirst, bs]
    have e6 : f_X6_best (nI c) (nI w) o1 o2 o3 o4 o5 U q ml pn (nI m) (nI k) (nI j) = if nI j = 0 then some (r.toInt64, o1', o2', o3', o4', o5', q, ml'', pn'') else some (y, o1', o2', o3', o4', o5', q, ml'', pn'') := by
      unfold f_X6_best
      have c2 : lp_X6_best_43 (nI k) (nI c) (nI w) U (nI m) FU (nI m) (lN (missN s G c)) 1 one' two' (nI k') (nI sm) (nI lg) ml' pn' = some (r, y, o1', o2', o3', o4', o5', ml'', pn'') := c2
      rw [s2, bs, if_neg (by decide), L0, L1, in_yes (by omega) g (by omega), bs, if_neg (by decide), b2, bs]
      dsimp (config := { instances := true }) only
      rw [e_miss6 hU (by omega), bs, c2, bs]
    rw [e5, e6]
    by_cases g0 : nI j = 0
    · exact ⟨r.toInt64, xb, xf, q, t1', t2', t3', t4', t5', t6', tl', f1'', f2'', f3'', o1', o2', o3', o4', o5', ml'', pn'', if_pos g0, if_pos g0, hq⟩
    · exact ⟨y, xb, xf, q, t1', t2', t3', t4', t5', t6', tl', f1'', f2'', f3'', o1', o2', o3', o4', o5', ml'', pn'', if_neg g0, if_neg g0, hq⟩
  · refine ⟨(-2 : Int32).toInt64, xb + 1, xf, _, t1, t2, t3, t4, t5, t6, tl, f1, f2, f3, o1, o2, o3, o4, o5, ml, pn, ?_, ?_, hq.bad⟩
    · unfold f_X5_best; rw [s1, bs, if_neg (by decide), if_neg j0, if_neg (by rw [l1, i_le (by omega) (by omega)]; omega)]; rfl
    · unfold f_X6_best; rw [s2, bs, if_neg (by decide), L0, L1, in_no (by omega) (by omega) (by omega) (by omega)]; rfl
