/-! the plain calls -/
theorem i_cases (a : Int32) : a < 0 ∨ ∃ m, m < 2147483648 ∧ a = nI m := by
  have h := fb_rng a
  by_cases g : a.toInt < 0
  · left
    rw [fa_lt]
    exact g
  · right
    refine ⟨a.toInt.toNat, by omega, ?_⟩
    apply Int32.toInt_inj.mp
    rw [i_ti (by omega)]
    omega
theorem in_neg {a : Int32} (h : a < 0) (y : Int32) : f_X6_in a.toInt64 (nI 0).toInt64 y.toInt64 = some 0 := by
  rw [e_in, if_pos (by rw [← l0]; exact h)]
theorem L2 : (2 : Int64) = (nI 2).toInt64 := by decide
theorem L6 : (6 : Int64) = (nI 6).toInt64 := by decide
theorem L60 : (60 : Int64) = (nI 60).toInt64 := by decide
theorem L127 : (127 : Int64) = (nI 127).toInt64 := by decide
theorem L999999 : (999999 : Int64) = (nI 999999).toInt64 := by decide
theorem l999999 : (999999 : Int32) = nI 999999 := by decide
theorem l1000000 : (1000000 : Int32) = nI 1000000 := by decide
/-- the refusals -/
def RQ (xb xf : Int32) (q : Nat → Int32) : Prop := q 0 = xb ∧ q 1 = 0 ∧ q 2 = xf
theorem e_ref2 {xb xf : Int32} : f_X5_refuse xb xf (-2) = some (-2, xb + 1, xf) := rfl
theorem e_ref4 {xb xf : Int32} : f_X5_refuse xb xf (-4) = some (-4, xb, xf + 1) := rfl
theorem e_bad {q : Nat → Int32} {a : Int32} : f_X6_bad q a = some (a, upd q 0 (q 0 + 1)) := rfl
theorem e_full {q : Nat → Int32} : f_X6_full q = some (-4, upd q 2 (q 2 + 1)) := rfl
theorem RQ.bad {xb xf : Int32} {q : Nat → Int32} (h : RQ xb xf q) : RQ (xb + 1) xf (upd q 0 (q 0 + 1)) := ⟨by rw [← h.1]; rfl, h.2.1, h.2.2⟩
theorem RQ.full {xb xf : Int32} {q : Nat → Int32} (h : RQ xb xf q) : RQ xb (xf + 1) (upd q 2 (q 2 + 1)) := ⟨h.1, h.2.1, by rw [← h.2.2]; rfl⟩
/-- a unit's number: both know it, or neither -/
theorem e_unit {c : Nat} (hc : c ≤ 12) (a : Int32) : (f_X3_has (nI c) a = some 0 ∧ f_X6_isUnit (nI c) a = some 0) ∨ ∃ u, u < c ∧ a = nI u ∧ f_X3_has (nI c) a = some 1 ∧ f_X6_isUnit (nI c) a = some 1 := by
  have hm : (nI c - 1).toInt = (c : Int) - 1 := by
    have h1 : (1 : Int32).toInt = 1 := rfl
    rw [fb_subI, i_ti (by omega), h1]
    · rw [i_ti (by omega), h1]; omega
    · rw [i_ti (by omega), h1]; omega
  unfold f_X3_has f_X6_isUnit
  rw [L0, e_in]
  rcases i_cases a with h | ⟨m, hm2, rfl⟩
  · left
    rw [if_pos h, if_pos (by rw [← l0]; exact h), bs]
    exact ⟨rfl, rfl⟩
  · have e1 : (nI c - 1 < nI m) = (c ≤ m) := by
      rw [fa_lt, hm, i_ti hm2]
      exact propext ⟨fun q => by omega, fun q => by omega⟩
    simp (disch := omega) only [l0, i_lt, i_le, if_neg]
    by_cases g : c ≤ m
    · left
      rw [if_pos g]
      exact ⟨rfl, by simp only [e1, if_pos g, bs]⟩
    · right
      refine ⟨m, by omega, rfl, ?_, ?_⟩
      · rw [if_neg g]
      · simp only [e1, if_neg g, bs]
theorem in_yes {m lo hi : Nat} (h1 : lo ≤ m) (h2 : m ≤ hi) (hh : hi < 2147483648) : f_X6_in (nI m).toInt64 (nI lo).toInt64 (nI hi).toInt64 = some 1 := by
  rw [in_nI (by omega) (by omega) hh, if_pos ⟨h1, h2⟩]
theorem in_no {m lo hi : Nat} (h1 : m < 2147483648) (h2 : ¬ (lo ≤ m ∧ m ≤ hi)) (h3 : lo < 2147483648) (hh : hi < 2147483648) : f_X6_in (nI m).toInt64 (nI lo).toInt64 (nI hi).toInt64 = some 0 := by
  rw [in_nI h1 h3 hh, if_neg h2]
theorem e_method {w : Nat} {xb xf : Int32} {q : Nat → Int32} (hw : w < 5) (hq : RQ xb xf q) (a : Int32) :
    ∃ r w' xb' xf' q', f_X5_method (nI w) xb xf a = some (r, nI w', xb', xf') ∧ f_X6_method (nI w) q a = some (r, nI w', q') ∧ w' < 5 ∧ RQ xb' xf' q' := by
  unfold f_X5_method f_X6_method f_X5_changeMethod
  rw [e_ref2, e_bad]
  rcases i_cases a with h | ⟨m, hm, rfl⟩
  · refine ⟨-2, w, xb + 1, xf, _, ?_, ?_, hw, hq.bad⟩
    · rw [if_pos h]; rfl
    · rw [L0, L4, in_neg h]; rfl
  · rw [L0, L4]
    by_cases g : m < 5
    · refine ⟨nI w, m, xb, xf, q, ?_, ?_, g, hq⟩
      · simp (disch := omega) only [l0, l5, i_lt, if_neg, if_pos, bs]
      · rw [in_yes (by omega) (by omega) (by omega)]; rfl
    · refine ⟨-2, w, xb + 1, xf, _, ?_, ?_, hw, hq.bad⟩
      · simp (disch := omega) only [l0, l5, i_lt, if_neg, bs]
      · rw [in_no (by omega) (by omega) (by omega) (by omega)]; rfl
theorem e_was {xb xf x1 x2 x3 x4 : Int32} {q : Nat → Int32} (hq : RQ xb xf q) (a : Int32) :
    ∃ r xb' xf' q', f_X5_was xb xf x1 x2 x3 x4 a = some (r, xb', xf') ∧ f_X6_was x1 x2 x3 x4 q a = some (r, q') ∧ RQ xb' xf' q' := by
  unfold f_X5_was f_X6_was f_X0_tally f_X6_wasOf
  rw [e_ref2, e_bad]
  rcases i_cases a with h | ⟨m, hm, rfl⟩
  · refine ⟨-2, xb + 1, xf, _, ?_, ?_, hq.bad⟩
    · rw [if_pos h]; rfl
    · rw [L0, L3, in_neg h]; rfl
  · rw [L0, L3]
    by_cases g : m ≤ 3
    · obtain ⟨r, hr⟩ : ∃ r, (if nI m = 0 then some x1 else if nI m = 1 then some x2 else if nI m = 2 then some x3 else some x4) = some r := by
        split
        · exact ⟨_, rfl⟩
        · split
          · exact ⟨_, rfl⟩
          · split
            · exact ⟨_, rfl⟩
            · exact ⟨_, rfl⟩
      refine ⟨r, xb, xf, q, ?_, ?_, hq⟩
      · rw [hr, if_neg (by rw [l0, i_lt (by omega) (by omega)]; omega), if_pos (by rw [l3, i_le (by omega) (by omega)]; omega)]; rfl
      · rw [hr, in_yes (by omega) (by omega) (by omega)]; rfl
    · refine ⟨-2, xb + 1, xf, _, ?_, ?_, hq.bad⟩
      · rw [if_neg (by rw [l0, i_lt (by omega) (by omega)]; omega), if_neg (by rw [l3, i_le (by omega) (by omega)]; omega)]; rfl
      · rw [in_no (by omega) (by omega) (by omega) (by omega)]; rfl
theorem e_all {c : Nat} {G : Nat → Nat → Nat} {rc mn xb xf : Int32} {F : Nat → Nat → Int32} {U q : Nat → Int32} (hu : UR c G rc F mn U) (hq : RQ xb xf q) (a : Int32) :
    ∃ r xb' xf' q', f_X5_all xb xf rc F a = some (r, xb', xf') ∧ f_X6_all mn U q a = some (r, q') ∧ RQ xb' xf' q' := by
  have hF := hu.F
  have hU := hu.U
  obtain ⟨hc, rfl, rfl, _⟩ := hu
  unfold f_X5_all f_X6_all
  have s0 : f_X3_sum (nI c) F 0 = some (nI (sumN G 0 c)) := e_sum (w := 0) hF (by omega)
  have s3 : f_X3_sum (nI c) F 3 = some (nI (sumN G 3 c)) := e_sum (w := 3) hF (by omega)
  have s4 : f_X3_sum (nI c) F 4 = some (nI (sumN G 4 c)) := e_sum (w := 4) hF (by omega)
  have t0 : f_X6_sumOf (nI c) U 0 = some (nI (sumN G 0 c)) := e_sumOf (w := 0) hU (by omega)
  have t3 : f_X6_sumOf (nI c) U 3 = some (nI (sumN G 3 c)) := e_sumOf (w := 3) hU (by omega)
  have t4 : f_X6_sumOf (nI c) U 4 = some (nI (sumN G 4 c)) := e_sumOf (w := 4) hU (by omega)
  rw [e_ref2, e_bad, s0, s3, s4, t0, t3, t4, e_open hF, e_opens hU]
  rcases i_cases a with h | ⟨m, hm, rfl⟩
  · refine ⟨-2, xb + 1, xf, _, ?_, ?_, hq.bad⟩
    · have n0 : ∀ k, k < 2147483648 → ¬ a = nI k := fun k hk e => by
        rw [e, l0, i_lt hk (by omega)] at h; omega
      rw [if_neg (by rw [l0]; exact n0 0 (by omega)), if_neg (by rw [l1]; exact n0 1 (by omega)), if_neg (by rw [l2]; exact n0 2 (by omega)), if_neg (by rw [l3]; exact n0 3 (by omega))]; rfl
    · rw [L0, L3, in_neg h]; rfl
  · rw [L0, L3]
    by_cases g : m ≤ 3
    · rw [in_yes (by omega) (by omega) (by omega)]
      rcases (show m = 0 ∨ m = 1 ∨ m = 2 ∨ m = 3 by omega) with e | e | e | e <;> subst e
      · exact ⟨nI (sumN G 0 c), xb, xf, q, rfl, rfl, hq⟩
      · exact ⟨nI (sumN G 3 c), xb, xf, q, rfl, rfl, hq⟩
      · exact ⟨nI (sumN G 4 c), xb, xf, q, rfl, rfl, hq⟩
      · exact ⟨nI (opnN G c), xb, xf, q, rfl, rfl, hq⟩
    · refine ⟨-2, xb + 1, xf, _, ?_, ?_, hq.bad⟩
      · rw [if_neg (by rw [l0, i_eq (by omega) (by omega)]; omega), if_neg (by rw [l1, i_eq (by omega) (by omega)]; omega), if_neg (by rw [l2, i_eq (by omega) (by omega)]; omega), if_neg (by rw [l3, i_eq (by omega) (by omega)]; omega)]; rfl
      · rw [in_no (by omega) (by omega) (by omega) (by omega)]; rfl
theorem e_counted {c s : Nat} {G : Nat → Nat → Nat} {rc mn xb xf : Int32} {F : Nat → Nat → Int32} {U q : Nat → Int32} (hu : UR c G rc F mn U) (hs : s < 4096) (hq : RQ xb xf q) (a : Int32) :
    ∃ r xb' xf' q', f_X5_counted xb xf rc F (nI s) a = some (r, xb', xf') ∧ f_X6_counted mn (nI s) U q a = some (r, q') ∧ RQ xb' xf' q' := by
  have hF := hu.F
  have hU := hu.U
  obtain ⟨hc, rfl, rfl, _⟩ := hu
  unfold f_X5_counted f_X6_counted
  have s3 : f_X3_countUp (nI c) F (nI s) 3 = some (lN (cuN s G 3 c)) := e_cu (w := 3) hF (by omega) (by omega)
  have s4 : f_X3_countUp (nI c) F (nI s) 4 = some (lN (cuN s G 4 c)) := e_cu (w := 4) hF (by omega) (by omega)
  have t3 : f_X6_countedUp (nI c) U (nI s) 3 = some (lN (cuN s G 3 c)) := e_cu6 (w := 3) hU (by omega) (by omega)
  have t4 : f_X6_countedUp (nI c) U (nI s) 4 = some (lN (cuN s G 4 c)) := e_cu6 (w := 4) hU (by omega) (by omega)
  rw [e_ref2, e_bad, s3, s4, t3, t4, e_miss hF (by omega), e_miss6 hU (by omega)]
  rcases i_cases a with h | ⟨m, hm, rfl⟩
  · refine ⟨(-2 : Int32).toInt64, xb + 1, xf, _, ?_, ?_, hq.bad⟩
    · have n0 : ∀ k, k < 2147483648 → ¬ a = nI k := fun k hk e => by
        rw [e, l0, i_lt hk (by omega)] at h; omega
      rw [if_neg (by rw [l0]; exact n0 0 (by omega)), if_neg (by rw [l1]; exact n0 1 (by omega)), if_neg (by rw [l2]; exact n0 2 (by omega))]; rfl
    · rw [L0, L2, in_neg h]; rfl
  · rw [L0, L2]
    by_cases g : m ≤ 2
    · rw [in_yes (by omega) (by omega) (by omega)]
      rcases (show m = 0 ∨ m = 1 ∨ m = 2 by omega) with e | e | e <;> subst e
      · exact ⟨lN (cuN s G 4 c), xb, xf, q, rfl, rfl, hq⟩
      · exact ⟨lN (cuN s G 3 c), xb, xf, q, rfl, rfl, hq⟩
      · exact ⟨lN (missN s G c), xb, xf, q, rfl, rfl, hq⟩
    · refine ⟨(-2 : Int32).toInt64, xb + 1, xf, _, ?_, ?_, hq.bad⟩
      · rw [if_neg (by rw [l0, i_eq (by omega) (by omega)]; omega), if_neg (by rw [l1, i_eq (by omega) (by omega)]; omega), if_neg (by rw [l2, i_eq (by omega) (by omega)]; omega)]; rfl
      · rw [in_no (by omega) (by omega) (by omega) (by omega)]; rfl
theorem h01 {s u : Nat} : (if (if s / 2 ^ u % 2 = 1 then nI 1 else nI 0) = 0 then some (0 : Int32) else some 1) = some (if s / 2 ^ u % 2 = 1 then nI 1 else nI 0) := by
  by_cases g : s / 2 ^ u % 2 = 1
  · rw [if_pos g]; rfl
  · rw [if_neg g]; rfl
theorem e_known {c s u w : Nat} {G : Nat → Nat → Nat} {F : Nat → Nat → Int32} (hF : FG c G F) (hs : s < 4096) (hu : u < c) (hw : w ≤ 5) :
    f_X5_knownOf (nI c) F (nI s) (nI u) (nI w) = some (if w = 5 then (if s / 2 ^ u % 2 = 1 then nI 1 else nI 0) else nI (G w u)) := by
  have hc := hF.1
  unfold f_X5_knownOf
  rw [e_holds (by omega) (by omega), bs, h01]
  by_cases g : w = 5
  · rw [if_pos (by rw [g]; rfl), if_pos g]
  · rw [if_neg (by rw [l5, i_eq (by omega) (by omega)]; omega), if_neg g, hF.f hu (by omega), bs]
theorem e_of {c s : Nat} {G : Nat → Nat → Nat} {rc mn xb xf : Int32} {F : Nat → Nat → Int32} {U q : Nat → Int32} (hu : UR c G rc F mn U) (hs : s < 4096) (hq : RQ xb xf q) (a a1 : Int32) :
    ∃ r xb' xf' q', f_X5_of xb xf rc F (nI s) a a1 = some (r, xb', xf') ∧ f_X6_of mn (nI s) U q a a1 = some (r, q') ∧ RQ xb' xf' q' := by
  have hF := hu.F
  have hU := hu.U
  obtain ⟨hc, rfl, rfl, _⟩ := hu
  rcases e_unit hc a with ⟨h1, h2⟩ | ⟨u, huc, rfl, h1, h2⟩
  · refine ⟨-2, xb + 1, xf, _, ?_, ?_, hq.bad⟩
    · unfold f_X5_of; rw [h1]; rfl
    · unfold f_X6_of; rw [h2]; rfl
  · rcases i_cases a1 with h | ⟨m, hm, rfl⟩
    · refine ⟨-2, xb + 1, xf, _, ?_, ?_, hq.bad⟩
      · unfold f_X5_of; rw [h1, bs, if_neg (by decide), if_pos h]; rfl
      · unfold f_X6_of; rw [h2, bs, if_neg (by decide), L0, L5, in_neg h]; rfl
    · by_cases g : m ≤ 5
      · refine ⟨if m = 5 then (if s / 2 ^ u % 2 = 1 then nI 1 else nI 0) else nI (G m u), xb, xf, q, ?_, ?_, hq⟩
        · unfold f_X5_of
          rw [h1, bs, if_neg (by decide), if_neg (by rw [l0, i_lt (by omega) (by omega)]; omega), if_pos (by rw [l5, i_le (by omega) (by omega)]; omega), e_known hF hs huc g, bs]
        · unfold f_X6_of
          rw [h2, bs, if_neg (by decide), L0, L5, in_yes (by omega) (by omega) (by omega), bs, if_neg (by decide)]
          by_cases g5 : m = 5
          · rw [if_pos (by rw [l5, i_le (by omega) (by omega)]; omega), if_pos g5, e_has (by omega) (by omega), bs]
            by_cases gb : s / 2 ^ u % 2 = 1
            · rw [if_pos gb]; rfl
            · rw [if_neg gb]; rfl
          · rw [if_neg (by rw [l5, i_le (by omega) (by omega)]; omega), if_neg g5, hU.f huc (by omega), bs]
      · refine ⟨-2, xb + 1, xf, _, ?_, ?_, hq.bad⟩
        · unfold f_X5_of
          rw [h1, bs, if_neg (by decide), if_neg (by rw [l0, i_lt (by omega) (by omega)]; omega), if_neg (by rw [l5, i_le (by omega) (by omega)]; omega)]; rfl
        · unfold f_X6_of
          rw [h2, bs, if_neg (by decide), L0, L5, in_no (by omega) (by omega) (by omega) (by omega)]; rfl
theorem e_playX {k : Nat} {xb xf : Int32} {f1 f2 f3 pd q : Nat → Int32} (hk : k ≤ 12) (hr : REC k f1 f2 f3 pd) (hq : RQ xb xf q) (a a1 : Int32) :
    ∃ r xb' xf' q', f_X5_play xb xf (nI k) f1 f2 f3 a a1 = some (r, xb', xf') ∧ f_X6_play (nI k) q pd a a1 = some (r, q') ∧ RQ xb' xf' q' := by
  rcases i_cases a with h | ⟨n, hn, rfl⟩
  · refine ⟨-2, xb + 1, xf, _, ?_, ?_, hq.bad⟩
    · unfold f_X5_play; rw [if_pos h]; rfl
    · unfold f_X6_play; rw [if_pos h]; rfl
  · have n0 : ¬ nI n < 0 := by rw [l0, i_lt (by omega) (by omega)]; omega
    rcases i_cases a1 with h | ⟨m, hm, rfl⟩
    · refine ⟨-2, xb + 1, xf, _, ?_, ?_, hq.bad⟩
      · unfold f_X5_play; rw [if_neg n0, if_pos h]; rfl
      · unfold f_X6_play; rw [if_neg n0, L0, L2, in_neg h]; rfl
    · have m0 : ¬ nI m < 0 := by rw [l0, i_lt (by omega) (by omega)]; omega
      by_cases g : m ≤ 2
      · have m2 : nI m ≤ 2 := by rw [l2, i_le (by omega) (by omega)]; omega
        have e6 : f_X6_play (nI k) q pd (nI n) (nI m) = if nI k ≤ nI n then some (-1, q) else if inB (3 * nI n + nI m) 36 then some (pd (Int32.toNatClampNeg (3 * nI n + nI m)), q) else none := by
          unfold f_X6_play
          rw [if_neg n0, L0, L2, in_yes (by omega) (by omega) (by omega), bs, if_neg (by decide)]
        have e5 : f_X5_play xb xf (nI k) f1 f2 f3 (nI n) (nI m) = Option.bind (f_X0_recorded (nI k) f1 f2 f3 (nI n) (nI m)) (fun (q6 : Int32) => some (q6, xb, xf)) := by
          unfold f_X5_play
          rw [if_neg n0, if_neg m0, if_pos m2]
        rw [e5, e6]
        unfold f_X0_recorded
        rw [if_neg n0]
        by_cases gk : k ≤ n
        · rw [if_pos (by rw [i_le (by omega) (by omega)]; omega), if_pos (by rw [i_le (by omega) (by omega)]; omega)]
          exact ⟨-1, xb, xf, q, rfl, rfl, hq⟩
        · have hR := hr n (by omega)
          have gk2 : ¬ nI k ≤ nI n := by rw [i_le (by omega) (by omega)]; omega
          simp only [if_neg gk2]
          rw [if_pos (show nI n < 12 by rw [l12, i_lt (by omega) (by omega)]; omega)]
          rw [l3, pk_mul, nI_add, i_in (by omega), i_in (by omega), i_cl (by omega), i_cl (by omega)]
          simp only [decide_eq_true (show 3 * n + m < 36 by omega), decide_eq_true (show n < 12 by omega), if_true]
          rcases (show m = 0 ∨ m = 1 ∨ m = 2 by omega) with e | e | e <;> subst e
          · exact ⟨f1 n, xb, xf, q, rfl, by rw [← hR.1]; rfl, hq⟩
          · exact ⟨f2 n, xb, xf, q, rfl, by rw [← hR.2.1], hq⟩
          · exact ⟨f3 n, xb, xf, q, rfl, by rw [← hR.2.2], hq⟩
      · have m2 : ¬ nI m ≤ 2 := by rw [l2, i_le (by omega) (by omega)]; omega
        refine ⟨-2, xb + 1, xf, _, ?_, ?_, hq.bad⟩
        · unfold f_X5_play
          rw [if_neg n0, if_neg m0, if_neg m2]; rfl
        · unfold f_X6_play
          rw [if_neg n0, L0, L2, in_no (by omega) (by omega) (by omega) (by omega)]; rfl
theorem up2_at (F : Nat → Nat → Int32) (j i : Nat) (x : Int32) (w u : Nat) : up2 F j i x w u = if w = j ∧ u = i then x else F w u := by
  unfold up2
  by_cases e : w = j
  · subst e
    rw [if_pos rfl]
    show (if u = i then x else F w u) = _
    by_cases e2 : u = i
    · rw [if_pos e2, if_pos ⟨rfl, e2⟩]
    · rw [if_neg e2, if_neg (fun q => e2 q.2)]
  · rw [if_neg e, if_neg (fun q => e q.1)]
/-- the units after one more is laid, after one fact is set -/
theorem UR.add {c : Nat} {G : Nat → Nat → Nat} {rc mn : Int32} {F : Nat → Nat → Int32} {U : Nat → Int32} (hu : UR c G rc F mn U) (hc : c < 12) (ch : Int32) {g0 g1 g2 g3 g4 : Nat} (h0 : g0 ≤ 12) (h1 : g1 ≤ 99) (h2 : g2 ≤ 3) (h3 : g3 ≤ 99) (h4 : g4 ≤ 99) :
    ∃ F' U' G', f_X3_append rc ch F (nI g0) (nI g1) (nI g2) (nI g3) (nI g4) = some (nI c, nI (c + 1), ch + 1, F') ∧ f_X6_lays mn U (nI g0) (nI g1) (nI g2) (nI g3) (nI g4) = some (nI (c + 1), U') ∧ UR (c + 1) G' (nI (c + 1)) F' (nI (c + 1)) U' ∧ G' 0 c = g0 ∧ ∀ u, u < c → G' 0 u = G 0 u := by
  obtain ⟨hc12, rfl, rfl, hv⟩ := hu
  have hx : (nI c + 1 - 1) = nI c := by rw [l1, nI_add, i_sub (by omega)]; rfl
  refine ⟨up2 (up2 (up2 (up2 (up2 F 0 c (nI g0)) 1 c (nI g1)) 2 c (nI g2)) 3 c (nI g3)) 4 c (nI g4), upd (upd (upd (upd (upd U (5 * c) (nI g0)) (5 * c + 1) (nI g1)) (5 * c + 2) (nI g2)) (5 * c + 3) (nI g3)) (5 * c + 4) (nI g4), fun w u => if u = c then ([g0, g1, g2, g3, g4] : List Nat).getD w 0 else G w u, ?_, ?_, ⟨by omega, rfl, rfl, ?_⟩, ?_, ?_⟩
  · unfold f_X3_append
    rw [hx, i_in (by omega), i_cl (by omega), if_pos (by rw [l12, i_lt (by omega) (by omega)]; omega)]
    simp only [decide_eq_true (show c < 12 by omega), if_true]
    rw [l1, nI_add]
    rfl
  · unfold f_X6_lays
    simp (disch := omega) only [l5, l1, l2, l3, l4, pk_mul, nI_add, i_in, i_cl, d_t, if_pos]
  · intro u hu w hw
    by_cases e : u = c
    · subst e
      rcases (show w = 0 ∨ w = 1 ∨ w = 2 ∨ w = 3 ∨ w = 4 by omega) with e | e | e | e | e <;> subst e
      · refine ⟨by simp [up2, upd], ?_, by simp [mx]; omega⟩
        simp only [upd, if_true]
        rw [if_neg (by omega), if_neg (by omega), if_neg (by omega), if_neg (by omega), if_pos (by omega)]; rfl
      · refine ⟨by simp [up2, upd], ?_, by simp [mx]; omega⟩
        simp only [upd, if_true]
        rw [if_neg (by omega), if_neg (by omega), if_neg (by omega)]; rfl
      · refine ⟨by simp [up2, upd], ?_, by simp [mx]; omega⟩
        simp only [upd, if_true]
        rw [if_neg (by omega), if_neg (by omega)]; rfl
      · refine ⟨by simp [up2, upd], ?_, by simp [mx]; omega⟩
        simp only [upd, if_true]
        rw [if_neg (by omega)]; rfl
      · refine ⟨by simp [up2, upd], ?_, by simp [mx]; omega⟩
        simp only [upd, if_true]; rfl
    · obtain ⟨a1, a2, a3⟩ := hv u (by omega) w hw
      refine ⟨?_, ?_, ?_⟩
      · simp only [up2_at, e, and_false, if_false]
        exact a1
      · simp only [upd, e, if_false]
        rw [if_neg (by omega), if_neg (by omega), if_neg (by omega), if_neg (by omega), if_neg (by omega)]
        exact a2
      · simp only [e, if_false]
        exact a3
  · simp
  · intro u hu
    simp only [show u ≠ c by omega, if_false]
theorem UR.set {c u w x : Nat} {G : Nat → Nat → Nat} {rc mn : Int32} {F : Nat → Nat → Int32} {U : Nat → Int32} (hu : UR c G rc F mn U) (huc : u < c) (hw : w < 5) (hx : x ≤ mx w) : UR c (fun w' u' => if w' = w ∧ u' = u then x else G w' u') rc (up2 F w u (nI x)) mn (upd U (5 * u + w) (nI x)) := by
  obtain ⟨hc, h1, h2, hv⟩ := hu
  refine ⟨hc, h1, h2, fun u' hu' w' hw' => ?_⟩
  obtain ⟨a1, a2, a3⟩ := hv u' hu' w' hw'
  rw [up2_at]
  show _ ∧ (if 5 * u' + w' = 5 * u + w then nI x else U (5 * u' + w')) = _ ∧ _
  by_cases e : w' = w ∧ u' = u
  · obtain ⟨rfl, rfl⟩ := e
    simp only [and_self, if_true]
    exact ⟨trivial, trivial, hx⟩
  · simp only [if_neg e]
    rw [if_neg (by omega)]
    exact ⟨a1, a2, a3⟩
theorem e_mostOf {w : Nat} (hw : w < 5) : f_X6_mostOf (nI w) = some (nI (mx w)) := by
  rcases (show w = 0 ∨ w = 1 ∨ w = 2 ∨ w = 3 ∨ w = 4 by omega) with e | e | e | e | e <;> subst e <;> decide
theorem e_fits {w : Nat} (hw : w < 5) (a : Int32) : (f_X3_fits (nI w) a = some 0 ∧ f_X6_in a.toInt64 0 (nI (mx w)).toInt64 = some 0) ∨ ∃ x, x ≤ mx w ∧ a = nI x ∧ f_X3_fits (nI w) a = some 1 ∧ f_X6_in a.toInt64 0 (nI (mx w)).toInt64 = some 1 := by
  have hm := mx_le w
  have ht : ([12, 99, 3, 99, 99] : List Int32).getD w 0 = nI (mx w) := by
    rcases (show w = 0 ∨ w = 1 ∨ w = 2 ∨ w = 3 ∨ w = 4 by omega) with e | e | e | e | e <;> subst e <;> decide
  have hF : ∀ a, f_X3_fits (nI w) a = if a < 0 then some 0 else if nI (mx w) < a then some 0 else some 1 := fun a => by
    unfold f_X3_fits
    rw [if_neg (by rw [l0, i_lt (by omega) (by omega)]; omega), if_neg (by rw [l5, i_le (by omega) (by omega)]; omega), i_in (by omega), if_pos (decide_eq_true hw), i_cl (by omega), ht]
  rw [hF, L0]
  rcases i_cases a with h | ⟨m, hm2, rfl⟩
  · left
    rw [if_pos h, in_neg h]
    exact ⟨rfl, rfl⟩
  · rw [if_neg (by rw [l0, i_lt (by omega) (by omega)]; omega)]
    by_cases g : m ≤ mx w
    · right
      refine ⟨m, g, rfl, ?_, in_yes (by omega) g (by omega)⟩
      rw [if_neg (by rw [i_lt (by omega) (by omega)]; omega)]
    · left
      refine ⟨?_, in_no hm2 (by omega) (by omega) (by omega)⟩
      rw [if_pos (by rw [i_lt (by omega) (by omega)]; omega)]
theorem e_sets {c : Nat} {G : Nat → Nat → Nat} {rc mn xb xf : Int32} {F : Nat → Nat → Int32} {U q : Nat → Int32} (hu : UR c G rc F mn U) (hq : RQ xb xf q) (ch a a1 a2 : Int32) :
    ∃ r xb' xf' q' d F' U' G', f_X5_sets xb xf rc ch F a a1 a2 = some (r, xb', xf', ch + nI d, F') ∧ f_X6_sets mn U q a a1 a2 = some (r, U', q') ∧ RQ xb' xf' q' ∧ UR c G' rc F' mn U' ∧ d ≤ 1 ∧ (d = 0 → F' = F ∧ G' = G) := by
  have hu0 := hu
  obtain ⟨hc, rfl, rfl, hv⟩ := hu
  have c0 : ch + nI 0 = ch := by rw [← l0]; exact Int32.add_zero ch
  rcases e_unit hc a with ⟨h1, h2⟩ | ⟨u, huc, rfl, h1, h2⟩
  · refine ⟨-2, xb + 1, xf, _, 0, F, U, G, ?_, ?_, hq.bad, hu0, by omega, fun _ => ⟨rfl, rfl⟩⟩
    · unfold f_X5_sets; rw [h1, c0]; rfl
    · unfold f_X6_sets; rw [h2]; rfl
  · have key : ∀ P : Prop, (f_X3_fits a1 a2 = some 0 → P) → (∀ w x, w < 5 → x ≤ mx w → a1 = nI w → a2 = nI x → f_X3_fits a1 a2 = some 1 → f_X6_in a1.toInt64 0 4 = some 1 → f_X6_in a2.toInt64 0 (nI (mx w)).toInt64 = some 1 → P) → P := fun P k1 k2 => by
      rcases i_cases a1 with h | ⟨w, hw, rfl⟩
      · exact k1 (by unfold f_X3_fits; rw [if_pos h])
      · by_cases hw5 : w < 5
        · rcases e_fits hw5 a2 with ⟨g1, g2⟩ | ⟨x, hx, rfl, g1, g2⟩
          · exact k1 g1
          · exact k2 w x hw5 hx rfl rfl g1 (by rw [L0, L4]; exact in_yes (by omega) (by omega) (by omega)) g2
        · exact k1 (by unfold f_X3_fits; rw [if_neg (by rw [l0, i_lt (by omega) (by omega)]; omega), if_pos (by rw [l5, i_le (by omega) (by omega)]; omega)])
    have bad : f_X3_fits a1 a2 = some 0 → f_X6_sets (nI c) U q (nI u) a1 a2 = some (-2, U, upd q 0 (q 0 + 1)) := fun h0 => by
      unfold f_X6_sets
      rw [h2, bs, if_neg (by decide)]
      rcases i_cases a1 with h | ⟨w, hw, rfl⟩
      · rw [L0, L4, in_neg h]; rfl
      · by_cases hw5 : w < 5
        · have hi : f_X6_in (nI w).toInt64 0 4 = some 1 := by rw [L0, L4]; exact in_yes (by omega) (by omega) (by omega)
          rcases e_fits hw5 a2 with ⟨g1, g2⟩ | ⟨x, hx, rfl, g1, g2⟩
          · rw [hi, bs, if_neg (by decide), e_mostOf hw5, bs, g2]; rfl
          · rw [g1] at h0; cases h0
        · have hi : f_X6_in (nI w).toInt64 0 4 = some 0 := by rw [L0, L4]; exact in_no (by omega) (by omega) (by omega) (by omega)
          rw [hi]; rfl
    refine key _ (fun h0 => ?_) (fun w x hw hx e1 e2 h0 hi1 hi2 => ?_)
    · refine ⟨-2, xb + 1, xf, _, 0, F, U, G, ?_, bad h0, hq.bad, hu0, by omega, fun _ => ⟨rfl, rfl⟩⟩
      unfold f_X5_sets; rw [h1, bs, if_neg (by decide), h0, c0]; rfl
    · subst e1 e2
      have hvu := hv u huc w hw
      refine ⟨nI (G w u), xb, xf, q, 1, _, _, _, ?_, ?_, hq, hu0.set huc hw hx, by omega, fun e => by omega⟩
      · unfold f_X5_sets f_X3_change
        rw [h1, bs, bs, if_neg (by decide), if_neg (by decide), h0, bs, if_neg (by decide)]
        rw [if_neg (by rw [l0, i_lt (by omega) (by omega)]; omega), if_pos (by rw [l5, i_lt (by omega) (by omega)]; omega), i_in (by omega), i_in (by omega), i_cl (by omega), i_cl (by omega)]
        simp only [decide_eq_true (show u < 12 by omega), decide_eq_true hw, if_true, bs]
        rw [hvu.1, l1]
      · unfold f_X6_sets f_X6_becomes
        rw [h2, bs, if_neg (by decide), hi1, bs, if_neg (by decide), e_mostOf hw, bs, hi2, bs, if_neg (by decide), e_at hc huc hw, bs]
        simp (disch := omega) only [l5, pk_mul, nI_add, i_in, i_cl, d_t, if_pos, bs]
        rw [hvu.2.1]
