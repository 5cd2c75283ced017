/-! a whole walk: the class's run and the reference's walked -/
def smN (L : Nat → Nat) (u : Nat) : Option Nat → Nat
  | none => 0
  | some v => if 12 < L u + L v then 0 else 1
def lrN (L : Nat → Nat) (u : Nat) : Option Nat → Nat
  | none => 0
  | some v => if 12 < L u + L v then 1 else 0
theorem e_write {c u k s g : Nat} {ov : Option Nat} {L : Nat → Nat} {a f1 f2 f3 : Nat → Int32} {won : Bool} (hk : k < 12) (h : CL c L a) (hb : LB c L) (hu : u < c) (hv : ∀ v, ov = some v → v < c) :
    f_X0_write (nI k) (nI s) (nI g) (nI u) (eO ov) a f1 f2 f3 (bI won) = some (nI (k + 1), nI (s + smN L u ov), nI (g + lrN L u ov), upd f1 k (nI u), upd f2 k (eO ov), upd f3 k (if won = true then nI u else eO ov)) := by
  have hc := hb.1
  have h1 := hb.2 u hu
  have ew : (if bI won = 0 then some (eO ov) else some (nI u)) = some (if won = true then nI u else eO ov) := by
    cases won
    · rfl
    · rfl
  unfold f_X0_write
  rw [ew]
  simp (disch := omega) only [i_lt, l12, i_in, i_cl, d_t, if_pos, bs]
  simp only [eO_m1' hc hv]
  cases ov with
  | none =>
    rw [if_pos rfl]
    unfold j_X0_write_100
    rw [if_pos (show eO none = -1 from rfl), l1, nI_add, i_cl (by omega)]
    rfl
  | some v =>
    have hv := hv v rfl
    have h2 := hb.2 v hv
    have e : eO (some v) = nI v := rfl
    rw [if_neg (by intro q; cases q), e, e_lboth h hb hu hv, bs]
    simp (disch := omega) only [i_lt]
    by_cases g' : 12 < L u + L v
    · rw [if_pos g']
      unfold j_X0_write_100
      rw [if_neg (of_eq_false (i_m1 (by omega))), l1, nI_add, nI_add, i_cl (by omega)]
      show _ = some (nI (k + 1), nI (s + if 12 < L u + L v then 0 else 1), nI (g + if 12 < L u + L v then 1 else 0), _)
      rw [if_pos g', if_pos g']
      rfl
    · rw [if_neg g', l1, nI_add, nI_add]
      show _ = some (nI (k + 1), nI (s + if 12 < L u + L v then 0 else 1), nI (g + if 12 < L u + L v then 1 else 0), _)
      rw [if_neg g', if_neg g']
      rfl
theorem e_q11 {c u : Nat} {ov : Option Nat} {L : Nat → Nat} {a : Nat → Int32} (h : ML c L a) (hb : LB c L) (hu : u < c) (hv : ∀ v, ov = some v → v < c) :
    (if eO ov = (-1) then some 0 else if inB (nI u) 12 then if inB (eO ov) 12 then if 12 < ((a (Int32.toNatClampNeg (nI u))) + (a (Int32.toNatClampNeg (eO ov)))) then some 0 else some 1 else none else none) = some (nI (smN L u ov)) := by
  have hc := hb.1
  have h1 := hb.2 u hu
  simp only [eO_m1' hc hv]
  cases ov with
  | none => rfl
  | some v =>
    have hv := hv v rfl
    have h2 := hb.2 v hv
    have e : eO (some v) = nI v := rfl
    rw [if_neg (by intro q; cases q), e]
    simp (disch := omega) only [i_in, i_cl, d_t, if_pos, h u hu, h v hv, nI_add, l12, i_lt]
    show _ = some (nI (if 12 < L u + L v then 0 else 1))
    by_cases g : 12 < L u + L v
    · rw [if_pos g, if_pos g, l0]
    · rw [if_neg g, if_neg g, l1]
theorem e_q21 {u : Nat} {ov : Option Nat} {L : Nat → Nat} : (if nI (smN L u ov) = 0 then some 0 else some 1) = some (nI (smN L u ov)) := by
  cases ov with
  | none => rfl
  | some v =>
    show (if nI (if 12 < L u + L v then 0 else 1) = 0 then some 0 else some 1) = some (nI (if 12 < L u + L v then 0 else 1))
    by_cases g : 12 < L u + L v
    · rw [if_pos g]; rfl
    · rw [if_neg g]; rfl
theorem e_q23 {c u : Nat} {ov : Option Nat} {L : Nat → Nat} (hc : c ≤ 12) (hv : ∀ v, ov = some v → v < c) : (if eO ov = (-1) then some 0 else if nI (smN L u ov) = 0 then some 1 else some 0) = some (nI (lrN L u ov)) := by
  simp only [eO_m1' hc hv]
  cases ov with
  | none => rfl
  | some v =>
    rw [if_neg (by intro q; cases q)]
    show (if nI (if 12 < L u + L v then 0 else 1) = 0 then some 1 else some 0) = some (nI (if 12 < L u + L v then 1 else 0))
    by_cases g : 12 < L u + L v
    · rw [if_pos g, if_pos g]; rfl
    · rw [if_neg g, if_neg g]; rfl
theorem sm_le1 {u : Nat} {ov : Option Nat} {L : Nat → Nat} : smN L u ov ≤ 1 ∧ lrN L u ov ≤ 1 := by
  cases ov with
  | none => exact ⟨Nat.zero_le _, Nat.zero_le _⟩
  | some v =>
    show (if 12 < L u + L v then 0 else 1) ≤ 1 ∧ (if 12 < L u + L v then 1 else 0) ≤ 1
    split <;> exact ⟨by omega, by omega⟩
theorem sz_ok {c u : Nat} {ov : Option Nat} {L : Nat → Nat} (hu : op L u = true) (hv : ∀ v, ov = some v → (v < c ∧ op L v = true) ∧ u ≠ v) : 0 < szN L u ov ∧ szN L u ov ≤ 12 ∧ chN L u ov ≤ 12 := by
  have h1 := op_iff.mp hu
  cases ov with
  | none => exact ⟨by show 0 < 12; decide, Nat.le_refl _, by show L u ≤ 12; omega⟩
  | some v =>
    have h2 := op_iff.mp (hv v rfl).1.2
    show 0 < (if 12 < L u + L v then 24 - (L u + L v) else L u + L v) ∧ (if 12 < L u + L v then 24 - (L u + L v) else L u + L v) ≤ 12 ∧ (if 12 < L u + L v then 12 - L v else L u) ≤ 12
    by_cases g : 12 < L u + L v
    · rw [if_pos g, if_pos g]; omega
    · rw [if_neg g, if_neg g]; omega
/-- the plays written down, in the class's three rows and the reference's one -/
def REC (k : Nat) (f1 f2 f3 pn : Nat → Int32) : Prop := ∀ i, i < k → pn (3 * i) = f1 i ∧ pn (3 * i + 1) = f2 i ∧ pn (3 * i + 2) = f3 i
theorem REC.add {k : Nat} {f1 f2 f3 pn : Nat → Int32} {x y z : Int32} (h : REC k f1 f2 f3 pn) : REC (k + 1) (upd f1 k x) (upd f2 k y) (upd f3 k z) (upd (upd (upd pn (3 * k) x) (3 * k + 1) y) (3 * k + 2) z) := by
  intro i hi
  show (if 3 * i = 3 * k + 2 then z else if 3 * i = 3 * k + 1 then y else if 3 * i = 3 * k then x else pn (3 * i)) = (if i = k then x else f1 i) ∧ (if 3 * i + 1 = 3 * k + 2 then z else if 3 * i + 1 = 3 * k + 1 then y else if 3 * i + 1 = 3 * k then x else pn (3 * i + 1)) = (if i = k then y else f2 i) ∧ (if 3 * i + 2 = 3 * k + 2 then z else if 3 * i + 2 = 3 * k + 1 then y else if 3 * i + 2 = 3 * k then x else pn (3 * i + 2)) = (if i = k then z else f3 i)
  by_cases e : i = k
  · subst e
    simp only [if_true]
    rw [if_neg (by omega), if_neg (by omega), if_neg (by omega)]
    exact ⟨rfl, rfl, trivial⟩
  · have := h i (by omega)
    rw [if_neg e, if_neg e, if_neg e, if_neg (by omega), if_neg (by omega), if_neg (by omega), if_neg (by omega), if_neg (by omega), if_neg (by omega), if_neg (by omega), if_neg (by omega), if_neg (by omega)]
    exact this
/-- the class's walk and the reference's, side by side -/
def WK (c : Nat) (o1 : Option (Int32 × Int32 × Int32 × Int32 × Int32 × (Nat → Int32) × (Nat → Int32) × (Nat → Int32) × (Nat → Int32))) (o2 : Option (Int32 × Int32 × Int32 × Int32 × Int32 × (Nat → Int32) × (Nat → Int32))) : Prop :=
  ∃ k sm lg L a b f1 f2 f3 pn u v one two, o1 = some (nI k, nI sm, nI lg, u, v, a, f1, f2, f3) ∧ o2 = some (one, two, nI k, nI sm, nI lg, b, pn) ∧ k ≤ 12 ∧ sm ≤ k ∧ lg ≤ k ∧ CL c L a ∧ ML c L b ∧ LB c L ∧ REC k f1 f2 f3 pn
theorem e_lp_walk {w c : Nat} {G : Nat → Nat → Nat} {F : Nat → Nat → Int32} {U : Nat → Int32} (hw : w < 5) (hf : FG c G F) (hu : UG c G U) :
    ∀ n m x k sm lg L a b f1 f2 f3 pn u v one two, CL c L a → ML c L b → LB c L → ocN L c + k ≤ 12 → 12 < n + k → 12 < m + k → sm ≤ k → lg ≤ k → REC k f1 f2 f3 pn →
      WK c (lp_X0_run_16 (nI c) F (nI w) n x (nI k) (nI k) (nI sm) (nI lg) u v a f1 f2 f3) (lp_X6_walked_22 (nI c) (nI w) U m x one two (nI k) (nI sm) (nI lg) b pn) := by
  intro n
  induction n with
  | zero => intro m x k sm lg L a b f1 f2 f3 pn u v one two _ _ _ _ h; omega
  | succ n ih =>
    intro m x k sm lg L a b f1 f2 f3 pn u v one two hC hM hB hO hn hm hs hg hR
    have hc := hB.1
    obtain ⟨m, rfl⟩ : ∃ m', m = m' + 1 := ⟨m - 1, by omega⟩
    rw [lp_X0_run_16, lp_X6_walked_22, e_finds hw hu hM hB, bs]
    by_cases h12 : k = 12
    · have h0 : nxt (op L) c 0 = c := oc_no (by omega)
      have hp : pkS w c G L = none := by unfold pkS; rw [h0, if_neg (Nat.lt_irrefl _)]
      rw [hp, if_pos (by rw [l12, i_le (by omega) (by omega)]; omega)]
      exact ⟨k, sm, lg, L, a, b, f1, f2, f3, pn, u, v, nI c, two, rfl, rfl, by omega, hs, hg, hC, hM, hB, hR⟩
    · rw [if_neg (by rw [l12, i_le (by omega) (by omega)]; omega), e_pick hw hf hC hB, bs]
      cases hp : pkS w c G L with
      | none => exact ⟨k, sm, lg, L, a, b, f1, f2, f3, pn, -1, -1, nI c, two, rfl, rfl, by omega, hs, hg, hC, hM, hB, hR⟩
      | some p =>
        obtain ⟨pu, ov⟩ := p
        obtain ⟨⟨hu1, hu2⟩, hv1⟩ := pk_ok hp
        have hv2 : ∀ v, ov = some v → v < c := fun v e => (hv1 v e).1.1
        obtain ⟨z1, z2, z3⟩ := sz_ok hu2 hv1
        rw [if_neg (show ¬ (pkC (some (pu, ov))).1 = 0 by show ¬ (1 : Int32) = 0; decide), if_neg (show ¬ (pkM c two (some (pu, ov))).1 = 0 by show ¬ (1 : Int32) = 0; decide)]
        dsimp (config := { instances := true }) only [pkC, pkM]
        unfold f_X5_nextX f_X6_next
        rw [bs, bs, e_cboth hC hB hu1 hv2, bs, e_cfirst hC hB hu1 hv2, bs, e_size6 hM hB hu1 hv2, bs, e_chance6 hM hB hu1 hv2, bs]
        have hz : ¬ (nI (szN L pu ov)).toInt64 = 0 := fun q => by
          have q2 := congrArg Int64.toInt q
          rw [Int32.toInt_toInt64, i_ti (by omega)] at q2
          have : (0 : Int64).toInt = 0 := rfl
          omega
        rw [if_neg (by rw [l0, i_le (by omega) (by omega)]; omega), if_neg hz, if_neg hz]
        simp only [m_cmp _ z1 (show szN L pu ov ≤ 24 by omega) (show chN L pu ov ≤ 100 by omega)]
        obtain ⟨won, hwon⟩ : ∃ won : Bool, (if nI (chN L pu ov) ≤ ((x * 1103515245 + 12345 - (x * 1103515245 + 12345) / 2147483648 * 2147483648) / 65536 - (x * 1103515245 + 12345 - (x * 1103515245 + 12345) / 2147483648 * 2147483648) / 65536 / (nI (szN L pu ov)).toInt64 * (nI (szN L pu ov)).toInt64).toInt32 then some (0 : Int32) else some 1) = some (bI won) := by
          split
          · exact ⟨false, rfl⟩
          · exact ⟨true, rfl⟩
        rw [hwon, bs, bs, e_write (by omega) hC hB hu1 hv2, bs, e_q11 hM hB hu1 hv2, bs]
        obtain ⟨a', ea, hC'⟩ := e_settle (won := won) hC hB hu1 hv2
        obtain ⟨b', eb, hM'⟩ := e_gets (won := won) hM hB hu1 hv2
        rw [ea, bs, eb, e_q21, e_q23 hc hv2]
        have ew : (if bI won = 0 then some (eO ov) else some (nI pu)) = some (if won = true then nI pu else eO ov) := by
          cases won
          · rfl
          · rfl
        rw [ew]
        have hs1 := sm_le1 (u := pu) (ov := ov) (L := L)
        simp (disch := omega) only [l1, l2, l3, pk_mul, nI_add, i_in, i_cl, d_t, if_pos, bs]
        exact ih m _ (k + 1) (sm + smN L pu ov) (lg + lrN L pu ov) (plL L pu ov won) a' b' _ _ _ _ _ _ _ _ hC' hM' (plL_LB hB hu1 hv2) (by have := pl_oc (won := won) hB ⟨hu1, hu2⟩ hv1; omega) (by omega) (by omega) (by omega) (by omega) hR.add
