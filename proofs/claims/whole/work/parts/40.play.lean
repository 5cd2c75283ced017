/-! one play -/
theorem m_rem (x : Int64) {m : Nat} (h0 : 0 < m) (h1 : m ≤ 24) : (x - x / (nI m).toInt64 * (nI m).toInt64).toInt = x.toInt.tmod m := by
  have e : ((nI m).toInt64).toInt = (m : Int) := by rw [Int32.toInt_toInt64, i_ti (by omega)]
  have hm : (m : Int) ≠ 0 := by omega
  have b1 := Int.tmod_lt_of_pos x.toInt (b := (m : Int)) (by omega)
  have b2 := Int.lt_tmod_of_pos x.toInt (b := (m : Int)) (by omega)
  rw [Int64.toInt_sub, Int64.toInt_mul, Int64.toInt_div, e]
  have q : x.toInt - x.toInt.tdiv m * m = x.toInt.tmod m := by
    have := Int.tmod_add_mul_tdiv x.toInt m
    rw [Int.mul_comm (x.toInt.tdiv m)]
    omega
  rw [Int.bmod_mul_bmod, Int.sub_bmod_bmod, q]
  exact Int.bmod_eq_of_le (by omega) (by omega)
theorem m_cmp (x : Int64) {m k : Nat} (h0 : 0 < m) (h1 : m ≤ 24) (hk : k ≤ 100) :
    (0 ≤ lg_cmp (x - x / (nI m).toInt64 * (nI m).toInt64) (nI k).toInt64) = (nI k ≤ (x - x / (nI m).toInt64 * (nI m).toInt64).toInt32) := by
  have b1 := Int.tmod_lt_of_pos x.toInt (b := (m : Int)) (by omega)
  have b2 := Int.lt_tmod_of_pos x.toInt (b := (m : Int)) (by omega)
  rw [c_ge, Int64.le_iff_toInt_le, fa_le, Int64.toInt_toInt32, m_rem x h0 h1, Int32.toInt_toInt64, i_ti (by omega), Int.bmod_eq_of_le (by omega) (by omega)]
/-- how many chances there are, how many are the first's -/
def szN (L : Nat → Nat) (u : Nat) : Option Nat → Nat
  | none => 12
  | some v => if 12 < L u + L v then 24 - (L u + L v) else L u + L v
def chN (L : Nat → Nat) (u : Nat) : Option Nat → Nat
  | none => L u
  | some v => if 12 < L u + L v then 12 - L v else L u
def lgN (L : Nat → Nat) (u : Nat) : Option Nat → Bool
  | none => false
  | some v => decide (12 < L u + L v)
theorem eO_m1' {ov : Option Nat} {c : Nat} (hc : c ≤ 12) (h : ∀ v, ov = some v → v < c) : (eO ov = -1) = (ov = none) := eO_m1 (fun b e => by have := h b e; omega)
theorem e_leftOf {c u : Nat} {L : Nat → Nat} {a : Nat → Int32} (h : CL c L a) (hb : LB c L) (hu : u < c) : f_X0_leftOf a (nI u) = some (nI (L u)) := by
  have hc := hb.1
  have hv := h u (by omega)
  rw [if_pos hu] at hv
  unfold f_X0_leftOf
  simp (disch := omega) only [l0, l12, i_lt, i_le, i_in, i_cl, d_t, if_neg, if_pos, hv]
theorem e_leftOf1 {a : Nat → Int32} : f_X0_leftOf a (-1) = some 0 := by
  unfold f_X0_leftOf
  rw [if_pos (by decide)]
theorem e_lboth {c u v : Nat} {L : Nat → Nat} {a : Nat → Int32} (h : CL c L a) (hb : LB c L) (hu : u < c) (hv : v < c) : f_X0_leftOfBoth (nI u) (nI v) a = some (nI (L u + L v)) := by
  unfold f_X0_leftOfBoth
  rw [e_leftOf h hb hu, bs, e_leftOf h hb hv, bs, nI_add]
theorem e_cboth {c u : Nat} {ov : Option Nat} {L : Nat → Nat} {a : Nat → Int32} (h : CL c L a) (hb : LB c L) (hu : u < c) (hv : ∀ v, ov = some v → v < c) : f_X0_chancesOfBoth (nI u) (eO ov) a = some (nI (szN L u ov)) := by
  have hc := hb.1
  unfold f_X0_chancesOfBoth
  simp only [eO_m1' hc hv]
  cases ov with
  | none => rw [if_pos rfl]; exact congrArg some l12
  | some v =>
    have hv := hv v rfl
    have h1 := hb.2 u hu
    have h2 := hb.2 v hv
    rw [if_neg (by intro q; cases q)]
    show Option.bind (f_X0_leftOfBoth (nI u) (nI v) a) _ = _
    rw [e_lboth h hb hu hv, bs]
    simp (disch := omega) only [l12, l24, i_lt]
    show _ = some (nI (if 12 < L u + L v then 24 - (L u + L v) else L u + L v))
    by_cases g : 12 < L u + L v
    · rw [if_pos g, if_pos g, i_sub (by omega)]
    · rw [if_neg g, if_neg g]
theorem e_cfirst {c u : Nat} {ov : Option Nat} {L : Nat → Nat} {a : Nat → Int32} (h : CL c L a) (hb : LB c L) (hu : u < c) (hv : ∀ v, ov = some v → v < c) : f_X0_chancesOfFirst (nI u) (eO ov) a = some (nI (chN L u ov)) := by
  have hc := hb.1
  have h1 := hb.2 u hu
  unfold f_X0_chancesOfFirst
  cases ov with
  | none =>
    show Option.bind (f_X0_leftOfBoth (nI u) (-1) a) _ = _
    unfold f_X0_leftOfBoth
    rw [e_leftOf h hb hu, bs, e_leftOf1, bs, bs, l0, nI_add, if_neg (by rw [l12, i_lt (by omega) (by omega)]; omega), bs]
    rfl
  | some v =>
    have hv := hv v rfl
    have h2 := hb.2 v hv
    show Option.bind (f_X0_leftOfBoth (nI u) (nI v) a) (fun (q1 : Int32) => if 12 < q1 then Option.bind (f_X0_leftOf a (nI v)) (fun (q3 : Int32) => some (12 - q3)) else Option.bind (f_X0_leftOf a (nI u)) (fun (q4 : Int32) => some q4)) = _
    rw [e_lboth h hb hu hv, bs, e_leftOf h hb hu, e_leftOf h hb hv, bs, bs]
    simp (disch := omega) only [l12, i_lt]
    show _ = some (nI (if 12 < L u + L v then 12 - L v else L u))
    by_cases g : 12 < L u + L v
    · rw [if_pos g, if_pos g, i_sub (by omega)]
    · rw [if_neg g, if_neg g]
theorem e_size6 {c u : Nat} {ov : Option Nat} {L : Nat → Nat} {a : Nat → Int32} (h : ML c L a) (hb : LB c L) (hu : u < c) (hv : ∀ v, ov = some v → v < c) : f_X6_sizeOfPlay (nI u) (eO ov) a = some (nI (szN L u ov)) := by
  have hc := hb.1
  unfold f_X6_sizeOfPlay
  simp only [eO_m1' hc hv]
  cases ov with
  | none => rw [if_pos rfl]; exact congrArg some l12
  | some v =>
    have hv := hv v rfl
    have h1 := hb.2 u hu
    have h2 := hb.2 v hv
    rw [if_neg (by intro q; cases q)]
    show (if inB (nI u) 12 then if inB (nI v) 12 then if 12 < ((a (Int32.toNatClampNeg (nI u))) + (a (Int32.toNatClampNeg (nI v)))) then some (24 - ((a (Int32.toNatClampNeg (nI u))) + (a (Int32.toNatClampNeg (nI v))))) else some ((a (Int32.toNatClampNeg (nI u))) + (a (Int32.toNatClampNeg (nI v)))) else none else none) = _
    simp (disch := omega) only [l12, l24, i_lt, i_in, i_cl, d_t, if_pos, h u hu, h v hv, nI_add]
    show _ = some (nI (if 12 < L u + L v then 24 - (L u + L v) else L u + L v))
    by_cases g : 12 < L u + L v
    · rw [if_pos g, if_pos g, i_sub (by omega)]
    · rw [if_neg g, if_neg g]
theorem e_chance6 {c u : Nat} {ov : Option Nat} {L : Nat → Nat} {a : Nat → Int32} (h : ML c L a) (hb : LB c L) (hu : u < c) (hv : ∀ v, ov = some v → v < c) : f_X6_chancesOfOne (nI u) (eO ov) a = some (nI (chN L u ov)) := by
  have hc := hb.1
  have h1 := hb.2 u hu
  unfold f_X6_chancesOfOne
  simp only [eO_m1' hc hv]
  cases ov with
  | none =>
    rw [if_pos rfl]
    simp (disch := omega) only [i_in, i_cl, d_t, if_pos, h u hu]
    rfl
  | some v =>
    have hv := hv v rfl
    have h2 := hb.2 v hv
    rw [if_neg (by intro q; cases q)]
    show (if inB (nI u) 12 then if inB (nI v) 12 then if 12 < ((a (Int32.toNatClampNeg (nI u))) + (a (Int32.toNatClampNeg (nI v)))) then if inB (nI v) 12 then some (12 - (a (Int32.toNatClampNeg (nI v)))) else none else if inB (nI u) 12 then some (a (Int32.toNatClampNeg (nI u))) else none else none else none) = _
    simp (disch := omega) only [l12, i_lt, i_in, i_cl, d_t, if_pos, h u hu, h v hv, nI_add]
    show _ = some (nI (if 12 < L u + L v then 12 - L v else L u))
    by_cases g : 12 < L u + L v
    · rw [if_pos g, if_pos g, i_sub (by omega)]
    · rw [if_neg g, if_neg g]
/-- what is left after a play -/
def plL (L : Nat → Nat) (u : Nat) (ov : Option Nat) (won : Bool) : Nat → Nat := match ov with
  | none => fun i => if i = u then (if won = true then 12 else 0) else L i
  | some v => fun i => if i = v then (if won = true then L u + L v - min 12 (L u + L v) else min 12 (L u + L v)) else if i = u then (if won = true then min 12 (L u + L v) else L u + L v - min 12 (L u + L v)) else L i
theorem e_leave {c u x : Nat} {L : Nat → Nat} {a : Nat → Int32} (hc : c ≤ 12) (h : CL c L a) (hu : u < c) : ∃ a', f_X0_leave a (nI u) (nI x) = some a' ∧ CL c (fun i => if i = u then x else L i) a' := by
  refine ⟨upd a u (nI x), ?_, ?_⟩
  · unfold f_X0_leave
    simp (disch := omega) only [l0, l12, i_lt, i_le, i_in, i_cl, d_t, if_neg, if_pos]
  · intro i hi
    show (if i = u then nI x else a i) = nI (if i < c then (if i = u then x else L i) else 0)
    by_cases e : i = u
    · subst e
      rw [if_pos rfl, if_pos rfl, if_pos hu]
    · rw [if_neg e, if_neg e]
      exact h i hi
theorem mn_i {s : Nat} (h : s ≤ 100) : (if nI 12 < nI s then nI 12 else nI s) = nI (min 12 s) := by
  simp (disch := omega) only [i_lt]
  by_cases g : 12 < s
  · rw [if_pos g, Nat.min_eq_left (by omega)]
  · rw [if_neg g, Nat.min_eq_right (by omega)]
theorem e_settle {c u : Nat} {ov : Option Nat} {L : Nat → Nat} {a : Nat → Int32} {won : Bool} (h : CL c L a) (hb : LB c L) (hu : u < c) (hv : ∀ v, ov = some v → v < c) :
    ∃ a', f_X0_settle (nI u) (eO ov) a (bI won) = some a' ∧ CL c (plL L u ov won) a' := by
  have hc := hb.1
  have h1 := hb.2 u hu
  unfold f_X0_settle
  simp only [eO_m1' hc hv]
  cases ov with
  | none =>
    rw [if_pos rfl]
    cases won with
    | true =>
      obtain ⟨a', e1, e2⟩ := e_leave (x := 12) hc h hu
      refine ⟨a', ?_, e2⟩
      rw [if_neg (by decide), bs, l12, e1, bs]
    | false =>
      obtain ⟨a', e1, e2⟩ := e_leave (x := 0) hc h hu
      refine ⟨a', ?_, e2⟩
      rw [if_pos (by decide), bs, l0, e1, bs]
  | some v =>
    have hv := hv v rfl
    have h2 := hb.2 v hv
    rw [if_neg (by intro q; cases q)]
    show ∃ a', Option.bind (f_X0_leftOfBoth (nI u) (nI v) a) (fun (q2 : Int32) => Option.bind (if bI won = 0 then some (q2 - (if 12 < q2 then 12 else q2)) else some (if 12 < q2 then 12 else q2)) (fun (q4 : Int32) => Option.bind (f_X0_leave a (nI u) q4) (fun (q5 : (Nat → Int32)) => Option.bind (if bI won = 0 then some (if 12 < q2 then 12 else q2) else some (q2 - (if 12 < q2 then 12 else q2))) (fun (q7 : Int32) => Option.bind (f_X0_leave q5 (nI v) q7) (fun (q8 : (Nat → Int32)) => some q8))))) = some a' ∧ _
    rw [e_lboth h hb hu hv, bs, l12, mn_i (by omega), i_sub (Nat.min_le_right _ _)]
    cases won with
    | true =>
      obtain ⟨a1, e1, e2⟩ := e_leave (x := min 12 (L u + L v)) hc h hu
      obtain ⟨a2, e3, e4⟩ := e_leave (x := L u + L v - min 12 (L u + L v)) hc e2 hv
      refine ⟨a2, ?_, e4⟩
      rw [if_neg (by decide), bs, e1, bs, if_neg (by decide), bs, e3, bs]
    | false =>
      obtain ⟨a1, e1, e2⟩ := e_leave (x := L u + L v - min 12 (L u + L v)) hc h hu
      obtain ⟨a2, e3, e4⟩ := e_leave (x := min 12 (L u + L v)) hc e2 hv
      refine ⟨a2, ?_, e4⟩
      rw [if_pos (by decide), bs, e1, bs, if_pos (by decide), bs, e3, bs]
theorem ML.up {c u x : Nat} {L : Nat → Nat} {a : Nat → Int32} (h : ML c L a) : ML c (fun i => if i = u then x else L i) (upd a u (nI x)) := by
  intro i hi
  show (if i = u then nI x else a i) = nI (if i = u then x else L i)
  by_cases e : i = u
  · rw [if_pos e, if_pos e]
  · rw [if_neg e, if_neg e]; exact h i hi
theorem e_gets {c u : Nat} {ov : Option Nat} {L : Nat → Nat} {a : Nat → Int32} {won : Bool} (h : ML c L a) (hb : LB c L) (hu : u < c) (hv : ∀ v, ov = some v → v < c) :
    ∃ a', f_X6_gets (nI u) (eO ov) a (bI won) = some a' ∧ ML c (plL L u ov won) a' := by
  have hc := hb.1
  have h1 := hb.2 u hu
  unfold f_X6_gets
  simp only [eO_m1' hc hv]
  cases ov with
  | none =>
    rw [if_pos rfl]
    cases won with
    | true =>
      refine ⟨upd a u (nI 12), ?_, h.up⟩
      rw [if_neg (by decide), bs, i_in (by omega), if_pos (decide_eq_true (by omega)), i_cl (by omega), l12]
    | false =>
      refine ⟨upd a u (nI 0), ?_, h.up⟩
      rw [if_pos (by decide), bs, i_in (by omega), if_pos (decide_eq_true (by omega)), i_cl (by omega), l0]
  | some v =>
    have hv := hv v rfl
    have h2 := hb.2 v hv
    rw [if_neg (by intro q; cases q)]
    have em : (if 12 < nI (L u + L v) then some (12 : Int32) else some (nI (L u + L v))) = some (nI (min 12 (L u + L v))) := by
      rw [← mn_i (by omega), l12]
      by_cases g : nI 12 < nI (L u + L v)
      · rw [if_pos g, if_pos g]
      · rw [if_neg g, if_neg g]
    show ∃ a', (if inB (nI u) 12 then if inB (nI v) 12 then Option.bind (if 12 < ((a (Int32.toNatClampNeg (nI u))) + (a (Int32.toNatClampNeg (nI v)))) then some 12 else some ((a (Int32.toNatClampNeg (nI u))) + (a (Int32.toNatClampNeg (nI v))))) (fun (q5 : Int32) => Option.bind (if bI won = 0 then some (((a (Int32.toNatClampNeg (nI u))) + (a (Int32.toNatClampNeg (nI v)))) - q5) else some q5) (fun (q7 : Int32) => if inB (nI u) 12 then Option.bind (if bI won = 0 then some q5 else some (((a (Int32.toNatClampNeg (nI u))) + (a (Int32.toNatClampNeg (nI v)))) - q5)) (fun (q10 : Int32) => if inB (nI v) 12 then some (upd (upd a (Int32.toNatClampNeg (nI u)) q7) (Int32.toNatClampNeg (nI v)) q10) else none) else none)) else none else none) = some a' ∧ _
    simp (disch := omega) only [i_in, i_cl, d_t, if_pos, h u hu, h v hv, nI_add]
    rw [em, bs, i_sub (Nat.min_le_right _ _)]
    cases won with
    | true =>
      refine ⟨upd (upd a u (nI (min 12 (L u + L v)))) v (nI (L u + L v - min 12 (L u + L v))), ?_, (h.up (u := u)).up⟩
      rw [if_neg (by decide), bs, if_neg (by decide), bs]
    | false =>
      refine ⟨upd (upd a u (nI (L u + L v - min 12 (L u + L v)))) v (nI (min 12 (L u + L v))), ?_, (h.up (u := u)).up⟩
      rw [if_pos (by decide), bs, if_pos (by decide), bs]
theorem plL_LB {c u : Nat} {ov : Option Nat} {L : Nat → Nat} {won : Bool} (hb : LB c L) (hu : u < c) (hv : ∀ v, ov = some v → v < c) : LB c (plL L u ov won) := by
  refine ⟨hb.1, fun i hi => ?_⟩
  have h0 := hb.2 i hi
  have h1 := hb.2 u hu
  cases ov with
  | none =>
    show (if i = u then (if won = true then 12 else 0) else L i) ≤ 12
    by_cases e : i = u
    · rw [if_pos e]; cases won <;> decide
    · rw [if_neg e]; exact h0
  | some v =>
    have h2 := hb.2 v (hv v rfl)
    show (if i = v then (if won = true then L u + L v - min 12 (L u + L v) else min 12 (L u + L v)) else if i = u then (if won = true then min 12 (L u + L v) else L u + L v - min 12 (L u + L v)) else L i) ≤ 12
    have g1 : min 12 (L u + L v) ≤ 12 := Nat.min_le_left _ _
    have g2 : L u + L v - min 12 (L u + L v) ≤ 12 := by omega
    by_cases e : i = v
    · rw [if_pos e]; cases won
      · exact g1
      · exact g2
    · rw [if_neg e]
      by_cases e' : i = u
      · rw [if_pos e']; cases won
        · exact g2
        · exact g1
      · rw [if_neg e']; exact h0
/-- how many are open -/
def ocN (L : Nat → Nat) (c : Nat) : Nat := fb_sm (fun i => if op L i = true then 1 else 0) c
theorem sm_lt {f g : Nat → Nat} {j : Nat} : ∀ c, (∀ i, i < c → f i ≤ g i) → j < c → f j < g j → fb_sm f c < fb_sm g c
  | 0, _, h, _ => by omega
  | c + 1, h1, h2, h3 => by
    rw [fb_sm_succ, fb_sm_succ]
    have hc := h1 c (by omega)
    by_cases e : j = c
    · subst e
      have : fb_sm f j ≤ fb_sm g j := by
        clear h3 h2 hc
        induction j with
        | zero => exact Nat.le_refl _
        | succ j ih =>
          rw [fb_sm_succ, fb_sm_succ]
          have := ih (fun i hi => h1 i (by omega))
          have := h1 j (by omega)
          omega
      omega
    · have := sm_lt c (fun i hi => h1 i (by omega)) (by omega) h3
      omega
theorem oc_no {L : Nat → Nat} {c : Nat} (h : ocN L c = 0) : nxt (op L) c 0 = c := by
  have hl := nxt_le (op L) c 0
  rcases Nat.lt_or_ge (nxt (op L) c 0) c with g | g
  · exfalso
    have hp := nxt_holds g
    have := sm_lt (f := fun _ => 0) (g := fun i => if op L i = true then 1 else 0) (j := nxt (op L) c 0) c (fun i _ => Nat.zero_le _) g (by show 0 < if _ then 1 else 0; rw [if_pos hp]; decide)
    unfold ocN at h
    omega
  · omega
theorem oc_le (L : Nat → Nat) : ∀ c, ocN L c ≤ c
  | 0 => Nat.le_refl _
  | c + 1 => by
    have := oc_le L c
    show ocN L c + (if op L c = true then 1 else 0) ≤ c + 1
    by_cases h : op L c = true
    · rw [if_pos h]; omega
    · rw [if_neg h]; omega
/-- each play closes one at least -/
theorem pl_oc {c u : Nat} {ov : Option Nat} {L : Nat → Nat} {won : Bool} (hb : LB c L) (hu : u < c ∧ op L u = true) (hv : ∀ v, ov = some v → (v < c ∧ op L v = true) ∧ u ≠ v) : ocN (plL L u ov won) c < ocN L c := by
  have hop := op_iff.mp hu.2
  cases ov with
  | none =>
    refine sm_lt (j := u) c (fun i _ => ?_) hu.1 ?_
    · by_cases e : i = u
      · subst e
        show _ ≤ if op L i = true then 1 else 0
        rw [if_pos hu.2]
        split <;> omega
      · have : op (plL L u none won) i = op L i := by
          unfold op
          show decide (0 < (if i = u then _ else L i) ∧ (if i = u then _ else L i) < 12) = _
          rw [if_neg e]
        rw [this]
        exact Nat.le_refl _
    · show (if op (plL L u none won) u = true then 1 else 0) < if op L u = true then 1 else 0
      rw [if_pos hu.2, if_neg]
      · decide
      · rw [op_iff]
        show ¬ (0 < (if u = u then _ else L u) ∧ (if u = u then _ else L u) < 12)
        rw [if_pos rfl]
        cases won <;> decide
  | some v =>
    obtain ⟨hv1, hne⟩ := hv v rfl
    have hop2 := op_iff.mp hv1.2
    have hU : plL L u (some v) won u = if won = true then min 12 (L u + L v) else L u + L v - min 12 (L u + L v) := by
      show (if u = v then _ else if u = u then _ else L u) = _
      rw [if_neg hne, if_pos rfl]
    have hV : plL L u (some v) won v = if won = true then L u + L v - min 12 (L u + L v) else min 12 (L u + L v) := by
      show (if v = v then _ else _) = _
      rw [if_pos rfl]
    have hI : ∀ i, i ≠ u → i ≠ v → plL L u (some v) won i = L i := fun i h1 h2 => by
      show (if i = v then _ else if i = u then _ else L i) = _
      rw [if_neg h2, if_neg h1]
    have hle : ∀ i, i < c → (if op (plL L u (some v) won) i = true then 1 else 0) ≤ (if op L i = true then 1 else 0) := fun i _ => by
      by_cases e : i = u
      · subst e; rw [if_pos hu.2]; split <;> omega
      · by_cases e2 : i = v
        · subst e2; rw [if_pos hv1.2]; split <;> omega
        · have : op (plL L u (some v) won) i = op L i := by unfold op; rw [hI i e e2]
          rw [this]
          exact Nat.le_refl _
    have hz : ∀ i, i = u ∨ i = v → ¬ (0 < plL L u (some v) won i ∧ plL L u (some v) won i < 12) → ocN (plL L u (some v) won) c < ocN L c := fun i hi hn => by
      have hic : i < c ∧ op L i = true := by rcases hi with e | e <;> subst e
                                             · exact hu
                                             · exact hv1
      refine sm_lt (j := i) c hle hic.1 ?_
      show (if op (plL L u (some v) won) i = true then 1 else 0) < if op L i = true then 1 else 0
      rw [if_pos hic.2, if_neg]
      · decide
      · rw [op_iff]; exact hn
    by_cases g : 12 < L u + L v
    · have hm : min 12 (L u + L v) = 12 := Nat.min_eq_left (by omega)
      cases won with
      | true => exact hz u (Or.inl rfl) (by rw [hU, if_pos rfl, hm]; omega)
      | false => exact hz v (Or.inr rfl) (by rw [hV, if_neg (by decide), hm]; omega)
    · have hm : min 12 (L u + L v) = L u + L v := Nat.min_eq_right (by omega)
      cases won with
      | true => exact hz v (Or.inr rfl) (by rw [hV, if_pos rfl, hm]; omega)
      | false => exact hz u (Or.inl rfl) (by rw [hU, if_neg (by decide), hm]; omega)
