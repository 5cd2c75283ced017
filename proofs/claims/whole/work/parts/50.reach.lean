/-! which samples can be: the class's bits -/
def rchB (w c : Nat) (G : Nat → Nat → Nat) : Nat → (Nat → Nat) → Nat → Bool
  | 0, L, s => decide (s = wsN L c)
  | k + 1, L, s => match pkS w c G L with
    | none => decide (s = wsN L c)
    | some p => rchB w c G k (plL L p.1 p.2 true) s || rchB w c G k (plL L p.1 p.2 false) s
def sb (f : Nat → Int64) (s : Nat) : Bool := (f (s / 64)).toBitVec.getLsbD (s % 64)
theorem i_d64 {s : Nat} (h : s < 4096) : nI s / 64 = nI (s / 64) := by
  apply Int32.toInt_inj.mp
  have e : (64 : Int32).toInt = 64 := by decide
  rw [Int32.toInt_div, i_ti (by omega), e, i_ti (by omega), Int.tdiv_eq_ediv_of_nonneg (by omega), Int.bmod_eq_of_le (by omega) (by omega)]
  omega
theorem i_m64 {s : Nat} (h : s < 4096) : nI s - nI s / 64 * 64 = nI (s % 64) := by
  rw [i_d64 h, l64, pk_mul, i_sub (by omega), show s - s / 64 * 64 = s % 64 by omega]
theorem sh_64 : ∀ m, m < 64 → (((nI m).toInt64 &&& 63).toBitVec.smod 64).toNat = m := by decide +kernel
theorem b_or {x : Int64} {m i : Nat} (hm : m < 64) (hi : i < 64) : (x ||| (1 <<< ((nI m).toInt64 &&& 63))).toBitVec.getLsbD i = (x.toBitVec.getLsbD i || decide (i = m)) := by
  rw [Int64.toBitVec_or, BitVec.getLsbD_or, Int64.toBitVec_shiftLeft]
  congr 1
  rw [BitVec.shiftLeft_eq', sh_64 m hm, BitVec.getLsbD_shiftLeft]
  have e1 : (1 : Int64).toBitVec = 1#64 := rfl
  rw [e1, BitVec.getLsbD_one]
  by_cases g : i = m
  · subst g
    simp
    exact hi
  · by_cases g2 : i < m
    · simp [g2, g]
    · have : ¬ (i - m = 0) := by omega
      simp [g2, g, this]
theorem b_get {x : Int64} {m : Nat} (hm : m < 64) : ((x >>> ((nI m).toInt64 &&& 63)) &&& 1 = 1) = (x.toBitVec.getLsbD m = true) := by
  have e1 : (1 : Int64).toBitVec = 1#64 := rfl
  rw [← Int64.toBitVec_inj, Int64.toBitVec_and, Int64.toBitVec_shiftRight, e1, BitVec.sshiftRight_eq', sh_64 m hm]
  apply propext
  constructor
  · intro h
    have h2 : (x.toBitVec.sshiftRight m &&& 1#64).getLsbD 0 = (1#64).getLsbD 0 := by rw [h]
    rw [BitVec.getLsbD_and, BitVec.getLsbD_one, BitVec.getLsbD_sshiftRight] at h2
    simpa [hm] using h2
  · intro h
    apply BitVec.eq_of_getLsbD_eq
    intro i hi
    rw [BitVec.getLsbD_and, BitVec.getLsbD_one, BitVec.getLsbD_sshiftRight]
    by_cases g : i = 0
    · subst g
      simp [hm, h]
    · simp [g]
theorem e_mark {f : Nat → Int64} {s : Nat} (h : s < 4096) : ∃ f', f_X1_mark f (nI s) = some f' ∧ ∀ t, t < 4096 → sb f' t = (sb f t || decide (t = s)) := by
  refine ⟨vp_updL f (s / 64) (f (s / 64) ||| (1 <<< ((nI (s % 64)).toInt64 &&& 63))), ?_, fun t ht => ?_⟩
  · unfold f_X1_mark
    rw [if_neg (by rw [l0, i_lt (by omega) (by omega)]; omega), if_neg (by rw [l4096, i_le (by omega) (by omega)]; omega), i_m64 h, i_d64 h, i_in (by omega), if_pos (decide_eq_true (by omega)), if_pos (decide_eq_true (by omega)), i_cl (by omega)]
  · unfold sb
    by_cases g : t / 64 = s / 64
    · have e : vp_updL f (s / 64) (f (s / 64) ||| (1 <<< ((nI (s % 64)).toInt64 &&& 63))) (t / 64) = f (s / 64) ||| (1 <<< ((nI (s % 64)).toInt64 &&& 63)) := by
        rw [g]; exact if_pos rfl
      rw [e, b_or (by omega) (by omega), g]
      congr 1
      exact decide_eq_decide.mpr ⟨fun q => by omega, fun q => by omega⟩
    · have e : vp_updL f (s / 64) (f (s / 64) ||| (1 <<< ((nI (s % 64)).toInt64 &&& 63))) (t / 64) = f (t / 64) := if_neg g
      rw [e, decide_eq_false (by intro q; subst q; exact g rfl), Bool.or_false]
theorem e_seen {f : Nat → Int64} {s : Nat} (h : s < 4096) : f_X1_isSeen f (nI s) = some (bI (sb f s)) := by
  unfold f_X1_isSeen
  rw [if_neg (by rw [l0, i_lt (by omega) (by omega)]; omega), if_neg (by rw [l4096, i_le (by omega) (by omega)]; omega), i_m64 h, i_d64 h, i_in (by omega), if_pos (decide_eq_true (by omega)), i_cl (by omega)]
  simp only [c_eq, b_get (show s % 64 < 64 by omega)]
  show _ = some (bI (sb f s))
  unfold sb
  cases (f (s / 64)).toBitVec.getLsbD (s % 64) <;> rfl
theorem e_lp_fill : ∀ n i f, i ≤ 64 → 64 < n + i → (∀ j, j < i → f j = 0) → ∃ f', lp_J7_fill_d0a16_6 0 n (nI i) f = some f' ∧ ∀ j, j < 64 → f' j = 0 := by
  intro n
  induction n with
  | zero => intro i f h1 h2; omega
  | succ n ih =>
    intro i f h1 h2 h3
    rw [lp_J7_fill_d0a16_6]
    by_cases e : i = 64
    · subst e
      rw [if_pos (by rw [l64, i_le (by omega) (by omega)]; omega)]
      exact ⟨f, rfl, h3⟩
    · rw [if_neg (by rw [l64, i_le (by omega) (by omega)]; omega), i_in (by omega), if_pos (decide_eq_true (by omega)), i_cl (by omega), l1, nI_add]
      refine ih (i + 1) _ (by omega) (by omega) (fun j hj => ?_)
      by_cases e2 : j = i
      · exact if_pos e2
      · exact (if_neg e2).trans (h3 j (by omega))
theorem e_fill {f : Nat → Int64} : ∃ f', f_J7_fill_d0a16 f 0 = some f' ∧ ∀ s, s < 4096 → sb f' s = false := by
  obtain ⟨f', h1, h2⟩ := e_lp_fill FU 0 f (by omega) (by rw [FU_eq]; omega) (fun j hj => by omega)
  rw [← l0] at h1
  refine ⟨f', ?_, fun s hs => ?_⟩
  · unfold f_J7_fill_d0a16; rw [h1, bs]
  · unfold sb
    rw [h2 (s / 64) (by omega)]
    exact BitVec.getLsbD_zero
theorem plL_out {L : Nat → Nat} {u : Nat} {ov : Option Nat} {won : Bool} {i : Nat} (h1 : i ≠ u) (h2 : ov ≠ some i) : plL L u ov won i = L i := by
  cases ov with
  | none =>
    show (if i = u then _ else L i) = _
    rw [if_neg h1]
  | some v =>
    show (if i = v then _ else if i = u then _ else L i) = _
    rw [if_neg (fun q => h2 (by rw [q])), if_neg h1]
theorem e_restore {c u : Nat} {ov : Option Nat} {L L2 : Nat → Nat} {a : Nat → Int32} (h : CL c L2 a) (hb : LB c L) (hu : u < c) (hv : ∀ v, ov = some v → v < c) (hL : ∀ i, i ≠ u → ov ≠ some i → L2 i = L i) (z : Int32) (hz : ∀ v, ov = some v → z = nI (L v)) :
    ∃ a', f_X0_restore a (nI u) (eO ov) (nI (L u)) z = some (nI u, eO ov, a') ∧ CL c L a' := by
  have hc := hb.1
  obtain ⟨a1, e1, h1⟩ := e_leave (x := L u) hc h hu
  unfold f_X0_restore
  rw [e1, bs]
  cases ov with
  | none =>
    refine ⟨a1, ?_, fun i hi => ?_⟩
    · have : f_X0_leave a1 (eO none) z = some a1 := by
        unfold f_X0_leave
        rw [if_pos (by show (-1 : Int32) < 0; decide)]
      rw [this, bs]
    · rw [h1 i hi]
      show nI (if i < c then (if i = u then L u else L2 i) else 0) = _
      by_cases e : i = u
      · subst e; rw [if_pos rfl]
      · rw [if_neg e, hL i e (fun q => by cases q)]
  | some v =>
    have hv' := hv v rfl
    obtain ⟨a2, e2, h2⟩ := e_leave (x := L v) hc h1 hv'
    refine ⟨a2, ?_, fun i hi => ?_⟩
    · have : f_X0_leave a1 (eO (some v)) z = some a2 := by rw [hz v rfl]; exact e2
      rw [this, bs]
    · rw [h2 i hi]
      show nI (if i < c then (if i = v then L v else if i = u then L u else L2 i) else 0) = _
      by_cases e : i = v
      · subst e; rw [if_pos rfl]
      · rw [if_neg e]
        by_cases e' : i = u
        · subst e'; rw [if_pos rfl]
        · rw [if_neg e', hL i e' (fun q => e (by cases q; rfl))]
/-- follow marks what can be, and leaves what is left as it was -/
theorem e_follow {w c : Nat} {G : Nat → Nat → Nat} {F : Nat → Nat → Int32} (hw : w < 5) (hf : FG c G F) :
    ∀ k n d L u v a f, ocN L c ≤ k → k < n → d + k ≤ 12 → CL c L a → LB c L → ∃ u' v' a' f', f_X1_follow n (nI c) F u v a f (nI w) (nI d) = some (u', v', a', f') ∧ CL c L a' ∧ ∀ s, s < 4096 → sb f' s = (sb f s || rchB w c G k L s) := by
  have hc := hf.1
  intro k
  induction k with
  | zero =>
    intro n d L u v a f h1 h2 h3 hC hB
    obtain ⟨n, rfl⟩ : ∃ n', n = n' + 1 := ⟨n - 1, by omega⟩
    have h0 : nxt (op L) c 0 = c := oc_no (by omega)
    have hp : pkS w c G L = none := by unfold pkS; rw [h0, if_neg (Nat.lt_irrefl _)]
    have hws : wsN L c < 4096 := Nat.lt_of_lt_of_le (ws_lt L c) (pow12 hc)
    obtain ⟨f', m1, m2⟩ := e_mark (f := f) hws
    refine ⟨-1, -1, a, f', ?_, hC, fun s hs => ?_⟩
    · rw [f_X1_follow, if_neg (by rw [l12, i_lt (by omega) (by omega)]; omega), e_pick hw hf hC hB, hp, bs, if_pos (by rfl), e_whole hC hB, bs, m1, bs]
      rfl
    · exact m2 s hs
  | succ k ih =>
    intro n d L u v a f h1 h2 h3 hC hB
    obtain ⟨n, rfl⟩ : ∃ n', n = n' + 1 := ⟨n - 1, by omega⟩
    rw [f_X1_follow, if_neg (by rw [l12, i_lt (by omega) (by omega)]; omega), e_pick hw hf hC hB, bs]
    cases hp : pkS w c G L with
    | none =>
      have hws : wsN L c < 4096 := Nat.lt_of_lt_of_le (ws_lt L c) (pow12 hc)
      obtain ⟨f', m1, m2⟩ := e_mark (f := f) hws
      refine ⟨-1, -1, a, f', ?_, hC, fun s hs => ?_⟩
      · rw [if_pos (by rfl), e_whole hC hB, bs, m1, bs]
        rfl
      · rw [m2 s hs, rchB, hp]
    | some p =>
      obtain ⟨pu, ov⟩ := p
      obtain ⟨⟨hu1, hu2⟩, hv1⟩ := pk_ok hp
      have hv2 : ∀ v, ov = some v → v < c := fun v e => (hv1 v e).1.1
      rw [if_neg (show ¬ (pkC (some (pu, ov))).1 = 0 by show ¬ (1 : Int32) = 0; decide)]
      dsimp (config := { instances := true }) only [pkC]
      obtain ⟨z, hz1, hz2⟩ : ∃ z, f_X0_leftOf a (eO ov) = some z ∧ ∀ v, ov = some v → z = nI (L v) := by
        cases ov with
        | none => exact ⟨0, e_leftOf1, fun v q => by cases q⟩
        | some v => exact ⟨nI (L v), e_leftOf hC hB (hv2 v rfl), fun v' q => by cases q; rfl⟩
      obtain ⟨a1, s1, c1⟩ := e_settle (won := true) hC hB hu1 hv2
      obtain ⟨u1, v1, a2, f1, q1, c2, m1⟩ := ih n (d + 1) (plL L pu ov true) (nI pu) (eO ov) a1 f (by have := pl_oc (won := true) hB ⟨hu1, hu2⟩ hv1; omega) (by omega) (by omega) c1 (plL_LB hB hu1 hv2)
      obtain ⟨a3, r1, c3⟩ := e_restore (L := L) c2 hB hu1 hv2 (fun i h1 h2 => plL_out h1 h2) z hz2
      obtain ⟨a4, s2, c4⟩ := e_settle (won := false) c3 hB hu1 hv2
      obtain ⟨u2, v2, a5, f2, q2, c5, m2⟩ := ih n (d + 1) (plL L pu ov false) (nI pu) (eO ov) a4 f1 (by have := pl_oc (won := false) hB ⟨hu1, hu2⟩ hv1; omega) (by omega) (by omega) c4 (plL_LB hB hu1 hv2)
      obtain ⟨a6, r2, c6⟩ := e_restore (L := L) c5 hB hu1 hv2 (fun i h1 h2 => plL_out h1 h2) z hz2
      have s1 : f_X0_settle (nI pu) (eO ov) a 1 = some a1 := s1
      have s2 : f_X0_settle (nI pu) (eO ov) a3 0 = some a4 := s2
      refine ⟨nI pu, eO ov, a6, f2, ?_, c6, fun s hs => ?_⟩
      · rw [e_leftOf hC hB hu1, bs, hz1, bs, s1, bs, show nI d + 1 = nI (d + 1) by rw [l1, nI_add], q1, bs]
        dsimp (config := { instances := true }) only
        rw [r1, bs]
        dsimp (config := { instances := true }) only
        rw [s2, bs, q2, bs]
        dsimp (config := { instances := true }) only
        rw [r2, bs]
      · rw [m2 s hs, m1 s hs, rchB, hp]
        show _ = (sb f s || (rchB w c G k (plL L pu ov true) s || rchB w c G k (plL L pu ov false) s))
        rw [Bool.or_assoc]
