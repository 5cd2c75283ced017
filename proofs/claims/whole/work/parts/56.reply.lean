/-! what is put into the answer -/
def TPU (o1 o2 : Option (Int32 × (Nat → Int32))) : Prop := ∃ p pl ps al an, o1 = some (pl, ps) ∧ o2 = some (al, an) ∧ ANS p pl ps al an
theorem e_put {p m : Nat} {pl al : Int32} {ps an : Nat → Int32} (h : ANS p pl ps al an) (hm : m ≤ 127) : TPU (f_X2_put pl ps (nI m)) (f_X6_tells al an (nI m)) := by
  have h0 := h
  obtain ⟨h1, rfl, rfl, hv⟩ := h
  unfold f_X2_put f_X6_tells
  by_cases g : 300 ≤ p
  · have g' : 300 ≤ nI p := by rw [l300, i_le (by omega) (by omega)]; omega
    simp only [if_pos g']
    exact ⟨p, nI p, ps, nI p, an, rfl, rfl, h0⟩
  · have g' : ¬ 300 ≤ nI p := by rw [l300, i_le (by omega) (by omega)]; omega
    simp only [if_neg g']
    rw [i_in (by omega), if_pos (decide_eq_true (by omega)), if_pos (decide_eq_true (by omega)), i_cl (by omega), nar_b hm, l1, nI_add]
    refine ⟨p + 1, _, _, _, _, rfl, rfl, by omega, rfl, rfl, fun i hi => ?_⟩
    show (if i = p then nI m else ps i) = (if i = p then nI m else an i)
    by_cases e : i = p
    · rw [if_pos e, if_pos e]
    · rw [if_neg e, if_neg e]; exact hv i (by omega)
theorem num_tab : ∀ m, m < 100 → (48 + ((nI m / 10) - (nI m / 10) / 10 * 10)) = nI (48 + m / 10) ∧ 48 + (nI m / 10) = nI (48 + m / 10) ∧ 48 + (nI m - nI m / 10 * 10) = nI (48 + m % 10) := by decide +kernel
theorem e_putNumber {p m : Nat} {pl al : Int32} {ps an : Nat → Int32} (h : ANS p pl ps al an) (hm : m < 100) : TPU (f_X2_putNumber pl ps (nI m)) (f_X6_tellsNumber al an (nI m)) := by
  obtain ⟨t1, t2, t3⟩ := num_tab m hm
  unfold f_X2_putNumber f_X6_tellsNumber
  rw [t1, t2, t3]
  by_cases g : m < 10
  · rw [if_pos (show nI m < 10 by rw [l10, i_lt (by omega) (by omega)]; omega), if_pos (show nI m ≤ 9 by rw [l9, i_le (by omega) (by omega)]; omega), bs, bs]
    obtain ⟨p', pl', ps', al', an', e1, e2, h'⟩ := e_put h (show 48 + m % 10 ≤ 127 by omega)
    rw [e1, e2]
    exact ⟨p', pl', ps', al', an', rfl, rfl, h'⟩
  · rw [if_neg (show ¬ nI m < 10 by rw [l10, i_lt (by omega) (by omega)]; omega), if_neg (show ¬ nI m ≤ 9 by rw [l9, i_le (by omega) (by omega)]; omega)]
    obtain ⟨p1, pl1, ps1, al1, an1, e1, e2, h1⟩ := e_put h (show 48 + m / 10 ≤ 127 by omega)
    rw [e1, e2, bs, bs, bs, bs]
    obtain ⟨p', pl', ps', al', an', e3, e4, h'⟩ := e_put h1 (show 48 + m % 10 ≤ 127 by omega)
    show TPU (Option.bind (f_X2_put pl1 ps1 _) _) (Option.bind (f_X6_tells al1 an1 _) _)
    rw [e3, e4]
    exact ⟨p', pl', ps', al', an', rfl, rfl, h'⟩
theorem i_bit1 {s u : Nat} (hs : s < 2147483648) (hu : u < 32) : (((nI s >>> (nI u &&& 31)) &&& 1) = 1) = (s / 2 ^ u % 2 = 1) := i_bit hs hu
/-- the loop of the class from i on, where no bit stands any more -/
theorem e_lp_units0 {s c : Nat} (hs : s < 2 ^ c) (hc : c ≤ 12) : ∀ n i v pl ps, c ≤ i → i ≤ 12 → 12 < n + i → lp_X2_putUnits_15 (nI s) n v (nI i) pl ps = some (pl, ps) := by
  have hp := pow12 hc
  intro n
  induction n with
  | zero => intro i v pl ps h1 h2 h3; omega
  | succ n ih =>
    intro i v pl ps h1 h2 h3
    rw [lp_X2_putUnits_15]
    by_cases e : i = 12
    · subst e
      rw [if_pos (by rw [l12, i_le (by omega) (by omega)]; omega)]
    · have hz : ¬ (s / 2 ^ i % 2 = 1) := by
        rw [Nat.div_eq_of_lt (Nat.lt_of_lt_of_le hs (pow_le h1))]
        decide
      rw [if_neg (by rw [l12, i_le (by omega) (by omega)]; omega)]
      simp only [i_bit1 (show s < 2147483648 by omega) (show i < 32 by omega)]
      rw [if_neg hz, bs, show nI i + 1 = nI (i + 1) by rw [l1, nI_add]]
      exact ih (i + 1) v pl ps (by omega) (by omega) (by omega)
def lowS (s i : Nat) : Nat := s % 2 ^ i
theorem low_succ (s i : Nat) : (lowS s (i + 1) = 0) = (lowS s i = 0 ∧ ¬ (s / 2 ^ i % 2 = 1)) := by
  unfold lowS
  rw [Nat.pow_succ, Nat.mod_mul]
  have hp := Nat.two_pow_pos i
  have hm : s / 2 ^ i % 2 < 2 := Nat.mod_lt _ (by decide)
  apply propext
  constructor
  · intro h
    have h1 : s % 2 ^ i = 0 := by omega
    refine ⟨h1, fun q => ?_⟩
    rw [q] at h
    omega
  · rintro ⟨h1, h2⟩
    have : s / 2 ^ i % 2 = 0 := by omega
    rw [h1, this]
    simp
theorem e_lp_units {s c : Nat} (hs : s < 2 ^ c) (hc : c ≤ 12) : ∀ n m i p cnt pl ps al an, i ≤ c → 12 < n + i → c < m + i → cnt ≤ i → (cnt = 0 ↔ lowS s i = 0) → ANS p pl ps al an →
    ∃ p' pl' ps' al' an' cnt', lp_X2_putUnits_15 (nI s) n (if cnt = 0 then 0 else 1) (nI i) pl ps = some (pl', ps') ∧ lp_X6_tellsSample_4 (nI c) (nI s) m (nI cnt) (nI i) al an = some (nI cnt', al', an') ∧ cnt' ≤ 12 ∧ (cnt' = 0 ↔ lowS s c = 0) ∧ ANS p' pl' ps' al' an' := by
  have hp := pow12 hc
  intro n
  induction n with
  | zero => intro m i p cnt pl ps al an h1 h2; omega
  | succ n ih =>
    intro m i p cnt pl ps al an h1 h2 h3 h4 h5 h6
    obtain ⟨m, rfl⟩ : ∃ m', m = m' + 1 := ⟨m - 1, by omega⟩
    by_cases e : i = c
    · subst e
      refine ⟨p, pl, ps, al, an, cnt, e_lp_units0 hs hc (n + 1) i _ pl ps (Nat.le_refl _) hc h2, ?_, by omega, h5, h6⟩
      rw [lp_X6_tellsSample_4, if_pos (by rw [i_le (by omega) (by omega)]; omega)]
    · rw [lp_X2_putUnits_15, lp_X6_tellsSample_4, if_neg (show ¬ 12 ≤ nI i by rw [l12, i_le (by omega) (by omega)]; omega), if_neg (show ¬ nI c ≤ nI i by rw [i_le (by omega) (by omega)]; omega), e_has (by omega) (by omega), bs]
      simp only [i_bit1 (show s < 2147483648 by omega) (show i < 32 by omega), b01]
      have i1 : nI i + 1 = nI (i + 1) := by rw [l1, nI_add]
      rw [i1]
      by_cases g : s / 2 ^ i % 2 = 1
      · simp only [if_pos g, if_neg (show ¬ ¬ (s / 2 ^ i % 2 = 1) from fun q => q g)]
        have h7 : (cnt + 1 = 0 ↔ lowS s (i + 1) = 0) := by
          rw [low_succ]
          exact ⟨fun q => by omega, fun q => absurd g q.2⟩
        have hbr : TPU (if (if cnt = 0 then (0 : Int32) else 1) = 0 then some (pl, ps) else Option.bind (f_X2_put pl ps 43) (fun (q7 : Int32 × (Nat → Int32)) => some (q7.1, q7.2))) (if nI cnt ≤ 0 then some (al, an) else Option.bind (f_X6_tells al an 43) (fun (q7 : Int32 × (Nat → Int32)) => some (q7.1, q7.2))) := by
          by_cases gc : cnt = 0
          · rw [if_pos gc, if_pos rfl, if_pos (by rw [l0, i_le (by omega) (by omega)]; omega)]
            exact ⟨p, pl, ps, al, an, rfl, rfl, h6⟩
          · rw [if_neg gc, if_neg (by decide), if_neg (by rw [l0, i_le (by omega) (by omega)]; omega)]
            obtain ⟨p', pl', ps', al', an', e1, e2, h'⟩ := e_put h6 (show 43 ≤ 127 by omega)
            rw [l43, e1, e2]
            exact ⟨p', pl', ps', al', an', rfl, rfl, h'⟩
        obtain ⟨p1, pl1, ps1, al1, an1, e1, e2, k1⟩ := hbr
        rw [e1, e2, bs, bs]
        obtain ⟨p2, pl2, ps2, al2, an2, e3, e4, k2⟩ := e_putNumber k1 (show i < 100 by omega)
        dsimp (config := { instances := true }) only
        rw [e3, e4, bs, bs, bs, bs]
        have := ih m (i + 1) p2 (cnt + 1) pl2 ps2 al2 an2 (by omega) (by omega) (by omega) (by omega) h7 k2
        rw [if_neg (show ¬ (cnt + 1 = 0) by omega)] at this
        dsimp (config := { instances := true }) only
        rw [show nI cnt + 1 = nI (cnt + 1) by rw [l1, nI_add]]
        exact this
      · rw [if_neg g, if_pos g, bs, bs]
        refine ih m (i + 1) p cnt pl ps al an (by omega) (by omega) (by omega) (by omega) ?_ h6
        rw [low_succ, h5]
        exact ⟨fun q => ⟨q, g⟩, fun q => q.1⟩
theorem e_putUnits {s c p : Nat} {pl al : Int32} {ps an : Nat → Int32} (hs : s < 2 ^ c) (hc : c ≤ 12) (h : ANS p pl ps al an) : TPU (f_X2_putUnits pl ps (nI s)) (f_X6_tellsSample (nI c) (nI s) al an) := by
  have hp := pow12 hc
  obtain ⟨p', pl', ps', al', an', cnt, e1, e2, k1, k2, k3⟩ := e_lp_units hs hc FU FU 0 p 0 pl ps al an (by omega) (by rw [FU_eq]; omega) (by rw [FU_eq]; omega) (by omega) ⟨fun _ => (Nat.mod_one s), fun _ => rfl⟩ h
  rw [if_pos rfl] at e1
  rw [← l0] at e1 e2
  have hlow : lowS s c = s := Nat.mod_eq_of_lt hs
  rw [hlow] at k2
  unfold f_X2_putUnits f_X6_tellsSample
  rw [e2, bs]
  by_cases g : s = 0
  · have hc0 : cnt = 0 := k2.mpr g
    subst g
    have e0 : lp_X2_putUnits_15 (nI 0) FU 0 (nI 0) pl ps = some (pl, ps) := e_lp_units0 (s := 0) (c := 0) (by decide) (by omega) FU 0 0 pl ps (by omega) (by omega) (by rw [FU_eq]; omega)
    rw [← l0] at e0
    rw [← l0] at e1
    rw [e0] at e1
    have e1' := Option.some.inj e1
    have hpl : pl = pl' := congrArg Prod.fst e1'
    have hps : ps = ps' := congrArg Prod.snd e1'
    subst hpl hps
    rw [if_pos (show nI 0 = 0 from l0.symm), hc0]
    obtain ⟨p2, pl2, ps2, al2, an2, e3, e4, k4⟩ := e_put k3 (show 45 ≤ 127 by omega)
    rw [if_pos (show nI 0 = 0 from l0.symm), l45]
    show TPU (Option.bind (f_X2_put pl ps (nI 45)) _) (Option.bind (f_X6_tells al' an' (nI 45)) _)
    rw [e3, e4]
    exact ⟨p2, pl2, ps2, al2, an2, rfl, rfl, k4⟩
  · have hc0 : ¬ cnt = 0 := fun q => g (k2.mp q)
    rw [if_neg (by rw [l0, i_eq (by omega) (by omega)]; omega), e1, bs]
    show TPU _ (if nI cnt = 0 then _ else _)
    rw [if_neg (by rw [l0, i_eq (by omega) (by omega)]; omega)]
    exact ⟨p', pl', ps', al', an', rfl, rfl, k3⟩
