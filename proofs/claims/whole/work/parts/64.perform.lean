/-! one sentence done -/
theorem cnt_tab : ∀ a, a < 64 → ∀ b, b < 64 → f_J6_bitCount_0f7a4 (nI (64 * a + b)) = some (nI (fb_ct (fun i => (64 * a + b).testBit i) 12)) := by decide +kernel
theorem e_cnt {s : Nat} (h : s < 4096) : ∃ k, k ≤ 12 ∧ f_J6_bitCount_0f7a4 (nI s) = some (nI k) ∧ f_X6_bits (nI s) = some (nI k) := by
  have := cnt_tab (s / 64) (by omega) (s % 64) (by omega)
  rw [Nat.div_add_mod] at this
  exact ⟨_, fb_ct_le _ 12, this, by rw [e_bits h, this]⟩
/-- both states, as far as a text can change them -/
def RST (w c s k sm lg p C : Nat) (G : Nat → Nat → Nat) (xm rc ch ls lp lsm llg pl : Int32) (F : Nat → Nat → Int32) (f1 f2 f3 ps : Nat → Int32) (mu mw ms mp ml mh al : Int32) (U pd an : Nat → Int32) : Prop :=
  w < 5 ∧ xm = nI w ∧ mw = nI w ∧ UR c G rc F mu U ∧ s < 4096 ∧ ls = nI s ∧ ms = nI s ∧ k ≤ 12 ∧ lp = nI k ∧ mp = nI k ∧ sm ≤ 12 ∧ lsm = nI sm ∧ ml = nI sm ∧ lg ≤ 12 ∧ llg = nI lg ∧ mh = nI lg ∧ REC k f1 f2 f3 pd ∧ ANS p pl ps al an ∧ ch = nI C
theorem uo_lt : ∀ w, w < 13 → (w < 5 → uo w = w) ∧ (w = 5 → uo w = 10) ∧ (6 ≤ w → w ≤ 10 → uo w = w - 1) ∧ (11 ≤ w → uo w = w) := by decide
theorem e_perform {w c s k sm lg p C : Nat} {G : Nat → Nat → Nat} {xm rc ch ls lp lsm llg pl : Int32} {F : Nat → Nat → Int32} {f1 f2 f3 ps : Nat → Int32} {mu mw ms mp ml mh al : Int32} {U pd an : Nat → Int32}
    (hR : RST w c s k sm lg p C G xm rc ch ls lp lsm llg pl F f1 f2 f3 ps mu mw ms mp ml mh al U pd an) {S N v : Nat} {vals : List Nat} (hv : v < 13) (h5 : v = 5 → c < 12) (hvals : ∀ j, j < nuN v → ((vals.getD j 0 : Nat) : Int) ≤ moN v j c)
    (lu lv one two x1 x2 x3 : Int32) (lf vb ar lm' pn nu : Nat → Int32) (hS : S < N) (hN : N ≤ 30) (hvb : vb S = nI v) (har : ∀ i, i < nuN v → ar (5 * S + i) = nI (vals.getD i 0)) (hnu : ∀ i, i < nuN v → nu i = nI (vals.getD i 0)) :
    ∃ w' s' k' sm' lg' p' d G' xm' rc' ls' lp' lsm' llg' lu' lv' lf' f1' f2' f3' pl' ps' F' mu' mw' ms' one' two' mp' ml' mh' y1 y2 y3 al' U' lm2 pd' pn' an',
      f_X5_perform xm rc ch F ls lp lsm llg lu lv lf f1 f2 f3 (nI N) vb ar pl ps (nI S) = some (xm', rc', ch + nI d, F', ls', lp', lsm', llg', lu', lv', lf', f1', f2', f3', pl', ps') ∧
      f_X6_does mu mw ms one two mp ml mh x1 x2 x3 al U lm' pd pn an nu (nI (uo v)) = some (mu', mw', ms', one', two', mp', ml', mh', y1, y2, y3, al', U', lm2, pd', pn', an') ∧
      RST w' (nxu c v) s' k' sm' lg' p' (C + d) G' xm' rc' (ch + nI d) ls' lp' lsm' llg' pl' F' f1' f2' f3' ps' mu' mw' ms' mp' ml' mh' al' U' pd' an' ∧ d ≤ 1 ∧ (d = 0 → nxu c v = c ∧ G' = G) := by
  obtain ⟨a1, rfl, rfl, a4, a5, rfl, rfl, a8, rfl, rfl, a11, rfl, rfl, a14, rfl, rfl, a17, a18, rfl⟩ := hR
  have hF := a4.F
  have hU := a4.U
  have a40 := a4
  obtain ⟨hc, rfl, rfl, hval⟩ := a4
  have hnu5 := nu_le5 v hv
  have c0 : nI C + nI 0 = nI C := by rw [nI_add, Nat.add_zero]
  have hverb : f_X4_verb (nI N) vb (nI S) = some (nI v) := by
    unfold f_X4_verb
    rw [if_neg (by rw [l0, i_lt (by omega) (by omega)]; omega), if_neg (by rw [i_le (by omega) (by omega)]; omega), if_neg (by rw [l30, i_le (by omega) (by omega)]; omega), i_in (by omega), if_pos (decide_eq_true (by omega)), i_cl (by omega), hvb]
  have hnum : ∀ i, i < nuN v → f_X4_number ar (nI S) (nI i) = some (nI (vals.getD i 0)) := fun i hi => by
    unfold f_X4_number
    rw [l5, pk_mul, nI_add, if_neg (by rw [l0, i_lt (by omega) (by omega)]; omega), if_neg (by rw [l150, i_le (by omega) (by omega)]; omega), i_in (by omega), if_pos (decide_eq_true (by omega)), i_cl (by omega), show S * 5 + i = 5 * S + i by omega, har i hi]
  obtain ⟨o1, o2, o3, o4⟩ := uo_lt v hv
  by_cases g5 : v < 5
  · have hnx : nxu c v = c := by unfold nxu; rw [if_neg (by omega)]; rfl
    obtain ⟨p', pl', ps', al', an', e1, e2, h'⟩ := e_putWord a1 a18
    refine ⟨v, s, k, sm, lg, p', 0, G, nI v, nI c, nI s, nI k, nI sm, nI lg, lu, lv, lf, f1, f2, f3, pl', ps', F, nI c, nI v, nI s, one, two, nI k, nI sm, nI lg, x1, x2, x3, al', U, lm', pd, pn, an', ?_, ?_, ?_, by omega, fun _ => ⟨hnx, rfl⟩⟩
    · unfold f_X5_perform f_X5_changeMethod
      rw [hverb, bs, if_neg (by rw [l5, i_le (by omega) (by omega)]; omega), bs]
      dsimp (config := { instances := true }) only
      rw [word_tab w (by omega), bs, e1, bs, c0]
    · unfold f_X6_does
      rw [o1 g5, if_neg (by rw [l5, i_le (by omega) (by omega)]; omega), e2, bs]
    · rw [hnx, c0]
      exact ⟨g5, rfl, rfl, a40, a5, rfl, rfl, a8, rfl, rfl, a11, rfl, rfl, a14, rfl, rfl, a17, h', rfl⟩
  · have v5 : 5 ≤ nI v := by rw [l5, i_le (by omega) (by omega)]; omega
    have n0 : 0 < nuN v → f_X4_number ar (nI S) 0 = some (nI (vals.getD 0 0)) := hnum 0
    have n1 : 1 < nuN v → f_X4_number ar (nI S) 1 = some (nI (vals.getD 1 0)) := hnum 1
    by_cases g : v = 5
    · subst g
      have n2 : f_X4_number ar (nI S) 2 = some (nI (vals.getD 2 0)) := hnum 2 (by decide)
      have n3 : f_X4_number ar (nI S) 3 = some (nI (vals.getD 3 0)) := hnum 3 (by decide)
      have n4 : f_X4_number ar (nI S) 4 = some (nI (vals.getD 4 0)) := hnum 4 (by decide)
      have b0 : vals.getD 0 0 ≤ 12 := by have : ((vals.getD 0 0 : Nat) : Int) ≤ 12 := hvals 0 (by decide); omega
      have b1 : vals.getD 1 0 ≤ 99 := by have : ((vals.getD 1 0 : Nat) : Int) ≤ 99 := hvals 1 (by decide); omega
      have b2 : vals.getD 2 0 ≤ 3 := by have : ((vals.getD 2 0 : Nat) : Int) ≤ 3 := hvals 2 (by decide); omega
      have b3 : vals.getD 3 0 ≤ 99 := by have : ((vals.getD 3 0 : Nat) : Int) ≤ 99 := hvals 3 (by decide); omega
      have b4 : vals.getD 4 0 ≤ 99 := by have : ((vals.getD 4 0 : Nat) : Int) ≤ 99 := hvals 4 (by decide); omega
      obtain ⟨F', U', G', q1, q2, q3, _, _⟩ := a40.add (h5 rfl) (nI C) b0 b1 b2 b3 b4
      obtain ⟨p', pl', ps', al', an', e1, e2, h'⟩ := e_putNumber a18 (show c < 100 by omega)
      refine ⟨w, s, k, sm, lg, p', 1, G', nI w, nI (c + 1), nI s, nI k, nI sm, nI lg, lu, lv, lf, f1, f2, f3, pl', ps', F', nI (c + 1), nI w, nI s, one, two, nI k, nI sm, nI lg, x1, x2, x3, al', U', lm', pd, pn, an', ?_, ?_, ?_, by omega, fun e => by omega⟩
      · unfold f_X5_perform
        rw [hverb, bs, if_pos v5, if_pos (show nI 5 = 5 from l5.symm), n0 (by decide), bs, n1 (by decide), bs, n2, bs, n3, bs, n4, bs, q1, bs]
        dsimp (config := { instances := true }) only
        rw [e1, bs, l1]
      · unfold f_X6_does
        have i0 : (Int32.toNatClampNeg 0) = 0 := by decide
        have i1 : (Int32.toNatClampNeg 1) = 1 := by decide
        have i2 : (Int32.toNatClampNeg 2) = 2 := by decide
        have i3 : (Int32.toNatClampNeg 3) = 3 := by decide
        have i4 : (Int32.toNatClampNeg 4) = 4 := by decide
        rw [o2 rfl, if_pos (show 5 ≤ nI 10 by decide), if_pos (show 10 ≤ nI 10 by decide), if_pos (show nI 10 = 10 from l10.symm), if_pos (show inB 0 5 = true by decide), if_pos (show inB 1 5 = true by decide), if_pos (show inB 2 5 = true by decide), if_pos (show inB 3 5 = true by decide), if_pos (show inB 4 5 = true by decide), i0, i1, i2, i3, i4, hnu 0 (by decide), hnu 1 (by decide), hnu 2 (by decide), hnu 3 (by decide), hnu 4 (by decide), q2, bs]
        dsimp (config := { instances := true }) only
        rw [show nI (c + 1) - 1 = nI c by rw [l1, i_sub (by omega)]; rfl, e2, bs]
      · exact ⟨a1, rfl, rfl, q3, a5, rfl, rfl, a8, rfl, rfl, a11, rfl, rfl, a14, rfl, rfl, a17, h', by rw [nI_add]⟩
    · have hnx : nxu c v = c := by unfold nxu; rw [if_neg g]; rfl
      have v5' : ¬ nI v = 5 := by rw [l5, i_eq (by omega) (by omega)]; exact g
      by_cases g11 : v = 11
      · subst g11
        obtain ⟨r, s', k', sm', lg', u', v', one', two', l', f1', f2', f3', ml', pd', pn', t1, t2, t3, t4, t5, t6, t7, t8, t9⟩ := e_walk1 a1 hF hU lu lv one two (nI (vals.getD 0 0)) lf f1 f2 f3 lm' pd pn
        obtain ⟨p', pl', ps', al', an', e1, e2, h'⟩ := e_putUnits t9 hc a18
        refine ⟨w, s', k', sm', lg', p', 0, G, nI w, nI c, nI s', nI k', nI sm', nI lg', u', v', l', f1', f2', f3', pl', ps', F, nI c, nI w, nI s', one', two', nI k', nI sm', nI lg', nI k', nI sm', nI lg', al', U, ml', pd', pn', an', ?_, ?_, ?_, by omega, fun _ => ⟨hnx, rfl⟩⟩
        · unfold f_X5_perform
          rw [hverb, bs, if_pos v5, if_neg v5', if_pos (show nI 11 = 11 from l11.symm), n0 (by decide), bs, t1, bs]
          dsimp (config := { instances := true }) only
          rw [e1, bs, c0]
        · unfold f_X6_does
          have i0 : (Int32.toNatClampNeg 0) = 0 := by decide
          rw [o4 (by omega), if_pos (show 5 ≤ nI 11 by decide), if_pos (show 10 ≤ nI 11 by decide), if_neg (show ¬ nI 11 = 10 by decide), if_pos (show nI 11 = 11 from l11.symm), if_pos (show inB 0 5 = true by decide), i0, hnu 0 (by decide), t3, bs]
          dsimp (config := { instances := true }) only
          rw [e2, bs]
        · rw [hnx, c0]
          exact ⟨a1, rfl, rfl, a40, t4, rfl, rfl, t5, rfl, rfl, t6, rfl, rfl, t7, rfl, rfl, t8, h', rfl⟩
      · have v11 : ¬ nI v = 11 := by rw [l11, i_eq (by omega) (by omega)]; exact g11
        by_cases g12 : v = 12
        · subst g12
          obtain ⟨kk, z1, z2, z3⟩ := e_cnt a5
          obtain ⟨p', pl', ps', al', an', e1, e2, h'⟩ := e_putNumber a18 (show kk < 100 by omega)
          refine ⟨w, s, k, sm, lg, p', 0, G, nI w, nI c, nI s, nI k, nI sm, nI lg, lu, lv, lf, f1, f2, f3, pl', ps', F, nI c, nI w, nI s, one, two, nI k, nI sm, nI lg, x1, x2, x3, al', U, lm', pd, pn, an', ?_, ?_, ?_, by omega, fun _ => ⟨hnx, rfl⟩⟩
          · unfold f_X5_perform
            rw [hverb, bs, if_pos v5, if_neg v5', if_neg v11, if_pos (show nI 12 = 12 from l12.symm), z2, bs, e1, bs, c0]
          · unfold f_X6_does
            rw [o4 (by omega), if_pos (show 5 ≤ nI 12 by decide), if_pos (show 10 ≤ nI 12 by decide), if_neg (show ¬ nI 12 = 10 by decide), if_neg (show ¬ nI 12 = 11 by decide), z3, bs, e2, bs]
          · rw [hnx, c0]
            exact ⟨a1, rfl, rfl, a40, a5, rfl, rfl, a8, rfl, rfl, a11, rfl, rfl, a14, rfl, rfl, a17, h', rfl⟩
        · have v12 : ¬ nI v = 12 := by rw [l12, i_eq (by omega) (by omega)]; exact g12
          have hn2 : nuN v = 2 := by unfold nuN; rw [if_neg g5, if_neg g12, if_neg g, if_neg g11]
          have b0 : vals.getD 0 0 < c := by
            have h := hvals 0 (by omega)
            unfold moN at h
            rw [if_neg g11, if_neg g, if_pos rfl] at h
            omega
          have b1 : vals.getD 1 0 ≤ mx (v - 6) := by
            have h := hvals 1 (by omega)
            unfold moN at h
            rw [if_neg g11, if_neg g, if_neg (by decide)] at h
            omega
          have hvu := hval (vals.getD 0 0) b0 (v - 6) (by omega)
          have hmx := mx_le (v - 6)
          obtain ⟨p', pl', ps', al', an', e1, e2, h'⟩ := e_putNumber a18 (show G (v - 6) (vals.getD 0 0) < 100 by omega)
          have hhas : f_X3_has (nI c) (nI (vals.getD 0 0)) = some 1 := by
            unfold f_X3_has
            rw [if_neg (by rw [l0, i_lt (by omega) (by omega)]; omega), if_neg (by rw [i_le (by omega) (by omega)]; omega)]
          refine ⟨w, s, k, sm, lg, p', 1, _, nI w, nI c, nI s, nI k, nI sm, nI lg, lu, lv, lf, f1, f2, f3, pl', ps', _, nI c, nI w, nI s, one, two, nI k, nI sm, nI lg, x1, x2, x3, al', _, lm', pd, pn, an', ?_, ?_, ⟨a1, rfl, rfl, by rw [hnx]; exact a40.set b0 (show v - 6 < 5 by omega) b1, a5, rfl, rfl, a8, rfl, rfl, a11, rfl, rfl, a14, rfl, rfl, a17, h', by rw [nI_add]⟩, by omega, fun e => by omega⟩
          · unfold f_X5_perform f_X3_change
            rw [hverb, bs, if_pos v5, if_neg v5', if_neg v11, if_neg v12, n0 (by omega), bs, n1 (by omega), bs, hhas, bs, if_neg (show ¬ (1 : Int32) = 0 by decide), l6, i_sub (by omega), if_neg (show ¬ nI (v - 6) < 0 by rw [l0, i_lt (by omega) (by omega)]; omega), if_pos (show nI (v - 6) < 5 by rw [l5, i_lt (by omega) (by omega)]; omega), i_in (by omega), i_in (by omega), i_cl (by omega), i_cl (by omega)]
            simp only [decide_eq_true (show vals.getD 0 0 < 12 by omega), decide_eq_true (show v - 6 < 5 by omega), if_true, bs]
            rw [hvu.1, e1, bs, l1]
          · unfold f_X6_does f_X6_becomes
            have i0 : (Int32.toNatClampNeg 0) = 0 := by decide
            have i1 : (Int32.toNatClampNeg 1) = 1 := by decide
            rw [o3 (by omega) (by omega), if_pos (show 5 ≤ nI (v - 1) by rw [l5, i_le (by omega) (by omega)]; omega), if_neg (show ¬ 10 ≤ nI (v - 1) by rw [l10, i_le (by omega) (by omega)]; omega), if_pos (show inB 0 5 = true by decide), if_pos (show inB 1 5 = true by decide), i0, i1, hnu 0 (by omega), hnu 1 (by omega), show nI (v - 1) - 5 = nI (v - 6) by rw [l5, i_sub (by omega), show v - 1 - 5 = v - 6 by omega], e_at hc b0 (by omega), bs]
            simp (disch := omega) only [l5, pk_mul, nI_add, i_in, i_cl, d_t, if_pos, bs]
            rw [hvu.2.1, e2, bs]
