/-! the second pass, side by side -/
theorem HL.head {S : Nat} {w : Nat} {vals : List Nat} {l : List (Nat × List Nat)} {vb ar : Nat → Int32} (h : HL S ((w, vals) :: l) vb ar) : vb S = nI w ∧ (∀ i, i < nuN w → ar (5 * S + i) = nI (vals.getD i 0)) ∧ HL (S + 1) l vb ar := by
  refine ⟨(h 0 (Nat.succ_pos _)).1, (h 0 (Nat.succ_pos _)).2, fun j hj => ?_⟩
  have := h (j + 1) (by show j + 1 < l.length + 1; omega)
  rw [show S + 1 + j = S + (j + 1) by omega]
  exact this
theorem e_blank {j p : Nat} {pl al : Int32} {ps an : Nat → Int32} (hj : j < 1000) (h : ANS p pl ps al an) : TPU (if nI j ≤ 0 then some (pl, ps) else Option.bind (f_X2_put pl ps 32) (fun (q6 : Int32 × (Nat → Int32)) => some (q6.1, q6.2))) (if nI j ≤ 0 then some (al, an) else Option.bind (f_X6_tells al an 32) (fun (q11 : Int32 × (Nat → Int32)) => some (q11.1, q11.2))) := by
  by_cases g : nI j ≤ 0
  · rw [if_pos g, if_pos g]
    exact ⟨p, pl, ps, al, an, rfl, rfl, h⟩
  · rw [if_neg g, if_neg g]
    obtain ⟨p', pl', ps', al', an', e1, e2, h'⟩ := e_put h (show 32 ≤ 127 by omega)
    rw [l32, e1, e2]
    exact ⟨p', pl', ps', al', an', rfl, rfl, h'⟩
theorem RST.ans {w c s k sm lg p p' C : Nat} {G : Nat → Nat → Nat} {xm rc ch ls lp lsm llg pl pl' : Int32} {F : Nat → Nat → Int32} {f1 f2 f3 ps ps' : Nat → Int32} {mu mw ms mp ml mh al al' : Int32} {U pd an an' : Nat → Int32}
    (h : RST w c s k sm lg p C G xm rc ch ls lp lsm llg pl F f1 f2 f3 ps mu mw ms mp ml mh al U pd an) (h' : ANS p' pl' ps' al' an') : RST w c s k sm lg p' C G xm rc ch ls lp lsm llg pl' F f1 f2 f3 ps' mu mw ms mp ml mh al' U pd an' := by
  obtain ⟨a1, a2, a3, a4, a5, a6, a7, a8, a9, a10, a11, a12, a13, a14, a15, a16, a17, a18, a19⟩ := h
  exact ⟨a1, a2, a3, a4, a5, a6, a7, a8, a9, a10, a11, a12, a13, a14, a15, a16, a17, h', a19⟩
theorem e_pass1 {t N : Nat} {b : Nat → Nat} {mt vb ar : Nat → Int32} {r0 r1 r2 : Int32} (ht : t ≤ 120) (hv : ∀ j, j < t → mt j = nI (b j)) (hb : ∀ j, j < t → b j ≤ 127) (hN : N ≤ 30) :
    ∀ M n m j u a l w s k sm lg p C G xm rc ch ls lp lsm llg pl F f1 f2 f3 ps mu mw ms mp ml mh al U pd an lu lv lf one two x1 x2 x3 lm' pn nu,
      t < 4 * M + a → M + 1 < n → M + 1 < m → u ≤ 12 → a ≤ t → sk b t a = a → a < t → tp b t M u a = .inr l → j + l.length = N → HL j l vb ar →
      RST w u s k sm lg p C G xm rc ch ls lp lsm llg pl F f1 f2 f3 ps mu mw ms mp ml mh al U pd an →
      ∃ w' c' s' k' sm' lg' p' d G' xm' rc' ls' lp' lsm' llg' lu' lv' lf' f1' f2' f3' pl' ps' F' mu' mw' ms' one' two' mp' ml' mh' y1 y2 y3 al' pla U' lm2 pd' pn' an' nu',
        lp_X5_says_35 (r0, nI N, r1, r2, vb, ar) n (nI j) xm rc ch F ls lp lsm llg lu lv lf f1 f2 f3 pl ps = some (xm', rc', ch + nI d, F', ls', lp', lsm', llg', lu', lv', lf', f1', f2', f3', pl', ps') ∧
        lp_X6_goesThrough_19 (nI t) mt 1 m (nI j) (nI u) 1 mu mw ms one two mp ml mh x1 x2 x3 al (nI a) U lm' pd pn an nu = some (1, nI N, mu', mw', ms', one', two', mp', ml', mh', y1, y2, y3, al', pla, U', lm2, pd', pn', an', nu') ∧
        RST w' c' s' k' sm' lg' p' (C + d) G' xm' rc' (ch + nI d) ls' lp' lsm' llg' pl' F' f1' f2' f3' ps' mu' mw' ms' mp' ml' mh' al' U' pd' an' ∧ d ≤ l.length ∧ (d = 0 → c' = u ∧ G' = G) := by
  intro M
  induction M with
  | zero => intro n m j u a l w s k sm lg p C G xm rc ch ls lp lsm llg pl F f1 f2 f3 ps mu mw ms mp ml mh al U pd an lu lv lf one two x1 x2 x3 lm' pn nu h0 h1 h2 h3 h4 h5 h6; omega
  | succ M ih =>
    intro n m j u a l w s k sm lg p C G xm rc ch ls lp lsm llg pl F f1 f2 f3 ps mu mw ms mp ml mh al U pd an lu lv lf one two x1 x2 x3 lm' pn nu h0 h1 h2 h3 h4 h5 h6 h7 h8 h9 hR
    obtain ⟨n, rfl⟩ : ∃ n', n = n' + 1 := ⟨n - 1, by omega⟩
    obtain ⟨m, rfl⟩ : ∃ m', m = m' + 1 := ⟨m - 1, by omega⟩
    obtain ⟨_, c2⟩ := e_sentM (u := u) (nu := nu) ht hv hb h4 h3
    rw [h5] at c2
    rw [tp, h5, if_pos h6] at h7
    cases hsn : sn b t u a with
    | inl q => rw [hsn] at h7; cases h7
    | inr q =>
      rw [hsn] at h7
      have h7 : (match tp b t M (nxu u q.1) q.2.2 with | .inl e => (.inl e : Sum Nat (List (Nat × List Nat))) | .inr l => .inr ((q.1, q.2.1) :: l)) = .inr l := h7
      cases htp : tp b t M (nxu u q.1) q.2.2 with
      | inl e => rw [htp] at h7; cases h7
      | inr l' =>
        rw [htp] at h7
        cases h7
        obtain ⟨nu', k1, k2⟩ := c2 q hsn
        have hok := (sn_ok (b := b) h4 h3).1 q hsn
        have hu' := nxu_le (b := b) hok h3
        obtain ⟨o1, o2, o3, o4, o5⟩ := hok
        have huo := (uo_tab q.1 o1).1
        have hl : ((q.1, q.2.1) :: l').length = l'.length + 1 := rfl
        rw [hl] at h8 ⊢
        obtain ⟨v1, v2, v3⟩ := h9.head
        have e10 : (if nI (uo q.1) = 10 then some (1 : Int32) else some 0) = some (nI (if q.1 = 5 then 1 else 0)) := by
          simp only [uo10 q.1 o1]
          by_cases g : q.1 = 5
          · rw [if_pos g, if_pos g, l1]
          · rw [if_neg g, if_neg g, l0]
        have hs := sk_le b t q.2.2
        have hge := sk_ge (b := b) o4
        have hA : ANS p pl ps al an := hR.2.2.2.2.2.2.2.2.2.2.2.2.2.2.2.2.2.1
        obtain ⟨pb, plb, psb, alb, anb, eb1, eb2, hAb⟩ := e_blank (j := j) (by omega) hA
        obtain ⟨w', s', k', sm', lg', p', d, G', xm', rc', ls', lp', lsm', llg', lu', lv', lf', f1', f2', f3', pl', ps', F', mu', mw', ms', one', two', mp', ml', mh', y1, y2, y3, al', U', lm2, pd', pn', an', e1, e2, hR', hd, hd0⟩ := e_perform (hR.ans hAb) (S := j) (N := N) o1 o2 o3 lu lv one two x1 x2 x3 lf vb ar lm' pn nu' (by omega) hN v1 v2 k2
        rw [lp_X5_says_35, lp_X6_goesThrough_19, if_neg (show ¬ (1 : Int32) = 0 by decide)]
        dsimp (config := { instances := true }) only
        rw [if_neg (show ¬ nI N ≤ nI j by rw [i_le (by omega) (by omega)]; omega), eb1, bs]
        dsimp (config := { instances := true }) only
        rw [e1, bs]
        dsimp (config := { instances := true }) only
        rw [k1, bs]
        dsimp (config := { instances := true }) only
        rw [if_neg (of_eq_false (i_m1 (show uo q.1 < 2147483648 by omega))), e10, bs, if_neg (show ¬ (1 : Int32) = 0 by decide), eb2, bs]
        dsimp (config := { instances := true }) only
        rw [e2, bs, bs]
        dsimp (config := { instances := true }) only
        rw [e_skipM ht hv hb o4, bs, nI_add, show nI j + 1 = nI (j + 1) by rw [l1, nI_add]]
        by_cases g : sk b t q.2.2 < t
        · rw [if_neg (show ¬ nI t ≤ nI (sk b t q.2.2) by rw [i_le (by omega) (by omega)]; omega), bs]
          have htp2 : tp b t M (nxu u q.1) (sk b t q.2.2) = .inr l' := by
            rw [← htp]
            cases M with
            | zero => rfl
            | succ M => rw [tp, tp, sk_sk]
          obtain ⟨w2, c2', s2, k2', sm2, lg2, p2, d2, G2, xm2, rc2, ls2, lp2, lsm2, llg2, lu2, lv2, lf2, f12, f22, f32, pl2, ps2, F2, mu2, mw2, ms2, one2, two2, mp2, ml2, mh2, y12, y22, y32, al2, pla, U2, lm3, pd2, pn2, an2, nu2, t1, t2, t3, t4, t5⟩ := ih n m (j + 1) (nxu u q.1) (sk b t q.2.2) l' w' s' k' sm' lg' p' (C + d) G' xm' rc' (ch + nI d) ls' lp' lsm' llg' pl' F' f1' f2' f3' ps' mu' mw' ms' mp' ml' mh' al' U' pd' an' lu' lv' lf' one' two' y1 y2 y3 lm2 pn' nu' (by omega) (by omega) (by omega) hu' hs (sk_sk b t q.2.2) g htp2 (by omega) v3 hR'
          have hch : ch + nI d + nI d2 = ch + nI (d + d2) := by rw [Int32.add_assoc, nI_add]
          refine ⟨w2, c2', s2, k2', sm2, lg2, p2, d + d2, G2, xm2, rc2, ls2, lp2, lsm2, llg2, lu2, lv2, lf2, f12, f22, f32, pl2, ps2, F2, mu2, mw2, ms2, one2, two2, mp2, ml2, mh2, y12, y22, y32, al2, pla, U2, lm3, pd2, pn2, an2, nu2, ?_, t2, ?_, by omega, fun e => ?_⟩
          · rw [← hch]; exact t1
          · rw [← hch, ← Nat.add_assoc]; exact t3
          · obtain ⟨z1, z2⟩ := t5 (by omega)
            obtain ⟨z3, z4⟩ := hd0 (by omega)
            exact ⟨z1.trans z3, z2.trans z4⟩
        · rw [if_pos (show nI t ≤ nI (sk b t q.2.2) by rw [i_le (by omega) (by omega)]; omega), bs]
          have hx : l' = [] := by
            cases M with
            | zero => rw [tp] at htp; cases htp; rfl
            | succ M => rw [tp, if_neg g] at htp; cases htp; rfl
          subst hx
          obtain ⟨n, rfl⟩ : ∃ n', n = n' + 1 := ⟨n - 1, by omega⟩
          obtain ⟨m, rfl⟩ : ∃ m', m = m' + 1 := ⟨m - 1, by omega⟩
          have hNj : N = j + 1 := by rw [← h8]; rfl
          rw [lp_X6_goesThrough_19, if_pos rfl, lp_X5_says_35]
          dsimp (config := { instances := true }) only
          rw [if_pos (show nI N ≤ nI (j + 1) by rw [i_le (by omega) (by omega)]; omega), ← hNj]
          exact ⟨w', nxu u q.1, s', k', sm', lg', p', d, G', xm', rc', ls', lp', lsm', llg', lu', lv', lf', f1', f2', f3', pl', ps', F', mu', mw', ms', one', two', mp', ml', mh', y1, y2, y3, al', _, U', lm2, pd', pn', an', _, rfl, rfl, hR', hd, hd0⟩
