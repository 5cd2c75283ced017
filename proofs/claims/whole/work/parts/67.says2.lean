/-! says -/
theorem sn_end {b : Nat → Nat} {t u : Nat} : sn b t u t = .inl t := by
  have hl : le b t t = t := nxt_ge (Nat.le_refl _)
  have hw : wcl b t t = none := by
    cases h : wcl b t t with
    | none => rfl
    | some w =>
      have hW := wcl_some h
      have h1 := (of_decide_eq_true hW.2).1
      have h2 := wd_min w hW.1
      rw [hl] at h1
      omega
  unfold sn
  rw [hw]
theorem tp_sk {b : Nat → Nat} {t m u a : Nat} : tp b t m u (sk b t a) = tp b t m u a := by
  cases m with
  | zero => rfl
  | succ m => rw [tp, tp, sk_sk]
theorem e_says {t w c s k sm lg p C : Nat} {b : Nat → Nat} {G : Nat → Nat → Nat} {xm rc ch ls lp lsm llg pl sl tl : Int32} {F : Nat → Nat → Int32} {f1 f2 f3 ps st mt : Nat → Int32} {mu mw ms mp ml mh al : Int32} {U pd an : Nat → Int32}
    (hT : TXT t b sl st tl mt) (hR : RST w c s k sm lg p C G xm rc ch ls lp lsm llg pl F f1 f2 f3 ps mu mw ms mp ml mh al U pd an) (lu lv one two x1 x2 x3 : Int32) (lf vb ar lm' pn nu : Nat → Int32) :
    ∃ r w' c' s' k' sm' lg' p' d G' xm' rc' ls' lp' lsm' llg' lu' lv' lf' f1' f2' f3' z1 z2 z3 vb' ar' pl' ps' F' mu' mw' ms' one' two' mp' ml' mh' y1 y2 y3 al' pla U' lm2 pd' pn' an' nu',
      f_X5_says xm rc ch F ls lp lsm llg lu lv lf f1 f2 f3 sl st vb ar pl ps = some (r, xm', rc', ch + nI d, F', ls', lp', lsm', llg', lu', lv', lf', f1', f2', f3', z1, z2, z3, vb', ar', pl', ps') ∧
      f_X6_says mu mw ms one two mp ml mh x1 x2 x3 tl al U lm' pd pn mt an nu = some (r, mu', mw', ms', one', two', mp', ml', mh', y1, y2, y3, al', pla, U', lm2, pd', pn', an', nu') ∧
      RST w' c' s' k' sm' lg' p' (C + d) G' xm' rc' (ch + nI d) ls' lp' lsm' llg' pl' F' f1' f2' f3' ps' mu' mw' ms' mp' ml' mh' al' U' pd' an' ∧ d ≤ 30 ∧ (d = 0 → c' = c ∧ G' = G) := by
  obtain ⟨ht, rfl, rfl, hT⟩ := hT
  have hst : ∀ j, j < t → st j = nI (b j) := fun j hj => (hT j hj).1
  have hmt : ∀ j, j < t → mt j = nI (b j) := fun j hj => (hT j hj).2.1
  have hb : ∀ j, j < t → b j ≤ 127 := fun j hj => (hT j hj).2.2
  have hR0 := hR
  obtain ⟨a1, rfl, rfl, a4, a5, rfl, rfl, a8, rfl, rfl, a11, rfl, rfl, a14, rfl, rfl, a17, a18, rfl⟩ := hR
  obtain ⟨hc, rfl, rfl, hval⟩ := a4
  have c0 : nI C + nI 0 = nI C := by rw [nI_add, Nat.add_zero]
  obtain ⟨r1, r2, r3⟩ := e_read (vb := vb) (ar := ar) ht hst hb hc
  have hs0 := sk_le b t 0
  have hsk : f_X6_skip (nI t) 0 mt = some (nI (sk b t 0)) := e_skipM (a := 0) ht hmt hb (by omega)
  have bad : ∀ q x1' x2' x3' x4' x5', f_X4_read (nI t) st vb ar (nI c) = some (nI q, x1', x2', x3', x4', x5') → q ≤ t → (∃ x nu', lp_X6_goesThrough_19 (nI t) mt 0 FU 0 (nI c) 1 (nI c) (nI w) (nI s) one two (nI k) (nI sm) (nI lg) x1 x2 x3 al (nI (sk b t 0)) U lm' pd pn an nu = some (0, x, nI c, nI w, nI s, one, two, nI k, nI sm, nI lg, x1, x2, x3, al, nI q, U, lm', pd, pn, an, nu')) →
    ∃ r w' c' s' k' sm' lg' p' d G' xm' rc' ls' lp' lsm' llg' lu' lv' lf' f1' f2' f3' z1 z2 z3 vb' ar' pl' ps' F' mu' mw' ms' one' two' mp' ml' mh' y1 y2 y3 al' pla U' lm2 pd' pn' an' nu',
      f_X5_says (nI w) (nI c) (nI C) F (nI s) (nI k) (nI sm) (nI lg) lu lv lf f1 f2 f3 (nI t) st vb ar pl ps = some (r, xm', rc', nI C + nI d, F', ls', lp', lsm', llg', lu', lv', lf', f1', f2', f3', z1, z2, z3, vb', ar', pl', ps') ∧
      f_X6_says (nI c) (nI w) (nI s) one two (nI k) (nI sm) (nI lg) x1 x2 x3 (nI t) al U lm' pd pn mt an nu = some (r, mu', mw', ms', one', two', mp', ml', mh', y1, y2, y3, al', pla, U', lm2, pd', pn', an', nu') ∧
      RST w' c' s' k' sm' lg' p' (C + d) G' xm' rc' (nI C + nI d) ls' lp' lsm' llg' pl' F' f1' f2' f3' ps' mu' mw' ms' mp' ml' mh' al' U' pd' an' ∧ d ≤ 30 ∧ (d = 0 → c' = c ∧ G' = G) := by
    intro q x1' x2' x3' x4' x5' h1 hq h2
    obtain ⟨x, nu', h2⟩ := h2
    refine ⟨-10 - nI q, w, c, s, k, sm, lg, p, 0, G, nI w, nI c, nI s, nI k, nI sm, nI lg, lu, lv, lf, f1, f2, f3, x1', x2', x3', x4', x5', pl, ps, F, nI c, nI w, nI s, one, two, nI k, nI sm, nI lg, x1, x2, x3, al, nI q, U, lm', pd, pn, an, nu', ?_, ?_, by rw [c0]; exact hR0, by omega, fun _ => ⟨rfl, rfl⟩⟩
    · unfold f_X5_says
      rw [h1, bs]
      dsimp (config := { instances := true }) only
      rw [if_neg (of_eq_false (i_m1 (show q < 2147483648 by omega))), c0]
    · unfold f_X6_says f_X6_goesThrough
      rw [hsk, bs, h2, bs]
      rfl
  by_cases g : sk b t 0 < t
  · obtain ⟨p1, p2⟩ := e_pass0 ht hmt hb (nI c) (nI w) (nI s) one two (nI k) (nI sm) (nI lg) x1 x2 x3 al U lm' pd pn an 31 FU 0 c (sk b t 0) nu (by omega) (by rw [FU_eq]; omega) hc hs0 (sk_sk b t 0) g
    rw [tp_sk] at p1 p2
    cases htp : tp b t 31 c 0 with
    | inl q =>
      obtain ⟨y1, y2, y3, y4, y5, h1⟩ := r1 q htp
      obtain ⟨x, nu', h2⟩ := p1 q htp
      rw [← l0] at h2
      have hq : q ≤ t := by
        have hle : ∀ m u a q, u ≤ 12 → a ≤ t → tp b t m u a = .inl q → q ≤ t := by
          intro m
          induction m with
          | zero => intro u a q _ _ h; cases h
          | succ m ih =>
            intro u a q hu ha h
            rw [tp] at h
            by_cases g2 : sk b t a < t
            · rw [if_pos g2] at h
              cases hsn : sn b t u (sk b t a) with
              | inl e => rw [hsn] at h; cases h; exact (sn_ok (b := b) (sk_le b t a) hu).2 _ hsn
              | inr e =>
                rw [hsn] at h
                have hok := (sn_ok (b := b) (sk_le b t a) hu).1 e hsn
                have h : (match tp b t m (nxu u e.1) e.2.2 with | .inl e => (.inl e : Sum Nat (List (Nat × List Nat))) | .inr l => .inr ((e.1, e.2.1) :: l)) = .inl q := h
                cases hx : tp b t m (nxu u e.1) e.2.2 with
                | inl e2 => rw [hx] at h; cases h; exact ih _ _ _ (nxu_le (b := b) hok hu) hok.2.2.2.1 hx
                | inr l => rw [hx] at h; cases h
            · rw [if_neg g2] at h; cases h
        exact hle 31 c 0 q hc (by omega) htp
      exact bad q _ _ _ _ _ h1 hq ⟨x, nu', h2⟩
    | inr l =>
      have hne : l ≠ [] := by
        intro e
        subst e
        rw [tp, if_pos g] at htp
        cases hsn : sn b t c (sk b t 0) with
        | inl e => rw [hsn] at htp; cases htp
        | inr e =>
          rw [hsn] at htp
          have htp : (match tp b t 30 (nxu c e.1) e.2.2 with | .inl e => (.inl e : Sum Nat (List (Nat × List Nat))) | .inr l => .inr ((e.1, e.2.1) :: l)) = .inr [] := htp
          cases hx : tp b t 30 (nxu c e.1) e.2.2 with
          | inl e2 => rw [hx] at htp; cases htp
          | inr l => rw [hx] at htp; cases htp
      obtain ⟨z1, z2, vb', ar', h1, hH, hl30⟩ := r3 l htp hne
      obtain ⟨x, nu', h2⟩ := p2 l htp
      rw [Nat.zero_add, ← l0] at h2
      have hA0 : ANS 0 0 ps 0 an := ⟨by omega, rfl, rfl, fun i hi => by omega⟩
      have htp2 : tp b t 31 c (sk b t 0) = .inr l := by rw [tp_sk]; exact htp
      obtain ⟨w2, c2', s2, k2', sm2, lg2, p2', d2, G2, xm2, rc2, ls2, lp2, lsm2, llg2, lu2, lv2, lf2, f12, f22, f32, pl2, ps2, F2, mu2, mw2, ms2, one2, two2, mp2, ml2, mh2, y12, y22, y32, al2, pla, U2, lm3, pd2, pn2, an2, nu2, t1, t2, t3, t4, t5⟩ := e_pass1 (r0 := -1) (r1 := z1) (r2 := z2) ht hmt hb hl30 31 FU FU 0 c (sk b t 0) l w s k sm lg 0 C G (nI w) (nI c) (nI C) (nI s) (nI k) (nI sm) (nI lg) 0 F f1 f2 f3 ps (nI c) (nI w) (nI s) (nI k) (nI sm) (nI lg) 0 U pd an lu lv lf one two x1 x2 x3 lm' pn nu' (by omega) (by rw [FU_eq]; omega) (by rw [FU_eq]; omega) hc hs0 (sk_sk b t 0) g htp2 (by omega) hH (hR0.ans hA0)
      rw [← l0] at t1 t2
      refine ⟨nI l.length, w2, c2', s2, k2', sm2, lg2, p2', d2, G2, xm2, rc2, ls2, lp2, lsm2, llg2, lu2, lv2, lf2, f12, f22, f32, nI l.length, z1, z2, vb', ar', pl2, ps2, F2, mu2, mw2, ms2, one2, two2, mp2, ml2, mh2, y12, y22, y32, al2, pla, U2, lm3, pd2, pn2, an2, nu2, ?_, ?_, t3, by omega, t5⟩
      · unfold f_X5_says
        rw [h1, bs]
        dsimp (config := { instances := true }) only
        rw [if_pos rfl, t1, bs]
      · unfold f_X6_says f_X6_goesThrough
        rw [hsk, bs, h2, bs]
        dsimp (config := { instances := true }) only
        rw [if_neg (show ¬ (1 : Nat) = 0 by decide), bs]
        dsimp (config := { instances := true }) only
        rw [if_neg (of_eq_false (i_m1 (show l.length < 2147483648 by omega))), bs, t2, bs]
        dsimp (config := { instances := true }) only
        rw [if_neg (show ¬ (1 : Nat) = 0 by decide), bs]
  · have he : sk b t 0 = t := by omega
    have htp : tp b t 31 c 0 = .inr [] := by rw [tp, if_neg g]
    obtain ⟨y1, y2, y3, y4, y5, h1⟩ := r2 [] htp rfl
    obtain ⟨c1, _⟩ := e_sentM (a0 := t) (u := c) (nu := nu) ht hmt hb (Nat.le_refl _) hc
    rw [show sk b t t = t from nxt_ge (Nat.le_refl _)] at c1
    obtain ⟨nu', k1⟩ := c1 t sn_end
    refine bad t _ _ _ _ _ h1 (Nat.le_refl _) ⟨0, nu', ?_⟩
    rw [he, show FU = 4999 + 1 from rfl, lp_X6_goesThrough_19, if_neg (show ¬ (1 : Int32) = 0 by decide), k1, bs]
    rfl
