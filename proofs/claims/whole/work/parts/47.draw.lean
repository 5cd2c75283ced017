/-! draw and walk -/
theorem e_lp_draw {n' : Nat} (hn' : n' ≤ 12) :
    ∀ n m x i ch F U G, i ≤ n' → n' < n + i → n' < m + i → 0 ≤ x.toInt ∧ x.toInt < 2147483648 → UR i G (nI i) F (nI i) U →
      ∃ F' U' G', lp_X5_draw_44 (nI n') n x (nI i) (nI i) ch F = some (nI n', ch + nI (n' - i), F') ∧ lp_X6_draw_44 (nI n') m x (nI (fb_sm (fun u => G 0 u) i)) (nI i) (nI i) U = some (nI (fb_sm (fun u => G' 0 u) n'), nI n', U') ∧ UR n' G' (nI n') F' (nI n') U' := by
  intro n
  induction n with
  | zero => intro m x i ch F U G h1 h2; omega
  | succ n ih =>
    intro m x i ch F U G h1 h2 h3 hx hu
    obtain ⟨m, rfl⟩ : ∃ m', m = m' + 1 := ⟨m - 1, by omega⟩
    rw [lp_X5_draw_44, lp_X6_draw_44]
    by_cases e : i = n'
    · subst e
      simp only [if_pos (show nI i ≤ nI i by rw [i_le (by omega) (by omega)]; omega)]
      refine ⟨F, U, G, ?_, rfl, hu⟩
      rw [Nat.sub_self, ← l0, Int32.add_zero]
    · simp only [if_neg (show ¬ nI n' ≤ nI i by rw [i_le (by omega) (by omega)]; omega)]
      obtain ⟨y, hy⟩ : ∃ y, f_X5_nextX x = some y := ⟨_, rfl⟩
      have hy6 : f_X6_next x = some y := hy
      have hyr := x_next hx hy
      rw [hy, hy6, bs, bs]
      obtain ⟨g0, k0, e0⟩ : ∃ v, v < 13 ∧ (y / 65536 - y / 65536 / 13 * 13).toInt32 = nI v := d_val (y / 65536) (m := 13) (by omega) (by omega) (x_div (k := 65536) (by omega) (by omega) hyr.1)
      obtain ⟨g1, k1, e1⟩ : ∃ v, v < 100 ∧ (y / 1024 - y / 1024 / 100 * 100).toInt32 = nI v := d_val (y / 1024) (m := 100) (by omega) (by omega) (x_div (k := 1024) (by omega) (by omega) hyr.1)
      obtain ⟨g2, k2, e2⟩ : ∃ v, v < 4 ∧ (y / 32768 - y / 32768 / 4 * 4).toInt32 = nI v := d_val (y / 32768) (m := 4) (by omega) (by omega) (x_div (k := 32768) (by omega) (by omega) hyr.1)
      obtain ⟨g3, k3, e3⟩ : ∃ v, v < 100 ∧ (y / 4096 - y / 4096 / 100 * 100).toInt32 = nI v := d_val (y / 4096) (m := 100) (by omega) (by omega) (x_div (k := 4096) (by omega) (by omega) hyr.1)
      obtain ⟨g4, k4, e4⟩ : ∃ v, v < 100 ∧ (y / 512 - y / 512 / 100 * 100).toInt32 = nI v := d_val (y / 512) (m := 100) (by omega) (by omega) (x_div (k := 512) (by omega) (by omega) hyr.1)
      rw [e0, e1, e2, e3, e4]
      obtain ⟨F', U', G', a1, a2, a3, a4, a5⟩ := hu.add (by omega) ch (g0 := g0) (g1 := g1) (g2 := g2) (g3 := g3) (g4 := g4) (by omega) (by omega) (by omega) (by omega) (by omega)
      have at0 : f_X6_at U' (nI i) 0 = some (nI g0) := by
        have := a3.U.f (show i < i + 1 by omega) (w := 0) (by omega)
        rw [a4] at this
        exact this
      rw [a1, a2, bs, bs]
      dsimp (config := { instances := true }) only
      rw [at0, bs, nI_add, l1, nI_add]
      have hsum : fb_sm (fun u => G 0 u) i + g0 = fb_sm (fun u => G' 0 u) (i + 1) := by
        rw [fb_sm_succ, a4, fb_sm_cong (fun k hk => (a5 k hk).symm)]
      rw [hsum]
      obtain ⟨F2, U2, G2, b1, b2, b3⟩ := ih m y (i + 1) (ch + nI 1) F' U' G' (by omega) (by omega) (by omega) hyr a3
      refine ⟨F2, U2, G2, ?_, b2, b3⟩
      rw [b1, Int32.add_assoc, nI_add, show 1 + (n' - (i + 1)) = n' - i by omega]
theorem sum0 {G : Nat → Nat → Nat} {c : Nat} : sumN G 0 c = fb_sm (fun u => G 0 u) c := by
  unfold sumN
  refine fb_sm_cong (fun u _ => ?_)
  show (if 0 < G 0 u then G 0 u else 0) = G 0 u
  split <;> omega
theorem e_isSeed (a : Int32) : (f_X5_isSeed a = some 0 ∧ f_X6_isSeed a = some 0) ∨ ∃ m, m ≤ 999999 ∧ a = nI m ∧ f_X5_isSeed a = some 1 ∧ f_X6_isSeed a = some 1 := by
  unfold f_X5_isSeed f_X6_isSeed
  rcases i_cases a with h | ⟨m, hm, rfl⟩
  · left
    rw [if_pos h, L0, L999999, in_neg h]
    exact ⟨rfl, rfl⟩
  · rw [if_neg (by rw [l0, i_lt (by omega) (by omega)]; omega)]
    by_cases g : m ≤ 999999
    · right
      rw [if_neg (by rw [l999999, i_lt (by omega) (by omega)]; omega), L0, L999999, in_yes (by omega) (by omega) (by omega)]
      exact ⟨m, g, rfl, rfl, rfl⟩
    · left
      rw [if_pos (by rw [l999999, i_lt (by omega) (by omega)]; omega), L0, L999999, in_no (by omega) (by omega) (by omega) (by omega)]
      exact ⟨rfl, rfl⟩
theorem e_draw {c : Nat} {G : Nat → Nat → Nat} {rc mn xb xf x1 x2 x3 x4 : Int32} {F : Nat → Nat → Int32} {U q : Nat → Int32} (hu : UR c G rc F mn U) (hq : RQ xb xf q) (ch a a1 : Int32) :
    ∃ r xb' xf' q' d c' rc' mn' F' U' G' y1 y2 y3 y4, f_X5_draw xb xf rc ch F x1 x2 x3 x4 a a1 = some (r, xb', xf', rc', ch + nI d, F', y1, y2, y3, y4) ∧ f_X6_draw mn x1 x2 x3 x4 U q a a1 = some (r, mn', y1, y2, y3, y4, U', q') ∧ RQ xb' xf' q' ∧ UR c' G' rc' F' mn' U' ∧ d ≤ 13 ∧
      ((d = 0 ∧ rc' = rc ∧ F' = F ∧ c' = c ∧ G' = G ∧ y1 = x1 ∧ y2 = x2 ∧ y3 = x3 ∧ y4 = x4) ∨ (0 < d ∧ y1 = 0 ∧ y2 = 0 ∧ y3 = 0 ∧ y4 = 0)) := by
  have hu0 := hu
  obtain ⟨hc, rfl, rfl, hv⟩ := hu
  have c0 : ch + nI 0 = ch := by rw [← l0]; exact Int32.add_zero ch
  have sd : f_X6_isSeed a = Option.bind (f_X6_in (Int32.toInt64 a) 0 999999) (fun (q1 : Int32) => some q1) := rfl
  have sd2 : f_X6_in (Int32.toInt64 a) 0 999999 = f_X6_isSeed a := by
    rw [sd]
    cases f_X6_in (Int32.toInt64 a) 0 999999 <;> rfl
  have bad : f_X5_draw xb xf (nI c) ch F x1 x2 x3 x4 a a1 = some (-2, xb + 1, xf, nI c, ch, F, x1, x2, x3, x4) → f_X6_draw (nI c) x1 x2 x3 x4 U q a a1 = some (-2, nI c, x1, x2, x3, x4, U, upd q 0 (q 0 + 1)) →
    ∃ r xb' xf' q' d c' rc' mn' F' U' G' y1 y2 y3 y4, f_X5_draw xb xf (nI c) ch F x1 x2 x3 x4 a a1 = some (r, xb', xf', rc', ch + nI d, F', y1, y2, y3, y4) ∧ f_X6_draw (nI c) x1 x2 x3 x4 U q a a1 = some (r, mn', y1, y2, y3, y4, U', q') ∧ RQ xb' xf' q' ∧ UR c' G' rc' F' mn' U' ∧ d ≤ 13 ∧
      ((d = 0 ∧ rc' = nI c ∧ F' = F ∧ c' = c ∧ G' = G ∧ y1 = x1 ∧ y2 = x2 ∧ y3 = x3 ∧ y4 = x4) ∨ (0 < d ∧ y1 = 0 ∧ y2 = 0 ∧ y3 = 0 ∧ y4 = 0)) :=
    fun h1 h2 => ⟨-2, xb + 1, xf, _, 0, c, nI c, nI c, F, U, G, x1, x2, x3, x4, by rw [h1, c0], h2, hq.bad, hu0, by omega, Or.inl ⟨rfl, rfl, rfl, rfl, rfl, rfl, rfl, rfl, rfl⟩⟩
  rcases e_isSeed a with ⟨h1, h2⟩ | ⟨m, hm, rfl, h1, h2⟩
  · refine bad ?_ ?_
    · unfold f_X5_draw; rw [h1]; rfl
    · unfold f_X6_draw; rw [sd2, h2]; rfl
  rcases i_cases a1 with h | ⟨n', hn', rfl⟩
  · refine bad ?_ ?_
    · unfold f_X5_draw; rw [h1, bs, if_neg (by decide), if_pos h]; rfl
    · unfold f_X6_draw; rw [sd2, h2, bs, if_neg (by decide), L0, L12, in_neg h]; rfl
  have n0 : ¬ nI n' < 0 := by rw [l0, i_lt (by omega) (by omega)]; omega
  by_cases g : n' ≤ 12
  · have hx : 0 ≤ (nI m).toInt64.toInt ∧ (nI m).toInt64.toInt < 2147483648 := by rw [Int32.toInt_toInt64, i_ti (by omega)]; omega
    obtain ⟨F', U', G', b1, b2, b3⟩ := e_lp_draw g FU FU (nI m).toInt64 0 (ch + 1) F U G (by omega) (by rw [FU_eq]; omega) (by rw [FU_eq]; omega) hx hu0.none
    refine ⟨nI (fb_sm (fun u => G' 0 u) n'), xb, xf, q, 1 + n', n', nI n', nI n', F', U', G', 0, 0, 0, 0, ?_, ?_, hq, b3, by omega, Or.inr ⟨by omega, rfl, rfl, rfl, rfl⟩⟩
    · unfold f_X5_draw f_X3_removeAll f_X0_forget
      have b1 : lp_X5_draw_44 (nI n') FU (nI m).toInt64 0 0 (ch + 1) F = some (nI n', ch + 1 + nI (n' - 0), F') := b1
      have b4 : f_X3_sum (nI n') F' 0 = some (nI (sumN G' 0 n')) := e_sum (w := 0) b3.F (by omega)
      rw [h1, bs, if_neg (by decide), if_neg n0, if_pos (by rw [l12, i_le (by omega) (by omega)]; omega), bs, bs, b1, bs, b4, bs, sum0, Nat.sub_zero, Int32.add_assoc, l1, nI_add]
    · unfold f_X6_draw f_X6_goesEmpty
      have b2 : lp_X6_draw_44 (nI n') FU (nI m).toInt64 0 0 0 U = some (nI (fb_sm (fun u => G' 0 u) n'), nI n', U') := b2
      rw [sd2, h2, bs, if_neg (by decide), L0, L12, in_yes (by omega) g (by omega), bs, if_neg (by decide), bs, b2, bs]
  · refine bad ?_ ?_
    · unfold f_X5_draw; rw [h1, bs, if_neg (by decide), if_neg n0, if_neg (by rw [l12, i_le (by omega) (by omega)]; omega)]; rfl
    · unfold f_X6_draw; rw [sd2, h2, bs, if_neg (by decide), L0, L12, in_no (by omega) (by omega) (by omega) (by omega)]; rfl
theorem pow12 {c : Nat} (h : c ≤ 12) : 2 ^ c ≤ 4096 := Nat.pow_le_pow_right (by decide) h
theorem e_walk1 {w c : Nat} {G : Nat → Nat → Nat} {F : Nat → Nat → Int32} {U : Nat → Int32} (hw : w < 5) (hf : FG c G F) (hu : UG c G U) (u v one two x : Int32) (l f1 f2 f3 ml pd pn : Nat → Int32) :
    ∃ r s k sm lg u' v' one' two' l' f1' f2' f3' ml' pd' pn', f_X0_run (nI c) F u v l f1 f2 f3 (nI w) x = some (nI s, nI k, nI sm, nI lg, u', v', l', f1', f2', f3') ∧ f_J6_bitCount_0f7a4 (nI s) = some r ∧
      f_X6_walks (nI c) (nI w) one two U ml pd pn x = some (r, nI s, one', two', nI k, nI sm, nI lg, nI k, nI sm, nI lg, ml', pd', pn') ∧ s < 4096 ∧ k ≤ 12 ∧ sm ≤ 12 ∧ lg ≤ 12 ∧ REC k f1' f2' f3' pd' ∧ s < 2 ^ c := by
  obtain ⟨s, k, sm, lg, u', v', one', two', l', f1', f2', f3', ml', pn', h1, h2, h3, h4, h5, h6, h7⟩ := e_run hw hf hu u v one two x l f1 f2 f3 ml pn
  have hs : s < 4096 := Nat.lt_of_lt_of_le h3 (pow12 hf.1)
  obtain ⟨pd', p1, p2⟩ := e_lp_walks (k := k) (q := (nI s, one', two', nI k, nI sm, nI lg, ml', pn')) rfl h4 FU 0 pd (by omega) (by rw [FU_eq]; omega) (fun j hj => by omega)
  obtain ⟨r, hr⟩ : ∃ r, f_J6_bitCount_0f7a4 (nI s) = some r := ⟨_, rfl⟩
  refine ⟨r, s, k, sm, lg, u', v', one', two', l', f1', f2', f3', ml', pd', pn', h1, hr, ?_, hs, h4, h5, h6, ?_, h3⟩
  · unfold f_X6_walks
    rw [← l0] at p1
    rw [h2, bs, p1, bs]
    show Option.bind (f_X6_bits (nI s)) _ = _
    rw [e_bits hs, hr, bs]
  · intro i hi
    obtain ⟨a1, a2, a3⟩ := h7 i hi
    rw [p2 (3 * i) (by omega), p2 (3 * i + 1) (by omega), p2 (3 * i + 2) (by omega)]
    exact ⟨a1, a2, a3⟩
theorem e_walkX {w c : Nat} {G : Nat → Nat → Nat} {rc mn xb xf : Int32} {F : Nat → Nat → Int32} {U q : Nat → Int32} (hw : w < 5) (hu : UR c G rc F mn U) (hq : RQ xb xf q) {s k sm lg : Nat} (hs : s < 4096) (hk : k ≤ 12) (hsm : sm ≤ 12) (hlg : lg ≤ 12) (u v one two pl2 lo2 hi2 a : Int32) (l f1 f2 f3 ml pd pn : Nat → Int32) (hr : REC k f1 f2 f3 pd) :
    ∃ r s' k' sm' lg' xb' xf' q' u' v' one' two' y1 y2 y3 l' f1' f2' f3' ml' pd' pn', f_X5_walk (nI w) xb xf rc F (nI s) (nI k) (nI sm) (nI lg) u v l f1 f2 f3 a = some (r, xb', xf', nI s', nI k', nI sm', nI lg', u', v', l', f1', f2', f3') ∧
      f_X6_walk mn (nI w) (nI s) one two (nI k) (nI sm) (nI lg) pl2 lo2 hi2 U q ml pd pn a = some (r, nI s', one', two', nI k', nI sm', nI lg', y1, y2, y3, q', ml', pd', pn') ∧ RQ xb' xf' q' ∧ s' < 4096 ∧ k' ≤ 12 ∧ sm' ≤ 12 ∧ lg' ≤ 12 ∧ REC k' f1' f2' f3' pd' := by
  have hF := hu.F
  have hU := hu.U
  obtain ⟨hc, rfl, rfl, _⟩ := hu
  rcases e_isSeed a with ⟨h1, h2⟩ | ⟨m, hm, rfl, h1, h2⟩
  · refine ⟨-2, s, k, sm, lg, xb + 1, xf, _, u, v, one, two, pl2, lo2, hi2, l, f1, f2, f3, ml, pd, pn, ?_, ?_, hq.bad, hs, hk, hsm, hlg, hr⟩
    · unfold f_X5_walk; rw [h1]; rfl
    · unfold f_X6_walk; rw [h2]; rfl
  · obtain ⟨r, s', k', sm', lg', u', v', one', two', l', f1', f2', f3', ml', pd', pn', b1, b2, b3, b4, b5, b6, b7, b8, _⟩ := e_walk1 hw hF hU u v one two (nI m) l f1 f2 f3 ml pd pn
    refine ⟨r, s', k', sm', lg', xb, xf, q, u', v', one', two', nI k', nI sm', nI lg', l', f1', f2', f3', ml', pd', pn', ?_, ?_, hq, b4, b5, b6, b7, b8⟩
    · unfold f_X5_walk; rw [h1, bs, if_neg (by decide), b1, bs, b2, bs]
    · unfold f_X6_walk; rw [h2, bs, if_neg (by decide), b3, bs]
