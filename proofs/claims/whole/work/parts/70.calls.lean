/-! each call: both answer alike -/
theorem CV.stp {c c' C d : Nat} {G G' : Nat → Nat → Nat} {ch kc km : Int32} {f : Nat → Int64} (h : CV c G C ch kc km f) (hb : C + 31 < 1000000000) (hd : d ≤ 31) (h0 : d = 0 → c' = c ∧ G' = G) : CV c' G' (C + d) (ch + nI d) kc km f := by
  rcases Nat.eq_zero_or_pos d with rfl | h1
  · obtain ⟨rfl, rfl⟩ := h0 rfl
    exact h.same
  · exact h.chg h1 (by omega)
theorem c_unit {E : EN} {C : Nat} {h : Hp} (hb : C + 31 < 1000000000) (hR : REL C h) (a0 a1 a2 a3 a4 : Int32) : ∃ r h1 h2 C', C' ≤ C + 31 ∧ Sem E yX5_unit cX5_unit 7 (some .int) 2 [.ref (eA E 0), .int a0, .int a1, .int a2, .int a3, .int a4] h (some (.int r), h1) ∧ Sem E yX6_unit cX6_unit 6 (some .int) 2 [.ref (eA E 26), .int a0, .int a1, .int a2, .int a3, .int a4] h1 (some (.int r), h2) ∧ REL C' h2 := by
  obtain ⟨⟨xm, xb, xf⟩, ⟨rc, ch, F⟩, ⟨ls, lp, lsm, llg, lu, lv, lf, f1, f2, f3⟩, ⟨t1, t2, t3, t4, t5, t6, t7, t8, t9, t10⟩, ⟨kc, km, sn'⟩, ⟨sl, s2, s3, s4, st, s6, s7⟩, ⟨pl, ps⟩, ⟨mu, mw, ms, m4, m5, mp, ml, mh, m9, m10, m11, tl, al, m14, U, q, m17, pd, m19, m20, mt, an, m23⟩⟩ := h
  obtain ⟨w, c, s, k, sm, lg, p, t, b, G, hS, hq, hT, hK⟩ := hR
  obtain ⟨hw, rfl, rfl, hu, hs, rfl, rfl, hk, rfl, rfl, hsm, rfl, rfl, hlg, rfl, rfl, hr, ha, hc⟩ := hS
  obtain ⟨r, xb', xf', q', d, c', rc', mn', F', U', G', e1, e2, g, hu', hd, h0⟩ := e_unitX hu hq ch a0 a1 a2 a3 a4
  exact ⟨r, _, _, C + d, by omega, s_X5_unit e1, s_X6_unit e2, w, c', s, k, sm, lg, p, t, b, G', ⟨hw, rfl, rfl, hu', hs, rfl, rfl, hk, rfl, rfl, hsm, rfl, rfl, hlg, rfl, rfl, hr, ha, by rw [hc, nI_add]⟩, g, hT, hK.stp hb (by omega) (fun hz => ⟨(h0 hz).2.2.1, (h0 hz).2.2.2⟩)⟩
theorem c_sets {E : EN} {C : Nat} {h : Hp} (hb : C + 31 < 1000000000) (hR : REL C h) (a0 a1 a2 : Int32) : ∃ r h1 h2 C', C' ≤ C + 31 ∧ Sem E yX5_sets cX5_sets 4 (some .int) 3 [.ref (eA E 0), .int a0, .int a1, .int a2] h (some (.int r), h1) ∧ Sem E yX6_sets cX6_sets 4 (some .int) 3 [.ref (eA E 26), .int a0, .int a1, .int a2] h1 (some (.int r), h2) ∧ REL C' h2 := by
  obtain ⟨⟨xm, xb, xf⟩, ⟨rc, ch, F⟩, ⟨ls, lp, lsm, llg, lu, lv, lf, f1, f2, f3⟩, ⟨t1, t2, t3, t4, t5, t6, t7, t8, t9, t10⟩, ⟨kc, km, sn'⟩, ⟨sl, s2, s3, s4, st, s6, s7⟩, ⟨pl, ps⟩, ⟨mu, mw, ms, m4, m5, mp, ml, mh, m9, m10, m11, tl, al, m14, U, q, m17, pd, m19, m20, mt, an, m23⟩⟩ := h
  obtain ⟨w, c, s, k, sm, lg, p, t, b, G, hS, hq, hT, hK⟩ := hR
  obtain ⟨hw, rfl, rfl, hu, hs, rfl, rfl, hk, rfl, rfl, hsm, rfl, rfl, hlg, rfl, rfl, hr, ha, hc⟩ := hS
  obtain ⟨r, xb', xf', q', d, F', U', G', e1, e2, g, hu', hd, h0⟩ := e_sets hu hq ch a0 a1 a2
  exact ⟨r, _, _, C + d, by omega, s_X5_sets e1, s_X6_sets e2, w, c, s, k, sm, lg, p, t, b, G', ⟨hw, rfl, rfl, hu', hs, rfl, rfl, hk, rfl, rfl, hsm, rfl, rfl, hlg, rfl, rfl, hr, ha, by rw [hc, nI_add]⟩, g, hT, hK.stp hb (by omega) (fun hz => ⟨rfl, (h0 hz).2⟩)⟩
theorem c_empties {E : EN} {C : Nat} {h : Hp} (hb : C + 31 < 1000000000) (hR : REL C h) : ∃ r h1 h2 C', C' ≤ C + 31 ∧ Sem E yX5_empties cX5_empties 2 (some .int) 2 [.ref (eA E 0)] h (some (.int r), h1) ∧ Sem E yX6_empties cX6_empties 2 (some .int) 2 [.ref (eA E 26)] h1 (some (.int r), h2) ∧ REL C' h2 := by
  obtain ⟨⟨xm, xb, xf⟩, ⟨rc, ch, F⟩, ⟨ls, lp, lsm, llg, lu, lv, lf, f1, f2, f3⟩, ⟨t1, t2, t3, t4, t5, t6, t7, t8, t9, t10⟩, ⟨kc, km, sn'⟩, ⟨sl, s2, s3, s4, st, s6, s7⟩, ⟨pl, ps⟩, ⟨mu, mw, ms, m4, m5, mp, ml, mh, m9, m10, m11, tl, al, m14, U, q, m17, pd, m19, m20, mt, an, m23⟩⟩ := h
  obtain ⟨w, c, s, k, sm, lg, p, t, b, G, hS, hq, hT, hK⟩ := hR
  obtain ⟨hw, rfl, rfl, hu, hs, rfl, rfl, hk, rfl, rfl, hsm, rfl, rfl, hlg, rfl, rfl, hr, ha, hc⟩ := hS
  obtain ⟨e1, e2, hu'⟩ := e_empties hu ch
  exact ⟨_, _, _, C + 1, by omega, s_X5_empties e1, s_X6_empties e2, w, 0, 0, 0, 0, 0, p, t, b, G, ⟨hw, rfl, rfl, hu', by omega, l0, l0, by omega, l0, l0, by omega, l0, l0, by omega, l0, l0, (fun i hi => absurd hi (by omega)), ha, by rw [hc, nI_add]⟩, hq, hT, hK.stp hb (by omega) (fun hz => absurd hz (by omega))⟩
theorem c_draw {E : EN} {C : Nat} {h : Hp} (hb : C + 31 < 1000000000) (hR : REL C h) (a0 a1 : Int32) : ∃ r h1 h2 C', C' ≤ C + 31 ∧ Sem E yX5_draw cX5_draw 6 (some .int) 3 [.ref (eA E 0), .int a0, .int a1] h (some (.int r), h1) ∧ Sem E yX6_draw cX6_draw 7 (some .int) 2 [.ref (eA E 26), .int a0, .int a1] h1 (some (.int r), h2) ∧ REL C' h2 := by
  obtain ⟨⟨xm, xb, xf⟩, ⟨rc, ch, F⟩, ⟨ls, lp, lsm, llg, lu, lv, lf, f1, f2, f3⟩, ⟨t1, t2, t3, t4, t5, t6, t7, t8, t9, t10⟩, ⟨kc, km, sn'⟩, ⟨sl, s2, s3, s4, st, s6, s7⟩, ⟨pl, ps⟩, ⟨mu, mw, ms, m4, m5, mp, ml, mh, m9, m10, m11, tl, al, m14, U, q, m17, pd, m19, m20, mt, an, m23⟩⟩ := h
  obtain ⟨w, c, s, k, sm, lg, p, t, b, G, hS, hq, hT, hK⟩ := hR
  obtain ⟨hw, rfl, rfl, hu, hs, rfl, rfl, hk, rfl, rfl, hsm, rfl, rfl, hlg, rfl, rfl, hr, ha, hc⟩ := hS
  obtain ⟨r, xb', xf', q', d, c', rc', mn', F', U', G', y1, y2, y3, y4, e1, e2, g, hu', hd, h0⟩ := e_draw (x1 := nI s) (x2 := nI k) (x3 := nI sm) (x4 := nI lg) hu hq ch a0 a1
  rcases h0 with ⟨h0, h1, h2, h3, h4, rfl, rfl, rfl, rfl⟩ | ⟨h0, rfl, rfl, rfl, rfl⟩
  · exact ⟨r, _, _, C + d, by omega, s_X5_draw e1, s_X6_draw e2, w, c', s, k, sm, lg, p, t, b, G', ⟨hw, rfl, rfl, hu', hs, rfl, rfl, hk, rfl, rfl, hsm, rfl, rfl, hlg, rfl, rfl, hr, ha, by rw [hc, nI_add]⟩, g, hT, hK.stp hb (by omega) (fun _ => ⟨h3, h4⟩)⟩
  · exact ⟨r, _, _, C + d, by omega, s_X5_draw e1, s_X6_draw e2, w, c', 0, 0, 0, 0, p, t, b, G', ⟨hw, rfl, rfl, hu', by omega, l0, l0, by omega, l0, l0, by omega, l0, l0, by omega, l0, l0, (fun i hi => absurd hi (by omega)), ha, by rw [hc, nI_add]⟩, g, hT, hK.stp hb (by omega) (fun hz => absurd hz (by omega))⟩
theorem c_of {E : EN} {C : Nat} {h : Hp} (hb : C + 31 < 1000000000) (hR : REL C h) (a0 a1 : Int32) : ∃ r h1 h2 C', C' ≤ C + 31 ∧ Sem E yX5_of cX5_of 3 (some .int) 3 [.ref (eA E 0), .int a0, .int a1] h (some (.int r), h1) ∧ Sem E yX6_of cX6_of 3 (some .int) 3 [.ref (eA E 26), .int a0, .int a1] h1 (some (.int r), h2) ∧ REL C' h2 := by
  obtain ⟨⟨xm, xb, xf⟩, ⟨rc, ch, F⟩, ⟨ls, lp, lsm, llg, lu, lv, lf, f1, f2, f3⟩, ⟨t1, t2, t3, t4, t5, t6, t7, t8, t9, t10⟩, ⟨kc, km, sn'⟩, ⟨sl, s2, s3, s4, st, s6, s7⟩, ⟨pl, ps⟩, ⟨mu, mw, ms, m4, m5, mp, ml, mh, m9, m10, m11, tl, al, m14, U, q, m17, pd, m19, m20, mt, an, m23⟩⟩ := h
  obtain ⟨w, c, s, k, sm, lg, p, t, b, G, hS, hq, hT, hK⟩ := hR
  obtain ⟨hw, rfl, rfl, hu, hs, rfl, rfl, hk, rfl, rfl, hsm, rfl, rfl, hlg, rfl, rfl, hr, ha, hc⟩ := hS
  obtain ⟨r, xb', xf', q', e1, e2, g⟩ := e_of hu hs hq a0 a1
  exact ⟨r, _, _, C, by omega, s_X5_of e1, s_X6_of e2, w, c, s, k, sm, lg, p, t, b, G, ⟨hw, rfl, rfl, hu, hs, rfl, rfl, hk, rfl, rfl, hsm, rfl, rfl, hlg, rfl, rfl, hr, ha, hc⟩, g, hT, hK⟩
theorem c_all {E : EN} {C : Nat} {h : Hp} (hb : C + 31 < 1000000000) (hR : REL C h) (a0 : Int32) : ∃ r h1 h2 C', C' ≤ C + 31 ∧ Sem E yX5_all cX5_all 2 (some .int) 3 [.ref (eA E 0), .int a0] h (some (.int r), h1) ∧ Sem E yX6_all cX6_all 2 (some .int) 3 [.ref (eA E 26), .int a0] h1 (some (.int r), h2) ∧ REL C' h2 := by
  obtain ⟨⟨xm, xb, xf⟩, ⟨rc, ch, F⟩, ⟨ls, lp, lsm, llg, lu, lv, lf, f1, f2, f3⟩, ⟨t1, t2, t3, t4, t5, t6, t7, t8, t9, t10⟩, ⟨kc, km, sn'⟩, ⟨sl, s2, s3, s4, st, s6, s7⟩, ⟨pl, ps⟩, ⟨mu, mw, ms, m4, m5, mp, ml, mh, m9, m10, m11, tl, al, m14, U, q, m17, pd, m19, m20, mt, an, m23⟩⟩ := h
  obtain ⟨w, c, s, k, sm, lg, p, t, b, G, hS, hq, hT, hK⟩ := hR
  obtain ⟨hw, rfl, rfl, hu, hs, rfl, rfl, hk, rfl, rfl, hsm, rfl, rfl, hlg, rfl, rfl, hr, ha, hc⟩ := hS
  obtain ⟨r, xb', xf', q', e1, e2, g⟩ := e_all hu hq a0
  exact ⟨r, _, _, C, by omega, s_X5_all e1, s_X6_all e2, w, c, s, k, sm, lg, p, t, b, G, ⟨hw, rfl, rfl, hu, hs, rfl, rfl, hk, rfl, rfl, hsm, rfl, rfl, hlg, rfl, rfl, hr, ha, hc⟩, g, hT, hK⟩
theorem c_method {E : EN} {C : Nat} {h : Hp} (hb : C + 31 < 1000000000) (hR : REL C h) (a0 : Int32) : ∃ r h1 h2 C', C' ≤ C + 31 ∧ Sem E yX5_method cX5_method 2 (some .int) 2 [.ref (eA E 0), .int a0] h (some (.int r), h1) ∧ Sem E yX6_method cX6_method 3 (some .int) 2 [.ref (eA E 26), .int a0] h1 (some (.int r), h2) ∧ REL C' h2 := by
  obtain ⟨⟨xm, xb, xf⟩, ⟨rc, ch, F⟩, ⟨ls, lp, lsm, llg, lu, lv, lf, f1, f2, f3⟩, ⟨t1, t2, t3, t4, t5, t6, t7, t8, t9, t10⟩, ⟨kc, km, sn'⟩, ⟨sl, s2, s3, s4, st, s6, s7⟩, ⟨pl, ps⟩, ⟨mu, mw, ms, m4, m5, mp, ml, mh, m9, m10, m11, tl, al, m14, U, q, m17, pd, m19, m20, mt, an, m23⟩⟩ := h
  obtain ⟨w, c, s, k, sm, lg, p, t, b, G, hS, hq, hT, hK⟩ := hR
  obtain ⟨hw, rfl, rfl, hu, hs, rfl, rfl, hk, rfl, rfl, hsm, rfl, rfl, hlg, rfl, rfl, hr, ha, hc⟩ := hS
  obtain ⟨r, w', xb', xf', q', e1, e2, g1, g⟩ := e_method hw hq a0
  exact ⟨r, _, _, C, by omega, s_X5_method e1, s_X6_method e2, w', c, s, k, sm, lg, p, t, b, G, ⟨g1, rfl, rfl, hu, hs, rfl, rfl, hk, rfl, rfl, hsm, rfl, rfl, hlg, rfl, rfl, hr, ha, hc⟩, g, hT, hK⟩
theorem c_walk {E : EN} {C : Nat} {h : Hp} (hb : C + 31 < 1000000000) (hR : REL C h) (a0 : Int32) : ∃ r h1 h2 C', C' ≤ C + 31 ∧ Sem E yX5_walk cX5_walk 2 (some .int) 6 [.ref (eA E 0), .int a0] h (some (.int r), h1) ∧ Sem E yX6_walk cX6_walk 2 (some .int) 8 [.ref (eA E 26), .int a0] h1 (some (.int r), h2) ∧ REL C' h2 := by
  obtain ⟨⟨xm, xb, xf⟩, ⟨rc, ch, F⟩, ⟨ls, lp, lsm, llg, lu, lv, lf, f1, f2, f3⟩, ⟨t1, t2, t3, t4, t5, t6, t7, t8, t9, t10⟩, ⟨kc, km, sn'⟩, ⟨sl, s2, s3, s4, st, s6, s7⟩, ⟨pl, ps⟩, ⟨mu, mw, ms, m4, m5, mp, ml, mh, m9, m10, m11, tl, al, m14, U, q, m17, pd, m19, m20, mt, an, m23⟩⟩ := h
  obtain ⟨w, c, s, k, sm, lg, p, t, b, G, hS, hq, hT, hK⟩ := hR
  obtain ⟨hw, rfl, rfl, hu, hs, rfl, rfl, hk, rfl, rfl, hsm, rfl, rfl, hlg, rfl, rfl, hr, ha, hc⟩ := hS
  obtain ⟨r, s', k', sm', lg', xb', xf', q', u', v', one', two', y1, y2, y3, l', f1', f2', f3', ml', pd', pn', e1, e2, g, hs', hk', hsm', hlg', hr'⟩ := e_walkX hw hu hq hs hk hsm hlg lu lv m4 m5 m9 m10 m11 a0 lf f1 f2 f3 m17 pd m19 hr
  exact ⟨r, _, _, C, by omega, s_X5_walk e1, s_X6_walk e2, w, c, s', k', sm', lg', p, t, b, G, ⟨hw, rfl, rfl, hu, hs', rfl, rfl, hk', rfl, rfl, hsm', rfl, rfl, hlg', rfl, rfl, hr', ha, hc⟩, g, hT, hK⟩
theorem c_was {E : EN} {C : Nat} {h : Hp} (hb : C + 31 < 1000000000) (hR : REL C h) (a0 : Int32) : ∃ r h1 h2 C', C' ≤ C + 31 ∧ Sem E yX5_was cX5_was 2 (some .int) 2 [.ref (eA E 0), .int a0] h (some (.int r), h1) ∧ Sem E yX6_was cX6_was 2 (some .int) 2 [.ref (eA E 26), .int a0] h1 (some (.int r), h2) ∧ REL C' h2 := by
  obtain ⟨⟨xm, xb, xf⟩, ⟨rc, ch, F⟩, ⟨ls, lp, lsm, llg, lu, lv, lf, f1, f2, f3⟩, ⟨t1, t2, t3, t4, t5, t6, t7, t8, t9, t10⟩, ⟨kc, km, sn'⟩, ⟨sl, s2, s3, s4, st, s6, s7⟩, ⟨pl, ps⟩, ⟨mu, mw, ms, m4, m5, mp, ml, mh, m9, m10, m11, tl, al, m14, U, q, m17, pd, m19, m20, mt, an, m23⟩⟩ := h
  obtain ⟨w, c, s, k, sm, lg, p, t, b, G, hS, hq, hT, hK⟩ := hR
  obtain ⟨hw, rfl, rfl, hu, hs, rfl, rfl, hk, rfl, rfl, hsm, rfl, rfl, hlg, rfl, rfl, hr, ha, hc⟩ := hS
  obtain ⟨r, xb', xf', q', e1, e2, g⟩ := e_was hq a0
  exact ⟨r, _, _, C, by omega, s_X5_was e1, s_X6_was e2, w, c, s, k, sm, lg, p, t, b, G, ⟨hw, rfl, rfl, hu, hs, rfl, rfl, hk, rfl, rfl, hsm, rfl, rfl, hlg, rfl, rfl, hr, ha, hc⟩, g, hT, hK⟩
theorem c_play {E : EN} {C : Nat} {h : Hp} (hb : C + 31 < 1000000000) (hR : REL C h) (a0 a1 : Int32) : ∃ r h1 h2 C', C' ≤ C + 31 ∧ Sem E yX5_play cX5_play 3 (some .int) 2 [.ref (eA E 0), .int a0, .int a1] h (some (.int r), h1) ∧ Sem E yX6_play cX6_play 3 (some .int) 2 [.ref (eA E 26), .int a0, .int a1] h1 (some (.int r), h2) ∧ REL C' h2 := by
  obtain ⟨⟨xm, xb, xf⟩, ⟨rc, ch, F⟩, ⟨ls, lp, lsm, llg, lu, lv, lf, f1, f2, f3⟩, ⟨t1, t2, t3, t4, t5, t6, t7, t8, t9, t10⟩, ⟨kc, km, sn'⟩, ⟨sl, s2, s3, s4, st, s6, s7⟩, ⟨pl, ps⟩, ⟨mu, mw, ms, m4, m5, mp, ml, mh, m9, m10, m11, tl, al, m14, U, q, m17, pd, m19, m20, mt, an, m23⟩⟩ := h
  obtain ⟨w, c, s, k, sm, lg, p, t, b, G, hS, hq, hT, hK⟩ := hR
  obtain ⟨hw, rfl, rfl, hu, hs, rfl, rfl, hk, rfl, rfl, hsm, rfl, rfl, hlg, rfl, rfl, hr, ha, hc⟩ := hS
  obtain ⟨r, xb', xf', q', e1, e2, g⟩ := e_playX hk hr hq a0 a1
  exact ⟨r, _, _, C, by omega, s_X5_play e1, s_X6_play e2, w, c, s, k, sm, lg, p, t, b, G, ⟨hw, rfl, rfl, hu, hs, rfl, rfl, hk, rfl, rfl, hsm, rfl, rfl, hlg, rfl, rfl, hr, ha, hc⟩, g, hT, hK⟩
theorem c_counted {E : EN} {C : Nat} {h : Hp} (hb : C + 31 < 1000000000) (hR : REL C h) (a0 : Int32) : ∃ r h1 h2 C', C' ≤ C + 31 ∧ Sem E yX5_counted cX5_counted 2 (some .long) 4 [.ref (eA E 0), .int a0] h (some (.long r), h1) ∧ Sem E yX6_counted cX6_counted 2 (some .long) 4 [.ref (eA E 26), .int a0] h1 (some (.long r), h2) ∧ REL C' h2 := by
  obtain ⟨⟨xm, xb, xf⟩, ⟨rc, ch, F⟩, ⟨ls, lp, lsm, llg, lu, lv, lf, f1, f2, f3⟩, ⟨t1, t2, t3, t4, t5, t6, t7, t8, t9, t10⟩, ⟨kc, km, sn'⟩, ⟨sl, s2, s3, s4, st, s6, s7⟩, ⟨pl, ps⟩, ⟨mu, mw, ms, m4, m5, mp, ml, mh, m9, m10, m11, tl, al, m14, U, q, m17, pd, m19, m20, mt, an, m23⟩⟩ := h
  obtain ⟨w, c, s, k, sm, lg, p, t, b, G, hS, hq, hT, hK⟩ := hR
  obtain ⟨hw, rfl, rfl, hu, hs, rfl, rfl, hk, rfl, rfl, hsm, rfl, rfl, hlg, rfl, rfl, hr, ha, hc⟩ := hS
  obtain ⟨r, xb', xf', q', e1, e2, g⟩ := e_counted hu hs hq a0
  exact ⟨r, _, _, C, by omega, s_X5_counted e1, s_X6_counted e2, w, c, s, k, sm, lg, p, t, b, G, ⟨hw, rfl, rfl, hu, hs, rfl, rfl, hk, rfl, rfl, hsm, rfl, rfl, hlg, rfl, rfl, hr, ha, hc⟩, g, hT, hK⟩
theorem c_inside {E : EN} {C : Nat} {h : Hp} (hb : C + 31 < 1000000000) (hR : REL C h) (a0 : Int32) : ∃ r h1 h2 C', C' ≤ C + 31 ∧ Sem E yX5_inside cX5_inside 4 (some .int) 2 [.ref (eA E 0), .int a0] h (some (.int r), h1) ∧ Sem E yX6_inside cX6_inside 4 (some .int) 2 [.ref (eA E 26), .int a0] h1 (some (.int r), h2) ∧ REL C' h2 := by
  obtain ⟨⟨xm, xb, xf⟩, ⟨rc, ch, F⟩, ⟨ls, lp, lsm, llg, lu, lv, lf, f1, f2, f3⟩, ⟨t1, t2, t3, t4, t5, t6, t7, t8, t9, t10⟩, ⟨kc, km, sn'⟩, ⟨sl, s2, s3, s4, st, s6, s7⟩, ⟨pl, ps⟩, ⟨mu, mw, ms, m4, m5, mp, ml, mh, m9, m10, m11, tl, al, m14, U, q, m17, pd, m19, m20, mt, an, m23⟩⟩ := h
  obtain ⟨w, c, s, k, sm, lg, p, t, b, G, hS, hq, hT, hK⟩ := hR
  obtain ⟨hw, rfl, rfl, hu, hs, rfl, rfl, hk, rfl, rfl, hsm, rfl, rfl, hlg, rfl, rfl, hr, ha, hc⟩ := hS
  obtain ⟨r, xb', xf', q', e1, e2, g⟩ := e_inside hu hs hq a0
  exact ⟨r, _, _, C, by omega, s_X5_inside e1, s_X6_inside e2, w, c, s, k, sm, lg, p, t, b, G, ⟨hw, rfl, rfl, hu, hs, rfl, rfl, hk, rfl, rfl, hsm, rfl, rfl, hlg, rfl, rfl, hr, ha, hc⟩, g, hT, hK⟩
theorem c_spread {E : EN} {C : Nat} {h : Hp} (hb : C + 31 < 1000000000) (hR : REL C h) : ∃ r h1 h2 C', C' ≤ C + 31 ∧ Sem E yX5_spread cX5_spread 5 (some .int) 3 [.ref (eA E 0)] h (some (.int r), h1) ∧ Sem E yX6_spread cX6_spread 6 (some .int) 2 [.ref (eA E 26)] h1 (some (.int r), h2) ∧ REL C' h2 := by
  obtain ⟨⟨xm, xb, xf⟩, ⟨rc, ch, F⟩, ⟨ls, lp, lsm, llg, lu, lv, lf, f1, f2, f3⟩, ⟨t1, t2, t3, t4, t5, t6, t7, t8, t9, t10⟩, ⟨kc, km, sn'⟩, ⟨sl, s2, s3, s4, st, s6, s7⟩, ⟨pl, ps⟩, ⟨mu, mw, ms, m4, m5, mp, ml, mh, m9, m10, m11, tl, al, m14, U, q, m17, pd, m19, m20, mt, an, m23⟩⟩ := h
  obtain ⟨w, c, s, k, sm, lg, p, t, b, G, hS, hq, hT, hK⟩ := hR
  obtain ⟨hw, rfl, rfl, hu, hs, rfl, rfl, hk, rfl, rfl, hsm, rfl, rfl, hlg, rfl, rfl, hr, ha, hc⟩ := hS
  obtain ⟨r, e1, e2⟩ := e_spread hu hs
  exact ⟨r, _, _, C, by omega, s_X5_spread e1, s_X6_spread e2, w, c, s, k, sm, lg, p, t, b, G, ⟨hw, rfl, rfl, hu, hs, rfl, rfl, hk, rfl, rfl, hsm, rfl, rfl, hlg, rfl, rfl, hr, ha, hc⟩, hq, hT, hK⟩
theorem c_often {E : EN} {C : Nat} {h : Hp} (hb : C + 31 < 1000000000) (hR : REL C h) (a0 a1 a2 : Int32) : ∃ r h1 h2 C', C' ≤ C + 31 ∧ Sem E yX5_often cX5_often 4 (some .int) 7 [.ref (eA E 0), .int a0, .int a1, .int a2] h (some (.int r), h1) ∧ Sem E yX6_often cX6_often 4 (some .int) 8 [.ref (eA E 26), .int a0, .int a1, .int a2] h1 (some (.int r), h2) ∧ REL C' h2 := by
  obtain ⟨⟨xm, xb, xf⟩, ⟨rc, ch, F⟩, ⟨ls, lp, lsm, llg, lu, lv, lf, f1, f2, f3⟩, ⟨t1, t2, t3, t4, t5, t6, t7, t8, t9, t10⟩, ⟨kc, km, sn'⟩, ⟨sl, s2, s3, s4, st, s6, s7⟩, ⟨pl, ps⟩, ⟨mu, mw, ms, m4, m5, mp, ml, mh, m9, m10, m11, tl, al, m14, U, q, m17, pd, m19, m20, mt, an, m23⟩⟩ := h
  obtain ⟨w, c, s, k, sm, lg, p, t, b, G, hS, hq, hT, hK⟩ := hR
  obtain ⟨hw, rfl, rfl, hu, hs, rfl, rfl, hk, rfl, rfl, hsm, rfl, rfl, hlg, rfl, rfl, hr, ha, hc⟩ := hS
  obtain ⟨r, xb', xf', q', t1', t2', t3', t4', t5', t6', tl', f1', f2', f3', o1', o2', o3', o4', o5', ml', pn', e1, e2, g⟩ := e_often hw hu hq t1 t2 t3 t4 t5 t6 m4 m5 m9 m10 m11 a0 a1 a2 t7 t8 t9 t10 m17 m19
  exact ⟨r, _, _, C, by omega, s_X5_often e1, s_X6_often e2, w, c, s, k, sm, lg, p, t, b, G, ⟨hw, rfl, rfl, hu, hs, rfl, rfl, hk, rfl, rfl, hsm, rfl, rfl, hlg, rfl, rfl, hr, ha, hc⟩, g, hT, hK⟩
theorem c_both {E : EN} {C : Nat} {h : Hp} (hb : C + 31 < 1000000000) (hR : REL C h) (a0 a1 a2 a3 : Int32) : ∃ r h1 h2 C', C' ≤ C + 31 ∧ Sem E yX5_both cX5_both 5 (some .int) 7 [.ref (eA E 0), .int a0, .int a1, .int a2, .int a3] h (some (.int r), h1) ∧ Sem E yX6_both cX6_both 5 (some .int) 8 [.ref (eA E 26), .int a0, .int a1, .int a2, .int a3] h1 (some (.int r), h2) ∧ REL C' h2 := by
  obtain ⟨⟨xm, xb, xf⟩, ⟨rc, ch, F⟩, ⟨ls, lp, lsm, llg, lu, lv, lf, f1, f2, f3⟩, ⟨t1, t2, t3, t4, t5, t6, t7, t8, t9, t10⟩, ⟨kc, km, sn'⟩, ⟨sl, s2, s3, s4, st, s6, s7⟩, ⟨pl, ps⟩, ⟨mu, mw, ms, m4, m5, mp, ml, mh, m9, m10, m11, tl, al, m14, U, q, m17, pd, m19, m20, mt, an, m23⟩⟩ := h
  obtain ⟨w, c, s, k, sm, lg, p, t, b, G, hS, hq, hT, hK⟩ := hR
  obtain ⟨hw, rfl, rfl, hu, hs, rfl, rfl, hk, rfl, rfl, hsm, rfl, rfl, hlg, rfl, rfl, hr, ha, hc⟩ := hS
  obtain ⟨r, xb', xf', q', t1', t2', t3', t4', t5', t6', tl', f1', f2', f3', o1', o2', o3', o4', o5', ml', pn', e1, e2, g⟩ := e_both hw hu hq t1 t2 t3 t4 t5 t6 m4 m5 m9 m10 m11 a0 a1 a2 a3 t7 t8 t9 t10 m17 m19
  exact ⟨r, _, _, C, by omega, s_X5_both e1, s_X6_both e2, w, c, s, k, sm, lg, p, t, b, G, ⟨hw, rfl, rfl, hu, hs, rfl, rfl, hk, rfl, rfl, hsm, rfl, rfl, hlg, rfl, rfl, hr, ha, hc⟩, g, hT, hK⟩
theorem c_best {E : EN} {C : Nat} {h : Hp} (hb : C + 31 < 1000000000) (hR : REL C h) (a0 a1 a2 : Int32) : ∃ r h1 h2 C', C' ≤ C + 31 ∧ Sem E yX5_best cX5_best 10 (some .long) 6 [.ref (eA E 0), .int a0, .int a1, .int a2] h (some (.long r), h1) ∧ Sem E yX6_best cX6_best 10 (some .long) 7 [.ref (eA E 26), .int a0, .int a1, .int a2] h1 (some (.long r), h2) ∧ REL C' h2 := by
  obtain ⟨⟨xm, xb, xf⟩, ⟨rc, ch, F⟩, ⟨ls, lp, lsm, llg, lu, lv, lf, f1, f2, f3⟩, ⟨t1, t2, t3, t4, t5, t6, t7, t8, t9, t10⟩, ⟨kc, km, sn'⟩, ⟨sl, s2, s3, s4, st, s6, s7⟩, ⟨pl, ps⟩, ⟨mu, mw, ms, m4, m5, mp, ml, mh, m9, m10, m11, tl, al, m14, U, q, m17, pd, m19, m20, mt, an, m23⟩⟩ := h
  obtain ⟨w, c, s, k, sm, lg, p, t, b, G, hS, hq, hT, hK⟩ := hR
  obtain ⟨hw, rfl, rfl, hu, hs, rfl, rfl, hk, rfl, rfl, hsm, rfl, rfl, hlg, rfl, rfl, hr, ha, hc⟩ := hS
  obtain ⟨r, xb', xf', q', t1', t2', t3', t4', t5', t6', tl', f1', f2', f3', o1', o2', o3', o4', o5', ml', pn', e1, e2, g⟩ := e_best hw hu hq t1 t2 t3 t4 t5 t6 m4 m5 m9 m10 m11 a0 a1 a2 t7 t8 t9 t10 m17 m19
  exact ⟨r, _, _, C, by omega, s_X5_best e1, s_X6_best e2, w, c, s, k, sm, lg, p, t, b, G, ⟨hw, rfl, rfl, hu, hs, rfl, rfl, hk, rfl, rfl, hsm, rfl, rfl, hlg, rfl, rfl, hr, ha, hc⟩, g, hT, hK⟩
theorem c_many {E : EN} {C : Nat} {h : Hp} (hb : C + 31 < 1000000000) (hR : REL C h) : ∃ r h1 h2 C', C' ≤ C + 31 ∧ Sem E yX5_many cX5_many 1 (some .int) 20 [.ref (eA E 0)] h (some (.int r), h1) ∧ Sem E yX6_many cX6_many 3 (some .int) 7 [.ref (eA E 26)] h1 (some (.int r), h2) ∧ REL C' h2 := by
  obtain ⟨⟨xm, xb, xf⟩, ⟨rc, ch, F⟩, ⟨ls, lp, lsm, llg, lu, lv, lf, f1, f2, f3⟩, ⟨t1, t2, t3, t4, t5, t6, t7, t8, t9, t10⟩, ⟨kc, km, sn'⟩, ⟨sl, s2, s3, s4, st, s6, s7⟩, ⟨pl, ps⟩, ⟨mu, mw, ms, m4, m5, mp, ml, mh, m9, m10, m11, tl, al, m14, U, q, m17, pd, m19, m20, mt, an, m23⟩⟩ := h
  obtain ⟨w, c, s, k, sm, lg, p, t, b, G, hS, hq, hT, hK⟩ := hR
  obtain ⟨hw, rfl, rfl, hu, hs, rfl, rfl, hk, rfl, rfl, hsm, rfl, rfl, hlg, rfl, rfl, hr, ha, hc⟩ := hS
  obtain ⟨r, u', v', a', kc', km', f', one', two', ml', can', e1, e2, hK'⟩ := e_many hw hu hK t5 t6 m4 m5 t7 m17 m20
  exact ⟨r, _, _, C, by omega, s_X5_many e1, s_X6_many e2, w, c, s, k, sm, lg, p, t, b, G, ⟨hw, rfl, rfl, hu, hs, rfl, rfl, hk, rfl, rfl, hsm, rfl, rfl, hlg, rfl, rfl, hr, ha, hc⟩, hq, hT, hK'⟩
theorem c_sizes {E : EN} {C : Nat} {h : Hp} (hb : C + 31 < 1000000000) (hR : REL C h) (a0 : Int32) : ∃ r h1 h2 C', C' ≤ C + 31 ∧ Sem E yX5_sizes cX5_sizes 2 (some .int) 20 [.ref (eA E 0), .int a0] h (some (.int r), h1) ∧ Sem E yX6_sizes cX6_sizes 5 (some .int) 7 [.ref (eA E 26), .int a0] h1 (some (.int r), h2) ∧ REL C' h2 := by
  obtain ⟨⟨xm, xb, xf⟩, ⟨rc, ch, F⟩, ⟨ls, lp, lsm, llg, lu, lv, lf, f1, f2, f3⟩, ⟨t1, t2, t3, t4, t5, t6, t7, t8, t9, t10⟩, ⟨kc, km, sn'⟩, ⟨sl, s2, s3, s4, st, s6, s7⟩, ⟨pl, ps⟩, ⟨mu, mw, ms, m4, m5, mp, ml, mh, m9, m10, m11, tl, al, m14, U, q, m17, pd, m19, m20, mt, an, m23⟩⟩ := h
  obtain ⟨w, c, s, k, sm, lg, p, t, b, G, hS, hq, hT, hK⟩ := hR
  obtain ⟨hw, rfl, rfl, hu, hs, rfl, rfl, hk, rfl, rfl, hsm, rfl, rfl, hlg, rfl, rfl, hr, ha, hc⟩ := hS
  obtain ⟨r, xb', xf', q', u', v', a', kc', km', f', one', two', ml', can', e1, e2, g, hK'⟩ := e_sizes hw hu hq hK t5 t6 m4 m5 a0 t7 m17 m20
  exact ⟨r, _, _, C, by omega, s_X5_sizes e1, s_X6_sizes e2, w, c, s, k, sm, lg, p, t, b, G, ⟨hw, rfl, rfl, hu, hs, rfl, rfl, hk, rfl, rfl, hsm, rfl, rfl, hlg, rfl, rfl, hr, ha, hc⟩, g, hT, hK'⟩
theorem c_can {E : EN} {C : Nat} {h : Hp} (hb : C + 31 < 1000000000) (hR : REL C h) (a0 a1 : Int32) : ∃ r h1 h2 C', C' ≤ C + 31 ∧ Sem E yX5_can cX5_can 3 (some .int) 20 [.ref (eA E 0), .int a0, .int a1] h (some (.int r), h1) ∧ Sem E yX6_can cX6_can 6 (some .int) 7 [.ref (eA E 26), .int a0, .int a1] h1 (some (.int r), h2) ∧ REL C' h2 := by
  obtain ⟨⟨xm, xb, xf⟩, ⟨rc, ch, F⟩, ⟨ls, lp, lsm, llg, lu, lv, lf, f1, f2, f3⟩, ⟨t1, t2, t3, t4, t5, t6, t7, t8, t9, t10⟩, ⟨kc, km, sn'⟩, ⟨sl, s2, s3, s4, st, s6, s7⟩, ⟨pl, ps⟩, ⟨mu, mw, ms, m4, m5, mp, ml, mh, m9, m10, m11, tl, al, m14, U, q, m17, pd, m19, m20, mt, an, m23⟩⟩ := h
  obtain ⟨w, c, s, k, sm, lg, p, t, b, G, hS, hq, hT, hK⟩ := hR
  obtain ⟨hw, rfl, rfl, hu, hs, rfl, rfl, hk, rfl, rfl, hsm, rfl, rfl, hlg, rfl, rfl, hr, ha, hc⟩ := hS
  obtain ⟨r, xb', xf', q', u', v', a', kc', km', f', one', two', ml', can', e1, e2, g, hK'⟩ := e_can hw hu hq hK t5 t6 m4 m5 a0 a1 t7 m17 m20
  exact ⟨r, _, _, C, by omega, s_X5_can e1, s_X6_can e2, w, c, s, k, sm, lg, p, t, b, G, ⟨hw, rfl, rfl, hu, hs, rfl, rfl, hk, rfl, rfl, hsm, rfl, rfl, hlg, rfl, rfl, hr, ha, hc⟩, g, hT, hK'⟩
theorem c_least {E : EN} {C : Nat} {h : Hp} (hb : C + 31 < 1000000000) (hR : REL C h) : ∃ r h1 h2 C', C' ≤ C + 31 ∧ Sem E yX5_least cX5_least 1 (some .long) 20 [.ref (eA E 0)] h (some (.long r), h1) ∧ Sem E yX6_least cX6_least 6 (some .long) 7 [.ref (eA E 26)] h1 (some (.long r), h2) ∧ REL C' h2 := by
  obtain ⟨⟨xm, xb, xf⟩, ⟨rc, ch, F⟩, ⟨ls, lp, lsm, llg, lu, lv, lf, f1, f2, f3⟩, ⟨t1, t2, t3, t4, t5, t6, t7, t8, t9, t10⟩, ⟨kc, km, sn'⟩, ⟨sl, s2, s3, s4, st, s6, s7⟩, ⟨pl, ps⟩, ⟨mu, mw, ms, m4, m5, mp, ml, mh, m9, m10, m11, tl, al, m14, U, q, m17, pd, m19, m20, mt, an, m23⟩⟩ := h
  obtain ⟨w, c, s, k, sm, lg, p, t, b, G, hS, hq, hT, hK⟩ := hR
  obtain ⟨hw, rfl, rfl, hu, hs, rfl, rfl, hk, rfl, rfl, hsm, rfl, rfl, hlg, rfl, rfl, hr, ha, hc⟩ := hS
  obtain ⟨r, u', v', a', kc', km', f', one', two', ml', can', e1, e2, hK'⟩ := e_least hw hu hK t5 t6 m4 m5 t7 m17 m20
  exact ⟨r, _, _, C, by omega, s_X5_least e1, s_X6_least e2, w, c, s, k, sm, lg, p, t, b, G, ⟨hw, rfl, rfl, hu, hs, rfl, rfl, hk, rfl, rfl, hsm, rfl, rfl, hlg, rfl, rfl, hr, ha, hc⟩, hq, hT, hK'⟩
theorem c_type {E : EN} {C : Nat} {h : Hp} (hb : C + 31 < 1000000000) (hR : REL C h) (a0 : Int32) : ∃ r h1 h2 C', C' ≤ C + 31 ∧ Sem E yX5_type cX5_type 2 (some .int) 2 [.ref (eA E 0), .int a0] h (some (.int r), h1) ∧ Sem E yX6_type cX6_type 2 (some .int) 2 [.ref (eA E 26), .int a0] h1 (some (.int r), h2) ∧ REL C' h2 := by
  obtain ⟨⟨xm, xb, xf⟩, ⟨rc, ch, F⟩, ⟨ls, lp, lsm, llg, lu, lv, lf, f1, f2, f3⟩, ⟨t1, t2, t3, t4, t5, t6, t7, t8, t9, t10⟩, ⟨kc, km, sn'⟩, ⟨sl, s2, s3, s4, st, s6, s7⟩, ⟨pl, ps⟩, ⟨mu, mw, ms, m4, m5, mp, ml, mh, m9, m10, m11, tl, al, m14, U, q, m17, pd, m19, m20, mt, an, m23⟩⟩ := h
  obtain ⟨w, c, s, k, sm, lg, p, t, b, G, hS, hq, hT, hK⟩ := hR
  obtain ⟨hw, rfl, rfl, hu, hs, rfl, rfl, hk, rfl, rfl, hsm, rfl, rfl, hlg, rfl, rfl, hr, ha, hc⟩ := hS
  obtain ⟨r, xb', xf', q', t', b', sl', st', ml', mt', e1, e2, g, hT'⟩ := e_type hT hq a0
  exact ⟨r, _, _, C, by omega, s_X5_type e1, s_X6_type e2, w, c, s, k, sm, lg, p, t', b', G, ⟨hw, rfl, rfl, hu, hs, rfl, rfl, hk, rfl, rfl, hsm, rfl, rfl, hlg, rfl, rfl, hr, ha, hc⟩, g, hT', hK⟩
theorem c_clear {E : EN} {C : Nat} {h : Hp} (hb : C + 31 < 1000000000) (hR : REL C h) : ∃ r h1 h2 C', C' ≤ C + 31 ∧ Sem E yX5_clear cX5_clear 2 (some .int) 1 [.ref (eA E 0)] h (some (.int r), h1) ∧ Sem E yX6_clear cX6_clear 2 (some .int) 1 [.ref (eA E 26)] h1 (some (.int r), h2) ∧ REL C' h2 := by
  obtain ⟨⟨xm, xb, xf⟩, ⟨rc, ch, F⟩, ⟨ls, lp, lsm, llg, lu, lv, lf, f1, f2, f3⟩, ⟨t1, t2, t3, t4, t5, t6, t7, t8, t9, t10⟩, ⟨kc, km, sn'⟩, ⟨sl, s2, s3, s4, st, s6, s7⟩, ⟨pl, ps⟩, ⟨mu, mw, ms, m4, m5, mp, ml, mh, m9, m10, m11, tl, al, m14, U, q, m17, pd, m19, m20, mt, an, m23⟩⟩ := h
  obtain ⟨w, c, s, k, sm, lg, p, t, b, G, hS, hq, hT, hK⟩ := hR
  obtain ⟨hw, rfl, rfl, hu, hs, rfl, rfl, hk, rfl, rfl, hsm, rfl, rfl, hlg, rfl, rfl, hr, ha, hc⟩ := hS
  obtain ⟨e1, e2, hT'⟩ := hT.clear
  exact ⟨_, _, _, C, by omega, s_X5_clear e1, s_X6_clear e2, w, c, s, k, sm, lg, p, 0, b, G, ⟨hw, rfl, rfl, hu, hs, rfl, rfl, hk, rfl, rfl, hsm, rfl, rfl, hlg, rfl, rfl, hr, ha, hc⟩, hq, hT', hK⟩
theorem c_says {E : EN} {C : Nat} {h : Hp} (hb : C + 31 < 1000000000) (hR : REL C h) : ∃ r h1 h2 C', C' ≤ C + 31 ∧ Sem E yX5_says cX5_says 3 (some .int) 9 [.ref (eA E 0)] h (some (.int r), h1) ∧ Sem E yX6_says cX6_says 1 (some .int) 10 [.ref (eA E 26)] h1 (some (.int r), h2) ∧ REL C' h2 := by
  obtain ⟨⟨xm, xb, xf⟩, ⟨rc, ch, F⟩, ⟨ls, lp, lsm, llg, lu, lv, lf, f1, f2, f3⟩, ⟨t1, t2, t3, t4, t5, t6, t7, t8, t9, t10⟩, ⟨kc, km, sn'⟩, ⟨sl, s2, s3, s4, st, s6, s7⟩, ⟨pl, ps⟩, ⟨mu, mw, ms, m4, m5, mp, ml, mh, m9, m10, m11, tl, al, m14, U, q, m17, pd, m19, m20, mt, an, m23⟩⟩ := h
  obtain ⟨w, c, s, k, sm, lg, p, t, b, G, hS, hq, hT, hK⟩ := hR
  obtain ⟨r, w', c', s', k', sm', lg', p', d, G', xm', rc', ls', lp', lsm', llg', lu', lv', lf', f1', f2', f3', z1, z2, z3, vb', ar', pl', ps', F', mu', mw', ms', one', two', mp', ml', mh', y1, y2, y3, al', pla, U', lm2, pd', pn', an', nu', e1, e2, hS', hd, h0⟩ := e_says hT hS lu lv m4 m5 m9 m10 m11 lf s6 s7 m17 m19 m23
  exact ⟨r, _, _, C + d, by omega, s_X5_says e1, s_X6_says e2, w', c', s', k', sm', lg', p', t, b, G', hS', hq, hT, hK.stp hb (by omega) h0⟩
theorem c_answer {E : EN} {C : Nat} {h : Hp} (hb : C + 31 < 1000000000) (hR : REL C h) (a0 : Int32) : ∃ r h1 h2 C', C' ≤ C + 31 ∧ Sem E yX5_answer cX5_answer 2 (some .int) 2 [.ref (eA E 0), .int a0] h (some (.int r), h1) ∧ Sem E yX6_answer cX6_answer 2 (some .int) 2 [.ref (eA E 26), .int a0] h1 (some (.int r), h2) ∧ REL C' h2 := by
  obtain ⟨⟨xm, xb, xf⟩, ⟨rc, ch, F⟩, ⟨ls, lp, lsm, llg, lu, lv, lf, f1, f2, f3⟩, ⟨t1, t2, t3, t4, t5, t6, t7, t8, t9, t10⟩, ⟨kc, km, sn'⟩, ⟨sl, s2, s3, s4, st, s6, s7⟩, ⟨pl, ps⟩, ⟨mu, mw, ms, m4, m5, mp, ml, mh, m9, m10, m11, tl, al, m14, U, q, m17, pd, m19, m20, mt, an, m23⟩⟩ := h
  obtain ⟨w, c, s, k, sm, lg, p, t, b, G, hS, hq, hT, hK⟩ := hR
  obtain ⟨hw, rfl, rfl, hu, hs, rfl, rfl, hk, rfl, rfl, hsm, rfl, rfl, hlg, rfl, rfl, hr, ha, hc⟩ := hS
  obtain ⟨r, xb', xf', q', e1, e2, g⟩ := e_answer ha hq a0
  exact ⟨r, _, _, C, by omega, s_X5_answer e1, s_X6_answer e2, w, c, s, k, sm, lg, p, t, b, G, ⟨hw, rfl, rfl, hu, hs, rfl, rfl, hk, rfl, rfl, hsm, rfl, rfl, hlg, rfl, rfl, hr, ha, hc⟩, g, hT, hK⟩
theorem c_told {E : EN} {C : Nat} {h : Hp} (hb : C + 31 < 1000000000) (hR : REL C h) (a0 : Int32) : ∃ r h1 h2 C', C' ≤ C + 31 ∧ Sem E yX5_told cX5_told 2 (some .int) 2 [.ref (eA E 0), .int a0] h (some (.int r), h1) ∧ Sem E yX6_told cX6_told 2 (some .int) 2 [.ref (eA E 26), .int a0] h1 (some (.int r), h2) ∧ REL C' h2 := by
  obtain ⟨⟨xm, xb, xf⟩, ⟨rc, ch, F⟩, ⟨ls, lp, lsm, llg, lu, lv, lf, f1, f2, f3⟩, ⟨t1, t2, t3, t4, t5, t6, t7, t8, t9, t10⟩, ⟨kc, km, sn'⟩, ⟨sl, s2, s3, s4, st, s6, s7⟩, ⟨pl, ps⟩, ⟨mu, mw, ms, m4, m5, mp, ml, mh, m9, m10, m11, tl, al, m14, U, q, m17, pd, m19, m20, mt, an, m23⟩⟩ := h
  obtain ⟨w, c, s, k, sm, lg, p, t, b, G, hS, hq, hT, hK⟩ := hR
  obtain ⟨hw, rfl, rfl, hu, hs, rfl, rfl, hk, rfl, rfl, hsm, rfl, rfl, hlg, rfl, rfl, hr, ha, hc⟩ := hS
  obtain ⟨hc9, rfl, rfl, hu9⟩ := hu
  obtain ⟨ht9, rfl, rfl, hT9⟩ := hT
  obtain ⟨hp9, rfl, rfl, ha9⟩ := ha
  obtain ⟨r, xb', xf', q', e1, e2, g⟩ := e_told (w := w) (c := c) (t := t) (p := p) hq a0
  exact ⟨r, _, _, C, by omega, s_X5_told e1, s_X6_told e2, w, c, s, k, sm, lg, p, t, b, G, ⟨hw, rfl, rfl, ⟨hc9, rfl, rfl, hu9⟩, hs, rfl, rfl, hk, rfl, rfl, hsm, rfl, rfl, hlg, rfl, rfl, hr, ⟨hp9, rfl, rfl, ha9⟩, hc⟩, g, ⟨ht9, rfl, rfl, hT9⟩, hK⟩
theorem c_digest {E : EN} {C : Nat} {h : Hp} (hb : C + 31 < 1000000000) (hR : REL C h) : ∃ r h1 h2 C', C' ≤ C + 31 ∧ Sem E yX5_digest cX5_digest 5 (some .long) 3 [.ref (eA E 0)] h (some (.long r), h1) ∧ Sem E yX6_digest cX6_digest 5 (some .long) 2 [.ref (eA E 26)] h1 (some (.long r), h2) ∧ REL C' h2 := by
  obtain ⟨⟨xm, xb, xf⟩, ⟨rc, ch, F⟩, ⟨ls, lp, lsm, llg, lu, lv, lf, f1, f2, f3⟩, ⟨t1, t2, t3, t4, t5, t6, t7, t8, t9, t10⟩, ⟨kc, km, sn'⟩, ⟨sl, s2, s3, s4, st, s6, s7⟩, ⟨pl, ps⟩, ⟨mu, mw, ms, m4, m5, mp, ml, mh, m9, m10, m11, tl, al, m14, U, q, m17, pd, m19, m20, mt, an, m23⟩⟩ := h
  obtain ⟨w, c, s, k, sm, lg, p, t, b, G, hS, hq, hT, hK⟩ := hR
  obtain ⟨hw, rfl, rfl, hu, hs, rfl, rfl, hk, rfl, rfl, hsm, rfl, rfl, hlg, rfl, rfl, hr, ha, hc⟩ := hS
  obtain ⟨ht9, rfl, rfl, hT9⟩ := hT
  obtain ⟨r, e1, e2⟩ := e_digest (w := w) (t := t) (x1 := nI k) (x2 := nI sm) (x3 := nI lg) hu hs hq ha
  exact ⟨r, _, _, C, by omega, s_X5_digest e1, s_X6_digest e2, w, c, s, k, sm, lg, p, t, b, G, ⟨hw, rfl, rfl, hu, hs, rfl, rfl, hk, rfl, rfl, hsm, rfl, rfl, hlg, rfl, rfl, hr, ha, hc⟩, hq, ⟨ht9, rfl, rfl, hT9⟩, hK⟩
