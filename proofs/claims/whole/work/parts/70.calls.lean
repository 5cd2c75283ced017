/-! each call: both answer alike -/
theorem c_method {E : EN} {C : Nat} {h : Hp} (hR : REL C h) (a : Int32) : ∃ r h1 h2, Sem E yX5_method cX5_method 2 (some .int) 2 [.ref (eA E 0), .int a] h (some (.int r), h1) ∧ Sem E yX6_method cX6_method 3 (some .int) 2 [.ref (eA E 26), .int a] h1 (some (.int r), h2) ∧ REL C h2 := by
  obtain ⟨⟨xm, xb, xf⟩, ⟨rc, ch, F⟩, ⟨ls, lp, lsm, llg, lu, lv, lf, f1, f2, f3⟩, ⟨t1, t2, t3, t4, t5, t6, t7, t8, t9, t10⟩, ⟨kc, km, sn'⟩, ⟨sl, s2, s3, s4, st, s6, s7⟩, ⟨pl, ps⟩, ⟨mu, mw, ms, m4, m5, mp, ml, mh, m9, m10, m11, tl, al, m14, U, q, m17, pd, m19, m20, mt, an, m23⟩⟩ := h
  obtain ⟨w, c, s, k, sm, lg, p, t, b, G, hS, hq, hT, hK⟩ := hR
  obtain ⟨a1, rfl, rfl, a4⟩ := hS
  obtain ⟨r, w', xb', xf', q', e1, e2, g1, g2⟩ := e_method a1 hq a
  exact ⟨r, _, _, s_X5_method e1, s_X6_method e2, w', c, s, k, sm, lg, p, t, b, G, ⟨g1, rfl, rfl, a4⟩, g2, hT, hK⟩
