/-! unit, empties, draw, walk -/
theorem e_unitX {c : Nat} {G : Nat → Nat → Nat} {rc mn xb xf : Int32} {F : Nat → Nat → Int32} {U q : Nat → Int32} (hu : UR c G rc F mn U) (hq : RQ xb xf q) (ch a0 a1 a2 a3 a4 : Int32) :
    ∃ r xb' xf' q' d c' rc' mn' F' U' G', f_X5_unit xb xf rc ch F a0 a1 a2 a3 a4 = some (r, xb', xf', rc', ch + nI d, F') ∧ f_X6_unit mn U q a0 a1 a2 a3 a4 = some (r, mn', U', q') ∧ RQ xb' xf' q' ∧ UR c' G' rc' F' mn' U' ∧ d ≤ 1 ∧ (d = 0 → rc' = rc ∧ F' = F ∧ c' = c ∧ G' = G) := by
  have hu0 := hu
  obtain ⟨hc, rfl, rfl, hv⟩ := hu
  have c0 : ch + nI 0 = ch := by rw [← l0]; exact Int32.add_zero ch
  have f0 : f_X3_fits 0 a0 = f_X3_fits (nI 0) a0 := rfl
  have f1 : f_X3_fits 1 a1 = f_X3_fits (nI 1) a1 := rfl
  have f2 : f_X3_fits 2 a2 = f_X3_fits (nI 2) a2 := rfl
  have f3 : f_X3_fits 3 a3 = f_X3_fits (nI 3) a3 := rfl
  have f4 : f_X3_fits 4 a4 = f_X3_fits (nI 4) a4 := rfl
  have m0 : f_X6_mostOf 0 = some (nI (mx 0)) := rfl
  have m1 : f_X6_mostOf 1 = some (nI (mx 1)) := rfl
  have m2 : f_X6_mostOf 2 = some (nI (mx 2)) := rfl
  have m3 : f_X6_mostOf 3 = some (nI (mx 3)) := rfl
  have m4 : f_X6_mostOf 4 = some (nI (mx 4)) := rfl
  have bad : f_X5_unit xb xf (nI c) ch F a0 a1 a2 a3 a4 = some (-2, xb + 1, xf, nI c, ch, F) → f_X6_unit (nI c) U q a0 a1 a2 a3 a4 = some (-2, nI c, U, upd q 0 (q 0 + 1)) →
      ∃ r xb' xf' q' d c' rc' mn' F' U' G', f_X5_unit xb xf (nI c) ch F a0 a1 a2 a3 a4 = some (r, xb', xf', rc', ch + nI d, F') ∧ f_X6_unit (nI c) U q a0 a1 a2 a3 a4 = some (r, mn', U', q') ∧ RQ xb' xf' q' ∧ UR c' G' rc' F' mn' U' ∧ d ≤ 1 ∧ (d = 0 → rc' = (nI c) ∧ F' = F ∧ c' = c ∧ G' = G) :=
    fun h1 h2 => ⟨-2, xb + 1, xf, _, 0, c, nI c, nI c, F, U, G, by rw [h1, c0], h2, hq.bad, hu0, by omega, fun _ => ⟨rfl, rfl, rfl, rfl⟩⟩
  rcases e_fits (w := 0) (by omega) a0 with ⟨g1, g2⟩ | ⟨x0, hx0, rfl, g1, g2⟩
  · refine bad ?_ ?_
    · unfold f_X5_unit; rw [f0, g1]; rfl
    · unfold f_X6_unit; rw [m0, bs, g2]; rfl
  rcases e_fits (w := 1) (by omega) a1 with ⟨k1, k2⟩ | ⟨x1, hx1, rfl, k1, k2⟩
  · refine bad ?_ ?_
    · unfold f_X5_unit; rw [f0, g1, bs, if_neg (by decide), f1, k1]; rfl
    · unfold f_X6_unit; rw [m0, bs, g2, bs, if_neg (by decide), m1, bs, k2]; rfl
  rcases e_fits (w := 2) (by omega) a2 with ⟨n1, n2⟩ | ⟨x2, hx2, rfl, n1, n2⟩
  · refine bad ?_ ?_
    · unfold f_X5_unit; rw [f0, g1, bs, if_neg (by decide), f1, k1, bs, if_neg (by decide), f2, n1]; rfl
    · unfold f_X6_unit; rw [m0, bs, g2, bs, if_neg (by decide), m1, bs, k2, bs, if_neg (by decide), m2, bs, n2]; rfl
  rcases e_fits (w := 3) (by omega) a3 with ⟨p1, p2⟩ | ⟨x3, hx3, rfl, p1, p2⟩
  · refine bad ?_ ?_
    · unfold f_X5_unit; rw [f0, g1, bs, if_neg (by decide), f1, k1, bs, if_neg (by decide), f2, n1, bs, if_neg (by decide), f3, p1]; rfl
    · unfold f_X6_unit; rw [m0, bs, g2, bs, if_neg (by decide), m1, bs, k2, bs, if_neg (by decide), m2, bs, n2, bs, if_neg (by decide), m3, bs, p2]; rfl
  rcases e_fits (w := 4) (by omega) a4 with ⟨r1, r2⟩ | ⟨x4, hx4, rfl, r1, r2⟩
  · refine bad ?_ ?_
    · unfold f_X5_unit; rw [f0, g1, bs, if_neg (by decide), f1, k1, bs, if_neg (by decide), f2, n1, bs, if_neg (by decide), f3, p1, bs, if_neg (by decide), f4, r1]; rfl
    · unfold f_X6_unit; rw [m0, bs, g2, bs, if_neg (by decide), m1, bs, k2, bs, if_neg (by decide), m2, bs, n2, bs, if_neg (by decide), m3, bs, p2, bs, if_neg (by decide), m4, bs, r2]; rfl
  have e5 : f_X5_unit xb xf (nI c) ch F (nI x0) (nI x1) (nI x2) (nI x3) (nI x4) = if nI c < 12 then Option.bind (f_X3_append (nI c) ch F (nI x0) (nI x1) (nI x2) (nI x3) (nI x4)) (fun (q14 : Int32 × Int32 × Int32 × (Nat → Nat → Int32)) => some (q14.1, xb, xf, q14.2.1, q14.2.2.1, q14.2.2.2)) else some (-4, xb, xf + 1, nI c, ch, F) := by
    unfold f_X5_unit
    rw [f0, g1, bs, if_neg (by decide), f1, k1, bs, if_neg (by decide), f2, n1, bs, if_neg (by decide), f3, p1, bs, if_neg (by decide), f4, r1, bs, if_neg (by decide), bs, if_neg (by decide), e_ref4]
    rfl
  have e6 : f_X6_unit (nI c) U q (nI x0) (nI x1) (nI x2) (nI x3) (nI x4) = if nI c = 12 then some (-4, nI c, U, upd q 2 (q 2 + 1)) else Option.bind (f_X6_lays (nI c) U (nI x0) (nI x1) (nI x2) (nI x3) (nI x4)) (fun (q21 : Int32 × (Nat → Int32)) => some ((q21.1 - 1), q21.1, q21.2, q)) := by
    unfold f_X6_unit
    rw [m0, bs, g2, bs, if_neg (by decide), m1, bs, k2, bs, if_neg (by decide), m2, bs, n2, bs, if_neg (by decide), m3, bs, p2, bs, if_neg (by decide), m4, bs, r2, bs, if_neg (by decide), e_full]
    rfl
  rw [e5, e6]
  by_cases g : c < 12
  · rw [if_pos (by rw [l12, i_lt (by omega) (by omega)]; omega), if_neg (by rw [l12, i_eq (by omega) (by omega)]; omega)]
    obtain ⟨F', U', G', h1, h2, h3, _, _⟩ := hu0.add g ch hx0 hx1 hx2 hx3 hx4
    refine ⟨nI c, xb, xf, q, 1, c + 1, nI (c + 1), nI (c + 1), F', U', G', ?_, ?_, hq, h3, by omega, fun e => by omega⟩
    · rw [h1, bs, l1]
    · rw [h2, bs, l1, i_sub (by omega)]; rfl
  · rw [if_neg (by rw [l12, i_lt (by omega) (by omega)]; omega), if_pos (by rw [l12, i_eq (by omega) (by omega)]; omega)]
    exact ⟨-4, xb, xf + 1, _, 0, c, nI c, nI c, F, U, G, by rw [c0], rfl, hq.full, hu0, by omega, fun _ => ⟨rfl, rfl, rfl, rfl⟩⟩
theorem UR.none {c : Nat} {G : Nat → Nat → Nat} {rc mn : Int32} {F : Nat → Nat → Int32} {U : Nat → Int32} (hu : UR c G rc F mn U) : UR 0 G 0 F 0 U := ⟨by omega, rfl, rfl, fun u h => by omega⟩
theorem d_val (x : Int64) {m : Nat} (h0 : 0 < m) (h1 : m ≤ 100) (hx : 0 ≤ x.toInt) : ∃ v, v < m ∧ (x - x / lN m * lN m).toInt32 = nI v := by
  have e : (lN m).toInt = (m : Int) := l_ti (by omega)
  have b1 := Int.tmod_lt_of_pos x.toInt (b := (m : Int)) (by omega)
  have b2 := Int.tmod_nonneg (m : Int) hx
  have hr : (x - x / lN m * lN m).toInt = x.toInt.tmod m := by
    rw [Int64.toInt_sub, Int64.toInt_mul, Int64.toInt_div, e]
    have q : x.toInt - x.toInt.tdiv m * m = x.toInt.tmod m := by
      have := Int.tmod_add_mul_tdiv x.toInt m
      rw [Int.mul_comm (x.toInt.tdiv m)]
      omega
    rw [Int.bmod_mul_bmod, Int.sub_bmod_bmod, q]
    exact Int.bmod_eq_of_le (by omega) (by omega)
  refine ⟨(x.toInt.tmod m).toNat, by omega, ?_⟩
  apply Int32.toInt_inj.mp
  rw [Int64.toInt_toInt32, hr, i_ti (by omega), Int.bmod_eq_of_le (by omega) (by omega)]
  omega
theorem x_div {x : Int64} {k : Nat} (hk : 0 < k) (hk2 : k < 2147483648) (hx : 0 ≤ x.toInt) : 0 ≤ (x / lN k).toInt := by
  have e : (lN k).toInt = (k : Int) := l_ti (by omega)
  have hr := fb_rngL x
  rw [Int64.toInt_div, e]
  have h1 : 0 ≤ x.toInt.tdiv k := Int.tdiv_nonneg hx (by omega)
  have h2 : x.toInt.tdiv k ≤ x.toInt := by
    rw [Int.tdiv_eq_ediv_of_nonneg hx]
    exact Int.ediv_le_self _ hx
  rw [fb_bmodL (by omega) (by omega)]
  exact h1
theorem x_next {x y : Int64} (hx : 0 ≤ x.toInt ∧ x.toInt < 2147483648) (h : f_X5_nextX x = some y) : 0 ≤ y.toInt ∧ y.toInt < 2147483648 := by
  unfold f_X5_nextX at h
  have h := Option.some.inj h
  subst h
  have e1 : (1103515245 : Int64).toInt = 1103515245 := by decide
  have e2 : (12345 : Int64).toInt = 12345 := by decide
  have e3 : (2147483648 : Int64).toInt = 2147483648 := by decide
  have p1 : (x * 1103515245).toInt = x.toInt * 1103515245 := by
    rw [fb_mulL, e1]
    · rw [e1]; omega
    · rw [e1]; omega
  have p2 : (x * 1103515245 + 12345).toInt = x.toInt * 1103515245 + 12345 := by
    rw [fb_addL, p1, e2]
    · rw [p1, e2]; omega
    · rw [p1, e2]; omega
  have b1 := Int.tmod_lt_of_pos (x.toInt * 1103515245 + 12345) (b := 2147483648) (by omega)
  have b2 := Int.tmod_nonneg (2147483648 : Int) (show 0 ≤ x.toInt * 1103515245 + 12345 by omega)
  have q : (x.toInt * 1103515245 + 12345) - (x.toInt * 1103515245 + 12345).tdiv 2147483648 * 2147483648 = (x.toInt * 1103515245 + 12345).tmod 2147483648 := by
    have := Int.tmod_add_mul_tdiv (x.toInt * 1103515245 + 12345) 2147483648
    rw [Int.mul_comm ((x.toInt * 1103515245 + 12345).tdiv 2147483648)]
    omega
  have hr : (x * 1103515245 + 12345 - (x * 1103515245 + 12345) / 2147483648 * 2147483648).toInt = (x.toInt * 1103515245 + 12345).tmod 2147483648 := by
    rw [Int64.toInt_sub, Int64.toInt_mul, Int64.toInt_div, e3, p2, Int.bmod_mul_bmod, Int.sub_bmod_bmod, q]
    exact fb_bmodL (by omega) (by omega)
  rw [hr]
  omega
