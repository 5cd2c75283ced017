/-! Long.bitCount is the count of the bits -/
theorem u_shr {a k : Nat} {s : UInt64} (hs : s.toNat % 64 = k) (ha : a < 18446744073709551616) : ((lN a).toUInt64 >>> s).toInt64 = lN (a / 2 ^ k) := by
  apply Int64.toBitVec_inj.mp
  apply BitVec.eq_of_toNat_eq
  show ((lN a).toUInt64 >>> s).toNat = (BitVec.ofNat 64 (a / 2 ^ k)).toNat
  have e : ((lN a).toUInt64).toNat = a := by
    show (BitVec.ofNat 64 a).toNat = a
    rw [BitVec.toNat_ofNat]
    exact Nat.mod_eq_of_lt ha
  rw [UInt64.toNat_shiftRight, hs, e, BitVec.toNat_ofNat, Nat.shiftRight_eq_div_pow]
  exact (Nat.mod_eq_of_lt (Nat.lt_of_le_of_lt (Nat.div_le_self _ _) ha)).symm
theorem sh1 : ((Int32.toInt64 1).toUInt64 &&& Int64.toUInt64 63).toNat % 64 = 1 := by decide
theorem sh2 : ((Int32.toInt64 2).toUInt64 &&& Int64.toUInt64 63).toNat % 64 = 2 := by decide
theorem sh4 : ((Int32.toInt64 4).toUInt64 &&& Int64.toUInt64 63).toNat % 64 = 4 := by decide
theorem sh8 : ((Int32.toInt64 8).toUInt64 &&& Int64.toUInt64 63).toNat % 64 = 8 := by decide
theorem sh16 : ((Int32.toInt64 16).toUInt64 &&& Int64.toUInt64 63).toNat % 64 = 16 := by decide
theorem sh32 : ((Int32.toInt64 32).toUInt64 &&& Int64.toUInt64 63).toNat % 64 = 32 := by decide
theorem k55 : (6148914691236517205 : Int64) = lN (msk 85 8) := by decide
theorem k33 : (3689348814741910323 : Int64) = lN (msk 51 8) := by decide
theorem k0f : (1085102592571150095 : Int64) = lN (msk 15 8) := by decide
theorem l_nar {x : Nat} (h : x < 9223372036854775808) : (lN x).toInt32 &&& 127 = nI (x % 128) := by
  have e : (lN x).toInt32 = nI x := by
    apply Int32.toInt_inj.mp
    rw [Int64.toInt_toInt32, l_ti h]
    exact (Int32.toInt_ofNat' (n := x)).symm
  have e127 : (127 : Int32) = nI (2 ^ 7 - 1) := by decide
  rw [e, e127, fa_mask]
theorem ct_step (n r : Nat) : fb_ct (fun i => n.testBit i) (8 + r) = fb_ct (fun i => (n % 256).testBit i) 8 + fb_ct (fun i => (n / 256).testBit i) r := by
  rw [fb_ct_split]
  congr 1
  · refine fb_ct_cong (fun i hi => ?_)
    show n.testBit i = (n % 2 ^ 8).testBit i
    rw [Nat.testBit_mod_two_pow, decide_eq_true hi, Bool.true_and]
  · refine fb_ct_cong (fun i hi => ?_)
    show n.testBit (8 + i) = (n / 2 ^ 8).testBit i
    rw [Nat.testBit_div_two_pow, Nat.add_comm]
theorem ct_8 (n : Nat) : fb_ct (fun i => n.testBit i) 64 = pr (n % 256) + pr (n / 256 % 256) + pr (n / 256 / 256 % 256) + pr (n / 256 / 256 / 256 % 256) + pr (n / 256 / 256 / 256 / 256 % 256) + pr (n / 256 / 256 / 256 / 256 / 256 % 256) + pr (n / 256 / 256 / 256 / 256 / 256 / 256 % 256) + pr (n / 256 / 256 / 256 / 256 / 256 / 256 / 256 % 256) := by
  have hm : ∀ x, x % 256 < 256 := fun x => Nat.mod_lt _ (by decide)
  rw [show 64 = 8 + 56 from rfl, ct_step, show 56 = 8 + 48 from rfl, ct_step, show 48 = 8 + 40 from rfl, ct_step, show 40 = 8 + 32 from rfl, ct_step, show 32 = 8 + 24 from rfl, ct_step, show 24 = 8 + 16 from rfl, ct_step, show 16 = 8 + 8 from rfl, ct_step]
  have e8 : ∀ x, fb_ct (fun i => x.testBit i) 8 = fb_ct (fun i => (x % 256).testBit i) 8 := fun x => by
    refine fb_ct_cong (fun i hi => ?_)
    show x.testBit i = (x % 2 ^ 8).testBit i
    rw [Nat.testBit_mod_two_pow, decide_eq_true hi, Bool.true_and]
  rw [e8 (n / 256 / 256 / 256 / 256 / 256 / 256 / 256)]
  rw [← pr_ok _ (hm _), ← pr_ok _ (hm _), ← pr_ok _ (hm _), ← pr_ok _ (hm _), ← pr_ok _ (hm _), ← pr_ok _ (hm _), ← pr_ok _ (hm _), ← pr_ok _ (hm _)]
  simp only [Nat.add_assoc]
theorem pr_le : ∀ b, b < 256 → pr b ≤ 8 := by decide +kernel
theorem e_lbit (n : Nat) (h : n < 18446744073709551616) : f_J13_bitCount_95d88 (lN n) = some (nI (fb_ct (fun i => n.testBit i) 64)) := by
  have hm : ∀ x, x % 256 < 256 := fun x => Nat.mod_lt _ (by decide)
  obtain ⟨g0, g1, g2, g3, g4⟩ := pop_steps (n := n) h
  obtain ⟨x1, e1⟩ : ∃ x, x = n - (n / 2 &&& msk 85 8) := ⟨_, rfl⟩
  rw [← e1] at g1 g2 g3 g4
  obtain ⟨x2, e2⟩ : ∃ x, x = (x1 &&& msk 51 8) + (x1 / 4 &&& msk 51 8) := ⟨_, rfl⟩
  rw [← e2] at g2 g3 g4
  obtain ⟨x3, e3⟩ : ∃ x, x = (x2 + x2 / 16) &&& msk 15 8 := ⟨_, rfl⟩
  rw [← e3] at g4
  obtain ⟨x4, e4⟩ : ∃ x, x = x3 + x3 / 256 := ⟨_, rfl⟩
  obtain ⟨x5, e5⟩ : ∃ x, x = x4 + x4 / 65536 := ⟨_, rfl⟩
  obtain ⟨x6, e6⟩ : ∃ x, x = x5 + x5 / 4294967296 := ⟨_, rfl⟩
  rw [byf8] at g4
  obtain ⟨k1, k2⟩ := pop_end (pr_le _ (hm _)) (pr_le _ (hm _)) (pr_le _ (hm _)) (pr_le _ (hm _)) (pr_le _ (hm _)) (pr_le _ (hm _)) (pr_le _ (hm _)) (pr_le _ (hm _)) g4 e4 e5 e6
  have h5 : x5 ≤ x6 := by rw [e6]; exact Nat.le_add_right _ _
  have h4 : x4 ≤ x5 := by rw [e5]; exact Nat.le_add_right _ _
  have h3 : x3 ≤ x4 := by rw [e4]; exact Nat.le_add_right _ _
  have big : 9223372036854775808 < 18446744073709551616 := by decide
  have y1 : lN n - ((((lN n).toUInt64 >>> ((Int32.toInt64 1).toUInt64 &&& Int64.toUInt64 63)).toInt64) &&& 6148914691236517205) = lN x1 := by
    rw [u_shr sh1 h, k55, fb_andL, lN_sub g0, e1]
  have y2 : (lN x1 &&& 3689348814741910323) + (((lN x1).toUInt64 >>> ((Int32.toInt64 2).toUInt64 &&& Int64.toUInt64 63)).toInt64 &&& 3689348814741910323) = lN x2 := by
    rw [u_shr sh2 g1, k33, fb_andL, fb_andL, lN_add, e2]
  have y3 : (lN x2 + ((lN x2).toUInt64 >>> ((Int32.toInt64 4).toUInt64 &&& Int64.toUInt64 63)).toInt64) &&& 1085102592571150095 = lN x3 := by
    rw [u_shr sh4 g2, k0f, lN_add, fb_andL, e3]
  have y4 : lN x3 + ((lN x3).toUInt64 >>> ((Int32.toInt64 8).toUInt64 &&& Int64.toUInt64 63)).toInt64 = lN x4 := by
    rw [u_shr sh8 (Nat.lt_of_le_of_lt (Nat.le_trans h3 (Nat.le_trans h4 h5)) (Nat.lt_trans k1 big)), lN_add, e4]
  have y5 : lN x4 + ((lN x4).toUInt64 >>> ((Int32.toInt64 16).toUInt64 &&& Int64.toUInt64 63)).toInt64 = lN x5 := by
    rw [u_shr sh16 (Nat.lt_of_le_of_lt (Nat.le_trans h4 h5) (Nat.lt_trans k1 big)), lN_add, e5]
  have y6 : lN x5 + ((lN x5).toUInt64 >>> ((Int32.toInt64 32).toUInt64 &&& Int64.toUInt64 63)).toInt64 = lN x6 := by
    rw [u_shr sh32 (Nat.lt_of_le_of_lt h5 (Nat.lt_trans k1 big)), lN_add, e6]
  unfold f_J13_bitCount_95d88
  rw [y1, y2, y3, y4, y5, y6, l_nar k1, k2, ct_8]
theorem e_lbits (x : Int64) : f_J13_bitCount_95d88 x = some (nI (fb_ct (fun i => x.toBitVec.getLsbD i) 64)) := by
  have e : x = lN x.toBitVec.toNat := by
    apply Int64.toBitVec_inj.mp
    apply BitVec.eq_of_toNat_eq
    show x.toBitVec.toNat = (BitVec.ofNat 64 x.toBitVec.toNat).toNat
    rw [BitVec.toNat_ofNat]
    exact (Nat.mod_eq_of_lt x.toBitVec.isLt).symm
  have h := e_lbit x.toBitVec.toNat x.toBitVec.isLt
  rw [← e] at h
  exact h
theorem e_lp_howMany {f : Nat → Int64} : ∀ n i, i ≤ 64 → 64 < n + i → lp_X1_howMany_4 f n (nI (fb_ct (sb f) (64 * i))) (nI i) = some (nI (fb_ct (sb f) 4096)) := by
  intro n
  induction n with
  | zero => intro i h1 h2; omega
  | succ n ih =>
    intro i h1 h2
    rw [lp_X1_howMany_4]
    by_cases e : i = 64
    · subst e
      rw [if_pos (by rw [l64, i_le (by omega) (by omega)]; omega)]
    · rw [if_neg (by rw [l64, i_le (by omega) (by omega)]; omega), i_in (by omega), if_pos (decide_eq_true (by omega)), i_cl (by omega), e_lbits, bs, nI_add, l1, nI_add]
      have ih' := ih (i + 1) (by omega) (by omega)
      have es : fb_ct (sb f) (64 * i) + fb_ct (fun j => (f i).toBitVec.getLsbD j) 64 = fb_ct (sb f) (64 * (i + 1)) := by
        rw [show 64 * (i + 1) = 64 * i + 64 by omega, fb_ct_split]
        congr 1
        refine fb_ct_cong (fun j hj => ?_)
        unfold sb
        rw [show (64 * i + j) / 64 = i by omega, show (64 * i + j) % 64 = j by omega]
      rw [es]
      exact ih'
theorem e_howMany {f : Nat → Int64} : f_X1_howMany f = some (nI (fb_ct (sb f) 4096)) := by
  unfold f_X1_howMany
  have h := e_lp_howMany (f := f) FU 0 (by omega) (by rw [FU_eq]; omega)
  have h : lp_X1_howMany_4 f FU 0 0 = some (nI (fb_ct (sb f) 4096)) := h
  rw [h, bs]
