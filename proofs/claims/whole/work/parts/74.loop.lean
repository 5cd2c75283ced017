/-! the law's loop -/
theorem law_in {i L : Nat} (hL : L ≤ 3072) (hi : i ≤ L) (c : ¬ Int32.ofNat L - nI 6 < nI i) : i + 6 ≤ L := by
  rcases Nat.lt_or_ge L 6 with q | q
  · have h9 : ∀ a, a < 6 → ∀ d, d < 6 → Int32.ofNat a - nI 6 < nI d := by decide
    exact absurd (h9 L q i (by omega)) c
  · have e : Int32.ofNat L - nI 6 = nI (L - 6) := by
      have e2 : nI (L - 6) + nI 6 = Int32.ofNat L := by
        rw [nI_add, show L - 6 + 6 = L by omega]
        rfl
      rw [← e2, Int32.add_sub_cancel]
    rw [e, i_lt (by omega) (by omega)] at c
    omega
theorem law_loop {E : EN} {b L : Nat} {xs : Nat → Int32} (hL : L ≤ 3072) : ∀ (n i C : Nat) (h : Hp), i ≤ L → L + 1 ≤ i + n → C ≤ 6 * i → REL C h → Lw E b L xs 18 (lvc E b i) [] h := by
  intro n
  induction n with
  | zero =>
    intro i C h h1 h2
    exact absurd h2 (by omega)
  | succ n ih =>
    intro i C h hi hn hC hR
    refine l_iload_n dL_law_18 3 rfl ?_
    refine l_aload_n dL_law_19 0 rfl ?_
    refine l_slen dL_law_20 ?_
    refine l_bipush (v := nI 6) dL_law_21 (by decide) ?_
    refine l_isub dL_law_23 ?_
    refine l_icmp_gt (tgt := 860) dL_law_24 (by decide) (fun _ => ?_) (fun c => ?_)
    · refine l_iconst (v := 1) dL_law_860 (by decide) ?_
      exact l_ret dL_law_861
    · have hi6 := law_in hL hi c
      have kk : ∀ (C' : Nat) (h2 : Hp), C' ≤ C + 31 → REL C' h2 → Lw E b L xs 854 (lvc E b i) [] h2 := by
        intro C' h2 hC' hR'
        refine l_iinc (v := nI (i + 6)) (lv2 := [(3, .int (nI (i + 6))), (0, .ref b), (1, .ref (eA E 0)), (2, .ref (eA E 26))]) dL_law_854 3 rfl (show nI i + nI 6 = nI (i + 6) from nI_add i 6) (by decide) rfl ?_
        refine l_goto (tgt := 18) dL_law_857 (by decide) ?_
        exact Lw.sub [1, 2, 3, 0] rfl (ih (i + 6) C' h2 (by omega) (by omega) (by omega) hR')
      have hb : C + 31 < 1000000000 := by omega
      refine l_aload_n dL_law_27 0 rfl ?_
      refine l_iload_n dL_law_28 3 rfl ?_
      refine l_sld dL_law_29 (vp_in_nI (show i < L by omega) (by omega)) ?_
      refine l_bipush (v := 31) dL_law_30 (by decide) ?_
      refine l_iand dL_law_32 ?_
      generalize xs (nI i).toNatClampNeg &&& 31 = x
      by_cases g0 : x = 0
      · subst g0
        exact l_tabIn (off := 119) (tgt := 152) dL_law_33 (by decide) (by decide) rfl (by decide) (k_unit hL (by omega) hb hR kk)
      by_cases g1 : x = 1
      · subst g1
        exact l_tabIn (off := 182) (tgt := 215) dL_law_33 (by decide) (by decide) rfl (by decide) (k_sets hL (by omega) hb hR kk)
      by_cases g2 : x = 2
      · subst g2
        exact l_tabIn (off := 225) (tgt := 258) dL_law_33 (by decide) (by decide) rfl (by decide) (k_empties hL hb hR kk)
      by_cases g3 : x = 3
      · subst g3
        exact l_tabIn (off := 238) (tgt := 271) dL_law_33 (by decide) (by decide) rfl (by decide) (k_draw hL (by omega) hb hR kk)
      by_cases g4 : x = 4
      · subst g4
        exact l_tabIn (off := 271) (tgt := 304) dL_law_33 (by decide) (by decide) rfl (by decide) (k_of hL (by omega) hb hR kk)
      by_cases g5 : x = 5
      · subst g5
        exact l_tabIn (off := 304) (tgt := 337) dL_law_33 (by decide) (by decide) rfl (by decide) (k_all hL (by omega) hb hR kk)
      by_cases g6 : x = 6
      · subst g6
        exact l_tabIn (off := 327) (tgt := 360) dL_law_33 (by decide) (by decide) rfl (by decide) (k_method hL (by omega) hb hR kk)
      by_cases g7 : x = 7
      · subst g7
        exact l_tabIn (off := 350) (tgt := 383) dL_law_33 (by decide) (by decide) rfl (by decide) (k_walk hL (by omega) hb hR kk)
      by_cases g8 : x = 8
      · subst g8
        exact l_tabIn (off := 373) (tgt := 406) dL_law_33 (by decide) (by decide) rfl (by decide) (k_was hL (by omega) hb hR kk)
      by_cases g9 : x = 9
      · subst g9
        exact l_tabIn (off := 396) (tgt := 429) dL_law_33 (by decide) (by decide) rfl (by decide) (k_play hL (by omega) hb hR kk)
      by_cases g10 : x = 10
      · subst g10
        exact l_tabIn (off := 429) (tgt := 462) dL_law_33 (by decide) (by decide) rfl (by decide) (k_counted hL (by omega) hb hR kk)
      by_cases g11 : x = 11
      · subst g11
        exact l_tabIn (off := 453) (tgt := 486) dL_law_33 (by decide) (by decide) rfl (by decide) (k_inside hL (by omega) hb hR kk)
      by_cases g12 : x = 12
      · subst g12
        exact l_tabIn (off := 476) (tgt := 509) dL_law_33 (by decide) (by decide) rfl (by decide) (k_spread hL hb hR kk)
      by_cases g13 : x = 13
      · subst g13
        exact l_tabIn (off := 489) (tgt := 522) dL_law_33 (by decide) (by decide) rfl (by decide) (k_often hL (by omega) hb hR kk)
      by_cases g14 : x = 14
      · subst g14
        exact l_tabIn (off := 532) (tgt := 565) dL_law_33 (by decide) (by decide) rfl (by decide) (k_both hL (by omega) hb hR kk)
      by_cases g15 : x = 15
      · subst g15
        exact l_tabIn (off := 585) (tgt := 618) dL_law_33 (by decide) (by decide) rfl (by decide) (k_best hL (by omega) hb hR kk)
      by_cases g16 : x = 16
      · subst g16
        exact l_tabIn (off := 629) (tgt := 662) dL_law_33 (by decide) (by decide) rfl (by decide) (k_many hL hb hR kk)
      by_cases g17 : x = 17
      · subst g17
        exact l_tabIn (off := 642) (tgt := 675) dL_law_33 (by decide) (by decide) rfl (by decide) (k_sizes hL (by omega) hb hR kk)
      by_cases g18 : x = 18
      · subst g18
        exact l_tabIn (off := 665) (tgt := 698) dL_law_33 (by decide) (by decide) rfl (by decide) (k_can hL (by omega) hb hR kk)
      by_cases g19 : x = 19
      · subst g19
        exact l_tabIn (off := 698) (tgt := 731) dL_law_33 (by decide) (by decide) rfl (by decide) (k_least hL hb hR kk)
      by_cases g20 : x = 20
      · subst g20
        exact l_tabIn (off := 712) (tgt := 745) dL_law_33 (by decide) (by decide) rfl (by decide) (k_type hL (by omega) hb hR kk)
      by_cases g21 : x = 21
      · subst g21
        exact l_tabIn (off := 735) (tgt := 768) dL_law_33 (by decide) (by decide) rfl (by decide) (k_clear hL hb hR kk)
      by_cases g22 : x = 22
      · subst g22
        exact l_tabIn (off := 748) (tgt := 781) dL_law_33 (by decide) (by decide) rfl (by decide) (k_says hL hb hR kk)
      by_cases g23 : x = 23
      · subst g23
        exact l_tabIn (off := 761) (tgt := 794) dL_law_33 (by decide) (by decide) rfl (by decide) (k_answer hL (by omega) hb hR kk)
      by_cases g24 : x = 24
      · subst g24
        exact l_tabIn (off := 784) (tgt := 817) dL_law_33 (by decide) (by decide) rfl (by decide) (k_told hL (by omega) hb hR kk)
      by_cases g25 : x = 25
      · subst g25
        exact l_tabIn (off := 807) (tgt := 840) dL_law_33 (by decide) (by decide) rfl (by decide) (k_digest hL hb hR kk)
      exact l_tabOut (tgt := 854) dL_law_33 (tsw_out0_25 g0 g1 g2 g3 g4 g5 g6 g7 g8 g9 g10 g11 g12 g13 g14 g15 g16 g17 g18 g19 g20 g21 g22 g23 g24 g25) (by decide) (kk C h (by omega) hR)
