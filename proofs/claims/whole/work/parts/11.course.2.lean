-- DuelSamples$Course.pick
def f_X0_pick (R_count : Int32) (R_F : Nat → Nat → Int32) (C_left : Nat → Int32) (a1 : Int32) : Option (Int32 × Int32 × Int32) := Option.bind (f_X0_openFrom C_left 0) (fun (q1 : Int32) => if q1 = (-1) then some (0, q1, (-1)) else Option.bind (f_X0_openFrom C_left (q1 + 1)) (fun (q3 : Int32) => if q3 = (-1) then some (1, q1, q3) else Option.bind (if a1 = 1 then Option.bind (f_X0_byDistance R_count R_F q1 q3 C_left 1) (fun (q10 : Int32) => some (q1, q10)) else if a1 = 2 then Option.bind (f_X0_pickOfStratum R_count R_F q1 q3 C_left) (fun (q11 : Int32 × Int32) => some (q11.1, q11.2)) else if a1 = 3 then Option.bind (f_X0_byDistance R_count R_F q1 q3 C_left (-1)) (fun (q12 : Int32) => some (q1, q12)) else if a1 = 4 then Option.bind (f_X0_pickByChance C_left) (fun (q13 : Int32 × Int32) => some (q13.1, q13.2)) else some (q1, q3)) (fun (q9 : Int32 × Int32) => some (1, q9.1, q9.2))))
theorem hy_X0_pick : yX0_pick.cls ≠ "java/lang/invoke/MethodHandle" ∧ yX0_pick.cls ≠ "java/lang/invoke/VarHandle" ∧ (parseMethodDescriptor yX0_pick.desc).map (fun d => d.parameters.length) = some 2 := by decide +kernel
set_option maxHeartbeats 4000000 in
set_option maxRecDepth 100000 in
theorem s_X0_pick_L {E : EN} {hX : TX} {hT : TC} {hK : TK} {hS : TS} {hP : TP} {hM : TM} {R_count : Int32} {R_changes : Int32} {R_F : Nat → Nat → Int32} {C_sample : Int32} {C_plays : Int32} {C_small : Int32} {C_large : Int32} {C_u : Int32} {C_v : Int32} {C_left : Nat → Int32} {C_firsts : Nat → Int32} {C_seconds : Nat → Int32} {C_winners : Nat → Int32} {a1 : Int32} {qR : Int32 × Int32 × Int32} (hf : f_X0_pick R_count R_F C_left a1 = some qR) : Sem E yX0_pick cX0_pick 3 (some .boolean) 4 [.ref (eA E 8), .ref (eA E 1), .int a1] (hX, (R_count, R_changes, R_F), (C_sample, C_plays, C_small, C_large, C_u, C_v, C_left, C_firsts, C_seconds, C_winners), hT, hK, hS, hP, hM) (some (.int qR.1), (hX, (R_count, R_changes, R_F), (C_sample, C_plays, C_small, C_large, qR.2.1, qR.2.2, C_left, C_firsts, C_seconds, C_winners), hT, hK, hS, hP, hM)) := by
  refine Sem.mk (lv := [(0, .ref (eA E 8)), (1, .ref (eA E 1)), (2, .int a1)]) (by decide) (Nat.le_of_ble_eq_true rfl) rfl ?_
  rw [f_X0_pick] at hf
  refine r_aload_n dX0_pick_0 0 rfl ?_
  refine r_aload_n dX0_pick_1 0 rfl ?_
  refine r_iconst (v := 0) dX0_pick_2 (by decide) ?_
  obtain ⟨q1, hq1, hf⟩ := hf_bind hf
  refine r_callVi (As := [.int 0]) (b := (eA E 8)) (st := [.ref (eA E 8)]) (s_X0_openFrom_L hq1) (by decide) (by decide) wd_361 wd_363 wd_3 wd_70 wd_364 hy_X0_openFrom (Rc.obj 8 ga_L rfl) rfl (Nat.le_of_ble_eq_true rfl) dX0_pick_3 ?_
  refine r_put in_X0 tyX0_ok nmX0 8 ga_L rfl 8 (by decide) wd_128 rfl rfl pfI (Nat.le_of_ble_eq_true rfl) sa_L_u dX0_pick_6 ?_
  refine r_aload_n dX0_pick_9 0 rfl ?_
  refine r_get (v := .int q1) in_X0 8 ga_L rfl 8 (by decide) wd_128 rfl rfl dX0_pick_10 ?_
  refine r_iconst (v := (-1)) dX0_pick_13 (by decide) ?_
  refine r_icmp_ne (tgt := 24) dX0_pick_14 (by decide) (fun c2 => ?_) (fun c2 => ?_)
  · have hf := hf_neg c2 hf
    refine r_aload_n dX0_pick_24 0 rfl ?_
    refine r_aload_n dX0_pick_25 0 rfl ?_
    refine r_aload_n dX0_pick_26 0 rfl ?_
    refine r_get (v := .int q1) in_X0 8 ga_L rfl 8 (by decide) wd_128 rfl rfl dX0_pick_27 ?_
    refine r_iconst (v := 1) dX0_pick_30 (by decide) ?_
    refine r_iadd dX0_pick_31 ?_
    obtain ⟨q3, hq3, hf⟩ := hf_bind hf
    refine r_callVi (As := [.int (q1 + 1)]) (b := (eA E 8)) (st := [.ref (eA E 8)]) (s_X0_openFrom_L hq3) (by decide) (by decide) wd_361 wd_363 wd_3 wd_70 wd_364 hy_X0_openFrom (Rc.obj 8 ga_L rfl) rfl (Nat.le_of_ble_eq_true rfl) dX0_pick_32 ?_
    refine r_put in_X0 tyX0_ok nmX0 8 ga_L rfl 9 (by decide) wd_130 rfl rfl pfI (Nat.le_of_ble_eq_true rfl) sa_L_v dX0_pick_35 ?_
    refine r_aload_n dX0_pick_38 0 rfl ?_
    refine r_get (v := .int q3) in_X0 8 ga_L rfl 9 (by decide) wd_130 rfl rfl dX0_pick_39 ?_
    refine r_iconst (v := (-1)) dX0_pick_42 (by decide) ?_
    refine r_icmp_ne (tgt := 48) dX0_pick_43 (by decide) (fun c4 => ?_) (fun c4 => ?_)
    · have hf := hf_neg c4 hf
      refine r_iload_n dX0_pick_48 2 rfl ?_
      obtain ⟨q9, hq9, hf⟩ := hf_bind hf
      have kj9 : Wa E yX0_pick cX0_pick 3 (some .boolean) 4 (some (.int qR.1), (hX, (R_count, R_changes, R_F), (C_sample, C_plays, C_small, C_large, qR.2.1, qR.2.2, C_left, C_firsts, C_seconds, C_winners), hT, hK, hS, hP, hM)) 121 [] [] (hX, (R_count, R_changes, R_F), (C_sample, C_plays, C_small, C_large, q9.1, q9.2, C_left, C_firsts, C_seconds, C_winners), hT, hK, hS, hP, hM) := by
        refine r_iconst (v := 1) dX0_pick_121 (by decide) ?_
        have e9 := Option.some.inj hf
        subst e9
        exact r_zret rfl (narB (Or.inr rfl)) dX0_pick_122
      have hf := hq9
      by_cases c5 : a1 = 1
      · have hf := hf_pos c5 hf
        refine r_tswi (off := 31) (tgt := 80) dX0_pick_49 c5 (by decide) (by decide) (by decide) (by decide) ?_
        refine r_aload_n dX0_pick_80 0 rfl ?_
        refine r_aload_n dX0_pick_81 0 rfl ?_
        refine r_aload_n dX0_pick_82 1 rfl ?_
        refine r_iconst (v := 1) dX0_pick_83 (by decide) ?_
        obtain ⟨q10, hq10, hf⟩ := hf_bind hf
        refine r_callVi (As := [.ref (eA E 1), .int 1]) (b := (eA E 8)) (st := [.ref (eA E 8)]) (s_X0_byDistance_L hq10) (by decide) (by decide) wd_369 wd_371 wd_5 wd_70 wd_372 hy_X0_byDistance (Rc.obj 8 ga_L rfl) rfl (Nat.le_of_ble_eq_true rfl) dX0_pick_84 ?_
        refine r_put in_X0 tyX0_ok nmX0 8 ga_L rfl 9 (by decide) wd_130 rfl rfl pfI (Nat.le_of_ble_eq_true rfl) sa_L_v dX0_pick_87 ?_
        refine r_goto (tgt := 121) dX0_pick_90 (by decide) ?_
        have e9 := Option.some.inj hf
        subst e9
        exact (Wa.sub [] rfl kj9)
      · have hf := hf_neg c5 hf
        by_cases c6 : a1 = 2
        · have hf := hf_pos c6 hf
          refine r_tswi (off := 44) (tgt := 93) dX0_pick_49 c6 (by decide) (by decide) (by decide) (by decide) ?_
          refine r_aload_n dX0_pick_93 0 rfl ?_
          refine r_aload_n dX0_pick_94 1 rfl ?_
          obtain ⟨q11, hq11, hf⟩ := hf_bind hf
          refine r_callVv (As := [.ref (eA E 1)]) (b := (eA E 8)) (st := []) (s_X0_pickOfStratum_L hq11) (by decide) (by decide) wd_380 wd_382 wd_6 wd_70 wd_383 hy_X0_pickOfStratum (Rc.obj 8 ga_L rfl) rfl (Nat.le_of_ble_eq_true rfl) dX0_pick_95 ?_
          refine r_goto (tgt := 121) dX0_pick_98 (by decide) ?_
          have e9 := Option.some.inj hf
          subst e9
          exact (Wa.sub [] rfl kj9)
        · have hf := hf_neg c6 hf
          by_cases c7 : a1 = 3
          · have hf := hf_pos c7 hf
            refine r_tswi (off := 52) (tgt := 101) dX0_pick_49 c7 (by decide) (by decide) (by decide) (by decide) ?_
            refine r_aload_n dX0_pick_101 0 rfl ?_
            refine r_aload_n dX0_pick_102 0 rfl ?_
            refine r_aload_n dX0_pick_103 1 rfl ?_
            refine r_iconst (v := (-1)) dX0_pick_104 (by decide) ?_
            obtain ⟨q12, hq12, hf⟩ := hf_bind hf
            refine r_callVi (As := [.ref (eA E 1), .int (-1)]) (b := (eA E 8)) (st := [.ref (eA E 8)]) (s_X0_byDistance_L hq12) (by decide) (by decide) wd_369 wd_371 wd_5 wd_70 wd_372 hy_X0_byDistance (Rc.obj 8 ga_L rfl) rfl (Nat.le_of_ble_eq_true rfl) dX0_pick_105 ?_
            refine r_put in_X0 tyX0_ok nmX0 8 ga_L rfl 9 (by decide) wd_130 rfl rfl pfI (Nat.le_of_ble_eq_true rfl) sa_L_v dX0_pick_108 ?_
            refine r_goto (tgt := 121) dX0_pick_111 (by decide) ?_
            have e9 := Option.some.inj hf
            subst e9
            exact (Wa.sub [] rfl kj9)
          · have hf := hf_neg c7 hf
            by_cases c8 : a1 = 4
            · have hf := hf_pos c8 hf
              refine r_tswi (off := 65) (tgt := 114) dX0_pick_49 c8 (by decide) (by decide) (by decide) (by decide) ?_
              refine r_aload_n dX0_pick_114 0 rfl ?_
              obtain ⟨q13, hq13, hf⟩ := hf_bind hf
              refine r_callVv (As := []) (b := (eA E 8)) (st := []) (s_X0_pickByChance_L hq13) (by decide) (by decide) wd_388 wd_390 wd_8 wd_70 wd_391 hy_X0_pickByChance (Rc.obj 8 ga_L rfl) rfl (Nat.le_of_ble_eq_true rfl) dX0_pick_115 ?_
              refine r_goto (tgt := 121) dX0_pick_118 (by decide) ?_
              have e9 := Option.some.inj hf
              subst e9
              exact (Wa.sub [] rfl kj9)
            · have hf := hf_neg c8 hf
              refine r_tswo (tgt := 121) dX0_pick_49 (tsw_out1_4 c5 c6 c7 c8) (by decide) ?_
              have e9 := Option.some.inj hf
              subst e9
              exact (Wa.sub [] rfl kj9)
    · have hf := hf_pos c4 hf
      refine r_iconst (v := 1) dX0_pick_46 (by decide) ?_
      have e9 := Option.some.inj hf
      subst e9
      exact r_zret rfl (narB (Or.inr rfl)) dX0_pick_47
  · have hf := hf_pos c2 hf
    refine r_aload_n dX0_pick_17 0 rfl ?_
    refine r_iconst (v := (-1)) dX0_pick_18 (by decide) ?_
    refine r_put in_X0 tyX0_ok nmX0 8 ga_L rfl 9 (by decide) wd_130 rfl rfl pfI (Nat.le_of_ble_eq_true rfl) sa_L_v dX0_pick_19 ?_
    refine r_iconst (v := 0) dX0_pick_22 (by decide) ?_
    have e9 := Option.some.inj hf
    subst e9
    exact r_zret rfl (narB (Or.inl rfl)) dX0_pick_23
set_option maxHeartbeats 4000000 in
set_option maxRecDepth 100000 in
theorem s_X0_pick_T {E : EN} {hX : TX} {hL : TC} {hK : TK} {hS : TS} {hP : TP} {hM : TM} {R_count : Int32} {R_changes : Int32} {R_F : Nat → Nat → Int32} {C_sample : Int32} {C_plays : Int32} {C_small : Int32} {C_large : Int32} {C_u : Int32} {C_v : Int32} {C_left : Nat → Int32} {C_firsts : Nat → Int32} {C_seconds : Nat → Int32} {C_winners : Nat → Int32} {a1 : Int32} {qR : Int32 × Int32 × Int32} (hf : f_X0_pick R_count R_F C_left a1 = some qR) : Sem E yX0_pick cX0_pick 3 (some .boolean) 4 [.ref (eA E 13), .ref (eA E 1), .int a1] (hX, (R_count, R_changes, R_F), hL, (C_sample, C_plays, C_small, C_large, C_u, C_v, C_left, C_firsts, C_seconds, C_winners), hK, hS, hP, hM) (some (.int qR.1), (hX, (R_count, R_changes, R_F), hL, (C_sample, C_plays, C_small, C_large, qR.2.1, qR.2.2, C_left, C_firsts, C_seconds, C_winners), hK, hS, hP, hM)) := by
  refine Sem.mk (lv := [(0, .ref (eA E 13)), (1, .ref (eA E 1)), (2, .int a1)]) (by decide) (Nat.le_of_ble_eq_true rfl) rfl ?_
  rw [f_X0_pick] at hf
  refine r_aload_n dX0_pick_0 0 rfl ?_
  refine r_aload_n dX0_pick_1 0 rfl ?_
  refine r_iconst (v := 0) dX0_pick_2 (by decide) ?_
  obtain ⟨q1, hq1, hf⟩ := hf_bind hf
  refine r_callVi (As := [.int 0]) (b := (eA E 13)) (st := [.ref (eA E 13)]) (s_X0_openFrom_T hq1) (by decide) (by decide) wd_361 wd_363 wd_3 wd_70 wd_364 hy_X0_openFrom (Rc.obj 13 ga_T rfl) rfl (Nat.le_of_ble_eq_true rfl) dX0_pick_3 ?_
  refine r_put in_X0 tyX0_ok nmX0 13 ga_T rfl 8 (by decide) wd_128 rfl rfl pfI (Nat.le_of_ble_eq_true rfl) sa_T_u dX0_pick_6 ?_
  refine r_aload_n dX0_pick_9 0 rfl ?_
  refine r_get (v := .int q1) in_X0 13 ga_T rfl 8 (by decide) wd_128 rfl rfl dX0_pick_10 ?_
  refine r_iconst (v := (-1)) dX0_pick_13 (by decide) ?_
  refine r_icmp_ne (tgt := 24) dX0_pick_14 (by decide) (fun c2 => ?_) (fun c2 => ?_)
  · have hf := hf_neg c2 hf
    refine r_aload_n dX0_pick_24 0 rfl ?_
    refine r_aload_n dX0_pick_25 0 rfl ?_
    refine r_aload_n dX0_pick_26 0 rfl ?_
    refine r_get (v := .int q1) in_X0 13 ga_T rfl 8 (by decide) wd_128 rfl rfl dX0_pick_27 ?_
    refine r_iconst (v := 1) dX0_pick_30 (by decide) ?_
    refine r_iadd dX0_pick_31 ?_
    obtain ⟨q3, hq3, hf⟩ := hf_bind hf
    refine r_callVi (As := [.int (q1 + 1)]) (b := (eA E 13)) (st := [.ref (eA E 13)]) (s_X0_openFrom_T hq3) (by decide) (by decide) wd_361 wd_363 wd_3 wd_70 wd_364 hy_X0_openFrom (Rc.obj 13 ga_T rfl) rfl (Nat.le_of_ble_eq_true rfl) dX0_pick_32 ?_
    refine r_put in_X0 tyX0_ok nmX0 13 ga_T rfl 9 (by decide) wd_130 rfl rfl pfI (Nat.le_of_ble_eq_true rfl) sa_T_v dX0_pick_35 ?_
    refine r_aload_n dX0_pick_38 0 rfl ?_
    refine r_get (v := .int q3) in_X0 13 ga_T rfl 9 (by decide) wd_130 rfl rfl dX0_pick_39 ?_
    refine r_iconst (v := (-1)) dX0_pick_42 (by decide) ?_
    refine r_icmp_ne (tgt := 48) dX0_pick_43 (by decide) (fun c4 => ?_) (fun c4 => ?_)
    · have hf := hf_neg c4 hf
      refine r_iload_n dX0_pick_48 2 rfl ?_
      obtain ⟨q9, hq9, hf⟩ := hf_bind hf
      have kj9 : Wa E yX0_pick cX0_pick 3 (some .boolean) 4 (some (.int qR.1), (hX, (R_count, R_changes, R_F), hL, (C_sample, C_plays, C_small, C_large, qR.2.1, qR.2.2, C_left, C_firsts, C_seconds, C_winners), hK, hS, hP, hM)) 121 [] [] (hX, (R_count, R_changes, R_F), hL, (C_sample, C_plays, C_small, C_large, q9.1, q9.2, C_left, C_firsts, C_seconds, C_winners), hK, hS, hP, hM) := by
        refine r_iconst (v := 1) dX0_pick_121 (by decide) ?_
        have e9 := Option.some.inj hf
        subst e9
        exact r_zret rfl (narB (Or.inr rfl)) dX0_pick_122
      have hf := hq9
      by_cases c5 : a1 = 1
      · have hf := hf_pos c5 hf
        refine r_tswi (off := 31) (tgt := 80) dX0_pick_49 c5 (by decide) (by decide) (by decide) (by decide) ?_
        refine r_aload_n dX0_pick_80 0 rfl ?_
        refine r_aload_n dX0_pick_81 0 rfl ?_
        refine r_aload_n dX0_pick_82 1 rfl ?_
        refine r_iconst (v := 1) dX0_pick_83 (by decide) ?_
        obtain ⟨q10, hq10, hf⟩ := hf_bind hf
        refine r_callVi (As := [.ref (eA E 1), .int 1]) (b := (eA E 13)) (st := [.ref (eA E 13)]) (s_X0_byDistance_T hq10) (by decide) (by decide) wd_369 wd_371 wd_5 wd_70 wd_372 hy_X0_byDistance (Rc.obj 13 ga_T rfl) rfl (Nat.le_of_ble_eq_true rfl) dX0_pick_84 ?_
        refine r_put in_X0 tyX0_ok nmX0 13 ga_T rfl 9 (by decide) wd_130 rfl rfl pfI (Nat.le_of_ble_eq_true rfl) sa_T_v dX0_pick_87 ?_
        refine r_goto (tgt := 121) dX0_pick_90 (by decide) ?_
        have e9 := Option.some.inj hf
        subst e9
        exact (Wa.sub [] rfl kj9)
      · have hf := hf_neg c5 hf
        by_cases c6 : a1 = 2
        · have hf := hf_pos c6 hf
          refine r_tswi (off := 44) (tgt := 93) dX0_pick_49 c6 (by decide) (by decide) (by decide) (by decide) ?_
          refine r_aload_n dX0_pick_93 0 rfl ?_
          refine r_aload_n dX0_pick_94 1 rfl ?_
          obtain ⟨q11, hq11, hf⟩ := hf_bind hf
          refine r_callVv (As := [.ref (eA E 1)]) (b := (eA E 13)) (st := []) (s_X0_pickOfStratum_T hq11) (by decide) (by decide) wd_380 wd_382 wd_6 wd_70 wd_383 hy_X0_pickOfStratum (Rc.obj 13 ga_T rfl) rfl (Nat.le_of_ble_eq_true rfl) dX0_pick_95 ?_
          refine r_goto (tgt := 121) dX0_pick_98 (by decide) ?_
          have e9 := Option.some.inj hf
          subst e9
          exact (Wa.sub [] rfl kj9)
        · have hf := hf_neg c6 hf
          by_cases c7 : a1 = 3
          · have hf := hf_pos c7 hf
            refine r_tswi (off := 52) (tgt := 101) dX0_pick_49 c7 (by decide) (by decide) (by decide) (by decide) ?_
            refine r_aload_n dX0_pick_101 0 rfl ?_
            refine r_aload_n dX0_pick_102 0 rfl ?_
            refine r_aload_n dX0_pick_103 1 rfl ?_
            refine r_iconst (v := (-1)) dX0_pick_104 (by decide) ?_
            obtain ⟨q12, hq12, hf⟩ := hf_bind hf
            refine r_callVi (As := [.ref (eA E 1), .int (-1)]) (b := (eA E 13)) (st := [.ref (eA E 13)]) (s_X0_byDistance_T hq12) (by decide) (by decide) wd_369 wd_371 wd_5 wd_70 wd_372 hy_X0_byDistance (Rc.obj 13 ga_T rfl) rfl (Nat.le_of_ble_eq_true rfl) dX0_pick_105 ?_
            refine r_put in_X0 tyX0_ok nmX0 13 ga_T rfl 9 (by decide) wd_130 rfl rfl pfI (Nat.le_of_ble_eq_true rfl) sa_T_v dX0_pick_108 ?_
            refine r_goto (tgt := 121) dX0_pick_111 (by decide) ?_
            have e9 := Option.some.inj hf
            subst e9
            exact (Wa.sub [] rfl kj9)
          · have hf := hf_neg c7 hf
            by_cases c8 : a1 = 4
            · have hf := hf_pos c8 hf
              refine r_tswi (off := 65) (tgt := 114) dX0_pick_49 c8 (by decide) (by decide) (by decide) (by decide) ?_
              refine r_aload_n dX0_pick_114 0 rfl ?_
              obtain ⟨q13, hq13, hf⟩ := hf_bind hf
              refine r_callVv (As := []) (b := (eA E 13)) (st := []) (s_X0_pickByChance_T hq13) (by decide) (by decide) wd_388 wd_390 wd_8 wd_70 wd_391 hy_X0_pickByChance (Rc.obj 13 ga_T rfl) rfl (Nat.le_of_ble_eq_true rfl) dX0_pick_115 ?_
              refine r_goto (tgt := 121) dX0_pick_118 (by decide) ?_
              have e9 := Option.some.inj hf
              subst e9
              exact (Wa.sub [] rfl kj9)
            · have hf := hf_neg c8 hf
              refine r_tswo (tgt := 121) dX0_pick_49 (tsw_out1_4 c5 c6 c7 c8) (by decide) ?_
              have e9 := Option.some.inj hf
              subst e9
              exact (Wa.sub [] rfl kj9)
    · have hf := hf_pos c4 hf
      refine r_iconst (v := 1) dX0_pick_46 (by decide) ?_
      have e9 := Option.some.inj hf
      subst e9
      exact r_zret rfl (narB (Or.inr rfl)) dX0_pick_47
  · have hf := hf_pos c2 hf
    refine r_aload_n dX0_pick_17 0 rfl ?_
    refine r_iconst (v := (-1)) dX0_pick_18 (by decide) ?_
    refine r_put in_X0 tyX0_ok nmX0 13 ga_T rfl 9 (by decide) wd_130 rfl rfl pfI (Nat.le_of_ble_eq_true rfl) sa_T_v dX0_pick_19 ?_
    refine r_iconst (v := 0) dX0_pick_22 (by decide) ?_
    have e9 := Option.some.inj hf
    subst e9
    exact r_zret rfl (narB (Or.inl rfl)) dX0_pick_23
-- DuelSamples$Course.leftOf
def f_X0_leftOf (C_left : Nat → Int32) (a0 : Int32) : Option (Int32) := if a0 < 0 then some 0 else if 12 ≤ a0 then some 0 else if inB a0 12 then some (C_left (Int32.toNatClampNeg a0)) else none
theorem hy_X0_leftOf : yX0_leftOf.cls ≠ "java/lang/invoke/MethodHandle" ∧ yX0_leftOf.cls ≠ "java/lang/invoke/VarHandle" ∧ (parseMethodDescriptor yX0_leftOf.desc).map (fun d => d.parameters.length) = some 1 := by decide +kernel
set_option maxHeartbeats 4000000 in
set_option maxRecDepth 100000 in
theorem s_X0_leftOf_L {E : EN} {hX : TX} {hR : TR} {hT : TC} {hK : TK} {hS : TS} {hP : TP} {hM : TM} {C_sample : Int32} {C_plays : Int32} {C_small : Int32} {C_large : Int32} {C_u : Int32} {C_v : Int32} {C_left : Nat → Int32} {C_firsts : Nat → Int32} {C_seconds : Nat → Int32} {C_winners : Nat → Int32} {a0 : Int32} {qR : Int32} (hf : f_X0_leftOf C_left a0 = some qR) : Sem E yX0_leftOf cX0_leftOf 2 (some .int) 1 [.ref (eA E 8), .int a0] (hX, hR, (C_sample, C_plays, C_small, C_large, C_u, C_v, C_left, C_firsts, C_seconds, C_winners), hT, hK, hS, hP, hM) (some (.int qR), (hX, hR, (C_sample, C_plays, C_small, C_large, C_u, C_v, C_left, C_firsts, C_seconds, C_winners), hT, hK, hS, hP, hM)) := by
  refine Sem.mk (lv := [(0, .ref (eA E 8)), (1, .int a0)]) (by decide) (Nat.le_of_ble_eq_true rfl) rfl ?_
  rw [f_X0_leftOf] at hf
  refine r_iload_n dX0_leftOf_0 1 rfl ?_
  refine r_if_lt (tgt := 19) dX0_leftOf_1 (by decide) (fun c1 => ?_) (fun c1 => ?_)
  · have hf := hf_pos c1 hf
    refine r_iconst (v := 0) dX0_leftOf_19 (by decide) ?_
    have e9 := Option.some.inj hf
    subst e9
    exact r_iret rfl dX0_leftOf_20
  · have hf := hf_neg c1 hf
    refine r_iload_n dX0_leftOf_4 1 rfl ?_
    refine r_bipush (v := 12) dX0_leftOf_5 (by decide) ?_
    refine r_icmp_ge (tgt := 19) dX0_leftOf_7 (by decide) (fun c2 => ?_) (fun c2 => ?_)
    · have hf := hf_pos c2 hf
      refine r_iconst (v := 0) dX0_leftOf_19 (by decide) ?_
      have e9 := Option.some.inj hf
      subst e9
      exact r_iret rfl dX0_leftOf_20
    · have hf := hf_neg c2 hf
      refine r_aload_n dX0_leftOf_10 0 rfl ?_
      refine r_get (v := .ref (eA E 9)) in_X0 8 ga_L rfl 0 (by decide) wd_118 rfl rfl dX0_leftOf_11 ?_
      refine r_iload_n dX0_leftOf_14 1 rfl ?_
      obtain ⟨i3, hf⟩ := hf_in hf
      refine r_iald (f := C_left) 9 ga_L_left i3 dX0_leftOf_15 ?_
      refine r_goto (tgt := 20) dX0_leftOf_16 (by decide) ?_
      have e9 := Option.some.inj hf
      subst e9
      exact r_iret rfl dX0_leftOf_20
set_option maxHeartbeats 4000000 in
set_option maxRecDepth 100000 in
theorem s_X0_leftOf_T {E : EN} {hX : TX} {hR : TR} {hL : TC} {hK : TK} {hS : TS} {hP : TP} {hM : TM} {C_sample : Int32} {C_plays : Int32} {C_small : Int32} {C_large : Int32} {C_u : Int32} {C_v : Int32} {C_left : Nat → Int32} {C_firsts : Nat → Int32} {C_seconds : Nat → Int32} {C_winners : Nat → Int32} {a0 : Int32} {qR : Int32} (hf : f_X0_leftOf C_left a0 = some qR) : Sem E yX0_leftOf cX0_leftOf 2 (some .int) 1 [.ref (eA E 13), .int a0] (hX, hR, hL, (C_sample, C_plays, C_small, C_large, C_u, C_v, C_left, C_firsts, C_seconds, C_winners), hK, hS, hP, hM) (some (.int qR), (hX, hR, hL, (C_sample, C_plays, C_small, C_large, C_u, C_v, C_left, C_firsts, C_seconds, C_winners), hK, hS, hP, hM)) := by
  refine Sem.mk (lv := [(0, .ref (eA E 13)), (1, .int a0)]) (by decide) (Nat.le_of_ble_eq_true rfl) rfl ?_
  rw [f_X0_leftOf] at hf
  refine r_iload_n dX0_leftOf_0 1 rfl ?_
  refine r_if_lt (tgt := 19) dX0_leftOf_1 (by decide) (fun c1 => ?_) (fun c1 => ?_)
  · have hf := hf_pos c1 hf
    refine r_iconst (v := 0) dX0_leftOf_19 (by decide) ?_
    have e9 := Option.some.inj hf
    subst e9
    exact r_iret rfl dX0_leftOf_20
  · have hf := hf_neg c1 hf
    refine r_iload_n dX0_leftOf_4 1 rfl ?_
    refine r_bipush (v := 12) dX0_leftOf_5 (by decide) ?_
    refine r_icmp_ge (tgt := 19) dX0_leftOf_7 (by decide) (fun c2 => ?_) (fun c2 => ?_)
    · have hf := hf_pos c2 hf
      refine r_iconst (v := 0) dX0_leftOf_19 (by decide) ?_
      have e9 := Option.some.inj hf
      subst e9
      exact r_iret rfl dX0_leftOf_20
    · have hf := hf_neg c2 hf
      refine r_aload_n dX0_leftOf_10 0 rfl ?_
      refine r_get (v := .ref (eA E 14)) in_X0 13 ga_T rfl 0 (by decide) wd_118 rfl rfl dX0_leftOf_11 ?_
      refine r_iload_n dX0_leftOf_14 1 rfl ?_
      obtain ⟨i3, hf⟩ := hf_in hf
      refine r_iald (f := C_left) 14 ga_T_left i3 dX0_leftOf_15 ?_
      refine r_goto (tgt := 20) dX0_leftOf_16 (by decide) ?_
      have e9 := Option.some.inj hf
      subst e9
      exact r_iret rfl dX0_leftOf_20
-- DuelSamples$Course.leftOfBoth
def f_X0_leftOfBoth (C_u : Int32) (C_v : Int32) (C_left : Nat → Int32)  : Option (Int32) := Option.bind (f_X0_leftOf C_left C_u) (fun (q1 : Int32) => Option.bind (f_X0_leftOf C_left C_v) (fun (q2 : Int32) => some (q1 + q2)))
theorem hy_X0_leftOfBoth : yX0_leftOfBoth.cls ≠ "java/lang/invoke/MethodHandle" ∧ yX0_leftOfBoth.cls ≠ "java/lang/invoke/VarHandle" ∧ (parseMethodDescriptor yX0_leftOfBoth.desc).map (fun d => d.parameters.length) = some 0 := by decide +kernel
set_option maxHeartbeats 4000000 in
set_option maxRecDepth 100000 in
theorem s_X0_leftOfBoth_L {E : EN} {hX : TX} {hR : TR} {hT : TC} {hK : TK} {hS : TS} {hP : TP} {hM : TM} {C_sample : Int32} {C_plays : Int32} {C_small : Int32} {C_large : Int32} {C_u : Int32} {C_v : Int32} {C_left : Nat → Int32} {C_firsts : Nat → Int32} {C_seconds : Nat → Int32} {C_winners : Nat → Int32}  {qR : Int32} (hf : f_X0_leftOfBoth C_u C_v C_left = some qR) : Sem E yX0_leftOfBoth cX0_leftOfBoth 1 (some .int) 2 [.ref (eA E 8)] (hX, hR, (C_sample, C_plays, C_small, C_large, C_u, C_v, C_left, C_firsts, C_seconds, C_winners), hT, hK, hS, hP, hM) (some (.int qR), (hX, hR, (C_sample, C_plays, C_small, C_large, C_u, C_v, C_left, C_firsts, C_seconds, C_winners), hT, hK, hS, hP, hM)) := by
  refine Sem.mk (lv := [(0, .ref (eA E 8))]) (by decide) (Nat.le_of_ble_eq_true rfl) rfl ?_
  rw [f_X0_leftOfBoth] at hf
  refine r_aload_n dX0_leftOfBoth_0 0 rfl ?_
  refine r_aload_n dX0_leftOfBoth_1 0 rfl ?_
  refine r_get (v := .int C_u) in_X0 8 ga_L rfl 8 (by decide) wd_128 rfl rfl dX0_leftOfBoth_2 ?_
  obtain ⟨q1, hq1, hf⟩ := hf_bind hf
  refine r_callVi (As := [.int C_u]) (b := (eA E 8)) (st := []) (s_X0_leftOf_L hq1) (by decide) (by decide) wd_405 wd_406 wd_407 wd_70 wd_408 hy_X0_leftOf (Rc.obj 8 ga_L rfl) rfl (Nat.le_of_ble_eq_true rfl) dX0_leftOfBoth_5 ?_
  refine r_aload_n dX0_leftOfBoth_8 0 rfl ?_
  refine r_aload_n dX0_leftOfBoth_9 0 rfl ?_
  refine r_get (v := .int C_v) in_X0 8 ga_L rfl 9 (by decide) wd_130 rfl rfl dX0_leftOfBoth_10 ?_
  obtain ⟨q2, hq2, hf⟩ := hf_bind hf
  refine r_callVi (As := [.int C_v]) (b := (eA E 8)) (st := [.int q1]) (s_X0_leftOf_L hq2) (by decide) (by decide) wd_405 wd_406 wd_407 wd_70 wd_408 hy_X0_leftOf (Rc.obj 8 ga_L rfl) rfl (Nat.le_of_ble_eq_true rfl) dX0_leftOfBoth_13 ?_
  refine r_iadd dX0_leftOfBoth_16 ?_
  have e9 := Option.some.inj hf
  subst e9
  exact r_iret rfl dX0_leftOfBoth_17
set_option maxHeartbeats 4000000 in
set_option maxRecDepth 100000 in
theorem s_X0_leftOfBoth_T {E : EN} {hX : TX} {hR : TR} {hL : TC} {hK : TK} {hS : TS} {hP : TP} {hM : TM} {C_sample : Int32} {C_plays : Int32} {C_small : Int32} {C_large : Int32} {C_u : Int32} {C_v : Int32} {C_left : Nat → Int32} {C_firsts : Nat → Int32} {C_seconds : Nat → Int32} {C_winners : Nat → Int32}  {qR : Int32} (hf : f_X0_leftOfBoth C_u C_v C_left = some qR) : Sem E yX0_leftOfBoth cX0_leftOfBoth 1 (some .int) 2 [.ref (eA E 13)] (hX, hR, hL, (C_sample, C_plays, C_small, C_large, C_u, C_v, C_left, C_firsts, C_seconds, C_winners), hK, hS, hP, hM) (some (.int qR), (hX, hR, hL, (C_sample, C_plays, C_small, C_large, C_u, C_v, C_left, C_firsts, C_seconds, C_winners), hK, hS, hP, hM)) := by
  refine Sem.mk (lv := [(0, .ref (eA E 13))]) (by decide) (Nat.le_of_ble_eq_true rfl) rfl ?_
  rw [f_X0_leftOfBoth] at hf
  refine r_aload_n dX0_leftOfBoth_0 0 rfl ?_
  refine r_aload_n dX0_leftOfBoth_1 0 rfl ?_
  refine r_get (v := .int C_u) in_X0 13 ga_T rfl 8 (by decide) wd_128 rfl rfl dX0_leftOfBoth_2 ?_
  obtain ⟨q1, hq1, hf⟩ := hf_bind hf
  refine r_callVi (As := [.int C_u]) (b := (eA E 13)) (st := []) (s_X0_leftOf_T hq1) (by decide) (by decide) wd_405 wd_406 wd_407 wd_70 wd_408 hy_X0_leftOf (Rc.obj 13 ga_T rfl) rfl (Nat.le_of_ble_eq_true rfl) dX0_leftOfBoth_5 ?_
  refine r_aload_n dX0_leftOfBoth_8 0 rfl ?_
  refine r_aload_n dX0_leftOfBoth_9 0 rfl ?_
  refine r_get (v := .int C_v) in_X0 13 ga_T rfl 9 (by decide) wd_130 rfl rfl dX0_leftOfBoth_10 ?_
  obtain ⟨q2, hq2, hf⟩ := hf_bind hf
  refine r_callVi (As := [.int C_v]) (b := (eA E 13)) (st := [.int q1]) (s_X0_leftOf_T hq2) (by decide) (by decide) wd_405 wd_406 wd_407 wd_70 wd_408 hy_X0_leftOf (Rc.obj 13 ga_T rfl) rfl (Nat.le_of_ble_eq_true rfl) dX0_leftOfBoth_13 ?_
  refine r_iadd dX0_leftOfBoth_16 ?_
  have e9 := Option.some.inj hf
  subst e9
  exact r_iret rfl dX0_leftOfBoth_17
-- DuelSamples$Course.chancesOfBoth
def f_X0_chancesOfBoth (C_u : Int32) (C_v : Int32) (C_left : Nat → Int32)  : Option (Int32) := if C_v = (-1) then some 12 else Option.bind (f_X0_leftOfBoth C_u C_v C_left) (fun (q2 : Int32) => if 12 < q2 then some (24 - q2) else some q2)
theorem hy_X0_chancesOfBoth : yX0_chancesOfBoth.cls ≠ "java/lang/invoke/MethodHandle" ∧ yX0_chancesOfBoth.cls ≠ "java/lang/invoke/VarHandle" ∧ (parseMethodDescriptor yX0_chancesOfBoth.desc).map (fun d => d.parameters.length) = some 0 := by decide +kernel
set_option maxHeartbeats 4000000 in
set_option maxRecDepth 100000 in
theorem s_X0_chancesOfBoth_L {E : EN} {hX : TX} {hR : TR} {hT : TC} {hK : TK} {hS : TS} {hP : TP} {hM : TM} {C_sample : Int32} {C_plays : Int32} {C_small : Int32} {C_large : Int32} {C_u : Int32} {C_v : Int32} {C_left : Nat → Int32} {C_firsts : Nat → Int32} {C_seconds : Nat → Int32} {C_winners : Nat → Int32}  {qR : Int32} (hf : f_X0_chancesOfBoth C_u C_v C_left = some qR) : Sem E yX0_chancesOfBoth cX0_chancesOfBoth 2 (some .int) 3 [.ref (eA E 8)] (hX, hR, (C_sample, C_plays, C_small, C_large, C_u, C_v, C_left, C_firsts, C_seconds, C_winners), hT, hK, hS, hP, hM) (some (.int qR), (hX, hR, (C_sample, C_plays, C_small, C_large, C_u, C_v, C_left, C_firsts, C_seconds, C_winners), hT, hK, hS, hP, hM)) := by
  refine Sem.mk (lv := [(0, .ref (eA E 8))]) (by decide) (Nat.le_of_ble_eq_true rfl) rfl ?_
  rw [f_X0_chancesOfBoth] at hf
  refine r_aload_n dX0_chancesOfBoth_0 0 rfl ?_
  refine r_get (v := .int C_v) in_X0 8 ga_L rfl 9 (by decide) wd_130 rfl rfl dX0_chancesOfBoth_1 ?_
  refine r_iconst (v := (-1)) dX0_chancesOfBoth_4 (by decide) ?_
  refine r_icmp_ne (tgt := 11) dX0_chancesOfBoth_5 (by decide) (fun c1 => ?_) (fun c1 => ?_)
  · have hf := hf_neg c1 hf
    refine r_aload_n dX0_chancesOfBoth_11 0 rfl ?_
    obtain ⟨q2, hq2, hf⟩ := hf_bind hf
    refine r_callVi (As := []) (b := (eA E 8)) (st := []) (s_X0_leftOfBoth_L hq2) (by decide) (by decide) wd_401 wd_403 wd_11 wd_70 wd_404 hy_X0_leftOfBoth (Rc.obj 8 ga_L rfl) rfl (Nat.le_of_ble_eq_true rfl) dX0_chancesOfBoth_12 ?_
    refine r_istore_n (lv2 := [(1, .int q2), (0, .ref (eA E 8))]) dX0_chancesOfBoth_15 rfl (by decide) rfl ?_
    refine r_iload_n dX0_chancesOfBoth_16 0 rfl ?_
    refine r_bipush (v := 12) dX0_chancesOfBoth_17 (by decide) ?_
    refine r_icmp_gt (tgt := 26) dX0_chancesOfBoth_19 (by decide) (fun c3 => ?_) (fun c3 => ?_)
    · have hf := hf_pos c3 hf
      refine r_bipush (v := 24) dX0_chancesOfBoth_26 (by decide) ?_
      refine r_iload_n dX0_chancesOfBoth_28 0 rfl ?_
      refine r_isub dX0_chancesOfBoth_29 ?_
      have e9 := Option.some.inj hf
      subst e9
      exact r_iret rfl dX0_chancesOfBoth_30
    · have hf := hf_neg c3 hf
      refine r_iload_n dX0_chancesOfBoth_22 0 rfl ?_
      refine r_goto (tgt := 30) dX0_chancesOfBoth_23 (by decide) ?_
      have e9 := Option.some.inj hf
      subst e9
      exact r_iret rfl dX0_chancesOfBoth_30
  · have hf := hf_pos c1 hf
    refine r_bipush (v := 12) dX0_chancesOfBoth_8 (by decide) ?_
    have e9 := Option.some.inj hf
    subst e9
    exact r_iret rfl dX0_chancesOfBoth_10
set_option maxHeartbeats 4000000 in
set_option maxRecDepth 100000 in
theorem s_X0_chancesOfBoth_T {E : EN} {hX : TX} {hR : TR} {hL : TC} {hK : TK} {hS : TS} {hP : TP} {hM : TM} {C_sample : Int32} {C_plays : Int32} {C_small : Int32} {C_large : Int32} {C_u : Int32} {C_v : Int32} {C_left : Nat → Int32} {C_firsts : Nat → Int32} {C_seconds : Nat → Int32} {C_winners : Nat → Int32}  {qR : Int32} (hf : f_X0_chancesOfBoth C_u C_v C_left = some qR) : Sem E yX0_chancesOfBoth cX0_chancesOfBoth 2 (some .int) 3 [.ref (eA E 13)] (hX, hR, hL, (C_sample, C_plays, C_small, C_large, C_u, C_v, C_left, C_firsts, C_seconds, C_winners), hK, hS, hP, hM) (some (.int qR), (hX, hR, hL, (C_sample, C_plays, C_small, C_large, C_u, C_v, C_left, C_firsts, C_seconds, C_winners), hK, hS, hP, hM)) := by
  refine Sem.mk (lv := [(0, .ref (eA E 13))]) (by decide) (Nat.le_of_ble_eq_true rfl) rfl ?_
  rw [f_X0_chancesOfBoth] at hf
  refine r_aload_n dX0_chancesOfBoth_0 0 rfl ?_
  refine r_get (v := .int C_v) in_X0 13 ga_T rfl 9 (by decide) wd_130 rfl rfl dX0_chancesOfBoth_1 ?_
  refine r_iconst (v := (-1)) dX0_chancesOfBoth_4 (by decide) ?_
  refine r_icmp_ne (tgt := 11) dX0_chancesOfBoth_5 (by decide) (fun c1 => ?_) (fun c1 => ?_)
  · have hf := hf_neg c1 hf
    refine r_aload_n dX0_chancesOfBoth_11 0 rfl ?_
    obtain ⟨q2, hq2, hf⟩ := hf_bind hf
    refine r_callVi (As := []) (b := (eA E 13)) (st := []) (s_X0_leftOfBoth_T hq2) (by decide) (by decide) wd_401 wd_403 wd_11 wd_70 wd_404 hy_X0_leftOfBoth (Rc.obj 13 ga_T rfl) rfl (Nat.le_of_ble_eq_true rfl) dX0_chancesOfBoth_12 ?_
    refine r_istore_n (lv2 := [(1, .int q2), (0, .ref (eA E 13))]) dX0_chancesOfBoth_15 rfl (by decide) rfl ?_
    refine r_iload_n dX0_chancesOfBoth_16 0 rfl ?_
    refine r_bipush (v := 12) dX0_chancesOfBoth_17 (by decide) ?_
    refine r_icmp_gt (tgt := 26) dX0_chancesOfBoth_19 (by decide) (fun c3 => ?_) (fun c3 => ?_)
    · have hf := hf_pos c3 hf
      refine r_bipush (v := 24) dX0_chancesOfBoth_26 (by decide) ?_
      refine r_iload_n dX0_chancesOfBoth_28 0 rfl ?_
      refine r_isub dX0_chancesOfBoth_29 ?_
      have e9 := Option.some.inj hf
      subst e9
      exact r_iret rfl dX0_chancesOfBoth_30
    · have hf := hf_neg c3 hf
      refine r_iload_n dX0_chancesOfBoth_22 0 rfl ?_
      refine r_goto (tgt := 30) dX0_chancesOfBoth_23 (by decide) ?_
      have e9 := Option.some.inj hf
      subst e9
      exact r_iret rfl dX0_chancesOfBoth_30
  · have hf := hf_pos c1 hf
    refine r_bipush (v := 12) dX0_chancesOfBoth_8 (by decide) ?_
    have e9 := Option.some.inj hf
    subst e9
    exact r_iret rfl dX0_chancesOfBoth_10
-- DuelSamples$Course.chancesOfFirst
def f_X0_chancesOfFirst (C_u : Int32) (C_v : Int32) (C_left : Nat → Int32)  : Option (Int32) := Option.bind (f_X0_leftOfBoth C_u C_v C_left) (fun (q1 : Int32) => if 12 < q1 then Option.bind (f_X0_leftOf C_left C_v) (fun (q3 : Int32) => some (12 - q3)) else Option.bind (f_X0_leftOf C_left C_u) (fun (q4 : Int32) => some q4))
theorem hy_X0_chancesOfFirst : yX0_chancesOfFirst.cls ≠ "java/lang/invoke/MethodHandle" ∧ yX0_chancesOfFirst.cls ≠ "java/lang/invoke/VarHandle" ∧ (parseMethodDescriptor yX0_chancesOfFirst.desc).map (fun d => d.parameters.length) = some 0 := by decide +kernel
set_option maxHeartbeats 4000000 in
set_option maxRecDepth 100000 in
theorem s_X0_chancesOfFirst_L {E : EN} {hX : TX} {hR : TR} {hT : TC} {hK : TK} {hS : TS} {hP : TP} {hM : TM} {C_sample : Int32} {C_plays : Int32} {C_small : Int32} {C_large : Int32} {C_u : Int32} {C_v : Int32} {C_left : Nat → Int32} {C_firsts : Nat → Int32} {C_seconds : Nat → Int32} {C_winners : Nat → Int32}  {qR : Int32} (hf : f_X0_chancesOfFirst C_u C_v C_left = some qR) : Sem E yX0_chancesOfFirst cX0_chancesOfFirst 1 (some .int) 3 [.ref (eA E 8)] (hX, hR, (C_sample, C_plays, C_small, C_large, C_u, C_v, C_left, C_firsts, C_seconds, C_winners), hT, hK, hS, hP, hM) (some (.int qR), (hX, hR, (C_sample, C_plays, C_small, C_large, C_u, C_v, C_left, C_firsts, C_seconds, C_winners), hT, hK, hS, hP, hM)) := by
  refine Sem.mk (lv := [(0, .ref (eA E 8))]) (by decide) (Nat.le_of_ble_eq_true rfl) rfl ?_
  rw [f_X0_chancesOfFirst] at hf
  refine r_aload_n dX0_chancesOfFirst_0 0 rfl ?_
  obtain ⟨q1, hq1, hf⟩ := hf_bind hf
  refine r_callVi (As := []) (b := (eA E 8)) (st := []) (s_X0_leftOfBoth_L hq1) (by decide) (by decide) wd_401 wd_403 wd_11 wd_70 wd_404 hy_X0_leftOfBoth (Rc.obj 8 ga_L rfl) rfl (Nat.le_of_ble_eq_true rfl) dX0_chancesOfFirst_1 ?_
  refine r_bipush (v := 12) dX0_chancesOfFirst_4 (by decide) ?_
  refine r_icmp_gt (tgt := 20) dX0_chancesOfFirst_6 (by decide) (fun c2 => ?_) (fun c2 => ?_)
  · have hf := hf_pos c2 hf
    refine r_bipush (v := 12) dX0_chancesOfFirst_20 (by decide) ?_
    refine r_aload_n dX0_chancesOfFirst_22 0 rfl ?_
    refine r_aload_n dX0_chancesOfFirst_23 0 rfl ?_
    refine r_get (v := .int C_v) in_X0 8 ga_L rfl 9 (by decide) wd_130 rfl rfl dX0_chancesOfFirst_24 ?_
    obtain ⟨q3, hq3, hf⟩ := hf_bind hf
    refine r_callVi (As := [.int C_v]) (b := (eA E 8)) (st := [.int 12]) (s_X0_leftOf_L hq3) (by decide) (by decide) wd_405 wd_406 wd_407 wd_70 wd_408 hy_X0_leftOf (Rc.obj 8 ga_L rfl) rfl (Nat.le_of_ble_eq_true rfl) dX0_chancesOfFirst_27 ?_
    refine r_isub dX0_chancesOfFirst_30 ?_
    have e9 := Option.some.inj hf
    subst e9
    exact r_iret rfl dX0_chancesOfFirst_31
  · have hf := hf_neg c2 hf
    refine r_aload_n dX0_chancesOfFirst_9 0 rfl ?_
    refine r_aload_n dX0_chancesOfFirst_10 0 rfl ?_
    refine r_get (v := .int C_u) in_X0 8 ga_L rfl 8 (by decide) wd_128 rfl rfl dX0_chancesOfFirst_11 ?_
    obtain ⟨q4, hq4, hf⟩ := hf_bind hf
    refine r_callVi (As := [.int C_u]) (b := (eA E 8)) (st := []) (s_X0_leftOf_L hq4) (by decide) (by decide) wd_405 wd_406 wd_407 wd_70 wd_408 hy_X0_leftOf (Rc.obj 8 ga_L rfl) rfl (Nat.le_of_ble_eq_true rfl) dX0_chancesOfFirst_14 ?_
    refine r_goto (tgt := 31) dX0_chancesOfFirst_17 (by decide) ?_
    have e9 := Option.some.inj hf
    subst e9
    exact r_iret rfl dX0_chancesOfFirst_31
set_option maxHeartbeats 4000000 in
set_option maxRecDepth 100000 in
theorem s_X0_chancesOfFirst_T {E : EN} {hX : TX} {hR : TR} {hL : TC} {hK : TK} {hS : TS} {hP : TP} {hM : TM} {C_sample : Int32} {C_plays : Int32} {C_small : Int32} {C_large : Int32} {C_u : Int32} {C_v : Int32} {C_left : Nat → Int32} {C_firsts : Nat → Int32} {C_seconds : Nat → Int32} {C_winners : Nat → Int32}  {qR : Int32} (hf : f_X0_chancesOfFirst C_u C_v C_left = some qR) : Sem E yX0_chancesOfFirst cX0_chancesOfFirst 1 (some .int) 3 [.ref (eA E 13)] (hX, hR, hL, (C_sample, C_plays, C_small, C_large, C_u, C_v, C_left, C_firsts, C_seconds, C_winners), hK, hS, hP, hM) (some (.int qR), (hX, hR, hL, (C_sample, C_plays, C_small, C_large, C_u, C_v, C_left, C_firsts, C_seconds, C_winners), hK, hS, hP, hM)) := by
  refine Sem.mk (lv := [(0, .ref (eA E 13))]) (by decide) (Nat.le_of_ble_eq_true rfl) rfl ?_
  rw [f_X0_chancesOfFirst] at hf
  refine r_aload_n dX0_chancesOfFirst_0 0 rfl ?_
  obtain ⟨q1, hq1, hf⟩ := hf_bind hf
  refine r_callVi (As := []) (b := (eA E 13)) (st := []) (s_X0_leftOfBoth_T hq1) (by decide) (by decide) wd_401 wd_403 wd_11 wd_70 wd_404 hy_X0_leftOfBoth (Rc.obj 13 ga_T rfl) rfl (Nat.le_of_ble_eq_true rfl) dX0_chancesOfFirst_1 ?_
  refine r_bipush (v := 12) dX0_chancesOfFirst_4 (by decide) ?_
  refine r_icmp_gt (tgt := 20) dX0_chancesOfFirst_6 (by decide) (fun c2 => ?_) (fun c2 => ?_)
  · have hf := hf_pos c2 hf
    refine r_bipush (v := 12) dX0_chancesOfFirst_20 (by decide) ?_
    refine r_aload_n dX0_chancesOfFirst_22 0 rfl ?_
    refine r_aload_n dX0_chancesOfFirst_23 0 rfl ?_
    refine r_get (v := .int C_v) in_X0 13 ga_T rfl 9 (by decide) wd_130 rfl rfl dX0_chancesOfFirst_24 ?_
    obtain ⟨q3, hq3, hf⟩ := hf_bind hf
    refine r_callVi (As := [.int C_v]) (b := (eA E 13)) (st := [.int 12]) (s_X0_leftOf_T hq3) (by decide) (by decide) wd_405 wd_406 wd_407 wd_70 wd_408 hy_X0_leftOf (Rc.obj 13 ga_T rfl) rfl (Nat.le_of_ble_eq_true rfl) dX0_chancesOfFirst_27 ?_
    refine r_isub dX0_chancesOfFirst_30 ?_
    have e9 := Option.some.inj hf
    subst e9
    exact r_iret rfl dX0_chancesOfFirst_31
  · have hf := hf_neg c2 hf
    refine r_aload_n dX0_chancesOfFirst_9 0 rfl ?_
    refine r_aload_n dX0_chancesOfFirst_10 0 rfl ?_
    refine r_get (v := .int C_u) in_X0 13 ga_T rfl 8 (by decide) wd_128 rfl rfl dX0_chancesOfFirst_11 ?_
    obtain ⟨q4, hq4, hf⟩ := hf_bind hf
    refine r_callVi (As := [.int C_u]) (b := (eA E 13)) (st := []) (s_X0_leftOf_T hq4) (by decide) (by decide) wd_405 wd_406 wd_407 wd_70 wd_408 hy_X0_leftOf (Rc.obj 13 ga_T rfl) rfl (Nat.le_of_ble_eq_true rfl) dX0_chancesOfFirst_14 ?_
    refine r_goto (tgt := 31) dX0_chancesOfFirst_17 (by decide) ?_
    have e9 := Option.some.inj hf
    subst e9
    exact r_iret rfl dX0_chancesOfFirst_31
-- DuelSamples$Course.write
def j_X0_write_100 (C_v : Int32) (C_plays : Int32) (C_small : Int32) (C_large : Int32) (C_firsts : Nat → Int32) (C_u : Int32) (C_seconds : Nat → Int32) (C_winners : Nat → Int32) (q5 : Int32) : Option (Int32 × Int32 × Int32 × (Nat → Int32) × (Nat → Int32) × (Nat → Int32)) := if C_v = (-1) then some ((C_plays + 1), C_small, C_large, (upd C_firsts (Int32.toNatClampNeg C_plays) C_u), (upd C_seconds (Int32.toNatClampNeg C_plays) C_v), (upd C_winners (Int32.toNatClampNeg C_plays) q5)) else some ((C_plays + 1), C_small, (C_large + 1), (upd C_firsts (Int32.toNatClampNeg C_plays) C_u), (upd C_seconds (Int32.toNatClampNeg C_plays) C_v), (upd C_winners (Int32.toNatClampNeg C_plays) q5))
def f_X0_write (C_plays : Int32) (C_small : Int32) (C_large : Int32) (C_u : Int32) (C_v : Int32) (C_left : Nat → Int32) (C_firsts : Nat → Int32) (C_seconds : Nat → Int32) (C_winners : Nat → Int32) (a0 : Int32) : Option (Int32 × Int32 × Int32 × (Nat → Int32) × (Nat → Int32) × (Nat → Int32)) := if C_plays < 12 then if inB C_plays 12 then if inB C_plays 12 then Option.bind (if a0 = 0 then some C_v else some C_u) (fun (q5 : Int32) => if inB C_plays 12 then if C_v = (-1) then j_X0_write_100 C_v C_plays C_small C_large C_firsts C_u C_seconds C_winners q5 else Option.bind (f_X0_leftOfBoth C_u C_v C_left) (fun (q9 : Int32) => if 12 < q9 then j_X0_write_100 C_v C_plays C_small C_large C_firsts C_u C_seconds C_winners q5 else some ((C_plays + 1), (C_small + 1), C_large, (upd C_firsts (Int32.toNatClampNeg C_plays) C_u), (upd C_seconds (Int32.toNatClampNeg C_plays) C_v), (upd C_winners (Int32.toNatClampNeg C_plays) q5))) else none) else none else none else some (C_plays, C_small, C_large, C_firsts, C_seconds, C_winners)
theorem hy_X0_write : yX0_write.cls ≠ "java/lang/invoke/MethodHandle" ∧ yX0_write.cls ≠ "java/lang/invoke/VarHandle" ∧ (parseMethodDescriptor yX0_write.desc).map (fun d => d.parameters.length) = some 1 := by decide +kernel
set_option maxHeartbeats 4000000 in
set_option maxRecDepth 100000 in
theorem wj_X0_write_100_L {E : EN} {hX : TX} {hR : TR} {hT : TC} {hK : TK} {hS : TS} {hP : TP} {hM : TM} {C_sample : Int32} {C_u : Int32} {C_v : Int32} {C_left : Nat → Int32} {C_plays : Int32} {C_small : Int32} {C_large : Int32} {C_firsts : Nat → Int32} {C_seconds : Nat → Int32} {C_winners : Nat → Int32} {q5 : Int32} {qR : Int32 × Int32 × Int32 × (Nat → Int32) × (Nat → Int32) × (Nat → Int32)} (hf : j_X0_write_100 C_v C_plays C_small C_large C_firsts C_u C_seconds C_winners q5 = some qR) : Wa E yX0_write cX0_write 2 none 3 (none, (hX, hR, (C_sample, qR.1, qR.2.1, qR.2.2.1, C_u, C_v, C_left, qR.2.2.2.1, qR.2.2.2.2.1, qR.2.2.2.2.2), hT, hK, hS, hP, hM)) 100 [(0, .ref (eA E 8))] [] (hX, hR, (C_sample, (C_plays + 1), C_small, C_large, C_u, C_v, C_left, (upd C_firsts (Int32.toNatClampNeg C_plays) C_u), (upd C_seconds (Int32.toNatClampNeg C_plays) C_v), (upd C_winners (Int32.toNatClampNeg C_plays) q5)), hT, hK, hS, hP, hM) := by
  rw [j_X0_write_100] at hf
  refine r_aload_n dX0_write_100 0 rfl ?_
  refine r_get (v := .int C_v) in_X0 8 ga_L rfl 9 (by decide) wd_130 rfl rfl dX0_write_101 ?_
  refine r_iconst (v := (-1)) dX0_write_104 (by decide) ?_
  refine r_icmp_eq (tgt := 118) dX0_write_105 (by decide) (fun c8 => ?_) (fun c8 => ?_)
  · have hf := hf_pos c8 hf
    have e9 := Option.some.inj hf
    subst e9
    exact r_vret rfl dX0_write_118
  · have hf := hf_neg c8 hf
    refine r_aload_n dX0_write_108 0 rfl ?_
    refine r_dup dX0_write_109 rfl ?_
    refine r_get (v := .int C_large) in_X0 8 ga_L rfl 7 (by decide) wd_126 rfl rfl dX0_write_110 ?_
    refine r_iconst (v := 1) dX0_write_113 (by decide) ?_
    refine r_iadd dX0_write_114 ?_
    refine r_put in_X0 tyX0_ok nmX0 8 ga_L rfl 7 (by decide) wd_126 rfl rfl pfI (Nat.le_of_ble_eq_true rfl) sa_L_large dX0_write_115 ?_
    have e9 := Option.some.inj hf
    subst e9
    exact r_vret rfl dX0_write_118
set_option maxHeartbeats 4000000 in
set_option maxRecDepth 100000 in
theorem s_X0_write_L {E : EN} {hX : TX} {hR : TR} {hT : TC} {hK : TK} {hS : TS} {hP : TP} {hM : TM} {C_sample : Int32} {C_plays : Int32} {C_small : Int32} {C_large : Int32} {C_u : Int32} {C_v : Int32} {C_left : Nat → Int32} {C_firsts : Nat → Int32} {C_seconds : Nat → Int32} {C_winners : Nat → Int32} {a0 : Int32} {qR : Int32 × Int32 × Int32 × (Nat → Int32) × (Nat → Int32) × (Nat → Int32)} (hf : f_X0_write C_plays C_small C_large C_u C_v C_left C_firsts C_seconds C_winners a0 = some qR) : Sem E yX0_write cX0_write 2 none 3 [.ref (eA E 8), .int a0] (hX, hR, (C_sample, C_plays, C_small, C_large, C_u, C_v, C_left, C_firsts, C_seconds, C_winners), hT, hK, hS, hP, hM) (none, (hX, hR, (C_sample, qR.1, qR.2.1, qR.2.2.1, C_u, C_v, C_left, qR.2.2.2.1, qR.2.2.2.2.1, qR.2.2.2.2.2), hT, hK, hS, hP, hM)) := by
  refine Sem.mk (lv := [(0, .ref (eA E 8)), (1, .int a0)]) (by decide) (Nat.le_of_ble_eq_true rfl) rfl ?_
  rw [f_X0_write] at hf
  refine r_aload_n dX0_write_0 0 rfl ?_
  refine r_get (v := .int C_plays) in_X0 8 ga_L rfl 5 (by decide) wd_124 rfl rfl dX0_write_1 ?_
  refine r_bipush (v := 12) dX0_write_4 (by decide) ?_
  refine r_icmp_lt (tgt := 10) dX0_write_6 (by decide) (fun c1 => ?_) (fun c1 => ?_)
  · have hf := hf_pos c1 hf
    refine r_aload_n dX0_write_10 0 rfl ?_
    refine r_get (v := .ref (eA E 10)) in_X0 8 ga_L rfl 1 (by decide) wd_119 rfl rfl dX0_write_11 ?_
    refine r_aload_n dX0_write_14 0 rfl ?_
    refine r_get (v := .int C_plays) in_X0 8 ga_L rfl 5 (by decide) wd_124 rfl rfl dX0_write_15 ?_
    refine r_aload_n dX0_write_18 0 rfl ?_
    refine r_get (v := .int C_u) in_X0 8 ga_L rfl 8 (by decide) wd_128 rfl rfl dX0_write_19 ?_
    obtain ⟨i2, hf⟩ := hf_in hf
    refine r_iast 10 ga_L_firsts sa_L_firsts i2 dX0_write_22 ?_
    refine r_aload_n dX0_write_23 0 rfl ?_
    refine r_get (v := .ref (eA E 11)) in_X0 8 ga_L rfl 2 (by decide) wd_120 rfl rfl dX0_write_24 ?_
    refine r_aload_n dX0_write_27 0 rfl ?_
    refine r_get (v := .int C_plays) in_X0 8 ga_L rfl 5 (by decide) wd_124 rfl rfl dX0_write_28 ?_
    refine r_aload_n dX0_write_31 0 rfl ?_
    refine r_get (v := .int C_v) in_X0 8 ga_L rfl 9 (by decide) wd_130 rfl rfl dX0_write_32 ?_
    obtain ⟨i3, hf⟩ := hf_in hf
    refine r_iast 11 ga_L_seconds sa_L_seconds i3 dX0_write_35 ?_
    refine r_aload_n dX0_write_36 0 rfl ?_
    refine r_get (v := .ref (eA E 12)) in_X0 8 ga_L rfl 3 (by decide) wd_121 rfl rfl dX0_write_37 ?_
    refine r_aload_n dX0_write_40 0 rfl ?_
    refine r_get (v := .int C_plays) in_X0 8 ga_L rfl 5 (by decide) wd_124 rfl rfl dX0_write_41 ?_
    refine r_iload_n dX0_write_44 1 rfl ?_
    obtain ⟨q5, hq5, hf⟩ := hf_bind hf
    have kj5 : Wa E yX0_write cX0_write 2 none 3 (none, (hX, hR, (C_sample, qR.1, qR.2.1, qR.2.2.1, C_u, C_v, C_left, qR.2.2.2.1, qR.2.2.2.2.1, qR.2.2.2.2.2), hT, hK, hS, hP, hM)) 59 [(0, .ref (eA E 8))] [.int q5, .int C_plays, .ref (eA E 12)] (hX, hR, (C_sample, C_plays, C_small, C_large, C_u, C_v, C_left, (upd C_firsts (Int32.toNatClampNeg C_plays) C_u), (upd C_seconds (Int32.toNatClampNeg C_plays) C_v), C_winners), hT, hK, hS, hP, hM) := by
      obtain ⟨i6, hf⟩ := hf_in hf
      refine r_iast 12 ga_L_winners sa_L_winners i6 dX0_write_59 ?_
      refine r_aload_n dX0_write_60 0 rfl ?_
      refine r_dup dX0_write_61 rfl ?_
      refine r_get (v := .int C_plays) in_X0 8 ga_L rfl 5 (by decide) wd_124 rfl rfl dX0_write_62 ?_
      refine r_iconst (v := 1) dX0_write_65 (by decide) ?_
      refine r_iadd dX0_write_66 ?_
      refine r_put in_X0 tyX0_ok nmX0 8 ga_L rfl 5 (by decide) wd_124 rfl rfl pfI (Nat.le_of_ble_eq_true rfl) sa_L_plays dX0_write_67 ?_
      refine r_aload_n dX0_write_70 0 rfl ?_
      refine r_get (v := .int C_v) in_X0 8 ga_L rfl 9 (by decide) wd_130 rfl rfl dX0_write_71 ?_
      refine r_iconst (v := (-1)) dX0_write_74 (by decide) ?_
      refine r_icmp_eq (tgt := 100) dX0_write_75 (by decide) (fun c7 => ?_) (fun c7 => ?_)
      · have hf := hf_pos c7 hf
        exact (wj_X0_write_100_L hf)
      · have hf := hf_neg c7 hf
        refine r_aload_n dX0_write_78 0 rfl ?_
        obtain ⟨q9, hq9, hf⟩ := hf_bind hf
        refine r_callVi (As := []) (b := (eA E 8)) (st := []) (s_X0_leftOfBoth_L hq9) (by decide) (by decide) wd_401 wd_403 wd_11 wd_70 wd_404 hy_X0_leftOfBoth (Rc.obj 8 ga_L rfl) rfl (Nat.le_of_ble_eq_true rfl) dX0_write_79 ?_
        refine r_bipush (v := 12) dX0_write_82 (by decide) ?_
        refine r_icmp_gt (tgt := 100) dX0_write_84 (by decide) (fun c10 => ?_) (fun c10 => ?_)
        · have hf := hf_pos c10 hf
          exact (wj_X0_write_100_L hf)
        · have hf := hf_neg c10 hf
          refine r_aload_n dX0_write_87 0 rfl ?_
          refine r_dup dX0_write_88 rfl ?_
          refine r_get (v := .int C_small) in_X0 8 ga_L rfl 6 (by decide) wd_125 rfl rfl dX0_write_89 ?_
          refine r_iconst (v := 1) dX0_write_92 (by decide) ?_
          refine r_iadd dX0_write_93 ?_
          refine r_put in_X0 tyX0_ok nmX0 8 ga_L rfl 6 (by decide) wd_125 rfl rfl pfI (Nat.le_of_ble_eq_true rfl) sa_L_small dX0_write_94 ?_
          refine r_goto (tgt := 118) dX0_write_97 (by decide) ?_
          have e9 := Option.some.inj hf
          subst e9
          exact r_vret rfl dX0_write_118
    have hf := hq5
    refine r_if_eq (tgt := 55) dX0_write_45 (by decide) (fun c4 => ?_) (fun c4 => ?_)
    · have hf := hf_pos c4 hf
      refine r_aload_n dX0_write_55 0 rfl ?_
      refine r_get (v := .int C_v) in_X0 8 ga_L rfl 9 (by decide) wd_130 rfl rfl dX0_write_56 ?_
      have e9 := Option.some.inj hf
      subst e9
      exact (Wa.sub [0] rfl kj5)
    · have hf := hf_neg c4 hf
      refine r_aload_n dX0_write_48 0 rfl ?_
      refine r_get (v := .int C_u) in_X0 8 ga_L rfl 8 (by decide) wd_128 rfl rfl dX0_write_49 ?_
      refine r_goto (tgt := 59) dX0_write_52 (by decide) ?_
      have e9 := Option.some.inj hf
      subst e9
      exact (Wa.sub [0] rfl kj5)
  · have hf := hf_neg c1 hf
    have e9 := Option.some.inj hf
    subst e9
    exact r_vret rfl dX0_write_9
set_option maxHeartbeats 4000000 in
set_option maxRecDepth 100000 in
theorem wj_X0_write_100_T {E : EN} {hX : TX} {hR : TR} {hL : TC} {hK : TK} {hS : TS} {hP : TP} {hM : TM} {C_sample : Int32} {C_u : Int32} {C_v : Int32} {C_left : Nat → Int32} {C_plays : Int32} {C_small : Int32} {C_large : Int32} {C_firsts : Nat → Int32} {C_seconds : Nat → Int32} {C_winners : Nat → Int32} {q5 : Int32} {qR : Int32 × Int32 × Int32 × (Nat → Int32) × (Nat → Int32) × (Nat → Int32)} (hf : j_X0_write_100 C_v C_plays C_small C_large C_firsts C_u C_seconds C_winners q5 = some qR) : Wa E yX0_write cX0_write 2 none 3 (none, (hX, hR, hL, (C_sample, qR.1, qR.2.1, qR.2.2.1, C_u, C_v, C_left, qR.2.2.2.1, qR.2.2.2.2.1, qR.2.2.2.2.2), hK, hS, hP, hM)) 100 [(0, .ref (eA E 13))] [] (hX, hR, hL, (C_sample, (C_plays + 1), C_small, C_large, C_u, C_v, C_left, (upd C_firsts (Int32.toNatClampNeg C_plays) C_u), (upd C_seconds (Int32.toNatClampNeg C_plays) C_v), (upd C_winners (Int32.toNatClampNeg C_plays) q5)), hK, hS, hP, hM) := by
  rw [j_X0_write_100] at hf
  refine r_aload_n dX0_write_100 0 rfl ?_
  refine r_get (v := .int C_v) in_X0 13 ga_T rfl 9 (by decide) wd_130 rfl rfl dX0_write_101 ?_
  refine r_iconst (v := (-1)) dX0_write_104 (by decide) ?_
  refine r_icmp_eq (tgt := 118) dX0_write_105 (by decide) (fun c8 => ?_) (fun c8 => ?_)
  · have hf := hf_pos c8 hf
    have e9 := Option.some.inj hf
    subst e9
    exact r_vret rfl dX0_write_118
  · have hf := hf_neg c8 hf
    refine r_aload_n dX0_write_108 0 rfl ?_
    refine r_dup dX0_write_109 rfl ?_
    refine r_get (v := .int C_large) in_X0 13 ga_T rfl 7 (by decide) wd_126 rfl rfl dX0_write_110 ?_
    refine r_iconst (v := 1) dX0_write_113 (by decide) ?_
    refine r_iadd dX0_write_114 ?_
    refine r_put in_X0 tyX0_ok nmX0 13 ga_T rfl 7 (by decide) wd_126 rfl rfl pfI (Nat.le_of_ble_eq_true rfl) sa_T_large dX0_write_115 ?_
    have e9 := Option.some.inj hf
    subst e9
    exact r_vret rfl dX0_write_118
set_option maxHeartbeats 4000000 in
set_option maxRecDepth 100000 in
theorem s_X0_write_T {E : EN} {hX : TX} {hR : TR} {hL : TC} {hK : TK} {hS : TS} {hP : TP} {hM : TM} {C_sample : Int32} {C_plays : Int32} {C_small : Int32} {C_large : Int32} {C_u : Int32} {C_v : Int32} {C_left : Nat → Int32} {C_firsts : Nat → Int32} {C_seconds : Nat → Int32} {C_winners : Nat → Int32} {a0 : Int32} {qR : Int32 × Int32 × Int32 × (Nat → Int32) × (Nat → Int32) × (Nat → Int32)} (hf : f_X0_write C_plays C_small C_large C_u C_v C_left C_firsts C_seconds C_winners a0 = some qR) : Sem E yX0_write cX0_write 2 none 3 [.ref (eA E 13), .int a0] (hX, hR, hL, (C_sample, C_plays, C_small, C_large, C_u, C_v, C_left, C_firsts, C_seconds, C_winners), hK, hS, hP, hM) (none, (hX, hR, hL, (C_sample, qR.1, qR.2.1, qR.2.2.1, C_u, C_v, C_left, qR.2.2.2.1, qR.2.2.2.2.1, qR.2.2.2.2.2), hK, hS, hP, hM)) := by
  refine Sem.mk (lv := [(0, .ref (eA E 13)), (1, .int a0)]) (by decide) (Nat.le_of_ble_eq_true rfl) rfl ?_
  rw [f_X0_write] at hf
  refine r_aload_n dX0_write_0 0 rfl ?_
  refine r_get (v := .int C_plays) in_X0 13 ga_T rfl 5 (by decide) wd_124 rfl rfl dX0_write_1 ?_
  refine r_bipush (v := 12) dX0_write_4 (by decide) ?_
  refine r_icmp_lt (tgt := 10) dX0_write_6 (by decide) (fun c1 => ?_) (fun c1 => ?_)
  · have hf := hf_pos c1 hf
    refine r_aload_n dX0_write_10 0 rfl ?_
    refine r_get (v := .ref (eA E 15)) in_X0 13 ga_T rfl 1 (by decide) wd_119 rfl rfl dX0_write_11 ?_
    refine r_aload_n dX0_write_14 0 rfl ?_
    refine r_get (v := .int C_plays) in_X0 13 ga_T rfl 5 (by decide) wd_124 rfl rfl dX0_write_15 ?_
    refine r_aload_n dX0_write_18 0 rfl ?_
    refine r_get (v := .int C_u) in_X0 13 ga_T rfl 8 (by decide) wd_128 rfl rfl dX0_write_19 ?_
    obtain ⟨i2, hf⟩ := hf_in hf
    refine r_iast 15 ga_T_firsts sa_T_firsts i2 dX0_write_22 ?_
    refine r_aload_n dX0_write_23 0 rfl ?_
    refine r_get (v := .ref (eA E 16)) in_X0 13 ga_T rfl 2 (by decide) wd_120 rfl rfl dX0_write_24 ?_
    refine r_aload_n dX0_write_27 0 rfl ?_
    refine r_get (v := .int C_plays) in_X0 13 ga_T rfl 5 (by decide) wd_124 rfl rfl dX0_write_28 ?_
    refine r_aload_n dX0_write_31 0 rfl ?_
    refine r_get (v := .int C_v) in_X0 13 ga_T rfl 9 (by decide) wd_130 rfl rfl dX0_write_32 ?_
    obtain ⟨i3, hf⟩ := hf_in hf
    refine r_iast 16 ga_T_seconds sa_T_seconds i3 dX0_write_35 ?_
    refine r_aload_n dX0_write_36 0 rfl ?_
    refine r_get (v := .ref (eA E 17)) in_X0 13 ga_T rfl 3 (by decide) wd_121 rfl rfl dX0_write_37 ?_
    refine r_aload_n dX0_write_40 0 rfl ?_
    refine r_get (v := .int C_plays) in_X0 13 ga_T rfl 5 (by decide) wd_124 rfl rfl dX0_write_41 ?_
    refine r_iload_n dX0_write_44 1 rfl ?_
    obtain ⟨q5, hq5, hf⟩ := hf_bind hf
    have kj5 : Wa E yX0_write cX0_write 2 none 3 (none, (hX, hR, hL, (C_sample, qR.1, qR.2.1, qR.2.2.1, C_u, C_v, C_left, qR.2.2.2.1, qR.2.2.2.2.1, qR.2.2.2.2.2), hK, hS, hP, hM)) 59 [(0, .ref (eA E 13))] [.int q5, .int C_plays, .ref (eA E 17)] (hX, hR, hL, (C_sample, C_plays, C_small, C_large, C_u, C_v, C_left, (upd C_firsts (Int32.toNatClampNeg C_plays) C_u), (upd C_seconds (Int32.toNatClampNeg C_plays) C_v), C_winners), hK, hS, hP, hM) := by
      obtain ⟨i6, hf⟩ := hf_in hf
      refine r_iast 17 ga_T_winners sa_T_winners i6 dX0_write_59 ?_
      refine r_aload_n dX0_write_60 0 rfl ?_
      refine r_dup dX0_write_61 rfl ?_
      refine r_get (v := .int C_plays) in_X0 13 ga_T rfl 5 (by decide) wd_124 rfl rfl dX0_write_62 ?_
      refine r_iconst (v := 1) dX0_write_65 (by decide) ?_
      refine r_iadd dX0_write_66 ?_
      refine r_put in_X0 tyX0_ok nmX0 13 ga_T rfl 5 (by decide) wd_124 rfl rfl pfI (Nat.le_of_ble_eq_true rfl) sa_T_plays dX0_write_67 ?_
      refine r_aload_n dX0_write_70 0 rfl ?_
      refine r_get (v := .int C_v) in_X0 13 ga_T rfl 9 (by decide) wd_130 rfl rfl dX0_write_71 ?_
      refine r_iconst (v := (-1)) dX0_write_74 (by decide) ?_
      refine r_icmp_eq (tgt := 100) dX0_write_75 (by decide) (fun c7 => ?_) (fun c7 => ?_)
      · have hf := hf_pos c7 hf
        exact (wj_X0_write_100_T hf)
      · have hf := hf_neg c7 hf
        refine r_aload_n dX0_write_78 0 rfl ?_
        obtain ⟨q9, hq9, hf⟩ := hf_bind hf
        refine r_callVi (As := []) (b := (eA E 13)) (st := []) (s_X0_leftOfBoth_T hq9) (by decide) (by decide) wd_401 wd_403 wd_11 wd_70 wd_404 hy_X0_leftOfBoth (Rc.obj 13 ga_T rfl) rfl (Nat.le_of_ble_eq_true rfl) dX0_write_79 ?_
        refine r_bipush (v := 12) dX0_write_82 (by decide) ?_
        refine r_icmp_gt (tgt := 100) dX0_write_84 (by decide) (fun c10 => ?_) (fun c10 => ?_)
        · have hf := hf_pos c10 hf
          exact (wj_X0_write_100_T hf)
        · have hf := hf_neg c10 hf
          refine r_aload_n dX0_write_87 0 rfl ?_
          refine r_dup dX0_write_88 rfl ?_
          refine r_get (v := .int C_small) in_X0 13 ga_T rfl 6 (by decide) wd_125 rfl rfl dX0_write_89 ?_
          refine r_iconst (v := 1) dX0_write_92 (by decide) ?_
          refine r_iadd dX0_write_93 ?_
          refine r_put in_X0 tyX0_ok nmX0 13 ga_T rfl 6 (by decide) wd_125 rfl rfl pfI (Nat.le_of_ble_eq_true rfl) sa_T_small dX0_write_94 ?_
          refine r_goto (tgt := 118) dX0_write_97 (by decide) ?_
          have e9 := Option.some.inj hf
          subst e9
          exact r_vret rfl dX0_write_118
    have hf := hq5
    refine r_if_eq (tgt := 55) dX0_write_45 (by decide) (fun c4 => ?_) (fun c4 => ?_)
    · have hf := hf_pos c4 hf
      refine r_aload_n dX0_write_55 0 rfl ?_
      refine r_get (v := .int C_v) in_X0 13 ga_T rfl 9 (by decide) wd_130 rfl rfl dX0_write_56 ?_
      have e9 := Option.some.inj hf
      subst e9
      exact (Wa.sub [0] rfl kj5)
    · have hf := hf_neg c4 hf
      refine r_aload_n dX0_write_48 0 rfl ?_
      refine r_get (v := .int C_u) in_X0 13 ga_T rfl 8 (by decide) wd_128 rfl rfl dX0_write_49 ?_
      refine r_goto (tgt := 59) dX0_write_52 (by decide) ?_
      have e9 := Option.some.inj hf
      subst e9
      exact (Wa.sub [0] rfl kj5)
  · have hf := hf_neg c1 hf
    have e9 := Option.some.inj hf
    subst e9
    exact r_vret rfl dX0_write_9
-- DuelSamples$Course.leave
def f_X0_leave (C_left : Nat → Int32) (a0 : Int32) (a1 : Int32) : Option ((Nat → Int32)) := if a0 < 0 then some C_left else if 12 ≤ a0 then some C_left else if inB a0 12 then some (upd C_left (Int32.toNatClampNeg a0) a1) else none
theorem hy_X0_leave : yX0_leave.cls ≠ "java/lang/invoke/MethodHandle" ∧ yX0_leave.cls ≠ "java/lang/invoke/VarHandle" ∧ (parseMethodDescriptor yX0_leave.desc).map (fun d => d.parameters.length) = some 2 := by decide +kernel
set_option maxHeartbeats 4000000 in
set_option maxRecDepth 100000 in
theorem s_X0_leave_L {E : EN} {hX : TX} {hR : TR} {hT : TC} {hK : TK} {hS : TS} {hP : TP} {hM : TM} {C_sample : Int32} {C_plays : Int32} {C_small : Int32} {C_large : Int32} {C_u : Int32} {C_v : Int32} {C_left : Nat → Int32} {C_firsts : Nat → Int32} {C_seconds : Nat → Int32} {C_winners : Nat → Int32} {a0 : Int32} {a1 : Int32} {qR : (Nat → Int32)} (hf : f_X0_leave C_left a0 a1 = some qR) : Sem E yX0_leave cX0_leave 3 none 1 [.ref (eA E 8), .int a0, .int a1] (hX, hR, (C_sample, C_plays, C_small, C_large, C_u, C_v, C_left, C_firsts, C_seconds, C_winners), hT, hK, hS, hP, hM) (none, (hX, hR, (C_sample, C_plays, C_small, C_large, C_u, C_v, qR, C_firsts, C_seconds, C_winners), hT, hK, hS, hP, hM)) := by
  refine Sem.mk (lv := [(0, .ref (eA E 8)), (1, .int a0), (2, .int a1)]) (by decide) (Nat.le_of_ble_eq_true rfl) rfl ?_
  rw [f_X0_leave] at hf
  refine r_iload_n dX0_leave_0 1 rfl ?_
  refine r_if_lt (tgt := 17) dX0_leave_1 (by decide) (fun c1 => ?_) (fun c1 => ?_)
  · have hf := hf_pos c1 hf
    have e9 := Option.some.inj hf
    subst e9
    exact r_vret rfl dX0_leave_17
  · have hf := hf_neg c1 hf
    refine r_iload_n dX0_leave_4 1 rfl ?_
    refine r_bipush (v := 12) dX0_leave_5 (by decide) ?_
    refine r_icmp_ge (tgt := 17) dX0_leave_7 (by decide) (fun c2 => ?_) (fun c2 => ?_)
    · have hf := hf_pos c2 hf
      have e9 := Option.some.inj hf
      subst e9
      exact r_vret rfl dX0_leave_17
    · have hf := hf_neg c2 hf
      refine r_aload_n dX0_leave_10 0 rfl ?_
      refine r_get (v := .ref (eA E 9)) in_X0 8 ga_L rfl 0 (by decide) wd_118 rfl rfl dX0_leave_11 ?_
      refine r_iload_n dX0_leave_14 1 rfl ?_
      refine r_iload_n dX0_leave_15 2 rfl ?_
      obtain ⟨i3, hf⟩ := hf_in hf
      refine r_iast 9 ga_L_left sa_L_left i3 dX0_leave_16 ?_
      have e9 := Option.some.inj hf
      subst e9
      exact r_vret rfl dX0_leave_17
set_option maxHeartbeats 4000000 in
set_option maxRecDepth 100000 in
theorem s_X0_leave_T {E : EN} {hX : TX} {hR : TR} {hL : TC} {hK : TK} {hS : TS} {hP : TP} {hM : TM} {C_sample : Int32} {C_plays : Int32} {C_small : Int32} {C_large : Int32} {C_u : Int32} {C_v : Int32} {C_left : Nat → Int32} {C_firsts : Nat → Int32} {C_seconds : Nat → Int32} {C_winners : Nat → Int32} {a0 : Int32} {a1 : Int32} {qR : (Nat → Int32)} (hf : f_X0_leave C_left a0 a1 = some qR) : Sem E yX0_leave cX0_leave 3 none 1 [.ref (eA E 13), .int a0, .int a1] (hX, hR, hL, (C_sample, C_plays, C_small, C_large, C_u, C_v, C_left, C_firsts, C_seconds, C_winners), hK, hS, hP, hM) (none, (hX, hR, hL, (C_sample, C_plays, C_small, C_large, C_u, C_v, qR, C_firsts, C_seconds, C_winners), hK, hS, hP, hM)) := by
  refine Sem.mk (lv := [(0, .ref (eA E 13)), (1, .int a0), (2, .int a1)]) (by decide) (Nat.le_of_ble_eq_true rfl) rfl ?_
  rw [f_X0_leave] at hf
  refine r_iload_n dX0_leave_0 1 rfl ?_
  refine r_if_lt (tgt := 17) dX0_leave_1 (by decide) (fun c1 => ?_) (fun c1 => ?_)
  · have hf := hf_pos c1 hf
    have e9 := Option.some.inj hf
    subst e9
    exact r_vret rfl dX0_leave_17
  · have hf := hf_neg c1 hf
    refine r_iload_n dX0_leave_4 1 rfl ?_
    refine r_bipush (v := 12) dX0_leave_5 (by decide) ?_
    refine r_icmp_ge (tgt := 17) dX0_leave_7 (by decide) (fun c2 => ?_) (fun c2 => ?_)
    · have hf := hf_pos c2 hf
      have e9 := Option.some.inj hf
      subst e9
      exact r_vret rfl dX0_leave_17
    · have hf := hf_neg c2 hf
      refine r_aload_n dX0_leave_10 0 rfl ?_
      refine r_get (v := .ref (eA E 14)) in_X0 13 ga_T rfl 0 (by decide) wd_118 rfl rfl dX0_leave_11 ?_
      refine r_iload_n dX0_leave_14 1 rfl ?_
      refine r_iload_n dX0_leave_15 2 rfl ?_
      obtain ⟨i3, hf⟩ := hf_in hf
      refine r_iast 14 ga_T_left sa_T_left i3 dX0_leave_16 ?_
      have e9 := Option.some.inj hf
      subst e9
      exact r_vret rfl dX0_leave_17
-- DuelSamples$Course.settle
def f_X0_settle (C_u : Int32) (C_v : Int32) (C_left : Nat → Int32) (a0 : Int32) : Option ((Nat → Int32)) := if C_v = (-1) then Option.bind (if a0 = 0 then some 0 else some 12) (fun (q10 : Int32) => Option.bind (f_X0_leave C_left C_u q10) (fun (q11 : (Nat → Int32)) => some q11)) else Option.bind (f_X0_leftOfBoth C_u C_v C_left) (fun (q2 : Int32) => Option.bind (if a0 = 0 then some (q2 - (if 12 < q2 then 12 else q2)) else some (if 12 < q2 then 12 else q2)) (fun (q4 : Int32) => Option.bind (f_X0_leave C_left C_u q4) (fun (q5 : (Nat → Int32)) => Option.bind (if a0 = 0 then some (if 12 < q2 then 12 else q2) else some (q2 - (if 12 < q2 then 12 else q2))) (fun (q7 : Int32) => Option.bind (f_X0_leave q5 C_v q7) (fun (q8 : (Nat → Int32)) => some q8)))))
theorem hy_X0_settle : yX0_settle.cls ≠ "java/lang/invoke/MethodHandle" ∧ yX0_settle.cls ≠ "java/lang/invoke/VarHandle" ∧ (parseMethodDescriptor yX0_settle.desc).map (fun d => d.parameters.length) = some 1 := by decide +kernel
set_option maxHeartbeats 4000000 in
set_option maxRecDepth 100000 in
theorem s_X0_settle_L {E : EN} {hX : TX} {hR : TR} {hT : TC} {hK : TK} {hS : TS} {hP : TP} {hM : TM} {C_sample : Int32} {C_plays : Int32} {C_small : Int32} {C_large : Int32} {C_u : Int32} {C_v : Int32} {C_left : Nat → Int32} {C_firsts : Nat → Int32} {C_seconds : Nat → Int32} {C_winners : Nat → Int32} {a0 : Int32} {qR : (Nat → Int32)} (hf : f_X0_settle C_u C_v C_left a0 = some qR) : Sem E yX0_settle cX0_settle 4 none 3 [.ref (eA E 8), .int a0] (hX, hR, (C_sample, C_plays, C_small, C_large, C_u, C_v, C_left, C_firsts, C_seconds, C_winners), hT, hK, hS, hP, hM) (none, (hX, hR, (C_sample, C_plays, C_small, C_large, C_u, C_v, qR, C_firsts, C_seconds, C_winners), hT, hK, hS, hP, hM)) := by
  refine Sem.mk (lv := [(0, .ref (eA E 8)), (1, .int a0)]) (by decide) (Nat.le_of_ble_eq_true rfl) rfl ?_
  rw [f_X0_settle] at hf
  refine r_aload_n dX0_settle_0 0 rfl ?_
  refine r_get (v := .int C_v) in_X0 8 ga_L rfl 9 (by decide) wd_130 rfl rfl dX0_settle_1 ?_
  refine r_iconst (v := (-1)) dX0_settle_4 (by decide) ?_
  refine r_icmp_ne (tgt := 27) dX0_settle_5 (by decide) (fun c1 => ?_) (fun c1 => ?_)
  · have hf := hf_neg c1 hf
    refine r_aload_n dX0_settle_27 0 rfl ?_
    obtain ⟨q2, hq2, hf⟩ := hf_bind hf
    refine r_callVi (As := []) (b := (eA E 8)) (st := []) (s_X0_leftOfBoth_L hq2) (by decide) (by decide) wd_401 wd_403 wd_11 wd_70 wd_404 hy_X0_leftOfBoth (Rc.obj 8 ga_L rfl) rfl (Nat.le_of_ble_eq_true rfl) dX0_settle_28 ?_
    refine r_istore_n (lv2 := [(2, .int q2), (0, .ref (eA E 8)), (1, .int a0)]) dX0_settle_31 rfl (by decide) rfl ?_
    refine r_iload_n dX0_settle_32 0 rfl ?_
    refine r_bipush (v := 12) dX0_settle_33 (by decide) ?_
    refine r_mmin wd_426 wd_427 wd_75 wd_428 (by decide) (Nat.le_of_ble_eq_true rfl) dX0_settle_35 ?_
    refine r_istore_n (lv2 := [(3, .int (if 12 < q2 then 12 else q2)), (2, .int q2), (0, .ref (eA E 8)), (1, .int a0)]) dX0_settle_38 rfl (by decide) rfl ?_
    refine r_aload_n dX0_settle_39 2 rfl ?_
    refine r_aload_n dX0_settle_40 2 rfl ?_
    refine r_get (v := .int C_u) in_X0 8 ga_L rfl 8 (by decide) wd_128 rfl rfl dX0_settle_41 ?_
    refine r_iload_n dX0_settle_44 3 rfl ?_
    obtain ⟨q4, hq4, hf⟩ := hf_bind hf
    have kj4 : Wa E yX0_settle cX0_settle 4 none 3 (none, (hX, hR, (C_sample, C_plays, C_small, C_large, C_u, C_v, qR, C_firsts, C_seconds, C_winners), hT, hK, hS, hP, hM)) 55 [(0, .ref (eA E 8)), (1, .int a0), (2, .int q2), (3, .int (if 12 < q2 then 12 else q2))] [.int q4, .int C_u, .ref (eA E 8)] (hX, hR, (C_sample, C_plays, C_small, C_large, C_u, C_v, C_left, C_firsts, C_seconds, C_winners), hT, hK, hS, hP, hM) := by
      obtain ⟨q5, hq5, hf⟩ := hf_bind hf
      refine r_callVv (As := [.int C_u, .int q4]) (b := (eA E 8)) (st := []) (s_X0_leave_L hq5) (by decide) (by decide) wd_422 wd_424 wd_14 wd_70 wd_425 hy_X0_leave (Rc.obj 8 ga_L rfl) rfl (Nat.le_of_ble_eq_true rfl) dX0_settle_55 ?_
      refine r_aload_n dX0_settle_58 0 rfl ?_
      refine r_aload_n dX0_settle_59 0 rfl ?_
      refine r_get (v := .int C_v) in_X0 8 ga_L rfl 9 (by decide) wd_130 rfl rfl dX0_settle_60 ?_
      refine r_iload_n dX0_settle_63 1 rfl ?_
      obtain ⟨q7, hq7, hf⟩ := hf_bind hf
      have kj7 : Wa E yX0_settle cX0_settle 4 none 3 (none, (hX, hR, (C_sample, C_plays, C_small, C_large, C_u, C_v, qR, C_firsts, C_seconds, C_winners), hT, hK, hS, hP, hM)) 74 [] [.int q7, .int C_v, .ref (eA E 8)] (hX, hR, (C_sample, C_plays, C_small, C_large, C_u, C_v, q5, C_firsts, C_seconds, C_winners), hT, hK, hS, hP, hM) := by
        obtain ⟨q8, hq8, hf⟩ := hf_bind hf
        refine r_callVv (As := [.int C_v, .int q7]) (b := (eA E 8)) (st := []) (s_X0_leave_L hq8) (by decide) (by decide) wd_422 wd_424 wd_14 wd_70 wd_425 hy_X0_leave (Rc.obj 8 ga_L rfl) rfl (Nat.le_of_ble_eq_true rfl) dX0_settle_74 ?_
        have e9 := Option.some.inj hf
        subst e9
        exact r_vret rfl dX0_settle_77
      have hf := hq7
      refine r_if_eq (tgt := 73) dX0_settle_64 (by decide) (fun c6 => ?_) (fun c6 => ?_)
      · have hf := hf_pos c6 hf
        refine r_iload_n dX0_settle_73 3 rfl ?_
        have e9 := Option.some.inj hf
        subst e9
        exact (Wa.sub [] rfl kj7)
      · have hf := hf_neg c6 hf
        refine r_iload_n dX0_settle_67 2 rfl ?_
        refine r_iload_n dX0_settle_68 3 rfl ?_
        refine r_isub dX0_settle_69 ?_
        refine r_goto (tgt := 74) dX0_settle_70 (by decide) ?_
        have e9 := Option.some.inj hf
        subst e9
        exact (Wa.sub [] rfl kj7)
    have hf := hq4
    refine r_if_eq (tgt := 52) dX0_settle_45 (by decide) (fun c3 => ?_) (fun c3 => ?_)
    · have hf := hf_pos c3 hf
      refine r_iload_n dX0_settle_52 1 rfl ?_
      refine r_iload_n dX0_settle_53 0 rfl ?_
      refine r_isub dX0_settle_54 ?_
      have e9 := Option.some.inj hf
      subst e9
      exact (Wa.sub [2, 3, 1, 0] rfl kj4)
    · have hf := hf_neg c3 hf
      refine r_iload_n dX0_settle_48 0 rfl ?_
      refine r_goto (tgt := 55) dX0_settle_49 (by decide) ?_
      have e9 := Option.some.inj hf
      subst e9
      exact (Wa.sub [2, 3, 1, 0] rfl kj4)
  · have hf := hf_pos c1 hf
    refine r_aload_n dX0_settle_8 0 rfl ?_
    refine r_aload_n dX0_settle_9 0 rfl ?_
    refine r_get (v := .int C_u) in_X0 8 ga_L rfl 8 (by decide) wd_128 rfl rfl dX0_settle_10 ?_
    refine r_iload_n dX0_settle_13 1 rfl ?_
    obtain ⟨q10, hq10, hf⟩ := hf_bind hf
    have kj10 : Wa E yX0_settle cX0_settle 4 none 3 (none, (hX, hR, (C_sample, C_plays, C_small, C_large, C_u, C_v, qR, C_firsts, C_seconds, C_winners), hT, hK, hS, hP, hM)) 23 [] [.int q10, .int C_u, .ref (eA E 8)] (hX, hR, (C_sample, C_plays, C_small, C_large, C_u, C_v, C_left, C_firsts, C_seconds, C_winners), hT, hK, hS, hP, hM) := by
      obtain ⟨q11, hq11, hf⟩ := hf_bind hf
      refine r_callVv (As := [.int C_u, .int q10]) (b := (eA E 8)) (st := []) (s_X0_leave_L hq11) (by decide) (by decide) wd_422 wd_424 wd_14 wd_70 wd_425 hy_X0_leave (Rc.obj 8 ga_L rfl) rfl (Nat.le_of_ble_eq_true rfl) dX0_settle_23 ?_
      have e9 := Option.some.inj hf
      subst e9
      exact r_vret rfl dX0_settle_26
    have hf := hq10
    refine r_if_eq (tgt := 22) dX0_settle_14 (by decide) (fun c9 => ?_) (fun c9 => ?_)
    · have hf := hf_pos c9 hf
      refine r_iconst (v := 0) dX0_settle_22 (by decide) ?_
      have e9 := Option.some.inj hf
      subst e9
      exact (Wa.sub [] rfl kj10)
    · have hf := hf_neg c9 hf
      refine r_bipush (v := 12) dX0_settle_17 (by decide) ?_
      refine r_goto (tgt := 23) dX0_settle_19 (by decide) ?_
      have e9 := Option.some.inj hf
      subst e9
      exact (Wa.sub [] rfl kj10)
set_option maxHeartbeats 4000000 in
set_option maxRecDepth 100000 in
theorem s_X0_settle_T {E : EN} {hX : TX} {hR : TR} {hL : TC} {hK : TK} {hS : TS} {hP : TP} {hM : TM} {C_sample : Int32} {C_plays : Int32} {C_small : Int32} {C_large : Int32} {C_u : Int32} {C_v : Int32} {C_left : Nat → Int32} {C_firsts : Nat → Int32} {C_seconds : Nat → Int32} {C_winners : Nat → Int32} {a0 : Int32} {qR : (Nat → Int32)} (hf : f_X0_settle C_u C_v C_left a0 = some qR) : Sem E yX0_settle cX0_settle 4 none 3 [.ref (eA E 13), .int a0] (hX, hR, hL, (C_sample, C_plays, C_small, C_large, C_u, C_v, C_left, C_firsts, C_seconds, C_winners), hK, hS, hP, hM) (none, (hX, hR, hL, (C_sample, C_plays, C_small, C_large, C_u, C_v, qR, C_firsts, C_seconds, C_winners), hK, hS, hP, hM)) := by
  refine Sem.mk (lv := [(0, .ref (eA E 13)), (1, .int a0)]) (by decide) (Nat.le_of_ble_eq_true rfl) rfl ?_
  rw [f_X0_settle] at hf
  refine r_aload_n dX0_settle_0 0 rfl ?_
  refine r_get (v := .int C_v) in_X0 13 ga_T rfl 9 (by decide) wd_130 rfl rfl dX0_settle_1 ?_
  refine r_iconst (v := (-1)) dX0_settle_4 (by decide) ?_
  refine r_icmp_ne (tgt := 27) dX0_settle_5 (by decide) (fun c1 => ?_) (fun c1 => ?_)
  · have hf := hf_neg c1 hf
    refine r_aload_n dX0_settle_27 0 rfl ?_
    obtain ⟨q2, hq2, hf⟩ := hf_bind hf
    refine r_callVi (As := []) (b := (eA E 13)) (st := []) (s_X0_leftOfBoth_T hq2) (by decide) (by decide) wd_401 wd_403 wd_11 wd_70 wd_404 hy_X0_leftOfBoth (Rc.obj 13 ga_T rfl) rfl (Nat.le_of_ble_eq_true rfl) dX0_settle_28 ?_
    refine r_istore_n (lv2 := [(2, .int q2), (0, .ref (eA E 13)), (1, .int a0)]) dX0_settle_31 rfl (by decide) rfl ?_
    refine r_iload_n dX0_settle_32 0 rfl ?_
    refine r_bipush (v := 12) dX0_settle_33 (by decide) ?_
    refine r_mmin wd_426 wd_427 wd_75 wd_428 (by decide) (Nat.le_of_ble_eq_true rfl) dX0_settle_35 ?_
    refine r_istore_n (lv2 := [(3, .int (if 12 < q2 then 12 else q2)), (2, .int q2), (0, .ref (eA E 13)), (1, .int a0)]) dX0_settle_38 rfl (by decide) rfl ?_
    refine r_aload_n dX0_settle_39 2 rfl ?_
    refine r_aload_n dX0_settle_40 2 rfl ?_
    refine r_get (v := .int C_u) in_X0 13 ga_T rfl 8 (by decide) wd_128 rfl rfl dX0_settle_41 ?_
    refine r_iload_n dX0_settle_44 3 rfl ?_
    obtain ⟨q4, hq4, hf⟩ := hf_bind hf
    have kj4 : Wa E yX0_settle cX0_settle 4 none 3 (none, (hX, hR, hL, (C_sample, C_plays, C_small, C_large, C_u, C_v, qR, C_firsts, C_seconds, C_winners), hK, hS, hP, hM)) 55 [(0, .ref (eA E 13)), (1, .int a0), (2, .int q2), (3, .int (if 12 < q2 then 12 else q2))] [.int q4, .int C_u, .ref (eA E 13)] (hX, hR, hL, (C_sample, C_plays, C_small, C_large, C_u, C_v, C_left, C_firsts, C_seconds, C_winners), hK, hS, hP, hM) := by
      obtain ⟨q5, hq5, hf⟩ := hf_bind hf
      refine r_callVv (As := [.int C_u, .int q4]) (b := (eA E 13)) (st := []) (s_X0_leave_T hq5) (by decide) (by decide) wd_422 wd_424 wd_14 wd_70 wd_425 hy_X0_leave (Rc.obj 13 ga_T rfl) rfl (Nat.le_of_ble_eq_true rfl) dX0_settle_55 ?_
      refine r_aload_n dX0_settle_58 0 rfl ?_
      refine r_aload_n dX0_settle_59 0 rfl ?_
      refine r_get (v := .int C_v) in_X0 13 ga_T rfl 9 (by decide) wd_130 rfl rfl dX0_settle_60 ?_
      refine r_iload_n dX0_settle_63 1 rfl ?_
      obtain ⟨q7, hq7, hf⟩ := hf_bind hf
      have kj7 : Wa E yX0_settle cX0_settle 4 none 3 (none, (hX, hR, hL, (C_sample, C_plays, C_small, C_large, C_u, C_v, qR, C_firsts, C_seconds, C_winners), hK, hS, hP, hM)) 74 [] [.int q7, .int C_v, .ref (eA E 13)] (hX, hR, hL, (C_sample, C_plays, C_small, C_large, C_u, C_v, q5, C_firsts, C_seconds, C_winners), hK, hS, hP, hM) := by
        obtain ⟨q8, hq8, hf⟩ := hf_bind hf
        refine r_callVv (As := [.int C_v, .int q7]) (b := (eA E 13)) (st := []) (s_X0_leave_T hq8) (by decide) (by decide) wd_422 wd_424 wd_14 wd_70 wd_425 hy_X0_leave (Rc.obj 13 ga_T rfl) rfl (Nat.le_of_ble_eq_true rfl) dX0_settle_74 ?_
        have e9 := Option.some.inj hf
        subst e9
        exact r_vret rfl dX0_settle_77
      have hf := hq7
      refine r_if_eq (tgt := 73) dX0_settle_64 (by decide) (fun c6 => ?_) (fun c6 => ?_)
      · have hf := hf_pos c6 hf
        refine r_iload_n dX0_settle_73 3 rfl ?_
        have e9 := Option.some.inj hf
        subst e9
        exact (Wa.sub [] rfl kj7)
      · have hf := hf_neg c6 hf
        refine r_iload_n dX0_settle_67 2 rfl ?_
        refine r_iload_n dX0_settle_68 3 rfl ?_
        refine r_isub dX0_settle_69 ?_
        refine r_goto (tgt := 74) dX0_settle_70 (by decide) ?_
        have e9 := Option.some.inj hf
        subst e9
        exact (Wa.sub [] rfl kj7)
    have hf := hq4
    refine r_if_eq (tgt := 52) dX0_settle_45 (by decide) (fun c3 => ?_) (fun c3 => ?_)
    · have hf := hf_pos c3 hf
      refine r_iload_n dX0_settle_52 1 rfl ?_
      refine r_iload_n dX0_settle_53 0 rfl ?_
      refine r_isub dX0_settle_54 ?_
      have e9 := Option.some.inj hf
      subst e9
      exact (Wa.sub [2, 3, 1, 0] rfl kj4)
    · have hf := hf_neg c3 hf
      refine r_iload_n dX0_settle_48 0 rfl ?_
      refine r_goto (tgt := 55) dX0_settle_49 (by decide) ?_
      have e9 := Option.some.inj hf
      subst e9
      exact (Wa.sub [2, 3, 1, 0] rfl kj4)
  · have hf := hf_pos c1 hf
    refine r_aload_n dX0_settle_8 0 rfl ?_
    refine r_aload_n dX0_settle_9 0 rfl ?_
    refine r_get (v := .int C_u) in_X0 13 ga_T rfl 8 (by decide) wd_128 rfl rfl dX0_settle_10 ?_
    refine r_iload_n dX0_settle_13 1 rfl ?_
    obtain ⟨q10, hq10, hf⟩ := hf_bind hf
    have kj10 : Wa E yX0_settle cX0_settle 4 none 3 (none, (hX, hR, hL, (C_sample, C_plays, C_small, C_large, C_u, C_v, qR, C_firsts, C_seconds, C_winners), hK, hS, hP, hM)) 23 [] [.int q10, .int C_u, .ref (eA E 13)] (hX, hR, hL, (C_sample, C_plays, C_small, C_large, C_u, C_v, C_left, C_firsts, C_seconds, C_winners), hK, hS, hP, hM) := by
      obtain ⟨q11, hq11, hf⟩ := hf_bind hf
      refine r_callVv (As := [.int C_u, .int q10]) (b := (eA E 13)) (st := []) (s_X0_leave_T hq11) (by decide) (by decide) wd_422 wd_424 wd_14 wd_70 wd_425 hy_X0_leave (Rc.obj 13 ga_T rfl) rfl (Nat.le_of_ble_eq_true rfl) dX0_settle_23 ?_
      have e9 := Option.some.inj hf
      subst e9
      exact r_vret rfl dX0_settle_26
    have hf := hq10
    refine r_if_eq (tgt := 22) dX0_settle_14 (by decide) (fun c9 => ?_) (fun c9 => ?_)
    · have hf := hf_pos c9 hf
      refine r_iconst (v := 0) dX0_settle_22 (by decide) ?_
      have e9 := Option.some.inj hf
      subst e9
      exact (Wa.sub [] rfl kj10)
    · have hf := hf_neg c9 hf
      refine r_bipush (v := 12) dX0_settle_17 (by decide) ?_
      refine r_goto (tgt := 23) dX0_settle_19 (by decide) ?_
      have e9 := Option.some.inj hf
      subst e9
      exact (Wa.sub [] rfl kj10)
-- DuelSamples$Course.wholeOnes
def lp_X0_wholeOnes_4 (C_left : Nat → Int32) : Nat → Int32 → Int32 → Option (Int32)
  | 0, _, _ => none
  | n9 + 1, v1_4, v2_4 => if 12 ≤ v2_4 then some v1_4 else if inB v2_4 12 then Option.bind (if (C_left (Int32.toNatClampNeg v2_4)) = 12 then some (v1_4 ||| (1 <<< (v2_4 &&& 31))) else some v1_4) (fun (q4 : Int32) => lp_X0_wholeOnes_4 C_left n9 q4 (v2_4 + 1)) else none
def f_X0_wholeOnes (C_left : Nat → Int32)  : Option (Int32) := Option.bind (lp_X0_wholeOnes_4 C_left FU 0 0) (fun (q5 : Int32) => some q5)
theorem hy_X0_wholeOnes : yX0_wholeOnes.cls ≠ "java/lang/invoke/MethodHandle" ∧ yX0_wholeOnes.cls ≠ "java/lang/invoke/VarHandle" ∧ (parseMethodDescriptor yX0_wholeOnes.desc).map (fun d => d.parameters.length) = some 0 := by decide +kernel
set_option maxHeartbeats 4000000 in
set_option maxRecDepth 100000 in
theorem w_X0_wholeOnes_4_L {E : EN} {res : Option Value × Hp} {hX : TX} {hR : TR} {hT : TC} {hK : TK} {hS : TS} {hP : TP} {hM : TM} {C_sample : Int32} {C_plays : Int32} {C_small : Int32} {C_large : Int32} {C_u : Int32} {C_v : Int32} {C_left : Nat → Int32} {C_firsts : Nat → Int32} {C_seconds : Nat → Int32} {C_winners : Nat → Int32} : ∀ (n9 : Nat) (v1_4 : Int32) (v2_4 : Int32) (qL : Int32), lp_X0_wholeOnes_4 C_left n9 v1_4 v2_4 = some qL → (Wa E yX0_wholeOnes cX0_wholeOnes 3 (some .int) 1 res 33 [(1, .int qL)] [] (hX, hR, (C_sample, C_plays, C_small, C_large, C_u, C_v, C_left, C_firsts, C_seconds, C_winners), hT, hK, hS, hP, hM)) → Wa E yX0_wholeOnes cX0_wholeOnes 3 (some .int) 1 res 4 [(0, .ref (eA E 8)), (1, .int v1_4), (2, .int v2_4)] [] (hX, hR, (C_sample, C_plays, C_small, C_large, C_u, C_v, C_left, C_firsts, C_seconds, C_winners), hT, hK, hS, hP, hM) := by
  intro n9
  induction n9 with
  | zero =>
    intro v1_4 v2_4 qL hf
    exact nomatch (show (none : Option (Int32)) = some qL from hf)
  | succ n9 ih =>
    intro v1_4 v2_4 qL hf kx0
    rw [lp_X0_wholeOnes_4] at hf
    refine r_iload_n dX0_wholeOnes_4 2 rfl ?_
    refine r_bipush (v := 12) dX0_wholeOnes_5 (by decide) ?_
    refine r_icmp_ge (tgt := 33) dX0_wholeOnes_7 (by decide) (fun c1 => ?_) (fun c1 => ?_)
    · have hf := hf_pos c1 hf
      have e9 := Option.some.inj hf
      subst e9
      exact (Wa.sub [1] rfl kx0)
    · have hf := hf_neg c1 hf
      refine r_aload_n dX0_wholeOnes_10 0 rfl ?_
      refine r_get (v := .ref (eA E 9)) in_X0 8 ga_L rfl 0 (by decide) wd_118 rfl rfl dX0_wholeOnes_11 ?_
      refine r_iload_n dX0_wholeOnes_14 2 rfl ?_
      obtain ⟨i2, hf⟩ := hf_in hf
      refine r_iald (f := C_left) 9 ga_L_left i2 dX0_wholeOnes_15 ?_
      refine r_bipush (v := 12) dX0_wholeOnes_16 (by decide) ?_
      obtain ⟨q4, hq4, hf⟩ := hf_bind hf
      have kj4 : Wa E yX0_wholeOnes cX0_wholeOnes 3 (some .int) 1 res 27 [(0, .ref (eA E 8)), (1, .int q4), (2, .int v2_4)] [] (hX, hR, (C_sample, C_plays, C_small, C_large, C_u, C_v, C_left, C_firsts, C_seconds, C_winners), hT, hK, hS, hP, hM) := by
        refine r_iinc (v := (v2_4 + 1)) (lv2 := [(2, .int (v2_4 + 1)), (0, .ref (eA E 8)), (1, .int q4)]) dX0_wholeOnes_27 2 rfl rfl (by decide) rfl ?_
        refine r_goto (tgt := 4) dX0_wholeOnes_30 (by decide) ?_
        exact (Wa.sub [1, 2, 0] rfl (ih _ _ _ hf kx0))
      have hf := hq4
      refine r_icmp_ne (tgt := 27) dX0_wholeOnes_18 (by decide) (fun c3 => ?_) (fun c3 => ?_)
      · have hf := hf_neg c3 hf
        have e9 := Option.some.inj hf
        subst e9
        exact kj4
      · have hf := hf_pos c3 hf
        refine r_iload_n dX0_wholeOnes_21 1 rfl ?_
        refine r_iconst (v := 1) dX0_wholeOnes_22 (by decide) ?_
        refine r_iload_n dX0_wholeOnes_23 2 rfl ?_
        refine r_ishl dX0_wholeOnes_24 ?_
        refine r_ior dX0_wholeOnes_25 ?_
        refine r_istore_n (lv2 := [(1, .int (v1_4 ||| (1 <<< (v2_4 &&& 31)))), (0, .ref (eA E 8)), (2, .int v2_4)]) dX0_wholeOnes_26 rfl (by decide) rfl ?_
        have e9 := Option.some.inj hf
        subst e9
        exact (Wa.sub [1, 0, 2] rfl kj4)
set_option maxHeartbeats 4000000 in
set_option maxRecDepth 100000 in
theorem s_X0_wholeOnes_L {E : EN} {hX : TX} {hR : TR} {hT : TC} {hK : TK} {hS : TS} {hP : TP} {hM : TM} {C_sample : Int32} {C_plays : Int32} {C_small : Int32} {C_large : Int32} {C_u : Int32} {C_v : Int32} {C_left : Nat → Int32} {C_firsts : Nat → Int32} {C_seconds : Nat → Int32} {C_winners : Nat → Int32}  {qR : Int32} (hf : f_X0_wholeOnes C_left = some qR) : Sem E yX0_wholeOnes cX0_wholeOnes 3 (some .int) 1 [.ref (eA E 8)] (hX, hR, (C_sample, C_plays, C_small, C_large, C_u, C_v, C_left, C_firsts, C_seconds, C_winners), hT, hK, hS, hP, hM) (some (.int qR), (hX, hR, (C_sample, C_plays, C_small, C_large, C_u, C_v, C_left, C_firsts, C_seconds, C_winners), hT, hK, hS, hP, hM)) := by
  refine Sem.mk (lv := [(0, .ref (eA E 8))]) (by decide) (Nat.le_of_ble_eq_true rfl) rfl ?_
  rw [f_X0_wholeOnes] at hf
  refine r_iconst (v := 0) dX0_wholeOnes_0 (by decide) ?_
  refine r_istore_n (lv2 := [(1, .int 0), (0, .ref (eA E 8))]) dX0_wholeOnes_1 rfl (by decide) rfl ?_
  refine r_iconst (v := 0) dX0_wholeOnes_2 (by decide) ?_
  refine r_istore_n (lv2 := [(2, .int 0), (1, .int 0), (0, .ref (eA E 8))]) dX0_wholeOnes_3 rfl (by decide) rfl ?_
  obtain ⟨q5, hq5, hf⟩ := hf_bind hf
  refine (Wa.sub [2, 1, 0] rfl (w_X0_wholeOnes_4_L _ _ _ _ hq5 ?_))
  refine r_iload_n dX0_wholeOnes_33 0 rfl ?_
  have e9 := Option.some.inj hf
  subst e9
  exact r_iret rfl dX0_wholeOnes_34
set_option maxHeartbeats 4000000 in
set_option maxRecDepth 100000 in
theorem w_X0_wholeOnes_4_T {E : EN} {res : Option Value × Hp} {hX : TX} {hR : TR} {hL : TC} {hK : TK} {hS : TS} {hP : TP} {hM : TM} {C_sample : Int32} {C_plays : Int32} {C_small : Int32} {C_large : Int32} {C_u : Int32} {C_v : Int32} {C_left : Nat → Int32} {C_firsts : Nat → Int32} {C_seconds : Nat → Int32} {C_winners : Nat → Int32} : ∀ (n9 : Nat) (v1_4 : Int32) (v2_4 : Int32) (qL : Int32), lp_X0_wholeOnes_4 C_left n9 v1_4 v2_4 = some qL → (Wa E yX0_wholeOnes cX0_wholeOnes 3 (some .int) 1 res 33 [(1, .int qL)] [] (hX, hR, hL, (C_sample, C_plays, C_small, C_large, C_u, C_v, C_left, C_firsts, C_seconds, C_winners), hK, hS, hP, hM)) → Wa E yX0_wholeOnes cX0_wholeOnes 3 (some .int) 1 res 4 [(0, .ref (eA E 13)), (1, .int v1_4), (2, .int v2_4)] [] (hX, hR, hL, (C_sample, C_plays, C_small, C_large, C_u, C_v, C_left, C_firsts, C_seconds, C_winners), hK, hS, hP, hM) := by
  intro n9
  induction n9 with
  | zero =>
    intro v1_4 v2_4 qL hf
    exact nomatch (show (none : Option (Int32)) = some qL from hf)
  | succ n9 ih =>
    intro v1_4 v2_4 qL hf kx0
    rw [lp_X0_wholeOnes_4] at hf
    refine r_iload_n dX0_wholeOnes_4 2 rfl ?_
    refine r_bipush (v := 12) dX0_wholeOnes_5 (by decide) ?_
    refine r_icmp_ge (tgt := 33) dX0_wholeOnes_7 (by decide) (fun c1 => ?_) (fun c1 => ?_)
    · have hf := hf_pos c1 hf
      have e9 := Option.some.inj hf
      subst e9
      exact (Wa.sub [1] rfl kx0)
    · have hf := hf_neg c1 hf
      refine r_aload_n dX0_wholeOnes_10 0 rfl ?_
      refine r_get (v := .ref (eA E 14)) in_X0 13 ga_T rfl 0 (by decide) wd_118 rfl rfl dX0_wholeOnes_11 ?_
      refine r_iload_n dX0_wholeOnes_14 2 rfl ?_
      obtain ⟨i2, hf⟩ := hf_in hf
      refine r_iald (f := C_left) 14 ga_T_left i2 dX0_wholeOnes_15 ?_
      refine r_bipush (v := 12) dX0_wholeOnes_16 (by decide) ?_
      obtain ⟨q4, hq4, hf⟩ := hf_bind hf
      have kj4 : Wa E yX0_wholeOnes cX0_wholeOnes 3 (some .int) 1 res 27 [(0, .ref (eA E 13)), (1, .int q4), (2, .int v2_4)] [] (hX, hR, hL, (C_sample, C_plays, C_small, C_large, C_u, C_v, C_left, C_firsts, C_seconds, C_winners), hK, hS, hP, hM) := by
        refine r_iinc (v := (v2_4 + 1)) (lv2 := [(2, .int (v2_4 + 1)), (0, .ref (eA E 13)), (1, .int q4)]) dX0_wholeOnes_27 2 rfl rfl (by decide) rfl ?_
        refine r_goto (tgt := 4) dX0_wholeOnes_30 (by decide) ?_
        exact (Wa.sub [1, 2, 0] rfl (ih _ _ _ hf kx0))
      have hf := hq4
      refine r_icmp_ne (tgt := 27) dX0_wholeOnes_18 (by decide) (fun c3 => ?_) (fun c3 => ?_)
      · have hf := hf_neg c3 hf
        have e9 := Option.some.inj hf
        subst e9
        exact kj4
      · have hf := hf_pos c3 hf
        refine r_iload_n dX0_wholeOnes_21 1 rfl ?_
        refine r_iconst (v := 1) dX0_wholeOnes_22 (by decide) ?_
        refine r_iload_n dX0_wholeOnes_23 2 rfl ?_
        refine r_ishl dX0_wholeOnes_24 ?_
        refine r_ior dX0_wholeOnes_25 ?_
        refine r_istore_n (lv2 := [(1, .int (v1_4 ||| (1 <<< (v2_4 &&& 31)))), (0, .ref (eA E 13)), (2, .int v2_4)]) dX0_wholeOnes_26 rfl (by decide) rfl ?_
        have e9 := Option.some.inj hf
        subst e9
        exact (Wa.sub [1, 0, 2] rfl kj4)
set_option maxHeartbeats 4000000 in
set_option maxRecDepth 100000 in
theorem s_X0_wholeOnes_T {E : EN} {hX : TX} {hR : TR} {hL : TC} {hK : TK} {hS : TS} {hP : TP} {hM : TM} {C_sample : Int32} {C_plays : Int32} {C_small : Int32} {C_large : Int32} {C_u : Int32} {C_v : Int32} {C_left : Nat → Int32} {C_firsts : Nat → Int32} {C_seconds : Nat → Int32} {C_winners : Nat → Int32}  {qR : Int32} (hf : f_X0_wholeOnes C_left = some qR) : Sem E yX0_wholeOnes cX0_wholeOnes 3 (some .int) 1 [.ref (eA E 13)] (hX, hR, hL, (C_sample, C_plays, C_small, C_large, C_u, C_v, C_left, C_firsts, C_seconds, C_winners), hK, hS, hP, hM) (some (.int qR), (hX, hR, hL, (C_sample, C_plays, C_small, C_large, C_u, C_v, C_left, C_firsts, C_seconds, C_winners), hK, hS, hP, hM)) := by
  refine Sem.mk (lv := [(0, .ref (eA E 13))]) (by decide) (Nat.le_of_ble_eq_true rfl) rfl ?_
  rw [f_X0_wholeOnes] at hf
  refine r_iconst (v := 0) dX0_wholeOnes_0 (by decide) ?_
  refine r_istore_n (lv2 := [(1, .int 0), (0, .ref (eA E 13))]) dX0_wholeOnes_1 rfl (by decide) rfl ?_
  refine r_iconst (v := 0) dX0_wholeOnes_2 (by decide) ?_
  refine r_istore_n (lv2 := [(2, .int 0), (1, .int 0), (0, .ref (eA E 13))]) dX0_wholeOnes_3 rfl (by decide) rfl ?_
  obtain ⟨q5, hq5, hf⟩ := hf_bind hf
  refine (Wa.sub [2, 1, 0] rfl (w_X0_wholeOnes_4_T _ _ _ _ hq5 ?_))
  refine r_iload_n dX0_wholeOnes_33 0 rfl ?_
  have e9 := Option.some.inj hf
  subst e9
  exact r_iret rfl dX0_wholeOnes_34
-- DuelSamples$Course.run
def lp_X0_run_16 (R_count : Int32) (R_F : Nat → Nat → Int32) (a1 : Int32) : Nat → Int64 → Int32 → Int32 → Int32 → Int32 → Int32 → Int32 → (Nat → Int32) → (Nat → Int32) → (Nat → Int32) → (Nat → Int32) → Option (Int32 × Int32 × Int32 × Int32 × Int32 × (Nat → Int32) × (Nat → Int32) × (Nat → Int32) × (Nat → Int32))
  | 0, _, _, _, _, _, _, _, _, _, _, _ => none
  | n9 + 1, v4_16, v6_16, C_plays_16, C_small_16, C_large_16, C_u_16, C_v_16, C_left_16, C_firsts_16, C_seconds_16, C_winners_16 => if 12 ≤ v6_16 then some (C_plays_16, C_small_16, C_large_16, C_u_16, C_v_16, C_left_16, C_firsts_16, C_seconds_16, C_winners_16) else Option.bind (f_X0_pick R_count R_F C_left_16 a1) (fun (q4 : Int32 × Int32 × Int32) => if q4.1 = 0 then some (C_plays_16, C_small_16, C_large_16, q4.2.1, q4.2.2, C_left_16, C_firsts_16, C_seconds_16, C_winners_16) else Option.bind (f_X5_nextX v4_16) (fun (q6 : Int64) => Option.bind (f_X0_chancesOfBoth q4.2.1 q4.2.2 C_left_16) (fun (q7 : Int32) => Option.bind (if q7 ≤ 0 then some 0 else if (Int32.toInt64 q7) = 0 then none else Option.bind (f_X0_chancesOfFirst q4.2.1 q4.2.2 C_left_16) (fun (q11 : Int32) => if 0 ≤ (lg_cmp ((q6 / 65536) - (q6 / 65536) / (Int32.toInt64 q7) * (Int32.toInt64 q7)) (Int32.toInt64 q11)) then some 0 else some 1)) (fun (q9 : Int32) => Option.bind (f_X0_write C_plays_16 C_small_16 C_large_16 q4.2.1 q4.2.2 C_left_16 C_firsts_16 C_seconds_16 C_winners_16 q9) (fun (q13 : Int32 × Int32 × Int32 × (Nat → Int32) × (Nat → Int32) × (Nat → Int32)) => Option.bind (f_X0_settle q4.2.1 q4.2.2 C_left_16 q9) (fun (q14 : (Nat → Int32)) => lp_X0_run_16 R_count R_F a1 n9 q6 (v6_16 + 1) q13.1 q13.2.1 q13.2.2.1 q4.2.1 q4.2.2 q14 q13.2.2.2.1 q13.2.2.2.2.1 q13.2.2.2.2.2))))))
def f_X0_run (R_count : Int32) (R_F : Nat → Nat → Int32) (C_u : Int32) (C_v : Int32) (C_left : Nat → Int32) (C_firsts : Nat → Int32) (C_seconds : Nat → Int32) (C_winners : Nat → Int32) (a1 : Int32) (a2 : Int32) : Option (Int32 × Int32 × Int32 × Int32 × Int32 × Int32 × (Nat → Int32) × (Nat → Int32) × (Nat → Int32) × (Nat → Int32)) := Option.bind (f_X0_forget) (fun (q1 : Int32 × Int32 × Int32 × Int32) => Option.bind (f_X0_begin R_count R_F C_left) (fun (q2 : (Nat → Int32)) => Option.bind (lp_X0_run_16 R_count R_F a1 FU (Int32.toInt64 a2) 0 q1.2.1 q1.2.2.1 q1.2.2.2 C_u C_v q2 C_firsts C_seconds C_winners) (fun (q15 : Int32 × Int32 × Int32 × Int32 × Int32 × (Nat → Int32) × (Nat → Int32) × (Nat → Int32) × (Nat → Int32)) => Option.bind (f_X0_wholeOnes q15.2.2.2.2.2.1) (fun (q16 : Int32) => some (q16, q15.1, q15.2.1, q15.2.2.1, q15.2.2.2.1, q15.2.2.2.2.1, q15.2.2.2.2.2.1, q15.2.2.2.2.2.2.1, q15.2.2.2.2.2.2.2.1, q15.2.2.2.2.2.2.2.2)))))
theorem hy_X0_run : yX0_run.cls ≠ "java/lang/invoke/MethodHandle" ∧ yX0_run.cls ≠ "java/lang/invoke/VarHandle" ∧ (parseMethodDescriptor yX0_run.desc).map (fun d => d.parameters.length) = some 3 := by decide +kernel
set_option maxHeartbeats 4000000 in
set_option maxRecDepth 100000 in
theorem w_X0_run_16_L {E : EN} {res : Option Value × Hp} {hX : TX} {hT : TC} {hK : TK} {hS : TS} {hP : TP} {hM : TM} {a1 : Int32} {R_count : Int32} {R_changes : Int32} {R_F : Nat → Nat → Int32} {q1 : Int32 × Int32 × Int32 × Int32} : ∀ (n9 : Nat) (v4_16 : Int64) (v6_16 : Int32) (C_plays_16 : Int32) (C_small_16 : Int32) (C_large_16 : Int32) (C_u_16 : Int32) (C_v_16 : Int32) (C_left_16 : Nat → Int32) (C_firsts_16 : Nat → Int32) (C_seconds_16 : Nat → Int32) (C_winners_16 : Nat → Int32) (qL : Int32 × Int32 × Int32 × Int32 × Int32 × (Nat → Int32) × (Nat → Int32) × (Nat → Int32) × (Nat → Int32)), lp_X0_run_16 R_count R_F a1 n9 v4_16 v6_16 C_plays_16 C_small_16 C_large_16 C_u_16 C_v_16 C_left_16 C_firsts_16 C_seconds_16 C_winners_16 = some qL → (Wa E yX0_run cX0_run 9 none 5 res 94 [(0, .ref (eA E 8))] [] (hX, (R_count, R_changes, R_F), (q1.1, qL.1, qL.2.1, qL.2.2.1, qL.2.2.2.1, qL.2.2.2.2.1, qL.2.2.2.2.2.1, qL.2.2.2.2.2.2.1, qL.2.2.2.2.2.2.2.1, qL.2.2.2.2.2.2.2.2), hT, hK, hS, hP, hM)) → Wa E yX0_run cX0_run 9 none 5 res 16 [(0, .ref (eA E 8)), (1, .ref (eA E 1)), (2, .int a1), (4, .long v4_16), (6, .int v6_16)] [] (hX, (R_count, R_changes, R_F), (q1.1, C_plays_16, C_small_16, C_large_16, C_u_16, C_v_16, C_left_16, C_firsts_16, C_seconds_16, C_winners_16), hT, hK, hS, hP, hM) := by
  intro n9
  induction n9 with
  | zero =>
    intro v4_16 v6_16 C_plays_16 C_small_16 C_large_16 C_u_16 C_v_16 C_left_16 C_firsts_16 C_seconds_16 C_winners_16 qL hf
    exact nomatch (show (none : Option (Int32 × Int32 × Int32 × Int32 × Int32 × (Nat → Int32) × (Nat → Int32) × (Nat → Int32) × (Nat → Int32))) = some qL from hf)
  | succ n9 ih =>
    intro v4_16 v6_16 C_plays_16 C_small_16 C_large_16 C_u_16 C_v_16 C_left_16 C_firsts_16 C_seconds_16 C_winners_16 qL hf kx0
    rw [lp_X0_run_16] at hf
    refine r_iload dX0_run_16 4 rfl ?_
    refine r_bipush (v := 12) dX0_run_18 (by decide) ?_
    refine r_icmp_ge (tgt := 94) dX0_run_20 (by decide) (fun c3 => ?_) (fun c3 => ?_)
    · have hf := hf_pos c3 hf
      have e9 := Option.some.inj hf
      subst e9
      exact (Wa.sub [0] rfl kx0)
    · have hf := hf_neg c3 hf
      refine r_aload_n dX0_run_23 0 rfl ?_
      refine r_aload_n dX0_run_24 1 rfl ?_
      refine r_iload_n dX0_run_25 2 rfl ?_
      obtain ⟨q4, hq4, hf⟩ := hf_bind hf
      refine r_callVi (As := [.ref (eA E 1), .int a1]) (b := (eA E 8)) (st := []) (s_X0_pick_L hq4) (by decide) (by decide) wd_357 wd_358 wd_359 wd_70 wd_360 hy_X0_pick (Rc.obj 8 ga_L rfl) rfl (Nat.le_of_ble_eq_true rfl) dX0_run_26 ?_
      refine r_if_eq (tgt := 94) dX0_run_29 (by decide) (fun c5 => ?_) (fun c5 => ?_)
      · have hf := hf_pos c5 hf
        have e9 := Option.some.inj hf
        subst e9
        exact (Wa.sub [0] rfl kx0)
      · have hf := hf_neg c5 hf
        refine r_lload dX0_run_32 3 rfl ?_
        obtain ⟨q6, hq6, hf⟩ := hf_bind hf
        refine r_callSNl (As := [.long v4_16]) (st := []) (s_X5_nextX hq6) (by decide) (by decide) wn_396 wd_293 wd_68 wd_294 hy_X5_nextX rfl (Nat.le_of_ble_eq_true rfl) dX0_run_34 ?_
        refine r_lstore (lv2 := [(4, .long q6), (0, .ref (eA E 8)), (1, .ref (eA E 1)), (2, .int a1), (6, .int v6_16)]) dX0_run_37 (by decide) rfl ?_
        refine r_aload_n dX0_run_39 1 rfl ?_
        obtain ⟨q7, hq7, hf⟩ := hf_bind hf
        refine r_callVi (As := []) (b := (eA E 8)) (st := []) (s_X0_chancesOfBoth_L hq7) (by decide) (by decide) wd_397 wd_399 wd_10 wd_70 wd_400 hy_X0_chancesOfBoth (Rc.obj 8 ga_L rfl) rfl (Nat.le_of_ble_eq_true rfl) dX0_run_40 ?_
        refine r_istore (lv2 := [(7, .int q7), (4, .long q6), (0, .ref (eA E 8)), (1, .ref (eA E 1)), (2, .int a1), (6, .int v6_16)]) dX0_run_43 (by decide) rfl ?_
        refine r_iload dX0_run_45 0 rfl ?_
        obtain ⟨q9, hq9, hf⟩ := hf_bind hf
        have kj9 : Wa E yX0_run cX0_run 9 none 5 res 74 [(0, .ref (eA E 8)), (1, .ref (eA E 1)), (2, .int a1), (4, .long q6), (6, .int v6_16)] [.int q9] (hX, (R_count, R_changes, R_F), (q1.1, C_plays_16, C_small_16, C_large_16, q4.2.1, q4.2.2, C_left_16, C_firsts_16, C_seconds_16, C_winners_16), hT, hK, hS, hP, hM) := by
          refine r_istore (lv2 := [(8, .int q9), (0, .ref (eA E 8)), (1, .ref (eA E 1)), (2, .int a1), (4, .long q6), (6, .int v6_16)]) dX0_run_74 (by decide) rfl ?_
          refine r_aload_n dX0_run_76 1 rfl ?_
          refine r_iload dX0_run_77 0 rfl ?_
          obtain ⟨q13, hq13, hf⟩ := hf_bind hf
          refine r_callVv (As := [.int q9]) (b := (eA E 8)) (st := []) (s_X0_write_L hq13) (by decide) (by decide) wd_414 wd_416 wd_13 wd_70 wd_417 hy_X0_write (Rc.obj 8 ga_L rfl) rfl (Nat.le_of_ble_eq_true rfl) dX0_run_79 ?_
          refine r_aload_n dX0_run_82 1 rfl ?_
          refine r_iload dX0_run_83 0 rfl ?_
          obtain ⟨q14, hq14, hf⟩ := hf_bind hf
          refine r_callVv (As := [.int q9]) (b := (eA E 8)) (st := []) (s_X0_settle_L hq14) (by decide) (by decide) wd_418 wd_419 wd_420 wd_70 wd_421 hy_X0_settle (Rc.obj 8 ga_L rfl) rfl (Nat.le_of_ble_eq_true rfl) dX0_run_85 ?_
          refine r_iinc (v := (v6_16 + 1)) (lv2 := [(6, .int (v6_16 + 1)), (8, .int q9), (0, .ref (eA E 8)), (1, .ref (eA E 1)), (2, .int a1), (4, .long q6)]) dX0_run_88 5 rfl rfl (by decide) rfl ?_
          refine r_goto (tgt := 16) dX0_run_91 (by decide) ?_
          exact (Wa.sub [2, 3, 4, 5, 0] rfl (ih _ _ _ _ _ _ _ _ _ _ _ _ hf kx0))
        have hf := hq9
        refine r_if_le (tgt := 73) dX0_run_47 (by decide) (fun c8 => ?_) (fun c8 => ?_)
        · have hf := hf_pos c8 hf
          refine r_iconst (v := 0) dX0_run_73 (by decide) ?_
          have e9 := Option.some.inj hf
          subst e9
          exact (Wa.sub [2, 3, 4, 1, 5] rfl kj9)
        · have hf := hf_neg c8 hf
          refine r_lload dX0_run_50 1 rfl ?_
          refine r_ldc2 (v := 65536) wd_409 dX0_run_52 ?_
          refine r_ldiv dX0_run_55 (by decide) ?_
          refine r_iload dX0_run_56 0 rfl ?_
          refine r_i2l dX0_run_58 ?_
          obtain ⟨z10, hf⟩ := hf_nz hf
          refine r_lrem dX0_run_59 z10 ?_
          refine r_aload_n dX0_run_60 2 rfl ?_
          obtain ⟨q11, hq11, hf⟩ := hf_bind hf
          refine r_callVi (As := []) (b := (eA E 8)) (st := [.long ((q6 / 65536) - (q6 / 65536) / (Int32.toInt64 q7) * (Int32.toInt64 q7))]) (s_X0_chancesOfFirst_L hq11) (by decide) (by decide) wd_410 wd_412 wd_12 wd_70 wd_413 hy_X0_chancesOfFirst (Rc.obj 8 ga_L rfl) rfl (Nat.le_of_ble_eq_true rfl) dX0_run_61 ?_
          refine r_i2l dX0_run_64 ?_
          refine r_lcmp dX0_run_65 ?_
          refine r_if_ge (tgt := 73) dX0_run_66 (by decide) (fun c12 => ?_) (fun c12 => ?_)
          · have hf := hf_pos c12 hf
            refine r_iconst (v := 0) dX0_run_73 (by decide) ?_
            have e9 := Option.some.inj hf
            subst e9
            exact (Wa.sub [2, 3, 4, 1, 5] rfl kj9)
          · have hf := hf_neg c12 hf
            refine r_iconst (v := 1) dX0_run_69 (by decide) ?_
            refine r_goto (tgt := 74) dX0_run_70 (by decide) ?_
            have e9 := Option.some.inj hf
            subst e9
            exact (Wa.sub [2, 3, 4, 1, 5] rfl kj9)
set_option maxHeartbeats 4000000 in
set_option maxRecDepth 100000 in
theorem s_X0_run_L {E : EN} {hX : TX} {hT : TC} {hK : TK} {hS : TS} {hP : TP} {hM : TM} {R_count : Int32} {R_changes : Int32} {R_F : Nat → Nat → Int32} {C_sample : Int32} {C_plays : Int32} {C_small : Int32} {C_large : Int32} {C_u : Int32} {C_v : Int32} {C_left : Nat → Int32} {C_firsts : Nat → Int32} {C_seconds : Nat → Int32} {C_winners : Nat → Int32} {a1 : Int32} {a2 : Int32} {qR : Int32 × Int32 × Int32 × Int32 × Int32 × Int32 × (Nat → Int32) × (Nat → Int32) × (Nat → Int32) × (Nat → Int32)} (hf : f_X0_run R_count R_F C_u C_v C_left C_firsts C_seconds C_winners a1 a2 = some qR) : Sem E yX0_run cX0_run 9 none 5 [.ref (eA E 8), .ref (eA E 1), .int a1, .int a2] (hX, (R_count, R_changes, R_F), (C_sample, C_plays, C_small, C_large, C_u, C_v, C_left, C_firsts, C_seconds, C_winners), hT, hK, hS, hP, hM) (none, (hX, (R_count, R_changes, R_F), (qR.1, qR.2.1, qR.2.2.1, qR.2.2.2.1, qR.2.2.2.2.1, qR.2.2.2.2.2.1, qR.2.2.2.2.2.2.1, qR.2.2.2.2.2.2.2.1, qR.2.2.2.2.2.2.2.2.1, qR.2.2.2.2.2.2.2.2.2), hT, hK, hS, hP, hM)) := by
  refine Sem.mk (lv := [(0, .ref (eA E 8)), (1, .ref (eA E 1)), (2, .int a1), (3, .int a2)]) (by decide) (Nat.le_of_ble_eq_true rfl) rfl ?_
  rw [f_X0_run] at hf
  refine r_aload_n dX0_run_0 0 rfl ?_
  obtain ⟨q1, hq1, hf⟩ := hf_bind hf
  refine r_callVv (As := []) (b := (eA E 8)) (st := []) (s_X0_forget_L hq1) (by decide) (by decide) wd_351 wd_281 wd_282 wd_70 wd_283 hy_X0_forget (Rc.obj 8 ga_L rfl) rfl (Nat.le_of_ble_eq_true rfl) dX0_run_1 ?_
  refine r_aload_n dX0_run_4 0 rfl ?_
  refine r_aload_n dX0_run_5 1 rfl ?_
  obtain ⟨q2, hq2, hf⟩ := hf_bind hf
  refine r_callVv (As := [.ref (eA E 1)]) (b := (eA E 8)) (st := []) (s_X0_begin_L hq2) (by decide) (by decide) wd_352 wd_353 wd_354 wd_70 wd_355 hy_X0_begin (Rc.obj 8 ga_L rfl) rfl (Nat.le_of_ble_eq_true rfl) dX0_run_6 ?_
  refine r_iload_n dX0_run_9 3 rfl ?_
  refine r_i2l dX0_run_10 ?_
  refine r_lstore (lv2 := [(4, .long (Int32.toInt64 a2)), (0, .ref (eA E 8)), (1, .ref (eA E 1)), (2, .int a1), (3, .int a2)]) dX0_run_11 (by decide) rfl ?_
  refine r_iconst (v := 0) dX0_run_13 (by decide) ?_
  refine r_istore (lv2 := [(6, .int 0), (4, .long (Int32.toInt64 a2)), (0, .ref (eA E 8)), (1, .ref (eA E 1)), (2, .int a1), (3, .int a2)]) dX0_run_14 (by decide) rfl ?_
  obtain ⟨q15, hq15, hf⟩ := hf_bind hf
  refine (Wa.sub [2, 3, 4, 1, 0] rfl (w_X0_run_16_L _ _ _ _ _ _ _ _ _ _ _ _ _ hq15 ?_))
  refine r_aload_n dX0_run_94 0 rfl ?_
  refine r_aload_n dX0_run_95 0 rfl ?_
  obtain ⟨q16, hq16, hf⟩ := hf_bind hf
  refine r_callVi (As := []) (b := (eA E 8)) (st := [.ref (eA E 8)]) (s_X0_wholeOnes_L hq16) (by decide) (by decide) wd_429 wd_430 wd_431 wd_70 wd_432 hy_X0_wholeOnes (Rc.obj 8 ga_L rfl) rfl (Nat.le_of_ble_eq_true rfl) dX0_run_96 ?_
  refine r_put in_X0 tyX0_ok nmX0 8 ga_L rfl 4 (by decide) wd_122 rfl rfl pfI (Nat.le_of_ble_eq_true rfl) sa_L_sample dX0_run_99 ?_
  have e9 := Option.some.inj hf
  subst e9
  exact r_vret rfl dX0_run_102
set_option maxHeartbeats 4000000 in
set_option maxRecDepth 100000 in
theorem w_X0_run_16_T {E : EN} {res : Option Value × Hp} {hX : TX} {hL : TC} {hK : TK} {hS : TS} {hP : TP} {hM : TM} {a1 : Int32} {R_count : Int32} {R_changes : Int32} {R_F : Nat → Nat → Int32} {q1 : Int32 × Int32 × Int32 × Int32} : ∀ (n9 : Nat) (v4_16 : Int64) (v6_16 : Int32) (C_plays_16 : Int32) (C_small_16 : Int32) (C_large_16 : Int32) (C_u_16 : Int32) (C_v_16 : Int32) (C_left_16 : Nat → Int32) (C_firsts_16 : Nat → Int32) (C_seconds_16 : Nat → Int32) (C_winners_16 : Nat → Int32) (qL : Int32 × Int32 × Int32 × Int32 × Int32 × (Nat → Int32) × (Nat → Int32) × (Nat → Int32) × (Nat → Int32)), lp_X0_run_16 R_count R_F a1 n9 v4_16 v6_16 C_plays_16 C_small_16 C_large_16 C_u_16 C_v_16 C_left_16 C_firsts_16 C_seconds_16 C_winners_16 = some qL → (Wa E yX0_run cX0_run 9 none 5 res 94 [(0, .ref (eA E 13))] [] (hX, (R_count, R_changes, R_F), hL, (q1.1, qL.1, qL.2.1, qL.2.2.1, qL.2.2.2.1, qL.2.2.2.2.1, qL.2.2.2.2.2.1, qL.2.2.2.2.2.2.1, qL.2.2.2.2.2.2.2.1, qL.2.2.2.2.2.2.2.2), hK, hS, hP, hM)) → Wa E yX0_run cX0_run 9 none 5 res 16 [(0, .ref (eA E 13)), (1, .ref (eA E 1)), (2, .int a1), (4, .long v4_16), (6, .int v6_16)] [] (hX, (R_count, R_changes, R_F), hL, (q1.1, C_plays_16, C_small_16, C_large_16, C_u_16, C_v_16, C_left_16, C_firsts_16, C_seconds_16, C_winners_16), hK, hS, hP, hM) := by
  intro n9
  induction n9 with
  | zero =>
    intro v4_16 v6_16 C_plays_16 C_small_16 C_large_16 C_u_16 C_v_16 C_left_16 C_firsts_16 C_seconds_16 C_winners_16 qL hf
    exact nomatch (show (none : Option (Int32 × Int32 × Int32 × Int32 × Int32 × (Nat → Int32) × (Nat → Int32) × (Nat → Int32) × (Nat → Int32))) = some qL from hf)
  | succ n9 ih =>
    intro v4_16 v6_16 C_plays_16 C_small_16 C_large_16 C_u_16 C_v_16 C_left_16 C_firsts_16 C_seconds_16 C_winners_16 qL hf kx0
    rw [lp_X0_run_16] at hf
    refine r_iload dX0_run_16 4 rfl ?_
    refine r_bipush (v := 12) dX0_run_18 (by decide) ?_
    refine r_icmp_ge (tgt := 94) dX0_run_20 (by decide) (fun c3 => ?_) (fun c3 => ?_)
    · have hf := hf_pos c3 hf
      have e9 := Option.some.inj hf
      subst e9
      exact (Wa.sub [0] rfl kx0)
    · have hf := hf_neg c3 hf
      refine r_aload_n dX0_run_23 0 rfl ?_
      refine r_aload_n dX0_run_24 1 rfl ?_
      refine r_iload_n dX0_run_25 2 rfl ?_
      obtain ⟨q4, hq4, hf⟩ := hf_bind hf
      refine r_callVi (As := [.ref (eA E 1), .int a1]) (b := (eA E 13)) (st := []) (s_X0_pick_T hq4) (by decide) (by decide) wd_357 wd_358 wd_359 wd_70 wd_360 hy_X0_pick (Rc.obj 13 ga_T rfl) rfl (Nat.le_of_ble_eq_true rfl) dX0_run_26 ?_
      refine r_if_eq (tgt := 94) dX0_run_29 (by decide) (fun c5 => ?_) (fun c5 => ?_)
      · have hf := hf_pos c5 hf
        have e9 := Option.some.inj hf
        subst e9
        exact (Wa.sub [0] rfl kx0)
      · have hf := hf_neg c5 hf
        refine r_lload dX0_run_32 3 rfl ?_
        obtain ⟨q6, hq6, hf⟩ := hf_bind hf
        refine r_callSNl (As := [.long v4_16]) (st := []) (s_X5_nextX hq6) (by decide) (by decide) wn_396 wd_293 wd_68 wd_294 hy_X5_nextX rfl (Nat.le_of_ble_eq_true rfl) dX0_run_34 ?_
        refine r_lstore (lv2 := [(4, .long q6), (0, .ref (eA E 13)), (1, .ref (eA E 1)), (2, .int a1), (6, .int v6_16)]) dX0_run_37 (by decide) rfl ?_
        refine r_aload_n dX0_run_39 1 rfl ?_
        obtain ⟨q7, hq7, hf⟩ := hf_bind hf
        refine r_callVi (As := []) (b := (eA E 13)) (st := []) (s_X0_chancesOfBoth_T hq7) (by decide) (by decide) wd_397 wd_399 wd_10 wd_70 wd_400 hy_X0_chancesOfBoth (Rc.obj 13 ga_T rfl) rfl (Nat.le_of_ble_eq_true rfl) dX0_run_40 ?_
        refine r_istore (lv2 := [(7, .int q7), (4, .long q6), (0, .ref (eA E 13)), (1, .ref (eA E 1)), (2, .int a1), (6, .int v6_16)]) dX0_run_43 (by decide) rfl ?_
        refine r_iload dX0_run_45 0 rfl ?_
        obtain ⟨q9, hq9, hf⟩ := hf_bind hf
        have kj9 : Wa E yX0_run cX0_run 9 none 5 res 74 [(0, .ref (eA E 13)), (1, .ref (eA E 1)), (2, .int a1), (4, .long q6), (6, .int v6_16)] [.int q9] (hX, (R_count, R_changes, R_F), hL, (q1.1, C_plays_16, C_small_16, C_large_16, q4.2.1, q4.2.2, C_left_16, C_firsts_16, C_seconds_16, C_winners_16), hK, hS, hP, hM) := by
          refine r_istore (lv2 := [(8, .int q9), (0, .ref (eA E 13)), (1, .ref (eA E 1)), (2, .int a1), (4, .long q6), (6, .int v6_16)]) dX0_run_74 (by decide) rfl ?_
          refine r_aload_n dX0_run_76 1 rfl ?_
          refine r_iload dX0_run_77 0 rfl ?_
          obtain ⟨q13, hq13, hf⟩ := hf_bind hf
          refine r_callVv (As := [.int q9]) (b := (eA E 13)) (st := []) (s_X0_write_T hq13) (by decide) (by decide) wd_414 wd_416 wd_13 wd_70 wd_417 hy_X0_write (Rc.obj 13 ga_T rfl) rfl (Nat.le_of_ble_eq_true rfl) dX0_run_79 ?_
          refine r_aload_n dX0_run_82 1 rfl ?_
          refine r_iload dX0_run_83 0 rfl ?_
          obtain ⟨q14, hq14, hf⟩ := hf_bind hf
          refine r_callVv (As := [.int q9]) (b := (eA E 13)) (st := []) (s_X0_settle_T hq14) (by decide) (by decide) wd_418 wd_419 wd_420 wd_70 wd_421 hy_X0_settle (Rc.obj 13 ga_T rfl) rfl (Nat.le_of_ble_eq_true rfl) dX0_run_85 ?_
          refine r_iinc (v := (v6_16 + 1)) (lv2 := [(6, .int (v6_16 + 1)), (8, .int q9), (0, .ref (eA E 13)), (1, .ref (eA E 1)), (2, .int a1), (4, .long q6)]) dX0_run_88 5 rfl rfl (by decide) rfl ?_
          refine r_goto (tgt := 16) dX0_run_91 (by decide) ?_
          exact (Wa.sub [2, 3, 4, 5, 0] rfl (ih _ _ _ _ _ _ _ _ _ _ _ _ hf kx0))
        have hf := hq9
        refine r_if_le (tgt := 73) dX0_run_47 (by decide) (fun c8 => ?_) (fun c8 => ?_)
        · have hf := hf_pos c8 hf
          refine r_iconst (v := 0) dX0_run_73 (by decide) ?_
          have e9 := Option.some.inj hf
          subst e9
          exact (Wa.sub [2, 3, 4, 1, 5] rfl kj9)
        · have hf := hf_neg c8 hf
          refine r_lload dX0_run_50 1 rfl ?_
          refine r_ldc2 (v := 65536) wd_409 dX0_run_52 ?_
          refine r_ldiv dX0_run_55 (by decide) ?_
          refine r_iload dX0_run_56 0 rfl ?_
          refine r_i2l dX0_run_58 ?_
          obtain ⟨z10, hf⟩ := hf_nz hf
          refine r_lrem dX0_run_59 z10 ?_
          refine r_aload_n dX0_run_60 2 rfl ?_
          obtain ⟨q11, hq11, hf⟩ := hf_bind hf
          refine r_callVi (As := []) (b := (eA E 13)) (st := [.long ((q6 / 65536) - (q6 / 65536) / (Int32.toInt64 q7) * (Int32.toInt64 q7))]) (s_X0_chancesOfFirst_T hq11) (by decide) (by decide) wd_410 wd_412 wd_12 wd_70 wd_413 hy_X0_chancesOfFirst (Rc.obj 13 ga_T rfl) rfl (Nat.le_of_ble_eq_true rfl) dX0_run_61 ?_
          refine r_i2l dX0_run_64 ?_
          refine r_lcmp dX0_run_65 ?_
          refine r_if_ge (tgt := 73) dX0_run_66 (by decide) (fun c12 => ?_) (fun c12 => ?_)
          · have hf := hf_pos c12 hf
            refine r_iconst (v := 0) dX0_run_73 (by decide) ?_
            have e9 := Option.some.inj hf
            subst e9
            exact (Wa.sub [2, 3, 4, 1, 5] rfl kj9)
          · have hf := hf_neg c12 hf
            refine r_iconst (v := 1) dX0_run_69 (by decide) ?_
            refine r_goto (tgt := 74) dX0_run_70 (by decide) ?_
            have e9 := Option.some.inj hf
            subst e9
            exact (Wa.sub [2, 3, 4, 1, 5] rfl kj9)
set_option maxHeartbeats 4000000 in
set_option maxRecDepth 100000 in
theorem s_X0_run_T {E : EN} {hX : TX} {hL : TC} {hK : TK} {hS : TS} {hP : TP} {hM : TM} {R_count : Int32} {R_changes : Int32} {R_F : Nat → Nat → Int32} {C_sample : Int32} {C_plays : Int32} {C_small : Int32} {C_large : Int32} {C_u : Int32} {C_v : Int32} {C_left : Nat → Int32} {C_firsts : Nat → Int32} {C_seconds : Nat → Int32} {C_winners : Nat → Int32} {a1 : Int32} {a2 : Int32} {qR : Int32 × Int32 × Int32 × Int32 × Int32 × Int32 × (Nat → Int32) × (Nat → Int32) × (Nat → Int32) × (Nat → Int32)} (hf : f_X0_run R_count R_F C_u C_v C_left C_firsts C_seconds C_winners a1 a2 = some qR) : Sem E yX0_run cX0_run 9 none 5 [.ref (eA E 13), .ref (eA E 1), .int a1, .int a2] (hX, (R_count, R_changes, R_F), hL, (C_sample, C_plays, C_small, C_large, C_u, C_v, C_left, C_firsts, C_seconds, C_winners), hK, hS, hP, hM) (none, (hX, (R_count, R_changes, R_F), hL, (qR.1, qR.2.1, qR.2.2.1, qR.2.2.2.1, qR.2.2.2.2.1, qR.2.2.2.2.2.1, qR.2.2.2.2.2.2.1, qR.2.2.2.2.2.2.2.1, qR.2.2.2.2.2.2.2.2.1, qR.2.2.2.2.2.2.2.2.2), hK, hS, hP, hM)) := by
  refine Sem.mk (lv := [(0, .ref (eA E 13)), (1, .ref (eA E 1)), (2, .int a1), (3, .int a2)]) (by decide) (Nat.le_of_ble_eq_true rfl) rfl ?_
  rw [f_X0_run] at hf
  refine r_aload_n dX0_run_0 0 rfl ?_
  obtain ⟨q1, hq1, hf⟩ := hf_bind hf
  refine r_callVv (As := []) (b := (eA E 13)) (st := []) (s_X0_forget_T hq1) (by decide) (by decide) wd_351 wd_281 wd_282 wd_70 wd_283 hy_X0_forget (Rc.obj 13 ga_T rfl) rfl (Nat.le_of_ble_eq_true rfl) dX0_run_1 ?_
  refine r_aload_n dX0_run_4 0 rfl ?_
  refine r_aload_n dX0_run_5 1 rfl ?_
  obtain ⟨q2, hq2, hf⟩ := hf_bind hf
  refine r_callVv (As := [.ref (eA E 1)]) (b := (eA E 13)) (st := []) (s_X0_begin_T hq2) (by decide) (by decide) wd_352 wd_353 wd_354 wd_70 wd_355 hy_X0_begin (Rc.obj 13 ga_T rfl) rfl (Nat.le_of_ble_eq_true rfl) dX0_run_6 ?_
  refine r_iload_n dX0_run_9 3 rfl ?_
  refine r_i2l dX0_run_10 ?_
  refine r_lstore (lv2 := [(4, .long (Int32.toInt64 a2)), (0, .ref (eA E 13)), (1, .ref (eA E 1)), (2, .int a1), (3, .int a2)]) dX0_run_11 (by decide) rfl ?_
  refine r_iconst (v := 0) dX0_run_13 (by decide) ?_
  refine r_istore (lv2 := [(6, .int 0), (4, .long (Int32.toInt64 a2)), (0, .ref (eA E 13)), (1, .ref (eA E 1)), (2, .int a1), (3, .int a2)]) dX0_run_14 (by decide) rfl ?_
  obtain ⟨q15, hq15, hf⟩ := hf_bind hf
  refine (Wa.sub [2, 3, 4, 1, 0] rfl (w_X0_run_16_T _ _ _ _ _ _ _ _ _ _ _ _ _ hq15 ?_))
  refine r_aload_n dX0_run_94 0 rfl ?_
  refine r_aload_n dX0_run_95 0 rfl ?_
  obtain ⟨q16, hq16, hf⟩ := hf_bind hf
  refine r_callVi (As := []) (b := (eA E 13)) (st := [.ref (eA E 13)]) (s_X0_wholeOnes_T hq16) (by decide) (by decide) wd_429 wd_430 wd_431 wd_70 wd_432 hy_X0_wholeOnes (Rc.obj 13 ga_T rfl) rfl (Nat.le_of_ble_eq_true rfl) dX0_run_96 ?_
  refine r_put in_X0 tyX0_ok nmX0 13 ga_T rfl 4 (by decide) wd_122 rfl rfl pfI (Nat.le_of_ble_eq_true rfl) sa_T_sample dX0_run_99 ?_
  have e9 := Option.some.inj hf
  subst e9
  exact r_vret rfl dX0_run_102
