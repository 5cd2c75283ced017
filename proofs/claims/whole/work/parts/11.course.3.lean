-- DuelSamples$Course.tally
def f_X0_tally (C_sample : Int32) (C_plays : Int32) (C_small : Int32) (C_large : Int32) (a0 : Int32) : Option (Int32) := if a0 = 0 then some C_sample else if a0 = 1 then some C_plays else if a0 = 2 then some C_small else some C_large
theorem hy_X0_tally : yX0_tally.cls ≠ "java/lang/invoke/MethodHandle" ∧ yX0_tally.cls ≠ "java/lang/invoke/VarHandle" ∧ (parseMethodDescriptor yX0_tally.desc).map (fun d => d.parameters.length) = some 1 := by decide +kernel
set_option maxHeartbeats 4000000 in
set_option maxRecDepth 100000 in
theorem s_X0_tally_L {E : EN} {hX : TX} {hR : TR} {hT : TC} {hK : TK} {hS : TS} {hP : TP} {hM : TM} {C_sample : Int32} {C_plays : Int32} {C_small : Int32} {C_large : Int32} {C_u : Int32} {C_v : Int32} {C_left : Nat → Int32} {C_firsts : Nat → Int32} {C_seconds : Nat → Int32} {C_winners : Nat → Int32} {a0 : Int32} {qR : Int32} (hf : f_X0_tally C_sample C_plays C_small C_large a0 = some qR) : Sem E yX0_tally cX0_tally 2 (some .int) 1 [.ref (eA E 8), .int a0] (hX, hR, (C_sample, C_plays, C_small, C_large, C_u, C_v, C_left, C_firsts, C_seconds, C_winners), hT, hK, hS, hP, hM) (some (.int qR), (hX, hR, (C_sample, C_plays, C_small, C_large, C_u, C_v, C_left, C_firsts, C_seconds, C_winners), hT, hK, hS, hP, hM)) := by
  refine Sem.mk (lv := [(0, .ref (eA E 8)), (1, .int a0)]) (by decide) (Nat.le_of_ble_eq_true rfl) rfl ?_
  rw [f_X0_tally] at hf
  refine r_iload_n dX0_tally_0 1 rfl ?_
  by_cases c1 : a0 = 0
  · have hf := hf_pos c1 hf
    refine r_tswi (off := 27) (tgt := 28) dX0_tally_1 c1 (by decide) (by decide) (by decide) (by decide) ?_
    refine r_aload_n dX0_tally_28 0 rfl ?_
    refine r_get (v := .int C_sample) in_X0 8 ga_L rfl 4 (by decide) wd_122 rfl rfl dX0_tally_29 ?_
    have e9 := Option.some.inj hf
    subst e9
    exact r_iret rfl dX0_tally_32
  · have hf := hf_neg c1 hf
    by_cases c2 : a0 = 1
    · have hf := hf_pos c2 hf
      refine r_tswi (off := 32) (tgt := 33) dX0_tally_1 c2 (by decide) (by decide) (by decide) (by decide) ?_
      refine r_aload_n dX0_tally_33 0 rfl ?_
      refine r_get (v := .int C_plays) in_X0 8 ga_L rfl 5 (by decide) wd_124 rfl rfl dX0_tally_34 ?_
      have e9 := Option.some.inj hf
      subst e9
      exact r_iret rfl dX0_tally_37
    · have hf := hf_neg c2 hf
      by_cases c3 : a0 = 2
      · have hf := hf_pos c3 hf
        refine r_tswi (off := 37) (tgt := 38) dX0_tally_1 c3 (by decide) (by decide) (by decide) (by decide) ?_
        refine r_aload_n dX0_tally_38 0 rfl ?_
        refine r_get (v := .int C_small) in_X0 8 ga_L rfl 6 (by decide) wd_125 rfl rfl dX0_tally_39 ?_
        have e9 := Option.some.inj hf
        subst e9
        exact r_iret rfl dX0_tally_42
      · have hf := hf_neg c3 hf
        refine r_tswo (tgt := 43) dX0_tally_1 (tsw_out0_2 c1 c2 c3) (by decide) ?_
        refine r_aload_n dX0_tally_43 0 rfl ?_
        refine r_get (v := .int C_large) in_X0 8 ga_L rfl 7 (by decide) wd_126 rfl rfl dX0_tally_44 ?_
        have e9 := Option.some.inj hf
        subst e9
        exact r_iret rfl dX0_tally_47
set_option maxHeartbeats 4000000 in
set_option maxRecDepth 100000 in
theorem s_X0_tally_T {E : EN} {hX : TX} {hR : TR} {hL : TC} {hK : TK} {hS : TS} {hP : TP} {hM : TM} {C_sample : Int32} {C_plays : Int32} {C_small : Int32} {C_large : Int32} {C_u : Int32} {C_v : Int32} {C_left : Nat → Int32} {C_firsts : Nat → Int32} {C_seconds : Nat → Int32} {C_winners : Nat → Int32} {a0 : Int32} {qR : Int32} (hf : f_X0_tally C_sample C_plays C_small C_large a0 = some qR) : Sem E yX0_tally cX0_tally 2 (some .int) 1 [.ref (eA E 13), .int a0] (hX, hR, hL, (C_sample, C_plays, C_small, C_large, C_u, C_v, C_left, C_firsts, C_seconds, C_winners), hK, hS, hP, hM) (some (.int qR), (hX, hR, hL, (C_sample, C_plays, C_small, C_large, C_u, C_v, C_left, C_firsts, C_seconds, C_winners), hK, hS, hP, hM)) := by
  refine Sem.mk (lv := [(0, .ref (eA E 13)), (1, .int a0)]) (by decide) (Nat.le_of_ble_eq_true rfl) rfl ?_
  rw [f_X0_tally] at hf
  refine r_iload_n dX0_tally_0 1 rfl ?_
  by_cases c1 : a0 = 0
  · have hf := hf_pos c1 hf
    refine r_tswi (off := 27) (tgt := 28) dX0_tally_1 c1 (by decide) (by decide) (by decide) (by decide) ?_
    refine r_aload_n dX0_tally_28 0 rfl ?_
    refine r_get (v := .int C_sample) in_X0 13 ga_T rfl 4 (by decide) wd_122 rfl rfl dX0_tally_29 ?_
    have e9 := Option.some.inj hf
    subst e9
    exact r_iret rfl dX0_tally_32
  · have hf := hf_neg c1 hf
    by_cases c2 : a0 = 1
    · have hf := hf_pos c2 hf
      refine r_tswi (off := 32) (tgt := 33) dX0_tally_1 c2 (by decide) (by decide) (by decide) (by decide) ?_
      refine r_aload_n dX0_tally_33 0 rfl ?_
      refine r_get (v := .int C_plays) in_X0 13 ga_T rfl 5 (by decide) wd_124 rfl rfl dX0_tally_34 ?_
      have e9 := Option.some.inj hf
      subst e9
      exact r_iret rfl dX0_tally_37
    · have hf := hf_neg c2 hf
      by_cases c3 : a0 = 2
      · have hf := hf_pos c3 hf
        refine r_tswi (off := 37) (tgt := 38) dX0_tally_1 c3 (by decide) (by decide) (by decide) (by decide) ?_
        refine r_aload_n dX0_tally_38 0 rfl ?_
        refine r_get (v := .int C_small) in_X0 13 ga_T rfl 6 (by decide) wd_125 rfl rfl dX0_tally_39 ?_
        have e9 := Option.some.inj hf
        subst e9
        exact r_iret rfl dX0_tally_42
      · have hf := hf_neg c3 hf
        refine r_tswo (tgt := 43) dX0_tally_1 (tsw_out0_2 c1 c2 c3) (by decide) ?_
        refine r_aload_n dX0_tally_43 0 rfl ?_
        refine r_get (v := .int C_large) in_X0 13 ga_T rfl 7 (by decide) wd_126 rfl rfl dX0_tally_44 ?_
        have e9 := Option.some.inj hf
        subst e9
        exact r_iret rfl dX0_tally_47
-- DuelSamples$Course.recorded
def f_X0_recorded (C_plays : Int32) (C_firsts : Nat → Int32) (C_seconds : Nat → Int32) (C_winners : Nat → Int32) (a0 : Int32) (a1 : Int32) : Option (Int32) := if a0 < 0 then some (-1) else if C_plays ≤ a0 then some (-1) else if a0 < 12 then if a1 = 0 then if inB a0 12 then some (C_firsts (Int32.toNatClampNeg a0)) else none else if a1 = 1 then if inB a0 12 then some (C_seconds (Int32.toNatClampNeg a0)) else none else if inB a0 12 then some (C_winners (Int32.toNatClampNeg a0)) else none else some (-1)
theorem hy_X0_recorded : yX0_recorded.cls ≠ "java/lang/invoke/MethodHandle" ∧ yX0_recorded.cls ≠ "java/lang/invoke/VarHandle" ∧ (parseMethodDescriptor yX0_recorded.desc).map (fun d => d.parameters.length) = some 2 := by decide +kernel
set_option maxHeartbeats 4000000 in
set_option maxRecDepth 100000 in
theorem s_X0_recorded_L {E : EN} {hX : TX} {hR : TR} {hT : TC} {hK : TK} {hS : TS} {hP : TP} {hM : TM} {C_sample : Int32} {C_plays : Int32} {C_small : Int32} {C_large : Int32} {C_u : Int32} {C_v : Int32} {C_left : Nat → Int32} {C_firsts : Nat → Int32} {C_seconds : Nat → Int32} {C_winners : Nat → Int32} {a0 : Int32} {a1 : Int32} {qR : Int32} (hf : f_X0_recorded C_plays C_firsts C_seconds C_winners a0 a1 = some qR) : Sem E yX0_recorded cX0_recorded 3 (some .int) 1 [.ref (eA E 8), .int a0, .int a1] (hX, hR, (C_sample, C_plays, C_small, C_large, C_u, C_v, C_left, C_firsts, C_seconds, C_winners), hT, hK, hS, hP, hM) (some (.int qR), (hX, hR, (C_sample, C_plays, C_small, C_large, C_u, C_v, C_left, C_firsts, C_seconds, C_winners), hT, hK, hS, hP, hM)) := by
  refine Sem.mk (lv := [(0, .ref (eA E 8)), (1, .int a0), (2, .int a1)]) (by decide) (Nat.le_of_ble_eq_true rfl) rfl ?_
  rw [f_X0_recorded] at hf
  refine r_iload_n dX0_recorded_0 1 rfl ?_
  refine r_if_lt (tgt := 18) dX0_recorded_1 (by decide) (fun c1 => ?_) (fun c1 => ?_)
  · have hf := hf_pos c1 hf
    refine r_iconst (v := (-1)) dX0_recorded_18 (by decide) ?_
    have e9 := Option.some.inj hf
    subst e9
    exact r_iret rfl dX0_recorded_19
  · have hf := hf_neg c1 hf
    refine r_iload_n dX0_recorded_4 1 rfl ?_
    refine r_aload_n dX0_recorded_5 0 rfl ?_
    refine r_get (v := .int C_plays) in_X0 8 ga_L rfl 5 (by decide) wd_124 rfl rfl dX0_recorded_6 ?_
    refine r_icmp_ge (tgt := 18) dX0_recorded_9 (by decide) (fun c2 => ?_) (fun c2 => ?_)
    · have hf := hf_pos c2 hf
      refine r_iconst (v := (-1)) dX0_recorded_18 (by decide) ?_
      have e9 := Option.some.inj hf
      subst e9
      exact r_iret rfl dX0_recorded_19
    · have hf := hf_neg c2 hf
      refine r_iload_n dX0_recorded_12 1 rfl ?_
      refine r_bipush (v := 12) dX0_recorded_13 (by decide) ?_
      refine r_icmp_lt (tgt := 20) dX0_recorded_15 (by decide) (fun c3 => ?_) (fun c3 => ?_)
      · have hf := hf_pos c3 hf
        refine r_iload_n dX0_recorded_20 2 rfl ?_
        refine r_if_ne (tgt := 31) dX0_recorded_21 (by decide) (fun c4 => ?_) (fun c4 => ?_)
        · have hf := hf_neg c4 hf
          refine r_iload_n dX0_recorded_31 2 rfl ?_
          refine r_iconst (v := 1) dX0_recorded_32 (by decide) ?_
          refine r_icmp_ne (tgt := 45) dX0_recorded_33 (by decide) (fun c5 => ?_) (fun c5 => ?_)
          · have hf := hf_neg c5 hf
            refine r_aload_n dX0_recorded_45 0 rfl ?_
            refine r_get (v := .ref (eA E 12)) in_X0 8 ga_L rfl 3 (by decide) wd_121 rfl rfl dX0_recorded_46 ?_
            refine r_iload_n dX0_recorded_49 1 rfl ?_
            obtain ⟨i6, hf⟩ := hf_in hf
            refine r_iald (f := C_winners) 12 ga_L_winners i6 dX0_recorded_50 ?_
            have e9 := Option.some.inj hf
            subst e9
            exact r_iret rfl dX0_recorded_51
          · have hf := hf_pos c5 hf
            refine r_aload_n dX0_recorded_36 0 rfl ?_
            refine r_get (v := .ref (eA E 11)) in_X0 8 ga_L rfl 2 (by decide) wd_120 rfl rfl dX0_recorded_37 ?_
            refine r_iload_n dX0_recorded_40 1 rfl ?_
            obtain ⟨i7, hf⟩ := hf_in hf
            refine r_iald (f := C_seconds) 11 ga_L_seconds i7 dX0_recorded_41 ?_
            refine r_goto (tgt := 51) dX0_recorded_42 (by decide) ?_
            have e9 := Option.some.inj hf
            subst e9
            exact r_iret rfl dX0_recorded_51
        · have hf := hf_pos c4 hf
          refine r_aload_n dX0_recorded_24 0 rfl ?_
          refine r_get (v := .ref (eA E 10)) in_X0 8 ga_L rfl 1 (by decide) wd_119 rfl rfl dX0_recorded_25 ?_
          refine r_iload_n dX0_recorded_28 1 rfl ?_
          obtain ⟨i8, hf⟩ := hf_in hf
          refine r_iald (f := C_firsts) 10 ga_L_firsts i8 dX0_recorded_29 ?_
          have e9 := Option.some.inj hf
          subst e9
          exact r_iret rfl dX0_recorded_30
      · have hf := hf_neg c3 hf
        refine r_iconst (v := (-1)) dX0_recorded_18 (by decide) ?_
        have e9 := Option.some.inj hf
        subst e9
        exact r_iret rfl dX0_recorded_19
set_option maxHeartbeats 4000000 in
set_option maxRecDepth 100000 in
theorem s_X0_recorded_T {E : EN} {hX : TX} {hR : TR} {hL : TC} {hK : TK} {hS : TS} {hP : TP} {hM : TM} {C_sample : Int32} {C_plays : Int32} {C_small : Int32} {C_large : Int32} {C_u : Int32} {C_v : Int32} {C_left : Nat → Int32} {C_firsts : Nat → Int32} {C_seconds : Nat → Int32} {C_winners : Nat → Int32} {a0 : Int32} {a1 : Int32} {qR : Int32} (hf : f_X0_recorded C_plays C_firsts C_seconds C_winners a0 a1 = some qR) : Sem E yX0_recorded cX0_recorded 3 (some .int) 1 [.ref (eA E 13), .int a0, .int a1] (hX, hR, hL, (C_sample, C_plays, C_small, C_large, C_u, C_v, C_left, C_firsts, C_seconds, C_winners), hK, hS, hP, hM) (some (.int qR), (hX, hR, hL, (C_sample, C_plays, C_small, C_large, C_u, C_v, C_left, C_firsts, C_seconds, C_winners), hK, hS, hP, hM)) := by
  refine Sem.mk (lv := [(0, .ref (eA E 13)), (1, .int a0), (2, .int a1)]) (by decide) (Nat.le_of_ble_eq_true rfl) rfl ?_
  rw [f_X0_recorded] at hf
  refine r_iload_n dX0_recorded_0 1 rfl ?_
  refine r_if_lt (tgt := 18) dX0_recorded_1 (by decide) (fun c1 => ?_) (fun c1 => ?_)
  · have hf := hf_pos c1 hf
    refine r_iconst (v := (-1)) dX0_recorded_18 (by decide) ?_
    have e9 := Option.some.inj hf
    subst e9
    exact r_iret rfl dX0_recorded_19
  · have hf := hf_neg c1 hf
    refine r_iload_n dX0_recorded_4 1 rfl ?_
    refine r_aload_n dX0_recorded_5 0 rfl ?_
    refine r_get (v := .int C_plays) in_X0 13 ga_T rfl 5 (by decide) wd_124 rfl rfl dX0_recorded_6 ?_
    refine r_icmp_ge (tgt := 18) dX0_recorded_9 (by decide) (fun c2 => ?_) (fun c2 => ?_)
    · have hf := hf_pos c2 hf
      refine r_iconst (v := (-1)) dX0_recorded_18 (by decide) ?_
      have e9 := Option.some.inj hf
      subst e9
      exact r_iret rfl dX0_recorded_19
    · have hf := hf_neg c2 hf
      refine r_iload_n dX0_recorded_12 1 rfl ?_
      refine r_bipush (v := 12) dX0_recorded_13 (by decide) ?_
      refine r_icmp_lt (tgt := 20) dX0_recorded_15 (by decide) (fun c3 => ?_) (fun c3 => ?_)
      · have hf := hf_pos c3 hf
        refine r_iload_n dX0_recorded_20 2 rfl ?_
        refine r_if_ne (tgt := 31) dX0_recorded_21 (by decide) (fun c4 => ?_) (fun c4 => ?_)
        · have hf := hf_neg c4 hf
          refine r_iload_n dX0_recorded_31 2 rfl ?_
          refine r_iconst (v := 1) dX0_recorded_32 (by decide) ?_
          refine r_icmp_ne (tgt := 45) dX0_recorded_33 (by decide) (fun c5 => ?_) (fun c5 => ?_)
          · have hf := hf_neg c5 hf
            refine r_aload_n dX0_recorded_45 0 rfl ?_
            refine r_get (v := .ref (eA E 17)) in_X0 13 ga_T rfl 3 (by decide) wd_121 rfl rfl dX0_recorded_46 ?_
            refine r_iload_n dX0_recorded_49 1 rfl ?_
            obtain ⟨i6, hf⟩ := hf_in hf
            refine r_iald (f := C_winners) 17 ga_T_winners i6 dX0_recorded_50 ?_
            have e9 := Option.some.inj hf
            subst e9
            exact r_iret rfl dX0_recorded_51
          · have hf := hf_pos c5 hf
            refine r_aload_n dX0_recorded_36 0 rfl ?_
            refine r_get (v := .ref (eA E 16)) in_X0 13 ga_T rfl 2 (by decide) wd_120 rfl rfl dX0_recorded_37 ?_
            refine r_iload_n dX0_recorded_40 1 rfl ?_
            obtain ⟨i7, hf⟩ := hf_in hf
            refine r_iald (f := C_seconds) 16 ga_T_seconds i7 dX0_recorded_41 ?_
            refine r_goto (tgt := 51) dX0_recorded_42 (by decide) ?_
            have e9 := Option.some.inj hf
            subst e9
            exact r_iret rfl dX0_recorded_51
        · have hf := hf_pos c4 hf
          refine r_aload_n dX0_recorded_24 0 rfl ?_
          refine r_get (v := .ref (eA E 15)) in_X0 13 ga_T rfl 1 (by decide) wd_119 rfl rfl dX0_recorded_25 ?_
          refine r_iload_n dX0_recorded_28 1 rfl ?_
          obtain ⟨i8, hf⟩ := hf_in hf
          refine r_iald (f := C_firsts) 15 ga_T_firsts i8 dX0_recorded_29 ?_
          have e9 := Option.some.inj hf
          subst e9
          exact r_iret rfl dX0_recorded_30
      · have hf := hf_neg c3 hf
        refine r_iconst (v := (-1)) dX0_recorded_18 (by decide) ?_
        have e9 := Option.some.inj hf
        subst e9
        exact r_iret rfl dX0_recorded_19
-- DuelSamples$Course.restore
def f_X0_restore (C_left : Nat → Int32) (a0 : Int32) (a1 : Int32) (a2 : Int32) (a3 : Int32) : Option (Int32 × Int32 × (Nat → Int32)) := Option.bind (f_X0_leave C_left a0 a2) (fun (q1 : (Nat → Int32)) => Option.bind (f_X0_leave q1 a1 a3) (fun (q2 : (Nat → Int32)) => some (a0, a1, q2)))
theorem hy_X0_restore : yX0_restore.cls ≠ "java/lang/invoke/MethodHandle" ∧ yX0_restore.cls ≠ "java/lang/invoke/VarHandle" ∧ (parseMethodDescriptor yX0_restore.desc).map (fun d => d.parameters.length) = some 4 := by decide +kernel
set_option maxHeartbeats 4000000 in
set_option maxRecDepth 100000 in
theorem s_X0_restore_L {E : EN} {hX : TX} {hR : TR} {hT : TC} {hK : TK} {hS : TS} {hP : TP} {hM : TM} {C_sample : Int32} {C_plays : Int32} {C_small : Int32} {C_large : Int32} {C_u : Int32} {C_v : Int32} {C_left : Nat → Int32} {C_firsts : Nat → Int32} {C_seconds : Nat → Int32} {C_winners : Nat → Int32} {a0 : Int32} {a1 : Int32} {a2 : Int32} {a3 : Int32} {qR : Int32 × Int32 × (Nat → Int32)} (hf : f_X0_restore C_left a0 a1 a2 a3 = some qR) : Sem E yX0_restore cX0_restore 5 none 2 [.ref (eA E 8), .int a0, .int a1, .int a2, .int a3] (hX, hR, (C_sample, C_plays, C_small, C_large, C_u, C_v, C_left, C_firsts, C_seconds, C_winners), hT, hK, hS, hP, hM) (none, (hX, hR, (C_sample, C_plays, C_small, C_large, qR.1, qR.2.1, qR.2.2, C_firsts, C_seconds, C_winners), hT, hK, hS, hP, hM)) := by
  refine Sem.mk (lv := [(0, .ref (eA E 8)), (1, .int a0), (2, .int a1), (3, .int a2), (4, .int a3)]) (by decide) (Nat.le_of_ble_eq_true rfl) rfl ?_
  rw [f_X0_restore] at hf
  refine r_aload_n dX0_restore_0 0 rfl ?_
  refine r_iload_n dX0_restore_1 1 rfl ?_
  refine r_put in_X0 tyX0_ok nmX0 8 ga_L rfl 8 (by decide) wd_128 rfl rfl pfI (Nat.le_of_ble_eq_true rfl) sa_L_u dX0_restore_2 ?_
  refine r_aload_n dX0_restore_5 0 rfl ?_
  refine r_iload_n dX0_restore_6 2 rfl ?_
  refine r_put in_X0 tyX0_ok nmX0 8 ga_L rfl 9 (by decide) wd_130 rfl rfl pfI (Nat.le_of_ble_eq_true rfl) sa_L_v dX0_restore_7 ?_
  refine r_aload_n dX0_restore_10 0 rfl ?_
  refine r_iload_n dX0_restore_11 1 rfl ?_
  refine r_iload_n dX0_restore_12 3 rfl ?_
  obtain ⟨q1, hq1, hf⟩ := hf_bind hf
  refine r_callVv (As := [.int a0, .int a2]) (b := (eA E 8)) (st := []) (s_X0_leave_L hq1) (by decide) (by decide) wd_422 wd_424 wd_14 wd_70 wd_425 hy_X0_leave (Rc.obj 8 ga_L rfl) rfl (Nat.le_of_ble_eq_true rfl) dX0_restore_13 ?_
  refine r_aload_n dX0_restore_16 0 rfl ?_
  refine r_iload_n dX0_restore_17 2 rfl ?_
  refine r_iload dX0_restore_18 4 rfl ?_
  obtain ⟨q2, hq2, hf⟩ := hf_bind hf
  refine r_callVv (As := [.int a1, .int a3]) (b := (eA E 8)) (st := []) (s_X0_leave_L hq2) (by decide) (by decide) wd_422 wd_424 wd_14 wd_70 wd_425 hy_X0_leave (Rc.obj 8 ga_L rfl) rfl (Nat.le_of_ble_eq_true rfl) dX0_restore_20 ?_
  have e9 := Option.some.inj hf
  subst e9
  exact r_vret rfl dX0_restore_23
set_option maxHeartbeats 4000000 in
set_option maxRecDepth 100000 in
theorem s_X0_restore_T {E : EN} {hX : TX} {hR : TR} {hL : TC} {hK : TK} {hS : TS} {hP : TP} {hM : TM} {C_sample : Int32} {C_plays : Int32} {C_small : Int32} {C_large : Int32} {C_u : Int32} {C_v : Int32} {C_left : Nat → Int32} {C_firsts : Nat → Int32} {C_seconds : Nat → Int32} {C_winners : Nat → Int32} {a0 : Int32} {a1 : Int32} {a2 : Int32} {a3 : Int32} {qR : Int32 × Int32 × (Nat → Int32)} (hf : f_X0_restore C_left a0 a1 a2 a3 = some qR) : Sem E yX0_restore cX0_restore 5 none 2 [.ref (eA E 13), .int a0, .int a1, .int a2, .int a3] (hX, hR, hL, (C_sample, C_plays, C_small, C_large, C_u, C_v, C_left, C_firsts, C_seconds, C_winners), hK, hS, hP, hM) (none, (hX, hR, hL, (C_sample, C_plays, C_small, C_large, qR.1, qR.2.1, qR.2.2, C_firsts, C_seconds, C_winners), hK, hS, hP, hM)) := by
  refine Sem.mk (lv := [(0, .ref (eA E 13)), (1, .int a0), (2, .int a1), (3, .int a2), (4, .int a3)]) (by decide) (Nat.le_of_ble_eq_true rfl) rfl ?_
  rw [f_X0_restore] at hf
  refine r_aload_n dX0_restore_0 0 rfl ?_
  refine r_iload_n dX0_restore_1 1 rfl ?_
  refine r_put in_X0 tyX0_ok nmX0 13 ga_T rfl 8 (by decide) wd_128 rfl rfl pfI (Nat.le_of_ble_eq_true rfl) sa_T_u dX0_restore_2 ?_
  refine r_aload_n dX0_restore_5 0 rfl ?_
  refine r_iload_n dX0_restore_6 2 rfl ?_
  refine r_put in_X0 tyX0_ok nmX0 13 ga_T rfl 9 (by decide) wd_130 rfl rfl pfI (Nat.le_of_ble_eq_true rfl) sa_T_v dX0_restore_7 ?_
  refine r_aload_n dX0_restore_10 0 rfl ?_
  refine r_iload_n dX0_restore_11 1 rfl ?_
  refine r_iload_n dX0_restore_12 3 rfl ?_
  obtain ⟨q1, hq1, hf⟩ := hf_bind hf
  refine r_callVv (As := [.int a0, .int a2]) (b := (eA E 13)) (st := []) (s_X0_leave_T hq1) (by decide) (by decide) wd_422 wd_424 wd_14 wd_70 wd_425 hy_X0_leave (Rc.obj 13 ga_T rfl) rfl (Nat.le_of_ble_eq_true rfl) dX0_restore_13 ?_
  refine r_aload_n dX0_restore_16 0 rfl ?_
  refine r_iload_n dX0_restore_17 2 rfl ?_
  refine r_iload dX0_restore_18 4 rfl ?_
  obtain ⟨q2, hq2, hf⟩ := hf_bind hf
  refine r_callVv (As := [.int a1, .int a3]) (b := (eA E 13)) (st := []) (s_X0_leave_T hq2) (by decide) (by decide) wd_422 wd_424 wd_14 wd_70 wd_425 hy_X0_leave (Rc.obj 13 ga_T rfl) rfl (Nat.le_of_ble_eq_true rfl) dX0_restore_20 ?_
  have e9 := Option.some.inj hf
  subst e9
  exact r_vret rfl dX0_restore_23
