-- DuelSamples.refuse
def f_X5_refuse (X_refusedBad : Int32) (X_refusedFull : Int32) (a0 : Int32) : Option (Int32 × Int32 × Int32) := Option.bind (if a0 = (-2) then some ((X_refusedBad + 1), X_refusedFull) else some (X_refusedBad, (X_refusedFull + 1))) (fun (q2 : Int32 × Int32) => some (a0, q2.1, q2.2))
theorem hy_X5_refuse : yX5_refuse.cls ≠ "java/lang/invoke/MethodHandle" ∧ yX5_refuse.cls ≠ "java/lang/invoke/VarHandle" ∧ (parseMethodDescriptor yX5_refuse.desc).map (fun d => d.parameters.length) = some 1 := by decide +kernel
set_option maxHeartbeats 4000000 in
set_option maxRecDepth 100000 in
theorem s_X5_refuse {E : EN} {hM : TM} {X_method : Int32} {X_refusedBad : Int32} {X_refusedFull : Int32} {R_count : Int32} {R_changes : Int32} {R_F : Nat → Nat → Int32} {L_sample : Int32} {L_plays : Int32} {L_small : Int32} {L_large : Int32} {L_u : Int32} {L_v : Int32} {L_left : Nat → Int32} {L_firsts : Nat → Int32} {L_seconds : Nat → Int32} {L_winners : Nat → Int32} {T_sample : Int32} {T_plays : Int32} {T_small : Int32} {T_large : Int32} {T_u : Int32} {T_v : Int32} {T_left : Nat → Int32} {T_firsts : Nat → Int32} {T_seconds : Nat → Int32} {T_winners : Nat → Int32} {K_atChanges : Int32} {K_atMethod : Int32} {K_seen : Nat → Int64} {S_length : Int32} {S_sentences : Int32} {S_at : Int32} {S_units : Int32} {S_text : Nat → Int32} {S_verbs : Nat → Int32} {S_numbers : Nat → Int32} {P_length : Int32} {P_signs : Nat → Int32} {a0 : Int32} {qR : Int32 × Int32 × Int32} (hf : f_X5_refuse X_refusedBad X_refusedFull a0 = some qR) : Sem E yX5_refuse cX5_refuse 2 (some .int) 1 [.ref (eA E 0), .int a0] ((X_method, X_refusedBad, X_refusedFull), (R_count, R_changes, R_F), (L_sample, L_plays, L_small, L_large, L_u, L_v, L_left, L_firsts, L_seconds, L_winners), (T_sample, T_plays, T_small, T_large, T_u, T_v, T_left, T_firsts, T_seconds, T_winners), (K_atChanges, K_atMethod, K_seen), (S_length, S_sentences, S_at, S_units, S_text, S_verbs, S_numbers), (P_length, P_signs), hM) (some (.int qR.1), ((X_method, qR.2.1, qR.2.2), (R_count, R_changes, R_F), (L_sample, L_plays, L_small, L_large, L_u, L_v, L_left, L_firsts, L_seconds, L_winners), (T_sample, T_plays, T_small, T_large, T_u, T_v, T_left, T_firsts, T_seconds, T_winners), (K_atChanges, K_atMethod, K_seen), (S_length, S_sentences, S_at, S_units, S_text, S_verbs, S_numbers), (P_length, P_signs), hM)) := by
  refine Sem.mk (lv := [(0, .ref (eA E 0)), (1, .int a0)]) (by decide) (Nat.le_of_ble_eq_true rfl) rfl ?_
  rw [f_X5_refuse] at hf
  refine r_iload_n dX5_refuse_0 1 rfl ?_
  refine r_bipush (v := (-2)) dX5_refuse_1 (by decide) ?_
  obtain ⟨q2, hq2, hf⟩ := hf_bind hf
  have kj2 : Wa E yX5_refuse cX5_refuse 2 (some .int) 1 (some (.int qR.1), ((X_method, qR.2.1, qR.2.2), (R_count, R_changes, R_F), (L_sample, L_plays, L_small, L_large, L_u, L_v, L_left, L_firsts, L_seconds, L_winners), (T_sample, T_plays, T_small, T_large, T_u, T_v, T_left, T_firsts, T_seconds, T_winners), (K_atChanges, K_atMethod, K_seen), (S_length, S_sentences, S_at, S_units, S_text, S_verbs, S_numbers), (P_length, P_signs), hM)) 29 [(1, .int a0)] [] ((X_method, q2.1, q2.2), (R_count, R_changes, R_F), (L_sample, L_plays, L_small, L_large, L_u, L_v, L_left, L_firsts, L_seconds, L_winners), (T_sample, T_plays, T_small, T_large, T_u, T_v, T_left, T_firsts, T_seconds, T_winners), (K_atChanges, K_atMethod, K_seen), (S_length, S_sentences, S_at, S_units, S_text, S_verbs, S_numbers), (P_length, P_signs), hM) := by
    refine r_iload_n dX5_refuse_29 0 rfl ?_
    have e9 := Option.some.inj hf
    subst e9
    exact r_iret rfl dX5_refuse_30
  have hf := hq2
  refine r_icmp_ne (tgt := 19) dX5_refuse_3 (by decide) (fun c1 => ?_) (fun c1 => ?_)
  · have hf := hf_neg c1 hf
    refine r_aload_n dX5_refuse_19 0 rfl ?_
    refine r_dup dX5_refuse_20 rfl ?_
    refine r_get (v := .int X_refusedFull) in_X5 0 ga_X rfl 8 (by decide) wd_222 rfl rfl dX5_refuse_21 ?_
    refine r_iconst (v := 1) dX5_refuse_24 (by decide) ?_
    refine r_iadd dX5_refuse_25 ?_
    refine r_put in_X5 tyX5_ok nmX5 0 ga_X rfl 8 (by decide) wd_222 rfl rfl pfI (Nat.le_of_ble_eq_true rfl) sa_X_refusedFull dX5_refuse_26 ?_
    have e9 := Option.some.inj hf
    subst e9
    exact (Wa.sub [1] rfl kj2)
  · have hf := hf_pos c1 hf
    refine r_aload_n dX5_refuse_6 0 rfl ?_
    refine r_dup dX5_refuse_7 rfl ?_
    refine r_get (v := .int X_refusedBad) in_X5 0 ga_X rfl 7 (by decide) wd_221 rfl rfl dX5_refuse_8 ?_
    refine r_iconst (v := 1) dX5_refuse_11 (by decide) ?_
    refine r_iadd dX5_refuse_12 ?_
    refine r_put in_X5 tyX5_ok nmX5 0 ga_X rfl 7 (by decide) wd_221 rfl rfl pfI (Nat.le_of_ble_eq_true rfl) sa_X_refusedBad dX5_refuse_13 ?_
    refine r_goto (tgt := 29) dX5_refuse_16 (by decide) ?_
    have e9 := Option.some.inj hf
    subst e9
    exact (Wa.sub [1] rfl kj2)
-- DuelSamples.unit
def f_X5_unit (X_refusedBad : Int32) (X_refusedFull : Int32) (R_count : Int32) (R_changes : Int32) (R_F : Nat → Nat → Int32) (a0 : Int32) (a1 : Int32) (a2 : Int32) (a3 : Int32) (a4 : Int32) : Option (Int32 × Int32 × Int32 × Int32 × Int32 × (Nat → Nat → Int32)) := Option.bind (f_X3_fits 0 a0) (fun (q1 : Int32) => Option.bind (if q1 = 0 then some 0 else Option.bind (f_X3_fits 1 a1) (fun (q4 : Int32) => if q4 = 0 then some 0 else Option.bind (f_X3_fits 2 a2) (fun (q6 : Int32) => if q6 = 0 then some 0 else Option.bind (f_X3_fits 3 a3) (fun (q8 : Int32) => if q8 = 0 then some 0 else Option.bind (f_X3_fits 4 a4) (fun (q10 : Int32) => if q10 = 0 then some 0 else some 1))))) (fun (q3 : Int32) => if q3 = 0 then Option.bind (f_X5_refuse X_refusedBad X_refusedFull (-2)) (fun (q16 : Int32 × Int32 × Int32) => some (q16.1, q16.2.1, q16.2.2, R_count, R_changes, R_F)) else if R_count < 12 then Option.bind (f_X3_append R_count R_changes R_F a0 a1 a2 a3 a4) (fun (q14 : Int32 × Int32 × Int32 × (Nat → Nat → Int32)) => some (q14.1, X_refusedBad, X_refusedFull, q14.2.1, q14.2.2.1, q14.2.2.2)) else Option.bind (f_X5_refuse X_refusedBad X_refusedFull (-4)) (fun (q15 : Int32 × Int32 × Int32) => some (q15.1, q15.2.1, q15.2.2, R_count, R_changes, R_F))))
theorem hy_X5_unit : yX5_unit.cls ≠ "java/lang/invoke/MethodHandle" ∧ yX5_unit.cls ≠ "java/lang/invoke/VarHandle" ∧ (parseMethodDescriptor yX5_unit.desc).map (fun d => d.parameters.length) = some 5 := by decide +kernel
set_option maxHeartbeats 4000000 in
set_option maxRecDepth 100000 in
theorem s_X5_unit {E : EN} {hM : TM} {X_method : Int32} {X_refusedBad : Int32} {X_refusedFull : Int32} {R_count : Int32} {R_changes : Int32} {R_F : Nat → Nat → Int32} {L_sample : Int32} {L_plays : Int32} {L_small : Int32} {L_large : Int32} {L_u : Int32} {L_v : Int32} {L_left : Nat → Int32} {L_firsts : Nat → Int32} {L_seconds : Nat → Int32} {L_winners : Nat → Int32} {T_sample : Int32} {T_plays : Int32} {T_small : Int32} {T_large : Int32} {T_u : Int32} {T_v : Int32} {T_left : Nat → Int32} {T_firsts : Nat → Int32} {T_seconds : Nat → Int32} {T_winners : Nat → Int32} {K_atChanges : Int32} {K_atMethod : Int32} {K_seen : Nat → Int64} {S_length : Int32} {S_sentences : Int32} {S_at : Int32} {S_units : Int32} {S_text : Nat → Int32} {S_verbs : Nat → Int32} {S_numbers : Nat → Int32} {P_length : Int32} {P_signs : Nat → Int32} {a0 : Int32} {a1 : Int32} {a2 : Int32} {a3 : Int32} {a4 : Int32} {qR : Int32 × Int32 × Int32 × Int32 × Int32 × (Nat → Nat → Int32)} (hf : f_X5_unit X_refusedBad X_refusedFull R_count R_changes R_F a0 a1 a2 a3 a4 = some qR) : Sem E yX5_unit cX5_unit 7 (some .int) 2 [.ref (eA E 0), .int a0, .int a1, .int a2, .int a3, .int a4] ((X_method, X_refusedBad, X_refusedFull), (R_count, R_changes, R_F), (L_sample, L_plays, L_small, L_large, L_u, L_v, L_left, L_firsts, L_seconds, L_winners), (T_sample, T_plays, T_small, T_large, T_u, T_v, T_left, T_firsts, T_seconds, T_winners), (K_atChanges, K_atMethod, K_seen), (S_length, S_sentences, S_at, S_units, S_text, S_verbs, S_numbers), (P_length, P_signs), hM) (some (.int qR.1), ((X_method, qR.2.1, qR.2.2.1), (qR.2.2.2.1, qR.2.2.2.2.1, qR.2.2.2.2.2), (L_sample, L_plays, L_small, L_large, L_u, L_v, L_left, L_firsts, L_seconds, L_winners), (T_sample, T_plays, T_small, T_large, T_u, T_v, T_left, T_firsts, T_seconds, T_winners), (K_atChanges, K_atMethod, K_seen), (S_length, S_sentences, S_at, S_units, S_text, S_verbs, S_numbers), (P_length, P_signs), hM)) := by
  refine Sem.mk (lv := [(0, .ref (eA E 0)), (1, .int a0), (2, .int a1), (3, .int a2), (4, .int a3), (5, .int a4)]) (by decide) (Nat.le_of_ble_eq_true rfl) rfl ?_
  rw [f_X5_unit] at hf
  refine r_iconst (v := 0) dX5_unit_0 (by decide) ?_
  refine r_iload_n dX5_unit_1 1 rfl ?_
  obtain ⟨q1, hq1, hf⟩ := hf_bind hf
  refine r_callSi (As := [.int 0, .int a0]) (st := []) (s_X3_fits hq1) (by decide) (by decide) wd_246 wd_247 wd_69 wd_248 hy_X3_fits rfl (Nat.le_of_ble_eq_true rfl) dX5_unit_2 ?_
  obtain ⟨q3, hq3, hf⟩ := hf_bind hf
  have kj3 : Wa E yX5_unit cX5_unit 7 (some .int) 2 (some (.int qR.1), ((X_method, qR.2.1, qR.2.2.1), (qR.2.2.2.1, qR.2.2.2.2.1, qR.2.2.2.2.2), (L_sample, L_plays, L_small, L_large, L_u, L_v, L_left, L_firsts, L_seconds, L_winners), (T_sample, T_plays, T_small, T_large, T_u, T_v, T_left, T_firsts, T_seconds, T_winners), (K_atChanges, K_atMethod, K_seen), (S_length, S_sentences, S_at, S_units, S_text, S_verbs, S_numbers), (P_length, P_signs), hM)) 47 [(0, .ref (eA E 0)), (1, .int a0), (2, .int a1), (3, .int a2), (4, .int a3), (5, .int a4)] [.int q3] ((X_method, X_refusedBad, X_refusedFull), (R_count, R_changes, R_F), (L_sample, L_plays, L_small, L_large, L_u, L_v, L_left, L_firsts, L_seconds, L_winners), (T_sample, T_plays, T_small, T_large, T_u, T_v, T_left, T_firsts, T_seconds, T_winners), (K_atChanges, K_atMethod, K_seen), (S_length, S_sentences, S_at, S_units, S_text, S_verbs, S_numbers), (P_length, P_signs), hM) := by
    refine r_istore (lv2 := [(6, .int q3), (0, .ref (eA E 0)), (1, .int a0), (2, .int a1), (3, .int a2), (4, .int a3), (5, .int a4)]) dX5_unit_47 (by decide) rfl ?_
    refine r_iload dX5_unit_49 0 rfl ?_
    refine r_if_ne (tgt := 61) dX5_unit_51 (by decide) (fun c12 => ?_) (fun c12 => ?_)
    · have hf := hf_neg c12 hf
      refine r_aload_n dX5_unit_61 1 rfl ?_
      refine r_get (v := .ref (eA E 1)) in_X5 0 ga_X rfl 0 (by decide) wd_214 rfl rfl dX5_unit_62 ?_
      refine r_getN (v := .int R_count) in_X3 1 ga_R rfl 1 (by decide) wn_100 rfl rfl dX5_unit_65 ?_
      refine r_bipush (v := 12) dX5_unit_68 (by decide) ?_
      refine r_icmp_lt (tgt := 80) dX5_unit_70 (by decide) (fun c13 => ?_) (fun c13 => ?_)
      · have hf := hf_pos c13 hf
        refine r_aload_n dX5_unit_80 1 rfl ?_
        refine r_get (v := .ref (eA E 1)) in_X5 0 ga_X rfl 0 (by decide) wd_214 rfl rfl dX5_unit_81 ?_
        refine r_iload_n dX5_unit_84 2 rfl ?_
        refine r_iload_n dX5_unit_85 3 rfl ?_
        refine r_iload_n dX5_unit_86 4 rfl ?_
        refine r_iload dX5_unit_87 5 rfl ?_
        refine r_iload dX5_unit_89 6 rfl ?_
        obtain ⟨q14, hq14, hf⟩ := hf_bind hf
        refine r_callVi (As := [.int a0, .int a1, .int a2, .int a3, .int a4]) (b := (eA E 1)) (st := []) (s_X3_append hq14) (by decide) (by decide) wd_255 wd_256 wd_257 wd_69 wd_258 hy_X3_append (Rc.obj 1 ga_R rfl) rfl (Nat.le_of_ble_eq_true rfl) dX5_unit_91 ?_
        have e9 := Option.some.inj hf
        subst e9
        exact r_iret rfl dX5_unit_94
      · have hf := hf_neg c13 hf
        refine r_aload_n dX5_unit_73 1 rfl ?_
        refine r_bipush (v := (-4)) dX5_unit_74 (by decide) ?_
        obtain ⟨q15, hq15, hf⟩ := hf_bind hf
        refine r_callVi (As := [.int (-4)]) (b := (eA E 0)) (st := []) (s_X5_refuse hq15) (by decide) (by decide) wd_251 wd_253 wd_0 wd_68 wd_254 hy_X5_refuse (Rc.obj 0 ga_X rfl) rfl (Nat.le_of_ble_eq_true rfl) dX5_unit_76 ?_
        have e9 := Option.some.inj hf
        subst e9
        exact r_iret rfl dX5_unit_79
    · have hf := hf_pos c12 hf
      refine r_aload_n dX5_unit_54 1 rfl ?_
      refine r_bipush (v := (-2)) dX5_unit_55 (by decide) ?_
      obtain ⟨q16, hq16, hf⟩ := hf_bind hf
      refine r_callVi (As := [.int (-2)]) (b := (eA E 0)) (st := []) (s_X5_refuse hq16) (by decide) (by decide) wd_251 wd_253 wd_0 wd_68 wd_254 hy_X5_refuse (Rc.obj 0 ga_X rfl) rfl (Nat.le_of_ble_eq_true rfl) dX5_unit_57 ?_
      have e9 := Option.some.inj hf
      subst e9
      exact r_iret rfl dX5_unit_60
  have hf := hq3
  refine r_if_eq (tgt := 46) dX5_unit_5 (by decide) (fun c2 => ?_) (fun c2 => ?_)
  · have hf := hf_pos c2 hf
    refine r_iconst (v := 0) dX5_unit_46 (by decide) ?_
    have e9 := Option.some.inj hf
    subst e9
    exact kj3
  · have hf := hf_neg c2 hf
    refine r_iconst (v := 1) dX5_unit_8 (by decide) ?_
    refine r_iload_n dX5_unit_9 2 rfl ?_
    obtain ⟨q4, hq4, hf⟩ := hf_bind hf
    refine r_callSi (As := [.int 1, .int a1]) (st := []) (s_X3_fits hq4) (by decide) (by decide) wd_246 wd_247 wd_69 wd_248 hy_X3_fits rfl (Nat.le_of_ble_eq_true rfl) dX5_unit_10 ?_
    refine r_if_eq (tgt := 46) dX5_unit_13 (by decide) (fun c5 => ?_) (fun c5 => ?_)
    · have hf := hf_pos c5 hf
      refine r_iconst (v := 0) dX5_unit_46 (by decide) ?_
      have e9 := Option.some.inj hf
      subst e9
      exact kj3
    · have hf := hf_neg c5 hf
      refine r_iconst (v := 2) dX5_unit_16 (by decide) ?_
      refine r_iload_n dX5_unit_17 3 rfl ?_
      obtain ⟨q6, hq6, hf⟩ := hf_bind hf
      refine r_callSi (As := [.int 2, .int a2]) (st := []) (s_X3_fits hq6) (by decide) (by decide) wd_246 wd_247 wd_69 wd_248 hy_X3_fits rfl (Nat.le_of_ble_eq_true rfl) dX5_unit_18 ?_
      refine r_if_eq (tgt := 46) dX5_unit_21 (by decide) (fun c7 => ?_) (fun c7 => ?_)
      · have hf := hf_pos c7 hf
        refine r_iconst (v := 0) dX5_unit_46 (by decide) ?_
        have e9 := Option.some.inj hf
        subst e9
        exact kj3
      · have hf := hf_neg c7 hf
        refine r_iconst (v := 3) dX5_unit_24 (by decide) ?_
        refine r_iload dX5_unit_25 4 rfl ?_
        obtain ⟨q8, hq8, hf⟩ := hf_bind hf
        refine r_callSi (As := [.int 3, .int a3]) (st := []) (s_X3_fits hq8) (by decide) (by decide) wd_246 wd_247 wd_69 wd_248 hy_X3_fits rfl (Nat.le_of_ble_eq_true rfl) dX5_unit_27 ?_
        refine r_if_eq (tgt := 46) dX5_unit_30 (by decide) (fun c9 => ?_) (fun c9 => ?_)
        · have hf := hf_pos c9 hf
          refine r_iconst (v := 0) dX5_unit_46 (by decide) ?_
          have e9 := Option.some.inj hf
          subst e9
          exact kj3
        · have hf := hf_neg c9 hf
          refine r_iconst (v := 4) dX5_unit_33 (by decide) ?_
          refine r_iload dX5_unit_34 5 rfl ?_
          obtain ⟨q10, hq10, hf⟩ := hf_bind hf
          refine r_callSi (As := [.int 4, .int a4]) (st := []) (s_X3_fits hq10) (by decide) (by decide) wd_246 wd_247 wd_69 wd_248 hy_X3_fits rfl (Nat.le_of_ble_eq_true rfl) dX5_unit_36 ?_
          refine r_if_eq (tgt := 46) dX5_unit_39 (by decide) (fun c11 => ?_) (fun c11 => ?_)
          · have hf := hf_pos c11 hf
            refine r_iconst (v := 0) dX5_unit_46 (by decide) ?_
            have e9 := Option.some.inj hf
            subst e9
            exact kj3
          · have hf := hf_neg c11 hf
            refine r_iconst (v := 1) dX5_unit_42 (by decide) ?_
            refine r_goto (tgt := 47) dX5_unit_43 (by decide) ?_
            have e9 := Option.some.inj hf
            subst e9
            exact kj3
-- DuelSamples.sets
def f_X5_sets (X_refusedBad : Int32) (X_refusedFull : Int32) (R_count : Int32) (R_changes : Int32) (R_F : Nat → Nat → Int32) (a0 : Int32) (a1 : Int32) (a2 : Int32) : Option (Int32 × Int32 × Int32 × Int32 × (Nat → Nat → Int32)) := Option.bind (f_X3_has R_count a0) (fun (q1 : Int32) => if q1 = 0 then Option.bind (f_X5_refuse X_refusedBad X_refusedFull (-2)) (fun (q3 : Int32 × Int32 × Int32) => some (q3.1, q3.2.1, q3.2.2, R_changes, R_F)) else Option.bind (f_X3_fits a1 a2) (fun (q4 : Int32) => if q4 = 0 then Option.bind (f_X5_refuse X_refusedBad X_refusedFull (-2)) (fun (q7 : Int32 × Int32 × Int32) => some (q7.1, q7.2.1, q7.2.2, R_changes, R_F)) else Option.bind (f_X3_change R_count R_changes R_F a0 a1 a2) (fun (q6 : Int32 × Int32 × (Nat → Nat → Int32)) => some (q6.1, X_refusedBad, X_refusedFull, q6.2.1, q6.2.2))))
theorem hy_X5_sets : yX5_sets.cls ≠ "java/lang/invoke/MethodHandle" ∧ yX5_sets.cls ≠ "java/lang/invoke/VarHandle" ∧ (parseMethodDescriptor yX5_sets.desc).map (fun d => d.parameters.length) = some 3 := by decide +kernel
set_option maxHeartbeats 4000000 in
set_option maxRecDepth 100000 in
theorem s_X5_sets {E : EN} {hM : TM} {X_method : Int32} {X_refusedBad : Int32} {X_refusedFull : Int32} {R_count : Int32} {R_changes : Int32} {R_F : Nat → Nat → Int32} {L_sample : Int32} {L_plays : Int32} {L_small : Int32} {L_large : Int32} {L_u : Int32} {L_v : Int32} {L_left : Nat → Int32} {L_firsts : Nat → Int32} {L_seconds : Nat → Int32} {L_winners : Nat → Int32} {T_sample : Int32} {T_plays : Int32} {T_small : Int32} {T_large : Int32} {T_u : Int32} {T_v : Int32} {T_left : Nat → Int32} {T_firsts : Nat → Int32} {T_seconds : Nat → Int32} {T_winners : Nat → Int32} {K_atChanges : Int32} {K_atMethod : Int32} {K_seen : Nat → Int64} {S_length : Int32} {S_sentences : Int32} {S_at : Int32} {S_units : Int32} {S_text : Nat → Int32} {S_verbs : Nat → Int32} {S_numbers : Nat → Int32} {P_length : Int32} {P_signs : Nat → Int32} {a0 : Int32} {a1 : Int32} {a2 : Int32} {qR : Int32 × Int32 × Int32 × Int32 × (Nat → Nat → Int32)} (hf : f_X5_sets X_refusedBad X_refusedFull R_count R_changes R_F a0 a1 a2 = some qR) : Sem E yX5_sets cX5_sets 4 (some .int) 3 [.ref (eA E 0), .int a0, .int a1, .int a2] ((X_method, X_refusedBad, X_refusedFull), (R_count, R_changes, R_F), (L_sample, L_plays, L_small, L_large, L_u, L_v, L_left, L_firsts, L_seconds, L_winners), (T_sample, T_plays, T_small, T_large, T_u, T_v, T_left, T_firsts, T_seconds, T_winners), (K_atChanges, K_atMethod, K_seen), (S_length, S_sentences, S_at, S_units, S_text, S_verbs, S_numbers), (P_length, P_signs), hM) (some (.int qR.1), ((X_method, qR.2.1, qR.2.2.1), (R_count, qR.2.2.2.1, qR.2.2.2.2), (L_sample, L_plays, L_small, L_large, L_u, L_v, L_left, L_firsts, L_seconds, L_winners), (T_sample, T_plays, T_small, T_large, T_u, T_v, T_left, T_firsts, T_seconds, T_winners), (K_atChanges, K_atMethod, K_seen), (S_length, S_sentences, S_at, S_units, S_text, S_verbs, S_numbers), (P_length, P_signs), hM)) := by
  refine Sem.mk (lv := [(0, .ref (eA E 0)), (1, .int a0), (2, .int a1), (3, .int a2)]) (by decide) (Nat.le_of_ble_eq_true rfl) rfl ?_
  rw [f_X5_sets] at hf
  refine r_aload_n dX5_sets_0 0 rfl ?_
  refine r_get (v := .ref (eA E 1)) in_X5 0 ga_X rfl 0 (by decide) wd_214 rfl rfl dX5_sets_1 ?_
  refine r_iload_n dX5_sets_4 1 rfl ?_
  obtain ⟨q1, hq1, hf⟩ := hf_bind hf
  refine r_callVi (As := [.int a0]) (b := (eA E 1)) (st := []) (s_X3_has hq1) (by decide) (by decide) wd_263 wd_264 wd_265 wd_69 wd_266 hy_X3_has (Rc.obj 1 ga_R rfl) rfl (Nat.le_of_ble_eq_true rfl) dX5_sets_5 ?_
  refine r_if_eq (tgt := 19) dX5_sets_8 (by decide) (fun c2 => ?_) (fun c2 => ?_)
  · have hf := hf_pos c2 hf
    refine r_aload_n dX5_sets_19 0 rfl ?_
    refine r_bipush (v := (-2)) dX5_sets_20 (by decide) ?_
    obtain ⟨q3, hq3, hf⟩ := hf_bind hf
    refine r_callVi (As := [.int (-2)]) (b := (eA E 0)) (st := []) (s_X5_refuse hq3) (by decide) (by decide) wd_251 wd_253 wd_0 wd_68 wd_254 hy_X5_refuse (Rc.obj 0 ga_X rfl) rfl (Nat.le_of_ble_eq_true rfl) dX5_sets_22 ?_
    have e9 := Option.some.inj hf
    subst e9
    exact r_iret rfl dX5_sets_25
  · have hf := hf_neg c2 hf
    refine r_iload_n dX5_sets_11 2 rfl ?_
    refine r_iload_n dX5_sets_12 3 rfl ?_
    obtain ⟨q4, hq4, hf⟩ := hf_bind hf
    refine r_callSi (As := [.int a1, .int a2]) (st := []) (s_X3_fits hq4) (by decide) (by decide) wd_246 wd_247 wd_69 wd_248 hy_X3_fits rfl (Nat.le_of_ble_eq_true rfl) dX5_sets_13 ?_
    refine r_if_ne (tgt := 26) dX5_sets_16 (by decide) (fun c5 => ?_) (fun c5 => ?_)
    · have hf := hf_neg c5 hf
      refine r_aload_n dX5_sets_26 0 rfl ?_
      refine r_get (v := .ref (eA E 1)) in_X5 0 ga_X rfl 0 (by decide) wd_214 rfl rfl dX5_sets_27 ?_
      refine r_iload_n dX5_sets_30 1 rfl ?_
      refine r_iload_n dX5_sets_31 2 rfl ?_
      refine r_iload_n dX5_sets_32 3 rfl ?_
      obtain ⟨q6, hq6, hf⟩ := hf_bind hf
      refine r_callVi (As := [.int a0, .int a1, .int a2]) (b := (eA E 1)) (st := []) (s_X3_change hq6) (by decide) (by decide) wd_267 wd_268 wd_269 wd_69 wd_270 hy_X3_change (Rc.obj 1 ga_R rfl) rfl (Nat.le_of_ble_eq_true rfl) dX5_sets_33 ?_
      have e9 := Option.some.inj hf
      subst e9
      exact r_iret rfl dX5_sets_36
    · have hf := hf_pos c5 hf
      refine r_aload_n dX5_sets_19 0 rfl ?_
      refine r_bipush (v := (-2)) dX5_sets_20 (by decide) ?_
      obtain ⟨q7, hq7, hf⟩ := hf_bind hf
      refine r_callVi (As := [.int (-2)]) (b := (eA E 0)) (st := []) (s_X5_refuse hq7) (by decide) (by decide) wd_251 wd_253 wd_0 wd_68 wd_254 hy_X5_refuse (Rc.obj 0 ga_X rfl) rfl (Nat.le_of_ble_eq_true rfl) dX5_sets_22 ?_
      have e9 := Option.some.inj hf
      subst e9
      exact r_iret rfl dX5_sets_25
-- DuelSamples.empties
def f_X5_empties (R_count : Int32) (R_changes : Int32)  : Option (Int32 × Int32 × Int32 × Int32 × Int32 × Int32 × Int32) := Option.bind (f_X3_removeAll R_changes) (fun (q1 : Int32 × Int32) => Option.bind (f_X0_forget) (fun (q2 : Int32 × Int32 × Int32 × Int32) => some (R_count, q1.1, q1.2, q2.1, q2.2.1, q2.2.2.1, q2.2.2.2)))
theorem hy_X5_empties : yX5_empties.cls ≠ "java/lang/invoke/MethodHandle" ∧ yX5_empties.cls ≠ "java/lang/invoke/VarHandle" ∧ (parseMethodDescriptor yX5_empties.desc).map (fun d => d.parameters.length) = some 0 := by decide +kernel
set_option maxHeartbeats 4000000 in
set_option maxRecDepth 100000 in
theorem s_X5_empties {E : EN} {hM : TM} {X_method : Int32} {X_refusedBad : Int32} {X_refusedFull : Int32} {R_count : Int32} {R_changes : Int32} {R_F : Nat → Nat → Int32} {L_sample : Int32} {L_plays : Int32} {L_small : Int32} {L_large : Int32} {L_u : Int32} {L_v : Int32} {L_left : Nat → Int32} {L_firsts : Nat → Int32} {L_seconds : Nat → Int32} {L_winners : Nat → Int32} {T_sample : Int32} {T_plays : Int32} {T_small : Int32} {T_large : Int32} {T_u : Int32} {T_v : Int32} {T_left : Nat → Int32} {T_firsts : Nat → Int32} {T_seconds : Nat → Int32} {T_winners : Nat → Int32} {K_atChanges : Int32} {K_atMethod : Int32} {K_seen : Nat → Int64} {S_length : Int32} {S_sentences : Int32} {S_at : Int32} {S_units : Int32} {S_text : Nat → Int32} {S_verbs : Nat → Int32} {S_numbers : Nat → Int32} {P_length : Int32} {P_signs : Nat → Int32}  {qR : Int32 × Int32 × Int32 × Int32 × Int32 × Int32 × Int32} (hf : f_X5_empties R_count R_changes = some qR) : Sem E yX5_empties cX5_empties 2 (some .int) 2 [.ref (eA E 0)] ((X_method, X_refusedBad, X_refusedFull), (R_count, R_changes, R_F), (L_sample, L_plays, L_small, L_large, L_u, L_v, L_left, L_firsts, L_seconds, L_winners), (T_sample, T_plays, T_small, T_large, T_u, T_v, T_left, T_firsts, T_seconds, T_winners), (K_atChanges, K_atMethod, K_seen), (S_length, S_sentences, S_at, S_units, S_text, S_verbs, S_numbers), (P_length, P_signs), hM) (some (.int qR.1), ((X_method, X_refusedBad, X_refusedFull), (qR.2.1, qR.2.2.1, R_F), (qR.2.2.2.1, qR.2.2.2.2.1, qR.2.2.2.2.2.1, qR.2.2.2.2.2.2, L_u, L_v, L_left, L_firsts, L_seconds, L_winners), (T_sample, T_plays, T_small, T_large, T_u, T_v, T_left, T_firsts, T_seconds, T_winners), (K_atChanges, K_atMethod, K_seen), (S_length, S_sentences, S_at, S_units, S_text, S_verbs, S_numbers), (P_length, P_signs), hM)) := by
  refine Sem.mk (lv := [(0, .ref (eA E 0))]) (by decide) (Nat.le_of_ble_eq_true rfl) rfl ?_
  rw [f_X5_empties] at hf
  refine r_aload_n dX5_empties_0 0 rfl ?_
  refine r_get (v := .ref (eA E 1)) in_X5 0 ga_X rfl 0 (by decide) wd_214 rfl rfl dX5_empties_1 ?_
  refine r_getN (v := .int R_count) in_X3 1 ga_R rfl 1 (by decide) wn_100 rfl rfl dX5_empties_4 ?_
  refine r_istore_n (lv2 := [(1, .int R_count), (0, .ref (eA E 0))]) dX5_empties_7 rfl (by decide) rfl ?_
  refine r_aload_n dX5_empties_8 1 rfl ?_
  refine r_get (v := .ref (eA E 1)) in_X5 0 ga_X rfl 0 (by decide) wd_214 rfl rfl dX5_empties_9 ?_
  obtain ⟨q1, hq1, hf⟩ := hf_bind hf
  refine r_callVv (As := []) (b := (eA E 1)) (st := []) (s_X3_removeAll hq1) (by decide) (by decide) wd_276 wd_277 wd_278 wd_69 wd_279 hy_X3_removeAll (Rc.obj 1 ga_R rfl) rfl (Nat.le_of_ble_eq_true rfl) dX5_empties_12 ?_
  refine r_aload_n dX5_empties_15 1 rfl ?_
  refine r_get (v := .ref (eA E 8)) in_X5 0 ga_X rfl 1 (by decide) wd_215 rfl rfl dX5_empties_16 ?_
  obtain ⟨q2, hq2, hf⟩ := hf_bind hf
  refine r_callVv (As := []) (b := (eA E 8)) (st := []) (s_X0_forget_L hq2) (by decide) (by decide) wd_280 wd_281 wd_282 wd_70 wd_283 hy_X0_forget (Rc.obj 8 ga_L rfl) rfl (Nat.le_of_ble_eq_true rfl) dX5_empties_19 ?_
  refine r_iload_n dX5_empties_22 0 rfl ?_
  have e9 := Option.some.inj hf
  subst e9
  exact r_iret rfl dX5_empties_23
-- DuelSamples.draw
def lp_X5_draw_44 (a1 : Int32) : Nat → Int64 → Int32 → Int32 → Int32 → (Nat → Nat → Int32) → Option (Int32 × Int32 × (Nat → Nat → Int32))
  | 0, _, _, _, _, _ => none
  | n9 + 1, v3_44, v5_44, R_count_44, R_changes_44, R_F_44 => if a1 ≤ v5_44 then some (R_count_44, R_changes_44, R_F_44) else Option.bind (f_X5_nextX v3_44) (fun (q10 : Int64) => Option.bind (f_X3_append R_count_44 R_changes_44 R_F_44 (Int64.toInt32 ((q10 / 65536) - (q10 / 65536) / 13 * 13)) (Int64.toInt32 ((q10 / 1024) - (q10 / 1024) / 100 * 100)) (Int64.toInt32 ((q10 / 32768) - (q10 / 32768) / 4 * 4)) (Int64.toInt32 ((q10 / 4096) - (q10 / 4096) / 100 * 100)) (Int64.toInt32 ((q10 / 512) - (q10 / 512) / 100 * 100))) (fun (q11 : Int32 × Int32 × Int32 × (Nat → Nat → Int32)) => lp_X5_draw_44 a1 n9 q10 (v5_44 + 1) q11.2.1 q11.2.2.1 q11.2.2.2))
def f_X5_draw (X_refusedBad : Int32) (X_refusedFull : Int32) (R_count : Int32) (R_changes : Int32) (R_F : Nat → Nat → Int32) (L_sample : Int32) (L_plays : Int32) (L_small : Int32) (L_large : Int32) (a0 : Int32) (a1 : Int32) : Option (Int32 × Int32 × Int32 × Int32 × Int32 × (Nat → Nat → Int32) × Int32 × Int32 × Int32 × Int32) := Option.bind (f_X5_isSeed a0) (fun (q1 : Int32) => if q1 = 0 then Option.bind (f_X5_refuse X_refusedBad X_refusedFull (-2)) (fun (q3 : Int32 × Int32 × Int32) => some (q3.1, q3.2.1, q3.2.2, R_count, R_changes, R_F, L_sample, L_plays, L_small, L_large)) else if a1 < 0 then Option.bind (f_X5_refuse X_refusedBad X_refusedFull (-2)) (fun (q5 : Int32 × Int32 × Int32) => some (q5.1, q5.2.1, q5.2.2, R_count, R_changes, R_F, L_sample, L_plays, L_small, L_large)) else if a1 ≤ 12 then Option.bind (f_X3_removeAll R_changes) (fun (q7 : Int32 × Int32) => Option.bind (f_X0_forget) (fun (q8 : Int32 × Int32 × Int32 × Int32) => Option.bind (lp_X5_draw_44 a1 FU (Int32.toInt64 a0) 0 q7.1 q7.2 R_F) (fun (q12 : Int32 × Int32 × (Nat → Nat → Int32)) => Option.bind (f_X3_sum q12.1 q12.2.2 0) (fun (q13 : Int32) => some (q13, X_refusedBad, X_refusedFull, q12.1, q12.2.1, q12.2.2, q8.1, q8.2.1, q8.2.2.1, q8.2.2.2))))) else Option.bind (f_X5_refuse X_refusedBad X_refusedFull (-2)) (fun (q14 : Int32 × Int32 × Int32) => some (q14.1, q14.2.1, q14.2.2, R_count, R_changes, R_F, L_sample, L_plays, L_small, L_large)))
theorem hy_X5_draw : yX5_draw.cls ≠ "java/lang/invoke/MethodHandle" ∧ yX5_draw.cls ≠ "java/lang/invoke/VarHandle" ∧ (parseMethodDescriptor yX5_draw.desc).map (fun d => d.parameters.length) = some 2 := by decide +kernel
set_option maxHeartbeats 4000000 in
set_option maxRecDepth 100000 in
theorem w_X5_draw_44 {E : EN} {res : Option Value × Hp} {hM : TM} {a1 : Int32} {X_method : Int32} {X_refusedBad : Int32} {X_refusedFull : Int32} {q8 : Int32 × Int32 × Int32 × Int32} {L_u : Int32} {L_v : Int32} {L_left : Nat → Int32} {L_firsts : Nat → Int32} {L_seconds : Nat → Int32} {L_winners : Nat → Int32} {T_sample : Int32} {T_plays : Int32} {T_small : Int32} {T_large : Int32} {T_u : Int32} {T_v : Int32} {T_left : Nat → Int32} {T_firsts : Nat → Int32} {T_seconds : Nat → Int32} {T_winners : Nat → Int32} {K_atChanges : Int32} {K_atMethod : Int32} {K_seen : Nat → Int64} {S_length : Int32} {S_sentences : Int32} {S_at : Int32} {S_units : Int32} {S_text : Nat → Int32} {S_verbs : Nat → Int32} {S_numbers : Nat → Int32} {P_length : Int32} {P_signs : Nat → Int32} : ∀ (n9 : Nat) (v3_44 : Int64) (v5_44 : Int32) (R_count_44 : Int32) (R_changes_44 : Int32) (R_F_44 : Nat → Nat → Int32) (qL : Int32 × Int32 × (Nat → Nat → Int32)), lp_X5_draw_44 a1 n9 v3_44 v5_44 R_count_44 R_changes_44 R_F_44 = some qL → (Wa E yX5_draw cX5_draw 6 (some .int) 3 res 119 [(0, .ref (eA E 0))] [] ((X_method, X_refusedBad, X_refusedFull), (qL.1, qL.2.1, qL.2.2), (q8.1, q8.2.1, q8.2.2.1, q8.2.2.2, L_u, L_v, L_left, L_firsts, L_seconds, L_winners), (T_sample, T_plays, T_small, T_large, T_u, T_v, T_left, T_firsts, T_seconds, T_winners), (K_atChanges, K_atMethod, K_seen), (S_length, S_sentences, S_at, S_units, S_text, S_verbs, S_numbers), (P_length, P_signs), hM)) → Wa E yX5_draw cX5_draw 6 (some .int) 3 res 44 [(0, .ref (eA E 0)), (2, .int a1), (3, .long v3_44), (5, .int v5_44)] [] ((X_method, X_refusedBad, X_refusedFull), (R_count_44, R_changes_44, R_F_44), (q8.1, q8.2.1, q8.2.2.1, q8.2.2.2, L_u, L_v, L_left, L_firsts, L_seconds, L_winners), (T_sample, T_plays, T_small, T_large, T_u, T_v, T_left, T_firsts, T_seconds, T_winners), (K_atChanges, K_atMethod, K_seen), (S_length, S_sentences, S_at, S_units, S_text, S_verbs, S_numbers), (P_length, P_signs), hM) := by
  intro n9
  induction n9 with
  | zero =>
    intro v3_44 v5_44 R_count_44 R_changes_44 R_F_44 qL hf
    exact nomatch (show (none : Option (Int32 × Int32 × (Nat → Nat → Int32))) = some qL from hf)
  | succ n9 ih =>
    intro v3_44 v5_44 R_count_44 R_changes_44 R_F_44 qL hf kx0
    rw [lp_X5_draw_44] at hf
    refine r_iload dX5_draw_44 3 rfl ?_
    refine r_iload_n dX5_draw_46 1 rfl ?_
    refine r_icmp_ge (tgt := 119) dX5_draw_47 (by decide) (fun c9 => ?_) (fun c9 => ?_)
    · have hf := hf_pos c9 hf
      have e9 := Option.some.inj hf
      subst e9
      exact (Wa.sub [0] rfl kx0)
    · have hf := hf_neg c9 hf
      refine r_lload_n dX5_draw_50 2 rfl ?_
      obtain ⟨q10, hq10, hf⟩ := hf_bind hf
      refine r_callSl (As := [.long v3_44]) (st := []) (s_X5_nextX hq10) (by decide) (by decide) wd_292 wd_293 wd_68 wd_294 hy_X5_nextX rfl (Nat.le_of_ble_eq_true rfl) dX5_draw_51 ?_
      refine r_lstore_n (lv2 := [(3, .long q10), (0, .ref (eA E 0)), (2, .int a1), (5, .int v5_44)]) dX5_draw_54 rfl (by decide) rfl ?_
      refine r_aload_n dX5_draw_55 1 rfl ?_
      refine r_get (v := .ref (eA E 1)) in_X5 0 ga_X rfl 0 (by decide) wd_214 rfl rfl dX5_draw_56 ?_
      refine r_lload_n dX5_draw_59 0 rfl ?_
      refine r_ldc2 (v := 65536) wd_298 dX5_draw_60 ?_
      refine r_ldiv dX5_draw_63 (by decide) ?_
      refine r_ldc2 (v := 13) wd_299 dX5_draw_64 ?_
      refine r_lrem dX5_draw_67 (by decide) ?_
      refine r_l2i dX5_draw_68 ?_
      refine r_lload_n dX5_draw_69 0 rfl ?_
      refine r_ldc2 (v := 1024) wd_300 dX5_draw_70 ?_
      refine r_ldiv dX5_draw_73 (by decide) ?_
      refine r_ldc2 (v := 100) wd_301 dX5_draw_74 ?_
      refine r_lrem dX5_draw_77 (by decide) ?_
      refine r_l2i dX5_draw_78 ?_
      refine r_lload_n dX5_draw_79 0 rfl ?_
      refine r_ldc2 (v := 32768) wd_302 dX5_draw_80 ?_
      refine r_ldiv dX5_draw_83 (by decide) ?_
      refine r_ldc2 (v := 4) wd_303 dX5_draw_84 ?_
      refine r_lrem dX5_draw_87 (by decide) ?_
      refine r_l2i dX5_draw_88 ?_
      refine r_lload_n dX5_draw_89 0 rfl ?_
      refine r_ldc2 (v := 4096) wd_304 dX5_draw_90 ?_
      refine r_ldiv dX5_draw_93 (by decide) ?_
      refine r_ldc2 (v := 100) wd_301 dX5_draw_94 ?_
      refine r_lrem dX5_draw_97 (by decide) ?_
      refine r_l2i dX5_draw_98 ?_
      refine r_lload_n dX5_draw_99 0 rfl ?_
      refine r_ldc2 (v := 512) wd_305 dX5_draw_100 ?_
      refine r_ldiv dX5_draw_103 (by decide) ?_
      refine r_ldc2 (v := 100) wd_301 dX5_draw_104 ?_
      refine r_lrem dX5_draw_107 (by decide) ?_
      refine r_l2i dX5_draw_108 ?_
      obtain ⟨q11, hq11, hf⟩ := hf_bind hf
      refine r_callVi (As := [.int (Int64.toInt32 ((q10 / 65536) - (q10 / 65536) / 13 * 13)), .int (Int64.toInt32 ((q10 / 1024) - (q10 / 1024) / 100 * 100)), .int (Int64.toInt32 ((q10 / 32768) - (q10 / 32768) / 4 * 4)), .int (Int64.toInt32 ((q10 / 4096) - (q10 / 4096) / 100 * 100)), .int (Int64.toInt32 ((q10 / 512) - (q10 / 512) / 100 * 100))]) (b := (eA E 1)) (st := []) (s_X3_append hq11) (by decide) (by decide) wd_255 wd_256 wd_257 wd_69 wd_258 hy_X3_append (Rc.obj 1 ga_R rfl) rfl (Nat.le_of_ble_eq_true rfl) dX5_draw_109 ?_
      refine r_pop dX5_draw_112 rfl ?_
      refine r_iinc (v := (v5_44 + 1)) (lv2 := [(5, .int (v5_44 + 1)), (3, .long q10), (0, .ref (eA E 0)), (2, .int a1)]) dX5_draw_113 3 rfl rfl (by decide) rfl ?_
      refine r_goto (tgt := 44) dX5_draw_116 (by decide) ?_
      exact (Wa.sub [2, 3, 1, 0] rfl (ih _ _ _ _ _ _ hf kx0))
set_option maxHeartbeats 4000000 in
set_option maxRecDepth 100000 in
theorem s_X5_draw {E : EN} {hM : TM} {X_method : Int32} {X_refusedBad : Int32} {X_refusedFull : Int32} {R_count : Int32} {R_changes : Int32} {R_F : Nat → Nat → Int32} {L_sample : Int32} {L_plays : Int32} {L_small : Int32} {L_large : Int32} {L_u : Int32} {L_v : Int32} {L_left : Nat → Int32} {L_firsts : Nat → Int32} {L_seconds : Nat → Int32} {L_winners : Nat → Int32} {T_sample : Int32} {T_plays : Int32} {T_small : Int32} {T_large : Int32} {T_u : Int32} {T_v : Int32} {T_left : Nat → Int32} {T_firsts : Nat → Int32} {T_seconds : Nat → Int32} {T_winners : Nat → Int32} {K_atChanges : Int32} {K_atMethod : Int32} {K_seen : Nat → Int64} {S_length : Int32} {S_sentences : Int32} {S_at : Int32} {S_units : Int32} {S_text : Nat → Int32} {S_verbs : Nat → Int32} {S_numbers : Nat → Int32} {P_length : Int32} {P_signs : Nat → Int32} {a0 : Int32} {a1 : Int32} {qR : Int32 × Int32 × Int32 × Int32 × Int32 × (Nat → Nat → Int32) × Int32 × Int32 × Int32 × Int32} (hf : f_X5_draw X_refusedBad X_refusedFull R_count R_changes R_F L_sample L_plays L_small L_large a0 a1 = some qR) : Sem E yX5_draw cX5_draw 6 (some .int) 3 [.ref (eA E 0), .int a0, .int a1] ((X_method, X_refusedBad, X_refusedFull), (R_count, R_changes, R_F), (L_sample, L_plays, L_small, L_large, L_u, L_v, L_left, L_firsts, L_seconds, L_winners), (T_sample, T_plays, T_small, T_large, T_u, T_v, T_left, T_firsts, T_seconds, T_winners), (K_atChanges, K_atMethod, K_seen), (S_length, S_sentences, S_at, S_units, S_text, S_verbs, S_numbers), (P_length, P_signs), hM) (some (.int qR.1), ((X_method, qR.2.1, qR.2.2.1), (qR.2.2.2.1, qR.2.2.2.2.1, qR.2.2.2.2.2.1), (qR.2.2.2.2.2.2.1, qR.2.2.2.2.2.2.2.1, qR.2.2.2.2.2.2.2.2.1, qR.2.2.2.2.2.2.2.2.2, L_u, L_v, L_left, L_firsts, L_seconds, L_winners), (T_sample, T_plays, T_small, T_large, T_u, T_v, T_left, T_firsts, T_seconds, T_winners), (K_atChanges, K_atMethod, K_seen), (S_length, S_sentences, S_at, S_units, S_text, S_verbs, S_numbers), (P_length, P_signs), hM)) := by
  refine Sem.mk (lv := [(0, .ref (eA E 0)), (1, .int a0), (2, .int a1)]) (by decide) (Nat.le_of_ble_eq_true rfl) rfl ?_
  rw [f_X5_draw] at hf
  refine r_iload_n dX5_draw_0 1 rfl ?_
  obtain ⟨q1, hq1, hf⟩ := hf_bind hf
  refine r_callSi (As := [.int a0]) (st := []) (s_X5_isSeed hq1) (by decide) (by decide) wd_288 wd_289 wd_68 wd_290 hy_X5_isSeed rfl (Nat.le_of_ble_eq_true rfl) dX5_draw_1 ?_
  refine r_if_eq (tgt := 17) dX5_draw_4 (by decide) (fun c2 => ?_) (fun c2 => ?_)
  · have hf := hf_pos c2 hf
    refine r_aload_n dX5_draw_17 0 rfl ?_
    refine r_bipush (v := (-2)) dX5_draw_18 (by decide) ?_
    obtain ⟨q3, hq3, hf⟩ := hf_bind hf
    refine r_callVi (As := [.int (-2)]) (b := (eA E 0)) (st := []) (s_X5_refuse hq3) (by decide) (by decide) wd_251 wd_253 wd_0 wd_68 wd_254 hy_X5_refuse (Rc.obj 0 ga_X rfl) rfl (Nat.le_of_ble_eq_true rfl) dX5_draw_20 ?_
    have e9 := Option.some.inj hf
    subst e9
    exact r_iret rfl dX5_draw_23
  · have hf := hf_neg c2 hf
    refine r_iload_n dX5_draw_7 2 rfl ?_
    refine r_if_lt (tgt := 17) dX5_draw_8 (by decide) (fun c4 => ?_) (fun c4 => ?_)
    · have hf := hf_pos c4 hf
      refine r_aload_n dX5_draw_17 0 rfl ?_
      refine r_bipush (v := (-2)) dX5_draw_18 (by decide) ?_
      obtain ⟨q5, hq5, hf⟩ := hf_bind hf
      refine r_callVi (As := [.int (-2)]) (b := (eA E 0)) (st := []) (s_X5_refuse hq5) (by decide) (by decide) wd_251 wd_253 wd_0 wd_68 wd_254 hy_X5_refuse (Rc.obj 0 ga_X rfl) rfl (Nat.le_of_ble_eq_true rfl) dX5_draw_20 ?_
      have e9 := Option.some.inj hf
      subst e9
      exact r_iret rfl dX5_draw_23
    · have hf := hf_neg c4 hf
      refine r_iload_n dX5_draw_11 2 rfl ?_
      refine r_bipush (v := 12) dX5_draw_12 (by decide) ?_
      refine r_icmp_le (tgt := 24) dX5_draw_14 (by decide) (fun c6 => ?_) (fun c6 => ?_)
      · have hf := hf_pos c6 hf
        refine r_aload_n dX5_draw_24 0 rfl ?_
        refine r_get (v := .ref (eA E 1)) in_X5 0 ga_X rfl 0 (by decide) wd_214 rfl rfl dX5_draw_25 ?_
        obtain ⟨q7, hq7, hf⟩ := hf_bind hf
        refine r_callVv (As := []) (b := (eA E 1)) (st := []) (s_X3_removeAll hq7) (by decide) (by decide) wd_276 wd_277 wd_278 wd_69 wd_279 hy_X3_removeAll (Rc.obj 1 ga_R rfl) rfl (Nat.le_of_ble_eq_true rfl) dX5_draw_28 ?_
        refine r_aload_n dX5_draw_31 0 rfl ?_
        refine r_get (v := .ref (eA E 8)) in_X5 0 ga_X rfl 1 (by decide) wd_215 rfl rfl dX5_draw_32 ?_
        obtain ⟨q8, hq8, hf⟩ := hf_bind hf
        refine r_callVv (As := []) (b := (eA E 8)) (st := []) (s_X0_forget_L hq8) (by decide) (by decide) wd_280 wd_281 wd_282 wd_70 wd_283 hy_X0_forget (Rc.obj 8 ga_L rfl) rfl (Nat.le_of_ble_eq_true rfl) dX5_draw_35 ?_
        refine r_iload_n dX5_draw_38 1 rfl ?_
        refine r_i2l dX5_draw_39 ?_
        refine r_lstore_n (lv2 := [(3, .long (Int32.toInt64 a0)), (0, .ref (eA E 0)), (1, .int a0), (2, .int a1)]) dX5_draw_40 rfl (by decide) rfl ?_
        refine r_iconst (v := 0) dX5_draw_41 (by decide) ?_
        refine r_istore (lv2 := [(5, .int 0), (3, .long (Int32.toInt64 a0)), (0, .ref (eA E 0)), (1, .int a0), (2, .int a1)]) dX5_draw_42 (by decide) rfl ?_
        obtain ⟨q12, hq12, hf⟩ := hf_bind hf
        refine (Wa.sub [2, 4, 1, 0] rfl (w_X5_draw_44 _ _ _ _ _ _ _ hq12 ?_))
        refine r_aload_n dX5_draw_119 0 rfl ?_
        refine r_get (v := .ref (eA E 1)) in_X5 0 ga_X rfl 0 (by decide) wd_214 rfl rfl dX5_draw_120 ?_
        refine r_iconst (v := 0) dX5_draw_123 (by decide) ?_
        obtain ⟨q13, hq13, hf⟩ := hf_bind hf
        refine r_callVi (As := [.int 0]) (b := (eA E 1)) (st := []) (s_X3_sum hq13) (by decide) (by decide) wd_306 wd_307 wd_308 wd_69 wd_309 hy_X3_sum (Rc.obj 1 ga_R rfl) rfl (Nat.le_of_ble_eq_true rfl) dX5_draw_124 ?_
        have e9 := Option.some.inj hf
        subst e9
        exact r_iret rfl dX5_draw_127
      · have hf := hf_neg c6 hf
        refine r_aload_n dX5_draw_17 0 rfl ?_
        refine r_bipush (v := (-2)) dX5_draw_18 (by decide) ?_
        obtain ⟨q14, hq14, hf⟩ := hf_bind hf
        refine r_callVi (As := [.int (-2)]) (b := (eA E 0)) (st := []) (s_X5_refuse hq14) (by decide) (by decide) wd_251 wd_253 wd_0 wd_68 wd_254 hy_X5_refuse (Rc.obj 0 ga_X rfl) rfl (Nat.le_of_ble_eq_true rfl) dX5_draw_20 ?_
        have e9 := Option.some.inj hf
        subst e9
        exact r_iret rfl dX5_draw_23
-- DuelSamples.knownOf
def f_X5_knownOf (R_count : Int32) (R_F : Nat → Nat → Int32) (L_sample : Int32) (a0 : Int32) (a1 : Int32) : Option (Int32) := if a1 = 5 then Option.bind (f_X0_holds L_sample a0) (fun (q3 : Int32) => if q3 = 0 then some 0 else some 1) else Option.bind (f_X3_fact R_count R_F a0 a1) (fun (q2 : Int32) => some q2)
theorem hy_X5_knownOf : yX5_knownOf.cls ≠ "java/lang/invoke/MethodHandle" ∧ yX5_knownOf.cls ≠ "java/lang/invoke/VarHandle" ∧ (parseMethodDescriptor yX5_knownOf.desc).map (fun d => d.parameters.length) = some 2 := by decide +kernel
set_option maxHeartbeats 4000000 in
set_option maxRecDepth 100000 in
theorem s_X5_knownOf {E : EN} {hM : TM} {X_method : Int32} {X_refusedBad : Int32} {X_refusedFull : Int32} {R_count : Int32} {R_changes : Int32} {R_F : Nat → Nat → Int32} {L_sample : Int32} {L_plays : Int32} {L_small : Int32} {L_large : Int32} {L_u : Int32} {L_v : Int32} {L_left : Nat → Int32} {L_firsts : Nat → Int32} {L_seconds : Nat → Int32} {L_winners : Nat → Int32} {T_sample : Int32} {T_plays : Int32} {T_small : Int32} {T_large : Int32} {T_u : Int32} {T_v : Int32} {T_left : Nat → Int32} {T_firsts : Nat → Int32} {T_seconds : Nat → Int32} {T_winners : Nat → Int32} {K_atChanges : Int32} {K_atMethod : Int32} {K_seen : Nat → Int64} {S_length : Int32} {S_sentences : Int32} {S_at : Int32} {S_units : Int32} {S_text : Nat → Int32} {S_verbs : Nat → Int32} {S_numbers : Nat → Int32} {P_length : Int32} {P_signs : Nat → Int32} {a0 : Int32} {a1 : Int32} {qR : Int32} (hf : f_X5_knownOf R_count R_F L_sample a0 a1 = some qR) : Sem E yX5_knownOf cX5_knownOf 3 (some .int) 2 [.ref (eA E 0), .int a0, .int a1] ((X_method, X_refusedBad, X_refusedFull), (R_count, R_changes, R_F), (L_sample, L_plays, L_small, L_large, L_u, L_v, L_left, L_firsts, L_seconds, L_winners), (T_sample, T_plays, T_small, T_large, T_u, T_v, T_left, T_firsts, T_seconds, T_winners), (K_atChanges, K_atMethod, K_seen), (S_length, S_sentences, S_at, S_units, S_text, S_verbs, S_numbers), (P_length, P_signs), hM) (some (.int qR), ((X_method, X_refusedBad, X_refusedFull), (R_count, R_changes, R_F), (L_sample, L_plays, L_small, L_large, L_u, L_v, L_left, L_firsts, L_seconds, L_winners), (T_sample, T_plays, T_small, T_large, T_u, T_v, T_left, T_firsts, T_seconds, T_winners), (K_atChanges, K_atMethod, K_seen), (S_length, S_sentences, S_at, S_units, S_text, S_verbs, S_numbers), (P_length, P_signs), hM)) := by
  refine Sem.mk (lv := [(0, .ref (eA E 0)), (1, .int a0), (2, .int a1)]) (by decide) (Nat.le_of_ble_eq_true rfl) rfl ?_
  rw [f_X5_knownOf] at hf
  refine r_iload_n dX5_knownOf_0 2 rfl ?_
  refine r_iconst (v := 5) dX5_knownOf_1 (by decide) ?_
  refine r_icmp_ne (tgt := 22) dX5_knownOf_2 (by decide) (fun c1 => ?_) (fun c1 => ?_)
  · have hf := hf_neg c1 hf
    refine r_aload_n dX5_knownOf_22 0 rfl ?_
    refine r_get (v := .ref (eA E 1)) in_X5 0 ga_X rfl 0 (by decide) wd_214 rfl rfl dX5_knownOf_23 ?_
    refine r_iload_n dX5_knownOf_26 1 rfl ?_
    refine r_iload_n dX5_knownOf_27 2 rfl ?_
    obtain ⟨q2, hq2, hf⟩ := hf_bind hf
    refine r_callVi (As := [.int a0, .int a1]) (b := (eA E 1)) (st := []) (s_X3_fact hq2) (by decide) (by decide) wd_326 wd_311 wd_312 wd_69 wd_313 hy_X3_fact (Rc.obj 1 ga_R rfl) rfl (Nat.le_of_ble_eq_true rfl) dX5_knownOf_28 ?_
    have e9 := Option.some.inj hf
    subst e9
    exact r_iret rfl dX5_knownOf_31
  · have hf := hf_pos c1 hf
    refine r_aload_n dX5_knownOf_5 0 rfl ?_
    refine r_get (v := .ref (eA E 8)) in_X5 0 ga_X rfl 1 (by decide) wd_215 rfl rfl dX5_knownOf_6 ?_
    refine r_iload_n dX5_knownOf_9 1 rfl ?_
    obtain ⟨q3, hq3, hf⟩ := hf_bind hf
    refine r_callVi (As := [.int a0]) (b := (eA E 8)) (st := []) (s_X0_holds_L hq3) (by decide) (by decide) wd_322 wd_323 wd_324 wd_70 wd_325 hy_X0_holds (Rc.obj 8 ga_L rfl) rfl (Nat.le_of_ble_eq_true rfl) dX5_knownOf_10 ?_
    refine r_if_eq (tgt := 20) dX5_knownOf_13 (by decide) (fun c4 => ?_) (fun c4 => ?_)
    · have hf := hf_pos c4 hf
      refine r_iconst (v := 0) dX5_knownOf_20 (by decide) ?_
      have e9 := Option.some.inj hf
      subst e9
      exact r_iret rfl dX5_knownOf_21
    · have hf := hf_neg c4 hf
      refine r_iconst (v := 1) dX5_knownOf_16 (by decide) ?_
      refine r_goto (tgt := 21) dX5_knownOf_17 (by decide) ?_
      have e9 := Option.some.inj hf
      subst e9
      exact r_iret rfl dX5_knownOf_21
-- DuelSamples.of
def f_X5_of (X_refusedBad : Int32) (X_refusedFull : Int32) (R_count : Int32) (R_F : Nat → Nat → Int32) (L_sample : Int32) (a0 : Int32) (a1 : Int32) : Option (Int32 × Int32 × Int32) := Option.bind (f_X3_has R_count a0) (fun (q1 : Int32) => if q1 = 0 then Option.bind (f_X5_refuse X_refusedBad X_refusedFull (-2)) (fun (q3 : Int32 × Int32 × Int32) => some (q3.1, q3.2.1, q3.2.2)) else if a1 < 0 then Option.bind (f_X5_refuse X_refusedBad X_refusedFull (-2)) (fun (q5 : Int32 × Int32 × Int32) => some (q5.1, q5.2.1, q5.2.2)) else if a1 ≤ 5 then Option.bind (f_X5_knownOf R_count R_F L_sample a0 a1) (fun (q7 : Int32) => some (q7, X_refusedBad, X_refusedFull)) else Option.bind (f_X5_refuse X_refusedBad X_refusedFull (-2)) (fun (q8 : Int32 × Int32 × Int32) => some (q8.1, q8.2.1, q8.2.2)))
theorem hy_X5_of : yX5_of.cls ≠ "java/lang/invoke/MethodHandle" ∧ yX5_of.cls ≠ "java/lang/invoke/VarHandle" ∧ (parseMethodDescriptor yX5_of.desc).map (fun d => d.parameters.length) = some 2 := by decide +kernel
set_option maxHeartbeats 4000000 in
set_option maxRecDepth 100000 in
theorem s_X5_of {E : EN} {hM : TM} {X_method : Int32} {X_refusedBad : Int32} {X_refusedFull : Int32} {R_count : Int32} {R_changes : Int32} {R_F : Nat → Nat → Int32} {L_sample : Int32} {L_plays : Int32} {L_small : Int32} {L_large : Int32} {L_u : Int32} {L_v : Int32} {L_left : Nat → Int32} {L_firsts : Nat → Int32} {L_seconds : Nat → Int32} {L_winners : Nat → Int32} {T_sample : Int32} {T_plays : Int32} {T_small : Int32} {T_large : Int32} {T_u : Int32} {T_v : Int32} {T_left : Nat → Int32} {T_firsts : Nat → Int32} {T_seconds : Nat → Int32} {T_winners : Nat → Int32} {K_atChanges : Int32} {K_atMethod : Int32} {K_seen : Nat → Int64} {S_length : Int32} {S_sentences : Int32} {S_at : Int32} {S_units : Int32} {S_text : Nat → Int32} {S_verbs : Nat → Int32} {S_numbers : Nat → Int32} {P_length : Int32} {P_signs : Nat → Int32} {a0 : Int32} {a1 : Int32} {qR : Int32 × Int32 × Int32} (hf : f_X5_of X_refusedBad X_refusedFull R_count R_F L_sample a0 a1 = some qR) : Sem E yX5_of cX5_of 3 (some .int) 3 [.ref (eA E 0), .int a0, .int a1] ((X_method, X_refusedBad, X_refusedFull), (R_count, R_changes, R_F), (L_sample, L_plays, L_small, L_large, L_u, L_v, L_left, L_firsts, L_seconds, L_winners), (T_sample, T_plays, T_small, T_large, T_u, T_v, T_left, T_firsts, T_seconds, T_winners), (K_atChanges, K_atMethod, K_seen), (S_length, S_sentences, S_at, S_units, S_text, S_verbs, S_numbers), (P_length, P_signs), hM) (some (.int qR.1), ((X_method, qR.2.1, qR.2.2), (R_count, R_changes, R_F), (L_sample, L_plays, L_small, L_large, L_u, L_v, L_left, L_firsts, L_seconds, L_winners), (T_sample, T_plays, T_small, T_large, T_u, T_v, T_left, T_firsts, T_seconds, T_winners), (K_atChanges, K_atMethod, K_seen), (S_length, S_sentences, S_at, S_units, S_text, S_verbs, S_numbers), (P_length, P_signs), hM)) := by
  refine Sem.mk (lv := [(0, .ref (eA E 0)), (1, .int a0), (2, .int a1)]) (by decide) (Nat.le_of_ble_eq_true rfl) rfl ?_
  rw [f_X5_of] at hf
  refine r_aload_n dX5_of_0 0 rfl ?_
  refine r_get (v := .ref (eA E 1)) in_X5 0 ga_X rfl 0 (by decide) wd_214 rfl rfl dX5_of_1 ?_
  refine r_iload_n dX5_of_4 1 rfl ?_
  obtain ⟨q1, hq1, hf⟩ := hf_bind hf
  refine r_callVi (As := [.int a0]) (b := (eA E 1)) (st := []) (s_X3_has hq1) (by decide) (by decide) wd_263 wd_264 wd_265 wd_69 wd_266 hy_X3_has (Rc.obj 1 ga_R rfl) rfl (Nat.le_of_ble_eq_true rfl) dX5_of_5 ?_
  refine r_if_eq (tgt := 20) dX5_of_8 (by decide) (fun c2 => ?_) (fun c2 => ?_)
  · have hf := hf_pos c2 hf
    refine r_aload_n dX5_of_20 0 rfl ?_
    refine r_bipush (v := (-2)) dX5_of_21 (by decide) ?_
    obtain ⟨q3, hq3, hf⟩ := hf_bind hf
    refine r_callVi (As := [.int (-2)]) (b := (eA E 0)) (st := []) (s_X5_refuse hq3) (by decide) (by decide) wd_251 wd_253 wd_0 wd_68 wd_254 hy_X5_refuse (Rc.obj 0 ga_X rfl) rfl (Nat.le_of_ble_eq_true rfl) dX5_of_23 ?_
    have e9 := Option.some.inj hf
    subst e9
    exact r_iret rfl dX5_of_26
  · have hf := hf_neg c2 hf
    refine r_iload_n dX5_of_11 2 rfl ?_
    refine r_if_lt (tgt := 20) dX5_of_12 (by decide) (fun c4 => ?_) (fun c4 => ?_)
    · have hf := hf_pos c4 hf
      refine r_aload_n dX5_of_20 0 rfl ?_
      refine r_bipush (v := (-2)) dX5_of_21 (by decide) ?_
      obtain ⟨q5, hq5, hf⟩ := hf_bind hf
      refine r_callVi (As := [.int (-2)]) (b := (eA E 0)) (st := []) (s_X5_refuse hq5) (by decide) (by decide) wd_251 wd_253 wd_0 wd_68 wd_254 hy_X5_refuse (Rc.obj 0 ga_X rfl) rfl (Nat.le_of_ble_eq_true rfl) dX5_of_23 ?_
      have e9 := Option.some.inj hf
      subst e9
      exact r_iret rfl dX5_of_26
    · have hf := hf_neg c4 hf
      refine r_iload_n dX5_of_15 2 rfl ?_
      refine r_iconst (v := 5) dX5_of_16 (by decide) ?_
      refine r_icmp_le (tgt := 27) dX5_of_17 (by decide) (fun c6 => ?_) (fun c6 => ?_)
      · have hf := hf_pos c6 hf
        refine r_aload_n dX5_of_27 0 rfl ?_
        refine r_iload_n dX5_of_28 1 rfl ?_
        refine r_iload_n dX5_of_29 2 rfl ?_
        obtain ⟨q7, hq7, hf⟩ := hf_bind hf
        refine r_callVi (As := [.int a0, .int a1]) (b := (eA E 0)) (st := []) (s_X5_knownOf hq7) (by decide) (by decide) wd_318 wd_320 wd_1 wd_68 wd_321 hy_X5_knownOf (Rc.obj 0 ga_X rfl) rfl (Nat.le_of_ble_eq_true rfl) dX5_of_30 ?_
        have e9 := Option.some.inj hf
        subst e9
        exact r_iret rfl dX5_of_33
      · have hf := hf_neg c6 hf
        refine r_aload_n dX5_of_20 0 rfl ?_
        refine r_bipush (v := (-2)) dX5_of_21 (by decide) ?_
        obtain ⟨q8, hq8, hf⟩ := hf_bind hf
        refine r_callVi (As := [.int (-2)]) (b := (eA E 0)) (st := []) (s_X5_refuse hq8) (by decide) (by decide) wd_251 wd_253 wd_0 wd_68 wd_254 hy_X5_refuse (Rc.obj 0 ga_X rfl) rfl (Nat.le_of_ble_eq_true rfl) dX5_of_23 ?_
        have e9 := Option.some.inj hf
        subst e9
        exact r_iret rfl dX5_of_26
-- DuelSamples.all
def f_X5_all (X_refusedBad : Int32) (X_refusedFull : Int32) (R_count : Int32) (R_F : Nat → Nat → Int32) (a0 : Int32) : Option (Int32 × Int32 × Int32) := if a0 = 0 then Option.bind (f_X3_sum R_count R_F 0) (fun (q5 : Int32) => some (q5, X_refusedBad, X_refusedFull)) else if a0 = 1 then Option.bind (f_X3_sum R_count R_F 3) (fun (q6 : Int32) => some (q6, X_refusedBad, X_refusedFull)) else if a0 = 2 then Option.bind (f_X3_sum R_count R_F 4) (fun (q7 : Int32) => some (q7, X_refusedBad, X_refusedFull)) else if a0 = 3 then Option.bind (f_X3_openAtFirst R_count R_F) (fun (q8 : Int32) => some (q8, X_refusedBad, X_refusedFull)) else Option.bind (f_X5_refuse X_refusedBad X_refusedFull (-2)) (fun (q9 : Int32 × Int32 × Int32) => some (q9.1, q9.2.1, q9.2.2))
theorem hy_X5_all : yX5_all.cls ≠ "java/lang/invoke/MethodHandle" ∧ yX5_all.cls ≠ "java/lang/invoke/VarHandle" ∧ (parseMethodDescriptor yX5_all.desc).map (fun d => d.parameters.length) = some 1 := by decide +kernel
set_option maxHeartbeats 4000000 in
set_option maxRecDepth 100000 in
theorem s_X5_all {E : EN} {hM : TM} {X_method : Int32} {X_refusedBad : Int32} {X_refusedFull : Int32} {R_count : Int32} {R_changes : Int32} {R_F : Nat → Nat → Int32} {L_sample : Int32} {L_plays : Int32} {L_small : Int32} {L_large : Int32} {L_u : Int32} {L_v : Int32} {L_left : Nat → Int32} {L_firsts : Nat → Int32} {L_seconds : Nat → Int32} {L_winners : Nat → Int32} {T_sample : Int32} {T_plays : Int32} {T_small : Int32} {T_large : Int32} {T_u : Int32} {T_v : Int32} {T_left : Nat → Int32} {T_firsts : Nat → Int32} {T_seconds : Nat → Int32} {T_winners : Nat → Int32} {K_atChanges : Int32} {K_atMethod : Int32} {K_seen : Nat → Int64} {S_length : Int32} {S_sentences : Int32} {S_at : Int32} {S_units : Int32} {S_text : Nat → Int32} {S_verbs : Nat → Int32} {S_numbers : Nat → Int32} {P_length : Int32} {P_signs : Nat → Int32} {a0 : Int32} {qR : Int32 × Int32 × Int32} (hf : f_X5_all X_refusedBad X_refusedFull R_count R_F a0 = some qR) : Sem E yX5_all cX5_all 2 (some .int) 3 [.ref (eA E 0), .int a0] ((X_method, X_refusedBad, X_refusedFull), (R_count, R_changes, R_F), (L_sample, L_plays, L_small, L_large, L_u, L_v, L_left, L_firsts, L_seconds, L_winners), (T_sample, T_plays, T_small, T_large, T_u, T_v, T_left, T_firsts, T_seconds, T_winners), (K_atChanges, K_atMethod, K_seen), (S_length, S_sentences, S_at, S_units, S_text, S_verbs, S_numbers), (P_length, P_signs), hM) (some (.int qR.1), ((X_method, qR.2.1, qR.2.2), (R_count, R_changes, R_F), (L_sample, L_plays, L_small, L_large, L_u, L_v, L_left, L_firsts, L_seconds, L_winners), (T_sample, T_plays, T_small, T_large, T_u, T_v, T_left, T_firsts, T_seconds, T_winners), (K_atChanges, K_atMethod, K_seen), (S_length, S_sentences, S_at, S_units, S_text, S_verbs, S_numbers), (P_length, P_signs), hM)) := by
  refine Sem.mk (lv := [(0, .ref (eA E 0)), (1, .int a0)]) (by decide) (Nat.le_of_ble_eq_true rfl) rfl ?_
  rw [f_X5_all] at hf
  refine r_iload_n dX5_all_0 1 rfl ?_
  by_cases c1 : a0 = 0
  · have hf := hf_pos c1 hf
    refine r_tswi (off := 31) (tgt := 32) dX5_all_1 c1 (by decide) (by decide) (by decide) (by decide) ?_
    refine r_aload_n dX5_all_32 0 rfl ?_
    refine r_get (v := .ref (eA E 1)) in_X5 0 ga_X rfl 0 (by decide) wd_214 rfl rfl dX5_all_33 ?_
    refine r_iconst (v := 0) dX5_all_36 (by decide) ?_
    obtain ⟨q5, hq5, hf⟩ := hf_bind hf
    refine r_callVi (As := [.int 0]) (b := (eA E 1)) (st := []) (s_X3_sum hq5) (by decide) (by decide) wd_306 wd_307 wd_308 wd_69 wd_309 hy_X3_sum (Rc.obj 1 ga_R rfl) rfl (Nat.le_of_ble_eq_true rfl) dX5_all_37 ?_
    have e9 := Option.some.inj hf
    subst e9
    exact r_iret rfl dX5_all_40
  · have hf := hf_neg c1 hf
    by_cases c2 : a0 = 1
    · have hf := hf_pos c2 hf
      refine r_tswi (off := 40) (tgt := 41) dX5_all_1 c2 (by decide) (by decide) (by decide) (by decide) ?_
      refine r_aload_n dX5_all_41 0 rfl ?_
      refine r_get (v := .ref (eA E 1)) in_X5 0 ga_X rfl 0 (by decide) wd_214 rfl rfl dX5_all_42 ?_
      refine r_iconst (v := 3) dX5_all_45 (by decide) ?_
      obtain ⟨q6, hq6, hf⟩ := hf_bind hf
      refine r_callVi (As := [.int 3]) (b := (eA E 1)) (st := []) (s_X3_sum hq6) (by decide) (by decide) wd_306 wd_307 wd_308 wd_69 wd_309 hy_X3_sum (Rc.obj 1 ga_R rfl) rfl (Nat.le_of_ble_eq_true rfl) dX5_all_46 ?_
      have e9 := Option.some.inj hf
      subst e9
      exact r_iret rfl dX5_all_49
    · have hf := hf_neg c2 hf
      by_cases c3 : a0 = 2
      · have hf := hf_pos c3 hf
        refine r_tswi (off := 49) (tgt := 50) dX5_all_1 c3 (by decide) (by decide) (by decide) (by decide) ?_
        refine r_aload_n dX5_all_50 0 rfl ?_
        refine r_get (v := .ref (eA E 1)) in_X5 0 ga_X rfl 0 (by decide) wd_214 rfl rfl dX5_all_51 ?_
        refine r_iconst (v := 4) dX5_all_54 (by decide) ?_
        obtain ⟨q7, hq7, hf⟩ := hf_bind hf
        refine r_callVi (As := [.int 4]) (b := (eA E 1)) (st := []) (s_X3_sum hq7) (by decide) (by decide) wd_306 wd_307 wd_308 wd_69 wd_309 hy_X3_sum (Rc.obj 1 ga_R rfl) rfl (Nat.le_of_ble_eq_true rfl) dX5_all_55 ?_
        have e9 := Option.some.inj hf
        subst e9
        exact r_iret rfl dX5_all_58
      · have hf := hf_neg c3 hf
        by_cases c4 : a0 = 3
        · have hf := hf_pos c4 hf
          refine r_tswi (off := 58) (tgt := 59) dX5_all_1 c4 (by decide) (by decide) (by decide) (by decide) ?_
          refine r_aload_n dX5_all_59 0 rfl ?_
          refine r_get (v := .ref (eA E 1)) in_X5 0 ga_X rfl 0 (by decide) wd_214 rfl rfl dX5_all_60 ?_
          obtain ⟨q8, hq8, hf⟩ := hf_bind hf
          refine r_callVi (As := []) (b := (eA E 1)) (st := []) (s_X3_openAtFirst hq8) (by decide) (by decide) wd_331 wd_332 wd_333 wd_69 wd_334 hy_X3_openAtFirst (Rc.obj 1 ga_R rfl) rfl (Nat.le_of_ble_eq_true rfl) dX5_all_63 ?_
          have e9 := Option.some.inj hf
          subst e9
          exact r_iret rfl dX5_all_66
        · have hf := hf_neg c4 hf
          refine r_tswo (tgt := 67) dX5_all_1 (tsw_out0_3 c1 c2 c3 c4) (by decide) ?_
          refine r_aload_n dX5_all_67 0 rfl ?_
          refine r_bipush (v := (-2)) dX5_all_68 (by decide) ?_
          obtain ⟨q9, hq9, hf⟩ := hf_bind hf
          refine r_callVi (As := [.int (-2)]) (b := (eA E 0)) (st := []) (s_X5_refuse hq9) (by decide) (by decide) wd_251 wd_253 wd_0 wd_68 wd_254 hy_X5_refuse (Rc.obj 0 ga_X rfl) rfl (Nat.le_of_ble_eq_true rfl) dX5_all_70 ?_
          have e9 := Option.some.inj hf
          subst e9
          exact r_iret rfl dX5_all_73
-- DuelSamples.changeMethod
def f_X5_changeMethod (X_method : Int32) (a0 : Int32) : Option (Int32 × Int32) := some (X_method, a0)
theorem hy_X5_changeMethod : yX5_changeMethod.cls ≠ "java/lang/invoke/MethodHandle" ∧ yX5_changeMethod.cls ≠ "java/lang/invoke/VarHandle" ∧ (parseMethodDescriptor yX5_changeMethod.desc).map (fun d => d.parameters.length) = some 1 := by decide +kernel
set_option maxHeartbeats 4000000 in
set_option maxRecDepth 100000 in
theorem s_X5_changeMethod {E : EN} {hM : TM} {X_method : Int32} {X_refusedBad : Int32} {X_refusedFull : Int32} {R_count : Int32} {R_changes : Int32} {R_F : Nat → Nat → Int32} {L_sample : Int32} {L_plays : Int32} {L_small : Int32} {L_large : Int32} {L_u : Int32} {L_v : Int32} {L_left : Nat → Int32} {L_firsts : Nat → Int32} {L_seconds : Nat → Int32} {L_winners : Nat → Int32} {T_sample : Int32} {T_plays : Int32} {T_small : Int32} {T_large : Int32} {T_u : Int32} {T_v : Int32} {T_left : Nat → Int32} {T_firsts : Nat → Int32} {T_seconds : Nat → Int32} {T_winners : Nat → Int32} {K_atChanges : Int32} {K_atMethod : Int32} {K_seen : Nat → Int64} {S_length : Int32} {S_sentences : Int32} {S_at : Int32} {S_units : Int32} {S_text : Nat → Int32} {S_verbs : Nat → Int32} {S_numbers : Nat → Int32} {P_length : Int32} {P_signs : Nat → Int32} {a0 : Int32} {qR : Int32 × Int32} (hf : f_X5_changeMethod X_method a0 = some qR) : Sem E yX5_changeMethod cX5_changeMethod 3 (some .int) 1 [.ref (eA E 0), .int a0] ((X_method, X_refusedBad, X_refusedFull), (R_count, R_changes, R_F), (L_sample, L_plays, L_small, L_large, L_u, L_v, L_left, L_firsts, L_seconds, L_winners), (T_sample, T_plays, T_small, T_large, T_u, T_v, T_left, T_firsts, T_seconds, T_winners), (K_atChanges, K_atMethod, K_seen), (S_length, S_sentences, S_at, S_units, S_text, S_verbs, S_numbers), (P_length, P_signs), hM) (some (.int qR.1), ((qR.2, X_refusedBad, X_refusedFull), (R_count, R_changes, R_F), (L_sample, L_plays, L_small, L_large, L_u, L_v, L_left, L_firsts, L_seconds, L_winners), (T_sample, T_plays, T_small, T_large, T_u, T_v, T_left, T_firsts, T_seconds, T_winners), (K_atChanges, K_atMethod, K_seen), (S_length, S_sentences, S_at, S_units, S_text, S_verbs, S_numbers), (P_length, P_signs), hM)) := by
  refine Sem.mk (lv := [(0, .ref (eA E 0)), (1, .int a0)]) (by decide) (Nat.le_of_ble_eq_true rfl) rfl ?_
  rw [f_X5_changeMethod] at hf
  refine r_aload_n dX5_changeMethod_0 0 rfl ?_
  refine r_get (v := .int X_method) in_X5 0 ga_X rfl 6 (by decide) wd_220 rfl rfl dX5_changeMethod_1 ?_
  refine r_istore_n (lv2 := [(2, .int X_method), (0, .ref (eA E 0)), (1, .int a0)]) dX5_changeMethod_4 rfl (by decide) rfl ?_
  refine r_aload_n dX5_changeMethod_5 1 rfl ?_
  refine r_iload_n dX5_changeMethod_6 2 rfl ?_
  refine r_put in_X5 tyX5_ok nmX5 0 ga_X rfl 6 (by decide) wd_220 rfl rfl pfI (Nat.le_of_ble_eq_true rfl) sa_X_method dX5_changeMethod_7 ?_
  refine r_iload_n dX5_changeMethod_10 0 rfl ?_
  have e9 := Option.some.inj hf
  subst e9
  exact r_iret rfl dX5_changeMethod_11
-- DuelSamples.method
def f_X5_method (X_method : Int32) (X_refusedBad : Int32) (X_refusedFull : Int32) (a0 : Int32) : Option (Int32 × Int32 × Int32 × Int32) := if a0 < 0 then Option.bind (f_X5_refuse X_refusedBad X_refusedFull (-2)) (fun (q2 : Int32 × Int32 × Int32) => some (q2.1, X_method, q2.2.1, q2.2.2)) else if a0 < 5 then Option.bind (f_X5_changeMethod X_method a0) (fun (q4 : Int32 × Int32) => some (q4.1, q4.2, X_refusedBad, X_refusedFull)) else Option.bind (f_X5_refuse X_refusedBad X_refusedFull (-2)) (fun (q5 : Int32 × Int32 × Int32) => some (q5.1, X_method, q5.2.1, q5.2.2))
theorem hy_X5_method : yX5_method.cls ≠ "java/lang/invoke/MethodHandle" ∧ yX5_method.cls ≠ "java/lang/invoke/VarHandle" ∧ (parseMethodDescriptor yX5_method.desc).map (fun d => d.parameters.length) = some 1 := by decide +kernel
set_option maxHeartbeats 4000000 in
set_option maxRecDepth 100000 in
theorem s_X5_method {E : EN} {hM : TM} {X_method : Int32} {X_refusedBad : Int32} {X_refusedFull : Int32} {R_count : Int32} {R_changes : Int32} {R_F : Nat → Nat → Int32} {L_sample : Int32} {L_plays : Int32} {L_small : Int32} {L_large : Int32} {L_u : Int32} {L_v : Int32} {L_left : Nat → Int32} {L_firsts : Nat → Int32} {L_seconds : Nat → Int32} {L_winners : Nat → Int32} {T_sample : Int32} {T_plays : Int32} {T_small : Int32} {T_large : Int32} {T_u : Int32} {T_v : Int32} {T_left : Nat → Int32} {T_firsts : Nat → Int32} {T_seconds : Nat → Int32} {T_winners : Nat → Int32} {K_atChanges : Int32} {K_atMethod : Int32} {K_seen : Nat → Int64} {S_length : Int32} {S_sentences : Int32} {S_at : Int32} {S_units : Int32} {S_text : Nat → Int32} {S_verbs : Nat → Int32} {S_numbers : Nat → Int32} {P_length : Int32} {P_signs : Nat → Int32} {a0 : Int32} {qR : Int32 × Int32 × Int32 × Int32} (hf : f_X5_method X_method X_refusedBad X_refusedFull a0 = some qR) : Sem E yX5_method cX5_method 2 (some .int) 2 [.ref (eA E 0), .int a0] ((X_method, X_refusedBad, X_refusedFull), (R_count, R_changes, R_F), (L_sample, L_plays, L_small, L_large, L_u, L_v, L_left, L_firsts, L_seconds, L_winners), (T_sample, T_plays, T_small, T_large, T_u, T_v, T_left, T_firsts, T_seconds, T_winners), (K_atChanges, K_atMethod, K_seen), (S_length, S_sentences, S_at, S_units, S_text, S_verbs, S_numbers), (P_length, P_signs), hM) (some (.int qR.1), ((qR.2.1, qR.2.2.1, qR.2.2.2), (R_count, R_changes, R_F), (L_sample, L_plays, L_small, L_large, L_u, L_v, L_left, L_firsts, L_seconds, L_winners), (T_sample, T_plays, T_small, T_large, T_u, T_v, T_left, T_firsts, T_seconds, T_winners), (K_atChanges, K_atMethod, K_seen), (S_length, S_sentences, S_at, S_units, S_text, S_verbs, S_numbers), (P_length, P_signs), hM)) := by
  refine Sem.mk (lv := [(0, .ref (eA E 0)), (1, .int a0)]) (by decide) (Nat.le_of_ble_eq_true rfl) rfl ?_
  rw [f_X5_method] at hf
  refine r_iload_n dX5_method_0 1 rfl ?_
  refine r_if_lt (tgt := 9) dX5_method_1 (by decide) (fun c1 => ?_) (fun c1 => ?_)
  · have hf := hf_pos c1 hf
    refine r_aload_n dX5_method_9 0 rfl ?_
    refine r_bipush (v := (-2)) dX5_method_10 (by decide) ?_
    obtain ⟨q2, hq2, hf⟩ := hf_bind hf
    refine r_callVi (As := [.int (-2)]) (b := (eA E 0)) (st := []) (s_X5_refuse hq2) (by decide) (by decide) wd_251 wd_253 wd_0 wd_68 wd_254 hy_X5_refuse (Rc.obj 0 ga_X rfl) rfl (Nat.le_of_ble_eq_true rfl) dX5_method_12 ?_
    have e9 := Option.some.inj hf
    subst e9
    exact r_iret rfl dX5_method_15
  · have hf := hf_neg c1 hf
    refine r_iload_n dX5_method_4 1 rfl ?_
    refine r_iconst (v := 5) dX5_method_5 (by decide) ?_
    refine r_icmp_lt (tgt := 16) dX5_method_6 (by decide) (fun c3 => ?_) (fun c3 => ?_)
    · have hf := hf_pos c3 hf
      refine r_aload_n dX5_method_16 0 rfl ?_
      refine r_iload_n dX5_method_17 1 rfl ?_
      obtain ⟨q4, hq4, hf⟩ := hf_bind hf
      refine r_callVi (As := [.int a0]) (b := (eA E 0)) (st := []) (s_X5_changeMethod hq4) (by decide) (by decide) wd_339 wd_341 wd_2 wd_68 wd_342 hy_X5_changeMethod (Rc.obj 0 ga_X rfl) rfl (Nat.le_of_ble_eq_true rfl) dX5_method_18 ?_
      have e9 := Option.some.inj hf
      subst e9
      exact r_iret rfl dX5_method_21
    · have hf := hf_neg c3 hf
      refine r_aload_n dX5_method_9 0 rfl ?_
      refine r_bipush (v := (-2)) dX5_method_10 (by decide) ?_
      obtain ⟨q5, hq5, hf⟩ := hf_bind hf
      refine r_callVi (As := [.int (-2)]) (b := (eA E 0)) (st := []) (s_X5_refuse hq5) (by decide) (by decide) wd_251 wd_253 wd_0 wd_68 wd_254 hy_X5_refuse (Rc.obj 0 ga_X rfl) rfl (Nat.le_of_ble_eq_true rfl) dX5_method_12 ?_
      have e9 := Option.some.inj hf
      subst e9
      exact r_iret rfl dX5_method_15
-- DuelSamples.walk
def f_X5_walk (X_method : Int32) (X_refusedBad : Int32) (X_refusedFull : Int32) (R_count : Int32) (R_F : Nat → Nat → Int32) (L_sample : Int32) (L_plays : Int32) (L_small : Int32) (L_large : Int32) (L_u : Int32) (L_v : Int32) (L_left : Nat → Int32) (L_firsts : Nat → Int32) (L_seconds : Nat → Int32) (L_winners : Nat → Int32) (a0 : Int32) : Option (Int32 × Int32 × Int32 × Int32 × Int32 × Int32 × Int32 × Int32 × Int32 × (Nat → Int32) × (Nat → Int32) × (Nat → Int32) × (Nat → Int32)) := Option.bind (f_X5_isSeed a0) (fun (q1 : Int32) => if q1 = 0 then Option.bind (f_X5_refuse X_refusedBad X_refusedFull (-2)) (fun (q5 : Int32 × Int32 × Int32) => some (q5.1, q5.2.1, q5.2.2, L_sample, L_plays, L_small, L_large, L_u, L_v, L_left, L_firsts, L_seconds, L_winners)) else Option.bind (f_X0_run R_count R_F L_u L_v L_left L_firsts L_seconds L_winners X_method a0) (fun (q3 : Int32 × Int32 × Int32 × Int32 × Int32 × Int32 × (Nat → Int32) × (Nat → Int32) × (Nat → Int32) × (Nat → Int32)) => Option.bind (f_J6_bitCount_0f7a4 q3.1) (fun (q4 : Int32) => some (q4, X_refusedBad, X_refusedFull, q3.1, q3.2.1, q3.2.2.1, q3.2.2.2.1, q3.2.2.2.2.1, q3.2.2.2.2.2.1, q3.2.2.2.2.2.2.1, q3.2.2.2.2.2.2.2.1, q3.2.2.2.2.2.2.2.2.1, q3.2.2.2.2.2.2.2.2.2))))
theorem hy_X5_walk : yX5_walk.cls ≠ "java/lang/invoke/MethodHandle" ∧ yX5_walk.cls ≠ "java/lang/invoke/VarHandle" ∧ (parseMethodDescriptor yX5_walk.desc).map (fun d => d.parameters.length) = some 1 := by decide +kernel
set_option maxHeartbeats 4000000 in
set_option maxRecDepth 100000 in
theorem s_X5_walk {E : EN} {hM : TM} {X_method : Int32} {X_refusedBad : Int32} {X_refusedFull : Int32} {R_count : Int32} {R_changes : Int32} {R_F : Nat → Nat → Int32} {L_sample : Int32} {L_plays : Int32} {L_small : Int32} {L_large : Int32} {L_u : Int32} {L_v : Int32} {L_left : Nat → Int32} {L_firsts : Nat → Int32} {L_seconds : Nat → Int32} {L_winners : Nat → Int32} {T_sample : Int32} {T_plays : Int32} {T_small : Int32} {T_large : Int32} {T_u : Int32} {T_v : Int32} {T_left : Nat → Int32} {T_firsts : Nat → Int32} {T_seconds : Nat → Int32} {T_winners : Nat → Int32} {K_atChanges : Int32} {K_atMethod : Int32} {K_seen : Nat → Int64} {S_length : Int32} {S_sentences : Int32} {S_at : Int32} {S_units : Int32} {S_text : Nat → Int32} {S_verbs : Nat → Int32} {S_numbers : Nat → Int32} {P_length : Int32} {P_signs : Nat → Int32} {a0 : Int32} {qR : Int32 × Int32 × Int32 × Int32 × Int32 × Int32 × Int32 × Int32 × Int32 × (Nat → Int32) × (Nat → Int32) × (Nat → Int32) × (Nat → Int32)} (hf : f_X5_walk X_method X_refusedBad X_refusedFull R_count R_F L_sample L_plays L_small L_large L_u L_v L_left L_firsts L_seconds L_winners a0 = some qR) : Sem E yX5_walk cX5_walk 2 (some .int) 6 [.ref (eA E 0), .int a0] ((X_method, X_refusedBad, X_refusedFull), (R_count, R_changes, R_F), (L_sample, L_plays, L_small, L_large, L_u, L_v, L_left, L_firsts, L_seconds, L_winners), (T_sample, T_plays, T_small, T_large, T_u, T_v, T_left, T_firsts, T_seconds, T_winners), (K_atChanges, K_atMethod, K_seen), (S_length, S_sentences, S_at, S_units, S_text, S_verbs, S_numbers), (P_length, P_signs), hM) (some (.int qR.1), ((X_method, qR.2.1, qR.2.2.1), (R_count, R_changes, R_F), (qR.2.2.2.1, qR.2.2.2.2.1, qR.2.2.2.2.2.1, qR.2.2.2.2.2.2.1, qR.2.2.2.2.2.2.2.1, qR.2.2.2.2.2.2.2.2.1, qR.2.2.2.2.2.2.2.2.2.1, qR.2.2.2.2.2.2.2.2.2.2.1, qR.2.2.2.2.2.2.2.2.2.2.2.1, qR.2.2.2.2.2.2.2.2.2.2.2.2), (T_sample, T_plays, T_small, T_large, T_u, T_v, T_left, T_firsts, T_seconds, T_winners), (K_atChanges, K_atMethod, K_seen), (S_length, S_sentences, S_at, S_units, S_text, S_verbs, S_numbers), (P_length, P_signs), hM)) := by
  refine Sem.mk (lv := [(0, .ref (eA E 0)), (1, .int a0)]) (by decide) (Nat.le_of_ble_eq_true rfl) rfl ?_
  rw [f_X5_walk] at hf
  refine r_iload_n dX5_walk_0 1 rfl ?_
  obtain ⟨q1, hq1, hf⟩ := hf_bind hf
  refine r_callSi (As := [.int a0]) (st := []) (s_X5_isSeed hq1) (by decide) (by decide) wd_288 wd_289 wd_68 wd_290 hy_X5_isSeed rfl (Nat.le_of_ble_eq_true rfl) dX5_walk_1 ?_
  refine r_if_ne (tgt := 14) dX5_walk_4 (by decide) (fun c2 => ?_) (fun c2 => ?_)
  · have hf := hf_neg c2 hf
    refine r_aload_n dX5_walk_14 0 rfl ?_
    refine r_get (v := .ref (eA E 8)) in_X5 0 ga_X rfl 1 (by decide) wd_215 rfl rfl dX5_walk_15 ?_
    refine r_aload_n dX5_walk_18 0 rfl ?_
    refine r_get (v := .ref (eA E 1)) in_X5 0 ga_X rfl 0 (by decide) wd_214 rfl rfl dX5_walk_19 ?_
    refine r_aload_n dX5_walk_22 0 rfl ?_
    refine r_get (v := .int X_method) in_X5 0 ga_X rfl 6 (by decide) wd_220 rfl rfl dX5_walk_23 ?_
    refine r_iload_n dX5_walk_26 1 rfl ?_
    obtain ⟨q3, hq3, hf⟩ := hf_bind hf
    refine r_callVv (As := [.ref (eA E 1), .int X_method, .int a0]) (b := (eA E 8)) (st := []) (s_X0_run_L hq3) (by decide) (by decide) wd_347 wd_348 wd_349 wd_70 wd_350 hy_X0_run (Rc.obj 8 ga_L rfl) rfl (Nat.le_of_ble_eq_true rfl) dX5_walk_27 ?_
    refine r_aload_n dX5_walk_30 0 rfl ?_
    refine r_get (v := .ref (eA E 8)) in_X5 0 ga_X rfl 1 (by decide) wd_215 rfl rfl dX5_walk_31 ?_
    refine r_getN (v := .int q3.1) in_X0 8 ga_L rfl 4 (by decide) wn_123 rfl rfl dX5_walk_34 ?_
    obtain ⟨q4, hq4, hf⟩ := hf_bind hf
    refine r_callSi (As := [.int q3.1]) (st := []) (s_J6_bitCount_0f7a4 hq4) (by decide) (by decide) wd_433 wd_434 wd_76 wd_435 hy_J6_bitCount_0f7a4 rfl (Nat.le_of_ble_eq_true rfl) dX5_walk_37 ?_
    have e9 := Option.some.inj hf
    subst e9
    exact r_iret rfl dX5_walk_40
  · have hf := hf_pos c2 hf
    refine r_aload_n dX5_walk_7 0 rfl ?_
    refine r_bipush (v := (-2)) dX5_walk_8 (by decide) ?_
    obtain ⟨q5, hq5, hf⟩ := hf_bind hf
    refine r_callVi (As := [.int (-2)]) (b := (eA E 0)) (st := []) (s_X5_refuse hq5) (by decide) (by decide) wd_251 wd_253 wd_0 wd_68 wd_254 hy_X5_refuse (Rc.obj 0 ga_X rfl) rfl (Nat.le_of_ble_eq_true rfl) dX5_walk_10 ?_
    have e9 := Option.some.inj hf
    subst e9
    exact r_iret rfl dX5_walk_13
-- DuelSamples.was
def f_X5_was (X_refusedBad : Int32) (X_refusedFull : Int32) (L_sample : Int32) (L_plays : Int32) (L_small : Int32) (L_large : Int32) (a0 : Int32) : Option (Int32 × Int32 × Int32) := if a0 < 0 then Option.bind (f_X5_refuse X_refusedBad X_refusedFull (-2)) (fun (q2 : Int32 × Int32 × Int32) => some (q2.1, q2.2.1, q2.2.2)) else if a0 ≤ 3 then Option.bind (f_X0_tally L_sample L_plays L_small L_large a0) (fun (q4 : Int32) => some (q4, X_refusedBad, X_refusedFull)) else Option.bind (f_X5_refuse X_refusedBad X_refusedFull (-2)) (fun (q5 : Int32 × Int32 × Int32) => some (q5.1, q5.2.1, q5.2.2))
theorem hy_X5_was : yX5_was.cls ≠ "java/lang/invoke/MethodHandle" ∧ yX5_was.cls ≠ "java/lang/invoke/VarHandle" ∧ (parseMethodDescriptor yX5_was.desc).map (fun d => d.parameters.length) = some 1 := by decide +kernel
set_option maxHeartbeats 4000000 in
set_option maxRecDepth 100000 in
theorem s_X5_was {E : EN} {hM : TM} {X_method : Int32} {X_refusedBad : Int32} {X_refusedFull : Int32} {R_count : Int32} {R_changes : Int32} {R_F : Nat → Nat → Int32} {L_sample : Int32} {L_plays : Int32} {L_small : Int32} {L_large : Int32} {L_u : Int32} {L_v : Int32} {L_left : Nat → Int32} {L_firsts : Nat → Int32} {L_seconds : Nat → Int32} {L_winners : Nat → Int32} {T_sample : Int32} {T_plays : Int32} {T_small : Int32} {T_large : Int32} {T_u : Int32} {T_v : Int32} {T_left : Nat → Int32} {T_firsts : Nat → Int32} {T_seconds : Nat → Int32} {T_winners : Nat → Int32} {K_atChanges : Int32} {K_atMethod : Int32} {K_seen : Nat → Int64} {S_length : Int32} {S_sentences : Int32} {S_at : Int32} {S_units : Int32} {S_text : Nat → Int32} {S_verbs : Nat → Int32} {S_numbers : Nat → Int32} {P_length : Int32} {P_signs : Nat → Int32} {a0 : Int32} {qR : Int32 × Int32 × Int32} (hf : f_X5_was X_refusedBad X_refusedFull L_sample L_plays L_small L_large a0 = some qR) : Sem E yX5_was cX5_was 2 (some .int) 2 [.ref (eA E 0), .int a0] ((X_method, X_refusedBad, X_refusedFull), (R_count, R_changes, R_F), (L_sample, L_plays, L_small, L_large, L_u, L_v, L_left, L_firsts, L_seconds, L_winners), (T_sample, T_plays, T_small, T_large, T_u, T_v, T_left, T_firsts, T_seconds, T_winners), (K_atChanges, K_atMethod, K_seen), (S_length, S_sentences, S_at, S_units, S_text, S_verbs, S_numbers), (P_length, P_signs), hM) (some (.int qR.1), ((X_method, qR.2.1, qR.2.2), (R_count, R_changes, R_F), (L_sample, L_plays, L_small, L_large, L_u, L_v, L_left, L_firsts, L_seconds, L_winners), (T_sample, T_plays, T_small, T_large, T_u, T_v, T_left, T_firsts, T_seconds, T_winners), (K_atChanges, K_atMethod, K_seen), (S_length, S_sentences, S_at, S_units, S_text, S_verbs, S_numbers), (P_length, P_signs), hM)) := by
  refine Sem.mk (lv := [(0, .ref (eA E 0)), (1, .int a0)]) (by decide) (Nat.le_of_ble_eq_true rfl) rfl ?_
  rw [f_X5_was] at hf
  refine r_iload_n dX5_was_0 1 rfl ?_
  refine r_if_lt (tgt := 9) dX5_was_1 (by decide) (fun c1 => ?_) (fun c1 => ?_)
  · have hf := hf_pos c1 hf
    refine r_aload_n dX5_was_9 0 rfl ?_
    refine r_bipush (v := (-2)) dX5_was_10 (by decide) ?_
    obtain ⟨q2, hq2, hf⟩ := hf_bind hf
    refine r_callVi (As := [.int (-2)]) (b := (eA E 0)) (st := []) (s_X5_refuse hq2) (by decide) (by decide) wd_251 wd_253 wd_0 wd_68 wd_254 hy_X5_refuse (Rc.obj 0 ga_X rfl) rfl (Nat.le_of_ble_eq_true rfl) dX5_was_12 ?_
    have e9 := Option.some.inj hf
    subst e9
    exact r_iret rfl dX5_was_15
  · have hf := hf_neg c1 hf
    refine r_iload_n dX5_was_4 1 rfl ?_
    refine r_iconst (v := 3) dX5_was_5 (by decide) ?_
    refine r_icmp_le (tgt := 16) dX5_was_6 (by decide) (fun c3 => ?_) (fun c3 => ?_)
    · have hf := hf_pos c3 hf
      refine r_aload_n dX5_was_16 0 rfl ?_
      refine r_get (v := .ref (eA E 8)) in_X5 0 ga_X rfl 1 (by decide) wd_215 rfl rfl dX5_was_17 ?_
      refine r_iload_n dX5_was_20 1 rfl ?_
      obtain ⟨q4, hq4, hf⟩ := hf_bind hf
      refine r_callVi (As := [.int a0]) (b := (eA E 8)) (st := []) (s_X0_tally_L hq4) (by decide) (by decide) wd_443 wd_444 wd_445 wd_70 wd_446 hy_X0_tally (Rc.obj 8 ga_L rfl) rfl (Nat.le_of_ble_eq_true rfl) dX5_was_21 ?_
      have e9 := Option.some.inj hf
      subst e9
      exact r_iret rfl dX5_was_24
    · have hf := hf_neg c3 hf
      refine r_aload_n dX5_was_9 0 rfl ?_
      refine r_bipush (v := (-2)) dX5_was_10 (by decide) ?_
      obtain ⟨q5, hq5, hf⟩ := hf_bind hf
      refine r_callVi (As := [.int (-2)]) (b := (eA E 0)) (st := []) (s_X5_refuse hq5) (by decide) (by decide) wd_251 wd_253 wd_0 wd_68 wd_254 hy_X5_refuse (Rc.obj 0 ga_X rfl) rfl (Nat.le_of_ble_eq_true rfl) dX5_was_12 ?_
      have e9 := Option.some.inj hf
      subst e9
      exact r_iret rfl dX5_was_15
-- DuelSamples.play
def f_X5_play (X_refusedBad : Int32) (X_refusedFull : Int32) (L_plays : Int32) (L_firsts : Nat → Int32) (L_seconds : Nat → Int32) (L_winners : Nat → Int32) (a0 : Int32) (a1 : Int32) : Option (Int32 × Int32 × Int32) := if a0 < 0 then Option.bind (f_X5_refuse X_refusedBad X_refusedFull (-2)) (fun (q2 : Int32 × Int32 × Int32) => some (q2.1, q2.2.1, q2.2.2)) else if a1 < 0 then Option.bind (f_X5_refuse X_refusedBad X_refusedFull (-2)) (fun (q4 : Int32 × Int32 × Int32) => some (q4.1, q4.2.1, q4.2.2)) else if a1 ≤ 2 then Option.bind (f_X0_recorded L_plays L_firsts L_seconds L_winners a0 a1) (fun (q6 : Int32) => some (q6, X_refusedBad, X_refusedFull)) else Option.bind (f_X5_refuse X_refusedBad X_refusedFull (-2)) (fun (q7 : Int32 × Int32 × Int32) => some (q7.1, q7.2.1, q7.2.2))
theorem hy_X5_play : yX5_play.cls ≠ "java/lang/invoke/MethodHandle" ∧ yX5_play.cls ≠ "java/lang/invoke/VarHandle" ∧ (parseMethodDescriptor yX5_play.desc).map (fun d => d.parameters.length) = some 2 := by decide +kernel
set_option maxHeartbeats 4000000 in
set_option maxRecDepth 100000 in
theorem s_X5_play {E : EN} {hM : TM} {X_method : Int32} {X_refusedBad : Int32} {X_refusedFull : Int32} {R_count : Int32} {R_changes : Int32} {R_F : Nat → Nat → Int32} {L_sample : Int32} {L_plays : Int32} {L_small : Int32} {L_large : Int32} {L_u : Int32} {L_v : Int32} {L_left : Nat → Int32} {L_firsts : Nat → Int32} {L_seconds : Nat → Int32} {L_winners : Nat → Int32} {T_sample : Int32} {T_plays : Int32} {T_small : Int32} {T_large : Int32} {T_u : Int32} {T_v : Int32} {T_left : Nat → Int32} {T_firsts : Nat → Int32} {T_seconds : Nat → Int32} {T_winners : Nat → Int32} {K_atChanges : Int32} {K_atMethod : Int32} {K_seen : Nat → Int64} {S_length : Int32} {S_sentences : Int32} {S_at : Int32} {S_units : Int32} {S_text : Nat → Int32} {S_verbs : Nat → Int32} {S_numbers : Nat → Int32} {P_length : Int32} {P_signs : Nat → Int32} {a0 : Int32} {a1 : Int32} {qR : Int32 × Int32 × Int32} (hf : f_X5_play X_refusedBad X_refusedFull L_plays L_firsts L_seconds L_winners a0 a1 = some qR) : Sem E yX5_play cX5_play 3 (some .int) 2 [.ref (eA E 0), .int a0, .int a1] ((X_method, X_refusedBad, X_refusedFull), (R_count, R_changes, R_F), (L_sample, L_plays, L_small, L_large, L_u, L_v, L_left, L_firsts, L_seconds, L_winners), (T_sample, T_plays, T_small, T_large, T_u, T_v, T_left, T_firsts, T_seconds, T_winners), (K_atChanges, K_atMethod, K_seen), (S_length, S_sentences, S_at, S_units, S_text, S_verbs, S_numbers), (P_length, P_signs), hM) (some (.int qR.1), ((X_method, qR.2.1, qR.2.2), (R_count, R_changes, R_F), (L_sample, L_plays, L_small, L_large, L_u, L_v, L_left, L_firsts, L_seconds, L_winners), (T_sample, T_plays, T_small, T_large, T_u, T_v, T_left, T_firsts, T_seconds, T_winners), (K_atChanges, K_atMethod, K_seen), (S_length, S_sentences, S_at, S_units, S_text, S_verbs, S_numbers), (P_length, P_signs), hM)) := by
  refine Sem.mk (lv := [(0, .ref (eA E 0)), (1, .int a0), (2, .int a1)]) (by decide) (Nat.le_of_ble_eq_true rfl) rfl ?_
  rw [f_X5_play] at hf
  refine r_iload_n dX5_play_0 1 rfl ?_
  refine r_if_lt (tgt := 13) dX5_play_1 (by decide) (fun c1 => ?_) (fun c1 => ?_)
  · have hf := hf_pos c1 hf
    refine r_aload_n dX5_play_13 0 rfl ?_
    refine r_bipush (v := (-2)) dX5_play_14 (by decide) ?_
    obtain ⟨q2, hq2, hf⟩ := hf_bind hf
    refine r_callVi (As := [.int (-2)]) (b := (eA E 0)) (st := []) (s_X5_refuse hq2) (by decide) (by decide) wd_251 wd_253 wd_0 wd_68 wd_254 hy_X5_refuse (Rc.obj 0 ga_X rfl) rfl (Nat.le_of_ble_eq_true rfl) dX5_play_16 ?_
    have e9 := Option.some.inj hf
    subst e9
    exact r_iret rfl dX5_play_19
  · have hf := hf_neg c1 hf
    refine r_iload_n dX5_play_4 2 rfl ?_
    refine r_if_lt (tgt := 13) dX5_play_5 (by decide) (fun c3 => ?_) (fun c3 => ?_)
    · have hf := hf_pos c3 hf
      refine r_aload_n dX5_play_13 0 rfl ?_
      refine r_bipush (v := (-2)) dX5_play_14 (by decide) ?_
      obtain ⟨q4, hq4, hf⟩ := hf_bind hf
      refine r_callVi (As := [.int (-2)]) (b := (eA E 0)) (st := []) (s_X5_refuse hq4) (by decide) (by decide) wd_251 wd_253 wd_0 wd_68 wd_254 hy_X5_refuse (Rc.obj 0 ga_X rfl) rfl (Nat.le_of_ble_eq_true rfl) dX5_play_16 ?_
      have e9 := Option.some.inj hf
      subst e9
      exact r_iret rfl dX5_play_19
    · have hf := hf_neg c3 hf
      refine r_iload_n dX5_play_8 2 rfl ?_
      refine r_iconst (v := 2) dX5_play_9 (by decide) ?_
      refine r_icmp_le (tgt := 20) dX5_play_10 (by decide) (fun c5 => ?_) (fun c5 => ?_)
      · have hf := hf_pos c5 hf
        refine r_aload_n dX5_play_20 0 rfl ?_
        refine r_get (v := .ref (eA E 8)) in_X5 0 ga_X rfl 1 (by decide) wd_215 rfl rfl dX5_play_21 ?_
        refine r_iload_n dX5_play_24 1 rfl ?_
        refine r_iload_n dX5_play_25 2 rfl ?_
        obtain ⟨q6, hq6, hf⟩ := hf_bind hf
        refine r_callVi (As := [.int a0, .int a1]) (b := (eA E 8)) (st := []) (s_X0_recorded_L hq6) (by decide) (by decide) wd_451 wd_452 wd_453 wd_70 wd_454 hy_X0_recorded (Rc.obj 8 ga_L rfl) rfl (Nat.le_of_ble_eq_true rfl) dX5_play_26 ?_
        have e9 := Option.some.inj hf
        subst e9
        exact r_iret rfl dX5_play_29
      · have hf := hf_neg c5 hf
        refine r_aload_n dX5_play_13 0 rfl ?_
        refine r_bipush (v := (-2)) dX5_play_14 (by decide) ?_
        obtain ⟨q7, hq7, hf⟩ := hf_bind hf
        refine r_callVi (As := [.int (-2)]) (b := (eA E 0)) (st := []) (s_X5_refuse hq7) (by decide) (by decide) wd_251 wd_253 wd_0 wd_68 wd_254 hy_X5_refuse (Rc.obj 0 ga_X rfl) rfl (Nat.le_of_ble_eq_true rfl) dX5_play_16 ?_
        have e9 := Option.some.inj hf
        subst e9
        exact r_iret rfl dX5_play_19
-- DuelSamples.counted
def f_X5_counted (X_refusedBad : Int32) (X_refusedFull : Int32) (R_count : Int32) (R_F : Nat → Nat → Int32) (L_sample : Int32) (a0 : Int32) : Option (Int64 × Int32 × Int32) := if a0 = 0 then Option.bind (f_X3_countUp R_count R_F L_sample 4) (fun (q4 : Int64) => some (q4, X_refusedBad, X_refusedFull)) else if a0 = 1 then Option.bind (f_X3_countUp R_count R_F L_sample 3) (fun (q5 : Int64) => some (q5, X_refusedBad, X_refusedFull)) else if a0 = 2 then Option.bind (f_X3_miss R_count R_F L_sample) (fun (q6 : Int64) => some (q6, X_refusedBad, X_refusedFull)) else Option.bind (f_X5_refuse X_refusedBad X_refusedFull (-2)) (fun (q7 : Int32 × Int32 × Int32) => some ((Int32.toInt64 q7.1), q7.2.1, q7.2.2))
theorem hy_X5_counted : yX5_counted.cls ≠ "java/lang/invoke/MethodHandle" ∧ yX5_counted.cls ≠ "java/lang/invoke/VarHandle" ∧ (parseMethodDescriptor yX5_counted.desc).map (fun d => d.parameters.length) = some 1 := by decide +kernel
set_option maxHeartbeats 4000000 in
set_option maxRecDepth 100000 in
theorem s_X5_counted {E : EN} {hM : TM} {X_method : Int32} {X_refusedBad : Int32} {X_refusedFull : Int32} {R_count : Int32} {R_changes : Int32} {R_F : Nat → Nat → Int32} {L_sample : Int32} {L_plays : Int32} {L_small : Int32} {L_large : Int32} {L_u : Int32} {L_v : Int32} {L_left : Nat → Int32} {L_firsts : Nat → Int32} {L_seconds : Nat → Int32} {L_winners : Nat → Int32} {T_sample : Int32} {T_plays : Int32} {T_small : Int32} {T_large : Int32} {T_u : Int32} {T_v : Int32} {T_left : Nat → Int32} {T_firsts : Nat → Int32} {T_seconds : Nat → Int32} {T_winners : Nat → Int32} {K_atChanges : Int32} {K_atMethod : Int32} {K_seen : Nat → Int64} {S_length : Int32} {S_sentences : Int32} {S_at : Int32} {S_units : Int32} {S_text : Nat → Int32} {S_verbs : Nat → Int32} {S_numbers : Nat → Int32} {P_length : Int32} {P_signs : Nat → Int32} {a0 : Int32} {qR : Int64 × Int32 × Int32} (hf : f_X5_counted X_refusedBad X_refusedFull R_count R_F L_sample a0 = some qR) : Sem E yX5_counted cX5_counted 2 (some .long) 4 [.ref (eA E 0), .int a0] ((X_method, X_refusedBad, X_refusedFull), (R_count, R_changes, R_F), (L_sample, L_plays, L_small, L_large, L_u, L_v, L_left, L_firsts, L_seconds, L_winners), (T_sample, T_plays, T_small, T_large, T_u, T_v, T_left, T_firsts, T_seconds, T_winners), (K_atChanges, K_atMethod, K_seen), (S_length, S_sentences, S_at, S_units, S_text, S_verbs, S_numbers), (P_length, P_signs), hM) (some (.long qR.1), ((X_method, qR.2.1, qR.2.2), (R_count, R_changes, R_F), (L_sample, L_plays, L_small, L_large, L_u, L_v, L_left, L_firsts, L_seconds, L_winners), (T_sample, T_plays, T_small, T_large, T_u, T_v, T_left, T_firsts, T_seconds, T_winners), (K_atChanges, K_atMethod, K_seen), (S_length, S_sentences, S_at, S_units, S_text, S_verbs, S_numbers), (P_length, P_signs), hM)) := by
  refine Sem.mk (lv := [(0, .ref (eA E 0)), (1, .int a0)]) (by decide) (Nat.le_of_ble_eq_true rfl) rfl ?_
  rw [f_X5_counted] at hf
  refine r_iload_n dX5_counted_0 1 rfl ?_
  by_cases c1 : a0 = 0
  · have hf := hf_pos c1 hf
    refine r_tswi (off := 27) (tgt := 28) dX5_counted_1 c1 (by decide) (by decide) (by decide) (by decide) ?_
    refine r_aload_n dX5_counted_28 0 rfl ?_
    refine r_get (v := .ref (eA E 1)) in_X5 0 ga_X rfl 0 (by decide) wd_214 rfl rfl dX5_counted_29 ?_
    refine r_aload_n dX5_counted_32 0 rfl ?_
    refine r_get (v := .ref (eA E 8)) in_X5 0 ga_X rfl 1 (by decide) wd_215 rfl rfl dX5_counted_33 ?_
    refine r_getN (v := .int L_sample) in_X0 8 ga_L rfl 4 (by decide) wn_123 rfl rfl dX5_counted_36 ?_
    refine r_iconst (v := 4) dX5_counted_39 (by decide) ?_
    obtain ⟨q4, hq4, hf⟩ := hf_bind hf
    refine r_callVl (As := [.int L_sample, .int 4]) (b := (eA E 1)) (st := []) (s_X3_countUp hq4) (by decide) (by decide) wd_459 wd_460 wd_461 wd_69 wd_462 hy_X3_countUp (Rc.obj 1 ga_R rfl) rfl (Nat.le_of_ble_eq_true rfl) dX5_counted_40 ?_
    have e9 := Option.some.inj hf
    subst e9
    exact r_lret rfl dX5_counted_43
  · have hf := hf_neg c1 hf
    by_cases c2 : a0 = 1
    · have hf := hf_pos c2 hf
      refine r_tswi (off := 43) (tgt := 44) dX5_counted_1 c2 (by decide) (by decide) (by decide) (by decide) ?_
      refine r_aload_n dX5_counted_44 0 rfl ?_
      refine r_get (v := .ref (eA E 1)) in_X5 0 ga_X rfl 0 (by decide) wd_214 rfl rfl dX5_counted_45 ?_
      refine r_aload_n dX5_counted_48 0 rfl ?_
      refine r_get (v := .ref (eA E 8)) in_X5 0 ga_X rfl 1 (by decide) wd_215 rfl rfl dX5_counted_49 ?_
      refine r_getN (v := .int L_sample) in_X0 8 ga_L rfl 4 (by decide) wn_123 rfl rfl dX5_counted_52 ?_
      refine r_iconst (v := 3) dX5_counted_55 (by decide) ?_
      obtain ⟨q5, hq5, hf⟩ := hf_bind hf
      refine r_callVl (As := [.int L_sample, .int 3]) (b := (eA E 1)) (st := []) (s_X3_countUp hq5) (by decide) (by decide) wd_459 wd_460 wd_461 wd_69 wd_462 hy_X3_countUp (Rc.obj 1 ga_R rfl) rfl (Nat.le_of_ble_eq_true rfl) dX5_counted_56 ?_
      have e9 := Option.some.inj hf
      subst e9
      exact r_lret rfl dX5_counted_59
    · have hf := hf_neg c2 hf
      by_cases c3 : a0 = 2
      · have hf := hf_pos c3 hf
        refine r_tswi (off := 59) (tgt := 60) dX5_counted_1 c3 (by decide) (by decide) (by decide) (by decide) ?_
        refine r_aload_n dX5_counted_60 0 rfl ?_
        refine r_get (v := .ref (eA E 1)) in_X5 0 ga_X rfl 0 (by decide) wd_214 rfl rfl dX5_counted_61 ?_
        refine r_aload_n dX5_counted_64 0 rfl ?_
        refine r_get (v := .ref (eA E 8)) in_X5 0 ga_X rfl 1 (by decide) wd_215 rfl rfl dX5_counted_65 ?_
        refine r_getN (v := .int L_sample) in_X0 8 ga_L rfl 4 (by decide) wn_123 rfl rfl dX5_counted_68 ?_
        obtain ⟨q6, hq6, hf⟩ := hf_bind hf
        refine r_callVl (As := [.int L_sample]) (b := (eA E 1)) (st := []) (s_X3_miss hq6) (by decide) (by decide) wd_464 wd_465 wd_466 wd_69 wd_467 hy_X3_miss (Rc.obj 1 ga_R rfl) rfl (Nat.le_of_ble_eq_true rfl) dX5_counted_71 ?_
        have e9 := Option.some.inj hf
        subst e9
        exact r_lret rfl dX5_counted_74
      · have hf := hf_neg c3 hf
        refine r_tswo (tgt := 75) dX5_counted_1 (tsw_out0_2 c1 c2 c3) (by decide) ?_
        refine r_aload_n dX5_counted_75 0 rfl ?_
        refine r_bipush (v := (-2)) dX5_counted_76 (by decide) ?_
        obtain ⟨q7, hq7, hf⟩ := hf_bind hf
        refine r_callVi (As := [.int (-2)]) (b := (eA E 0)) (st := []) (s_X5_refuse hq7) (by decide) (by decide) wd_251 wd_253 wd_0 wd_68 wd_254 hy_X5_refuse (Rc.obj 0 ga_X rfl) rfl (Nat.le_of_ble_eq_true rfl) dX5_counted_78 ?_
        refine r_i2l dX5_counted_81 ?_
        have e9 := Option.some.inj hf
        subst e9
        exact r_lret rfl dX5_counted_82
-- DuelSamples.inside
def lp_X5_inside_19 (R_count : Int32) (L_sample : Int32) (R_F : Nat → Nat → Int32) (a0 : Int32) : Nat → Int32 → Int32 → Option (Int32)
  | 0, _, _ => none
  | n9 + 1, v2_19, v3_19 => if R_count ≤ v3_19 then some v2_19 else Option.bind (f_X0_holds L_sample v3_19) (fun (q4 : Int32) => Option.bind (if q4 = 0 then some v2_19 else Option.bind (f_X3_fact R_count R_F v3_19 2) (fun (q7 : Int32) => if q7 = a0 then some (v2_19 + 1) else some v2_19)) (fun (q6 : Int32) => lp_X5_inside_19 R_count L_sample R_F a0 n9 q6 (v3_19 + 1)))
def f_X5_inside (X_refusedBad : Int32) (X_refusedFull : Int32) (R_count : Int32) (R_F : Nat → Nat → Int32) (L_sample : Int32) (a0 : Int32) : Option (Int32 × Int32 × Int32) := Option.bind (f_X3_fits 2 a0) (fun (q1 : Int32) => if q1 = 0 then Option.bind (f_X5_refuse X_refusedBad X_refusedFull (-2)) (fun (q10 : Int32 × Int32 × Int32) => some (q10.1, q10.2.1, q10.2.2)) else Option.bind (lp_X5_inside_19 R_count L_sample R_F a0 FU 0 0) (fun (q9 : Int32) => some (q9, X_refusedBad, X_refusedFull)))
theorem hy_X5_inside : yX5_inside.cls ≠ "java/lang/invoke/MethodHandle" ∧ yX5_inside.cls ≠ "java/lang/invoke/VarHandle" ∧ (parseMethodDescriptor yX5_inside.desc).map (fun d => d.parameters.length) = some 1 := by decide +kernel
set_option maxHeartbeats 4000000 in
set_option maxRecDepth 100000 in
theorem w_X5_inside_19 {E : EN} {res : Option Value × Hp} {hM : TM} {a0 : Int32} {X_method : Int32} {X_refusedBad : Int32} {X_refusedFull : Int32} {R_count : Int32} {R_changes : Int32} {R_F : Nat → Nat → Int32} {L_sample : Int32} {L_plays : Int32} {L_small : Int32} {L_large : Int32} {L_u : Int32} {L_v : Int32} {L_left : Nat → Int32} {L_firsts : Nat → Int32} {L_seconds : Nat → Int32} {L_winners : Nat → Int32} {T_sample : Int32} {T_plays : Int32} {T_small : Int32} {T_large : Int32} {T_u : Int32} {T_v : Int32} {T_left : Nat → Int32} {T_firsts : Nat → Int32} {T_seconds : Nat → Int32} {T_winners : Nat → Int32} {K_atChanges : Int32} {K_atMethod : Int32} {K_seen : Nat → Int64} {S_length : Int32} {S_sentences : Int32} {S_at : Int32} {S_units : Int32} {S_text : Nat → Int32} {S_verbs : Nat → Int32} {S_numbers : Nat → Int32} {P_length : Int32} {P_signs : Nat → Int32} : ∀ (n9 : Nat) (v2_19 : Int32) (v3_19 : Int32) (qL : Int32), lp_X5_inside_19 R_count L_sample R_F a0 n9 v2_19 v3_19 = some qL → (Wa E yX5_inside cX5_inside 4 (some .int) 2 res 63 [(2, .int qL)] [] ((X_method, X_refusedBad, X_refusedFull), (R_count, R_changes, R_F), (L_sample, L_plays, L_small, L_large, L_u, L_v, L_left, L_firsts, L_seconds, L_winners), (T_sample, T_plays, T_small, T_large, T_u, T_v, T_left, T_firsts, T_seconds, T_winners), (K_atChanges, K_atMethod, K_seen), (S_length, S_sentences, S_at, S_units, S_text, S_verbs, S_numbers), (P_length, P_signs), hM)) → Wa E yX5_inside cX5_inside 4 (some .int) 2 res 19 [(0, .ref (eA E 0)), (1, .int a0), (2, .int v2_19), (3, .int v3_19)] [] ((X_method, X_refusedBad, X_refusedFull), (R_count, R_changes, R_F), (L_sample, L_plays, L_small, L_large, L_u, L_v, L_left, L_firsts, L_seconds, L_winners), (T_sample, T_plays, T_small, T_large, T_u, T_v, T_left, T_firsts, T_seconds, T_winners), (K_atChanges, K_atMethod, K_seen), (S_length, S_sentences, S_at, S_units, S_text, S_verbs, S_numbers), (P_length, P_signs), hM) := by
  intro n9
  induction n9 with
  | zero =>
    intro v2_19 v3_19 qL hf
    exact nomatch (show (none : Option (Int32)) = some qL from hf)
  | succ n9 ih =>
    intro v2_19 v3_19 qL hf kx0
    rw [lp_X5_inside_19] at hf
    refine r_iload_n dX5_inside_19 3 rfl ?_
    refine r_aload_n dX5_inside_20 0 rfl ?_
    refine r_get (v := .ref (eA E 1)) in_X5 0 ga_X rfl 0 (by decide) wd_214 rfl rfl dX5_inside_21 ?_
    refine r_getN (v := .int R_count) in_X3 1 ga_R rfl 1 (by decide) wn_100 rfl rfl dX5_inside_24 ?_
    refine r_icmp_ge (tgt := 63) dX5_inside_27 (by decide) (fun c3 => ?_) (fun c3 => ?_)
    · have hf := hf_pos c3 hf
      have e9 := Option.some.inj hf
      subst e9
      exact (Wa.sub [2] rfl kx0)
    · have hf := hf_neg c3 hf
      refine r_aload_n dX5_inside_30 0 rfl ?_
      refine r_get (v := .ref (eA E 8)) in_X5 0 ga_X rfl 1 (by decide) wd_215 rfl rfl dX5_inside_31 ?_
      refine r_iload_n dX5_inside_34 3 rfl ?_
      obtain ⟨q4, hq4, hf⟩ := hf_bind hf
      refine r_callVi (As := [.int v3_19]) (b := (eA E 8)) (st := []) (s_X0_holds_L hq4) (by decide) (by decide) wd_322 wd_323 wd_324 wd_70 wd_325 hy_X0_holds (Rc.obj 8 ga_L rfl) rfl (Nat.le_of_ble_eq_true rfl) dX5_inside_35 ?_
      obtain ⟨q6, hq6, hf⟩ := hf_bind hf
      have kj6 : Wa E yX5_inside cX5_inside 4 (some .int) 2 res 57 [(0, .ref (eA E 0)), (1, .int a0), (2, .int q6), (3, .int v3_19)] [] ((X_method, X_refusedBad, X_refusedFull), (R_count, R_changes, R_F), (L_sample, L_plays, L_small, L_large, L_u, L_v, L_left, L_firsts, L_seconds, L_winners), (T_sample, T_plays, T_small, T_large, T_u, T_v, T_left, T_firsts, T_seconds, T_winners), (K_atChanges, K_atMethod, K_seen), (S_length, S_sentences, S_at, S_units, S_text, S_verbs, S_numbers), (P_length, P_signs), hM) := by
        refine r_iinc (v := (v3_19 + 1)) (lv2 := [(3, .int (v3_19 + 1)), (0, .ref (eA E 0)), (1, .int a0), (2, .int q6)]) dX5_inside_57 3 rfl rfl (by decide) rfl ?_
        refine r_goto (tgt := 19) dX5_inside_60 (by decide) ?_
        exact (Wa.sub [1, 2, 3, 0] rfl (ih _ _ _ hf kx0))
      have hf := hq6
      refine r_if_eq (tgt := 57) dX5_inside_38 (by decide) (fun c5 => ?_) (fun c5 => ?_)
      · have hf := hf_pos c5 hf
        have e9 := Option.some.inj hf
        subst e9
        exact kj6
      · have hf := hf_neg c5 hf
        refine r_aload_n dX5_inside_41 0 rfl ?_
        refine r_get (v := .ref (eA E 1)) in_X5 0 ga_X rfl 0 (by decide) wd_214 rfl rfl dX5_inside_42 ?_
        refine r_iload_n dX5_inside_45 3 rfl ?_
        refine r_iconst (v := 2) dX5_inside_46 (by decide) ?_
        obtain ⟨q7, hq7, hf⟩ := hf_bind hf
        refine r_callVi (As := [.int v3_19, .int 2]) (b := (eA E 1)) (st := []) (s_X3_fact hq7) (by decide) (by decide) wd_326 wd_311 wd_312 wd_69 wd_313 hy_X3_fact (Rc.obj 1 ga_R rfl) rfl (Nat.le_of_ble_eq_true rfl) dX5_inside_47 ?_
        refine r_iload_n dX5_inside_50 1 rfl ?_
        refine r_icmp_ne (tgt := 57) dX5_inside_51 (by decide) (fun c8 => ?_) (fun c8 => ?_)
        · have hf := hf_neg c8 hf
          have e9 := Option.some.inj hf
          subst e9
          exact kj6
        · have hf := hf_pos c8 hf
          refine r_iinc (v := (v2_19 + 1)) (lv2 := [(2, .int (v2_19 + 1)), (0, .ref (eA E 0)), (1, .int a0), (3, .int v3_19)]) dX5_inside_54 2 rfl rfl (by decide) rfl ?_
          have e9 := Option.some.inj hf
          subst e9
          exact (Wa.sub [1, 2, 0, 3] rfl kj6)
set_option maxHeartbeats 4000000 in
set_option maxRecDepth 100000 in
theorem s_X5_inside {E : EN} {hM : TM} {X_method : Int32} {X_refusedBad : Int32} {X_refusedFull : Int32} {R_count : Int32} {R_changes : Int32} {R_F : Nat → Nat → Int32} {L_sample : Int32} {L_plays : Int32} {L_small : Int32} {L_large : Int32} {L_u : Int32} {L_v : Int32} {L_left : Nat → Int32} {L_firsts : Nat → Int32} {L_seconds : Nat → Int32} {L_winners : Nat → Int32} {T_sample : Int32} {T_plays : Int32} {T_small : Int32} {T_large : Int32} {T_u : Int32} {T_v : Int32} {T_left : Nat → Int32} {T_firsts : Nat → Int32} {T_seconds : Nat → Int32} {T_winners : Nat → Int32} {K_atChanges : Int32} {K_atMethod : Int32} {K_seen : Nat → Int64} {S_length : Int32} {S_sentences : Int32} {S_at : Int32} {S_units : Int32} {S_text : Nat → Int32} {S_verbs : Nat → Int32} {S_numbers : Nat → Int32} {P_length : Int32} {P_signs : Nat → Int32} {a0 : Int32} {qR : Int32 × Int32 × Int32} (hf : f_X5_inside X_refusedBad X_refusedFull R_count R_F L_sample a0 = some qR) : Sem E yX5_inside cX5_inside 4 (some .int) 2 [.ref (eA E 0), .int a0] ((X_method, X_refusedBad, X_refusedFull), (R_count, R_changes, R_F), (L_sample, L_plays, L_small, L_large, L_u, L_v, L_left, L_firsts, L_seconds, L_winners), (T_sample, T_plays, T_small, T_large, T_u, T_v, T_left, T_firsts, T_seconds, T_winners), (K_atChanges, K_atMethod, K_seen), (S_length, S_sentences, S_at, S_units, S_text, S_verbs, S_numbers), (P_length, P_signs), hM) (some (.int qR.1), ((X_method, qR.2.1, qR.2.2), (R_count, R_changes, R_F), (L_sample, L_plays, L_small, L_large, L_u, L_v, L_left, L_firsts, L_seconds, L_winners), (T_sample, T_plays, T_small, T_large, T_u, T_v, T_left, T_firsts, T_seconds, T_winners), (K_atChanges, K_atMethod, K_seen), (S_length, S_sentences, S_at, S_units, S_text, S_verbs, S_numbers), (P_length, P_signs), hM)) := by
  refine Sem.mk (lv := [(0, .ref (eA E 0)), (1, .int a0)]) (by decide) (Nat.le_of_ble_eq_true rfl) rfl ?_
  rw [f_X5_inside] at hf
  refine r_iconst (v := 2) dX5_inside_0 (by decide) ?_
  refine r_iload_n dX5_inside_1 1 rfl ?_
  obtain ⟨q1, hq1, hf⟩ := hf_bind hf
  refine r_callSi (As := [.int 2, .int a0]) (st := []) (s_X3_fits hq1) (by decide) (by decide) wd_246 wd_247 wd_69 wd_248 hy_X3_fits rfl (Nat.le_of_ble_eq_true rfl) dX5_inside_2 ?_
  refine r_if_ne (tgt := 15) dX5_inside_5 (by decide) (fun c2 => ?_) (fun c2 => ?_)
  · have hf := hf_neg c2 hf
    refine r_iconst (v := 0) dX5_inside_15 (by decide) ?_
    refine r_istore_n (lv2 := [(2, .int 0), (0, .ref (eA E 0)), (1, .int a0)]) dX5_inside_16 rfl (by decide) rfl ?_
    refine r_iconst (v := 0) dX5_inside_17 (by decide) ?_
    refine r_istore_n (lv2 := [(3, .int 0), (2, .int 0), (0, .ref (eA E 0)), (1, .int a0)]) dX5_inside_18 rfl (by decide) rfl ?_
    obtain ⟨q9, hq9, hf⟩ := hf_bind hf
    refine (Wa.sub [2, 3, 1, 0] rfl (w_X5_inside_19 _ _ _ _ hq9 ?_))
    refine r_iload_n dX5_inside_63 0 rfl ?_
    have e9 := Option.some.inj hf
    subst e9
    exact r_iret rfl dX5_inside_64
  · have hf := hf_pos c2 hf
    refine r_aload_n dX5_inside_8 0 rfl ?_
    refine r_bipush (v := (-2)) dX5_inside_9 (by decide) ?_
    obtain ⟨q10, hq10, hf⟩ := hf_bind hf
    refine r_callVi (As := [.int (-2)]) (b := (eA E 0)) (st := []) (s_X5_refuse hq10) (by decide) (by decide) wd_251 wd_253 wd_0 wd_68 wd_254 hy_X5_refuse (Rc.obj 0 ga_X rfl) rfl (Nat.le_of_ble_eq_true rfl) dX5_inside_11 ?_
    have e9 := Option.some.inj hf
    subst e9
    exact r_iret rfl dX5_inside_14
