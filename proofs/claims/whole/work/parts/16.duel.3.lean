-- DuelSamples.perform
def f_X5_perform (X_method : Int32) (R_count : Int32) (R_changes : Int32) (R_F : Nat → Nat → Int32) (L_sample : Int32) (L_plays : Int32) (L_small : Int32) (L_large : Int32) (L_u : Int32) (L_v : Int32) (L_left : Nat → Int32) (L_firsts : Nat → Int32) (L_seconds : Nat → Int32) (L_winners : Nat → Int32) (S_sentences : Int32) (S_verbs : Nat → Int32) (S_numbers : Nat → Int32) (P_length : Int32) (P_signs : Nat → Int32) (a0 : Int32) : Option (Int32 × Int32 × Int32 × (Nat → Nat → Int32) × Int32 × Int32 × Int32 × Int32 × Int32 × Int32 × (Nat → Int32) × (Nat → Int32) × (Nat → Int32) × (Nat → Int32) × Int32 × (Nat → Int32)) := Option.bind (f_X4_verb S_sentences S_verbs a0) (fun (q1 : Int32) => if 5 ≤ q1 then if q1 = 5 then Option.bind (f_X4_number S_numbers a0 0) (fun (q15 : Int32) => Option.bind (f_X4_number S_numbers a0 1) (fun (q16 : Int32) => Option.bind (f_X4_number S_numbers a0 2) (fun (q17 : Int32) => Option.bind (f_X4_number S_numbers a0 3) (fun (q18 : Int32) => Option.bind (f_X4_number S_numbers a0 4) (fun (q19 : Int32) => Option.bind (f_X3_append R_count R_changes R_F q15 q16 q17 q18 q19) (fun (q20 : Int32 × Int32 × Int32 × (Nat → Nat → Int32)) => Option.bind (f_X2_putNumber P_length P_signs q20.1) (fun (q21 : Int32 × (Nat → Int32)) => some (X_method, q20.2.1, q20.2.2.1, q20.2.2.2, L_sample, L_plays, L_small, L_large, L_u, L_v, L_left, L_firsts, L_seconds, L_winners, q21.1, q21.2)))))))) else if q1 = 11 then Option.bind (f_X4_number S_numbers a0 0) (fun (q12 : Int32) => Option.bind (f_X0_run R_count R_F L_u L_v L_left L_firsts L_seconds L_winners X_method q12) (fun (q13 : Int32 × Int32 × Int32 × Int32 × Int32 × Int32 × (Nat → Int32) × (Nat → Int32) × (Nat → Int32) × (Nat → Int32)) => Option.bind (f_X2_putUnits P_length P_signs q13.1) (fun (q14 : Int32 × (Nat → Int32)) => some (X_method, R_count, R_changes, R_F, q13.1, q13.2.1, q13.2.2.1, q13.2.2.2.1, q13.2.2.2.2.1, q13.2.2.2.2.2.1, q13.2.2.2.2.2.2.1, q13.2.2.2.2.2.2.2.1, q13.2.2.2.2.2.2.2.2.1, q13.2.2.2.2.2.2.2.2.2, q14.1, q14.2)))) else if q1 = 12 then Option.bind (f_J6_bitCount_0f7a4 L_sample) (fun (q10 : Int32) => Option.bind (f_X2_putNumber P_length P_signs q10) (fun (q11 : Int32 × (Nat → Int32)) => some (X_method, R_count, R_changes, R_F, L_sample, L_plays, L_small, L_large, L_u, L_v, L_left, L_firsts, L_seconds, L_winners, q11.1, q11.2))) else Option.bind (f_X4_number S_numbers a0 0) (fun (q6 : Int32) => Option.bind (f_X4_number S_numbers a0 1) (fun (q7 : Int32) => Option.bind (f_X3_change R_count R_changes R_F q6 (q1 - 6) q7) (fun (q8 : Int32 × Int32 × (Nat → Nat → Int32)) => Option.bind (f_X2_putNumber P_length P_signs q8.1) (fun (q9 : Int32 × (Nat → Int32)) => some (X_method, R_count, q8.2.1, q8.2.2, L_sample, L_plays, L_small, L_large, L_u, L_v, L_left, L_firsts, L_seconds, L_winners, q9.1, q9.2))))) else Option.bind (f_X5_changeMethod X_method q1) (fun (q22 : Int32 × Int32) => Option.bind (f_X4_word q22.1) (fun (q23 : Nat) => Option.bind (f_X2_putWord P_length P_signs q23) (fun (q24 : Int32 × (Nat → Int32)) => some (q22.2, R_count, R_changes, R_F, L_sample, L_plays, L_small, L_large, L_u, L_v, L_left, L_firsts, L_seconds, L_winners, q24.1, q24.2)))))
theorem hy_X5_perform : yX5_perform.cls ≠ "java/lang/invoke/MethodHandle" ∧ yX5_perform.cls ≠ "java/lang/invoke/VarHandle" ∧ (parseMethodDescriptor yX5_perform.desc).map (fun d => d.parameters.length) = some 1 := by decide +kernel
set_option maxHeartbeats 4000000 in
set_option maxRecDepth 100000 in
theorem s_X5_perform {E : EN} {hM : TM} {X_method : Int32} {X_refusedBad : Int32} {X_refusedFull : Int32} {R_count : Int32} {R_changes : Int32} {R_F : Nat → Nat → Int32} {L_sample : Int32} {L_plays : Int32} {L_small : Int32} {L_large : Int32} {L_u : Int32} {L_v : Int32} {L_left : Nat → Int32} {L_firsts : Nat → Int32} {L_seconds : Nat → Int32} {L_winners : Nat → Int32} {T_sample : Int32} {T_plays : Int32} {T_small : Int32} {T_large : Int32} {T_u : Int32} {T_v : Int32} {T_left : Nat → Int32} {T_firsts : Nat → Int32} {T_seconds : Nat → Int32} {T_winners : Nat → Int32} {K_atChanges : Int32} {K_atMethod : Int32} {K_seen : Nat → Int64} {S_length : Int32} {S_sentences : Int32} {S_at : Int32} {S_units : Int32} {S_text : Nat → Int32} {S_verbs : Nat → Int32} {S_numbers : Nat → Int32} {P_length : Int32} {P_signs : Nat → Int32} {a0 : Int32} {qR : Int32 × Int32 × Int32 × (Nat → Nat → Int32) × Int32 × Int32 × Int32 × Int32 × Int32 × Int32 × (Nat → Int32) × (Nat → Int32) × (Nat → Int32) × (Nat → Int32) × Int32 × (Nat → Int32)} (hf : f_X5_perform X_method R_count R_changes R_F L_sample L_plays L_small L_large L_u L_v L_left L_firsts L_seconds L_winners S_sentences S_verbs S_numbers P_length P_signs a0 = some qR) : Sem E yX5_perform cX5_perform 3 none 6 [.ref (eA E 0), .int a0] ((X_method, X_refusedBad, X_refusedFull), (R_count, R_changes, R_F), (L_sample, L_plays, L_small, L_large, L_u, L_v, L_left, L_firsts, L_seconds, L_winners), (T_sample, T_plays, T_small, T_large, T_u, T_v, T_left, T_firsts, T_seconds, T_winners), (K_atChanges, K_atMethod, K_seen), (S_length, S_sentences, S_at, S_units, S_text, S_verbs, S_numbers), (P_length, P_signs), hM) (none, ((qR.1, X_refusedBad, X_refusedFull), (qR.2.1, qR.2.2.1, qR.2.2.2.1), (qR.2.2.2.2.1, qR.2.2.2.2.2.1, qR.2.2.2.2.2.2.1, qR.2.2.2.2.2.2.2.1, qR.2.2.2.2.2.2.2.2.1, qR.2.2.2.2.2.2.2.2.2.1, qR.2.2.2.2.2.2.2.2.2.2.1, qR.2.2.2.2.2.2.2.2.2.2.2.1, qR.2.2.2.2.2.2.2.2.2.2.2.2.1, qR.2.2.2.2.2.2.2.2.2.2.2.2.2.1), (T_sample, T_plays, T_small, T_large, T_u, T_v, T_left, T_firsts, T_seconds, T_winners), (K_atChanges, K_atMethod, K_seen), (S_length, S_sentences, S_at, S_units, S_text, S_verbs, S_numbers), (qR.2.2.2.2.2.2.2.2.2.2.2.2.2.2.1, qR.2.2.2.2.2.2.2.2.2.2.2.2.2.2.2), hM)) := by
  refine Sem.mk (lv := [(0, .ref (eA E 0)), (1, .int a0)]) (by decide) (Nat.le_of_ble_eq_true rfl) rfl ?_
  rw [f_X5_perform] at hf
  refine r_aload_n dX5_perform_0 0 rfl ?_
  refine r_get (v := .ref (eA E 20)) in_X5 0 ga_X rfl 4 (by decide) wd_218 rfl rfl dX5_perform_1 ?_
  refine r_iload_n dX5_perform_4 1 rfl ?_
  obtain ⟨q1, hq1, hf⟩ := hf_bind hf
  refine r_callVi (As := [.int a0]) (b := (eA E 20)) (st := []) (s_X4_verb hq1) (by decide) (by decide) wd_710 wd_711 wd_712 wd_72 wd_713 hy_X4_verb (Rc.obj 20 ga_S rfl) rfl (Nat.le_of_ble_eq_true rfl) dX5_perform_5 ?_
  refine r_istore_n (lv2 := [(2, .int q1), (0, .ref (eA E 0)), (1, .int a0)]) dX5_perform_8 rfl (by decide) rfl ?_
  refine r_iload_n dX5_perform_9 0 rfl ?_
  refine r_iconst (v := 5) dX5_perform_10 (by decide) ?_
  refine r_icmp_ge (tgt := 32) dX5_perform_11 (by decide) (fun c2 => ?_) (fun c2 => ?_)
  · have hf := hf_pos c2 hf
    refine r_iload_n dX5_perform_32 0 rfl ?_
    refine r_iconst (v := 5) dX5_perform_33 (by decide) ?_
    refine r_icmp_ne (tgt := 99) dX5_perform_34 (by decide) (fun c3 => ?_) (fun c3 => ?_)
    · have hf := hf_neg c3 hf
      refine r_iload_n dX5_perform_99 0 rfl ?_
      refine r_bipush (v := 11) dX5_perform_100 (by decide) ?_
      refine r_icmp_ne (tgt := 146) dX5_perform_102 (by decide) (fun c4 => ?_) (fun c4 => ?_)
      · have hf := hf_neg c4 hf
        refine r_iload_n dX5_perform_146 0 rfl ?_
        refine r_bipush (v := 12) dX5_perform_147 (by decide) ?_
        refine r_icmp_ne (tgt := 172) dX5_perform_149 (by decide) (fun c5 => ?_) (fun c5 => ?_)
        · have hf := hf_neg c5 hf
          refine r_aload_n dX5_perform_172 1 rfl ?_
          refine r_get (v := .ref (eA E 24)) in_X5 0 ga_X rfl 5 (by decide) wd_219 rfl rfl dX5_perform_173 ?_
          refine r_aload_n dX5_perform_176 1 rfl ?_
          refine r_get (v := .ref (eA E 1)) in_X5 0 ga_X rfl 0 (by decide) wd_214 rfl rfl dX5_perform_177 ?_
          refine r_aload_n dX5_perform_180 1 rfl ?_
          refine r_get (v := .ref (eA E 20)) in_X5 0 ga_X rfl 4 (by decide) wd_218 rfl rfl dX5_perform_181 ?_
          refine r_iload_n dX5_perform_184 2 rfl ?_
          refine r_iconst (v := 0) dX5_perform_185 (by decide) ?_
          obtain ⟨q6, hq6, hf⟩ := hf_bind hf
          refine r_callVi (As := [.int a0, .int 0]) (b := (eA E 20)) (st := [.ref (eA E 1), .ref (eA E 24)]) (s_X4_number hq6) (by decide) (by decide) wd_722 wd_723 wd_724 wd_72 wd_725 hy_X4_number (Rc.obj 20 ga_S rfl) rfl (Nat.le_of_ble_eq_true rfl) dX5_perform_186 ?_
          refine r_iload_n dX5_perform_189 0 rfl ?_
          refine r_bipush (v := 6) dX5_perform_190 (by decide) ?_
          refine r_isub dX5_perform_192 ?_
          refine r_aload_n dX5_perform_193 1 rfl ?_
          refine r_get (v := .ref (eA E 20)) in_X5 0 ga_X rfl 4 (by decide) wd_218 rfl rfl dX5_perform_194 ?_
          refine r_iload_n dX5_perform_197 2 rfl ?_
          refine r_iconst (v := 1) dX5_perform_198 (by decide) ?_
          obtain ⟨q7, hq7, hf⟩ := hf_bind hf
          refine r_callVi (As := [.int a0, .int 1]) (b := (eA E 20)) (st := [.int (q1 - 6), .int q6, .ref (eA E 1), .ref (eA E 24)]) (s_X4_number hq7) (by decide) (by decide) wd_722 wd_723 wd_724 wd_72 wd_725 hy_X4_number (Rc.obj 20 ga_S rfl) rfl (Nat.le_of_ble_eq_true rfl) dX5_perform_199 ?_
          obtain ⟨q8, hq8, hf⟩ := hf_bind hf
          refine r_callVi (As := [.int q6, .int (q1 - 6), .int q7]) (b := (eA E 1)) (st := [.ref (eA E 24)]) (s_X3_change hq8) (by decide) (by decide) wd_267 wd_268 wd_269 wd_69 wd_270 hy_X3_change (Rc.obj 1 ga_R rfl) rfl (Nat.le_of_ble_eq_true rfl) dX5_perform_202 ?_
          obtain ⟨q9, hq9, hf⟩ := hf_bind hf
          refine r_callVv (As := [.int q8.1]) (b := (eA E 24)) (st := []) (s_X2_putNumber hq9) (by decide) (by decide) wd_726 wd_727 wd_728 wd_73 wd_729 hy_X2_putNumber (Rc.obj 24 ga_P rfl) rfl (Nat.le_of_ble_eq_true rfl) dX5_perform_205 ?_
          have e9 := Option.some.inj hf
          subst e9
          exact r_vret rfl dX5_perform_208
        · have hf := hf_pos c5 hf
          refine r_aload_n dX5_perform_152 1 rfl ?_
          refine r_get (v := .ref (eA E 24)) in_X5 0 ga_X rfl 5 (by decide) wd_219 rfl rfl dX5_perform_153 ?_
          refine r_aload_n dX5_perform_156 1 rfl ?_
          refine r_get (v := .ref (eA E 8)) in_X5 0 ga_X rfl 1 (by decide) wd_215 rfl rfl dX5_perform_157 ?_
          refine r_getN (v := .int L_sample) in_X0 8 ga_L rfl 4 (by decide) wn_123 rfl rfl dX5_perform_160 ?_
          obtain ⟨q10, hq10, hf⟩ := hf_bind hf
          refine r_callSi (As := [.int L_sample]) (st := [.ref (eA E 24)]) (s_J6_bitCount_0f7a4 hq10) (by decide) (by decide) wd_433 wd_434 wd_76 wd_435 hy_J6_bitCount_0f7a4 rfl (Nat.le_of_ble_eq_true rfl) dX5_perform_163 ?_
          obtain ⟨q11, hq11, hf⟩ := hf_bind hf
          refine r_callVv (As := [.int q10]) (b := (eA E 24)) (st := []) (s_X2_putNumber hq11) (by decide) (by decide) wd_726 wd_727 wd_728 wd_73 wd_729 hy_X2_putNumber (Rc.obj 24 ga_P rfl) rfl (Nat.le_of_ble_eq_true rfl) dX5_perform_166 ?_
          refine r_goto (tgt := 208) dX5_perform_169 (by decide) ?_
          have e9 := Option.some.inj hf
          subst e9
          exact r_vret rfl dX5_perform_208
      · have hf := hf_pos c4 hf
        refine r_aload_n dX5_perform_105 1 rfl ?_
        refine r_get (v := .ref (eA E 8)) in_X5 0 ga_X rfl 1 (by decide) wd_215 rfl rfl dX5_perform_106 ?_
        refine r_aload_n dX5_perform_109 1 rfl ?_
        refine r_get (v := .ref (eA E 1)) in_X5 0 ga_X rfl 0 (by decide) wd_214 rfl rfl dX5_perform_110 ?_
        refine r_aload_n dX5_perform_113 1 rfl ?_
        refine r_get (v := .int X_method) in_X5 0 ga_X rfl 6 (by decide) wd_220 rfl rfl dX5_perform_114 ?_
        refine r_aload_n dX5_perform_117 1 rfl ?_
        refine r_get (v := .ref (eA E 20)) in_X5 0 ga_X rfl 4 (by decide) wd_218 rfl rfl dX5_perform_118 ?_
        refine r_iload_n dX5_perform_121 2 rfl ?_
        refine r_iconst (v := 0) dX5_perform_122 (by decide) ?_
        obtain ⟨q12, hq12, hf⟩ := hf_bind hf
        refine r_callVi (As := [.int a0, .int 0]) (b := (eA E 20)) (st := [.int X_method, .ref (eA E 1), .ref (eA E 8)]) (s_X4_number hq12) (by decide) (by decide) wd_722 wd_723 wd_724 wd_72 wd_725 hy_X4_number (Rc.obj 20 ga_S rfl) rfl (Nat.le_of_ble_eq_true rfl) dX5_perform_123 ?_
        obtain ⟨q13, hq13, hf⟩ := hf_bind hf
        refine r_callVv (As := [.ref (eA E 1), .int X_method, .int q12]) (b := (eA E 8)) (st := []) (s_X0_run_L hq13) (by decide) (by decide) wd_347 wd_348 wd_349 wd_70 wd_350 hy_X0_run (Rc.obj 8 ga_L rfl) rfl (Nat.le_of_ble_eq_true rfl) dX5_perform_126 ?_
        refine r_aload_n dX5_perform_129 1 rfl ?_
        refine r_get (v := .ref (eA E 24)) in_X5 0 ga_X rfl 5 (by decide) wd_219 rfl rfl dX5_perform_130 ?_
        refine r_aload_n dX5_perform_133 1 rfl ?_
        refine r_get (v := .ref (eA E 8)) in_X5 0 ga_X rfl 1 (by decide) wd_215 rfl rfl dX5_perform_134 ?_
        refine r_getN (v := .int q13.1) in_X0 8 ga_L rfl 4 (by decide) wn_123 rfl rfl dX5_perform_137 ?_
        obtain ⟨q14, hq14, hf⟩ := hf_bind hf
        refine r_callVv (As := [.int q13.1]) (b := (eA E 24)) (st := []) (s_X2_putUnits hq14) (by decide) (by decide) wd_730 wd_731 wd_732 wd_73 wd_733 hy_X2_putUnits (Rc.obj 24 ga_P rfl) rfl (Nat.le_of_ble_eq_true rfl) dX5_perform_140 ?_
        refine r_goto (tgt := 208) dX5_perform_143 (by decide) ?_
        have e9 := Option.some.inj hf
        subst e9
        exact r_vret rfl dX5_perform_208
    · have hf := hf_pos c3 hf
      refine r_aload_n dX5_perform_37 1 rfl ?_
      refine r_get (v := .ref (eA E 24)) in_X5 0 ga_X rfl 5 (by decide) wd_219 rfl rfl dX5_perform_38 ?_
      refine r_aload_n dX5_perform_41 1 rfl ?_
      refine r_get (v := .ref (eA E 1)) in_X5 0 ga_X rfl 0 (by decide) wd_214 rfl rfl dX5_perform_42 ?_
      refine r_aload_n dX5_perform_45 1 rfl ?_
      refine r_get (v := .ref (eA E 20)) in_X5 0 ga_X rfl 4 (by decide) wd_218 rfl rfl dX5_perform_46 ?_
      refine r_iload_n dX5_perform_49 2 rfl ?_
      refine r_iconst (v := 0) dX5_perform_50 (by decide) ?_
      obtain ⟨q15, hq15, hf⟩ := hf_bind hf
      refine r_callVi (As := [.int a0, .int 0]) (b := (eA E 20)) (st := [.ref (eA E 1), .ref (eA E 24)]) (s_X4_number hq15) (by decide) (by decide) wd_722 wd_723 wd_724 wd_72 wd_725 hy_X4_number (Rc.obj 20 ga_S rfl) rfl (Nat.le_of_ble_eq_true rfl) dX5_perform_51 ?_
      refine r_aload_n dX5_perform_54 1 rfl ?_
      refine r_get (v := .ref (eA E 20)) in_X5 0 ga_X rfl 4 (by decide) wd_218 rfl rfl dX5_perform_55 ?_
      refine r_iload_n dX5_perform_58 2 rfl ?_
      refine r_iconst (v := 1) dX5_perform_59 (by decide) ?_
      obtain ⟨q16, hq16, hf⟩ := hf_bind hf
      refine r_callVi (As := [.int a0, .int 1]) (b := (eA E 20)) (st := [.int q15, .ref (eA E 1), .ref (eA E 24)]) (s_X4_number hq16) (by decide) (by decide) wd_722 wd_723 wd_724 wd_72 wd_725 hy_X4_number (Rc.obj 20 ga_S rfl) rfl (Nat.le_of_ble_eq_true rfl) dX5_perform_60 ?_
      refine r_aload_n dX5_perform_63 1 rfl ?_
      refine r_get (v := .ref (eA E 20)) in_X5 0 ga_X rfl 4 (by decide) wd_218 rfl rfl dX5_perform_64 ?_
      refine r_iload_n dX5_perform_67 2 rfl ?_
      refine r_iconst (v := 2) dX5_perform_68 (by decide) ?_
      obtain ⟨q17, hq17, hf⟩ := hf_bind hf
      refine r_callVi (As := [.int a0, .int 2]) (b := (eA E 20)) (st := [.int q16, .int q15, .ref (eA E 1), .ref (eA E 24)]) (s_X4_number hq17) (by decide) (by decide) wd_722 wd_723 wd_724 wd_72 wd_725 hy_X4_number (Rc.obj 20 ga_S rfl) rfl (Nat.le_of_ble_eq_true rfl) dX5_perform_69 ?_
      refine r_aload_n dX5_perform_72 1 rfl ?_
      refine r_get (v := .ref (eA E 20)) in_X5 0 ga_X rfl 4 (by decide) wd_218 rfl rfl dX5_perform_73 ?_
      refine r_iload_n dX5_perform_76 2 rfl ?_
      refine r_iconst (v := 3) dX5_perform_77 (by decide) ?_
      obtain ⟨q18, hq18, hf⟩ := hf_bind hf
      refine r_callVi (As := [.int a0, .int 3]) (b := (eA E 20)) (st := [.int q17, .int q16, .int q15, .ref (eA E 1), .ref (eA E 24)]) (s_X4_number hq18) (by decide) (by decide) wd_722 wd_723 wd_724 wd_72 wd_725 hy_X4_number (Rc.obj 20 ga_S rfl) rfl (Nat.le_of_ble_eq_true rfl) dX5_perform_78 ?_
      refine r_aload_n dX5_perform_81 1 rfl ?_
      refine r_get (v := .ref (eA E 20)) in_X5 0 ga_X rfl 4 (by decide) wd_218 rfl rfl dX5_perform_82 ?_
      refine r_iload_n dX5_perform_85 2 rfl ?_
      refine r_iconst (v := 4) dX5_perform_86 (by decide) ?_
      obtain ⟨q19, hq19, hf⟩ := hf_bind hf
      refine r_callVi (As := [.int a0, .int 4]) (b := (eA E 20)) (st := [.int q18, .int q17, .int q16, .int q15, .ref (eA E 1), .ref (eA E 24)]) (s_X4_number hq19) (by decide) (by decide) wd_722 wd_723 wd_724 wd_72 wd_725 hy_X4_number (Rc.obj 20 ga_S rfl) rfl (Nat.le_of_ble_eq_true rfl) dX5_perform_87 ?_
      obtain ⟨q20, hq20, hf⟩ := hf_bind hf
      refine r_callVi (As := [.int q15, .int q16, .int q17, .int q18, .int q19]) (b := (eA E 1)) (st := [.ref (eA E 24)]) (s_X3_append hq20) (by decide) (by decide) wd_255 wd_256 wd_257 wd_69 wd_258 hy_X3_append (Rc.obj 1 ga_R rfl) rfl (Nat.le_of_ble_eq_true rfl) dX5_perform_90 ?_
      obtain ⟨q21, hq21, hf⟩ := hf_bind hf
      refine r_callVv (As := [.int q20.1]) (b := (eA E 24)) (st := []) (s_X2_putNumber hq21) (by decide) (by decide) wd_726 wd_727 wd_728 wd_73 wd_729 hy_X2_putNumber (Rc.obj 24 ga_P rfl) rfl (Nat.le_of_ble_eq_true rfl) dX5_perform_93 ?_
      refine r_goto (tgt := 208) dX5_perform_96 (by decide) ?_
      have e9 := Option.some.inj hf
      subst e9
      exact r_vret rfl dX5_perform_208
  · have hf := hf_neg c2 hf
    refine r_aload_n dX5_perform_14 1 rfl ?_
    refine r_get (v := .ref (eA E 24)) in_X5 0 ga_X rfl 5 (by decide) wd_219 rfl rfl dX5_perform_15 ?_
    refine r_aload_n dX5_perform_18 1 rfl ?_
    refine r_iload_n dX5_perform_19 0 rfl ?_
    obtain ⟨q22, hq22, hf⟩ := hf_bind hf
    refine r_callVi (As := [.int q1]) (b := (eA E 0)) (st := [.ref (eA E 24)]) (s_X5_changeMethod hq22) (by decide) (by decide) wd_339 wd_341 wd_2 wd_68 wd_342 hy_X5_changeMethod (Rc.obj 0 ga_X rfl) rfl (Nat.le_of_ble_eq_true rfl) dX5_perform_20 ?_
    obtain ⟨q23, hq23, hf⟩ := hf_bind hf
    refine r_callSa (As := [.int q22.1]) (st := [.ref (eA E 24)]) (s_X4_word hq23) (by decide) (by decide) wd_714 wd_621 wd_72 wd_622 hy_X4_word rfl (Nat.le_of_ble_eq_true rfl) dX5_perform_23 ?_
    obtain ⟨q24, hq24, hf⟩ := hf_bind hf
    refine r_callVv (As := [.ref (eK E q23)]) (b := (eA E 24)) (st := []) (s_X2_putWord hq24) (by decide) (by decide) wd_715 wd_716 wd_717 wd_73 wd_718 hy_X2_putWord (Rc.obj 24 ga_P rfl) rfl (Nat.le_of_ble_eq_true rfl) dX5_perform_26 ?_
    refine r_goto (tgt := 208) dX5_perform_29 (by decide) ?_
    have e9 := Option.some.inj hf
    subst e9
    exact r_vret rfl dX5_perform_208
-- DuelSamples.says
def lp_X5_says_35 (q1 : Int32 × Int32 × Int32 × Int32 × (Nat → Int32) × (Nat → Int32)) : Nat → Int32 → Int32 → Int32 → Int32 → (Nat → Nat → Int32) → Int32 → Int32 → Int32 → Int32 → Int32 → Int32 → (Nat → Int32) → (Nat → Int32) → (Nat → Int32) → (Nat → Int32) → Int32 → (Nat → Int32) → Option (Int32 × Int32 × Int32 × (Nat → Nat → Int32) × Int32 × Int32 × Int32 × Int32 × Int32 × Int32 × (Nat → Int32) × (Nat → Int32) × (Nat → Int32) × (Nat → Int32) × Int32 × (Nat → Int32))
  | 0, _, _, _, _, _, _, _, _, _, _, _, _, _, _, _, _, _ => none
  | n9 + 1, v2_35, X_method_35, R_count_35, R_changes_35, R_F_35, L_sample_35, L_plays_35, L_small_35, L_large_35, L_u_35, L_v_35, L_left_35, L_firsts_35, L_seconds_35, L_winners_35, P_length_35, P_signs_35 => if q1.2.1 ≤ v2_35 then some (X_method_35, R_count_35, R_changes_35, R_F_35, L_sample_35, L_plays_35, L_small_35, L_large_35, L_u_35, L_v_35, L_left_35, L_firsts_35, L_seconds_35, L_winners_35, P_length_35, P_signs_35) else Option.bind (if v2_35 ≤ 0 then some (P_length_35, P_signs_35) else Option.bind (f_X2_put P_length_35 P_signs_35 32) (fun (q6 : Int32 × (Nat → Int32)) => some (q6.1, q6.2))) (fun (q5 : Int32 × (Nat → Int32)) => Option.bind (f_X5_perform X_method_35 R_count_35 R_changes_35 R_F_35 L_sample_35 L_plays_35 L_small_35 L_large_35 L_u_35 L_v_35 L_left_35 L_firsts_35 L_seconds_35 L_winners_35 q1.2.1 q1.2.2.2.2.1 q1.2.2.2.2.2 q5.1 q5.2 v2_35) (fun (q7 : Int32 × Int32 × Int32 × (Nat → Nat → Int32) × Int32 × Int32 × Int32 × Int32 × Int32 × Int32 × (Nat → Int32) × (Nat → Int32) × (Nat → Int32) × (Nat → Int32) × Int32 × (Nat → Int32)) => lp_X5_says_35 q1 n9 (v2_35 + 1) q7.1 q7.2.1 q7.2.2.1 q7.2.2.2.1 q7.2.2.2.2.1 q7.2.2.2.2.2.1 q7.2.2.2.2.2.2.1 q7.2.2.2.2.2.2.2.1 q7.2.2.2.2.2.2.2.2.1 q7.2.2.2.2.2.2.2.2.2.1 q7.2.2.2.2.2.2.2.2.2.2.1 q7.2.2.2.2.2.2.2.2.2.2.2.1 q7.2.2.2.2.2.2.2.2.2.2.2.2.1 q7.2.2.2.2.2.2.2.2.2.2.2.2.2.1 q7.2.2.2.2.2.2.2.2.2.2.2.2.2.2.1 q7.2.2.2.2.2.2.2.2.2.2.2.2.2.2.2))
def f_X5_says (X_method : Int32) (R_count : Int32) (R_changes : Int32) (R_F : Nat → Nat → Int32) (L_sample : Int32) (L_plays : Int32) (L_small : Int32) (L_large : Int32) (L_u : Int32) (L_v : Int32) (L_left : Nat → Int32) (L_firsts : Nat → Int32) (L_seconds : Nat → Int32) (L_winners : Nat → Int32) (S_length : Int32) (S_text : Nat → Int32) (S_verbs : Nat → Int32) (S_numbers : Nat → Int32) (P_length : Int32) (P_signs : Nat → Int32)  : Option (Int32 × Int32 × Int32 × Int32 × (Nat → Nat → Int32) × Int32 × Int32 × Int32 × Int32 × Int32 × Int32 × (Nat → Int32) × (Nat → Int32) × (Nat → Int32) × (Nat → Int32) × Int32 × Int32 × Int32 × (Nat → Int32) × (Nat → Int32) × Int32 × (Nat → Int32)) := Option.bind (f_X4_read S_length S_text S_verbs S_numbers R_count) (fun (q1 : Int32 × Int32 × Int32 × Int32 × (Nat → Int32) × (Nat → Int32)) => if q1.1 = (-1) then Option.bind (lp_X5_says_35 q1 FU 0 X_method R_count R_changes R_F L_sample L_plays L_small L_large L_u L_v L_left L_firsts L_seconds L_winners 0 P_signs) (fun (q8 : Int32 × Int32 × Int32 × (Nat → Nat → Int32) × Int32 × Int32 × Int32 × Int32 × Int32 × Int32 × (Nat → Int32) × (Nat → Int32) × (Nat → Int32) × (Nat → Int32) × Int32 × (Nat → Int32)) => some (q1.2.1, q8.1, q8.2.1, q8.2.2.1, q8.2.2.2.1, q8.2.2.2.2.1, q8.2.2.2.2.2.1, q8.2.2.2.2.2.2.1, q8.2.2.2.2.2.2.2.1, q8.2.2.2.2.2.2.2.2.1, q8.2.2.2.2.2.2.2.2.2.1, q8.2.2.2.2.2.2.2.2.2.2.1, q8.2.2.2.2.2.2.2.2.2.2.2.1, q8.2.2.2.2.2.2.2.2.2.2.2.2.1, q8.2.2.2.2.2.2.2.2.2.2.2.2.2.1, q1.2.1, q1.2.2.1, q1.2.2.2.1, q1.2.2.2.2.1, q1.2.2.2.2.2, q8.2.2.2.2.2.2.2.2.2.2.2.2.2.2.1, q8.2.2.2.2.2.2.2.2.2.2.2.2.2.2.2)) else some (((-10) - q1.1), X_method, R_count, R_changes, R_F, L_sample, L_plays, L_small, L_large, L_u, L_v, L_left, L_firsts, L_seconds, L_winners, q1.2.1, q1.2.2.1, q1.2.2.2.1, q1.2.2.2.2.1, q1.2.2.2.2.2, P_length, P_signs))
theorem hy_X5_says : yX5_says.cls ≠ "java/lang/invoke/MethodHandle" ∧ yX5_says.cls ≠ "java/lang/invoke/VarHandle" ∧ (parseMethodDescriptor yX5_says.desc).map (fun d => d.parameters.length) = some 0 := by decide +kernel
set_option maxHeartbeats 4000000 in
set_option maxRecDepth 100000 in
theorem w_X5_says_35 {E : EN} {res : Option Value × Hp} {hM : TM} {X_refusedBad : Int32} {X_refusedFull : Int32} {T_sample : Int32} {T_plays : Int32} {T_small : Int32} {T_large : Int32} {T_u : Int32} {T_v : Int32} {T_left : Nat → Int32} {T_firsts : Nat → Int32} {T_seconds : Nat → Int32} {T_winners : Nat → Int32} {K_atChanges : Int32} {K_atMethod : Int32} {K_seen : Nat → Int64} {S_length : Int32} {q1 : Int32 × Int32 × Int32 × Int32 × (Nat → Int32) × (Nat → Int32)} {S_text : Nat → Int32} : ∀ (n9 : Nat) (v2_35 : Int32) (X_method_35 : Int32) (R_count_35 : Int32) (R_changes_35 : Int32) (R_F_35 : Nat → Nat → Int32) (L_sample_35 : Int32) (L_plays_35 : Int32) (L_small_35 : Int32) (L_large_35 : Int32) (L_u_35 : Int32) (L_v_35 : Int32) (L_left_35 : Nat → Int32) (L_firsts_35 : Nat → Int32) (L_seconds_35 : Nat → Int32) (L_winners_35 : Nat → Int32) (P_length_35 : Int32) (P_signs_35 : Nat → Int32) (qL : Int32 × Int32 × Int32 × (Nat → Nat → Int32) × Int32 × Int32 × Int32 × Int32 × Int32 × Int32 × (Nat → Int32) × (Nat → Int32) × (Nat → Int32) × (Nat → Int32) × Int32 × (Nat → Int32)), lp_X5_says_35 q1 n9 v2_35 X_method_35 R_count_35 R_changes_35 R_F_35 L_sample_35 L_plays_35 L_small_35 L_large_35 L_u_35 L_v_35 L_left_35 L_firsts_35 L_seconds_35 L_winners_35 P_length_35 P_signs_35 = some qL → (Wa E yX5_says cX5_says 3 (some .int) 9 res 70 [(0, .ref (eA E 0))] [] ((qL.1, X_refusedBad, X_refusedFull), (qL.2.1, qL.2.2.1, qL.2.2.2.1), (qL.2.2.2.2.1, qL.2.2.2.2.2.1, qL.2.2.2.2.2.2.1, qL.2.2.2.2.2.2.2.1, qL.2.2.2.2.2.2.2.2.1, qL.2.2.2.2.2.2.2.2.2.1, qL.2.2.2.2.2.2.2.2.2.2.1, qL.2.2.2.2.2.2.2.2.2.2.2.1, qL.2.2.2.2.2.2.2.2.2.2.2.2.1, qL.2.2.2.2.2.2.2.2.2.2.2.2.2.1), (T_sample, T_plays, T_small, T_large, T_u, T_v, T_left, T_firsts, T_seconds, T_winners), (K_atChanges, K_atMethod, K_seen), (S_length, q1.2.1, q1.2.2.1, q1.2.2.2.1, S_text, q1.2.2.2.2.1, q1.2.2.2.2.2), (qL.2.2.2.2.2.2.2.2.2.2.2.2.2.2.1, qL.2.2.2.2.2.2.2.2.2.2.2.2.2.2.2), hM)) → Wa E yX5_says cX5_says 3 (some .int) 9 res 35 [(0, .ref (eA E 0)), (2, .int v2_35)] [] ((X_method_35, X_refusedBad, X_refusedFull), (R_count_35, R_changes_35, R_F_35), (L_sample_35, L_plays_35, L_small_35, L_large_35, L_u_35, L_v_35, L_left_35, L_firsts_35, L_seconds_35, L_winners_35), (T_sample, T_plays, T_small, T_large, T_u, T_v, T_left, T_firsts, T_seconds, T_winners), (K_atChanges, K_atMethod, K_seen), (S_length, q1.2.1, q1.2.2.1, q1.2.2.2.1, S_text, q1.2.2.2.2.1, q1.2.2.2.2.2), (P_length_35, P_signs_35), hM) := by
  intro n9
  induction n9 with
  | zero =>
    intro v2_35 X_method_35 R_count_35 R_changes_35 R_F_35 L_sample_35 L_plays_35 L_small_35 L_large_35 L_u_35 L_v_35 L_left_35 L_firsts_35 L_seconds_35 L_winners_35 P_length_35 P_signs_35 qL hf
    exact nomatch (show (none : Option (Int32 × Int32 × Int32 × (Nat → Nat → Int32) × Int32 × Int32 × Int32 × Int32 × Int32 × Int32 × (Nat → Int32) × (Nat → Int32) × (Nat → Int32) × (Nat → Int32) × Int32 × (Nat → Int32))) = some qL from hf)
  | succ n9 ih =>
    intro v2_35 X_method_35 R_count_35 R_changes_35 R_F_35 L_sample_35 L_plays_35 L_small_35 L_large_35 L_u_35 L_v_35 L_left_35 L_firsts_35 L_seconds_35 L_winners_35 P_length_35 P_signs_35 qL hf kx0
    rw [lp_X5_says_35] at hf
    refine r_iload_n dX5_says_35 1 rfl ?_
    refine r_aload_n dX5_says_36 0 rfl ?_
    refine r_get (v := .ref (eA E 20)) in_X5 0 ga_X rfl 4 (by decide) wd_218 rfl rfl dX5_says_37 ?_
    refine r_getN (v := .int q1.2.1) in_X4 20 ga_S rfl 4 (by decide) wn_181 rfl rfl dX5_says_40 ?_
    refine r_icmp_ge (tgt := 70) dX5_says_43 (by decide) (fun c3 => ?_) (fun c3 => ?_)
    · have hf := hf_pos c3 hf
      have e9 := Option.some.inj hf
      subst e9
      exact (Wa.sub [0] rfl kx0)
    · have hf := hf_neg c3 hf
      refine r_iload_n dX5_says_46 1 rfl ?_
      obtain ⟨q5, hq5, hf⟩ := hf_bind hf
      have kj5 : Wa E yX5_says cX5_says 3 (some .int) 9 res 59 [(0, .ref (eA E 0)), (2, .int v2_35)] [] ((X_method_35, X_refusedBad, X_refusedFull), (R_count_35, R_changes_35, R_F_35), (L_sample_35, L_plays_35, L_small_35, L_large_35, L_u_35, L_v_35, L_left_35, L_firsts_35, L_seconds_35, L_winners_35), (T_sample, T_plays, T_small, T_large, T_u, T_v, T_left, T_firsts, T_seconds, T_winners), (K_atChanges, K_atMethod, K_seen), (S_length, q1.2.1, q1.2.2.1, q1.2.2.2.1, S_text, q1.2.2.2.2.1, q1.2.2.2.2.2), (q5.1, q5.2), hM) := by
        refine r_aload_n dX5_says_59 0 rfl ?_
        refine r_iload_n dX5_says_60 1 rfl ?_
        obtain ⟨q7, hq7, hf⟩ := hf_bind hf
        refine r_callVv (As := [.int v2_35]) (b := (eA E 0)) (st := []) (s_X5_perform hq7) (by decide) (by decide) wd_706 wd_708 wd_25 wd_68 wd_709 hy_X5_perform (Rc.obj 0 ga_X rfl) rfl (Nat.le_of_ble_eq_true rfl) dX5_says_61 ?_
        refine r_iinc (v := (v2_35 + 1)) (lv2 := [(2, .int (v2_35 + 1)), (0, .ref (eA E 0))]) dX5_says_64 1 rfl rfl (by decide) rfl ?_
        refine r_goto (tgt := 35) dX5_says_67 (by decide) ?_
        exact (Wa.sub [1, 0] rfl (ih _ _ _ _ _ _ _ _ _ _ _ _ _ _ _ _ _ _ hf kx0))
      have hf := hq5
      refine r_if_le (tgt := 59) dX5_says_47 (by decide) (fun c4 => ?_) (fun c4 => ?_)
      · have hf := hf_pos c4 hf
        have e9 := Option.some.inj hf
        subst e9
        exact kj5
      · have hf := hf_neg c4 hf
        refine r_aload_n dX5_says_50 0 rfl ?_
        refine r_get (v := .ref (eA E 24)) in_X5 0 ga_X rfl 5 (by decide) wd_219 rfl rfl dX5_says_51 ?_
        refine r_bipush (v := 32) dX5_says_54 (by decide) ?_
        obtain ⟨q6, hq6, hf⟩ := hf_bind hf
        refine r_callVv (As := [.int 32]) (b := (eA E 24)) (st := []) (s_X2_put hq6) (by decide) (by decide) wd_702 wd_703 wd_704 wd_73 wd_705 hy_X2_put (Rc.obj 24 ga_P rfl) rfl (Nat.le_of_ble_eq_true rfl) dX5_says_56 ?_
        have e9 := Option.some.inj hf
        subst e9
        exact kj5
set_option maxHeartbeats 4000000 in
set_option maxRecDepth 100000 in
theorem s_X5_says {E : EN} {hM : TM} {X_method : Int32} {X_refusedBad : Int32} {X_refusedFull : Int32} {R_count : Int32} {R_changes : Int32} {R_F : Nat → Nat → Int32} {L_sample : Int32} {L_plays : Int32} {L_small : Int32} {L_large : Int32} {L_u : Int32} {L_v : Int32} {L_left : Nat → Int32} {L_firsts : Nat → Int32} {L_seconds : Nat → Int32} {L_winners : Nat → Int32} {T_sample : Int32} {T_plays : Int32} {T_small : Int32} {T_large : Int32} {T_u : Int32} {T_v : Int32} {T_left : Nat → Int32} {T_firsts : Nat → Int32} {T_seconds : Nat → Int32} {T_winners : Nat → Int32} {K_atChanges : Int32} {K_atMethod : Int32} {K_seen : Nat → Int64} {S_length : Int32} {S_sentences : Int32} {S_at : Int32} {S_units : Int32} {S_text : Nat → Int32} {S_verbs : Nat → Int32} {S_numbers : Nat → Int32} {P_length : Int32} {P_signs : Nat → Int32}  {qR : Int32 × Int32 × Int32 × Int32 × (Nat → Nat → Int32) × Int32 × Int32 × Int32 × Int32 × Int32 × Int32 × (Nat → Int32) × (Nat → Int32) × (Nat → Int32) × (Nat → Int32) × Int32 × Int32 × Int32 × (Nat → Int32) × (Nat → Int32) × Int32 × (Nat → Int32)} (hf : f_X5_says X_method R_count R_changes R_F L_sample L_plays L_small L_large L_u L_v L_left L_firsts L_seconds L_winners S_length S_text S_verbs S_numbers P_length P_signs = some qR) : Sem E yX5_says cX5_says 3 (some .int) 9 [.ref (eA E 0)] ((X_method, X_refusedBad, X_refusedFull), (R_count, R_changes, R_F), (L_sample, L_plays, L_small, L_large, L_u, L_v, L_left, L_firsts, L_seconds, L_winners), (T_sample, T_plays, T_small, T_large, T_u, T_v, T_left, T_firsts, T_seconds, T_winners), (K_atChanges, K_atMethod, K_seen), (S_length, S_sentences, S_at, S_units, S_text, S_verbs, S_numbers), (P_length, P_signs), hM) (some (.int qR.1), ((qR.2.1, X_refusedBad, X_refusedFull), (qR.2.2.1, qR.2.2.2.1, qR.2.2.2.2.1), (qR.2.2.2.2.2.1, qR.2.2.2.2.2.2.1, qR.2.2.2.2.2.2.2.1, qR.2.2.2.2.2.2.2.2.1, qR.2.2.2.2.2.2.2.2.2.1, qR.2.2.2.2.2.2.2.2.2.2.1, qR.2.2.2.2.2.2.2.2.2.2.2.1, qR.2.2.2.2.2.2.2.2.2.2.2.2.1, qR.2.2.2.2.2.2.2.2.2.2.2.2.2.1, qR.2.2.2.2.2.2.2.2.2.2.2.2.2.2.1), (T_sample, T_plays, T_small, T_large, T_u, T_v, T_left, T_firsts, T_seconds, T_winners), (K_atChanges, K_atMethod, K_seen), (S_length, qR.2.2.2.2.2.2.2.2.2.2.2.2.2.2.2.1, qR.2.2.2.2.2.2.2.2.2.2.2.2.2.2.2.2.1, qR.2.2.2.2.2.2.2.2.2.2.2.2.2.2.2.2.2.1, S_text, qR.2.2.2.2.2.2.2.2.2.2.2.2.2.2.2.2.2.2.1, qR.2.2.2.2.2.2.2.2.2.2.2.2.2.2.2.2.2.2.2.1), (qR.2.2.2.2.2.2.2.2.2.2.2.2.2.2.2.2.2.2.2.2.1, qR.2.2.2.2.2.2.2.2.2.2.2.2.2.2.2.2.2.2.2.2.2), hM)) := by
  refine Sem.mk (lv := [(0, .ref (eA E 0))]) (by decide) (Nat.le_of_ble_eq_true rfl) rfl ?_
  rw [f_X5_says] at hf
  refine r_aload_n dX5_says_0 0 rfl ?_
  refine r_get (v := .ref (eA E 20)) in_X5 0 ga_X rfl 4 (by decide) wd_218 rfl rfl dX5_says_1 ?_
  refine r_aload_n dX5_says_4 0 rfl ?_
  refine r_get (v := .ref (eA E 1)) in_X5 0 ga_X rfl 0 (by decide) wd_214 rfl rfl dX5_says_5 ?_
  refine r_getN (v := .int R_count) in_X3 1 ga_R rfl 1 (by decide) wn_100 rfl rfl dX5_says_8 ?_
  obtain ⟨q1, hq1, hf⟩ := hf_bind hf
  refine r_callVi (As := [.int R_count]) (b := (eA E 20)) (st := []) (s_X4_read hq1) (by decide) (by decide) wd_600 wd_601 wd_602 wd_72 wd_603 hy_X4_read (Rc.obj 20 ga_S rfl) rfl (Nat.le_of_ble_eq_true rfl) dX5_says_11 ?_
  refine r_istore_n (lv2 := [(1, .int q1.1), (0, .ref (eA E 0))]) dX5_says_14 rfl (by decide) rfl ?_
  refine r_iload_n dX5_says_15 0 rfl ?_
  refine r_iconst (v := (-1)) dX5_says_16 (by decide) ?_
  refine r_icmp_eq (tgt := 25) dX5_says_17 (by decide) (fun c2 => ?_) (fun c2 => ?_)
  · have hf := hf_pos c2 hf
    refine r_aload_n dX5_says_25 1 rfl ?_
    refine r_get (v := .ref (eA E 24)) in_X5 0 ga_X rfl 5 (by decide) wd_219 rfl rfl dX5_says_26 ?_
    refine r_iconst (v := 0) dX5_says_29 (by decide) ?_
    refine r_putN in_X2 tyX2_ok nmX2 24 ga_P rfl 1 (by decide) wn_208 rfl rfl pfI (Nat.le_of_ble_eq_true rfl) sa_P_length dX5_says_30 ?_
    refine r_iconst (v := 0) dX5_says_33 (by decide) ?_
    refine r_istore_n (lv2 := [(2, .int 0), (1, .int q1.1), (0, .ref (eA E 0))]) dX5_says_34 rfl (by decide) rfl ?_
    obtain ⟨q8, hq8, hf⟩ := hf_bind hf
    refine (Wa.sub [2, 0] rfl (w_X5_says_35 _ _ _ _ _ _ _ _ _ _ _ _ _ _ _ _ _ _ _ hq8 ?_))
    refine r_aload_n dX5_says_70 0 rfl ?_
    refine r_get (v := .ref (eA E 20)) in_X5 0 ga_X rfl 4 (by decide) wd_218 rfl rfl dX5_says_71 ?_
    refine r_getN (v := .int q1.2.1) in_X4 20 ga_S rfl 4 (by decide) wn_181 rfl rfl dX5_says_74 ?_
    have e9 := Option.some.inj hf
    subst e9
    exact r_iret rfl dX5_says_77
  · have hf := hf_neg c2 hf
    refine r_bipush (v := (-10)) dX5_says_20 (by decide) ?_
    refine r_iload_n dX5_says_22 0 rfl ?_
    refine r_isub dX5_says_23 ?_
    have e9 := Option.some.inj hf
    subst e9
    exact r_iret rfl dX5_says_24
-- DuelSamples.answer
def f_X5_answer (X_refusedBad : Int32) (X_refusedFull : Int32) (P_length : Int32) (P_signs : Nat → Int32) (a0 : Int32) : Option (Int32 × Int32 × Int32) := if (-1) ≤ a0 then if a0 = (-1) then some (P_length, X_refusedBad, X_refusedFull) else if P_length ≤ a0 then some ((-5), X_refusedBad, X_refusedFull) else Option.bind (f_X2_sign P_length P_signs a0) (fun (q4 : Int32) => some (q4, X_refusedBad, X_refusedFull)) else Option.bind (f_X5_refuse X_refusedBad X_refusedFull (-2)) (fun (q5 : Int32 × Int32 × Int32) => some ((-10), q5.2.1, q5.2.2))
theorem hy_X5_answer : yX5_answer.cls ≠ "java/lang/invoke/MethodHandle" ∧ yX5_answer.cls ≠ "java/lang/invoke/VarHandle" ∧ (parseMethodDescriptor yX5_answer.desc).map (fun d => d.parameters.length) = some 1 := by decide +kernel
set_option maxHeartbeats 4000000 in
set_option maxRecDepth 100000 in
theorem s_X5_answer {E : EN} {hM : TM} {X_method : Int32} {X_refusedBad : Int32} {X_refusedFull : Int32} {R_count : Int32} {R_changes : Int32} {R_F : Nat → Nat → Int32} {L_sample : Int32} {L_plays : Int32} {L_small : Int32} {L_large : Int32} {L_u : Int32} {L_v : Int32} {L_left : Nat → Int32} {L_firsts : Nat → Int32} {L_seconds : Nat → Int32} {L_winners : Nat → Int32} {T_sample : Int32} {T_plays : Int32} {T_small : Int32} {T_large : Int32} {T_u : Int32} {T_v : Int32} {T_left : Nat → Int32} {T_firsts : Nat → Int32} {T_seconds : Nat → Int32} {T_winners : Nat → Int32} {K_atChanges : Int32} {K_atMethod : Int32} {K_seen : Nat → Int64} {S_length : Int32} {S_sentences : Int32} {S_at : Int32} {S_units : Int32} {S_text : Nat → Int32} {S_verbs : Nat → Int32} {S_numbers : Nat → Int32} {P_length : Int32} {P_signs : Nat → Int32} {a0 : Int32} {qR : Int32 × Int32 × Int32} (hf : f_X5_answer X_refusedBad X_refusedFull P_length P_signs a0 = some qR) : Sem E yX5_answer cX5_answer 2 (some .int) 2 [.ref (eA E 0), .int a0] ((X_method, X_refusedBad, X_refusedFull), (R_count, R_changes, R_F), (L_sample, L_plays, L_small, L_large, L_u, L_v, L_left, L_firsts, L_seconds, L_winners), (T_sample, T_plays, T_small, T_large, T_u, T_v, T_left, T_firsts, T_seconds, T_winners), (K_atChanges, K_atMethod, K_seen), (S_length, S_sentences, S_at, S_units, S_text, S_verbs, S_numbers), (P_length, P_signs), hM) (some (.int qR.1), ((X_method, qR.2.1, qR.2.2), (R_count, R_changes, R_F), (L_sample, L_plays, L_small, L_large, L_u, L_v, L_left, L_firsts, L_seconds, L_winners), (T_sample, T_plays, T_small, T_large, T_u, T_v, T_left, T_firsts, T_seconds, T_winners), (K_atChanges, K_atMethod, K_seen), (S_length, S_sentences, S_at, S_units, S_text, S_verbs, S_numbers), (P_length, P_signs), hM)) := by
  refine Sem.mk (lv := [(0, .ref (eA E 0)), (1, .int a0)]) (by decide) (Nat.le_of_ble_eq_true rfl) rfl ?_
  rw [f_X5_answer] at hf
  refine r_iload_n dX5_answer_0 1 rfl ?_
  refine r_iconst (v := (-1)) dX5_answer_1 (by decide) ?_
  refine r_icmp_ge (tgt := 15) dX5_answer_2 (by decide) (fun c1 => ?_) (fun c1 => ?_)
  · have hf := hf_pos c1 hf
    refine r_iload_n dX5_answer_15 1 rfl ?_
    refine r_iconst (v := (-1)) dX5_answer_16 (by decide) ?_
    refine r_icmp_ne (tgt := 28) dX5_answer_17 (by decide) (fun c2 => ?_) (fun c2 => ?_)
    · have hf := hf_neg c2 hf
      refine r_iload_n dX5_answer_28 1 rfl ?_
      refine r_aload_n dX5_answer_29 0 rfl ?_
      refine r_get (v := .ref (eA E 24)) in_X5 0 ga_X rfl 5 (by decide) wd_219 rfl rfl dX5_answer_30 ?_
      refine r_getN (v := .int P_length) in_X2 24 ga_P rfl 1 (by decide) wn_208 rfl rfl dX5_answer_33 ?_
      refine r_icmp_ge (tgt := 50) dX5_answer_36 (by decide) (fun c3 => ?_) (fun c3 => ?_)
      · have hf := hf_pos c3 hf
        refine r_bipush (v := (-5)) dX5_answer_50 (by decide) ?_
        have e9 := Option.some.inj hf
        subst e9
        exact r_iret rfl dX5_answer_52
      · have hf := hf_neg c3 hf
        refine r_aload_n dX5_answer_39 0 rfl ?_
        refine r_get (v := .ref (eA E 24)) in_X5 0 ga_X rfl 5 (by decide) wd_219 rfl rfl dX5_answer_40 ?_
        refine r_iload_n dX5_answer_43 1 rfl ?_
        obtain ⟨q4, hq4, hf⟩ := hf_bind hf
        refine r_callVi (As := [.int a0]) (b := (eA E 24)) (st := []) (s_X2_sign hq4) (by decide) (by decide) wd_739 wd_740 wd_741 wd_73 wd_742 hy_X2_sign (Rc.obj 24 ga_P rfl) rfl (Nat.le_of_ble_eq_true rfl) dX5_answer_44 ?_
        refine r_goto (tgt := 52) dX5_answer_47 (by decide) ?_
        have e9 := Option.some.inj hf
        subst e9
        exact r_iret rfl dX5_answer_52
    · have hf := hf_pos c2 hf
      refine r_aload_n dX5_answer_20 0 rfl ?_
      refine r_get (v := .ref (eA E 24)) in_X5 0 ga_X rfl 5 (by decide) wd_219 rfl rfl dX5_answer_21 ?_
      refine r_getN (v := .int P_length) in_X2 24 ga_P rfl 1 (by decide) wn_208 rfl rfl dX5_answer_24 ?_
      have e9 := Option.some.inj hf
      subst e9
      exact r_iret rfl dX5_answer_27
  · have hf := hf_neg c1 hf
    refine r_aload_n dX5_answer_5 0 rfl ?_
    refine r_bipush (v := (-2)) dX5_answer_6 (by decide) ?_
    obtain ⟨q5, hq5, hf⟩ := hf_bind hf
    refine r_callVi (As := [.int (-2)]) (b := (eA E 0)) (st := []) (s_X5_refuse hq5) (by decide) (by decide) wd_251 wd_253 wd_0 wd_68 wd_254 hy_X5_refuse (Rc.obj 0 ga_X rfl) rfl (Nat.le_of_ble_eq_true rfl) dX5_answer_8 ?_
    refine r_pop dX5_answer_11 rfl ?_
    refine r_bipush (v := (-10)) dX5_answer_12 (by decide) ?_
    have e9 := Option.some.inj hf
    subst e9
    exact r_iret rfl dX5_answer_14
-- DuelSamples.state
def f_X5_state (X_method : Int32) (X_refusedBad : Int32) (X_refusedFull : Int32) (R_count : Int32) (S_length : Int32) (P_length : Int32) (a0 : Int32) : Option (Int32) := if a0 = 0 then some X_refusedBad else if a0 = 1 then some 0 else if a0 = 2 then some X_refusedFull else if a0 = 3 then some S_length else if a0 = 4 then some R_count else if a0 = 5 then some X_method else some P_length
theorem hy_X5_state : yX5_state.cls ≠ "java/lang/invoke/MethodHandle" ∧ yX5_state.cls ≠ "java/lang/invoke/VarHandle" ∧ (parseMethodDescriptor yX5_state.desc).map (fun d => d.parameters.length) = some 1 := by decide +kernel
set_option maxHeartbeats 4000000 in
set_option maxRecDepth 100000 in
theorem s_X5_state {E : EN} {hM : TM} {X_method : Int32} {X_refusedBad : Int32} {X_refusedFull : Int32} {R_count : Int32} {R_changes : Int32} {R_F : Nat → Nat → Int32} {L_sample : Int32} {L_plays : Int32} {L_small : Int32} {L_large : Int32} {L_u : Int32} {L_v : Int32} {L_left : Nat → Int32} {L_firsts : Nat → Int32} {L_seconds : Nat → Int32} {L_winners : Nat → Int32} {T_sample : Int32} {T_plays : Int32} {T_small : Int32} {T_large : Int32} {T_u : Int32} {T_v : Int32} {T_left : Nat → Int32} {T_firsts : Nat → Int32} {T_seconds : Nat → Int32} {T_winners : Nat → Int32} {K_atChanges : Int32} {K_atMethod : Int32} {K_seen : Nat → Int64} {S_length : Int32} {S_sentences : Int32} {S_at : Int32} {S_units : Int32} {S_text : Nat → Int32} {S_verbs : Nat → Int32} {S_numbers : Nat → Int32} {P_length : Int32} {P_signs : Nat → Int32} {a0 : Int32} {qR : Int32} (hf : f_X5_state X_method X_refusedBad X_refusedFull R_count S_length P_length a0 = some qR) : Sem E yX5_state cX5_state 2 (some .int) 1 [.ref (eA E 0), .int a0] ((X_method, X_refusedBad, X_refusedFull), (R_count, R_changes, R_F), (L_sample, L_plays, L_small, L_large, L_u, L_v, L_left, L_firsts, L_seconds, L_winners), (T_sample, T_plays, T_small, T_large, T_u, T_v, T_left, T_firsts, T_seconds, T_winners), (K_atChanges, K_atMethod, K_seen), (S_length, S_sentences, S_at, S_units, S_text, S_verbs, S_numbers), (P_length, P_signs), hM) (some (.int qR), ((X_method, X_refusedBad, X_refusedFull), (R_count, R_changes, R_F), (L_sample, L_plays, L_small, L_large, L_u, L_v, L_left, L_firsts, L_seconds, L_winners), (T_sample, T_plays, T_small, T_large, T_u, T_v, T_left, T_firsts, T_seconds, T_winners), (K_atChanges, K_atMethod, K_seen), (S_length, S_sentences, S_at, S_units, S_text, S_verbs, S_numbers), (P_length, P_signs), hM)) := by
  refine Sem.mk (lv := [(0, .ref (eA E 0)), (1, .int a0)]) (by decide) (Nat.le_of_ble_eq_true rfl) rfl ?_
  rw [f_X5_state] at hf
  refine r_iload_n dX5_state_0 1 rfl ?_
  by_cases c1 : a0 = 0
  · have hf := hf_pos c1 hf
    refine r_tswi (off := 39) (tgt := 40) dX5_state_1 c1 (by decide) (by decide) (by decide) (by decide) ?_
    refine r_aload_n dX5_state_40 0 rfl ?_
    refine r_get (v := .int X_refusedBad) in_X5 0 ga_X rfl 7 (by decide) wd_221 rfl rfl dX5_state_41 ?_
    have e9 := Option.some.inj hf
    subst e9
    exact r_iret rfl dX5_state_44
  · have hf := hf_neg c1 hf
    by_cases c2 : a0 = 1
    · have hf := hf_pos c2 hf
      refine r_tswi (off := 44) (tgt := 45) dX5_state_1 c2 (by decide) (by decide) (by decide) (by decide) ?_
      refine r_iconst (v := 0) dX5_state_45 (by decide) ?_
      have e9 := Option.some.inj hf
      subst e9
      exact r_iret rfl dX5_state_46
    · have hf := hf_neg c2 hf
      by_cases c3 : a0 = 2
      · have hf := hf_pos c3 hf
        refine r_tswi (off := 46) (tgt := 47) dX5_state_1 c3 (by decide) (by decide) (by decide) (by decide) ?_
        refine r_aload_n dX5_state_47 0 rfl ?_
        refine r_get (v := .int X_refusedFull) in_X5 0 ga_X rfl 8 (by decide) wd_222 rfl rfl dX5_state_48 ?_
        have e9 := Option.some.inj hf
        subst e9
        exact r_iret rfl dX5_state_51
      · have hf := hf_neg c3 hf
        by_cases c4 : a0 = 3
        · have hf := hf_pos c4 hf
          refine r_tswi (off := 51) (tgt := 52) dX5_state_1 c4 (by decide) (by decide) (by decide) (by decide) ?_
          refine r_aload_n dX5_state_52 0 rfl ?_
          refine r_get (v := .ref (eA E 20)) in_X5 0 ga_X rfl 4 (by decide) wd_218 rfl rfl dX5_state_53 ?_
          refine r_getN (v := .int S_length) in_X4 20 ga_S rfl 3 (by decide) wn_179 rfl rfl dX5_state_56 ?_
          have e9 := Option.some.inj hf
          subst e9
          exact r_iret rfl dX5_state_59
        · have hf := hf_neg c4 hf
          by_cases c5 : a0 = 4
          · have hf := hf_pos c5 hf
            refine r_tswi (off := 59) (tgt := 60) dX5_state_1 c5 (by decide) (by decide) (by decide) (by decide) ?_
            refine r_aload_n dX5_state_60 0 rfl ?_
            refine r_get (v := .ref (eA E 1)) in_X5 0 ga_X rfl 0 (by decide) wd_214 rfl rfl dX5_state_61 ?_
            refine r_getN (v := .int R_count) in_X3 1 ga_R rfl 1 (by decide) wn_100 rfl rfl dX5_state_64 ?_
            have e9 := Option.some.inj hf
            subst e9
            exact r_iret rfl dX5_state_67
          · have hf := hf_neg c5 hf
            by_cases c6 : a0 = 5
            · have hf := hf_pos c6 hf
              refine r_tswi (off := 67) (tgt := 68) dX5_state_1 c6 (by decide) (by decide) (by decide) (by decide) ?_
              refine r_aload_n dX5_state_68 0 rfl ?_
              refine r_get (v := .int X_method) in_X5 0 ga_X rfl 6 (by decide) wd_220 rfl rfl dX5_state_69 ?_
              have e9 := Option.some.inj hf
              subst e9
              exact r_iret rfl dX5_state_72
            · have hf := hf_neg c6 hf
              refine r_tswo (tgt := 73) dX5_state_1 (tsw_out0_5 c1 c2 c3 c4 c5 c6) (by decide) ?_
              refine r_aload_n dX5_state_73 0 rfl ?_
              refine r_get (v := .ref (eA E 24)) in_X5 0 ga_X rfl 5 (by decide) wd_219 rfl rfl dX5_state_74 ?_
              refine r_getN (v := .int P_length) in_X2 24 ga_P rfl 1 (by decide) wn_208 rfl rfl dX5_state_77 ?_
              have e9 := Option.some.inj hf
              subst e9
              exact r_iret rfl dX5_state_80
-- DuelSamples.told
def f_X5_told (X_method : Int32) (X_refusedBad : Int32) (X_refusedFull : Int32) (R_count : Int32) (S_length : Int32) (P_length : Int32) (a0 : Int32) : Option (Int32 × Int32 × Int32) := if a0 < 0 then Option.bind (f_X5_refuse X_refusedBad X_refusedFull (-2)) (fun (q2 : Int32 × Int32 × Int32) => some (q2.1, q2.2.1, q2.2.2)) else if a0 ≤ 6 then Option.bind (f_X5_state X_method X_refusedBad X_refusedFull R_count S_length P_length a0) (fun (q4 : Int32) => some (q4, X_refusedBad, X_refusedFull)) else Option.bind (f_X5_refuse X_refusedBad X_refusedFull (-2)) (fun (q5 : Int32 × Int32 × Int32) => some (q5.1, q5.2.1, q5.2.2))
theorem hy_X5_told : yX5_told.cls ≠ "java/lang/invoke/MethodHandle" ∧ yX5_told.cls ≠ "java/lang/invoke/VarHandle" ∧ (parseMethodDescriptor yX5_told.desc).map (fun d => d.parameters.length) = some 1 := by decide +kernel
set_option maxHeartbeats 4000000 in
set_option maxRecDepth 100000 in
theorem s_X5_told {E : EN} {hM : TM} {X_method : Int32} {X_refusedBad : Int32} {X_refusedFull : Int32} {R_count : Int32} {R_changes : Int32} {R_F : Nat → Nat → Int32} {L_sample : Int32} {L_plays : Int32} {L_small : Int32} {L_large : Int32} {L_u : Int32} {L_v : Int32} {L_left : Nat → Int32} {L_firsts : Nat → Int32} {L_seconds : Nat → Int32} {L_winners : Nat → Int32} {T_sample : Int32} {T_plays : Int32} {T_small : Int32} {T_large : Int32} {T_u : Int32} {T_v : Int32} {T_left : Nat → Int32} {T_firsts : Nat → Int32} {T_seconds : Nat → Int32} {T_winners : Nat → Int32} {K_atChanges : Int32} {K_atMethod : Int32} {K_seen : Nat → Int64} {S_length : Int32} {S_sentences : Int32} {S_at : Int32} {S_units : Int32} {S_text : Nat → Int32} {S_verbs : Nat → Int32} {S_numbers : Nat → Int32} {P_length : Int32} {P_signs : Nat → Int32} {a0 : Int32} {qR : Int32 × Int32 × Int32} (hf : f_X5_told X_method X_refusedBad X_refusedFull R_count S_length P_length a0 = some qR) : Sem E yX5_told cX5_told 2 (some .int) 2 [.ref (eA E 0), .int a0] ((X_method, X_refusedBad, X_refusedFull), (R_count, R_changes, R_F), (L_sample, L_plays, L_small, L_large, L_u, L_v, L_left, L_firsts, L_seconds, L_winners), (T_sample, T_plays, T_small, T_large, T_u, T_v, T_left, T_firsts, T_seconds, T_winners), (K_atChanges, K_atMethod, K_seen), (S_length, S_sentences, S_at, S_units, S_text, S_verbs, S_numbers), (P_length, P_signs), hM) (some (.int qR.1), ((X_method, qR.2.1, qR.2.2), (R_count, R_changes, R_F), (L_sample, L_plays, L_small, L_large, L_u, L_v, L_left, L_firsts, L_seconds, L_winners), (T_sample, T_plays, T_small, T_large, T_u, T_v, T_left, T_firsts, T_seconds, T_winners), (K_atChanges, K_atMethod, K_seen), (S_length, S_sentences, S_at, S_units, S_text, S_verbs, S_numbers), (P_length, P_signs), hM)) := by
  refine Sem.mk (lv := [(0, .ref (eA E 0)), (1, .int a0)]) (by decide) (Nat.le_of_ble_eq_true rfl) rfl ?_
  rw [f_X5_told] at hf
  refine r_iload_n dX5_told_0 1 rfl ?_
  refine r_if_lt (tgt := 10) dX5_told_1 (by decide) (fun c1 => ?_) (fun c1 => ?_)
  · have hf := hf_pos c1 hf
    refine r_aload_n dX5_told_10 0 rfl ?_
    refine r_bipush (v := (-2)) dX5_told_11 (by decide) ?_
    obtain ⟨q2, hq2, hf⟩ := hf_bind hf
    refine r_callVi (As := [.int (-2)]) (b := (eA E 0)) (st := []) (s_X5_refuse hq2) (by decide) (by decide) wd_251 wd_253 wd_0 wd_68 wd_254 hy_X5_refuse (Rc.obj 0 ga_X rfl) rfl (Nat.le_of_ble_eq_true rfl) dX5_told_13 ?_
    have e9 := Option.some.inj hf
    subst e9
    exact r_iret rfl dX5_told_16
  · have hf := hf_neg c1 hf
    refine r_iload_n dX5_told_4 1 rfl ?_
    refine r_bipush (v := 6) dX5_told_5 (by decide) ?_
    refine r_icmp_le (tgt := 17) dX5_told_7 (by decide) (fun c3 => ?_) (fun c3 => ?_)
    · have hf := hf_pos c3 hf
      refine r_aload_n dX5_told_17 0 rfl ?_
      refine r_iload_n dX5_told_18 1 rfl ?_
      obtain ⟨q4, hq4, hf⟩ := hf_bind hf
      refine r_callVi (As := [.int a0]) (b := (eA E 0)) (st := []) (s_X5_state hq4) (by decide) (by decide) wd_747 wd_749 wd_26 wd_68 wd_750 hy_X5_state (Rc.obj 0 ga_X rfl) rfl (Nat.le_of_ble_eq_true rfl) dX5_told_19 ?_
      have e9 := Option.some.inj hf
      subst e9
      exact r_iret rfl dX5_told_22
    · have hf := hf_neg c3 hf
      refine r_aload_n dX5_told_10 0 rfl ?_
      refine r_bipush (v := (-2)) dX5_told_11 (by decide) ?_
      obtain ⟨q5, hq5, hf⟩ := hf_bind hf
      refine r_callVi (As := [.int (-2)]) (b := (eA E 0)) (st := []) (s_X5_refuse hq5) (by decide) (by decide) wd_251 wd_253 wd_0 wd_68 wd_254 hy_X5_refuse (Rc.obj 0 ga_X rfl) rfl (Nat.le_of_ble_eq_true rfl) dX5_told_13 ?_
      have e9 := Option.some.inj hf
      subst e9
      exact r_iret rfl dX5_told_16
-- DuelSamples.digest
def lp_X5_digest_6 (X_method : Int32) (X_refusedBad : Int32) (X_refusedFull : Int32) (R_count : Int32) (S_length : Int32) (P_length : Int32) : Nat → Int64 → Int32 → Option (Int64)
  | 0, _, _ => none
  | n9 + 1, v1_6, v3_6 => if 6 < v3_6 then some v1_6 else Option.bind (f_X5_state X_method X_refusedBad X_refusedFull R_count S_length P_length v3_6) (fun (q2 : Int32) => lp_X5_digest_6 X_method X_refusedBad X_refusedFull R_count S_length P_length n9 ((31 * v1_6) + (Int32.toInt64 q2)) (v3_6 + 1))
def lp_X5_digest_47 (R_count : Int32) (R_F : Nat → Nat → Int32) (L_sample : Int32) (v3_33 : Int32) : Nat → Int64 → Int32 → Option (Int64)
  | 0, _, _ => none
  | n9 + 1, v1_47, v4_47 => if 5 < v4_47 then some v1_47 else Option.bind (f_X5_knownOf R_count R_F L_sample v3_33 v4_47) (fun (q6 : Int32) => lp_X5_digest_47 R_count R_F L_sample v3_33 n9 ((31 * v1_47) + (Int32.toInt64 q6)) (v4_47 + 1))
def lp_X5_digest_33 (R_count : Int32) (R_F : Nat → Nat → Int32) (L_sample : Int32) : Nat → Int64 → Int32 → Option (Int64)
  | 0, _, _ => none
  | n9 + 1, v1_33, v3_33 => if R_count ≤ v3_33 then some v1_33 else Option.bind (lp_X5_digest_47 R_count R_F L_sample v3_33 FU v1_33 0) (fun (q7 : Int64) => lp_X5_digest_33 R_count R_F L_sample n9 q7 (v3_33 + 1))
def lp_X5_digest_82 (L_sample : Int32) (L_plays : Int32) (L_small : Int32) (L_large : Int32) : Nat → Int64 → Int32 → Option (Int64)
  | 0, _, _ => none
  | n9 + 1, v1_82, v3_82 => if 3 < v3_82 then some v1_82 else Option.bind (f_X0_tally L_sample L_plays L_small L_large v3_82) (fun (q10 : Int32) => lp_X5_digest_82 L_sample L_plays L_small L_large n9 ((31 * v1_82) + (Int32.toInt64 q10)) (v3_82 + 1))
def lp_X5_digest_111 (P_length : Int32) (P_signs : Nat → Int32) : Nat → Int64 → Int32 → Option (Int64)
  | 0, _, _ => none
  | n9 + 1, v1_111, v3_111 => if P_length ≤ v3_111 then some v1_111 else Option.bind (f_X2_sign P_length P_signs v3_111) (fun (q13 : Int32) => lp_X5_digest_111 P_length P_signs n9 ((31 * v1_111) + (Int32.toInt64 q13)) (v3_111 + 1))
def f_X5_digest (X_method : Int32) (X_refusedBad : Int32) (X_refusedFull : Int32) (R_count : Int32) (R_F : Nat → Nat → Int32) (L_sample : Int32) (L_plays : Int32) (L_small : Int32) (L_large : Int32) (S_length : Int32) (P_length : Int32) (P_signs : Nat → Int32)  : Option (Int64) := Option.bind (lp_X5_digest_6 X_method X_refusedBad X_refusedFull R_count S_length P_length FU 2029 0) (fun (q3 : Int64) => Option.bind (lp_X5_digest_33 R_count R_F L_sample FU q3 0) (fun (q8 : Int64) => Option.bind (lp_X5_digest_82 L_sample L_plays L_small L_large FU q8 0) (fun (q11 : Int64) => Option.bind (lp_X5_digest_111 P_length P_signs FU q11 0) (fun (q14 : Int64) => some q14))))
theorem hy_X5_digest : yX5_digest.cls ≠ "java/lang/invoke/MethodHandle" ∧ yX5_digest.cls ≠ "java/lang/invoke/VarHandle" ∧ (parseMethodDescriptor yX5_digest.desc).map (fun d => d.parameters.length) = some 0 := by decide +kernel
set_option maxHeartbeats 4000000 in
set_option maxRecDepth 100000 in
theorem w_X5_digest_6 {E : EN} {res : Option Value × Hp} {hM : TM} {X_method : Int32} {X_refusedBad : Int32} {X_refusedFull : Int32} {R_count : Int32} {R_changes : Int32} {R_F : Nat → Nat → Int32} {L_sample : Int32} {L_plays : Int32} {L_small : Int32} {L_large : Int32} {L_u : Int32} {L_v : Int32} {L_left : Nat → Int32} {L_firsts : Nat → Int32} {L_seconds : Nat → Int32} {L_winners : Nat → Int32} {T_sample : Int32} {T_plays : Int32} {T_small : Int32} {T_large : Int32} {T_u : Int32} {T_v : Int32} {T_left : Nat → Int32} {T_firsts : Nat → Int32} {T_seconds : Nat → Int32} {T_winners : Nat → Int32} {K_atChanges : Int32} {K_atMethod : Int32} {K_seen : Nat → Int64} {S_length : Int32} {S_sentences : Int32} {S_at : Int32} {S_units : Int32} {S_text : Nat → Int32} {S_verbs : Nat → Int32} {S_numbers : Nat → Int32} {P_length : Int32} {P_signs : Nat → Int32} : ∀ (n9 : Nat) (v1_6 : Int64) (v3_6 : Int32) (qL : Int64), lp_X5_digest_6 X_method X_refusedBad X_refusedFull R_count S_length P_length n9 v1_6 v3_6 = some qL → (Wa E yX5_digest cX5_digest 5 (some .long) 3 res 31 [(0, .ref (eA E 0)), (1, .long qL)] [] ((X_method, X_refusedBad, X_refusedFull), (R_count, R_changes, R_F), (L_sample, L_plays, L_small, L_large, L_u, L_v, L_left, L_firsts, L_seconds, L_winners), (T_sample, T_plays, T_small, T_large, T_u, T_v, T_left, T_firsts, T_seconds, T_winners), (K_atChanges, K_atMethod, K_seen), (S_length, S_sentences, S_at, S_units, S_text, S_verbs, S_numbers), (P_length, P_signs), hM)) → Wa E yX5_digest cX5_digest 5 (some .long) 3 res 6 [(0, .ref (eA E 0)), (1, .long v1_6), (3, .int v3_6)] [] ((X_method, X_refusedBad, X_refusedFull), (R_count, R_changes, R_F), (L_sample, L_plays, L_small, L_large, L_u, L_v, L_left, L_firsts, L_seconds, L_winners), (T_sample, T_plays, T_small, T_large, T_u, T_v, T_left, T_firsts, T_seconds, T_winners), (K_atChanges, K_atMethod, K_seen), (S_length, S_sentences, S_at, S_units, S_text, S_verbs, S_numbers), (P_length, P_signs), hM) := by
  intro n9
  induction n9 with
  | zero =>
    intro v1_6 v3_6 qL hf
    exact nomatch (show (none : Option (Int64)) = some qL from hf)
  | succ n9 ih =>
    intro v1_6 v3_6 qL hf kx0
    rw [lp_X5_digest_6] at hf
    refine r_iload_n dX5_digest_6 2 rfl ?_
    refine r_bipush (v := 6) dX5_digest_7 (by decide) ?_
    refine r_icmp_gt (tgt := 31) dX5_digest_9 (by decide) (fun c1 => ?_) (fun c1 => ?_)
    · have hf := hf_pos c1 hf
      have e9 := Option.some.inj hf
      subst e9
      exact (Wa.sub [0, 1] rfl kx0)
    · have hf := hf_neg c1 hf
      refine r_ldc2 (v := 31) wd_756 dX5_digest_12 ?_
      refine r_lload_n dX5_digest_15 1 rfl ?_
      refine r_lmul dX5_digest_16 ?_
      refine r_aload_n dX5_digest_17 0 rfl ?_
      refine r_iload_n dX5_digest_18 2 rfl ?_
      obtain ⟨q2, hq2, hf⟩ := hf_bind hf
      refine r_callVi (As := [.int v3_6]) (b := (eA E 0)) (st := [.long (31 * v1_6)]) (s_X5_state hq2) (by decide) (by decide) wd_747 wd_749 wd_26 wd_68 wd_750 hy_X5_state (Rc.obj 0 ga_X rfl) rfl (Nat.le_of_ble_eq_true rfl) dX5_digest_19 ?_
      refine r_i2l dX5_digest_22 ?_
      refine r_ladd dX5_digest_23 ?_
      refine r_lstore_n (lv2 := [(1, .long ((31 * v1_6) + (Int32.toInt64 q2))), (0, .ref (eA E 0)), (3, .int v3_6)]) dX5_digest_24 rfl (by decide) rfl ?_
      refine r_iinc (v := (v3_6 + 1)) (lv2 := [(3, .int (v3_6 + 1)), (1, .long ((31 * v1_6) + (Int32.toInt64 q2))), (0, .ref (eA E 0))]) dX5_digest_25 2 rfl rfl (by decide) rfl ?_
      refine r_goto (tgt := 6) dX5_digest_28 (by decide) ?_
      exact (Wa.sub [2, 1, 0] rfl (ih _ _ _ hf kx0))
set_option maxHeartbeats 4000000 in
set_option maxRecDepth 100000 in
theorem w_X5_digest_47 {E : EN} {res : Option Value × Hp} {hM : TM} {v3_33 : Int32} {X_method : Int32} {X_refusedBad : Int32} {X_refusedFull : Int32} {R_count : Int32} {R_changes : Int32} {R_F : Nat → Nat → Int32} {L_sample : Int32} {L_plays : Int32} {L_small : Int32} {L_large : Int32} {L_u : Int32} {L_v : Int32} {L_left : Nat → Int32} {L_firsts : Nat → Int32} {L_seconds : Nat → Int32} {L_winners : Nat → Int32} {T_sample : Int32} {T_plays : Int32} {T_small : Int32} {T_large : Int32} {T_u : Int32} {T_v : Int32} {T_left : Nat → Int32} {T_firsts : Nat → Int32} {T_seconds : Nat → Int32} {T_winners : Nat → Int32} {K_atChanges : Int32} {K_atMethod : Int32} {K_seen : Nat → Int64} {S_length : Int32} {S_sentences : Int32} {S_at : Int32} {S_units : Int32} {S_text : Nat → Int32} {S_verbs : Nat → Int32} {S_numbers : Nat → Int32} {P_length : Int32} {P_signs : Nat → Int32} : ∀ (n9 : Nat) (v1_47 : Int64) (v4_47 : Int32) (qL : Int64), lp_X5_digest_47 R_count R_F L_sample v3_33 n9 v1_47 v4_47 = some qL → (Wa E yX5_digest cX5_digest 5 (some .long) 3 res 74 [(0, .ref (eA E 0)), (1, .long qL), (3, .int v3_33)] [] ((X_method, X_refusedBad, X_refusedFull), (R_count, R_changes, R_F), (L_sample, L_plays, L_small, L_large, L_u, L_v, L_left, L_firsts, L_seconds, L_winners), (T_sample, T_plays, T_small, T_large, T_u, T_v, T_left, T_firsts, T_seconds, T_winners), (K_atChanges, K_atMethod, K_seen), (S_length, S_sentences, S_at, S_units, S_text, S_verbs, S_numbers), (P_length, P_signs), hM)) → Wa E yX5_digest cX5_digest 5 (some .long) 3 res 47 [(0, .ref (eA E 0)), (1, .long v1_47), (3, .int v3_33), (4, .int v4_47)] [] ((X_method, X_refusedBad, X_refusedFull), (R_count, R_changes, R_F), (L_sample, L_plays, L_small, L_large, L_u, L_v, L_left, L_firsts, L_seconds, L_winners), (T_sample, T_plays, T_small, T_large, T_u, T_v, T_left, T_firsts, T_seconds, T_winners), (K_atChanges, K_atMethod, K_seen), (S_length, S_sentences, S_at, S_units, S_text, S_verbs, S_numbers), (P_length, P_signs), hM) := by
  intro n9
  induction n9 with
  | zero =>
    intro v1_47 v4_47 qL hf
    exact nomatch (show (none : Option (Int64)) = some qL from hf)
  | succ n9 ih =>
    intro v1_47 v4_47 qL hf kx0
    rw [lp_X5_digest_47] at hf
    refine r_iload dX5_digest_47 3 rfl ?_
    refine r_iconst (v := 5) dX5_digest_49 (by decide) ?_
    refine r_icmp_gt (tgt := 74) dX5_digest_50 (by decide) (fun c5 => ?_) (fun c5 => ?_)
    · have hf := hf_pos c5 hf
      have e9 := Option.some.inj hf
      subst e9
      exact (Wa.sub [0, 1, 2] rfl kx0)
    · have hf := hf_neg c5 hf
      refine r_ldc2 (v := 31) wd_756 dX5_digest_53 ?_
      refine r_lload_n dX5_digest_56 1 rfl ?_
      refine r_lmul dX5_digest_57 ?_
      refine r_aload_n dX5_digest_58 0 rfl ?_
      refine r_iload_n dX5_digest_59 2 rfl ?_
      refine r_iload dX5_digest_60 3 rfl ?_
      obtain ⟨q6, hq6, hf⟩ := hf_bind hf
      refine r_callVi (As := [.int v3_33, .int v4_47]) (b := (eA E 0)) (st := [.long (31 * v1_47)]) (s_X5_knownOf hq6) (by decide) (by decide) wd_318 wd_320 wd_1 wd_68 wd_321 hy_X5_knownOf (Rc.obj 0 ga_X rfl) rfl (Nat.le_of_ble_eq_true rfl) dX5_digest_62 ?_
      refine r_i2l dX5_digest_65 ?_
      refine r_ladd dX5_digest_66 ?_
      refine r_lstore_n (lv2 := [(1, .long ((31 * v1_47) + (Int32.toInt64 q6))), (0, .ref (eA E 0)), (3, .int v3_33), (4, .int v4_47)]) dX5_digest_67 rfl (by decide) rfl ?_
      refine r_iinc (v := (v4_47 + 1)) (lv2 := [(4, .int (v4_47 + 1)), (1, .long ((31 * v1_47) + (Int32.toInt64 q6))), (0, .ref (eA E 0)), (3, .int v3_33)]) dX5_digest_68 3 rfl rfl (by decide) rfl ?_
      refine r_goto (tgt := 47) dX5_digest_71 (by decide) ?_
      exact (Wa.sub [2, 1, 3, 0] rfl (ih _ _ _ hf kx0))
set_option maxHeartbeats 4000000 in
set_option maxRecDepth 100000 in
theorem w_X5_digest_33 {E : EN} {res : Option Value × Hp} {hM : TM} {X_method : Int32} {X_refusedBad : Int32} {X_refusedFull : Int32} {R_count : Int32} {R_changes : Int32} {R_F : Nat → Nat → Int32} {L_sample : Int32} {L_plays : Int32} {L_small : Int32} {L_large : Int32} {L_u : Int32} {L_v : Int32} {L_left : Nat → Int32} {L_firsts : Nat → Int32} {L_seconds : Nat → Int32} {L_winners : Nat → Int32} {T_sample : Int32} {T_plays : Int32} {T_small : Int32} {T_large : Int32} {T_u : Int32} {T_v : Int32} {T_left : Nat → Int32} {T_firsts : Nat → Int32} {T_seconds : Nat → Int32} {T_winners : Nat → Int32} {K_atChanges : Int32} {K_atMethod : Int32} {K_seen : Nat → Int64} {S_length : Int32} {S_sentences : Int32} {S_at : Int32} {S_units : Int32} {S_text : Nat → Int32} {S_verbs : Nat → Int32} {S_numbers : Nat → Int32} {P_length : Int32} {P_signs : Nat → Int32} : ∀ (n9 : Nat) (v1_33 : Int64) (v3_33 : Int32) (qL : Int64), lp_X5_digest_33 R_count R_F L_sample n9 v1_33 v3_33 = some qL → (Wa E yX5_digest cX5_digest 5 (some .long) 3 res 80 [(0, .ref (eA E 0)), (1, .long qL)] [] ((X_method, X_refusedBad, X_refusedFull), (R_count, R_changes, R_F), (L_sample, L_plays, L_small, L_large, L_u, L_v, L_left, L_firsts, L_seconds, L_winners), (T_sample, T_plays, T_small, T_large, T_u, T_v, T_left, T_firsts, T_seconds, T_winners), (K_atChanges, K_atMethod, K_seen), (S_length, S_sentences, S_at, S_units, S_text, S_verbs, S_numbers), (P_length, P_signs), hM)) → Wa E yX5_digest cX5_digest 5 (some .long) 3 res 33 [(0, .ref (eA E 0)), (1, .long v1_33), (3, .int v3_33)] [] ((X_method, X_refusedBad, X_refusedFull), (R_count, R_changes, R_F), (L_sample, L_plays, L_small, L_large, L_u, L_v, L_left, L_firsts, L_seconds, L_winners), (T_sample, T_plays, T_small, T_large, T_u, T_v, T_left, T_firsts, T_seconds, T_winners), (K_atChanges, K_atMethod, K_seen), (S_length, S_sentences, S_at, S_units, S_text, S_verbs, S_numbers), (P_length, P_signs), hM) := by
  intro n9
  induction n9 with
  | zero =>
    intro v1_33 v3_33 qL hf
    exact nomatch (show (none : Option (Int64)) = some qL from hf)
  | succ n9 ih =>
    intro v1_33 v3_33 qL hf kx0
    rw [lp_X5_digest_33] at hf
    refine r_iload_n dX5_digest_33 2 rfl ?_
    refine r_aload_n dX5_digest_34 0 rfl ?_
    refine r_get (v := .ref (eA E 1)) in_X5 0 ga_X rfl 0 (by decide) wd_214 rfl rfl dX5_digest_35 ?_
    refine r_getN (v := .int R_count) in_X3 1 ga_R rfl 1 (by decide) wn_100 rfl rfl dX5_digest_38 ?_
    refine r_icmp_ge (tgt := 80) dX5_digest_41 (by decide) (fun c4 => ?_) (fun c4 => ?_)
    · have hf := hf_pos c4 hf
      have e9 := Option.some.inj hf
      subst e9
      exact (Wa.sub [0, 1] rfl kx0)
    · have hf := hf_neg c4 hf
      refine r_iconst (v := 0) dX5_digest_44 (by decide) ?_
      refine r_istore (lv2 := [(4, .int 0), (0, .ref (eA E 0)), (1, .long v1_33), (3, .int v3_33)]) dX5_digest_45 (by decide) rfl ?_
      obtain ⟨q7, hq7, hf⟩ := hf_bind hf
      refine (Wa.sub [1, 2, 3, 0] rfl (w_X5_digest_47 _ _ _ _ hq7 ?_))
      refine r_iinc (v := (v3_33 + 1)) (lv2 := [(3, .int (v3_33 + 1)), (0, .ref (eA E 0)), (1, .long q7)]) dX5_digest_74 2 rfl rfl (by decide) rfl ?_
      refine r_goto (tgt := 33) dX5_digest_77 (by decide) ?_
      exact (Wa.sub [1, 2, 0] rfl (ih _ _ _ hf kx0))
set_option maxHeartbeats 4000000 in
set_option maxRecDepth 100000 in
theorem w_X5_digest_82 {E : EN} {res : Option Value × Hp} {hM : TM} {X_method : Int32} {X_refusedBad : Int32} {X_refusedFull : Int32} {R_count : Int32} {R_changes : Int32} {R_F : Nat → Nat → Int32} {L_sample : Int32} {L_plays : Int32} {L_small : Int32} {L_large : Int32} {L_u : Int32} {L_v : Int32} {L_left : Nat → Int32} {L_firsts : Nat → Int32} {L_seconds : Nat → Int32} {L_winners : Nat → Int32} {T_sample : Int32} {T_plays : Int32} {T_small : Int32} {T_large : Int32} {T_u : Int32} {T_v : Int32} {T_left : Nat → Int32} {T_firsts : Nat → Int32} {T_seconds : Nat → Int32} {T_winners : Nat → Int32} {K_atChanges : Int32} {K_atMethod : Int32} {K_seen : Nat → Int64} {S_length : Int32} {S_sentences : Int32} {S_at : Int32} {S_units : Int32} {S_text : Nat → Int32} {S_verbs : Nat → Int32} {S_numbers : Nat → Int32} {P_length : Int32} {P_signs : Nat → Int32} : ∀ (n9 : Nat) (v1_82 : Int64) (v3_82 : Int32) (qL : Int64), lp_X5_digest_82 L_sample L_plays L_small L_large n9 v1_82 v3_82 = some qL → (Wa E yX5_digest cX5_digest 5 (some .long) 3 res 109 [(0, .ref (eA E 0)), (1, .long qL)] [] ((X_method, X_refusedBad, X_refusedFull), (R_count, R_changes, R_F), (L_sample, L_plays, L_small, L_large, L_u, L_v, L_left, L_firsts, L_seconds, L_winners), (T_sample, T_plays, T_small, T_large, T_u, T_v, T_left, T_firsts, T_seconds, T_winners), (K_atChanges, K_atMethod, K_seen), (S_length, S_sentences, S_at, S_units, S_text, S_verbs, S_numbers), (P_length, P_signs), hM)) → Wa E yX5_digest cX5_digest 5 (some .long) 3 res 82 [(0, .ref (eA E 0)), (1, .long v1_82), (3, .int v3_82)] [] ((X_method, X_refusedBad, X_refusedFull), (R_count, R_changes, R_F), (L_sample, L_plays, L_small, L_large, L_u, L_v, L_left, L_firsts, L_seconds, L_winners), (T_sample, T_plays, T_small, T_large, T_u, T_v, T_left, T_firsts, T_seconds, T_winners), (K_atChanges, K_atMethod, K_seen), (S_length, S_sentences, S_at, S_units, S_text, S_verbs, S_numbers), (P_length, P_signs), hM) := by
  intro n9
  induction n9 with
  | zero =>
    intro v1_82 v3_82 qL hf
    exact nomatch (show (none : Option (Int64)) = some qL from hf)
  | succ n9 ih =>
    intro v1_82 v3_82 qL hf kx0
    rw [lp_X5_digest_82] at hf
    refine r_iload_n dX5_digest_82 2 rfl ?_
    refine r_iconst (v := 3) dX5_digest_83 (by decide) ?_
    refine r_icmp_gt (tgt := 109) dX5_digest_84 (by decide) (fun c9 => ?_) (fun c9 => ?_)
    · have hf := hf_pos c9 hf
      have e9 := Option.some.inj hf
      subst e9
      exact (Wa.sub [0, 1] rfl kx0)
    · have hf := hf_neg c9 hf
      refine r_ldc2 (v := 31) wd_756 dX5_digest_87 ?_
      refine r_lload_n dX5_digest_90 1 rfl ?_
      refine r_lmul dX5_digest_91 ?_
      refine r_aload_n dX5_digest_92 0 rfl ?_
      refine r_get (v := .ref (eA E 8)) in_X5 0 ga_X rfl 1 (by decide) wd_215 rfl rfl dX5_digest_93 ?_
      refine r_iload_n dX5_digest_96 2 rfl ?_
      obtain ⟨q10, hq10, hf⟩ := hf_bind hf
      refine r_callVi (As := [.int v3_82]) (b := (eA E 8)) (st := [.long (31 * v1_82)]) (s_X0_tally_L hq10) (by decide) (by decide) wd_443 wd_444 wd_445 wd_70 wd_446 hy_X0_tally (Rc.obj 8 ga_L rfl) rfl (Nat.le_of_ble_eq_true rfl) dX5_digest_97 ?_
      refine r_i2l dX5_digest_100 ?_
      refine r_ladd dX5_digest_101 ?_
      refine r_lstore_n (lv2 := [(1, .long ((31 * v1_82) + (Int32.toInt64 q10))), (0, .ref (eA E 0)), (3, .int v3_82)]) dX5_digest_102 rfl (by decide) rfl ?_
      refine r_iinc (v := (v3_82 + 1)) (lv2 := [(3, .int (v3_82 + 1)), (1, .long ((31 * v1_82) + (Int32.toInt64 q10))), (0, .ref (eA E 0))]) dX5_digest_103 2 rfl rfl (by decide) rfl ?_
      refine r_goto (tgt := 82) dX5_digest_106 (by decide) ?_
      exact (Wa.sub [2, 1, 0] rfl (ih _ _ _ hf kx0))
set_option maxHeartbeats 4000000 in
set_option maxRecDepth 100000 in
theorem w_X5_digest_111 {E : EN} {res : Option Value × Hp} {hM : TM} {X_method : Int32} {X_refusedBad : Int32} {X_refusedFull : Int32} {R_count : Int32} {R_changes : Int32} {R_F : Nat → Nat → Int32} {L_sample : Int32} {L_plays : Int32} {L_small : Int32} {L_large : Int32} {L_u : Int32} {L_v : Int32} {L_left : Nat → Int32} {L_firsts : Nat → Int32} {L_seconds : Nat → Int32} {L_winners : Nat → Int32} {T_sample : Int32} {T_plays : Int32} {T_small : Int32} {T_large : Int32} {T_u : Int32} {T_v : Int32} {T_left : Nat → Int32} {T_firsts : Nat → Int32} {T_seconds : Nat → Int32} {T_winners : Nat → Int32} {K_atChanges : Int32} {K_atMethod : Int32} {K_seen : Nat → Int64} {S_length : Int32} {S_sentences : Int32} {S_at : Int32} {S_units : Int32} {S_text : Nat → Int32} {S_verbs : Nat → Int32} {S_numbers : Nat → Int32} {P_length : Int32} {P_signs : Nat → Int32} : ∀ (n9 : Nat) (v1_111 : Int64) (v3_111 : Int32) (qL : Int64), lp_X5_digest_111 P_length P_signs n9 v1_111 v3_111 = some qL → (Wa E yX5_digest cX5_digest 5 (some .long) 3 res 144 [(1, .long qL)] [] ((X_method, X_refusedBad, X_refusedFull), (R_count, R_changes, R_F), (L_sample, L_plays, L_small, L_large, L_u, L_v, L_left, L_firsts, L_seconds, L_winners), (T_sample, T_plays, T_small, T_large, T_u, T_v, T_left, T_firsts, T_seconds, T_winners), (K_atChanges, K_atMethod, K_seen), (S_length, S_sentences, S_at, S_units, S_text, S_verbs, S_numbers), (P_length, P_signs), hM)) → Wa E yX5_digest cX5_digest 5 (some .long) 3 res 111 [(0, .ref (eA E 0)), (1, .long v1_111), (3, .int v3_111)] [] ((X_method, X_refusedBad, X_refusedFull), (R_count, R_changes, R_F), (L_sample, L_plays, L_small, L_large, L_u, L_v, L_left, L_firsts, L_seconds, L_winners), (T_sample, T_plays, T_small, T_large, T_u, T_v, T_left, T_firsts, T_seconds, T_winners), (K_atChanges, K_atMethod, K_seen), (S_length, S_sentences, S_at, S_units, S_text, S_verbs, S_numbers), (P_length, P_signs), hM) := by
  intro n9
  induction n9 with
  | zero =>
    intro v1_111 v3_111 qL hf
    exact nomatch (show (none : Option (Int64)) = some qL from hf)
  | succ n9 ih =>
    intro v1_111 v3_111 qL hf kx0
    rw [lp_X5_digest_111] at hf
    refine r_iload_n dX5_digest_111 2 rfl ?_
    refine r_aload_n dX5_digest_112 0 rfl ?_
    refine r_get (v := .ref (eA E 24)) in_X5 0 ga_X rfl 5 (by decide) wd_219 rfl rfl dX5_digest_113 ?_
    refine r_getN (v := .int P_length) in_X2 24 ga_P rfl 1 (by decide) wn_208 rfl rfl dX5_digest_116 ?_
    refine r_icmp_ge (tgt := 144) dX5_digest_119 (by decide) (fun c12 => ?_) (fun c12 => ?_)
    · have hf := hf_pos c12 hf
      have e9 := Option.some.inj hf
      subst e9
      exact (Wa.sub [1] rfl kx0)
    · have hf := hf_neg c12 hf
      refine r_ldc2 (v := 31) wd_756 dX5_digest_122 ?_
      refine r_lload_n dX5_digest_125 1 rfl ?_
      refine r_lmul dX5_digest_126 ?_
      refine r_aload_n dX5_digest_127 0 rfl ?_
      refine r_get (v := .ref (eA E 24)) in_X5 0 ga_X rfl 5 (by decide) wd_219 rfl rfl dX5_digest_128 ?_
      refine r_iload_n dX5_digest_131 2 rfl ?_
      obtain ⟨q13, hq13, hf⟩ := hf_bind hf
      refine r_callVi (As := [.int v3_111]) (b := (eA E 24)) (st := [.long (31 * v1_111)]) (s_X2_sign hq13) (by decide) (by decide) wd_739 wd_740 wd_741 wd_73 wd_742 hy_X2_sign (Rc.obj 24 ga_P rfl) rfl (Nat.le_of_ble_eq_true rfl) dX5_digest_132 ?_
      refine r_i2l dX5_digest_135 ?_
      refine r_ladd dX5_digest_136 ?_
      refine r_lstore_n (lv2 := [(1, .long ((31 * v1_111) + (Int32.toInt64 q13))), (0, .ref (eA E 0)), (3, .int v3_111)]) dX5_digest_137 rfl (by decide) rfl ?_
      refine r_iinc (v := (v3_111 + 1)) (lv2 := [(3, .int (v3_111 + 1)), (1, .long ((31 * v1_111) + (Int32.toInt64 q13))), (0, .ref (eA E 0))]) dX5_digest_138 2 rfl rfl (by decide) rfl ?_
      refine r_goto (tgt := 111) dX5_digest_141 (by decide) ?_
      exact (Wa.sub [2, 1, 0] rfl (ih _ _ _ hf kx0))
set_option maxHeartbeats 4000000 in
set_option maxRecDepth 100000 in
theorem s_X5_digest {E : EN} {hM : TM} {X_method : Int32} {X_refusedBad : Int32} {X_refusedFull : Int32} {R_count : Int32} {R_changes : Int32} {R_F : Nat → Nat → Int32} {L_sample : Int32} {L_plays : Int32} {L_small : Int32} {L_large : Int32} {L_u : Int32} {L_v : Int32} {L_left : Nat → Int32} {L_firsts : Nat → Int32} {L_seconds : Nat → Int32} {L_winners : Nat → Int32} {T_sample : Int32} {T_plays : Int32} {T_small : Int32} {T_large : Int32} {T_u : Int32} {T_v : Int32} {T_left : Nat → Int32} {T_firsts : Nat → Int32} {T_seconds : Nat → Int32} {T_winners : Nat → Int32} {K_atChanges : Int32} {K_atMethod : Int32} {K_seen : Nat → Int64} {S_length : Int32} {S_sentences : Int32} {S_at : Int32} {S_units : Int32} {S_text : Nat → Int32} {S_verbs : Nat → Int32} {S_numbers : Nat → Int32} {P_length : Int32} {P_signs : Nat → Int32}  {qR : Int64} (hf : f_X5_digest X_method X_refusedBad X_refusedFull R_count R_F L_sample L_plays L_small L_large S_length P_length P_signs = some qR) : Sem E yX5_digest cX5_digest 5 (some .long) 3 [.ref (eA E 0)] ((X_method, X_refusedBad, X_refusedFull), (R_count, R_changes, R_F), (L_sample, L_plays, L_small, L_large, L_u, L_v, L_left, L_firsts, L_seconds, L_winners), (T_sample, T_plays, T_small, T_large, T_u, T_v, T_left, T_firsts, T_seconds, T_winners), (K_atChanges, K_atMethod, K_seen), (S_length, S_sentences, S_at, S_units, S_text, S_verbs, S_numbers), (P_length, P_signs), hM) (some (.long qR), ((X_method, X_refusedBad, X_refusedFull), (R_count, R_changes, R_F), (L_sample, L_plays, L_small, L_large, L_u, L_v, L_left, L_firsts, L_seconds, L_winners), (T_sample, T_plays, T_small, T_large, T_u, T_v, T_left, T_firsts, T_seconds, T_winners), (K_atChanges, K_atMethod, K_seen), (S_length, S_sentences, S_at, S_units, S_text, S_verbs, S_numbers), (P_length, P_signs), hM)) := by
  refine Sem.mk (lv := [(0, .ref (eA E 0))]) (by decide) (Nat.le_of_ble_eq_true rfl) rfl ?_
  rw [f_X5_digest] at hf
  refine r_ldc2 (v := 2029) wd_755 dX5_digest_0 ?_
  refine r_lstore_n (lv2 := [(1, .long 2029), (0, .ref (eA E 0))]) dX5_digest_3 rfl (by decide) rfl ?_
  refine r_iconst (v := 0) dX5_digest_4 (by decide) ?_
  refine r_istore_n (lv2 := [(3, .int 0), (1, .long 2029), (0, .ref (eA E 0))]) dX5_digest_5 rfl (by decide) rfl ?_
  obtain ⟨q3, hq3, hf⟩ := hf_bind hf
  refine (Wa.sub [2, 1, 0] rfl (w_X5_digest_6 _ _ _ _ hq3 ?_))
  refine r_iconst (v := 0) dX5_digest_31 (by decide) ?_
  refine r_istore_n (lv2 := [(3, .int 0), (0, .ref (eA E 0)), (1, .long q3)]) dX5_digest_32 rfl (by decide) rfl ?_
  obtain ⟨q8, hq8, hf⟩ := hf_bind hf
  refine (Wa.sub [1, 2, 0] rfl (w_X5_digest_33 _ _ _ _ hq8 ?_))
  refine r_iconst (v := 0) dX5_digest_80 (by decide) ?_
  refine r_istore_n (lv2 := [(3, .int 0), (0, .ref (eA E 0)), (1, .long q8)]) dX5_digest_81 rfl (by decide) rfl ?_
  obtain ⟨q11, hq11, hf⟩ := hf_bind hf
  refine (Wa.sub [1, 2, 0] rfl (w_X5_digest_82 _ _ _ _ hq11 ?_))
  refine r_iconst (v := 0) dX5_digest_109 (by decide) ?_
  refine r_istore_n (lv2 := [(3, .int 0), (0, .ref (eA E 0)), (1, .long q11)]) dX5_digest_110 rfl (by decide) rfl ?_
  obtain ⟨q14, hq14, hf⟩ := hf_bind hf
  refine (Wa.sub [1, 2, 0] rfl (w_X5_digest_111 _ _ _ _ hq14 ?_))
  refine r_lload_n dX5_digest_144 0 rfl ?_
  have e9 := Option.some.inj hf
  subst e9
  exact r_lret rfl dX5_digest_145
