-- DuelSamplesModel.mostOf
def f_X6_mostOf  (a0 : Int32) : Option (Int32) := if a0 = 0 then some 12 else if a0 = 2 then some 3 else some 99
theorem hy_X6_mostOf : yX6_mostOf.cls ≠ "java/lang/invoke/MethodHandle" ∧ yX6_mostOf.cls ≠ "java/lang/invoke/VarHandle" ∧ (parseMethodDescriptor yX6_mostOf.desc).map (fun d => d.parameters.length) = some 1 := by decide +kernel
set_option maxHeartbeats 4000000 in
set_option maxRecDepth 100000 in
theorem s_X6_mostOf {E : EN} {hX : TX} {hR : TR} {hL : TC} {hT : TC} {hK : TK} {hS : TS} {hP : TP} {hM : TM}  {a0 : Int32} {qR : Int32} (hf : f_X6_mostOf a0 = some qR) : Sem E yX6_mostOf cX6_mostOf 1 (some .int) 1 [.int a0] (hX, hR, hL, hT, hK, hS, hP, hM) (some (.int qR), (hX, hR, hL, hT, hK, hS, hP, hM)) := by
  refine Sem.mk (lv := [(0, .int a0)]) (by decide) (Nat.le_of_ble_eq_true rfl) rfl ?_
  rw [f_X6_mostOf] at hf
  refine r_iload_n dX6_mostOf_0 0 rfl ?_
  refine r_if_ne (tgt := 9) dX6_mostOf_1 (by decide) (fun c1 => ?_) (fun c1 => ?_)
  · have hf := hf_neg c1 hf
    refine r_iload_n dX6_mostOf_9 0 rfl ?_
    refine r_iconst (v := 2) dX6_mostOf_10 (by decide) ?_
    refine r_icmp_ne (tgt := 18) dX6_mostOf_11 (by decide) (fun c2 => ?_) (fun c2 => ?_)
    · have hf := hf_neg c2 hf
      refine r_bipush (v := 99) dX6_mostOf_18 (by decide) ?_
      have e9 := Option.some.inj hf
      subst e9
      exact r_iret rfl dX6_mostOf_20
    · have hf := hf_pos c2 hf
      refine r_iconst (v := 3) dX6_mostOf_14 (by decide) ?_
      refine r_goto (tgt := 20) dX6_mostOf_15 (by decide) ?_
      have e9 := Option.some.inj hf
      subst e9
      exact r_iret rfl dX6_mostOf_20
  · have hf := hf_pos c1 hf
    refine r_bipush (v := 12) dX6_mostOf_4 (by decide) ?_
    refine r_goto (tgt := 20) dX6_mostOf_6 (by decide) ?_
    have e9 := Option.some.inj hf
    subst e9
    exact r_iret rfl dX6_mostOf_20
-- DuelSamplesModel.in
def f_X6_in  (a0 : Int64) (a1 : Int64) (a2 : Int64) : Option (Int32) := if (lg_cmp a0 a1) < 0 then some 0 else if 0 < (lg_cmp a0 a2) then some 0 else some 1
theorem hy_X6_in : yX6_in.cls ≠ "java/lang/invoke/MethodHandle" ∧ yX6_in.cls ≠ "java/lang/invoke/VarHandle" ∧ (parseMethodDescriptor yX6_in.desc).map (fun d => d.parameters.length) = some 3 := by decide +kernel
theorem X6_in_01 {a0 : Int64} {a1 : Int64} {a2 : Int64} {qR : Int32} (hf : f_X6_in a0 a1 a2 = some qR) : qR = 0 ∨ qR = 1 := by
  rw [f_X6_in] at hf
  (repeat' split at hf) <;> first | (have e9 := Option.some.inj hf; subst e9; simp; done) | (cases hf; done)
set_option maxHeartbeats 4000000 in
set_option maxRecDepth 100000 in
theorem s_X6_in {E : EN} {hX : TX} {hR : TR} {hL : TC} {hT : TC} {hK : TK} {hS : TS} {hP : TP} {hM : TM}  {a0 : Int64} {a1 : Int64} {a2 : Int64} {qR : Int32} (hf : f_X6_in a0 a1 a2 = some qR) : Sem E yX6_in cX6_in 6 (some .boolean) 1 [.long a0, .long a1, .long a2] (hX, hR, hL, hT, hK, hS, hP, hM) (some (.int qR), (hX, hR, hL, hT, hK, hS, hP, hM)) := by
  refine Sem.mk (lv := [(0, .long a0), (2, .long a1), (4, .long a2)]) (by decide) (Nat.le_of_ble_eq_true rfl) rfl ?_
  rw [f_X6_in] at hf
  refine r_lload_n dX6_in_0 0 rfl ?_
  refine r_lload_n dX6_in_1 1 rfl ?_
  refine r_lcmp dX6_in_2 ?_
  refine r_if_lt (tgt := 17) dX6_in_3 (by decide) (fun c1 => ?_) (fun c1 => ?_)
  · have hf := hf_pos c1 hf
    refine r_iconst (v := 0) dX6_in_17 (by decide) ?_
    have e9 := Option.some.inj hf
    subst e9
    exact r_zret rfl (narB (Or.inl rfl)) dX6_in_18
  · have hf := hf_neg c1 hf
    refine r_lload_n dX6_in_6 0 rfl ?_
    refine r_lload dX6_in_7 2 rfl ?_
    refine r_lcmp dX6_in_9 ?_
    refine r_if_gt (tgt := 17) dX6_in_10 (by decide) (fun c2 => ?_) (fun c2 => ?_)
    · have hf := hf_pos c2 hf
      refine r_iconst (v := 0) dX6_in_17 (by decide) ?_
      have e9 := Option.some.inj hf
      subst e9
      exact r_zret rfl (narB (Or.inl rfl)) dX6_in_18
    · have hf := hf_neg c2 hf
      refine r_iconst (v := 1) dX6_in_13 (by decide) ?_
      refine r_goto (tgt := 18) dX6_in_14 (by decide) ?_
      have e9 := Option.some.inj hf
      subst e9
      exact r_zret rfl (narB (Or.inr rfl)) dX6_in_18
-- DuelSamplesModel.bad
def f_X6_bad (M_refused : Nat → Int32) (a0 : Int32) : Option (Int32 × (Nat → Int32)) := if inB 0 3 then if inB 0 3 then some (a0, (upd M_refused (Int32.toNatClampNeg 0) ((M_refused (Int32.toNatClampNeg 0)) + 1))) else none else none
theorem hy_X6_bad : yX6_bad.cls ≠ "java/lang/invoke/MethodHandle" ∧ yX6_bad.cls ≠ "java/lang/invoke/VarHandle" ∧ (parseMethodDescriptor yX6_bad.desc).map (fun d => d.parameters.length) = some 1 := by decide +kernel
set_option maxHeartbeats 4000000 in
set_option maxRecDepth 100000 in
theorem s_X6_bad {E : EN} {hX : TX} {hR : TR} {hL : TC} {hT : TC} {hK : TK} {hS : TS} {hP : TP} {M_unitsNow : Int32} {M_way : Int32} {M_sample : Int32} {M_one : Int32} {M_two : Int32} {M_plays : Int32} {M_low : Int32} {M_high : Int32} {M_playsNow : Int32} {M_lowNow : Int32} {M_highNow : Int32} {M_textLong : Int32} {M_answerLong : Int32} {M_place : Int32} {M_units : Nat → Int32} {M_refused : Nat → Int32} {M_left : Nat → Int32} {M_played : Nat → Int32} {M_playedNow : Nat → Int32} {M_canBe : Nat → Int32} {M_text : Nat → Int32} {M_answered : Nat → Int32} {M_numbers : Nat → Int32} {a0 : Int32} {qR : Int32 × (Nat → Int32)} (hf : f_X6_bad M_refused a0 = some qR) : Sem E yX6_bad cX6_bad 2 (some .int) 1 [.ref (eA E 26), .int a0] (hX, hR, hL, hT, hK, hS, hP, (M_unitsNow, M_way, M_sample, M_one, M_two, M_plays, M_low, M_high, M_playsNow, M_lowNow, M_highNow, M_textLong, M_answerLong, M_place, M_units, M_refused, M_left, M_played, M_playedNow, M_canBe, M_text, M_answered, M_numbers)) (some (.int qR.1), (hX, hR, hL, hT, hK, hS, hP, (M_unitsNow, M_way, M_sample, M_one, M_two, M_plays, M_low, M_high, M_playsNow, M_lowNow, M_highNow, M_textLong, M_answerLong, M_place, M_units, qR.2, M_left, M_played, M_playedNow, M_canBe, M_text, M_answered, M_numbers))) := by
  refine Sem.mk (lv := [(0, .ref (eA E 26)), (1, .int a0)]) (by decide) (Nat.le_of_ble_eq_true rfl) rfl ?_
  rw [f_X6_bad] at hf
  refine r_aload_n dX6_bad_0 0 rfl ?_
  refine r_get (v := .ref (eA E 28)) in_X6 26 ga_M rfl 4 (by decide) wd_767 rfl rfl dX6_bad_1 ?_
  refine r_iconst (v := 0) dX6_bad_4 (by decide) ?_
  refine r_dup2 dX6_bad_5 rfl rfl ?_
  obtain ⟨i1, hf⟩ := hf_in hf
  refine r_iald (f := M_refused) 28 ga_M_refused i1 dX6_bad_6 ?_
  refine r_iconst (v := 1) dX6_bad_7 (by decide) ?_
  refine r_iadd dX6_bad_8 ?_
  obtain ⟨i2, hf⟩ := hf_in hf
  refine r_iast 28 ga_M_refused sa_M_refused i2 dX6_bad_9 ?_
  refine r_iload_n dX6_bad_10 1 rfl ?_
  have e9 := Option.some.inj hf
  subst e9
  exact r_iret rfl dX6_bad_11
-- DuelSamplesModel.full
def f_X6_full (M_refused : Nat → Int32)  : Option (Int32 × (Nat → Int32)) := if inB 2 3 then if inB 2 3 then some ((-4), (upd M_refused (Int32.toNatClampNeg 2) ((M_refused (Int32.toNatClampNeg 2)) + 1))) else none else none
theorem hy_X6_full : yX6_full.cls ≠ "java/lang/invoke/MethodHandle" ∧ yX6_full.cls ≠ "java/lang/invoke/VarHandle" ∧ (parseMethodDescriptor yX6_full.desc).map (fun d => d.parameters.length) = some 0 := by decide +kernel
set_option maxHeartbeats 4000000 in
set_option maxRecDepth 100000 in
theorem s_X6_full {E : EN} {hX : TX} {hR : TR} {hL : TC} {hT : TC} {hK : TK} {hS : TS} {hP : TP} {M_unitsNow : Int32} {M_way : Int32} {M_sample : Int32} {M_one : Int32} {M_two : Int32} {M_plays : Int32} {M_low : Int32} {M_high : Int32} {M_playsNow : Int32} {M_lowNow : Int32} {M_highNow : Int32} {M_textLong : Int32} {M_answerLong : Int32} {M_place : Int32} {M_units : Nat → Int32} {M_refused : Nat → Int32} {M_left : Nat → Int32} {M_played : Nat → Int32} {M_playedNow : Nat → Int32} {M_canBe : Nat → Int32} {M_text : Nat → Int32} {M_answered : Nat → Int32} {M_numbers : Nat → Int32}  {qR : Int32 × (Nat → Int32)} (hf : f_X6_full M_refused = some qR) : Sem E yX6_full cX6_full 1 (some .int) 1 [.ref (eA E 26)] (hX, hR, hL, hT, hK, hS, hP, (M_unitsNow, M_way, M_sample, M_one, M_two, M_plays, M_low, M_high, M_playsNow, M_lowNow, M_highNow, M_textLong, M_answerLong, M_place, M_units, M_refused, M_left, M_played, M_playedNow, M_canBe, M_text, M_answered, M_numbers)) (some (.int qR.1), (hX, hR, hL, hT, hK, hS, hP, (M_unitsNow, M_way, M_sample, M_one, M_two, M_plays, M_low, M_high, M_playsNow, M_lowNow, M_highNow, M_textLong, M_answerLong, M_place, M_units, qR.2, M_left, M_played, M_playedNow, M_canBe, M_text, M_answered, M_numbers))) := by
  refine Sem.mk (lv := [(0, .ref (eA E 26))]) (by decide) (Nat.le_of_ble_eq_true rfl) rfl ?_
  rw [f_X6_full] at hf
  refine r_aload_n dX6_full_0 0 rfl ?_
  refine r_get (v := .ref (eA E 28)) in_X6 26 ga_M rfl 4 (by decide) wd_767 rfl rfl dX6_full_1 ?_
  refine r_iconst (v := 2) dX6_full_4 (by decide) ?_
  refine r_dup2 dX6_full_5 rfl rfl ?_
  obtain ⟨i1, hf⟩ := hf_in hf
  refine r_iald (f := M_refused) 28 ga_M_refused i1 dX6_full_6 ?_
  refine r_iconst (v := 1) dX6_full_7 (by decide) ?_
  refine r_iadd dX6_full_8 ?_
  obtain ⟨i2, hf⟩ := hf_in hf
  refine r_iast 28 ga_M_refused sa_M_refused i2 dX6_full_9 ?_
  refine r_bipush (v := (-4)) dX6_full_10 (by decide) ?_
  have e9 := Option.some.inj hf
  subst e9
  exact r_iret rfl dX6_full_12
-- DuelSamplesModel.lays
def f_X6_lays (M_unitsNow : Int32) (M_units : Nat → Int32) (a0 : Int32) (a1 : Int32) (a2 : Int32) (a3 : Int32) (a4 : Int32) : Option (Int32 × (Nat → Int32)) := if inB (5 * M_unitsNow) 60 then if inB ((5 * M_unitsNow) + 1) 60 then if inB ((5 * M_unitsNow) + 2) 60 then if inB ((5 * M_unitsNow) + 3) 60 then if inB ((5 * M_unitsNow) + 4) 60 then some ((M_unitsNow + 1), (upd (upd (upd (upd (upd M_units (Int32.toNatClampNeg (5 * M_unitsNow)) a0) (Int32.toNatClampNeg ((5 * M_unitsNow) + 1)) a1) (Int32.toNatClampNeg ((5 * M_unitsNow) + 2)) a2) (Int32.toNatClampNeg ((5 * M_unitsNow) + 3)) a3) (Int32.toNatClampNeg ((5 * M_unitsNow) + 4)) a4)) else none else none else none else none else none
theorem hy_X6_lays : yX6_lays.cls ≠ "java/lang/invoke/MethodHandle" ∧ yX6_lays.cls ≠ "java/lang/invoke/VarHandle" ∧ (parseMethodDescriptor yX6_lays.desc).map (fun d => d.parameters.length) = some 5 := by decide +kernel
set_option maxHeartbeats 4000000 in
set_option maxRecDepth 100000 in
theorem s_X6_lays {E : EN} {hX : TX} {hR : TR} {hL : TC} {hT : TC} {hK : TK} {hS : TS} {hP : TP} {M_unitsNow : Int32} {M_way : Int32} {M_sample : Int32} {M_one : Int32} {M_two : Int32} {M_plays : Int32} {M_low : Int32} {M_high : Int32} {M_playsNow : Int32} {M_lowNow : Int32} {M_highNow : Int32} {M_textLong : Int32} {M_answerLong : Int32} {M_place : Int32} {M_units : Nat → Int32} {M_refused : Nat → Int32} {M_left : Nat → Int32} {M_played : Nat → Int32} {M_playedNow : Nat → Int32} {M_canBe : Nat → Int32} {M_text : Nat → Int32} {M_answered : Nat → Int32} {M_numbers : Nat → Int32} {a0 : Int32} {a1 : Int32} {a2 : Int32} {a3 : Int32} {a4 : Int32} {qR : Int32 × (Nat → Int32)} (hf : f_X6_lays M_unitsNow M_units a0 a1 a2 a3 a4 = some qR) : Sem E yX6_lays cX6_lays 7 none 1 [.ref (eA E 26), .int a0, .int a1, .int a2, .int a3, .int a4] (hX, hR, hL, hT, hK, hS, hP, (M_unitsNow, M_way, M_sample, M_one, M_two, M_plays, M_low, M_high, M_playsNow, M_lowNow, M_highNow, M_textLong, M_answerLong, M_place, M_units, M_refused, M_left, M_played, M_playedNow, M_canBe, M_text, M_answered, M_numbers)) (none, (hX, hR, hL, hT, hK, hS, hP, (qR.1, M_way, M_sample, M_one, M_two, M_plays, M_low, M_high, M_playsNow, M_lowNow, M_highNow, M_textLong, M_answerLong, M_place, qR.2, M_refused, M_left, M_played, M_playedNow, M_canBe, M_text, M_answered, M_numbers))) := by
  refine Sem.mk (lv := [(0, .ref (eA E 26)), (1, .int a0), (2, .int a1), (3, .int a2), (4, .int a3), (5, .int a4)]) (by decide) (Nat.le_of_ble_eq_true rfl) rfl ?_
  rw [f_X6_lays] at hf
  refine r_iconst (v := 5) dX6_lays_0 (by decide) ?_
  refine r_aload_n dX6_lays_1 0 rfl ?_
  refine r_get (v := .int M_unitsNow) in_X6 26 ga_M rfl 1 (by decide) wd_764 rfl rfl dX6_lays_2 ?_
  refine r_imul dX6_lays_5 ?_
  refine r_istore (lv2 := [(6, .int (5 * M_unitsNow)), (0, .ref (eA E 26)), (1, .int a0), (2, .int a1), (3, .int a2), (4, .int a3), (5, .int a4)]) dX6_lays_6 (by decide) rfl ?_
  refine r_aload_n dX6_lays_8 1 rfl ?_
  refine r_get (v := .ref (eA E 27)) in_X6 26 ga_M rfl 0 (by decide) wd_763 rfl rfl dX6_lays_9 ?_
  refine r_iload dX6_lays_12 0 rfl ?_
  refine r_iload_n dX6_lays_14 2 rfl ?_
  obtain ⟨i1, hf⟩ := hf_in hf
  refine r_iast 27 ga_M_units sa_M_units i1 dX6_lays_15 ?_
  refine r_aload_n dX6_lays_16 1 rfl ?_
  refine r_get (v := .ref (eA E 27)) in_X6 26 ga_M rfl 0 (by decide) wd_763 rfl rfl dX6_lays_17 ?_
  refine r_iload dX6_lays_20 0 rfl ?_
  refine r_iconst (v := 1) dX6_lays_22 (by decide) ?_
  refine r_iadd dX6_lays_23 ?_
  refine r_iload_n dX6_lays_24 3 rfl ?_
  obtain ⟨i2, hf⟩ := hf_in hf
  refine r_iast 27 ga_M_units sa_M_units i2 dX6_lays_25 ?_
  refine r_aload_n dX6_lays_26 1 rfl ?_
  refine r_get (v := .ref (eA E 27)) in_X6 26 ga_M rfl 0 (by decide) wd_763 rfl rfl dX6_lays_27 ?_
  refine r_iload dX6_lays_30 0 rfl ?_
  refine r_iconst (v := 2) dX6_lays_32 (by decide) ?_
  refine r_iadd dX6_lays_33 ?_
  refine r_iload_n dX6_lays_34 4 rfl ?_
  obtain ⟨i3, hf⟩ := hf_in hf
  refine r_iast 27 ga_M_units sa_M_units i3 dX6_lays_35 ?_
  refine r_aload_n dX6_lays_36 1 rfl ?_
  refine r_get (v := .ref (eA E 27)) in_X6 26 ga_M rfl 0 (by decide) wd_763 rfl rfl dX6_lays_37 ?_
  refine r_iload dX6_lays_40 0 rfl ?_
  refine r_iconst (v := 3) dX6_lays_42 (by decide) ?_
  refine r_iadd dX6_lays_43 ?_
  refine r_iload dX6_lays_44 5 rfl ?_
  obtain ⟨i4, hf⟩ := hf_in hf
  refine r_iast 27 ga_M_units sa_M_units i4 dX6_lays_46 ?_
  refine r_aload_n dX6_lays_47 1 rfl ?_
  refine r_get (v := .ref (eA E 27)) in_X6 26 ga_M rfl 0 (by decide) wd_763 rfl rfl dX6_lays_48 ?_
  refine r_iload dX6_lays_51 0 rfl ?_
  refine r_iconst (v := 4) dX6_lays_53 (by decide) ?_
  refine r_iadd dX6_lays_54 ?_
  refine r_iload dX6_lays_55 6 rfl ?_
  obtain ⟨i5, hf⟩ := hf_in hf
  refine r_iast 27 ga_M_units sa_M_units i5 dX6_lays_57 ?_
  refine r_aload_n dX6_lays_58 1 rfl ?_
  refine r_dup dX6_lays_59 rfl ?_
  refine r_get (v := .int M_unitsNow) in_X6 26 ga_M rfl 1 (by decide) wd_764 rfl rfl dX6_lays_60 ?_
  refine r_iconst (v := 1) dX6_lays_63 (by decide) ?_
  refine r_iadd dX6_lays_64 ?_
  refine r_put in_X6 tyX6_ok nmX6 26 ga_M rfl 1 (by decide) wd_764 rfl rfl pfI (Nat.le_of_ble_eq_true rfl) sa_M_unitsNow dX6_lays_65 ?_
  have e9 := Option.some.inj hf
  subst e9
  exact r_vret rfl dX6_lays_68
-- DuelSamplesModel.unit
def f_X6_unit (M_unitsNow : Int32) (M_units : Nat → Int32) (M_refused : Nat → Int32) (a0 : Int32) (a1 : Int32) (a2 : Int32) (a3 : Int32) (a4 : Int32) : Option (Int32 × Int32 × (Nat → Int32) × (Nat → Int32)) := Option.bind (f_X6_mostOf 0) (fun (q1 : Int32) => Option.bind (f_X6_in (Int32.toInt64 a0) 0 (Int32.toInt64 q1)) (fun (q2 : Int32) => if q2 = 0 then Option.bind (f_X6_bad M_refused (-2)) (fun (q4 : Int32 × (Nat → Int32)) => some (q4.1, M_unitsNow, M_units, q4.2)) else Option.bind (f_X6_mostOf 1) (fun (q5 : Int32) => Option.bind (f_X6_in (Int32.toInt64 a1) 0 (Int32.toInt64 q5)) (fun (q6 : Int32) => if q6 = 0 then Option.bind (f_X6_bad M_refused (-2)) (fun (q8 : Int32 × (Nat → Int32)) => some (q8.1, M_unitsNow, M_units, q8.2)) else Option.bind (f_X6_mostOf 2) (fun (q9 : Int32) => Option.bind (f_X6_in (Int32.toInt64 a2) 0 (Int32.toInt64 q9)) (fun (q10 : Int32) => if q10 = 0 then Option.bind (f_X6_bad M_refused (-2)) (fun (q12 : Int32 × (Nat → Int32)) => some (q12.1, M_unitsNow, M_units, q12.2)) else Option.bind (f_X6_mostOf 3) (fun (q13 : Int32) => Option.bind (f_X6_in (Int32.toInt64 a3) 0 (Int32.toInt64 q13)) (fun (q14 : Int32) => if q14 = 0 then Option.bind (f_X6_bad M_refused (-2)) (fun (q16 : Int32 × (Nat → Int32)) => some (q16.1, M_unitsNow, M_units, q16.2)) else Option.bind (f_X6_mostOf 4) (fun (q17 : Int32) => Option.bind (f_X6_in (Int32.toInt64 a4) 0 (Int32.toInt64 q17)) (fun (q18 : Int32) => if q18 = 0 then Option.bind (f_X6_bad M_refused (-2)) (fun (q23 : Int32 × (Nat → Int32)) => some (q23.1, M_unitsNow, M_units, q23.2)) else if M_unitsNow = 12 then Option.bind (f_X6_full M_refused) (fun (q22 : Int32 × (Nat → Int32)) => some (q22.1, M_unitsNow, M_units, q22.2)) else Option.bind (f_X6_lays M_unitsNow M_units a0 a1 a2 a3 a4) (fun (q21 : Int32 × (Nat → Int32)) => some ((q21.1 - 1), q21.1, q21.2, M_refused))))))))))))
theorem hy_X6_unit : yX6_unit.cls ≠ "java/lang/invoke/MethodHandle" ∧ yX6_unit.cls ≠ "java/lang/invoke/VarHandle" ∧ (parseMethodDescriptor yX6_unit.desc).map (fun d => d.parameters.length) = some 5 := by decide +kernel
set_option maxHeartbeats 4000000 in
set_option maxRecDepth 100000 in
theorem s_X6_unit {E : EN} {hX : TX} {hR : TR} {hL : TC} {hT : TC} {hK : TK} {hS : TS} {hP : TP} {M_unitsNow : Int32} {M_way : Int32} {M_sample : Int32} {M_one : Int32} {M_two : Int32} {M_plays : Int32} {M_low : Int32} {M_high : Int32} {M_playsNow : Int32} {M_lowNow : Int32} {M_highNow : Int32} {M_textLong : Int32} {M_answerLong : Int32} {M_place : Int32} {M_units : Nat → Int32} {M_refused : Nat → Int32} {M_left : Nat → Int32} {M_played : Nat → Int32} {M_playedNow : Nat → Int32} {M_canBe : Nat → Int32} {M_text : Nat → Int32} {M_answered : Nat → Int32} {M_numbers : Nat → Int32} {a0 : Int32} {a1 : Int32} {a2 : Int32} {a3 : Int32} {a4 : Int32} {qR : Int32 × Int32 × (Nat → Int32) × (Nat → Int32)} (hf : f_X6_unit M_unitsNow M_units M_refused a0 a1 a2 a3 a4 = some qR) : Sem E yX6_unit cX6_unit 6 (some .int) 2 [.ref (eA E 26), .int a0, .int a1, .int a2, .int a3, .int a4] (hX, hR, hL, hT, hK, hS, hP, (M_unitsNow, M_way, M_sample, M_one, M_two, M_plays, M_low, M_high, M_playsNow, M_lowNow, M_highNow, M_textLong, M_answerLong, M_place, M_units, M_refused, M_left, M_played, M_playedNow, M_canBe, M_text, M_answered, M_numbers)) (some (.int qR.1), (hX, hR, hL, hT, hK, hS, hP, (qR.2.1, M_way, M_sample, M_one, M_two, M_plays, M_low, M_high, M_playsNow, M_lowNow, M_highNow, M_textLong, M_answerLong, M_place, qR.2.2.1, qR.2.2.2, M_left, M_played, M_playedNow, M_canBe, M_text, M_answered, M_numbers))) := by
  refine Sem.mk (lv := [(0, .ref (eA E 26)), (1, .int a0), (2, .int a1), (3, .int a2), (4, .int a3), (5, .int a4)]) (by decide) (Nat.le_of_ble_eq_true rfl) rfl ?_
  rw [f_X6_unit] at hf
  refine r_iload_n dX6_unit_0 1 rfl ?_
  refine r_i2l dX6_unit_1 ?_
  refine r_lconst (v := 0) dX6_unit_2 (by decide) ?_
  refine r_iconst (v := 0) dX6_unit_3 (by decide) ?_
  obtain ⟨q1, hq1, hf⟩ := hf_bind hf
  refine r_callSi (As := [.int 0]) (st := [.long 0, .long (Int32.toInt64 a0)]) (s_X6_mostOf hq1) (by decide) (by decide) wd_838 wd_839 wd_74 wd_840 hy_X6_mostOf rfl (Nat.le_of_ble_eq_true rfl) dX6_unit_4 ?_
  refine r_i2l dX6_unit_7 ?_
  obtain ⟨q2, hq2, hf⟩ := hf_bind hf
  refine r_callSi (As := [.long (Int32.toInt64 a0), .long 0, .long (Int32.toInt64 q1)]) (st := []) (s_X6_in hq2) (by decide) (by decide) wd_841 wd_842 wd_74 wd_843 hy_X6_in rfl (Nat.le_of_ble_eq_true rfl) dX6_unit_8 ?_
  refine r_if_eq (tgt := 72) dX6_unit_11 (by decide) (fun c3 => ?_) (fun c3 => ?_)
  · have hf := hf_pos c3 hf
    refine r_aload_n dX6_unit_72 0 rfl ?_
    refine r_bipush (v := (-2)) dX6_unit_73 (by decide) ?_
    obtain ⟨q4, hq4, hf⟩ := hf_bind hf
    refine r_callVi (As := [.int (-2)]) (b := (eA E 26)) (st := []) (s_X6_bad hq4) (by decide) (by decide) wd_844 wd_846 wd_27 wd_74 wd_847 hy_X6_bad (Rc.obj 26 ga_M rfl) rfl (Nat.le_of_ble_eq_true rfl) dX6_unit_75 ?_
    have e9 := Option.some.inj hf
    subst e9
    exact r_iret rfl dX6_unit_78
  · have hf := hf_neg c3 hf
    refine r_iload_n dX6_unit_14 2 rfl ?_
    refine r_i2l dX6_unit_15 ?_
    refine r_lconst (v := 0) dX6_unit_16 (by decide) ?_
    refine r_iconst (v := 1) dX6_unit_17 (by decide) ?_
    obtain ⟨q5, hq5, hf⟩ := hf_bind hf
    refine r_callSi (As := [.int 1]) (st := [.long 0, .long (Int32.toInt64 a1)]) (s_X6_mostOf hq5) (by decide) (by decide) wd_838 wd_839 wd_74 wd_840 hy_X6_mostOf rfl (Nat.le_of_ble_eq_true rfl) dX6_unit_18 ?_
    refine r_i2l dX6_unit_21 ?_
    obtain ⟨q6, hq6, hf⟩ := hf_bind hf
    refine r_callSi (As := [.long (Int32.toInt64 a1), .long 0, .long (Int32.toInt64 q5)]) (st := []) (s_X6_in hq6) (by decide) (by decide) wd_841 wd_842 wd_74 wd_843 hy_X6_in rfl (Nat.le_of_ble_eq_true rfl) dX6_unit_22 ?_
    refine r_if_eq (tgt := 72) dX6_unit_25 (by decide) (fun c7 => ?_) (fun c7 => ?_)
    · have hf := hf_pos c7 hf
      refine r_aload_n dX6_unit_72 0 rfl ?_
      refine r_bipush (v := (-2)) dX6_unit_73 (by decide) ?_
      obtain ⟨q8, hq8, hf⟩ := hf_bind hf
      refine r_callVi (As := [.int (-2)]) (b := (eA E 26)) (st := []) (s_X6_bad hq8) (by decide) (by decide) wd_844 wd_846 wd_27 wd_74 wd_847 hy_X6_bad (Rc.obj 26 ga_M rfl) rfl (Nat.le_of_ble_eq_true rfl) dX6_unit_75 ?_
      have e9 := Option.some.inj hf
      subst e9
      exact r_iret rfl dX6_unit_78
    · have hf := hf_neg c7 hf
      refine r_iload_n dX6_unit_28 3 rfl ?_
      refine r_i2l dX6_unit_29 ?_
      refine r_lconst (v := 0) dX6_unit_30 (by decide) ?_
      refine r_iconst (v := 2) dX6_unit_31 (by decide) ?_
      obtain ⟨q9, hq9, hf⟩ := hf_bind hf
      refine r_callSi (As := [.int 2]) (st := [.long 0, .long (Int32.toInt64 a2)]) (s_X6_mostOf hq9) (by decide) (by decide) wd_838 wd_839 wd_74 wd_840 hy_X6_mostOf rfl (Nat.le_of_ble_eq_true rfl) dX6_unit_32 ?_
      refine r_i2l dX6_unit_35 ?_
      obtain ⟨q10, hq10, hf⟩ := hf_bind hf
      refine r_callSi (As := [.long (Int32.toInt64 a2), .long 0, .long (Int32.toInt64 q9)]) (st := []) (s_X6_in hq10) (by decide) (by decide) wd_841 wd_842 wd_74 wd_843 hy_X6_in rfl (Nat.le_of_ble_eq_true rfl) dX6_unit_36 ?_
      refine r_if_eq (tgt := 72) dX6_unit_39 (by decide) (fun c11 => ?_) (fun c11 => ?_)
      · have hf := hf_pos c11 hf
        refine r_aload_n dX6_unit_72 0 rfl ?_
        refine r_bipush (v := (-2)) dX6_unit_73 (by decide) ?_
        obtain ⟨q12, hq12, hf⟩ := hf_bind hf
        refine r_callVi (As := [.int (-2)]) (b := (eA E 26)) (st := []) (s_X6_bad hq12) (by decide) (by decide) wd_844 wd_846 wd_27 wd_74 wd_847 hy_X6_bad (Rc.obj 26 ga_M rfl) rfl (Nat.le_of_ble_eq_true rfl) dX6_unit_75 ?_
        have e9 := Option.some.inj hf
        subst e9
        exact r_iret rfl dX6_unit_78
      · have hf := hf_neg c11 hf
        refine r_iload dX6_unit_42 4 rfl ?_
        refine r_i2l dX6_unit_44 ?_
        refine r_lconst (v := 0) dX6_unit_45 (by decide) ?_
        refine r_iconst (v := 3) dX6_unit_46 (by decide) ?_
        obtain ⟨q13, hq13, hf⟩ := hf_bind hf
        refine r_callSi (As := [.int 3]) (st := [.long 0, .long (Int32.toInt64 a3)]) (s_X6_mostOf hq13) (by decide) (by decide) wd_838 wd_839 wd_74 wd_840 hy_X6_mostOf rfl (Nat.le_of_ble_eq_true rfl) dX6_unit_47 ?_
        refine r_i2l dX6_unit_50 ?_
        obtain ⟨q14, hq14, hf⟩ := hf_bind hf
        refine r_callSi (As := [.long (Int32.toInt64 a3), .long 0, .long (Int32.toInt64 q13)]) (st := []) (s_X6_in hq14) (by decide) (by decide) wd_841 wd_842 wd_74 wd_843 hy_X6_in rfl (Nat.le_of_ble_eq_true rfl) dX6_unit_51 ?_
        refine r_if_eq (tgt := 72) dX6_unit_54 (by decide) (fun c15 => ?_) (fun c15 => ?_)
        · have hf := hf_pos c15 hf
          refine r_aload_n dX6_unit_72 0 rfl ?_
          refine r_bipush (v := (-2)) dX6_unit_73 (by decide) ?_
          obtain ⟨q16, hq16, hf⟩ := hf_bind hf
          refine r_callVi (As := [.int (-2)]) (b := (eA E 26)) (st := []) (s_X6_bad hq16) (by decide) (by decide) wd_844 wd_846 wd_27 wd_74 wd_847 hy_X6_bad (Rc.obj 26 ga_M rfl) rfl (Nat.le_of_ble_eq_true rfl) dX6_unit_75 ?_
          have e9 := Option.some.inj hf
          subst e9
          exact r_iret rfl dX6_unit_78
        · have hf := hf_neg c15 hf
          refine r_iload dX6_unit_57 5 rfl ?_
          refine r_i2l dX6_unit_59 ?_
          refine r_lconst (v := 0) dX6_unit_60 (by decide) ?_
          refine r_iconst (v := 4) dX6_unit_61 (by decide) ?_
          obtain ⟨q17, hq17, hf⟩ := hf_bind hf
          refine r_callSi (As := [.int 4]) (st := [.long 0, .long (Int32.toInt64 a4)]) (s_X6_mostOf hq17) (by decide) (by decide) wd_838 wd_839 wd_74 wd_840 hy_X6_mostOf rfl (Nat.le_of_ble_eq_true rfl) dX6_unit_62 ?_
          refine r_i2l dX6_unit_65 ?_
          obtain ⟨q18, hq18, hf⟩ := hf_bind hf
          refine r_callSi (As := [.long (Int32.toInt64 a4), .long 0, .long (Int32.toInt64 q17)]) (st := []) (s_X6_in hq18) (by decide) (by decide) wd_841 wd_842 wd_74 wd_843 hy_X6_in rfl (Nat.le_of_ble_eq_true rfl) dX6_unit_66 ?_
          refine r_if_ne (tgt := 79) dX6_unit_69 (by decide) (fun c19 => ?_) (fun c19 => ?_)
          · have hf := hf_neg c19 hf
            refine r_aload_n dX6_unit_79 0 rfl ?_
            refine r_get (v := .int M_unitsNow) in_X6 26 ga_M rfl 1 (by decide) wd_764 rfl rfl dX6_unit_80 ?_
            refine r_bipush (v := 12) dX6_unit_83 (by decide) ?_
            refine r_icmp_ne (tgt := 93) dX6_unit_85 (by decide) (fun c20 => ?_) (fun c20 => ?_)
            · have hf := hf_neg c20 hf
              refine r_aload_n dX6_unit_93 0 rfl ?_
              refine r_iload_n dX6_unit_94 1 rfl ?_
              refine r_iload_n dX6_unit_95 2 rfl ?_
              refine r_iload_n dX6_unit_96 3 rfl ?_
              refine r_iload dX6_unit_97 4 rfl ?_
              refine r_iload dX6_unit_99 5 rfl ?_
              obtain ⟨q21, hq21, hf⟩ := hf_bind hf
              refine r_callVv (As := [.int a0, .int a1, .int a2, .int a3, .int a4]) (b := (eA E 26)) (st := []) (s_X6_lays hq21) (by decide) (by decide) wd_852 wd_854 wd_29 wd_74 wd_855 hy_X6_lays (Rc.obj 26 ga_M rfl) rfl (Nat.le_of_ble_eq_true rfl) dX6_unit_101 ?_
              refine r_aload_n dX6_unit_104 0 rfl ?_
              refine r_get (v := .int q21.1) in_X6 26 ga_M rfl 1 (by decide) wd_764 rfl rfl dX6_unit_105 ?_
              refine r_iconst (v := 1) dX6_unit_108 (by decide) ?_
              refine r_isub dX6_unit_109 ?_
              have e9 := Option.some.inj hf
              subst e9
              exact r_iret rfl dX6_unit_110
            · have hf := hf_pos c20 hf
              refine r_aload_n dX6_unit_88 0 rfl ?_
              obtain ⟨q22, hq22, hf⟩ := hf_bind hf
              refine r_callVi (As := []) (b := (eA E 26)) (st := []) (s_X6_full hq22) (by decide) (by decide) wd_848 wd_850 wd_28 wd_74 wd_851 hy_X6_full (Rc.obj 26 ga_M rfl) rfl (Nat.le_of_ble_eq_true rfl) dX6_unit_89 ?_
              have e9 := Option.some.inj hf
              subst e9
              exact r_iret rfl dX6_unit_92
          · have hf := hf_pos c19 hf
            refine r_aload_n dX6_unit_72 0 rfl ?_
            refine r_bipush (v := (-2)) dX6_unit_73 (by decide) ?_
            obtain ⟨q23, hq23, hf⟩ := hf_bind hf
            refine r_callVi (As := [.int (-2)]) (b := (eA E 26)) (st := []) (s_X6_bad hq23) (by decide) (by decide) wd_844 wd_846 wd_27 wd_74 wd_847 hy_X6_bad (Rc.obj 26 ga_M rfl) rfl (Nat.le_of_ble_eq_true rfl) dX6_unit_75 ?_
            have e9 := Option.some.inj hf
            subst e9
            exact r_iret rfl dX6_unit_78
-- DuelSamplesModel.isUnit
def f_X6_isUnit (M_unitsNow : Int32) (a0 : Int32) : Option (Int32) := Option.bind (f_X6_in (Int32.toInt64 a0) 0 (Int32.toInt64 (M_unitsNow - 1))) (fun (q1 : Int32) => some q1)
theorem hy_X6_isUnit : yX6_isUnit.cls ≠ "java/lang/invoke/MethodHandle" ∧ yX6_isUnit.cls ≠ "java/lang/invoke/VarHandle" ∧ (parseMethodDescriptor yX6_isUnit.desc).map (fun d => d.parameters.length) = some 1 := by decide +kernel
set_option maxHeartbeats 4000000 in
set_option maxRecDepth 100000 in
theorem s_X6_isUnit {E : EN} {hX : TX} {hR : TR} {hL : TC} {hT : TC} {hK : TK} {hS : TS} {hP : TP} {M_unitsNow : Int32} {M_way : Int32} {M_sample : Int32} {M_one : Int32} {M_two : Int32} {M_plays : Int32} {M_low : Int32} {M_high : Int32} {M_playsNow : Int32} {M_lowNow : Int32} {M_highNow : Int32} {M_textLong : Int32} {M_answerLong : Int32} {M_place : Int32} {M_units : Nat → Int32} {M_refused : Nat → Int32} {M_left : Nat → Int32} {M_played : Nat → Int32} {M_playedNow : Nat → Int32} {M_canBe : Nat → Int32} {M_text : Nat → Int32} {M_answered : Nat → Int32} {M_numbers : Nat → Int32} {a0 : Int32} {qR : Int32} (hf : f_X6_isUnit M_unitsNow a0 = some qR) : Sem E yX6_isUnit cX6_isUnit 2 (some .boolean) 2 [.ref (eA E 26), .int a0] (hX, hR, hL, hT, hK, hS, hP, (M_unitsNow, M_way, M_sample, M_one, M_two, M_plays, M_low, M_high, M_playsNow, M_lowNow, M_highNow, M_textLong, M_answerLong, M_place, M_units, M_refused, M_left, M_played, M_playedNow, M_canBe, M_text, M_answered, M_numbers)) (some (.int qR), (hX, hR, hL, hT, hK, hS, hP, (M_unitsNow, M_way, M_sample, M_one, M_two, M_plays, M_low, M_high, M_playsNow, M_lowNow, M_highNow, M_textLong, M_answerLong, M_place, M_units, M_refused, M_left, M_played, M_playedNow, M_canBe, M_text, M_answered, M_numbers))) := by
  refine Sem.mk (lv := [(0, .ref (eA E 26)), (1, .int a0)]) (by decide) (Nat.le_of_ble_eq_true rfl) rfl ?_
  rw [f_X6_isUnit] at hf
  refine r_iload_n dX6_isUnit_0 1 rfl ?_
  refine r_i2l dX6_isUnit_1 ?_
  refine r_lconst (v := 0) dX6_isUnit_2 (by decide) ?_
  refine r_aload_n dX6_isUnit_3 0 rfl ?_
  refine r_get (v := .int M_unitsNow) in_X6 26 ga_M rfl 1 (by decide) wd_764 rfl rfl dX6_isUnit_4 ?_
  refine r_iconst (v := 1) dX6_isUnit_7 (by decide) ?_
  refine r_isub dX6_isUnit_8 ?_
  refine r_i2l dX6_isUnit_9 ?_
  obtain ⟨q1, hq1, hf⟩ := hf_bind hf
  refine r_callSi (As := [.long (Int32.toInt64 a0), .long 0, .long (Int32.toInt64 (M_unitsNow - 1))]) (st := []) (s_X6_in hq1) (by decide) (by decide) wd_841 wd_842 wd_74 wd_843 hy_X6_in rfl (Nat.le_of_ble_eq_true rfl) dX6_isUnit_10 ?_
  have e9 := Option.some.inj hf
  subst e9
  exact r_zret rfl (narB (X6_in_01 hq1)) dX6_isUnit_13
-- DuelSamplesModel.at
def f_X6_at (M_units : Nat → Int32) (a0 : Int32) (a1 : Int32) : Option (Int32) := if inB ((5 * a0) + a1) 60 then some (M_units (Int32.toNatClampNeg ((5 * a0) + a1))) else none
theorem hy_X6_at : yX6_at.cls ≠ "java/lang/invoke/MethodHandle" ∧ yX6_at.cls ≠ "java/lang/invoke/VarHandle" ∧ (parseMethodDescriptor yX6_at.desc).map (fun d => d.parameters.length) = some 2 := by decide +kernel
set_option maxHeartbeats 4000000 in
set_option maxRecDepth 100000 in
theorem s_X6_at {E : EN} {hX : TX} {hR : TR} {hL : TC} {hT : TC} {hK : TK} {hS : TS} {hP : TP} {M_unitsNow : Int32} {M_way : Int32} {M_sample : Int32} {M_one : Int32} {M_two : Int32} {M_plays : Int32} {M_low : Int32} {M_high : Int32} {M_playsNow : Int32} {M_lowNow : Int32} {M_highNow : Int32} {M_textLong : Int32} {M_answerLong : Int32} {M_place : Int32} {M_units : Nat → Int32} {M_refused : Nat → Int32} {M_left : Nat → Int32} {M_played : Nat → Int32} {M_playedNow : Nat → Int32} {M_canBe : Nat → Int32} {M_text : Nat → Int32} {M_answered : Nat → Int32} {M_numbers : Nat → Int32} {a0 : Int32} {a1 : Int32} {qR : Int32} (hf : f_X6_at M_units a0 a1 = some qR) : Sem E yX6_at cX6_at 3 (some .int) 1 [.ref (eA E 26), .int a0, .int a1] (hX, hR, hL, hT, hK, hS, hP, (M_unitsNow, M_way, M_sample, M_one, M_two, M_plays, M_low, M_high, M_playsNow, M_lowNow, M_highNow, M_textLong, M_answerLong, M_place, M_units, M_refused, M_left, M_played, M_playedNow, M_canBe, M_text, M_answered, M_numbers)) (some (.int qR), (hX, hR, hL, hT, hK, hS, hP, (M_unitsNow, M_way, M_sample, M_one, M_two, M_plays, M_low, M_high, M_playsNow, M_lowNow, M_highNow, M_textLong, M_answerLong, M_place, M_units, M_refused, M_left, M_played, M_playedNow, M_canBe, M_text, M_answered, M_numbers))) := by
  refine Sem.mk (lv := [(0, .ref (eA E 26)), (1, .int a0), (2, .int a1)]) (by decide) (Nat.le_of_ble_eq_true rfl) rfl ?_
  rw [f_X6_at] at hf
  refine r_aload_n dX6_at_0 0 rfl ?_
  refine r_get (v := .ref (eA E 27)) in_X6 26 ga_M rfl 0 (by decide) wd_763 rfl rfl dX6_at_1 ?_
  refine r_iconst (v := 5) dX6_at_4 (by decide) ?_
  refine r_iload_n dX6_at_5 1 rfl ?_
  refine r_imul dX6_at_6 ?_
  refine r_iload_n dX6_at_7 2 rfl ?_
  refine r_iadd dX6_at_8 ?_
  obtain ⟨i1, hf⟩ := hf_in hf
  refine r_iald (f := M_units) 27 ga_M_units i1 dX6_at_9 ?_
  have e9 := Option.some.inj hf
  subst e9
  exact r_iret rfl dX6_at_10
-- DuelSamplesModel.becomes
def f_X6_becomes (M_units : Nat → Int32) (a0 : Int32) (a1 : Int32) (a2 : Int32) : Option (Int32 × (Nat → Int32)) := Option.bind (f_X6_at M_units a0 a1) (fun (q1 : Int32) => if inB ((5 * a0) + a1) 60 then some (q1, (upd M_units (Int32.toNatClampNeg ((5 * a0) + a1)) a2)) else none)
theorem hy_X6_becomes : yX6_becomes.cls ≠ "java/lang/invoke/MethodHandle" ∧ yX6_becomes.cls ≠ "java/lang/invoke/VarHandle" ∧ (parseMethodDescriptor yX6_becomes.desc).map (fun d => d.parameters.length) = some 3 := by decide +kernel
set_option maxHeartbeats 4000000 in
set_option maxRecDepth 100000 in
theorem s_X6_becomes {E : EN} {hX : TX} {hR : TR} {hL : TC} {hT : TC} {hK : TK} {hS : TS} {hP : TP} {M_unitsNow : Int32} {M_way : Int32} {M_sample : Int32} {M_one : Int32} {M_two : Int32} {M_plays : Int32} {M_low : Int32} {M_high : Int32} {M_playsNow : Int32} {M_lowNow : Int32} {M_highNow : Int32} {M_textLong : Int32} {M_answerLong : Int32} {M_place : Int32} {M_units : Nat → Int32} {M_refused : Nat → Int32} {M_left : Nat → Int32} {M_played : Nat → Int32} {M_playedNow : Nat → Int32} {M_canBe : Nat → Int32} {M_text : Nat → Int32} {M_answered : Nat → Int32} {M_numbers : Nat → Int32} {a0 : Int32} {a1 : Int32} {a2 : Int32} {qR : Int32 × (Nat → Int32)} (hf : f_X6_becomes M_units a0 a1 a2 = some qR) : Sem E yX6_becomes cX6_becomes 5 (some .int) 2 [.ref (eA E 26), .int a0, .int a1, .int a2] (hX, hR, hL, hT, hK, hS, hP, (M_unitsNow, M_way, M_sample, M_one, M_two, M_plays, M_low, M_high, M_playsNow, M_lowNow, M_highNow, M_textLong, M_answerLong, M_place, M_units, M_refused, M_left, M_played, M_playedNow, M_canBe, M_text, M_answered, M_numbers)) (some (.int qR.1), (hX, hR, hL, hT, hK, hS, hP, (M_unitsNow, M_way, M_sample, M_one, M_two, M_plays, M_low, M_high, M_playsNow, M_lowNow, M_highNow, M_textLong, M_answerLong, M_place, qR.2, M_refused, M_left, M_played, M_playedNow, M_canBe, M_text, M_answered, M_numbers))) := by
  refine Sem.mk (lv := [(0, .ref (eA E 26)), (1, .int a0), (2, .int a1), (3, .int a2)]) (by decide) (Nat.le_of_ble_eq_true rfl) rfl ?_
  rw [f_X6_becomes] at hf
  refine r_aload_n dX6_becomes_0 0 rfl ?_
  refine r_iload_n dX6_becomes_1 1 rfl ?_
  refine r_iload_n dX6_becomes_2 2 rfl ?_
  obtain ⟨q1, hq1, hf⟩ := hf_bind hf
  refine r_callVi (As := [.int a0, .int a1]) (b := (eA E 26)) (st := []) (s_X6_at hq1) (by decide) (by decide) wd_869 wd_871 wd_32 wd_74 wd_872 hy_X6_at (Rc.obj 26 ga_M rfl) rfl (Nat.le_of_ble_eq_true rfl) dX6_becomes_3 ?_
  refine r_istore (lv2 := [(4, .int q1), (0, .ref (eA E 26)), (1, .int a0), (2, .int a1), (3, .int a2)]) dX6_becomes_6 (by decide) rfl ?_
  refine r_aload_n dX6_becomes_8 1 rfl ?_
  refine r_get (v := .ref (eA E 27)) in_X6 26 ga_M rfl 0 (by decide) wd_763 rfl rfl dX6_becomes_9 ?_
  refine r_iconst (v := 5) dX6_becomes_12 (by decide) ?_
  refine r_iload_n dX6_becomes_13 2 rfl ?_
  refine r_imul dX6_becomes_14 ?_
  refine r_iload_n dX6_becomes_15 3 rfl ?_
  refine r_iadd dX6_becomes_16 ?_
  refine r_iload_n dX6_becomes_17 4 rfl ?_
  obtain ⟨i2, hf⟩ := hf_in hf
  refine r_iast 27 ga_M_units sa_M_units i2 dX6_becomes_18 ?_
  refine r_iload dX6_becomes_19 0 rfl ?_
  have e9 := Option.some.inj hf
  subst e9
  exact r_iret rfl dX6_becomes_21
-- DuelSamplesModel.sets
def f_X6_sets (M_unitsNow : Int32) (M_units : Nat → Int32) (M_refused : Nat → Int32) (a0 : Int32) (a1 : Int32) (a2 : Int32) : Option (Int32 × (Nat → Int32) × (Nat → Int32)) := Option.bind (f_X6_isUnit M_unitsNow a0) (fun (q1 : Int32) => if q1 = 0 then Option.bind (f_X6_bad M_refused (-2)) (fun (q3 : Int32 × (Nat → Int32)) => some (q3.1, M_units, q3.2)) else Option.bind (f_X6_in (Int32.toInt64 a1) 0 4) (fun (q4 : Int32) => if q4 = 0 then Option.bind (f_X6_bad M_refused (-2)) (fun (q6 : Int32 × (Nat → Int32)) => some (q6.1, M_units, q6.2)) else Option.bind (f_X6_mostOf a1) (fun (q7 : Int32) => Option.bind (f_X6_in (Int32.toInt64 a2) 0 (Int32.toInt64 q7)) (fun (q8 : Int32) => if q8 = 0 then Option.bind (f_X6_bad M_refused (-2)) (fun (q11 : Int32 × (Nat → Int32)) => some (q11.1, M_units, q11.2)) else Option.bind (f_X6_becomes M_units a0 a1 a2) (fun (q10 : Int32 × (Nat → Int32)) => some (q10.1, q10.2, M_refused))))))
theorem hy_X6_sets : yX6_sets.cls ≠ "java/lang/invoke/MethodHandle" ∧ yX6_sets.cls ≠ "java/lang/invoke/VarHandle" ∧ (parseMethodDescriptor yX6_sets.desc).map (fun d => d.parameters.length) = some 3 := by decide +kernel
set_option maxHeartbeats 4000000 in
set_option maxRecDepth 100000 in
theorem s_X6_sets {E : EN} {hX : TX} {hR : TR} {hL : TC} {hT : TC} {hK : TK} {hS : TS} {hP : TP} {M_unitsNow : Int32} {M_way : Int32} {M_sample : Int32} {M_one : Int32} {M_two : Int32} {M_plays : Int32} {M_low : Int32} {M_high : Int32} {M_playsNow : Int32} {M_lowNow : Int32} {M_highNow : Int32} {M_textLong : Int32} {M_answerLong : Int32} {M_place : Int32} {M_units : Nat → Int32} {M_refused : Nat → Int32} {M_left : Nat → Int32} {M_played : Nat → Int32} {M_playedNow : Nat → Int32} {M_canBe : Nat → Int32} {M_text : Nat → Int32} {M_answered : Nat → Int32} {M_numbers : Nat → Int32} {a0 : Int32} {a1 : Int32} {a2 : Int32} {qR : Int32 × (Nat → Int32) × (Nat → Int32)} (hf : f_X6_sets M_unitsNow M_units M_refused a0 a1 a2 = some qR) : Sem E yX6_sets cX6_sets 4 (some .int) 3 [.ref (eA E 26), .int a0, .int a1, .int a2] (hX, hR, hL, hT, hK, hS, hP, (M_unitsNow, M_way, M_sample, M_one, M_two, M_plays, M_low, M_high, M_playsNow, M_lowNow, M_highNow, M_textLong, M_answerLong, M_place, M_units, M_refused, M_left, M_played, M_playedNow, M_canBe, M_text, M_answered, M_numbers)) (some (.int qR.1), (hX, hR, hL, hT, hK, hS, hP, (M_unitsNow, M_way, M_sample, M_one, M_two, M_plays, M_low, M_high, M_playsNow, M_lowNow, M_highNow, M_textLong, M_answerLong, M_place, qR.2.1, qR.2.2, M_left, M_played, M_playedNow, M_canBe, M_text, M_answered, M_numbers))) := by
  refine Sem.mk (lv := [(0, .ref (eA E 26)), (1, .int a0), (2, .int a1), (3, .int a2)]) (by decide) (Nat.le_of_ble_eq_true rfl) rfl ?_
  rw [f_X6_sets] at hf
  refine r_aload_n dX6_sets_0 0 rfl ?_
  refine r_iload_n dX6_sets_1 1 rfl ?_
  obtain ⟨q1, hq1, hf⟩ := hf_bind hf
  refine r_callVi (As := [.int a0]) (b := (eA E 26)) (st := []) (s_X6_isUnit hq1) (by decide) (by decide) wd_860 wd_862 wd_30 wd_74 wd_863 hy_X6_isUnit (Rc.obj 26 ga_M rfl) rfl (Nat.le_of_ble_eq_true rfl) dX6_sets_2 ?_
  refine r_if_eq (tgt := 34) dX6_sets_5 (by decide) (fun c2 => ?_) (fun c2 => ?_)
  · have hf := hf_pos c2 hf
    refine r_aload_n dX6_sets_34 0 rfl ?_
    refine r_bipush (v := (-2)) dX6_sets_35 (by decide) ?_
    obtain ⟨q3, hq3, hf⟩ := hf_bind hf
    refine r_callVi (As := [.int (-2)]) (b := (eA E 26)) (st := []) (s_X6_bad hq3) (by decide) (by decide) wd_844 wd_846 wd_27 wd_74 wd_847 hy_X6_bad (Rc.obj 26 ga_M rfl) rfl (Nat.le_of_ble_eq_true rfl) dX6_sets_37 ?_
    have e9 := Option.some.inj hf
    subst e9
    exact r_iret rfl dX6_sets_40
  · have hf := hf_neg c2 hf
    refine r_iload_n dX6_sets_8 2 rfl ?_
    refine r_i2l dX6_sets_9 ?_
    refine r_lconst (v := 0) dX6_sets_10 (by decide) ?_
    refine r_ldc2 (v := 4) wd_864 dX6_sets_11 ?_
    obtain ⟨q4, hq4, hf⟩ := hf_bind hf
    refine r_callSi (As := [.long (Int32.toInt64 a1), .long 0, .long 4]) (st := []) (s_X6_in hq4) (by decide) (by decide) wd_841 wd_842 wd_74 wd_843 hy_X6_in rfl (Nat.le_of_ble_eq_true rfl) dX6_sets_14 ?_
    refine r_if_eq (tgt := 34) dX6_sets_17 (by decide) (fun c5 => ?_) (fun c5 => ?_)
    · have hf := hf_pos c5 hf
      refine r_aload_n dX6_sets_34 0 rfl ?_
      refine r_bipush (v := (-2)) dX6_sets_35 (by decide) ?_
      obtain ⟨q6, hq6, hf⟩ := hf_bind hf
      refine r_callVi (As := [.int (-2)]) (b := (eA E 26)) (st := []) (s_X6_bad hq6) (by decide) (by decide) wd_844 wd_846 wd_27 wd_74 wd_847 hy_X6_bad (Rc.obj 26 ga_M rfl) rfl (Nat.le_of_ble_eq_true rfl) dX6_sets_37 ?_
      have e9 := Option.some.inj hf
      subst e9
      exact r_iret rfl dX6_sets_40
    · have hf := hf_neg c5 hf
      refine r_iload_n dX6_sets_20 3 rfl ?_
      refine r_i2l dX6_sets_21 ?_
      refine r_lconst (v := 0) dX6_sets_22 (by decide) ?_
      refine r_iload_n dX6_sets_23 2 rfl ?_
      obtain ⟨q7, hq7, hf⟩ := hf_bind hf
      refine r_callSi (As := [.int a1]) (st := [.long 0, .long (Int32.toInt64 a2)]) (s_X6_mostOf hq7) (by decide) (by decide) wd_838 wd_839 wd_74 wd_840 hy_X6_mostOf rfl (Nat.le_of_ble_eq_true rfl) dX6_sets_24 ?_
      refine r_i2l dX6_sets_27 ?_
      obtain ⟨q8, hq8, hf⟩ := hf_bind hf
      refine r_callSi (As := [.long (Int32.toInt64 a2), .long 0, .long (Int32.toInt64 q7)]) (st := []) (s_X6_in hq8) (by decide) (by decide) wd_841 wd_842 wd_74 wd_843 hy_X6_in rfl (Nat.le_of_ble_eq_true rfl) dX6_sets_28 ?_
      refine r_if_ne (tgt := 41) dX6_sets_31 (by decide) (fun c9 => ?_) (fun c9 => ?_)
      · have hf := hf_neg c9 hf
        refine r_aload_n dX6_sets_41 0 rfl ?_
        refine r_iload_n dX6_sets_42 1 rfl ?_
        refine r_iload_n dX6_sets_43 2 rfl ?_
        refine r_iload_n dX6_sets_44 3 rfl ?_
        obtain ⟨q10, hq10, hf⟩ := hf_bind hf
        refine r_callVi (As := [.int a0, .int a1, .int a2]) (b := (eA E 26)) (st := []) (s_X6_becomes hq10) (by decide) (by decide) wd_865 wd_867 wd_31 wd_74 wd_868 hy_X6_becomes (Rc.obj 26 ga_M rfl) rfl (Nat.le_of_ble_eq_true rfl) dX6_sets_45 ?_
        have e9 := Option.some.inj hf
        subst e9
        exact r_iret rfl dX6_sets_48
      · have hf := hf_pos c9 hf
        refine r_aload_n dX6_sets_34 0 rfl ?_
        refine r_bipush (v := (-2)) dX6_sets_35 (by decide) ?_
        obtain ⟨q11, hq11, hf⟩ := hf_bind hf
        refine r_callVi (As := [.int (-2)]) (b := (eA E 26)) (st := []) (s_X6_bad hq11) (by decide) (by decide) wd_844 wd_846 wd_27 wd_74 wd_847 hy_X6_bad (Rc.obj 26 ga_M rfl) rfl (Nat.le_of_ble_eq_true rfl) dX6_sets_37 ?_
        have e9 := Option.some.inj hf
        subst e9
        exact r_iret rfl dX6_sets_40
-- DuelSamplesModel.goesEmpty
def f_X6_goesEmpty   : Option (Int32 × Int32 × Int32 × Int32 × Int32) := some (0, 0, 0, 0, 0)
theorem hy_X6_goesEmpty : yX6_goesEmpty.cls ≠ "java/lang/invoke/MethodHandle" ∧ yX6_goesEmpty.cls ≠ "java/lang/invoke/VarHandle" ∧ (parseMethodDescriptor yX6_goesEmpty.desc).map (fun d => d.parameters.length) = some 0 := by decide +kernel
set_option maxHeartbeats 4000000 in
set_option maxRecDepth 100000 in
theorem s_X6_goesEmpty {E : EN} {hX : TX} {hR : TR} {hL : TC} {hT : TC} {hK : TK} {hS : TS} {hP : TP} {M_unitsNow : Int32} {M_way : Int32} {M_sample : Int32} {M_one : Int32} {M_two : Int32} {M_plays : Int32} {M_low : Int32} {M_high : Int32} {M_playsNow : Int32} {M_lowNow : Int32} {M_highNow : Int32} {M_textLong : Int32} {M_answerLong : Int32} {M_place : Int32} {M_units : Nat → Int32} {M_refused : Nat → Int32} {M_left : Nat → Int32} {M_played : Nat → Int32} {M_playedNow : Nat → Int32} {M_canBe : Nat → Int32} {M_text : Nat → Int32} {M_answered : Nat → Int32} {M_numbers : Nat → Int32}  {qR : Int32 × Int32 × Int32 × Int32 × Int32} (hf : f_X6_goesEmpty  = some qR) : Sem E yX6_goesEmpty cX6_goesEmpty 1 none 1 [.ref (eA E 26)] (hX, hR, hL, hT, hK, hS, hP, (M_unitsNow, M_way, M_sample, M_one, M_two, M_plays, M_low, M_high, M_playsNow, M_lowNow, M_highNow, M_textLong, M_answerLong, M_place, M_units, M_refused, M_left, M_played, M_playedNow, M_canBe, M_text, M_answered, M_numbers)) (none, (hX, hR, hL, hT, hK, hS, hP, (qR.1, M_way, qR.2.1, M_one, M_two, qR.2.2.1, qR.2.2.2.1, qR.2.2.2.2, M_playsNow, M_lowNow, M_highNow, M_textLong, M_answerLong, M_place, M_units, M_refused, M_left, M_played, M_playedNow, M_canBe, M_text, M_answered, M_numbers))) := by
  refine Sem.mk (lv := [(0, .ref (eA E 26))]) (by decide) (Nat.le_of_ble_eq_true rfl) rfl ?_
  rw [f_X6_goesEmpty] at hf
  refine r_aload_n dX6_goesEmpty_0 0 rfl ?_
  refine r_iconst (v := 0) dX6_goesEmpty_1 (by decide) ?_
  refine r_put in_X6 tyX6_ok nmX6 26 ga_M rfl 1 (by decide) wd_764 rfl rfl pfI (Nat.le_of_ble_eq_true rfl) sa_M_unitsNow dX6_goesEmpty_2 ?_
  refine r_aload_n dX6_goesEmpty_5 0 rfl ?_
  refine r_iconst (v := 0) dX6_goesEmpty_6 (by decide) ?_
  refine r_put in_X6 tyX6_ok nmX6 26 ga_M rfl 3 (by decide) wd_766 rfl rfl pfI (Nat.le_of_ble_eq_true rfl) sa_M_sample dX6_goesEmpty_7 ?_
  refine r_aload_n dX6_goesEmpty_10 0 rfl ?_
  refine r_iconst (v := 0) dX6_goesEmpty_11 (by decide) ?_
  refine r_put in_X6 tyX6_ok nmX6 26 ga_M rfl 9 (by decide) wd_772 rfl rfl pfI (Nat.le_of_ble_eq_true rfl) sa_M_plays dX6_goesEmpty_12 ?_
  refine r_aload_n dX6_goesEmpty_15 0 rfl ?_
  refine r_iconst (v := 0) dX6_goesEmpty_16 (by decide) ?_
  refine r_put in_X6 tyX6_ok nmX6 26 ga_M rfl 10 (by decide) wd_773 rfl rfl pfI (Nat.le_of_ble_eq_true rfl) sa_M_low dX6_goesEmpty_17 ?_
  refine r_aload_n dX6_goesEmpty_20 0 rfl ?_
  refine r_iconst (v := 0) dX6_goesEmpty_21 (by decide) ?_
  refine r_put in_X6 tyX6_ok nmX6 26 ga_M rfl 11 (by decide) wd_774 rfl rfl pfI (Nat.le_of_ble_eq_true rfl) sa_M_high dX6_goesEmpty_22 ?_
  have e9 := Option.some.inj hf
  subst e9
  exact r_vret rfl dX6_goesEmpty_25
-- DuelSamplesModel.empties
def f_X6_empties (M_unitsNow : Int32)  : Option (Int32 × Int32 × Int32 × Int32 × Int32 × Int32) := Option.bind (f_X6_goesEmpty) (fun (q1 : Int32 × Int32 × Int32 × Int32 × Int32) => some (M_unitsNow, q1.1, q1.2.1, q1.2.2.1, q1.2.2.2.1, q1.2.2.2.2))
theorem hy_X6_empties : yX6_empties.cls ≠ "java/lang/invoke/MethodHandle" ∧ yX6_empties.cls ≠ "java/lang/invoke/VarHandle" ∧ (parseMethodDescriptor yX6_empties.desc).map (fun d => d.parameters.length) = some 0 := by decide +kernel
set_option maxHeartbeats 4000000 in
set_option maxRecDepth 100000 in
theorem s_X6_empties {E : EN} {hX : TX} {hR : TR} {hL : TC} {hT : TC} {hK : TK} {hS : TS} {hP : TP} {M_unitsNow : Int32} {M_way : Int32} {M_sample : Int32} {M_one : Int32} {M_two : Int32} {M_plays : Int32} {M_low : Int32} {M_high : Int32} {M_playsNow : Int32} {M_lowNow : Int32} {M_highNow : Int32} {M_textLong : Int32} {M_answerLong : Int32} {M_place : Int32} {M_units : Nat → Int32} {M_refused : Nat → Int32} {M_left : Nat → Int32} {M_played : Nat → Int32} {M_playedNow : Nat → Int32} {M_canBe : Nat → Int32} {M_text : Nat → Int32} {M_answered : Nat → Int32} {M_numbers : Nat → Int32}  {qR : Int32 × Int32 × Int32 × Int32 × Int32 × Int32} (hf : f_X6_empties M_unitsNow = some qR) : Sem E yX6_empties cX6_empties 2 (some .int) 2 [.ref (eA E 26)] (hX, hR, hL, hT, hK, hS, hP, (M_unitsNow, M_way, M_sample, M_one, M_two, M_plays, M_low, M_high, M_playsNow, M_lowNow, M_highNow, M_textLong, M_answerLong, M_place, M_units, M_refused, M_left, M_played, M_playedNow, M_canBe, M_text, M_answered, M_numbers)) (some (.int qR.1), (hX, hR, hL, hT, hK, hS, hP, (qR.2.1, M_way, qR.2.2.1, M_one, M_two, qR.2.2.2.1, qR.2.2.2.2.1, qR.2.2.2.2.2, M_playsNow, M_lowNow, M_highNow, M_textLong, M_answerLong, M_place, M_units, M_refused, M_left, M_played, M_playedNow, M_canBe, M_text, M_answered, M_numbers))) := by
  refine Sem.mk (lv := [(0, .ref (eA E 26))]) (by decide) (Nat.le_of_ble_eq_true rfl) rfl ?_
  rw [f_X6_empties] at hf
  refine r_aload_n dX6_empties_0 0 rfl ?_
  refine r_get (v := .int M_unitsNow) in_X6 26 ga_M rfl 1 (by decide) wd_764 rfl rfl dX6_empties_1 ?_
  refine r_istore_n (lv2 := [(1, .int M_unitsNow), (0, .ref (eA E 26))]) dX6_empties_4 rfl (by decide) rfl ?_
  refine r_aload_n dX6_empties_5 1 rfl ?_
  obtain ⟨q1, hq1, hf⟩ := hf_bind hf
  refine r_callVv (As := []) (b := (eA E 26)) (st := []) (s_X6_goesEmpty hq1) (by decide) (by decide) wd_877 wd_879 wd_33 wd_74 wd_880 hy_X6_goesEmpty (Rc.obj 26 ga_M rfl) rfl (Nat.le_of_ble_eq_true rfl) dX6_empties_6 ?_
  refine r_iload_n dX6_empties_9 0 rfl ?_
  have e9 := Option.some.inj hf
  subst e9
  exact r_iret rfl dX6_empties_10
-- DuelSamplesModel.next
def f_X6_next  (a0 : Int64) : Option (Int64) := some (((a0 * 1103515245) + 12345) - ((a0 * 1103515245) + 12345) / 2147483648 * 2147483648)
theorem hy_X6_next : yX6_next.cls ≠ "java/lang/invoke/MethodHandle" ∧ yX6_next.cls ≠ "java/lang/invoke/VarHandle" ∧ (parseMethodDescriptor yX6_next.desc).map (fun d => d.parameters.length) = some 1 := by decide +kernel
set_option maxHeartbeats 4000000 in
set_option maxRecDepth 100000 in
theorem s_X6_next {E : EN} {hX : TX} {hR : TR} {hL : TC} {hT : TC} {hK : TK} {hS : TS} {hP : TP} {hM : TM}  {a0 : Int64} {qR : Int64} (hf : f_X6_next a0 = some qR) : Sem E yX6_next cX6_next 2 (some .long) 1 [.long a0] (hX, hR, hL, hT, hK, hS, hP, hM) (some (.long qR), (hX, hR, hL, hT, hK, hS, hP, hM)) := by
  refine Sem.mk (lv := [(0, .long a0)]) (by decide) (Nat.le_of_ble_eq_true rfl) rfl ?_
  rw [f_X6_next] at hf
  refine r_lload_n dX6_next_0 0 rfl ?_
  refine r_ldc2 (v := 1103515245) wd_890 dX6_next_1 ?_
  refine r_lmul dX6_next_4 ?_
  refine r_ldc2 (v := 12345) wd_891 dX6_next_5 ?_
  refine r_ladd dX6_next_8 ?_
  refine r_ldc2 (v := 2147483648) wd_892 dX6_next_9 ?_
  refine r_lrem dX6_next_12 (by decide) ?_
  have e9 := Option.some.inj hf
  subst e9
  exact r_lret rfl dX6_next_13
-- DuelSamplesModel.draw
def lp_X6_draw_44 (a1 : Int32) : Nat → Int64 → Int32 → Int32 → Int32 → (Nat → Int32) → Option (Int32 × Int32 × (Nat → Int32))
  | 0, _, _, _, _, _ => none
  | n9 + 1, v3_44, v5_44, v6_44, M_unitsNow_44, M_units_44 => if a1 ≤ v6_44 then some (v5_44, M_unitsNow_44, M_units_44) else Option.bind (f_X6_next v3_44) (fun (q8 : Int64) => Option.bind (f_X6_lays M_unitsNow_44 M_units_44 (Int64.toInt32 ((q8 / 65536) - (q8 / 65536) / 13 * 13)) (Int64.toInt32 ((q8 / 1024) - (q8 / 1024) / 100 * 100)) (Int64.toInt32 ((q8 / 32768) - (q8 / 32768) / 4 * 4)) (Int64.toInt32 ((q8 / 4096) - (q8 / 4096) / 100 * 100)) (Int64.toInt32 ((q8 / 512) - (q8 / 512) / 100 * 100))) (fun (q9 : Int32 × (Nat → Int32)) => Option.bind (f_X6_at q9.2 v6_44 0) (fun (q10 : Int32) => lp_X6_draw_44 a1 n9 q8 (v5_44 + q10) (v6_44 + 1) q9.1 q9.2)))
def f_X6_draw (M_unitsNow : Int32) (M_sample : Int32) (M_plays : Int32) (M_low : Int32) (M_high : Int32) (M_units : Nat → Int32) (M_refused : Nat → Int32) (a0 : Int32) (a1 : Int32) : Option (Int32 × Int32 × Int32 × Int32 × Int32 × Int32 × (Nat → Int32) × (Nat → Int32)) := Option.bind (f_X6_in (Int32.toInt64 a0) 0 999999) (fun (q1 : Int32) => if q1 = 0 then Option.bind (f_X6_bad M_refused (-2)) (fun (q3 : Int32 × (Nat → Int32)) => some (q3.1, M_unitsNow, M_sample, M_plays, M_low, M_high, M_units, q3.2)) else Option.bind (f_X6_in (Int32.toInt64 a1) 0 12) (fun (q4 : Int32) => if q4 = 0 then Option.bind (f_X6_bad M_refused (-2)) (fun (q12 : Int32 × (Nat → Int32)) => some (q12.1, M_unitsNow, M_sample, M_plays, M_low, M_high, M_units, q12.2)) else Option.bind (f_X6_goesEmpty) (fun (q6 : Int32 × Int32 × Int32 × Int32 × Int32) => Option.bind (lp_X6_draw_44 a1 FU (Int32.toInt64 a0) 0 0 q6.1 M_units) (fun (q11 : Int32 × Int32 × (Nat → Int32)) => some (q11.1, q11.2.1, q6.2.1, q6.2.2.1, q6.2.2.2.1, q6.2.2.2.2, q11.2.2, M_refused)))))
theorem hy_X6_draw : yX6_draw.cls ≠ "java/lang/invoke/MethodHandle" ∧ yX6_draw.cls ≠ "java/lang/invoke/VarHandle" ∧ (parseMethodDescriptor yX6_draw.desc).map (fun d => d.parameters.length) = some 2 := by decide +kernel
set_option maxHeartbeats 4000000 in
set_option maxRecDepth 100000 in
theorem w_X6_draw_44 {E : EN} {res : Option Value × Hp} {hX : TX} {hR : TR} {hL : TC} {hT : TC} {hK : TK} {hS : TS} {hP : TP} {a1 : Int32} {M_way : Int32} {q6 : Int32 × Int32 × Int32 × Int32 × Int32} {M_one : Int32} {M_two : Int32} {M_playsNow : Int32} {M_lowNow : Int32} {M_highNow : Int32} {M_textLong : Int32} {M_answerLong : Int32} {M_place : Int32} {M_refused : Nat → Int32} {M_left : Nat → Int32} {M_played : Nat → Int32} {M_playedNow : Nat → Int32} {M_canBe : Nat → Int32} {M_text : Nat → Int32} {M_answered : Nat → Int32} {M_numbers : Nat → Int32} : ∀ (n9 : Nat) (v3_44 : Int64) (v5_44 : Int32) (v6_44 : Int32) (M_unitsNow_44 : Int32) (M_units_44 : Nat → Int32) (qL : Int32 × Int32 × (Nat → Int32)), lp_X6_draw_44 a1 n9 v3_44 v5_44 v6_44 M_unitsNow_44 M_units_44 = some qL → (Wa E yX6_draw cX6_draw 7 (some .int) 2 res 127 [(5, .int qL.1)] [] (hX, hR, hL, hT, hK, hS, hP, (qL.2.1, M_way, q6.2.1, M_one, M_two, q6.2.2.1, q6.2.2.2.1, q6.2.2.2.2, M_playsNow, M_lowNow, M_highNow, M_textLong, M_answerLong, M_place, qL.2.2, M_refused, M_left, M_played, M_playedNow, M_canBe, M_text, M_answered, M_numbers))) → Wa E yX6_draw cX6_draw 7 (some .int) 2 res 44 [(0, .ref (eA E 26)), (2, .int a1), (3, .long v3_44), (5, .int v5_44), (6, .int v6_44)] [] (hX, hR, hL, hT, hK, hS, hP, (M_unitsNow_44, M_way, q6.2.1, M_one, M_two, q6.2.2.1, q6.2.2.2.1, q6.2.2.2.2, M_playsNow, M_lowNow, M_highNow, M_textLong, M_answerLong, M_place, M_units_44, M_refused, M_left, M_played, M_playedNow, M_canBe, M_text, M_answered, M_numbers)) := by
  intro n9
  induction n9 with
  | zero =>
    intro v3_44 v5_44 v6_44 M_unitsNow_44 M_units_44 qL hf
    exact nomatch (show (none : Option (Int32 × Int32 × (Nat → Int32))) = some qL from hf)
  | succ n9 ih =>
    intro v3_44 v5_44 v6_44 M_unitsNow_44 M_units_44 qL hf kx0
    rw [lp_X6_draw_44] at hf
    refine r_iload dX6_draw_44 4 rfl ?_
    refine r_iload_n dX6_draw_46 1 rfl ?_
    refine r_icmp_ge (tgt := 127) dX6_draw_47 (by decide) (fun c7 => ?_) (fun c7 => ?_)
    · have hf := hf_pos c7 hf
      have e9 := Option.some.inj hf
      subst e9
      exact (Wa.sub [3] rfl kx0)
    · have hf := hf_neg c7 hf
      refine r_lload_n dX6_draw_50 2 rfl ?_
      obtain ⟨q8, hq8, hf⟩ := hf_bind hf
      refine r_callSl (As := [.long v3_44]) (st := []) (s_X6_next hq8) (by decide) (by decide) wd_887 wd_888 wd_74 wd_889 hy_X6_next rfl (Nat.le_of_ble_eq_true rfl) dX6_draw_51 ?_
      refine r_lstore_n (lv2 := [(3, .long q8), (0, .ref (eA E 26)), (2, .int a1), (5, .int v5_44), (6, .int v6_44)]) dX6_draw_54 rfl (by decide) rfl ?_
      refine r_aload_n dX6_draw_55 1 rfl ?_
      refine r_lload_n dX6_draw_56 0 rfl ?_
      refine r_ldc2 (v := 65536) wd_893 dX6_draw_57 ?_
      refine r_ldiv dX6_draw_60 (by decide) ?_
      refine r_ldc2 (v := 13) wd_894 dX6_draw_61 ?_
      refine r_lrem dX6_draw_64 (by decide) ?_
      refine r_l2i dX6_draw_65 ?_
      refine r_lload_n dX6_draw_66 0 rfl ?_
      refine r_ldc2 (v := 1024) wd_895 dX6_draw_67 ?_
      refine r_ldiv dX6_draw_70 (by decide) ?_
      refine r_ldc2 (v := 100) wd_896 dX6_draw_71 ?_
      refine r_lrem dX6_draw_74 (by decide) ?_
      refine r_l2i dX6_draw_75 ?_
      refine r_lload_n dX6_draw_76 0 rfl ?_
      refine r_ldc2 (v := 32768) wd_897 dX6_draw_77 ?_
      refine r_ldiv dX6_draw_80 (by decide) ?_
      refine r_ldc2 (v := 4) wd_864 dX6_draw_81 ?_
      refine r_lrem dX6_draw_84 (by decide) ?_
      refine r_l2i dX6_draw_85 ?_
      refine r_lload_n dX6_draw_86 0 rfl ?_
      refine r_ldc2 (v := 4096) wd_898 dX6_draw_87 ?_
      refine r_ldiv dX6_draw_90 (by decide) ?_
      refine r_ldc2 (v := 100) wd_896 dX6_draw_91 ?_
      refine r_lrem dX6_draw_94 (by decide) ?_
      refine r_l2i dX6_draw_95 ?_
      refine r_lload_n dX6_draw_96 0 rfl ?_
      refine r_ldc2 (v := 512) wd_899 dX6_draw_97 ?_
      refine r_ldiv dX6_draw_100 (by decide) ?_
      refine r_ldc2 (v := 100) wd_896 dX6_draw_101 ?_
      refine r_lrem dX6_draw_104 (by decide) ?_
      refine r_l2i dX6_draw_105 ?_
      obtain ⟨q9, hq9, hf⟩ := hf_bind hf
      refine r_callVv (As := [.int (Int64.toInt32 ((q8 / 65536) - (q8 / 65536) / 13 * 13)), .int (Int64.toInt32 ((q8 / 1024) - (q8 / 1024) / 100 * 100)), .int (Int64.toInt32 ((q8 / 32768) - (q8 / 32768) / 4 * 4)), .int (Int64.toInt32 ((q8 / 4096) - (q8 / 4096) / 100 * 100)), .int (Int64.toInt32 ((q8 / 512) - (q8 / 512) / 100 * 100))]) (b := (eA E 26)) (st := []) (s_X6_lays hq9) (by decide) (by decide) wd_852 wd_854 wd_29 wd_74 wd_855 hy_X6_lays (Rc.obj 26 ga_M rfl) rfl (Nat.le_of_ble_eq_true rfl) dX6_draw_106 ?_
      refine r_iload dX6_draw_109 3 rfl ?_
      refine r_aload_n dX6_draw_111 1 rfl ?_
      refine r_iload dX6_draw_112 4 rfl ?_
      refine r_iconst (v := 0) dX6_draw_114 (by decide) ?_
      obtain ⟨q10, hq10, hf⟩ := hf_bind hf
      refine r_callVi (As := [.int v6_44, .int 0]) (b := (eA E 26)) (st := [.int v5_44]) (s_X6_at hq10) (by decide) (by decide) wd_869 wd_871 wd_32 wd_74 wd_872 hy_X6_at (Rc.obj 26 ga_M rfl) rfl (Nat.le_of_ble_eq_true rfl) dX6_draw_115 ?_
      refine r_iadd dX6_draw_118 ?_
      refine r_istore (lv2 := [(5, .int (v5_44 + q10)), (3, .long q8), (0, .ref (eA E 26)), (2, .int a1), (6, .int v6_44)]) dX6_draw_119 (by decide) rfl ?_
      refine r_iinc (v := (v6_44 + 1)) (lv2 := [(6, .int (v6_44 + 1)), (5, .int (v5_44 + q10)), (3, .long q8), (0, .ref (eA E 26)), (2, .int a1)]) dX6_draw_121 4 rfl rfl (by decide) rfl ?_
      refine r_goto (tgt := 44) dX6_draw_124 (by decide) ?_
      exact (Wa.sub [3, 4, 2, 1, 0] rfl (ih _ _ _ _ _ _ hf kx0))
set_option maxHeartbeats 4000000 in
set_option maxRecDepth 100000 in
theorem s_X6_draw {E : EN} {hX : TX} {hR : TR} {hL : TC} {hT : TC} {hK : TK} {hS : TS} {hP : TP} {M_unitsNow : Int32} {M_way : Int32} {M_sample : Int32} {M_one : Int32} {M_two : Int32} {M_plays : Int32} {M_low : Int32} {M_high : Int32} {M_playsNow : Int32} {M_lowNow : Int32} {M_highNow : Int32} {M_textLong : Int32} {M_answerLong : Int32} {M_place : Int32} {M_units : Nat → Int32} {M_refused : Nat → Int32} {M_left : Nat → Int32} {M_played : Nat → Int32} {M_playedNow : Nat → Int32} {M_canBe : Nat → Int32} {M_text : Nat → Int32} {M_answered : Nat → Int32} {M_numbers : Nat → Int32} {a0 : Int32} {a1 : Int32} {qR : Int32 × Int32 × Int32 × Int32 × Int32 × Int32 × (Nat → Int32) × (Nat → Int32)} (hf : f_X6_draw M_unitsNow M_sample M_plays M_low M_high M_units M_refused a0 a1 = some qR) : Sem E yX6_draw cX6_draw 7 (some .int) 2 [.ref (eA E 26), .int a0, .int a1] (hX, hR, hL, hT, hK, hS, hP, (M_unitsNow, M_way, M_sample, M_one, M_two, M_plays, M_low, M_high, M_playsNow, M_lowNow, M_highNow, M_textLong, M_answerLong, M_place, M_units, M_refused, M_left, M_played, M_playedNow, M_canBe, M_text, M_answered, M_numbers)) (some (.int qR.1), (hX, hR, hL, hT, hK, hS, hP, (qR.2.1, M_way, qR.2.2.1, M_one, M_two, qR.2.2.2.1, qR.2.2.2.2.1, qR.2.2.2.2.2.1, M_playsNow, M_lowNow, M_highNow, M_textLong, M_answerLong, M_place, qR.2.2.2.2.2.2.1, qR.2.2.2.2.2.2.2, M_left, M_played, M_playedNow, M_canBe, M_text, M_answered, M_numbers))) := by
  refine Sem.mk (lv := [(0, .ref (eA E 26)), (1, .int a0), (2, .int a1)]) (by decide) (Nat.le_of_ble_eq_true rfl) rfl ?_
  rw [f_X6_draw] at hf
  refine r_iload_n dX6_draw_0 1 rfl ?_
  refine r_i2l dX6_draw_1 ?_
  refine r_lconst (v := 0) dX6_draw_2 (by decide) ?_
  refine r_ldc2 (v := 999999) wd_885 dX6_draw_3 ?_
  obtain ⟨q1, hq1, hf⟩ := hf_bind hf
  refine r_callSi (As := [.long (Int32.toInt64 a0), .long 0, .long 999999]) (st := []) (s_X6_in hq1) (by decide) (by decide) wd_841 wd_842 wd_74 wd_843 hy_X6_in rfl (Nat.le_of_ble_eq_true rfl) dX6_draw_6 ?_
  refine r_if_eq (tgt := 24) dX6_draw_9 (by decide) (fun c2 => ?_) (fun c2 => ?_)
  · have hf := hf_pos c2 hf
    refine r_aload_n dX6_draw_24 0 rfl ?_
    refine r_bipush (v := (-2)) dX6_draw_25 (by decide) ?_
    obtain ⟨q3, hq3, hf⟩ := hf_bind hf
    refine r_callVi (As := [.int (-2)]) (b := (eA E 26)) (st := []) (s_X6_bad hq3) (by decide) (by decide) wd_844 wd_846 wd_27 wd_74 wd_847 hy_X6_bad (Rc.obj 26 ga_M rfl) rfl (Nat.le_of_ble_eq_true rfl) dX6_draw_27 ?_
    have e9 := Option.some.inj hf
    subst e9
    exact r_iret rfl dX6_draw_30
  · have hf := hf_neg c2 hf
    refine r_iload_n dX6_draw_12 2 rfl ?_
    refine r_i2l dX6_draw_13 ?_
    refine r_lconst (v := 0) dX6_draw_14 (by decide) ?_
    refine r_ldc2 (v := 12) wd_886 dX6_draw_15 ?_
    obtain ⟨q4, hq4, hf⟩ := hf_bind hf
    refine r_callSi (As := [.long (Int32.toInt64 a1), .long 0, .long 12]) (st := []) (s_X6_in hq4) (by decide) (by decide) wd_841 wd_842 wd_74 wd_843 hy_X6_in rfl (Nat.le_of_ble_eq_true rfl) dX6_draw_18 ?_
    refine r_if_ne (tgt := 31) dX6_draw_21 (by decide) (fun c5 => ?_) (fun c5 => ?_)
    · have hf := hf_neg c5 hf
      refine r_iload_n dX6_draw_31 1 rfl ?_
      refine r_i2l dX6_draw_32 ?_
      refine r_lstore_n (lv2 := [(3, .long (Int32.toInt64 a0)), (0, .ref (eA E 26)), (1, .int a0), (2, .int a1)]) dX6_draw_33 rfl (by decide) rfl ?_
      refine r_iconst (v := 0) dX6_draw_34 (by decide) ?_
      refine r_istore (lv2 := [(5, .int 0), (3, .long (Int32.toInt64 a0)), (0, .ref (eA E 26)), (1, .int a0), (2, .int a1)]) dX6_draw_35 (by decide) rfl ?_
      refine r_aload_n dX6_draw_37 2 rfl ?_
      obtain ⟨q6, hq6, hf⟩ := hf_bind hf
      refine r_callVv (As := []) (b := (eA E 26)) (st := []) (s_X6_goesEmpty hq6) (by decide) (by decide) wd_877 wd_879 wd_33 wd_74 wd_880 hy_X6_goesEmpty (Rc.obj 26 ga_M rfl) rfl (Nat.le_of_ble_eq_true rfl) dX6_draw_38 ?_
      refine r_iconst (v := 0) dX6_draw_41 (by decide) ?_
      refine r_istore (lv2 := [(6, .int 0), (5, .int 0), (3, .long (Int32.toInt64 a0)), (0, .ref (eA E 26)), (1, .int a0), (2, .int a1)]) dX6_draw_42 (by decide) rfl ?_
      obtain ⟨q11, hq11, hf⟩ := hf_bind hf
      refine (Wa.sub [3, 5, 2, 1, 0] rfl (w_X6_draw_44 _ _ _ _ _ _ _ hq11 ?_))
      refine r_iload dX6_draw_127 0 rfl ?_
      have e9 := Option.some.inj hf
      subst e9
      exact r_iret rfl dX6_draw_129
    · have hf := hf_pos c5 hf
      refine r_aload_n dX6_draw_24 0 rfl ?_
      refine r_bipush (v := (-2)) dX6_draw_25 (by decide) ?_
      obtain ⟨q12, hq12, hf⟩ := hf_bind hf
      refine r_callVi (As := [.int (-2)]) (b := (eA E 26)) (st := []) (s_X6_bad hq12) (by decide) (by decide) wd_844 wd_846 wd_27 wd_74 wd_847 hy_X6_bad (Rc.obj 26 ga_M rfl) rfl (Nat.le_of_ble_eq_true rfl) dX6_draw_27 ?_
      have e9 := Option.some.inj hf
      subst e9
      exact r_iret rfl dX6_draw_30
-- DuelSamplesModel.has
def f_X6_has  (a0 : Int32) (a1 : Int32) : Option (Int32) := if ((a0 >>> (a1 &&& 31)) &&& 1) = 1 then some 1 else some 0
theorem hy_X6_has : yX6_has.cls ≠ "java/lang/invoke/MethodHandle" ∧ yX6_has.cls ≠ "java/lang/invoke/VarHandle" ∧ (parseMethodDescriptor yX6_has.desc).map (fun d => d.parameters.length) = some 2 := by decide +kernel
set_option maxHeartbeats 4000000 in
set_option maxRecDepth 100000 in
theorem s_X6_has {E : EN} {hX : TX} {hR : TR} {hL : TC} {hT : TC} {hK : TK} {hS : TS} {hP : TP} {hM : TM}  {a0 : Int32} {a1 : Int32} {qR : Int32} (hf : f_X6_has a0 a1 = some qR) : Sem E yX6_has cX6_has 2 (some .boolean) 1 [.int a0, .int a1] (hX, hR, hL, hT, hK, hS, hP, hM) (some (.int qR), (hX, hR, hL, hT, hK, hS, hP, hM)) := by
  refine Sem.mk (lv := [(0, .int a0), (1, .int a1)]) (by decide) (Nat.le_of_ble_eq_true rfl) rfl ?_
  rw [f_X6_has] at hf
  refine r_iload_n dX6_has_0 0 rfl ?_
  refine r_iload_n dX6_has_1 1 rfl ?_
  refine r_ishr dX6_has_2 ?_
  refine r_iconst (v := 1) dX6_has_3 (by decide) ?_
  refine r_iand dX6_has_4 ?_
  refine r_iconst (v := 1) dX6_has_5 (by decide) ?_
  refine r_icmp_ne (tgt := 13) dX6_has_6 (by decide) (fun c1 => ?_) (fun c1 => ?_)
  · have hf := hf_neg c1 hf
    refine r_iconst (v := 0) dX6_has_13 (by decide) ?_
    have e9 := Option.some.inj hf
    subst e9
    exact r_zret rfl (narB (Or.inl rfl)) dX6_has_14
  · have hf := hf_pos c1 hf
    refine r_iconst (v := 1) dX6_has_9 (by decide) ?_
    refine r_goto (tgt := 14) dX6_has_10 (by decide) ?_
    have e9 := Option.some.inj hf
    subst e9
    exact r_zret rfl (narB (Or.inr rfl)) dX6_has_14
-- DuelSamplesModel.of
def f_X6_of (M_unitsNow : Int32) (M_sample : Int32) (M_units : Nat → Int32) (M_refused : Nat → Int32) (a0 : Int32) (a1 : Int32) : Option (Int32 × (Nat → Int32)) := Option.bind (f_X6_isUnit M_unitsNow a0) (fun (q1 : Int32) => if q1 = 0 then Option.bind (f_X6_bad M_refused (-2)) (fun (q3 : Int32 × (Nat → Int32)) => some (q3.1, q3.2)) else Option.bind (f_X6_in (Int32.toInt64 a1) 0 5) (fun (q4 : Int32) => if q4 = 0 then Option.bind (f_X6_bad M_refused (-2)) (fun (q10 : Int32 × (Nat → Int32)) => some (q10.1, q10.2)) else if 5 ≤ a1 then Option.bind (f_X6_has M_sample a0) (fun (q7 : Int32) => if q7 = 0 then some (0, M_refused) else some (1, M_refused)) else Option.bind (f_X6_at M_units a0 a1) (fun (q9 : Int32) => some (q9, M_refused))))
theorem hy_X6_of : yX6_of.cls ≠ "java/lang/invoke/MethodHandle" ∧ yX6_of.cls ≠ "java/lang/invoke/VarHandle" ∧ (parseMethodDescriptor yX6_of.desc).map (fun d => d.parameters.length) = some 2 := by decide +kernel
set_option maxHeartbeats 4000000 in
set_option maxRecDepth 100000 in
theorem s_X6_of {E : EN} {hX : TX} {hR : TR} {hL : TC} {hT : TC} {hK : TK} {hS : TS} {hP : TP} {M_unitsNow : Int32} {M_way : Int32} {M_sample : Int32} {M_one : Int32} {M_two : Int32} {M_plays : Int32} {M_low : Int32} {M_high : Int32} {M_playsNow : Int32} {M_lowNow : Int32} {M_highNow : Int32} {M_textLong : Int32} {M_answerLong : Int32} {M_place : Int32} {M_units : Nat → Int32} {M_refused : Nat → Int32} {M_left : Nat → Int32} {M_played : Nat → Int32} {M_playedNow : Nat → Int32} {M_canBe : Nat → Int32} {M_text : Nat → Int32} {M_answered : Nat → Int32} {M_numbers : Nat → Int32} {a0 : Int32} {a1 : Int32} {qR : Int32 × (Nat → Int32)} (hf : f_X6_of M_unitsNow M_sample M_units M_refused a0 a1 = some qR) : Sem E yX6_of cX6_of 3 (some .int) 3 [.ref (eA E 26), .int a0, .int a1] (hX, hR, hL, hT, hK, hS, hP, (M_unitsNow, M_way, M_sample, M_one, M_two, M_plays, M_low, M_high, M_playsNow, M_lowNow, M_highNow, M_textLong, M_answerLong, M_place, M_units, M_refused, M_left, M_played, M_playedNow, M_canBe, M_text, M_answered, M_numbers)) (some (.int qR.1), (hX, hR, hL, hT, hK, hS, hP, (M_unitsNow, M_way, M_sample, M_one, M_two, M_plays, M_low, M_high, M_playsNow, M_lowNow, M_highNow, M_textLong, M_answerLong, M_place, M_units, qR.2, M_left, M_played, M_playedNow, M_canBe, M_text, M_answered, M_numbers))) := by
  refine Sem.mk (lv := [(0, .ref (eA E 26)), (1, .int a0), (2, .int a1)]) (by decide) (Nat.le_of_ble_eq_true rfl) rfl ?_
  rw [f_X6_of] at hf
  refine r_aload_n dX6_of_0 0 rfl ?_
  refine r_iload_n dX6_of_1 1 rfl ?_
  obtain ⟨q1, hq1, hf⟩ := hf_bind hf
  refine r_callVi (As := [.int a0]) (b := (eA E 26)) (st := []) (s_X6_isUnit hq1) (by decide) (by decide) wd_860 wd_862 wd_30 wd_74 wd_863 hy_X6_isUnit (Rc.obj 26 ga_M rfl) rfl (Nat.le_of_ble_eq_true rfl) dX6_of_2 ?_
  refine r_if_eq (tgt := 20) dX6_of_5 (by decide) (fun c2 => ?_) (fun c2 => ?_)
  · have hf := hf_pos c2 hf
    refine r_aload_n dX6_of_20 0 rfl ?_
    refine r_bipush (v := (-2)) dX6_of_21 (by decide) ?_
    obtain ⟨q3, hq3, hf⟩ := hf_bind hf
    refine r_callVi (As := [.int (-2)]) (b := (eA E 26)) (st := []) (s_X6_bad hq3) (by decide) (by decide) wd_844 wd_846 wd_27 wd_74 wd_847 hy_X6_bad (Rc.obj 26 ga_M rfl) rfl (Nat.le_of_ble_eq_true rfl) dX6_of_23 ?_
    have e9 := Option.some.inj hf
    subst e9
    exact r_iret rfl dX6_of_26
  · have hf := hf_neg c2 hf
    refine r_iload_n dX6_of_8 2 rfl ?_
    refine r_i2l dX6_of_9 ?_
    refine r_lconst (v := 0) dX6_of_10 (by decide) ?_
    refine r_ldc2 (v := 5) wd_904 dX6_of_11 ?_
    obtain ⟨q4, hq4, hf⟩ := hf_bind hf
    refine r_callSi (As := [.long (Int32.toInt64 a1), .long 0, .long 5]) (st := []) (s_X6_in hq4) (by decide) (by decide) wd_841 wd_842 wd_74 wd_843 hy_X6_in rfl (Nat.le_of_ble_eq_true rfl) dX6_of_14 ?_
    refine r_if_ne (tgt := 27) dX6_of_17 (by decide) (fun c5 => ?_) (fun c5 => ?_)
    · have hf := hf_neg c5 hf
      refine r_iload_n dX6_of_27 2 rfl ?_
      refine r_iconst (v := 5) dX6_of_28 (by decide) ?_
      refine r_icmp_ge (tgt := 41) dX6_of_29 (by decide) (fun c6 => ?_) (fun c6 => ?_)
      · have hf := hf_pos c6 hf
        refine r_aload_n dX6_of_41 0 rfl ?_
        refine r_get (v := .int M_sample) in_X6 26 ga_M rfl 3 (by decide) wd_766 rfl rfl dX6_of_42 ?_
        refine r_iload_n dX6_of_45 1 rfl ?_
        obtain ⟨q7, hq7, hf⟩ := hf_bind hf
        refine r_callSi (As := [.int M_sample, .int a0]) (st := []) (s_X6_has hq7) (by decide) (by decide) wd_905 wd_906 wd_74 wd_907 hy_X6_has rfl (Nat.le_of_ble_eq_true rfl) dX6_of_46 ?_
        refine r_if_eq (tgt := 56) dX6_of_49 (by decide) (fun c8 => ?_) (fun c8 => ?_)
        · have hf := hf_pos c8 hf
          refine r_iconst (v := 0) dX6_of_56 (by decide) ?_
          have e9 := Option.some.inj hf
          subst e9
          exact r_iret rfl dX6_of_57
        · have hf := hf_neg c8 hf
          refine r_iconst (v := 1) dX6_of_52 (by decide) ?_
          refine r_goto (tgt := 57) dX6_of_53 (by decide) ?_
          have e9 := Option.some.inj hf
          subst e9
          exact r_iret rfl dX6_of_57
      · have hf := hf_neg c6 hf
        refine r_aload_n dX6_of_32 0 rfl ?_
        refine r_iload_n dX6_of_33 1 rfl ?_
        refine r_iload_n dX6_of_34 2 rfl ?_
        obtain ⟨q9, hq9, hf⟩ := hf_bind hf
        refine r_callVi (As := [.int a0, .int a1]) (b := (eA E 26)) (st := []) (s_X6_at hq9) (by decide) (by decide) wd_869 wd_871 wd_32 wd_74 wd_872 hy_X6_at (Rc.obj 26 ga_M rfl) rfl (Nat.le_of_ble_eq_true rfl) dX6_of_35 ?_
        refine r_goto (tgt := 57) dX6_of_38 (by decide) ?_
        have e9 := Option.some.inj hf
        subst e9
        exact r_iret rfl dX6_of_57
    · have hf := hf_pos c5 hf
      refine r_aload_n dX6_of_20 0 rfl ?_
      refine r_bipush (v := (-2)) dX6_of_21 (by decide) ?_
      obtain ⟨q10, hq10, hf⟩ := hf_bind hf
      refine r_callVi (As := [.int (-2)]) (b := (eA E 26)) (st := []) (s_X6_bad hq10) (by decide) (by decide) wd_844 wd_846 wd_27 wd_74 wd_847 hy_X6_bad (Rc.obj 26 ga_M rfl) rfl (Nat.le_of_ble_eq_true rfl) dX6_of_23 ?_
      have e9 := Option.some.inj hf
      subst e9
      exact r_iret rfl dX6_of_26
-- DuelSamplesModel.sumOf
def lp_X6_sumOf_4 (M_unitsNow : Int32) (M_units : Nat → Int32) (a0 : Int32) : Nat → Int32 → Int32 → Option (Int32)
  | 0, _, _ => none
  | n9 + 1, v2_4, v3_4 => if M_unitsNow ≤ v3_4 then some v2_4 else Option.bind (f_X6_at M_units v3_4 0) (fun (q2 : Int32) => Option.bind (if q2 ≤ 0 then some 0 else Option.bind (f_X6_at M_units v3_4 a0) (fun (q5 : Int32) => some q5)) (fun (q4 : Int32) => lp_X6_sumOf_4 M_unitsNow M_units a0 n9 (v2_4 + q4) (v3_4 + 1)))
def f_X6_sumOf (M_unitsNow : Int32) (M_units : Nat → Int32) (a0 : Int32) : Option (Int32) := Option.bind (lp_X6_sumOf_4 M_unitsNow M_units a0 FU 0 0) (fun (q6 : Int32) => some q6)
theorem hy_X6_sumOf : yX6_sumOf.cls ≠ "java/lang/invoke/MethodHandle" ∧ yX6_sumOf.cls ≠ "java/lang/invoke/VarHandle" ∧ (parseMethodDescriptor yX6_sumOf.desc).map (fun d => d.parameters.length) = some 1 := by decide +kernel
set_option maxHeartbeats 4000000 in
set_option maxRecDepth 100000 in
theorem w_X6_sumOf_4 {E : EN} {res : Option Value × Hp} {hX : TX} {hR : TR} {hL : TC} {hT : TC} {hK : TK} {hS : TS} {hP : TP} {a0 : Int32} {M_unitsNow : Int32} {M_way : Int32} {M_sample : Int32} {M_one : Int32} {M_two : Int32} {M_plays : Int32} {M_low : Int32} {M_high : Int32} {M_playsNow : Int32} {M_lowNow : Int32} {M_highNow : Int32} {M_textLong : Int32} {M_answerLong : Int32} {M_place : Int32} {M_units : Nat → Int32} {M_refused : Nat → Int32} {M_left : Nat → Int32} {M_played : Nat → Int32} {M_playedNow : Nat → Int32} {M_canBe : Nat → Int32} {M_text : Nat → Int32} {M_answered : Nat → Int32} {M_numbers : Nat → Int32} : ∀ (n9 : Nat) (v2_4 : Int32) (v3_4 : Int32) (qL : Int32), lp_X6_sumOf_4 M_unitsNow M_units a0 n9 v2_4 v3_4 = some qL → (Wa E yX6_sumOf cX6_sumOf 4 (some .int) 2 res 40 [(2, .int qL)] [] (hX, hR, hL, hT, hK, hS, hP, (M_unitsNow, M_way, M_sample, M_one, M_two, M_plays, M_low, M_high, M_playsNow, M_lowNow, M_highNow, M_textLong, M_answerLong, M_place, M_units, M_refused, M_left, M_played, M_playedNow, M_canBe, M_text, M_answered, M_numbers))) → Wa E yX6_sumOf cX6_sumOf 4 (some .int) 2 res 4 [(0, .ref (eA E 26)), (1, .int a0), (2, .int v2_4), (3, .int v3_4)] [] (hX, hR, hL, hT, hK, hS, hP, (M_unitsNow, M_way, M_sample, M_one, M_two, M_plays, M_low, M_high, M_playsNow, M_lowNow, M_highNow, M_textLong, M_answerLong, M_place, M_units, M_refused, M_left, M_played, M_playedNow, M_canBe, M_text, M_answered, M_numbers)) := by
  intro n9
  induction n9 with
  | zero =>
    intro v2_4 v3_4 qL hf
    exact nomatch (show (none : Option (Int32)) = some qL from hf)
  | succ n9 ih =>
    intro v2_4 v3_4 qL hf kx0
    rw [lp_X6_sumOf_4] at hf
    refine r_iload_n dX6_sumOf_4 3 rfl ?_
    refine r_aload_n dX6_sumOf_5 0 rfl ?_
    refine r_get (v := .int M_unitsNow) in_X6 26 ga_M rfl 1 (by decide) wd_764 rfl rfl dX6_sumOf_6 ?_
    refine r_icmp_ge (tgt := 40) dX6_sumOf_9 (by decide) (fun c1 => ?_) (fun c1 => ?_)
    · have hf := hf_pos c1 hf
      have e9 := Option.some.inj hf
      subst e9
      exact (Wa.sub [2] rfl kx0)
    · have hf := hf_neg c1 hf
      refine r_iload_n dX6_sumOf_12 2 rfl ?_
      refine r_aload_n dX6_sumOf_13 0 rfl ?_
      refine r_iload_n dX6_sumOf_14 3 rfl ?_
      refine r_iconst (v := 0) dX6_sumOf_15 (by decide) ?_
      obtain ⟨q2, hq2, hf⟩ := hf_bind hf
      refine r_callVi (As := [.int v3_4, .int 0]) (b := (eA E 26)) (st := [.int v2_4]) (s_X6_at hq2) (by decide) (by decide) wd_869 wd_871 wd_32 wd_74 wd_872 hy_X6_at (Rc.obj 26 ga_M rfl) rfl (Nat.le_of_ble_eq_true rfl) dX6_sumOf_16 ?_
      obtain ⟨q4, hq4, hf⟩ := hf_bind hf
      have kj4 : Wa E yX6_sumOf cX6_sumOf 4 (some .int) 2 res 32 [(0, .ref (eA E 26)), (1, .int a0), (3, .int v3_4)] [.int q4, .int v2_4] (hX, hR, hL, hT, hK, hS, hP, (M_unitsNow, M_way, M_sample, M_one, M_two, M_plays, M_low, M_high, M_playsNow, M_lowNow, M_highNow, M_textLong, M_answerLong, M_place, M_units, M_refused, M_left, M_played, M_playedNow, M_canBe, M_text, M_answered, M_numbers)) := by
        refine r_iadd dX6_sumOf_32 ?_
        refine r_istore_n (lv2 := [(2, .int (v2_4 + q4)), (0, .ref (eA E 26)), (1, .int a0), (3, .int v3_4)]) dX6_sumOf_33 rfl (by decide) rfl ?_
        refine r_iinc (v := (v3_4 + 1)) (lv2 := [(3, .int (v3_4 + 1)), (2, .int (v2_4 + q4)), (0, .ref (eA E 26)), (1, .int a0)]) dX6_sumOf_34 3 rfl rfl (by decide) rfl ?_
        refine r_goto (tgt := 4) dX6_sumOf_37 (by decide) ?_
        exact (Wa.sub [2, 3, 1, 0] rfl (ih _ _ _ hf kx0))
      have hf := hq4
      refine r_if_le (tgt := 31) dX6_sumOf_19 (by decide) (fun c3 => ?_) (fun c3 => ?_)
      · have hf := hf_pos c3 hf
        refine r_iconst (v := 0) dX6_sumOf_31 (by decide) ?_
        have e9 := Option.some.inj hf
        subst e9
        exact (Wa.sub [0, 1, 3] rfl kj4)
      · have hf := hf_neg c3 hf
        refine r_aload_n dX6_sumOf_22 0 rfl ?_
        refine r_iload_n dX6_sumOf_23 3 rfl ?_
        refine r_iload_n dX6_sumOf_24 1 rfl ?_
        obtain ⟨q5, hq5, hf⟩ := hf_bind hf
        refine r_callVi (As := [.int v3_4, .int a0]) (b := (eA E 26)) (st := [.int v2_4]) (s_X6_at hq5) (by decide) (by decide) wd_869 wd_871 wd_32 wd_74 wd_872 hy_X6_at (Rc.obj 26 ga_M rfl) rfl (Nat.le_of_ble_eq_true rfl) dX6_sumOf_25 ?_
        refine r_goto (tgt := 32) dX6_sumOf_28 (by decide) ?_
        have e9 := Option.some.inj hf
        subst e9
        exact (Wa.sub [0, 1, 3] rfl kj4)
set_option maxHeartbeats 4000000 in
set_option maxRecDepth 100000 in
theorem s_X6_sumOf {E : EN} {hX : TX} {hR : TR} {hL : TC} {hT : TC} {hK : TK} {hS : TS} {hP : TP} {M_unitsNow : Int32} {M_way : Int32} {M_sample : Int32} {M_one : Int32} {M_two : Int32} {M_plays : Int32} {M_low : Int32} {M_high : Int32} {M_playsNow : Int32} {M_lowNow : Int32} {M_highNow : Int32} {M_textLong : Int32} {M_answerLong : Int32} {M_place : Int32} {M_units : Nat → Int32} {M_refused : Nat → Int32} {M_left : Nat → Int32} {M_played : Nat → Int32} {M_playedNow : Nat → Int32} {M_canBe : Nat → Int32} {M_text : Nat → Int32} {M_answered : Nat → Int32} {M_numbers : Nat → Int32} {a0 : Int32} {qR : Int32} (hf : f_X6_sumOf M_unitsNow M_units a0 = some qR) : Sem E yX6_sumOf cX6_sumOf 4 (some .int) 2 [.ref (eA E 26), .int a0] (hX, hR, hL, hT, hK, hS, hP, (M_unitsNow, M_way, M_sample, M_one, M_two, M_plays, M_low, M_high, M_playsNow, M_lowNow, M_highNow, M_textLong, M_answerLong, M_place, M_units, M_refused, M_left, M_played, M_playedNow, M_canBe, M_text, M_answered, M_numbers)) (some (.int qR), (hX, hR, hL, hT, hK, hS, hP, (M_unitsNow, M_way, M_sample, M_one, M_two, M_plays, M_low, M_high, M_playsNow, M_lowNow, M_highNow, M_textLong, M_answerLong, M_place, M_units, M_refused, M_left, M_played, M_playedNow, M_canBe, M_text, M_answered, M_numbers))) := by
  refine Sem.mk (lv := [(0, .ref (eA E 26)), (1, .int a0)]) (by decide) (Nat.le_of_ble_eq_true rfl) rfl ?_
  rw [f_X6_sumOf] at hf
  refine r_iconst (v := 0) dX6_sumOf_0 (by decide) ?_
  refine r_istore_n (lv2 := [(2, .int 0), (0, .ref (eA E 26)), (1, .int a0)]) dX6_sumOf_1 rfl (by decide) rfl ?_
  refine r_iconst (v := 0) dX6_sumOf_2 (by decide) ?_
  refine r_istore_n (lv2 := [(3, .int 0), (2, .int 0), (0, .ref (eA E 26)), (1, .int a0)]) dX6_sumOf_3 rfl (by decide) rfl ?_
  obtain ⟨q6, hq6, hf⟩ := hf_bind hf
  refine (Wa.sub [2, 3, 1, 0] rfl (w_X6_sumOf_4 _ _ _ _ hq6 ?_))
  refine r_iload_n dX6_sumOf_40 0 rfl ?_
  have e9 := Option.some.inj hf
  subst e9
  exact r_iret rfl dX6_sumOf_41
-- DuelSamplesModel.opens
def lp_X6_opens_4 (M_unitsNow : Int32) (M_units : Nat → Int32) : Nat → Int32 → Int32 → Option (Int32)
  | 0, _, _ => none
  | n9 + 1, v1_4, v2_4 => if M_unitsNow ≤ v2_4 then some v1_4 else Option.bind (f_X6_at M_units v2_4 0) (fun (q2 : Int32) => Option.bind (f_X6_in (Int32.toInt64 q2) 1 11) (fun (q3 : Int32) => Option.bind (if q3 = 0 then some 0 else some 1) (fun (q5 : Int32) => lp_X6_opens_4 M_unitsNow M_units n9 (v1_4 + q5) (v2_4 + 1))))
def f_X6_opens (M_unitsNow : Int32) (M_units : Nat → Int32)  : Option (Int32) := Option.bind (lp_X6_opens_4 M_unitsNow M_units FU 0 0) (fun (q6 : Int32) => some q6)
theorem hy_X6_opens : yX6_opens.cls ≠ "java/lang/invoke/MethodHandle" ∧ yX6_opens.cls ≠ "java/lang/invoke/VarHandle" ∧ (parseMethodDescriptor yX6_opens.desc).map (fun d => d.parameters.length) = some 0 := by decide +kernel
set_option maxHeartbeats 4000000 in
set_option maxRecDepth 100000 in
theorem w_X6_opens_4 {E : EN} {res : Option Value × Hp} {hX : TX} {hR : TR} {hL : TC} {hT : TC} {hK : TK} {hS : TS} {hP : TP} {M_unitsNow : Int32} {M_way : Int32} {M_sample : Int32} {M_one : Int32} {M_two : Int32} {M_plays : Int32} {M_low : Int32} {M_high : Int32} {M_playsNow : Int32} {M_lowNow : Int32} {M_highNow : Int32} {M_textLong : Int32} {M_answerLong : Int32} {M_place : Int32} {M_units : Nat → Int32} {M_refused : Nat → Int32} {M_left : Nat → Int32} {M_played : Nat → Int32} {M_playedNow : Nat → Int32} {M_canBe : Nat → Int32} {M_text : Nat → Int32} {M_answered : Nat → Int32} {M_numbers : Nat → Int32} : ∀ (n9 : Nat) (v1_4 : Int32) (v2_4 : Int32) (qL : Int32), lp_X6_opens_4 M_unitsNow M_units n9 v1_4 v2_4 = some qL → (Wa E yX6_opens cX6_opens 3 (some .int) 2 res 43 [(1, .int qL)] [] (hX, hR, hL, hT, hK, hS, hP, (M_unitsNow, M_way, M_sample, M_one, M_two, M_plays, M_low, M_high, M_playsNow, M_lowNow, M_highNow, M_textLong, M_answerLong, M_place, M_units, M_refused, M_left, M_played, M_playedNow, M_canBe, M_text, M_answered, M_numbers))) → Wa E yX6_opens cX6_opens 3 (some .int) 2 res 4 [(0, .ref (eA E 26)), (1, .int v1_4), (2, .int v2_4)] [] (hX, hR, hL, hT, hK, hS, hP, (M_unitsNow, M_way, M_sample, M_one, M_two, M_plays, M_low, M_high, M_playsNow, M_lowNow, M_highNow, M_textLong, M_answerLong, M_place, M_units, M_refused, M_left, M_played, M_playedNow, M_canBe, M_text, M_answered, M_numbers)) := by
  intro n9
  induction n9 with
  | zero =>
    intro v1_4 v2_4 qL hf
    exact nomatch (show (none : Option (Int32)) = some qL from hf)
  | succ n9 ih =>
    intro v1_4 v2_4 qL hf kx0
    rw [lp_X6_opens_4] at hf
    refine r_iload_n dX6_opens_4 2 rfl ?_
    refine r_aload_n dX6_opens_5 0 rfl ?_
    refine r_get (v := .int M_unitsNow) in_X6 26 ga_M rfl 1 (by decide) wd_764 rfl rfl dX6_opens_6 ?_
    refine r_icmp_ge (tgt := 43) dX6_opens_9 (by decide) (fun c1 => ?_) (fun c1 => ?_)
    · have hf := hf_pos c1 hf
      have e9 := Option.some.inj hf
      subst e9
      exact (Wa.sub [1] rfl kx0)
    · have hf := hf_neg c1 hf
      refine r_iload_n dX6_opens_12 1 rfl ?_
      refine r_aload_n dX6_opens_13 0 rfl ?_
      refine r_iload_n dX6_opens_14 2 rfl ?_
      refine r_iconst (v := 0) dX6_opens_15 (by decide) ?_
      obtain ⟨q2, hq2, hf⟩ := hf_bind hf
      refine r_callVi (As := [.int v2_4, .int 0]) (b := (eA E 26)) (st := [.int v1_4]) (s_X6_at hq2) (by decide) (by decide) wd_869 wd_871 wd_32 wd_74 wd_872 hy_X6_at (Rc.obj 26 ga_M rfl) rfl (Nat.le_of_ble_eq_true rfl) dX6_opens_16 ?_
      refine r_i2l dX6_opens_19 ?_
      refine r_lconst (v := 1) dX6_opens_20 (by decide) ?_
      refine r_ldc2 (v := 11) wd_921 dX6_opens_21 ?_
      obtain ⟨q3, hq3, hf⟩ := hf_bind hf
      refine r_callSi (As := [.long (Int32.toInt64 q2), .long 1, .long 11]) (st := [.int v1_4]) (s_X6_in hq3) (by decide) (by decide) wd_841 wd_842 wd_74 wd_843 hy_X6_in rfl (Nat.le_of_ble_eq_true rfl) dX6_opens_24 ?_
      obtain ⟨q5, hq5, hf⟩ := hf_bind hf
      have kj5 : Wa E yX6_opens cX6_opens 3 (some .int) 2 res 35 [(0, .ref (eA E 26)), (2, .int v2_4)] [.int q5, .int v1_4] (hX, hR, hL, hT, hK, hS, hP, (M_unitsNow, M_way, M_sample, M_one, M_two, M_plays, M_low, M_high, M_playsNow, M_lowNow, M_highNow, M_textLong, M_answerLong, M_place, M_units, M_refused, M_left, M_played, M_playedNow, M_canBe, M_text, M_answered, M_numbers)) := by
        refine r_iadd dX6_opens_35 ?_
        refine r_istore_n (lv2 := [(1, .int (v1_4 + q5)), (0, .ref (eA E 26)), (2, .int v2_4)]) dX6_opens_36 rfl (by decide) rfl ?_
        refine r_iinc (v := (v2_4 + 1)) (lv2 := [(2, .int (v2_4 + 1)), (1, .int (v1_4 + q5)), (0, .ref (eA E 26))]) dX6_opens_37 2 rfl rfl (by decide) rfl ?_
        refine r_goto (tgt := 4) dX6_opens_40 (by decide) ?_
        exact (Wa.sub [2, 1, 0] rfl (ih _ _ _ hf kx0))
      have hf := hq5
      refine r_if_eq (tgt := 34) dX6_opens_27 (by decide) (fun c4 => ?_) (fun c4 => ?_)
      · have hf := hf_pos c4 hf
        refine r_iconst (v := 0) dX6_opens_34 (by decide) ?_
        have e9 := Option.some.inj hf
        subst e9
        exact (Wa.sub [0, 2] rfl kj5)
      · have hf := hf_neg c4 hf
        refine r_iconst (v := 1) dX6_opens_30 (by decide) ?_
        refine r_goto (tgt := 35) dX6_opens_31 (by decide) ?_
        have e9 := Option.some.inj hf
        subst e9
        exact (Wa.sub [0, 2] rfl kj5)
set_option maxHeartbeats 4000000 in
set_option maxRecDepth 100000 in
theorem s_X6_opens {E : EN} {hX : TX} {hR : TR} {hL : TC} {hT : TC} {hK : TK} {hS : TS} {hP : TP} {M_unitsNow : Int32} {M_way : Int32} {M_sample : Int32} {M_one : Int32} {M_two : Int32} {M_plays : Int32} {M_low : Int32} {M_high : Int32} {M_playsNow : Int32} {M_lowNow : Int32} {M_highNow : Int32} {M_textLong : Int32} {M_answerLong : Int32} {M_place : Int32} {M_units : Nat → Int32} {M_refused : Nat → Int32} {M_left : Nat → Int32} {M_played : Nat → Int32} {M_playedNow : Nat → Int32} {M_canBe : Nat → Int32} {M_text : Nat → Int32} {M_answered : Nat → Int32} {M_numbers : Nat → Int32}  {qR : Int32} (hf : f_X6_opens M_unitsNow M_units = some qR) : Sem E yX6_opens cX6_opens 3 (some .int) 2 [.ref (eA E 26)] (hX, hR, hL, hT, hK, hS, hP, (M_unitsNow, M_way, M_sample, M_one, M_two, M_plays, M_low, M_high, M_playsNow, M_lowNow, M_highNow, M_textLong, M_answerLong, M_place, M_units, M_refused, M_left, M_played, M_playedNow, M_canBe, M_text, M_answered, M_numbers)) (some (.int qR), (hX, hR, hL, hT, hK, hS, hP, (M_unitsNow, M_way, M_sample, M_one, M_two, M_plays, M_low, M_high, M_playsNow, M_lowNow, M_highNow, M_textLong, M_answerLong, M_place, M_units, M_refused, M_left, M_played, M_playedNow, M_canBe, M_text, M_answered, M_numbers))) := by
  refine Sem.mk (lv := [(0, .ref (eA E 26))]) (by decide) (Nat.le_of_ble_eq_true rfl) rfl ?_
  rw [f_X6_opens] at hf
  refine r_iconst (v := 0) dX6_opens_0 (by decide) ?_
  refine r_istore_n (lv2 := [(1, .int 0), (0, .ref (eA E 26))]) dX6_opens_1 rfl (by decide) rfl ?_
  refine r_iconst (v := 0) dX6_opens_2 (by decide) ?_
  refine r_istore_n (lv2 := [(2, .int 0), (1, .int 0), (0, .ref (eA E 26))]) dX6_opens_3 rfl (by decide) rfl ?_
  obtain ⟨q6, hq6, hf⟩ := hf_bind hf
  refine (Wa.sub [2, 1, 0] rfl (w_X6_opens_4 _ _ _ _ hq6 ?_))
  refine r_iload_n dX6_opens_43 0 rfl ?_
  have e9 := Option.some.inj hf
  subst e9
  exact r_iret rfl dX6_opens_44
-- DuelSamplesModel.all
def f_X6_all (M_unitsNow : Int32) (M_units : Nat → Int32) (M_refused : Nat → Int32) (a0 : Int32) : Option (Int32 × (Nat → Int32)) := Option.bind (f_X6_in (Int32.toInt64 a0) 0 3) (fun (q1 : Int32) => if q1 = 0 then Option.bind (f_X6_bad M_refused (-2)) (fun (q10 : Int32 × (Nat → Int32)) => some (q10.1, q10.2)) else if a0 = 0 then Option.bind (f_X6_sumOf M_unitsNow M_units 0) (fun (q9 : Int32) => some (q9, M_refused)) else if a0 = 1 then Option.bind (f_X6_sumOf M_unitsNow M_units 3) (fun (q8 : Int32) => some (q8, M_refused)) else if a0 = 2 then Option.bind (f_X6_sumOf M_unitsNow M_units 4) (fun (q7 : Int32) => some (q7, M_refused)) else Option.bind (f_X6_opens M_unitsNow M_units) (fun (q6 : Int32) => some (q6, M_refused)))
theorem hy_X6_all : yX6_all.cls ≠ "java/lang/invoke/MethodHandle" ∧ yX6_all.cls ≠ "java/lang/invoke/VarHandle" ∧ (parseMethodDescriptor yX6_all.desc).map (fun d => d.parameters.length) = some 1 := by decide +kernel
set_option maxHeartbeats 4000000 in
set_option maxRecDepth 100000 in
theorem s_X6_all {E : EN} {hX : TX} {hR : TR} {hL : TC} {hT : TC} {hK : TK} {hS : TS} {hP : TP} {M_unitsNow : Int32} {M_way : Int32} {M_sample : Int32} {M_one : Int32} {M_two : Int32} {M_plays : Int32} {M_low : Int32} {M_high : Int32} {M_playsNow : Int32} {M_lowNow : Int32} {M_highNow : Int32} {M_textLong : Int32} {M_answerLong : Int32} {M_place : Int32} {M_units : Nat → Int32} {M_refused : Nat → Int32} {M_left : Nat → Int32} {M_played : Nat → Int32} {M_playedNow : Nat → Int32} {M_canBe : Nat → Int32} {M_text : Nat → Int32} {M_answered : Nat → Int32} {M_numbers : Nat → Int32} {a0 : Int32} {qR : Int32 × (Nat → Int32)} (hf : f_X6_all M_unitsNow M_units M_refused a0 = some qR) : Sem E yX6_all cX6_all 2 (some .int) 3 [.ref (eA E 26), .int a0] (hX, hR, hL, hT, hK, hS, hP, (M_unitsNow, M_way, M_sample, M_one, M_two, M_plays, M_low, M_high, M_playsNow, M_lowNow, M_highNow, M_textLong, M_answerLong, M_place, M_units, M_refused, M_left, M_played, M_playedNow, M_canBe, M_text, M_answered, M_numbers)) (some (.int qR.1), (hX, hR, hL, hT, hK, hS, hP, (M_unitsNow, M_way, M_sample, M_one, M_two, M_plays, M_low, M_high, M_playsNow, M_lowNow, M_highNow, M_textLong, M_answerLong, M_place, M_units, qR.2, M_left, M_played, M_playedNow, M_canBe, M_text, M_answered, M_numbers))) := by
  refine Sem.mk (lv := [(0, .ref (eA E 26)), (1, .int a0)]) (by decide) (Nat.le_of_ble_eq_true rfl) rfl ?_
  rw [f_X6_all] at hf
  refine r_iload_n dX6_all_0 1 rfl ?_
  refine r_i2l dX6_all_1 ?_
  refine r_lconst (v := 0) dX6_all_2 (by decide) ?_
  refine r_ldc2 (v := 3) wd_912 dX6_all_3 ?_
  obtain ⟨q1, hq1, hf⟩ := hf_bind hf
  refine r_callSi (As := [.long (Int32.toInt64 a0), .long 0, .long 3]) (st := []) (s_X6_in hq1) (by decide) (by decide) wd_841 wd_842 wd_74 wd_843 hy_X6_in rfl (Nat.le_of_ble_eq_true rfl) dX6_all_6 ?_
  refine r_if_ne (tgt := 19) dX6_all_9 (by decide) (fun c2 => ?_) (fun c2 => ?_)
  · have hf := hf_neg c2 hf
    refine r_iload_n dX6_all_19 1 rfl ?_
    refine r_if_ne (tgt := 31) dX6_all_20 (by decide) (fun c3 => ?_) (fun c3 => ?_)
    · have hf := hf_neg c3 hf
      refine r_iload_n dX6_all_31 1 rfl ?_
      refine r_iconst (v := 1) dX6_all_32 (by decide) ?_
      refine r_icmp_ne (tgt := 44) dX6_all_33 (by decide) (fun c4 => ?_) (fun c4 => ?_)
      · have hf := hf_neg c4 hf
        refine r_iload_n dX6_all_44 1 rfl ?_
        refine r_iconst (v := 2) dX6_all_45 (by decide) ?_
        refine r_icmp_ne (tgt := 57) dX6_all_46 (by decide) (fun c5 => ?_) (fun c5 => ?_)
        · have hf := hf_neg c5 hf
          refine r_aload_n dX6_all_57 0 rfl ?_
          obtain ⟨q6, hq6, hf⟩ := hf_bind hf
          refine r_callVi (As := []) (b := (eA E 26)) (st := []) (s_X6_opens hq6) (by decide) (by decide) wd_917 wd_919 wd_35 wd_74 wd_920 hy_X6_opens (Rc.obj 26 ga_M rfl) rfl (Nat.le_of_ble_eq_true rfl) dX6_all_58 ?_
          have e9 := Option.some.inj hf
          subst e9
          exact r_iret rfl dX6_all_61
        · have hf := hf_pos c5 hf
          refine r_aload_n dX6_all_49 0 rfl ?_
          refine r_iconst (v := 4) dX6_all_50 (by decide) ?_
          obtain ⟨q7, hq7, hf⟩ := hf_bind hf
          refine r_callVi (As := [.int 4]) (b := (eA E 26)) (st := []) (s_X6_sumOf hq7) (by decide) (by decide) wd_913 wd_915 wd_34 wd_74 wd_916 hy_X6_sumOf (Rc.obj 26 ga_M rfl) rfl (Nat.le_of_ble_eq_true rfl) dX6_all_51 ?_
          refine r_goto (tgt := 61) dX6_all_54 (by decide) ?_
          have e9 := Option.some.inj hf
          subst e9
          exact r_iret rfl dX6_all_61
      · have hf := hf_pos c4 hf
        refine r_aload_n dX6_all_36 0 rfl ?_
        refine r_iconst (v := 3) dX6_all_37 (by decide) ?_
        obtain ⟨q8, hq8, hf⟩ := hf_bind hf
        refine r_callVi (As := [.int 3]) (b := (eA E 26)) (st := []) (s_X6_sumOf hq8) (by decide) (by decide) wd_913 wd_915 wd_34 wd_74 wd_916 hy_X6_sumOf (Rc.obj 26 ga_M rfl) rfl (Nat.le_of_ble_eq_true rfl) dX6_all_38 ?_
        refine r_goto (tgt := 61) dX6_all_41 (by decide) ?_
        have e9 := Option.some.inj hf
        subst e9
        exact r_iret rfl dX6_all_61
    · have hf := hf_pos c3 hf
      refine r_aload_n dX6_all_23 0 rfl ?_
      refine r_iconst (v := 0) dX6_all_24 (by decide) ?_
      obtain ⟨q9, hq9, hf⟩ := hf_bind hf
      refine r_callVi (As := [.int 0]) (b := (eA E 26)) (st := []) (s_X6_sumOf hq9) (by decide) (by decide) wd_913 wd_915 wd_34 wd_74 wd_916 hy_X6_sumOf (Rc.obj 26 ga_M rfl) rfl (Nat.le_of_ble_eq_true rfl) dX6_all_25 ?_
      refine r_goto (tgt := 61) dX6_all_28 (by decide) ?_
      have e9 := Option.some.inj hf
      subst e9
      exact r_iret rfl dX6_all_61
  · have hf := hf_pos c2 hf
    refine r_aload_n dX6_all_12 0 rfl ?_
    refine r_bipush (v := (-2)) dX6_all_13 (by decide) ?_
    obtain ⟨q10, hq10, hf⟩ := hf_bind hf
    refine r_callVi (As := [.int (-2)]) (b := (eA E 26)) (st := []) (s_X6_bad hq10) (by decide) (by decide) wd_844 wd_846 wd_27 wd_74 wd_847 hy_X6_bad (Rc.obj 26 ga_M rfl) rfl (Nat.le_of_ble_eq_true rfl) dX6_all_15 ?_
    have e9 := Option.some.inj hf
    subst e9
    exact r_iret rfl dX6_all_18
-- DuelSamplesModel.method
def f_X6_method (M_way : Int32) (M_refused : Nat → Int32) (a0 : Int32) : Option (Int32 × Int32 × (Nat → Int32)) := Option.bind (f_X6_in (Int32.toInt64 a0) 0 4) (fun (q1 : Int32) => if q1 = 0 then Option.bind (f_X6_bad M_refused (-2)) (fun (q3 : Int32 × (Nat → Int32)) => some (q3.1, M_way, q3.2)) else some (M_way, a0, M_refused))
theorem hy_X6_method : yX6_method.cls ≠ "java/lang/invoke/MethodHandle" ∧ yX6_method.cls ≠ "java/lang/invoke/VarHandle" ∧ (parseMethodDescriptor yX6_method.desc).map (fun d => d.parameters.length) = some 1 := by decide +kernel
set_option maxHeartbeats 4000000 in
set_option maxRecDepth 100000 in
theorem s_X6_method {E : EN} {hX : TX} {hR : TR} {hL : TC} {hT : TC} {hK : TK} {hS : TS} {hP : TP} {M_unitsNow : Int32} {M_way : Int32} {M_sample : Int32} {M_one : Int32} {M_two : Int32} {M_plays : Int32} {M_low : Int32} {M_high : Int32} {M_playsNow : Int32} {M_lowNow : Int32} {M_highNow : Int32} {M_textLong : Int32} {M_answerLong : Int32} {M_place : Int32} {M_units : Nat → Int32} {M_refused : Nat → Int32} {M_left : Nat → Int32} {M_played : Nat → Int32} {M_playedNow : Nat → Int32} {M_canBe : Nat → Int32} {M_text : Nat → Int32} {M_answered : Nat → Int32} {M_numbers : Nat → Int32} {a0 : Int32} {qR : Int32 × Int32 × (Nat → Int32)} (hf : f_X6_method M_way M_refused a0 = some qR) : Sem E yX6_method cX6_method 3 (some .int) 2 [.ref (eA E 26), .int a0] (hX, hR, hL, hT, hK, hS, hP, (M_unitsNow, M_way, M_sample, M_one, M_two, M_plays, M_low, M_high, M_playsNow, M_lowNow, M_highNow, M_textLong, M_answerLong, M_place, M_units, M_refused, M_left, M_played, M_playedNow, M_canBe, M_text, M_answered, M_numbers)) (some (.int qR.1), (hX, hR, hL, hT, hK, hS, hP, (M_unitsNow, qR.2.1, M_sample, M_one, M_two, M_plays, M_low, M_high, M_playsNow, M_lowNow, M_highNow, M_textLong, M_answerLong, M_place, M_units, qR.2.2, M_left, M_played, M_playedNow, M_canBe, M_text, M_answered, M_numbers))) := by
  refine Sem.mk (lv := [(0, .ref (eA E 26)), (1, .int a0)]) (by decide) (Nat.le_of_ble_eq_true rfl) rfl ?_
  rw [f_X6_method] at hf
  refine r_iload_n dX6_method_0 1 rfl ?_
  refine r_i2l dX6_method_1 ?_
  refine r_lconst (v := 0) dX6_method_2 (by decide) ?_
  refine r_ldc2 (v := 4) wd_864 dX6_method_3 ?_
  obtain ⟨q1, hq1, hf⟩ := hf_bind hf
  refine r_callSi (As := [.long (Int32.toInt64 a0), .long 0, .long 4]) (st := []) (s_X6_in hq1) (by decide) (by decide) wd_841 wd_842 wd_74 wd_843 hy_X6_in rfl (Nat.le_of_ble_eq_true rfl) dX6_method_6 ?_
  refine r_if_ne (tgt := 19) dX6_method_9 (by decide) (fun c2 => ?_) (fun c2 => ?_)
  · have hf := hf_neg c2 hf
    refine r_aload_n dX6_method_19 0 rfl ?_
    refine r_get (v := .int M_way) in_X6 26 ga_M rfl 2 (by decide) wd_765 rfl rfl dX6_method_20 ?_
    refine r_istore_n (lv2 := [(2, .int M_way), (0, .ref (eA E 26)), (1, .int a0)]) dX6_method_23 rfl (by decide) rfl ?_
    refine r_aload_n dX6_method_24 1 rfl ?_
    refine r_iload_n dX6_method_25 2 rfl ?_
    refine r_put in_X6 tyX6_ok nmX6 26 ga_M rfl 2 (by decide) wd_765 rfl rfl pfI (Nat.le_of_ble_eq_true rfl) sa_M_way dX6_method_26 ?_
    refine r_iload_n dX6_method_29 0 rfl ?_
    have e9 := Option.some.inj hf
    subst e9
    exact r_iret rfl dX6_method_30
  · have hf := hf_pos c2 hf
    refine r_aload_n dX6_method_12 0 rfl ?_
    refine r_bipush (v := (-2)) dX6_method_13 (by decide) ?_
    obtain ⟨q3, hq3, hf⟩ := hf_bind hf
    refine r_callVi (As := [.int (-2)]) (b := (eA E 26)) (st := []) (s_X6_bad hq3) (by decide) (by decide) wd_844 wd_846 wd_27 wd_74 wd_847 hy_X6_bad (Rc.obj 26 ga_M rfl) rfl (Nat.le_of_ble_eq_true rfl) dX6_method_15 ?_
    have e9 := Option.some.inj hf
    subst e9
    exact r_iret rfl dX6_method_18
-- DuelSamplesModel.isSeed
def f_X6_isSeed  (a0 : Int32) : Option (Int32) := Option.bind (f_X6_in (Int32.toInt64 a0) 0 999999) (fun (q1 : Int32) => some q1)
theorem hy_X6_isSeed : yX6_isSeed.cls ≠ "java/lang/invoke/MethodHandle" ∧ yX6_isSeed.cls ≠ "java/lang/invoke/VarHandle" ∧ (parseMethodDescriptor yX6_isSeed.desc).map (fun d => d.parameters.length) = some 1 := by decide +kernel
set_option maxHeartbeats 4000000 in
set_option maxRecDepth 100000 in
theorem s_X6_isSeed {E : EN} {hX : TX} {hR : TR} {hL : TC} {hT : TC} {hK : TK} {hS : TS} {hP : TP} {hM : TM}  {a0 : Int32} {qR : Int32} (hf : f_X6_isSeed a0 = some qR) : Sem E yX6_isSeed cX6_isSeed 1 (some .boolean) 2 [.int a0] (hX, hR, hL, hT, hK, hS, hP, hM) (some (.int qR), (hX, hR, hL, hT, hK, hS, hP, hM)) := by
  refine Sem.mk (lv := [(0, .int a0)]) (by decide) (Nat.le_of_ble_eq_true rfl) rfl ?_
  rw [f_X6_isSeed] at hf
  refine r_iload_n dX6_isSeed_0 0 rfl ?_
  refine r_i2l dX6_isSeed_1 ?_
  refine r_lconst (v := 0) dX6_isSeed_2 (by decide) ?_
  refine r_ldc2 (v := 999999) wd_885 dX6_isSeed_3 ?_
  obtain ⟨q1, hq1, hf⟩ := hf_bind hf
  refine r_callSi (As := [.long (Int32.toInt64 a0), .long 0, .long 999999]) (st := []) (s_X6_in hq1) (by decide) (by decide) wd_841 wd_842 wd_74 wd_843 hy_X6_in rfl (Nat.le_of_ble_eq_true rfl) dX6_isSeed_6 ?_
  have e9 := Option.some.inj hf
  subst e9
  exact r_zret rfl (narB (X6_in_01 hq1)) dX6_isSeed_9
-- DuelSamplesModel.begins
def lp_X6_begins_2 (M_unitsNow : Int32) (M_units : Nat → Int32) : Nat → Int32 → (Nat → Int32) → Option ((Nat → Int32))
  | 0, _, _ => none
  | n9 + 1, v1_2, M_left_2 => if M_unitsNow ≤ v1_2 then some M_left_2 else Option.bind (f_X6_at M_units v1_2 0) (fun (q2 : Int32) => if inB v1_2 12 then lp_X6_begins_2 M_unitsNow M_units n9 (v1_2 + 1) (upd M_left_2 (Int32.toNatClampNeg v1_2) q2) else none)
def f_X6_begins (M_unitsNow : Int32) (M_units : Nat → Int32) (M_left : Nat → Int32)  : Option ((Nat → Int32)) := Option.bind (lp_X6_begins_2 M_unitsNow M_units FU 0 M_left) (fun (q4 : (Nat → Int32)) => some q4)
theorem hy_X6_begins : yX6_begins.cls ≠ "java/lang/invoke/MethodHandle" ∧ yX6_begins.cls ≠ "java/lang/invoke/VarHandle" ∧ (parseMethodDescriptor yX6_begins.desc).map (fun d => d.parameters.length) = some 0 := by decide +kernel
set_option maxHeartbeats 4000000 in
set_option maxRecDepth 100000 in
theorem w_X6_begins_2 {E : EN} {res : Option Value × Hp} {hX : TX} {hR : TR} {hL : TC} {hT : TC} {hK : TK} {hS : TS} {hP : TP} {M_unitsNow : Int32} {M_way : Int32} {M_sample : Int32} {M_one : Int32} {M_two : Int32} {M_plays : Int32} {M_low : Int32} {M_high : Int32} {M_playsNow : Int32} {M_lowNow : Int32} {M_highNow : Int32} {M_textLong : Int32} {M_answerLong : Int32} {M_place : Int32} {M_units : Nat → Int32} {M_refused : Nat → Int32} {M_played : Nat → Int32} {M_playedNow : Nat → Int32} {M_canBe : Nat → Int32} {M_text : Nat → Int32} {M_answered : Nat → Int32} {M_numbers : Nat → Int32} : ∀ (n9 : Nat) (v1_2 : Int32) (M_left_2 : Nat → Int32) (qL : (Nat → Int32)), lp_X6_begins_2 M_unitsNow M_units n9 v1_2 M_left_2 = some qL → (Wa E yX6_begins cX6_begins 2 none 2 res 28 [] [] (hX, hR, hL, hT, hK, hS, hP, (M_unitsNow, M_way, M_sample, M_one, M_two, M_plays, M_low, M_high, M_playsNow, M_lowNow, M_highNow, M_textLong, M_answerLong, M_place, M_units, M_refused, qL, M_played, M_playedNow, M_canBe, M_text, M_answered, M_numbers))) → Wa E yX6_begins cX6_begins 2 none 2 res 2 [(0, .ref (eA E 26)), (1, .int v1_2)] [] (hX, hR, hL, hT, hK, hS, hP, (M_unitsNow, M_way, M_sample, M_one, M_two, M_plays, M_low, M_high, M_playsNow, M_lowNow, M_highNow, M_textLong, M_answerLong, M_place, M_units, M_refused, M_left_2, M_played, M_playedNow, M_canBe, M_text, M_answered, M_numbers)) := by
  intro n9
  induction n9 with
  | zero =>
    intro v1_2 M_left_2 qL hf
    exact nomatch (show (none : Option ((Nat → Int32))) = some qL from hf)
  | succ n9 ih =>
    intro v1_2 M_left_2 qL hf kx0
    rw [lp_X6_begins_2] at hf
    refine r_iload_n dX6_begins_2 1 rfl ?_
    refine r_aload_n dX6_begins_3 0 rfl ?_
    refine r_get (v := .int M_unitsNow) in_X6 26 ga_M rfl 1 (by decide) wd_764 rfl rfl dX6_begins_4 ?_
    refine r_icmp_ge (tgt := 28) dX6_begins_7 (by decide) (fun c1 => ?_) (fun c1 => ?_)
    · have hf := hf_pos c1 hf
      have e9 := Option.some.inj hf
      subst e9
      exact (Wa.sub [] rfl kx0)
    · have hf := hf_neg c1 hf
      refine r_aload_n dX6_begins_10 0 rfl ?_
      refine r_get (v := .ref (eA E 29)) in_X6 26 ga_M rfl 5 (by decide) wd_768 rfl rfl dX6_begins_11 ?_
      refine r_iload_n dX6_begins_14 1 rfl ?_
      refine r_aload_n dX6_begins_15 0 rfl ?_
      refine r_iload_n dX6_begins_16 1 rfl ?_
      refine r_iconst (v := 0) dX6_begins_17 (by decide) ?_
      obtain ⟨q2, hq2, hf⟩ := hf_bind hf
      refine r_callVi (As := [.int v1_2, .int 0]) (b := (eA E 26)) (st := [.int v1_2, .ref (eA E 29)]) (s_X6_at hq2) (by decide) (by decide) wd_869 wd_871 wd_32 wd_74 wd_872 hy_X6_at (Rc.obj 26 ga_M rfl) rfl (Nat.le_of_ble_eq_true rfl) dX6_begins_18 ?_
      obtain ⟨i3, hf⟩ := hf_in hf
      refine r_iast 29 ga_M_left sa_M_left i3 dX6_begins_21 ?_
      refine r_iinc (v := (v1_2 + 1)) (lv2 := [(1, .int (v1_2 + 1)), (0, .ref (eA E 26))]) dX6_begins_22 1 rfl rfl (by decide) rfl ?_
      refine r_goto (tgt := 2) dX6_begins_25 (by decide) ?_
      exact (Wa.sub [1, 0] rfl (ih _ _ _ hf kx0))
set_option maxHeartbeats 4000000 in
set_option maxRecDepth 100000 in
theorem s_X6_begins {E : EN} {hX : TX} {hR : TR} {hL : TC} {hT : TC} {hK : TK} {hS : TS} {hP : TP} {M_unitsNow : Int32} {M_way : Int32} {M_sample : Int32} {M_one : Int32} {M_two : Int32} {M_plays : Int32} {M_low : Int32} {M_high : Int32} {M_playsNow : Int32} {M_lowNow : Int32} {M_highNow : Int32} {M_textLong : Int32} {M_answerLong : Int32} {M_place : Int32} {M_units : Nat → Int32} {M_refused : Nat → Int32} {M_left : Nat → Int32} {M_played : Nat → Int32} {M_playedNow : Nat → Int32} {M_canBe : Nat → Int32} {M_text : Nat → Int32} {M_answered : Nat → Int32} {M_numbers : Nat → Int32}  {qR : (Nat → Int32)} (hf : f_X6_begins M_unitsNow M_units M_left = some qR) : Sem E yX6_begins cX6_begins 2 none 2 [.ref (eA E 26)] (hX, hR, hL, hT, hK, hS, hP, (M_unitsNow, M_way, M_sample, M_one, M_two, M_plays, M_low, M_high, M_playsNow, M_lowNow, M_highNow, M_textLong, M_answerLong, M_place, M_units, M_refused, M_left, M_played, M_playedNow, M_canBe, M_text, M_answered, M_numbers)) (none, (hX, hR, hL, hT, hK, hS, hP, (M_unitsNow, M_way, M_sample, M_one, M_two, M_plays, M_low, M_high, M_playsNow, M_lowNow, M_highNow, M_textLong, M_answerLong, M_place, M_units, M_refused, qR, M_played, M_playedNow, M_canBe, M_text, M_answered, M_numbers))) := by
  refine Sem.mk (lv := [(0, .ref (eA E 26))]) (by decide) (Nat.le_of_ble_eq_true rfl) rfl ?_
  rw [f_X6_begins] at hf
  refine r_iconst (v := 0) dX6_begins_0 (by decide) ?_
  refine r_istore_n (lv2 := [(1, .int 0), (0, .ref (eA E 26))]) dX6_begins_1 rfl (by decide) rfl ?_
  obtain ⟨q4, hq4, hf⟩ := hf_bind hf
  refine (Wa.sub [1, 0] rfl (w_X6_begins_2 _ _ _ _ hq4 ?_))
  have e9 := Option.some.inj hf
  subst e9
  exact r_vret rfl dX6_begins_28
-- DuelSamplesModel.isOpen
def f_X6_isOpen (M_left : Nat → Int32) (a0 : Int32) : Option (Int32) := if inB a0 12 then Option.bind (f_X6_in (Int32.toInt64 (M_left (Int32.toNatClampNeg a0))) 1 11) (fun (q2 : Int32) => some q2) else none
theorem hy_X6_isOpen : yX6_isOpen.cls ≠ "java/lang/invoke/MethodHandle" ∧ yX6_isOpen.cls ≠ "java/lang/invoke/VarHandle" ∧ (parseMethodDescriptor yX6_isOpen.desc).map (fun d => d.parameters.length) = some 1 := by decide +kernel
set_option maxHeartbeats 4000000 in
set_option maxRecDepth 100000 in
theorem s_X6_isOpen {E : EN} {hX : TX} {hR : TR} {hL : TC} {hT : TC} {hK : TK} {hS : TS} {hP : TP} {M_unitsNow : Int32} {M_way : Int32} {M_sample : Int32} {M_one : Int32} {M_two : Int32} {M_plays : Int32} {M_low : Int32} {M_high : Int32} {M_playsNow : Int32} {M_lowNow : Int32} {M_highNow : Int32} {M_textLong : Int32} {M_answerLong : Int32} {M_place : Int32} {M_units : Nat → Int32} {M_refused : Nat → Int32} {M_left : Nat → Int32} {M_played : Nat → Int32} {M_playedNow : Nat → Int32} {M_canBe : Nat → Int32} {M_text : Nat → Int32} {M_answered : Nat → Int32} {M_numbers : Nat → Int32} {a0 : Int32} {qR : Int32} (hf : f_X6_isOpen M_left a0 = some qR) : Sem E yX6_isOpen cX6_isOpen 2 (some .boolean) 2 [.ref (eA E 26), .int a0] (hX, hR, hL, hT, hK, hS, hP, (M_unitsNow, M_way, M_sample, M_one, M_two, M_plays, M_low, M_high, M_playsNow, M_lowNow, M_highNow, M_textLong, M_answerLong, M_place, M_units, M_refused, M_left, M_played, M_playedNow, M_canBe, M_text, M_answered, M_numbers)) (some (.int qR), (hX, hR, hL, hT, hK, hS, hP, (M_unitsNow, M_way, M_sample, M_one, M_two, M_plays, M_low, M_high, M_playsNow, M_lowNow, M_highNow, M_textLong, M_answerLong, M_place, M_units, M_refused, M_left, M_played, M_playedNow, M_canBe, M_text, M_answered, M_numbers))) := by
  refine Sem.mk (lv := [(0, .ref (eA E 26)), (1, .int a0)]) (by decide) (Nat.le_of_ble_eq_true rfl) rfl ?_
  rw [f_X6_isOpen] at hf
  refine r_aload_n dX6_isOpen_0 0 rfl ?_
  refine r_get (v := .ref (eA E 29)) in_X6 26 ga_M rfl 5 (by decide) wd_768 rfl rfl dX6_isOpen_1 ?_
  refine r_iload_n dX6_isOpen_4 1 rfl ?_
  obtain ⟨i1, hf⟩ := hf_in hf
  refine r_iald (f := M_left) 29 ga_M_left i1 dX6_isOpen_5 ?_
  refine r_i2l dX6_isOpen_6 ?_
  refine r_lconst (v := 1) dX6_isOpen_7 (by decide) ?_
  refine r_ldc2 (v := 11) wd_921 dX6_isOpen_8 ?_
  obtain ⟨q2, hq2, hf⟩ := hf_bind hf
  refine r_callSi (As := [.long (Int32.toInt64 (M_left (Int32.toNatClampNeg a0))), .long 1, .long 11]) (st := []) (s_X6_in hq2) (by decide) (by decide) wd_841 wd_842 wd_74 wd_843 hy_X6_in rfl (Nat.le_of_ble_eq_true rfl) dX6_isOpen_11 ?_
  have e9 := Option.some.inj hf
  subst e9
  exact r_zret rfl (narB (X6_in_01 hq2)) dX6_isOpen_14
-- DuelSamplesModel.firstOpen
def lp_X6_firstOpen_2 (M_unitsNow : Int32) (M_left : Nat → Int32) : Nat → Int32 → Option (Int32)
  | 0, _ => none
  | n9 + 1, v2_2 => if M_unitsNow ≤ v2_2 then some v2_2 else Option.bind (f_X6_isOpen M_left v2_2) (fun (q2 : Int32) => if q2 = 0 then lp_X6_firstOpen_2 M_unitsNow M_left n9 (v2_2 + 1) else some v2_2)
def f_X6_firstOpen (M_unitsNow : Int32) (M_left : Nat → Int32) (a0 : Int32) : Option (Int32) := Option.bind (lp_X6_firstOpen_2 M_unitsNow M_left FU a0) (fun (q4 : Int32) => some q4)
theorem hy_X6_firstOpen : yX6_firstOpen.cls ≠ "java/lang/invoke/MethodHandle" ∧ yX6_firstOpen.cls ≠ "java/lang/invoke/VarHandle" ∧ (parseMethodDescriptor yX6_firstOpen.desc).map (fun d => d.parameters.length) = some 1 := by decide +kernel
set_option maxHeartbeats 4000000 in
set_option maxRecDepth 100000 in
theorem w_X6_firstOpen_2 {E : EN} {res : Option Value × Hp} {hX : TX} {hR : TR} {hL : TC} {hT : TC} {hK : TK} {hS : TS} {hP : TP} {M_unitsNow : Int32} {M_way : Int32} {M_sample : Int32} {M_one : Int32} {M_two : Int32} {M_plays : Int32} {M_low : Int32} {M_high : Int32} {M_playsNow : Int32} {M_lowNow : Int32} {M_highNow : Int32} {M_textLong : Int32} {M_answerLong : Int32} {M_place : Int32} {M_units : Nat → Int32} {M_refused : Nat → Int32} {M_left : Nat → Int32} {M_played : Nat → Int32} {M_playedNow : Nat → Int32} {M_canBe : Nat → Int32} {M_text : Nat → Int32} {M_answered : Nat → Int32} {M_numbers : Nat → Int32} : ∀ (n9 : Nat) (v2_2 : Int32) (qL : Int32), lp_X6_firstOpen_2 M_unitsNow M_left n9 v2_2 = some qL → (Wa E yX6_firstOpen cX6_firstOpen 3 (some .int) 3 res 24 [(2, .int qL)] [] (hX, hR, hL, hT, hK, hS, hP, (M_unitsNow, M_way, M_sample, M_one, M_two, M_plays, M_low, M_high, M_playsNow, M_lowNow, M_highNow, M_textLong, M_answerLong, M_place, M_units, M_refused, M_left, M_played, M_playedNow, M_canBe, M_text, M_answered, M_numbers))) → Wa E yX6_firstOpen cX6_firstOpen 3 (some .int) 3 res 2 [(0, .ref (eA E 26)), (2, .int v2_2)] [] (hX, hR, hL, hT, hK, hS, hP, (M_unitsNow, M_way, M_sample, M_one, M_two, M_plays, M_low, M_high, M_playsNow, M_lowNow, M_highNow, M_textLong, M_answerLong, M_place, M_units, M_refused, M_left, M_played, M_playedNow, M_canBe, M_text, M_answered, M_numbers)) := by
  intro n9
  induction n9 with
  | zero =>
    intro v2_2 qL hf
    exact nomatch (show (none : Option (Int32)) = some qL from hf)
  | succ n9 ih =>
    intro v2_2 qL hf kx0
    rw [lp_X6_firstOpen_2] at hf
    refine r_iload_n dX6_firstOpen_2 1 rfl ?_
    refine r_aload_n dX6_firstOpen_3 0 rfl ?_
    refine r_get (v := .int M_unitsNow) in_X6 26 ga_M rfl 1 (by decide) wd_764 rfl rfl dX6_firstOpen_4 ?_
    refine r_icmp_ge (tgt := 24) dX6_firstOpen_7 (by decide) (fun c1 => ?_) (fun c1 => ?_)
    · have hf := hf_pos c1 hf
      have e9 := Option.some.inj hf
      subst e9
      exact (Wa.sub [1] rfl kx0)
    · have hf := hf_neg c1 hf
      refine r_aload_n dX6_firstOpen_10 0 rfl ?_
      refine r_iload_n dX6_firstOpen_11 1 rfl ?_
      obtain ⟨q2, hq2, hf⟩ := hf_bind hf
      refine r_callVi (As := [.int v2_2]) (b := (eA E 26)) (st := []) (s_X6_isOpen hq2) (by decide) (by decide) wd_953 wd_955 wd_41 wd_74 wd_956 hy_X6_isOpen (Rc.obj 26 ga_M rfl) rfl (Nat.le_of_ble_eq_true rfl) dX6_firstOpen_12 ?_
      refine r_if_ne (tgt := 24) dX6_firstOpen_15 (by decide) (fun c3 => ?_) (fun c3 => ?_)
      · have hf := hf_neg c3 hf
        have e9 := Option.some.inj hf
        subst e9
        exact (Wa.sub [1] rfl kx0)
      · have hf := hf_pos c3 hf
        refine r_iinc (v := (v2_2 + 1)) (lv2 := [(2, .int (v2_2 + 1)), (0, .ref (eA E 26))]) dX6_firstOpen_18 1 rfl rfl (by decide) rfl ?_
        refine r_goto (tgt := 2) dX6_firstOpen_21 (by decide) ?_
        exact (Wa.sub [1, 0] rfl (ih _ _ hf kx0))
set_option maxHeartbeats 4000000 in
set_option maxRecDepth 100000 in
theorem s_X6_firstOpen {E : EN} {hX : TX} {hR : TR} {hL : TC} {hT : TC} {hK : TK} {hS : TS} {hP : TP} {M_unitsNow : Int32} {M_way : Int32} {M_sample : Int32} {M_one : Int32} {M_two : Int32} {M_plays : Int32} {M_low : Int32} {M_high : Int32} {M_playsNow : Int32} {M_lowNow : Int32} {M_highNow : Int32} {M_textLong : Int32} {M_answerLong : Int32} {M_place : Int32} {M_units : Nat → Int32} {M_refused : Nat → Int32} {M_left : Nat → Int32} {M_played : Nat → Int32} {M_playedNow : Nat → Int32} {M_canBe : Nat → Int32} {M_text : Nat → Int32} {M_answered : Nat → Int32} {M_numbers : Nat → Int32} {a0 : Int32} {qR : Int32} (hf : f_X6_firstOpen M_unitsNow M_left a0 = some qR) : Sem E yX6_firstOpen cX6_firstOpen 3 (some .int) 3 [.ref (eA E 26), .int a0] (hX, hR, hL, hT, hK, hS, hP, (M_unitsNow, M_way, M_sample, M_one, M_two, M_plays, M_low, M_high, M_playsNow, M_lowNow, M_highNow, M_textLong, M_answerLong, M_place, M_units, M_refused, M_left, M_played, M_playedNow, M_canBe, M_text, M_answered, M_numbers)) (some (.int qR), (hX, hR, hL, hT, hK, hS, hP, (M_unitsNow, M_way, M_sample, M_one, M_two, M_plays, M_low, M_high, M_playsNow, M_lowNow, M_highNow, M_textLong, M_answerLong, M_place, M_units, M_refused, M_left, M_played, M_playedNow, M_canBe, M_text, M_answered, M_numbers))) := by
  refine Sem.mk (lv := [(0, .ref (eA E 26)), (1, .int a0)]) (by decide) (Nat.le_of_ble_eq_true rfl) rfl ?_
  rw [f_X6_firstOpen] at hf
  refine r_iload_n dX6_firstOpen_0 1 rfl ?_
  refine r_istore_n (lv2 := [(2, .int a0), (0, .ref (eA E 26)), (1, .int a0)]) dX6_firstOpen_1 rfl (by decide) rfl ?_
  obtain ⟨q4, hq4, hf⟩ := hf_bind hf
  refine (Wa.sub [1, 0] rfl (w_X6_firstOpen_2 _ _ _ hq4 ?_))
  refine r_iload_n dX6_firstOpen_24 0 rfl ?_
  have e9 := Option.some.inj hf
  subst e9
  exact r_iret rfl dX6_firstOpen_25
-- DuelSamplesModel.far
def f_X6_far  (a0 : Int32) (a1 : Int32) : Option (Int32) := if a0 ≤ a1 then some (a1 - a0) else some (a0 - a1)
theorem hy_X6_far : yX6_far.cls ≠ "java/lang/invoke/MethodHandle" ∧ yX6_far.cls ≠ "java/lang/invoke/VarHandle" ∧ (parseMethodDescriptor yX6_far.desc).map (fun d => d.parameters.length) = some 2 := by decide +kernel
set_option maxHeartbeats 4000000 in
set_option maxRecDepth 100000 in
theorem s_X6_far {E : EN} {hX : TX} {hR : TR} {hL : TC} {hT : TC} {hK : TK} {hS : TS} {hP : TP} {hM : TM}  {a0 : Int32} {a1 : Int32} {qR : Int32} (hf : f_X6_far a0 a1 = some qR) : Sem E yX6_far cX6_far 2 (some .int) 1 [.int a0, .int a1] (hX, hR, hL, hT, hK, hS, hP, hM) (some (.int qR), (hX, hR, hL, hT, hK, hS, hP, hM)) := by
  refine Sem.mk (lv := [(0, .int a0), (1, .int a1)]) (by decide) (Nat.le_of_ble_eq_true rfl) rfl ?_
  rw [f_X6_far] at hf
  refine r_iload_n dX6_far_0 0 rfl ?_
  refine r_iload_n dX6_far_1 1 rfl ?_
  refine r_icmp_le (tgt := 11) dX6_far_2 (by decide) (fun c1 => ?_) (fun c1 => ?_)
  · have hf := hf_pos c1 hf
    refine r_iload_n dX6_far_11 1 rfl ?_
    refine r_iload_n dX6_far_12 0 rfl ?_
    refine r_isub dX6_far_13 ?_
    have e9 := Option.some.inj hf
    subst e9
    exact r_iret rfl dX6_far_14
  · have hf := hf_neg c1 hf
    refine r_iload_n dX6_far_5 0 rfl ?_
    refine r_iload_n dX6_far_6 1 rfl ?_
    refine r_isub dX6_far_7 ?_
    refine r_goto (tgt := 14) dX6_far_8 (by decide) ?_
    have e9 := Option.some.inj hf
    subst e9
    exact r_iret rfl dX6_far_14
