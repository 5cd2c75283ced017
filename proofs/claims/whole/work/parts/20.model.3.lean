-- DuelSamplesModel.walk
def f_X6_walk (M_unitsNow : Int32) (M_way : Int32) (M_sample : Int32) (M_one : Int32) (M_two : Int32) (M_plays : Int32) (M_low : Int32) (M_high : Int32) (M_playsNow : Int32) (M_lowNow : Int32) (M_highNow : Int32) (M_units : Nat → Int32) (M_refused : Nat → Int32) (M_left : Nat → Int32) (M_played : Nat → Int32) (M_playedNow : Nat → Int32) (a0 : Int32) : Option (Int32 × Int32 × Int32 × Int32 × Int32 × Int32 × Int32 × Int32 × Int32 × Int32 × (Nat → Int32) × (Nat → Int32) × (Nat → Int32) × (Nat → Int32)) := Option.bind (f_X6_isSeed a0) (fun (q1 : Int32) => if q1 = 0 then Option.bind (f_X6_bad M_refused (-2)) (fun (q3 : Int32 × (Nat → Int32)) => some (q3.1, M_sample, M_one, M_two, M_plays, M_low, M_high, M_playsNow, M_lowNow, M_highNow, q3.2, M_left, M_played, M_playedNow)) else Option.bind (f_X6_walks M_unitsNow M_way M_one M_two M_units M_left M_played M_playedNow a0) (fun (q4 : Int32 × Int32 × Int32 × Int32 × Int32 × Int32 × Int32 × Int32 × Int32 × Int32 × (Nat → Int32) × (Nat → Int32) × (Nat → Int32)) => some (q4.1, q4.2.1, q4.2.2.1, q4.2.2.2.1, q4.2.2.2.2.1, q4.2.2.2.2.2.1, q4.2.2.2.2.2.2.1, q4.2.2.2.2.2.2.2.1, q4.2.2.2.2.2.2.2.2.1, q4.2.2.2.2.2.2.2.2.2.1, M_refused, q4.2.2.2.2.2.2.2.2.2.2.1, q4.2.2.2.2.2.2.2.2.2.2.2.1, q4.2.2.2.2.2.2.2.2.2.2.2.2)))
theorem hy_X6_walk : yX6_walk.cls ≠ "java/lang/invoke/MethodHandle" ∧ yX6_walk.cls ≠ "java/lang/invoke/VarHandle" ∧ (parseMethodDescriptor yX6_walk.desc).map (fun d => d.parameters.length) = some 1 := by decide +kernel
set_option maxHeartbeats 4000000 in
set_option maxRecDepth 100000 in
theorem s_X6_walk {E : EN} {hX : TX} {hR : TR} {hL : TC} {hT : TC} {hK : TK} {hS : TS} {hP : TP} {M_unitsNow : Int32} {M_way : Int32} {M_sample : Int32} {M_one : Int32} {M_two : Int32} {M_plays : Int32} {M_low : Int32} {M_high : Int32} {M_playsNow : Int32} {M_lowNow : Int32} {M_highNow : Int32} {M_textLong : Int32} {M_answerLong : Int32} {M_place : Int32} {M_units : Nat → Int32} {M_refused : Nat → Int32} {M_left : Nat → Int32} {M_played : Nat → Int32} {M_playedNow : Nat → Int32} {M_canBe : Nat → Int32} {M_text : Nat → Int32} {M_answered : Nat → Int32} {M_numbers : Nat → Int32} {a0 : Int32} {qR : Int32 × Int32 × Int32 × Int32 × Int32 × Int32 × Int32 × Int32 × Int32 × Int32 × (Nat → Int32) × (Nat → Int32) × (Nat → Int32) × (Nat → Int32)} (hf : f_X6_walk M_unitsNow M_way M_sample M_one M_two M_plays M_low M_high M_playsNow M_lowNow M_highNow M_units M_refused M_left M_played M_playedNow a0 = some qR) : Sem E yX6_walk cX6_walk 2 (some .int) 8 [.ref (eA E 26), .int a0] (hX, hR, hL, hT, hK, hS, hP, (M_unitsNow, M_way, M_sample, M_one, M_two, M_plays, M_low, M_high, M_playsNow, M_lowNow, M_highNow, M_textLong, M_answerLong, M_place, M_units, M_refused, M_left, M_played, M_playedNow, M_canBe, M_text, M_answered, M_numbers)) (some (.int qR.1), (hX, hR, hL, hT, hK, hS, hP, (M_unitsNow, M_way, qR.2.1, qR.2.2.1, qR.2.2.2.1, qR.2.2.2.2.1, qR.2.2.2.2.2.1, qR.2.2.2.2.2.2.1, qR.2.2.2.2.2.2.2.1, qR.2.2.2.2.2.2.2.2.1, qR.2.2.2.2.2.2.2.2.2.1, M_textLong, M_answerLong, M_place, M_units, qR.2.2.2.2.2.2.2.2.2.2.1, qR.2.2.2.2.2.2.2.2.2.2.2.1, qR.2.2.2.2.2.2.2.2.2.2.2.2.1, qR.2.2.2.2.2.2.2.2.2.2.2.2.2, M_canBe, M_text, M_answered, M_numbers))) := by
  refine Sem.mk (lv := [(0, .ref (eA E 26)), (1, .int a0)]) (by decide) (Nat.le_of_ble_eq_true rfl) rfl ?_
  rw [f_X6_walk] at hf
  refine r_iload_n dX6_walk_0 1 rfl ?_
  obtain ⟨q1, hq1, hf⟩ := hf_bind hf
  refine r_callSi (As := [.int a0]) (st := []) (s_X6_isSeed hq1) (by decide) (by decide) wd_930 wd_931 wd_74 wd_932 hy_X6_isSeed rfl (Nat.le_of_ble_eq_true rfl) dX6_walk_1 ?_
  refine r_if_eq (tgt := 15) dX6_walk_4 (by decide) (fun c2 => ?_) (fun c2 => ?_)
  · have hf := hf_pos c2 hf
    refine r_aload_n dX6_walk_15 0 rfl ?_
    refine r_bipush (v := (-2)) dX6_walk_16 (by decide) ?_
    obtain ⟨q3, hq3, hf⟩ := hf_bind hf
    refine r_callVi (As := [.int (-2)]) (b := (eA E 26)) (st := []) (s_X6_bad hq3) (by decide) (by decide) wd_844 wd_846 wd_27 wd_74 wd_847 hy_X6_bad (Rc.obj 26 ga_M rfl) rfl (Nat.le_of_ble_eq_true rfl) dX6_walk_18 ?_
    have e9 := Option.some.inj hf
    subst e9
    exact r_iret rfl dX6_walk_21
  · have hf := hf_neg c2 hf
    refine r_aload_n dX6_walk_7 0 rfl ?_
    refine r_iload_n dX6_walk_8 1 rfl ?_
    obtain ⟨q4, hq4, hf⟩ := hf_bind hf
    refine r_callVi (As := [.int a0]) (b := (eA E 26)) (st := []) (s_X6_walks hq4) (by decide) (by decide) wd_933 wd_935 wd_36 wd_74 wd_936 hy_X6_walks (Rc.obj 26 ga_M rfl) rfl (Nat.le_of_ble_eq_true rfl) dX6_walk_9 ?_
    refine r_goto (tgt := 21) dX6_walk_12 (by decide) ?_
    have e9 := Option.some.inj hf
    subst e9
    exact r_iret rfl dX6_walk_21
-- DuelSamplesModel.wasOf
def f_X6_wasOf (M_sample : Int32) (M_plays : Int32) (M_low : Int32) (M_high : Int32) (a0 : Int32) : Option (Int32) := if a0 = 0 then some M_sample else if a0 = 1 then some M_plays else if a0 = 2 then some M_low else some M_high
theorem hy_X6_wasOf : yX6_wasOf.cls ≠ "java/lang/invoke/MethodHandle" ∧ yX6_wasOf.cls ≠ "java/lang/invoke/VarHandle" ∧ (parseMethodDescriptor yX6_wasOf.desc).map (fun d => d.parameters.length) = some 1 := by decide +kernel
set_option maxHeartbeats 4000000 in
set_option maxRecDepth 100000 in
theorem s_X6_wasOf {E : EN} {hX : TX} {hR : TR} {hL : TC} {hT : TC} {hK : TK} {hS : TS} {hP : TP} {M_unitsNow : Int32} {M_way : Int32} {M_sample : Int32} {M_one : Int32} {M_two : Int32} {M_plays : Int32} {M_low : Int32} {M_high : Int32} {M_playsNow : Int32} {M_lowNow : Int32} {M_highNow : Int32} {M_textLong : Int32} {M_answerLong : Int32} {M_place : Int32} {M_units : Nat → Int32} {M_refused : Nat → Int32} {M_left : Nat → Int32} {M_played : Nat → Int32} {M_playedNow : Nat → Int32} {M_canBe : Nat → Int32} {M_text : Nat → Int32} {M_answered : Nat → Int32} {M_numbers : Nat → Int32} {a0 : Int32} {qR : Int32} (hf : f_X6_wasOf M_sample M_plays M_low M_high a0 = some qR) : Sem E yX6_wasOf cX6_wasOf 2 (some .int) 1 [.ref (eA E 26), .int a0] (hX, hR, hL, hT, hK, hS, hP, (M_unitsNow, M_way, M_sample, M_one, M_two, M_plays, M_low, M_high, M_playsNow, M_lowNow, M_highNow, M_textLong, M_answerLong, M_place, M_units, M_refused, M_left, M_played, M_playedNow, M_canBe, M_text, M_answered, M_numbers)) (some (.int qR), (hX, hR, hL, hT, hK, hS, hP, (M_unitsNow, M_way, M_sample, M_one, M_two, M_plays, M_low, M_high, M_playsNow, M_lowNow, M_highNow, M_textLong, M_answerLong, M_place, M_units, M_refused, M_left, M_played, M_playedNow, M_canBe, M_text, M_answered, M_numbers))) := by
  refine Sem.mk (lv := [(0, .ref (eA E 26)), (1, .int a0)]) (by decide) (Nat.le_of_ble_eq_true rfl) rfl ?_
  rw [f_X6_wasOf] at hf
  refine r_iload_n dX6_wasOf_0 1 rfl ?_
  refine r_if_ne (tgt := 11) dX6_wasOf_1 (by decide) (fun c1 => ?_) (fun c1 => ?_)
  · have hf := hf_neg c1 hf
    refine r_iload_n dX6_wasOf_11 1 rfl ?_
    refine r_iconst (v := 1) dX6_wasOf_12 (by decide) ?_
    refine r_icmp_ne (tgt := 23) dX6_wasOf_13 (by decide) (fun c2 => ?_) (fun c2 => ?_)
    · have hf := hf_neg c2 hf
      refine r_iload_n dX6_wasOf_23 1 rfl ?_
      refine r_iconst (v := 2) dX6_wasOf_24 (by decide) ?_
      refine r_icmp_ne (tgt := 35) dX6_wasOf_25 (by decide) (fun c3 => ?_) (fun c3 => ?_)
      · have hf := hf_neg c3 hf
        refine r_aload_n dX6_wasOf_35 0 rfl ?_
        refine r_get (v := .int M_high) in_X6 26 ga_M rfl 11 (by decide) wd_774 rfl rfl dX6_wasOf_36 ?_
        have e9 := Option.some.inj hf
        subst e9
        exact r_iret rfl dX6_wasOf_39
      · have hf := hf_pos c3 hf
        refine r_aload_n dX6_wasOf_28 0 rfl ?_
        refine r_get (v := .int M_low) in_X6 26 ga_M rfl 10 (by decide) wd_773 rfl rfl dX6_wasOf_29 ?_
        refine r_goto (tgt := 39) dX6_wasOf_32 (by decide) ?_
        have e9 := Option.some.inj hf
        subst e9
        exact r_iret rfl dX6_wasOf_39
    · have hf := hf_pos c2 hf
      refine r_aload_n dX6_wasOf_16 0 rfl ?_
      refine r_get (v := .int M_plays) in_X6 26 ga_M rfl 9 (by decide) wd_772 rfl rfl dX6_wasOf_17 ?_
      refine r_goto (tgt := 39) dX6_wasOf_20 (by decide) ?_
      have e9 := Option.some.inj hf
      subst e9
      exact r_iret rfl dX6_wasOf_39
  · have hf := hf_pos c1 hf
    refine r_aload_n dX6_wasOf_4 0 rfl ?_
    refine r_get (v := .int M_sample) in_X6 26 ga_M rfl 3 (by decide) wd_766 rfl rfl dX6_wasOf_5 ?_
    refine r_goto (tgt := 39) dX6_wasOf_8 (by decide) ?_
    have e9 := Option.some.inj hf
    subst e9
    exact r_iret rfl dX6_wasOf_39
-- DuelSamplesModel.was
def f_X6_was (M_sample : Int32) (M_plays : Int32) (M_low : Int32) (M_high : Int32) (M_refused : Nat → Int32) (a0 : Int32) : Option (Int32 × (Nat → Int32)) := Option.bind (f_X6_in (Int32.toInt64 a0) 0 3) (fun (q1 : Int32) => if q1 = 0 then Option.bind (f_X6_bad M_refused (-2)) (fun (q3 : Int32 × (Nat → Int32)) => some (q3.1, q3.2)) else Option.bind (f_X6_wasOf M_sample M_plays M_low M_high a0) (fun (q4 : Int32) => some (q4, M_refused)))
theorem hy_X6_was : yX6_was.cls ≠ "java/lang/invoke/MethodHandle" ∧ yX6_was.cls ≠ "java/lang/invoke/VarHandle" ∧ (parseMethodDescriptor yX6_was.desc).map (fun d => d.parameters.length) = some 1 := by decide +kernel
set_option maxHeartbeats 4000000 in
set_option maxRecDepth 100000 in
theorem s_X6_was {E : EN} {hX : TX} {hR : TR} {hL : TC} {hT : TC} {hK : TK} {hS : TS} {hP : TP} {M_unitsNow : Int32} {M_way : Int32} {M_sample : Int32} {M_one : Int32} {M_two : Int32} {M_plays : Int32} {M_low : Int32} {M_high : Int32} {M_playsNow : Int32} {M_lowNow : Int32} {M_highNow : Int32} {M_textLong : Int32} {M_answerLong : Int32} {M_place : Int32} {M_units : Nat → Int32} {M_refused : Nat → Int32} {M_left : Nat → Int32} {M_played : Nat → Int32} {M_playedNow : Nat → Int32} {M_canBe : Nat → Int32} {M_text : Nat → Int32} {M_answered : Nat → Int32} {M_numbers : Nat → Int32} {a0 : Int32} {qR : Int32 × (Nat → Int32)} (hf : f_X6_was M_sample M_plays M_low M_high M_refused a0 = some qR) : Sem E yX6_was cX6_was 2 (some .int) 2 [.ref (eA E 26), .int a0] (hX, hR, hL, hT, hK, hS, hP, (M_unitsNow, M_way, M_sample, M_one, M_two, M_plays, M_low, M_high, M_playsNow, M_lowNow, M_highNow, M_textLong, M_answerLong, M_place, M_units, M_refused, M_left, M_played, M_playedNow, M_canBe, M_text, M_answered, M_numbers)) (some (.int qR.1), (hX, hR, hL, hT, hK, hS, hP, (M_unitsNow, M_way, M_sample, M_one, M_two, M_plays, M_low, M_high, M_playsNow, M_lowNow, M_highNow, M_textLong, M_answerLong, M_place, M_units, qR.2, M_left, M_played, M_playedNow, M_canBe, M_text, M_answered, M_numbers))) := by
  refine Sem.mk (lv := [(0, .ref (eA E 26)), (1, .int a0)]) (by decide) (Nat.le_of_ble_eq_true rfl) rfl ?_
  rw [f_X6_was] at hf
  refine r_iload_n dX6_was_0 1 rfl ?_
  refine r_i2l dX6_was_1 ?_
  refine r_lconst (v := 0) dX6_was_2 (by decide) ?_
  refine r_ldc2 (v := 3) wd_912 dX6_was_3 ?_
  obtain ⟨q1, hq1, hf⟩ := hf_bind hf
  refine r_callSi (As := [.long (Int32.toInt64 a0), .long 0, .long 3]) (st := []) (s_X6_in hq1) (by decide) (by decide) wd_841 wd_842 wd_74 wd_843 hy_X6_in rfl (Nat.le_of_ble_eq_true rfl) dX6_was_6 ?_
  refine r_if_eq (tgt := 20) dX6_was_9 (by decide) (fun c2 => ?_) (fun c2 => ?_)
  · have hf := hf_pos c2 hf
    refine r_aload_n dX6_was_20 0 rfl ?_
    refine r_bipush (v := (-2)) dX6_was_21 (by decide) ?_
    obtain ⟨q3, hq3, hf⟩ := hf_bind hf
    refine r_callVi (As := [.int (-2)]) (b := (eA E 26)) (st := []) (s_X6_bad hq3) (by decide) (by decide) wd_844 wd_846 wd_27 wd_74 wd_847 hy_X6_bad (Rc.obj 26 ga_M rfl) rfl (Nat.le_of_ble_eq_true rfl) dX6_was_23 ?_
    have e9 := Option.some.inj hf
    subst e9
    exact r_iret rfl dX6_was_26
  · have hf := hf_neg c2 hf
    refine r_aload_n dX6_was_12 0 rfl ?_
    refine r_iload_n dX6_was_13 1 rfl ?_
    obtain ⟨q4, hq4, hf⟩ := hf_bind hf
    refine r_callVi (As := [.int a0]) (b := (eA E 26)) (st := []) (s_X6_wasOf hq4) (by decide) (by decide) wd_991 wd_993 wd_48 wd_74 wd_994 hy_X6_wasOf (Rc.obj 26 ga_M rfl) rfl (Nat.le_of_ble_eq_true rfl) dX6_was_14 ?_
    refine r_goto (tgt := 26) dX6_was_17 (by decide) ?_
    have e9 := Option.some.inj hf
    subst e9
    exact r_iret rfl dX6_was_26
-- DuelSamplesModel.play
def f_X6_play (M_plays : Int32) (M_refused : Nat → Int32) (M_played : Nat → Int32) (a0 : Int32) (a1 : Int32) : Option (Int32 × (Nat → Int32)) := if a0 < 0 then Option.bind (f_X6_bad M_refused (-2)) (fun (q2 : Int32 × (Nat → Int32)) => some (q2.1, q2.2)) else Option.bind (f_X6_in (Int32.toInt64 a1) 0 2) (fun (q3 : Int32) => if q3 = 0 then Option.bind (f_X6_bad M_refused (-2)) (fun (q7 : Int32 × (Nat → Int32)) => some (q7.1, q7.2)) else if M_plays ≤ a0 then some ((-1), M_refused) else if inB ((3 * a0) + a1) 36 then some ((M_played (Int32.toNatClampNeg ((3 * a0) + a1))), M_refused) else none)
theorem hy_X6_play : yX6_play.cls ≠ "java/lang/invoke/MethodHandle" ∧ yX6_play.cls ≠ "java/lang/invoke/VarHandle" ∧ (parseMethodDescriptor yX6_play.desc).map (fun d => d.parameters.length) = some 2 := by decide +kernel
set_option maxHeartbeats 4000000 in
set_option maxRecDepth 100000 in
theorem s_X6_play {E : EN} {hX : TX} {hR : TR} {hL : TC} {hT : TC} {hK : TK} {hS : TS} {hP : TP} {M_unitsNow : Int32} {M_way : Int32} {M_sample : Int32} {M_one : Int32} {M_two : Int32} {M_plays : Int32} {M_low : Int32} {M_high : Int32} {M_playsNow : Int32} {M_lowNow : Int32} {M_highNow : Int32} {M_textLong : Int32} {M_answerLong : Int32} {M_place : Int32} {M_units : Nat → Int32} {M_refused : Nat → Int32} {M_left : Nat → Int32} {M_played : Nat → Int32} {M_playedNow : Nat → Int32} {M_canBe : Nat → Int32} {M_text : Nat → Int32} {M_answered : Nat → Int32} {M_numbers : Nat → Int32} {a0 : Int32} {a1 : Int32} {qR : Int32 × (Nat → Int32)} (hf : f_X6_play M_plays M_refused M_played a0 a1 = some qR) : Sem E yX6_play cX6_play 3 (some .int) 2 [.ref (eA E 26), .int a0, .int a1] (hX, hR, hL, hT, hK, hS, hP, (M_unitsNow, M_way, M_sample, M_one, M_two, M_plays, M_low, M_high, M_playsNow, M_lowNow, M_highNow, M_textLong, M_answerLong, M_place, M_units, M_refused, M_left, M_played, M_playedNow, M_canBe, M_text, M_answered, M_numbers)) (some (.int qR.1), (hX, hR, hL, hT, hK, hS, hP, (M_unitsNow, M_way, M_sample, M_one, M_two, M_plays, M_low, M_high, M_playsNow, M_lowNow, M_highNow, M_textLong, M_answerLong, M_place, M_units, qR.2, M_left, M_played, M_playedNow, M_canBe, M_text, M_answered, M_numbers))) := by
  refine Sem.mk (lv := [(0, .ref (eA E 26)), (1, .int a0), (2, .int a1)]) (by decide) (Nat.le_of_ble_eq_true rfl) rfl ?_
  rw [f_X6_play] at hf
  refine r_iload_n dX6_play_0 1 rfl ?_
  refine r_if_lt (tgt := 16) dX6_play_1 (by decide) (fun c1 => ?_) (fun c1 => ?_)
  · have hf := hf_pos c1 hf
    refine r_aload_n dX6_play_16 0 rfl ?_
    refine r_bipush (v := (-2)) dX6_play_17 (by decide) ?_
    obtain ⟨q2, hq2, hf⟩ := hf_bind hf
    refine r_callVi (As := [.int (-2)]) (b := (eA E 26)) (st := []) (s_X6_bad hq2) (by decide) (by decide) wd_844 wd_846 wd_27 wd_74 wd_847 hy_X6_bad (Rc.obj 26 ga_M rfl) rfl (Nat.le_of_ble_eq_true rfl) dX6_play_19 ?_
    have e9 := Option.some.inj hf
    subst e9
    exact r_iret rfl dX6_play_22
  · have hf := hf_neg c1 hf
    refine r_iload_n dX6_play_4 2 rfl ?_
    refine r_i2l dX6_play_5 ?_
    refine r_lconst (v := 0) dX6_play_6 (by decide) ?_
    refine r_ldc2 (v := 2) wd_999 dX6_play_7 ?_
    obtain ⟨q3, hq3, hf⟩ := hf_bind hf
    refine r_callSi (As := [.long (Int32.toInt64 a1), .long 0, .long 2]) (st := []) (s_X6_in hq3) (by decide) (by decide) wd_841 wd_842 wd_74 wd_843 hy_X6_in rfl (Nat.le_of_ble_eq_true rfl) dX6_play_10 ?_
    refine r_if_ne (tgt := 23) dX6_play_13 (by decide) (fun c4 => ?_) (fun c4 => ?_)
    · have hf := hf_neg c4 hf
      refine r_iload_n dX6_play_23 1 rfl ?_
      refine r_aload_n dX6_play_24 0 rfl ?_
      refine r_get (v := .int M_plays) in_X6 26 ga_M rfl 9 (by decide) wd_772 rfl rfl dX6_play_25 ?_
      refine r_icmp_ge (tgt := 44) dX6_play_28 (by decide) (fun c5 => ?_) (fun c5 => ?_)
      · have hf := hf_pos c5 hf
        refine r_iconst (v := (-1)) dX6_play_44 (by decide) ?_
        have e9 := Option.some.inj hf
        subst e9
        exact r_iret rfl dX6_play_45
      · have hf := hf_neg c5 hf
        refine r_aload_n dX6_play_31 0 rfl ?_
        refine r_get (v := .ref (eA E 30)) in_X6 26 ga_M rfl 8 (by decide) wd_771 rfl rfl dX6_play_32 ?_
        refine r_iconst (v := 3) dX6_play_35 (by decide) ?_
        refine r_iload_n dX6_play_36 1 rfl ?_
        refine r_imul dX6_play_37 ?_
        refine r_iload_n dX6_play_38 2 rfl ?_
        refine r_iadd dX6_play_39 ?_
        obtain ⟨i6, hf⟩ := hf_in hf
        refine r_iald (f := M_played) 30 ga_M_played i6 dX6_play_40 ?_
        refine r_goto (tgt := 45) dX6_play_41 (by decide) ?_
        have e9 := Option.some.inj hf
        subst e9
        exact r_iret rfl dX6_play_45
    · have hf := hf_pos c4 hf
      refine r_aload_n dX6_play_16 0 rfl ?_
      refine r_bipush (v := (-2)) dX6_play_17 (by decide) ?_
      obtain ⟨q7, hq7, hf⟩ := hf_bind hf
      refine r_callVi (As := [.int (-2)]) (b := (eA E 26)) (st := []) (s_X6_bad hq7) (by decide) (by decide) wd_844 wd_846 wd_27 wd_74 wd_847 hy_X6_bad (Rc.obj 26 ga_M rfl) rfl (Nat.le_of_ble_eq_true rfl) dX6_play_19 ?_
      have e9 := Option.some.inj hf
      subst e9
      exact r_iret rfl dX6_play_22
-- DuelSamplesModel.countedUp
def lp_X6_countedUp_5 (M_unitsNow : Int32) (a0 : Int32) (M_units : Nat → Int32) (a1 : Int32) : Nat → Int64 → Int32 → Option (Int64)
  | 0, _, _ => none
  | n9 + 1, v3_5, v5_5 => if M_unitsNow ≤ v5_5 then some v3_5 else Option.bind (f_X6_has a0 v5_5) (fun (q2 : Int32) => Option.bind (if q2 = 0 then some 0 else Option.bind (f_X6_at M_units v5_5 0) (fun (q5 : Int32) => if q5 ≤ 0 then some 0 else some 1)) (fun (q4 : Int32) => Option.bind (if q4 = 0 then some 0 else Option.bind (f_X6_at M_units v5_5 a1) (fun (q9 : Int32) => Option.bind (f_X6_at M_units v5_5 0) (fun (q10 : Int32) => if q10 = 0 then none else some ((Int32.toInt64 q9) * (Int32.toInt64 (332640 / q10)))))) (fun (q8 : Int64) => lp_X6_countedUp_5 M_unitsNow a0 M_units a1 n9 (v3_5 + q8) (v5_5 + 1))))
def f_X6_countedUp (M_unitsNow : Int32) (M_units : Nat → Int32) (a0 : Int32) (a1 : Int32) : Option (Int64) := Option.bind (lp_X6_countedUp_5 M_unitsNow a0 M_units a1 FU 0 0) (fun (q12 : Int64) => some q12)
theorem hy_X6_countedUp : yX6_countedUp.cls ≠ "java/lang/invoke/MethodHandle" ∧ yX6_countedUp.cls ≠ "java/lang/invoke/VarHandle" ∧ (parseMethodDescriptor yX6_countedUp.desc).map (fun d => d.parameters.length) = some 2 := by decide +kernel
set_option maxHeartbeats 4000000 in
set_option maxRecDepth 100000 in
theorem w_X6_countedUp_5 {E : EN} {res : Option Value × Hp} {hX : TX} {hR : TR} {hL : TC} {hT : TC} {hK : TK} {hS : TS} {hP : TP} {a0 : Int32} {a1 : Int32} {M_unitsNow : Int32} {M_way : Int32} {M_sample : Int32} {M_one : Int32} {M_two : Int32} {M_plays : Int32} {M_low : Int32} {M_high : Int32} {M_playsNow : Int32} {M_lowNow : Int32} {M_highNow : Int32} {M_textLong : Int32} {M_answerLong : Int32} {M_place : Int32} {M_units : Nat → Int32} {M_refused : Nat → Int32} {M_left : Nat → Int32} {M_played : Nat → Int32} {M_playedNow : Nat → Int32} {M_canBe : Nat → Int32} {M_text : Nat → Int32} {M_answered : Nat → Int32} {M_numbers : Nat → Int32} : ∀ (n9 : Nat) (v3_5 : Int64) (v5_5 : Int32) (qL : Int64), lp_X6_countedUp_5 M_unitsNow a0 M_units a1 n9 v3_5 v5_5 = some qL → (Wa E yX6_countedUp cX6_countedUp 7 (some .long) 2 res 78 [(3, .long qL)] [] (hX, hR, hL, hT, hK, hS, hP, (M_unitsNow, M_way, M_sample, M_one, M_two, M_plays, M_low, M_high, M_playsNow, M_lowNow, M_highNow, M_textLong, M_answerLong, M_place, M_units, M_refused, M_left, M_played, M_playedNow, M_canBe, M_text, M_answered, M_numbers))) → Wa E yX6_countedUp cX6_countedUp 7 (some .long) 2 res 5 [(0, .ref (eA E 26)), (1, .int a0), (2, .int a1), (3, .long v3_5), (5, .int v5_5)] [] (hX, hR, hL, hT, hK, hS, hP, (M_unitsNow, M_way, M_sample, M_one, M_two, M_plays, M_low, M_high, M_playsNow, M_lowNow, M_highNow, M_textLong, M_answerLong, M_place, M_units, M_refused, M_left, M_played, M_playedNow, M_canBe, M_text, M_answered, M_numbers)) := by
  intro n9
  induction n9 with
  | zero =>
    intro v3_5 v5_5 qL hf
    exact nomatch (show (none : Option (Int64)) = some qL from hf)
  | succ n9 ih =>
    intro v3_5 v5_5 qL hf kx0
    rw [lp_X6_countedUp_5] at hf
    refine r_iload dX6_countedUp_5 4 rfl ?_
    refine r_aload_n dX6_countedUp_7 0 rfl ?_
    refine r_get (v := .int M_unitsNow) in_X6 26 ga_M rfl 1 (by decide) wd_764 rfl rfl dX6_countedUp_8 ?_
    refine r_icmp_ge (tgt := 78) dX6_countedUp_11 (by decide) (fun c1 => ?_) (fun c1 => ?_)
    · have hf := hf_pos c1 hf
      have e9 := Option.some.inj hf
      subst e9
      exact (Wa.sub [3] rfl kx0)
    · have hf := hf_neg c1 hf
      refine r_iload_n dX6_countedUp_14 1 rfl ?_
      refine r_iload dX6_countedUp_15 4 rfl ?_
      obtain ⟨q2, hq2, hf⟩ := hf_bind hf
      refine r_callSi (As := [.int a0, .int v5_5]) (st := []) (s_X6_has hq2) (by decide) (by decide) wd_905 wd_906 wd_74 wd_907 hy_X6_has rfl (Nat.le_of_ble_eq_true rfl) dX6_countedUp_17 ?_
      obtain ⟨q4, hq4, hf⟩ := hf_bind hf
      have kj4 : Wa E yX6_countedUp cX6_countedUp 7 (some .long) 2 res 38 [(0, .ref (eA E 26)), (1, .int a0), (2, .int a1), (3, .long v3_5), (5, .int v5_5)] [.int q4] (hX, hR, hL, hT, hK, hS, hP, (M_unitsNow, M_way, M_sample, M_one, M_two, M_plays, M_low, M_high, M_playsNow, M_lowNow, M_highNow, M_textLong, M_answerLong, M_place, M_units, M_refused, M_left, M_played, M_playedNow, M_canBe, M_text, M_answered, M_numbers)) := by
        refine r_istore (lv2 := [(6, .int q4), (0, .ref (eA E 26)), (1, .int a0), (2, .int a1), (3, .long v3_5), (5, .int v5_5)]) dX6_countedUp_38 (by decide) rfl ?_
        refine r_lload_n dX6_countedUp_40 4 rfl ?_
        refine r_iload dX6_countedUp_41 0 rfl ?_
        obtain ⟨q8, hq8, hf⟩ := hf_bind hf
        have kj8 : Wa E yX6_countedUp cX6_countedUp 7 (some .long) 2 res 70 [(0, .ref (eA E 26)), (1, .int a0), (2, .int a1), (5, .int v5_5)] [.long q8, .long v3_5] (hX, hR, hL, hT, hK, hS, hP, (M_unitsNow, M_way, M_sample, M_one, M_two, M_plays, M_low, M_high, M_playsNow, M_lowNow, M_highNow, M_textLong, M_answerLong, M_place, M_units, M_refused, M_left, M_played, M_playedNow, M_canBe, M_text, M_answered, M_numbers)) := by
          refine r_ladd dX6_countedUp_70 ?_
          refine r_lstore_n (lv2 := [(3, .long (v3_5 + q8)), (0, .ref (eA E 26)), (1, .int a0), (2, .int a1), (5, .int v5_5)]) dX6_countedUp_71 rfl (by decide) rfl ?_
          refine r_iinc (v := (v5_5 + 1)) (lv2 := [(5, .int (v5_5 + 1)), (3, .long (v3_5 + q8)), (0, .ref (eA E 26)), (1, .int a0), (2, .int a1)]) dX6_countedUp_72 4 rfl rfl (by decide) rfl ?_
          refine r_goto (tgt := 5) dX6_countedUp_75 (by decide) ?_
          exact (Wa.sub [2, 3, 4, 1, 0] rfl (ih _ _ _ hf kx0))
        have hf := hq8
        refine r_if_eq (tgt := 69) dX6_countedUp_43 (by decide) (fun c7 => ?_) (fun c7 => ?_)
        · have hf := hf_pos c7 hf
          refine r_lconst (v := 0) dX6_countedUp_69 (by decide) ?_
          have e9 := Option.some.inj hf
          subst e9
          exact (Wa.sub [1, 2, 3, 5] rfl kj8)
        · have hf := hf_neg c7 hf
          refine r_aload_n dX6_countedUp_46 1 rfl ?_
          refine r_iload dX6_countedUp_47 5 rfl ?_
          refine r_iload_n dX6_countedUp_49 3 rfl ?_
          obtain ⟨q9, hq9, hf⟩ := hf_bind hf
          refine r_callVi (As := [.int v5_5, .int a1]) (b := (eA E 26)) (st := [.long v3_5]) (s_X6_at hq9) (by decide) (by decide) wd_869 wd_871 wd_32 wd_74 wd_872 hy_X6_at (Rc.obj 26 ga_M rfl) rfl (Nat.le_of_ble_eq_true rfl) dX6_countedUp_50 ?_
          refine r_i2l dX6_countedUp_53 ?_
          refine r_ldc (v := 332640) wd_1008 dX6_countedUp_54 ?_
          refine r_aload_n dX6_countedUp_56 1 rfl ?_
          refine r_iload dX6_countedUp_57 5 rfl ?_
          refine r_iconst (v := 0) dX6_countedUp_59 (by decide) ?_
          obtain ⟨q10, hq10, hf⟩ := hf_bind hf
          refine r_callVi (As := [.int v5_5, .int 0]) (b := (eA E 26)) (st := [.int 332640, .long (Int32.toInt64 q9), .long v3_5]) (s_X6_at hq10) (by decide) (by decide) wd_869 wd_871 wd_32 wd_74 wd_872 hy_X6_at (Rc.obj 26 ga_M rfl) rfl (Nat.le_of_ble_eq_true rfl) dX6_countedUp_60 ?_
          obtain ⟨z11, hf⟩ := hf_nz hf
          refine r_idiv dX6_countedUp_63 z11 ?_
          refine r_i2l dX6_countedUp_64 ?_
          refine r_lmul dX6_countedUp_65 ?_
          refine r_goto (tgt := 70) dX6_countedUp_66 (by decide) ?_
          have e9 := Option.some.inj hf
          subst e9
          exact (Wa.sub [1, 2, 3, 5] rfl kj8)
      have hf := hq4
      refine r_if_eq (tgt := 37) dX6_countedUp_20 (by decide) (fun c3 => ?_) (fun c3 => ?_)
      · have hf := hf_pos c3 hf
        refine r_iconst (v := 0) dX6_countedUp_37 (by decide) ?_
        have e9 := Option.some.inj hf
        subst e9
        exact kj4
      · have hf := hf_neg c3 hf
        refine r_aload_n dX6_countedUp_23 0 rfl ?_
        refine r_iload dX6_countedUp_24 4 rfl ?_
        refine r_iconst (v := 0) dX6_countedUp_26 (by decide) ?_
        obtain ⟨q5, hq5, hf⟩ := hf_bind hf
        refine r_callVi (As := [.int v5_5, .int 0]) (b := (eA E 26)) (st := []) (s_X6_at hq5) (by decide) (by decide) wd_869 wd_871 wd_32 wd_74 wd_872 hy_X6_at (Rc.obj 26 ga_M rfl) rfl (Nat.le_of_ble_eq_true rfl) dX6_countedUp_27 ?_
        refine r_if_le (tgt := 37) dX6_countedUp_30 (by decide) (fun c6 => ?_) (fun c6 => ?_)
        · have hf := hf_pos c6 hf
          refine r_iconst (v := 0) dX6_countedUp_37 (by decide) ?_
          have e9 := Option.some.inj hf
          subst e9
          exact kj4
        · have hf := hf_neg c6 hf
          refine r_iconst (v := 1) dX6_countedUp_33 (by decide) ?_
          refine r_goto (tgt := 38) dX6_countedUp_34 (by decide) ?_
          have e9 := Option.some.inj hf
          subst e9
          exact kj4
set_option maxHeartbeats 4000000 in
set_option maxRecDepth 100000 in
theorem s_X6_countedUp {E : EN} {hX : TX} {hR : TR} {hL : TC} {hT : TC} {hK : TK} {hS : TS} {hP : TP} {M_unitsNow : Int32} {M_way : Int32} {M_sample : Int32} {M_one : Int32} {M_two : Int32} {M_plays : Int32} {M_low : Int32} {M_high : Int32} {M_playsNow : Int32} {M_lowNow : Int32} {M_highNow : Int32} {M_textLong : Int32} {M_answerLong : Int32} {M_place : Int32} {M_units : Nat → Int32} {M_refused : Nat → Int32} {M_left : Nat → Int32} {M_played : Nat → Int32} {M_playedNow : Nat → Int32} {M_canBe : Nat → Int32} {M_text : Nat → Int32} {M_answered : Nat → Int32} {M_numbers : Nat → Int32} {a0 : Int32} {a1 : Int32} {qR : Int64} (hf : f_X6_countedUp M_unitsNow M_units a0 a1 = some qR) : Sem E yX6_countedUp cX6_countedUp 7 (some .long) 2 [.ref (eA E 26), .int a0, .int a1] (hX, hR, hL, hT, hK, hS, hP, (M_unitsNow, M_way, M_sample, M_one, M_two, M_plays, M_low, M_high, M_playsNow, M_lowNow, M_highNow, M_textLong, M_answerLong, M_place, M_units, M_refused, M_left, M_played, M_playedNow, M_canBe, M_text, M_answered, M_numbers)) (some (.long qR), (hX, hR, hL, hT, hK, hS, hP, (M_unitsNow, M_way, M_sample, M_one, M_two, M_plays, M_low, M_high, M_playsNow, M_lowNow, M_highNow, M_textLong, M_answerLong, M_place, M_units, M_refused, M_left, M_played, M_playedNow, M_canBe, M_text, M_answered, M_numbers))) := by
  refine Sem.mk (lv := [(0, .ref (eA E 26)), (1, .int a0), (2, .int a1)]) (by decide) (Nat.le_of_ble_eq_true rfl) rfl ?_
  rw [f_X6_countedUp] at hf
  refine r_lconst (v := 0) dX6_countedUp_0 (by decide) ?_
  refine r_lstore_n (lv2 := [(3, .long 0), (0, .ref (eA E 26)), (1, .int a0), (2, .int a1)]) dX6_countedUp_1 rfl (by decide) rfl ?_
  refine r_iconst (v := 0) dX6_countedUp_2 (by decide) ?_
  refine r_istore (lv2 := [(5, .int 0), (3, .long 0), (0, .ref (eA E 26)), (1, .int a0), (2, .int a1)]) dX6_countedUp_3 (by decide) rfl ?_
  obtain ⟨q12, hq12, hf⟩ := hf_bind hf
  refine (Wa.sub [2, 3, 4, 1, 0] rfl (w_X6_countedUp_5 _ _ _ _ hq12 ?_))
  refine r_lload_n dX6_countedUp_78 0 rfl ?_
  have e9 := Option.some.inj hf
  subst e9
  exact r_lret rfl dX6_countedUp_79
-- DuelSamplesModel.missOf
def f_X6_missOf (M_unitsNow : Int32) (M_units : Nat → Int32) (a0 : Int32) : Option (Int64) := Option.bind (f_X6_countedUp M_unitsNow M_units a0 3) (fun (q1 : Int64) => Option.bind (f_X6_sumOf M_unitsNow M_units 3) (fun (q2 : Int32) => if 0 ≤ (lg_cmp (q1 - (27720 * (Int32.toInt64 q2))) 0) then some (q1 - (27720 * (Int32.toInt64 q2))) else some (-(q1 - (27720 * (Int32.toInt64 q2))))))
theorem hy_X6_missOf : yX6_missOf.cls ≠ "java/lang/invoke/MethodHandle" ∧ yX6_missOf.cls ≠ "java/lang/invoke/VarHandle" ∧ (parseMethodDescriptor yX6_missOf.desc).map (fun d => d.parameters.length) = some 1 := by decide +kernel
set_option maxHeartbeats 4000000 in
set_option maxRecDepth 100000 in
theorem s_X6_missOf {E : EN} {hX : TX} {hR : TR} {hL : TC} {hT : TC} {hK : TK} {hS : TS} {hP : TP} {M_unitsNow : Int32} {M_way : Int32} {M_sample : Int32} {M_one : Int32} {M_two : Int32} {M_plays : Int32} {M_low : Int32} {M_high : Int32} {M_playsNow : Int32} {M_lowNow : Int32} {M_highNow : Int32} {M_textLong : Int32} {M_answerLong : Int32} {M_place : Int32} {M_units : Nat → Int32} {M_refused : Nat → Int32} {M_left : Nat → Int32} {M_played : Nat → Int32} {M_playedNow : Nat → Int32} {M_canBe : Nat → Int32} {M_text : Nat → Int32} {M_answered : Nat → Int32} {M_numbers : Nat → Int32} {a0 : Int32} {qR : Int64} (hf : f_X6_missOf M_unitsNow M_units a0 = some qR) : Sem E yX6_missOf cX6_missOf 4 (some .long) 3 [.ref (eA E 26), .int a0] (hX, hR, hL, hT, hK, hS, hP, (M_unitsNow, M_way, M_sample, M_one, M_two, M_plays, M_low, M_high, M_playsNow, M_lowNow, M_highNow, M_textLong, M_answerLong, M_place, M_units, M_refused, M_left, M_played, M_playedNow, M_canBe, M_text, M_answered, M_numbers)) (some (.long qR), (hX, hR, hL, hT, hK, hS, hP, (M_unitsNow, M_way, M_sample, M_one, M_two, M_plays, M_low, M_high, M_playsNow, M_lowNow, M_highNow, M_textLong, M_answerLong, M_place, M_units, M_refused, M_left, M_played, M_playedNow, M_canBe, M_text, M_answered, M_numbers))) := by
  refine Sem.mk (lv := [(0, .ref (eA E 26)), (1, .int a0)]) (by decide) (Nat.le_of_ble_eq_true rfl) rfl ?_
  rw [f_X6_missOf] at hf
  refine r_aload_n dX6_missOf_0 0 rfl ?_
  refine r_iload_n dX6_missOf_1 1 rfl ?_
  refine r_iconst (v := 3) dX6_missOf_2 (by decide) ?_
  obtain ⟨q1, hq1, hf⟩ := hf_bind hf
  refine r_callVl (As := [.int a0, .int 3]) (b := (eA E 26)) (st := []) (s_X6_countedUp hq1) (by decide) (by decide) wd_1004 wd_1006 wd_49 wd_74 wd_1007 hy_X6_countedUp (Rc.obj 26 ga_M rfl) rfl (Nat.le_of_ble_eq_true rfl) dX6_missOf_3 ?_
  refine r_ldc2 (v := 27720) wd_1013 dX6_missOf_6 ?_
  refine r_aload_n dX6_missOf_9 0 rfl ?_
  refine r_iconst (v := 3) dX6_missOf_10 (by decide) ?_
  obtain ⟨q2, hq2, hf⟩ := hf_bind hf
  refine r_callVi (As := [.int 3]) (b := (eA E 26)) (st := [.long 27720, .long q1]) (s_X6_sumOf hq2) (by decide) (by decide) wd_913 wd_915 wd_34 wd_74 wd_916 hy_X6_sumOf (Rc.obj 26 ga_M rfl) rfl (Nat.le_of_ble_eq_true rfl) dX6_missOf_11 ?_
  refine r_i2l dX6_missOf_14 ?_
  refine r_lmul dX6_missOf_15 ?_
  refine r_lsub dX6_missOf_16 ?_
  refine r_lstore_n (lv2 := [(2, .long (q1 - (27720 * (Int32.toInt64 q2)))), (0, .ref (eA E 26)), (1, .int a0)]) dX6_missOf_17 rfl (by decide) rfl ?_
  refine r_lload_n dX6_missOf_18 0 rfl ?_
  refine r_lconst (v := 0) dX6_missOf_19 (by decide) ?_
  refine r_lcmp dX6_missOf_20 ?_
  refine r_if_ge (tgt := 29) dX6_missOf_21 (by decide) (fun c3 => ?_) (fun c3 => ?_)
  · have hf := hf_pos c3 hf
    refine r_lload_n dX6_missOf_29 0 rfl ?_
    have e9 := Option.some.inj hf
    subst e9
    exact r_lret rfl dX6_missOf_30
  · have hf := hf_neg c3 hf
    refine r_lload_n dX6_missOf_24 0 rfl ?_
    refine r_lneg dX6_missOf_25 ?_
    refine r_goto (tgt := 30) dX6_missOf_26 (by decide) ?_
    have e9 := Option.some.inj hf
    subst e9
    exact r_lret rfl dX6_missOf_30
-- DuelSamplesModel.counted
def f_X6_counted (M_unitsNow : Int32) (M_sample : Int32) (M_units : Nat → Int32) (M_refused : Nat → Int32) (a0 : Int32) : Option (Int64 × (Nat → Int32)) := Option.bind (f_X6_in (Int32.toInt64 a0) 0 2) (fun (q1 : Int32) => if q1 = 0 then Option.bind (f_X6_bad M_refused (-2)) (fun (q8 : Int32 × (Nat → Int32)) => some ((Int32.toInt64 q8.1), q8.2)) else if a0 = 0 then Option.bind (f_X6_countedUp M_unitsNow M_units M_sample 4) (fun (q7 : Int64) => some (q7, M_refused)) else if a0 = 1 then Option.bind (f_X6_countedUp M_unitsNow M_units M_sample 3) (fun (q6 : Int64) => some (q6, M_refused)) else Option.bind (f_X6_missOf M_unitsNow M_units M_sample) (fun (q5 : Int64) => some (q5, M_refused)))
theorem hy_X6_counted : yX6_counted.cls ≠ "java/lang/invoke/MethodHandle" ∧ yX6_counted.cls ≠ "java/lang/invoke/VarHandle" ∧ (parseMethodDescriptor yX6_counted.desc).map (fun d => d.parameters.length) = some 1 := by decide +kernel
set_option maxHeartbeats 4000000 in
set_option maxRecDepth 100000 in
theorem s_X6_counted {E : EN} {hX : TX} {hR : TR} {hL : TC} {hT : TC} {hK : TK} {hS : TS} {hP : TP} {M_unitsNow : Int32} {M_way : Int32} {M_sample : Int32} {M_one : Int32} {M_two : Int32} {M_plays : Int32} {M_low : Int32} {M_high : Int32} {M_playsNow : Int32} {M_lowNow : Int32} {M_highNow : Int32} {M_textLong : Int32} {M_answerLong : Int32} {M_place : Int32} {M_units : Nat → Int32} {M_refused : Nat → Int32} {M_left : Nat → Int32} {M_played : Nat → Int32} {M_playedNow : Nat → Int32} {M_canBe : Nat → Int32} {M_text : Nat → Int32} {M_answered : Nat → Int32} {M_numbers : Nat → Int32} {a0 : Int32} {qR : Int64 × (Nat → Int32)} (hf : f_X6_counted M_unitsNow M_sample M_units M_refused a0 = some qR) : Sem E yX6_counted cX6_counted 2 (some .long) 4 [.ref (eA E 26), .int a0] (hX, hR, hL, hT, hK, hS, hP, (M_unitsNow, M_way, M_sample, M_one, M_two, M_plays, M_low, M_high, M_playsNow, M_lowNow, M_highNow, M_textLong, M_answerLong, M_place, M_units, M_refused, M_left, M_played, M_playedNow, M_canBe, M_text, M_answered, M_numbers)) (some (.long qR.1), (hX, hR, hL, hT, hK, hS, hP, (M_unitsNow, M_way, M_sample, M_one, M_two, M_plays, M_low, M_high, M_playsNow, M_lowNow, M_highNow, M_textLong, M_answerLong, M_place, M_units, qR.2, M_left, M_played, M_playedNow, M_canBe, M_text, M_answered, M_numbers))) := by
  refine Sem.mk (lv := [(0, .ref (eA E 26)), (1, .int a0)]) (by decide) (Nat.le_of_ble_eq_true rfl) rfl ?_
  rw [f_X6_counted] at hf
  refine r_iload_n dX6_counted_0 1 rfl ?_
  refine r_i2l dX6_counted_1 ?_
  refine r_lconst (v := 0) dX6_counted_2 (by decide) ?_
  refine r_ldc2 (v := 2) wd_999 dX6_counted_3 ?_
  obtain ⟨q1, hq1, hf⟩ := hf_bind hf
  refine r_callSi (As := [.long (Int32.toInt64 a0), .long 0, .long 2]) (st := []) (s_X6_in hq1) (by decide) (by decide) wd_841 wd_842 wd_74 wd_843 hy_X6_in rfl (Nat.le_of_ble_eq_true rfl) dX6_counted_6 ?_
  refine r_if_ne (tgt := 20) dX6_counted_9 (by decide) (fun c2 => ?_) (fun c2 => ?_)
  · have hf := hf_neg c2 hf
    refine r_iload_n dX6_counted_20 1 rfl ?_
    refine r_if_ne (tgt := 36) dX6_counted_21 (by decide) (fun c3 => ?_) (fun c3 => ?_)
    · have hf := hf_neg c3 hf
      refine r_iload_n dX6_counted_36 1 rfl ?_
      refine r_iconst (v := 1) dX6_counted_37 (by decide) ?_
      refine r_icmp_ne (tgt := 53) dX6_counted_38 (by decide) (fun c4 => ?_) (fun c4 => ?_)
      · have hf := hf_neg c4 hf
        refine r_aload_n dX6_counted_53 0 rfl ?_
        refine r_aload_n dX6_counted_54 0 rfl ?_
        refine r_get (v := .int M_sample) in_X6 26 ga_M rfl 3 (by decide) wd_766 rfl rfl dX6_counted_55 ?_
        obtain ⟨q5, hq5, hf⟩ := hf_bind hf
        refine r_callVl (As := [.int M_sample]) (b := (eA E 26)) (st := []) (s_X6_missOf hq5) (by decide) (by decide) wd_1009 wd_1011 wd_50 wd_74 wd_1012 hy_X6_missOf (Rc.obj 26 ga_M rfl) rfl (Nat.le_of_ble_eq_true rfl) dX6_counted_58 ?_
        have e9 := Option.some.inj hf
        subst e9
        exact r_lret rfl dX6_counted_61
      · have hf := hf_pos c4 hf
        refine r_aload_n dX6_counted_41 0 rfl ?_
        refine r_aload_n dX6_counted_42 0 rfl ?_
        refine r_get (v := .int M_sample) in_X6 26 ga_M rfl 3 (by decide) wd_766 rfl rfl dX6_counted_43 ?_
        refine r_iconst (v := 3) dX6_counted_46 (by decide) ?_
        obtain ⟨q6, hq6, hf⟩ := hf_bind hf
        refine r_callVl (As := [.int M_sample, .int 3]) (b := (eA E 26)) (st := []) (s_X6_countedUp hq6) (by decide) (by decide) wd_1004 wd_1006 wd_49 wd_74 wd_1007 hy_X6_countedUp (Rc.obj 26 ga_M rfl) rfl (Nat.le_of_ble_eq_true rfl) dX6_counted_47 ?_
        refine r_goto (tgt := 61) dX6_counted_50 (by decide) ?_
        have e9 := Option.some.inj hf
        subst e9
        exact r_lret rfl dX6_counted_61
    · have hf := hf_pos c3 hf
      refine r_aload_n dX6_counted_24 0 rfl ?_
      refine r_aload_n dX6_counted_25 0 rfl ?_
      refine r_get (v := .int M_sample) in_X6 26 ga_M rfl 3 (by decide) wd_766 rfl rfl dX6_counted_26 ?_
      refine r_iconst (v := 4) dX6_counted_29 (by decide) ?_
      obtain ⟨q7, hq7, hf⟩ := hf_bind hf
      refine r_callVl (As := [.int M_sample, .int 4]) (b := (eA E 26)) (st := []) (s_X6_countedUp hq7) (by decide) (by decide) wd_1004 wd_1006 wd_49 wd_74 wd_1007 hy_X6_countedUp (Rc.obj 26 ga_M rfl) rfl (Nat.le_of_ble_eq_true rfl) dX6_counted_30 ?_
      refine r_goto (tgt := 61) dX6_counted_33 (by decide) ?_
      have e9 := Option.some.inj hf
      subst e9
      exact r_lret rfl dX6_counted_61
  · have hf := hf_pos c2 hf
    refine r_aload_n dX6_counted_12 0 rfl ?_
    refine r_bipush (v := (-2)) dX6_counted_13 (by decide) ?_
    obtain ⟨q8, hq8, hf⟩ := hf_bind hf
    refine r_callVi (As := [.int (-2)]) (b := (eA E 26)) (st := []) (s_X6_bad hq8) (by decide) (by decide) wd_844 wd_846 wd_27 wd_74 wd_847 hy_X6_bad (Rc.obj 26 ga_M rfl) rfl (Nat.le_of_ble_eq_true rfl) dX6_counted_15 ?_
    refine r_i2l dX6_counted_18 ?_
    have e9 := Option.some.inj hf
    subst e9
    exact r_lret rfl dX6_counted_19
-- DuelSamplesModel.inside
def lp_X6_inside_23 (M_unitsNow : Int32) (M_sample : Int32) (M_units : Nat → Int32) (a0 : Int32) : Nat → Int32 → Int32 → Option (Int32)
  | 0, _, _ => none
  | n9 + 1, v2_23, v3_23 => if M_unitsNow ≤ v3_23 then some v2_23 else Option.bind (f_X6_has M_sample v3_23) (fun (q4 : Int32) => Option.bind (if q4 = 0 then some 0 else Option.bind (f_X6_at M_units v3_23 2) (fun (q7 : Int32) => if q7 = a0 then some 1 else some 0)) (fun (q6 : Int32) => lp_X6_inside_23 M_unitsNow M_sample M_units a0 n9 (v2_23 + q6) (v3_23 + 1)))
def f_X6_inside (M_unitsNow : Int32) (M_sample : Int32) (M_units : Nat → Int32) (M_refused : Nat → Int32) (a0 : Int32) : Option (Int32 × (Nat → Int32)) := Option.bind (f_X6_in (Int32.toInt64 a0) 0 3) (fun (q1 : Int32) => if q1 = 0 then Option.bind (f_X6_bad M_refused (-2)) (fun (q10 : Int32 × (Nat → Int32)) => some (q10.1, q10.2)) else Option.bind (lp_X6_inside_23 M_unitsNow M_sample M_units a0 FU 0 0) (fun (q9 : Int32) => some (q9, M_refused)))
theorem hy_X6_inside : yX6_inside.cls ≠ "java/lang/invoke/MethodHandle" ∧ yX6_inside.cls ≠ "java/lang/invoke/VarHandle" ∧ (parseMethodDescriptor yX6_inside.desc).map (fun d => d.parameters.length) = some 1 := by decide +kernel
set_option maxHeartbeats 4000000 in
set_option maxRecDepth 100000 in
theorem w_X6_inside_23 {E : EN} {res : Option Value × Hp} {hX : TX} {hR : TR} {hL : TC} {hT : TC} {hK : TK} {hS : TS} {hP : TP} {a0 : Int32} {M_unitsNow : Int32} {M_way : Int32} {M_sample : Int32} {M_one : Int32} {M_two : Int32} {M_plays : Int32} {M_low : Int32} {M_high : Int32} {M_playsNow : Int32} {M_lowNow : Int32} {M_highNow : Int32} {M_textLong : Int32} {M_answerLong : Int32} {M_place : Int32} {M_units : Nat → Int32} {M_refused : Nat → Int32} {M_left : Nat → Int32} {M_played : Nat → Int32} {M_playedNow : Nat → Int32} {M_canBe : Nat → Int32} {M_text : Nat → Int32} {M_answered : Nat → Int32} {M_numbers : Nat → Int32} : ∀ (n9 : Nat) (v2_23 : Int32) (v3_23 : Int32) (qL : Int32), lp_X6_inside_23 M_unitsNow M_sample M_units a0 n9 v2_23 v3_23 = some qL → (Wa E yX6_inside cX6_inside 4 (some .int) 2 res 66 [(2, .int qL)] [] (hX, hR, hL, hT, hK, hS, hP, (M_unitsNow, M_way, M_sample, M_one, M_two, M_plays, M_low, M_high, M_playsNow, M_lowNow, M_highNow, M_textLong, M_answerLong, M_place, M_units, M_refused, M_left, M_played, M_playedNow, M_canBe, M_text, M_answered, M_numbers))) → Wa E yX6_inside cX6_inside 4 (some .int) 2 res 23 [(0, .ref (eA E 26)), (1, .int a0), (2, .int v2_23), (3, .int v3_23)] [] (hX, hR, hL, hT, hK, hS, hP, (M_unitsNow, M_way, M_sample, M_one, M_two, M_plays, M_low, M_high, M_playsNow, M_lowNow, M_highNow, M_textLong, M_answerLong, M_place, M_units, M_refused, M_left, M_played, M_playedNow, M_canBe, M_text, M_answered, M_numbers)) := by
  intro n9
  induction n9 with
  | zero =>
    intro v2_23 v3_23 qL hf
    exact nomatch (show (none : Option (Int32)) = some qL from hf)
  | succ n9 ih =>
    intro v2_23 v3_23 qL hf kx0
    rw [lp_X6_inside_23] at hf
    refine r_iload_n dX6_inside_23 3 rfl ?_
    refine r_aload_n dX6_inside_24 0 rfl ?_
    refine r_get (v := .int M_unitsNow) in_X6 26 ga_M rfl 1 (by decide) wd_764 rfl rfl dX6_inside_25 ?_
    refine r_icmp_ge (tgt := 66) dX6_inside_28 (by decide) (fun c3 => ?_) (fun c3 => ?_)
    · have hf := hf_pos c3 hf
      have e9 := Option.some.inj hf
      subst e9
      exact (Wa.sub [2] rfl kx0)
    · have hf := hf_neg c3 hf
      refine r_iload_n dX6_inside_31 2 rfl ?_
      refine r_aload_n dX6_inside_32 0 rfl ?_
      refine r_get (v := .int M_sample) in_X6 26 ga_M rfl 3 (by decide) wd_766 rfl rfl dX6_inside_33 ?_
      refine r_iload_n dX6_inside_36 3 rfl ?_
      obtain ⟨q4, hq4, hf⟩ := hf_bind hf
      refine r_callSi (As := [.int M_sample, .int v3_23]) (st := [.int v2_23]) (s_X6_has hq4) (by decide) (by decide) wd_905 wd_906 wd_74 wd_907 hy_X6_has rfl (Nat.le_of_ble_eq_true rfl) dX6_inside_37 ?_
      obtain ⟨q6, hq6, hf⟩ := hf_bind hf
      have kj6 : Wa E yX6_inside cX6_inside 4 (some .int) 2 res 58 [(0, .ref (eA E 26)), (1, .int a0), (3, .int v3_23)] [.int q6, .int v2_23] (hX, hR, hL, hT, hK, hS, hP, (M_unitsNow, M_way, M_sample, M_one, M_two, M_plays, M_low, M_high, M_playsNow, M_lowNow, M_highNow, M_textLong, M_answerLong, M_place, M_units, M_refused, M_left, M_played, M_playedNow, M_canBe, M_text, M_answered, M_numbers)) := by
        refine r_iadd dX6_inside_58 ?_
        refine r_istore_n (lv2 := [(2, .int (v2_23 + q6)), (0, .ref (eA E 26)), (1, .int a0), (3, .int v3_23)]) dX6_inside_59 rfl (by decide) rfl ?_
        refine r_iinc (v := (v3_23 + 1)) (lv2 := [(3, .int (v3_23 + 1)), (2, .int (v2_23 + q6)), (0, .ref (eA E 26)), (1, .int a0)]) dX6_inside_60 3 rfl rfl (by decide) rfl ?_
        refine r_goto (tgt := 23) dX6_inside_63 (by decide) ?_
        exact (Wa.sub [2, 3, 1, 0] rfl (ih _ _ _ hf kx0))
      have hf := hq6
      refine r_if_eq (tgt := 57) dX6_inside_40 (by decide) (fun c5 => ?_) (fun c5 => ?_)
      · have hf := hf_pos c5 hf
        refine r_iconst (v := 0) dX6_inside_57 (by decide) ?_
        have e9 := Option.some.inj hf
        subst e9
        exact (Wa.sub [0, 1, 3] rfl kj6)
      · have hf := hf_neg c5 hf
        refine r_aload_n dX6_inside_43 0 rfl ?_
        refine r_iload_n dX6_inside_44 3 rfl ?_
        refine r_iconst (v := 2) dX6_inside_45 (by decide) ?_
        obtain ⟨q7, hq7, hf⟩ := hf_bind hf
        refine r_callVi (As := [.int v3_23, .int 2]) (b := (eA E 26)) (st := [.int v2_23]) (s_X6_at hq7) (by decide) (by decide) wd_869 wd_871 wd_32 wd_74 wd_872 hy_X6_at (Rc.obj 26 ga_M rfl) rfl (Nat.le_of_ble_eq_true rfl) dX6_inside_46 ?_
        refine r_iload_n dX6_inside_49 1 rfl ?_
        refine r_icmp_ne (tgt := 57) dX6_inside_50 (by decide) (fun c8 => ?_) (fun c8 => ?_)
        · have hf := hf_neg c8 hf
          refine r_iconst (v := 0) dX6_inside_57 (by decide) ?_
          have e9 := Option.some.inj hf
          subst e9
          exact (Wa.sub [0, 1, 3] rfl kj6)
        · have hf := hf_pos c8 hf
          refine r_iconst (v := 1) dX6_inside_53 (by decide) ?_
          refine r_goto (tgt := 58) dX6_inside_54 (by decide) ?_
          have e9 := Option.some.inj hf
          subst e9
          exact (Wa.sub [0, 1, 3] rfl kj6)
set_option maxHeartbeats 4000000 in
set_option maxRecDepth 100000 in
theorem s_X6_inside {E : EN} {hX : TX} {hR : TR} {hL : TC} {hT : TC} {hK : TK} {hS : TS} {hP : TP} {M_unitsNow : Int32} {M_way : Int32} {M_sample : Int32} {M_one : Int32} {M_two : Int32} {M_plays : Int32} {M_low : Int32} {M_high : Int32} {M_playsNow : Int32} {M_lowNow : Int32} {M_highNow : Int32} {M_textLong : Int32} {M_answerLong : Int32} {M_place : Int32} {M_units : Nat → Int32} {M_refused : Nat → Int32} {M_left : Nat → Int32} {M_played : Nat → Int32} {M_playedNow : Nat → Int32} {M_canBe : Nat → Int32} {M_text : Nat → Int32} {M_answered : Nat → Int32} {M_numbers : Nat → Int32} {a0 : Int32} {qR : Int32 × (Nat → Int32)} (hf : f_X6_inside M_unitsNow M_sample M_units M_refused a0 = some qR) : Sem E yX6_inside cX6_inside 4 (some .int) 2 [.ref (eA E 26), .int a0] (hX, hR, hL, hT, hK, hS, hP, (M_unitsNow, M_way, M_sample, M_one, M_two, M_plays, M_low, M_high, M_playsNow, M_lowNow, M_highNow, M_textLong, M_answerLong, M_place, M_units, M_refused, M_left, M_played, M_playedNow, M_canBe, M_text, M_answered, M_numbers)) (some (.int qR.1), (hX, hR, hL, hT, hK, hS, hP, (M_unitsNow, M_way, M_sample, M_one, M_two, M_plays, M_low, M_high, M_playsNow, M_lowNow, M_highNow, M_textLong, M_answerLong, M_place, M_units, qR.2, M_left, M_played, M_playedNow, M_canBe, M_text, M_answered, M_numbers))) := by
  refine Sem.mk (lv := [(0, .ref (eA E 26)), (1, .int a0)]) (by decide) (Nat.le_of_ble_eq_true rfl) rfl ?_
  rw [f_X6_inside] at hf
  refine r_iload_n dX6_inside_0 1 rfl ?_
  refine r_i2l dX6_inside_1 ?_
  refine r_lconst (v := 0) dX6_inside_2 (by decide) ?_
  refine r_ldc2 (v := 3) wd_912 dX6_inside_3 ?_
  obtain ⟨q1, hq1, hf⟩ := hf_bind hf
  refine r_callSi (As := [.long (Int32.toInt64 a0), .long 0, .long 3]) (st := []) (s_X6_in hq1) (by decide) (by decide) wd_841 wd_842 wd_74 wd_843 hy_X6_in rfl (Nat.le_of_ble_eq_true rfl) dX6_inside_6 ?_
  refine r_if_ne (tgt := 19) dX6_inside_9 (by decide) (fun c2 => ?_) (fun c2 => ?_)
  · have hf := hf_neg c2 hf
    refine r_iconst (v := 0) dX6_inside_19 (by decide) ?_
    refine r_istore_n (lv2 := [(2, .int 0), (0, .ref (eA E 26)), (1, .int a0)]) dX6_inside_20 rfl (by decide) rfl ?_
    refine r_iconst (v := 0) dX6_inside_21 (by decide) ?_
    refine r_istore_n (lv2 := [(3, .int 0), (2, .int 0), (0, .ref (eA E 26)), (1, .int a0)]) dX6_inside_22 rfl (by decide) rfl ?_
    obtain ⟨q9, hq9, hf⟩ := hf_bind hf
    refine (Wa.sub [2, 3, 1, 0] rfl (w_X6_inside_23 _ _ _ _ hq9 ?_))
    refine r_iload_n dX6_inside_66 0 rfl ?_
    have e9 := Option.some.inj hf
    subst e9
    exact r_iret rfl dX6_inside_67
  · have hf := hf_pos c2 hf
    refine r_aload_n dX6_inside_12 0 rfl ?_
    refine r_bipush (v := (-2)) dX6_inside_13 (by decide) ?_
    obtain ⟨q10, hq10, hf⟩ := hf_bind hf
    refine r_callVi (As := [.int (-2)]) (b := (eA E 26)) (st := []) (s_X6_bad hq10) (by decide) (by decide) wd_844 wd_846 wd_27 wd_74 wd_847 hy_X6_bad (Rc.obj 26 ga_M rfl) rfl (Nat.le_of_ble_eq_true rfl) dX6_inside_15 ?_
    have e9 := Option.some.inj hf
    subst e9
    exact r_iret rfl dX6_inside_18
-- DuelSamplesModel.spread
def lp_X6_spread_14 (v2_4 : Int32) (M_units : Nat → Int32) (M_sample : Int32) : Nat → Int32 → Int32 → Option (Int32)
  | 0, _, _ => none
  | n9 + 1, v1_14, v3_14 => if v2_4 ≤ v3_14 then some v1_14 else Option.bind (f_X6_at M_units v2_4 1) (fun (q3 : Int32) => Option.bind (f_X6_at M_units v3_14 1) (fun (q4 : Int32) => Option.bind (f_X6_far q3 q4) (fun (q5 : Int32) => Option.bind (f_X6_has M_sample v2_4) (fun (q6 : Int32) => Option.bind (if q6 = 0 then some 0 else Option.bind (f_X6_has M_sample v3_14) (fun (q9 : Int32) => if q9 = 0 then some 0 else if v1_14 = (-1) then some 1 else if v1_14 ≤ q5 then some 0 else some 1)) (fun (q8 : Int32) => Option.bind (if q8 = 0 then some v1_14 else some q5) (fun (q14 : Int32) => lp_X6_spread_14 v2_4 M_units M_sample n9 q14 (v3_14 + 1)))))))
def lp_X6_spread_4 (M_unitsNow : Int32) (M_units : Nat → Int32) (M_sample : Int32) : Nat → Int32 → Int32 → Option (Int32)
  | 0, _, _ => none
  | n9 + 1, v1_4, v2_4 => if M_unitsNow ≤ v2_4 then some v1_4 else Option.bind (lp_X6_spread_14 v2_4 M_units M_sample FU v1_4 0) (fun (q15 : Int32) => lp_X6_spread_4 M_unitsNow M_units M_sample n9 q15 (v2_4 + 1))
def f_X6_spread (M_unitsNow : Int32) (M_sample : Int32) (M_units : Nat → Int32)  : Option (Int32) := Option.bind (lp_X6_spread_4 M_unitsNow M_units M_sample FU (-1) 0) (fun (q16 : Int32) => some q16)
theorem hy_X6_spread : yX6_spread.cls ≠ "java/lang/invoke/MethodHandle" ∧ yX6_spread.cls ≠ "java/lang/invoke/VarHandle" ∧ (parseMethodDescriptor yX6_spread.desc).map (fun d => d.parameters.length) = some 0 := by decide +kernel
set_option maxHeartbeats 4000000 in
set_option maxRecDepth 100000 in
theorem w_X6_spread_14 {E : EN} {res : Option Value × Hp} {hX : TX} {hR : TR} {hL : TC} {hT : TC} {hK : TK} {hS : TS} {hP : TP} {v2_4 : Int32} {M_unitsNow : Int32} {M_way : Int32} {M_sample : Int32} {M_one : Int32} {M_two : Int32} {M_plays : Int32} {M_low : Int32} {M_high : Int32} {M_playsNow : Int32} {M_lowNow : Int32} {M_highNow : Int32} {M_textLong : Int32} {M_answerLong : Int32} {M_place : Int32} {M_units : Nat → Int32} {M_refused : Nat → Int32} {M_left : Nat → Int32} {M_played : Nat → Int32} {M_playedNow : Nat → Int32} {M_canBe : Nat → Int32} {M_text : Nat → Int32} {M_answered : Nat → Int32} {M_numbers : Nat → Int32} : ∀ (n9 : Nat) (v1_14 : Int32) (v3_14 : Int32) (qL : Int32), lp_X6_spread_14 v2_4 M_units M_sample n9 v1_14 v3_14 = some qL → (Wa E yX6_spread cX6_spread 6 (some .int) 2 res 94 [(0, .ref (eA E 26)), (1, .int qL), (2, .int v2_4)] [] (hX, hR, hL, hT, hK, hS, hP, (M_unitsNow, M_way, M_sample, M_one, M_two, M_plays, M_low, M_high, M_playsNow, M_lowNow, M_highNow, M_textLong, M_answerLong, M_place, M_units, M_refused, M_left, M_played, M_playedNow, M_canBe, M_text, M_answered, M_numbers))) → Wa E yX6_spread cX6_spread 6 (some .int) 2 res 14 [(0, .ref (eA E 26)), (1, .int v1_14), (2, .int v2_4), (3, .int v3_14)] [] (hX, hR, hL, hT, hK, hS, hP, (M_unitsNow, M_way, M_sample, M_one, M_two, M_plays, M_low, M_high, M_playsNow, M_lowNow, M_highNow, M_textLong, M_answerLong, M_place, M_units, M_refused, M_left, M_played, M_playedNow, M_canBe, M_text, M_answered, M_numbers)) := by
  intro n9
  induction n9 with
  | zero =>
    intro v1_14 v3_14 qL hf
    exact nomatch (show (none : Option (Int32)) = some qL from hf)
  | succ n9 ih =>
    intro v1_14 v3_14 qL hf kx0
    rw [lp_X6_spread_14] at hf
    refine r_iload_n dX6_spread_14 3 rfl ?_
    refine r_iload_n dX6_spread_15 2 rfl ?_
    refine r_icmp_ge (tgt := 94) dX6_spread_16 (by decide) (fun c2 => ?_) (fun c2 => ?_)
    · have hf := hf_pos c2 hf
      have e9 := Option.some.inj hf
      subst e9
      exact (Wa.sub [0, 1, 2] rfl kx0)
    · have hf := hf_neg c2 hf
      refine r_aload_n dX6_spread_19 0 rfl ?_
      refine r_iload_n dX6_spread_20 2 rfl ?_
      refine r_iconst (v := 1) dX6_spread_21 (by decide) ?_
      obtain ⟨q3, hq3, hf⟩ := hf_bind hf
      refine r_callVi (As := [.int v2_4, .int 1]) (b := (eA E 26)) (st := []) (s_X6_at hq3) (by decide) (by decide) wd_869 wd_871 wd_32 wd_74 wd_872 hy_X6_at (Rc.obj 26 ga_M rfl) rfl (Nat.le_of_ble_eq_true rfl) dX6_spread_22 ?_
      refine r_aload_n dX6_spread_25 0 rfl ?_
      refine r_iload_n dX6_spread_26 3 rfl ?_
      refine r_iconst (v := 1) dX6_spread_27 (by decide) ?_
      obtain ⟨q4, hq4, hf⟩ := hf_bind hf
      refine r_callVi (As := [.int v3_14, .int 1]) (b := (eA E 26)) (st := [.int q3]) (s_X6_at hq4) (by decide) (by decide) wd_869 wd_871 wd_32 wd_74 wd_872 hy_X6_at (Rc.obj 26 ga_M rfl) rfl (Nat.le_of_ble_eq_true rfl) dX6_spread_28 ?_
      obtain ⟨q5, hq5, hf⟩ := hf_bind hf
      refine r_callSi (As := [.int q3, .int q4]) (st := []) (s_X6_far hq5) (by decide) (by decide) wd_961 wd_962 wd_74 wd_963 hy_X6_far rfl (Nat.le_of_ble_eq_true rfl) dX6_spread_31 ?_
      refine r_istore (lv2 := [(4, .int q5), (0, .ref (eA E 26)), (1, .int v1_14), (2, .int v2_4), (3, .int v3_14)]) dX6_spread_34 (by decide) rfl ?_
      refine r_aload_n dX6_spread_36 1 rfl ?_
      refine r_get (v := .int M_sample) in_X6 26 ga_M rfl 3 (by decide) wd_766 rfl rfl dX6_spread_37 ?_
      refine r_iload_n dX6_spread_40 3 rfl ?_
      obtain ⟨q6, hq6, hf⟩ := hf_bind hf
      refine r_callSi (As := [.int M_sample, .int v2_4]) (st := []) (s_X6_has hq6) (by decide) (by decide) wd_905 wd_906 wd_74 wd_907 hy_X6_has rfl (Nat.le_of_ble_eq_true rfl) dX6_spread_41 ?_
      obtain ⟨q8, hq8, hf⟩ := hf_bind hf
      have kj8 : Wa E yX6_spread cX6_spread 6 (some .int) 2 res 74 [(0, .ref (eA E 26)), (1, .int v1_14), (2, .int v2_4), (3, .int v3_14), (4, .int q5)] [.int q8] (hX, hR, hL, hT, hK, hS, hP, (M_unitsNow, M_way, M_sample, M_one, M_two, M_plays, M_low, M_high, M_playsNow, M_lowNow, M_highNow, M_textLong, M_answerLong, M_place, M_units, M_refused, M_left, M_played, M_playedNow, M_canBe, M_text, M_answered, M_numbers)) := by
        refine r_istore (lv2 := [(5, .int q8), (0, .ref (eA E 26)), (1, .int v1_14), (2, .int v2_4), (3, .int v3_14), (4, .int q5)]) dX6_spread_74 (by decide) rfl ?_
        refine r_iload dX6_spread_76 0 rfl ?_
        obtain ⟨q14, hq14, hf⟩ := hf_bind hf
        have kj14 : Wa E yX6_spread cX6_spread 6 (some .int) 2 res 87 [(0, .ref (eA E 26)), (2, .int v2_4), (3, .int v3_14)] [.int q14] (hX, hR, hL, hT, hK, hS, hP, (M_unitsNow, M_way, M_sample, M_one, M_two, M_plays, M_low, M_high, M_playsNow, M_lowNow, M_highNow, M_textLong, M_answerLong, M_place, M_units, M_refused, M_left, M_played, M_playedNow, M_canBe, M_text, M_answered, M_numbers)) := by
          refine r_istore_n (lv2 := [(1, .int q14), (0, .ref (eA E 26)), (2, .int v2_4), (3, .int v3_14)]) dX6_spread_87 rfl (by decide) rfl ?_
          refine r_iinc (v := (v3_14 + 1)) (lv2 := [(3, .int (v3_14 + 1)), (1, .int q14), (0, .ref (eA E 26)), (2, .int v2_4)]) dX6_spread_88 3 rfl rfl (by decide) rfl ?_
          refine r_goto (tgt := 14) dX6_spread_91 (by decide) ?_
          exact (Wa.sub [2, 1, 3, 0] rfl (ih _ _ _ hf kx0))
        have hf := hq14
        refine r_if_eq (tgt := 86) dX6_spread_78 (by decide) (fun c13 => ?_) (fun c13 => ?_)
        · have hf := hf_pos c13 hf
          refine r_iload_n dX6_spread_86 2 rfl ?_
          have e9 := Option.some.inj hf
          subst e9
          exact (Wa.sub [1, 3, 4] rfl kj14)
        · have hf := hf_neg c13 hf
          refine r_iload dX6_spread_81 5 rfl ?_
          refine r_goto (tgt := 87) dX6_spread_83 (by decide) ?_
          have e9 := Option.some.inj hf
          subst e9
          exact (Wa.sub [1, 3, 4] rfl kj14)
      have hf := hq8
      refine r_if_eq (tgt := 73) dX6_spread_44 (by decide) (fun c7 => ?_) (fun c7 => ?_)
      · have hf := hf_pos c7 hf
        refine r_iconst (v := 0) dX6_spread_73 (by decide) ?_
        have e9 := Option.some.inj hf
        subst e9
        exact (Wa.sub [1, 2, 3, 4, 0] rfl kj8)
      · have hf := hf_neg c7 hf
        refine r_aload_n dX6_spread_47 1 rfl ?_
        refine r_get (v := .int M_sample) in_X6 26 ga_M rfl 3 (by decide) wd_766 rfl rfl dX6_spread_48 ?_
        refine r_iload_n dX6_spread_51 4 rfl ?_
        obtain ⟨q9, hq9, hf⟩ := hf_bind hf
        refine r_callSi (As := [.int M_sample, .int v3_14]) (st := []) (s_X6_has hq9) (by decide) (by decide) wd_905 wd_906 wd_74 wd_907 hy_X6_has rfl (Nat.le_of_ble_eq_true rfl) dX6_spread_52 ?_
        refine r_if_eq (tgt := 73) dX6_spread_55 (by decide) (fun c10 => ?_) (fun c10 => ?_)
        · have hf := hf_pos c10 hf
          refine r_iconst (v := 0) dX6_spread_73 (by decide) ?_
          have e9 := Option.some.inj hf
          subst e9
          exact (Wa.sub [1, 2, 3, 4, 0] rfl kj8)
        · have hf := hf_neg c10 hf
          refine r_iload_n dX6_spread_58 2 rfl ?_
          refine r_iconst (v := (-1)) dX6_spread_59 (by decide) ?_
          refine r_icmp_eq (tgt := 69) dX6_spread_60 (by decide) (fun c11 => ?_) (fun c11 => ?_)
          · have hf := hf_pos c11 hf
            refine r_iconst (v := 1) dX6_spread_69 (by decide) ?_
            refine r_goto (tgt := 74) dX6_spread_70 (by decide) ?_
            have e9 := Option.some.inj hf
            subst e9
            exact (Wa.sub [1, 2, 3, 4, 0] rfl kj8)
          · have hf := hf_neg c11 hf
            refine r_iload dX6_spread_63 0 rfl ?_
            refine r_iload_n dX6_spread_65 2 rfl ?_
            refine r_icmp_ge (tgt := 73) dX6_spread_66 (by decide) (fun c12 => ?_) (fun c12 => ?_)
            · have hf := hf_pos c12 hf
              refine r_iconst (v := 0) dX6_spread_73 (by decide) ?_
              have e9 := Option.some.inj hf
              subst e9
              exact (Wa.sub [1, 2, 3, 4, 0] rfl kj8)
            · have hf := hf_neg c12 hf
              refine r_iconst (v := 1) dX6_spread_69 (by decide) ?_
              refine r_goto (tgt := 74) dX6_spread_70 (by decide) ?_
              have e9 := Option.some.inj hf
              subst e9
              exact (Wa.sub [1, 2, 3, 4, 0] rfl kj8)
set_option maxHeartbeats 4000000 in
set_option maxRecDepth 100000 in
theorem w_X6_spread_4 {E : EN} {res : Option Value × Hp} {hX : TX} {hR : TR} {hL : TC} {hT : TC} {hK : TK} {hS : TS} {hP : TP} {M_unitsNow : Int32} {M_way : Int32} {M_sample : Int32} {M_one : Int32} {M_two : Int32} {M_plays : Int32} {M_low : Int32} {M_high : Int32} {M_playsNow : Int32} {M_lowNow : Int32} {M_highNow : Int32} {M_textLong : Int32} {M_answerLong : Int32} {M_place : Int32} {M_units : Nat → Int32} {M_refused : Nat → Int32} {M_left : Nat → Int32} {M_played : Nat → Int32} {M_playedNow : Nat → Int32} {M_canBe : Nat → Int32} {M_text : Nat → Int32} {M_answered : Nat → Int32} {M_numbers : Nat → Int32} : ∀ (n9 : Nat) (v1_4 : Int32) (v2_4 : Int32) (qL : Int32), lp_X6_spread_4 M_unitsNow M_units M_sample n9 v1_4 v2_4 = some qL → (Wa E yX6_spread cX6_spread 6 (some .int) 2 res 100 [(1, .int qL)] [] (hX, hR, hL, hT, hK, hS, hP, (M_unitsNow, M_way, M_sample, M_one, M_two, M_plays, M_low, M_high, M_playsNow, M_lowNow, M_highNow, M_textLong, M_answerLong, M_place, M_units, M_refused, M_left, M_played, M_playedNow, M_canBe, M_text, M_answered, M_numbers))) → Wa E yX6_spread cX6_spread 6 (some .int) 2 res 4 [(0, .ref (eA E 26)), (1, .int v1_4), (2, .int v2_4)] [] (hX, hR, hL, hT, hK, hS, hP, (M_unitsNow, M_way, M_sample, M_one, M_two, M_plays, M_low, M_high, M_playsNow, M_lowNow, M_highNow, M_textLong, M_answerLong, M_place, M_units, M_refused, M_left, M_played, M_playedNow, M_canBe, M_text, M_answered, M_numbers)) := by
  intro n9
  induction n9 with
  | zero =>
    intro v1_4 v2_4 qL hf
    exact nomatch (show (none : Option (Int32)) = some qL from hf)
  | succ n9 ih =>
    intro v1_4 v2_4 qL hf kx0
    rw [lp_X6_spread_4] at hf
    refine r_iload_n dX6_spread_4 2 rfl ?_
    refine r_aload_n dX6_spread_5 0 rfl ?_
    refine r_get (v := .int M_unitsNow) in_X6 26 ga_M rfl 1 (by decide) wd_764 rfl rfl dX6_spread_6 ?_
    refine r_icmp_ge (tgt := 100) dX6_spread_9 (by decide) (fun c1 => ?_) (fun c1 => ?_)
    · have hf := hf_pos c1 hf
      have e9 := Option.some.inj hf
      subst e9
      exact (Wa.sub [1] rfl kx0)
    · have hf := hf_neg c1 hf
      refine r_iconst (v := 0) dX6_spread_12 (by decide) ?_
      refine r_istore_n (lv2 := [(3, .int 0), (0, .ref (eA E 26)), (1, .int v1_4), (2, .int v2_4)]) dX6_spread_13 rfl (by decide) rfl ?_
      obtain ⟨q15, hq15, hf⟩ := hf_bind hf
      refine (Wa.sub [1, 2, 3, 0] rfl (w_X6_spread_14 _ _ _ _ hq15 ?_))
      refine r_iinc (v := (v2_4 + 1)) (lv2 := [(2, .int (v2_4 + 1)), (0, .ref (eA E 26)), (1, .int q15)]) dX6_spread_94 2 rfl rfl (by decide) rfl ?_
      refine r_goto (tgt := 4) dX6_spread_97 (by decide) ?_
      exact (Wa.sub [1, 2, 0] rfl (ih _ _ _ hf kx0))
set_option maxHeartbeats 4000000 in
set_option maxRecDepth 100000 in
theorem s_X6_spread {E : EN} {hX : TX} {hR : TR} {hL : TC} {hT : TC} {hK : TK} {hS : TS} {hP : TP} {M_unitsNow : Int32} {M_way : Int32} {M_sample : Int32} {M_one : Int32} {M_two : Int32} {M_plays : Int32} {M_low : Int32} {M_high : Int32} {M_playsNow : Int32} {M_lowNow : Int32} {M_highNow : Int32} {M_textLong : Int32} {M_answerLong : Int32} {M_place : Int32} {M_units : Nat → Int32} {M_refused : Nat → Int32} {M_left : Nat → Int32} {M_played : Nat → Int32} {M_playedNow : Nat → Int32} {M_canBe : Nat → Int32} {M_text : Nat → Int32} {M_answered : Nat → Int32} {M_numbers : Nat → Int32}  {qR : Int32} (hf : f_X6_spread M_unitsNow M_sample M_units = some qR) : Sem E yX6_spread cX6_spread 6 (some .int) 2 [.ref (eA E 26)] (hX, hR, hL, hT, hK, hS, hP, (M_unitsNow, M_way, M_sample, M_one, M_two, M_plays, M_low, M_high, M_playsNow, M_lowNow, M_highNow, M_textLong, M_answerLong, M_place, M_units, M_refused, M_left, M_played, M_playedNow, M_canBe, M_text, M_answered, M_numbers)) (some (.int qR), (hX, hR, hL, hT, hK, hS, hP, (M_unitsNow, M_way, M_sample, M_one, M_two, M_plays, M_low, M_high, M_playsNow, M_lowNow, M_highNow, M_textLong, M_answerLong, M_place, M_units, M_refused, M_left, M_played, M_playedNow, M_canBe, M_text, M_answered, M_numbers))) := by
  refine Sem.mk (lv := [(0, .ref (eA E 26))]) (by decide) (Nat.le_of_ble_eq_true rfl) rfl ?_
  rw [f_X6_spread] at hf
  refine r_iconst (v := (-1)) dX6_spread_0 (by decide) ?_
  refine r_istore_n (lv2 := [(1, .int (-1)), (0, .ref (eA E 26))]) dX6_spread_1 rfl (by decide) rfl ?_
  refine r_iconst (v := 0) dX6_spread_2 (by decide) ?_
  refine r_istore_n (lv2 := [(2, .int 0), (1, .int (-1)), (0, .ref (eA E 26))]) dX6_spread_3 rfl (by decide) rfl ?_
  obtain ⟨q16, hq16, hf⟩ := hf_bind hf
  refine (Wa.sub [2, 1, 0] rfl (w_X6_spread_4 _ _ _ _ hq16 ?_))
  refine r_iload_n dX6_spread_100 0 rfl ?_
  have e9 := Option.some.inj hf
  subst e9
  exact r_iret rfl dX6_spread_101
-- DuelSamplesModel.areSeeds
def f_X6_areSeeds  (a0 : Int32) (a1 : Int32) : Option (Int32) := Option.bind (f_X6_isSeed a0) (fun (q1 : Int32) => if q1 = 0 then some 0 else Option.bind (f_X6_in (Int32.toInt64 a1) 1 60) (fun (q3 : Int32) => if q3 = 0 then some 0 else if 1000000 < (a0 + a1) then some 0 else some 1))
theorem hy_X6_areSeeds : yX6_areSeeds.cls ≠ "java/lang/invoke/MethodHandle" ∧ yX6_areSeeds.cls ≠ "java/lang/invoke/VarHandle" ∧ (parseMethodDescriptor yX6_areSeeds.desc).map (fun d => d.parameters.length) = some 2 := by decide +kernel
set_option maxHeartbeats 4000000 in
set_option maxRecDepth 100000 in
theorem s_X6_areSeeds {E : EN} {hX : TX} {hR : TR} {hL : TC} {hT : TC} {hK : TK} {hS : TS} {hP : TP} {hM : TM}  {a0 : Int32} {a1 : Int32} {qR : Int32} (hf : f_X6_areSeeds a0 a1 = some qR) : Sem E yX6_areSeeds cX6_areSeeds 2 (some .boolean) 3 [.int a0, .int a1] (hX, hR, hL, hT, hK, hS, hP, hM) (some (.int qR), (hX, hR, hL, hT, hK, hS, hP, hM)) := by
  refine Sem.mk (lv := [(0, .int a0), (1, .int a1)]) (by decide) (Nat.le_of_ble_eq_true rfl) rfl ?_
  rw [f_X6_areSeeds] at hf
  refine r_iload_n dX6_areSeeds_0 0 rfl ?_
  obtain ⟨q1, hq1, hf⟩ := hf_bind hf
  refine r_callSi (As := [.int a0]) (st := []) (s_X6_isSeed hq1) (by decide) (by decide) wd_930 wd_931 wd_74 wd_932 hy_X6_isSeed rfl (Nat.le_of_ble_eq_true rfl) dX6_areSeeds_1 ?_
  refine r_if_eq (tgt := 31) dX6_areSeeds_4 (by decide) (fun c2 => ?_) (fun c2 => ?_)
  · have hf := hf_pos c2 hf
    refine r_iconst (v := 0) dX6_areSeeds_31 (by decide) ?_
    have e9 := Option.some.inj hf
    subst e9
    exact r_zret rfl (narB (Or.inl rfl)) dX6_areSeeds_32
  · have hf := hf_neg c2 hf
    refine r_iload_n dX6_areSeeds_7 1 rfl ?_
    refine r_i2l dX6_areSeeds_8 ?_
    refine r_lconst (v := 1) dX6_areSeeds_9 (by decide) ?_
    refine r_ldc2 (v := 60) wd_1029 dX6_areSeeds_10 ?_
    obtain ⟨q3, hq3, hf⟩ := hf_bind hf
    refine r_callSi (As := [.long (Int32.toInt64 a1), .long 1, .long 60]) (st := []) (s_X6_in hq3) (by decide) (by decide) wd_841 wd_842 wd_74 wd_843 hy_X6_in rfl (Nat.le_of_ble_eq_true rfl) dX6_areSeeds_13 ?_
    refine r_if_eq (tgt := 31) dX6_areSeeds_16 (by decide) (fun c4 => ?_) (fun c4 => ?_)
    · have hf := hf_pos c4 hf
      refine r_iconst (v := 0) dX6_areSeeds_31 (by decide) ?_
      have e9 := Option.some.inj hf
      subst e9
      exact r_zret rfl (narB (Or.inl rfl)) dX6_areSeeds_32
    · have hf := hf_neg c4 hf
      refine r_iload_n dX6_areSeeds_19 0 rfl ?_
      refine r_iload_n dX6_areSeeds_20 1 rfl ?_
      refine r_iadd dX6_areSeeds_21 ?_
      refine r_ldc (v := 1000000) wd_1030 dX6_areSeeds_22 ?_
      refine r_icmp_gt (tgt := 31) dX6_areSeeds_24 (by decide) (fun c5 => ?_) (fun c5 => ?_)
      · have hf := hf_pos c5 hf
        refine r_iconst (v := 0) dX6_areSeeds_31 (by decide) ?_
        have e9 := Option.some.inj hf
        subst e9
        exact r_zret rfl (narB (Or.inl rfl)) dX6_areSeeds_32
      · have hf := hf_neg c5 hf
        refine r_iconst (v := 1) dX6_areSeeds_27 (by decide) ?_
        refine r_goto (tgt := 32) dX6_areSeeds_28 (by decide) ?_
        have e9 := Option.some.inj hf
        subst e9
        exact r_zret rfl (narB (Or.inr rfl)) dX6_areSeeds_32
-- DuelSamplesModel.howOften
def lp_X6_howOften_6 (a2 : Int32) (M_unitsNow : Int32) (M_way : Int32) (M_units : Nat → Int32) (a1 : Int32) (a0 : Int32) : Nat → Int32 → Int32 → Int32 → Int32 → Int32 → Int32 → Int32 → (Nat → Int32) → (Nat → Int32) → Option (Int32 × Int32 × Int32 × Int32 × Int32 × Int32 × (Nat → Int32) × (Nat → Int32))
  | 0, _, _, _, _, _, _, _, _, _ => none
  | n9 + 1, v4_6, v5_6, M_one_6, M_two_6, M_playsNow_6, M_lowNow_6, M_highNow_6, M_left_6, M_playedNow_6 => if a2 ≤ v5_6 then some (v4_6, M_one_6, M_two_6, M_playsNow_6, M_lowNow_6, M_highNow_6, M_left_6, M_playedNow_6) else Option.bind (f_X6_walked M_unitsNow M_way M_one_6 M_two_6 M_units M_left_6 M_playedNow_6 (a1 + v5_6)) (fun (q2 : Int32 × Int32 × Int32 × Int32 × Int32 × Int32 × (Nat → Int32) × (Nat → Int32)) => Option.bind (if (q2.1 &&& a0) = a0 then some 1 else some 0) (fun (q4 : Int32) => lp_X6_howOften_6 a2 M_unitsNow M_way M_units a1 a0 n9 (v4_6 + q4) (v5_6 + 1) q2.2.1 q2.2.2.1 q2.2.2.2.1 q2.2.2.2.2.1 q2.2.2.2.2.2.1 q2.2.2.2.2.2.2.1 q2.2.2.2.2.2.2.2))
def f_X6_howOften (M_unitsNow : Int32) (M_way : Int32) (M_one : Int32) (M_two : Int32) (M_playsNow : Int32) (M_lowNow : Int32) (M_highNow : Int32) (M_units : Nat → Int32) (M_left : Nat → Int32) (M_playedNow : Nat → Int32) (a0 : Int32) (a1 : Int32) (a2 : Int32) : Option (Int32 × Int32 × Int32 × Int32 × Int32 × Int32 × (Nat → Int32) × (Nat → Int32)) := Option.bind (lp_X6_howOften_6 a2 M_unitsNow M_way M_units a1 a0 FU 0 0 M_one M_two M_playsNow M_lowNow M_highNow M_left M_playedNow) (fun (q5 : Int32 × Int32 × Int32 × Int32 × Int32 × Int32 × (Nat → Int32) × (Nat → Int32)) => some (q5.1, q5.2.1, q5.2.2.1, q5.2.2.2.1, q5.2.2.2.2.1, q5.2.2.2.2.2.1, q5.2.2.2.2.2.2.1, q5.2.2.2.2.2.2.2))
theorem hy_X6_howOften : yX6_howOften.cls ≠ "java/lang/invoke/MethodHandle" ∧ yX6_howOften.cls ≠ "java/lang/invoke/VarHandle" ∧ (parseMethodDescriptor yX6_howOften.desc).map (fun d => d.parameters.length) = some 3 := by decide +kernel
set_option maxHeartbeats 4000000 in
set_option maxRecDepth 100000 in
theorem w_X6_howOften_6 {E : EN} {res : Option Value × Hp} {hX : TX} {hR : TR} {hL : TC} {hT : TC} {hK : TK} {hS : TS} {hP : TP} {a0 : Int32} {a1 : Int32} {a2 : Int32} {M_unitsNow : Int32} {M_way : Int32} {M_sample : Int32} {M_plays : Int32} {M_low : Int32} {M_high : Int32} {M_textLong : Int32} {M_answerLong : Int32} {M_place : Int32} {M_units : Nat → Int32} {M_refused : Nat → Int32} {M_played : Nat → Int32} {M_canBe : Nat → Int32} {M_text : Nat → Int32} {M_answered : Nat → Int32} {M_numbers : Nat → Int32} : ∀ (n9 : Nat) (v4_6 : Int32) (v5_6 : Int32) (M_one_6 : Int32) (M_two_6 : Int32) (M_playsNow_6 : Int32) (M_lowNow_6 : Int32) (M_highNow_6 : Int32) (M_left_6 : Nat → Int32) (M_playedNow_6 : Nat → Int32) (qL : Int32 × Int32 × Int32 × Int32 × Int32 × Int32 × (Nat → Int32) × (Nat → Int32)), lp_X6_howOften_6 a2 M_unitsNow M_way M_units a1 a0 n9 v4_6 v5_6 M_one_6 M_two_6 M_playsNow_6 M_lowNow_6 M_highNow_6 M_left_6 M_playedNow_6 = some qL → (Wa E yX6_howOften cX6_howOften 6 (some .int) 7 res 42 [(4, .int qL.1)] [] (hX, hR, hL, hT, hK, hS, hP, (M_unitsNow, M_way, M_sample, qL.2.1, qL.2.2.1, M_plays, M_low, M_high, qL.2.2.2.1, qL.2.2.2.2.1, qL.2.2.2.2.2.1, M_textLong, M_answerLong, M_place, M_units, M_refused, qL.2.2.2.2.2.2.1, M_played, qL.2.2.2.2.2.2.2, M_canBe, M_text, M_answered, M_numbers))) → Wa E yX6_howOften cX6_howOften 6 (some .int) 7 res 6 [(0, .ref (eA E 26)), (1, .int a0), (2, .int a1), (3, .int a2), (4, .int v4_6), (5, .int v5_6)] [] (hX, hR, hL, hT, hK, hS, hP, (M_unitsNow, M_way, M_sample, M_one_6, M_two_6, M_plays, M_low, M_high, M_playsNow_6, M_lowNow_6, M_highNow_6, M_textLong, M_answerLong, M_place, M_units, M_refused, M_left_6, M_played, M_playedNow_6, M_canBe, M_text, M_answered, M_numbers)) := by
  intro n9
  induction n9 with
  | zero =>
    intro v4_6 v5_6 M_one_6 M_two_6 M_playsNow_6 M_lowNow_6 M_highNow_6 M_left_6 M_playedNow_6 qL hf
    exact nomatch (show (none : Option (Int32 × Int32 × Int32 × Int32 × Int32 × Int32 × (Nat → Int32) × (Nat → Int32))) = some qL from hf)
  | succ n9 ih =>
    intro v4_6 v5_6 M_one_6 M_two_6 M_playsNow_6 M_lowNow_6 M_highNow_6 M_left_6 M_playedNow_6 qL hf kx0
    rw [lp_X6_howOften_6] at hf
    refine r_iload dX6_howOften_6 5 rfl ?_
    refine r_iload_n dX6_howOften_8 3 rfl ?_
    refine r_icmp_ge (tgt := 42) dX6_howOften_9 (by decide) (fun c1 => ?_) (fun c1 => ?_)
    · have hf := hf_pos c1 hf
      have e9 := Option.some.inj hf
      subst e9
      exact (Wa.sub [4] rfl kx0)
    · have hf := hf_neg c1 hf
      refine r_iload dX6_howOften_12 4 rfl ?_
      refine r_aload_n dX6_howOften_14 0 rfl ?_
      refine r_iload_n dX6_howOften_15 2 rfl ?_
      refine r_iload dX6_howOften_16 5 rfl ?_
      refine r_iadd dX6_howOften_18 ?_
      obtain ⟨q2, hq2, hf⟩ := hf_bind hf
      refine r_callVi (As := [.int (a1 + v5_6)]) (b := (eA E 26)) (st := [.int v4_6]) (s_X6_walked hq2) (by decide) (by decide) wd_937 wd_939 wd_37 wd_74 wd_940 hy_X6_walked (Rc.obj 26 ga_M rfl) rfl (Nat.le_of_ble_eq_true rfl) dX6_howOften_19 ?_
      refine r_iload_n dX6_howOften_22 1 rfl ?_
      refine r_iand dX6_howOften_23 ?_
      refine r_iload_n dX6_howOften_24 1 rfl ?_
      obtain ⟨q4, hq4, hf⟩ := hf_bind hf
      have kj4 : Wa E yX6_howOften cX6_howOften 6 (some .int) 7 res 33 [(0, .ref (eA E 26)), (1, .int a0), (2, .int a1), (3, .int a2), (5, .int v5_6)] [.int q4, .int v4_6] (hX, hR, hL, hT, hK, hS, hP, (M_unitsNow, M_way, M_sample, q2.2.1, q2.2.2.1, M_plays, M_low, M_high, q2.2.2.2.1, q2.2.2.2.2.1, q2.2.2.2.2.2.1, M_textLong, M_answerLong, M_place, M_units, M_refused, q2.2.2.2.2.2.2.1, M_played, q2.2.2.2.2.2.2.2, M_canBe, M_text, M_answered, M_numbers)) := by
        refine r_iadd dX6_howOften_33 ?_
        refine r_istore (lv2 := [(4, .int (v4_6 + q4)), (0, .ref (eA E 26)), (1, .int a0), (2, .int a1), (3, .int a2), (5, .int v5_6)]) dX6_howOften_34 (by decide) rfl ?_
        refine r_iinc (v := (v5_6 + 1)) (lv2 := [(5, .int (v5_6 + 1)), (4, .int (v4_6 + q4)), (0, .ref (eA E 26)), (1, .int a0), (2, .int a1), (3, .int a2)]) dX6_howOften_36 5 rfl rfl (by decide) rfl ?_
        refine r_goto (tgt := 6) dX6_howOften_39 (by decide) ?_
        exact (Wa.sub [2, 3, 4, 5, 1, 0] rfl (ih _ _ _ _ _ _ _ _ _ _ hf kx0))
      have hf := hq4
      refine r_icmp_ne (tgt := 32) dX6_howOften_25 (by decide) (fun c3 => ?_) (fun c3 => ?_)
      · have hf := hf_neg c3 hf
        refine r_iconst (v := 0) dX6_howOften_32 (by decide) ?_
        have e9 := Option.some.inj hf
        subst e9
        exact (Wa.sub [0, 1, 2, 3, 5] rfl kj4)
      · have hf := hf_pos c3 hf
        refine r_iconst (v := 1) dX6_howOften_28 (by decide) ?_
        refine r_goto (tgt := 33) dX6_howOften_29 (by decide) ?_
        have e9 := Option.some.inj hf
        subst e9
        exact (Wa.sub [0, 1, 2, 3, 5] rfl kj4)
set_option maxHeartbeats 4000000 in
set_option maxRecDepth 100000 in
theorem s_X6_howOften {E : EN} {hX : TX} {hR : TR} {hL : TC} {hT : TC} {hK : TK} {hS : TS} {hP : TP} {M_unitsNow : Int32} {M_way : Int32} {M_sample : Int32} {M_one : Int32} {M_two : Int32} {M_plays : Int32} {M_low : Int32} {M_high : Int32} {M_playsNow : Int32} {M_lowNow : Int32} {M_highNow : Int32} {M_textLong : Int32} {M_answerLong : Int32} {M_place : Int32} {M_units : Nat → Int32} {M_refused : Nat → Int32} {M_left : Nat → Int32} {M_played : Nat → Int32} {M_playedNow : Nat → Int32} {M_canBe : Nat → Int32} {M_text : Nat → Int32} {M_answered : Nat → Int32} {M_numbers : Nat → Int32} {a0 : Int32} {a1 : Int32} {a2 : Int32} {qR : Int32 × Int32 × Int32 × Int32 × Int32 × Int32 × (Nat → Int32) × (Nat → Int32)} (hf : f_X6_howOften M_unitsNow M_way M_one M_two M_playsNow M_lowNow M_highNow M_units M_left M_playedNow a0 a1 a2 = some qR) : Sem E yX6_howOften cX6_howOften 6 (some .int) 7 [.ref (eA E 26), .int a0, .int a1, .int a2] (hX, hR, hL, hT, hK, hS, hP, (M_unitsNow, M_way, M_sample, M_one, M_two, M_plays, M_low, M_high, M_playsNow, M_lowNow, M_highNow, M_textLong, M_answerLong, M_place, M_units, M_refused, M_left, M_played, M_playedNow, M_canBe, M_text, M_answered, M_numbers)) (some (.int qR.1), (hX, hR, hL, hT, hK, hS, hP, (M_unitsNow, M_way, M_sample, qR.2.1, qR.2.2.1, M_plays, M_low, M_high, qR.2.2.2.1, qR.2.2.2.2.1, qR.2.2.2.2.2.1, M_textLong, M_answerLong, M_place, M_units, M_refused, qR.2.2.2.2.2.2.1, M_played, qR.2.2.2.2.2.2.2, M_canBe, M_text, M_answered, M_numbers))) := by
  refine Sem.mk (lv := [(0, .ref (eA E 26)), (1, .int a0), (2, .int a1), (3, .int a2)]) (by decide) (Nat.le_of_ble_eq_true rfl) rfl ?_
  rw [f_X6_howOften] at hf
  refine r_iconst (v := 0) dX6_howOften_0 (by decide) ?_
  refine r_istore (lv2 := [(4, .int 0), (0, .ref (eA E 26)), (1, .int a0), (2, .int a1), (3, .int a2)]) dX6_howOften_1 (by decide) rfl ?_
  refine r_iconst (v := 0) dX6_howOften_3 (by decide) ?_
  refine r_istore (lv2 := [(5, .int 0), (4, .int 0), (0, .ref (eA E 26)), (1, .int a0), (2, .int a1), (3, .int a2)]) dX6_howOften_4 (by decide) rfl ?_
  obtain ⟨q5, hq5, hf⟩ := hf_bind hf
  refine (Wa.sub [2, 3, 4, 5, 1, 0] rfl (w_X6_howOften_6 _ _ _ _ _ _ _ _ _ _ _ hq5 ?_))
  refine r_iload dX6_howOften_42 0 rfl ?_
  have e9 := Option.some.inj hf
  subst e9
  exact r_iret rfl dX6_howOften_44
-- DuelSamplesModel.often
def f_X6_often (M_unitsNow : Int32) (M_way : Int32) (M_one : Int32) (M_two : Int32) (M_playsNow : Int32) (M_lowNow : Int32) (M_highNow : Int32) (M_units : Nat → Int32) (M_refused : Nat → Int32) (M_left : Nat → Int32) (M_playedNow : Nat → Int32) (a0 : Int32) (a1 : Int32) (a2 : Int32) : Option (Int32 × Int32 × Int32 × Int32 × Int32 × Int32 × (Nat → Int32) × (Nat → Int32) × (Nat → Int32)) := Option.bind (f_X6_isUnit M_unitsNow a0) (fun (q1 : Int32) => if q1 = 0 then Option.bind (f_X6_bad M_refused (-2)) (fun (q3 : Int32 × (Nat → Int32)) => some (q3.1, M_one, M_two, M_playsNow, M_lowNow, M_highNow, q3.2, M_left, M_playedNow)) else Option.bind (f_X6_areSeeds a1 a2) (fun (q4 : Int32) => if q4 = 0 then Option.bind (f_X6_bad M_refused (-2)) (fun (q6 : Int32 × (Nat → Int32)) => some (q6.1, M_one, M_two, M_playsNow, M_lowNow, M_highNow, q6.2, M_left, M_playedNow)) else Option.bind (f_X6_howOften M_unitsNow M_way M_one M_two M_playsNow M_lowNow M_highNow M_units M_left M_playedNow (1 <<< (a0 &&& 31)) a1 a2) (fun (q7 : Int32 × Int32 × Int32 × Int32 × Int32 × Int32 × (Nat → Int32) × (Nat → Int32)) => some (q7.1, q7.2.1, q7.2.2.1, q7.2.2.2.1, q7.2.2.2.2.1, q7.2.2.2.2.2.1, M_refused, q7.2.2.2.2.2.2.1, q7.2.2.2.2.2.2.2))))
theorem hy_X6_often : yX6_often.cls ≠ "java/lang/invoke/MethodHandle" ∧ yX6_often.cls ≠ "java/lang/invoke/VarHandle" ∧ (parseMethodDescriptor yX6_often.desc).map (fun d => d.parameters.length) = some 3 := by decide +kernel
set_option maxHeartbeats 4000000 in
set_option maxRecDepth 100000 in
theorem s_X6_often {E : EN} {hX : TX} {hR : TR} {hL : TC} {hT : TC} {hK : TK} {hS : TS} {hP : TP} {M_unitsNow : Int32} {M_way : Int32} {M_sample : Int32} {M_one : Int32} {M_two : Int32} {M_plays : Int32} {M_low : Int32} {M_high : Int32} {M_playsNow : Int32} {M_lowNow : Int32} {M_highNow : Int32} {M_textLong : Int32} {M_answerLong : Int32} {M_place : Int32} {M_units : Nat → Int32} {M_refused : Nat → Int32} {M_left : Nat → Int32} {M_played : Nat → Int32} {M_playedNow : Nat → Int32} {M_canBe : Nat → Int32} {M_text : Nat → Int32} {M_answered : Nat → Int32} {M_numbers : Nat → Int32} {a0 : Int32} {a1 : Int32} {a2 : Int32} {qR : Int32 × Int32 × Int32 × Int32 × Int32 × Int32 × (Nat → Int32) × (Nat → Int32) × (Nat → Int32)} (hf : f_X6_often M_unitsNow M_way M_one M_two M_playsNow M_lowNow M_highNow M_units M_refused M_left M_playedNow a0 a1 a2 = some qR) : Sem E yX6_often cX6_often 4 (some .int) 8 [.ref (eA E 26), .int a0, .int a1, .int a2] (hX, hR, hL, hT, hK, hS, hP, (M_unitsNow, M_way, M_sample, M_one, M_two, M_plays, M_low, M_high, M_playsNow, M_lowNow, M_highNow, M_textLong, M_answerLong, M_place, M_units, M_refused, M_left, M_played, M_playedNow, M_canBe, M_text, M_answered, M_numbers)) (some (.int qR.1), (hX, hR, hL, hT, hK, hS, hP, (M_unitsNow, M_way, M_sample, qR.2.1, qR.2.2.1, M_plays, M_low, M_high, qR.2.2.2.1, qR.2.2.2.2.1, qR.2.2.2.2.2.1, M_textLong, M_answerLong, M_place, M_units, qR.2.2.2.2.2.2.1, qR.2.2.2.2.2.2.2.1, M_played, qR.2.2.2.2.2.2.2.2, M_canBe, M_text, M_answered, M_numbers))) := by
  refine Sem.mk (lv := [(0, .ref (eA E 26)), (1, .int a0), (2, .int a1), (3, .int a2)]) (by decide) (Nat.le_of_ble_eq_true rfl) rfl ?_
  rw [f_X6_often] at hf
  refine r_aload_n dX6_often_0 0 rfl ?_
  refine r_iload_n dX6_often_1 1 rfl ?_
  obtain ⟨q1, hq1, hf⟩ := hf_bind hf
  refine r_callVi (As := [.int a0]) (b := (eA E 26)) (st := []) (s_X6_isUnit hq1) (by decide) (by decide) wd_860 wd_862 wd_30 wd_74 wd_863 hy_X6_isUnit (Rc.obj 26 ga_M rfl) rfl (Nat.le_of_ble_eq_true rfl) dX6_often_2 ?_
  refine r_if_eq (tgt := 28) dX6_often_5 (by decide) (fun c2 => ?_) (fun c2 => ?_)
  · have hf := hf_pos c2 hf
    refine r_aload_n dX6_often_28 0 rfl ?_
    refine r_bipush (v := (-2)) dX6_often_29 (by decide) ?_
    obtain ⟨q3, hq3, hf⟩ := hf_bind hf
    refine r_callVi (As := [.int (-2)]) (b := (eA E 26)) (st := []) (s_X6_bad hq3) (by decide) (by decide) wd_844 wd_846 wd_27 wd_74 wd_847 hy_X6_bad (Rc.obj 26 ga_M rfl) rfl (Nat.le_of_ble_eq_true rfl) dX6_often_31 ?_
    have e9 := Option.some.inj hf
    subst e9
    exact r_iret rfl dX6_often_34
  · have hf := hf_neg c2 hf
    refine r_iload_n dX6_often_8 2 rfl ?_
    refine r_iload_n dX6_often_9 3 rfl ?_
    obtain ⟨q4, hq4, hf⟩ := hf_bind hf
    refine r_callSi (As := [.int a1, .int a2]) (st := []) (s_X6_areSeeds hq4) (by decide) (by decide) wd_1026 wd_1027 wd_74 wd_1028 hy_X6_areSeeds rfl (Nat.le_of_ble_eq_true rfl) dX6_often_10 ?_
    refine r_if_eq (tgt := 28) dX6_often_13 (by decide) (fun c5 => ?_) (fun c5 => ?_)
    · have hf := hf_pos c5 hf
      refine r_aload_n dX6_often_28 0 rfl ?_
      refine r_bipush (v := (-2)) dX6_often_29 (by decide) ?_
      obtain ⟨q6, hq6, hf⟩ := hf_bind hf
      refine r_callVi (As := [.int (-2)]) (b := (eA E 26)) (st := []) (s_X6_bad hq6) (by decide) (by decide) wd_844 wd_846 wd_27 wd_74 wd_847 hy_X6_bad (Rc.obj 26 ga_M rfl) rfl (Nat.le_of_ble_eq_true rfl) dX6_often_31 ?_
      have e9 := Option.some.inj hf
      subst e9
      exact r_iret rfl dX6_often_34
    · have hf := hf_neg c5 hf
      refine r_aload_n dX6_often_16 0 rfl ?_
      refine r_iconst (v := 1) dX6_often_17 (by decide) ?_
      refine r_iload_n dX6_often_18 1 rfl ?_
      refine r_ishl dX6_often_19 ?_
      refine r_iload_n dX6_often_20 2 rfl ?_
      refine r_iload_n dX6_often_21 3 rfl ?_
      obtain ⟨q7, hq7, hf⟩ := hf_bind hf
      refine r_callVi (As := [.int (1 <<< (a0 &&& 31)), .int a1, .int a2]) (b := (eA E 26)) (st := []) (s_X6_howOften hq7) (by decide) (by decide) wd_1031 wd_1033 wd_51 wd_74 wd_1034 hy_X6_howOften (Rc.obj 26 ga_M rfl) rfl (Nat.le_of_ble_eq_true rfl) dX6_often_22 ?_
      refine r_goto (tgt := 34) dX6_often_25 (by decide) ?_
      have e9 := Option.some.inj hf
      subst e9
      exact r_iret rfl dX6_often_34
-- DuelSamplesModel.both
def f_X6_both (M_unitsNow : Int32) (M_way : Int32) (M_one : Int32) (M_two : Int32) (M_playsNow : Int32) (M_lowNow : Int32) (M_highNow : Int32) (M_units : Nat → Int32) (M_refused : Nat → Int32) (M_left : Nat → Int32) (M_playedNow : Nat → Int32) (a0 : Int32) (a1 : Int32) (a2 : Int32) (a3 : Int32) : Option (Int32 × Int32 × Int32 × Int32 × Int32 × Int32 × (Nat → Int32) × (Nat → Int32) × (Nat → Int32)) := Option.bind (f_X6_isUnit M_unitsNow a0) (fun (q1 : Int32) => if q1 = 0 then Option.bind (f_X6_bad M_refused (-2)) (fun (q3 : Int32 × (Nat → Int32)) => some (q3.1, M_one, M_two, M_playsNow, M_lowNow, M_highNow, q3.2, M_left, M_playedNow)) else Option.bind (f_X6_isUnit M_unitsNow a1) (fun (q4 : Int32) => if q4 = 0 then Option.bind (f_X6_bad M_refused (-2)) (fun (q6 : Int32 × (Nat → Int32)) => some (q6.1, M_one, M_two, M_playsNow, M_lowNow, M_highNow, q6.2, M_left, M_playedNow)) else if a0 = a1 then Option.bind (f_X6_bad M_refused (-2)) (fun (q8 : Int32 × (Nat → Int32)) => some (q8.1, M_one, M_two, M_playsNow, M_lowNow, M_highNow, q8.2, M_left, M_playedNow)) else Option.bind (f_X6_areSeeds a2 a3) (fun (q9 : Int32) => if q9 = 0 then Option.bind (f_X6_bad M_refused (-2)) (fun (q12 : Int32 × (Nat → Int32)) => some (q12.1, M_one, M_two, M_playsNow, M_lowNow, M_highNow, q12.2, M_left, M_playedNow)) else Option.bind (f_X6_howOften M_unitsNow M_way M_one M_two M_playsNow M_lowNow M_highNow M_units M_left M_playedNow ((1 <<< (a0 &&& 31)) ||| (1 <<< (a1 &&& 31))) a2 a3) (fun (q11 : Int32 × Int32 × Int32 × Int32 × Int32 × Int32 × (Nat → Int32) × (Nat → Int32)) => some (q11.1, q11.2.1, q11.2.2.1, q11.2.2.2.1, q11.2.2.2.2.1, q11.2.2.2.2.2.1, M_refused, q11.2.2.2.2.2.2.1, q11.2.2.2.2.2.2.2)))))
theorem hy_X6_both : yX6_both.cls ≠ "java/lang/invoke/MethodHandle" ∧ yX6_both.cls ≠ "java/lang/invoke/VarHandle" ∧ (parseMethodDescriptor yX6_both.desc).map (fun d => d.parameters.length) = some 4 := by decide +kernel
set_option maxHeartbeats 4000000 in
set_option maxRecDepth 100000 in
theorem s_X6_both {E : EN} {hX : TX} {hR : TR} {hL : TC} {hT : TC} {hK : TK} {hS : TS} {hP : TP} {M_unitsNow : Int32} {M_way : Int32} {M_sample : Int32} {M_one : Int32} {M_two : Int32} {M_plays : Int32} {M_low : Int32} {M_high : Int32} {M_playsNow : Int32} {M_lowNow : Int32} {M_highNow : Int32} {M_textLong : Int32} {M_answerLong : Int32} {M_place : Int32} {M_units : Nat → Int32} {M_refused : Nat → Int32} {M_left : Nat → Int32} {M_played : Nat → Int32} {M_playedNow : Nat → Int32} {M_canBe : Nat → Int32} {M_text : Nat → Int32} {M_answered : Nat → Int32} {M_numbers : Nat → Int32} {a0 : Int32} {a1 : Int32} {a2 : Int32} {a3 : Int32} {qR : Int32 × Int32 × Int32 × Int32 × Int32 × Int32 × (Nat → Int32) × (Nat → Int32) × (Nat → Int32)} (hf : f_X6_both M_unitsNow M_way M_one M_two M_playsNow M_lowNow M_highNow M_units M_refused M_left M_playedNow a0 a1 a2 a3 = some qR) : Sem E yX6_both cX6_both 5 (some .int) 8 [.ref (eA E 26), .int a0, .int a1, .int a2, .int a3] (hX, hR, hL, hT, hK, hS, hP, (M_unitsNow, M_way, M_sample, M_one, M_two, M_plays, M_low, M_high, M_playsNow, M_lowNow, M_highNow, M_textLong, M_answerLong, M_place, M_units, M_refused, M_left, M_played, M_playedNow, M_canBe, M_text, M_answered, M_numbers)) (some (.int qR.1), (hX, hR, hL, hT, hK, hS, hP, (M_unitsNow, M_way, M_sample, qR.2.1, qR.2.2.1, M_plays, M_low, M_high, qR.2.2.2.1, qR.2.2.2.2.1, qR.2.2.2.2.2.1, M_textLong, M_answerLong, M_place, M_units, qR.2.2.2.2.2.2.1, qR.2.2.2.2.2.2.2.1, M_played, qR.2.2.2.2.2.2.2.2, M_canBe, M_text, M_answered, M_numbers))) := by
  refine Sem.mk (lv := [(0, .ref (eA E 26)), (1, .int a0), (2, .int a1), (3, .int a2), (4, .int a3)]) (by decide) (Nat.le_of_ble_eq_true rfl) rfl ?_
  rw [f_X6_both] at hf
  refine r_aload_n dX6_both_0 0 rfl ?_
  refine r_iload_n dX6_both_1 1 rfl ?_
  obtain ⟨q1, hq1, hf⟩ := hf_bind hf
  refine r_callVi (As := [.int a0]) (b := (eA E 26)) (st := []) (s_X6_isUnit hq1) (by decide) (by decide) wd_860 wd_862 wd_30 wd_74 wd_863 hy_X6_isUnit (Rc.obj 26 ga_M rfl) rfl (Nat.le_of_ble_eq_true rfl) dX6_both_2 ?_
  refine r_if_eq (tgt := 30) dX6_both_5 (by decide) (fun c2 => ?_) (fun c2 => ?_)
  · have hf := hf_pos c2 hf
    refine r_aload_n dX6_both_30 0 rfl ?_
    refine r_bipush (v := (-2)) dX6_both_31 (by decide) ?_
    obtain ⟨q3, hq3, hf⟩ := hf_bind hf
    refine r_callVi (As := [.int (-2)]) (b := (eA E 26)) (st := []) (s_X6_bad hq3) (by decide) (by decide) wd_844 wd_846 wd_27 wd_74 wd_847 hy_X6_bad (Rc.obj 26 ga_M rfl) rfl (Nat.le_of_ble_eq_true rfl) dX6_both_33 ?_
    have e9 := Option.some.inj hf
    subst e9
    exact r_iret rfl dX6_both_36
  · have hf := hf_neg c2 hf
    refine r_aload_n dX6_both_8 0 rfl ?_
    refine r_iload_n dX6_both_9 2 rfl ?_
    obtain ⟨q4, hq4, hf⟩ := hf_bind hf
    refine r_callVi (As := [.int a1]) (b := (eA E 26)) (st := []) (s_X6_isUnit hq4) (by decide) (by decide) wd_860 wd_862 wd_30 wd_74 wd_863 hy_X6_isUnit (Rc.obj 26 ga_M rfl) rfl (Nat.le_of_ble_eq_true rfl) dX6_both_10 ?_
    refine r_if_eq (tgt := 30) dX6_both_13 (by decide) (fun c5 => ?_) (fun c5 => ?_)
    · have hf := hf_pos c5 hf
      refine r_aload_n dX6_both_30 0 rfl ?_
      refine r_bipush (v := (-2)) dX6_both_31 (by decide) ?_
      obtain ⟨q6, hq6, hf⟩ := hf_bind hf
      refine r_callVi (As := [.int (-2)]) (b := (eA E 26)) (st := []) (s_X6_bad hq6) (by decide) (by decide) wd_844 wd_846 wd_27 wd_74 wd_847 hy_X6_bad (Rc.obj 26 ga_M rfl) rfl (Nat.le_of_ble_eq_true rfl) dX6_both_33 ?_
      have e9 := Option.some.inj hf
      subst e9
      exact r_iret rfl dX6_both_36
    · have hf := hf_neg c5 hf
      refine r_iload_n dX6_both_16 1 rfl ?_
      refine r_iload_n dX6_both_17 2 rfl ?_
      refine r_icmp_eq (tgt := 30) dX6_both_18 (by decide) (fun c7 => ?_) (fun c7 => ?_)
      · have hf := hf_pos c7 hf
        refine r_aload_n dX6_both_30 0 rfl ?_
        refine r_bipush (v := (-2)) dX6_both_31 (by decide) ?_
        obtain ⟨q8, hq8, hf⟩ := hf_bind hf
        refine r_callVi (As := [.int (-2)]) (b := (eA E 26)) (st := []) (s_X6_bad hq8) (by decide) (by decide) wd_844 wd_846 wd_27 wd_74 wd_847 hy_X6_bad (Rc.obj 26 ga_M rfl) rfl (Nat.le_of_ble_eq_true rfl) dX6_both_33 ?_
        have e9 := Option.some.inj hf
        subst e9
        exact r_iret rfl dX6_both_36
      · have hf := hf_neg c7 hf
        refine r_iload_n dX6_both_21 3 rfl ?_
        refine r_iload dX6_both_22 4 rfl ?_
        obtain ⟨q9, hq9, hf⟩ := hf_bind hf
        refine r_callSi (As := [.int a2, .int a3]) (st := []) (s_X6_areSeeds hq9) (by decide) (by decide) wd_1026 wd_1027 wd_74 wd_1028 hy_X6_areSeeds rfl (Nat.le_of_ble_eq_true rfl) dX6_both_24 ?_
        refine r_if_ne (tgt := 37) dX6_both_27 (by decide) (fun c10 => ?_) (fun c10 => ?_)
        · have hf := hf_neg c10 hf
          refine r_aload_n dX6_both_37 0 rfl ?_
          refine r_iconst (v := 1) dX6_both_38 (by decide) ?_
          refine r_iload_n dX6_both_39 1 rfl ?_
          refine r_ishl dX6_both_40 ?_
          refine r_iconst (v := 1) dX6_both_41 (by decide) ?_
          refine r_iload_n dX6_both_42 2 rfl ?_
          refine r_ishl dX6_both_43 ?_
          refine r_ior dX6_both_44 ?_
          refine r_iload_n dX6_both_45 3 rfl ?_
          refine r_iload dX6_both_46 4 rfl ?_
          obtain ⟨q11, hq11, hf⟩ := hf_bind hf
          refine r_callVi (As := [.int ((1 <<< (a0 &&& 31)) ||| (1 <<< (a1 &&& 31))), .int a2, .int a3]) (b := (eA E 26)) (st := []) (s_X6_howOften hq11) (by decide) (by decide) wd_1031 wd_1033 wd_51 wd_74 wd_1034 hy_X6_howOften (Rc.obj 26 ga_M rfl) rfl (Nat.le_of_ble_eq_true rfl) dX6_both_48 ?_
          have e9 := Option.some.inj hf
          subst e9
          exact r_iret rfl dX6_both_51
        · have hf := hf_pos c10 hf
          refine r_aload_n dX6_both_30 0 rfl ?_
          refine r_bipush (v := (-2)) dX6_both_31 (by decide) ?_
          obtain ⟨q12, hq12, hf⟩ := hf_bind hf
          refine r_callVi (As := [.int (-2)]) (b := (eA E 26)) (st := []) (s_X6_bad hq12) (by decide) (by decide) wd_844 wd_846 wd_27 wd_74 wd_847 hy_X6_bad (Rc.obj 26 ga_M rfl) rfl (Nat.le_of_ble_eq_true rfl) dX6_both_33 ?_
          have e9 := Option.some.inj hf
          subst e9
          exact r_iret rfl dX6_both_36
-- DuelSamplesModel.best
def lp_X6_best_43 (a1 : Int32) (M_unitsNow : Int32) (M_way : Int32) (M_units : Nat → Int32) (a0 : Int32) : Nat → Int32 → Int64 → Int32 → Int32 → Int32 → Int32 → Int32 → Int32 → (Nat → Int32) → (Nat → Int32) → Option (Int32 × Int64 × Int32 × Int32 × Int32 × Int32 × Int32 × (Nat → Int32) × (Nat → Int32))
  | 0, _, _, _, _, _, _, _, _, _, _ => none
  | n9 + 1, v4_43, v5_43, v7_43, M_one_43, M_two_43, M_playsNow_43, M_lowNow_43, M_highNow_43, M_left_43, M_playedNow_43 => if a1 ≤ v7_43 then some (v4_43, v5_43, M_one_43, M_two_43, M_playsNow_43, M_lowNow_43, M_highNow_43, M_left_43, M_playedNow_43) else Option.bind (f_X6_walked M_unitsNow M_way M_one_43 M_two_43 M_units M_left_43 M_playedNow_43 (a0 + v7_43)) (fun (q9 : Int32 × Int32 × Int32 × Int32 × Int32 × Int32 × (Nat → Int32) × (Nat → Int32)) => Option.bind (f_X6_missOf M_unitsNow M_units q9.1) (fun (q10 : Int64) => Option.bind (if 0 ≤ (lg_cmp q10 v5_43) then some v4_43 else some (a0 + v7_43)) (fun (q12 : Int32) => Option.bind (if 0 ≤ (lg_cmp q10 v5_43) then some v5_43 else some q10) (fun (q14 : Int64) => lp_X6_best_43 a1 M_unitsNow M_way M_units a0 n9 q12 q14 (v7_43 + 1) q9.2.1 q9.2.2.1 q9.2.2.2.1 q9.2.2.2.2.1 q9.2.2.2.2.2.1 q9.2.2.2.2.2.2.1 q9.2.2.2.2.2.2.2))))
def f_X6_best (M_unitsNow : Int32) (M_way : Int32) (M_one : Int32) (M_two : Int32) (M_playsNow : Int32) (M_lowNow : Int32) (M_highNow : Int32) (M_units : Nat → Int32) (M_refused : Nat → Int32) (M_left : Nat → Int32) (M_playedNow : Nat → Int32) (a0 : Int32) (a1 : Int32) (a2 : Int32) : Option (Int64 × Int32 × Int32 × Int32 × Int32 × Int32 × (Nat → Int32) × (Nat → Int32) × (Nat → Int32)) := Option.bind (f_X6_areSeeds a0 a1) (fun (q1 : Int32) => if q1 = 0 then Option.bind (f_X6_bad M_refused (-2)) (fun (q3 : Int32 × (Nat → Int32)) => some ((Int32.toInt64 q3.1), M_one, M_two, M_playsNow, M_lowNow, M_highNow, q3.2, M_left, M_playedNow)) else Option.bind (f_X6_in (Int32.toInt64 a2) 0 1) (fun (q4 : Int32) => if q4 = 0 then Option.bind (f_X6_bad M_refused (-2)) (fun (q17 : Int32 × (Nat → Int32)) => some ((Int32.toInt64 q17.1), M_one, M_two, M_playsNow, M_lowNow, M_highNow, q17.2, M_left, M_playedNow)) else Option.bind (f_X6_walked M_unitsNow M_way M_one M_two M_units M_left M_playedNow a0) (fun (q6 : Int32 × Int32 × Int32 × Int32 × Int32 × Int32 × (Nat → Int32) × (Nat → Int32)) => Option.bind (f_X6_missOf M_unitsNow M_units q6.1) (fun (q7 : Int64) => Option.bind (lp_X6_best_43 a1 M_unitsNow M_way M_units a0 FU a0 q7 1 q6.2.1 q6.2.2.1 q6.2.2.2.1 q6.2.2.2.2.1 q6.2.2.2.2.2.1 q6.2.2.2.2.2.2.1 q6.2.2.2.2.2.2.2) (fun (q15 : Int32 × Int64 × Int32 × Int32 × Int32 × Int32 × Int32 × (Nat → Int32) × (Nat → Int32)) => if a2 = 0 then some ((Int32.toInt64 q15.1), q15.2.2.1, q15.2.2.2.1, q15.2.2.2.2.1, q15.2.2.2.2.2.1, q15.2.2.2.2.2.2.1, M_refused, q15.2.2.2.2.2.2.2.1, q15.2.2.2.2.2.2.2.2) else some (q15.2.1, q15.2.2.1, q15.2.2.2.1, q15.2.2.2.2.1, q15.2.2.2.2.2.1, q15.2.2.2.2.2.2.1, M_refused, q15.2.2.2.2.2.2.2.1, q15.2.2.2.2.2.2.2.2))))))
theorem hy_X6_best : yX6_best.cls ≠ "java/lang/invoke/MethodHandle" ∧ yX6_best.cls ≠ "java/lang/invoke/VarHandle" ∧ (parseMethodDescriptor yX6_best.desc).map (fun d => d.parameters.length) = some 3 := by decide +kernel
set_option maxHeartbeats 4000000 in
set_option maxRecDepth 100000 in
theorem w_X6_best_43 {E : EN} {res : Option Value × Hp} {hX : TX} {hR : TR} {hL : TC} {hT : TC} {hK : TK} {hS : TS} {hP : TP} {a0 : Int32} {a1 : Int32} {a2 : Int32} {M_unitsNow : Int32} {M_way : Int32} {M_sample : Int32} {M_plays : Int32} {M_low : Int32} {M_high : Int32} {M_textLong : Int32} {M_answerLong : Int32} {M_place : Int32} {M_units : Nat → Int32} {M_refused : Nat → Int32} {M_played : Nat → Int32} {M_canBe : Nat → Int32} {M_text : Nat → Int32} {M_answered : Nat → Int32} {M_numbers : Nat → Int32} : ∀ (n9 : Nat) (v4_43 : Int32) (v5_43 : Int64) (v7_43 : Int32) (M_one_43 : Int32) (M_two_43 : Int32) (M_playsNow_43 : Int32) (M_lowNow_43 : Int32) (M_highNow_43 : Int32) (M_left_43 : Nat → Int32) (M_playedNow_43 : Nat → Int32) (qL : Int32 × Int64 × Int32 × Int32 × Int32 × Int32 × Int32 × (Nat → Int32) × (Nat → Int32)), lp_X6_best_43 a1 M_unitsNow M_way M_units a0 n9 v4_43 v5_43 v7_43 M_one_43 M_two_43 M_playsNow_43 M_lowNow_43 M_highNow_43 M_left_43 M_playedNow_43 = some qL → (Wa E yX6_best cX6_best 10 (some .long) 7 res 105 [(3, .int a2), (4, .int qL.1), (5, .long qL.2.1)] [] (hX, hR, hL, hT, hK, hS, hP, (M_unitsNow, M_way, M_sample, qL.2.2.1, qL.2.2.2.1, M_plays, M_low, M_high, qL.2.2.2.2.1, qL.2.2.2.2.2.1, qL.2.2.2.2.2.2.1, M_textLong, M_answerLong, M_place, M_units, M_refused, qL.2.2.2.2.2.2.2.1, M_played, qL.2.2.2.2.2.2.2.2, M_canBe, M_text, M_answered, M_numbers))) → Wa E yX6_best cX6_best 10 (some .long) 7 res 43 [(0, .ref (eA E 26)), (1, .int a0), (2, .int a1), (3, .int a2), (4, .int v4_43), (5, .long v5_43), (7, .int v7_43)] [] (hX, hR, hL, hT, hK, hS, hP, (M_unitsNow, M_way, M_sample, M_one_43, M_two_43, M_plays, M_low, M_high, M_playsNow_43, M_lowNow_43, M_highNow_43, M_textLong, M_answerLong, M_place, M_units, M_refused, M_left_43, M_played, M_playedNow_43, M_canBe, M_text, M_answered, M_numbers)) := by
  intro n9
  induction n9 with
  | zero =>
    intro v4_43 v5_43 v7_43 M_one_43 M_two_43 M_playsNow_43 M_lowNow_43 M_highNow_43 M_left_43 M_playedNow_43 qL hf
    exact nomatch (show (none : Option (Int32 × Int64 × Int32 × Int32 × Int32 × Int32 × Int32 × (Nat → Int32) × (Nat → Int32))) = some qL from hf)
  | succ n9 ih =>
    intro v4_43 v5_43 v7_43 M_one_43 M_two_43 M_playsNow_43 M_lowNow_43 M_highNow_43 M_left_43 M_playedNow_43 qL hf kx0
    rw [lp_X6_best_43] at hf
    refine r_iload dX6_best_43 6 rfl ?_
    refine r_iload_n dX6_best_45 2 rfl ?_
    refine r_icmp_ge (tgt := 105) dX6_best_46 (by decide) (fun c8 => ?_) (fun c8 => ?_)
    · have hf := hf_pos c8 hf
      have e9 := Option.some.inj hf
      subst e9
      exact (Wa.sub [3, 4, 5] rfl kx0)
    · have hf := hf_neg c8 hf
      refine r_aload_n dX6_best_49 0 rfl ?_
      refine r_aload_n dX6_best_50 0 rfl ?_
      refine r_iload_n dX6_best_51 1 rfl ?_
      refine r_iload dX6_best_52 6 rfl ?_
      refine r_iadd dX6_best_54 ?_
      obtain ⟨q9, hq9, hf⟩ := hf_bind hf
      refine r_callVi (As := [.int (a0 + v7_43)]) (b := (eA E 26)) (st := [.ref (eA E 26)]) (s_X6_walked hq9) (by decide) (by decide) wd_937 wd_939 wd_37 wd_74 wd_940 hy_X6_walked (Rc.obj 26 ga_M rfl) rfl (Nat.le_of_ble_eq_true rfl) dX6_best_55 ?_
      obtain ⟨q10, hq10, hf⟩ := hf_bind hf
      refine r_callVl (As := [.int q9.1]) (b := (eA E 26)) (st := []) (s_X6_missOf hq10) (by decide) (by decide) wd_1009 wd_1011 wd_50 wd_74 wd_1012 hy_X6_missOf (Rc.obj 26 ga_M rfl) rfl (Nat.le_of_ble_eq_true rfl) dX6_best_58 ?_
      refine r_lstore (lv2 := [(8, .long q10), (0, .ref (eA E 26)), (1, .int a0), (2, .int a1), (3, .int a2), (4, .int v4_43), (5, .long v5_43), (7, .int v7_43)]) dX6_best_61 (by decide) rfl ?_
      refine r_lload dX6_best_63 0 rfl ?_
      refine r_lload dX6_best_65 6 rfl ?_
      refine r_lcmp dX6_best_67 ?_
      obtain ⟨q12, hq12, hf⟩ := hf_bind hf
      have kj12 : Wa E yX6_best cX6_best 10 (some .long) 7 res 80 [(0, .ref (eA E 26)), (1, .int a0), (2, .int a1), (3, .int a2), (5, .long v5_43), (7, .int v7_43), (8, .long q10)] [.int q12] (hX, hR, hL, hT, hK, hS, hP, (M_unitsNow, M_way, M_sample, q9.2.1, q9.2.2.1, M_plays, M_low, M_high, q9.2.2.2.1, q9.2.2.2.2.1, q9.2.2.2.2.2.1, M_textLong, M_answerLong, M_place, M_units, M_refused, q9.2.2.2.2.2.2.1, M_played, q9.2.2.2.2.2.2.2, M_canBe, M_text, M_answered, M_numbers)) := by
        refine r_istore (lv2 := [(4, .int q12), (0, .ref (eA E 26)), (1, .int a0), (2, .int a1), (3, .int a2), (5, .long v5_43), (7, .int v7_43), (8, .long q10)]) dX6_best_80 (by decide) rfl ?_
        refine r_lload dX6_best_82 7 rfl ?_
        refine r_lload dX6_best_84 5 rfl ?_
        refine r_lcmp dX6_best_86 ?_
        obtain ⟨q14, hq14, hf⟩ := hf_bind hf
        have kj14 : Wa E yX6_best cX6_best 10 (some .long) 7 res 97 [(0, .ref (eA E 26)), (1, .int a0), (2, .int a1), (3, .int a2), (4, .int q12), (7, .int v7_43)] [.long q14] (hX, hR, hL, hT, hK, hS, hP, (M_unitsNow, M_way, M_sample, q9.2.1, q9.2.2.1, M_plays, M_low, M_high, q9.2.2.2.1, q9.2.2.2.2.1, q9.2.2.2.2.2.1, M_textLong, M_answerLong, M_place, M_units, M_refused, q9.2.2.2.2.2.2.1, M_played, q9.2.2.2.2.2.2.2, M_canBe, M_text, M_answered, M_numbers)) := by
          refine r_lstore (lv2 := [(5, .long q14), (0, .ref (eA E 26)), (1, .int a0), (2, .int a1), (3, .int a2), (4, .int q12), (7, .int v7_43)]) dX6_best_97 (by decide) rfl ?_
          refine r_iinc (v := (v7_43 + 1)) (lv2 := [(7, .int (v7_43 + 1)), (5, .long q14), (0, .ref (eA E 26)), (1, .int a0), (2, .int a1), (3, .int a2), (4, .int q12)]) dX6_best_99 6 rfl rfl (by decide) rfl ?_
          refine r_goto (tgt := 43) dX6_best_102 (by decide) ?_
          exact (Wa.sub [2, 3, 4, 5, 6, 1, 0] rfl (ih _ _ _ _ _ _ _ _ _ _ _ hf kx0))
        have hf := hq14
        refine r_if_ge (tgt := 95) dX6_best_87 (by decide) (fun c13 => ?_) (fun c13 => ?_)
        · have hf := hf_pos c13 hf
          refine r_lload dX6_best_95 5 rfl ?_
          have e9 := Option.some.inj hf
          subst e9
          exact (Wa.sub [1, 2, 3, 4, 0, 6] rfl kj14)
        · have hf := hf_neg c13 hf
          refine r_lload dX6_best_90 7 rfl ?_
          refine r_goto (tgt := 97) dX6_best_92 (by decide) ?_
          have e9 := Option.some.inj hf
          subst e9
          exact (Wa.sub [1, 2, 3, 4, 0, 6] rfl kj14)
      have hf := hq12
      refine r_if_ge (tgt := 78) dX6_best_68 (by decide) (fun c11 => ?_) (fun c11 => ?_)
      · have hf := hf_pos c11 hf
        refine r_iload dX6_best_78 5 rfl ?_
        have e9 := Option.some.inj hf
        subst e9
        exact (Wa.sub [1, 2, 3, 4, 6, 7, 0] rfl kj12)
      · have hf := hf_neg c11 hf
        refine r_iload_n dX6_best_71 2 rfl ?_
        refine r_iload dX6_best_72 7 rfl ?_
        refine r_iadd dX6_best_74 ?_
        refine r_goto (tgt := 80) dX6_best_75 (by decide) ?_
        have e9 := Option.some.inj hf
        subst e9
        exact (Wa.sub [1, 2, 3, 4, 6, 7, 0] rfl kj12)
set_option maxHeartbeats 4000000 in
set_option maxRecDepth 100000 in
theorem s_X6_best {E : EN} {hX : TX} {hR : TR} {hL : TC} {hT : TC} {hK : TK} {hS : TS} {hP : TP} {M_unitsNow : Int32} {M_way : Int32} {M_sample : Int32} {M_one : Int32} {M_two : Int32} {M_plays : Int32} {M_low : Int32} {M_high : Int32} {M_playsNow : Int32} {M_lowNow : Int32} {M_highNow : Int32} {M_textLong : Int32} {M_answerLong : Int32} {M_place : Int32} {M_units : Nat → Int32} {M_refused : Nat → Int32} {M_left : Nat → Int32} {M_played : Nat → Int32} {M_playedNow : Nat → Int32} {M_canBe : Nat → Int32} {M_text : Nat → Int32} {M_answered : Nat → Int32} {M_numbers : Nat → Int32} {a0 : Int32} {a1 : Int32} {a2 : Int32} {qR : Int64 × Int32 × Int32 × Int32 × Int32 × Int32 × (Nat → Int32) × (Nat → Int32) × (Nat → Int32)} (hf : f_X6_best M_unitsNow M_way M_one M_two M_playsNow M_lowNow M_highNow M_units M_refused M_left M_playedNow a0 a1 a2 = some qR) : Sem E yX6_best cX6_best 10 (some .long) 7 [.ref (eA E 26), .int a0, .int a1, .int a2] (hX, hR, hL, hT, hK, hS, hP, (M_unitsNow, M_way, M_sample, M_one, M_two, M_plays, M_low, M_high, M_playsNow, M_lowNow, M_highNow, M_textLong, M_answerLong, M_place, M_units, M_refused, M_left, M_played, M_playedNow, M_canBe, M_text, M_answered, M_numbers)) (some (.long qR.1), (hX, hR, hL, hT, hK, hS, hP, (M_unitsNow, M_way, M_sample, qR.2.1, qR.2.2.1, M_plays, M_low, M_high, qR.2.2.2.1, qR.2.2.2.2.1, qR.2.2.2.2.2.1, M_textLong, M_answerLong, M_place, M_units, qR.2.2.2.2.2.2.1, qR.2.2.2.2.2.2.2.1, M_played, qR.2.2.2.2.2.2.2.2, M_canBe, M_text, M_answered, M_numbers))) := by
  refine Sem.mk (lv := [(0, .ref (eA E 26)), (1, .int a0), (2, .int a1), (3, .int a2)]) (by decide) (Nat.le_of_ble_eq_true rfl) rfl ?_
  rw [f_X6_best] at hf
  refine r_iload_n dX6_best_0 1 rfl ?_
  refine r_iload_n dX6_best_1 2 rfl ?_
  obtain ⟨q1, hq1, hf⟩ := hf_bind hf
  refine r_callSi (As := [.int a0, .int a1]) (st := []) (s_X6_areSeeds hq1) (by decide) (by decide) wd_1026 wd_1027 wd_74 wd_1028 hy_X6_areSeeds rfl (Nat.le_of_ble_eq_true rfl) dX6_best_2 ?_
  refine r_if_eq (tgt := 18) dX6_best_5 (by decide) (fun c2 => ?_) (fun c2 => ?_)
  · have hf := hf_pos c2 hf
    refine r_aload_n dX6_best_18 0 rfl ?_
    refine r_bipush (v := (-2)) dX6_best_19 (by decide) ?_
    obtain ⟨q3, hq3, hf⟩ := hf_bind hf
    refine r_callVi (As := [.int (-2)]) (b := (eA E 26)) (st := []) (s_X6_bad hq3) (by decide) (by decide) wd_844 wd_846 wd_27 wd_74 wd_847 hy_X6_bad (Rc.obj 26 ga_M rfl) rfl (Nat.le_of_ble_eq_true rfl) dX6_best_21 ?_
    refine r_i2l dX6_best_24 ?_
    have e9 := Option.some.inj hf
    subst e9
    exact r_lret rfl dX6_best_25
  · have hf := hf_neg c2 hf
    refine r_iload_n dX6_best_8 3 rfl ?_
    refine r_i2l dX6_best_9 ?_
    refine r_lconst (v := 0) dX6_best_10 (by decide) ?_
    refine r_lconst (v := 1) dX6_best_11 (by decide) ?_
    obtain ⟨q4, hq4, hf⟩ := hf_bind hf
    refine r_callSi (As := [.long (Int32.toInt64 a2), .long 0, .long 1]) (st := []) (s_X6_in hq4) (by decide) (by decide) wd_841 wd_842 wd_74 wd_843 hy_X6_in rfl (Nat.le_of_ble_eq_true rfl) dX6_best_12 ?_
    refine r_if_ne (tgt := 26) dX6_best_15 (by decide) (fun c5 => ?_) (fun c5 => ?_)
    · have hf := hf_neg c5 hf
      refine r_iload_n dX6_best_26 1 rfl ?_
      refine r_istore (lv2 := [(4, .int a0), (0, .ref (eA E 26)), (1, .int a0), (2, .int a1), (3, .int a2)]) dX6_best_27 (by decide) rfl ?_
      refine r_aload_n dX6_best_29 1 rfl ?_
      refine r_aload_n dX6_best_30 1 rfl ?_
      refine r_iload_n dX6_best_31 2 rfl ?_
      obtain ⟨q6, hq6, hf⟩ := hf_bind hf
      refine r_callVi (As := [.int a0]) (b := (eA E 26)) (st := [.ref (eA E 26)]) (s_X6_walked hq6) (by decide) (by decide) wd_937 wd_939 wd_37 wd_74 wd_940 hy_X6_walked (Rc.obj 26 ga_M rfl) rfl (Nat.le_of_ble_eq_true rfl) dX6_best_32 ?_
      obtain ⟨q7, hq7, hf⟩ := hf_bind hf
      refine r_callVl (As := [.int q6.1]) (b := (eA E 26)) (st := []) (s_X6_missOf hq7) (by decide) (by decide) wd_1009 wd_1011 wd_50 wd_74 wd_1012 hy_X6_missOf (Rc.obj 26 ga_M rfl) rfl (Nat.le_of_ble_eq_true rfl) dX6_best_35 ?_
      refine r_lstore (lv2 := [(5, .long q7), (4, .int a0), (0, .ref (eA E 26)), (1, .int a0), (2, .int a1), (3, .int a2)]) dX6_best_38 (by decide) rfl ?_
      refine r_iconst (v := 1) dX6_best_40 (by decide) ?_
      refine r_istore (lv2 := [(7, .int 1), (5, .long q7), (4, .int a0), (0, .ref (eA E 26)), (1, .int a0), (2, .int a1), (3, .int a2)]) dX6_best_41 (by decide) rfl ?_
      obtain ⟨q15, hq15, hf⟩ := hf_bind hf
      refine (Wa.sub [3, 4, 5, 6, 2, 1, 0] rfl (w_X6_best_43 _ _ _ _ _ _ _ _ _ _ _ _ hq15 ?_))
      refine r_iload_n dX6_best_105 0 rfl ?_
      refine r_if_ne (tgt := 115) dX6_best_106 (by decide) (fun c16 => ?_) (fun c16 => ?_)
      · have hf := hf_neg c16 hf
        refine r_lload dX6_best_115 2 rfl ?_
        have e9 := Option.some.inj hf
        subst e9
        exact r_lret rfl dX6_best_117
      · have hf := hf_pos c16 hf
        refine r_iload dX6_best_109 1 rfl ?_
        refine r_i2l dX6_best_111 ?_
        refine r_goto (tgt := 117) dX6_best_112 (by decide) ?_
        have e9 := Option.some.inj hf
        subst e9
        exact r_lret rfl dX6_best_117
    · have hf := hf_pos c5 hf
      refine r_aload_n dX6_best_18 0 rfl ?_
      refine r_bipush (v := (-2)) dX6_best_19 (by decide) ?_
      obtain ⟨q17, hq17, hf⟩ := hf_bind hf
      refine r_callVi (As := [.int (-2)]) (b := (eA E 26)) (st := []) (s_X6_bad hq17) (by decide) (by decide) wd_844 wd_846 wd_27 wd_74 wd_847 hy_X6_bad (Rc.obj 26 ga_M rfl) rfl (Nat.le_of_ble_eq_true rfl) dX6_best_21 ?_
      refine r_i2l dX6_best_24 ?_
      have e9 := Option.some.inj hf
      subst e9
      exact r_lret rfl dX6_best_25
