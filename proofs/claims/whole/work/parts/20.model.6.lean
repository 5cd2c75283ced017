-- DuelSamplesModel.goesThrough
def lp_X6_goesThrough_19 (M_textLong : Int32) (M_text : Nat → Int32) (a0 : Int32) : Nat → Int32 → Int32 → Int32 → Int32 → Int32 → Int32 → Int32 → Int32 → Int32 → Int32 → Int32 → Int32 → Int32 → Int32 → Int32 → Int32 → (Nat → Int32) → (Nat → Int32) → (Nat → Int32) → (Nat → Int32) → (Nat → Int32) → (Nat → Int32) → Option (Nat × Int32 × Int32 × Int32 × Int32 × Int32 × Int32 × Int32 × Int32 × Int32 × Int32 × Int32 × Int32 × Int32 × Int32 × (Nat → Int32) × (Nat → Int32) × (Nat → Int32) × (Nat → Int32) × (Nat → Int32) × (Nat → Int32))
  | 0, _, _, _, _, _, _, _, _, _, _, _, _, _, _, _, _, _, _, _, _, _, _ => none
  | n9 + 1, v2_19, v3_19, v4_19, M_unitsNow_19, M_way_19, M_sample_19, M_one_19, M_two_19, M_plays_19, M_low_19, M_high_19, M_playsNow_19, M_lowNow_19, M_highNow_19, M_answerLong_19, M_place_19, M_units_19, M_left_19, M_played_19, M_playedNow_19, M_answered_19, M_numbers_19 => if v4_19 = 0 then some (1, v2_19, M_unitsNow_19, M_way_19, M_sample_19, M_one_19, M_two_19, M_plays_19, M_low_19, M_high_19, M_playsNow_19, M_lowNow_19, M_highNow_19, M_answerLong_19, M_place_19, M_units_19, M_left_19, M_played_19, M_playedNow_19, M_answered_19, M_numbers_19) else Option.bind (f_X6_reads M_textLong M_place_19 M_text M_numbers_19 v3_19) (fun (q3 : Int32 × Int32 × (Nat → Int32)) => if q3.1 = (-1) then some (0, v2_19, M_unitsNow_19, M_way_19, M_sample_19, M_one_19, M_two_19, M_plays_19, M_low_19, M_high_19, M_playsNow_19, M_lowNow_19, M_highNow_19, M_answerLong_19, q3.2.1, M_units_19, M_left_19, M_played_19, M_playedNow_19, M_answered_19, q3.2.2) else Option.bind (if q3.1 = 10 then some 1 else some 0) (fun (q6 : Int32) => Option.bind (if a0 = 0 then some (M_unitsNow_19, M_way_19, M_sample_19, M_one_19, M_two_19, M_plays_19, M_low_19, M_high_19, M_playsNow_19, M_lowNow_19, M_highNow_19, M_answerLong_19, M_units_19, M_left_19, M_played_19, M_playedNow_19, M_answered_19) else Option.bind (if v2_19 ≤ 0 then some (M_answerLong_19, M_answered_19) else Option.bind (f_X6_tells M_answerLong_19 M_answered_19 32) (fun (q11 : Int32 × (Nat → Int32)) => some (q11.1, q11.2))) (fun (q10 : Int32 × (Nat → Int32)) => Option.bind (f_X6_does M_unitsNow_19 M_way_19 M_sample_19 M_one_19 M_two_19 M_plays_19 M_low_19 M_high_19 M_playsNow_19 M_lowNow_19 M_highNow_19 q10.1 M_units_19 M_left_19 M_played_19 M_playedNow_19 q10.2 q3.2.2 q3.1) (fun (q12 : Int32 × Int32 × Int32 × Int32 × Int32 × Int32 × Int32 × Int32 × Int32 × Int32 × Int32 × Int32 × (Nat → Int32) × (Nat → Int32) × (Nat → Int32) × (Nat → Int32) × (Nat → Int32)) => some (q12.1, q12.2.1, q12.2.2.1, q12.2.2.2.1, q12.2.2.2.2.1, q12.2.2.2.2.2.1, q12.2.2.2.2.2.2.1, q12.2.2.2.2.2.2.2.1, q12.2.2.2.2.2.2.2.2.1, q12.2.2.2.2.2.2.2.2.2.1, q12.2.2.2.2.2.2.2.2.2.2.1, q12.2.2.2.2.2.2.2.2.2.2.2.1, q12.2.2.2.2.2.2.2.2.2.2.2.2.1, q12.2.2.2.2.2.2.2.2.2.2.2.2.2.1, q12.2.2.2.2.2.2.2.2.2.2.2.2.2.2.1, q12.2.2.2.2.2.2.2.2.2.2.2.2.2.2.2.1, q12.2.2.2.2.2.2.2.2.2.2.2.2.2.2.2.2)))) (fun (q8 : Int32 × Int32 × Int32 × Int32 × Int32 × Int32 × Int32 × Int32 × Int32 × Int32 × Int32 × Int32 × (Nat → Int32) × (Nat → Int32) × (Nat → Int32) × (Nat → Int32) × (Nat → Int32)) => Option.bind (f_X6_skip M_textLong q3.2.1 M_text) (fun (q13 : Int32) => Option.bind (if M_textLong ≤ q13 then some 0 else some 1) (fun (q15 : Int32) => lp_X6_goesThrough_19 M_textLong M_text a0 n9 (v2_19 + 1) (v3_19 + q6) q15 q8.1 q8.2.1 q8.2.2.1 q8.2.2.2.1 q8.2.2.2.2.1 q8.2.2.2.2.2.1 q8.2.2.2.2.2.2.1 q8.2.2.2.2.2.2.2.1 q8.2.2.2.2.2.2.2.2.1 q8.2.2.2.2.2.2.2.2.2.1 q8.2.2.2.2.2.2.2.2.2.2.1 q8.2.2.2.2.2.2.2.2.2.2.2.1 q13 q8.2.2.2.2.2.2.2.2.2.2.2.2.1 q8.2.2.2.2.2.2.2.2.2.2.2.2.2.1 q8.2.2.2.2.2.2.2.2.2.2.2.2.2.2.1 q8.2.2.2.2.2.2.2.2.2.2.2.2.2.2.2.1 q8.2.2.2.2.2.2.2.2.2.2.2.2.2.2.2.2 q3.2.2)))))
def f_X6_goesThrough (M_unitsNow : Int32) (M_way : Int32) (M_sample : Int32) (M_one : Int32) (M_two : Int32) (M_plays : Int32) (M_low : Int32) (M_high : Int32) (M_playsNow : Int32) (M_lowNow : Int32) (M_highNow : Int32) (M_textLong : Int32) (M_answerLong : Int32) (M_units : Nat → Int32) (M_left : Nat → Int32) (M_played : Nat → Int32) (M_playedNow : Nat → Int32) (M_text : Nat → Int32) (M_answered : Nat → Int32) (M_numbers : Nat → Int32) (a0 : Int32) : Option (Int32 × Int32 × Int32 × Int32 × Int32 × Int32 × Int32 × Int32 × Int32 × Int32 × Int32 × Int32 × Int32 × Int32 × (Nat → Int32) × (Nat → Int32) × (Nat → Int32) × (Nat → Int32) × (Nat → Int32) × (Nat → Int32)) := Option.bind (f_X6_skip M_textLong 0 M_text) (fun (q1 : Int32) => Option.bind (lp_X6_goesThrough_19 M_textLong M_text a0 FU 0 M_unitsNow 1 M_unitsNow M_way M_sample M_one M_two M_plays M_low M_high M_playsNow M_lowNow M_highNow M_answerLong q1 M_units M_left M_played M_playedNow M_answered M_numbers) (fun (q16 : Nat × Int32 × Int32 × Int32 × Int32 × Int32 × Int32 × Int32 × Int32 × Int32 × Int32 × Int32 × Int32 × Int32 × Int32 × (Nat → Int32) × (Nat → Int32) × (Nat → Int32) × (Nat → Int32) × (Nat → Int32) × (Nat → Int32)) => if q16.1 = 0 then some ((-1), q16.2.2.1, q16.2.2.2.1, q16.2.2.2.2.1, q16.2.2.2.2.2.1, q16.2.2.2.2.2.2.1, q16.2.2.2.2.2.2.2.1, q16.2.2.2.2.2.2.2.2.1, q16.2.2.2.2.2.2.2.2.2.1, q16.2.2.2.2.2.2.2.2.2.2.1, q16.2.2.2.2.2.2.2.2.2.2.2.1, q16.2.2.2.2.2.2.2.2.2.2.2.2.1, q16.2.2.2.2.2.2.2.2.2.2.2.2.2.1, q16.2.2.2.2.2.2.2.2.2.2.2.2.2.2.1, q16.2.2.2.2.2.2.2.2.2.2.2.2.2.2.2.1, q16.2.2.2.2.2.2.2.2.2.2.2.2.2.2.2.2.1, q16.2.2.2.2.2.2.2.2.2.2.2.2.2.2.2.2.2.1, q16.2.2.2.2.2.2.2.2.2.2.2.2.2.2.2.2.2.2.1, q16.2.2.2.2.2.2.2.2.2.2.2.2.2.2.2.2.2.2.2.1, q16.2.2.2.2.2.2.2.2.2.2.2.2.2.2.2.2.2.2.2.2) else some (q16.2.1, q16.2.2.1, q16.2.2.2.1, q16.2.2.2.2.1, q16.2.2.2.2.2.1, q16.2.2.2.2.2.2.1, q16.2.2.2.2.2.2.2.1, q16.2.2.2.2.2.2.2.2.1, q16.2.2.2.2.2.2.2.2.2.1, q16.2.2.2.2.2.2.2.2.2.2.1, q16.2.2.2.2.2.2.2.2.2.2.2.1, q16.2.2.2.2.2.2.2.2.2.2.2.2.1, q16.2.2.2.2.2.2.2.2.2.2.2.2.2.1, q16.2.2.2.2.2.2.2.2.2.2.2.2.2.2.1, q16.2.2.2.2.2.2.2.2.2.2.2.2.2.2.2.1, q16.2.2.2.2.2.2.2.2.2.2.2.2.2.2.2.2.1, q16.2.2.2.2.2.2.2.2.2.2.2.2.2.2.2.2.2.1, q16.2.2.2.2.2.2.2.2.2.2.2.2.2.2.2.2.2.2.1, q16.2.2.2.2.2.2.2.2.2.2.2.2.2.2.2.2.2.2.2.1, q16.2.2.2.2.2.2.2.2.2.2.2.2.2.2.2.2.2.2.2.2)))
theorem hy_X6_goesThrough : yX6_goesThrough.cls ≠ "java/lang/invoke/MethodHandle" ∧ yX6_goesThrough.cls ≠ "java/lang/invoke/VarHandle" ∧ (parseMethodDescriptor yX6_goesThrough.desc).map (fun d => d.parameters.length) = some 1 := by decide +kernel
set_option maxHeartbeats 4000000 in
set_option maxRecDepth 100000 in
theorem w_X6_goesThrough_19 {E : EN} {res : Option Value × Hp} {hX : TX} {hR : TR} {hL : TC} {hT : TC} {hK : TK} {hS : TS} {hP : TP} {a0 : Int32} {M_textLong : Int32} {M_refused : Nat → Int32} {M_canBe : Nat → Int32} {M_text : Nat → Int32} : ∀ (n9 : Nat) (v2_19 : Int32) (v3_19 : Int32) (v4_19 : Int32) (M_unitsNow_19 : Int32) (M_way_19 : Int32) (M_sample_19 : Int32) (M_one_19 : Int32) (M_two_19 : Int32) (M_plays_19 : Int32) (M_low_19 : Int32) (M_high_19 : Int32) (M_playsNow_19 : Int32) (M_lowNow_19 : Int32) (M_highNow_19 : Int32) (M_answerLong_19 : Int32) (M_place_19 : Int32) (M_units_19 : Nat → Int32) (M_left_19 : Nat → Int32) (M_played_19 : Nat → Int32) (M_playedNow_19 : Nat → Int32) (M_answered_19 : Nat → Int32) (M_numbers_19 : Nat → Int32) (qL : Nat × Int32 × Int32 × Int32 × Int32 × Int32 × Int32 × Int32 × Int32 × Int32 × Int32 × Int32 × Int32 × Int32 × Int32 × (Nat → Int32) × (Nat → Int32) × (Nat → Int32) × (Nat → Int32) × (Nat → Int32) × (Nat → Int32)), lp_X6_goesThrough_19 M_textLong M_text a0 n9 v2_19 v3_19 v4_19 M_unitsNow_19 M_way_19 M_sample_19 M_one_19 M_two_19 M_plays_19 M_low_19 M_high_19 M_playsNow_19 M_lowNow_19 M_highNow_19 M_answerLong_19 M_place_19 M_units_19 M_left_19 M_played_19 M_playedNow_19 M_answered_19 M_numbers_19 = some qL → (qL.1 = 0 → Wa E yX6_goesThrough cX6_goesThrough 6 (some .int) 9 res 37 [] [] (hX, hR, hL, hT, hK, hS, hP, (qL.2.2.1, qL.2.2.2.1, qL.2.2.2.2.1, qL.2.2.2.2.2.1, qL.2.2.2.2.2.2.1, qL.2.2.2.2.2.2.2.1, qL.2.2.2.2.2.2.2.2.1, qL.2.2.2.2.2.2.2.2.2.1, qL.2.2.2.2.2.2.2.2.2.2.1, qL.2.2.2.2.2.2.2.2.2.2.2.1, qL.2.2.2.2.2.2.2.2.2.2.2.2.1, M_textLong, qL.2.2.2.2.2.2.2.2.2.2.2.2.2.1, qL.2.2.2.2.2.2.2.2.2.2.2.2.2.2.1, qL.2.2.2.2.2.2.2.2.2.2.2.2.2.2.2.1, M_refused, qL.2.2.2.2.2.2.2.2.2.2.2.2.2.2.2.2.1, qL.2.2.2.2.2.2.2.2.2.2.2.2.2.2.2.2.2.1, qL.2.2.2.2.2.2.2.2.2.2.2.2.2.2.2.2.2.2.1, M_canBe, M_text, qL.2.2.2.2.2.2.2.2.2.2.2.2.2.2.2.2.2.2.2.1, qL.2.2.2.2.2.2.2.2.2.2.2.2.2.2.2.2.2.2.2.2))) → (qL.1 = 1 → Wa E yX6_goesThrough cX6_goesThrough 6 (some .int) 9 res 102 [(2, .int qL.2.1)] [] (hX, hR, hL, hT, hK, hS, hP, (qL.2.2.1, qL.2.2.2.1, qL.2.2.2.2.1, qL.2.2.2.2.2.1, qL.2.2.2.2.2.2.1, qL.2.2.2.2.2.2.2.1, qL.2.2.2.2.2.2.2.2.1, qL.2.2.2.2.2.2.2.2.2.1, qL.2.2.2.2.2.2.2.2.2.2.1, qL.2.2.2.2.2.2.2.2.2.2.2.1, qL.2.2.2.2.2.2.2.2.2.2.2.2.1, M_textLong, qL.2.2.2.2.2.2.2.2.2.2.2.2.2.1, qL.2.2.2.2.2.2.2.2.2.2.2.2.2.2.1, qL.2.2.2.2.2.2.2.2.2.2.2.2.2.2.2.1, M_refused, qL.2.2.2.2.2.2.2.2.2.2.2.2.2.2.2.2.1, qL.2.2.2.2.2.2.2.2.2.2.2.2.2.2.2.2.2.1, qL.2.2.2.2.2.2.2.2.2.2.2.2.2.2.2.2.2.2.1, M_canBe, M_text, qL.2.2.2.2.2.2.2.2.2.2.2.2.2.2.2.2.2.2.2.1, qL.2.2.2.2.2.2.2.2.2.2.2.2.2.2.2.2.2.2.2.2))) → Wa E yX6_goesThrough cX6_goesThrough 6 (some .int) 9 res 19 [(0, .ref (eA E 26)), (1, .int a0), (2, .int v2_19), (3, .int v3_19), (4, .int v4_19)] [] (hX, hR, hL, hT, hK, hS, hP, (M_unitsNow_19, M_way_19, M_sample_19, M_one_19, M_two_19, M_plays_19, M_low_19, M_high_19, M_playsNow_19, M_lowNow_19, M_highNow_19, M_textLong, M_answerLong_19, M_place_19, M_units_19, M_refused, M_left_19, M_played_19, M_playedNow_19, M_canBe, M_text, M_answered_19, M_numbers_19)) := by
  intro n9
  induction n9 with
  | zero =>
    intro v2_19 v3_19 v4_19 M_unitsNow_19 M_way_19 M_sample_19 M_one_19 M_two_19 M_plays_19 M_low_19 M_high_19 M_playsNow_19 M_lowNow_19 M_highNow_19 M_answerLong_19 M_place_19 M_units_19 M_left_19 M_played_19 M_playedNow_19 M_answered_19 M_numbers_19 qL hf
    exact nomatch (show (none : Option (Nat × Int32 × Int32 × Int32 × Int32 × Int32 × Int32 × Int32 × Int32 × Int32 × Int32 × Int32 × Int32 × Int32 × Int32 × (Nat → Int32) × (Nat → Int32) × (Nat → Int32) × (Nat → Int32) × (Nat → Int32) × (Nat → Int32))) = some qL from hf)
  | succ n9 ih =>
    intro v2_19 v3_19 v4_19 M_unitsNow_19 M_way_19 M_sample_19 M_one_19 M_two_19 M_plays_19 M_low_19 M_high_19 M_playsNow_19 M_lowNow_19 M_highNow_19 M_answerLong_19 M_place_19 M_units_19 M_left_19 M_played_19 M_playedNow_19 M_answered_19 M_numbers_19 qL hf kx0 kx1
    rw [lp_X6_goesThrough_19] at hf
    refine r_iload dX6_goesThrough_19 4 rfl ?_
    refine r_if_eq (tgt := 102) dX6_goesThrough_21 (by decide) (fun c2 => ?_) (fun c2 => ?_)
    · have hf := hf_pos c2 hf
      have e9 := Option.some.inj hf
      subst e9
      exact (Wa.sub [2] rfl (kx1 rfl))
    · have hf := hf_neg c2 hf
      refine r_aload_n dX6_goesThrough_24 0 rfl ?_
      refine r_iload_n dX6_goesThrough_25 3 rfl ?_
      obtain ⟨q3, hq3, hf⟩ := hf_bind hf
      refine r_callVi (As := [.int v3_19]) (b := (eA E 26)) (st := []) (s_X6_reads hq3) (by decide) (by decide) wd_1085 wd_1087 wd_55 wd_74 wd_1088 hy_X6_reads (Rc.obj 26 ga_M rfl) rfl (Nat.le_of_ble_eq_true rfl) dX6_goesThrough_26 ?_
      refine r_istore (lv2 := [(5, .int q3.1), (0, .ref (eA E 26)), (1, .int a0), (2, .int v2_19), (3, .int v3_19), (4, .int v4_19)]) dX6_goesThrough_29 (by decide) rfl ?_
      refine r_iload dX6_goesThrough_31 0 rfl ?_
      refine r_iconst (v := (-1)) dX6_goesThrough_33 (by decide) ?_
      refine r_icmp_ne (tgt := 39) dX6_goesThrough_34 (by decide) (fun c4 => ?_) (fun c4 => ?_)
      · have hf := hf_neg c4 hf
        refine r_iload_n dX6_goesThrough_39 4 rfl ?_
        refine r_iload dX6_goesThrough_40 0 rfl ?_
        refine r_bipush (v := 10) dX6_goesThrough_42 (by decide) ?_
        obtain ⟨q6, hq6, hf⟩ := hf_bind hf
        have kj6 : Wa E yX6_goesThrough cX6_goesThrough 6 (some .int) 9 res 52 [(0, .ref (eA E 26)), (1, .int a0), (2, .int v2_19), (5, .int q3.1)] [.int q6, .int v3_19] (hX, hR, hL, hT, hK, hS, hP, (M_unitsNow_19, M_way_19, M_sample_19, M_one_19, M_two_19, M_plays_19, M_low_19, M_high_19, M_playsNow_19, M_lowNow_19, M_highNow_19, M_textLong, M_answerLong_19, q3.2.1, M_units_19, M_refused, M_left_19, M_played_19, M_playedNow_19, M_canBe, M_text, M_answered_19, q3.2.2)) := by
          refine r_iadd dX6_goesThrough_52 ?_
          refine r_istore_n (lv2 := [(3, .int (v3_19 + q6)), (0, .ref (eA E 26)), (1, .int a0), (2, .int v2_19), (5, .int q3.1)]) dX6_goesThrough_53 rfl (by decide) rfl ?_
          refine r_iload_n dX6_goesThrough_54 2 rfl ?_
          obtain ⟨q8, hq8, hf⟩ := hf_bind hf
          have kj8 : Wa E yX6_goesThrough cX6_goesThrough 6 (some .int) 9 res 74 [(0, .ref (eA E 26)), (1, .int a0), (2, .int v2_19), (3, .int (v3_19 + q6))] [] (hX, hR, hL, hT, hK, hS, hP, (q8.1, q8.2.1, q8.2.2.1, q8.2.2.2.1, q8.2.2.2.2.1, q8.2.2.2.2.2.1, q8.2.2.2.2.2.2.1, q8.2.2.2.2.2.2.2.1, q8.2.2.2.2.2.2.2.2.1, q8.2.2.2.2.2.2.2.2.2.1, q8.2.2.2.2.2.2.2.2.2.2.1, M_textLong, q8.2.2.2.2.2.2.2.2.2.2.2.1, q3.2.1, q8.2.2.2.2.2.2.2.2.2.2.2.2.1, M_refused, q8.2.2.2.2.2.2.2.2.2.2.2.2.2.1, q8.2.2.2.2.2.2.2.2.2.2.2.2.2.2.1, q8.2.2.2.2.2.2.2.2.2.2.2.2.2.2.2.1, M_canBe, M_text, q8.2.2.2.2.2.2.2.2.2.2.2.2.2.2.2.2, q3.2.2)) := by
            refine r_iinc (v := (v2_19 + 1)) (lv2 := [(2, .int (v2_19 + 1)), (0, .ref (eA E 26)), (1, .int a0), (3, .int (v3_19 + q6))]) dX6_goesThrough_74 2 rfl rfl (by decide) rfl ?_
            refine r_aload_n dX6_goesThrough_77 1 rfl ?_
            obtain ⟨q13, hq13, hf⟩ := hf_bind hf
            refine r_callVv (As := []) (b := (eA E 26)) (st := []) (s_X6_skip hq13) (by decide) (by decide) wd_1081 wd_1083 wd_54 wd_74 wd_1084 hy_X6_skip (Rc.obj 26 ga_M rfl) rfl (Nat.le_of_ble_eq_true rfl) dX6_goesThrough_78 ?_
            refine r_aload_n dX6_goesThrough_81 1 rfl ?_
            refine r_get (v := .int q13) in_X6 26 ga_M rfl 21 (by decide) wd_784 rfl rfl dX6_goesThrough_82 ?_
            refine r_aload_n dX6_goesThrough_85 1 rfl ?_
            refine r_get (v := .int M_textLong) in_X6 26 ga_M rfl 18 (by decide) wd_781 rfl rfl dX6_goesThrough_86 ?_
            obtain ⟨q15, hq15, hf⟩ := hf_bind hf
            have kj15 : Wa E yX6_goesThrough cX6_goesThrough 6 (some .int) 9 res 97 [(0, .ref (eA E 26)), (1, .int a0), (2, .int (v2_19 + 1)), (3, .int (v3_19 + q6))] [.int q15] (hX, hR, hL, hT, hK, hS, hP, (q8.1, q8.2.1, q8.2.2.1, q8.2.2.2.1, q8.2.2.2.2.1, q8.2.2.2.2.2.1, q8.2.2.2.2.2.2.1, q8.2.2.2.2.2.2.2.1, q8.2.2.2.2.2.2.2.2.1, q8.2.2.2.2.2.2.2.2.2.1, q8.2.2.2.2.2.2.2.2.2.2.1, M_textLong, q8.2.2.2.2.2.2.2.2.2.2.2.1, q13, q8.2.2.2.2.2.2.2.2.2.2.2.2.1, M_refused, q8.2.2.2.2.2.2.2.2.2.2.2.2.2.1, q8.2.2.2.2.2.2.2.2.2.2.2.2.2.2.1, q8.2.2.2.2.2.2.2.2.2.2.2.2.2.2.2.1, M_canBe, M_text, q8.2.2.2.2.2.2.2.2.2.2.2.2.2.2.2.2, q3.2.2)) := by
              refine r_istore (lv2 := [(4, .int q15), (0, .ref (eA E 26)), (1, .int a0), (2, .int (v2_19 + 1)), (3, .int (v3_19 + q6))]) dX6_goesThrough_97 (by decide) rfl ?_
              refine r_goto (tgt := 19) dX6_goesThrough_99 (by decide) ?_
              exact (Wa.sub [1, 2, 3, 4, 0] rfl (ih _ _ _ _ _ _ _ _ _ _ _ _ _ _ _ _ _ _ _ _ _ _ _ hf kx0 kx1))
            have hf := hq15
            refine r_icmp_ge (tgt := 96) dX6_goesThrough_89 (by decide) (fun c14 => ?_) (fun c14 => ?_)
            · have hf := hf_pos c14 hf
              refine r_iconst (v := 0) dX6_goesThrough_96 (by decide) ?_
              have e9 := Option.some.inj hf
              subst e9
              exact (Wa.sub [1, 2, 0, 3] rfl kj15)
            · have hf := hf_neg c14 hf
              refine r_iconst (v := 1) dX6_goesThrough_92 (by decide) ?_
              refine r_goto (tgt := 97) dX6_goesThrough_93 (by decide) ?_
              have e9 := Option.some.inj hf
              subst e9
              exact (Wa.sub [1, 2, 0, 3] rfl kj15)
          have hf := hq8
          refine r_if_eq (tgt := 74) dX6_goesThrough_55 (by decide) (fun c7 => ?_) (fun c7 => ?_)
          · have hf := hf_pos c7 hf
            have e9 := Option.some.inj hf
            subst e9
            exact (Wa.sub [1, 2, 3, 0] rfl kj8)
          · have hf := hf_neg c7 hf
            refine r_iload_n dX6_goesThrough_58 3 rfl ?_
            obtain ⟨q10, hq10, hf⟩ := hf_bind hf
            have kj10 : Wa E yX6_goesThrough cX6_goesThrough 6 (some .int) 9 res 68 [(0, .ref (eA E 26)), (1, .int a0), (2, .int v2_19), (3, .int (v3_19 + q6)), (5, .int q3.1)] [] (hX, hR, hL, hT, hK, hS, hP, (M_unitsNow_19, M_way_19, M_sample_19, M_one_19, M_two_19, M_plays_19, M_low_19, M_high_19, M_playsNow_19, M_lowNow_19, M_highNow_19, M_textLong, q10.1, q3.2.1, M_units_19, M_refused, M_left_19, M_played_19, M_playedNow_19, M_canBe, M_text, q10.2, q3.2.2)) := by
              refine r_aload_n dX6_goesThrough_68 0 rfl ?_
              refine r_iload dX6_goesThrough_69 4 rfl ?_
              obtain ⟨q12, hq12, hf⟩ := hf_bind hf
              refine r_callVv (As := [.int q3.1]) (b := (eA E 26)) (st := []) (s_X6_does hq12) (by decide) (by decide) wd_1125 wd_1127 wd_62 wd_74 wd_1128 hy_X6_does (Rc.obj 26 ga_M rfl) rfl (Nat.le_of_ble_eq_true rfl) dX6_goesThrough_71 ?_
              have e9 := Option.some.inj hf
              subst e9
              exact (Wa.sub [0, 1, 2, 3] rfl kj8)
            have hf := hq10
            refine r_if_le (tgt := 68) dX6_goesThrough_59 (by decide) (fun c9 => ?_) (fun c9 => ?_)
            · have hf := hf_pos c9 hf
              have e9 := Option.some.inj hf
              subst e9
              exact (Wa.sub [1, 2, 3, 0, 4] rfl kj10)
            · have hf := hf_neg c9 hf
              refine r_aload_n dX6_goesThrough_62 1 rfl ?_
              refine r_bipush (v := 32) dX6_goesThrough_63 (by decide) ?_
              obtain ⟨q11, hq11, hf⟩ := hf_bind hf
              refine r_callVv (As := [.int 32]) (b := (eA E 26)) (st := []) (s_X6_tells hq11) (by decide) (by decide) wd_1121 wd_1123 wd_61 wd_74 wd_1124 hy_X6_tells (Rc.obj 26 ga_M rfl) rfl (Nat.le_of_ble_eq_true rfl) dX6_goesThrough_65 ?_
              have e9 := Option.some.inj hf
              subst e9
              exact (Wa.sub [1, 2, 3, 0, 4] rfl kj10)
        have hf := hq6
        refine r_icmp_ne (tgt := 51) dX6_goesThrough_44 (by decide) (fun c5 => ?_) (fun c5 => ?_)
        · have hf := hf_neg c5 hf
          refine r_iconst (v := 0) dX6_goesThrough_51 (by decide) ?_
          have e9 := Option.some.inj hf
          subst e9
          exact (Wa.sub [1, 2, 3, 0] rfl kj6)
        · have hf := hf_pos c5 hf
          refine r_iconst (v := 1) dX6_goesThrough_47 (by decide) ?_
          refine r_goto (tgt := 52) dX6_goesThrough_48 (by decide) ?_
          have e9 := Option.some.inj hf
          subst e9
          exact (Wa.sub [1, 2, 3, 0] rfl kj6)
      · have hf := hf_pos c4 hf
        have e9 := Option.some.inj hf
        subst e9
        exact (Wa.sub [] rfl (kx0 rfl))
set_option maxHeartbeats 4000000 in
set_option maxRecDepth 100000 in
theorem s_X6_goesThrough {E : EN} {hX : TX} {hR : TR} {hL : TC} {hT : TC} {hK : TK} {hS : TS} {hP : TP} {M_unitsNow : Int32} {M_way : Int32} {M_sample : Int32} {M_one : Int32} {M_two : Int32} {M_plays : Int32} {M_low : Int32} {M_high : Int32} {M_playsNow : Int32} {M_lowNow : Int32} {M_highNow : Int32} {M_textLong : Int32} {M_answerLong : Int32} {M_place : Int32} {M_units : Nat → Int32} {M_refused : Nat → Int32} {M_left : Nat → Int32} {M_played : Nat → Int32} {M_playedNow : Nat → Int32} {M_canBe : Nat → Int32} {M_text : Nat → Int32} {M_answered : Nat → Int32} {M_numbers : Nat → Int32} {a0 : Int32} {qR : Int32 × Int32 × Int32 × Int32 × Int32 × Int32 × Int32 × Int32 × Int32 × Int32 × Int32 × Int32 × Int32 × Int32 × (Nat → Int32) × (Nat → Int32) × (Nat → Int32) × (Nat → Int32) × (Nat → Int32) × (Nat → Int32)} (hf : f_X6_goesThrough M_unitsNow M_way M_sample M_one M_two M_plays M_low M_high M_playsNow M_lowNow M_highNow M_textLong M_answerLong M_units M_left M_played M_playedNow M_text M_answered M_numbers a0 = some qR) : Sem E yX6_goesThrough cX6_goesThrough 6 (some .int) 9 [.ref (eA E 26), .int a0] (hX, hR, hL, hT, hK, hS, hP, (M_unitsNow, M_way, M_sample, M_one, M_two, M_plays, M_low, M_high, M_playsNow, M_lowNow, M_highNow, M_textLong, M_answerLong, M_place, M_units, M_refused, M_left, M_played, M_playedNow, M_canBe, M_text, M_answered, M_numbers)) (some (.int qR.1), (hX, hR, hL, hT, hK, hS, hP, (qR.2.1, qR.2.2.1, qR.2.2.2.1, qR.2.2.2.2.1, qR.2.2.2.2.2.1, qR.2.2.2.2.2.2.1, qR.2.2.2.2.2.2.2.1, qR.2.2.2.2.2.2.2.2.1, qR.2.2.2.2.2.2.2.2.2.1, qR.2.2.2.2.2.2.2.2.2.2.1, qR.2.2.2.2.2.2.2.2.2.2.2.1, M_textLong, qR.2.2.2.2.2.2.2.2.2.2.2.2.1, qR.2.2.2.2.2.2.2.2.2.2.2.2.2.1, qR.2.2.2.2.2.2.2.2.2.2.2.2.2.2.1, M_refused, qR.2.2.2.2.2.2.2.2.2.2.2.2.2.2.2.1, qR.2.2.2.2.2.2.2.2.2.2.2.2.2.2.2.2.1, qR.2.2.2.2.2.2.2.2.2.2.2.2.2.2.2.2.2.1, M_canBe, M_text, qR.2.2.2.2.2.2.2.2.2.2.2.2.2.2.2.2.2.2.1, qR.2.2.2.2.2.2.2.2.2.2.2.2.2.2.2.2.2.2.2))) := by
  refine Sem.mk (lv := [(0, .ref (eA E 26)), (1, .int a0)]) (by decide) (Nat.le_of_ble_eq_true rfl) rfl ?_
  rw [f_X6_goesThrough] at hf
  refine r_iconst (v := 0) dX6_goesThrough_0 (by decide) ?_
  refine r_istore_n (lv2 := [(2, .int 0), (0, .ref (eA E 26)), (1, .int a0)]) dX6_goesThrough_1 rfl (by decide) rfl ?_
  refine r_aload_n dX6_goesThrough_2 1 rfl ?_
  refine r_get (v := .int M_unitsNow) in_X6 26 ga_M rfl 1 (by decide) wd_764 rfl rfl dX6_goesThrough_3 ?_
  refine r_istore_n (lv2 := [(3, .int M_unitsNow), (2, .int 0), (0, .ref (eA E 26)), (1, .int a0)]) dX6_goesThrough_6 rfl (by decide) rfl ?_
  refine r_aload_n dX6_goesThrough_7 2 rfl ?_
  refine r_iconst (v := 0) dX6_goesThrough_8 (by decide) ?_
  refine r_put in_X6 tyX6_ok nmX6 26 ga_M rfl 21 (by decide) wd_784 rfl rfl pfI (Nat.le_of_ble_eq_true rfl) sa_M_place dX6_goesThrough_9 ?_
  refine r_aload_n dX6_goesThrough_12 2 rfl ?_
  obtain ⟨q1, hq1, hf⟩ := hf_bind hf
  refine r_callVv (As := []) (b := (eA E 26)) (st := []) (s_X6_skip hq1) (by decide) (by decide) wd_1081 wd_1083 wd_54 wd_74 wd_1084 hy_X6_skip (Rc.obj 26 ga_M rfl) rfl (Nat.le_of_ble_eq_true rfl) dX6_goesThrough_13 ?_
  refine r_iconst (v := 1) dX6_goesThrough_16 (by decide) ?_
  refine r_istore (lv2 := [(4, .int 1), (3, .int M_unitsNow), (2, .int 0), (0, .ref (eA E 26)), (1, .int a0)]) dX6_goesThrough_17 (by decide) rfl ?_
  obtain ⟨q16, hq16, hf⟩ := hf_bind hf
  refine (Wa.sub [3, 4, 2, 1, 0] rfl (w_X6_goesThrough_19 _ _ _ _ _ _ _ _ _ _ _ _ _ _ _ _ _ _ _ _ _ _ _ _ hq16 ?_ ?_))
  · intro ht
    have hf := hf_pos ht hf
    refine r_iconst (v := (-1)) dX6_goesThrough_37 (by decide) ?_
    have e9 := Option.some.inj hf
    subst e9
    exact r_iret rfl dX6_goesThrough_38
  · intro ht
    have hf := hf_neg (show ¬ q16.1 = 0 by rw [ht]; decide) hf
    refine r_iload_n dX6_goesThrough_102 0 rfl ?_
    have e9 := Option.some.inj hf
    subst e9
    exact r_iret rfl dX6_goesThrough_103
-- DuelSamplesModel.says
def f_X6_says (M_unitsNow : Int32) (M_way : Int32) (M_sample : Int32) (M_one : Int32) (M_two : Int32) (M_plays : Int32) (M_low : Int32) (M_high : Int32) (M_playsNow : Int32) (M_lowNow : Int32) (M_highNow : Int32) (M_textLong : Int32) (M_answerLong : Int32) (M_units : Nat → Int32) (M_left : Nat → Int32) (M_played : Nat → Int32) (M_playedNow : Nat → Int32) (M_text : Nat → Int32) (M_answered : Nat → Int32) (M_numbers : Nat → Int32)  : Option (Int32 × Int32 × Int32 × Int32 × Int32 × Int32 × Int32 × Int32 × Int32 × Int32 × Int32 × Int32 × Int32 × Int32 × (Nat → Int32) × (Nat → Int32) × (Nat → Int32) × (Nat → Int32) × (Nat → Int32) × (Nat → Int32)) := Option.bind (f_X6_goesThrough M_unitsNow M_way M_sample M_one M_two M_plays M_low M_high M_playsNow M_lowNow M_highNow M_textLong M_answerLong M_units M_left M_played M_playedNow M_text M_answered M_numbers 0) (fun (q1 : Int32 × Int32 × Int32 × Int32 × Int32 × Int32 × Int32 × Int32 × Int32 × Int32 × Int32 × Int32 × Int32 × Int32 × (Nat → Int32) × (Nat → Int32) × (Nat → Int32) × (Nat → Int32) × (Nat → Int32) × (Nat → Int32)) => if q1.1 = (-1) then some (((-10) - q1.2.2.2.2.2.2.2.2.2.2.2.2.2.1), q1.2.1, q1.2.2.1, q1.2.2.2.1, q1.2.2.2.2.1, q1.2.2.2.2.2.1, q1.2.2.2.2.2.2.1, q1.2.2.2.2.2.2.2.1, q1.2.2.2.2.2.2.2.2.1, q1.2.2.2.2.2.2.2.2.2.1, q1.2.2.2.2.2.2.2.2.2.2.1, q1.2.2.2.2.2.2.2.2.2.2.2.1, q1.2.2.2.2.2.2.2.2.2.2.2.2.1, q1.2.2.2.2.2.2.2.2.2.2.2.2.2.1, q1.2.2.2.2.2.2.2.2.2.2.2.2.2.2.1, q1.2.2.2.2.2.2.2.2.2.2.2.2.2.2.2.1, q1.2.2.2.2.2.2.2.2.2.2.2.2.2.2.2.2.1, q1.2.2.2.2.2.2.2.2.2.2.2.2.2.2.2.2.2.1, q1.2.2.2.2.2.2.2.2.2.2.2.2.2.2.2.2.2.2.1, q1.2.2.2.2.2.2.2.2.2.2.2.2.2.2.2.2.2.2.2) else Option.bind (f_X6_goesThrough q1.2.1 q1.2.2.1 q1.2.2.2.1 q1.2.2.2.2.1 q1.2.2.2.2.2.1 q1.2.2.2.2.2.2.1 q1.2.2.2.2.2.2.2.1 q1.2.2.2.2.2.2.2.2.1 q1.2.2.2.2.2.2.2.2.2.1 q1.2.2.2.2.2.2.2.2.2.2.1 q1.2.2.2.2.2.2.2.2.2.2.2.1 M_textLong 0 q1.2.2.2.2.2.2.2.2.2.2.2.2.2.2.1 q1.2.2.2.2.2.2.2.2.2.2.2.2.2.2.2.1 q1.2.2.2.2.2.2.2.2.2.2.2.2.2.2.2.2.1 q1.2.2.2.2.2.2.2.2.2.2.2.2.2.2.2.2.2.1 M_text q1.2.2.2.2.2.2.2.2.2.2.2.2.2.2.2.2.2.2.1 q1.2.2.2.2.2.2.2.2.2.2.2.2.2.2.2.2.2.2.2 1) (fun (q3 : Int32 × Int32 × Int32 × Int32 × Int32 × Int32 × Int32 × Int32 × Int32 × Int32 × Int32 × Int32 × Int32 × Int32 × (Nat → Int32) × (Nat → Int32) × (Nat → Int32) × (Nat → Int32) × (Nat → Int32) × (Nat → Int32)) => some (q3.1, q3.2.1, q3.2.2.1, q3.2.2.2.1, q3.2.2.2.2.1, q3.2.2.2.2.2.1, q3.2.2.2.2.2.2.1, q3.2.2.2.2.2.2.2.1, q3.2.2.2.2.2.2.2.2.1, q3.2.2.2.2.2.2.2.2.2.1, q3.2.2.2.2.2.2.2.2.2.2.1, q3.2.2.2.2.2.2.2.2.2.2.2.1, q3.2.2.2.2.2.2.2.2.2.2.2.2.1, q3.2.2.2.2.2.2.2.2.2.2.2.2.2.1, q3.2.2.2.2.2.2.2.2.2.2.2.2.2.2.1, q3.2.2.2.2.2.2.2.2.2.2.2.2.2.2.2.1, q3.2.2.2.2.2.2.2.2.2.2.2.2.2.2.2.2.1, q3.2.2.2.2.2.2.2.2.2.2.2.2.2.2.2.2.2.1, q3.2.2.2.2.2.2.2.2.2.2.2.2.2.2.2.2.2.2.1, q3.2.2.2.2.2.2.2.2.2.2.2.2.2.2.2.2.2.2.2)))
theorem hy_X6_says : yX6_says.cls ≠ "java/lang/invoke/MethodHandle" ∧ yX6_says.cls ≠ "java/lang/invoke/VarHandle" ∧ (parseMethodDescriptor yX6_says.desc).map (fun d => d.parameters.length) = some 0 := by decide +kernel
set_option maxHeartbeats 4000000 in
set_option maxRecDepth 100000 in
theorem s_X6_says {E : EN} {hX : TX} {hR : TR} {hL : TC} {hT : TC} {hK : TK} {hS : TS} {hP : TP} {M_unitsNow : Int32} {M_way : Int32} {M_sample : Int32} {M_one : Int32} {M_two : Int32} {M_plays : Int32} {M_low : Int32} {M_high : Int32} {M_playsNow : Int32} {M_lowNow : Int32} {M_highNow : Int32} {M_textLong : Int32} {M_answerLong : Int32} {M_place : Int32} {M_units : Nat → Int32} {M_refused : Nat → Int32} {M_left : Nat → Int32} {M_played : Nat → Int32} {M_playedNow : Nat → Int32} {M_canBe : Nat → Int32} {M_text : Nat → Int32} {M_answered : Nat → Int32} {M_numbers : Nat → Int32}  {qR : Int32 × Int32 × Int32 × Int32 × Int32 × Int32 × Int32 × Int32 × Int32 × Int32 × Int32 × Int32 × Int32 × Int32 × (Nat → Int32) × (Nat → Int32) × (Nat → Int32) × (Nat → Int32) × (Nat → Int32) × (Nat → Int32)} (hf : f_X6_says M_unitsNow M_way M_sample M_one M_two M_plays M_low M_high M_playsNow M_lowNow M_highNow M_textLong M_answerLong M_units M_left M_played M_playedNow M_text M_answered M_numbers = some qR) : Sem E yX6_says cX6_says 1 (some .int) 10 [.ref (eA E 26)] (hX, hR, hL, hT, hK, hS, hP, (M_unitsNow, M_way, M_sample, M_one, M_two, M_plays, M_low, M_high, M_playsNow, M_lowNow, M_highNow, M_textLong, M_answerLong, M_place, M_units, M_refused, M_left, M_played, M_playedNow, M_canBe, M_text, M_answered, M_numbers)) (some (.int qR.1), (hX, hR, hL, hT, hK, hS, hP, (qR.2.1, qR.2.2.1, qR.2.2.2.1, qR.2.2.2.2.1, qR.2.2.2.2.2.1, qR.2.2.2.2.2.2.1, qR.2.2.2.2.2.2.2.1, qR.2.2.2.2.2.2.2.2.1, qR.2.2.2.2.2.2.2.2.2.1, qR.2.2.2.2.2.2.2.2.2.2.1, qR.2.2.2.2.2.2.2.2.2.2.2.1, M_textLong, qR.2.2.2.2.2.2.2.2.2.2.2.2.1, qR.2.2.2.2.2.2.2.2.2.2.2.2.2.1, qR.2.2.2.2.2.2.2.2.2.2.2.2.2.2.1, M_refused, qR.2.2.2.2.2.2.2.2.2.2.2.2.2.2.2.1, qR.2.2.2.2.2.2.2.2.2.2.2.2.2.2.2.2.1, qR.2.2.2.2.2.2.2.2.2.2.2.2.2.2.2.2.2.1, M_canBe, M_text, qR.2.2.2.2.2.2.2.2.2.2.2.2.2.2.2.2.2.2.1, qR.2.2.2.2.2.2.2.2.2.2.2.2.2.2.2.2.2.2.2))) := by
  refine Sem.mk (lv := [(0, .ref (eA E 26))]) (by decide) (Nat.le_of_ble_eq_true rfl) rfl ?_
  rw [f_X6_says] at hf
  refine r_aload_n dX6_says_0 0 rfl ?_
  refine r_iconst (v := 0) dX6_says_1 (by decide) ?_
  obtain ⟨q1, hq1, hf⟩ := hf_bind hf
  refine r_callVi (As := [.int 0]) (b := (eA E 26)) (st := []) (s_X6_goesThrough hq1) (by decide) (by decide) wd_1077 wd_1079 wd_53 wd_74 wd_1080 hy_X6_goesThrough (Rc.obj 26 ga_M rfl) rfl (Nat.le_of_ble_eq_true rfl) dX6_says_2 ?_
  refine r_iconst (v := (-1)) dX6_says_5 (by decide) ?_
  refine r_icmp_ne (tgt := 17) dX6_says_6 (by decide) (fun c2 => ?_) (fun c2 => ?_)
  · have hf := hf_neg c2 hf
    refine r_aload_n dX6_says_17 0 rfl ?_
    refine r_iconst (v := 0) dX6_says_18 (by decide) ?_
    refine r_put in_X6 tyX6_ok nmX6 26 ga_M rfl 20 (by decide) wd_783 rfl rfl pfI (Nat.le_of_ble_eq_true rfl) sa_M_answerLong dX6_says_19 ?_
    refine r_aload_n dX6_says_22 0 rfl ?_
    refine r_iconst (v := 1) dX6_says_23 (by decide) ?_
    obtain ⟨q3, hq3, hf⟩ := hf_bind hf
    refine r_callVi (As := [.int 1]) (b := (eA E 26)) (st := []) (s_X6_goesThrough hq3) (by decide) (by decide) wd_1077 wd_1079 wd_53 wd_74 wd_1080 hy_X6_goesThrough (Rc.obj 26 ga_M rfl) rfl (Nat.le_of_ble_eq_true rfl) dX6_says_24 ?_
    have e9 := Option.some.inj hf
    subst e9
    exact r_iret rfl dX6_says_27
  · have hf := hf_pos c2 hf
    refine r_bipush (v := (-10)) dX6_says_9 (by decide) ?_
    refine r_aload_n dX6_says_11 0 rfl ?_
    refine r_get (v := .int q1.2.2.2.2.2.2.2.2.2.2.2.2.2.1) in_X6 26 ga_M rfl 21 (by decide) wd_784 rfl rfl dX6_says_12 ?_
    refine r_isub dX6_says_15 ?_
    have e9 := Option.some.inj hf
    subst e9
    exact r_iret rfl dX6_says_16
-- DuelSamplesModel.answer
def f_X6_answer (M_answerLong : Int32) (M_refused : Nat → Int32) (M_answered : Nat → Int32) (a0 : Int32) : Option (Int32 × (Nat → Int32)) := if (-1) ≤ a0 then if a0 = (-1) then some (M_answerLong, M_refused) else if M_answerLong ≤ a0 then some ((-5), M_refused) else if inB a0 300 then some ((M_answered (Int32.toNatClampNeg a0)), M_refused) else none else Option.bind (f_X6_bad M_refused (-10)) (fun (q5 : Int32 × (Nat → Int32)) => some (q5.1, q5.2))
theorem hy_X6_answer : yX6_answer.cls ≠ "java/lang/invoke/MethodHandle" ∧ yX6_answer.cls ≠ "java/lang/invoke/VarHandle" ∧ (parseMethodDescriptor yX6_answer.desc).map (fun d => d.parameters.length) = some 1 := by decide +kernel
set_option maxHeartbeats 4000000 in
set_option maxRecDepth 100000 in
theorem s_X6_answer {E : EN} {hX : TX} {hR : TR} {hL : TC} {hT : TC} {hK : TK} {hS : TS} {hP : TP} {M_unitsNow : Int32} {M_way : Int32} {M_sample : Int32} {M_one : Int32} {M_two : Int32} {M_plays : Int32} {M_low : Int32} {M_high : Int32} {M_playsNow : Int32} {M_lowNow : Int32} {M_highNow : Int32} {M_textLong : Int32} {M_answerLong : Int32} {M_place : Int32} {M_units : Nat → Int32} {M_refused : Nat → Int32} {M_left : Nat → Int32} {M_played : Nat → Int32} {M_playedNow : Nat → Int32} {M_canBe : Nat → Int32} {M_text : Nat → Int32} {M_answered : Nat → Int32} {M_numbers : Nat → Int32} {a0 : Int32} {qR : Int32 × (Nat → Int32)} (hf : f_X6_answer M_answerLong M_refused M_answered a0 = some qR) : Sem E yX6_answer cX6_answer 2 (some .int) 2 [.ref (eA E 26), .int a0] (hX, hR, hL, hT, hK, hS, hP, (M_unitsNow, M_way, M_sample, M_one, M_two, M_plays, M_low, M_high, M_playsNow, M_lowNow, M_highNow, M_textLong, M_answerLong, M_place, M_units, M_refused, M_left, M_played, M_playedNow, M_canBe, M_text, M_answered, M_numbers)) (some (.int qR.1), (hX, hR, hL, hT, hK, hS, hP, (M_unitsNow, M_way, M_sample, M_one, M_two, M_plays, M_low, M_high, M_playsNow, M_lowNow, M_highNow, M_textLong, M_answerLong, M_place, M_units, qR.2, M_left, M_played, M_playedNow, M_canBe, M_text, M_answered, M_numbers))) := by
  refine Sem.mk (lv := [(0, .ref (eA E 26)), (1, .int a0)]) (by decide) (Nat.le_of_ble_eq_true rfl) rfl ?_
  rw [f_X6_answer] at hf
  refine r_iload_n dX6_answer_0 1 rfl ?_
  refine r_iconst (v := (-1)) dX6_answer_1 (by decide) ?_
  refine r_icmp_ge (tgt := 12) dX6_answer_2 (by decide) (fun c1 => ?_) (fun c1 => ?_)
  · have hf := hf_pos c1 hf
    refine r_iload_n dX6_answer_12 1 rfl ?_
    refine r_iconst (v := (-1)) dX6_answer_13 (by decide) ?_
    refine r_icmp_ne (tgt := 24) dX6_answer_14 (by decide) (fun c2 => ?_) (fun c2 => ?_)
    · have hf := hf_neg c2 hf
      refine r_iload_n dX6_answer_24 1 rfl ?_
      refine r_aload_n dX6_answer_25 0 rfl ?_
      refine r_get (v := .int M_answerLong) in_X6 26 ga_M rfl 20 (by decide) wd_783 rfl rfl dX6_answer_26 ?_
      refine r_icmp_ge (tgt := 41) dX6_answer_29 (by decide) (fun c3 => ?_) (fun c3 => ?_)
      · have hf := hf_pos c3 hf
        refine r_bipush (v := (-5)) dX6_answer_41 (by decide) ?_
        have e9 := Option.some.inj hf
        subst e9
        exact r_iret rfl dX6_answer_43
      · have hf := hf_neg c3 hf
        refine r_aload_n dX6_answer_32 0 rfl ?_
        refine r_get (v := .ref (eA E 34)) in_X6 26 ga_M rfl 19 (by decide) wd_782 rfl rfl dX6_answer_33 ?_
        refine r_iload_n dX6_answer_36 1 rfl ?_
        obtain ⟨i4, hf⟩ := hf_in hf
        refine r_iald (f := M_answered) 34 ga_M_answered i4 dX6_answer_37 ?_
        refine r_goto (tgt := 43) dX6_answer_38 (by decide) ?_
        have e9 := Option.some.inj hf
        subst e9
        exact r_iret rfl dX6_answer_43
    · have hf := hf_pos c2 hf
      refine r_aload_n dX6_answer_17 0 rfl ?_
      refine r_get (v := .int M_answerLong) in_X6 26 ga_M rfl 20 (by decide) wd_783 rfl rfl dX6_answer_18 ?_
      refine r_goto (tgt := 43) dX6_answer_21 (by decide) ?_
      have e9 := Option.some.inj hf
      subst e9
      exact r_iret rfl dX6_answer_43
  · have hf := hf_neg c1 hf
    refine r_aload_n dX6_answer_5 0 rfl ?_
    refine r_bipush (v := (-10)) dX6_answer_6 (by decide) ?_
    obtain ⟨q5, hq5, hf⟩ := hf_bind hf
    refine r_callVi (As := [.int (-10)]) (b := (eA E 26)) (st := []) (s_X6_bad hq5) (by decide) (by decide) wd_844 wd_846 wd_27 wd_74 wd_847 hy_X6_bad (Rc.obj 26 ga_M rfl) rfl (Nat.le_of_ble_eq_true rfl) dX6_answer_8 ?_
    have e9 := Option.some.inj hf
    subst e9
    exact r_iret rfl dX6_answer_11
-- DuelSamplesModel.toldOf
def f_X6_toldOf (M_unitsNow : Int32) (M_way : Int32) (M_textLong : Int32) (M_answerLong : Int32) (M_refused : Nat → Int32) (a0 : Int32) : Option (Int32) := if 3 ≤ a0 then if a0 = 3 then some M_textLong else if a0 = 4 then some M_unitsNow else if a0 = 5 then some M_way else some M_answerLong else if inB a0 3 then some (M_refused (Int32.toNatClampNeg a0)) else none
theorem hy_X6_toldOf : yX6_toldOf.cls ≠ "java/lang/invoke/MethodHandle" ∧ yX6_toldOf.cls ≠ "java/lang/invoke/VarHandle" ∧ (parseMethodDescriptor yX6_toldOf.desc).map (fun d => d.parameters.length) = some 1 := by decide +kernel
set_option maxHeartbeats 4000000 in
set_option maxRecDepth 100000 in
theorem s_X6_toldOf {E : EN} {hX : TX} {hR : TR} {hL : TC} {hT : TC} {hK : TK} {hS : TS} {hP : TP} {M_unitsNow : Int32} {M_way : Int32} {M_sample : Int32} {M_one : Int32} {M_two : Int32} {M_plays : Int32} {M_low : Int32} {M_high : Int32} {M_playsNow : Int32} {M_lowNow : Int32} {M_highNow : Int32} {M_textLong : Int32} {M_answerLong : Int32} {M_place : Int32} {M_units : Nat → Int32} {M_refused : Nat → Int32} {M_left : Nat → Int32} {M_played : Nat → Int32} {M_playedNow : Nat → Int32} {M_canBe : Nat → Int32} {M_text : Nat → Int32} {M_answered : Nat → Int32} {M_numbers : Nat → Int32} {a0 : Int32} {qR : Int32} (hf : f_X6_toldOf M_unitsNow M_way M_textLong M_answerLong M_refused a0 = some qR) : Sem E yX6_toldOf cX6_toldOf 2 (some .int) 1 [.ref (eA E 26), .int a0] (hX, hR, hL, hT, hK, hS, hP, (M_unitsNow, M_way, M_sample, M_one, M_two, M_plays, M_low, M_high, M_playsNow, M_lowNow, M_highNow, M_textLong, M_answerLong, M_place, M_units, M_refused, M_left, M_played, M_playedNow, M_canBe, M_text, M_answered, M_numbers)) (some (.int qR), (hX, hR, hL, hT, hK, hS, hP, (M_unitsNow, M_way, M_sample, M_one, M_two, M_plays, M_low, M_high, M_playsNow, M_lowNow, M_highNow, M_textLong, M_answerLong, M_place, M_units, M_refused, M_left, M_played, M_playedNow, M_canBe, M_text, M_answered, M_numbers))) := by
  refine Sem.mk (lv := [(0, .ref (eA E 26)), (1, .int a0)]) (by decide) (Nat.le_of_ble_eq_true rfl) rfl ?_
  rw [f_X6_toldOf] at hf
  refine r_iload_n dX6_toldOf_0 1 rfl ?_
  refine r_iconst (v := 3) dX6_toldOf_1 (by decide) ?_
  refine r_icmp_ge (tgt := 14) dX6_toldOf_2 (by decide) (fun c1 => ?_) (fun c1 => ?_)
  · have hf := hf_pos c1 hf
    refine r_iload_n dX6_toldOf_14 1 rfl ?_
    refine r_iconst (v := 3) dX6_toldOf_15 (by decide) ?_
    refine r_icmp_ne (tgt := 26) dX6_toldOf_16 (by decide) (fun c2 => ?_) (fun c2 => ?_)
    · have hf := hf_neg c2 hf
      refine r_iload_n dX6_toldOf_26 1 rfl ?_
      refine r_iconst (v := 4) dX6_toldOf_27 (by decide) ?_
      refine r_icmp_ne (tgt := 38) dX6_toldOf_28 (by decide) (fun c3 => ?_) (fun c3 => ?_)
      · have hf := hf_neg c3 hf
        refine r_iload_n dX6_toldOf_38 1 rfl ?_
        refine r_iconst (v := 5) dX6_toldOf_39 (by decide) ?_
        refine r_icmp_ne (tgt := 50) dX6_toldOf_40 (by decide) (fun c4 => ?_) (fun c4 => ?_)
        · have hf := hf_neg c4 hf
          refine r_aload_n dX6_toldOf_50 0 rfl ?_
          refine r_get (v := .int M_answerLong) in_X6 26 ga_M rfl 20 (by decide) wd_783 rfl rfl dX6_toldOf_51 ?_
          have e9 := Option.some.inj hf
          subst e9
          exact r_iret rfl dX6_toldOf_54
        · have hf := hf_pos c4 hf
          refine r_aload_n dX6_toldOf_43 0 rfl ?_
          refine r_get (v := .int M_way) in_X6 26 ga_M rfl 2 (by decide) wd_765 rfl rfl dX6_toldOf_44 ?_
          refine r_goto (tgt := 54) dX6_toldOf_47 (by decide) ?_
          have e9 := Option.some.inj hf
          subst e9
          exact r_iret rfl dX6_toldOf_54
      · have hf := hf_pos c3 hf
        refine r_aload_n dX6_toldOf_31 0 rfl ?_
        refine r_get (v := .int M_unitsNow) in_X6 26 ga_M rfl 1 (by decide) wd_764 rfl rfl dX6_toldOf_32 ?_
        refine r_goto (tgt := 54) dX6_toldOf_35 (by decide) ?_
        have e9 := Option.some.inj hf
        subst e9
        exact r_iret rfl dX6_toldOf_54
    · have hf := hf_pos c2 hf
      refine r_aload_n dX6_toldOf_19 0 rfl ?_
      refine r_get (v := .int M_textLong) in_X6 26 ga_M rfl 18 (by decide) wd_781 rfl rfl dX6_toldOf_20 ?_
      refine r_goto (tgt := 54) dX6_toldOf_23 (by decide) ?_
      have e9 := Option.some.inj hf
      subst e9
      exact r_iret rfl dX6_toldOf_54
  · have hf := hf_neg c1 hf
    refine r_aload_n dX6_toldOf_5 0 rfl ?_
    refine r_get (v := .ref (eA E 28)) in_X6 26 ga_M rfl 4 (by decide) wd_767 rfl rfl dX6_toldOf_6 ?_
    refine r_iload_n dX6_toldOf_9 1 rfl ?_
    obtain ⟨i5, hf⟩ := hf_in hf
    refine r_iald (f := M_refused) 28 ga_M_refused i5 dX6_toldOf_10 ?_
    refine r_goto (tgt := 54) dX6_toldOf_11 (by decide) ?_
    have e9 := Option.some.inj hf
    subst e9
    exact r_iret rfl dX6_toldOf_54
-- DuelSamplesModel.told
def f_X6_told (M_unitsNow : Int32) (M_way : Int32) (M_textLong : Int32) (M_answerLong : Int32) (M_refused : Nat → Int32) (a0 : Int32) : Option (Int32 × (Nat → Int32)) := Option.bind (f_X6_in (Int32.toInt64 a0) 0 6) (fun (q1 : Int32) => if q1 = 0 then Option.bind (f_X6_bad M_refused (-2)) (fun (q3 : Int32 × (Nat → Int32)) => some (q3.1, q3.2)) else Option.bind (f_X6_toldOf M_unitsNow M_way M_textLong M_answerLong M_refused a0) (fun (q4 : Int32) => some (q4, M_refused)))
theorem hy_X6_told : yX6_told.cls ≠ "java/lang/invoke/MethodHandle" ∧ yX6_told.cls ≠ "java/lang/invoke/VarHandle" ∧ (parseMethodDescriptor yX6_told.desc).map (fun d => d.parameters.length) = some 1 := by decide +kernel
set_option maxHeartbeats 4000000 in
set_option maxRecDepth 100000 in
theorem s_X6_told {E : EN} {hX : TX} {hR : TR} {hL : TC} {hT : TC} {hK : TK} {hS : TS} {hP : TP} {M_unitsNow : Int32} {M_way : Int32} {M_sample : Int32} {M_one : Int32} {M_two : Int32} {M_plays : Int32} {M_low : Int32} {M_high : Int32} {M_playsNow : Int32} {M_lowNow : Int32} {M_highNow : Int32} {M_textLong : Int32} {M_answerLong : Int32} {M_place : Int32} {M_units : Nat → Int32} {M_refused : Nat → Int32} {M_left : Nat → Int32} {M_played : Nat → Int32} {M_playedNow : Nat → Int32} {M_canBe : Nat → Int32} {M_text : Nat → Int32} {M_answered : Nat → Int32} {M_numbers : Nat → Int32} {a0 : Int32} {qR : Int32 × (Nat → Int32)} (hf : f_X6_told M_unitsNow M_way M_textLong M_answerLong M_refused a0 = some qR) : Sem E yX6_told cX6_told 2 (some .int) 2 [.ref (eA E 26), .int a0] (hX, hR, hL, hT, hK, hS, hP, (M_unitsNow, M_way, M_sample, M_one, M_two, M_plays, M_low, M_high, M_playsNow, M_lowNow, M_highNow, M_textLong, M_answerLong, M_place, M_units, M_refused, M_left, M_played, M_playedNow, M_canBe, M_text, M_answered, M_numbers)) (some (.int qR.1), (hX, hR, hL, hT, hK, hS, hP, (M_unitsNow, M_way, M_sample, M_one, M_two, M_plays, M_low, M_high, M_playsNow, M_lowNow, M_highNow, M_textLong, M_answerLong, M_place, M_units, qR.2, M_left, M_played, M_playedNow, M_canBe, M_text, M_answered, M_numbers))) := by
  refine Sem.mk (lv := [(0, .ref (eA E 26)), (1, .int a0)]) (by decide) (Nat.le_of_ble_eq_true rfl) rfl ?_
  rw [f_X6_told] at hf
  refine r_iload_n dX6_told_0 1 rfl ?_
  refine r_i2l dX6_told_1 ?_
  refine r_lconst (v := 0) dX6_told_2 (by decide) ?_
  refine r_ldc2 (v := 6) wd_1149 dX6_told_3 ?_
  obtain ⟨q1, hq1, hf⟩ := hf_bind hf
  refine r_callSi (As := [.long (Int32.toInt64 a0), .long 0, .long 6]) (st := []) (s_X6_in hq1) (by decide) (by decide) wd_841 wd_842 wd_74 wd_843 hy_X6_in rfl (Nat.le_of_ble_eq_true rfl) dX6_told_6 ?_
  refine r_if_eq (tgt := 20) dX6_told_9 (by decide) (fun c2 => ?_) (fun c2 => ?_)
  · have hf := hf_pos c2 hf
    refine r_aload_n dX6_told_20 0 rfl ?_
    refine r_bipush (v := (-2)) dX6_told_21 (by decide) ?_
    obtain ⟨q3, hq3, hf⟩ := hf_bind hf
    refine r_callVi (As := [.int (-2)]) (b := (eA E 26)) (st := []) (s_X6_bad hq3) (by decide) (by decide) wd_844 wd_846 wd_27 wd_74 wd_847 hy_X6_bad (Rc.obj 26 ga_M rfl) rfl (Nat.le_of_ble_eq_true rfl) dX6_told_23 ?_
    have e9 := Option.some.inj hf
    subst e9
    exact r_iret rfl dX6_told_26
  · have hf := hf_neg c2 hf
    refine r_aload_n dX6_told_12 0 rfl ?_
    refine r_iload_n dX6_told_13 1 rfl ?_
    obtain ⟨q4, hq4, hf⟩ := hf_bind hf
    refine r_callVi (As := [.int a0]) (b := (eA E 26)) (st := []) (s_X6_toldOf hq4) (by decide) (by decide) wd_1150 wd_1152 wd_66 wd_74 wd_1153 hy_X6_toldOf (Rc.obj 26 ga_M rfl) rfl (Nat.le_of_ble_eq_true rfl) dX6_told_14 ?_
    refine r_goto (tgt := 26) dX6_told_17 (by decide) ?_
    have e9 := Option.some.inj hf
    subst e9
    exact r_iret rfl dX6_told_26
-- DuelSamplesModel.digest
def lp_X6_digest_6 (M_unitsNow : Int32) (M_way : Int32) (M_textLong : Int32) (M_answerLong : Int32) (M_refused : Nat → Int32) : Nat → Int64 → Int32 → Option (Int64)
  | 0, _, _ => none
  | n9 + 1, v1_6, v3_6 => if 7 ≤ v3_6 then some v1_6 else Option.bind (f_X6_toldOf M_unitsNow M_way M_textLong M_answerLong M_refused v3_6) (fun (q2 : Int32) => lp_X6_digest_6 M_unitsNow M_way M_textLong M_answerLong M_refused n9 ((31 * v1_6) + (Int32.toInt64 q2)) (v3_6 + 1))
def lp_X6_digest_44 (M_units : Nat → Int32) (v3_33 : Int32) : Nat → Int64 → Int32 → Option (Int64)
  | 0, _, _ => none
  | n9 + 1, v1_44, v4_44 => if 5 ≤ v4_44 then some v1_44 else Option.bind (f_X6_at M_units v3_33 v4_44) (fun (q6 : Int32) => lp_X6_digest_44 M_units v3_33 n9 ((31 * v1_44) + (Int32.toInt64 q6)) (v4_44 + 1))
def lp_X6_digest_33 (M_unitsNow : Int32) (M_units : Nat → Int32) (M_sample : Int32) : Nat → Int64 → Int32 → Option (Int64)
  | 0, _, _ => none
  | n9 + 1, v1_33, v3_33 => if M_unitsNow ≤ v3_33 then some v1_33 else Option.bind (lp_X6_digest_44 M_units v3_33 FU v1_33 0) (fun (q7 : Int64) => Option.bind (f_X6_has M_sample v3_33) (fun (q8 : Int32) => Option.bind (if q8 = 0 then some 0 else some 1) (fun (q10 : Int32) => lp_X6_digest_33 M_unitsNow M_units M_sample n9 ((31 * q7) + (Int32.toInt64 q10)) (v3_33 + 1))))
def lp_X6_digest_103 (M_sample : Int32) (M_plays : Int32) (M_low : Int32) (M_high : Int32) : Nat → Int64 → Int32 → Option (Int64)
  | 0, _, _ => none
  | n9 + 1, v1_103, v3_103 => if 4 ≤ v3_103 then some v1_103 else Option.bind (f_X6_wasOf M_sample M_plays M_low M_high v3_103) (fun (q13 : Int32) => lp_X6_digest_103 M_sample M_plays M_low M_high n9 ((31 * v1_103) + (Int32.toInt64 q13)) (v3_103 + 1))
def lp_X6_digest_129 (M_answerLong : Int32) (M_answered : Nat → Int32) : Nat → Int64 → Int32 → Option (Int64)
  | 0, _, _ => none
  | n9 + 1, v1_129, v3_129 => if M_answerLong ≤ v3_129 then some v1_129 else if inB v3_129 300 then lp_X6_digest_129 M_answerLong M_answered n9 ((31 * v1_129) + (Int32.toInt64 (M_answered (Int32.toNatClampNeg v3_129)))) (v3_129 + 1) else none
def f_X6_digest (M_unitsNow : Int32) (M_way : Int32) (M_sample : Int32) (M_plays : Int32) (M_low : Int32) (M_high : Int32) (M_textLong : Int32) (M_answerLong : Int32) (M_units : Nat → Int32) (M_refused : Nat → Int32) (M_answered : Nat → Int32)  : Option (Int64) := Option.bind (lp_X6_digest_6 M_unitsNow M_way M_textLong M_answerLong M_refused FU 2029 0) (fun (q3 : Int64) => Option.bind (lp_X6_digest_33 M_unitsNow M_units M_sample FU q3 0) (fun (q11 : Int64) => Option.bind (lp_X6_digest_103 M_sample M_plays M_low M_high FU q11 0) (fun (q14 : Int64) => Option.bind (lp_X6_digest_129 M_answerLong M_answered FU q14 0) (fun (q17 : Int64) => some q17))))
theorem hy_X6_digest : yX6_digest.cls ≠ "java/lang/invoke/MethodHandle" ∧ yX6_digest.cls ≠ "java/lang/invoke/VarHandle" ∧ (parseMethodDescriptor yX6_digest.desc).map (fun d => d.parameters.length) = some 0 := by decide +kernel
set_option maxHeartbeats 4000000 in
set_option maxRecDepth 100000 in
theorem w_X6_digest_6 {E : EN} {res : Option Value × Hp} {hX : TX} {hR : TR} {hL : TC} {hT : TC} {hK : TK} {hS : TS} {hP : TP} {M_unitsNow : Int32} {M_way : Int32} {M_sample : Int32} {M_one : Int32} {M_two : Int32} {M_plays : Int32} {M_low : Int32} {M_high : Int32} {M_playsNow : Int32} {M_lowNow : Int32} {M_highNow : Int32} {M_textLong : Int32} {M_answerLong : Int32} {M_place : Int32} {M_units : Nat → Int32} {M_refused : Nat → Int32} {M_left : Nat → Int32} {M_played : Nat → Int32} {M_playedNow : Nat → Int32} {M_canBe : Nat → Int32} {M_text : Nat → Int32} {M_answered : Nat → Int32} {M_numbers : Nat → Int32} : ∀ (n9 : Nat) (v1_6 : Int64) (v3_6 : Int32) (qL : Int64), lp_X6_digest_6 M_unitsNow M_way M_textLong M_answerLong M_refused n9 v1_6 v3_6 = some qL → (Wa E yX6_digest cX6_digest 5 (some .long) 2 res 31 [(0, .ref (eA E 26)), (1, .long qL)] [] (hX, hR, hL, hT, hK, hS, hP, (M_unitsNow, M_way, M_sample, M_one, M_two, M_plays, M_low, M_high, M_playsNow, M_lowNow, M_highNow, M_textLong, M_answerLong, M_place, M_units, M_refused, M_left, M_played, M_playedNow, M_canBe, M_text, M_answered, M_numbers))) → Wa E yX6_digest cX6_digest 5 (some .long) 2 res 6 [(0, .ref (eA E 26)), (1, .long v1_6), (3, .int v3_6)] [] (hX, hR, hL, hT, hK, hS, hP, (M_unitsNow, M_way, M_sample, M_one, M_two, M_plays, M_low, M_high, M_playsNow, M_lowNow, M_highNow, M_textLong, M_answerLong, M_place, M_units, M_refused, M_left, M_played, M_playedNow, M_canBe, M_text, M_answered, M_numbers)) := by
  intro n9
  induction n9 with
  | zero =>
    intro v1_6 v3_6 qL hf
    exact nomatch (show (none : Option (Int64)) = some qL from hf)
  | succ n9 ih =>
    intro v1_6 v3_6 qL hf kx0
    rw [lp_X6_digest_6] at hf
    refine r_iload_n dX6_digest_6 2 rfl ?_
    refine r_bipush (v := 7) dX6_digest_7 (by decide) ?_
    refine r_icmp_ge (tgt := 31) dX6_digest_9 (by decide) (fun c1 => ?_) (fun c1 => ?_)
    · have hf := hf_pos c1 hf
      have e9 := Option.some.inj hf
      subst e9
      exact (Wa.sub [0, 1] rfl kx0)
    · have hf := hf_neg c1 hf
      refine r_ldc2 (v := 31) wd_1159 dX6_digest_12 ?_
      refine r_lload_n dX6_digest_15 1 rfl ?_
      refine r_lmul dX6_digest_16 ?_
      refine r_aload_n dX6_digest_17 0 rfl ?_
      refine r_iload_n dX6_digest_18 2 rfl ?_
      obtain ⟨q2, hq2, hf⟩ := hf_bind hf
      refine r_callVi (As := [.int v3_6]) (b := (eA E 26)) (st := [.long (31 * v1_6)]) (s_X6_toldOf hq2) (by decide) (by decide) wd_1150 wd_1152 wd_66 wd_74 wd_1153 hy_X6_toldOf (Rc.obj 26 ga_M rfl) rfl (Nat.le_of_ble_eq_true rfl) dX6_digest_19 ?_
      refine r_i2l dX6_digest_22 ?_
      refine r_ladd dX6_digest_23 ?_
      refine r_lstore_n (lv2 := [(1, .long ((31 * v1_6) + (Int32.toInt64 q2))), (0, .ref (eA E 26)), (3, .int v3_6)]) dX6_digest_24 rfl (by decide) rfl ?_
      refine r_iinc (v := (v3_6 + 1)) (lv2 := [(3, .int (v3_6 + 1)), (1, .long ((31 * v1_6) + (Int32.toInt64 q2))), (0, .ref (eA E 26))]) dX6_digest_25 2 rfl rfl (by decide) rfl ?_
      refine r_goto (tgt := 6) dX6_digest_28 (by decide) ?_
      exact (Wa.sub [2, 1, 0] rfl (ih _ _ _ hf kx0))
set_option maxHeartbeats 4000000 in
set_option maxRecDepth 100000 in
theorem w_X6_digest_44 {E : EN} {res : Option Value × Hp} {hX : TX} {hR : TR} {hL : TC} {hT : TC} {hK : TK} {hS : TS} {hP : TP} {v3_33 : Int32} {M_unitsNow : Int32} {M_way : Int32} {M_sample : Int32} {M_one : Int32} {M_two : Int32} {M_plays : Int32} {M_low : Int32} {M_high : Int32} {M_playsNow : Int32} {M_lowNow : Int32} {M_highNow : Int32} {M_textLong : Int32} {M_answerLong : Int32} {M_place : Int32} {M_units : Nat → Int32} {M_refused : Nat → Int32} {M_left : Nat → Int32} {M_played : Nat → Int32} {M_playedNow : Nat → Int32} {M_canBe : Nat → Int32} {M_text : Nat → Int32} {M_answered : Nat → Int32} {M_numbers : Nat → Int32} : ∀ (n9 : Nat) (v1_44 : Int64) (v4_44 : Int32) (qL : Int64), lp_X6_digest_44 M_units v3_33 n9 v1_44 v4_44 = some qL → (Wa E yX6_digest cX6_digest 5 (some .long) 2 res 71 [(0, .ref (eA E 26)), (1, .long qL), (3, .int v3_33)] [] (hX, hR, hL, hT, hK, hS, hP, (M_unitsNow, M_way, M_sample, M_one, M_two, M_plays, M_low, M_high, M_playsNow, M_lowNow, M_highNow, M_textLong, M_answerLong, M_place, M_units, M_refused, M_left, M_played, M_playedNow, M_canBe, M_text, M_answered, M_numbers))) → Wa E yX6_digest cX6_digest 5 (some .long) 2 res 44 [(0, .ref (eA E 26)), (1, .long v1_44), (3, .int v3_33), (4, .int v4_44)] [] (hX, hR, hL, hT, hK, hS, hP, (M_unitsNow, M_way, M_sample, M_one, M_two, M_plays, M_low, M_high, M_playsNow, M_lowNow, M_highNow, M_textLong, M_answerLong, M_place, M_units, M_refused, M_left, M_played, M_playedNow, M_canBe, M_text, M_answered, M_numbers)) := by
  intro n9
  induction n9 with
  | zero =>
    intro v1_44 v4_44 qL hf
    exact nomatch (show (none : Option (Int64)) = some qL from hf)
  | succ n9 ih =>
    intro v1_44 v4_44 qL hf kx0
    rw [lp_X6_digest_44] at hf
    refine r_iload dX6_digest_44 3 rfl ?_
    refine r_iconst (v := 5) dX6_digest_46 (by decide) ?_
    refine r_icmp_ge (tgt := 71) dX6_digest_47 (by decide) (fun c5 => ?_) (fun c5 => ?_)
    · have hf := hf_pos c5 hf
      have e9 := Option.some.inj hf
      subst e9
      exact (Wa.sub [0, 1, 2] rfl kx0)
    · have hf := hf_neg c5 hf
      refine r_ldc2 (v := 31) wd_1159 dX6_digest_50 ?_
      refine r_lload_n dX6_digest_53 1 rfl ?_
      refine r_lmul dX6_digest_54 ?_
      refine r_aload_n dX6_digest_55 0 rfl ?_
      refine r_iload_n dX6_digest_56 2 rfl ?_
      refine r_iload dX6_digest_57 3 rfl ?_
      obtain ⟨q6, hq6, hf⟩ := hf_bind hf
      refine r_callVi (As := [.int v3_33, .int v4_44]) (b := (eA E 26)) (st := [.long (31 * v1_44)]) (s_X6_at hq6) (by decide) (by decide) wd_869 wd_871 wd_32 wd_74 wd_872 hy_X6_at (Rc.obj 26 ga_M rfl) rfl (Nat.le_of_ble_eq_true rfl) dX6_digest_59 ?_
      refine r_i2l dX6_digest_62 ?_
      refine r_ladd dX6_digest_63 ?_
      refine r_lstore_n (lv2 := [(1, .long ((31 * v1_44) + (Int32.toInt64 q6))), (0, .ref (eA E 26)), (3, .int v3_33), (4, .int v4_44)]) dX6_digest_64 rfl (by decide) rfl ?_
      refine r_iinc (v := (v4_44 + 1)) (lv2 := [(4, .int (v4_44 + 1)), (1, .long ((31 * v1_44) + (Int32.toInt64 q6))), (0, .ref (eA E 26)), (3, .int v3_33)]) dX6_digest_65 3 rfl rfl (by decide) rfl ?_
      refine r_goto (tgt := 44) dX6_digest_68 (by decide) ?_
      exact (Wa.sub [2, 1, 3, 0] rfl (ih _ _ _ hf kx0))
set_option maxHeartbeats 4000000 in
set_option maxRecDepth 100000 in
theorem w_X6_digest_33 {E : EN} {res : Option Value × Hp} {hX : TX} {hR : TR} {hL : TC} {hT : TC} {hK : TK} {hS : TS} {hP : TP} {M_unitsNow : Int32} {M_way : Int32} {M_sample : Int32} {M_one : Int32} {M_two : Int32} {M_plays : Int32} {M_low : Int32} {M_high : Int32} {M_playsNow : Int32} {M_lowNow : Int32} {M_highNow : Int32} {M_textLong : Int32} {M_answerLong : Int32} {M_place : Int32} {M_units : Nat → Int32} {M_refused : Nat → Int32} {M_left : Nat → Int32} {M_played : Nat → Int32} {M_playedNow : Nat → Int32} {M_canBe : Nat → Int32} {M_text : Nat → Int32} {M_answered : Nat → Int32} {M_numbers : Nat → Int32} : ∀ (n9 : Nat) (v1_33 : Int64) (v3_33 : Int32) (qL : Int64), lp_X6_digest_33 M_unitsNow M_units M_sample n9 v1_33 v3_33 = some qL → (Wa E yX6_digest cX6_digest 5 (some .long) 2 res 101 [(0, .ref (eA E 26)), (1, .long qL)] [] (hX, hR, hL, hT, hK, hS, hP, (M_unitsNow, M_way, M_sample, M_one, M_two, M_plays, M_low, M_high, M_playsNow, M_lowNow, M_highNow, M_textLong, M_answerLong, M_place, M_units, M_refused, M_left, M_played, M_playedNow, M_canBe, M_text, M_answered, M_numbers))) → Wa E yX6_digest cX6_digest 5 (some .long) 2 res 33 [(0, .ref (eA E 26)), (1, .long v1_33), (3, .int v3_33)] [] (hX, hR, hL, hT, hK, hS, hP, (M_unitsNow, M_way, M_sample, M_one, M_two, M_plays, M_low, M_high, M_playsNow, M_lowNow, M_highNow, M_textLong, M_answerLong, M_place, M_units, M_refused, M_left, M_played, M_playedNow, M_canBe, M_text, M_answered, M_numbers)) := by
  intro n9
  induction n9 with
  | zero =>
    intro v1_33 v3_33 qL hf
    exact nomatch (show (none : Option (Int64)) = some qL from hf)
  | succ n9 ih =>
    intro v1_33 v3_33 qL hf kx0
    rw [lp_X6_digest_33] at hf
    refine r_iload_n dX6_digest_33 2 rfl ?_
    refine r_aload_n dX6_digest_34 0 rfl ?_
    refine r_get (v := .int M_unitsNow) in_X6 26 ga_M rfl 1 (by decide) wd_764 rfl rfl dX6_digest_35 ?_
    refine r_icmp_ge (tgt := 101) dX6_digest_38 (by decide) (fun c4 => ?_) (fun c4 => ?_)
    · have hf := hf_pos c4 hf
      have e9 := Option.some.inj hf
      subst e9
      exact (Wa.sub [0, 1] rfl kx0)
    · have hf := hf_neg c4 hf
      refine r_iconst (v := 0) dX6_digest_41 (by decide) ?_
      refine r_istore (lv2 := [(4, .int 0), (0, .ref (eA E 26)), (1, .long v1_33), (3, .int v3_33)]) dX6_digest_42 (by decide) rfl ?_
      obtain ⟨q7, hq7, hf⟩ := hf_bind hf
      refine (Wa.sub [1, 2, 3, 0] rfl (w_X6_digest_44 _ _ _ _ hq7 ?_))
      refine r_ldc2 (v := 31) wd_1159 dX6_digest_71 ?_
      refine r_lload_n dX6_digest_74 1 rfl ?_
      refine r_lmul dX6_digest_75 ?_
      refine r_aload_n dX6_digest_76 0 rfl ?_
      refine r_get (v := .int M_sample) in_X6 26 ga_M rfl 3 (by decide) wd_766 rfl rfl dX6_digest_77 ?_
      refine r_iload_n dX6_digest_80 2 rfl ?_
      obtain ⟨q8, hq8, hf⟩ := hf_bind hf
      refine r_callSi (As := [.int M_sample, .int v3_33]) (st := [.long (31 * q7)]) (s_X6_has hq8) (by decide) (by decide) wd_905 wd_906 wd_74 wd_907 hy_X6_has rfl (Nat.le_of_ble_eq_true rfl) dX6_digest_81 ?_
      obtain ⟨q10, hq10, hf⟩ := hf_bind hf
      have kj10 : Wa E yX6_digest cX6_digest 5 (some .long) 2 res 92 [(0, .ref (eA E 26)), (3, .int v3_33)] [.int q10, .long (31 * q7)] (hX, hR, hL, hT, hK, hS, hP, (M_unitsNow, M_way, M_sample, M_one, M_two, M_plays, M_low, M_high, M_playsNow, M_lowNow, M_highNow, M_textLong, M_answerLong, M_place, M_units, M_refused, M_left, M_played, M_playedNow, M_canBe, M_text, M_answered, M_numbers)) := by
        refine r_i2l dX6_digest_92 ?_
        refine r_ladd dX6_digest_93 ?_
        refine r_lstore_n (lv2 := [(1, .long ((31 * q7) + (Int32.toInt64 q10))), (0, .ref (eA E 26)), (3, .int v3_33)]) dX6_digest_94 rfl (by decide) rfl ?_
        refine r_iinc (v := (v3_33 + 1)) (lv2 := [(3, .int (v3_33 + 1)), (1, .long ((31 * q7) + (Int32.toInt64 q10))), (0, .ref (eA E 26))]) dX6_digest_95 2 rfl rfl (by decide) rfl ?_
        refine r_goto (tgt := 33) dX6_digest_98 (by decide) ?_
        exact (Wa.sub [2, 1, 0] rfl (ih _ _ _ hf kx0))
      have hf := hq10
      refine r_if_eq (tgt := 91) dX6_digest_84 (by decide) (fun c9 => ?_) (fun c9 => ?_)
      · have hf := hf_pos c9 hf
        refine r_iconst (v := 0) dX6_digest_91 (by decide) ?_
        have e9 := Option.some.inj hf
        subst e9
        exact (Wa.sub [0, 2] rfl kj10)
      · have hf := hf_neg c9 hf
        refine r_iconst (v := 1) dX6_digest_87 (by decide) ?_
        refine r_goto (tgt := 92) dX6_digest_88 (by decide) ?_
        have e9 := Option.some.inj hf
        subst e9
        exact (Wa.sub [0, 2] rfl kj10)
set_option maxHeartbeats 4000000 in
set_option maxRecDepth 100000 in
theorem w_X6_digest_103 {E : EN} {res : Option Value × Hp} {hX : TX} {hR : TR} {hL : TC} {hT : TC} {hK : TK} {hS : TS} {hP : TP} {M_unitsNow : Int32} {M_way : Int32} {M_sample : Int32} {M_one : Int32} {M_two : Int32} {M_plays : Int32} {M_low : Int32} {M_high : Int32} {M_playsNow : Int32} {M_lowNow : Int32} {M_highNow : Int32} {M_textLong : Int32} {M_answerLong : Int32} {M_place : Int32} {M_units : Nat → Int32} {M_refused : Nat → Int32} {M_left : Nat → Int32} {M_played : Nat → Int32} {M_playedNow : Nat → Int32} {M_canBe : Nat → Int32} {M_text : Nat → Int32} {M_answered : Nat → Int32} {M_numbers : Nat → Int32} : ∀ (n9 : Nat) (v1_103 : Int64) (v3_103 : Int32) (qL : Int64), lp_X6_digest_103 M_sample M_plays M_low M_high n9 v1_103 v3_103 = some qL → (Wa E yX6_digest cX6_digest 5 (some .long) 2 res 127 [(0, .ref (eA E 26)), (1, .long qL)] [] (hX, hR, hL, hT, hK, hS, hP, (M_unitsNow, M_way, M_sample, M_one, M_two, M_plays, M_low, M_high, M_playsNow, M_lowNow, M_highNow, M_textLong, M_answerLong, M_place, M_units, M_refused, M_left, M_played, M_playedNow, M_canBe, M_text, M_answered, M_numbers))) → Wa E yX6_digest cX6_digest 5 (some .long) 2 res 103 [(0, .ref (eA E 26)), (1, .long v1_103), (3, .int v3_103)] [] (hX, hR, hL, hT, hK, hS, hP, (M_unitsNow, M_way, M_sample, M_one, M_two, M_plays, M_low, M_high, M_playsNow, M_lowNow, M_highNow, M_textLong, M_answerLong, M_place, M_units, M_refused, M_left, M_played, M_playedNow, M_canBe, M_text, M_answered, M_numbers)) := by
  intro n9
  induction n9 with
  | zero =>
    intro v1_103 v3_103 qL hf
    exact nomatch (show (none : Option (Int64)) = some qL from hf)
  | succ n9 ih =>
    intro v1_103 v3_103 qL hf kx0
    rw [lp_X6_digest_103] at hf
    refine r_iload_n dX6_digest_103 2 rfl ?_
    refine r_iconst (v := 4) dX6_digest_104 (by decide) ?_
    refine r_icmp_ge (tgt := 127) dX6_digest_105 (by decide) (fun c12 => ?_) (fun c12 => ?_)
    · have hf := hf_pos c12 hf
      have e9 := Option.some.inj hf
      subst e9
      exact (Wa.sub [0, 1] rfl kx0)
    · have hf := hf_neg c12 hf
      refine r_ldc2 (v := 31) wd_1159 dX6_digest_108 ?_
      refine r_lload_n dX6_digest_111 1 rfl ?_
      refine r_lmul dX6_digest_112 ?_
      refine r_aload_n dX6_digest_113 0 rfl ?_
      refine r_iload_n dX6_digest_114 2 rfl ?_
      obtain ⟨q13, hq13, hf⟩ := hf_bind hf
      refine r_callVi (As := [.int v3_103]) (b := (eA E 26)) (st := [.long (31 * v1_103)]) (s_X6_wasOf hq13) (by decide) (by decide) wd_991 wd_993 wd_48 wd_74 wd_994 hy_X6_wasOf (Rc.obj 26 ga_M rfl) rfl (Nat.le_of_ble_eq_true rfl) dX6_digest_115 ?_
      refine r_i2l dX6_digest_118 ?_
      refine r_ladd dX6_digest_119 ?_
      refine r_lstore_n (lv2 := [(1, .long ((31 * v1_103) + (Int32.toInt64 q13))), (0, .ref (eA E 26)), (3, .int v3_103)]) dX6_digest_120 rfl (by decide) rfl ?_
      refine r_iinc (v := (v3_103 + 1)) (lv2 := [(3, .int (v3_103 + 1)), (1, .long ((31 * v1_103) + (Int32.toInt64 q13))), (0, .ref (eA E 26))]) dX6_digest_121 2 rfl rfl (by decide) rfl ?_
      refine r_goto (tgt := 103) dX6_digest_124 (by decide) ?_
      exact (Wa.sub [2, 1, 0] rfl (ih _ _ _ hf kx0))
set_option maxHeartbeats 4000000 in
set_option maxRecDepth 100000 in
theorem w_X6_digest_129 {E : EN} {res : Option Value × Hp} {hX : TX} {hR : TR} {hL : TC} {hT : TC} {hK : TK} {hS : TS} {hP : TP} {M_unitsNow : Int32} {M_way : Int32} {M_sample : Int32} {M_one : Int32} {M_two : Int32} {M_plays : Int32} {M_low : Int32} {M_high : Int32} {M_playsNow : Int32} {M_lowNow : Int32} {M_highNow : Int32} {M_textLong : Int32} {M_answerLong : Int32} {M_place : Int32} {M_units : Nat → Int32} {M_refused : Nat → Int32} {M_left : Nat → Int32} {M_played : Nat → Int32} {M_playedNow : Nat → Int32} {M_canBe : Nat → Int32} {M_text : Nat → Int32} {M_answered : Nat → Int32} {M_numbers : Nat → Int32} : ∀ (n9 : Nat) (v1_129 : Int64) (v3_129 : Int32) (qL : Int64), lp_X6_digest_129 M_answerLong M_answered n9 v1_129 v3_129 = some qL → (Wa E yX6_digest cX6_digest 5 (some .long) 2 res 157 [(1, .long qL)] [] (hX, hR, hL, hT, hK, hS, hP, (M_unitsNow, M_way, M_sample, M_one, M_two, M_plays, M_low, M_high, M_playsNow, M_lowNow, M_highNow, M_textLong, M_answerLong, M_place, M_units, M_refused, M_left, M_played, M_playedNow, M_canBe, M_text, M_answered, M_numbers))) → Wa E yX6_digest cX6_digest 5 (some .long) 2 res 129 [(0, .ref (eA E 26)), (1, .long v1_129), (3, .int v3_129)] [] (hX, hR, hL, hT, hK, hS, hP, (M_unitsNow, M_way, M_sample, M_one, M_two, M_plays, M_low, M_high, M_playsNow, M_lowNow, M_highNow, M_textLong, M_answerLong, M_place, M_units, M_refused, M_left, M_played, M_playedNow, M_canBe, M_text, M_answered, M_numbers)) := by
  intro n9
  induction n9 with
  | zero =>
    intro v1_129 v3_129 qL hf
    exact nomatch (show (none : Option (Int64)) = some qL from hf)
  | succ n9 ih =>
    intro v1_129 v3_129 qL hf kx0
    rw [lp_X6_digest_129] at hf
    refine r_iload_n dX6_digest_129 2 rfl ?_
    refine r_aload_n dX6_digest_130 0 rfl ?_
    refine r_get (v := .int M_answerLong) in_X6 26 ga_M rfl 20 (by decide) wd_783 rfl rfl dX6_digest_131 ?_
    refine r_icmp_ge (tgt := 157) dX6_digest_134 (by decide) (fun c15 => ?_) (fun c15 => ?_)
    · have hf := hf_pos c15 hf
      have e9 := Option.some.inj hf
      subst e9
      exact (Wa.sub [1] rfl kx0)
    · have hf := hf_neg c15 hf
      refine r_ldc2 (v := 31) wd_1159 dX6_digest_137 ?_
      refine r_lload_n dX6_digest_140 1 rfl ?_
      refine r_lmul dX6_digest_141 ?_
      refine r_aload_n dX6_digest_142 0 rfl ?_
      refine r_get (v := .ref (eA E 34)) in_X6 26 ga_M rfl 19 (by decide) wd_782 rfl rfl dX6_digest_143 ?_
      refine r_iload_n dX6_digest_146 2 rfl ?_
      obtain ⟨i16, hf⟩ := hf_in hf
      refine r_iald (f := M_answered) 34 ga_M_answered i16 dX6_digest_147 ?_
      refine r_i2l dX6_digest_148 ?_
      refine r_ladd dX6_digest_149 ?_
      refine r_lstore_n (lv2 := [(1, .long ((31 * v1_129) + (Int32.toInt64 (M_answered (Int32.toNatClampNeg v3_129))))), (0, .ref (eA E 26)), (3, .int v3_129)]) dX6_digest_150 rfl (by decide) rfl ?_
      refine r_iinc (v := (v3_129 + 1)) (lv2 := [(3, .int (v3_129 + 1)), (1, .long ((31 * v1_129) + (Int32.toInt64 (M_answered (Int32.toNatClampNeg v3_129))))), (0, .ref (eA E 26))]) dX6_digest_151 2 rfl rfl (by decide) rfl ?_
      refine r_goto (tgt := 129) dX6_digest_154 (by decide) ?_
      exact (Wa.sub [2, 1, 0] rfl (ih _ _ _ hf kx0))
set_option maxHeartbeats 4000000 in
set_option maxRecDepth 100000 in
theorem s_X6_digest {E : EN} {hX : TX} {hR : TR} {hL : TC} {hT : TC} {hK : TK} {hS : TS} {hP : TP} {M_unitsNow : Int32} {M_way : Int32} {M_sample : Int32} {M_one : Int32} {M_two : Int32} {M_plays : Int32} {M_low : Int32} {M_high : Int32} {M_playsNow : Int32} {M_lowNow : Int32} {M_highNow : Int32} {M_textLong : Int32} {M_answerLong : Int32} {M_place : Int32} {M_units : Nat → Int32} {M_refused : Nat → Int32} {M_left : Nat → Int32} {M_played : Nat → Int32} {M_playedNow : Nat → Int32} {M_canBe : Nat → Int32} {M_text : Nat → Int32} {M_answered : Nat → Int32} {M_numbers : Nat → Int32}  {qR : Int64} (hf : f_X6_digest M_unitsNow M_way M_sample M_plays M_low M_high M_textLong M_answerLong M_units M_refused M_answered = some qR) : Sem E yX6_digest cX6_digest 5 (some .long) 2 [.ref (eA E 26)] (hX, hR, hL, hT, hK, hS, hP, (M_unitsNow, M_way, M_sample, M_one, M_two, M_plays, M_low, M_high, M_playsNow, M_lowNow, M_highNow, M_textLong, M_answerLong, M_place, M_units, M_refused, M_left, M_played, M_playedNow, M_canBe, M_text, M_answered, M_numbers)) (some (.long qR), (hX, hR, hL, hT, hK, hS, hP, (M_unitsNow, M_way, M_sample, M_one, M_two, M_plays, M_low, M_high, M_playsNow, M_lowNow, M_highNow, M_textLong, M_answerLong, M_place, M_units, M_refused, M_left, M_played, M_playedNow, M_canBe, M_text, M_answered, M_numbers))) := by
  refine Sem.mk (lv := [(0, .ref (eA E 26))]) (by decide) (Nat.le_of_ble_eq_true rfl) rfl ?_
  rw [f_X6_digest] at hf
  refine r_ldc2 (v := 2029) wd_1158 dX6_digest_0 ?_
  refine r_lstore_n (lv2 := [(1, .long 2029), (0, .ref (eA E 26))]) dX6_digest_3 rfl (by decide) rfl ?_
  refine r_iconst (v := 0) dX6_digest_4 (by decide) ?_
  refine r_istore_n (lv2 := [(3, .int 0), (1, .long 2029), (0, .ref (eA E 26))]) dX6_digest_5 rfl (by decide) rfl ?_
  obtain ⟨q3, hq3, hf⟩ := hf_bind hf
  refine (Wa.sub [2, 1, 0] rfl (w_X6_digest_6 _ _ _ _ hq3 ?_))
  refine r_iconst (v := 0) dX6_digest_31 (by decide) ?_
  refine r_istore_n (lv2 := [(3, .int 0), (0, .ref (eA E 26)), (1, .long q3)]) dX6_digest_32 rfl (by decide) rfl ?_
  obtain ⟨q11, hq11, hf⟩ := hf_bind hf
  refine (Wa.sub [1, 2, 0] rfl (w_X6_digest_33 _ _ _ _ hq11 ?_))
  refine r_iconst (v := 0) dX6_digest_101 (by decide) ?_
  refine r_istore_n (lv2 := [(3, .int 0), (0, .ref (eA E 26)), (1, .long q11)]) dX6_digest_102 rfl (by decide) rfl ?_
  obtain ⟨q14, hq14, hf⟩ := hf_bind hf
  refine (Wa.sub [1, 2, 0] rfl (w_X6_digest_103 _ _ _ _ hq14 ?_))
  refine r_iconst (v := 0) dX6_digest_127 (by decide) ?_
  refine r_istore_n (lv2 := [(3, .int 0), (0, .ref (eA E 26)), (1, .long q14)]) dX6_digest_128 rfl (by decide) rfl ?_
  obtain ⟨q17, hq17, hf⟩ := hf_bind hf
  refine (Wa.sub [1, 2, 0] rfl (w_X6_digest_129 _ _ _ _ hq17 ?_))
  refine r_lload_n dX6_digest_157 0 rfl ?_
  have e9 := Option.some.inj hf
  subst e9
  exact r_lret rfl dX6_digest_158
