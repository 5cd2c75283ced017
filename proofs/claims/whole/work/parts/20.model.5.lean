-- DuelSamplesModel.takesWord
def lp_X6_takesWord_11 (M_textLong : Int32) (M_text : Nat → Int32) (q1 : Int32) : Nat → Int32 → Int64 → Option (Int32 × Int64)
  | 0, _, _ => none
  | n9 + 1, v1_11, v2_11 => Option.bind (f_X6_isByte M_textLong M_text v1_11 97 122) (fun (q2 : Int32) => if q2 = 0 then some (v1_11, v2_11) else if 8 ≤ (v1_11 - q1) then some (v1_11, v2_11) else if inB v1_11 120 then Option.bind (f_X6_by27 v2_11 (M_text (Int32.toNatClampNeg v1_11))) (fun (q6 : Int64) => lp_X6_takesWord_11 M_textLong M_text q1 n9 (v1_11 + 1) q6) else none)
def lp_X6_takesWord_57 (q7 : Int32 × Int64) (M_textLong : Int32) (M_text : Nat → Int32) : Nat → Int32 → Int32 → Option (Int32)
  | 0, _, _ => none
  | n9 + 1, v4_57, v5_57 => if 13 ≤ v5_57 then some v4_57 else Option.bind (f_X6_letters v5_57) (fun (q9 : Int64) => Option.bind (if (lg_cmp q9 q7.2) = 0 then Option.bind (f_X6_isByte M_textLong M_text q7.1 97 122) (fun (q12 : Int32) => if q12 = 0 then some v5_57 else some v4_57) else some v4_57) (fun (q11 : Int32) => lp_X6_takesWord_57 q7 M_textLong M_text n9 q11 (v5_57 + 1)))
def f_X6_takesWord (M_textLong : Int32) (M_place : Int32) (M_text : Nat → Int32)  : Option (Int32 × Int32) := Option.bind (f_X6_skip M_textLong M_place M_text) (fun (q1 : Int32) => Option.bind (lp_X6_takesWord_11 M_textLong M_text q1 FU q1 0) (fun (q7 : Int32 × Int64) => Option.bind (lp_X6_takesWord_57 q7 M_textLong M_text FU (-1) 0) (fun (q14 : Int32) => Option.bind (if q14 = (-1) then some q1 else some q7.1) (fun (q16 : Int32) => some (q14, q16)))))
theorem hy_X6_takesWord : yX6_takesWord.cls ≠ "java/lang/invoke/MethodHandle" ∧ yX6_takesWord.cls ≠ "java/lang/invoke/VarHandle" ∧ (parseMethodDescriptor yX6_takesWord.desc).map (fun d => d.parameters.length) = some 0 := by decide +kernel
set_option maxHeartbeats 4000000 in
set_option maxRecDepth 100000 in
theorem w_X6_takesWord_11 {E : EN} {res : Option Value × Hp} {hX : TX} {hR : TR} {hL : TC} {hT : TC} {hK : TK} {hS : TS} {hP : TP} {M_unitsNow : Int32} {M_way : Int32} {M_sample : Int32} {M_one : Int32} {M_two : Int32} {M_plays : Int32} {M_low : Int32} {M_high : Int32} {M_playsNow : Int32} {M_lowNow : Int32} {M_highNow : Int32} {M_textLong : Int32} {M_answerLong : Int32} {q1 : Int32} {M_units : Nat → Int32} {M_refused : Nat → Int32} {M_left : Nat → Int32} {M_played : Nat → Int32} {M_playedNow : Nat → Int32} {M_canBe : Nat → Int32} {M_text : Nat → Int32} {M_answered : Nat → Int32} {M_numbers : Nat → Int32} : ∀ (n9 : Nat) (v1_11 : Int32) (v2_11 : Int64) (qL : Int32 × Int64), lp_X6_takesWord_11 M_textLong M_text q1 n9 v1_11 v2_11 = some qL → (Wa E yX6_takesWord cX6_takesWord 6 (some .int) 4 res 51 [(0, .ref (eA E 26)), (1, .int qL.1), (2, .long qL.2)] [] (hX, hR, hL, hT, hK, hS, hP, (M_unitsNow, M_way, M_sample, M_one, M_two, M_plays, M_low, M_high, M_playsNow, M_lowNow, M_highNow, M_textLong, M_answerLong, q1, M_units, M_refused, M_left, M_played, M_playedNow, M_canBe, M_text, M_answered, M_numbers))) → Wa E yX6_takesWord cX6_takesWord 6 (some .int) 4 res 11 [(0, .ref (eA E 26)), (1, .int v1_11), (2, .long v2_11)] [] (hX, hR, hL, hT, hK, hS, hP, (M_unitsNow, M_way, M_sample, M_one, M_two, M_plays, M_low, M_high, M_playsNow, M_lowNow, M_highNow, M_textLong, M_answerLong, q1, M_units, M_refused, M_left, M_played, M_playedNow, M_canBe, M_text, M_answered, M_numbers)) := by
  intro n9
  induction n9 with
  | zero =>
    intro v1_11 v2_11 qL hf
    exact nomatch (show (none : Option (Int32 × Int64)) = some qL from hf)
  | succ n9 ih =>
    intro v1_11 v2_11 qL hf kx0
    rw [lp_X6_takesWord_11] at hf
    refine r_aload_n dX6_takesWord_11 0 rfl ?_
    refine r_iload_n dX6_takesWord_12 1 rfl ?_
    refine r_bipush (v := 97) dX6_takesWord_13 (by decide) ?_
    refine r_bipush (v := 122) dX6_takesWord_15 (by decide) ?_
    obtain ⟨q2, hq2, hf⟩ := hf_bind hf
    refine r_callVi (As := [.int v1_11, .int 97, .int 122]) (b := (eA E 26)) (st := []) (s_X6_isByte hq2) (by decide) (by decide) wd_1093 wd_1095 wd_57 wd_74 wd_1096 hy_X6_isByte (Rc.obj 26 ga_M rfl) rfl (Nat.le_of_ble_eq_true rfl) dX6_takesWord_17 ?_
    refine r_if_eq (tgt := 51) dX6_takesWord_20 (by decide) (fun c3 => ?_) (fun c3 => ?_)
    · have hf := hf_pos c3 hf
      have e9 := Option.some.inj hf
      subst e9
      exact kx0
    · have hf := hf_neg c3 hf
      refine r_iload_n dX6_takesWord_23 1 rfl ?_
      refine r_aload_n dX6_takesWord_24 0 rfl ?_
      refine r_get (v := .int q1) in_X6 26 ga_M rfl 21 (by decide) wd_784 rfl rfl dX6_takesWord_25 ?_
      refine r_isub dX6_takesWord_28 ?_
      refine r_bipush (v := 8) dX6_takesWord_29 (by decide) ?_
      refine r_icmp_ge (tgt := 51) dX6_takesWord_31 (by decide) (fun c4 => ?_) (fun c4 => ?_)
      · have hf := hf_pos c4 hf
        have e9 := Option.some.inj hf
        subst e9
        exact kx0
      · have hf := hf_neg c4 hf
        refine r_lload_n dX6_takesWord_34 2 rfl ?_
        refine r_aload_n dX6_takesWord_35 0 rfl ?_
        refine r_get (v := .ref (eA E 33)) in_X6 26 ga_M rfl 17 (by decide) wd_780 rfl rfl dX6_takesWord_36 ?_
        refine r_iload_n dX6_takesWord_39 1 rfl ?_
        obtain ⟨i5, hf⟩ := hf_in hf
        refine r_iald (f := M_text) 33 ga_M_text i5 dX6_takesWord_40 ?_
        obtain ⟨q6, hq6, hf⟩ := hf_bind hf
        refine r_callSl (As := [.long v2_11, .int (M_text (Int32.toNatClampNeg v1_11))]) (st := []) (s_X6_by27 hq6) (by decide) (by decide) wd_1097 wd_1098 wd_74 wd_1099 hy_X6_by27 rfl (Nat.le_of_ble_eq_true rfl) dX6_takesWord_41 ?_
        refine r_lstore_n (lv2 := [(2, .long q6), (0, .ref (eA E 26)), (1, .int v1_11)]) dX6_takesWord_44 rfl (by decide) rfl ?_
        refine r_iinc (v := (v1_11 + 1)) (lv2 := [(1, .int (v1_11 + 1)), (2, .long q6), (0, .ref (eA E 26))]) dX6_takesWord_45 2 rfl rfl (by decide) rfl ?_
        refine r_goto (tgt := 11) dX6_takesWord_48 (by decide) ?_
        exact (Wa.sub [2, 0, 1] rfl (ih _ _ _ hf kx0))
set_option maxHeartbeats 4000000 in
set_option maxRecDepth 100000 in
theorem w_X6_takesWord_57 {E : EN} {res : Option Value × Hp} {hX : TX} {hR : TR} {hL : TC} {hT : TC} {hK : TK} {hS : TS} {hP : TP} {q7 : Int32 × Int64} {M_unitsNow : Int32} {M_way : Int32} {M_sample : Int32} {M_one : Int32} {M_two : Int32} {M_plays : Int32} {M_low : Int32} {M_high : Int32} {M_playsNow : Int32} {M_lowNow : Int32} {M_highNow : Int32} {M_textLong : Int32} {M_answerLong : Int32} {q1 : Int32} {M_units : Nat → Int32} {M_refused : Nat → Int32} {M_left : Nat → Int32} {M_played : Nat → Int32} {M_playedNow : Nat → Int32} {M_canBe : Nat → Int32} {M_text : Nat → Int32} {M_answered : Nat → Int32} {M_numbers : Nat → Int32} : ∀ (n9 : Nat) (v4_57 : Int32) (v5_57 : Int32) (qL : Int32), lp_X6_takesWord_57 q7 M_textLong M_text n9 v4_57 v5_57 = some qL → (Wa E yX6_takesWord cX6_takesWord 6 (some .int) 4 res 101 [(0, .ref (eA E 26)), (1, .int q7.1), (4, .int qL)] [] (hX, hR, hL, hT, hK, hS, hP, (M_unitsNow, M_way, M_sample, M_one, M_two, M_plays, M_low, M_high, M_playsNow, M_lowNow, M_highNow, M_textLong, M_answerLong, q1, M_units, M_refused, M_left, M_played, M_playedNow, M_canBe, M_text, M_answered, M_numbers))) → Wa E yX6_takesWord cX6_takesWord 6 (some .int) 4 res 57 [(0, .ref (eA E 26)), (1, .int q7.1), (2, .long q7.2), (4, .int v4_57), (5, .int v5_57)] [] (hX, hR, hL, hT, hK, hS, hP, (M_unitsNow, M_way, M_sample, M_one, M_two, M_plays, M_low, M_high, M_playsNow, M_lowNow, M_highNow, M_textLong, M_answerLong, q1, M_units, M_refused, M_left, M_played, M_playedNow, M_canBe, M_text, M_answered, M_numbers)) := by
  intro n9
  induction n9 with
  | zero =>
    intro v4_57 v5_57 qL hf
    exact nomatch (show (none : Option (Int32)) = some qL from hf)
  | succ n9 ih =>
    intro v4_57 v5_57 qL hf kx0
    rw [lp_X6_takesWord_57] at hf
    refine r_iload dX6_takesWord_57 4 rfl ?_
    refine r_bipush (v := 13) dX6_takesWord_59 (by decide) ?_
    refine r_icmp_ge (tgt := 101) dX6_takesWord_61 (by decide) (fun c8 => ?_) (fun c8 => ?_)
    · have hf := hf_pos c8 hf
      have e9 := Option.some.inj hf
      subst e9
      exact (Wa.sub [0, 1, 3] rfl kx0)
    · have hf := hf_neg c8 hf
      refine r_iload dX6_takesWord_64 4 rfl ?_
      obtain ⟨q9, hq9, hf⟩ := hf_bind hf
      refine r_callSl (As := [.int v5_57]) (st := []) (s_X6_letters hq9) (by decide) (by decide) wd_1102 wd_1103 wd_74 wd_1104 hy_X6_letters rfl (Nat.le_of_ble_eq_true rfl) dX6_takesWord_66 ?_
      refine r_lload_n dX6_takesWord_69 2 rfl ?_
      refine r_lcmp dX6_takesWord_70 ?_
      obtain ⟨q11, hq11, hf⟩ := hf_bind hf
      have kj11 : Wa E yX6_takesWord cX6_takesWord 6 (some .int) 4 res 93 [(0, .ref (eA E 26)), (1, .int q7.1), (2, .long q7.2), (5, .int v5_57)] [.int q11] (hX, hR, hL, hT, hK, hS, hP, (M_unitsNow, M_way, M_sample, M_one, M_two, M_plays, M_low, M_high, M_playsNow, M_lowNow, M_highNow, M_textLong, M_answerLong, q1, M_units, M_refused, M_left, M_played, M_playedNow, M_canBe, M_text, M_answered, M_numbers)) := by
        refine r_istore (lv2 := [(4, .int q11), (0, .ref (eA E 26)), (1, .int q7.1), (2, .long q7.2), (5, .int v5_57)]) dX6_takesWord_93 (by decide) rfl ?_
        refine r_iinc (v := (v5_57 + 1)) (lv2 := [(5, .int (v5_57 + 1)), (4, .int q11), (0, .ref (eA E 26)), (1, .int q7.1), (2, .long q7.2)]) dX6_takesWord_95 4 rfl rfl (by decide) rfl ?_
        refine r_goto (tgt := 57) dX6_takesWord_98 (by decide) ?_
        exact (Wa.sub [2, 3, 4, 1, 0] rfl (ih _ _ _ hf kx0))
      have hf := hq11
      refine r_if_ne (tgt := 91) dX6_takesWord_71 (by decide) (fun c10 => ?_) (fun c10 => ?_)
      · have hf := hf_neg c10 hf
        refine r_iload dX6_takesWord_91 3 rfl ?_
        have e9 := Option.some.inj hf
        subst e9
        exact (Wa.sub [0, 1, 2, 4] rfl kj11)
      · have hf := hf_pos c10 hf
        refine r_aload_n dX6_takesWord_74 0 rfl ?_
        refine r_iload_n dX6_takesWord_75 1 rfl ?_
        refine r_bipush (v := 97) dX6_takesWord_76 (by decide) ?_
        refine r_bipush (v := 122) dX6_takesWord_78 (by decide) ?_
        obtain ⟨q12, hq12, hf⟩ := hf_bind hf
        refine r_callVi (As := [.int q7.1, .int 97, .int 122]) (b := (eA E 26)) (st := []) (s_X6_isByte hq12) (by decide) (by decide) wd_1093 wd_1095 wd_57 wd_74 wd_1096 hy_X6_isByte (Rc.obj 26 ga_M rfl) rfl (Nat.le_of_ble_eq_true rfl) dX6_takesWord_80 ?_
        refine r_if_ne (tgt := 91) dX6_takesWord_83 (by decide) (fun c13 => ?_) (fun c13 => ?_)
        · have hf := hf_neg c13 hf
          refine r_iload dX6_takesWord_91 3 rfl ?_
          have e9 := Option.some.inj hf
          subst e9
          exact (Wa.sub [0, 1, 2, 4] rfl kj11)
        · have hf := hf_pos c13 hf
          refine r_iload dX6_takesWord_86 4 rfl ?_
          refine r_goto (tgt := 93) dX6_takesWord_88 (by decide) ?_
          have e9 := Option.some.inj hf
          subst e9
          exact (Wa.sub [0, 1, 2, 4] rfl kj11)
set_option maxHeartbeats 4000000 in
set_option maxRecDepth 100000 in
theorem s_X6_takesWord {E : EN} {hX : TX} {hR : TR} {hL : TC} {hT : TC} {hK : TK} {hS : TS} {hP : TP} {M_unitsNow : Int32} {M_way : Int32} {M_sample : Int32} {M_one : Int32} {M_two : Int32} {M_plays : Int32} {M_low : Int32} {M_high : Int32} {M_playsNow : Int32} {M_lowNow : Int32} {M_highNow : Int32} {M_textLong : Int32} {M_answerLong : Int32} {M_place : Int32} {M_units : Nat → Int32} {M_refused : Nat → Int32} {M_left : Nat → Int32} {M_played : Nat → Int32} {M_playedNow : Nat → Int32} {M_canBe : Nat → Int32} {M_text : Nat → Int32} {M_answered : Nat → Int32} {M_numbers : Nat → Int32}  {qR : Int32 × Int32} (hf : f_X6_takesWord M_textLong M_place M_text = some qR) : Sem E yX6_takesWord cX6_takesWord 6 (some .int) 4 [.ref (eA E 26)] (hX, hR, hL, hT, hK, hS, hP, (M_unitsNow, M_way, M_sample, M_one, M_two, M_plays, M_low, M_high, M_playsNow, M_lowNow, M_highNow, M_textLong, M_answerLong, M_place, M_units, M_refused, M_left, M_played, M_playedNow, M_canBe, M_text, M_answered, M_numbers)) (some (.int qR.1), (hX, hR, hL, hT, hK, hS, hP, (M_unitsNow, M_way, M_sample, M_one, M_two, M_plays, M_low, M_high, M_playsNow, M_lowNow, M_highNow, M_textLong, M_answerLong, qR.2, M_units, M_refused, M_left, M_played, M_playedNow, M_canBe, M_text, M_answered, M_numbers))) := by
  refine Sem.mk (lv := [(0, .ref (eA E 26))]) (by decide) (Nat.le_of_ble_eq_true rfl) rfl ?_
  rw [f_X6_takesWord] at hf
  refine r_aload_n dX6_takesWord_0 0 rfl ?_
  obtain ⟨q1, hq1, hf⟩ := hf_bind hf
  refine r_callVv (As := []) (b := (eA E 26)) (st := []) (s_X6_skip hq1) (by decide) (by decide) wd_1081 wd_1083 wd_54 wd_74 wd_1084 hy_X6_skip (Rc.obj 26 ga_M rfl) rfl (Nat.le_of_ble_eq_true rfl) dX6_takesWord_1 ?_
  refine r_aload_n dX6_takesWord_4 0 rfl ?_
  refine r_get (v := .int q1) in_X6 26 ga_M rfl 21 (by decide) wd_784 rfl rfl dX6_takesWord_5 ?_
  refine r_istore_n (lv2 := [(1, .int q1), (0, .ref (eA E 26))]) dX6_takesWord_8 rfl (by decide) rfl ?_
  refine r_lconst (v := 0) dX6_takesWord_9 (by decide) ?_
  refine r_lstore_n (lv2 := [(2, .long 0), (1, .int q1), (0, .ref (eA E 26))]) dX6_takesWord_10 rfl (by decide) rfl ?_
  obtain ⟨q7, hq7, hf⟩ := hf_bind hf
  refine (Wa.sub [2, 1, 0] rfl (w_X6_takesWord_11 _ _ _ _ hq7 ?_))
  refine r_iconst (v := (-1)) dX6_takesWord_51 (by decide) ?_
  refine r_istore (lv2 := [(4, .int (-1)), (0, .ref (eA E 26)), (1, .int q7.1), (2, .long q7.2)]) dX6_takesWord_52 (by decide) rfl ?_
  refine r_iconst (v := 0) dX6_takesWord_54 (by decide) ?_
  refine r_istore (lv2 := [(5, .int 0), (4, .int (-1)), (0, .ref (eA E 26)), (1, .int q7.1), (2, .long q7.2)]) dX6_takesWord_55 (by decide) rfl ?_
  obtain ⟨q14, hq14, hf⟩ := hf_bind hf
  refine (Wa.sub [2, 3, 4, 1, 0] rfl (w_X6_takesWord_57 _ _ _ _ hq14 ?_))
  refine r_aload_n dX6_takesWord_101 0 rfl ?_
  refine r_iload dX6_takesWord_102 2 rfl ?_
  refine r_iconst (v := (-1)) dX6_takesWord_104 (by decide) ?_
  obtain ⟨q16, hq16, hf⟩ := hf_bind hf
  have kj16 : Wa E yX6_takesWord cX6_takesWord 6 (some .int) 4 (some (.int qR.1), (hX, hR, hL, hT, hK, hS, hP, (M_unitsNow, M_way, M_sample, M_one, M_two, M_plays, M_low, M_high, M_playsNow, M_lowNow, M_highNow, M_textLong, M_answerLong, qR.2, M_units, M_refused, M_left, M_played, M_playedNow, M_canBe, M_text, M_answered, M_numbers))) 116 [(4, .int q14)] [.int q16, .ref (eA E 26)] (hX, hR, hL, hT, hK, hS, hP, (M_unitsNow, M_way, M_sample, M_one, M_two, M_plays, M_low, M_high, M_playsNow, M_lowNow, M_highNow, M_textLong, M_answerLong, q1, M_units, M_refused, M_left, M_played, M_playedNow, M_canBe, M_text, M_answered, M_numbers)) := by
    refine r_put in_X6 tyX6_ok nmX6 26 ga_M rfl 21 (by decide) wd_784 rfl rfl pfI (Nat.le_of_ble_eq_true rfl) sa_M_place dX6_takesWord_116 ?_
    refine r_iload dX6_takesWord_119 0 rfl ?_
    have e9 := Option.some.inj hf
    subst e9
    exact r_iret rfl dX6_takesWord_121
  have hf := hq16
  refine r_icmp_ne (tgt := 115) dX6_takesWord_105 (by decide) (fun c15 => ?_) (fun c15 => ?_)
  · have hf := hf_neg c15 hf
    refine r_iload_n dX6_takesWord_115 1 rfl ?_
    have e9 := Option.some.inj hf
    subst e9
    exact (Wa.sub [2] rfl kj16)
  · have hf := hf_pos c15 hf
    refine r_aload_n dX6_takesWord_108 0 rfl ?_
    refine r_get (v := .int q1) in_X6 26 ga_M rfl 21 (by decide) wd_784 rfl rfl dX6_takesWord_109 ?_
    refine r_goto (tgt := 116) dX6_takesWord_112 (by decide) ?_
    have e9 := Option.some.inj hf
    subst e9
    exact (Wa.sub [2] rfl kj16)
-- DuelSamplesModel.argsOf
def f_X6_argsOf  (a0 : Int32) : Option (Int32) := if a0 < 5 then some 0 else if a0 = 12 then some 0 else if 10 ≤ a0 then if a0 = 10 then some 5 else some 1 else some 2
theorem hy_X6_argsOf : yX6_argsOf.cls ≠ "java/lang/invoke/MethodHandle" ∧ yX6_argsOf.cls ≠ "java/lang/invoke/VarHandle" ∧ (parseMethodDescriptor yX6_argsOf.desc).map (fun d => d.parameters.length) = some 1 := by decide +kernel
set_option maxHeartbeats 4000000 in
set_option maxRecDepth 100000 in
theorem s_X6_argsOf {E : EN} {hX : TX} {hR : TR} {hL : TC} {hT : TC} {hK : TK} {hS : TS} {hP : TP} {M_unitsNow : Int32} {M_way : Int32} {M_sample : Int32} {M_one : Int32} {M_two : Int32} {M_plays : Int32} {M_low : Int32} {M_high : Int32} {M_playsNow : Int32} {M_lowNow : Int32} {M_highNow : Int32} {M_textLong : Int32} {M_answerLong : Int32} {M_place : Int32} {M_units : Nat → Int32} {M_refused : Nat → Int32} {M_left : Nat → Int32} {M_played : Nat → Int32} {M_playedNow : Nat → Int32} {M_canBe : Nat → Int32} {M_text : Nat → Int32} {M_answered : Nat → Int32} {M_numbers : Nat → Int32} {a0 : Int32} {qR : Int32} (hf : f_X6_argsOf a0 = some qR) : Sem E yX6_argsOf cX6_argsOf 2 (some .int) 1 [.ref (eA E 26), .int a0] (hX, hR, hL, hT, hK, hS, hP, (M_unitsNow, M_way, M_sample, M_one, M_two, M_plays, M_low, M_high, M_playsNow, M_lowNow, M_highNow, M_textLong, M_answerLong, M_place, M_units, M_refused, M_left, M_played, M_playedNow, M_canBe, M_text, M_answered, M_numbers)) (some (.int qR), (hX, hR, hL, hT, hK, hS, hP, (M_unitsNow, M_way, M_sample, M_one, M_two, M_plays, M_low, M_high, M_playsNow, M_lowNow, M_highNow, M_textLong, M_answerLong, M_place, M_units, M_refused, M_left, M_played, M_playedNow, M_canBe, M_text, M_answered, M_numbers))) := by
  refine Sem.mk (lv := [(0, .ref (eA E 26)), (1, .int a0)]) (by decide) (Nat.le_of_ble_eq_true rfl) rfl ?_
  rw [f_X6_argsOf] at hf
  refine r_iload_n dX6_argsOf_0 1 rfl ?_
  refine r_iconst (v := 5) dX6_argsOf_1 (by decide) ?_
  refine r_icmp_lt (tgt := 11) dX6_argsOf_2 (by decide) (fun c1 => ?_) (fun c1 => ?_)
  · have hf := hf_pos c1 hf
    refine r_iconst (v := 0) dX6_argsOf_11 (by decide) ?_
    refine r_goto (tgt := 36) dX6_argsOf_12 (by decide) ?_
    have e9 := Option.some.inj hf
    subst e9
    exact r_iret rfl dX6_argsOf_36
  · have hf := hf_neg c1 hf
    refine r_iload_n dX6_argsOf_5 1 rfl ?_
    refine r_bipush (v := 12) dX6_argsOf_6 (by decide) ?_
    refine r_icmp_ne (tgt := 15) dX6_argsOf_8 (by decide) (fun c2 => ?_) (fun c2 => ?_)
    · have hf := hf_neg c2 hf
      refine r_iload_n dX6_argsOf_15 1 rfl ?_
      refine r_bipush (v := 10) dX6_argsOf_16 (by decide) ?_
      refine r_icmp_ge (tgt := 25) dX6_argsOf_18 (by decide) (fun c3 => ?_) (fun c3 => ?_)
      · have hf := hf_pos c3 hf
        refine r_iload_n dX6_argsOf_25 1 rfl ?_
        refine r_bipush (v := 10) dX6_argsOf_26 (by decide) ?_
        refine r_icmp_ne (tgt := 35) dX6_argsOf_28 (by decide) (fun c4 => ?_) (fun c4 => ?_)
        · have hf := hf_neg c4 hf
          refine r_iconst (v := 1) dX6_argsOf_35 (by decide) ?_
          have e9 := Option.some.inj hf
          subst e9
          exact r_iret rfl dX6_argsOf_36
        · have hf := hf_pos c4 hf
          refine r_iconst (v := 5) dX6_argsOf_31 (by decide) ?_
          refine r_goto (tgt := 36) dX6_argsOf_32 (by decide) ?_
          have e9 := Option.some.inj hf
          subst e9
          exact r_iret rfl dX6_argsOf_36
      · have hf := hf_neg c3 hf
        refine r_iconst (v := 2) dX6_argsOf_21 (by decide) ?_
        refine r_goto (tgt := 36) dX6_argsOf_22 (by decide) ?_
        have e9 := Option.some.inj hf
        subst e9
        exact r_iret rfl dX6_argsOf_36
    · have hf := hf_pos c2 hf
      refine r_iconst (v := 0) dX6_argsOf_11 (by decide) ?_
      refine r_goto (tgt := 36) dX6_argsOf_12 (by decide) ?_
      have e9 := Option.some.inj hf
      subst e9
      exact r_iret rfl dX6_argsOf_36
-- DuelSamplesModel.mostAt
def f_X6_mostAt  (a0 : Int32) (a1 : Int32) (a2 : Int32) : Option (Int32) := if a0 = 11 then some 999999 else if a0 = 10 then Option.bind (f_X6_mostOf a1) (fun (q5 : Int32) => some q5) else if a1 = 0 then some (a2 - 1) else Option.bind (f_X6_mostOf (a0 - 5)) (fun (q4 : Int32) => some q4)
theorem hy_X6_mostAt : yX6_mostAt.cls ≠ "java/lang/invoke/MethodHandle" ∧ yX6_mostAt.cls ≠ "java/lang/invoke/VarHandle" ∧ (parseMethodDescriptor yX6_mostAt.desc).map (fun d => d.parameters.length) = some 3 := by decide +kernel
set_option maxHeartbeats 4000000 in
set_option maxRecDepth 100000 in
theorem s_X6_mostAt {E : EN} {hX : TX} {hR : TR} {hL : TC} {hT : TC} {hK : TK} {hS : TS} {hP : TP} {M_unitsNow : Int32} {M_way : Int32} {M_sample : Int32} {M_one : Int32} {M_two : Int32} {M_plays : Int32} {M_low : Int32} {M_high : Int32} {M_playsNow : Int32} {M_lowNow : Int32} {M_highNow : Int32} {M_textLong : Int32} {M_answerLong : Int32} {M_place : Int32} {M_units : Nat → Int32} {M_refused : Nat → Int32} {M_left : Nat → Int32} {M_played : Nat → Int32} {M_playedNow : Nat → Int32} {M_canBe : Nat → Int32} {M_text : Nat → Int32} {M_answered : Nat → Int32} {M_numbers : Nat → Int32} {a0 : Int32} {a1 : Int32} {a2 : Int32} {qR : Int32} (hf : f_X6_mostAt a0 a1 a2 = some qR) : Sem E yX6_mostAt cX6_mostAt 4 (some .int) 2 [.ref (eA E 26), .int a0, .int a1, .int a2] (hX, hR, hL, hT, hK, hS, hP, (M_unitsNow, M_way, M_sample, M_one, M_two, M_plays, M_low, M_high, M_playsNow, M_lowNow, M_highNow, M_textLong, M_answerLong, M_place, M_units, M_refused, M_left, M_played, M_playedNow, M_canBe, M_text, M_answered, M_numbers)) (some (.int qR), (hX, hR, hL, hT, hK, hS, hP, (M_unitsNow, M_way, M_sample, M_one, M_two, M_plays, M_low, M_high, M_playsNow, M_lowNow, M_highNow, M_textLong, M_answerLong, M_place, M_units, M_refused, M_left, M_played, M_playedNow, M_canBe, M_text, M_answered, M_numbers))) := by
  refine Sem.mk (lv := [(0, .ref (eA E 26)), (1, .int a0), (2, .int a1), (3, .int a2)]) (by decide) (Nat.le_of_ble_eq_true rfl) rfl ?_
  rw [f_X6_mostAt] at hf
  refine r_iload_n dX6_mostAt_0 1 rfl ?_
  refine r_bipush (v := 11) dX6_mostAt_1 (by decide) ?_
  refine r_icmp_ne (tgt := 10) dX6_mostAt_3 (by decide) (fun c1 => ?_) (fun c1 => ?_)
  · have hf := hf_neg c1 hf
    refine r_iload_n dX6_mostAt_10 1 rfl ?_
    refine r_bipush (v := 10) dX6_mostAt_11 (by decide) ?_
    refine r_icmp_ne (tgt := 23) dX6_mostAt_13 (by decide) (fun c2 => ?_) (fun c2 => ?_)
    · have hf := hf_neg c2 hf
      refine r_iload_n dX6_mostAt_23 2 rfl ?_
      refine r_if_ne (tgt := 33) dX6_mostAt_24 (by decide) (fun c3 => ?_) (fun c3 => ?_)
      · have hf := hf_neg c3 hf
        refine r_iload_n dX6_mostAt_33 1 rfl ?_
        refine r_iconst (v := 5) dX6_mostAt_34 (by decide) ?_
        refine r_isub dX6_mostAt_35 ?_
        obtain ⟨q4, hq4, hf⟩ := hf_bind hf
        refine r_callSi (As := [.int (a0 - 5)]) (st := []) (s_X6_mostOf hq4) (by decide) (by decide) wd_838 wd_839 wd_74 wd_840 hy_X6_mostOf rfl (Nat.le_of_ble_eq_true rfl) dX6_mostAt_36 ?_
        have e9 := Option.some.inj hf
        subst e9
        exact r_iret rfl dX6_mostAt_39
      · have hf := hf_pos c3 hf
        refine r_iload_n dX6_mostAt_27 3 rfl ?_
        refine r_iconst (v := 1) dX6_mostAt_28 (by decide) ?_
        refine r_isub dX6_mostAt_29 ?_
        refine r_goto (tgt := 39) dX6_mostAt_30 (by decide) ?_
        have e9 := Option.some.inj hf
        subst e9
        exact r_iret rfl dX6_mostAt_39
    · have hf := hf_pos c2 hf
      refine r_iload_n dX6_mostAt_16 2 rfl ?_
      obtain ⟨q5, hq5, hf⟩ := hf_bind hf
      refine r_callSi (As := [.int a1]) (st := []) (s_X6_mostOf hq5) (by decide) (by decide) wd_838 wd_839 wd_74 wd_840 hy_X6_mostOf rfl (Nat.le_of_ble_eq_true rfl) dX6_mostAt_17 ?_
      refine r_goto (tgt := 39) dX6_mostAt_20 (by decide) ?_
      have e9 := Option.some.inj hf
      subst e9
      exact r_iret rfl dX6_mostAt_39
  · have hf := hf_pos c1 hf
    refine r_ldcw (v := 999999) wd_1116 dX6_mostAt_6 ?_
    have e9 := Option.some.inj hf
    subst e9
    exact r_iret rfl dX6_mostAt_9
-- DuelSamplesModel.takesNumber
def lp_X6_takesNumber_12 (M_textLong : Int32) (M_text : Nat → Int32) (q1 : Int32) : Nat → Int32 → Int32 → Option (Int32 × Int32)
  | 0, _, _ => none
  | n9 + 1, v3_12, v4_12 => Option.bind (f_X6_isByte M_textLong M_text v3_12 48 57) (fun (q2 : Int32) => if q2 = 0 then some (v3_12, v4_12) else if 7 ≤ (v3_12 - q1) then some (v3_12, v4_12) else if inB v3_12 120 then lp_X6_takesNumber_12 M_textLong M_text q1 n9 (v3_12 + 1) (((10 * v4_12) + (M_text (Int32.toNatClampNeg v3_12))) - 48) else none)
def f_X6_takesNumber (M_textLong : Int32) (M_place : Int32) (M_text : Nat → Int32) (a0 : Int32) (a1 : Int32) : Option (Int32 × Int32) := Option.bind (f_X6_skip M_textLong M_place M_text) (fun (q1 : Int32) => Option.bind (lp_X6_takesNumber_12 M_textLong M_text q1 FU q1 0) (fun (q6 : Int32 × Int32) => Option.bind (f_X6_in (Int32.toInt64 (q6.1 - q1)) 1 (Int32.toInt64 a0)) (fun (q7 : Int32) => Option.bind (if q7 = 0 then some 0 else if a1 < q6.2 then some 0 else Option.bind (f_X6_isByte M_textLong M_text q6.1 48 57) (fun (q11 : Int32) => if q11 = 0 then some 1 else some 0)) (fun (q9 : Int32) => Option.bind (if q9 = 0 then some q1 else some q6.1) (fun (q14 : Int32) => if q9 = 0 then some ((-1), q14) else some (q6.2, q14))))))
theorem hy_X6_takesNumber : yX6_takesNumber.cls ≠ "java/lang/invoke/MethodHandle" ∧ yX6_takesNumber.cls ≠ "java/lang/invoke/VarHandle" ∧ (parseMethodDescriptor yX6_takesNumber.desc).map (fun d => d.parameters.length) = some 2 := by decide +kernel
set_option maxHeartbeats 4000000 in
set_option maxRecDepth 100000 in
theorem w_X6_takesNumber_12 {E : EN} {res : Option Value × Hp} {hX : TX} {hR : TR} {hL : TC} {hT : TC} {hK : TK} {hS : TS} {hP : TP} {a0 : Int32} {a1 : Int32} {M_unitsNow : Int32} {M_way : Int32} {M_sample : Int32} {M_one : Int32} {M_two : Int32} {M_plays : Int32} {M_low : Int32} {M_high : Int32} {M_playsNow : Int32} {M_lowNow : Int32} {M_highNow : Int32} {M_textLong : Int32} {M_answerLong : Int32} {q1 : Int32} {M_units : Nat → Int32} {M_refused : Nat → Int32} {M_left : Nat → Int32} {M_played : Nat → Int32} {M_playedNow : Nat → Int32} {M_canBe : Nat → Int32} {M_text : Nat → Int32} {M_answered : Nat → Int32} {M_numbers : Nat → Int32} : ∀ (n9 : Nat) (v3_12 : Int32) (v4_12 : Int32) (qL : Int32 × Int32), lp_X6_takesNumber_12 M_textLong M_text q1 n9 v3_12 v4_12 = some qL → (Wa E yX6_takesNumber cX6_takesNumber 6 (some .int) 3 res 58 [(0, .ref (eA E 26)), (1, .int a0), (2, .int a1), (3, .int qL.1), (4, .int qL.2)] [] (hX, hR, hL, hT, hK, hS, hP, (M_unitsNow, M_way, M_sample, M_one, M_two, M_plays, M_low, M_high, M_playsNow, M_lowNow, M_highNow, M_textLong, M_answerLong, q1, M_units, M_refused, M_left, M_played, M_playedNow, M_canBe, M_text, M_answered, M_numbers))) → Wa E yX6_takesNumber cX6_takesNumber 6 (some .int) 3 res 12 [(0, .ref (eA E 26)), (1, .int a0), (2, .int a1), (3, .int v3_12), (4, .int v4_12)] [] (hX, hR, hL, hT, hK, hS, hP, (M_unitsNow, M_way, M_sample, M_one, M_two, M_plays, M_low, M_high, M_playsNow, M_lowNow, M_highNow, M_textLong, M_answerLong, q1, M_units, M_refused, M_left, M_played, M_playedNow, M_canBe, M_text, M_answered, M_numbers)) := by
  intro n9
  induction n9 with
  | zero =>
    intro v3_12 v4_12 qL hf
    exact nomatch (show (none : Option (Int32 × Int32)) = some qL from hf)
  | succ n9 ih =>
    intro v3_12 v4_12 qL hf kx0
    rw [lp_X6_takesNumber_12] at hf
    refine r_aload_n dX6_takesNumber_12 0 rfl ?_
    refine r_iload_n dX6_takesNumber_13 3 rfl ?_
    refine r_bipush (v := 48) dX6_takesNumber_14 (by decide) ?_
    refine r_bipush (v := 57) dX6_takesNumber_16 (by decide) ?_
    obtain ⟨q2, hq2, hf⟩ := hf_bind hf
    refine r_callVi (As := [.int v3_12, .int 48, .int 57]) (b := (eA E 26)) (st := []) (s_X6_isByte hq2) (by decide) (by decide) wd_1093 wd_1095 wd_57 wd_74 wd_1096 hy_X6_isByte (Rc.obj 26 ga_M rfl) rfl (Nat.le_of_ble_eq_true rfl) dX6_takesNumber_18 ?_
    refine r_if_eq (tgt := 58) dX6_takesNumber_21 (by decide) (fun c3 => ?_) (fun c3 => ?_)
    · have hf := hf_pos c3 hf
      have e9 := Option.some.inj hf
      subst e9
      exact kx0
    · have hf := hf_neg c3 hf
      refine r_iload_n dX6_takesNumber_24 3 rfl ?_
      refine r_aload_n dX6_takesNumber_25 0 rfl ?_
      refine r_get (v := .int q1) in_X6 26 ga_M rfl 21 (by decide) wd_784 rfl rfl dX6_takesNumber_26 ?_
      refine r_isub dX6_takesNumber_29 ?_
      refine r_bipush (v := 7) dX6_takesNumber_30 (by decide) ?_
      refine r_icmp_ge (tgt := 58) dX6_takesNumber_32 (by decide) (fun c4 => ?_) (fun c4 => ?_)
      · have hf := hf_pos c4 hf
        have e9 := Option.some.inj hf
        subst e9
        exact kx0
      · have hf := hf_neg c4 hf
        refine r_bipush (v := 10) dX6_takesNumber_35 (by decide) ?_
        refine r_iload dX6_takesNumber_37 4 rfl ?_
        refine r_imul dX6_takesNumber_39 ?_
        refine r_aload_n dX6_takesNumber_40 0 rfl ?_
        refine r_get (v := .ref (eA E 33)) in_X6 26 ga_M rfl 17 (by decide) wd_780 rfl rfl dX6_takesNumber_41 ?_
        refine r_iload_n dX6_takesNumber_44 3 rfl ?_
        obtain ⟨i5, hf⟩ := hf_in hf
        refine r_iald (f := M_text) 33 ga_M_text i5 dX6_takesNumber_45 ?_
        refine r_iadd dX6_takesNumber_46 ?_
        refine r_bipush (v := 48) dX6_takesNumber_47 (by decide) ?_
        refine r_isub dX6_takesNumber_49 ?_
        refine r_istore (lv2 := [(4, .int (((10 * v4_12) + (M_text (Int32.toNatClampNeg v3_12))) - 48)), (0, .ref (eA E 26)), (1, .int a0), (2, .int a1), (3, .int v3_12)]) dX6_takesNumber_50 (by decide) rfl ?_
        refine r_iinc (v := (v3_12 + 1)) (lv2 := [(3, .int (v3_12 + 1)), (4, .int (((10 * v4_12) + (M_text (Int32.toNatClampNeg v3_12))) - 48)), (0, .ref (eA E 26)), (1, .int a0), (2, .int a1)]) dX6_takesNumber_52 4 rfl rfl (by decide) rfl ?_
        refine r_goto (tgt := 12) dX6_takesNumber_55 (by decide) ?_
        exact (Wa.sub [2, 3, 4, 0, 1] rfl (ih _ _ _ hf kx0))
set_option maxHeartbeats 4000000 in
set_option maxRecDepth 100000 in
theorem s_X6_takesNumber {E : EN} {hX : TX} {hR : TR} {hL : TC} {hT : TC} {hK : TK} {hS : TS} {hP : TP} {M_unitsNow : Int32} {M_way : Int32} {M_sample : Int32} {M_one : Int32} {M_two : Int32} {M_plays : Int32} {M_low : Int32} {M_high : Int32} {M_playsNow : Int32} {M_lowNow : Int32} {M_highNow : Int32} {M_textLong : Int32} {M_answerLong : Int32} {M_place : Int32} {M_units : Nat → Int32} {M_refused : Nat → Int32} {M_left : Nat → Int32} {M_played : Nat → Int32} {M_playedNow : Nat → Int32} {M_canBe : Nat → Int32} {M_text : Nat → Int32} {M_answered : Nat → Int32} {M_numbers : Nat → Int32} {a0 : Int32} {a1 : Int32} {qR : Int32 × Int32} (hf : f_X6_takesNumber M_textLong M_place M_text a0 a1 = some qR) : Sem E yX6_takesNumber cX6_takesNumber 6 (some .int) 3 [.ref (eA E 26), .int a0, .int a1] (hX, hR, hL, hT, hK, hS, hP, (M_unitsNow, M_way, M_sample, M_one, M_two, M_plays, M_low, M_high, M_playsNow, M_lowNow, M_highNow, M_textLong, M_answerLong, M_place, M_units, M_refused, M_left, M_played, M_playedNow, M_canBe, M_text, M_answered, M_numbers)) (some (.int qR.1), (hX, hR, hL, hT, hK, hS, hP, (M_unitsNow, M_way, M_sample, M_one, M_two, M_plays, M_low, M_high, M_playsNow, M_lowNow, M_highNow, M_textLong, M_answerLong, qR.2, M_units, M_refused, M_left, M_played, M_playedNow, M_canBe, M_text, M_answered, M_numbers))) := by
  refine Sem.mk (lv := [(0, .ref (eA E 26)), (1, .int a0), (2, .int a1)]) (by decide) (Nat.le_of_ble_eq_true rfl) rfl ?_
  rw [f_X6_takesNumber] at hf
  refine r_aload_n dX6_takesNumber_0 0 rfl ?_
  obtain ⟨q1, hq1, hf⟩ := hf_bind hf
  refine r_callVv (As := []) (b := (eA E 26)) (st := []) (s_X6_skip hq1) (by decide) (by decide) wd_1081 wd_1083 wd_54 wd_74 wd_1084 hy_X6_skip (Rc.obj 26 ga_M rfl) rfl (Nat.le_of_ble_eq_true rfl) dX6_takesNumber_1 ?_
  refine r_aload_n dX6_takesNumber_4 0 rfl ?_
  refine r_get (v := .int q1) in_X6 26 ga_M rfl 21 (by decide) wd_784 rfl rfl dX6_takesNumber_5 ?_
  refine r_istore_n (lv2 := [(3, .int q1), (0, .ref (eA E 26)), (1, .int a0), (2, .int a1)]) dX6_takesNumber_8 rfl (by decide) rfl ?_
  refine r_iconst (v := 0) dX6_takesNumber_9 (by decide) ?_
  refine r_istore (lv2 := [(4, .int 0), (3, .int q1), (0, .ref (eA E 26)), (1, .int a0), (2, .int a1)]) dX6_takesNumber_10 (by decide) rfl ?_
  obtain ⟨q6, hq6, hf⟩ := hf_bind hf
  refine (Wa.sub [2, 3, 4, 1, 0] rfl (w_X6_takesNumber_12 _ _ _ _ hq6 ?_))
  refine r_iload_n dX6_takesNumber_58 3 rfl ?_
  refine r_aload_n dX6_takesNumber_59 0 rfl ?_
  refine r_get (v := .int q1) in_X6 26 ga_M rfl 21 (by decide) wd_784 rfl rfl dX6_takesNumber_60 ?_
  refine r_isub dX6_takesNumber_63 ?_
  refine r_i2l dX6_takesNumber_64 ?_
  refine r_lconst (v := 1) dX6_takesNumber_65 (by decide) ?_
  refine r_iload_n dX6_takesNumber_66 1 rfl ?_
  refine r_i2l dX6_takesNumber_67 ?_
  obtain ⟨q7, hq7, hf⟩ := hf_bind hf
  refine r_callSi (As := [.long (Int32.toInt64 (q6.1 - q1)), .long 1, .long (Int32.toInt64 a0)]) (st := []) (s_X6_in hq7) (by decide) (by decide) wd_841 wd_842 wd_74 wd_843 hy_X6_in rfl (Nat.le_of_ble_eq_true rfl) dX6_takesNumber_68 ?_
  obtain ⟨q9, hq9, hf⟩ := hf_bind hf
  have kj9 : Wa E yX6_takesNumber cX6_takesNumber 6 (some .int) 3 (some (.int qR.1), (hX, hR, hL, hT, hK, hS, hP, (M_unitsNow, M_way, M_sample, M_one, M_two, M_plays, M_low, M_high, M_playsNow, M_lowNow, M_highNow, M_textLong, M_answerLong, qR.2, M_units, M_refused, M_left, M_played, M_playedNow, M_canBe, M_text, M_answered, M_numbers))) 97 [(0, .ref (eA E 26)), (3, .int q6.1), (4, .int q6.2)] [.int q9] (hX, hR, hL, hT, hK, hS, hP, (M_unitsNow, M_way, M_sample, M_one, M_two, M_plays, M_low, M_high, M_playsNow, M_lowNow, M_highNow, M_textLong, M_answerLong, q1, M_units, M_refused, M_left, M_played, M_playedNow, M_canBe, M_text, M_answered, M_numbers)) := by
    refine r_istore (lv2 := [(5, .int q9), (0, .ref (eA E 26)), (3, .int q6.1), (4, .int q6.2)]) dX6_takesNumber_97 (by decide) rfl ?_
    refine r_aload_n dX6_takesNumber_99 1 rfl ?_
    refine r_iload dX6_takesNumber_100 0 rfl ?_
    obtain ⟨q14, hq14, hf⟩ := hf_bind hf
    have kj14 : Wa E yX6_takesNumber cX6_takesNumber 6 (some .int) 3 (some (.int qR.1), (hX, hR, hL, hT, hK, hS, hP, (M_unitsNow, M_way, M_sample, M_one, M_two, M_plays, M_low, M_high, M_playsNow, M_lowNow, M_highNow, M_textLong, M_answerLong, qR.2, M_units, M_refused, M_left, M_played, M_playedNow, M_canBe, M_text, M_answered, M_numbers))) 113 [(4, .int q6.2), (5, .int q9)] [.int q14, .ref (eA E 26)] (hX, hR, hL, hT, hK, hS, hP, (M_unitsNow, M_way, M_sample, M_one, M_two, M_plays, M_low, M_high, M_playsNow, M_lowNow, M_highNow, M_textLong, M_answerLong, q1, M_units, M_refused, M_left, M_played, M_playedNow, M_canBe, M_text, M_answered, M_numbers)) := by
      refine r_put in_X6 tyX6_ok nmX6 26 ga_M rfl 21 (by decide) wd_784 rfl rfl pfI (Nat.le_of_ble_eq_true rfl) sa_M_place dX6_takesNumber_113 ?_
      refine r_iload dX6_takesNumber_116 1 rfl ?_
      refine r_if_eq (tgt := 126) dX6_takesNumber_118 (by decide) (fun c15 => ?_) (fun c15 => ?_)
      · have hf := hf_pos c15 hf
        refine r_iconst (v := (-1)) dX6_takesNumber_126 (by decide) ?_
        have e9 := Option.some.inj hf
        subst e9
        exact r_iret rfl dX6_takesNumber_127
      · have hf := hf_neg c15 hf
        refine r_iload dX6_takesNumber_121 0 rfl ?_
        refine r_goto (tgt := 127) dX6_takesNumber_123 (by decide) ?_
        have e9 := Option.some.inj hf
        subst e9
        exact r_iret rfl dX6_takesNumber_127
    have hf := hq14
    refine r_if_eq (tgt := 109) dX6_takesNumber_102 (by decide) (fun c13 => ?_) (fun c13 => ?_)
    · have hf := hf_pos c13 hf
      refine r_aload_n dX6_takesNumber_109 1 rfl ?_
      refine r_get (v := .int q1) in_X6 26 ga_M rfl 21 (by decide) wd_784 rfl rfl dX6_takesNumber_110 ?_
      have e9 := Option.some.inj hf
      subst e9
      exact (Wa.sub [3, 0] rfl kj14)
    · have hf := hf_neg c13 hf
      refine r_iload_n dX6_takesNumber_105 2 rfl ?_
      refine r_goto (tgt := 113) dX6_takesNumber_106 (by decide) ?_
      have e9 := Option.some.inj hf
      subst e9
      exact (Wa.sub [3, 0] rfl kj14)
  have hf := hq9
  refine r_if_eq (tgt := 96) dX6_takesNumber_71 (by decide) (fun c8 => ?_) (fun c8 => ?_)
  · have hf := hf_pos c8 hf
    refine r_iconst (v := 0) dX6_takesNumber_96 (by decide) ?_
    have e9 := Option.some.inj hf
    subst e9
    exact (Wa.sub [0, 3, 4] rfl kj9)
  · have hf := hf_neg c8 hf
    refine r_iload dX6_takesNumber_74 4 rfl ?_
    refine r_iload_n dX6_takesNumber_76 2 rfl ?_
    refine r_icmp_gt (tgt := 96) dX6_takesNumber_77 (by decide) (fun c10 => ?_) (fun c10 => ?_)
    · have hf := hf_pos c10 hf
      refine r_iconst (v := 0) dX6_takesNumber_96 (by decide) ?_
      have e9 := Option.some.inj hf
      subst e9
      exact (Wa.sub [0, 3, 4] rfl kj9)
    · have hf := hf_neg c10 hf
      refine r_aload_n dX6_takesNumber_80 0 rfl ?_
      refine r_iload_n dX6_takesNumber_81 3 rfl ?_
      refine r_bipush (v := 48) dX6_takesNumber_82 (by decide) ?_
      refine r_bipush (v := 57) dX6_takesNumber_84 (by decide) ?_
      obtain ⟨q11, hq11, hf⟩ := hf_bind hf
      refine r_callVi (As := [.int q6.1, .int 48, .int 57]) (b := (eA E 26)) (st := []) (s_X6_isByte hq11) (by decide) (by decide) wd_1093 wd_1095 wd_57 wd_74 wd_1096 hy_X6_isByte (Rc.obj 26 ga_M rfl) rfl (Nat.le_of_ble_eq_true rfl) dX6_takesNumber_86 ?_
      refine r_if_ne (tgt := 96) dX6_takesNumber_89 (by decide) (fun c12 => ?_) (fun c12 => ?_)
      · have hf := hf_neg c12 hf
        refine r_iconst (v := 0) dX6_takesNumber_96 (by decide) ?_
        have e9 := Option.some.inj hf
        subst e9
        exact (Wa.sub [0, 3, 4] rfl kj9)
      · have hf := hf_pos c12 hf
        refine r_iconst (v := 1) dX6_takesNumber_92 (by decide) ?_
        refine r_goto (tgt := 97) dX6_takesNumber_93 (by decide) ?_
        have e9 := Option.some.inj hf
        subst e9
        exact (Wa.sub [0, 3, 4] rfl kj9)
-- DuelSamplesModel.reads
def lp_X6_reads_48 (q2 : Int32 × Int32) (a0 : Int32) (M_textLong : Int32) (M_text : Nat → Int32) : Nat → Int32 → Int32 → Int32 → (Nat → Int32) → Option (Int32 × Int32 × (Nat → Int32))
  | 0, _, _, _, _ => none
  | n9 + 1, v4_48, v5_48, M_place_48, M_numbers_48 => if v4_48 = 0 then some (v4_48, M_place_48, M_numbers_48) else Option.bind (f_X6_argsOf q2.1) (fun (q7 : Int32) => if q7 ≤ v5_48 then some (v4_48, M_place_48, M_numbers_48) else Option.bind (if q2.1 = 11 then some 6 else some 2) (fun (q10 : Int32) => Option.bind (f_X6_mostAt q2.1 v5_48 a0) (fun (q11 : Int32) => Option.bind (f_X6_takesNumber M_textLong M_place_48 M_text q10 q11) (fun (q12 : Int32 × Int32) => if inB v5_48 5 then if inB v5_48 5 then Option.bind (if ((upd M_numbers_48 (Int32.toNatClampNeg v5_48) q12.1) (Int32.toNatClampNeg v5_48)) = (-1) then some 0 else some 1) (fun (q16 : Int32) => lp_X6_reads_48 q2 a0 M_textLong M_text n9 q16 (v5_48 + 1) q12.2 (upd M_numbers_48 (Int32.toNatClampNeg v5_48) q12.1)) else none else none))))
def j_X6_reads_33 (q2 : Int32 × Int32) (a0 : Int32) (M_textLong : Int32) (M_text : Nat → Int32) (M_numbers : Nat → Int32) : Option (Int32 × Int32 × (Nat → Int32)) := Option.bind (if q2.1 = (-1) then some 0 else some 1) (fun (q5 : Int32) => Option.bind (lp_X6_reads_48 q2 a0 M_textLong M_text FU q5 0 q2.2 M_numbers) (fun (q17 : Int32 × Int32 × (Nat → Int32)) => Option.bind (f_X6_skip M_textLong q17.2.1 M_text) (fun (q18 : Int32) => if q17.1 = 0 then some ((-1), q18, q17.2.2) else Option.bind (f_X6_isByte M_textLong M_text q18 59 59) (fun (q20 : Int32) => if q20 = 0 then some ((-1), q18, q17.2.2) else some (q2.1, (q18 + 1), q17.2.2)))))
def f_X6_reads (M_textLong : Int32) (M_place : Int32) (M_text : Nat → Int32) (M_numbers : Nat → Int32) (a0 : Int32) : Option (Int32 × Int32 × (Nat → Int32)) := Option.bind (f_X6_skip M_textLong M_place M_text) (fun (q1 : Int32) => Option.bind (f_X6_takesWord M_textLong q1 M_text) (fun (q2 : Int32 × Int32) => if q2.1 = 10 then if a0 = 12 then some ((-1), q1, M_numbers) else j_X6_reads_33 q2 a0 M_textLong M_text M_numbers else j_X6_reads_33 q2 a0 M_textLong M_text M_numbers))
theorem hy_X6_reads : yX6_reads.cls ≠ "java/lang/invoke/MethodHandle" ∧ yX6_reads.cls ≠ "java/lang/invoke/VarHandle" ∧ (parseMethodDescriptor yX6_reads.desc).map (fun d => d.parameters.length) = some 1 := by decide +kernel
set_option maxHeartbeats 4000000 in
set_option maxRecDepth 100000 in
theorem w_X6_reads_48 {E : EN} {res : Option Value × Hp} {hX : TX} {hR : TR} {hL : TC} {hT : TC} {hK : TK} {hS : TS} {hP : TP} {a0 : Int32} {q2 : Int32 × Int32} {M_unitsNow : Int32} {M_way : Int32} {M_sample : Int32} {M_one : Int32} {M_two : Int32} {M_plays : Int32} {M_low : Int32} {M_high : Int32} {M_playsNow : Int32} {M_lowNow : Int32} {M_highNow : Int32} {M_textLong : Int32} {M_answerLong : Int32} {M_units : Nat → Int32} {M_refused : Nat → Int32} {M_left : Nat → Int32} {M_played : Nat → Int32} {M_playedNow : Nat → Int32} {M_canBe : Nat → Int32} {M_text : Nat → Int32} {M_answered : Nat → Int32} : ∀ (n9 : Nat) (v4_48 : Int32) (v5_48 : Int32) (M_place_48 : Int32) (M_numbers_48 : Nat → Int32) (qL : Int32 × Int32 × (Nat → Int32)), lp_X6_reads_48 q2 a0 M_textLong M_text n9 v4_48 v5_48 M_place_48 M_numbers_48 = some qL → (Wa E yX6_reads cX6_reads 6 (some .int) 5 res 118 [(0, .ref (eA E 26)), (3, .int q2.1), (4, .int qL.1)] [] (hX, hR, hL, hT, hK, hS, hP, (M_unitsNow, M_way, M_sample, M_one, M_two, M_plays, M_low, M_high, M_playsNow, M_lowNow, M_highNow, M_textLong, M_answerLong, qL.2.1, M_units, M_refused, M_left, M_played, M_playedNow, M_canBe, M_text, M_answered, qL.2.2))) → Wa E yX6_reads cX6_reads 6 (some .int) 5 res 48 [(0, .ref (eA E 26)), (1, .int a0), (3, .int q2.1), (4, .int v4_48), (5, .int v5_48)] [] (hX, hR, hL, hT, hK, hS, hP, (M_unitsNow, M_way, M_sample, M_one, M_two, M_plays, M_low, M_high, M_playsNow, M_lowNow, M_highNow, M_textLong, M_answerLong, M_place_48, M_units, M_refused, M_left, M_played, M_playedNow, M_canBe, M_text, M_answered, M_numbers_48)) := by
  intro n9
  induction n9 with
  | zero =>
    intro v4_48 v5_48 M_place_48 M_numbers_48 qL hf
    exact nomatch (show (none : Option (Int32 × Int32 × (Nat → Int32))) = some qL from hf)
  | succ n9 ih =>
    intro v4_48 v5_48 M_place_48 M_numbers_48 qL hf kx0
    rw [lp_X6_reads_48] at hf
    refine r_iload dX6_reads_48 3 rfl ?_
    refine r_if_eq (tgt := 118) dX6_reads_50 (by decide) (fun c6 => ?_) (fun c6 => ?_)
    · have hf := hf_pos c6 hf
      have e9 := Option.some.inj hf
      subst e9
      exact (Wa.sub [0, 2, 3] rfl kx0)
    · have hf := hf_neg c6 hf
      refine r_iload dX6_reads_53 4 rfl ?_
      refine r_aload_n dX6_reads_55 0 rfl ?_
      refine r_iload_n dX6_reads_56 2 rfl ?_
      obtain ⟨q7, hq7, hf⟩ := hf_bind hf
      refine r_callVi (As := [.int q2.1]) (b := (eA E 26)) (st := [.int v5_48]) (s_X6_argsOf hq7) (by decide) (by decide) wd_1108 wd_1110 wd_58 wd_74 wd_1111 hy_X6_argsOf (Rc.obj 26 ga_M rfl) rfl (Nat.le_of_ble_eq_true rfl) dX6_reads_57 ?_
      refine r_icmp_ge (tgt := 118) dX6_reads_60 (by decide) (fun c8 => ?_) (fun c8 => ?_)
      · have hf := hf_pos c8 hf
        have e9 := Option.some.inj hf
        subst e9
        exact (Wa.sub [0, 2, 3] rfl kx0)
      · have hf := hf_neg c8 hf
        refine r_aload_n dX6_reads_63 0 rfl ?_
        refine r_get (v := .ref (eA E 35)) in_X6 26 ga_M rfl 22 (by decide) wd_785 rfl rfl dX6_reads_64 ?_
        refine r_iload dX6_reads_67 4 rfl ?_
        refine r_aload_n dX6_reads_69 0 rfl ?_
        refine r_iload_n dX6_reads_70 2 rfl ?_
        refine r_bipush (v := 11) dX6_reads_71 (by decide) ?_
        obtain ⟨q10, hq10, hf⟩ := hf_bind hf
        have kj10 : Wa E yX6_reads cX6_reads 6 (some .int) 5 res 82 [(0, .ref (eA E 26)), (1, .int a0), (3, .int q2.1), (5, .int v5_48)] [.int q10, .ref (eA E 26), .int v5_48, .ref (eA E 35)] (hX, hR, hL, hT, hK, hS, hP, (M_unitsNow, M_way, M_sample, M_one, M_two, M_plays, M_low, M_high, M_playsNow, M_lowNow, M_highNow, M_textLong, M_answerLong, M_place_48, M_units, M_refused, M_left, M_played, M_playedNow, M_canBe, M_text, M_answered, M_numbers_48)) := by
          refine r_aload_n dX6_reads_82 0 rfl ?_
          refine r_iload_n dX6_reads_83 2 rfl ?_
          refine r_iload dX6_reads_84 3 rfl ?_
          refine r_iload_n dX6_reads_86 1 rfl ?_
          obtain ⟨q11, hq11, hf⟩ := hf_bind hf
          refine r_callVi (As := [.int q2.1, .int v5_48, .int a0]) (b := (eA E 26)) (st := [.int q10, .ref (eA E 26), .int v5_48, .ref (eA E 35)]) (s_X6_mostAt hq11) (by decide) (by decide) wd_1112 wd_1114 wd_59 wd_74 wd_1115 hy_X6_mostAt (Rc.obj 26 ga_M rfl) rfl (Nat.le_of_ble_eq_true rfl) dX6_reads_87 ?_
          obtain ⟨q12, hq12, hf⟩ := hf_bind hf
          refine r_callVi (As := [.int q10, .int q11]) (b := (eA E 26)) (st := [.int v5_48, .ref (eA E 35)]) (s_X6_takesNumber hq12) (by decide) (by decide) wd_1117 wd_1119 wd_60 wd_74 wd_1120 hy_X6_takesNumber (Rc.obj 26 ga_M rfl) rfl (Nat.le_of_ble_eq_true rfl) dX6_reads_90 ?_
          obtain ⟨i13, hf⟩ := hf_in hf
          refine r_iast 35 ga_M_numbers sa_M_numbers i13 dX6_reads_93 ?_
          refine r_aload_n dX6_reads_94 0 rfl ?_
          refine r_get (v := .ref (eA E 35)) in_X6 26 ga_M rfl 22 (by decide) wd_785 rfl rfl dX6_reads_95 ?_
          refine r_iload dX6_reads_98 3 rfl ?_
          obtain ⟨i14, hf⟩ := hf_in hf
          refine r_iald (f := (upd M_numbers_48 (Int32.toNatClampNeg v5_48) q12.1)) 35 ga_M_numbers i14 dX6_reads_100 ?_
          refine r_iconst (v := (-1)) dX6_reads_101 (by decide) ?_
          obtain ⟨q16, hq16, hf⟩ := hf_bind hf
          have kj16 : Wa E yX6_reads cX6_reads 6 (some .int) 5 res 110 [(0, .ref (eA E 26)), (1, .int a0), (3, .int q2.1), (5, .int v5_48)] [.int q16] (hX, hR, hL, hT, hK, hS, hP, (M_unitsNow, M_way, M_sample, M_one, M_two, M_plays, M_low, M_high, M_playsNow, M_lowNow, M_highNow, M_textLong, M_answerLong, q12.2, M_units, M_refused, M_left, M_played, M_playedNow, M_canBe, M_text, M_answered, (upd M_numbers_48 (Int32.toNatClampNeg v5_48) q12.1))) := by
            refine r_istore (lv2 := [(4, .int q16), (0, .ref (eA E 26)), (1, .int a0), (3, .int q2.1), (5, .int v5_48)]) dX6_reads_110 (by decide) rfl ?_
            refine r_iinc (v := (v5_48 + 1)) (lv2 := [(5, .int (v5_48 + 1)), (4, .int q16), (0, .ref (eA E 26)), (1, .int a0), (3, .int q2.1)]) dX6_reads_112 4 rfl rfl (by decide) rfl ?_
            refine r_goto (tgt := 48) dX6_reads_115 (by decide) ?_
            exact (Wa.sub [2, 3, 4, 1, 0] rfl (ih _ _ _ _ _ hf kx0))
          have hf := hq16
          refine r_icmp_eq (tgt := 109) dX6_reads_102 (by decide) (fun c15 => ?_) (fun c15 => ?_)
          · have hf := hf_pos c15 hf
            refine r_iconst (v := 0) dX6_reads_109 (by decide) ?_
            have e9 := Option.some.inj hf
            subst e9
            exact kj16
          · have hf := hf_neg c15 hf
            refine r_iconst (v := 1) dX6_reads_105 (by decide) ?_
            refine r_goto (tgt := 110) dX6_reads_106 (by decide) ?_
            have e9 := Option.some.inj hf
            subst e9
            exact kj16
        have hf := hq10
        refine r_icmp_ne (tgt := 81) dX6_reads_73 (by decide) (fun c9 => ?_) (fun c9 => ?_)
        · have hf := hf_neg c9 hf
          refine r_iconst (v := 2) dX6_reads_81 (by decide) ?_
          have e9 := Option.some.inj hf
          subst e9
          exact (Wa.sub [0, 1, 2, 4] rfl kj10)
        · have hf := hf_pos c9 hf
          refine r_bipush (v := 6) dX6_reads_76 (by decide) ?_
          refine r_goto (tgt := 82) dX6_reads_78 (by decide) ?_
          have e9 := Option.some.inj hf
          subst e9
          exact (Wa.sub [0, 1, 2, 4] rfl kj10)
set_option maxHeartbeats 4000000 in
set_option maxRecDepth 100000 in
theorem wj_X6_reads_33 {E : EN} {hX : TX} {hR : TR} {hL : TC} {hT : TC} {hK : TK} {hS : TS} {hP : TP} {M_unitsNow : Int32} {M_way : Int32} {M_sample : Int32} {M_one : Int32} {M_two : Int32} {M_plays : Int32} {M_low : Int32} {M_high : Int32} {M_playsNow : Int32} {M_lowNow : Int32} {M_highNow : Int32} {M_textLong : Int32} {M_answerLong : Int32} {M_units : Nat → Int32} {M_refused : Nat → Int32} {M_left : Nat → Int32} {M_played : Nat → Int32} {M_playedNow : Nat → Int32} {M_canBe : Nat → Int32} {M_text : Nat → Int32} {M_answered : Nat → Int32} {a0 : Int32} {q2 : Int32 × Int32} {M_numbers : Nat → Int32} {qR : Int32 × Int32 × (Nat → Int32)} (hf : j_X6_reads_33 q2 a0 M_textLong M_text M_numbers = some qR) : Wa E yX6_reads cX6_reads 6 (some .int) 5 (some (.int qR.1), (hX, hR, hL, hT, hK, hS, hP, (M_unitsNow, M_way, M_sample, M_one, M_two, M_plays, M_low, M_high, M_playsNow, M_lowNow, M_highNow, M_textLong, M_answerLong, qR.2.1, M_units, M_refused, M_left, M_played, M_playedNow, M_canBe, M_text, M_answered, qR.2.2))) 33 [(0, .ref (eA E 26)), (1, .int a0), (3, .int q2.1)] [] (hX, hR, hL, hT, hK, hS, hP, (M_unitsNow, M_way, M_sample, M_one, M_two, M_plays, M_low, M_high, M_playsNow, M_lowNow, M_highNow, M_textLong, M_answerLong, q2.2, M_units, M_refused, M_left, M_played, M_playedNow, M_canBe, M_text, M_answered, M_numbers)) := by
  rw [j_X6_reads_33] at hf
  refine r_iload_n dX6_reads_33 2 rfl ?_
  refine r_iconst (v := (-1)) dX6_reads_34 (by decide) ?_
  obtain ⟨q5, hq5, hf⟩ := hf_bind hf
  have kj5 : Wa E yX6_reads cX6_reads 6 (some .int) 5 (some (.int qR.1), (hX, hR, hL, hT, hK, hS, hP, (M_unitsNow, M_way, M_sample, M_one, M_two, M_plays, M_low, M_high, M_playsNow, M_lowNow, M_highNow, M_textLong, M_answerLong, qR.2.1, M_units, M_refused, M_left, M_played, M_playedNow, M_canBe, M_text, M_answered, qR.2.2))) 43 [(0, .ref (eA E 26)), (1, .int a0), (3, .int q2.1)] [.int q5] (hX, hR, hL, hT, hK, hS, hP, (M_unitsNow, M_way, M_sample, M_one, M_two, M_plays, M_low, M_high, M_playsNow, M_lowNow, M_highNow, M_textLong, M_answerLong, q2.2, M_units, M_refused, M_left, M_played, M_playedNow, M_canBe, M_text, M_answered, M_numbers)) := by
    refine r_istore (lv2 := [(4, .int q5), (0, .ref (eA E 26)), (1, .int a0), (3, .int q2.1)]) dX6_reads_43 (by decide) rfl ?_
    refine r_iconst (v := 0) dX6_reads_45 (by decide) ?_
    refine r_istore (lv2 := [(5, .int 0), (4, .int q5), (0, .ref (eA E 26)), (1, .int a0), (3, .int q2.1)]) dX6_reads_46 (by decide) rfl ?_
    obtain ⟨q17, hq17, hf⟩ := hf_bind hf
    refine (Wa.sub [2, 3, 4, 1, 0] rfl (w_X6_reads_48 _ _ _ _ _ _ hq17 ?_))
    refine r_aload_n dX6_reads_118 0 rfl ?_
    obtain ⟨q18, hq18, hf⟩ := hf_bind hf
    refine r_callVv (As := []) (b := (eA E 26)) (st := []) (s_X6_skip hq18) (by decide) (by decide) wd_1081 wd_1083 wd_54 wd_74 wd_1084 hy_X6_skip (Rc.obj 26 ga_M rfl) rfl (Nat.le_of_ble_eq_true rfl) dX6_reads_119 ?_
    refine r_iload dX6_reads_122 2 rfl ?_
    refine r_if_eq (tgt := 142) dX6_reads_124 (by decide) (fun c19 => ?_) (fun c19 => ?_)
    · have hf := hf_pos c19 hf
      refine r_iconst (v := (-1)) dX6_reads_142 (by decide) ?_
      have e9 := Option.some.inj hf
      subst e9
      exact r_iret rfl dX6_reads_143
    · have hf := hf_neg c19 hf
      refine r_aload_n dX6_reads_127 0 rfl ?_
      refine r_aload_n dX6_reads_128 0 rfl ?_
      refine r_get (v := .int q18) in_X6 26 ga_M rfl 21 (by decide) wd_784 rfl rfl dX6_reads_129 ?_
      refine r_bipush (v := 59) dX6_reads_132 (by decide) ?_
      refine r_bipush (v := 59) dX6_reads_134 (by decide) ?_
      obtain ⟨q20, hq20, hf⟩ := hf_bind hf
      refine r_callVi (As := [.int q18, .int 59, .int 59]) (b := (eA E 26)) (st := []) (s_X6_isByte hq20) (by decide) (by decide) wd_1093 wd_1095 wd_57 wd_74 wd_1096 hy_X6_isByte (Rc.obj 26 ga_M rfl) rfl (Nat.le_of_ble_eq_true rfl) dX6_reads_136 ?_
      refine r_if_ne (tgt := 144) dX6_reads_139 (by decide) (fun c21 => ?_) (fun c21 => ?_)
      · have hf := hf_neg c21 hf
        refine r_aload_n dX6_reads_144 0 rfl ?_
        refine r_dup dX6_reads_145 rfl ?_
        refine r_get (v := .int q18) in_X6 26 ga_M rfl 21 (by decide) wd_784 rfl rfl dX6_reads_146 ?_
        refine r_iconst (v := 1) dX6_reads_149 (by decide) ?_
        refine r_iadd dX6_reads_150 ?_
        refine r_put in_X6 tyX6_ok nmX6 26 ga_M rfl 21 (by decide) wd_784 rfl rfl pfI (Nat.le_of_ble_eq_true rfl) sa_M_place dX6_reads_151 ?_
        refine r_iload_n dX6_reads_154 1 rfl ?_
        have e9 := Option.some.inj hf
        subst e9
        exact r_iret rfl dX6_reads_155
      · have hf := hf_pos c21 hf
        refine r_iconst (v := (-1)) dX6_reads_142 (by decide) ?_
        have e9 := Option.some.inj hf
        subst e9
        exact r_iret rfl dX6_reads_143
  have hf := hq5
  refine r_icmp_eq (tgt := 42) dX6_reads_35 (by decide) (fun c4 => ?_) (fun c4 => ?_)
  · have hf := hf_pos c4 hf
    refine r_iconst (v := 0) dX6_reads_42 (by decide) ?_
    have e9 := Option.some.inj hf
    subst e9
    exact kj5
  · have hf := hf_neg c4 hf
    refine r_iconst (v := 1) dX6_reads_38 (by decide) ?_
    refine r_goto (tgt := 43) dX6_reads_39 (by decide) ?_
    have e9 := Option.some.inj hf
    subst e9
    exact kj5
set_option maxHeartbeats 4000000 in
set_option maxRecDepth 100000 in
theorem s_X6_reads {E : EN} {hX : TX} {hR : TR} {hL : TC} {hT : TC} {hK : TK} {hS : TS} {hP : TP} {M_unitsNow : Int32} {M_way : Int32} {M_sample : Int32} {M_one : Int32} {M_two : Int32} {M_plays : Int32} {M_low : Int32} {M_high : Int32} {M_playsNow : Int32} {M_lowNow : Int32} {M_highNow : Int32} {M_textLong : Int32} {M_answerLong : Int32} {M_place : Int32} {M_units : Nat → Int32} {M_refused : Nat → Int32} {M_left : Nat → Int32} {M_played : Nat → Int32} {M_playedNow : Nat → Int32} {M_canBe : Nat → Int32} {M_text : Nat → Int32} {M_answered : Nat → Int32} {M_numbers : Nat → Int32} {a0 : Int32} {qR : Int32 × Int32 × (Nat → Int32)} (hf : f_X6_reads M_textLong M_place M_text M_numbers a0 = some qR) : Sem E yX6_reads cX6_reads 6 (some .int) 5 [.ref (eA E 26), .int a0] (hX, hR, hL, hT, hK, hS, hP, (M_unitsNow, M_way, M_sample, M_one, M_two, M_plays, M_low, M_high, M_playsNow, M_lowNow, M_highNow, M_textLong, M_answerLong, M_place, M_units, M_refused, M_left, M_played, M_playedNow, M_canBe, M_text, M_answered, M_numbers)) (some (.int qR.1), (hX, hR, hL, hT, hK, hS, hP, (M_unitsNow, M_way, M_sample, M_one, M_two, M_plays, M_low, M_high, M_playsNow, M_lowNow, M_highNow, M_textLong, M_answerLong, qR.2.1, M_units, M_refused, M_left, M_played, M_playedNow, M_canBe, M_text, M_answered, qR.2.2))) := by
  refine Sem.mk (lv := [(0, .ref (eA E 26)), (1, .int a0)]) (by decide) (Nat.le_of_ble_eq_true rfl) rfl ?_
  rw [f_X6_reads] at hf
  refine r_aload_n dX6_reads_0 0 rfl ?_
  obtain ⟨q1, hq1, hf⟩ := hf_bind hf
  refine r_callVv (As := []) (b := (eA E 26)) (st := []) (s_X6_skip hq1) (by decide) (by decide) wd_1081 wd_1083 wd_54 wd_74 wd_1084 hy_X6_skip (Rc.obj 26 ga_M rfl) rfl (Nat.le_of_ble_eq_true rfl) dX6_reads_1 ?_
  refine r_aload_n dX6_reads_4 0 rfl ?_
  refine r_get (v := .int q1) in_X6 26 ga_M rfl 21 (by decide) wd_784 rfl rfl dX6_reads_5 ?_
  refine r_istore_n (lv2 := [(2, .int q1), (0, .ref (eA E 26)), (1, .int a0)]) dX6_reads_8 rfl (by decide) rfl ?_
  refine r_aload_n dX6_reads_9 1 rfl ?_
  obtain ⟨q2, hq2, hf⟩ := hf_bind hf
  refine r_callVi (As := []) (b := (eA E 26)) (st := []) (s_X6_takesWord hq2) (by decide) (by decide) wd_1089 wd_1091 wd_56 wd_74 wd_1092 hy_X6_takesWord (Rc.obj 26 ga_M rfl) rfl (Nat.le_of_ble_eq_true rfl) dX6_reads_10 ?_
  refine r_istore_n (lv2 := [(3, .int q2.1), (2, .int q1), (0, .ref (eA E 26)), (1, .int a0)]) dX6_reads_13 rfl (by decide) rfl ?_
  refine r_iload_n dX6_reads_14 0 rfl ?_
  refine r_bipush (v := 10) dX6_reads_15 (by decide) ?_
  refine r_icmp_ne (tgt := 33) dX6_reads_17 (by decide) (fun c3 => ?_) (fun c3 => ?_)
  · have hf := hf_neg c3 hf
    exact (Wa.sub [2, 3, 0] rfl (wj_X6_reads_33 hf))
  · have hf := hf_pos c3 hf
    refine r_iload_n dX6_reads_20 3 rfl ?_
    refine r_bipush (v := 12) dX6_reads_21 (by decide) ?_
    refine r_icmp_ne (tgt := 33) dX6_reads_23 (by decide) (fun c22 => ?_) (fun c22 => ?_)
    · have hf := hf_neg c22 hf
      exact (Wa.sub [2, 3, 0] rfl (wj_X6_reads_33 hf))
    · have hf := hf_pos c22 hf
      refine r_aload_n dX6_reads_26 2 rfl ?_
      refine r_iload_n dX6_reads_27 1 rfl ?_
      refine r_put in_X6 tyX6_ok nmX6 26 ga_M rfl 21 (by decide) wd_784 rfl rfl pfI (Nat.le_of_ble_eq_true rfl) sa_M_place dX6_reads_28 ?_
      refine r_iconst (v := (-1)) dX6_reads_31 (by decide) ?_
      have e9 := Option.some.inj hf
      subst e9
      exact r_iret rfl dX6_reads_32
-- DuelSamplesModel.tells
def f_X6_tells (M_answerLong : Int32) (M_answered : Nat → Int32) (a0 : Int32) : Option (Int32 × (Nat → Int32)) := if 300 ≤ M_answerLong then some (M_answerLong, M_answered) else if inB M_answerLong 300 then some ((M_answerLong + 1), (upd M_answered (Int32.toNatClampNeg M_answerLong) a0)) else none
theorem hy_X6_tells : yX6_tells.cls ≠ "java/lang/invoke/MethodHandle" ∧ yX6_tells.cls ≠ "java/lang/invoke/VarHandle" ∧ (parseMethodDescriptor yX6_tells.desc).map (fun d => d.parameters.length) = some 1 := by decide +kernel
set_option maxHeartbeats 4000000 in
set_option maxRecDepth 100000 in
theorem s_X6_tells {E : EN} {hX : TX} {hR : TR} {hL : TC} {hT : TC} {hK : TK} {hS : TS} {hP : TP} {M_unitsNow : Int32} {M_way : Int32} {M_sample : Int32} {M_one : Int32} {M_two : Int32} {M_plays : Int32} {M_low : Int32} {M_high : Int32} {M_playsNow : Int32} {M_lowNow : Int32} {M_highNow : Int32} {M_textLong : Int32} {M_answerLong : Int32} {M_place : Int32} {M_units : Nat → Int32} {M_refused : Nat → Int32} {M_left : Nat → Int32} {M_played : Nat → Int32} {M_playedNow : Nat → Int32} {M_canBe : Nat → Int32} {M_text : Nat → Int32} {M_answered : Nat → Int32} {M_numbers : Nat → Int32} {a0 : Int32} {qR : Int32 × (Nat → Int32)} (hf : f_X6_tells M_answerLong M_answered a0 = some qR) : Sem E yX6_tells cX6_tells 2 none 1 [.ref (eA E 26), .int a0] (hX, hR, hL, hT, hK, hS, hP, (M_unitsNow, M_way, M_sample, M_one, M_two, M_plays, M_low, M_high, M_playsNow, M_lowNow, M_highNow, M_textLong, M_answerLong, M_place, M_units, M_refused, M_left, M_played, M_playedNow, M_canBe, M_text, M_answered, M_numbers)) (none, (hX, hR, hL, hT, hK, hS, hP, (M_unitsNow, M_way, M_sample, M_one, M_two, M_plays, M_low, M_high, M_playsNow, M_lowNow, M_highNow, M_textLong, qR.1, M_place, M_units, M_refused, M_left, M_played, M_playedNow, M_canBe, M_text, qR.2, M_numbers))) := by
  refine Sem.mk (lv := [(0, .ref (eA E 26)), (1, .int a0)]) (by decide) (Nat.le_of_ble_eq_true rfl) rfl ?_
  rw [f_X6_tells] at hf
  refine r_aload_n dX6_tells_0 0 rfl ?_
  refine r_get (v := .int M_answerLong) in_X6 26 ga_M rfl 20 (by decide) wd_783 rfl rfl dX6_tells_1 ?_
  refine r_sipush (v := 300) dX6_tells_4 (by decide) ?_
  refine r_icmp_ge (tgt := 30) dX6_tells_7 (by decide) (fun c1 => ?_) (fun c1 => ?_)
  · have hf := hf_pos c1 hf
    have e9 := Option.some.inj hf
    subst e9
    exact r_vret rfl dX6_tells_30
  · have hf := hf_neg c1 hf
    refine r_aload_n dX6_tells_10 0 rfl ?_
    refine r_get (v := .ref (eA E 34)) in_X6 26 ga_M rfl 19 (by decide) wd_782 rfl rfl dX6_tells_11 ?_
    refine r_aload_n dX6_tells_14 0 rfl ?_
    refine r_get (v := .int M_answerLong) in_X6 26 ga_M rfl 20 (by decide) wd_783 rfl rfl dX6_tells_15 ?_
    refine r_iload_n dX6_tells_18 1 rfl ?_
    obtain ⟨i2, hf⟩ := hf_in hf
    refine r_iast 34 ga_M_answered sa_M_answered i2 dX6_tells_19 ?_
    refine r_aload_n dX6_tells_20 0 rfl ?_
    refine r_dup dX6_tells_21 rfl ?_
    refine r_get (v := .int M_answerLong) in_X6 26 ga_M rfl 20 (by decide) wd_783 rfl rfl dX6_tells_22 ?_
    refine r_iconst (v := 1) dX6_tells_25 (by decide) ?_
    refine r_iadd dX6_tells_26 ?_
    refine r_put in_X6 tyX6_ok nmX6 26 ga_M rfl 20 (by decide) wd_783 rfl rfl pfI (Nat.le_of_ble_eq_true rfl) sa_M_answerLong dX6_tells_27 ?_
    have e9 := Option.some.inj hf
    subst e9
    exact r_vret rfl dX6_tells_30
-- DuelSamplesModel.tellsWord
def lp_X6_tellsWord_8 (q1 : Int64) : Nat → Int64 → Option (Int64)
  | 0, _ => none
  | n9 + 1, v4_8 => if 0 < (lg_cmp (v4_8 * 27) q1) then some v4_8 else lp_X6_tellsWord_8 q1 n9 (v4_8 * 27)
def lp_X6_tellsWord_30  : Nat → Int64 → Int64 → Int32 → (Nat → Int32) → Option (Int32 × (Nat → Int32))
  | 0, _, _, _, _ => none
  | n9 + 1, v2_30, v4_30, M_answerLong_30, M_answered_30 => if (lg_cmp v4_30 0) ≤ 0 then some (M_answerLong_30, M_answered_30) else if v4_30 = 0 then none else Option.bind (f_X6_tells M_answerLong_30 M_answered_30 (((Int64.toInt32 (v2_30 / v4_30)) + 97) - 1)) (fun (q6 : Int32 × (Nat → Int32)) => if v4_30 = 0 then none else lp_X6_tellsWord_30 n9 (v2_30 - v2_30 / v4_30 * v4_30) (v4_30 / 27) q6.1 q6.2)
def f_X6_tellsWord (M_answerLong : Int32) (M_answered : Nat → Int32) (a0 : Int32) : Option (Int32 × (Nat → Int32)) := Option.bind (f_X6_letters a0) (fun (q1 : Int64) => Option.bind (lp_X6_tellsWord_8 q1 FU 1) (fun (q3 : Int64) => Option.bind (lp_X6_tellsWord_30  FU q1 q3 M_answerLong M_answered) (fun (q8 : Int32 × (Nat → Int32)) => some (q8.1, q8.2))))
theorem hy_X6_tellsWord : yX6_tellsWord.cls ≠ "java/lang/invoke/MethodHandle" ∧ yX6_tellsWord.cls ≠ "java/lang/invoke/VarHandle" ∧ (parseMethodDescriptor yX6_tellsWord.desc).map (fun d => d.parameters.length) = some 1 := by decide +kernel
set_option maxHeartbeats 4000000 in
set_option maxRecDepth 100000 in
theorem w_X6_tellsWord_8 {E : EN} {res : Option Value × Hp} {hX : TX} {hR : TR} {hL : TC} {hT : TC} {hK : TK} {hS : TS} {hP : TP} {q1 : Int64} {M_unitsNow : Int32} {M_way : Int32} {M_sample : Int32} {M_one : Int32} {M_two : Int32} {M_plays : Int32} {M_low : Int32} {M_high : Int32} {M_playsNow : Int32} {M_lowNow : Int32} {M_highNow : Int32} {M_textLong : Int32} {M_answerLong : Int32} {M_place : Int32} {M_units : Nat → Int32} {M_refused : Nat → Int32} {M_left : Nat → Int32} {M_played : Nat → Int32} {M_playedNow : Nat → Int32} {M_canBe : Nat → Int32} {M_text : Nat → Int32} {M_answered : Nat → Int32} {M_numbers : Nat → Int32} : ∀ (n9 : Nat) (v4_8 : Int64) (qL : Int64), lp_X6_tellsWord_8 q1 n9 v4_8 = some qL → (Wa E yX6_tellsWord cX6_tellsWord 6 none 4 res 30 [(0, .ref (eA E 26)), (2, .long q1), (4, .long qL)] [] (hX, hR, hL, hT, hK, hS, hP, (M_unitsNow, M_way, M_sample, M_one, M_two, M_plays, M_low, M_high, M_playsNow, M_lowNow, M_highNow, M_textLong, M_answerLong, M_place, M_units, M_refused, M_left, M_played, M_playedNow, M_canBe, M_text, M_answered, M_numbers))) → Wa E yX6_tellsWord cX6_tellsWord 6 none 4 res 8 [(0, .ref (eA E 26)), (2, .long q1), (4, .long v4_8)] [] (hX, hR, hL, hT, hK, hS, hP, (M_unitsNow, M_way, M_sample, M_one, M_two, M_plays, M_low, M_high, M_playsNow, M_lowNow, M_highNow, M_textLong, M_answerLong, M_place, M_units, M_refused, M_left, M_played, M_playedNow, M_canBe, M_text, M_answered, M_numbers)) := by
  intro n9
  induction n9 with
  | zero =>
    intro v4_8 qL hf
    exact nomatch (show (none : Option (Int64)) = some qL from hf)
  | succ n9 ih =>
    intro v4_8 qL hf kx0
    rw [lp_X6_tellsWord_8] at hf
    refine r_lload dX6_tellsWord_8 2 rfl ?_
    refine r_ldc2 (v := 27) wd_1100 dX6_tellsWord_10 ?_
    refine r_lmul dX6_tellsWord_13 ?_
    refine r_lload_n dX6_tellsWord_14 1 rfl ?_
    refine r_lcmp dX6_tellsWord_15 ?_
    refine r_if_gt (tgt := 30) dX6_tellsWord_16 (by decide) (fun c2 => ?_) (fun c2 => ?_)
    · have hf := hf_pos c2 hf
      have e9 := Option.some.inj hf
      subst e9
      exact kx0
    · have hf := hf_neg c2 hf
      refine r_lload dX6_tellsWord_19 2 rfl ?_
      refine r_ldc2 (v := 27) wd_1100 dX6_tellsWord_21 ?_
      refine r_lmul dX6_tellsWord_24 ?_
      refine r_lstore (lv2 := [(4, .long (v4_8 * 27)), (0, .ref (eA E 26)), (2, .long q1)]) dX6_tellsWord_25 (by decide) rfl ?_
      refine r_goto (tgt := 8) dX6_tellsWord_27 (by decide) ?_
      exact (Wa.sub [1, 2, 0] rfl (ih _ _ hf kx0))
set_option maxHeartbeats 4000000 in
set_option maxRecDepth 100000 in
theorem w_X6_tellsWord_30 {E : EN} {res : Option Value × Hp} {hX : TX} {hR : TR} {hL : TC} {hT : TC} {hK : TK} {hS : TS} {hP : TP} {M_unitsNow : Int32} {M_way : Int32} {M_sample : Int32} {M_one : Int32} {M_two : Int32} {M_plays : Int32} {M_low : Int32} {M_high : Int32} {M_playsNow : Int32} {M_lowNow : Int32} {M_highNow : Int32} {M_textLong : Int32} {M_place : Int32} {M_units : Nat → Int32} {M_refused : Nat → Int32} {M_left : Nat → Int32} {M_played : Nat → Int32} {M_playedNow : Nat → Int32} {M_canBe : Nat → Int32} {M_text : Nat → Int32} {M_numbers : Nat → Int32} : ∀ (n9 : Nat) (v2_30 : Int64) (v4_30 : Int64) (M_answerLong_30 : Int32) (M_answered_30 : Nat → Int32) (qL : Int32 × (Nat → Int32)), lp_X6_tellsWord_30  n9 v2_30 v4_30 M_answerLong_30 M_answered_30 = some qL → (Wa E yX6_tellsWord cX6_tellsWord 6 none 4 res 67 [] [] (hX, hR, hL, hT, hK, hS, hP, (M_unitsNow, M_way, M_sample, M_one, M_two, M_plays, M_low, M_high, M_playsNow, M_lowNow, M_highNow, M_textLong, qL.1, M_place, M_units, M_refused, M_left, M_played, M_playedNow, M_canBe, M_text, qL.2, M_numbers))) → Wa E yX6_tellsWord cX6_tellsWord 6 none 4 res 30 [(0, .ref (eA E 26)), (2, .long v2_30), (4, .long v4_30)] [] (hX, hR, hL, hT, hK, hS, hP, (M_unitsNow, M_way, M_sample, M_one, M_two, M_plays, M_low, M_high, M_playsNow, M_lowNow, M_highNow, M_textLong, M_answerLong_30, M_place, M_units, M_refused, M_left, M_played, M_playedNow, M_canBe, M_text, M_answered_30, M_numbers)) := by
  intro n9
  induction n9 with
  | zero =>
    intro v2_30 v4_30 M_answerLong_30 M_answered_30 qL hf
    exact nomatch (show (none : Option (Int32 × (Nat → Int32))) = some qL from hf)
  | succ n9 ih =>
    intro v2_30 v4_30 M_answerLong_30 M_answered_30 qL hf kx0
    rw [lp_X6_tellsWord_30] at hf
    refine r_lload dX6_tellsWord_30 2 rfl ?_
    refine r_lconst (v := 0) dX6_tellsWord_32 (by decide) ?_
    refine r_lcmp dX6_tellsWord_33 ?_
    refine r_if_le (tgt := 67) dX6_tellsWord_34 (by decide) (fun c4 => ?_) (fun c4 => ?_)
    · have hf := hf_pos c4 hf
      have e9 := Option.some.inj hf
      subst e9
      exact (Wa.sub [] rfl kx0)
    · have hf := hf_neg c4 hf
      refine r_aload_n dX6_tellsWord_37 0 rfl ?_
      refine r_lload_n dX6_tellsWord_38 1 rfl ?_
      refine r_lload dX6_tellsWord_39 2 rfl ?_
      obtain ⟨z5, hf⟩ := hf_nz hf
      refine r_ldiv dX6_tellsWord_41 z5 ?_
      refine r_l2i dX6_tellsWord_42 ?_
      refine r_bipush (v := 97) dX6_tellsWord_43 (by decide) ?_
      refine r_iadd dX6_tellsWord_45 ?_
      refine r_iconst (v := 1) dX6_tellsWord_46 (by decide) ?_
      refine r_isub dX6_tellsWord_47 ?_
      obtain ⟨q6, hq6, hf⟩ := hf_bind hf
      refine r_callVv (As := [.int (((Int64.toInt32 (v2_30 / v4_30)) + 97) - 1)]) (b := (eA E 26)) (st := []) (s_X6_tells hq6) (by decide) (by decide) wd_1121 wd_1123 wd_61 wd_74 wd_1124 hy_X6_tells (Rc.obj 26 ga_M rfl) rfl (Nat.le_of_ble_eq_true rfl) dX6_tellsWord_48 ?_
      refine r_lload_n dX6_tellsWord_51 1 rfl ?_
      refine r_lload dX6_tellsWord_52 2 rfl ?_
      obtain ⟨z7, hf⟩ := hf_nz hf
      refine r_lrem dX6_tellsWord_54 z7 ?_
      refine r_lstore_n (lv2 := [(2, .long (v2_30 - v2_30 / v4_30 * v4_30)), (0, .ref (eA E 26)), (4, .long v4_30)]) dX6_tellsWord_55 rfl (by decide) rfl ?_
      refine r_lload dX6_tellsWord_56 2 rfl ?_
      refine r_ldc2 (v := 27) wd_1100 dX6_tellsWord_58 ?_
      refine r_ldiv dX6_tellsWord_61 (by decide) ?_
      refine r_lstore (lv2 := [(4, .long (v4_30 / 27)), (2, .long (v2_30 - v2_30 / v4_30 * v4_30)), (0, .ref (eA E 26))]) dX6_tellsWord_62 (by decide) rfl ?_
      refine r_goto (tgt := 30) dX6_tellsWord_64 (by decide) ?_
      exact (Wa.sub [2, 1, 0] rfl (ih _ _ _ _ _ hf kx0))
set_option maxHeartbeats 4000000 in
set_option maxRecDepth 100000 in
theorem s_X6_tellsWord {E : EN} {hX : TX} {hR : TR} {hL : TC} {hT : TC} {hK : TK} {hS : TS} {hP : TP} {M_unitsNow : Int32} {M_way : Int32} {M_sample : Int32} {M_one : Int32} {M_two : Int32} {M_plays : Int32} {M_low : Int32} {M_high : Int32} {M_playsNow : Int32} {M_lowNow : Int32} {M_highNow : Int32} {M_textLong : Int32} {M_answerLong : Int32} {M_place : Int32} {M_units : Nat → Int32} {M_refused : Nat → Int32} {M_left : Nat → Int32} {M_played : Nat → Int32} {M_playedNow : Nat → Int32} {M_canBe : Nat → Int32} {M_text : Nat → Int32} {M_answered : Nat → Int32} {M_numbers : Nat → Int32} {a0 : Int32} {qR : Int32 × (Nat → Int32)} (hf : f_X6_tellsWord M_answerLong M_answered a0 = some qR) : Sem E yX6_tellsWord cX6_tellsWord 6 none 4 [.ref (eA E 26), .int a0] (hX, hR, hL, hT, hK, hS, hP, (M_unitsNow, M_way, M_sample, M_one, M_two, M_plays, M_low, M_high, M_playsNow, M_lowNow, M_highNow, M_textLong, M_answerLong, M_place, M_units, M_refused, M_left, M_played, M_playedNow, M_canBe, M_text, M_answered, M_numbers)) (none, (hX, hR, hL, hT, hK, hS, hP, (M_unitsNow, M_way, M_sample, M_one, M_two, M_plays, M_low, M_high, M_playsNow, M_lowNow, M_highNow, M_textLong, qR.1, M_place, M_units, M_refused, M_left, M_played, M_playedNow, M_canBe, M_text, qR.2, M_numbers))) := by
  refine Sem.mk (lv := [(0, .ref (eA E 26)), (1, .int a0)]) (by decide) (Nat.le_of_ble_eq_true rfl) rfl ?_
  rw [f_X6_tellsWord] at hf
  refine r_iload_n dX6_tellsWord_0 1 rfl ?_
  obtain ⟨q1, hq1, hf⟩ := hf_bind hf
  refine r_callSl (As := [.int a0]) (st := []) (s_X6_letters hq1) (by decide) (by decide) wd_1102 wd_1103 wd_74 wd_1104 hy_X6_letters rfl (Nat.le_of_ble_eq_true rfl) dX6_tellsWord_1 ?_
  refine r_lstore_n (lv2 := [(2, .long q1), (0, .ref (eA E 26)), (1, .int a0)]) dX6_tellsWord_4 rfl (by decide) rfl ?_
  refine r_lconst (v := 1) dX6_tellsWord_5 (by decide) ?_
  refine r_lstore (lv2 := [(4, .long 1), (2, .long q1), (0, .ref (eA E 26)), (1, .int a0)]) dX6_tellsWord_6 (by decide) rfl ?_
  obtain ⟨q3, hq3, hf⟩ := hf_bind hf
  refine (Wa.sub [2, 1, 0] rfl (w_X6_tellsWord_8 _ _ _ hq3 ?_))
  obtain ⟨q8, hq8, hf⟩ := hf_bind hf
  refine (w_X6_tellsWord_30 _ _ _ _ _ _ hq8 ?_)
  have e9 := Option.some.inj hf
  subst e9
  exact r_vret rfl dX6_tellsWord_67
-- DuelSamplesModel.tellsNumber
def f_X6_tellsNumber (M_answerLong : Int32) (M_answered : Nat → Int32) (a0 : Int32) : Option (Int32 × (Nat → Int32)) := Option.bind (if a0 ≤ 9 then some (M_answerLong, M_answered) else Option.bind (f_X6_tells M_answerLong M_answered (48 + (a0 / 10))) (fun (q3 : Int32 × (Nat → Int32)) => some (q3.1, q3.2))) (fun (q2 : Int32 × (Nat → Int32)) => Option.bind (f_X6_tells q2.1 q2.2 (48 + (a0 - a0 / 10 * 10))) (fun (q4 : Int32 × (Nat → Int32)) => some (q4.1, q4.2)))
theorem hy_X6_tellsNumber : yX6_tellsNumber.cls ≠ "java/lang/invoke/MethodHandle" ∧ yX6_tellsNumber.cls ≠ "java/lang/invoke/VarHandle" ∧ (parseMethodDescriptor yX6_tellsNumber.desc).map (fun d => d.parameters.length) = some 1 := by decide +kernel
set_option maxHeartbeats 4000000 in
set_option maxRecDepth 100000 in
theorem s_X6_tellsNumber {E : EN} {hX : TX} {hR : TR} {hL : TC} {hT : TC} {hK : TK} {hS : TS} {hP : TP} {M_unitsNow : Int32} {M_way : Int32} {M_sample : Int32} {M_one : Int32} {M_two : Int32} {M_plays : Int32} {M_low : Int32} {M_high : Int32} {M_playsNow : Int32} {M_lowNow : Int32} {M_highNow : Int32} {M_textLong : Int32} {M_answerLong : Int32} {M_place : Int32} {M_units : Nat → Int32} {M_refused : Nat → Int32} {M_left : Nat → Int32} {M_played : Nat → Int32} {M_playedNow : Nat → Int32} {M_canBe : Nat → Int32} {M_text : Nat → Int32} {M_answered : Nat → Int32} {M_numbers : Nat → Int32} {a0 : Int32} {qR : Int32 × (Nat → Int32)} (hf : f_X6_tellsNumber M_answerLong M_answered a0 = some qR) : Sem E yX6_tellsNumber cX6_tellsNumber 2 none 2 [.ref (eA E 26), .int a0] (hX, hR, hL, hT, hK, hS, hP, (M_unitsNow, M_way, M_sample, M_one, M_two, M_plays, M_low, M_high, M_playsNow, M_lowNow, M_highNow, M_textLong, M_answerLong, M_place, M_units, M_refused, M_left, M_played, M_playedNow, M_canBe, M_text, M_answered, M_numbers)) (none, (hX, hR, hL, hT, hK, hS, hP, (M_unitsNow, M_way, M_sample, M_one, M_two, M_plays, M_low, M_high, M_playsNow, M_lowNow, M_highNow, M_textLong, qR.1, M_place, M_units, M_refused, M_left, M_played, M_playedNow, M_canBe, M_text, qR.2, M_numbers))) := by
  refine Sem.mk (lv := [(0, .ref (eA E 26)), (1, .int a0)]) (by decide) (Nat.le_of_ble_eq_true rfl) rfl ?_
  rw [f_X6_tellsNumber] at hf
  refine r_iload_n dX6_tellsNumber_0 1 rfl ?_
  refine r_bipush (v := 9) dX6_tellsNumber_1 (by decide) ?_
  obtain ⟨q2, hq2, hf⟩ := hf_bind hf
  have kj2 : Wa E yX6_tellsNumber cX6_tellsNumber 2 none 2 (none, (hX, hR, hL, hT, hK, hS, hP, (M_unitsNow, M_way, M_sample, M_one, M_two, M_plays, M_low, M_high, M_playsNow, M_lowNow, M_highNow, M_textLong, qR.1, M_place, M_units, M_refused, M_left, M_played, M_playedNow, M_canBe, M_text, qR.2, M_numbers))) 17 [(0, .ref (eA E 26)), (1, .int a0)] [] (hX, hR, hL, hT, hK, hS, hP, (M_unitsNow, M_way, M_sample, M_one, M_two, M_plays, M_low, M_high, M_playsNow, M_lowNow, M_highNow, M_textLong, q2.1, M_place, M_units, M_refused, M_left, M_played, M_playedNow, M_canBe, M_text, q2.2, M_numbers)) := by
    refine r_aload_n dX6_tellsNumber_17 0 rfl ?_
    refine r_bipush (v := 48) dX6_tellsNumber_18 (by decide) ?_
    refine r_iload_n dX6_tellsNumber_20 1 rfl ?_
    refine r_bipush (v := 10) dX6_tellsNumber_21 (by decide) ?_
    refine r_irem dX6_tellsNumber_23 (by decide) ?_
    refine r_iadd dX6_tellsNumber_24 ?_
    obtain ⟨q4, hq4, hf⟩ := hf_bind hf
    refine r_callVv (As := [.int (48 + (a0 - a0 / 10 * 10))]) (b := (eA E 26)) (st := []) (s_X6_tells hq4) (by decide) (by decide) wd_1121 wd_1123 wd_61 wd_74 wd_1124 hy_X6_tells (Rc.obj 26 ga_M rfl) rfl (Nat.le_of_ble_eq_true rfl) dX6_tellsNumber_25 ?_
    have e9 := Option.some.inj hf
    subst e9
    exact r_vret rfl dX6_tellsNumber_28
  have hf := hq2
  refine r_icmp_le (tgt := 17) dX6_tellsNumber_3 (by decide) (fun c1 => ?_) (fun c1 => ?_)
  · have hf := hf_pos c1 hf
    have e9 := Option.some.inj hf
    subst e9
    exact kj2
  · have hf := hf_neg c1 hf
    refine r_aload_n dX6_tellsNumber_6 0 rfl ?_
    refine r_bipush (v := 48) dX6_tellsNumber_7 (by decide) ?_
    refine r_iload_n dX6_tellsNumber_9 1 rfl ?_
    refine r_bipush (v := 10) dX6_tellsNumber_10 (by decide) ?_
    refine r_idiv dX6_tellsNumber_12 (by decide) ?_
    refine r_iadd dX6_tellsNumber_13 ?_
    obtain ⟨q3, hq3, hf⟩ := hf_bind hf
    refine r_callVv (As := [.int (48 + (a0 / 10))]) (b := (eA E 26)) (st := []) (s_X6_tells hq3) (by decide) (by decide) wd_1121 wd_1123 wd_61 wd_74 wd_1124 hy_X6_tells (Rc.obj 26 ga_M rfl) rfl (Nat.le_of_ble_eq_true rfl) dX6_tellsNumber_14 ?_
    have e9 := Option.some.inj hf
    subst e9
    exact kj2
-- DuelSamplesModel.tellsSample
def lp_X6_tellsSample_4 (M_unitsNow : Int32) (M_sample : Int32) : Nat → Int32 → Int32 → Int32 → (Nat → Int32) → Option (Int32 × Int32 × (Nat → Int32))
  | 0, _, _, _, _ => none
  | n9 + 1, v1_4, v2_4, M_answerLong_4, M_answered_4 => if M_unitsNow ≤ v2_4 then some (v1_4, M_answerLong_4, M_answered_4) else Option.bind (f_X6_has M_sample v2_4) (fun (q2 : Int32) => Option.bind (if q2 = 0 then some (v1_4, M_answerLong_4, M_answered_4) else Option.bind (if v1_4 ≤ 0 then some (M_answerLong_4, M_answered_4) else Option.bind (f_X6_tells M_answerLong_4 M_answered_4 43) (fun (q7 : Int32 × (Nat → Int32)) => some (q7.1, q7.2))) (fun (q6 : Int32 × (Nat → Int32)) => Option.bind (f_X6_tellsNumber q6.1 q6.2 v2_4) (fun (q8 : Int32 × (Nat → Int32)) => some ((v1_4 + 1), q8.1, q8.2)))) (fun (q4 : Int32 × Int32 × (Nat → Int32)) => lp_X6_tellsSample_4 M_unitsNow M_sample n9 q4.1 (v2_4 + 1) q4.2.1 q4.2.2))
def f_X6_tellsSample (M_unitsNow : Int32) (M_sample : Int32) (M_answerLong : Int32) (M_answered : Nat → Int32)  : Option (Int32 × (Nat → Int32)) := Option.bind (lp_X6_tellsSample_4 M_unitsNow M_sample FU 0 0 M_answerLong M_answered) (fun (q9 : Int32 × Int32 × (Nat → Int32)) => if q9.1 = 0 then Option.bind (f_X6_tells q9.2.1 q9.2.2 45) (fun (q11 : Int32 × (Nat → Int32)) => some (q11.1, q11.2)) else some (q9.2.1, q9.2.2))
theorem hy_X6_tellsSample : yX6_tellsSample.cls ≠ "java/lang/invoke/MethodHandle" ∧ yX6_tellsSample.cls ≠ "java/lang/invoke/VarHandle" ∧ (parseMethodDescriptor yX6_tellsSample.desc).map (fun d => d.parameters.length) = some 0 := by decide +kernel
set_option maxHeartbeats 4000000 in
set_option maxRecDepth 100000 in
theorem w_X6_tellsSample_4 {E : EN} {res : Option Value × Hp} {hX : TX} {hR : TR} {hL : TC} {hT : TC} {hK : TK} {hS : TS} {hP : TP} {M_unitsNow : Int32} {M_way : Int32} {M_sample : Int32} {M_one : Int32} {M_two : Int32} {M_plays : Int32} {M_low : Int32} {M_high : Int32} {M_playsNow : Int32} {M_lowNow : Int32} {M_highNow : Int32} {M_textLong : Int32} {M_place : Int32} {M_units : Nat → Int32} {M_refused : Nat → Int32} {M_left : Nat → Int32} {M_played : Nat → Int32} {M_playedNow : Nat → Int32} {M_canBe : Nat → Int32} {M_text : Nat → Int32} {M_numbers : Nat → Int32} : ∀ (n9 : Nat) (v1_4 : Int32) (v2_4 : Int32) (M_answerLong_4 : Int32) (M_answered_4 : Nat → Int32) (qL : Int32 × Int32 × (Nat → Int32)), lp_X6_tellsSample_4 M_unitsNow M_sample n9 v1_4 v2_4 M_answerLong_4 M_answered_4 = some qL → (Wa E yX6_tellsSample cX6_tellsSample 3 none 3 res 47 [(0, .ref (eA E 26)), (1, .int qL.1)] [] (hX, hR, hL, hT, hK, hS, hP, (M_unitsNow, M_way, M_sample, M_one, M_two, M_plays, M_low, M_high, M_playsNow, M_lowNow, M_highNow, M_textLong, qL.2.1, M_place, M_units, M_refused, M_left, M_played, M_playedNow, M_canBe, M_text, qL.2.2, M_numbers))) → Wa E yX6_tellsSample cX6_tellsSample 3 none 3 res 4 [(0, .ref (eA E 26)), (1, .int v1_4), (2, .int v2_4)] [] (hX, hR, hL, hT, hK, hS, hP, (M_unitsNow, M_way, M_sample, M_one, M_two, M_plays, M_low, M_high, M_playsNow, M_lowNow, M_highNow, M_textLong, M_answerLong_4, M_place, M_units, M_refused, M_left, M_played, M_playedNow, M_canBe, M_text, M_answered_4, M_numbers)) := by
  intro n9
  induction n9 with
  | zero =>
    intro v1_4 v2_4 M_answerLong_4 M_answered_4 qL hf
    exact nomatch (show (none : Option (Int32 × Int32 × (Nat → Int32))) = some qL from hf)
  | succ n9 ih =>
    intro v1_4 v2_4 M_answerLong_4 M_answered_4 qL hf kx0
    rw [lp_X6_tellsSample_4] at hf
    refine r_iload_n dX6_tellsSample_4 2 rfl ?_
    refine r_aload_n dX6_tellsSample_5 0 rfl ?_
    refine r_get (v := .int M_unitsNow) in_X6 26 ga_M rfl 1 (by decide) wd_764 rfl rfl dX6_tellsSample_6 ?_
    refine r_icmp_ge (tgt := 47) dX6_tellsSample_9 (by decide) (fun c1 => ?_) (fun c1 => ?_)
    · have hf := hf_pos c1 hf
      have e9 := Option.some.inj hf
      subst e9
      exact (Wa.sub [0, 1] rfl kx0)
    · have hf := hf_neg c1 hf
      refine r_aload_n dX6_tellsSample_12 0 rfl ?_
      refine r_get (v := .int M_sample) in_X6 26 ga_M rfl 3 (by decide) wd_766 rfl rfl dX6_tellsSample_13 ?_
      refine r_iload_n dX6_tellsSample_16 2 rfl ?_
      obtain ⟨q2, hq2, hf⟩ := hf_bind hf
      refine r_callSi (As := [.int M_sample, .int v2_4]) (st := []) (s_X6_has hq2) (by decide) (by decide) wd_905 wd_906 wd_74 wd_907 hy_X6_has rfl (Nat.le_of_ble_eq_true rfl) dX6_tellsSample_17 ?_
      obtain ⟨q4, hq4, hf⟩ := hf_bind hf
      have kj4 : Wa E yX6_tellsSample cX6_tellsSample 3 none 3 res 41 [(0, .ref (eA E 26)), (1, .int q4.1), (2, .int v2_4)] [] (hX, hR, hL, hT, hK, hS, hP, (M_unitsNow, M_way, M_sample, M_one, M_two, M_plays, M_low, M_high, M_playsNow, M_lowNow, M_highNow, M_textLong, q4.2.1, M_place, M_units, M_refused, M_left, M_played, M_playedNow, M_canBe, M_text, q4.2.2, M_numbers)) := by
        refine r_iinc (v := (v2_4 + 1)) (lv2 := [(2, .int (v2_4 + 1)), (0, .ref (eA E 26)), (1, .int q4.1)]) dX6_tellsSample_41 2 rfl rfl (by decide) rfl ?_
        refine r_goto (tgt := 4) dX6_tellsSample_44 (by decide) ?_
        exact (Wa.sub [1, 2, 0] rfl (ih _ _ _ _ _ hf kx0))
      have hf := hq4
      refine r_if_eq (tgt := 41) dX6_tellsSample_20 (by decide) (fun c3 => ?_) (fun c3 => ?_)
      · have hf := hf_pos c3 hf
        have e9 := Option.some.inj hf
        subst e9
        exact kj4
      · have hf := hf_neg c3 hf
        refine r_iload_n dX6_tellsSample_23 1 rfl ?_
        obtain ⟨q6, hq6, hf⟩ := hf_bind hf
        have kj6 : Wa E yX6_tellsSample cX6_tellsSample 3 none 3 res 33 [(0, .ref (eA E 26)), (1, .int v1_4), (2, .int v2_4)] [] (hX, hR, hL, hT, hK, hS, hP, (M_unitsNow, M_way, M_sample, M_one, M_two, M_plays, M_low, M_high, M_playsNow, M_lowNow, M_highNow, M_textLong, q6.1, M_place, M_units, M_refused, M_left, M_played, M_playedNow, M_canBe, M_text, q6.2, M_numbers)) := by
          refine r_aload_n dX6_tellsSample_33 0 rfl ?_
          refine r_iload_n dX6_tellsSample_34 2 rfl ?_
          obtain ⟨q8, hq8, hf⟩ := hf_bind hf
          refine r_callVv (As := [.int v2_4]) (b := (eA E 26)) (st := []) (s_X6_tellsNumber hq8) (by decide) (by decide) wd_1133 wd_1135 wd_64 wd_74 wd_1136 hy_X6_tellsNumber (Rc.obj 26 ga_M rfl) rfl (Nat.le_of_ble_eq_true rfl) dX6_tellsSample_35 ?_
          refine r_iinc (v := (v1_4 + 1)) (lv2 := [(1, .int (v1_4 + 1)), (0, .ref (eA E 26)), (2, .int v2_4)]) dX6_tellsSample_38 1 rfl rfl (by decide) rfl ?_
          have e9 := Option.some.inj hf
          subst e9
          exact (Wa.sub [1, 0, 2] rfl kj4)
        have hf := hq6
        refine r_if_le (tgt := 33) dX6_tellsSample_24 (by decide) (fun c5 => ?_) (fun c5 => ?_)
        · have hf := hf_pos c5 hf
          have e9 := Option.some.inj hf
          subst e9
          exact kj6
        · have hf := hf_neg c5 hf
          refine r_aload_n dX6_tellsSample_27 0 rfl ?_
          refine r_bipush (v := 43) dX6_tellsSample_28 (by decide) ?_
          obtain ⟨q7, hq7, hf⟩ := hf_bind hf
          refine r_callVv (As := [.int 43]) (b := (eA E 26)) (st := []) (s_X6_tells hq7) (by decide) (by decide) wd_1121 wd_1123 wd_61 wd_74 wd_1124 hy_X6_tells (Rc.obj 26 ga_M rfl) rfl (Nat.le_of_ble_eq_true rfl) dX6_tellsSample_30 ?_
          have e9 := Option.some.inj hf
          subst e9
          exact kj6
set_option maxHeartbeats 4000000 in
set_option maxRecDepth 100000 in
theorem s_X6_tellsSample {E : EN} {hX : TX} {hR : TR} {hL : TC} {hT : TC} {hK : TK} {hS : TS} {hP : TP} {M_unitsNow : Int32} {M_way : Int32} {M_sample : Int32} {M_one : Int32} {M_two : Int32} {M_plays : Int32} {M_low : Int32} {M_high : Int32} {M_playsNow : Int32} {M_lowNow : Int32} {M_highNow : Int32} {M_textLong : Int32} {M_answerLong : Int32} {M_place : Int32} {M_units : Nat → Int32} {M_refused : Nat → Int32} {M_left : Nat → Int32} {M_played : Nat → Int32} {M_playedNow : Nat → Int32} {M_canBe : Nat → Int32} {M_text : Nat → Int32} {M_answered : Nat → Int32} {M_numbers : Nat → Int32}  {qR : Int32 × (Nat → Int32)} (hf : f_X6_tellsSample M_unitsNow M_sample M_answerLong M_answered = some qR) : Sem E yX6_tellsSample cX6_tellsSample 3 none 3 [.ref (eA E 26)] (hX, hR, hL, hT, hK, hS, hP, (M_unitsNow, M_way, M_sample, M_one, M_two, M_plays, M_low, M_high, M_playsNow, M_lowNow, M_highNow, M_textLong, M_answerLong, M_place, M_units, M_refused, M_left, M_played, M_playedNow, M_canBe, M_text, M_answered, M_numbers)) (none, (hX, hR, hL, hT, hK, hS, hP, (M_unitsNow, M_way, M_sample, M_one, M_two, M_plays, M_low, M_high, M_playsNow, M_lowNow, M_highNow, M_textLong, qR.1, M_place, M_units, M_refused, M_left, M_played, M_playedNow, M_canBe, M_text, qR.2, M_numbers))) := by
  refine Sem.mk (lv := [(0, .ref (eA E 26))]) (by decide) (Nat.le_of_ble_eq_true rfl) rfl ?_
  rw [f_X6_tellsSample] at hf
  refine r_iconst (v := 0) dX6_tellsSample_0 (by decide) ?_
  refine r_istore_n (lv2 := [(1, .int 0), (0, .ref (eA E 26))]) dX6_tellsSample_1 rfl (by decide) rfl ?_
  refine r_iconst (v := 0) dX6_tellsSample_2 (by decide) ?_
  refine r_istore_n (lv2 := [(2, .int 0), (1, .int 0), (0, .ref (eA E 26))]) dX6_tellsSample_3 rfl (by decide) rfl ?_
  obtain ⟨q9, hq9, hf⟩ := hf_bind hf
  refine (Wa.sub [2, 1, 0] rfl (w_X6_tellsSample_4 _ _ _ _ _ _ hq9 ?_))
  refine r_iload_n dX6_tellsSample_47 1 rfl ?_
  refine r_if_ne (tgt := 57) dX6_tellsSample_48 (by decide) (fun c10 => ?_) (fun c10 => ?_)
  · have hf := hf_neg c10 hf
    have e9 := Option.some.inj hf
    subst e9
    exact r_vret rfl dX6_tellsSample_57
  · have hf := hf_pos c10 hf
    refine r_aload_n dX6_tellsSample_51 0 rfl ?_
    refine r_bipush (v := 45) dX6_tellsSample_52 (by decide) ?_
    obtain ⟨q11, hq11, hf⟩ := hf_bind hf
    refine r_callVv (As := [.int 45]) (b := (eA E 26)) (st := []) (s_X6_tells hq11) (by decide) (by decide) wd_1121 wd_1123 wd_61 wd_74 wd_1124 hy_X6_tells (Rc.obj 26 ga_M rfl) rfl (Nat.le_of_ble_eq_true rfl) dX6_tellsSample_54 ?_
    have e9 := Option.some.inj hf
    subst e9
    exact r_vret rfl dX6_tellsSample_57
-- DuelSamplesModel.does
def f_X6_does (M_unitsNow : Int32) (M_way : Int32) (M_sample : Int32) (M_one : Int32) (M_two : Int32) (M_plays : Int32) (M_low : Int32) (M_high : Int32) (M_playsNow : Int32) (M_lowNow : Int32) (M_highNow : Int32) (M_answerLong : Int32) (M_units : Nat → Int32) (M_left : Nat → Int32) (M_played : Nat → Int32) (M_playedNow : Nat → Int32) (M_answered : Nat → Int32) (M_numbers : Nat → Int32) (a0 : Int32) : Option (Int32 × Int32 × Int32 × Int32 × Int32 × Int32 × Int32 × Int32 × Int32 × Int32 × Int32 × Int32 × (Nat → Int32) × (Nat → Int32) × (Nat → Int32) × (Nat → Int32) × (Nat → Int32)) := if 5 ≤ a0 then if 10 ≤ a0 then if a0 = 10 then if inB 0 5 then if inB 1 5 then if inB 2 5 then if inB 3 5 then if inB 4 5 then Option.bind (f_X6_lays M_unitsNow M_units (M_numbers (Int32.toNatClampNeg 0)) (M_numbers (Int32.toNatClampNeg 1)) (M_numbers (Int32.toNatClampNeg 2)) (M_numbers (Int32.toNatClampNeg 3)) (M_numbers (Int32.toNatClampNeg 4))) (fun (q15 : Int32 × (Nat → Int32)) => Option.bind (f_X6_tellsNumber M_answerLong M_answered (q15.1 - 1)) (fun (q16 : Int32 × (Nat → Int32)) => some (q15.1, M_way, M_sample, M_one, M_two, M_plays, M_low, M_high, M_playsNow, M_lowNow, M_highNow, q16.1, q15.2, M_left, M_played, M_playedNow, q16.2))) else none else none else none else none else none else if a0 = 11 then if inB 0 5 then Option.bind (f_X6_walks M_unitsNow M_way M_one M_two M_units M_left M_played M_playedNow (M_numbers (Int32.toNatClampNeg 0))) (fun (q8 : Int32 × Int32 × Int32 × Int32 × Int32 × Int32 × Int32 × Int32 × Int32 × Int32 × (Nat → Int32) × (Nat → Int32) × (Nat → Int32)) => Option.bind (f_X6_tellsSample M_unitsNow q8.2.1 M_answerLong M_answered) (fun (q9 : Int32 × (Nat → Int32)) => some (M_unitsNow, M_way, q8.2.1, q8.2.2.1, q8.2.2.2.1, q8.2.2.2.2.1, q8.2.2.2.2.2.1, q8.2.2.2.2.2.2.1, q8.2.2.2.2.2.2.2.1, q8.2.2.2.2.2.2.2.2.1, q8.2.2.2.2.2.2.2.2.2.1, q9.1, M_units, q8.2.2.2.2.2.2.2.2.2.2.1, q8.2.2.2.2.2.2.2.2.2.2.2.1, q8.2.2.2.2.2.2.2.2.2.2.2.2, q9.2))) else none else Option.bind (f_X6_bits M_sample) (fun (q5 : Int32) => Option.bind (f_X6_tellsNumber M_answerLong M_answered q5) (fun (q6 : Int32 × (Nat → Int32)) => some (M_unitsNow, M_way, M_sample, M_one, M_two, M_plays, M_low, M_high, M_playsNow, M_lowNow, M_highNow, q6.1, M_units, M_left, M_played, M_playedNow, q6.2))) else if inB 0 5 then if inB 1 5 then Option.bind (f_X6_becomes M_units (M_numbers (Int32.toNatClampNeg 0)) (a0 - 5) (M_numbers (Int32.toNatClampNeg 1))) (fun (q19 : Int32 × (Nat → Int32)) => Option.bind (f_X6_tellsNumber M_answerLong M_answered q19.1) (fun (q20 : Int32 × (Nat → Int32)) => some (M_unitsNow, M_way, M_sample, M_one, M_two, M_plays, M_low, M_high, M_playsNow, M_lowNow, M_highNow, q20.1, q19.2, M_left, M_played, M_playedNow, q20.2))) else none else none else Option.bind (f_X6_tellsWord M_answerLong M_answered M_way) (fun (q21 : Int32 × (Nat → Int32)) => some (M_unitsNow, a0, M_sample, M_one, M_two, M_plays, M_low, M_high, M_playsNow, M_lowNow, M_highNow, q21.1, M_units, M_left, M_played, M_playedNow, q21.2))
theorem hy_X6_does : yX6_does.cls ≠ "java/lang/invoke/MethodHandle" ∧ yX6_does.cls ≠ "java/lang/invoke/VarHandle" ∧ (parseMethodDescriptor yX6_does.desc).map (fun d => d.parameters.length) = some 1 := by decide +kernel
set_option maxHeartbeats 4000000 in
set_option maxRecDepth 100000 in
theorem s_X6_does {E : EN} {hX : TX} {hR : TR} {hL : TC} {hT : TC} {hK : TK} {hS : TS} {hP : TP} {M_unitsNow : Int32} {M_way : Int32} {M_sample : Int32} {M_one : Int32} {M_two : Int32} {M_plays : Int32} {M_low : Int32} {M_high : Int32} {M_playsNow : Int32} {M_lowNow : Int32} {M_highNow : Int32} {M_textLong : Int32} {M_answerLong : Int32} {M_place : Int32} {M_units : Nat → Int32} {M_refused : Nat → Int32} {M_left : Nat → Int32} {M_played : Nat → Int32} {M_playedNow : Nat → Int32} {M_canBe : Nat → Int32} {M_text : Nat → Int32} {M_answered : Nat → Int32} {M_numbers : Nat → Int32} {a0 : Int32} {qR : Int32 × Int32 × Int32 × Int32 × Int32 × Int32 × Int32 × Int32 × Int32 × Int32 × Int32 × Int32 × (Nat → Int32) × (Nat → Int32) × (Nat → Int32) × (Nat → Int32) × (Nat → Int32)} (hf : f_X6_does M_unitsNow M_way M_sample M_one M_two M_plays M_low M_high M_playsNow M_lowNow M_highNow M_answerLong M_units M_left M_played M_playedNow M_answered M_numbers a0 = some qR) : Sem E yX6_does cX6_does 3 none 8 [.ref (eA E 26), .int a0] (hX, hR, hL, hT, hK, hS, hP, (M_unitsNow, M_way, M_sample, M_one, M_two, M_plays, M_low, M_high, M_playsNow, M_lowNow, M_highNow, M_textLong, M_answerLong, M_place, M_units, M_refused, M_left, M_played, M_playedNow, M_canBe, M_text, M_answered, M_numbers)) (none, (hX, hR, hL, hT, hK, hS, hP, (qR.1, qR.2.1, qR.2.2.1, qR.2.2.2.1, qR.2.2.2.2.1, qR.2.2.2.2.2.1, qR.2.2.2.2.2.2.1, qR.2.2.2.2.2.2.2.1, qR.2.2.2.2.2.2.2.2.1, qR.2.2.2.2.2.2.2.2.2.1, qR.2.2.2.2.2.2.2.2.2.2.1, M_textLong, qR.2.2.2.2.2.2.2.2.2.2.2.1, M_place, qR.2.2.2.2.2.2.2.2.2.2.2.2.1, M_refused, qR.2.2.2.2.2.2.2.2.2.2.2.2.2.1, qR.2.2.2.2.2.2.2.2.2.2.2.2.2.2.1, qR.2.2.2.2.2.2.2.2.2.2.2.2.2.2.2.1, M_canBe, M_text, qR.2.2.2.2.2.2.2.2.2.2.2.2.2.2.2.2, M_numbers))) := by
  refine Sem.mk (lv := [(0, .ref (eA E 26)), (1, .int a0)]) (by decide) (Nat.le_of_ble_eq_true rfl) rfl ?_
  rw [f_X6_does] at hf
  refine r_iload_n dX6_does_0 1 rfl ?_
  refine r_iconst (v := 5) dX6_does_1 (by decide) ?_
  refine r_icmp_ge (tgt := 21) dX6_does_2 (by decide) (fun c1 => ?_) (fun c1 => ?_)
  · have hf := hf_pos c1 hf
    refine r_iload_n dX6_does_21 1 rfl ?_
    refine r_bipush (v := 10) dX6_does_22 (by decide) ?_
    refine r_icmp_ge (tgt := 53) dX6_does_24 (by decide) (fun c2 => ?_) (fun c2 => ?_)
    · have hf := hf_pos c2 hf
      refine r_iload_n dX6_does_53 1 rfl ?_
      refine r_bipush (v := 10) dX6_does_54 (by decide) ?_
      refine r_icmp_ne (tgt := 106) dX6_does_56 (by decide) (fun c3 => ?_) (fun c3 => ?_)
      · have hf := hf_neg c3 hf
        refine r_iload_n dX6_does_106 1 rfl ?_
        refine r_bipush (v := 11) dX6_does_107 (by decide) ?_
        refine r_icmp_ne (tgt := 130) dX6_does_109 (by decide) (fun c4 => ?_) (fun c4 => ?_)
        · have hf := hf_neg c4 hf
          refine r_aload_n dX6_does_130 0 rfl ?_
          refine r_aload_n dX6_does_131 0 rfl ?_
          refine r_get (v := .int M_sample) in_X6 26 ga_M rfl 3 (by decide) wd_766 rfl rfl dX6_does_132 ?_
          obtain ⟨q5, hq5, hf⟩ := hf_bind hf
          refine r_callSi (As := [.int M_sample]) (st := [.ref (eA E 26)]) (s_X6_bits hq5) (by decide) (by decide) wd_984 wd_985 wd_74 wd_986 hy_X6_bits rfl (Nat.le_of_ble_eq_true rfl) dX6_does_135 ?_
          obtain ⟨q6, hq6, hf⟩ := hf_bind hf
          refine r_callVv (As := [.int q5]) (b := (eA E 26)) (st := []) (s_X6_tellsNumber hq6) (by decide) (by decide) wd_1133 wd_1135 wd_64 wd_74 wd_1136 hy_X6_tellsNumber (Rc.obj 26 ga_M rfl) rfl (Nat.le_of_ble_eq_true rfl) dX6_does_138 ?_
          have e9 := Option.some.inj hf
          subst e9
          exact r_vret rfl dX6_does_141
        · have hf := hf_pos c4 hf
          refine r_aload_n dX6_does_112 0 rfl ?_
          refine r_aload_n dX6_does_113 0 rfl ?_
          refine r_get (v := .ref (eA E 35)) in_X6 26 ga_M rfl 22 (by decide) wd_785 rfl rfl dX6_does_114 ?_
          refine r_iconst (v := 0) dX6_does_117 (by decide) ?_
          obtain ⟨i7, hf⟩ := hf_in hf
          refine r_iald (f := M_numbers) 35 ga_M_numbers i7 dX6_does_118 ?_
          obtain ⟨q8, hq8, hf⟩ := hf_bind hf
          refine r_callVi (As := [.int (M_numbers (Int32.toNatClampNeg 0))]) (b := (eA E 26)) (st := []) (s_X6_walks hq8) (by decide) (by decide) wd_933 wd_935 wd_36 wd_74 wd_936 hy_X6_walks (Rc.obj 26 ga_M rfl) rfl (Nat.le_of_ble_eq_true rfl) dX6_does_119 ?_
          refine r_istore_n (lv2 := [(2, .int q8.1), (0, .ref (eA E 26)), (1, .int a0)]) dX6_does_122 rfl (by decide) rfl ?_
          refine r_aload_n dX6_does_123 1 rfl ?_
          obtain ⟨q9, hq9, hf⟩ := hf_bind hf
          refine r_callVv (As := []) (b := (eA E 26)) (st := []) (s_X6_tellsSample hq9) (by decide) (by decide) wd_1137 wd_1139 wd_65 wd_74 wd_1140 hy_X6_tellsSample (Rc.obj 26 ga_M rfl) rfl (Nat.le_of_ble_eq_true rfl) dX6_does_124 ?_
          refine r_goto (tgt := 141) dX6_does_127 (by decide) ?_
          have e9 := Option.some.inj hf
          subst e9
          exact r_vret rfl dX6_does_141
      · have hf := hf_pos c3 hf
        refine r_aload_n dX6_does_59 0 rfl ?_
        refine r_aload_n dX6_does_60 0 rfl ?_
        refine r_get (v := .ref (eA E 35)) in_X6 26 ga_M rfl 22 (by decide) wd_785 rfl rfl dX6_does_61 ?_
        refine r_iconst (v := 0) dX6_does_64 (by decide) ?_
        obtain ⟨i10, hf⟩ := hf_in hf
        refine r_iald (f := M_numbers) 35 ga_M_numbers i10 dX6_does_65 ?_
        refine r_aload_n dX6_does_66 0 rfl ?_
        refine r_get (v := .ref (eA E 35)) in_X6 26 ga_M rfl 22 (by decide) wd_785 rfl rfl dX6_does_67 ?_
        refine r_iconst (v := 1) dX6_does_70 (by decide) ?_
        obtain ⟨i11, hf⟩ := hf_in hf
        refine r_iald (f := M_numbers) 35 ga_M_numbers i11 dX6_does_71 ?_
        refine r_aload_n dX6_does_72 0 rfl ?_
        refine r_get (v := .ref (eA E 35)) in_X6 26 ga_M rfl 22 (by decide) wd_785 rfl rfl dX6_does_73 ?_
        refine r_iconst (v := 2) dX6_does_76 (by decide) ?_
        obtain ⟨i12, hf⟩ := hf_in hf
        refine r_iald (f := M_numbers) 35 ga_M_numbers i12 dX6_does_77 ?_
        refine r_aload_n dX6_does_78 0 rfl ?_
        refine r_get (v := .ref (eA E 35)) in_X6 26 ga_M rfl 22 (by decide) wd_785 rfl rfl dX6_does_79 ?_
        refine r_iconst (v := 3) dX6_does_82 (by decide) ?_
        obtain ⟨i13, hf⟩ := hf_in hf
        refine r_iald (f := M_numbers) 35 ga_M_numbers i13 dX6_does_83 ?_
        refine r_aload_n dX6_does_84 0 rfl ?_
        refine r_get (v := .ref (eA E 35)) in_X6 26 ga_M rfl 22 (by decide) wd_785 rfl rfl dX6_does_85 ?_
        refine r_iconst (v := 4) dX6_does_88 (by decide) ?_
        obtain ⟨i14, hf⟩ := hf_in hf
        refine r_iald (f := M_numbers) 35 ga_M_numbers i14 dX6_does_89 ?_
        obtain ⟨q15, hq15, hf⟩ := hf_bind hf
        refine r_callVv (As := [.int (M_numbers (Int32.toNatClampNeg 0)), .int (M_numbers (Int32.toNatClampNeg 1)), .int (M_numbers (Int32.toNatClampNeg 2)), .int (M_numbers (Int32.toNatClampNeg 3)), .int (M_numbers (Int32.toNatClampNeg 4))]) (b := (eA E 26)) (st := []) (s_X6_lays hq15) (by decide) (by decide) wd_852 wd_854 wd_29 wd_74 wd_855 hy_X6_lays (Rc.obj 26 ga_M rfl) rfl (Nat.le_of_ble_eq_true rfl) dX6_does_90 ?_
        refine r_aload_n dX6_does_93 0 rfl ?_
        refine r_aload_n dX6_does_94 0 rfl ?_
        refine r_get (v := .int q15.1) in_X6 26 ga_M rfl 1 (by decide) wd_764 rfl rfl dX6_does_95 ?_
        refine r_iconst (v := 1) dX6_does_98 (by decide) ?_
        refine r_isub dX6_does_99 ?_
        obtain ⟨q16, hq16, hf⟩ := hf_bind hf
        refine r_callVv (As := [.int (q15.1 - 1)]) (b := (eA E 26)) (st := []) (s_X6_tellsNumber hq16) (by decide) (by decide) wd_1133 wd_1135 wd_64 wd_74 wd_1136 hy_X6_tellsNumber (Rc.obj 26 ga_M rfl) rfl (Nat.le_of_ble_eq_true rfl) dX6_does_100 ?_
        refine r_goto (tgt := 141) dX6_does_103 (by decide) ?_
        have e9 := Option.some.inj hf
        subst e9
        exact r_vret rfl dX6_does_141
    · have hf := hf_neg c2 hf
      refine r_aload_n dX6_does_27 0 rfl ?_
      refine r_aload_n dX6_does_28 0 rfl ?_
      refine r_aload_n dX6_does_29 0 rfl ?_
      refine r_get (v := .ref (eA E 35)) in_X6 26 ga_M rfl 22 (by decide) wd_785 rfl rfl dX6_does_30 ?_
      refine r_iconst (v := 0) dX6_does_33 (by decide) ?_
      obtain ⟨i17, hf⟩ := hf_in hf
      refine r_iald (f := M_numbers) 35 ga_M_numbers i17 dX6_does_34 ?_
      refine r_iload_n dX6_does_35 1 rfl ?_
      refine r_iconst (v := 5) dX6_does_36 (by decide) ?_
      refine r_isub dX6_does_37 ?_
      refine r_aload_n dX6_does_38 0 rfl ?_
      refine r_get (v := .ref (eA E 35)) in_X6 26 ga_M rfl 22 (by decide) wd_785 rfl rfl dX6_does_39 ?_
      refine r_iconst (v := 1) dX6_does_42 (by decide) ?_
      obtain ⟨i18, hf⟩ := hf_in hf
      refine r_iald (f := M_numbers) 35 ga_M_numbers i18 dX6_does_43 ?_
      obtain ⟨q19, hq19, hf⟩ := hf_bind hf
      refine r_callVi (As := [.int (M_numbers (Int32.toNatClampNeg 0)), .int (a0 - 5), .int (M_numbers (Int32.toNatClampNeg 1))]) (b := (eA E 26)) (st := [.ref (eA E 26)]) (s_X6_becomes hq19) (by decide) (by decide) wd_865 wd_867 wd_31 wd_74 wd_868 hy_X6_becomes (Rc.obj 26 ga_M rfl) rfl (Nat.le_of_ble_eq_true rfl) dX6_does_44 ?_
      obtain ⟨q20, hq20, hf⟩ := hf_bind hf
      refine r_callVv (As := [.int q19.1]) (b := (eA E 26)) (st := []) (s_X6_tellsNumber hq20) (by decide) (by decide) wd_1133 wd_1135 wd_64 wd_74 wd_1136 hy_X6_tellsNumber (Rc.obj 26 ga_M rfl) rfl (Nat.le_of_ble_eq_true rfl) dX6_does_47 ?_
      refine r_goto (tgt := 141) dX6_does_50 (by decide) ?_
      have e9 := Option.some.inj hf
      subst e9
      exact r_vret rfl dX6_does_141
  · have hf := hf_neg c1 hf
    refine r_aload_n dX6_does_5 0 rfl ?_
    refine r_aload_n dX6_does_6 0 rfl ?_
    refine r_get (v := .int M_way) in_X6 26 ga_M rfl 2 (by decide) wd_765 rfl rfl dX6_does_7 ?_
    obtain ⟨q21, hq21, hf⟩ := hf_bind hf
    refine r_callVv (As := [.int M_way]) (b := (eA E 26)) (st := []) (s_X6_tellsWord hq21) (by decide) (by decide) wd_1129 wd_1131 wd_63 wd_74 wd_1132 hy_X6_tellsWord (Rc.obj 26 ga_M rfl) rfl (Nat.le_of_ble_eq_true rfl) dX6_does_10 ?_
    refine r_aload_n dX6_does_13 0 rfl ?_
    refine r_iload_n dX6_does_14 1 rfl ?_
    refine r_put in_X6 tyX6_ok nmX6 26 ga_M rfl 2 (by decide) wd_765 rfl rfl pfI (Nat.le_of_ble_eq_true rfl) sa_M_way dX6_does_15 ?_
    refine r_goto (tgt := 141) dX6_does_18 (by decide) ?_
    have e9 := Option.some.inj hf
    subst e9
    exact r_vret rfl dX6_does_141
