-- DuelSamplesModel.layCan
def lp_X6_layCan_2  : Nat → Int32 → (Nat → Int32) → Option ((Nat → Int32))
  | 0, _, _ => none
  | n9 + 1, v1_2, M_canBe_2 => if 4096 ≤ v1_2 then some M_canBe_2 else if inB v1_2 4096 then lp_X6_layCan_2 n9 (v1_2 + 1) (upd M_canBe_2 (Int32.toNatClampNeg v1_2) (vp_nar .boolean 0)) else none
def lp_X6_layCan_30 (M_unitsNow : Int32) (q4 : (Nat → Int32)) : Nat → Int32 → Int32 → Option (Int32)
  | 0, _, _ => none
  | n9 + 1, v1_30, v2_30 => if M_unitsNow ≤ v2_30 then some v1_30 else Option.bind (f_X6_isOpen q4 v2_30) (fun (q6 : Int32) => Option.bind (if q6 = 0 then some 0 else some 1) (fun (q8 : Int32) => lp_X6_layCan_30 M_unitsNow q4 n9 (v1_30 + q8) (v2_30 + 1)))
def lp_X6_layCan_75 (M_unitsNow : Int32) (M_way : Int32) (M_units : Nat → Int32) (v2_62 : Int32) : Nat → Int32 → Int32 → Int32 → (Nat → Int32) → Option (Int32 × Int32 × (Nat → Int32))
  | 0, _, _, _, _ => none
  | n9 + 1, v3_75, M_one_75, M_two_75, M_left_75 => Option.bind (f_X6_finds M_unitsNow M_way M_two_75 M_units M_left_75) (fun (q12 : Int32 × Int32 × Int32) => if q12.1 = 0 then some (q12.2.1, q12.2.2, M_left_75) else Option.bind (f_X6_has v2_62 v3_75) (fun (q14 : Int32) => Option.bind (f_X6_gets q12.2.1 q12.2.2 M_left_75 q14) (fun (q15 : (Nat → Int32)) => lp_X6_layCan_75 M_unitsNow M_way M_units v2_62 n9 (v3_75 + 1) q12.2.1 q12.2.2 q15)))
def lp_X6_layCan_62 (q9 : Int32) (M_unitsNow : Int32) (M_units : Nat → Int32) (M_way : Int32) : Nat → Int32 → Int32 → Int32 → (Nat → Int32) → (Nat → Int32) → Option (Int32 × Int32 × (Nat → Int32) × (Nat → Int32))
  | 0, _, _, _, _, _ => none
  | n9 + 1, v2_62, M_one_62, M_two_62, M_left_62, M_canBe_62 => if (1 <<< (q9 &&& 31)) ≤ v2_62 then some (M_one_62, M_two_62, M_left_62, M_canBe_62) else Option.bind (f_X6_begins M_unitsNow M_units M_left_62) (fun (q11 : (Nat → Int32)) => Option.bind (lp_X6_layCan_75 M_unitsNow M_way M_units v2_62 FU 0 M_one_62 M_two_62 q11) (fun (q16 : Int32 × Int32 × (Nat → Int32)) => Option.bind (f_X6_sampleNow M_unitsNow q16.2.2) (fun (q17 : Int32) => if inB q17 4096 then lp_X6_layCan_62 q9 M_unitsNow M_units M_way n9 (v2_62 + 1) q16.1 q16.2.1 q16.2.2 (upd M_canBe_62 (Int32.toNatClampNeg q17) (vp_nar .boolean 1)) else none)))
def f_X6_layCan (M_unitsNow : Int32) (M_way : Int32) (M_one : Int32) (M_two : Int32) (M_units : Nat → Int32) (M_left : Nat → Int32) (M_canBe : Nat → Int32)  : Option (Int32 × Int32 × (Nat → Int32) × (Nat → Int32)) := Option.bind (lp_X6_layCan_2  FU 0 M_canBe) (fun (q3 : (Nat → Int32)) => Option.bind (f_X6_begins M_unitsNow M_units M_left) (fun (q4 : (Nat → Int32)) => Option.bind (lp_X6_layCan_30 M_unitsNow q4 FU 0 0) (fun (q9 : Int32) => Option.bind (lp_X6_layCan_62 q9 M_unitsNow M_units M_way FU 0 M_one M_two q4 q3) (fun (q19 : Int32 × Int32 × (Nat → Int32) × (Nat → Int32)) => some (q19.1, q19.2.1, q19.2.2.1, q19.2.2.2)))))
theorem hy_X6_layCan : yX6_layCan.cls ≠ "java/lang/invoke/MethodHandle" ∧ yX6_layCan.cls ≠ "java/lang/invoke/VarHandle" ∧ (parseMethodDescriptor yX6_layCan.desc).map (fun d => d.parameters.length) = some 0 := by decide +kernel
set_option maxHeartbeats 4000000 in
set_option maxRecDepth 100000 in
theorem w_X6_layCan_2 {E : EN} {res : Option Value × Hp} {hX : TX} {hR : TR} {hL : TC} {hT : TC} {hK : TK} {hS : TS} {hP : TP} {M_unitsNow : Int32} {M_way : Int32} {M_sample : Int32} {M_one : Int32} {M_two : Int32} {M_plays : Int32} {M_low : Int32} {M_high : Int32} {M_playsNow : Int32} {M_lowNow : Int32} {M_highNow : Int32} {M_textLong : Int32} {M_answerLong : Int32} {M_place : Int32} {M_units : Nat → Int32} {M_refused : Nat → Int32} {M_left : Nat → Int32} {M_played : Nat → Int32} {M_playedNow : Nat → Int32} {M_text : Nat → Int32} {M_answered : Nat → Int32} {M_numbers : Nat → Int32} : ∀ (n9 : Nat) (v1_2 : Int32) (M_canBe_2 : Nat → Int32) (qL : (Nat → Int32)), lp_X6_layCan_2  n9 v1_2 M_canBe_2 = some qL → (Wa E yX6_layCan cX6_layCan 4 none 6 res 22 [(0, .ref (eA E 26))] [] (hX, hR, hL, hT, hK, hS, hP, (M_unitsNow, M_way, M_sample, M_one, M_two, M_plays, M_low, M_high, M_playsNow, M_lowNow, M_highNow, M_textLong, M_answerLong, M_place, M_units, M_refused, M_left, M_played, M_playedNow, qL, M_text, M_answered, M_numbers))) → Wa E yX6_layCan cX6_layCan 4 none 6 res 2 [(0, .ref (eA E 26)), (1, .int v1_2)] [] (hX, hR, hL, hT, hK, hS, hP, (M_unitsNow, M_way, M_sample, M_one, M_two, M_plays, M_low, M_high, M_playsNow, M_lowNow, M_highNow, M_textLong, M_answerLong, M_place, M_units, M_refused, M_left, M_played, M_playedNow, M_canBe_2, M_text, M_answered, M_numbers)) := by
  intro n9
  induction n9 with
  | zero =>
    intro v1_2 M_canBe_2 qL hf
    exact nomatch (show (none : Option ((Nat → Int32))) = some qL from hf)
  | succ n9 ih =>
    intro v1_2 M_canBe_2 qL hf kx0
    rw [lp_X6_layCan_2] at hf
    refine r_iload_n dX6_layCan_2 1 rfl ?_
    refine r_sipush (v := 4096) dX6_layCan_3 (by decide) ?_
    refine r_icmp_ge (tgt := 22) dX6_layCan_6 (by decide) (fun c1 => ?_) (fun c1 => ?_)
    · have hf := hf_pos c1 hf
      have e9 := Option.some.inj hf
      subst e9
      exact (Wa.sub [0] rfl kx0)
    · have hf := hf_neg c1 hf
      refine r_aload_n dX6_layCan_9 0 rfl ?_
      refine r_get (v := .ref (eA E 32)) in_X6 26 ga_M rfl 16 (by decide) wd_779 rfl rfl dX6_layCan_10 ?_
      refine r_iload_n dX6_layCan_13 1 rfl ?_
      refine r_iconst (v := 0) dX6_layCan_14 (by decide) ?_
      obtain ⟨i2, hf⟩ := hf_in hf
      refine r_zast 32 ga_M_canBe sa_M_canBe i2 dX6_layCan_15 ?_
      refine r_iinc (v := (v1_2 + 1)) (lv2 := [(1, .int (v1_2 + 1)), (0, .ref (eA E 26))]) dX6_layCan_16 1 rfl rfl (by decide) rfl ?_
      refine r_goto (tgt := 2) dX6_layCan_19 (by decide) ?_
      exact (Wa.sub [1, 0] rfl (ih _ _ _ hf kx0))
set_option maxHeartbeats 4000000 in
set_option maxRecDepth 100000 in
theorem w_X6_layCan_30 {E : EN} {res : Option Value × Hp} {hX : TX} {hR : TR} {hL : TC} {hT : TC} {hK : TK} {hS : TS} {hP : TP} {M_unitsNow : Int32} {M_way : Int32} {M_sample : Int32} {M_one : Int32} {M_two : Int32} {M_plays : Int32} {M_low : Int32} {M_high : Int32} {M_playsNow : Int32} {M_lowNow : Int32} {M_highNow : Int32} {M_textLong : Int32} {M_answerLong : Int32} {M_place : Int32} {M_units : Nat → Int32} {M_refused : Nat → Int32} {q4 : (Nat → Int32)} {M_played : Nat → Int32} {M_playedNow : Nat → Int32} {q3 : (Nat → Int32)} {M_text : Nat → Int32} {M_answered : Nat → Int32} {M_numbers : Nat → Int32} : ∀ (n9 : Nat) (v1_30 : Int32) (v2_30 : Int32) (qL : Int32), lp_X6_layCan_30 M_unitsNow q4 n9 v1_30 v2_30 = some qL → (Wa E yX6_layCan cX6_layCan 4 none 6 res 60 [(0, .ref (eA E 26)), (1, .int qL)] [] (hX, hR, hL, hT, hK, hS, hP, (M_unitsNow, M_way, M_sample, M_one, M_two, M_plays, M_low, M_high, M_playsNow, M_lowNow, M_highNow, M_textLong, M_answerLong, M_place, M_units, M_refused, q4, M_played, M_playedNow, q3, M_text, M_answered, M_numbers))) → Wa E yX6_layCan cX6_layCan 4 none 6 res 30 [(0, .ref (eA E 26)), (1, .int v1_30), (2, .int v2_30)] [] (hX, hR, hL, hT, hK, hS, hP, (M_unitsNow, M_way, M_sample, M_one, M_two, M_plays, M_low, M_high, M_playsNow, M_lowNow, M_highNow, M_textLong, M_answerLong, M_place, M_units, M_refused, q4, M_played, M_playedNow, q3, M_text, M_answered, M_numbers)) := by
  intro n9
  induction n9 with
  | zero =>
    intro v1_30 v2_30 qL hf
    exact nomatch (show (none : Option (Int32)) = some qL from hf)
  | succ n9 ih =>
    intro v1_30 v2_30 qL hf kx0
    rw [lp_X6_layCan_30] at hf
    refine r_iload_n dX6_layCan_30 2 rfl ?_
    refine r_aload_n dX6_layCan_31 0 rfl ?_
    refine r_get (v := .int M_unitsNow) in_X6 26 ga_M rfl 1 (by decide) wd_764 rfl rfl dX6_layCan_32 ?_
    refine r_icmp_ge (tgt := 60) dX6_layCan_35 (by decide) (fun c5 => ?_) (fun c5 => ?_)
    · have hf := hf_pos c5 hf
      have e9 := Option.some.inj hf
      subst e9
      exact (Wa.sub [0, 1] rfl kx0)
    · have hf := hf_neg c5 hf
      refine r_iload_n dX6_layCan_38 1 rfl ?_
      refine r_aload_n dX6_layCan_39 0 rfl ?_
      refine r_iload_n dX6_layCan_40 2 rfl ?_
      obtain ⟨q6, hq6, hf⟩ := hf_bind hf
      refine r_callVi (As := [.int v2_30]) (b := (eA E 26)) (st := [.int v1_30]) (s_X6_isOpen hq6) (by decide) (by decide) wd_953 wd_955 wd_41 wd_74 wd_956 hy_X6_isOpen (Rc.obj 26 ga_M rfl) rfl (Nat.le_of_ble_eq_true rfl) dX6_layCan_41 ?_
      obtain ⟨q8, hq8, hf⟩ := hf_bind hf
      have kj8 : Wa E yX6_layCan cX6_layCan 4 none 6 res 52 [(0, .ref (eA E 26)), (2, .int v2_30)] [.int q8, .int v1_30] (hX, hR, hL, hT, hK, hS, hP, (M_unitsNow, M_way, M_sample, M_one, M_two, M_plays, M_low, M_high, M_playsNow, M_lowNow, M_highNow, M_textLong, M_answerLong, M_place, M_units, M_refused, q4, M_played, M_playedNow, q3, M_text, M_answered, M_numbers)) := by
        refine r_iadd dX6_layCan_52 ?_
        refine r_istore_n (lv2 := [(1, .int (v1_30 + q8)), (0, .ref (eA E 26)), (2, .int v2_30)]) dX6_layCan_53 rfl (by decide) rfl ?_
        refine r_iinc (v := (v2_30 + 1)) (lv2 := [(2, .int (v2_30 + 1)), (1, .int (v1_30 + q8)), (0, .ref (eA E 26))]) dX6_layCan_54 2 rfl rfl (by decide) rfl ?_
        refine r_goto (tgt := 30) dX6_layCan_57 (by decide) ?_
        exact (Wa.sub [2, 1, 0] rfl (ih _ _ _ hf kx0))
      have hf := hq8
      refine r_if_eq (tgt := 51) dX6_layCan_44 (by decide) (fun c7 => ?_) (fun c7 => ?_)
      · have hf := hf_pos c7 hf
        refine r_iconst (v := 0) dX6_layCan_51 (by decide) ?_
        have e9 := Option.some.inj hf
        subst e9
        exact (Wa.sub [0, 2] rfl kj8)
      · have hf := hf_neg c7 hf
        refine r_iconst (v := 1) dX6_layCan_47 (by decide) ?_
        refine r_goto (tgt := 52) dX6_layCan_48 (by decide) ?_
        have e9 := Option.some.inj hf
        subst e9
        exact (Wa.sub [0, 2] rfl kj8)
set_option maxHeartbeats 4000000 in
set_option maxRecDepth 100000 in
theorem w_X6_layCan_75 {E : EN} {res : Option Value × Hp} {hX : TX} {hR : TR} {hL : TC} {hT : TC} {hK : TK} {hS : TS} {hP : TP} {q9 : Int32} {v2_62 : Int32} {M_unitsNow : Int32} {M_way : Int32} {M_sample : Int32} {M_plays : Int32} {M_low : Int32} {M_high : Int32} {M_playsNow : Int32} {M_lowNow : Int32} {M_highNow : Int32} {M_textLong : Int32} {M_answerLong : Int32} {M_place : Int32} {M_units : Nat → Int32} {M_refused : Nat → Int32} {M_played : Nat → Int32} {M_playedNow : Nat → Int32} {M_canBe_62 : Nat → Int32} {M_text : Nat → Int32} {M_answered : Nat → Int32} {M_numbers : Nat → Int32} : ∀ (n9 : Nat) (v3_75 : Int32) (M_one_75 : Int32) (M_two_75 : Int32) (M_left_75 : Nat → Int32) (qL : Int32 × Int32 × (Nat → Int32)), lp_X6_layCan_75 M_unitsNow M_way M_units v2_62 n9 v3_75 M_one_75 M_two_75 M_left_75 = some qL → (Wa E yX6_layCan cX6_layCan 4 none 6 res 97 [(0, .ref (eA E 26)), (1, .int q9), (2, .int v2_62)] [] (hX, hR, hL, hT, hK, hS, hP, (M_unitsNow, M_way, M_sample, qL.1, qL.2.1, M_plays, M_low, M_high, M_playsNow, M_lowNow, M_highNow, M_textLong, M_answerLong, M_place, M_units, M_refused, qL.2.2, M_played, M_playedNow, M_canBe_62, M_text, M_answered, M_numbers))) → Wa E yX6_layCan cX6_layCan 4 none 6 res 75 [(0, .ref (eA E 26)), (1, .int q9), (2, .int v2_62), (3, .int v3_75)] [] (hX, hR, hL, hT, hK, hS, hP, (M_unitsNow, M_way, M_sample, M_one_75, M_two_75, M_plays, M_low, M_high, M_playsNow, M_lowNow, M_highNow, M_textLong, M_answerLong, M_place, M_units, M_refused, M_left_75, M_played, M_playedNow, M_canBe_62, M_text, M_answered, M_numbers)) := by
  intro n9
  induction n9 with
  | zero =>
    intro v3_75 M_one_75 M_two_75 M_left_75 qL hf
    exact nomatch (show (none : Option (Int32 × Int32 × (Nat → Int32))) = some qL from hf)
  | succ n9 ih =>
    intro v3_75 M_one_75 M_two_75 M_left_75 qL hf kx0
    rw [lp_X6_layCan_75] at hf
    refine r_aload_n dX6_layCan_75 0 rfl ?_
    obtain ⟨q12, hq12, hf⟩ := hf_bind hf
    refine r_callVi (As := []) (b := (eA E 26)) (st := []) (s_X6_finds hq12) (by decide) (by decide) wd_945 wd_947 wd_39 wd_74 wd_948 hy_X6_finds (Rc.obj 26 ga_M rfl) rfl (Nat.le_of_ble_eq_true rfl) dX6_layCan_76 ?_
    refine r_if_eq (tgt := 97) dX6_layCan_79 (by decide) (fun c13 => ?_) (fun c13 => ?_)
    · have hf := hf_pos c13 hf
      have e9 := Option.some.inj hf
      subst e9
      exact (Wa.sub [0, 1, 2] rfl kx0)
    · have hf := hf_neg c13 hf
      refine r_aload_n dX6_layCan_82 0 rfl ?_
      refine r_iload_n dX6_layCan_83 2 rfl ?_
      refine r_iload_n dX6_layCan_84 3 rfl ?_
      obtain ⟨q14, hq14, hf⟩ := hf_bind hf
      refine r_callSi (As := [.int v2_62, .int v3_75]) (st := [.ref (eA E 26)]) (s_X6_has hq14) (by decide) (by decide) wd_905 wd_906 wd_74 wd_907 hy_X6_has rfl (Nat.le_of_ble_eq_true rfl) dX6_layCan_85 ?_
      obtain ⟨q15, hq15, hf⟩ := hf_bind hf
      refine r_callVv (As := [.int q14]) (b := (eA E 26)) (st := []) (s_X6_gets hq15) (by decide) (by decide) wd_976 wd_978 wd_46 wd_74 wd_979 hy_X6_gets (Rc.obj 26 ga_M rfl) rfl (Nat.le_of_ble_eq_true rfl) dX6_layCan_88 ?_
      refine r_iinc (v := (v3_75 + 1)) (lv2 := [(3, .int (v3_75 + 1)), (0, .ref (eA E 26)), (1, .int q9), (2, .int v2_62)]) dX6_layCan_91 3 rfl rfl (by decide) rfl ?_
      refine r_goto (tgt := 75) dX6_layCan_94 (by decide) ?_
      exact (Wa.sub [1, 2, 3, 0] rfl (ih _ _ _ _ _ hf kx0))
set_option maxHeartbeats 4000000 in
set_option maxRecDepth 100000 in
theorem w_X6_layCan_62 {E : EN} {res : Option Value × Hp} {hX : TX} {hR : TR} {hL : TC} {hT : TC} {hK : TK} {hS : TS} {hP : TP} {q9 : Int32} {M_unitsNow : Int32} {M_way : Int32} {M_sample : Int32} {M_plays : Int32} {M_low : Int32} {M_high : Int32} {M_playsNow : Int32} {M_lowNow : Int32} {M_highNow : Int32} {M_textLong : Int32} {M_answerLong : Int32} {M_place : Int32} {M_units : Nat → Int32} {M_refused : Nat → Int32} {M_played : Nat → Int32} {M_playedNow : Nat → Int32} {M_text : Nat → Int32} {M_answered : Nat → Int32} {M_numbers : Nat → Int32} : ∀ (n9 : Nat) (v2_62 : Int32) (M_one_62 : Int32) (M_two_62 : Int32) (M_left_62 : Nat → Int32) (M_canBe_62 : Nat → Int32) (qL : Int32 × Int32 × (Nat → Int32) × (Nat → Int32)), lp_X6_layCan_62 q9 M_unitsNow M_units M_way n9 v2_62 M_one_62 M_two_62 M_left_62 M_canBe_62 = some qL → (Wa E yX6_layCan cX6_layCan 4 none 6 res 113 [] [] (hX, hR, hL, hT, hK, hS, hP, (M_unitsNow, M_way, M_sample, qL.1, qL.2.1, M_plays, M_low, M_high, M_playsNow, M_lowNow, M_highNow, M_textLong, M_answerLong, M_place, M_units, M_refused, qL.2.2.1, M_played, M_playedNow, qL.2.2.2, M_text, M_answered, M_numbers))) → Wa E yX6_layCan cX6_layCan 4 none 6 res 62 [(0, .ref (eA E 26)), (1, .int q9), (2, .int v2_62)] [] (hX, hR, hL, hT, hK, hS, hP, (M_unitsNow, M_way, M_sample, M_one_62, M_two_62, M_plays, M_low, M_high, M_playsNow, M_lowNow, M_highNow, M_textLong, M_answerLong, M_place, M_units, M_refused, M_left_62, M_played, M_playedNow, M_canBe_62, M_text, M_answered, M_numbers)) := by
  intro n9
  induction n9 with
  | zero =>
    intro v2_62 M_one_62 M_two_62 M_left_62 M_canBe_62 qL hf
    exact nomatch (show (none : Option (Int32 × Int32 × (Nat → Int32) × (Nat → Int32))) = some qL from hf)
  | succ n9 ih =>
    intro v2_62 M_one_62 M_two_62 M_left_62 M_canBe_62 qL hf kx0
    rw [lp_X6_layCan_62] at hf
    refine r_iload_n dX6_layCan_62 2 rfl ?_
    refine r_iconst (v := 1) dX6_layCan_63 (by decide) ?_
    refine r_iload_n dX6_layCan_64 1 rfl ?_
    refine r_ishl dX6_layCan_65 ?_
    refine r_icmp_ge (tgt := 113) dX6_layCan_66 (by decide) (fun c10 => ?_) (fun c10 => ?_)
    · have hf := hf_pos c10 hf
      have e9 := Option.some.inj hf
      subst e9
      exact (Wa.sub [] rfl kx0)
    · have hf := hf_neg c10 hf
      refine r_iconst (v := 0) dX6_layCan_69 (by decide) ?_
      refine r_istore_n (lv2 := [(3, .int 0), (0, .ref (eA E 26)), (1, .int q9), (2, .int v2_62)]) dX6_layCan_70 rfl (by decide) rfl ?_
      refine r_aload_n dX6_layCan_71 1 rfl ?_
      obtain ⟨q11, hq11, hf⟩ := hf_bind hf
      refine r_callVv (As := []) (b := (eA E 26)) (st := []) (s_X6_begins hq11) (by decide) (by decide) wd_941 wd_943 wd_38 wd_74 wd_944 hy_X6_begins (Rc.obj 26 ga_M rfl) rfl (Nat.le_of_ble_eq_true rfl) dX6_layCan_72 ?_
      obtain ⟨q16, hq16, hf⟩ := hf_bind hf
      refine (Wa.sub [1, 2, 3, 0] rfl (w_X6_layCan_75 _ _ _ _ _ _ hq16 ?_))
      refine r_aload_n dX6_layCan_97 0 rfl ?_
      refine r_get (v := .ref (eA E 32)) in_X6 26 ga_M rfl 16 (by decide) wd_779 rfl rfl dX6_layCan_98 ?_
      refine r_aload_n dX6_layCan_101 0 rfl ?_
      obtain ⟨q17, hq17, hf⟩ := hf_bind hf
      refine r_callVi (As := []) (b := (eA E 26)) (st := [.ref (eA E 32)]) (s_X6_sampleNow hq17) (by decide) (by decide) wd_980 wd_982 wd_47 wd_74 wd_983 hy_X6_sampleNow (Rc.obj 26 ga_M rfl) rfl (Nat.le_of_ble_eq_true rfl) dX6_layCan_102 ?_
      refine r_iconst (v := 1) dX6_layCan_105 (by decide) ?_
      obtain ⟨i18, hf⟩ := hf_in hf
      refine r_zast 32 ga_M_canBe sa_M_canBe i18 dX6_layCan_106 ?_
      refine r_iinc (v := (v2_62 + 1)) (lv2 := [(2, .int (v2_62 + 1)), (0, .ref (eA E 26)), (1, .int q9)]) dX6_layCan_107 2 rfl rfl (by decide) rfl ?_
      refine r_goto (tgt := 62) dX6_layCan_110 (by decide) ?_
      exact (Wa.sub [1, 2, 0] rfl (ih _ _ _ _ _ _ hf kx0))
set_option maxHeartbeats 4000000 in
set_option maxRecDepth 100000 in
theorem s_X6_layCan {E : EN} {hX : TX} {hR : TR} {hL : TC} {hT : TC} {hK : TK} {hS : TS} {hP : TP} {M_unitsNow : Int32} {M_way : Int32} {M_sample : Int32} {M_one : Int32} {M_two : Int32} {M_plays : Int32} {M_low : Int32} {M_high : Int32} {M_playsNow : Int32} {M_lowNow : Int32} {M_highNow : Int32} {M_textLong : Int32} {M_answerLong : Int32} {M_place : Int32} {M_units : Nat → Int32} {M_refused : Nat → Int32} {M_left : Nat → Int32} {M_played : Nat → Int32} {M_playedNow : Nat → Int32} {M_canBe : Nat → Int32} {M_text : Nat → Int32} {M_answered : Nat → Int32} {M_numbers : Nat → Int32}  {qR : Int32 × Int32 × (Nat → Int32) × (Nat → Int32)} (hf : f_X6_layCan M_unitsNow M_way M_one M_two M_units M_left M_canBe = some qR) : Sem E yX6_layCan cX6_layCan 4 none 6 [.ref (eA E 26)] (hX, hR, hL, hT, hK, hS, hP, (M_unitsNow, M_way, M_sample, M_one, M_two, M_plays, M_low, M_high, M_playsNow, M_lowNow, M_highNow, M_textLong, M_answerLong, M_place, M_units, M_refused, M_left, M_played, M_playedNow, M_canBe, M_text, M_answered, M_numbers)) (none, (hX, hR, hL, hT, hK, hS, hP, (M_unitsNow, M_way, M_sample, qR.1, qR.2.1, M_plays, M_low, M_high, M_playsNow, M_lowNow, M_highNow, M_textLong, M_answerLong, M_place, M_units, M_refused, qR.2.2.1, M_played, M_playedNow, qR.2.2.2, M_text, M_answered, M_numbers))) := by
  refine Sem.mk (lv := [(0, .ref (eA E 26))]) (by decide) (Nat.le_of_ble_eq_true rfl) rfl ?_
  rw [f_X6_layCan] at hf
  refine r_iconst (v := 0) dX6_layCan_0 (by decide) ?_
  refine r_istore_n (lv2 := [(1, .int 0), (0, .ref (eA E 26))]) dX6_layCan_1 rfl (by decide) rfl ?_
  obtain ⟨q3, hq3, hf⟩ := hf_bind hf
  refine (Wa.sub [1, 0] rfl (w_X6_layCan_2 _ _ _ _ hq3 ?_))
  refine r_iconst (v := 0) dX6_layCan_22 (by decide) ?_
  refine r_istore_n (lv2 := [(1, .int 0), (0, .ref (eA E 26))]) dX6_layCan_23 rfl (by decide) rfl ?_
  refine r_aload_n dX6_layCan_24 1 rfl ?_
  obtain ⟨q4, hq4, hf⟩ := hf_bind hf
  refine r_callVv (As := []) (b := (eA E 26)) (st := []) (s_X6_begins hq4) (by decide) (by decide) wd_941 wd_943 wd_38 wd_74 wd_944 hy_X6_begins (Rc.obj 26 ga_M rfl) rfl (Nat.le_of_ble_eq_true rfl) dX6_layCan_25 ?_
  refine r_iconst (v := 0) dX6_layCan_28 (by decide) ?_
  refine r_istore_n (lv2 := [(2, .int 0), (1, .int 0), (0, .ref (eA E 26))]) dX6_layCan_29 rfl (by decide) rfl ?_
  obtain ⟨q9, hq9, hf⟩ := hf_bind hf
  refine (Wa.sub [2, 1, 0] rfl (w_X6_layCan_30 _ _ _ _ hq9 ?_))
  refine r_iconst (v := 0) dX6_layCan_60 (by decide) ?_
  refine r_istore_n (lv2 := [(2, .int 0), (0, .ref (eA E 26)), (1, .int q9)]) dX6_layCan_61 rfl (by decide) rfl ?_
  obtain ⟨q19, hq19, hf⟩ := hf_bind hf
  refine (Wa.sub [1, 2, 0] rfl (w_X6_layCan_62 _ _ _ _ _ _ _ hq19 ?_))
  have e9 := Option.some.inj hf
  subst e9
  exact r_vret rfl dX6_layCan_113
-- DuelSamplesModel.many
def lp_X6_many_8 (q1 : Int32 × Int32 × (Nat → Int32) × (Nat → Int32)) : Nat → Int32 → Int32 → Option (Int32)
  | 0, _, _ => none
  | n9 + 1, v1_8, v2_8 => if 4096 ≤ v2_8 then some v1_8 else if inB v2_8 4096 then Option.bind (if (q1.2.2.2 (Int32.toNatClampNeg v2_8)) = 0 then some 0 else some 1) (fun (q5 : Int32) => lp_X6_many_8 q1 n9 (v1_8 + q5) (v2_8 + 1)) else none
def f_X6_many (M_unitsNow : Int32) (M_way : Int32) (M_one : Int32) (M_two : Int32) (M_units : Nat → Int32) (M_left : Nat → Int32) (M_canBe : Nat → Int32)  : Option (Int32 × Int32 × Int32 × (Nat → Int32) × (Nat → Int32)) := Option.bind (f_X6_layCan M_unitsNow M_way M_one M_two M_units M_left M_canBe) (fun (q1 : Int32 × Int32 × (Nat → Int32) × (Nat → Int32)) => Option.bind (lp_X6_many_8 q1 FU 0 0) (fun (q6 : Int32) => some (q6, q1.1, q1.2.1, q1.2.2.1, q1.2.2.2)))
theorem hy_X6_many : yX6_many.cls ≠ "java/lang/invoke/MethodHandle" ∧ yX6_many.cls ≠ "java/lang/invoke/VarHandle" ∧ (parseMethodDescriptor yX6_many.desc).map (fun d => d.parameters.length) = some 0 := by decide +kernel
set_option maxHeartbeats 4000000 in
set_option maxRecDepth 100000 in
theorem w_X6_many_8 {E : EN} {res : Option Value × Hp} {hX : TX} {hR : TR} {hL : TC} {hT : TC} {hK : TK} {hS : TS} {hP : TP} {M_unitsNow : Int32} {M_way : Int32} {M_sample : Int32} {q1 : Int32 × Int32 × (Nat → Int32) × (Nat → Int32)} {M_plays : Int32} {M_low : Int32} {M_high : Int32} {M_playsNow : Int32} {M_lowNow : Int32} {M_highNow : Int32} {M_textLong : Int32} {M_answerLong : Int32} {M_place : Int32} {M_units : Nat → Int32} {M_refused : Nat → Int32} {M_played : Nat → Int32} {M_playedNow : Nat → Int32} {M_text : Nat → Int32} {M_answered : Nat → Int32} {M_numbers : Nat → Int32} : ∀ (n9 : Nat) (v1_8 : Int32) (v2_8 : Int32) (qL : Int32), lp_X6_many_8 q1 n9 v1_8 v2_8 = some qL → (Wa E yX6_many cX6_many 3 (some .int) 7 res 38 [(1, .int qL)] [] (hX, hR, hL, hT, hK, hS, hP, (M_unitsNow, M_way, M_sample, q1.1, q1.2.1, M_plays, M_low, M_high, M_playsNow, M_lowNow, M_highNow, M_textLong, M_answerLong, M_place, M_units, M_refused, q1.2.2.1, M_played, M_playedNow, q1.2.2.2, M_text, M_answered, M_numbers))) → Wa E yX6_many cX6_many 3 (some .int) 7 res 8 [(0, .ref (eA E 26)), (1, .int v1_8), (2, .int v2_8)] [] (hX, hR, hL, hT, hK, hS, hP, (M_unitsNow, M_way, M_sample, q1.1, q1.2.1, M_plays, M_low, M_high, M_playsNow, M_lowNow, M_highNow, M_textLong, M_answerLong, M_place, M_units, M_refused, q1.2.2.1, M_played, M_playedNow, q1.2.2.2, M_text, M_answered, M_numbers)) := by
  intro n9
  induction n9 with
  | zero =>
    intro v1_8 v2_8 qL hf
    exact nomatch (show (none : Option (Int32)) = some qL from hf)
  | succ n9 ih =>
    intro v1_8 v2_8 qL hf kx0
    rw [lp_X6_many_8] at hf
    refine r_iload_n dX6_many_8 2 rfl ?_
    refine r_sipush (v := 4096) dX6_many_9 (by decide) ?_
    refine r_icmp_ge (tgt := 38) dX6_many_12 (by decide) (fun c2 => ?_) (fun c2 => ?_)
    · have hf := hf_pos c2 hf
      have e9 := Option.some.inj hf
      subst e9
      exact (Wa.sub [1] rfl kx0)
    · have hf := hf_neg c2 hf
      refine r_iload_n dX6_many_15 1 rfl ?_
      refine r_aload_n dX6_many_16 0 rfl ?_
      refine r_get (v := .ref (eA E 32)) in_X6 26 ga_M rfl 16 (by decide) wd_779 rfl rfl dX6_many_17 ?_
      refine r_iload_n dX6_many_20 2 rfl ?_
      obtain ⟨i3, hf⟩ := hf_in hf
      refine r_zald (f := q1.2.2.2) 32 ga_M_canBe i3 dX6_many_21 ?_
      obtain ⟨q5, hq5, hf⟩ := hf_bind hf
      have kj5 : Wa E yX6_many cX6_many 3 (some .int) 7 res 30 [(0, .ref (eA E 26)), (2, .int v2_8)] [.int q5, .int v1_8] (hX, hR, hL, hT, hK, hS, hP, (M_unitsNow, M_way, M_sample, q1.1, q1.2.1, M_plays, M_low, M_high, M_playsNow, M_lowNow, M_highNow, M_textLong, M_answerLong, M_place, M_units, M_refused, q1.2.2.1, M_played, M_playedNow, q1.2.2.2, M_text, M_answered, M_numbers)) := by
        refine r_iadd dX6_many_30 ?_
        refine r_istore_n (lv2 := [(1, .int (v1_8 + q5)), (0, .ref (eA E 26)), (2, .int v2_8)]) dX6_many_31 rfl (by decide) rfl ?_
        refine r_iinc (v := (v2_8 + 1)) (lv2 := [(2, .int (v2_8 + 1)), (1, .int (v1_8 + q5)), (0, .ref (eA E 26))]) dX6_many_32 2 rfl rfl (by decide) rfl ?_
        refine r_goto (tgt := 8) dX6_many_35 (by decide) ?_
        exact (Wa.sub [2, 1, 0] rfl (ih _ _ _ hf kx0))
      have hf := hq5
      refine r_if_eq (tgt := 29) dX6_many_22 (by decide) (fun c4 => ?_) (fun c4 => ?_)
      · have hf := hf_pos c4 hf
        refine r_iconst (v := 0) dX6_many_29 (by decide) ?_
        have e9 := Option.some.inj hf
        subst e9
        exact (Wa.sub [0, 2] rfl kj5)
      · have hf := hf_neg c4 hf
        refine r_iconst (v := 1) dX6_many_25 (by decide) ?_
        refine r_goto (tgt := 30) dX6_many_26 (by decide) ?_
        have e9 := Option.some.inj hf
        subst e9
        exact (Wa.sub [0, 2] rfl kj5)
set_option maxHeartbeats 4000000 in
set_option maxRecDepth 100000 in
theorem s_X6_many {E : EN} {hX : TX} {hR : TR} {hL : TC} {hT : TC} {hK : TK} {hS : TS} {hP : TP} {M_unitsNow : Int32} {M_way : Int32} {M_sample : Int32} {M_one : Int32} {M_two : Int32} {M_plays : Int32} {M_low : Int32} {M_high : Int32} {M_playsNow : Int32} {M_lowNow : Int32} {M_highNow : Int32} {M_textLong : Int32} {M_answerLong : Int32} {M_place : Int32} {M_units : Nat → Int32} {M_refused : Nat → Int32} {M_left : Nat → Int32} {M_played : Nat → Int32} {M_playedNow : Nat → Int32} {M_canBe : Nat → Int32} {M_text : Nat → Int32} {M_answered : Nat → Int32} {M_numbers : Nat → Int32}  {qR : Int32 × Int32 × Int32 × (Nat → Int32) × (Nat → Int32)} (hf : f_X6_many M_unitsNow M_way M_one M_two M_units M_left M_canBe = some qR) : Sem E yX6_many cX6_many 3 (some .int) 7 [.ref (eA E 26)] (hX, hR, hL, hT, hK, hS, hP, (M_unitsNow, M_way, M_sample, M_one, M_two, M_plays, M_low, M_high, M_playsNow, M_lowNow, M_highNow, M_textLong, M_answerLong, M_place, M_units, M_refused, M_left, M_played, M_playedNow, M_canBe, M_text, M_answered, M_numbers)) (some (.int qR.1), (hX, hR, hL, hT, hK, hS, hP, (M_unitsNow, M_way, M_sample, qR.2.1, qR.2.2.1, M_plays, M_low, M_high, M_playsNow, M_lowNow, M_highNow, M_textLong, M_answerLong, M_place, M_units, M_refused, qR.2.2.2.1, M_played, M_playedNow, qR.2.2.2.2, M_text, M_answered, M_numbers))) := by
  refine Sem.mk (lv := [(0, .ref (eA E 26))]) (by decide) (Nat.le_of_ble_eq_true rfl) rfl ?_
  rw [f_X6_many] at hf
  refine r_iconst (v := 0) dX6_many_0 (by decide) ?_
  refine r_istore_n (lv2 := [(1, .int 0), (0, .ref (eA E 26))]) dX6_many_1 rfl (by decide) rfl ?_
  refine r_aload_n dX6_many_2 1 rfl ?_
  obtain ⟨q1, hq1, hf⟩ := hf_bind hf
  refine r_callVv (As := []) (b := (eA E 26)) (st := []) (s_X6_layCan hq1) (by decide) (by decide) wd_1047 wd_1049 wd_52 wd_74 wd_1050 hy_X6_layCan (Rc.obj 26 ga_M rfl) rfl (Nat.le_of_ble_eq_true rfl) dX6_many_3 ?_
  refine r_iconst (v := 0) dX6_many_6 (by decide) ?_
  refine r_istore_n (lv2 := [(2, .int 0), (1, .int 0), (0, .ref (eA E 26))]) dX6_many_7 rfl (by decide) rfl ?_
  obtain ⟨q6, hq6, hf⟩ := hf_bind hf
  refine (Wa.sub [2, 1, 0] rfl (w_X6_many_8 _ _ _ _ hq6 ?_))
  refine r_iload_n dX6_many_38 0 rfl ?_
  have e9 := Option.some.inj hf
  subst e9
  exact r_iret rfl dX6_many_39
-- DuelSamplesModel.sizes
def lp_X6_sizes_29 (q3 : Int32 × Int32 × (Nat → Int32) × (Nat → Int32)) : Nat → Int32 → Int32 → Int32 → Option (Int32 × Int32)
  | 0, _, _, _ => none
  | n9 + 1, v2_29, v3_29, v4_29 => if 4096 ≤ v4_29 then some (v2_29, v3_29) else if inB v4_29 4096 then Option.bind (if (q3.2.2.2 (Int32.toNatClampNeg v4_29)) = 0 then some v2_29 else Option.bind (f_X6_bits v4_29) (fun (q8 : Int32) => if v2_29 ≤ q8 then some v2_29 else Option.bind (f_X6_bits v4_29) (fun (q10 : Int32) => some q10))) (fun (q7 : Int32) => if inB v4_29 4096 then Option.bind (if (q3.2.2.2 (Int32.toNatClampNeg v4_29)) = 0 then some v3_29 else Option.bind (f_X6_bits v4_29) (fun (q14 : Int32) => if q14 ≤ v3_29 then some v3_29 else Option.bind (f_X6_bits v4_29) (fun (q16 : Int32) => some q16))) (fun (q13 : Int32) => lp_X6_sizes_29 q3 n9 q7 q13 (v4_29 + 1)) else none) else none
def f_X6_sizes (M_unitsNow : Int32) (M_way : Int32) (M_one : Int32) (M_two : Int32) (M_units : Nat → Int32) (M_refused : Nat → Int32) (M_left : Nat → Int32) (M_canBe : Nat → Int32) (a0 : Int32) : Option (Int32 × Int32 × Int32 × (Nat → Int32) × (Nat → Int32) × (Nat → Int32)) := Option.bind (f_X6_in (Int32.toInt64 a0) 0 1) (fun (q1 : Int32) => if q1 = 0 then Option.bind (f_X6_bad M_refused (-2)) (fun (q19 : Int32 × (Nat → Int32)) => some (q19.1, M_one, M_two, q19.2, M_left, M_canBe)) else Option.bind (f_X6_layCan M_unitsNow M_way M_one M_two M_units M_left M_canBe) (fun (q3 : Int32 × Int32 × (Nat → Int32) × (Nat → Int32)) => Option.bind (lp_X6_sizes_29 q3 FU 12 0 0) (fun (q17 : Int32 × Int32) => if a0 = 0 then some (q17.1, q3.1, q3.2.1, M_refused, q3.2.2.1, q3.2.2.2) else some (q17.2, q3.1, q3.2.1, M_refused, q3.2.2.1, q3.2.2.2))))
theorem hy_X6_sizes : yX6_sizes.cls ≠ "java/lang/invoke/MethodHandle" ∧ yX6_sizes.cls ≠ "java/lang/invoke/VarHandle" ∧ (parseMethodDescriptor yX6_sizes.desc).map (fun d => d.parameters.length) = some 1 := by decide +kernel
set_option maxHeartbeats 4000000 in
set_option maxRecDepth 100000 in
theorem w_X6_sizes_29 {E : EN} {res : Option Value × Hp} {hX : TX} {hR : TR} {hL : TC} {hT : TC} {hK : TK} {hS : TS} {hP : TP} {a0 : Int32} {M_unitsNow : Int32} {M_way : Int32} {M_sample : Int32} {q3 : Int32 × Int32 × (Nat → Int32) × (Nat → Int32)} {M_plays : Int32} {M_low : Int32} {M_high : Int32} {M_playsNow : Int32} {M_lowNow : Int32} {M_highNow : Int32} {M_textLong : Int32} {M_answerLong : Int32} {M_place : Int32} {M_units : Nat → Int32} {M_refused : Nat → Int32} {M_played : Nat → Int32} {M_playedNow : Nat → Int32} {M_text : Nat → Int32} {M_answered : Nat → Int32} {M_numbers : Nat → Int32} : ∀ (n9 : Nat) (v2_29 : Int32) (v3_29 : Int32) (v4_29 : Int32) (qL : Int32 × Int32), lp_X6_sizes_29 q3 n9 v2_29 v3_29 v4_29 = some qL → (Wa E yX6_sizes cX6_sizes 5 (some .int) 7 res 101 [(1, .int a0), (2, .int qL.1), (3, .int qL.2)] [] (hX, hR, hL, hT, hK, hS, hP, (M_unitsNow, M_way, M_sample, q3.1, q3.2.1, M_plays, M_low, M_high, M_playsNow, M_lowNow, M_highNow, M_textLong, M_answerLong, M_place, M_units, M_refused, q3.2.2.1, M_played, M_playedNow, q3.2.2.2, M_text, M_answered, M_numbers))) → Wa E yX6_sizes cX6_sizes 5 (some .int) 7 res 29 [(0, .ref (eA E 26)), (1, .int a0), (2, .int v2_29), (3, .int v3_29), (4, .int v4_29)] [] (hX, hR, hL, hT, hK, hS, hP, (M_unitsNow, M_way, M_sample, q3.1, q3.2.1, M_plays, M_low, M_high, M_playsNow, M_lowNow, M_highNow, M_textLong, M_answerLong, M_place, M_units, M_refused, q3.2.2.1, M_played, M_playedNow, q3.2.2.2, M_text, M_answered, M_numbers)) := by
  intro n9
  induction n9 with
  | zero =>
    intro v2_29 v3_29 v4_29 qL hf
    exact nomatch (show (none : Option (Int32 × Int32)) = some qL from hf)
  | succ n9 ih =>
    intro v2_29 v3_29 v4_29 qL hf kx0
    rw [lp_X6_sizes_29] at hf
    refine r_iload dX6_sizes_29 4 rfl ?_
    refine r_sipush (v := 4096) dX6_sizes_31 (by decide) ?_
    refine r_icmp_ge (tgt := 101) dX6_sizes_34 (by decide) (fun c4 => ?_) (fun c4 => ?_)
    · have hf := hf_pos c4 hf
      have e9 := Option.some.inj hf
      subst e9
      exact (Wa.sub [1, 2, 3] rfl kx0)
    · have hf := hf_neg c4 hf
      refine r_aload_n dX6_sizes_37 0 rfl ?_
      refine r_get (v := .ref (eA E 32)) in_X6 26 ga_M rfl 16 (by decide) wd_779 rfl rfl dX6_sizes_38 ?_
      refine r_iload dX6_sizes_41 4 rfl ?_
      obtain ⟨i5, hf⟩ := hf_in hf
      refine r_zald (f := q3.2.2.2) 32 ga_M_canBe i5 dX6_sizes_43 ?_
      obtain ⟨q7, hq7, hf⟩ := hf_bind hf
      have kj7 : Wa E yX6_sizes cX6_sizes 5 (some .int) 7 res 65 [(0, .ref (eA E 26)), (1, .int a0), (3, .int v3_29), (4, .int v4_29)] [.int q7] (hX, hR, hL, hT, hK, hS, hP, (M_unitsNow, M_way, M_sample, q3.1, q3.2.1, M_plays, M_low, M_high, M_playsNow, M_lowNow, M_highNow, M_textLong, M_answerLong, M_place, M_units, M_refused, q3.2.2.1, M_played, M_playedNow, q3.2.2.2, M_text, M_answered, M_numbers)) := by
        refine r_istore_n (lv2 := [(2, .int q7), (0, .ref (eA E 26)), (1, .int a0), (3, .int v3_29), (4, .int v4_29)]) dX6_sizes_65 rfl (by decide) rfl ?_
        refine r_aload_n dX6_sizes_66 1 rfl ?_
        refine r_get (v := .ref (eA E 32)) in_X6 26 ga_M rfl 16 (by decide) wd_779 rfl rfl dX6_sizes_67 ?_
        refine r_iload dX6_sizes_70 4 rfl ?_
        obtain ⟨i11, hf⟩ := hf_in hf
        refine r_zald (f := q3.2.2.2) 32 ga_M_canBe i11 dX6_sizes_72 ?_
        obtain ⟨q13, hq13, hf⟩ := hf_bind hf
        have kj13 : Wa E yX6_sizes cX6_sizes 5 (some .int) 7 res 94 [(0, .ref (eA E 26)), (1, .int a0), (2, .int q7), (4, .int v4_29)] [.int q13] (hX, hR, hL, hT, hK, hS, hP, (M_unitsNow, M_way, M_sample, q3.1, q3.2.1, M_plays, M_low, M_high, M_playsNow, M_lowNow, M_highNow, M_textLong, M_answerLong, M_place, M_units, M_refused, q3.2.2.1, M_played, M_playedNow, q3.2.2.2, M_text, M_answered, M_numbers)) := by
          refine r_istore_n (lv2 := [(3, .int q13), (0, .ref (eA E 26)), (1, .int a0), (2, .int q7), (4, .int v4_29)]) dX6_sizes_94 rfl (by decide) rfl ?_
          refine r_iinc (v := (v4_29 + 1)) (lv2 := [(4, .int (v4_29 + 1)), (3, .int q13), (0, .ref (eA E 26)), (1, .int a0), (2, .int q7)]) dX6_sizes_95 4 rfl rfl (by decide) rfl ?_
          refine r_goto (tgt := 29) dX6_sizes_98 (by decide) ?_
          exact (Wa.sub [2, 3, 4, 1, 0] rfl (ih _ _ _ _ hf kx0))
        have hf := hq13
        refine r_if_eq (tgt := 93) dX6_sizes_73 (by decide) (fun c12 => ?_) (fun c12 => ?_)
        · have hf := hf_pos c12 hf
          refine r_iload_n dX6_sizes_93 3 rfl ?_
          have e9 := Option.some.inj hf
          subst e9
          exact (Wa.sub [1, 2, 0, 4] rfl kj13)
        · have hf := hf_neg c12 hf
          refine r_iload dX6_sizes_76 4 rfl ?_
          obtain ⟨q14, hq14, hf⟩ := hf_bind hf
          refine r_callSi (As := [.int v4_29]) (st := []) (s_X6_bits hq14) (by decide) (by decide) wd_984 wd_985 wd_74 wd_986 hy_X6_bits rfl (Nat.le_of_ble_eq_true rfl) dX6_sizes_78 ?_
          refine r_iload_n dX6_sizes_81 3 rfl ?_
          refine r_icmp_le (tgt := 93) dX6_sizes_82 (by decide) (fun c15 => ?_) (fun c15 => ?_)
          · have hf := hf_pos c15 hf
            refine r_iload_n dX6_sizes_93 3 rfl ?_
            have e9 := Option.some.inj hf
            subst e9
            exact (Wa.sub [1, 2, 0, 4] rfl kj13)
          · have hf := hf_neg c15 hf
            refine r_iload dX6_sizes_85 4 rfl ?_
            obtain ⟨q16, hq16, hf⟩ := hf_bind hf
            refine r_callSi (As := [.int v4_29]) (st := []) (s_X6_bits hq16) (by decide) (by decide) wd_984 wd_985 wd_74 wd_986 hy_X6_bits rfl (Nat.le_of_ble_eq_true rfl) dX6_sizes_87 ?_
            refine r_goto (tgt := 94) dX6_sizes_90 (by decide) ?_
            have e9 := Option.some.inj hf
            subst e9
            exact (Wa.sub [1, 2, 0, 4] rfl kj13)
      have hf := hq7
      refine r_if_eq (tgt := 64) dX6_sizes_44 (by decide) (fun c6 => ?_) (fun c6 => ?_)
      · have hf := hf_pos c6 hf
        refine r_iload_n dX6_sizes_64 2 rfl ?_
        have e9 := Option.some.inj hf
        subst e9
        exact (Wa.sub [0, 1, 3, 4] rfl kj7)
      · have hf := hf_neg c6 hf
        refine r_iload dX6_sizes_47 4 rfl ?_
        obtain ⟨q8, hq8, hf⟩ := hf_bind hf
        refine r_callSi (As := [.int v4_29]) (st := []) (s_X6_bits hq8) (by decide) (by decide) wd_984 wd_985 wd_74 wd_986 hy_X6_bits rfl (Nat.le_of_ble_eq_true rfl) dX6_sizes_49 ?_
        refine r_iload_n dX6_sizes_52 2 rfl ?_
        refine r_icmp_ge (tgt := 64) dX6_sizes_53 (by decide) (fun c9 => ?_) (fun c9 => ?_)
        · have hf := hf_pos c9 hf
          refine r_iload_n dX6_sizes_64 2 rfl ?_
          have e9 := Option.some.inj hf
          subst e9
          exact (Wa.sub [0, 1, 3, 4] rfl kj7)
        · have hf := hf_neg c9 hf
          refine r_iload dX6_sizes_56 4 rfl ?_
          obtain ⟨q10, hq10, hf⟩ := hf_bind hf
          refine r_callSi (As := [.int v4_29]) (st := []) (s_X6_bits hq10) (by decide) (by decide) wd_984 wd_985 wd_74 wd_986 hy_X6_bits rfl (Nat.le_of_ble_eq_true rfl) dX6_sizes_58 ?_
          refine r_goto (tgt := 65) dX6_sizes_61 (by decide) ?_
          have e9 := Option.some.inj hf
          subst e9
          exact (Wa.sub [0, 1, 3, 4] rfl kj7)
set_option maxHeartbeats 4000000 in
set_option maxRecDepth 100000 in
theorem s_X6_sizes {E : EN} {hX : TX} {hR : TR} {hL : TC} {hT : TC} {hK : TK} {hS : TS} {hP : TP} {M_unitsNow : Int32} {M_way : Int32} {M_sample : Int32} {M_one : Int32} {M_two : Int32} {M_plays : Int32} {M_low : Int32} {M_high : Int32} {M_playsNow : Int32} {M_lowNow : Int32} {M_highNow : Int32} {M_textLong : Int32} {M_answerLong : Int32} {M_place : Int32} {M_units : Nat → Int32} {M_refused : Nat → Int32} {M_left : Nat → Int32} {M_played : Nat → Int32} {M_playedNow : Nat → Int32} {M_canBe : Nat → Int32} {M_text : Nat → Int32} {M_answered : Nat → Int32} {M_numbers : Nat → Int32} {a0 : Int32} {qR : Int32 × Int32 × Int32 × (Nat → Int32) × (Nat → Int32) × (Nat → Int32)} (hf : f_X6_sizes M_unitsNow M_way M_one M_two M_units M_refused M_left M_canBe a0 = some qR) : Sem E yX6_sizes cX6_sizes 5 (some .int) 7 [.ref (eA E 26), .int a0] (hX, hR, hL, hT, hK, hS, hP, (M_unitsNow, M_way, M_sample, M_one, M_two, M_plays, M_low, M_high, M_playsNow, M_lowNow, M_highNow, M_textLong, M_answerLong, M_place, M_units, M_refused, M_left, M_played, M_playedNow, M_canBe, M_text, M_answered, M_numbers)) (some (.int qR.1), (hX, hR, hL, hT, hK, hS, hP, (M_unitsNow, M_way, M_sample, qR.2.1, qR.2.2.1, M_plays, M_low, M_high, M_playsNow, M_lowNow, M_highNow, M_textLong, M_answerLong, M_place, M_units, qR.2.2.2.1, qR.2.2.2.2.1, M_played, M_playedNow, qR.2.2.2.2.2, M_text, M_answered, M_numbers))) := by
  refine Sem.mk (lv := [(0, .ref (eA E 26)), (1, .int a0)]) (by decide) (Nat.le_of_ble_eq_true rfl) rfl ?_
  rw [f_X6_sizes] at hf
  refine r_iload_n dX6_sizes_0 1 rfl ?_
  refine r_i2l dX6_sizes_1 ?_
  refine r_lconst (v := 0) dX6_sizes_2 (by decide) ?_
  refine r_lconst (v := 1) dX6_sizes_3 (by decide) ?_
  obtain ⟨q1, hq1, hf⟩ := hf_bind hf
  refine r_callSi (As := [.long (Int32.toInt64 a0), .long 0, .long 1]) (st := []) (s_X6_in hq1) (by decide) (by decide) wd_841 wd_842 wd_74 wd_843 hy_X6_in rfl (Nat.le_of_ble_eq_true rfl) dX6_sizes_4 ?_
  refine r_if_ne (tgt := 17) dX6_sizes_7 (by decide) (fun c2 => ?_) (fun c2 => ?_)
  · have hf := hf_neg c2 hf
    refine r_bipush (v := 12) dX6_sizes_17 (by decide) ?_
    refine r_istore_n (lv2 := [(2, .int 12), (0, .ref (eA E 26)), (1, .int a0)]) dX6_sizes_19 rfl (by decide) rfl ?_
    refine r_iconst (v := 0) dX6_sizes_20 (by decide) ?_
    refine r_istore_n (lv2 := [(3, .int 0), (2, .int 12), (0, .ref (eA E 26)), (1, .int a0)]) dX6_sizes_21 rfl (by decide) rfl ?_
    refine r_aload_n dX6_sizes_22 2 rfl ?_
    obtain ⟨q3, hq3, hf⟩ := hf_bind hf
    refine r_callVv (As := []) (b := (eA E 26)) (st := []) (s_X6_layCan hq3) (by decide) (by decide) wd_1047 wd_1049 wd_52 wd_74 wd_1050 hy_X6_layCan (Rc.obj 26 ga_M rfl) rfl (Nat.le_of_ble_eq_true rfl) dX6_sizes_23 ?_
    refine r_iconst (v := 0) dX6_sizes_26 (by decide) ?_
    refine r_istore (lv2 := [(4, .int 0), (3, .int 0), (2, .int 12), (0, .ref (eA E 26)), (1, .int a0)]) dX6_sizes_27 (by decide) rfl ?_
    obtain ⟨q17, hq17, hf⟩ := hf_bind hf
    refine (Wa.sub [3, 4, 2, 1, 0] rfl (w_X6_sizes_29 _ _ _ _ _ hq17 ?_))
    refine r_iload_n dX6_sizes_101 0 rfl ?_
    refine r_if_ne (tgt := 109) dX6_sizes_102 (by decide) (fun c18 => ?_) (fun c18 => ?_)
    · have hf := hf_neg c18 hf
      refine r_iload_n dX6_sizes_109 2 rfl ?_
      have e9 := Option.some.inj hf
      subst e9
      exact r_iret rfl dX6_sizes_110
    · have hf := hf_pos c18 hf
      refine r_iload_n dX6_sizes_105 1 rfl ?_
      refine r_goto (tgt := 110) dX6_sizes_106 (by decide) ?_
      have e9 := Option.some.inj hf
      subst e9
      exact r_iret rfl dX6_sizes_110
  · have hf := hf_pos c2 hf
    refine r_aload_n dX6_sizes_10 0 rfl ?_
    refine r_bipush (v := (-2)) dX6_sizes_11 (by decide) ?_
    obtain ⟨q19, hq19, hf⟩ := hf_bind hf
    refine r_callVi (As := [.int (-2)]) (b := (eA E 26)) (st := []) (s_X6_bad hq19) (by decide) (by decide) wd_844 wd_846 wd_27 wd_74 wd_847 hy_X6_bad (Rc.obj 26 ga_M rfl) rfl (Nat.le_of_ble_eq_true rfl) dX6_sizes_13 ?_
    have e9 := Option.some.inj hf
    subst e9
    exact r_iret rfl dX6_sizes_16
-- DuelSamplesModel.can
def lp_X6_can_41 (q6 : Int32 × Int32 × (Nat → Int32) × (Nat → Int32)) (a0 : Int32) (a1 : Int32) : Nat → Int32 → Int32 → Option (Int32)
  | 0, _, _ => none
  | n9 + 1, v3_41, v5_41 => if 4096 ≤ v5_41 then some v3_41 else Option.bind (if v3_41 = 0 then if inB v5_41 4096 then if (q6.2.2.2 (Int32.toNatClampNeg v5_41)) = 0 then some 0 else if (v5_41 &&& ((1 <<< (a0 &&& 31)) ||| (1 <<< (a1 &&& 31)))) = ((1 <<< (a0 &&& 31)) ||| (1 <<< (a1 &&& 31))) then some 1 else some 0 else none else some 1) (fun (q9 : Int32) => lp_X6_can_41 q6 a0 a1 n9 q9 (v5_41 + 1))
def f_X6_can (M_unitsNow : Int32) (M_way : Int32) (M_one : Int32) (M_two : Int32) (M_units : Nat → Int32) (M_refused : Nat → Int32) (M_left : Nat → Int32) (M_canBe : Nat → Int32) (a0 : Int32) (a1 : Int32) : Option (Int32 × Int32 × Int32 × (Nat → Int32) × (Nat → Int32) × (Nat → Int32)) := Option.bind (f_X6_isUnit M_unitsNow a0) (fun (q1 : Int32) => if q1 = 0 then Option.bind (f_X6_bad M_refused (-2)) (fun (q3 : Int32 × (Nat → Int32)) => some (q3.1, M_one, M_two, q3.2, M_left, M_canBe)) else Option.bind (f_X6_isUnit M_unitsNow a1) (fun (q4 : Int32) => if q4 = 0 then Option.bind (f_X6_bad M_refused (-2)) (fun (q15 : Int32 × (Nat → Int32)) => some (q15.1, M_one, M_two, q15.2, M_left, M_canBe)) else Option.bind (f_X6_layCan M_unitsNow M_way M_one M_two M_units M_left M_canBe) (fun (q6 : Int32 × Int32 × (Nat → Int32) × (Nat → Int32)) => Option.bind (lp_X6_can_41 q6 a0 a1 FU 0 0) (fun (q13 : Int32) => if q13 = 0 then some (0, q6.1, q6.2.1, M_refused, q6.2.2.1, q6.2.2.2) else some (1, q6.1, q6.2.1, M_refused, q6.2.2.1, q6.2.2.2)))))
theorem hy_X6_can : yX6_can.cls ≠ "java/lang/invoke/MethodHandle" ∧ yX6_can.cls ≠ "java/lang/invoke/VarHandle" ∧ (parseMethodDescriptor yX6_can.desc).map (fun d => d.parameters.length) = some 2 := by decide +kernel
set_option maxHeartbeats 4000000 in
set_option maxRecDepth 100000 in
theorem w_X6_can_41 {E : EN} {res : Option Value × Hp} {hX : TX} {hR : TR} {hL : TC} {hT : TC} {hK : TK} {hS : TS} {hP : TP} {a0 : Int32} {a1 : Int32} {M_unitsNow : Int32} {M_way : Int32} {M_sample : Int32} {q6 : Int32 × Int32 × (Nat → Int32) × (Nat → Int32)} {M_plays : Int32} {M_low : Int32} {M_high : Int32} {M_playsNow : Int32} {M_lowNow : Int32} {M_highNow : Int32} {M_textLong : Int32} {M_answerLong : Int32} {M_place : Int32} {M_units : Nat → Int32} {M_refused : Nat → Int32} {M_played : Nat → Int32} {M_playedNow : Nat → Int32} {M_text : Nat → Int32} {M_answered : Nat → Int32} {M_numbers : Nat → Int32} : ∀ (n9 : Nat) (v3_41 : Int32) (v5_41 : Int32) (qL : Int32), lp_X6_can_41 q6 a0 a1 n9 v3_41 v5_41 = some qL → (Wa E yX6_can cX6_can 6 (some .int) 7 res 85 [(3, .int qL)] [] (hX, hR, hL, hT, hK, hS, hP, (M_unitsNow, M_way, M_sample, q6.1, q6.2.1, M_plays, M_low, M_high, M_playsNow, M_lowNow, M_highNow, M_textLong, M_answerLong, M_place, M_units, M_refused, q6.2.2.1, M_played, M_playedNow, q6.2.2.2, M_text, M_answered, M_numbers))) → Wa E yX6_can cX6_can 6 (some .int) 7 res 41 [(0, .ref (eA E 26)), (3, .int v3_41), (4, .int ((1 <<< (a0 &&& 31)) ||| (1 <<< (a1 &&& 31)))), (5, .int v5_41)] [] (hX, hR, hL, hT, hK, hS, hP, (M_unitsNow, M_way, M_sample, q6.1, q6.2.1, M_plays, M_low, M_high, M_playsNow, M_lowNow, M_highNow, M_textLong, M_answerLong, M_place, M_units, M_refused, q6.2.2.1, M_played, M_playedNow, q6.2.2.2, M_text, M_answered, M_numbers)) := by
  intro n9
  induction n9 with
  | zero =>
    intro v3_41 v5_41 qL hf
    exact nomatch (show (none : Option (Int32)) = some qL from hf)
  | succ n9 ih =>
    intro v3_41 v5_41 qL hf kx0
    rw [lp_X6_can_41] at hf
    refine r_iload dX6_can_41 3 rfl ?_
    refine r_sipush (v := 4096) dX6_can_43 (by decide) ?_
    refine r_icmp_ge (tgt := 85) dX6_can_46 (by decide) (fun c7 => ?_) (fun c7 => ?_)
    · have hf := hf_pos c7 hf
      have e9 := Option.some.inj hf
      subst e9
      exact (Wa.sub [1] rfl kx0)
    · have hf := hf_neg c7 hf
      refine r_iload_n dX6_can_49 1 rfl ?_
      obtain ⟨q9, hq9, hf⟩ := hf_bind hf
      have kj9 : Wa E yX6_can cX6_can 6 (some .int) 7 res 78 [(0, .ref (eA E 26)), (4, .int ((1 <<< (a0 &&& 31)) ||| (1 <<< (a1 &&& 31)))), (5, .int v5_41)] [.int q9] (hX, hR, hL, hT, hK, hS, hP, (M_unitsNow, M_way, M_sample, q6.1, q6.2.1, M_plays, M_low, M_high, M_playsNow, M_lowNow, M_highNow, M_textLong, M_answerLong, M_place, M_units, M_refused, q6.2.2.1, M_played, M_playedNow, q6.2.2.2, M_text, M_answered, M_numbers)) := by
        refine r_istore_n (lv2 := [(3, .int q9), (0, .ref (eA E 26)), (4, .int ((1 <<< (a0 &&& 31)) ||| (1 <<< (a1 &&& 31)))), (5, .int v5_41)]) dX6_can_78 rfl (by decide) rfl ?_
        refine r_iinc (v := (v5_41 + 1)) (lv2 := [(5, .int (v5_41 + 1)), (3, .int q9), (0, .ref (eA E 26)), (4, .int ((1 <<< (a0 &&& 31)) ||| (1 <<< (a1 &&& 31))))]) dX6_can_79 3 rfl rfl (by decide) rfl ?_
        refine r_goto (tgt := 41) dX6_can_82 (by decide) ?_
        exact (Wa.sub [2, 1, 3, 0] rfl (ih _ _ _ hf kx0))
      have hf := hq9
      refine r_if_ne (tgt := 73) dX6_can_50 (by decide) (fun c8 => ?_) (fun c8 => ?_)
      · have hf := hf_neg c8 hf
        refine r_iconst (v := 1) dX6_can_73 (by decide) ?_
        refine r_goto (tgt := 78) dX6_can_74 (by decide) ?_
        have e9 := Option.some.inj hf
        subst e9
        exact (Wa.sub [0, 2, 3] rfl kj9)
      · have hf := hf_pos c8 hf
        refine r_aload_n dX6_can_53 0 rfl ?_
        refine r_get (v := .ref (eA E 32)) in_X6 26 ga_M rfl 16 (by decide) wd_779 rfl rfl dX6_can_54 ?_
        refine r_iload dX6_can_57 3 rfl ?_
        obtain ⟨i10, hf⟩ := hf_in hf
        refine r_zald (f := q6.2.2.2) 32 ga_M_canBe i10 dX6_can_59 ?_
        refine r_if_eq (tgt := 77) dX6_can_60 (by decide) (fun c11 => ?_) (fun c11 => ?_)
        · have hf := hf_pos c11 hf
          refine r_iconst (v := 0) dX6_can_77 (by decide) ?_
          have e9 := Option.some.inj hf
          subst e9
          exact (Wa.sub [0, 2, 3] rfl kj9)
        · have hf := hf_neg c11 hf
          refine r_iload dX6_can_63 3 rfl ?_
          refine r_iload dX6_can_65 2 rfl ?_
          refine r_iand dX6_can_67 ?_
          refine r_iload dX6_can_68 2 rfl ?_
          refine r_icmp_ne (tgt := 77) dX6_can_70 (by decide) (fun c12 => ?_) (fun c12 => ?_)
          · have hf := hf_neg c12 hf
            refine r_iconst (v := 0) dX6_can_77 (by decide) ?_
            have e9 := Option.some.inj hf
            subst e9
            exact (Wa.sub [0, 2, 3] rfl kj9)
          · have hf := hf_pos c12 hf
            refine r_iconst (v := 1) dX6_can_73 (by decide) ?_
            refine r_goto (tgt := 78) dX6_can_74 (by decide) ?_
            have e9 := Option.some.inj hf
            subst e9
            exact (Wa.sub [0, 2, 3] rfl kj9)
set_option maxHeartbeats 4000000 in
set_option maxRecDepth 100000 in
theorem s_X6_can {E : EN} {hX : TX} {hR : TR} {hL : TC} {hT : TC} {hK : TK} {hS : TS} {hP : TP} {M_unitsNow : Int32} {M_way : Int32} {M_sample : Int32} {M_one : Int32} {M_two : Int32} {M_plays : Int32} {M_low : Int32} {M_high : Int32} {M_playsNow : Int32} {M_lowNow : Int32} {M_highNow : Int32} {M_textLong : Int32} {M_answerLong : Int32} {M_place : Int32} {M_units : Nat → Int32} {M_refused : Nat → Int32} {M_left : Nat → Int32} {M_played : Nat → Int32} {M_playedNow : Nat → Int32} {M_canBe : Nat → Int32} {M_text : Nat → Int32} {M_answered : Nat → Int32} {M_numbers : Nat → Int32} {a0 : Int32} {a1 : Int32} {qR : Int32 × Int32 × Int32 × (Nat → Int32) × (Nat → Int32) × (Nat → Int32)} (hf : f_X6_can M_unitsNow M_way M_one M_two M_units M_refused M_left M_canBe a0 a1 = some qR) : Sem E yX6_can cX6_can 6 (some .int) 7 [.ref (eA E 26), .int a0, .int a1] (hX, hR, hL, hT, hK, hS, hP, (M_unitsNow, M_way, M_sample, M_one, M_two, M_plays, M_low, M_high, M_playsNow, M_lowNow, M_highNow, M_textLong, M_answerLong, M_place, M_units, M_refused, M_left, M_played, M_playedNow, M_canBe, M_text, M_answered, M_numbers)) (some (.int qR.1), (hX, hR, hL, hT, hK, hS, hP, (M_unitsNow, M_way, M_sample, qR.2.1, qR.2.2.1, M_plays, M_low, M_high, M_playsNow, M_lowNow, M_highNow, M_textLong, M_answerLong, M_place, M_units, qR.2.2.2.1, qR.2.2.2.2.1, M_played, M_playedNow, qR.2.2.2.2.2, M_text, M_answered, M_numbers))) := by
  refine Sem.mk (lv := [(0, .ref (eA E 26)), (1, .int a0), (2, .int a1)]) (by decide) (Nat.le_of_ble_eq_true rfl) rfl ?_
  rw [f_X6_can] at hf
  refine r_aload_n dX6_can_0 0 rfl ?_
  refine r_iload_n dX6_can_1 1 rfl ?_
  obtain ⟨q1, hq1, hf⟩ := hf_bind hf
  refine r_callVi (As := [.int a0]) (b := (eA E 26)) (st := []) (s_X6_isUnit hq1) (by decide) (by decide) wd_860 wd_862 wd_30 wd_74 wd_863 hy_X6_isUnit (Rc.obj 26 ga_M rfl) rfl (Nat.le_of_ble_eq_true rfl) dX6_can_2 ?_
  refine r_if_eq (tgt := 16) dX6_can_5 (by decide) (fun c2 => ?_) (fun c2 => ?_)
  · have hf := hf_pos c2 hf
    refine r_aload_n dX6_can_16 0 rfl ?_
    refine r_bipush (v := (-2)) dX6_can_17 (by decide) ?_
    obtain ⟨q3, hq3, hf⟩ := hf_bind hf
    refine r_callVi (As := [.int (-2)]) (b := (eA E 26)) (st := []) (s_X6_bad hq3) (by decide) (by decide) wd_844 wd_846 wd_27 wd_74 wd_847 hy_X6_bad (Rc.obj 26 ga_M rfl) rfl (Nat.le_of_ble_eq_true rfl) dX6_can_19 ?_
    have e9 := Option.some.inj hf
    subst e9
    exact r_iret rfl dX6_can_22
  · have hf := hf_neg c2 hf
    refine r_aload_n dX6_can_8 0 rfl ?_
    refine r_iload_n dX6_can_9 2 rfl ?_
    obtain ⟨q4, hq4, hf⟩ := hf_bind hf
    refine r_callVi (As := [.int a1]) (b := (eA E 26)) (st := []) (s_X6_isUnit hq4) (by decide) (by decide) wd_860 wd_862 wd_30 wd_74 wd_863 hy_X6_isUnit (Rc.obj 26 ga_M rfl) rfl (Nat.le_of_ble_eq_true rfl) dX6_can_10 ?_
    refine r_if_ne (tgt := 23) dX6_can_13 (by decide) (fun c5 => ?_) (fun c5 => ?_)
    · have hf := hf_neg c5 hf
      refine r_iconst (v := 0) dX6_can_23 (by decide) ?_
      refine r_istore_n (lv2 := [(3, .int 0), (0, .ref (eA E 26)), (1, .int a0), (2, .int a1)]) dX6_can_24 rfl (by decide) rfl ?_
      refine r_iconst (v := 1) dX6_can_25 (by decide) ?_
      refine r_iload_n dX6_can_26 2 rfl ?_
      refine r_ishl dX6_can_27 ?_
      refine r_iconst (v := 1) dX6_can_28 (by decide) ?_
      refine r_iload_n dX6_can_29 3 rfl ?_
      refine r_ishl dX6_can_30 ?_
      refine r_ior dX6_can_31 ?_
      refine r_istore (lv2 := [(4, .int ((1 <<< (a0 &&& 31)) ||| (1 <<< (a1 &&& 31)))), (3, .int 0), (0, .ref (eA E 26)), (1, .int a0), (2, .int a1)]) dX6_can_32 (by decide) rfl ?_
      refine r_aload_n dX6_can_34 2 rfl ?_
      obtain ⟨q6, hq6, hf⟩ := hf_bind hf
      refine r_callVv (As := []) (b := (eA E 26)) (st := []) (s_X6_layCan hq6) (by decide) (by decide) wd_1047 wd_1049 wd_52 wd_74 wd_1050 hy_X6_layCan (Rc.obj 26 ga_M rfl) rfl (Nat.le_of_ble_eq_true rfl) dX6_can_35 ?_
      refine r_iconst (v := 0) dX6_can_38 (by decide) ?_
      refine r_istore (lv2 := [(5, .int 0), (4, .int ((1 <<< (a0 &&& 31)) ||| (1 <<< (a1 &&& 31)))), (3, .int 0), (0, .ref (eA E 26)), (1, .int a0), (2, .int a1)]) dX6_can_39 (by decide) rfl ?_
      obtain ⟨q13, hq13, hf⟩ := hf_bind hf
      refine (Wa.sub [3, 2, 1, 0] rfl (w_X6_can_41 _ _ _ _ hq13 ?_))
      refine r_iload_n dX6_can_85 0 rfl ?_
      refine r_if_eq (tgt := 93) dX6_can_86 (by decide) (fun c14 => ?_) (fun c14 => ?_)
      · have hf := hf_pos c14 hf
        refine r_iconst (v := 0) dX6_can_93 (by decide) ?_
        have e9 := Option.some.inj hf
        subst e9
        exact r_iret rfl dX6_can_94
      · have hf := hf_neg c14 hf
        refine r_iconst (v := 1) dX6_can_89 (by decide) ?_
        refine r_goto (tgt := 94) dX6_can_90 (by decide) ?_
        have e9 := Option.some.inj hf
        subst e9
        exact r_iret rfl dX6_can_94
    · have hf := hf_pos c5 hf
      refine r_aload_n dX6_can_16 0 rfl ?_
      refine r_bipush (v := (-2)) dX6_can_17 (by decide) ?_
      obtain ⟨q15, hq15, hf⟩ := hf_bind hf
      refine r_callVi (As := [.int (-2)]) (b := (eA E 26)) (st := []) (s_X6_bad hq15) (by decide) (by decide) wd_844 wd_846 wd_27 wd_74 wd_847 hy_X6_bad (Rc.obj 26 ga_M rfl) rfl (Nat.le_of_ble_eq_true rfl) dX6_can_19 ?_
      have e9 := Option.some.inj hf
      subst e9
      exact r_iret rfl dX6_can_22
-- DuelSamplesModel.least
def lp_X6_least_10 (q1 : Int32 × Int32 × (Nat → Int32) × (Nat → Int32)) (M_unitsNow : Int32) (M_units : Nat → Int32) : Nat → Int64 → Int32 → Option (Int64)
  | 0, _, _ => none
  | n9 + 1, v1_10, v3_10 => if 4096 ≤ v3_10 then some v1_10 else if inB v3_10 4096 then Option.bind (if (q1.2.2.2 (Int32.toNatClampNeg v3_10)) = 0 then some v1_10 else Option.bind (f_X6_missOf M_unitsNow M_units v3_10) (fun (q6 : Int64) => Option.bind (if (lg_cmp v1_10 0) < 0 then some q6 else if 0 ≤ (lg_cmp q6 v1_10) then some v1_10 else some q6) (fun (q8 : Int64) => some q8))) (fun (q5 : Int64) => lp_X6_least_10 q1 M_unitsNow M_units n9 q5 (v3_10 + 1)) else none
def f_X6_least (M_unitsNow : Int32) (M_way : Int32) (M_one : Int32) (M_two : Int32) (M_units : Nat → Int32) (M_left : Nat → Int32) (M_canBe : Nat → Int32)  : Option (Int64 × Int32 × Int32 × (Nat → Int32) × (Nat → Int32)) := Option.bind (f_X6_layCan M_unitsNow M_way M_one M_two M_units M_left M_canBe) (fun (q1 : Int32 × Int32 × (Nat → Int32) × (Nat → Int32)) => Option.bind (lp_X6_least_10 q1 M_unitsNow M_units FU (-1) 0) (fun (q10 : Int64) => some (q10, q1.1, q1.2.1, q1.2.2.1, q1.2.2.2)))
theorem hy_X6_least : yX6_least.cls ≠ "java/lang/invoke/MethodHandle" ∧ yX6_least.cls ≠ "java/lang/invoke/VarHandle" ∧ (parseMethodDescriptor yX6_least.desc).map (fun d => d.parameters.length) = some 0 := by decide +kernel
set_option maxHeartbeats 4000000 in
set_option maxRecDepth 100000 in
theorem w_X6_least_10 {E : EN} {res : Option Value × Hp} {hX : TX} {hR : TR} {hL : TC} {hT : TC} {hK : TK} {hS : TS} {hP : TP} {M_unitsNow : Int32} {M_way : Int32} {M_sample : Int32} {q1 : Int32 × Int32 × (Nat → Int32) × (Nat → Int32)} {M_plays : Int32} {M_low : Int32} {M_high : Int32} {M_playsNow : Int32} {M_lowNow : Int32} {M_highNow : Int32} {M_textLong : Int32} {M_answerLong : Int32} {M_place : Int32} {M_units : Nat → Int32} {M_refused : Nat → Int32} {M_played : Nat → Int32} {M_playedNow : Nat → Int32} {M_text : Nat → Int32} {M_answered : Nat → Int32} {M_numbers : Nat → Int32} : ∀ (n9 : Nat) (v1_10 : Int64) (v3_10 : Int32) (qL : Int64), lp_X6_least_10 q1 M_unitsNow M_units n9 v1_10 v3_10 = some qL → (Wa E yX6_least cX6_least 6 (some .long) 7 res 59 [(1, .long qL)] [] (hX, hR, hL, hT, hK, hS, hP, (M_unitsNow, M_way, M_sample, q1.1, q1.2.1, M_plays, M_low, M_high, M_playsNow, M_lowNow, M_highNow, M_textLong, M_answerLong, M_place, M_units, M_refused, q1.2.2.1, M_played, M_playedNow, q1.2.2.2, M_text, M_answered, M_numbers))) → Wa E yX6_least cX6_least 6 (some .long) 7 res 10 [(0, .ref (eA E 26)), (1, .long v1_10), (3, .int v3_10)] [] (hX, hR, hL, hT, hK, hS, hP, (M_unitsNow, M_way, M_sample, q1.1, q1.2.1, M_plays, M_low, M_high, M_playsNow, M_lowNow, M_highNow, M_textLong, M_answerLong, M_place, M_units, M_refused, q1.2.2.1, M_played, M_playedNow, q1.2.2.2, M_text, M_answered, M_numbers)) := by
  intro n9
  induction n9 with
  | zero =>
    intro v1_10 v3_10 qL hf
    exact nomatch (show (none : Option (Int64)) = some qL from hf)
  | succ n9 ih =>
    intro v1_10 v3_10 qL hf kx0
    rw [lp_X6_least_10] at hf
    refine r_iload_n dX6_least_10 2 rfl ?_
    refine r_sipush (v := 4096) dX6_least_11 (by decide) ?_
    refine r_icmp_ge (tgt := 59) dX6_least_14 (by decide) (fun c2 => ?_) (fun c2 => ?_)
    · have hf := hf_pos c2 hf
      have e9 := Option.some.inj hf
      subst e9
      exact (Wa.sub [1] rfl kx0)
    · have hf := hf_neg c2 hf
      refine r_aload_n dX6_least_17 0 rfl ?_
      refine r_get (v := .ref (eA E 32)) in_X6 26 ga_M rfl 16 (by decide) wd_779 rfl rfl dX6_least_18 ?_
      refine r_iload_n dX6_least_21 2 rfl ?_
      obtain ⟨i3, hf⟩ := hf_in hf
      refine r_zald (f := q1.2.2.2) 32 ga_M_canBe i3 dX6_least_22 ?_
      obtain ⟨q5, hq5, hf⟩ := hf_bind hf
      have kj5 : Wa E yX6_least cX6_least 6 (some .long) 7 res 53 [(0, .ref (eA E 26)), (1, .long q5), (3, .int v3_10)] [] (hX, hR, hL, hT, hK, hS, hP, (M_unitsNow, M_way, M_sample, q1.1, q1.2.1, M_plays, M_low, M_high, M_playsNow, M_lowNow, M_highNow, M_textLong, M_answerLong, M_place, M_units, M_refused, q1.2.2.1, M_played, M_playedNow, q1.2.2.2, M_text, M_answered, M_numbers)) := by
        refine r_iinc (v := (v3_10 + 1)) (lv2 := [(3, .int (v3_10 + 1)), (0, .ref (eA E 26)), (1, .long q5)]) dX6_least_53 2 rfl rfl (by decide) rfl ?_
        refine r_goto (tgt := 10) dX6_least_56 (by decide) ?_
        exact (Wa.sub [1, 2, 0] rfl (ih _ _ _ hf kx0))
      have hf := hq5
      refine r_if_eq (tgt := 53) dX6_least_23 (by decide) (fun c4 => ?_) (fun c4 => ?_)
      · have hf := hf_pos c4 hf
        have e9 := Option.some.inj hf
        subst e9
        exact kj5
      · have hf := hf_neg c4 hf
        refine r_aload_n dX6_least_26 0 rfl ?_
        refine r_iload_n dX6_least_27 2 rfl ?_
        obtain ⟨q6, hq6, hf⟩ := hf_bind hf
        refine r_callVl (As := [.int v3_10]) (b := (eA E 26)) (st := []) (s_X6_missOf hq6) (by decide) (by decide) wd_1009 wd_1011 wd_50 wd_74 wd_1012 hy_X6_missOf (Rc.obj 26 ga_M rfl) rfl (Nat.le_of_ble_eq_true rfl) dX6_least_28 ?_
        refine r_lstore (lv2 := [(4, .long q6), (0, .ref (eA E 26)), (1, .long v1_10), (3, .int v3_10)]) dX6_least_31 (by decide) rfl ?_
        refine r_lload_n dX6_least_33 2 rfl ?_
        refine r_lconst (v := 0) dX6_least_34 (by decide) ?_
        refine r_lcmp dX6_least_35 ?_
        obtain ⟨q8, hq8, hf⟩ := hf_bind hf
        have kj8 : Wa E yX6_least cX6_least 6 (some .long) 7 res 52 [(0, .ref (eA E 26)), (3, .int v3_10)] [.long q8] (hX, hR, hL, hT, hK, hS, hP, (M_unitsNow, M_way, M_sample, q1.1, q1.2.1, M_plays, M_low, M_high, M_playsNow, M_lowNow, M_highNow, M_textLong, M_answerLong, M_place, M_units, M_refused, q1.2.2.1, M_played, M_playedNow, q1.2.2.2, M_text, M_answered, M_numbers)) := by
          refine r_lstore_n (lv2 := [(1, .long q8), (0, .ref (eA E 26)), (3, .int v3_10)]) dX6_least_52 rfl (by decide) rfl ?_
          have e9 := Option.some.inj hf
          subst e9
          exact (Wa.sub [1, 0, 2] rfl kj5)
        have hf := hq8
        refine r_if_lt (tgt := 46) dX6_least_36 (by decide) (fun c7 => ?_) (fun c7 => ?_)
        · have hf := hf_pos c7 hf
          refine r_lload dX6_least_46 0 rfl ?_
          refine r_goto (tgt := 52) dX6_least_48 (by decide) ?_
          have e9 := Option.some.inj hf
          subst e9
          exact (Wa.sub [1, 3] rfl kj8)
        · have hf := hf_neg c7 hf
          refine r_lload dX6_least_39 0 rfl ?_
          refine r_lload_n dX6_least_41 2 rfl ?_
          refine r_lcmp dX6_least_42 ?_
          refine r_if_ge (tgt := 51) dX6_least_43 (by decide) (fun c9 => ?_) (fun c9 => ?_)
          · have hf := hf_pos c9 hf
            refine r_lload_n dX6_least_51 2 rfl ?_
            have e9 := Option.some.inj hf
            subst e9
            exact (Wa.sub [1, 3] rfl kj8)
          · have hf := hf_neg c9 hf
            refine r_lload dX6_least_46 0 rfl ?_
            refine r_goto (tgt := 52) dX6_least_48 (by decide) ?_
            have e9 := Option.some.inj hf
            subst e9
            exact (Wa.sub [1, 3] rfl kj8)
set_option maxHeartbeats 4000000 in
set_option maxRecDepth 100000 in
theorem s_X6_least {E : EN} {hX : TX} {hR : TR} {hL : TC} {hT : TC} {hK : TK} {hS : TS} {hP : TP} {M_unitsNow : Int32} {M_way : Int32} {M_sample : Int32} {M_one : Int32} {M_two : Int32} {M_plays : Int32} {M_low : Int32} {M_high : Int32} {M_playsNow : Int32} {M_lowNow : Int32} {M_highNow : Int32} {M_textLong : Int32} {M_answerLong : Int32} {M_place : Int32} {M_units : Nat → Int32} {M_refused : Nat → Int32} {M_left : Nat → Int32} {M_played : Nat → Int32} {M_playedNow : Nat → Int32} {M_canBe : Nat → Int32} {M_text : Nat → Int32} {M_answered : Nat → Int32} {M_numbers : Nat → Int32}  {qR : Int64 × Int32 × Int32 × (Nat → Int32) × (Nat → Int32)} (hf : f_X6_least M_unitsNow M_way M_one M_two M_units M_left M_canBe = some qR) : Sem E yX6_least cX6_least 6 (some .long) 7 [.ref (eA E 26)] (hX, hR, hL, hT, hK, hS, hP, (M_unitsNow, M_way, M_sample, M_one, M_two, M_plays, M_low, M_high, M_playsNow, M_lowNow, M_highNow, M_textLong, M_answerLong, M_place, M_units, M_refused, M_left, M_played, M_playedNow, M_canBe, M_text, M_answered, M_numbers)) (some (.long qR.1), (hX, hR, hL, hT, hK, hS, hP, (M_unitsNow, M_way, M_sample, qR.2.1, qR.2.2.1, M_plays, M_low, M_high, M_playsNow, M_lowNow, M_highNow, M_textLong, M_answerLong, M_place, M_units, M_refused, qR.2.2.2.1, M_played, M_playedNow, qR.2.2.2.2, M_text, M_answered, M_numbers))) := by
  refine Sem.mk (lv := [(0, .ref (eA E 26))]) (by decide) (Nat.le_of_ble_eq_true rfl) rfl ?_
  rw [f_X6_least] at hf
  refine r_ldc2 (v := (-1)) wd_1063 dX6_least_0 ?_
  refine r_lstore_n (lv2 := [(1, .long (-1)), (0, .ref (eA E 26))]) dX6_least_3 rfl (by decide) rfl ?_
  refine r_aload_n dX6_least_4 1 rfl ?_
  obtain ⟨q1, hq1, hf⟩ := hf_bind hf
  refine r_callVv (As := []) (b := (eA E 26)) (st := []) (s_X6_layCan hq1) (by decide) (by decide) wd_1047 wd_1049 wd_52 wd_74 wd_1050 hy_X6_layCan (Rc.obj 26 ga_M rfl) rfl (Nat.le_of_ble_eq_true rfl) dX6_least_5 ?_
  refine r_iconst (v := 0) dX6_least_8 (by decide) ?_
  refine r_istore_n (lv2 := [(3, .int 0), (1, .long (-1)), (0, .ref (eA E 26))]) dX6_least_9 rfl (by decide) rfl ?_
  obtain ⟨q10, hq10, hf⟩ := hf_bind hf
  refine (Wa.sub [2, 1, 0] rfl (w_X6_least_10 _ _ _ _ hq10 ?_))
  refine r_lload_n dX6_least_59 0 rfl ?_
  have e9 := Option.some.inj hf
  subst e9
  exact r_lret rfl dX6_least_60
-- DuelSamplesModel.type
def f_X6_type (M_textLong : Int32) (M_refused : Nat → Int32) (M_text : Nat → Int32) (a0 : Int32) : Option (Int32 × Int32 × (Nat → Int32) × (Nat → Int32)) := Option.bind (f_X6_in (Int32.toInt64 a0) 0 127) (fun (q1 : Int32) => if q1 = 0 then Option.bind (f_X6_bad M_refused (-2)) (fun (q6 : Int32 × (Nat → Int32)) => some (q6.1, M_textLong, q6.2, M_text)) else if M_textLong = 120 then Option.bind (f_X6_full M_refused) (fun (q5 : Int32 × (Nat → Int32)) => some (q5.1, M_textLong, q5.2, M_text)) else if inB M_textLong 120 then some ((M_textLong + 1), (M_textLong + 1), M_refused, (upd M_text (Int32.toNatClampNeg M_textLong) a0)) else none)
theorem hy_X6_type : yX6_type.cls ≠ "java/lang/invoke/MethodHandle" ∧ yX6_type.cls ≠ "java/lang/invoke/VarHandle" ∧ (parseMethodDescriptor yX6_type.desc).map (fun d => d.parameters.length) = some 1 := by decide +kernel
set_option maxHeartbeats 4000000 in
set_option maxRecDepth 100000 in
theorem s_X6_type {E : EN} {hX : TX} {hR : TR} {hL : TC} {hT : TC} {hK : TK} {hS : TS} {hP : TP} {M_unitsNow : Int32} {M_way : Int32} {M_sample : Int32} {M_one : Int32} {M_two : Int32} {M_plays : Int32} {M_low : Int32} {M_high : Int32} {M_playsNow : Int32} {M_lowNow : Int32} {M_highNow : Int32} {M_textLong : Int32} {M_answerLong : Int32} {M_place : Int32} {M_units : Nat → Int32} {M_refused : Nat → Int32} {M_left : Nat → Int32} {M_played : Nat → Int32} {M_playedNow : Nat → Int32} {M_canBe : Nat → Int32} {M_text : Nat → Int32} {M_answered : Nat → Int32} {M_numbers : Nat → Int32} {a0 : Int32} {qR : Int32 × Int32 × (Nat → Int32) × (Nat → Int32)} (hf : f_X6_type M_textLong M_refused M_text a0 = some qR) : Sem E yX6_type cX6_type 2 (some .int) 2 [.ref (eA E 26), .int a0] (hX, hR, hL, hT, hK, hS, hP, (M_unitsNow, M_way, M_sample, M_one, M_two, M_plays, M_low, M_high, M_playsNow, M_lowNow, M_highNow, M_textLong, M_answerLong, M_place, M_units, M_refused, M_left, M_played, M_playedNow, M_canBe, M_text, M_answered, M_numbers)) (some (.int qR.1), (hX, hR, hL, hT, hK, hS, hP, (M_unitsNow, M_way, M_sample, M_one, M_two, M_plays, M_low, M_high, M_playsNow, M_lowNow, M_highNow, qR.2.1, M_answerLong, M_place, M_units, qR.2.2.1, M_left, M_played, M_playedNow, M_canBe, qR.2.2.2, M_answered, M_numbers))) := by
  refine Sem.mk (lv := [(0, .ref (eA E 26)), (1, .int a0)]) (by decide) (Nat.le_of_ble_eq_true rfl) rfl ?_
  rw [f_X6_type] at hf
  refine r_iload_n dX6_type_0 1 rfl ?_
  refine r_i2l dX6_type_1 ?_
  refine r_lconst (v := 0) dX6_type_2 (by decide) ?_
  refine r_ldc2 (v := 127) wd_1068 dX6_type_3 ?_
  obtain ⟨q1, hq1, hf⟩ := hf_bind hf
  refine r_callSi (As := [.long (Int32.toInt64 a0), .long 0, .long 127]) (st := []) (s_X6_in hq1) (by decide) (by decide) wd_841 wd_842 wd_74 wd_843 hy_X6_in rfl (Nat.le_of_ble_eq_true rfl) dX6_type_6 ?_
  refine r_if_ne (tgt := 19) dX6_type_9 (by decide) (fun c2 => ?_) (fun c2 => ?_)
  · have hf := hf_neg c2 hf
    refine r_aload_n dX6_type_19 0 rfl ?_
    refine r_get (v := .int M_textLong) in_X6 26 ga_M rfl 18 (by decide) wd_781 rfl rfl dX6_type_20 ?_
    refine r_bipush (v := 120) dX6_type_23 (by decide) ?_
    refine r_icmp_ne (tgt := 33) dX6_type_25 (by decide) (fun c3 => ?_) (fun c3 => ?_)
    · have hf := hf_neg c3 hf
      refine r_aload_n dX6_type_33 0 rfl ?_
      refine r_get (v := .ref (eA E 33)) in_X6 26 ga_M rfl 17 (by decide) wd_780 rfl rfl dX6_type_34 ?_
      refine r_aload_n dX6_type_37 0 rfl ?_
      refine r_get (v := .int M_textLong) in_X6 26 ga_M rfl 18 (by decide) wd_781 rfl rfl dX6_type_38 ?_
      refine r_iload_n dX6_type_41 1 rfl ?_
      obtain ⟨i4, hf⟩ := hf_in hf
      refine r_iast 33 ga_M_text sa_M_text i4 dX6_type_42 ?_
      refine r_aload_n dX6_type_43 0 rfl ?_
      refine r_dup dX6_type_44 rfl ?_
      refine r_get (v := .int M_textLong) in_X6 26 ga_M rfl 18 (by decide) wd_781 rfl rfl dX6_type_45 ?_
      refine r_iconst (v := 1) dX6_type_48 (by decide) ?_
      refine r_iadd dX6_type_49 ?_
      refine r_put in_X6 tyX6_ok nmX6 26 ga_M rfl 18 (by decide) wd_781 rfl rfl pfI (Nat.le_of_ble_eq_true rfl) sa_M_textLong dX6_type_50 ?_
      refine r_aload_n dX6_type_53 0 rfl ?_
      refine r_get (v := .int (M_textLong + 1)) in_X6 26 ga_M rfl 18 (by decide) wd_781 rfl rfl dX6_type_54 ?_
      have e9 := Option.some.inj hf
      subst e9
      exact r_iret rfl dX6_type_57
    · have hf := hf_pos c3 hf
      refine r_aload_n dX6_type_28 0 rfl ?_
      obtain ⟨q5, hq5, hf⟩ := hf_bind hf
      refine r_callVi (As := []) (b := (eA E 26)) (st := []) (s_X6_full hq5) (by decide) (by decide) wd_848 wd_850 wd_28 wd_74 wd_851 hy_X6_full (Rc.obj 26 ga_M rfl) rfl (Nat.le_of_ble_eq_true rfl) dX6_type_29 ?_
      have e9 := Option.some.inj hf
      subst e9
      exact r_iret rfl dX6_type_32
  · have hf := hf_pos c2 hf
    refine r_aload_n dX6_type_12 0 rfl ?_
    refine r_bipush (v := (-2)) dX6_type_13 (by decide) ?_
    obtain ⟨q6, hq6, hf⟩ := hf_bind hf
    refine r_callVi (As := [.int (-2)]) (b := (eA E 26)) (st := []) (s_X6_bad hq6) (by decide) (by decide) wd_844 wd_846 wd_27 wd_74 wd_847 hy_X6_bad (Rc.obj 26 ga_M rfl) rfl (Nat.le_of_ble_eq_true rfl) dX6_type_15 ?_
    have e9 := Option.some.inj hf
    subst e9
    exact r_iret rfl dX6_type_18
-- DuelSamplesModel.clear
def f_X6_clear (M_textLong : Int32)  : Option (Int32 × Int32) := some (M_textLong, 0)
theorem hy_X6_clear : yX6_clear.cls ≠ "java/lang/invoke/MethodHandle" ∧ yX6_clear.cls ≠ "java/lang/invoke/VarHandle" ∧ (parseMethodDescriptor yX6_clear.desc).map (fun d => d.parameters.length) = some 0 := by decide +kernel
set_option maxHeartbeats 4000000 in
set_option maxRecDepth 100000 in
theorem s_X6_clear {E : EN} {hX : TX} {hR : TR} {hL : TC} {hT : TC} {hK : TK} {hS : TS} {hP : TP} {M_unitsNow : Int32} {M_way : Int32} {M_sample : Int32} {M_one : Int32} {M_two : Int32} {M_plays : Int32} {M_low : Int32} {M_high : Int32} {M_playsNow : Int32} {M_lowNow : Int32} {M_highNow : Int32} {M_textLong : Int32} {M_answerLong : Int32} {M_place : Int32} {M_units : Nat → Int32} {M_refused : Nat → Int32} {M_left : Nat → Int32} {M_played : Nat → Int32} {M_playedNow : Nat → Int32} {M_canBe : Nat → Int32} {M_text : Nat → Int32} {M_answered : Nat → Int32} {M_numbers : Nat → Int32}  {qR : Int32 × Int32} (hf : f_X6_clear M_textLong = some qR) : Sem E yX6_clear cX6_clear 2 (some .int) 1 [.ref (eA E 26)] (hX, hR, hL, hT, hK, hS, hP, (M_unitsNow, M_way, M_sample, M_one, M_two, M_plays, M_low, M_high, M_playsNow, M_lowNow, M_highNow, M_textLong, M_answerLong, M_place, M_units, M_refused, M_left, M_played, M_playedNow, M_canBe, M_text, M_answered, M_numbers)) (some (.int qR.1), (hX, hR, hL, hT, hK, hS, hP, (M_unitsNow, M_way, M_sample, M_one, M_two, M_plays, M_low, M_high, M_playsNow, M_lowNow, M_highNow, qR.2, M_answerLong, M_place, M_units, M_refused, M_left, M_played, M_playedNow, M_canBe, M_text, M_answered, M_numbers))) := by
  refine Sem.mk (lv := [(0, .ref (eA E 26))]) (by decide) (Nat.le_of_ble_eq_true rfl) rfl ?_
  rw [f_X6_clear] at hf
  refine r_aload_n dX6_clear_0 0 rfl ?_
  refine r_get (v := .int M_textLong) in_X6 26 ga_M rfl 18 (by decide) wd_781 rfl rfl dX6_clear_1 ?_
  refine r_istore_n (lv2 := [(1, .int M_textLong), (0, .ref (eA E 26))]) dX6_clear_4 rfl (by decide) rfl ?_
  refine r_aload_n dX6_clear_5 1 rfl ?_
  refine r_iconst (v := 0) dX6_clear_6 (by decide) ?_
  refine r_put in_X6 tyX6_ok nmX6 26 ga_M rfl 18 (by decide) wd_781 rfl rfl pfI (Nat.le_of_ble_eq_true rfl) sa_M_textLong dX6_clear_7 ?_
  refine r_iload_n dX6_clear_10 0 rfl ?_
  have e9 := Option.some.inj hf
  subst e9
  exact r_iret rfl dX6_clear_11
-- DuelSamplesModel.skip
def lp_X6_skip_0 (M_textLong : Int32) (M_text : Nat → Int32) : Nat → Int32 → Option (Int32)
  | 0, _ => none
  | n9 + 1, M_place_0 => if M_textLong ≤ M_place_0 then some M_place_0 else if inB M_place_0 120 then if (M_text (Int32.toNatClampNeg M_place_0)) = 32 then lp_X6_skip_0 M_textLong M_text n9 (M_place_0 + 1) else some M_place_0 else none
def f_X6_skip (M_textLong : Int32) (M_place : Int32) (M_text : Nat → Int32)  : Option (Int32) := Option.bind (lp_X6_skip_0 M_textLong M_text FU M_place) (fun (q4 : Int32) => some q4)
theorem hy_X6_skip : yX6_skip.cls ≠ "java/lang/invoke/MethodHandle" ∧ yX6_skip.cls ≠ "java/lang/invoke/VarHandle" ∧ (parseMethodDescriptor yX6_skip.desc).map (fun d => d.parameters.length) = some 0 := by decide +kernel
set_option maxHeartbeats 4000000 in
set_option maxRecDepth 100000 in
theorem w_X6_skip_0 {E : EN} {res : Option Value × Hp} {hX : TX} {hR : TR} {hL : TC} {hT : TC} {hK : TK} {hS : TS} {hP : TP} {M_unitsNow : Int32} {M_way : Int32} {M_sample : Int32} {M_one : Int32} {M_two : Int32} {M_plays : Int32} {M_low : Int32} {M_high : Int32} {M_playsNow : Int32} {M_lowNow : Int32} {M_highNow : Int32} {M_textLong : Int32} {M_answerLong : Int32} {M_units : Nat → Int32} {M_refused : Nat → Int32} {M_left : Nat → Int32} {M_played : Nat → Int32} {M_playedNow : Nat → Int32} {M_canBe : Nat → Int32} {M_text : Nat → Int32} {M_answered : Nat → Int32} {M_numbers : Nat → Int32} : ∀ (n9 : Nat) (M_place_0 : Int32) (qL : Int32), lp_X6_skip_0 M_textLong M_text n9 M_place_0 = some qL → (Wa E yX6_skip cX6_skip 1 none 1 res 38 [] [] (hX, hR, hL, hT, hK, hS, hP, (M_unitsNow, M_way, M_sample, M_one, M_two, M_plays, M_low, M_high, M_playsNow, M_lowNow, M_highNow, M_textLong, M_answerLong, qL, M_units, M_refused, M_left, M_played, M_playedNow, M_canBe, M_text, M_answered, M_numbers))) → Wa E yX6_skip cX6_skip 1 none 1 res 0 [(0, .ref (eA E 26))] [] (hX, hR, hL, hT, hK, hS, hP, (M_unitsNow, M_way, M_sample, M_one, M_two, M_plays, M_low, M_high, M_playsNow, M_lowNow, M_highNow, M_textLong, M_answerLong, M_place_0, M_units, M_refused, M_left, M_played, M_playedNow, M_canBe, M_text, M_answered, M_numbers)) := by
  intro n9
  induction n9 with
  | zero =>
    intro M_place_0 qL hf
    exact nomatch (show (none : Option (Int32)) = some qL from hf)
  | succ n9 ih =>
    intro M_place_0 qL hf kx0
    rw [lp_X6_skip_0] at hf
    refine r_aload_n dX6_skip_0 0 rfl ?_
    refine r_get (v := .int M_place_0) in_X6 26 ga_M rfl 21 (by decide) wd_784 rfl rfl dX6_skip_1 ?_
    refine r_aload_n dX6_skip_4 0 rfl ?_
    refine r_get (v := .int M_textLong) in_X6 26 ga_M rfl 18 (by decide) wd_781 rfl rfl dX6_skip_5 ?_
    refine r_icmp_ge (tgt := 38) dX6_skip_8 (by decide) (fun c1 => ?_) (fun c1 => ?_)
    · have hf := hf_pos c1 hf
      have e9 := Option.some.inj hf
      subst e9
      exact (Wa.sub [] rfl kx0)
    · have hf := hf_neg c1 hf
      refine r_aload_n dX6_skip_11 0 rfl ?_
      refine r_get (v := .ref (eA E 33)) in_X6 26 ga_M rfl 17 (by decide) wd_780 rfl rfl dX6_skip_12 ?_
      refine r_aload_n dX6_skip_15 0 rfl ?_
      refine r_get (v := .int M_place_0) in_X6 26 ga_M rfl 21 (by decide) wd_784 rfl rfl dX6_skip_16 ?_
      obtain ⟨i2, hf⟩ := hf_in hf
      refine r_iald (f := M_text) 33 ga_M_text i2 dX6_skip_19 ?_
      refine r_bipush (v := 32) dX6_skip_20 (by decide) ?_
      refine r_icmp_ne (tgt := 38) dX6_skip_22 (by decide) (fun c3 => ?_) (fun c3 => ?_)
      · have hf := hf_neg c3 hf
        have e9 := Option.some.inj hf
        subst e9
        exact (Wa.sub [] rfl kx0)
      · have hf := hf_pos c3 hf
        refine r_aload_n dX6_skip_25 0 rfl ?_
        refine r_dup dX6_skip_26 rfl ?_
        refine r_get (v := .int M_place_0) in_X6 26 ga_M rfl 21 (by decide) wd_784 rfl rfl dX6_skip_27 ?_
        refine r_iconst (v := 1) dX6_skip_30 (by decide) ?_
        refine r_iadd dX6_skip_31 ?_
        refine r_put in_X6 tyX6_ok nmX6 26 ga_M rfl 21 (by decide) wd_784 rfl rfl pfI (Nat.le_of_ble_eq_true rfl) sa_M_place dX6_skip_32 ?_
        refine r_goto (tgt := 0) dX6_skip_35 (by decide) ?_
        exact (ih _ _ hf kx0)
set_option maxHeartbeats 4000000 in
set_option maxRecDepth 100000 in
theorem s_X6_skip {E : EN} {hX : TX} {hR : TR} {hL : TC} {hT : TC} {hK : TK} {hS : TS} {hP : TP} {M_unitsNow : Int32} {M_way : Int32} {M_sample : Int32} {M_one : Int32} {M_two : Int32} {M_plays : Int32} {M_low : Int32} {M_high : Int32} {M_playsNow : Int32} {M_lowNow : Int32} {M_highNow : Int32} {M_textLong : Int32} {M_answerLong : Int32} {M_place : Int32} {M_units : Nat → Int32} {M_refused : Nat → Int32} {M_left : Nat → Int32} {M_played : Nat → Int32} {M_playedNow : Nat → Int32} {M_canBe : Nat → Int32} {M_text : Nat → Int32} {M_answered : Nat → Int32} {M_numbers : Nat → Int32}  {qR : Int32} (hf : f_X6_skip M_textLong M_place M_text = some qR) : Sem E yX6_skip cX6_skip 1 none 1 [.ref (eA E 26)] (hX, hR, hL, hT, hK, hS, hP, (M_unitsNow, M_way, M_sample, M_one, M_two, M_plays, M_low, M_high, M_playsNow, M_lowNow, M_highNow, M_textLong, M_answerLong, M_place, M_units, M_refused, M_left, M_played, M_playedNow, M_canBe, M_text, M_answered, M_numbers)) (none, (hX, hR, hL, hT, hK, hS, hP, (M_unitsNow, M_way, M_sample, M_one, M_two, M_plays, M_low, M_high, M_playsNow, M_lowNow, M_highNow, M_textLong, M_answerLong, qR, M_units, M_refused, M_left, M_played, M_playedNow, M_canBe, M_text, M_answered, M_numbers))) := by
  refine Sem.mk (lv := [(0, .ref (eA E 26))]) (by decide) (Nat.le_of_ble_eq_true rfl) rfl ?_
  rw [f_X6_skip] at hf
  obtain ⟨q4, hq4, hf⟩ := hf_bind hf
  refine (w_X6_skip_0 _ _ _ hq4 ?_)
  have e9 := Option.some.inj hf
  subst e9
  exact r_vret rfl dX6_skip_38
-- DuelSamplesModel.isByte
def f_X6_isByte (M_textLong : Int32) (M_text : Nat → Int32) (a0 : Int32) (a1 : Int32) (a2 : Int32) : Option (Int32) := if M_textLong ≤ a0 then some 0 else if inB a0 120 then Option.bind (f_X6_in (Int32.toInt64 (M_text (Int32.toNatClampNeg a0))) (Int32.toInt64 a1) (Int32.toInt64 a2)) (fun (q3 : Int32) => if q3 = 0 then some 0 else some 1) else none
theorem hy_X6_isByte : yX6_isByte.cls ≠ "java/lang/invoke/MethodHandle" ∧ yX6_isByte.cls ≠ "java/lang/invoke/VarHandle" ∧ (parseMethodDescriptor yX6_isByte.desc).map (fun d => d.parameters.length) = some 3 := by decide +kernel
set_option maxHeartbeats 4000000 in
set_option maxRecDepth 100000 in
theorem s_X6_isByte {E : EN} {hX : TX} {hR : TR} {hL : TC} {hT : TC} {hK : TK} {hS : TS} {hP : TP} {M_unitsNow : Int32} {M_way : Int32} {M_sample : Int32} {M_one : Int32} {M_two : Int32} {M_plays : Int32} {M_low : Int32} {M_high : Int32} {M_playsNow : Int32} {M_lowNow : Int32} {M_highNow : Int32} {M_textLong : Int32} {M_answerLong : Int32} {M_place : Int32} {M_units : Nat → Int32} {M_refused : Nat → Int32} {M_left : Nat → Int32} {M_played : Nat → Int32} {M_playedNow : Nat → Int32} {M_canBe : Nat → Int32} {M_text : Nat → Int32} {M_answered : Nat → Int32} {M_numbers : Nat → Int32} {a0 : Int32} {a1 : Int32} {a2 : Int32} {qR : Int32} (hf : f_X6_isByte M_textLong M_text a0 a1 a2 = some qR) : Sem E yX6_isByte cX6_isByte 4 (some .boolean) 2 [.ref (eA E 26), .int a0, .int a1, .int a2] (hX, hR, hL, hT, hK, hS, hP, (M_unitsNow, M_way, M_sample, M_one, M_two, M_plays, M_low, M_high, M_playsNow, M_lowNow, M_highNow, M_textLong, M_answerLong, M_place, M_units, M_refused, M_left, M_played, M_playedNow, M_canBe, M_text, M_answered, M_numbers)) (some (.int qR), (hX, hR, hL, hT, hK, hS, hP, (M_unitsNow, M_way, M_sample, M_one, M_two, M_plays, M_low, M_high, M_playsNow, M_lowNow, M_highNow, M_textLong, M_answerLong, M_place, M_units, M_refused, M_left, M_played, M_playedNow, M_canBe, M_text, M_answered, M_numbers))) := by
  refine Sem.mk (lv := [(0, .ref (eA E 26)), (1, .int a0), (2, .int a1), (3, .int a2)]) (by decide) (Nat.le_of_ble_eq_true rfl) rfl ?_
  rw [f_X6_isByte] at hf
  refine r_iload_n dX6_isByte_0 1 rfl ?_
  refine r_aload_n dX6_isByte_1 0 rfl ?_
  refine r_get (v := .int M_textLong) in_X6 26 ga_M rfl 18 (by decide) wd_781 rfl rfl dX6_isByte_2 ?_
  refine r_icmp_ge (tgt := 29) dX6_isByte_5 (by decide) (fun c1 => ?_) (fun c1 => ?_)
  · have hf := hf_pos c1 hf
    refine r_iconst (v := 0) dX6_isByte_29 (by decide) ?_
    have e9 := Option.some.inj hf
    subst e9
    exact r_zret rfl (narB (Or.inl rfl)) dX6_isByte_30
  · have hf := hf_neg c1 hf
    refine r_aload_n dX6_isByte_8 0 rfl ?_
    refine r_get (v := .ref (eA E 33)) in_X6 26 ga_M rfl 17 (by decide) wd_780 rfl rfl dX6_isByte_9 ?_
    refine r_iload_n dX6_isByte_12 1 rfl ?_
    obtain ⟨i2, hf⟩ := hf_in hf
    refine r_iald (f := M_text) 33 ga_M_text i2 dX6_isByte_13 ?_
    refine r_i2l dX6_isByte_14 ?_
    refine r_iload_n dX6_isByte_15 2 rfl ?_
    refine r_i2l dX6_isByte_16 ?_
    refine r_iload_n dX6_isByte_17 3 rfl ?_
    refine r_i2l dX6_isByte_18 ?_
    obtain ⟨q3, hq3, hf⟩ := hf_bind hf
    refine r_callSi (As := [.long (Int32.toInt64 (M_text (Int32.toNatClampNeg a0))), .long (Int32.toInt64 a1), .long (Int32.toInt64 a2)]) (st := []) (s_X6_in hq3) (by decide) (by decide) wd_841 wd_842 wd_74 wd_843 hy_X6_in rfl (Nat.le_of_ble_eq_true rfl) dX6_isByte_19 ?_
    refine r_if_eq (tgt := 29) dX6_isByte_22 (by decide) (fun c4 => ?_) (fun c4 => ?_)
    · have hf := hf_pos c4 hf
      refine r_iconst (v := 0) dX6_isByte_29 (by decide) ?_
      have e9 := Option.some.inj hf
      subst e9
      exact r_zret rfl (narB (Or.inl rfl)) dX6_isByte_30
    · have hf := hf_neg c4 hf
      refine r_iconst (v := 1) dX6_isByte_25 (by decide) ?_
      refine r_goto (tgt := 30) dX6_isByte_26 (by decide) ?_
      have e9 := Option.some.inj hf
      subst e9
      exact r_zret rfl (narB (Or.inr rfl)) dX6_isByte_30
-- DuelSamplesModel.by27
def f_X6_by27  (a0 : Int64) (a1 : Int32) : Option (Int64) := if a1 = 0 then some a0 else some ((((27 * a0) + (Int32.toInt64 a1)) - 97) + 1)
theorem hy_X6_by27 : yX6_by27.cls ≠ "java/lang/invoke/MethodHandle" ∧ yX6_by27.cls ≠ "java/lang/invoke/VarHandle" ∧ (parseMethodDescriptor yX6_by27.desc).map (fun d => d.parameters.length) = some 2 := by decide +kernel
set_option maxHeartbeats 4000000 in
set_option maxRecDepth 100000 in
theorem s_X6_by27 {E : EN} {hX : TX} {hR : TR} {hL : TC} {hT : TC} {hK : TK} {hS : TS} {hP : TP} {hM : TM}  {a0 : Int64} {a1 : Int32} {qR : Int64} (hf : f_X6_by27 a0 a1 = some qR) : Sem E yX6_by27 cX6_by27 3 (some .long) 1 [.long a0, .int a1] (hX, hR, hL, hT, hK, hS, hP, hM) (some (.long qR), (hX, hR, hL, hT, hK, hS, hP, hM)) := by
  refine Sem.mk (lv := [(0, .long a0), (2, .int a1)]) (by decide) (Nat.le_of_ble_eq_true rfl) rfl ?_
  rw [f_X6_by27] at hf
  refine r_iload_n dX6_by27_0 1 rfl ?_
  refine r_if_ne (tgt := 8) dX6_by27_1 (by decide) (fun c1 => ?_) (fun c1 => ?_)
  · have hf := hf_neg c1 hf
    refine r_ldc2 (v := 27) wd_1100 dX6_by27_8 ?_
    refine r_lload_n dX6_by27_11 0 rfl ?_
    refine r_lmul dX6_by27_12 ?_
    refine r_iload_n dX6_by27_13 1 rfl ?_
    refine r_i2l dX6_by27_14 ?_
    refine r_ladd dX6_by27_15 ?_
    refine r_ldc2 (v := 97) wd_1101 dX6_by27_16 ?_
    refine r_lsub dX6_by27_19 ?_
    refine r_lconst (v := 1) dX6_by27_20 (by decide) ?_
    refine r_ladd dX6_by27_21 ?_
    have e9 := Option.some.inj hf
    subst e9
    exact r_lret rfl dX6_by27_22
  · have hf := hf_pos c1 hf
    refine r_lload_n dX6_by27_4 0 rfl ?_
    refine r_goto (tgt := 22) dX6_by27_5 (by decide) ?_
    have e9 := Option.some.inj hf
    subst e9
    exact r_lret rfl dX6_by27_22
-- DuelSamplesModel.spells
def f_X6_spells  (a0 : Int32) (a1 : Int32) (a2 : Int32) (a3 : Int32) (a4 : Int32) (a5 : Int32) (a6 : Int32) : Option (Int64) := Option.bind (f_X6_by27 0 a0) (fun (q1 : Int64) => Option.bind (f_X6_by27 q1 a1) (fun (q2 : Int64) => Option.bind (f_X6_by27 q2 a2) (fun (q3 : Int64) => Option.bind (f_X6_by27 q3 a3) (fun (q4 : Int64) => Option.bind (f_X6_by27 q4 a4) (fun (q5 : Int64) => Option.bind (f_X6_by27 q5 a5) (fun (q6 : Int64) => Option.bind (f_X6_by27 q6 a6) (fun (q7 : Int64) => some q7)))))))
theorem hy_X6_spells : yX6_spells.cls ≠ "java/lang/invoke/MethodHandle" ∧ yX6_spells.cls ≠ "java/lang/invoke/VarHandle" ∧ (parseMethodDescriptor yX6_spells.desc).map (fun d => d.parameters.length) = some 7 := by decide +kernel
set_option maxHeartbeats 4000000 in
set_option maxRecDepth 100000 in
theorem s_X6_spells {E : EN} {hX : TX} {hR : TR} {hL : TC} {hT : TC} {hK : TK} {hS : TS} {hP : TP} {hM : TM}  {a0 : Int32} {a1 : Int32} {a2 : Int32} {a3 : Int32} {a4 : Int32} {a5 : Int32} {a6 : Int32} {qR : Int64} (hf : f_X6_spells a0 a1 a2 a3 a4 a5 a6 = some qR) : Sem E yX6_spells cX6_spells 7 (some .long) 2 [.int a0, .int a1, .int a2, .int a3, .int a4, .int a5, .int a6] (hX, hR, hL, hT, hK, hS, hP, hM) (some (.long qR), (hX, hR, hL, hT, hK, hS, hP, hM)) := by
  refine Sem.mk (lv := [(0, .int a0), (1, .int a1), (2, .int a2), (3, .int a3), (4, .int a4), (5, .int a5), (6, .int a6)]) (by decide) (Nat.le_of_ble_eq_true rfl) rfl ?_
  rw [f_X6_spells] at hf
  refine r_lconst (v := 0) dX6_spells_0 (by decide) ?_
  refine r_iload_n dX6_spells_1 0 rfl ?_
  obtain ⟨q1, hq1, hf⟩ := hf_bind hf
  refine r_callSl (As := [.long 0, .int a0]) (st := []) (s_X6_by27 hq1) (by decide) (by decide) wd_1097 wd_1098 wd_74 wd_1099 hy_X6_by27 rfl (Nat.le_of_ble_eq_true rfl) dX6_spells_2 ?_
  refine r_iload_n dX6_spells_5 1 rfl ?_
  obtain ⟨q2, hq2, hf⟩ := hf_bind hf
  refine r_callSl (As := [.long q1, .int a1]) (st := []) (s_X6_by27 hq2) (by decide) (by decide) wd_1097 wd_1098 wd_74 wd_1099 hy_X6_by27 rfl (Nat.le_of_ble_eq_true rfl) dX6_spells_6 ?_
  refine r_iload_n dX6_spells_9 2 rfl ?_
  obtain ⟨q3, hq3, hf⟩ := hf_bind hf
  refine r_callSl (As := [.long q2, .int a2]) (st := []) (s_X6_by27 hq3) (by decide) (by decide) wd_1097 wd_1098 wd_74 wd_1099 hy_X6_by27 rfl (Nat.le_of_ble_eq_true rfl) dX6_spells_10 ?_
  refine r_iload_n dX6_spells_13 3 rfl ?_
  obtain ⟨q4, hq4, hf⟩ := hf_bind hf
  refine r_callSl (As := [.long q3, .int a3]) (st := []) (s_X6_by27 hq4) (by decide) (by decide) wd_1097 wd_1098 wd_74 wd_1099 hy_X6_by27 rfl (Nat.le_of_ble_eq_true rfl) dX6_spells_14 ?_
  refine r_iload dX6_spells_17 4 rfl ?_
  obtain ⟨q5, hq5, hf⟩ := hf_bind hf
  refine r_callSl (As := [.long q4, .int a4]) (st := []) (s_X6_by27 hq5) (by decide) (by decide) wd_1097 wd_1098 wd_74 wd_1099 hy_X6_by27 rfl (Nat.le_of_ble_eq_true rfl) dX6_spells_19 ?_
  refine r_iload dX6_spells_22 5 rfl ?_
  obtain ⟨q6, hq6, hf⟩ := hf_bind hf
  refine r_callSl (As := [.long q5, .int a5]) (st := []) (s_X6_by27 hq6) (by decide) (by decide) wd_1097 wd_1098 wd_74 wd_1099 hy_X6_by27 rfl (Nat.le_of_ble_eq_true rfl) dX6_spells_24 ?_
  refine r_iload dX6_spells_27 6 rfl ?_
  obtain ⟨q7, hq7, hf⟩ := hf_bind hf
  refine r_callSl (As := [.long q6, .int a6]) (st := []) (s_X6_by27 hq7) (by decide) (by decide) wd_1097 wd_1098 wd_74 wd_1099 hy_X6_by27 rfl (Nat.le_of_ble_eq_true rfl) dX6_spells_29 ?_
  have e9 := Option.some.inj hf
  subst e9
  exact r_lret rfl dX6_spells_32
-- DuelSamplesModel.letters
def f_X6_letters  (a0 : Int32) : Option (Int64) := if a0 = 0 then Option.bind (f_X6_spells 114 111 119 0 0 0 0) (fun (q13 : Int64) => some q13) else if a0 = 1 then Option.bind (f_X6_spells 110 101 97 114 0 0 0) (fun (q14 : Int64) => some q14) else if a0 = 2 then Option.bind (f_X6_spells 115 116 114 97 116 97 0) (fun (q15 : Int64) => some q15) else if a0 = 3 then Option.bind (f_X6_spells 102 97 114 0 0 0 0) (fun (q16 : Int64) => some q16) else if a0 = 4 then Option.bind (f_X6_spells 99 104 97 110 99 101 0) (fun (q17 : Int64) => some q17) else if a0 = 5 then Option.bind (f_X6_spells 116 117 114 110 0 0 0) (fun (q18 : Int64) => some q18) else if a0 = 6 then Option.bind (f_X6_spells 112 108 97 99 101 0 0) (fun (q19 : Int64) => some q19) else if a0 = 7 then Option.bind (f_X6_spells 115 116 114 97 116 117 109) (fun (q20 : Int64) => some q20) else if a0 = 8 then Option.bind (f_X6_spells 115 105 122 101 0 0 0) (fun (q21 : Int64) => some q21) else if a0 = 9 then Option.bind (f_X6_spells 118 97 108 117 101 0 0) (fun (q22 : Int64) => some q22) else if a0 = 10 then Option.bind (f_X6_spells 117 110 105 116 0 0 0) (fun (q23 : Int64) => some q23) else if a0 = 11 then Option.bind (f_X6_spells 119 97 108 107 0 0 0) (fun (q24 : Int64) => some q24) else Option.bind (f_X6_spells 109 97 110 121 0 0 0) (fun (q25 : Int64) => some q25)
theorem hy_X6_letters : yX6_letters.cls ≠ "java/lang/invoke/MethodHandle" ∧ yX6_letters.cls ≠ "java/lang/invoke/VarHandle" ∧ (parseMethodDescriptor yX6_letters.desc).map (fun d => d.parameters.length) = some 1 := by decide +kernel
set_option maxHeartbeats 4000000 in
set_option maxRecDepth 100000 in
theorem s_X6_letters {E : EN} {hX : TX} {hR : TR} {hL : TC} {hT : TC} {hK : TK} {hS : TS} {hP : TP} {hM : TM}  {a0 : Int32} {qR : Int64} (hf : f_X6_letters a0 = some qR) : Sem E yX6_letters cX6_letters 1 (some .long) 3 [.int a0] (hX, hR, hL, hT, hK, hS, hP, hM) (some (.long qR), (hX, hR, hL, hT, hK, hS, hP, hM)) := by
  refine Sem.mk (lv := [(0, .int a0)]) (by decide) (Nat.le_of_ble_eq_true rfl) rfl ?_
  rw [f_X6_letters] at hf
  refine r_iload_n dX6_letters_0 0 rfl ?_
  by_cases c1 : a0 = 0
  · have hf := hf_pos c1 hf
    refine r_tswi (off := 63) (tgt := 64) dX6_letters_1 c1 (by decide) (by decide) (by decide) (by decide) ?_
    refine r_bipush (v := 114) dX6_letters_64 (by decide) ?_
    refine r_bipush (v := 111) dX6_letters_66 (by decide) ?_
    refine r_bipush (v := 119) dX6_letters_68 (by decide) ?_
    refine r_iconst (v := 0) dX6_letters_70 (by decide) ?_
    refine r_iconst (v := 0) dX6_letters_71 (by decide) ?_
    refine r_iconst (v := 0) dX6_letters_72 (by decide) ?_
    refine r_iconst (v := 0) dX6_letters_73 (by decide) ?_
    obtain ⟨q13, hq13, hf⟩ := hf_bind hf
    refine r_callSl (As := [.int 114, .int 111, .int 119, .int 0, .int 0, .int 0, .int 0]) (st := []) (s_X6_spells hq13) (by decide) (by decide) wd_1105 wd_1106 wd_74 wd_1107 hy_X6_spells rfl (Nat.le_of_ble_eq_true rfl) dX6_letters_74 ?_
    have e9 := Option.some.inj hf
    subst e9
    exact r_lret rfl dX6_letters_77
  · have hf := hf_neg c1 hf
    by_cases c2 : a0 = 1
    · have hf := hf_pos c2 hf
      refine r_tswi (off := 77) (tgt := 78) dX6_letters_1 c2 (by decide) (by decide) (by decide) (by decide) ?_
      refine r_bipush (v := 110) dX6_letters_78 (by decide) ?_
      refine r_bipush (v := 101) dX6_letters_80 (by decide) ?_
      refine r_bipush (v := 97) dX6_letters_82 (by decide) ?_
      refine r_bipush (v := 114) dX6_letters_84 (by decide) ?_
      refine r_iconst (v := 0) dX6_letters_86 (by decide) ?_
      refine r_iconst (v := 0) dX6_letters_87 (by decide) ?_
      refine r_iconst (v := 0) dX6_letters_88 (by decide) ?_
      obtain ⟨q14, hq14, hf⟩ := hf_bind hf
      refine r_callSl (As := [.int 110, .int 101, .int 97, .int 114, .int 0, .int 0, .int 0]) (st := []) (s_X6_spells hq14) (by decide) (by decide) wd_1105 wd_1106 wd_74 wd_1107 hy_X6_spells rfl (Nat.le_of_ble_eq_true rfl) dX6_letters_89 ?_
      have e9 := Option.some.inj hf
      subst e9
      exact r_lret rfl dX6_letters_92
    · have hf := hf_neg c2 hf
      by_cases c3 : a0 = 2
      · have hf := hf_pos c3 hf
        refine r_tswi (off := 92) (tgt := 93) dX6_letters_1 c3 (by decide) (by decide) (by decide) (by decide) ?_
        refine r_bipush (v := 115) dX6_letters_93 (by decide) ?_
        refine r_bipush (v := 116) dX6_letters_95 (by decide) ?_
        refine r_bipush (v := 114) dX6_letters_97 (by decide) ?_
        refine r_bipush (v := 97) dX6_letters_99 (by decide) ?_
        refine r_bipush (v := 116) dX6_letters_101 (by decide) ?_
        refine r_bipush (v := 97) dX6_letters_103 (by decide) ?_
        refine r_iconst (v := 0) dX6_letters_105 (by decide) ?_
        obtain ⟨q15, hq15, hf⟩ := hf_bind hf
        refine r_callSl (As := [.int 115, .int 116, .int 114, .int 97, .int 116, .int 97, .int 0]) (st := []) (s_X6_spells hq15) (by decide) (by decide) wd_1105 wd_1106 wd_74 wd_1107 hy_X6_spells rfl (Nat.le_of_ble_eq_true rfl) dX6_letters_106 ?_
        have e9 := Option.some.inj hf
        subst e9
        exact r_lret rfl dX6_letters_109
      · have hf := hf_neg c3 hf
        by_cases c4 : a0 = 3
        · have hf := hf_pos c4 hf
          refine r_tswi (off := 109) (tgt := 110) dX6_letters_1 c4 (by decide) (by decide) (by decide) (by decide) ?_
          refine r_bipush (v := 102) dX6_letters_110 (by decide) ?_
          refine r_bipush (v := 97) dX6_letters_112 (by decide) ?_
          refine r_bipush (v := 114) dX6_letters_114 (by decide) ?_
          refine r_iconst (v := 0) dX6_letters_116 (by decide) ?_
          refine r_iconst (v := 0) dX6_letters_117 (by decide) ?_
          refine r_iconst (v := 0) dX6_letters_118 (by decide) ?_
          refine r_iconst (v := 0) dX6_letters_119 (by decide) ?_
          obtain ⟨q16, hq16, hf⟩ := hf_bind hf
          refine r_callSl (As := [.int 102, .int 97, .int 114, .int 0, .int 0, .int 0, .int 0]) (st := []) (s_X6_spells hq16) (by decide) (by decide) wd_1105 wd_1106 wd_74 wd_1107 hy_X6_spells rfl (Nat.le_of_ble_eq_true rfl) dX6_letters_120 ?_
          have e9 := Option.some.inj hf
          subst e9
          exact r_lret rfl dX6_letters_123
        · have hf := hf_neg c4 hf
          by_cases c5 : a0 = 4
          · have hf := hf_pos c5 hf
            refine r_tswi (off := 123) (tgt := 124) dX6_letters_1 c5 (by decide) (by decide) (by decide) (by decide) ?_
            refine r_bipush (v := 99) dX6_letters_124 (by decide) ?_
            refine r_bipush (v := 104) dX6_letters_126 (by decide) ?_
            refine r_bipush (v := 97) dX6_letters_128 (by decide) ?_
            refine r_bipush (v := 110) dX6_letters_130 (by decide) ?_
            refine r_bipush (v := 99) dX6_letters_132 (by decide) ?_
            refine r_bipush (v := 101) dX6_letters_134 (by decide) ?_
            refine r_iconst (v := 0) dX6_letters_136 (by decide) ?_
            obtain ⟨q17, hq17, hf⟩ := hf_bind hf
            refine r_callSl (As := [.int 99, .int 104, .int 97, .int 110, .int 99, .int 101, .int 0]) (st := []) (s_X6_spells hq17) (by decide) (by decide) wd_1105 wd_1106 wd_74 wd_1107 hy_X6_spells rfl (Nat.le_of_ble_eq_true rfl) dX6_letters_137 ?_
            have e9 := Option.some.inj hf
            subst e9
            exact r_lret rfl dX6_letters_140
          · have hf := hf_neg c5 hf
            by_cases c6 : a0 = 5
            · have hf := hf_pos c6 hf
              refine r_tswi (off := 140) (tgt := 141) dX6_letters_1 c6 (by decide) (by decide) (by decide) (by decide) ?_
              refine r_bipush (v := 116) dX6_letters_141 (by decide) ?_
              refine r_bipush (v := 117) dX6_letters_143 (by decide) ?_
              refine r_bipush (v := 114) dX6_letters_145 (by decide) ?_
              refine r_bipush (v := 110) dX6_letters_147 (by decide) ?_
              refine r_iconst (v := 0) dX6_letters_149 (by decide) ?_
              refine r_iconst (v := 0) dX6_letters_150 (by decide) ?_
              refine r_iconst (v := 0) dX6_letters_151 (by decide) ?_
              obtain ⟨q18, hq18, hf⟩ := hf_bind hf
              refine r_callSl (As := [.int 116, .int 117, .int 114, .int 110, .int 0, .int 0, .int 0]) (st := []) (s_X6_spells hq18) (by decide) (by decide) wd_1105 wd_1106 wd_74 wd_1107 hy_X6_spells rfl (Nat.le_of_ble_eq_true rfl) dX6_letters_152 ?_
              have e9 := Option.some.inj hf
              subst e9
              exact r_lret rfl dX6_letters_155
            · have hf := hf_neg c6 hf
              by_cases c7 : a0 = 6
              · have hf := hf_pos c7 hf
                refine r_tswi (off := 155) (tgt := 156) dX6_letters_1 c7 (by decide) (by decide) (by decide) (by decide) ?_
                refine r_bipush (v := 112) dX6_letters_156 (by decide) ?_
                refine r_bipush (v := 108) dX6_letters_158 (by decide) ?_
                refine r_bipush (v := 97) dX6_letters_160 (by decide) ?_
                refine r_bipush (v := 99) dX6_letters_162 (by decide) ?_
                refine r_bipush (v := 101) dX6_letters_164 (by decide) ?_
                refine r_iconst (v := 0) dX6_letters_166 (by decide) ?_
                refine r_iconst (v := 0) dX6_letters_167 (by decide) ?_
                obtain ⟨q19, hq19, hf⟩ := hf_bind hf
                refine r_callSl (As := [.int 112, .int 108, .int 97, .int 99, .int 101, .int 0, .int 0]) (st := []) (s_X6_spells hq19) (by decide) (by decide) wd_1105 wd_1106 wd_74 wd_1107 hy_X6_spells rfl (Nat.le_of_ble_eq_true rfl) dX6_letters_168 ?_
                have e9 := Option.some.inj hf
                subst e9
                exact r_lret rfl dX6_letters_171
              · have hf := hf_neg c7 hf
                by_cases c8 : a0 = 7
                · have hf := hf_pos c8 hf
                  refine r_tswi (off := 171) (tgt := 172) dX6_letters_1 c8 (by decide) (by decide) (by decide) (by decide) ?_
                  refine r_bipush (v := 115) dX6_letters_172 (by decide) ?_
                  refine r_bipush (v := 116) dX6_letters_174 (by decide) ?_
                  refine r_bipush (v := 114) dX6_letters_176 (by decide) ?_
                  refine r_bipush (v := 97) dX6_letters_178 (by decide) ?_
                  refine r_bipush (v := 116) dX6_letters_180 (by decide) ?_
                  refine r_bipush (v := 117) dX6_letters_182 (by decide) ?_
                  refine r_bipush (v := 109) dX6_letters_184 (by decide) ?_
                  obtain ⟨q20, hq20, hf⟩ := hf_bind hf
                  refine r_callSl (As := [.int 115, .int 116, .int 114, .int 97, .int 116, .int 117, .int 109]) (st := []) (s_X6_spells hq20) (by decide) (by decide) wd_1105 wd_1106 wd_74 wd_1107 hy_X6_spells rfl (Nat.le_of_ble_eq_true rfl) dX6_letters_186 ?_
                  have e9 := Option.some.inj hf
                  subst e9
                  exact r_lret rfl dX6_letters_189
                · have hf := hf_neg c8 hf
                  by_cases c9 : a0 = 8
                  · have hf := hf_pos c9 hf
                    refine r_tswi (off := 189) (tgt := 190) dX6_letters_1 c9 (by decide) (by decide) (by decide) (by decide) ?_
                    refine r_bipush (v := 115) dX6_letters_190 (by decide) ?_
                    refine r_bipush (v := 105) dX6_letters_192 (by decide) ?_
                    refine r_bipush (v := 122) dX6_letters_194 (by decide) ?_
                    refine r_bipush (v := 101) dX6_letters_196 (by decide) ?_
                    refine r_iconst (v := 0) dX6_letters_198 (by decide) ?_
                    refine r_iconst (v := 0) dX6_letters_199 (by decide) ?_
                    refine r_iconst (v := 0) dX6_letters_200 (by decide) ?_
                    obtain ⟨q21, hq21, hf⟩ := hf_bind hf
                    refine r_callSl (As := [.int 115, .int 105, .int 122, .int 101, .int 0, .int 0, .int 0]) (st := []) (s_X6_spells hq21) (by decide) (by decide) wd_1105 wd_1106 wd_74 wd_1107 hy_X6_spells rfl (Nat.le_of_ble_eq_true rfl) dX6_letters_201 ?_
                    have e9 := Option.some.inj hf
                    subst e9
                    exact r_lret rfl dX6_letters_204
                  · have hf := hf_neg c9 hf
                    by_cases c10 : a0 = 9
                    · have hf := hf_pos c10 hf
                      refine r_tswi (off := 204) (tgt := 205) dX6_letters_1 c10 (by decide) (by decide) (by decide) (by decide) ?_
                      refine r_bipush (v := 118) dX6_letters_205 (by decide) ?_
                      refine r_bipush (v := 97) dX6_letters_207 (by decide) ?_
                      refine r_bipush (v := 108) dX6_letters_209 (by decide) ?_
                      refine r_bipush (v := 117) dX6_letters_211 (by decide) ?_
                      refine r_bipush (v := 101) dX6_letters_213 (by decide) ?_
                      refine r_iconst (v := 0) dX6_letters_215 (by decide) ?_
                      refine r_iconst (v := 0) dX6_letters_216 (by decide) ?_
                      obtain ⟨q22, hq22, hf⟩ := hf_bind hf
                      refine r_callSl (As := [.int 118, .int 97, .int 108, .int 117, .int 101, .int 0, .int 0]) (st := []) (s_X6_spells hq22) (by decide) (by decide) wd_1105 wd_1106 wd_74 wd_1107 hy_X6_spells rfl (Nat.le_of_ble_eq_true rfl) dX6_letters_217 ?_
                      have e9 := Option.some.inj hf
                      subst e9
                      exact r_lret rfl dX6_letters_220
                    · have hf := hf_neg c10 hf
                      by_cases c11 : a0 = 10
                      · have hf := hf_pos c11 hf
                        refine r_tswi (off := 220) (tgt := 221) dX6_letters_1 c11 (by decide) (by decide) (by decide) (by decide) ?_
                        refine r_bipush (v := 117) dX6_letters_221 (by decide) ?_
                        refine r_bipush (v := 110) dX6_letters_223 (by decide) ?_
                        refine r_bipush (v := 105) dX6_letters_225 (by decide) ?_
                        refine r_bipush (v := 116) dX6_letters_227 (by decide) ?_
                        refine r_iconst (v := 0) dX6_letters_229 (by decide) ?_
                        refine r_iconst (v := 0) dX6_letters_230 (by decide) ?_
                        refine r_iconst (v := 0) dX6_letters_231 (by decide) ?_
                        obtain ⟨q23, hq23, hf⟩ := hf_bind hf
                        refine r_callSl (As := [.int 117, .int 110, .int 105, .int 116, .int 0, .int 0, .int 0]) (st := []) (s_X6_spells hq23) (by decide) (by decide) wd_1105 wd_1106 wd_74 wd_1107 hy_X6_spells rfl (Nat.le_of_ble_eq_true rfl) dX6_letters_232 ?_
                        have e9 := Option.some.inj hf
                        subst e9
                        exact r_lret rfl dX6_letters_235
                      · have hf := hf_neg c11 hf
                        by_cases c12 : a0 = 11
                        · have hf := hf_pos c12 hf
                          refine r_tswi (off := 235) (tgt := 236) dX6_letters_1 c12 (by decide) (by decide) (by decide) (by decide) ?_
                          refine r_bipush (v := 119) dX6_letters_236 (by decide) ?_
                          refine r_bipush (v := 97) dX6_letters_238 (by decide) ?_
                          refine r_bipush (v := 108) dX6_letters_240 (by decide) ?_
                          refine r_bipush (v := 107) dX6_letters_242 (by decide) ?_
                          refine r_iconst (v := 0) dX6_letters_244 (by decide) ?_
                          refine r_iconst (v := 0) dX6_letters_245 (by decide) ?_
                          refine r_iconst (v := 0) dX6_letters_246 (by decide) ?_
                          obtain ⟨q24, hq24, hf⟩ := hf_bind hf
                          refine r_callSl (As := [.int 119, .int 97, .int 108, .int 107, .int 0, .int 0, .int 0]) (st := []) (s_X6_spells hq24) (by decide) (by decide) wd_1105 wd_1106 wd_74 wd_1107 hy_X6_spells rfl (Nat.le_of_ble_eq_true rfl) dX6_letters_247 ?_
                          have e9 := Option.some.inj hf
                          subst e9
                          exact r_lret rfl dX6_letters_250
                        · have hf := hf_neg c12 hf
                          refine r_tswo (tgt := 251) dX6_letters_1 (tsw_out0_11 c1 c2 c3 c4 c5 c6 c7 c8 c9 c10 c11 c12) (by decide) ?_
                          refine r_bipush (v := 109) dX6_letters_251 (by decide) ?_
                          refine r_bipush (v := 97) dX6_letters_253 (by decide) ?_
                          refine r_bipush (v := 110) dX6_letters_255 (by decide) ?_
                          refine r_bipush (v := 121) dX6_letters_257 (by decide) ?_
                          refine r_iconst (v := 0) dX6_letters_259 (by decide) ?_
                          refine r_iconst (v := 0) dX6_letters_260 (by decide) ?_
                          refine r_iconst (v := 0) dX6_letters_261 (by decide) ?_
                          obtain ⟨q25, hq25, hf⟩ := hf_bind hf
                          refine r_callSl (As := [.int 109, .int 97, .int 110, .int 121, .int 0, .int 0, .int 0]) (st := []) (s_X6_spells hq25) (by decide) (by decide) wd_1105 wd_1106 wd_74 wd_1107 hy_X6_spells rfl (Nat.le_of_ble_eq_true rfl) dX6_letters_262 ?_
                          have e9 := Option.some.inj hf
                          subst e9
                          exact r_lret rfl dX6_letters_265
