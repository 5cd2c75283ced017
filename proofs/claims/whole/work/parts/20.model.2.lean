-- DuelSamplesModel.bestOf
def lp_X6_bestOf_8 (M_unitsNow : Int32) (a0 : Int32) (M_units : Nat → Int32) (a1 : Int32) (M_left : Nat → Int32) : Nat → Int32 → Int32 → Int32 → Option (Int32)
  | 0, _, _, _ => none
  | n9 + 1, v3_8, v4_8, v5_8 => if M_unitsNow ≤ v5_8 then some v3_8 else Option.bind (if a0 = (-1) then some 0 else Option.bind (f_X6_at M_units v5_8 1) (fun (q4 : Int32) => Option.bind (f_X6_at M_units a0 1) (fun (q5 : Int32) => Option.bind (f_X6_far q4 q5) (fun (q6 : Int32) => some q6)))) (fun (q3 : Int32) => Option.bind (if a1 = 1 then some (-q3) else if a1 = 3 then some q3 else if inB v5_8 12 then some (M_left (Int32.toNatClampNeg v5_8)) else none) (fun (q8 : Int32) => Option.bind (if v5_8 = a0 then some (v3_8, v4_8) else Option.bind (f_X6_isOpen M_left v5_8) (fun (q13 : Int32) => if q13 = 0 then some (v3_8, v4_8) else if v3_8 = (-1) then some (v5_8, q8) else if q8 ≤ v4_8 then some (v3_8, v4_8) else some (v5_8, q8))) (fun (q12 : Int32 × Int32) => lp_X6_bestOf_8 M_unitsNow a0 M_units a1 M_left n9 q12.1 q12.2 (v5_8 + 1))))
def f_X6_bestOf (M_unitsNow : Int32) (M_units : Nat → Int32) (M_left : Nat → Int32) (a0 : Int32) (a1 : Int32) : Option (Int32) := Option.bind (lp_X6_bestOf_8 M_unitsNow a0 M_units a1 M_left FU (-1) 0 0) (fun (q17 : Int32) => some q17)
theorem hy_X6_bestOf : yX6_bestOf.cls ≠ "java/lang/invoke/MethodHandle" ∧ yX6_bestOf.cls ≠ "java/lang/invoke/VarHandle" ∧ (parseMethodDescriptor yX6_bestOf.desc).map (fun d => d.parameters.length) = some 2 := by decide +kernel
set_option maxHeartbeats 4000000 in
set_option maxRecDepth 100000 in
theorem w_X6_bestOf_8 {E : EN} {res : Option Value × Hp} {hX : TX} {hR : TR} {hL : TC} {hT : TC} {hK : TK} {hS : TS} {hP : TP} {a0 : Int32} {a1 : Int32} {M_unitsNow : Int32} {M_way : Int32} {M_sample : Int32} {M_one : Int32} {M_two : Int32} {M_plays : Int32} {M_low : Int32} {M_high : Int32} {M_playsNow : Int32} {M_lowNow : Int32} {M_highNow : Int32} {M_textLong : Int32} {M_answerLong : Int32} {M_place : Int32} {M_units : Nat → Int32} {M_refused : Nat → Int32} {M_left : Nat → Int32} {M_played : Nat → Int32} {M_playedNow : Nat → Int32} {M_canBe : Nat → Int32} {M_text : Nat → Int32} {M_answered : Nat → Int32} {M_numbers : Nat → Int32} : ∀ (n9 : Nat) (v3_8 : Int32) (v4_8 : Int32) (v5_8 : Int32) (qL : Int32), lp_X6_bestOf_8 M_unitsNow a0 M_units a1 M_left n9 v3_8 v4_8 v5_8 = some qL → (Wa E yX6_bestOf cX6_bestOf 8 (some .int) 3 res 114 [(3, .int qL)] [] (hX, hR, hL, hT, hK, hS, hP, (M_unitsNow, M_way, M_sample, M_one, M_two, M_plays, M_low, M_high, M_playsNow, M_lowNow, M_highNow, M_textLong, M_answerLong, M_place, M_units, M_refused, M_left, M_played, M_playedNow, M_canBe, M_text, M_answered, M_numbers))) → Wa E yX6_bestOf cX6_bestOf 8 (some .int) 3 res 8 [(0, .ref (eA E 26)), (1, .int a0), (2, .int a1), (3, .int v3_8), (4, .int v4_8), (5, .int v5_8)] [] (hX, hR, hL, hT, hK, hS, hP, (M_unitsNow, M_way, M_sample, M_one, M_two, M_plays, M_low, M_high, M_playsNow, M_lowNow, M_highNow, M_textLong, M_answerLong, M_place, M_units, M_refused, M_left, M_played, M_playedNow, M_canBe, M_text, M_answered, M_numbers)) := by
  intro n9
  induction n9 with
  | zero =>
    intro v3_8 v4_8 v5_8 qL hf
    exact nomatch (show (none : Option (Int32)) = some qL from hf)
  | succ n9 ih =>
    intro v3_8 v4_8 v5_8 qL hf kx0
    rw [lp_X6_bestOf_8] at hf
    refine r_iload dX6_bestOf_8 5 rfl ?_
    refine r_aload_n dX6_bestOf_10 0 rfl ?_
    refine r_get (v := .int M_unitsNow) in_X6 26 ga_M rfl 1 (by decide) wd_764 rfl rfl dX6_bestOf_11 ?_
    refine r_icmp_ge (tgt := 114) dX6_bestOf_14 (by decide) (fun c1 => ?_) (fun c1 => ?_)
    · have hf := hf_pos c1 hf
      have e9 := Option.some.inj hf
      subst e9
      exact (Wa.sub [3] rfl kx0)
    · have hf := hf_neg c1 hf
      refine r_iload_n dX6_bestOf_17 1 rfl ?_
      refine r_iconst (v := (-1)) dX6_bestOf_18 (by decide) ?_
      obtain ⟨q3, hq3, hf⟩ := hf_bind hf
      have kj3 : Wa E yX6_bestOf cX6_bestOf 8 (some .int) 3 res 42 [(0, .ref (eA E 26)), (1, .int a0), (2, .int a1), (3, .int v3_8), (4, .int v4_8), (5, .int v5_8)] [.int q3] (hX, hR, hL, hT, hK, hS, hP, (M_unitsNow, M_way, M_sample, M_one, M_two, M_plays, M_low, M_high, M_playsNow, M_lowNow, M_highNow, M_textLong, M_answerLong, M_place, M_units, M_refused, M_left, M_played, M_playedNow, M_canBe, M_text, M_answered, M_numbers)) := by
        refine r_istore (lv2 := [(6, .int q3), (0, .ref (eA E 26)), (1, .int a0), (2, .int a1), (3, .int v3_8), (4, .int v4_8), (5, .int v5_8)]) dX6_bestOf_42 (by decide) rfl ?_
        refine r_iload_n dX6_bestOf_44 3 rfl ?_
        refine r_iconst (v := 1) dX6_bestOf_45 (by decide) ?_
        obtain ⟨q8, hq8, hf⟩ := hf_bind hf
        have kj8 : Wa E yX6_bestOf cX6_bestOf 8 (some .int) 3 res 72 [(0, .ref (eA E 26)), (1, .int a0), (2, .int a1), (3, .int v3_8), (4, .int v4_8), (5, .int v5_8)] [.int q8] (hX, hR, hL, hT, hK, hS, hP, (M_unitsNow, M_way, M_sample, M_one, M_two, M_plays, M_low, M_high, M_playsNow, M_lowNow, M_highNow, M_textLong, M_answerLong, M_place, M_units, M_refused, M_left, M_played, M_playedNow, M_canBe, M_text, M_answered, M_numbers)) := by
          refine r_istore (lv2 := [(7, .int q8), (0, .ref (eA E 26)), (1, .int a0), (2, .int a1), (3, .int v3_8), (4, .int v4_8), (5, .int v5_8)]) dX6_bestOf_72 (by decide) rfl ?_
          refine r_iload dX6_bestOf_74 6 rfl ?_
          refine r_iload_n dX6_bestOf_76 2 rfl ?_
          obtain ⟨q12, hq12, hf⟩ := hf_bind hf
          have kj12 : Wa E yX6_bestOf cX6_bestOf 8 (some .int) 3 res 108 [(0, .ref (eA E 26)), (1, .int a0), (2, .int a1), (3, .int q12.1), (4, .int q12.2), (5, .int v5_8)] [] (hX, hR, hL, hT, hK, hS, hP, (M_unitsNow, M_way, M_sample, M_one, M_two, M_plays, M_low, M_high, M_playsNow, M_lowNow, M_highNow, M_textLong, M_answerLong, M_place, M_units, M_refused, M_left, M_played, M_playedNow, M_canBe, M_text, M_answered, M_numbers)) := by
            refine r_iinc (v := (v5_8 + 1)) (lv2 := [(5, .int (v5_8 + 1)), (0, .ref (eA E 26)), (1, .int a0), (2, .int a1), (3, .int q12.1), (4, .int q12.2)]) dX6_bestOf_108 5 rfl rfl (by decide) rfl ?_
            refine r_goto (tgt := 8) dX6_bestOf_111 (by decide) ?_
            exact (Wa.sub [1, 2, 3, 4, 5, 0] rfl (ih _ _ _ _ hf kx0))
          have hf := hq12
          refine r_icmp_eq (tgt := 108) dX6_bestOf_77 (by decide) (fun c11 => ?_) (fun c11 => ?_)
          · have hf := hf_pos c11 hf
            have e9 := Option.some.inj hf
            subst e9
            exact (Wa.sub [1, 2, 3, 4, 5, 6] rfl kj12)
          · have hf := hf_neg c11 hf
            refine r_aload_n dX6_bestOf_80 1 rfl ?_
            refine r_iload dX6_bestOf_81 6 rfl ?_
            obtain ⟨q13, hq13, hf⟩ := hf_bind hf
            refine r_callVi (As := [.int v5_8]) (b := (eA E 26)) (st := []) (s_X6_isOpen hq13) (by decide) (by decide) wd_953 wd_955 wd_41 wd_74 wd_956 hy_X6_isOpen (Rc.obj 26 ga_M rfl) rfl (Nat.le_of_ble_eq_true rfl) dX6_bestOf_83 ?_
            refine r_if_eq (tgt := 108) dX6_bestOf_86 (by decide) (fun c14 => ?_) (fun c14 => ?_)
            · have hf := hf_pos c14 hf
              have e9 := Option.some.inj hf
              subst e9
              exact (Wa.sub [1, 2, 3, 4, 5, 6] rfl kj12)
            · have hf := hf_neg c14 hf
              refine r_iload_n dX6_bestOf_89 4 rfl ?_
              refine r_iconst (v := (-1)) dX6_bestOf_90 (by decide) ?_
              refine r_icmp_eq (tgt := 101) dX6_bestOf_91 (by decide) (fun c15 => ?_) (fun c15 => ?_)
              · have hf := hf_pos c15 hf
                refine r_iload dX6_bestOf_101 6 rfl ?_
                refine r_istore_n (lv2 := [(3, .int v5_8), (7, .int q8), (0, .ref (eA E 26)), (1, .int a0), (2, .int a1), (4, .int v4_8), (5, .int v5_8)]) dX6_bestOf_103 rfl (by decide) rfl ?_
                refine r_iload dX6_bestOf_104 1 rfl ?_
                refine r_istore (lv2 := [(4, .int q8), (3, .int v5_8), (7, .int q8), (0, .ref (eA E 26)), (1, .int a0), (2, .int a1), (5, .int v5_8)]) dX6_bestOf_106 (by decide) rfl ?_
                have e9 := Option.some.inj hf
                subst e9
                exact (Wa.sub [3, 4, 5, 1, 0, 6] rfl kj12)
              · have hf := hf_neg c15 hf
                refine r_iload dX6_bestOf_94 0 rfl ?_
                refine r_iload dX6_bestOf_96 5 rfl ?_
                refine r_icmp_le (tgt := 108) dX6_bestOf_98 (by decide) (fun c16 => ?_) (fun c16 => ?_)
                · have hf := hf_pos c16 hf
                  have e9 := Option.some.inj hf
                  subst e9
                  exact (Wa.sub [1, 2, 3, 4, 5, 6] rfl kj12)
                · have hf := hf_neg c16 hf
                  refine r_iload dX6_bestOf_101 6 rfl ?_
                  refine r_istore_n (lv2 := [(3, .int v5_8), (7, .int q8), (0, .ref (eA E 26)), (1, .int a0), (2, .int a1), (4, .int v4_8), (5, .int v5_8)]) dX6_bestOf_103 rfl (by decide) rfl ?_
                  refine r_iload dX6_bestOf_104 1 rfl ?_
                  refine r_istore (lv2 := [(4, .int q8), (3, .int v5_8), (7, .int q8), (0, .ref (eA E 26)), (1, .int a0), (2, .int a1), (5, .int v5_8)]) dX6_bestOf_106 (by decide) rfl ?_
                  have e9 := Option.some.inj hf
                  subst e9
                  exact (Wa.sub [3, 4, 5, 1, 0, 6] rfl kj12)
        have hf := hq8
        refine r_icmp_ne (tgt := 55) dX6_bestOf_46 (by decide) (fun c7 => ?_) (fun c7 => ?_)
        · have hf := hf_neg c7 hf
          refine r_iload_n dX6_bestOf_55 3 rfl ?_
          refine r_iconst (v := 3) dX6_bestOf_56 (by decide) ?_
          refine r_icmp_ne (tgt := 65) dX6_bestOf_57 (by decide) (fun c9 => ?_) (fun c9 => ?_)
          · have hf := hf_neg c9 hf
            refine r_aload_n dX6_bestOf_65 1 rfl ?_
            refine r_get (v := .ref (eA E 29)) in_X6 26 ga_M rfl 5 (by decide) wd_768 rfl rfl dX6_bestOf_66 ?_
            refine r_iload dX6_bestOf_69 6 rfl ?_
            obtain ⟨i10, hf⟩ := hf_in hf
            refine r_iald (f := M_left) 29 ga_M_left i10 dX6_bestOf_71 ?_
            have e9 := Option.some.inj hf
            subst e9
            exact (Wa.sub [1, 2, 3, 4, 5, 6] rfl kj8)
          · have hf := hf_pos c9 hf
            refine r_iload dX6_bestOf_60 0 rfl ?_
            refine r_goto (tgt := 72) dX6_bestOf_62 (by decide) ?_
            have e9 := Option.some.inj hf
            subst e9
            exact (Wa.sub [1, 2, 3, 4, 5, 6] rfl kj8)
        · have hf := hf_pos c7 hf
          refine r_iload dX6_bestOf_49 0 rfl ?_
          refine r_ineg dX6_bestOf_51 ?_
          refine r_goto (tgt := 72) dX6_bestOf_52 (by decide) ?_
          have e9 := Option.some.inj hf
          subst e9
          exact (Wa.sub [1, 2, 3, 4, 5, 6] rfl kj8)
      have hf := hq3
      refine r_icmp_ne (tgt := 26) dX6_bestOf_19 (by decide) (fun c2 => ?_) (fun c2 => ?_)
      · have hf := hf_neg c2 hf
        refine r_aload_n dX6_bestOf_26 0 rfl ?_
        refine r_iload dX6_bestOf_27 5 rfl ?_
        refine r_iconst (v := 1) dX6_bestOf_29 (by decide) ?_
        obtain ⟨q4, hq4, hf⟩ := hf_bind hf
        refine r_callVi (As := [.int v5_8, .int 1]) (b := (eA E 26)) (st := []) (s_X6_at hq4) (by decide) (by decide) wd_869 wd_871 wd_32 wd_74 wd_872 hy_X6_at (Rc.obj 26 ga_M rfl) rfl (Nat.le_of_ble_eq_true rfl) dX6_bestOf_30 ?_
        refine r_aload_n dX6_bestOf_33 0 rfl ?_
        refine r_iload_n dX6_bestOf_34 1 rfl ?_
        refine r_iconst (v := 1) dX6_bestOf_35 (by decide) ?_
        obtain ⟨q5, hq5, hf⟩ := hf_bind hf
        refine r_callVi (As := [.int a0, .int 1]) (b := (eA E 26)) (st := [.int q4]) (s_X6_at hq5) (by decide) (by decide) wd_869 wd_871 wd_32 wd_74 wd_872 hy_X6_at (Rc.obj 26 ga_M rfl) rfl (Nat.le_of_ble_eq_true rfl) dX6_bestOf_36 ?_
        obtain ⟨q6, hq6, hf⟩ := hf_bind hf
        refine r_callSi (As := [.int q4, .int q5]) (st := []) (s_X6_far hq6) (by decide) (by decide) wd_961 wd_962 wd_74 wd_963 hy_X6_far rfl (Nat.le_of_ble_eq_true rfl) dX6_bestOf_39 ?_
        have e9 := Option.some.inj hf
        subst e9
        exact kj3
      · have hf := hf_pos c2 hf
        refine r_iconst (v := 0) dX6_bestOf_22 (by decide) ?_
        refine r_goto (tgt := 42) dX6_bestOf_23 (by decide) ?_
        have e9 := Option.some.inj hf
        subst e9
        exact kj3
set_option maxHeartbeats 4000000 in
set_option maxRecDepth 100000 in
theorem s_X6_bestOf {E : EN} {hX : TX} {hR : TR} {hL : TC} {hT : TC} {hK : TK} {hS : TS} {hP : TP} {M_unitsNow : Int32} {M_way : Int32} {M_sample : Int32} {M_one : Int32} {M_two : Int32} {M_plays : Int32} {M_low : Int32} {M_high : Int32} {M_playsNow : Int32} {M_lowNow : Int32} {M_highNow : Int32} {M_textLong : Int32} {M_answerLong : Int32} {M_place : Int32} {M_units : Nat → Int32} {M_refused : Nat → Int32} {M_left : Nat → Int32} {M_played : Nat → Int32} {M_playedNow : Nat → Int32} {M_canBe : Nat → Int32} {M_text : Nat → Int32} {M_answered : Nat → Int32} {M_numbers : Nat → Int32} {a0 : Int32} {a1 : Int32} {qR : Int32} (hf : f_X6_bestOf M_unitsNow M_units M_left a0 a1 = some qR) : Sem E yX6_bestOf cX6_bestOf 8 (some .int) 3 [.ref (eA E 26), .int a0, .int a1] (hX, hR, hL, hT, hK, hS, hP, (M_unitsNow, M_way, M_sample, M_one, M_two, M_plays, M_low, M_high, M_playsNow, M_lowNow, M_highNow, M_textLong, M_answerLong, M_place, M_units, M_refused, M_left, M_played, M_playedNow, M_canBe, M_text, M_answered, M_numbers)) (some (.int qR), (hX, hR, hL, hT, hK, hS, hP, (M_unitsNow, M_way, M_sample, M_one, M_two, M_plays, M_low, M_high, M_playsNow, M_lowNow, M_highNow, M_textLong, M_answerLong, M_place, M_units, M_refused, M_left, M_played, M_playedNow, M_canBe, M_text, M_answered, M_numbers))) := by
  refine Sem.mk (lv := [(0, .ref (eA E 26)), (1, .int a0), (2, .int a1)]) (by decide) (Nat.le_of_ble_eq_true rfl) rfl ?_
  rw [f_X6_bestOf] at hf
  refine r_iconst (v := (-1)) dX6_bestOf_0 (by decide) ?_
  refine r_istore_n (lv2 := [(3, .int (-1)), (0, .ref (eA E 26)), (1, .int a0), (2, .int a1)]) dX6_bestOf_1 rfl (by decide) rfl ?_
  refine r_iconst (v := 0) dX6_bestOf_2 (by decide) ?_
  refine r_istore (lv2 := [(4, .int 0), (3, .int (-1)), (0, .ref (eA E 26)), (1, .int a0), (2, .int a1)]) dX6_bestOf_3 (by decide) rfl ?_
  refine r_iconst (v := 0) dX6_bestOf_5 (by decide) ?_
  refine r_istore (lv2 := [(5, .int 0), (4, .int 0), (3, .int (-1)), (0, .ref (eA E 26)), (1, .int a0), (2, .int a1)]) dX6_bestOf_6 (by decide) rfl ?_
  obtain ⟨q17, hq17, hf⟩ := hf_bind hf
  refine (Wa.sub [3, 4, 5, 2, 1, 0] rfl (w_X6_bestOf_8 _ _ _ _ _ hq17 ?_))
  refine r_iload_n dX6_bestOf_114 0 rfl ?_
  have e9 := Option.some.inj hf
  subst e9
  exact r_iret rfl dX6_bestOf_115
-- DuelSamplesModel.nextIn
def lp_X6_nextIn_6 (M_unitsNow : Int32) (M_units : Nat → Int32) (a0 : Int32) (M_left : Nat → Int32) : Nat → Int32 → Option (Int32)
  | 0, _ => none
  | n9 + 1, v3_6 => if M_unitsNow ≤ v3_6 then some v3_6 else Option.bind (f_X6_at M_units v3_6 2) (fun (q3 : Int32) => if q3 = a0 then some v3_6 else Option.bind (f_X6_firstOpen M_unitsNow M_left (v3_6 + 1)) (fun (q5 : Int32) => lp_X6_nextIn_6 M_unitsNow M_units a0 M_left n9 q5))
def f_X6_nextIn (M_unitsNow : Int32) (M_units : Nat → Int32) (M_left : Nat → Int32) (a0 : Int32) (a1 : Int32) : Option (Int32) := Option.bind (f_X6_firstOpen M_unitsNow M_left a1) (fun (q1 : Int32) => Option.bind (lp_X6_nextIn_6 M_unitsNow M_units a0 M_left FU q1) (fun (q6 : Int32) => some q6))
theorem hy_X6_nextIn : yX6_nextIn.cls ≠ "java/lang/invoke/MethodHandle" ∧ yX6_nextIn.cls ≠ "java/lang/invoke/VarHandle" ∧ (parseMethodDescriptor yX6_nextIn.desc).map (fun d => d.parameters.length) = some 2 := by decide +kernel
set_option maxHeartbeats 4000000 in
set_option maxRecDepth 100000 in
theorem w_X6_nextIn_6 {E : EN} {res : Option Value × Hp} {hX : TX} {hR : TR} {hL : TC} {hT : TC} {hK : TK} {hS : TS} {hP : TP} {a0 : Int32} {M_unitsNow : Int32} {M_way : Int32} {M_sample : Int32} {M_one : Int32} {M_two : Int32} {M_plays : Int32} {M_low : Int32} {M_high : Int32} {M_playsNow : Int32} {M_lowNow : Int32} {M_highNow : Int32} {M_textLong : Int32} {M_answerLong : Int32} {M_place : Int32} {M_units : Nat → Int32} {M_refused : Nat → Int32} {M_left : Nat → Int32} {M_played : Nat → Int32} {M_playedNow : Nat → Int32} {M_canBe : Nat → Int32} {M_text : Nat → Int32} {M_answered : Nat → Int32} {M_numbers : Nat → Int32} : ∀ (n9 : Nat) (v3_6 : Int32) (qL : Int32), lp_X6_nextIn_6 M_unitsNow M_units a0 M_left n9 v3_6 = some qL → (Wa E yX6_nextIn cX6_nextIn 4 (some .int) 4 res 35 [(3, .int qL)] [] (hX, hR, hL, hT, hK, hS, hP, (M_unitsNow, M_way, M_sample, M_one, M_two, M_plays, M_low, M_high, M_playsNow, M_lowNow, M_highNow, M_textLong, M_answerLong, M_place, M_units, M_refused, M_left, M_played, M_playedNow, M_canBe, M_text, M_answered, M_numbers))) → Wa E yX6_nextIn cX6_nextIn 4 (some .int) 4 res 6 [(0, .ref (eA E 26)), (1, .int a0), (3, .int v3_6)] [] (hX, hR, hL, hT, hK, hS, hP, (M_unitsNow, M_way, M_sample, M_one, M_two, M_plays, M_low, M_high, M_playsNow, M_lowNow, M_highNow, M_textLong, M_answerLong, M_place, M_units, M_refused, M_left, M_played, M_playedNow, M_canBe, M_text, M_answered, M_numbers)) := by
  intro n9
  induction n9 with
  | zero =>
    intro v3_6 qL hf
    exact nomatch (show (none : Option (Int32)) = some qL from hf)
  | succ n9 ih =>
    intro v3_6 qL hf kx0
    rw [lp_X6_nextIn_6] at hf
    refine r_iload_n dX6_nextIn_6 2 rfl ?_
    refine r_aload_n dX6_nextIn_7 0 rfl ?_
    refine r_get (v := .int M_unitsNow) in_X6 26 ga_M rfl 1 (by decide) wd_764 rfl rfl dX6_nextIn_8 ?_
    refine r_icmp_ge (tgt := 35) dX6_nextIn_11 (by decide) (fun c2 => ?_) (fun c2 => ?_)
    · have hf := hf_pos c2 hf
      have e9 := Option.some.inj hf
      subst e9
      exact (Wa.sub [2] rfl kx0)
    · have hf := hf_neg c2 hf
      refine r_aload_n dX6_nextIn_14 0 rfl ?_
      refine r_iload_n dX6_nextIn_15 2 rfl ?_
      refine r_iconst (v := 2) dX6_nextIn_16 (by decide) ?_
      obtain ⟨q3, hq3, hf⟩ := hf_bind hf
      refine r_callVi (As := [.int v3_6, .int 2]) (b := (eA E 26)) (st := []) (s_X6_at hq3) (by decide) (by decide) wd_869 wd_871 wd_32 wd_74 wd_872 hy_X6_at (Rc.obj 26 ga_M rfl) rfl (Nat.le_of_ble_eq_true rfl) dX6_nextIn_17 ?_
      refine r_iload_n dX6_nextIn_20 1 rfl ?_
      refine r_icmp_eq (tgt := 35) dX6_nextIn_21 (by decide) (fun c4 => ?_) (fun c4 => ?_)
      · have hf := hf_pos c4 hf
        have e9 := Option.some.inj hf
        subst e9
        exact (Wa.sub [2] rfl kx0)
      · have hf := hf_neg c4 hf
        refine r_aload_n dX6_nextIn_24 0 rfl ?_
        refine r_iload_n dX6_nextIn_25 2 rfl ?_
        refine r_iconst (v := 1) dX6_nextIn_26 (by decide) ?_
        refine r_iadd dX6_nextIn_27 ?_
        obtain ⟨q5, hq5, hf⟩ := hf_bind hf
        refine r_callVi (As := [.int (v3_6 + 1)]) (b := (eA E 26)) (st := []) (s_X6_firstOpen hq5) (by decide) (by decide) wd_949 wd_951 wd_40 wd_74 wd_952 hy_X6_firstOpen (Rc.obj 26 ga_M rfl) rfl (Nat.le_of_ble_eq_true rfl) dX6_nextIn_28 ?_
        refine r_istore_n (lv2 := [(3, .int q5), (0, .ref (eA E 26)), (1, .int a0)]) dX6_nextIn_31 rfl (by decide) rfl ?_
        refine r_goto (tgt := 6) dX6_nextIn_32 (by decide) ?_
        exact (Wa.sub [1, 2, 0] rfl (ih _ _ hf kx0))
set_option maxHeartbeats 4000000 in
set_option maxRecDepth 100000 in
theorem s_X6_nextIn {E : EN} {hX : TX} {hR : TR} {hL : TC} {hT : TC} {hK : TK} {hS : TS} {hP : TP} {M_unitsNow : Int32} {M_way : Int32} {M_sample : Int32} {M_one : Int32} {M_two : Int32} {M_plays : Int32} {M_low : Int32} {M_high : Int32} {M_playsNow : Int32} {M_lowNow : Int32} {M_highNow : Int32} {M_textLong : Int32} {M_answerLong : Int32} {M_place : Int32} {M_units : Nat → Int32} {M_refused : Nat → Int32} {M_left : Nat → Int32} {M_played : Nat → Int32} {M_playedNow : Nat → Int32} {M_canBe : Nat → Int32} {M_text : Nat → Int32} {M_answered : Nat → Int32} {M_numbers : Nat → Int32} {a0 : Int32} {a1 : Int32} {qR : Int32} (hf : f_X6_nextIn M_unitsNow M_units M_left a0 a1 = some qR) : Sem E yX6_nextIn cX6_nextIn 4 (some .int) 4 [.ref (eA E 26), .int a0, .int a1] (hX, hR, hL, hT, hK, hS, hP, (M_unitsNow, M_way, M_sample, M_one, M_two, M_plays, M_low, M_high, M_playsNow, M_lowNow, M_highNow, M_textLong, M_answerLong, M_place, M_units, M_refused, M_left, M_played, M_playedNow, M_canBe, M_text, M_answered, M_numbers)) (some (.int qR), (hX, hR, hL, hT, hK, hS, hP, (M_unitsNow, M_way, M_sample, M_one, M_two, M_plays, M_low, M_high, M_playsNow, M_lowNow, M_highNow, M_textLong, M_answerLong, M_place, M_units, M_refused, M_left, M_played, M_playedNow, M_canBe, M_text, M_answered, M_numbers))) := by
  refine Sem.mk (lv := [(0, .ref (eA E 26)), (1, .int a0), (2, .int a1)]) (by decide) (Nat.le_of_ble_eq_true rfl) rfl ?_
  rw [f_X6_nextIn] at hf
  refine r_aload_n dX6_nextIn_0 0 rfl ?_
  refine r_iload_n dX6_nextIn_1 2 rfl ?_
  obtain ⟨q1, hq1, hf⟩ := hf_bind hf
  refine r_callVi (As := [.int a1]) (b := (eA E 26)) (st := []) (s_X6_firstOpen hq1) (by decide) (by decide) wd_949 wd_951 wd_40 wd_74 wd_952 hy_X6_firstOpen (Rc.obj 26 ga_M rfl) rfl (Nat.le_of_ble_eq_true rfl) dX6_nextIn_2 ?_
  refine r_istore_n (lv2 := [(3, .int q1), (0, .ref (eA E 26)), (1, .int a0), (2, .int a1)]) dX6_nextIn_5 rfl (by decide) rfl ?_
  obtain ⟨q6, hq6, hf⟩ := hf_bind hf
  refine (Wa.sub [1, 2, 0] rfl (w_X6_nextIn_6 _ _ _ hq6 ?_))
  refine r_iload_n dX6_nextIn_35 0 rfl ?_
  have e9 := Option.some.inj hf
  subst e9
  exact r_iret rfl dX6_nextIn_36
-- DuelSamplesModel.finds
def lp_X6_finds_101 (M_unitsNow : Int32) (M_units : Nat → Int32) (M_left : Nat → Int32) : Nat → Int32 → Int32 → Int32 → Int32 → Option (Int32 × Int32)
  | 0, _, _, _, _ => none
  | n9 + 1, v1_101, v2_101, M_one_101, M_two_101 => if 4 ≤ v2_101 then some (M_one_101, M_two_101) else if v1_101 = 0 then Option.bind (f_X6_nextIn M_unitsNow M_units M_left v2_101 0) (fun (q15 : Int32) => Option.bind (if M_unitsNow ≤ q15 then some M_unitsNow else Option.bind (f_X6_nextIn M_unitsNow M_units M_left v2_101 (q15 + 1)) (fun (q18 : Int32) => some q18)) (fun (q17 : Int32) => Option.bind (if M_unitsNow ≤ q17 then some 0 else some 1) (fun (q20 : Int32) => Option.bind (if q20 = 0 then some M_one_101 else some q15) (fun (q22 : Int32) => Option.bind (if q20 = 0 then some M_two_101 else some q17) (fun (q24 : Int32) => lp_X6_finds_101 M_unitsNow M_units M_left n9 q20 (v2_101 + 1) q22 q24))))) else some (M_one_101, M_two_101)
def f_X6_finds (M_unitsNow : Int32) (M_way : Int32) (M_two : Int32) (M_units : Nat → Int32) (M_left : Nat → Int32)  : Option (Int32 × Int32 × Int32) := Option.bind (f_X6_firstOpen M_unitsNow M_left 0) (fun (q1 : Int32) => if q1 = M_unitsNow then some (0, q1, M_two) else Option.bind (f_X6_firstOpen M_unitsNow M_left (q1 + 1)) (fun (q3 : Int32) => if q3 = M_unitsNow then some (1, q1, (-1)) else Option.bind (if M_way = 1 then Option.bind (f_X6_bestOf M_unitsNow M_units M_left q1 M_way) (fun (q7 : Int32) => some (q1, q7)) else if M_way = 3 then Option.bind (f_X6_bestOf M_unitsNow M_units M_left q1 M_way) (fun (q26 : Int32) => some (q1, q26)) else if M_way = 2 then Option.bind (lp_X6_finds_101 M_unitsNow M_units M_left FU 0 0 q1 q3) (fun (q25 : Int32 × Int32) => some (q25.1, q25.2)) else if M_way = 0 then some (q1, q3) else Option.bind (f_X6_bestOf M_unitsNow M_units M_left (-1) 4) (fun (q11 : Int32) => Option.bind (f_X6_bestOf M_unitsNow M_units M_left q11 4) (fun (q12 : Int32) => some (q11, q12)))) (fun (q6 : Int32 × Int32) => some (1, q6.1, q6.2))))
theorem hy_X6_finds : yX6_finds.cls ≠ "java/lang/invoke/MethodHandle" ∧ yX6_finds.cls ≠ "java/lang/invoke/VarHandle" ∧ (parseMethodDescriptor yX6_finds.desc).map (fun d => d.parameters.length) = some 0 := by decide +kernel
set_option maxHeartbeats 4000000 in
set_option maxRecDepth 100000 in
theorem w_X6_finds_101 {E : EN} {res : Option Value × Hp} {hX : TX} {hR : TR} {hL : TC} {hT : TC} {hK : TK} {hS : TS} {hP : TP} {M_unitsNow : Int32} {M_way : Int32} {M_sample : Int32} {M_plays : Int32} {M_low : Int32} {M_high : Int32} {M_playsNow : Int32} {M_lowNow : Int32} {M_highNow : Int32} {M_textLong : Int32} {M_answerLong : Int32} {M_place : Int32} {M_units : Nat → Int32} {M_refused : Nat → Int32} {M_left : Nat → Int32} {M_played : Nat → Int32} {M_playedNow : Nat → Int32} {M_canBe : Nat → Int32} {M_text : Nat → Int32} {M_answered : Nat → Int32} {M_numbers : Nat → Int32} : ∀ (n9 : Nat) (v1_101 : Int32) (v2_101 : Int32) (M_one_101 : Int32) (M_two_101 : Int32) (qL : Int32 × Int32), lp_X6_finds_101 M_unitsNow M_units M_left n9 v1_101 v2_101 M_one_101 M_two_101 = some qL → (Wa E yX6_finds cX6_finds 5 (some .boolean) 5 res 196 [] [] (hX, hR, hL, hT, hK, hS, hP, (M_unitsNow, M_way, M_sample, qL.1, qL.2, M_plays, M_low, M_high, M_playsNow, M_lowNow, M_highNow, M_textLong, M_answerLong, M_place, M_units, M_refused, M_left, M_played, M_playedNow, M_canBe, M_text, M_answered, M_numbers))) → Wa E yX6_finds cX6_finds 5 (some .boolean) 5 res 101 [(0, .ref (eA E 26)), (1, .int v1_101), (2, .int v2_101)] [] (hX, hR, hL, hT, hK, hS, hP, (M_unitsNow, M_way, M_sample, M_one_101, M_two_101, M_plays, M_low, M_high, M_playsNow, M_lowNow, M_highNow, M_textLong, M_answerLong, M_place, M_units, M_refused, M_left, M_played, M_playedNow, M_canBe, M_text, M_answered, M_numbers)) := by
  intro n9
  induction n9 with
  | zero =>
    intro v1_101 v2_101 M_one_101 M_two_101 qL hf
    exact nomatch (show (none : Option (Int32 × Int32)) = some qL from hf)
  | succ n9 ih =>
    intro v1_101 v2_101 M_one_101 M_two_101 qL hf kx0
    rw [lp_X6_finds_101] at hf
    refine r_iload_n dX6_finds_101 2 rfl ?_
    refine r_iconst (v := 4) dX6_finds_102 (by decide) ?_
    refine r_icmp_ge (tgt := 196) dX6_finds_103 (by decide) (fun c13 => ?_) (fun c13 => ?_)
    · have hf := hf_pos c13 hf
      have e9 := Option.some.inj hf
      subst e9
      exact (Wa.sub [] rfl kx0)
    · have hf := hf_neg c13 hf
      refine r_iload_n dX6_finds_106 1 rfl ?_
      refine r_if_ne (tgt := 196) dX6_finds_107 (by decide) (fun c14 => ?_) (fun c14 => ?_)
      · have hf := hf_neg c14 hf
        have e9 := Option.some.inj hf
        subst e9
        exact (Wa.sub [] rfl kx0)
      · have hf := hf_pos c14 hf
        refine r_aload_n dX6_finds_110 0 rfl ?_
        refine r_iload_n dX6_finds_111 2 rfl ?_
        refine r_iconst (v := 0) dX6_finds_112 (by decide) ?_
        obtain ⟨q15, hq15, hf⟩ := hf_bind hf
        refine r_callVi (As := [.int v2_101, .int 0]) (b := (eA E 26)) (st := []) (s_X6_nextIn hq15) (by decide) (by decide) wd_964 wd_966 wd_43 wd_74 wd_967 hy_X6_nextIn (Rc.obj 26 ga_M rfl) rfl (Nat.le_of_ble_eq_true rfl) dX6_finds_113 ?_
        refine r_istore_n (lv2 := [(3, .int q15), (0, .ref (eA E 26)), (1, .int v1_101), (2, .int v2_101)]) dX6_finds_116 rfl (by decide) rfl ?_
        refine r_iload_n dX6_finds_117 0 rfl ?_
        refine r_aload_n dX6_finds_118 1 rfl ?_
        refine r_get (v := .int M_unitsNow) in_X6 26 ga_M rfl 1 (by decide) wd_764 rfl rfl dX6_finds_119 ?_
        obtain ⟨q17, hq17, hf⟩ := hf_bind hf
        have kj17 : Wa E yX6_finds cX6_finds 5 (some .boolean) 5 res 140 [(0, .ref (eA E 26)), (2, .int v2_101), (3, .int q15)] [.int q17] (hX, hR, hL, hT, hK, hS, hP, (M_unitsNow, M_way, M_sample, M_one_101, M_two_101, M_plays, M_low, M_high, M_playsNow, M_lowNow, M_highNow, M_textLong, M_answerLong, M_place, M_units, M_refused, M_left, M_played, M_playedNow, M_canBe, M_text, M_answered, M_numbers)) := by
          refine r_istore (lv2 := [(4, .int q17), (0, .ref (eA E 26)), (2, .int v2_101), (3, .int q15)]) dX6_finds_140 (by decide) rfl ?_
          refine r_iload dX6_finds_142 0 rfl ?_
          refine r_aload_n dX6_finds_144 1 rfl ?_
          refine r_get (v := .int M_unitsNow) in_X6 26 ga_M rfl 1 (by decide) wd_764 rfl rfl dX6_finds_145 ?_
          obtain ⟨q20, hq20, hf⟩ := hf_bind hf
          have kj20 : Wa E yX6_finds cX6_finds 5 (some .boolean) 5 res 156 [(0, .ref (eA E 26)), (2, .int v2_101), (3, .int q15), (4, .int q17)] [.int q20] (hX, hR, hL, hT, hK, hS, hP, (M_unitsNow, M_way, M_sample, M_one_101, M_two_101, M_plays, M_low, M_high, M_playsNow, M_lowNow, M_highNow, M_textLong, M_answerLong, M_place, M_units, M_refused, M_left, M_played, M_playedNow, M_canBe, M_text, M_answered, M_numbers)) := by
            refine r_istore_n (lv2 := [(1, .int q20), (0, .ref (eA E 26)), (2, .int v2_101), (3, .int q15), (4, .int q17)]) dX6_finds_156 rfl (by decide) rfl ?_
            refine r_aload_n dX6_finds_157 1 rfl ?_
            refine r_iload_n dX6_finds_158 0 rfl ?_
            obtain ⟨q22, hq22, hf⟩ := hf_bind hf
            have kj22 : Wa E yX6_finds cX6_finds 5 (some .boolean) 5 res 170 [(0, .ref (eA E 26)), (1, .int q20), (2, .int v2_101), (4, .int q17)] [.int q22, .ref (eA E 26)] (hX, hR, hL, hT, hK, hS, hP, (M_unitsNow, M_way, M_sample, M_one_101, M_two_101, M_plays, M_low, M_high, M_playsNow, M_lowNow, M_highNow, M_textLong, M_answerLong, M_place, M_units, M_refused, M_left, M_played, M_playedNow, M_canBe, M_text, M_answered, M_numbers)) := by
              refine r_put in_X6 tyX6_ok nmX6 26 ga_M rfl 6 (by decide) wd_769 rfl rfl pfI (Nat.le_of_ble_eq_true rfl) sa_M_one dX6_finds_170 ?_
              refine r_aload_n dX6_finds_173 0 rfl ?_
              refine r_iload_n dX6_finds_174 1 rfl ?_
              obtain ⟨q24, hq24, hf⟩ := hf_bind hf
              have kj24 : Wa E yX6_finds cX6_finds 5 (some .boolean) 5 res 187 [(0, .ref (eA E 26)), (1, .int q20), (2, .int v2_101)] [.int q24, .ref (eA E 26)] (hX, hR, hL, hT, hK, hS, hP, (M_unitsNow, M_way, M_sample, q22, M_two_101, M_plays, M_low, M_high, M_playsNow, M_lowNow, M_highNow, M_textLong, M_answerLong, M_place, M_units, M_refused, M_left, M_played, M_playedNow, M_canBe, M_text, M_answered, M_numbers)) := by
                refine r_put in_X6 tyX6_ok nmX6 26 ga_M rfl 7 (by decide) wd_770 rfl rfl pfI (Nat.le_of_ble_eq_true rfl) sa_M_two dX6_finds_187 ?_
                refine r_iinc (v := (v2_101 + 1)) (lv2 := [(2, .int (v2_101 + 1)), (0, .ref (eA E 26)), (1, .int q20)]) dX6_finds_190 2 rfl rfl (by decide) rfl ?_
                refine r_goto (tgt := 101) dX6_finds_193 (by decide) ?_
                exact (Wa.sub [1, 2, 0] rfl (ih _ _ _ _ _ hf kx0))
              have hf := hq24
              refine r_if_eq (tgt := 183) dX6_finds_175 (by decide) (fun c23 => ?_) (fun c23 => ?_)
              · have hf := hf_pos c23 hf
                refine r_aload_n dX6_finds_183 0 rfl ?_
                refine r_get (v := .int M_two_101) in_X6 26 ga_M rfl 7 (by decide) wd_770 rfl rfl dX6_finds_184 ?_
                have e9 := Option.some.inj hf
                subst e9
                exact (Wa.sub [0, 1, 2] rfl kj24)
              · have hf := hf_neg c23 hf
                refine r_iload dX6_finds_178 3 rfl ?_
                refine r_goto (tgt := 187) dX6_finds_180 (by decide) ?_
                have e9 := Option.some.inj hf
                subst e9
                exact (Wa.sub [0, 1, 2] rfl kj24)
            have hf := hq22
            refine r_if_eq (tgt := 166) dX6_finds_159 (by decide) (fun c21 => ?_) (fun c21 => ?_)
            · have hf := hf_pos c21 hf
              refine r_aload_n dX6_finds_166 1 rfl ?_
              refine r_get (v := .int M_one_101) in_X6 26 ga_M rfl 6 (by decide) wd_769 rfl rfl dX6_finds_167 ?_
              have e9 := Option.some.inj hf
              subst e9
              exact (Wa.sub [1, 0, 2, 4] rfl kj22)
            · have hf := hf_neg c21 hf
              refine r_iload_n dX6_finds_162 3 rfl ?_
              refine r_goto (tgt := 170) dX6_finds_163 (by decide) ?_
              have e9 := Option.some.inj hf
              subst e9
              exact (Wa.sub [1, 0, 2, 4] rfl kj22)
          have hf := hq20
          refine r_icmp_ge (tgt := 155) dX6_finds_148 (by decide) (fun c19 => ?_) (fun c19 => ?_)
          · have hf := hf_pos c19 hf
            refine r_iconst (v := 0) dX6_finds_155 (by decide) ?_
            have e9 := Option.some.inj hf
            subst e9
            exact (Wa.sub [1, 2, 3, 0] rfl kj20)
          · have hf := hf_neg c19 hf
            refine r_iconst (v := 1) dX6_finds_151 (by decide) ?_
            refine r_goto (tgt := 156) dX6_finds_152 (by decide) ?_
            have e9 := Option.some.inj hf
            subst e9
            exact (Wa.sub [1, 2, 3, 0] rfl kj20)
        have hf := hq17
        refine r_icmp_ge (tgt := 136) dX6_finds_122 (by decide) (fun c16 => ?_) (fun c16 => ?_)
        · have hf := hf_pos c16 hf
          refine r_aload_n dX6_finds_136 1 rfl ?_
          refine r_get (v := .int M_unitsNow) in_X6 26 ga_M rfl 1 (by decide) wd_764 rfl rfl dX6_finds_137 ?_
          have e9 := Option.some.inj hf
          subst e9
          exact (Wa.sub [1, 3, 0] rfl kj17)
        · have hf := hf_neg c16 hf
          refine r_aload_n dX6_finds_125 1 rfl ?_
          refine r_iload_n dX6_finds_126 3 rfl ?_
          refine r_iload_n dX6_finds_127 0 rfl ?_
          refine r_iconst (v := 1) dX6_finds_128 (by decide) ?_
          refine r_iadd dX6_finds_129 ?_
          obtain ⟨q18, hq18, hf⟩ := hf_bind hf
          refine r_callVi (As := [.int v2_101, .int (q15 + 1)]) (b := (eA E 26)) (st := []) (s_X6_nextIn hq18) (by decide) (by decide) wd_964 wd_966 wd_43 wd_74 wd_967 hy_X6_nextIn (Rc.obj 26 ga_M rfl) rfl (Nat.le_of_ble_eq_true rfl) dX6_finds_130 ?_
          refine r_goto (tgt := 140) dX6_finds_133 (by decide) ?_
          have e9 := Option.some.inj hf
          subst e9
          exact (Wa.sub [1, 3, 0] rfl kj17)
set_option maxHeartbeats 4000000 in
set_option maxRecDepth 100000 in
theorem s_X6_finds {E : EN} {hX : TX} {hR : TR} {hL : TC} {hT : TC} {hK : TK} {hS : TS} {hP : TP} {M_unitsNow : Int32} {M_way : Int32} {M_sample : Int32} {M_one : Int32} {M_two : Int32} {M_plays : Int32} {M_low : Int32} {M_high : Int32} {M_playsNow : Int32} {M_lowNow : Int32} {M_highNow : Int32} {M_textLong : Int32} {M_answerLong : Int32} {M_place : Int32} {M_units : Nat → Int32} {M_refused : Nat → Int32} {M_left : Nat → Int32} {M_played : Nat → Int32} {M_playedNow : Nat → Int32} {M_canBe : Nat → Int32} {M_text : Nat → Int32} {M_answered : Nat → Int32} {M_numbers : Nat → Int32}  {qR : Int32 × Int32 × Int32} (hf : f_X6_finds M_unitsNow M_way M_two M_units M_left = some qR) : Sem E yX6_finds cX6_finds 5 (some .boolean) 5 [.ref (eA E 26)] (hX, hR, hL, hT, hK, hS, hP, (M_unitsNow, M_way, M_sample, M_one, M_two, M_plays, M_low, M_high, M_playsNow, M_lowNow, M_highNow, M_textLong, M_answerLong, M_place, M_units, M_refused, M_left, M_played, M_playedNow, M_canBe, M_text, M_answered, M_numbers)) (some (.int qR.1), (hX, hR, hL, hT, hK, hS, hP, (M_unitsNow, M_way, M_sample, qR.2.1, qR.2.2, M_plays, M_low, M_high, M_playsNow, M_lowNow, M_highNow, M_textLong, M_answerLong, M_place, M_units, M_refused, M_left, M_played, M_playedNow, M_canBe, M_text, M_answered, M_numbers))) := by
  refine Sem.mk (lv := [(0, .ref (eA E 26))]) (by decide) (Nat.le_of_ble_eq_true rfl) rfl ?_
  rw [f_X6_finds] at hf
  refine r_aload_n dX6_finds_0 0 rfl ?_
  refine r_aload_n dX6_finds_1 0 rfl ?_
  refine r_iconst (v := 0) dX6_finds_2 (by decide) ?_
  obtain ⟨q1, hq1, hf⟩ := hf_bind hf
  refine r_callVi (As := [.int 0]) (b := (eA E 26)) (st := [.ref (eA E 26)]) (s_X6_firstOpen hq1) (by decide) (by decide) wd_949 wd_951 wd_40 wd_74 wd_952 hy_X6_firstOpen (Rc.obj 26 ga_M rfl) rfl (Nat.le_of_ble_eq_true rfl) dX6_finds_3 ?_
  refine r_put in_X6 tyX6_ok nmX6 26 ga_M rfl 6 (by decide) wd_769 rfl rfl pfI (Nat.le_of_ble_eq_true rfl) sa_M_one dX6_finds_6 ?_
  refine r_aload_n dX6_finds_9 0 rfl ?_
  refine r_get (v := .int q1) in_X6 26 ga_M rfl 6 (by decide) wd_769 rfl rfl dX6_finds_10 ?_
  refine r_aload_n dX6_finds_13 0 rfl ?_
  refine r_get (v := .int M_unitsNow) in_X6 26 ga_M rfl 1 (by decide) wd_764 rfl rfl dX6_finds_14 ?_
  refine r_icmp_ne (tgt := 22) dX6_finds_17 (by decide) (fun c2 => ?_) (fun c2 => ?_)
  · have hf := hf_neg c2 hf
    refine r_aload_n dX6_finds_22 0 rfl ?_
    refine r_aload_n dX6_finds_23 0 rfl ?_
    refine r_aload_n dX6_finds_24 0 rfl ?_
    refine r_get (v := .int q1) in_X6 26 ga_M rfl 6 (by decide) wd_769 rfl rfl dX6_finds_25 ?_
    refine r_iconst (v := 1) dX6_finds_28 (by decide) ?_
    refine r_iadd dX6_finds_29 ?_
    obtain ⟨q3, hq3, hf⟩ := hf_bind hf
    refine r_callVi (As := [.int (q1 + 1)]) (b := (eA E 26)) (st := [.ref (eA E 26)]) (s_X6_firstOpen hq3) (by decide) (by decide) wd_949 wd_951 wd_40 wd_74 wd_952 hy_X6_firstOpen (Rc.obj 26 ga_M rfl) rfl (Nat.le_of_ble_eq_true rfl) dX6_finds_30 ?_
    refine r_put in_X6 tyX6_ok nmX6 26 ga_M rfl 7 (by decide) wd_770 rfl rfl pfI (Nat.le_of_ble_eq_true rfl) sa_M_two dX6_finds_33 ?_
    refine r_aload_n dX6_finds_36 0 rfl ?_
    refine r_get (v := .int q3) in_X6 26 ga_M rfl 7 (by decide) wd_770 rfl rfl dX6_finds_37 ?_
    refine r_aload_n dX6_finds_40 0 rfl ?_
    refine r_get (v := .int M_unitsNow) in_X6 26 ga_M rfl 1 (by decide) wd_764 rfl rfl dX6_finds_41 ?_
    refine r_icmp_ne (tgt := 54) dX6_finds_44 (by decide) (fun c4 => ?_) (fun c4 => ?_)
    · have hf := hf_neg c4 hf
      refine r_aload_n dX6_finds_54 0 rfl ?_
      refine r_get (v := .int M_way) in_X6 26 ga_M rfl 2 (by decide) wd_765 rfl rfl dX6_finds_55 ?_
      refine r_iconst (v := 1) dX6_finds_58 (by decide) ?_
      obtain ⟨q6, hq6, hf⟩ := hf_bind hf
      have kj6 : Wa E yX6_finds cX6_finds 5 (some .boolean) 5 (some (.int qR.1), (hX, hR, hL, hT, hK, hS, hP, (M_unitsNow, M_way, M_sample, qR.2.1, qR.2.2, M_plays, M_low, M_high, M_playsNow, M_lowNow, M_highNow, M_textLong, M_answerLong, M_place, M_units, M_refused, M_left, M_played, M_playedNow, M_canBe, M_text, M_answered, M_numbers))) 229 [] [] (hX, hR, hL, hT, hK, hS, hP, (M_unitsNow, M_way, M_sample, q6.1, q6.2, M_plays, M_low, M_high, M_playsNow, M_lowNow, M_highNow, M_textLong, M_answerLong, M_place, M_units, M_refused, M_left, M_played, M_playedNow, M_canBe, M_text, M_answered, M_numbers)) := by
        refine r_iconst (v := 1) dX6_finds_229 (by decide) ?_
        have e9 := Option.some.inj hf
        subst e9
        exact r_zret rfl (narB (Or.inr rfl)) dX6_finds_230
      have hf := hq6
      refine r_icmp_eq (tgt := 70) dX6_finds_59 (by decide) (fun c5 => ?_) (fun c5 => ?_)
      · have hf := hf_pos c5 hf
        refine r_aload_n dX6_finds_70 0 rfl ?_
        refine r_aload_n dX6_finds_71 0 rfl ?_
        refine r_aload_n dX6_finds_72 0 rfl ?_
        refine r_get (v := .int q1) in_X6 26 ga_M rfl 6 (by decide) wd_769 rfl rfl dX6_finds_73 ?_
        refine r_aload_n dX6_finds_76 0 rfl ?_
        refine r_get (v := .int M_way) in_X6 26 ga_M rfl 2 (by decide) wd_765 rfl rfl dX6_finds_77 ?_
        obtain ⟨q7, hq7, hf⟩ := hf_bind hf
        refine r_callVi (As := [.int q1, .int M_way]) (b := (eA E 26)) (st := [.ref (eA E 26)]) (s_X6_bestOf hq7) (by decide) (by decide) wd_957 wd_959 wd_42 wd_74 wd_960 hy_X6_bestOf (Rc.obj 26 ga_M rfl) rfl (Nat.le_of_ble_eq_true rfl) dX6_finds_80 ?_
        refine r_put in_X6 tyX6_ok nmX6 26 ga_M rfl 7 (by decide) wd_770 rfl rfl pfI (Nat.le_of_ble_eq_true rfl) sa_M_two dX6_finds_83 ?_
        refine r_goto (tgt := 229) dX6_finds_86 (by decide) ?_
        have e9 := Option.some.inj hf
        subst e9
        exact (Wa.sub [] rfl kj6)
      · have hf := hf_neg c5 hf
        refine r_aload_n dX6_finds_62 0 rfl ?_
        refine r_get (v := .int M_way) in_X6 26 ga_M rfl 2 (by decide) wd_765 rfl rfl dX6_finds_63 ?_
        refine r_iconst (v := 3) dX6_finds_66 (by decide) ?_
        refine r_icmp_ne (tgt := 89) dX6_finds_67 (by decide) (fun c8 => ?_) (fun c8 => ?_)
        · have hf := hf_neg c8 hf
          refine r_aload_n dX6_finds_89 0 rfl ?_
          refine r_get (v := .int M_way) in_X6 26 ga_M rfl 2 (by decide) wd_765 rfl rfl dX6_finds_90 ?_
          refine r_iconst (v := 2) dX6_finds_93 (by decide) ?_
          refine r_icmp_ne (tgt := 199) dX6_finds_94 (by decide) (fun c9 => ?_) (fun c9 => ?_)
          · have hf := hf_neg c9 hf
            refine r_aload_n dX6_finds_199 0 rfl ?_
            refine r_get (v := .int M_way) in_X6 26 ga_M rfl 2 (by decide) wd_765 rfl rfl dX6_finds_200 ?_
            refine r_if_eq (tgt := 229) dX6_finds_203 (by decide) (fun c10 => ?_) (fun c10 => ?_)
            · have hf := hf_pos c10 hf
              have e9 := Option.some.inj hf
              subst e9
              exact (Wa.sub [] rfl kj6)
            · have hf := hf_neg c10 hf
              refine r_aload_n dX6_finds_206 0 rfl ?_
              refine r_aload_n dX6_finds_207 0 rfl ?_
              refine r_iconst (v := (-1)) dX6_finds_208 (by decide) ?_
              refine r_iconst (v := 4) dX6_finds_209 (by decide) ?_
              obtain ⟨q11, hq11, hf⟩ := hf_bind hf
              refine r_callVi (As := [.int (-1), .int 4]) (b := (eA E 26)) (st := [.ref (eA E 26)]) (s_X6_bestOf hq11) (by decide) (by decide) wd_957 wd_959 wd_42 wd_74 wd_960 hy_X6_bestOf (Rc.obj 26 ga_M rfl) rfl (Nat.le_of_ble_eq_true rfl) dX6_finds_210 ?_
              refine r_put in_X6 tyX6_ok nmX6 26 ga_M rfl 6 (by decide) wd_769 rfl rfl pfI (Nat.le_of_ble_eq_true rfl) sa_M_one dX6_finds_213 ?_
              refine r_aload_n dX6_finds_216 0 rfl ?_
              refine r_aload_n dX6_finds_217 0 rfl ?_
              refine r_aload_n dX6_finds_218 0 rfl ?_
              refine r_get (v := .int q11) in_X6 26 ga_M rfl 6 (by decide) wd_769 rfl rfl dX6_finds_219 ?_
              refine r_iconst (v := 4) dX6_finds_222 (by decide) ?_
              obtain ⟨q12, hq12, hf⟩ := hf_bind hf
              refine r_callVi (As := [.int q11, .int 4]) (b := (eA E 26)) (st := [.ref (eA E 26)]) (s_X6_bestOf hq12) (by decide) (by decide) wd_957 wd_959 wd_42 wd_74 wd_960 hy_X6_bestOf (Rc.obj 26 ga_M rfl) rfl (Nat.le_of_ble_eq_true rfl) dX6_finds_223 ?_
              refine r_put in_X6 tyX6_ok nmX6 26 ga_M rfl 7 (by decide) wd_770 rfl rfl pfI (Nat.le_of_ble_eq_true rfl) sa_M_two dX6_finds_226 ?_
              have e9 := Option.some.inj hf
              subst e9
              exact (Wa.sub [] rfl kj6)
          · have hf := hf_pos c9 hf
            refine r_iconst (v := 0) dX6_finds_97 (by decide) ?_
            refine r_istore_n (lv2 := [(1, .int 0), (0, .ref (eA E 26))]) dX6_finds_98 rfl (by decide) rfl ?_
            refine r_iconst (v := 0) dX6_finds_99 (by decide) ?_
            refine r_istore_n (lv2 := [(2, .int 0), (1, .int 0), (0, .ref (eA E 26))]) dX6_finds_100 rfl (by decide) rfl ?_
            obtain ⟨q25, hq25, hf⟩ := hf_bind hf
            refine (Wa.sub [2, 1, 0] rfl (w_X6_finds_101 _ _ _ _ _ _ hq25 ?_))
            refine r_goto (tgt := 229) dX6_finds_196 (by decide) ?_
            have e9 := Option.some.inj hf
            subst e9
            exact kj6
        · have hf := hf_pos c8 hf
          refine r_aload_n dX6_finds_70 0 rfl ?_
          refine r_aload_n dX6_finds_71 0 rfl ?_
          refine r_aload_n dX6_finds_72 0 rfl ?_
          refine r_get (v := .int q1) in_X6 26 ga_M rfl 6 (by decide) wd_769 rfl rfl dX6_finds_73 ?_
          refine r_aload_n dX6_finds_76 0 rfl ?_
          refine r_get (v := .int M_way) in_X6 26 ga_M rfl 2 (by decide) wd_765 rfl rfl dX6_finds_77 ?_
          obtain ⟨q26, hq26, hf⟩ := hf_bind hf
          refine r_callVi (As := [.int q1, .int M_way]) (b := (eA E 26)) (st := [.ref (eA E 26)]) (s_X6_bestOf hq26) (by decide) (by decide) wd_957 wd_959 wd_42 wd_74 wd_960 hy_X6_bestOf (Rc.obj 26 ga_M rfl) rfl (Nat.le_of_ble_eq_true rfl) dX6_finds_80 ?_
          refine r_put in_X6 tyX6_ok nmX6 26 ga_M rfl 7 (by decide) wd_770 rfl rfl pfI (Nat.le_of_ble_eq_true rfl) sa_M_two dX6_finds_83 ?_
          refine r_goto (tgt := 229) dX6_finds_86 (by decide) ?_
          have e9 := Option.some.inj hf
          subst e9
          exact (Wa.sub [] rfl kj6)
    · have hf := hf_pos c4 hf
      refine r_aload_n dX6_finds_47 0 rfl ?_
      refine r_iconst (v := (-1)) dX6_finds_48 (by decide) ?_
      refine r_put in_X6 tyX6_ok nmX6 26 ga_M rfl 7 (by decide) wd_770 rfl rfl pfI (Nat.le_of_ble_eq_true rfl) sa_M_two dX6_finds_49 ?_
      refine r_iconst (v := 1) dX6_finds_52 (by decide) ?_
      have e9 := Option.some.inj hf
      subst e9
      exact r_zret rfl (narB (Or.inr rfl)) dX6_finds_53
  · have hf := hf_pos c2 hf
    refine r_iconst (v := 0) dX6_finds_20 (by decide) ?_
    have e9 := Option.some.inj hf
    subst e9
    exact r_zret rfl (narB (Or.inl rfl)) dX6_finds_21
-- DuelSamplesModel.sizeOfPlay
def f_X6_sizeOfPlay (M_one : Int32) (M_two : Int32) (M_left : Nat → Int32)  : Option (Int32) := if M_two = (-1) then some 12 else if inB M_one 12 then if inB M_two 12 then if 12 < ((M_left (Int32.toNatClampNeg M_one)) + (M_left (Int32.toNatClampNeg M_two))) then some (24 - ((M_left (Int32.toNatClampNeg M_one)) + (M_left (Int32.toNatClampNeg M_two)))) else some ((M_left (Int32.toNatClampNeg M_one)) + (M_left (Int32.toNatClampNeg M_two))) else none else none
theorem hy_X6_sizeOfPlay : yX6_sizeOfPlay.cls ≠ "java/lang/invoke/MethodHandle" ∧ yX6_sizeOfPlay.cls ≠ "java/lang/invoke/VarHandle" ∧ (parseMethodDescriptor yX6_sizeOfPlay.desc).map (fun d => d.parameters.length) = some 0 := by decide +kernel
set_option maxHeartbeats 4000000 in
set_option maxRecDepth 100000 in
theorem s_X6_sizeOfPlay {E : EN} {hX : TX} {hR : TR} {hL : TC} {hT : TC} {hK : TK} {hS : TS} {hP : TP} {M_unitsNow : Int32} {M_way : Int32} {M_sample : Int32} {M_one : Int32} {M_two : Int32} {M_plays : Int32} {M_low : Int32} {M_high : Int32} {M_playsNow : Int32} {M_lowNow : Int32} {M_highNow : Int32} {M_textLong : Int32} {M_answerLong : Int32} {M_place : Int32} {M_units : Nat → Int32} {M_refused : Nat → Int32} {M_left : Nat → Int32} {M_played : Nat → Int32} {M_playedNow : Nat → Int32} {M_canBe : Nat → Int32} {M_text : Nat → Int32} {M_answered : Nat → Int32} {M_numbers : Nat → Int32}  {qR : Int32} (hf : f_X6_sizeOfPlay M_one M_two M_left = some qR) : Sem E yX6_sizeOfPlay cX6_sizeOfPlay 2 (some .int) 1 [.ref (eA E 26)] (hX, hR, hL, hT, hK, hS, hP, (M_unitsNow, M_way, M_sample, M_one, M_two, M_plays, M_low, M_high, M_playsNow, M_lowNow, M_highNow, M_textLong, M_answerLong, M_place, M_units, M_refused, M_left, M_played, M_playedNow, M_canBe, M_text, M_answered, M_numbers)) (some (.int qR), (hX, hR, hL, hT, hK, hS, hP, (M_unitsNow, M_way, M_sample, M_one, M_two, M_plays, M_low, M_high, M_playsNow, M_lowNow, M_highNow, M_textLong, M_answerLong, M_place, M_units, M_refused, M_left, M_played, M_playedNow, M_canBe, M_text, M_answered, M_numbers))) := by
  refine Sem.mk (lv := [(0, .ref (eA E 26))]) (by decide) (Nat.le_of_ble_eq_true rfl) rfl ?_
  rw [f_X6_sizeOfPlay] at hf
  refine r_aload_n dX6_sizeOfPlay_0 0 rfl ?_
  refine r_get (v := .int M_two) in_X6 26 ga_M rfl 7 (by decide) wd_770 rfl rfl dX6_sizeOfPlay_1 ?_
  refine r_iconst (v := (-1)) dX6_sizeOfPlay_4 (by decide) ?_
  refine r_icmp_ne (tgt := 11) dX6_sizeOfPlay_5 (by decide) (fun c1 => ?_) (fun c1 => ?_)
  · have hf := hf_neg c1 hf
    refine r_aload_n dX6_sizeOfPlay_11 0 rfl ?_
    refine r_get (v := .ref (eA E 29)) in_X6 26 ga_M rfl 5 (by decide) wd_768 rfl rfl dX6_sizeOfPlay_12 ?_
    refine r_aload_n dX6_sizeOfPlay_15 0 rfl ?_
    refine r_get (v := .int M_one) in_X6 26 ga_M rfl 6 (by decide) wd_769 rfl rfl dX6_sizeOfPlay_16 ?_
    obtain ⟨i2, hf⟩ := hf_in hf
    refine r_iald (f := M_left) 29 ga_M_left i2 dX6_sizeOfPlay_19 ?_
    refine r_aload_n dX6_sizeOfPlay_20 0 rfl ?_
    refine r_get (v := .ref (eA E 29)) in_X6 26 ga_M rfl 5 (by decide) wd_768 rfl rfl dX6_sizeOfPlay_21 ?_
    refine r_aload_n dX6_sizeOfPlay_24 0 rfl ?_
    refine r_get (v := .int M_two) in_X6 26 ga_M rfl 7 (by decide) wd_770 rfl rfl dX6_sizeOfPlay_25 ?_
    obtain ⟨i3, hf⟩ := hf_in hf
    refine r_iald (f := M_left) 29 ga_M_left i3 dX6_sizeOfPlay_28 ?_
    refine r_iadd dX6_sizeOfPlay_29 ?_
    refine r_istore_n (lv2 := [(1, .int ((M_left (Int32.toNatClampNeg M_one)) + (M_left (Int32.toNatClampNeg M_two)))), (0, .ref (eA E 26))]) dX6_sizeOfPlay_30 rfl (by decide) rfl ?_
    refine r_iload_n dX6_sizeOfPlay_31 0 rfl ?_
    refine r_bipush (v := 12) dX6_sizeOfPlay_32 (by decide) ?_
    refine r_icmp_gt (tgt := 41) dX6_sizeOfPlay_34 (by decide) (fun c4 => ?_) (fun c4 => ?_)
    · have hf := hf_pos c4 hf
      refine r_bipush (v := 24) dX6_sizeOfPlay_41 (by decide) ?_
      refine r_iload_n dX6_sizeOfPlay_43 0 rfl ?_
      refine r_isub dX6_sizeOfPlay_44 ?_
      have e9 := Option.some.inj hf
      subst e9
      exact r_iret rfl dX6_sizeOfPlay_45
    · have hf := hf_neg c4 hf
      refine r_iload_n dX6_sizeOfPlay_37 0 rfl ?_
      refine r_goto (tgt := 45) dX6_sizeOfPlay_38 (by decide) ?_
      have e9 := Option.some.inj hf
      subst e9
      exact r_iret rfl dX6_sizeOfPlay_45
  · have hf := hf_pos c1 hf
    refine r_bipush (v := 12) dX6_sizeOfPlay_8 (by decide) ?_
    have e9 := Option.some.inj hf
    subst e9
    exact r_iret rfl dX6_sizeOfPlay_10
-- DuelSamplesModel.chancesOfOne
def f_X6_chancesOfOne (M_one : Int32) (M_two : Int32) (M_left : Nat → Int32)  : Option (Int32) := if M_two = (-1) then if inB M_one 12 then some (M_left (Int32.toNatClampNeg M_one)) else none else if inB M_one 12 then if inB M_two 12 then if 12 < ((M_left (Int32.toNatClampNeg M_one)) + (M_left (Int32.toNatClampNeg M_two))) then if inB M_two 12 then some (12 - (M_left (Int32.toNatClampNeg M_two))) else none else if inB M_one 12 then some (M_left (Int32.toNatClampNeg M_one)) else none else none else none
theorem hy_X6_chancesOfOne : yX6_chancesOfOne.cls ≠ "java/lang/invoke/MethodHandle" ∧ yX6_chancesOfOne.cls ≠ "java/lang/invoke/VarHandle" ∧ (parseMethodDescriptor yX6_chancesOfOne.desc).map (fun d => d.parameters.length) = some 0 := by decide +kernel
set_option maxHeartbeats 4000000 in
set_option maxRecDepth 100000 in
theorem s_X6_chancesOfOne {E : EN} {hX : TX} {hR : TR} {hL : TC} {hT : TC} {hK : TK} {hS : TS} {hP : TP} {M_unitsNow : Int32} {M_way : Int32} {M_sample : Int32} {M_one : Int32} {M_two : Int32} {M_plays : Int32} {M_low : Int32} {M_high : Int32} {M_playsNow : Int32} {M_lowNow : Int32} {M_highNow : Int32} {M_textLong : Int32} {M_answerLong : Int32} {M_place : Int32} {M_units : Nat → Int32} {M_refused : Nat → Int32} {M_left : Nat → Int32} {M_played : Nat → Int32} {M_playedNow : Nat → Int32} {M_canBe : Nat → Int32} {M_text : Nat → Int32} {M_answered : Nat → Int32} {M_numbers : Nat → Int32}  {qR : Int32} (hf : f_X6_chancesOfOne M_one M_two M_left = some qR) : Sem E yX6_chancesOfOne cX6_chancesOfOne 1 (some .int) 1 [.ref (eA E 26)] (hX, hR, hL, hT, hK, hS, hP, (M_unitsNow, M_way, M_sample, M_one, M_two, M_plays, M_low, M_high, M_playsNow, M_lowNow, M_highNow, M_textLong, M_answerLong, M_place, M_units, M_refused, M_left, M_played, M_playedNow, M_canBe, M_text, M_answered, M_numbers)) (some (.int qR), (hX, hR, hL, hT, hK, hS, hP, (M_unitsNow, M_way, M_sample, M_one, M_two, M_plays, M_low, M_high, M_playsNow, M_lowNow, M_highNow, M_textLong, M_answerLong, M_place, M_units, M_refused, M_left, M_played, M_playedNow, M_canBe, M_text, M_answered, M_numbers))) := by
  refine Sem.mk (lv := [(0, .ref (eA E 26))]) (by decide) (Nat.le_of_ble_eq_true rfl) rfl ?_
  rw [f_X6_chancesOfOne] at hf
  refine r_aload_n dX6_chancesOfOne_0 0 rfl ?_
  refine r_get (v := .int M_two) in_X6 26 ga_M rfl 7 (by decide) wd_770 rfl rfl dX6_chancesOfOne_1 ?_
  refine r_iconst (v := (-1)) dX6_chancesOfOne_4 (by decide) ?_
  refine r_icmp_ne (tgt := 18) dX6_chancesOfOne_5 (by decide) (fun c1 => ?_) (fun c1 => ?_)
  · have hf := hf_neg c1 hf
    refine r_aload_n dX6_chancesOfOne_18 0 rfl ?_
    refine r_get (v := .ref (eA E 29)) in_X6 26 ga_M rfl 5 (by decide) wd_768 rfl rfl dX6_chancesOfOne_19 ?_
    refine r_aload_n dX6_chancesOfOne_22 0 rfl ?_
    refine r_get (v := .int M_one) in_X6 26 ga_M rfl 6 (by decide) wd_769 rfl rfl dX6_chancesOfOne_23 ?_
    obtain ⟨i2, hf⟩ := hf_in hf
    refine r_iald (f := M_left) 29 ga_M_left i2 dX6_chancesOfOne_26 ?_
    refine r_aload_n dX6_chancesOfOne_27 0 rfl ?_
    refine r_get (v := .ref (eA E 29)) in_X6 26 ga_M rfl 5 (by decide) wd_768 rfl rfl dX6_chancesOfOne_28 ?_
    refine r_aload_n dX6_chancesOfOne_31 0 rfl ?_
    refine r_get (v := .int M_two) in_X6 26 ga_M rfl 7 (by decide) wd_770 rfl rfl dX6_chancesOfOne_32 ?_
    obtain ⟨i3, hf⟩ := hf_in hf
    refine r_iald (f := M_left) 29 ga_M_left i3 dX6_chancesOfOne_35 ?_
    refine r_iadd dX6_chancesOfOne_36 ?_
    refine r_bipush (v := 12) dX6_chancesOfOne_37 (by decide) ?_
    refine r_icmp_gt (tgt := 54) dX6_chancesOfOne_39 (by decide) (fun c4 => ?_) (fun c4 => ?_)
    · have hf := hf_pos c4 hf
      refine r_bipush (v := 12) dX6_chancesOfOne_54 (by decide) ?_
      refine r_aload_n dX6_chancesOfOne_56 0 rfl ?_
      refine r_get (v := .ref (eA E 29)) in_X6 26 ga_M rfl 5 (by decide) wd_768 rfl rfl dX6_chancesOfOne_57 ?_
      refine r_aload_n dX6_chancesOfOne_60 0 rfl ?_
      refine r_get (v := .int M_two) in_X6 26 ga_M rfl 7 (by decide) wd_770 rfl rfl dX6_chancesOfOne_61 ?_
      obtain ⟨i5, hf⟩ := hf_in hf
      refine r_iald (f := M_left) 29 ga_M_left i5 dX6_chancesOfOne_64 ?_
      refine r_isub dX6_chancesOfOne_65 ?_
      have e9 := Option.some.inj hf
      subst e9
      exact r_iret rfl dX6_chancesOfOne_66
    · have hf := hf_neg c4 hf
      refine r_aload_n dX6_chancesOfOne_42 0 rfl ?_
      refine r_get (v := .ref (eA E 29)) in_X6 26 ga_M rfl 5 (by decide) wd_768 rfl rfl dX6_chancesOfOne_43 ?_
      refine r_aload_n dX6_chancesOfOne_46 0 rfl ?_
      refine r_get (v := .int M_one) in_X6 26 ga_M rfl 6 (by decide) wd_769 rfl rfl dX6_chancesOfOne_47 ?_
      obtain ⟨i6, hf⟩ := hf_in hf
      refine r_iald (f := M_left) 29 ga_M_left i6 dX6_chancesOfOne_50 ?_
      refine r_goto (tgt := 66) dX6_chancesOfOne_51 (by decide) ?_
      have e9 := Option.some.inj hf
      subst e9
      exact r_iret rfl dX6_chancesOfOne_66
  · have hf := hf_pos c1 hf
    refine r_aload_n dX6_chancesOfOne_8 0 rfl ?_
    refine r_get (v := .ref (eA E 29)) in_X6 26 ga_M rfl 5 (by decide) wd_768 rfl rfl dX6_chancesOfOne_9 ?_
    refine r_aload_n dX6_chancesOfOne_12 0 rfl ?_
    refine r_get (v := .int M_one) in_X6 26 ga_M rfl 6 (by decide) wd_769 rfl rfl dX6_chancesOfOne_13 ?_
    obtain ⟨i7, hf⟩ := hf_in hf
    refine r_iald (f := M_left) 29 ga_M_left i7 dX6_chancesOfOne_16 ?_
    have e9 := Option.some.inj hf
    subst e9
    exact r_iret rfl dX6_chancesOfOne_17
-- DuelSamplesModel.gets
def f_X6_gets (M_one : Int32) (M_two : Int32) (M_left : Nat → Int32) (a0 : Int32) : Option ((Nat → Int32)) := if M_two = (-1) then Option.bind (if a0 = 0 then some 0 else some 12) (fun (q13 : Int32) => if inB M_one 12 then some (upd M_left (Int32.toNatClampNeg M_one) q13) else none) else if inB M_one 12 then if inB M_two 12 then Option.bind (if 12 < ((M_left (Int32.toNatClampNeg M_one)) + (M_left (Int32.toNatClampNeg M_two))) then some 12 else some ((M_left (Int32.toNatClampNeg M_one)) + (M_left (Int32.toNatClampNeg M_two)))) (fun (q5 : Int32) => Option.bind (if a0 = 0 then some (((M_left (Int32.toNatClampNeg M_one)) + (M_left (Int32.toNatClampNeg M_two))) - q5) else some q5) (fun (q7 : Int32) => if inB M_one 12 then Option.bind (if a0 = 0 then some q5 else some (((M_left (Int32.toNatClampNeg M_one)) + (M_left (Int32.toNatClampNeg M_two))) - q5)) (fun (q10 : Int32) => if inB M_two 12 then some (upd (upd M_left (Int32.toNatClampNeg M_one) q7) (Int32.toNatClampNeg M_two) q10) else none) else none)) else none else none
theorem hy_X6_gets : yX6_gets.cls ≠ "java/lang/invoke/MethodHandle" ∧ yX6_gets.cls ≠ "java/lang/invoke/VarHandle" ∧ (parseMethodDescriptor yX6_gets.desc).map (fun d => d.parameters.length) = some 1 := by decide +kernel
set_option maxHeartbeats 4000000 in
set_option maxRecDepth 100000 in
theorem s_X6_gets {E : EN} {hX : TX} {hR : TR} {hL : TC} {hT : TC} {hK : TK} {hS : TS} {hP : TP} {M_unitsNow : Int32} {M_way : Int32} {M_sample : Int32} {M_one : Int32} {M_two : Int32} {M_plays : Int32} {M_low : Int32} {M_high : Int32} {M_playsNow : Int32} {M_lowNow : Int32} {M_highNow : Int32} {M_textLong : Int32} {M_answerLong : Int32} {M_place : Int32} {M_units : Nat → Int32} {M_refused : Nat → Int32} {M_left : Nat → Int32} {M_played : Nat → Int32} {M_playedNow : Nat → Int32} {M_canBe : Nat → Int32} {M_text : Nat → Int32} {M_answered : Nat → Int32} {M_numbers : Nat → Int32} {a0 : Int32} {qR : (Nat → Int32)} (hf : f_X6_gets M_one M_two M_left a0 = some qR) : Sem E yX6_gets cX6_gets 4 none 1 [.ref (eA E 26), .int a0] (hX, hR, hL, hT, hK, hS, hP, (M_unitsNow, M_way, M_sample, M_one, M_two, M_plays, M_low, M_high, M_playsNow, M_lowNow, M_highNow, M_textLong, M_answerLong, M_place, M_units, M_refused, M_left, M_played, M_playedNow, M_canBe, M_text, M_answered, M_numbers)) (none, (hX, hR, hL, hT, hK, hS, hP, (M_unitsNow, M_way, M_sample, M_one, M_two, M_plays, M_low, M_high, M_playsNow, M_lowNow, M_highNow, M_textLong, M_answerLong, M_place, M_units, M_refused, qR, M_played, M_playedNow, M_canBe, M_text, M_answered, M_numbers))) := by
  refine Sem.mk (lv := [(0, .ref (eA E 26)), (1, .int a0)]) (by decide) (Nat.le_of_ble_eq_true rfl) rfl ?_
  rw [f_X6_gets] at hf
  refine r_aload_n dX6_gets_0 0 rfl ?_
  refine r_get (v := .int M_two) in_X6 26 ga_M rfl 7 (by decide) wd_770 rfl rfl dX6_gets_1 ?_
  refine r_iconst (v := (-1)) dX6_gets_4 (by decide) ?_
  refine r_icmp_ne (tgt := 28) dX6_gets_5 (by decide) (fun c1 => ?_) (fun c1 => ?_)
  · have hf := hf_neg c1 hf
    refine r_aload_n dX6_gets_28 0 rfl ?_
    refine r_get (v := .ref (eA E 29)) in_X6 26 ga_M rfl 5 (by decide) wd_768 rfl rfl dX6_gets_29 ?_
    refine r_aload_n dX6_gets_32 0 rfl ?_
    refine r_get (v := .int M_one) in_X6 26 ga_M rfl 6 (by decide) wd_769 rfl rfl dX6_gets_33 ?_
    obtain ⟨i2, hf⟩ := hf_in hf
    refine r_iald (f := M_left) 29 ga_M_left i2 dX6_gets_36 ?_
    refine r_aload_n dX6_gets_37 0 rfl ?_
    refine r_get (v := .ref (eA E 29)) in_X6 26 ga_M rfl 5 (by decide) wd_768 rfl rfl dX6_gets_38 ?_
    refine r_aload_n dX6_gets_41 0 rfl ?_
    refine r_get (v := .int M_two) in_X6 26 ga_M rfl 7 (by decide) wd_770 rfl rfl dX6_gets_42 ?_
    obtain ⟨i3, hf⟩ := hf_in hf
    refine r_iald (f := M_left) 29 ga_M_left i3 dX6_gets_45 ?_
    refine r_iadd dX6_gets_46 ?_
    refine r_istore_n (lv2 := [(2, .int ((M_left (Int32.toNatClampNeg M_one)) + (M_left (Int32.toNatClampNeg M_two)))), (0, .ref (eA E 26)), (1, .int a0)]) dX6_gets_47 rfl (by decide) rfl ?_
    refine r_iload_n dX6_gets_48 0 rfl ?_
    refine r_bipush (v := 12) dX6_gets_49 (by decide) ?_
    obtain ⟨q5, hq5, hf⟩ := hf_bind hf
    have kj5 : Wa E yX6_gets cX6_gets 4 none 1 (none, (hX, hR, hL, hT, hK, hS, hP, (M_unitsNow, M_way, M_sample, M_one, M_two, M_plays, M_low, M_high, M_playsNow, M_lowNow, M_highNow, M_textLong, M_answerLong, M_place, M_units, M_refused, qR, M_played, M_playedNow, M_canBe, M_text, M_answered, M_numbers))) 60 [(0, .ref (eA E 26)), (1, .int a0), (2, .int ((M_left (Int32.toNatClampNeg M_one)) + (M_left (Int32.toNatClampNeg M_two))))] [.int q5] (hX, hR, hL, hT, hK, hS, hP, (M_unitsNow, M_way, M_sample, M_one, M_two, M_plays, M_low, M_high, M_playsNow, M_lowNow, M_highNow, M_textLong, M_answerLong, M_place, M_units, M_refused, M_left, M_played, M_playedNow, M_canBe, M_text, M_answered, M_numbers)) := by
      refine r_istore_n (lv2 := [(3, .int q5), (0, .ref (eA E 26)), (1, .int a0), (2, .int ((M_left (Int32.toNatClampNeg M_one)) + (M_left (Int32.toNatClampNeg M_two))))]) dX6_gets_60 rfl (by decide) rfl ?_
      refine r_aload_n dX6_gets_61 1 rfl ?_
      refine r_get (v := .ref (eA E 29)) in_X6 26 ga_M rfl 5 (by decide) wd_768 rfl rfl dX6_gets_62 ?_
      refine r_aload_n dX6_gets_65 1 rfl ?_
      refine r_get (v := .int M_one) in_X6 26 ga_M rfl 6 (by decide) wd_769 rfl rfl dX6_gets_66 ?_
      refine r_iload_n dX6_gets_69 2 rfl ?_
      obtain ⟨q7, hq7, hf⟩ := hf_bind hf
      have kj7 : Wa E yX6_gets cX6_gets 4 none 1 (none, (hX, hR, hL, hT, hK, hS, hP, (M_unitsNow, M_way, M_sample, M_one, M_two, M_plays, M_low, M_high, M_playsNow, M_lowNow, M_highNow, M_textLong, M_answerLong, M_place, M_units, M_refused, qR, M_played, M_playedNow, M_canBe, M_text, M_answered, M_numbers))) 80 [(0, .ref (eA E 26)), (1, .int a0), (2, .int ((M_left (Int32.toNatClampNeg M_one)) + (M_left (Int32.toNatClampNeg M_two)))), (3, .int q5)] [.int q7, .int M_one, .ref (eA E 29)] (hX, hR, hL, hT, hK, hS, hP, (M_unitsNow, M_way, M_sample, M_one, M_two, M_plays, M_low, M_high, M_playsNow, M_lowNow, M_highNow, M_textLong, M_answerLong, M_place, M_units, M_refused, M_left, M_played, M_playedNow, M_canBe, M_text, M_answered, M_numbers)) := by
        obtain ⟨i8, hf⟩ := hf_in hf
        refine r_iast 29 ga_M_left sa_M_left i8 dX6_gets_80 ?_
        refine r_aload_n dX6_gets_81 0 rfl ?_
        refine r_get (v := .ref (eA E 29)) in_X6 26 ga_M rfl 5 (by decide) wd_768 rfl rfl dX6_gets_82 ?_
        refine r_aload_n dX6_gets_85 0 rfl ?_
        refine r_get (v := .int M_two) in_X6 26 ga_M rfl 7 (by decide) wd_770 rfl rfl dX6_gets_86 ?_
        refine r_iload_n dX6_gets_89 1 rfl ?_
        obtain ⟨q10, hq10, hf⟩ := hf_bind hf
        have kj10 : Wa E yX6_gets cX6_gets 4 none 1 (none, (hX, hR, hL, hT, hK, hS, hP, (M_unitsNow, M_way, M_sample, M_one, M_two, M_plays, M_low, M_high, M_playsNow, M_lowNow, M_highNow, M_textLong, M_answerLong, M_place, M_units, M_refused, qR, M_played, M_playedNow, M_canBe, M_text, M_answered, M_numbers))) 100 [] [.int q10, .int M_two, .ref (eA E 29)] (hX, hR, hL, hT, hK, hS, hP, (M_unitsNow, M_way, M_sample, M_one, M_two, M_plays, M_low, M_high, M_playsNow, M_lowNow, M_highNow, M_textLong, M_answerLong, M_place, M_units, M_refused, (upd M_left (Int32.toNatClampNeg M_one) q7), M_played, M_playedNow, M_canBe, M_text, M_answered, M_numbers)) := by
          obtain ⟨i11, hf⟩ := hf_in hf
          refine r_iast 29 ga_M_left sa_M_left i11 dX6_gets_100 ?_
          have e9 := Option.some.inj hf
          subst e9
          exact r_vret rfl dX6_gets_101
        have hf := hq10
        refine r_if_eq (tgt := 99) dX6_gets_90 (by decide) (fun c9 => ?_) (fun c9 => ?_)
        · have hf := hf_pos c9 hf
          refine r_iload_n dX6_gets_99 3 rfl ?_
          have e9 := Option.some.inj hf
          subst e9
          exact (Wa.sub [] rfl kj10)
        · have hf := hf_neg c9 hf
          refine r_iload_n dX6_gets_93 2 rfl ?_
          refine r_iload_n dX6_gets_94 3 rfl ?_
          refine r_isub dX6_gets_95 ?_
          refine r_goto (tgt := 100) dX6_gets_96 (by decide) ?_
          have e9 := Option.some.inj hf
          subst e9
          exact (Wa.sub [] rfl kj10)
      have hf := hq7
      refine r_if_eq (tgt := 77) dX6_gets_70 (by decide) (fun c6 => ?_) (fun c6 => ?_)
      · have hf := hf_pos c6 hf
        refine r_iload_n dX6_gets_77 3 rfl ?_
        refine r_iload_n dX6_gets_78 0 rfl ?_
        refine r_isub dX6_gets_79 ?_
        have e9 := Option.some.inj hf
        subst e9
        exact (Wa.sub [1, 2, 3, 0] rfl kj7)
      · have hf := hf_neg c6 hf
        refine r_iload_n dX6_gets_73 0 rfl ?_
        refine r_goto (tgt := 80) dX6_gets_74 (by decide) ?_
        have e9 := Option.some.inj hf
        subst e9
        exact (Wa.sub [1, 2, 3, 0] rfl kj7)
    have hf := hq5
    refine r_icmp_gt (tgt := 58) dX6_gets_51 (by decide) (fun c4 => ?_) (fun c4 => ?_)
    · have hf := hf_pos c4 hf
      refine r_bipush (v := 12) dX6_gets_58 (by decide) ?_
      have e9 := Option.some.inj hf
      subst e9
      exact (Wa.sub [1, 2, 0] rfl kj5)
    · have hf := hf_neg c4 hf
      refine r_iload_n dX6_gets_54 0 rfl ?_
      refine r_goto (tgt := 60) dX6_gets_55 (by decide) ?_
      have e9 := Option.some.inj hf
      subst e9
      exact (Wa.sub [1, 2, 0] rfl kj5)
  · have hf := hf_pos c1 hf
    refine r_aload_n dX6_gets_8 0 rfl ?_
    refine r_get (v := .ref (eA E 29)) in_X6 26 ga_M rfl 5 (by decide) wd_768 rfl rfl dX6_gets_9 ?_
    refine r_aload_n dX6_gets_12 0 rfl ?_
    refine r_get (v := .int M_one) in_X6 26 ga_M rfl 6 (by decide) wd_769 rfl rfl dX6_gets_13 ?_
    refine r_iload_n dX6_gets_16 1 rfl ?_
    obtain ⟨q13, hq13, hf⟩ := hf_bind hf
    have kj13 : Wa E yX6_gets cX6_gets 4 none 1 (none, (hX, hR, hL, hT, hK, hS, hP, (M_unitsNow, M_way, M_sample, M_one, M_two, M_plays, M_low, M_high, M_playsNow, M_lowNow, M_highNow, M_textLong, M_answerLong, M_place, M_units, M_refused, qR, M_played, M_playedNow, M_canBe, M_text, M_answered, M_numbers))) 26 [] [.int q13, .int M_one, .ref (eA E 29)] (hX, hR, hL, hT, hK, hS, hP, (M_unitsNow, M_way, M_sample, M_one, M_two, M_plays, M_low, M_high, M_playsNow, M_lowNow, M_highNow, M_textLong, M_answerLong, M_place, M_units, M_refused, M_left, M_played, M_playedNow, M_canBe, M_text, M_answered, M_numbers)) := by
      obtain ⟨i14, hf⟩ := hf_in hf
      refine r_iast 29 ga_M_left sa_M_left i14 dX6_gets_26 ?_
      have e9 := Option.some.inj hf
      subst e9
      exact r_vret rfl dX6_gets_27
    have hf := hq13
    refine r_if_eq (tgt := 25) dX6_gets_17 (by decide) (fun c12 => ?_) (fun c12 => ?_)
    · have hf := hf_pos c12 hf
      refine r_iconst (v := 0) dX6_gets_25 (by decide) ?_
      have e9 := Option.some.inj hf
      subst e9
      exact (Wa.sub [] rfl kj13)
    · have hf := hf_neg c12 hf
      refine r_bipush (v := 12) dX6_gets_20 (by decide) ?_
      refine r_goto (tgt := 26) dX6_gets_22 (by decide) ?_
      have e9 := Option.some.inj hf
      subst e9
      exact (Wa.sub [] rfl kj13)
-- DuelSamplesModel.sampleNow
def lp_X6_sampleNow_4 (M_unitsNow : Int32) (M_left : Nat → Int32) : Nat → Int32 → Int32 → Option (Int32)
  | 0, _, _ => none
  | n9 + 1, v1_4, v2_4 => if M_unitsNow ≤ v2_4 then some v1_4 else if inB v2_4 12 then Option.bind (if (M_left (Int32.toNatClampNeg v2_4)) = 12 then some (1 <<< (v2_4 &&& 31)) else some 0) (fun (q4 : Int32) => lp_X6_sampleNow_4 M_unitsNow M_left n9 (v1_4 ||| q4) (v2_4 + 1)) else none
def f_X6_sampleNow (M_unitsNow : Int32) (M_left : Nat → Int32)  : Option (Int32) := Option.bind (lp_X6_sampleNow_4 M_unitsNow M_left FU 0 0) (fun (q5 : Int32) => some q5)
theorem hy_X6_sampleNow : yX6_sampleNow.cls ≠ "java/lang/invoke/MethodHandle" ∧ yX6_sampleNow.cls ≠ "java/lang/invoke/VarHandle" ∧ (parseMethodDescriptor yX6_sampleNow.desc).map (fun d => d.parameters.length) = some 0 := by decide +kernel
set_option maxHeartbeats 4000000 in
set_option maxRecDepth 100000 in
theorem w_X6_sampleNow_4 {E : EN} {res : Option Value × Hp} {hX : TX} {hR : TR} {hL : TC} {hT : TC} {hK : TK} {hS : TS} {hP : TP} {M_unitsNow : Int32} {M_way : Int32} {M_sample : Int32} {M_one : Int32} {M_two : Int32} {M_plays : Int32} {M_low : Int32} {M_high : Int32} {M_playsNow : Int32} {M_lowNow : Int32} {M_highNow : Int32} {M_textLong : Int32} {M_answerLong : Int32} {M_place : Int32} {M_units : Nat → Int32} {M_refused : Nat → Int32} {M_left : Nat → Int32} {M_played : Nat → Int32} {M_playedNow : Nat → Int32} {M_canBe : Nat → Int32} {M_text : Nat → Int32} {M_answered : Nat → Int32} {M_numbers : Nat → Int32} : ∀ (n9 : Nat) (v1_4 : Int32) (v2_4 : Int32) (qL : Int32), lp_X6_sampleNow_4 M_unitsNow M_left n9 v1_4 v2_4 = some qL → (Wa E yX6_sampleNow cX6_sampleNow 3 (some .int) 1 res 39 [(1, .int qL)] [] (hX, hR, hL, hT, hK, hS, hP, (M_unitsNow, M_way, M_sample, M_one, M_two, M_plays, M_low, M_high, M_playsNow, M_lowNow, M_highNow, M_textLong, M_answerLong, M_place, M_units, M_refused, M_left, M_played, M_playedNow, M_canBe, M_text, M_answered, M_numbers))) → Wa E yX6_sampleNow cX6_sampleNow 3 (some .int) 1 res 4 [(0, .ref (eA E 26)), (1, .int v1_4), (2, .int v2_4)] [] (hX, hR, hL, hT, hK, hS, hP, (M_unitsNow, M_way, M_sample, M_one, M_two, M_plays, M_low, M_high, M_playsNow, M_lowNow, M_highNow, M_textLong, M_answerLong, M_place, M_units, M_refused, M_left, M_played, M_playedNow, M_canBe, M_text, M_answered, M_numbers)) := by
  intro n9
  induction n9 with
  | zero =>
    intro v1_4 v2_4 qL hf
    exact nomatch (show (none : Option (Int32)) = some qL from hf)
  | succ n9 ih =>
    intro v1_4 v2_4 qL hf kx0
    rw [lp_X6_sampleNow_4] at hf
    refine r_iload_n dX6_sampleNow_4 2 rfl ?_
    refine r_aload_n dX6_sampleNow_5 0 rfl ?_
    refine r_get (v := .int M_unitsNow) in_X6 26 ga_M rfl 1 (by decide) wd_764 rfl rfl dX6_sampleNow_6 ?_
    refine r_icmp_ge (tgt := 39) dX6_sampleNow_9 (by decide) (fun c1 => ?_) (fun c1 => ?_)
    · have hf := hf_pos c1 hf
      have e9 := Option.some.inj hf
      subst e9
      exact (Wa.sub [1] rfl kx0)
    · have hf := hf_neg c1 hf
      refine r_iload_n dX6_sampleNow_12 1 rfl ?_
      refine r_aload_n dX6_sampleNow_13 0 rfl ?_
      refine r_get (v := .ref (eA E 29)) in_X6 26 ga_M rfl 5 (by decide) wd_768 rfl rfl dX6_sampleNow_14 ?_
      refine r_iload_n dX6_sampleNow_17 2 rfl ?_
      obtain ⟨i2, hf⟩ := hf_in hf
      refine r_iald (f := M_left) 29 ga_M_left i2 dX6_sampleNow_18 ?_
      refine r_bipush (v := 12) dX6_sampleNow_19 (by decide) ?_
      obtain ⟨q4, hq4, hf⟩ := hf_bind hf
      have kj4 : Wa E yX6_sampleNow cX6_sampleNow 3 (some .int) 1 res 31 [(0, .ref (eA E 26)), (2, .int v2_4)] [.int q4, .int v1_4] (hX, hR, hL, hT, hK, hS, hP, (M_unitsNow, M_way, M_sample, M_one, M_two, M_plays, M_low, M_high, M_playsNow, M_lowNow, M_highNow, M_textLong, M_answerLong, M_place, M_units, M_refused, M_left, M_played, M_playedNow, M_canBe, M_text, M_answered, M_numbers)) := by
        refine r_ior dX6_sampleNow_31 ?_
        refine r_istore_n (lv2 := [(1, .int (v1_4 ||| q4)), (0, .ref (eA E 26)), (2, .int v2_4)]) dX6_sampleNow_32 rfl (by decide) rfl ?_
        refine r_iinc (v := (v2_4 + 1)) (lv2 := [(2, .int (v2_4 + 1)), (1, .int (v1_4 ||| q4)), (0, .ref (eA E 26))]) dX6_sampleNow_33 2 rfl rfl (by decide) rfl ?_
        refine r_goto (tgt := 4) dX6_sampleNow_36 (by decide) ?_
        exact (Wa.sub [2, 1, 0] rfl (ih _ _ _ hf kx0))
      have hf := hq4
      refine r_icmp_ne (tgt := 30) dX6_sampleNow_21 (by decide) (fun c3 => ?_) (fun c3 => ?_)
      · have hf := hf_neg c3 hf
        refine r_iconst (v := 0) dX6_sampleNow_30 (by decide) ?_
        have e9 := Option.some.inj hf
        subst e9
        exact (Wa.sub [0, 2] rfl kj4)
      · have hf := hf_pos c3 hf
        refine r_iconst (v := 1) dX6_sampleNow_24 (by decide) ?_
        refine r_iload_n dX6_sampleNow_25 2 rfl ?_
        refine r_ishl dX6_sampleNow_26 ?_
        refine r_goto (tgt := 31) dX6_sampleNow_27 (by decide) ?_
        have e9 := Option.some.inj hf
        subst e9
        exact (Wa.sub [0, 2] rfl kj4)
set_option maxHeartbeats 4000000 in
set_option maxRecDepth 100000 in
theorem s_X6_sampleNow {E : EN} {hX : TX} {hR : TR} {hL : TC} {hT : TC} {hK : TK} {hS : TS} {hP : TP} {M_unitsNow : Int32} {M_way : Int32} {M_sample : Int32} {M_one : Int32} {M_two : Int32} {M_plays : Int32} {M_low : Int32} {M_high : Int32} {M_playsNow : Int32} {M_lowNow : Int32} {M_highNow : Int32} {M_textLong : Int32} {M_answerLong : Int32} {M_place : Int32} {M_units : Nat → Int32} {M_refused : Nat → Int32} {M_left : Nat → Int32} {M_played : Nat → Int32} {M_playedNow : Nat → Int32} {M_canBe : Nat → Int32} {M_text : Nat → Int32} {M_answered : Nat → Int32} {M_numbers : Nat → Int32}  {qR : Int32} (hf : f_X6_sampleNow M_unitsNow M_left = some qR) : Sem E yX6_sampleNow cX6_sampleNow 3 (some .int) 1 [.ref (eA E 26)] (hX, hR, hL, hT, hK, hS, hP, (M_unitsNow, M_way, M_sample, M_one, M_two, M_plays, M_low, M_high, M_playsNow, M_lowNow, M_highNow, M_textLong, M_answerLong, M_place, M_units, M_refused, M_left, M_played, M_playedNow, M_canBe, M_text, M_answered, M_numbers)) (some (.int qR), (hX, hR, hL, hT, hK, hS, hP, (M_unitsNow, M_way, M_sample, M_one, M_two, M_plays, M_low, M_high, M_playsNow, M_lowNow, M_highNow, M_textLong, M_answerLong, M_place, M_units, M_refused, M_left, M_played, M_playedNow, M_canBe, M_text, M_answered, M_numbers))) := by
  refine Sem.mk (lv := [(0, .ref (eA E 26))]) (by decide) (Nat.le_of_ble_eq_true rfl) rfl ?_
  rw [f_X6_sampleNow] at hf
  refine r_iconst (v := 0) dX6_sampleNow_0 (by decide) ?_
  refine r_istore_n (lv2 := [(1, .int 0), (0, .ref (eA E 26))]) dX6_sampleNow_1 rfl (by decide) rfl ?_
  refine r_iconst (v := 0) dX6_sampleNow_2 (by decide) ?_
  refine r_istore_n (lv2 := [(2, .int 0), (1, .int 0), (0, .ref (eA E 26))]) dX6_sampleNow_3 rfl (by decide) rfl ?_
  obtain ⟨q5, hq5, hf⟩ := hf_bind hf
  refine (Wa.sub [2, 1, 0] rfl (w_X6_sampleNow_4 _ _ _ _ hq5 ?_))
  refine r_iload_n dX6_sampleNow_39 0 rfl ?_
  have e9 := Option.some.inj hf
  subst e9
  exact r_iret rfl dX6_sampleNow_40
-- DuelSamplesModel.walked
def lp_X6_walked_22 (M_unitsNow : Int32) (M_way : Int32) (M_units : Nat → Int32) : Nat → Int64 → Int32 → Int32 → Int32 → Int32 → Int32 → (Nat → Int32) → (Nat → Int32) → Option (Int32 × Int32 × Int32 × Int32 × Int32 × (Nat → Int32) × (Nat → Int32))
  | 0, _, _, _, _, _, _, _, _ => none
  | n9 + 1, v2_22, M_one_22, M_two_22, M_playsNow_22, M_lowNow_22, M_highNow_22, M_left_22, M_playedNow_22 => Option.bind (f_X6_finds M_unitsNow M_way M_two_22 M_units M_left_22) (fun (q2 : Int32 × Int32 × Int32) => if q2.1 = 0 then some (q2.2.1, q2.2.2, M_playsNow_22, M_lowNow_22, M_highNow_22, M_left_22, M_playedNow_22) else Option.bind (f_X6_next v2_22) (fun (q4 : Int64) => Option.bind (f_X6_sizeOfPlay q2.2.1 q2.2.2 M_left_22) (fun (q5 : Int32) => if (Int32.toInt64 q5) = 0 then none else Option.bind (f_X6_chancesOfOne q2.2.1 q2.2.2 M_left_22) (fun (q7 : Int32) => Option.bind (if q7 ≤ (Int64.toInt32 ((q4 / 65536) - (q4 / 65536) / (Int32.toInt64 q5) * (Int32.toInt64 q5))) then some 0 else some 1) (fun (q9 : Int32) => Option.bind (if q2.2.2 = (-1) then some 0 else if inB q2.2.1 12 then if inB q2.2.2 12 then if 12 < ((M_left_22 (Int32.toNatClampNeg q2.2.1)) + (M_left_22 (Int32.toNatClampNeg q2.2.2))) then some 0 else some 1 else none else none) (fun (q11 : Int32) => if inB (3 * M_playsNow_22) 36 then if inB ((3 * M_playsNow_22) + 1) 36 then Option.bind (if q9 = 0 then some q2.2.2 else some q2.2.1) (fun (q18 : Int32) => if inB ((3 * M_playsNow_22) + 2) 36 then Option.bind (if q11 = 0 then some 0 else some 1) (fun (q21 : Int32) => Option.bind (if q2.2.2 = (-1) then some 0 else if q11 = 0 then some 1 else some 0) (fun (q23 : Int32) => Option.bind (f_X6_gets q2.2.1 q2.2.2 M_left_22 q9) (fun (q25 : (Nat → Int32)) => lp_X6_walked_22 M_unitsNow M_way M_units n9 q4 q2.2.1 q2.2.2 (M_playsNow_22 + 1) (M_lowNow_22 + q21) (M_highNow_22 + q23) q25 (upd (upd (upd M_playedNow_22 (Int32.toNatClampNeg (3 * M_playsNow_22)) q2.2.1) (Int32.toNatClampNeg ((3 * M_playsNow_22) + 1)) q2.2.2) (Int32.toNatClampNeg ((3 * M_playsNow_22) + 2)) q18)))) else none) else none else none))))))
def f_X6_walked (M_unitsNow : Int32) (M_way : Int32) (M_one : Int32) (M_two : Int32) (M_units : Nat → Int32) (M_left : Nat → Int32) (M_playedNow : Nat → Int32) (a0 : Int32) : Option (Int32 × Int32 × Int32 × Int32 × Int32 × Int32 × (Nat → Int32) × (Nat → Int32)) := Option.bind (f_X6_begins M_unitsNow M_units M_left) (fun (q1 : (Nat → Int32)) => Option.bind (lp_X6_walked_22 M_unitsNow M_way M_units FU (Int32.toInt64 a0) M_one M_two 0 0 0 q1 M_playedNow) (fun (q26 : Int32 × Int32 × Int32 × Int32 × Int32 × (Nat → Int32) × (Nat → Int32)) => Option.bind (f_X6_sampleNow M_unitsNow q26.2.2.2.2.2.1) (fun (q27 : Int32) => some (q27, q26.1, q26.2.1, q26.2.2.1, q26.2.2.2.1, q26.2.2.2.2.1, q26.2.2.2.2.2.1, q26.2.2.2.2.2.2))))
theorem hy_X6_walked : yX6_walked.cls ≠ "java/lang/invoke/MethodHandle" ∧ yX6_walked.cls ≠ "java/lang/invoke/VarHandle" ∧ (parseMethodDescriptor yX6_walked.desc).map (fun d => d.parameters.length) = some 1 := by decide +kernel
set_option maxHeartbeats 4000000 in
set_option maxRecDepth 100000 in
theorem w_X6_walked_22 {E : EN} {res : Option Value × Hp} {hX : TX} {hR : TR} {hL : TC} {hT : TC} {hK : TK} {hS : TS} {hP : TP} {M_unitsNow : Int32} {M_way : Int32} {M_sample : Int32} {M_plays : Int32} {M_low : Int32} {M_high : Int32} {M_textLong : Int32} {M_answerLong : Int32} {M_place : Int32} {M_units : Nat → Int32} {M_refused : Nat → Int32} {M_played : Nat → Int32} {M_canBe : Nat → Int32} {M_text : Nat → Int32} {M_answered : Nat → Int32} {M_numbers : Nat → Int32} : ∀ (n9 : Nat) (v2_22 : Int64) (M_one_22 : Int32) (M_two_22 : Int32) (M_playsNow_22 : Int32) (M_lowNow_22 : Int32) (M_highNow_22 : Int32) (M_left_22 : Nat → Int32) (M_playedNow_22 : Nat → Int32) (qL : Int32 × Int32 × Int32 × Int32 × Int32 × (Nat → Int32) × (Nat → Int32)), lp_X6_walked_22 M_unitsNow M_way M_units n9 v2_22 M_one_22 M_two_22 M_playsNow_22 M_lowNow_22 M_highNow_22 M_left_22 M_playedNow_22 = some qL → (Wa E yX6_walked cX6_walked 7 (some .int) 6 res 229 [(0, .ref (eA E 26))] [] (hX, hR, hL, hT, hK, hS, hP, (M_unitsNow, M_way, M_sample, qL.1, qL.2.1, M_plays, M_low, M_high, qL.2.2.1, qL.2.2.2.1, qL.2.2.2.2.1, M_textLong, M_answerLong, M_place, M_units, M_refused, qL.2.2.2.2.2.1, M_played, qL.2.2.2.2.2.2, M_canBe, M_text, M_answered, M_numbers))) → Wa E yX6_walked cX6_walked 7 (some .int) 6 res 22 [(0, .ref (eA E 26)), (2, .long v2_22)] [] (hX, hR, hL, hT, hK, hS, hP, (M_unitsNow, M_way, M_sample, M_one_22, M_two_22, M_plays, M_low, M_high, M_playsNow_22, M_lowNow_22, M_highNow_22, M_textLong, M_answerLong, M_place, M_units, M_refused, M_left_22, M_played, M_playedNow_22, M_canBe, M_text, M_answered, M_numbers)) := by
  intro n9
  induction n9 with
  | zero =>
    intro v2_22 M_one_22 M_two_22 M_playsNow_22 M_lowNow_22 M_highNow_22 M_left_22 M_playedNow_22 qL hf
    exact nomatch (show (none : Option (Int32 × Int32 × Int32 × Int32 × Int32 × (Nat → Int32) × (Nat → Int32))) = some qL from hf)
  | succ n9 ih =>
    intro v2_22 M_one_22 M_two_22 M_playsNow_22 M_lowNow_22 M_highNow_22 M_left_22 M_playedNow_22 qL hf kx0
    rw [lp_X6_walked_22] at hf
    refine r_aload_n dX6_walked_22 0 rfl ?_
    obtain ⟨q2, hq2, hf⟩ := hf_bind hf
    refine r_callVi (As := []) (b := (eA E 26)) (st := []) (s_X6_finds hq2) (by decide) (by decide) wd_945 wd_947 wd_39 wd_74 wd_948 hy_X6_finds (Rc.obj 26 ga_M rfl) rfl (Nat.le_of_ble_eq_true rfl) dX6_walked_23 ?_
    refine r_if_eq (tgt := 229) dX6_walked_26 (by decide) (fun c3 => ?_) (fun c3 => ?_)
    · have hf := hf_pos c3 hf
      have e9 := Option.some.inj hf
      subst e9
      exact (Wa.sub [0] rfl kx0)
    · have hf := hf_neg c3 hf
      refine r_lload_n dX6_walked_29 1 rfl ?_
      obtain ⟨q4, hq4, hf⟩ := hf_bind hf
      refine r_callSl (As := [.long v2_22]) (st := []) (s_X6_next hq4) (by decide) (by decide) wd_887 wd_888 wd_74 wd_889 hy_X6_next rfl (Nat.le_of_ble_eq_true rfl) dX6_walked_30 ?_
      refine r_lstore_n (lv2 := [(2, .long q4), (0, .ref (eA E 26))]) dX6_walked_33 rfl (by decide) rfl ?_
      refine r_lload_n dX6_walked_34 0 rfl ?_
      refine r_ldc2 (v := 65536) wd_893 dX6_walked_35 ?_
      refine r_ldiv dX6_walked_38 (by decide) ?_
      refine r_aload_n dX6_walked_39 1 rfl ?_
      obtain ⟨q5, hq5, hf⟩ := hf_bind hf
      refine r_callVi (As := []) (b := (eA E 26)) (st := [.long (q4 / 65536)]) (s_X6_sizeOfPlay hq5) (by decide) (by decide) wd_968 wd_970 wd_44 wd_74 wd_971 hy_X6_sizeOfPlay (Rc.obj 26 ga_M rfl) rfl (Nat.le_of_ble_eq_true rfl) dX6_walked_40 ?_
      refine r_i2l dX6_walked_43 ?_
      obtain ⟨z6, hf⟩ := hf_nz hf
      refine r_lrem dX6_walked_44 z6 ?_
      refine r_l2i dX6_walked_45 ?_
      refine r_istore (lv2 := [(4, .int (Int64.toInt32 ((q4 / 65536) - (q4 / 65536) / (Int32.toInt64 q5) * (Int32.toInt64 q5)))), (2, .long q4), (0, .ref (eA E 26))]) dX6_walked_46 (by decide) rfl ?_
      refine r_iload dX6_walked_48 0 rfl ?_
      refine r_aload_n dX6_walked_50 2 rfl ?_
      obtain ⟨q7, hq7, hf⟩ := hf_bind hf
      refine r_callVi (As := []) (b := (eA E 26)) (st := [.int (Int64.toInt32 ((q4 / 65536) - (q4 / 65536) / (Int32.toInt64 q5) * (Int32.toInt64 q5)))]) (s_X6_chancesOfOne hq7) (by decide) (by decide) wd_972 wd_974 wd_45 wd_74 wd_975 hy_X6_chancesOfOne (Rc.obj 26 ga_M rfl) rfl (Nat.le_of_ble_eq_true rfl) dX6_walked_51 ?_
      obtain ⟨q9, hq9, hf⟩ := hf_bind hf
      have kj9 : Wa E yX6_walked cX6_walked 7 (some .int) 6 res 62 [(0, .ref (eA E 26)), (2, .long q4)] [.int q9] (hX, hR, hL, hT, hK, hS, hP, (M_unitsNow, M_way, M_sample, q2.2.1, q2.2.2, M_plays, M_low, M_high, M_playsNow_22, M_lowNow_22, M_highNow_22, M_textLong, M_answerLong, M_place, M_units, M_refused, M_left_22, M_played, M_playedNow_22, M_canBe, M_text, M_answered, M_numbers)) := by
        refine r_istore (lv2 := [(5, .int q9), (0, .ref (eA E 26)), (2, .long q4)]) dX6_walked_62 (by decide) rfl ?_
        refine r_aload_n dX6_walked_64 1 rfl ?_
        refine r_get (v := .int q2.2.2) in_X6 26 ga_M rfl 7 (by decide) wd_770 rfl rfl dX6_walked_65 ?_
        refine r_iconst (v := (-1)) dX6_walked_68 (by decide) ?_
        obtain ⟨q11, hq11, hf⟩ := hf_bind hf
        have kj11 : Wa E yX6_walked cX6_walked 7 (some .int) 6 res 101 [(0, .ref (eA E 26)), (2, .long q4), (5, .int q9)] [.int q11] (hX, hR, hL, hT, hK, hS, hP, (M_unitsNow, M_way, M_sample, q2.2.1, q2.2.2, M_plays, M_low, M_high, M_playsNow_22, M_lowNow_22, M_highNow_22, M_textLong, M_answerLong, M_place, M_units, M_refused, M_left_22, M_played, M_playedNow_22, M_canBe, M_text, M_answered, M_numbers)) := by
          refine r_istore (lv2 := [(6, .int q11), (0, .ref (eA E 26)), (2, .long q4), (5, .int q9)]) dX6_walked_101 (by decide) rfl ?_
          refine r_aload_n dX6_walked_103 1 rfl ?_
          refine r_get (v := .ref (eA E 31)) in_X6 26 ga_M rfl 12 (by decide) wd_775 rfl rfl dX6_walked_104 ?_
          refine r_iconst (v := 3) dX6_walked_107 (by decide) ?_
          refine r_aload_n dX6_walked_108 1 rfl ?_
          refine r_get (v := .int M_playsNow_22) in_X6 26 ga_M rfl 13 (by decide) wd_776 rfl rfl dX6_walked_109 ?_
          refine r_imul dX6_walked_112 ?_
          refine r_aload_n dX6_walked_113 1 rfl ?_
          refine r_get (v := .int q2.2.1) in_X6 26 ga_M rfl 6 (by decide) wd_769 rfl rfl dX6_walked_114 ?_
          obtain ⟨i15, hf⟩ := hf_in hf
          refine r_iast 31 ga_M_playedNow sa_M_playedNow i15 dX6_walked_117 ?_
          refine r_aload_n dX6_walked_118 1 rfl ?_
          refine r_get (v := .ref (eA E 31)) in_X6 26 ga_M rfl 12 (by decide) wd_775 rfl rfl dX6_walked_119 ?_
          refine r_iconst (v := 3) dX6_walked_122 (by decide) ?_
          refine r_aload_n dX6_walked_123 1 rfl ?_
          refine r_get (v := .int M_playsNow_22) in_X6 26 ga_M rfl 13 (by decide) wd_776 rfl rfl dX6_walked_124 ?_
          refine r_imul dX6_walked_127 ?_
          refine r_iconst (v := 1) dX6_walked_128 (by decide) ?_
          refine r_iadd dX6_walked_129 ?_
          refine r_aload_n dX6_walked_130 1 rfl ?_
          refine r_get (v := .int q2.2.2) in_X6 26 ga_M rfl 7 (by decide) wd_770 rfl rfl dX6_walked_131 ?_
          obtain ⟨i16, hf⟩ := hf_in hf
          refine r_iast 31 ga_M_playedNow sa_M_playedNow i16 dX6_walked_134 ?_
          refine r_aload_n dX6_walked_135 1 rfl ?_
          refine r_get (v := .ref (eA E 31)) in_X6 26 ga_M rfl 12 (by decide) wd_775 rfl rfl dX6_walked_136 ?_
          refine r_iconst (v := 3) dX6_walked_139 (by decide) ?_
          refine r_aload_n dX6_walked_140 1 rfl ?_
          refine r_get (v := .int M_playsNow_22) in_X6 26 ga_M rfl 13 (by decide) wd_776 rfl rfl dX6_walked_141 ?_
          refine r_imul dX6_walked_144 ?_
          refine r_iconst (v := 2) dX6_walked_145 (by decide) ?_
          refine r_iadd dX6_walked_146 ?_
          refine r_iload dX6_walked_147 3 rfl ?_
          obtain ⟨q18, hq18, hf⟩ := hf_bind hf
          have kj18 : Wa E yX6_walked cX6_walked 7 (some .int) 6 res 163 [(0, .ref (eA E 26)), (2, .long q4), (5, .int q9), (6, .int q11)] [.int q18, .int ((3 * M_playsNow_22) + 2), .ref (eA E 31)] (hX, hR, hL, hT, hK, hS, hP, (M_unitsNow, M_way, M_sample, q2.2.1, q2.2.2, M_plays, M_low, M_high, M_playsNow_22, M_lowNow_22, M_highNow_22, M_textLong, M_answerLong, M_place, M_units, M_refused, M_left_22, M_played, (upd (upd M_playedNow_22 (Int32.toNatClampNeg (3 * M_playsNow_22)) q2.2.1) (Int32.toNatClampNeg ((3 * M_playsNow_22) + 1)) q2.2.2), M_canBe, M_text, M_answered, M_numbers)) := by
            obtain ⟨i19, hf⟩ := hf_in hf
            refine r_iast 31 ga_M_playedNow sa_M_playedNow i19 dX6_walked_163 ?_
            refine r_aload_n dX6_walked_164 0 rfl ?_
            refine r_dup dX6_walked_165 rfl ?_
            refine r_get (v := .int M_playsNow_22) in_X6 26 ga_M rfl 13 (by decide) wd_776 rfl rfl dX6_walked_166 ?_
            refine r_iconst (v := 1) dX6_walked_169 (by decide) ?_
            refine r_iadd dX6_walked_170 ?_
            refine r_put in_X6 tyX6_ok nmX6 26 ga_M rfl 13 (by decide) wd_776 rfl rfl pfI (Nat.le_of_ble_eq_true rfl) sa_M_playsNow dX6_walked_171 ?_
            refine r_aload_n dX6_walked_174 0 rfl ?_
            refine r_dup dX6_walked_175 rfl ?_
            refine r_get (v := .int M_lowNow_22) in_X6 26 ga_M rfl 14 (by decide) wd_777 rfl rfl dX6_walked_176 ?_
            refine r_iload dX6_walked_179 3 rfl ?_
            obtain ⟨q21, hq21, hf⟩ := hf_bind hf
            have kj21 : Wa E yX6_walked cX6_walked 7 (some .int) 6 res 189 [(0, .ref (eA E 26)), (2, .long q4), (5, .int q9), (6, .int q11)] [.int q21, .int M_lowNow_22, .ref (eA E 26)] (hX, hR, hL, hT, hK, hS, hP, (M_unitsNow, M_way, M_sample, q2.2.1, q2.2.2, M_plays, M_low, M_high, (M_playsNow_22 + 1), M_lowNow_22, M_highNow_22, M_textLong, M_answerLong, M_place, M_units, M_refused, M_left_22, M_played, (upd (upd (upd M_playedNow_22 (Int32.toNatClampNeg (3 * M_playsNow_22)) q2.2.1) (Int32.toNatClampNeg ((3 * M_playsNow_22) + 1)) q2.2.2) (Int32.toNatClampNeg ((3 * M_playsNow_22) + 2)) q18), M_canBe, M_text, M_answered, M_numbers)) := by
              refine r_iadd dX6_walked_189 ?_
              refine r_put in_X6 tyX6_ok nmX6 26 ga_M rfl 14 (by decide) wd_777 rfl rfl pfI (Nat.le_of_ble_eq_true rfl) sa_M_lowNow dX6_walked_190 ?_
              refine r_aload_n dX6_walked_193 0 rfl ?_
              refine r_dup dX6_walked_194 rfl ?_
              refine r_get (v := .int M_highNow_22) in_X6 26 ga_M rfl 15 (by decide) wd_778 rfl rfl dX6_walked_195 ?_
              refine r_aload_n dX6_walked_198 0 rfl ?_
              refine r_get (v := .int q2.2.2) in_X6 26 ga_M rfl 7 (by decide) wd_770 rfl rfl dX6_walked_199 ?_
              refine r_iconst (v := (-1)) dX6_walked_202 (by decide) ?_
              obtain ⟨q23, hq23, hf⟩ := hf_bind hf
              have kj23 : Wa E yX6_walked cX6_walked 7 (some .int) 6 res 216 [(0, .ref (eA E 26)), (2, .long q4), (5, .int q9)] [.int q23, .int M_highNow_22, .ref (eA E 26)] (hX, hR, hL, hT, hK, hS, hP, (M_unitsNow, M_way, M_sample, q2.2.1, q2.2.2, M_plays, M_low, M_high, (M_playsNow_22 + 1), (M_lowNow_22 + q21), M_highNow_22, M_textLong, M_answerLong, M_place, M_units, M_refused, M_left_22, M_played, (upd (upd (upd M_playedNow_22 (Int32.toNatClampNeg (3 * M_playsNow_22)) q2.2.1) (Int32.toNatClampNeg ((3 * M_playsNow_22) + 1)) q2.2.2) (Int32.toNatClampNeg ((3 * M_playsNow_22) + 2)) q18), M_canBe, M_text, M_answered, M_numbers)) := by
                refine r_iadd dX6_walked_216 ?_
                refine r_put in_X6 tyX6_ok nmX6 26 ga_M rfl 15 (by decide) wd_778 rfl rfl pfI (Nat.le_of_ble_eq_true rfl) sa_M_highNow dX6_walked_217 ?_
                refine r_aload_n dX6_walked_220 0 rfl ?_
                refine r_iload dX6_walked_221 2 rfl ?_
                obtain ⟨q25, hq25, hf⟩ := hf_bind hf
                refine r_callVv (As := [.int q9]) (b := (eA E 26)) (st := []) (s_X6_gets hq25) (by decide) (by decide) wd_976 wd_978 wd_46 wd_74 wd_979 hy_X6_gets (Rc.obj 26 ga_M rfl) rfl (Nat.le_of_ble_eq_true rfl) dX6_walked_223 ?_
                refine r_goto (tgt := 22) dX6_walked_226 (by decide) ?_
                exact (Wa.sub [0, 1] rfl (ih _ _ _ _ _ _ _ _ _ hf kx0))
              have hf := hq23
              refine r_icmp_eq (tgt := 215) dX6_walked_203 (by decide) (fun c22 => ?_) (fun c22 => ?_)
              · have hf := hf_pos c22 hf
                refine r_iconst (v := 0) dX6_walked_215 (by decide) ?_
                have e9 := Option.some.inj hf
                subst e9
                exact (Wa.sub [0, 1, 2] rfl kj23)
              · have hf := hf_neg c22 hf
                refine r_iload dX6_walked_206 3 rfl ?_
                refine r_if_ne (tgt := 215) dX6_walked_208 (by decide) (fun c24 => ?_) (fun c24 => ?_)
                · have hf := hf_neg c24 hf
                  refine r_iconst (v := 0) dX6_walked_215 (by decide) ?_
                  have e9 := Option.some.inj hf
                  subst e9
                  exact (Wa.sub [0, 1, 2] rfl kj23)
                · have hf := hf_pos c24 hf
                  refine r_iconst (v := 1) dX6_walked_211 (by decide) ?_
                  refine r_goto (tgt := 216) dX6_walked_212 (by decide) ?_
                  have e9 := Option.some.inj hf
                  subst e9
                  exact (Wa.sub [0, 1, 2] rfl kj23)
            have hf := hq21
            refine r_if_eq (tgt := 188) dX6_walked_181 (by decide) (fun c20 => ?_) (fun c20 => ?_)
            · have hf := hf_pos c20 hf
              refine r_iconst (v := 0) dX6_walked_188 (by decide) ?_
              have e9 := Option.some.inj hf
              subst e9
              exact kj21
            · have hf := hf_neg c20 hf
              refine r_iconst (v := 1) dX6_walked_184 (by decide) ?_
              refine r_goto (tgt := 189) dX6_walked_185 (by decide) ?_
              have e9 := Option.some.inj hf
              subst e9
              exact kj21
          have hf := hq18
          refine r_if_eq (tgt := 159) dX6_walked_149 (by decide) (fun c17 => ?_) (fun c17 => ?_)
          · have hf := hf_pos c17 hf
            refine r_aload_n dX6_walked_159 1 rfl ?_
            refine r_get (v := .int q2.2.2) in_X6 26 ga_M rfl 7 (by decide) wd_770 rfl rfl dX6_walked_160 ?_
            have e9 := Option.some.inj hf
            subst e9
            exact (Wa.sub [1, 2, 3, 0] rfl kj18)
          · have hf := hf_neg c17 hf
            refine r_aload_n dX6_walked_152 1 rfl ?_
            refine r_get (v := .int q2.2.1) in_X6 26 ga_M rfl 6 (by decide) wd_769 rfl rfl dX6_walked_153 ?_
            refine r_goto (tgt := 163) dX6_walked_156 (by decide) ?_
            have e9 := Option.some.inj hf
            subst e9
            exact (Wa.sub [1, 2, 3, 0] rfl kj18)
        have hf := hq11
        refine r_icmp_eq (tgt := 100) dX6_walked_69 (by decide) (fun c10 => ?_) (fun c10 => ?_)
        · have hf := hf_pos c10 hf
          refine r_iconst (v := 0) dX6_walked_100 (by decide) ?_
          have e9 := Option.some.inj hf
          subst e9
          exact (Wa.sub [1, 2, 0] rfl kj11)
        · have hf := hf_neg c10 hf
          refine r_aload_n dX6_walked_72 1 rfl ?_
          refine r_get (v := .ref (eA E 29)) in_X6 26 ga_M rfl 5 (by decide) wd_768 rfl rfl dX6_walked_73 ?_
          refine r_aload_n dX6_walked_76 1 rfl ?_
          refine r_get (v := .int q2.2.1) in_X6 26 ga_M rfl 6 (by decide) wd_769 rfl rfl dX6_walked_77 ?_
          obtain ⟨i12, hf⟩ := hf_in hf
          refine r_iald (f := M_left_22) 29 ga_M_left i12 dX6_walked_80 ?_
          refine r_aload_n dX6_walked_81 1 rfl ?_
          refine r_get (v := .ref (eA E 29)) in_X6 26 ga_M rfl 5 (by decide) wd_768 rfl rfl dX6_walked_82 ?_
          refine r_aload_n dX6_walked_85 1 rfl ?_
          refine r_get (v := .int q2.2.2) in_X6 26 ga_M rfl 7 (by decide) wd_770 rfl rfl dX6_walked_86 ?_
          obtain ⟨i13, hf⟩ := hf_in hf
          refine r_iald (f := M_left_22) 29 ga_M_left i13 dX6_walked_89 ?_
          refine r_iadd dX6_walked_90 ?_
          refine r_bipush (v := 12) dX6_walked_91 (by decide) ?_
          refine r_icmp_gt (tgt := 100) dX6_walked_93 (by decide) (fun c14 => ?_) (fun c14 => ?_)
          · have hf := hf_pos c14 hf
            refine r_iconst (v := 0) dX6_walked_100 (by decide) ?_
            have e9 := Option.some.inj hf
            subst e9
            exact (Wa.sub [1, 2, 0] rfl kj11)
          · have hf := hf_neg c14 hf
            refine r_iconst (v := 1) dX6_walked_96 (by decide) ?_
            refine r_goto (tgt := 101) dX6_walked_97 (by decide) ?_
            have e9 := Option.some.inj hf
            subst e9
            exact (Wa.sub [1, 2, 0] rfl kj11)
      have hf := hq9
      refine r_icmp_ge (tgt := 61) dX6_walked_54 (by decide) (fun c8 => ?_) (fun c8 => ?_)
      · have hf := hf_pos c8 hf
        refine r_iconst (v := 0) dX6_walked_61 (by decide) ?_
        have e9 := Option.some.inj hf
        subst e9
        exact (Wa.sub [2, 1] rfl kj9)
      · have hf := hf_neg c8 hf
        refine r_iconst (v := 1) dX6_walked_57 (by decide) ?_
        refine r_goto (tgt := 62) dX6_walked_58 (by decide) ?_
        have e9 := Option.some.inj hf
        subst e9
        exact (Wa.sub [2, 1] rfl kj9)
set_option maxHeartbeats 4000000 in
set_option maxRecDepth 100000 in
theorem s_X6_walked {E : EN} {hX : TX} {hR : TR} {hL : TC} {hT : TC} {hK : TK} {hS : TS} {hP : TP} {M_unitsNow : Int32} {M_way : Int32} {M_sample : Int32} {M_one : Int32} {M_two : Int32} {M_plays : Int32} {M_low : Int32} {M_high : Int32} {M_playsNow : Int32} {M_lowNow : Int32} {M_highNow : Int32} {M_textLong : Int32} {M_answerLong : Int32} {M_place : Int32} {M_units : Nat → Int32} {M_refused : Nat → Int32} {M_left : Nat → Int32} {M_played : Nat → Int32} {M_playedNow : Nat → Int32} {M_canBe : Nat → Int32} {M_text : Nat → Int32} {M_answered : Nat → Int32} {M_numbers : Nat → Int32} {a0 : Int32} {qR : Int32 × Int32 × Int32 × Int32 × Int32 × Int32 × (Nat → Int32) × (Nat → Int32)} (hf : f_X6_walked M_unitsNow M_way M_one M_two M_units M_left M_playedNow a0 = some qR) : Sem E yX6_walked cX6_walked 7 (some .int) 6 [.ref (eA E 26), .int a0] (hX, hR, hL, hT, hK, hS, hP, (M_unitsNow, M_way, M_sample, M_one, M_two, M_plays, M_low, M_high, M_playsNow, M_lowNow, M_highNow, M_textLong, M_answerLong, M_place, M_units, M_refused, M_left, M_played, M_playedNow, M_canBe, M_text, M_answered, M_numbers)) (some (.int qR.1), (hX, hR, hL, hT, hK, hS, hP, (M_unitsNow, M_way, M_sample, qR.2.1, qR.2.2.1, M_plays, M_low, M_high, qR.2.2.2.1, qR.2.2.2.2.1, qR.2.2.2.2.2.1, M_textLong, M_answerLong, M_place, M_units, M_refused, qR.2.2.2.2.2.2.1, M_played, qR.2.2.2.2.2.2.2, M_canBe, M_text, M_answered, M_numbers))) := by
  refine Sem.mk (lv := [(0, .ref (eA E 26)), (1, .int a0)]) (by decide) (Nat.le_of_ble_eq_true rfl) rfl ?_
  rw [f_X6_walked] at hf
  refine r_iload_n dX6_walked_0 1 rfl ?_
  refine r_i2l dX6_walked_1 ?_
  refine r_lstore_n (lv2 := [(2, .long (Int32.toInt64 a0)), (0, .ref (eA E 26)), (1, .int a0)]) dX6_walked_2 rfl (by decide) rfl ?_
  refine r_aload_n dX6_walked_3 1 rfl ?_
  refine r_iconst (v := 0) dX6_walked_4 (by decide) ?_
  refine r_put in_X6 tyX6_ok nmX6 26 ga_M rfl 13 (by decide) wd_776 rfl rfl pfI (Nat.le_of_ble_eq_true rfl) sa_M_playsNow dX6_walked_5 ?_
  refine r_aload_n dX6_walked_8 1 rfl ?_
  refine r_iconst (v := 0) dX6_walked_9 (by decide) ?_
  refine r_put in_X6 tyX6_ok nmX6 26 ga_M rfl 14 (by decide) wd_777 rfl rfl pfI (Nat.le_of_ble_eq_true rfl) sa_M_lowNow dX6_walked_10 ?_
  refine r_aload_n dX6_walked_13 1 rfl ?_
  refine r_iconst (v := 0) dX6_walked_14 (by decide) ?_
  refine r_put in_X6 tyX6_ok nmX6 26 ga_M rfl 15 (by decide) wd_778 rfl rfl pfI (Nat.le_of_ble_eq_true rfl) sa_M_highNow dX6_walked_15 ?_
  refine r_aload_n dX6_walked_18 1 rfl ?_
  obtain ⟨q1, hq1, hf⟩ := hf_bind hf
  refine r_callVv (As := []) (b := (eA E 26)) (st := []) (s_X6_begins hq1) (by decide) (by decide) wd_941 wd_943 wd_38 wd_74 wd_944 hy_X6_begins (Rc.obj 26 ga_M rfl) rfl (Nat.le_of_ble_eq_true rfl) dX6_walked_19 ?_
  obtain ⟨q26, hq26, hf⟩ := hf_bind hf
  refine (Wa.sub [1, 0] rfl (w_X6_walked_22 _ _ _ _ _ _ _ _ _ _ hq26 ?_))
  refine r_aload_n dX6_walked_229 0 rfl ?_
  obtain ⟨q27, hq27, hf⟩ := hf_bind hf
  refine r_callVi (As := []) (b := (eA E 26)) (st := []) (s_X6_sampleNow hq27) (by decide) (by decide) wd_980 wd_982 wd_47 wd_74 wd_983 hy_X6_sampleNow (Rc.obj 26 ga_M rfl) rfl (Nat.le_of_ble_eq_true rfl) dX6_walked_230 ?_
  have e9 := Option.some.inj hf
  subst e9
  exact r_iret rfl dX6_walked_233
-- DuelSamplesModel.bits
def lp_X6_bits_4  : Nat → Int32 → Int32 → Option (Int32)
  | 0, _, _ => none
  | n9 + 1, v1_4, v2_4 => if v2_4 ≤ 0 then some v1_4 else lp_X6_bits_4 n9 (v1_4 + (v2_4 &&& 1)) (v2_4 >>> (1 &&& 31))
def f_X6_bits  (a0 : Int32) : Option (Int32) := Option.bind (lp_X6_bits_4  FU 0 a0) (fun (q2 : Int32) => some q2)
theorem hy_X6_bits : yX6_bits.cls ≠ "java/lang/invoke/MethodHandle" ∧ yX6_bits.cls ≠ "java/lang/invoke/VarHandle" ∧ (parseMethodDescriptor yX6_bits.desc).map (fun d => d.parameters.length) = some 1 := by decide +kernel
set_option maxHeartbeats 4000000 in
set_option maxRecDepth 100000 in
theorem w_X6_bits_4 {E : EN} {res : Option Value × Hp} {hX : TX} {hR : TR} {hL : TC} {hT : TC} {hK : TK} {hS : TS} {hP : TP} {hM : TM}  : ∀ (n9 : Nat) (v1_4 : Int32) (v2_4 : Int32) (qL : Int32), lp_X6_bits_4  n9 v1_4 v2_4 = some qL → (Wa E yX6_bits cX6_bits 3 (some .int) 1 res 21 [(1, .int qL)] [] (hX, hR, hL, hT, hK, hS, hP, hM)) → Wa E yX6_bits cX6_bits 3 (some .int) 1 res 4 [(1, .int v1_4), (2, .int v2_4)] [] (hX, hR, hL, hT, hK, hS, hP, hM) := by
  intro n9
  induction n9 with
  | zero =>
    intro v1_4 v2_4 qL hf
    exact nomatch (show (none : Option (Int32)) = some qL from hf)
  | succ n9 ih =>
    intro v1_4 v2_4 qL hf kx0
    rw [lp_X6_bits_4] at hf
    refine r_iload_n dX6_bits_4 1 rfl ?_
    refine r_if_le (tgt := 21) dX6_bits_5 (by decide) (fun c1 => ?_) (fun c1 => ?_)
    · have hf := hf_pos c1 hf
      have e9 := Option.some.inj hf
      subst e9
      exact (Wa.sub [0] rfl kx0)
    · have hf := hf_neg c1 hf
      refine r_iload_n dX6_bits_8 0 rfl ?_
      refine r_iload_n dX6_bits_9 1 rfl ?_
      refine r_iconst (v := 1) dX6_bits_10 (by decide) ?_
      refine r_iand dX6_bits_11 ?_
      refine r_iadd dX6_bits_12 ?_
      refine r_istore_n (lv2 := [(1, .int (v1_4 + (v2_4 &&& 1))), (2, .int v2_4)]) dX6_bits_13 rfl (by decide) rfl ?_
      refine r_iload_n dX6_bits_14 1 rfl ?_
      refine r_iconst (v := 1) dX6_bits_15 (by decide) ?_
      refine r_ishr dX6_bits_16 ?_
      refine r_istore_n (lv2 := [(2, .int (v2_4 >>> (1 &&& 31))), (1, .int (v1_4 + (v2_4 &&& 1)))]) dX6_bits_17 rfl (by decide) rfl ?_
      refine r_goto (tgt := 4) dX6_bits_18 (by decide) ?_
      exact (Wa.sub [1, 0] rfl (ih _ _ _ hf kx0))
set_option maxHeartbeats 4000000 in
set_option maxRecDepth 100000 in
theorem s_X6_bits {E : EN} {hX : TX} {hR : TR} {hL : TC} {hT : TC} {hK : TK} {hS : TS} {hP : TP} {hM : TM}  {a0 : Int32} {qR : Int32} (hf : f_X6_bits a0 = some qR) : Sem E yX6_bits cX6_bits 3 (some .int) 1 [.int a0] (hX, hR, hL, hT, hK, hS, hP, hM) (some (.int qR), (hX, hR, hL, hT, hK, hS, hP, hM)) := by
  refine Sem.mk (lv := [(0, .int a0)]) (by decide) (Nat.le_of_ble_eq_true rfl) rfl ?_
  rw [f_X6_bits] at hf
  refine r_iconst (v := 0) dX6_bits_0 (by decide) ?_
  refine r_istore_n (lv2 := [(1, .int 0), (0, .int a0)]) dX6_bits_1 rfl (by decide) rfl ?_
  refine r_iload_n dX6_bits_2 1 rfl ?_
  refine r_istore_n (lv2 := [(2, .int a0), (1, .int 0), (0, .int a0)]) dX6_bits_3 rfl (by decide) rfl ?_
  obtain ⟨q2, hq2, hf⟩ := hf_bind hf
  refine (Wa.sub [1, 0] rfl (w_X6_bits_4 _ _ _ _ hq2 ?_))
  refine r_iload_n dX6_bits_21 0 rfl ?_
  have e9 := Option.some.inj hf
  subst e9
  exact r_iret rfl dX6_bits_22
-- DuelSamplesModel.walks
def lp_X6_walks_35 (q1 : Int32 × Int32 × Int32 × Int32 × Int32 × Int32 × (Nat → Int32) × (Nat → Int32)) : Nat → Int32 → (Nat → Int32) → Option ((Nat → Int32))
  | 0, _, _ => none
  | n9 + 1, v2_35, M_played_35 => if (3 * q1.2.2.2.1) ≤ v2_35 then some M_played_35 else if inB v2_35 36 then if inB v2_35 36 then lp_X6_walks_35 q1 n9 (v2_35 + 1) (upd M_played_35 (Int32.toNatClampNeg v2_35) (q1.2.2.2.2.2.2.2 (Int32.toNatClampNeg v2_35))) else none else none
def f_X6_walks (M_unitsNow : Int32) (M_way : Int32) (M_one : Int32) (M_two : Int32) (M_units : Nat → Int32) (M_left : Nat → Int32) (M_played : Nat → Int32) (M_playedNow : Nat → Int32) (a0 : Int32) : Option (Int32 × Int32 × Int32 × Int32 × Int32 × Int32 × Int32 × Int32 × Int32 × Int32 × (Nat → Int32) × (Nat → Int32) × (Nat → Int32)) := Option.bind (f_X6_walked M_unitsNow M_way M_one M_two M_units M_left M_playedNow a0) (fun (q1 : Int32 × Int32 × Int32 × Int32 × Int32 × Int32 × (Nat → Int32) × (Nat → Int32)) => Option.bind (lp_X6_walks_35 q1 FU 0 M_played) (fun (q5 : (Nat → Int32)) => Option.bind (f_X6_bits q1.1) (fun (q6 : Int32) => some (q6, q1.1, q1.2.1, q1.2.2.1, q1.2.2.2.1, q1.2.2.2.2.1, q1.2.2.2.2.2.1, q1.2.2.2.1, q1.2.2.2.2.1, q1.2.2.2.2.2.1, q1.2.2.2.2.2.2.1, q5, q1.2.2.2.2.2.2.2))))
theorem hy_X6_walks : yX6_walks.cls ≠ "java/lang/invoke/MethodHandle" ∧ yX6_walks.cls ≠ "java/lang/invoke/VarHandle" ∧ (parseMethodDescriptor yX6_walks.desc).map (fun d => d.parameters.length) = some 1 := by decide +kernel
set_option maxHeartbeats 4000000 in
set_option maxRecDepth 100000 in
theorem w_X6_walks_35 {E : EN} {res : Option Value × Hp} {hX : TX} {hR : TR} {hL : TC} {hT : TC} {hK : TK} {hS : TS} {hP : TP} {M_unitsNow : Int32} {M_way : Int32} {q1 : Int32 × Int32 × Int32 × Int32 × Int32 × Int32 × (Nat → Int32) × (Nat → Int32)} {M_textLong : Int32} {M_answerLong : Int32} {M_place : Int32} {M_units : Nat → Int32} {M_refused : Nat → Int32} {M_canBe : Nat → Int32} {M_text : Nat → Int32} {M_answered : Nat → Int32} {M_numbers : Nat → Int32} : ∀ (n9 : Nat) (v2_35 : Int32) (M_played_35 : Nat → Int32) (qL : (Nat → Int32)), lp_X6_walks_35 q1 n9 v2_35 M_played_35 = some qL → (Wa E yX6_walks cX6_walks 3 (some .int) 7 res 63 [(0, .ref (eA E 26))] [] (hX, hR, hL, hT, hK, hS, hP, (M_unitsNow, M_way, q1.1, q1.2.1, q1.2.2.1, q1.2.2.2.1, q1.2.2.2.2.1, q1.2.2.2.2.2.1, q1.2.2.2.1, q1.2.2.2.2.1, q1.2.2.2.2.2.1, M_textLong, M_answerLong, M_place, M_units, M_refused, q1.2.2.2.2.2.2.1, qL, q1.2.2.2.2.2.2.2, M_canBe, M_text, M_answered, M_numbers))) → Wa E yX6_walks cX6_walks 3 (some .int) 7 res 35 [(0, .ref (eA E 26)), (2, .int v2_35)] [] (hX, hR, hL, hT, hK, hS, hP, (M_unitsNow, M_way, q1.1, q1.2.1, q1.2.2.1, q1.2.2.2.1, q1.2.2.2.2.1, q1.2.2.2.2.2.1, q1.2.2.2.1, q1.2.2.2.2.1, q1.2.2.2.2.2.1, M_textLong, M_answerLong, M_place, M_units, M_refused, q1.2.2.2.2.2.2.1, M_played_35, q1.2.2.2.2.2.2.2, M_canBe, M_text, M_answered, M_numbers)) := by
  intro n9
  induction n9 with
  | zero =>
    intro v2_35 M_played_35 qL hf
    exact nomatch (show (none : Option ((Nat → Int32))) = some qL from hf)
  | succ n9 ih =>
    intro v2_35 M_played_35 qL hf kx0
    rw [lp_X6_walks_35] at hf
    refine r_iload_n dX6_walks_35 1 rfl ?_
    refine r_iconst (v := 3) dX6_walks_36 (by decide) ?_
    refine r_aload_n dX6_walks_37 0 rfl ?_
    refine r_get (v := .int q1.2.2.2.1) in_X6 26 ga_M rfl 9 (by decide) wd_772 rfl rfl dX6_walks_38 ?_
    refine r_imul dX6_walks_41 ?_
    refine r_icmp_ge (tgt := 63) dX6_walks_42 (by decide) (fun c2 => ?_) (fun c2 => ?_)
    · have hf := hf_pos c2 hf
      have e9 := Option.some.inj hf
      subst e9
      exact (Wa.sub [0] rfl kx0)
    · have hf := hf_neg c2 hf
      refine r_aload_n dX6_walks_45 0 rfl ?_
      refine r_get (v := .ref (eA E 30)) in_X6 26 ga_M rfl 8 (by decide) wd_771 rfl rfl dX6_walks_46 ?_
      refine r_iload_n dX6_walks_49 1 rfl ?_
      refine r_aload_n dX6_walks_50 0 rfl ?_
      refine r_get (v := .ref (eA E 31)) in_X6 26 ga_M rfl 12 (by decide) wd_775 rfl rfl dX6_walks_51 ?_
      refine r_iload_n dX6_walks_54 1 rfl ?_
      obtain ⟨i3, hf⟩ := hf_in hf
      refine r_iald (f := q1.2.2.2.2.2.2.2) 31 ga_M_playedNow i3 dX6_walks_55 ?_
      obtain ⟨i4, hf⟩ := hf_in hf
      refine r_iast 30 ga_M_played sa_M_played i4 dX6_walks_56 ?_
      refine r_iinc (v := (v2_35 + 1)) (lv2 := [(2, .int (v2_35 + 1)), (0, .ref (eA E 26))]) dX6_walks_57 1 rfl rfl (by decide) rfl ?_
      refine r_goto (tgt := 35) dX6_walks_60 (by decide) ?_
      exact (Wa.sub [1, 0] rfl (ih _ _ _ hf kx0))
set_option maxHeartbeats 4000000 in
set_option maxRecDepth 100000 in
theorem s_X6_walks {E : EN} {hX : TX} {hR : TR} {hL : TC} {hT : TC} {hK : TK} {hS : TS} {hP : TP} {M_unitsNow : Int32} {M_way : Int32} {M_sample : Int32} {M_one : Int32} {M_two : Int32} {M_plays : Int32} {M_low : Int32} {M_high : Int32} {M_playsNow : Int32} {M_lowNow : Int32} {M_highNow : Int32} {M_textLong : Int32} {M_answerLong : Int32} {M_place : Int32} {M_units : Nat → Int32} {M_refused : Nat → Int32} {M_left : Nat → Int32} {M_played : Nat → Int32} {M_playedNow : Nat → Int32} {M_canBe : Nat → Int32} {M_text : Nat → Int32} {M_answered : Nat → Int32} {M_numbers : Nat → Int32} {a0 : Int32} {qR : Int32 × Int32 × Int32 × Int32 × Int32 × Int32 × Int32 × Int32 × Int32 × Int32 × (Nat → Int32) × (Nat → Int32) × (Nat → Int32)} (hf : f_X6_walks M_unitsNow M_way M_one M_two M_units M_left M_played M_playedNow a0 = some qR) : Sem E yX6_walks cX6_walks 3 (some .int) 7 [.ref (eA E 26), .int a0] (hX, hR, hL, hT, hK, hS, hP, (M_unitsNow, M_way, M_sample, M_one, M_two, M_plays, M_low, M_high, M_playsNow, M_lowNow, M_highNow, M_textLong, M_answerLong, M_place, M_units, M_refused, M_left, M_played, M_playedNow, M_canBe, M_text, M_answered, M_numbers)) (some (.int qR.1), (hX, hR, hL, hT, hK, hS, hP, (M_unitsNow, M_way, qR.2.1, qR.2.2.1, qR.2.2.2.1, qR.2.2.2.2.1, qR.2.2.2.2.2.1, qR.2.2.2.2.2.2.1, qR.2.2.2.2.2.2.2.1, qR.2.2.2.2.2.2.2.2.1, qR.2.2.2.2.2.2.2.2.2.1, M_textLong, M_answerLong, M_place, M_units, M_refused, qR.2.2.2.2.2.2.2.2.2.2.1, qR.2.2.2.2.2.2.2.2.2.2.2.1, qR.2.2.2.2.2.2.2.2.2.2.2.2, M_canBe, M_text, M_answered, M_numbers))) := by
  refine Sem.mk (lv := [(0, .ref (eA E 26)), (1, .int a0)]) (by decide) (Nat.le_of_ble_eq_true rfl) rfl ?_
  rw [f_X6_walks] at hf
  refine r_aload_n dX6_walks_0 0 rfl ?_
  refine r_aload_n dX6_walks_1 0 rfl ?_
  refine r_iload_n dX6_walks_2 1 rfl ?_
  obtain ⟨q1, hq1, hf⟩ := hf_bind hf
  refine r_callVi (As := [.int a0]) (b := (eA E 26)) (st := [.ref (eA E 26)]) (s_X6_walked hq1) (by decide) (by decide) wd_937 wd_939 wd_37 wd_74 wd_940 hy_X6_walked (Rc.obj 26 ga_M rfl) rfl (Nat.le_of_ble_eq_true rfl) dX6_walks_3 ?_
  refine r_put in_X6 tyX6_ok nmX6 26 ga_M rfl 3 (by decide) wd_766 rfl rfl pfI (Nat.le_of_ble_eq_true rfl) sa_M_sample dX6_walks_6 ?_
  refine r_aload_n dX6_walks_9 0 rfl ?_
  refine r_aload_n dX6_walks_10 0 rfl ?_
  refine r_get (v := .int q1.2.2.2.1) in_X6 26 ga_M rfl 13 (by decide) wd_776 rfl rfl dX6_walks_11 ?_
  refine r_put in_X6 tyX6_ok nmX6 26 ga_M rfl 9 (by decide) wd_772 rfl rfl pfI (Nat.le_of_ble_eq_true rfl) sa_M_plays dX6_walks_14 ?_
  refine r_aload_n dX6_walks_17 0 rfl ?_
  refine r_aload_n dX6_walks_18 0 rfl ?_
  refine r_get (v := .int q1.2.2.2.2.1) in_X6 26 ga_M rfl 14 (by decide) wd_777 rfl rfl dX6_walks_19 ?_
  refine r_put in_X6 tyX6_ok nmX6 26 ga_M rfl 10 (by decide) wd_773 rfl rfl pfI (Nat.le_of_ble_eq_true rfl) sa_M_low dX6_walks_22 ?_
  refine r_aload_n dX6_walks_25 0 rfl ?_
  refine r_aload_n dX6_walks_26 0 rfl ?_
  refine r_get (v := .int q1.2.2.2.2.2.1) in_X6 26 ga_M rfl 15 (by decide) wd_778 rfl rfl dX6_walks_27 ?_
  refine r_put in_X6 tyX6_ok nmX6 26 ga_M rfl 11 (by decide) wd_774 rfl rfl pfI (Nat.le_of_ble_eq_true rfl) sa_M_high dX6_walks_30 ?_
  refine r_iconst (v := 0) dX6_walks_33 (by decide) ?_
  refine r_istore_n (lv2 := [(2, .int 0), (0, .ref (eA E 26)), (1, .int a0)]) dX6_walks_34 rfl (by decide) rfl ?_
  obtain ⟨q5, hq5, hf⟩ := hf_bind hf
  refine (Wa.sub [1, 0] rfl (w_X6_walks_35 _ _ _ _ hq5 ?_))
  refine r_aload_n dX6_walks_63 0 rfl ?_
  refine r_get (v := .int q1.1) in_X6 26 ga_M rfl 3 (by decide) wd_766 rfl rfl dX6_walks_64 ?_
  obtain ⟨q6, hq6, hf⟩ := hf_bind hf
  refine r_callSi (As := [.int q1.1]) (st := []) (s_X6_bits hq6) (by decide) (by decide) wd_984 wd_985 wd_74 wd_986 hy_X6_bits rfl (Nat.le_of_ble_eq_true rfl) dX6_walks_67 ?_
  have e9 := Option.some.inj hf
  subst e9
  exact r_iret rfl dX6_walks_70
