-- DuelSamples$Reply.put
def f_X2_put (P_length : Int32) (P_signs : Nat → Int32) (a0 : Int32) : Option (Int32 × (Nat → Int32)) := if 300 ≤ P_length then some (P_length, P_signs) else if inB P_length 300 then some ((P_length + 1), (upd P_signs (Int32.toNatClampNeg P_length) (vp_nar .byte ((Int32.toInt8 a0).toInt32)))) else none
theorem hy_X2_put : yX2_put.cls ≠ "java/lang/invoke/MethodHandle" ∧ yX2_put.cls ≠ "java/lang/invoke/VarHandle" ∧ (parseMethodDescriptor yX2_put.desc).map (fun d => d.parameters.length) = some 1 := by decide +kernel
set_option maxHeartbeats 4000000 in
set_option maxRecDepth 100000 in
theorem s_X2_put {E : EN} {hX : TX} {hR : TR} {hL : TC} {hT : TC} {hK : TK} {hS : TS} {hM : TM} {P_length : Int32} {P_signs : Nat → Int32} {a0 : Int32} {qR : Int32 × (Nat → Int32)} (hf : f_X2_put P_length P_signs a0 = some qR) : Sem E yX2_put cX2_put 2 none 1 [.ref (eA E 24), .int a0] (hX, hR, hL, hT, hK, hS, (P_length, P_signs), hM) (none, (hX, hR, hL, hT, hK, hS, (qR.1, qR.2), hM)) := by
  refine Sem.mk (lv := [(0, .ref (eA E 24)), (1, .int a0)]) (by decide) (Nat.le_of_ble_eq_true rfl) rfl ?_
  rw [f_X2_put] at hf
  refine r_aload_n dX2_put_0 0 rfl ?_
  refine r_get (v := .int P_length) in_X2 24 ga_P rfl 1 (by decide) wd_207 rfl rfl dX2_put_1 ?_
  refine r_sipush (v := 300) dX2_put_4 (by decide) ?_
  refine r_icmp_ge (tgt := 31) dX2_put_7 (by decide) (fun c1 => ?_) (fun c1 => ?_)
  · have hf := hf_pos c1 hf
    have e9 := Option.some.inj hf
    subst e9
    exact r_vret rfl dX2_put_31
  · have hf := hf_neg c1 hf
    refine r_aload_n dX2_put_10 0 rfl ?_
    refine r_get (v := .ref (eA E 25)) in_X2 24 ga_P rfl 0 (by decide) wd_206 rfl rfl dX2_put_11 ?_
    refine r_aload_n dX2_put_14 0 rfl ?_
    refine r_get (v := .int P_length) in_X2 24 ga_P rfl 1 (by decide) wd_207 rfl rfl dX2_put_15 ?_
    refine r_iload_n dX2_put_18 1 rfl ?_
    refine r_i2b dX2_put_19 ?_
    obtain ⟨i2, hf⟩ := hf_in hf
    refine r_bast 25 ga_P_signs sa_P_signs i2 dX2_put_20 ?_
    refine r_aload_n dX2_put_21 0 rfl ?_
    refine r_dup dX2_put_22 rfl ?_
    refine r_get (v := .int P_length) in_X2 24 ga_P rfl 1 (by decide) wd_207 rfl rfl dX2_put_23 ?_
    refine r_iconst (v := 1) dX2_put_26 (by decide) ?_
    refine r_iadd dX2_put_27 ?_
    refine r_put in_X2 tyX2_ok nmX2 24 ga_P rfl 1 (by decide) wd_207 rfl rfl pfI (Nat.le_of_ble_eq_true rfl) sa_P_length dX2_put_28 ?_
    have e9 := Option.some.inj hf
    subst e9
    exact r_vret rfl dX2_put_31
-- DuelSamples$Reply.putWord
def lp_X2_putWord_2 (a0 : Nat) : Nat → Int32 → Int32 → (Nat → Int32) → Option (Int32 × (Nat → Int32))
  | 0, _, _, _ => none
  | n9 + 1, v2_2, P_length_2, P_signs_2 => Option.bind (f_J0_length_8abf5 a0) (fun (q1 : Int32) => if q1 ≤ v2_2 then some (P_length_2, P_signs_2) else Option.bind (f_J0_charAt_5068e a0 v2_2) (fun (q3 : Int32) => Option.bind (f_X2_put P_length_2 P_signs_2 q3) (fun (q4 : Int32 × (Nat → Int32)) => lp_X2_putWord_2 a0 n9 (v2_2 + 1) q4.1 q4.2)))
def f_X2_putWord (P_length : Int32) (P_signs : Nat → Int32) (a0 : Nat) : Option (Int32 × (Nat → Int32)) := Option.bind (lp_X2_putWord_2 a0 FU 0 P_length P_signs) (fun (q5 : Int32 × (Nat → Int32)) => some (q5.1, q5.2))
theorem hy_X2_putWord : yX2_putWord.cls ≠ "java/lang/invoke/MethodHandle" ∧ yX2_putWord.cls ≠ "java/lang/invoke/VarHandle" ∧ (parseMethodDescriptor yX2_putWord.desc).map (fun d => d.parameters.length) = some 1 := by decide +kernel
set_option maxHeartbeats 4000000 in
set_option maxRecDepth 100000 in
theorem w_X2_putWord_2 {E : EN} {res : Option Value × Hp} {hX : TX} {hR : TR} {hL : TC} {hT : TC} {hK : TK} {hS : TS} {hM : TM} {a0 : Nat} : ∀ (n9 : Nat) (v2_2 : Int32) (P_length_2 : Int32) (P_signs_2 : Nat → Int32) (qL : Int32 × (Nat → Int32)), lp_X2_putWord_2 a0 n9 v2_2 P_length_2 P_signs_2 = some qL → (Wa E yX2_putWord cX2_putWord 3 none 5 res 25 [] [] (hX, hR, hL, hT, hK, hS, (qL.1, qL.2), hM)) → Wa E yX2_putWord cX2_putWord 3 none 5 res 2 [(0, .ref (eA E 24)), (1, .ref (eK E a0)), (2, .int v2_2)] [] (hX, hR, hL, hT, hK, hS, (P_length_2, P_signs_2), hM) := by
  intro n9
  induction n9 with
  | zero =>
    intro v2_2 P_length_2 P_signs_2 qL hf
    exact nomatch (show (none : Option (Int32 × (Nat → Int32))) = some qL from hf)
  | succ n9 ih =>
    intro v2_2 P_length_2 P_signs_2 qL hf kx0
    rw [lp_X2_putWord_2] at hf
    refine r_iload_n dX2_putWord_2 2 rfl ?_
    refine r_aload_n dX2_putWord_3 1 rfl ?_
    obtain ⟨q1, hq1, hf⟩ := hf_bind hf
    refine r_callVi (As := []) (b := (eK E a0)) (st := [.int v2_2]) (s_J0_length_8abf5 hq1) (by decide) (by decide) wd_719 wd_642 wd_643 wd_79 wd_644 hy_J0_length_8abf5 (Rc.str (J0_length_8abf5_lt9 hq1)) rfl (Nat.le_of_ble_eq_true rfl) dX2_putWord_4 ?_
    refine r_icmp_ge (tgt := 25) dX2_putWord_7 (by decide) (fun c2 => ?_) (fun c2 => ?_)
    · have hf := hf_pos c2 hf
      have e9 := Option.some.inj hf
      subst e9
      exact (Wa.sub [] rfl kx0)
    · have hf := hf_neg c2 hf
      refine r_aload_n dX2_putWord_10 0 rfl ?_
      refine r_aload_n dX2_putWord_11 1 rfl ?_
      refine r_iload_n dX2_putWord_12 2 rfl ?_
      obtain ⟨q3, hq3, hf⟩ := hf_bind hf
      refine r_callVi (As := [.int v2_2]) (b := (eK E a0)) (st := [.ref (eA E 24)]) (s_J0_charAt_5068e hq3) (by decide) (by decide) wd_720 wd_652 wd_653 wd_79 wd_654 hy_J0_charAt_5068e (Rc.str (J0_charAt_5068e_lt9 hq3)) rfl (Nat.le_of_ble_eq_true rfl) dX2_putWord_13 ?_
      obtain ⟨q4, hq4, hf⟩ := hf_bind hf
      refine r_callVv (As := [.int q3]) (b := (eA E 24)) (st := []) (s_X2_put hq4) (by decide) (by decide) wd_721 wd_703 wd_704 wd_73 wd_705 hy_X2_put (Rc.obj 24 ga_P rfl) rfl (Nat.le_of_ble_eq_true rfl) dX2_putWord_16 ?_
      refine r_iinc (v := (v2_2 + 1)) (lv2 := [(2, .int (v2_2 + 1)), (0, .ref (eA E 24)), (1, .ref (eK E a0))]) dX2_putWord_19 2 rfl rfl (by decide) rfl ?_
      refine r_goto (tgt := 2) dX2_putWord_22 (by decide) ?_
      exact (Wa.sub [1, 2, 0] rfl (ih _ _ _ _ hf kx0))
set_option maxHeartbeats 4000000 in
set_option maxRecDepth 100000 in
theorem s_X2_putWord {E : EN} {hX : TX} {hR : TR} {hL : TC} {hT : TC} {hK : TK} {hS : TS} {hM : TM} {P_length : Int32} {P_signs : Nat → Int32} {a0 : Nat} {qR : Int32 × (Nat → Int32)} (hf : f_X2_putWord P_length P_signs a0 = some qR) : Sem E yX2_putWord cX2_putWord 3 none 5 [.ref (eA E 24), .ref (eK E a0)] (hX, hR, hL, hT, hK, hS, (P_length, P_signs), hM) (none, (hX, hR, hL, hT, hK, hS, (qR.1, qR.2), hM)) := by
  refine Sem.mk (lv := [(0, .ref (eA E 24)), (1, .ref (eK E a0))]) (by decide) (Nat.le_of_ble_eq_true rfl) rfl ?_
  rw [f_X2_putWord] at hf
  refine r_iconst (v := 0) dX2_putWord_0 (by decide) ?_
  refine r_istore_n (lv2 := [(2, .int 0), (0, .ref (eA E 24)), (1, .ref (eK E a0))]) dX2_putWord_1 rfl (by decide) rfl ?_
  obtain ⟨q5, hq5, hf⟩ := hf_bind hf
  refine (Wa.sub [1, 2, 0] rfl (w_X2_putWord_2 _ _ _ _ _ hq5 ?_))
  have e9 := Option.some.inj hf
  subst e9
  exact r_vret rfl dX2_putWord_25
-- DuelSamples$Reply.putNumber
def f_X2_putNumber (P_length : Int32) (P_signs : Nat → Int32) (a0 : Int32) : Option (Int32 × (Nat → Int32)) := Option.bind (if a0 < 10 then some (P_length, P_signs) else Option.bind (f_X2_put P_length P_signs (48 + ((a0 / 10) - (a0 / 10) / 10 * 10))) (fun (q3 : Int32 × (Nat → Int32)) => some (q3.1, q3.2))) (fun (q2 : Int32 × (Nat → Int32)) => Option.bind (f_X2_put q2.1 q2.2 (48 + (a0 - a0 / 10 * 10))) (fun (q4 : Int32 × (Nat → Int32)) => some (q4.1, q4.2)))
theorem hy_X2_putNumber : yX2_putNumber.cls ≠ "java/lang/invoke/MethodHandle" ∧ yX2_putNumber.cls ≠ "java/lang/invoke/VarHandle" ∧ (parseMethodDescriptor yX2_putNumber.desc).map (fun d => d.parameters.length) = some 1 := by decide +kernel
set_option maxHeartbeats 4000000 in
set_option maxRecDepth 100000 in
theorem s_X2_putNumber {E : EN} {hX : TX} {hR : TR} {hL : TC} {hT : TC} {hK : TK} {hS : TS} {hM : TM} {P_length : Int32} {P_signs : Nat → Int32} {a0 : Int32} {qR : Int32 × (Nat → Int32)} (hf : f_X2_putNumber P_length P_signs a0 = some qR) : Sem E yX2_putNumber cX2_putNumber 2 none 2 [.ref (eA E 24), .int a0] (hX, hR, hL, hT, hK, hS, (P_length, P_signs), hM) (none, (hX, hR, hL, hT, hK, hS, (qR.1, qR.2), hM)) := by
  refine Sem.mk (lv := [(0, .ref (eA E 24)), (1, .int a0)]) (by decide) (Nat.le_of_ble_eq_true rfl) rfl ?_
  rw [f_X2_putNumber] at hf
  refine r_iload_n dX2_putNumber_0 1 rfl ?_
  refine r_bipush (v := 10) dX2_putNumber_1 (by decide) ?_
  obtain ⟨q2, hq2, hf⟩ := hf_bind hf
  have kj2 : Wa E yX2_putNumber cX2_putNumber 2 none 2 (none, (hX, hR, hL, hT, hK, hS, (qR.1, qR.2), hM)) 20 [(0, .ref (eA E 24)), (1, .int a0)] [] (hX, hR, hL, hT, hK, hS, (q2.1, q2.2), hM) := by
    refine r_aload_n dX2_putNumber_20 0 rfl ?_
    refine r_bipush (v := 48) dX2_putNumber_21 (by decide) ?_
    refine r_iload_n dX2_putNumber_23 1 rfl ?_
    refine r_bipush (v := 10) dX2_putNumber_24 (by decide) ?_
    refine r_irem dX2_putNumber_26 (by decide) ?_
    refine r_iadd dX2_putNumber_27 ?_
    obtain ⟨q4, hq4, hf⟩ := hf_bind hf
    refine r_callVv (As := [.int (48 + (a0 - a0 / 10 * 10))]) (b := (eA E 24)) (st := []) (s_X2_put hq4) (by decide) (by decide) wd_721 wd_703 wd_704 wd_73 wd_705 hy_X2_put (Rc.obj 24 ga_P rfl) rfl (Nat.le_of_ble_eq_true rfl) dX2_putNumber_28 ?_
    have e9 := Option.some.inj hf
    subst e9
    exact r_vret rfl dX2_putNumber_31
  have hf := hq2
  refine r_icmp_lt (tgt := 20) dX2_putNumber_3 (by decide) (fun c1 => ?_) (fun c1 => ?_)
  · have hf := hf_pos c1 hf
    have e9 := Option.some.inj hf
    subst e9
    exact kj2
  · have hf := hf_neg c1 hf
    refine r_aload_n dX2_putNumber_6 0 rfl ?_
    refine r_bipush (v := 48) dX2_putNumber_7 (by decide) ?_
    refine r_iload_n dX2_putNumber_9 1 rfl ?_
    refine r_bipush (v := 10) dX2_putNumber_10 (by decide) ?_
    refine r_idiv dX2_putNumber_12 (by decide) ?_
    refine r_bipush (v := 10) dX2_putNumber_13 (by decide) ?_
    refine r_irem dX2_putNumber_15 (by decide) ?_
    refine r_iadd dX2_putNumber_16 ?_
    obtain ⟨q3, hq3, hf⟩ := hf_bind hf
    refine r_callVv (As := [.int (48 + ((a0 / 10) - (a0 / 10) / 10 * 10))]) (b := (eA E 24)) (st := []) (s_X2_put hq3) (by decide) (by decide) wd_721 wd_703 wd_704 wd_73 wd_705 hy_X2_put (Rc.obj 24 ga_P rfl) rfl (Nat.le_of_ble_eq_true rfl) dX2_putNumber_17 ?_
    have e9 := Option.some.inj hf
    subst e9
    exact kj2
-- DuelSamples$Reply.putUnits
def lp_X2_putUnits_15 (a0 : Int32) : Nat → Int32 → Int32 → Int32 → (Nat → Int32) → Option (Int32 × (Nat → Int32))
  | 0, _, _, _, _ => none
  | n9 + 1, v2_15, v3_15, P_length_15, P_signs_15 => if 12 ≤ v3_15 then some (P_length_15, P_signs_15) else Option.bind (if ((a0 >>> (v3_15 &&& 31)) &&& 1) = 1 then Option.bind (if v2_15 = 0 then some (P_length_15, P_signs_15) else Option.bind (f_X2_put P_length_15 P_signs_15 43) (fun (q7 : Int32 × (Nat → Int32)) => some (q7.1, q7.2))) (fun (q6 : Int32 × (Nat → Int32)) => Option.bind (f_X2_putNumber q6.1 q6.2 v3_15) (fun (q8 : Int32 × (Nat → Int32)) => some (1, q8.1, q8.2))) else some (v2_15, P_length_15, P_signs_15)) (fun (q4 : Int32 × Int32 × (Nat → Int32)) => lp_X2_putUnits_15 a0 n9 q4.1 (v3_15 + 1) q4.2.1 q4.2.2)
def f_X2_putUnits (P_length : Int32) (P_signs : Nat → Int32) (a0 : Int32) : Option (Int32 × (Nat → Int32)) := if a0 = 0 then Option.bind (f_X2_put P_length P_signs 45) (fun (q10 : Int32 × (Nat → Int32)) => some (q10.1, q10.2)) else Option.bind (lp_X2_putUnits_15 a0 FU 0 0 P_length P_signs) (fun (q9 : Int32 × (Nat → Int32)) => some (q9.1, q9.2))
theorem hy_X2_putUnits : yX2_putUnits.cls ≠ "java/lang/invoke/MethodHandle" ∧ yX2_putUnits.cls ≠ "java/lang/invoke/VarHandle" ∧ (parseMethodDescriptor yX2_putUnits.desc).map (fun d => d.parameters.length) = some 1 := by decide +kernel
set_option maxHeartbeats 4000000 in
set_option maxRecDepth 100000 in
theorem w_X2_putUnits_15 {E : EN} {res : Option Value × Hp} {hX : TX} {hR : TR} {hL : TC} {hT : TC} {hK : TK} {hS : TS} {hM : TM} {a0 : Int32} : ∀ (n9 : Nat) (v2_15 : Int32) (v3_15 : Int32) (P_length_15 : Int32) (P_signs_15 : Nat → Int32) (qL : Int32 × (Nat → Int32)), lp_X2_putUnits_15 a0 n9 v2_15 v3_15 P_length_15 P_signs_15 = some qL → (Wa E yX2_putUnits cX2_putUnits 4 none 3 res 53 [] [] (hX, hR, hL, hT, hK, hS, (qL.1, qL.2), hM)) → Wa E yX2_putUnits cX2_putUnits 4 none 3 res 15 [(0, .ref (eA E 24)), (1, .int a0), (2, .int v2_15), (3, .int v3_15)] [] (hX, hR, hL, hT, hK, hS, (P_length_15, P_signs_15), hM) := by
  intro n9
  induction n9 with
  | zero =>
    intro v2_15 v3_15 P_length_15 P_signs_15 qL hf
    exact nomatch (show (none : Option (Int32 × (Nat → Int32))) = some qL from hf)
  | succ n9 ih =>
    intro v2_15 v3_15 P_length_15 P_signs_15 qL hf kx0
    rw [lp_X2_putUnits_15] at hf
    refine r_iload_n dX2_putUnits_15 3 rfl ?_
    refine r_bipush (v := 12) dX2_putUnits_16 (by decide) ?_
    refine r_icmp_ge (tgt := 53) dX2_putUnits_18 (by decide) (fun c2 => ?_) (fun c2 => ?_)
    · have hf := hf_pos c2 hf
      have e9 := Option.some.inj hf
      subst e9
      exact (Wa.sub [] rfl kx0)
    · have hf := hf_neg c2 hf
      refine r_iload_n dX2_putUnits_21 1 rfl ?_
      refine r_iload_n dX2_putUnits_22 3 rfl ?_
      refine r_ishr dX2_putUnits_23 ?_
      refine r_iconst (v := 1) dX2_putUnits_24 (by decide) ?_
      refine r_iand dX2_putUnits_25 ?_
      refine r_iconst (v := 1) dX2_putUnits_26 (by decide) ?_
      obtain ⟨q4, hq4, hf⟩ := hf_bind hf
      have kj4 : Wa E yX2_putUnits cX2_putUnits 4 none 3 res 47 [(0, .ref (eA E 24)), (1, .int a0), (2, .int q4.1), (3, .int v3_15)] [] (hX, hR, hL, hT, hK, hS, (q4.2.1, q4.2.2), hM) := by
        refine r_iinc (v := (v3_15 + 1)) (lv2 := [(3, .int (v3_15 + 1)), (0, .ref (eA E 24)), (1, .int a0), (2, .int q4.1)]) dX2_putUnits_47 3 rfl rfl (by decide) rfl ?_
        refine r_goto (tgt := 15) dX2_putUnits_50 (by decide) ?_
        exact (Wa.sub [1, 2, 3, 0] rfl (ih _ _ _ _ _ hf kx0))
      have hf := hq4
      refine r_icmp_ne (tgt := 47) dX2_putUnits_27 (by decide) (fun c3 => ?_) (fun c3 => ?_)
      · have hf := hf_neg c3 hf
        have e9 := Option.some.inj hf
        subst e9
        exact kj4
      · have hf := hf_pos c3 hf
        refine r_iload_n dX2_putUnits_30 2 rfl ?_
        obtain ⟨q6, hq6, hf⟩ := hf_bind hf
        have kj6 : Wa E yX2_putUnits cX2_putUnits 4 none 3 res 40 [(0, .ref (eA E 24)), (1, .int a0), (3, .int v3_15)] [] (hX, hR, hL, hT, hK, hS, (q6.1, q6.2), hM) := by
          refine r_aload_n dX2_putUnits_40 0 rfl ?_
          refine r_iload_n dX2_putUnits_41 2 rfl ?_
          obtain ⟨q8, hq8, hf⟩ := hf_bind hf
          refine r_callVv (As := [.int v3_15]) (b := (eA E 24)) (st := []) (s_X2_putNumber hq8) (by decide) (by decide) wd_734 wd_727 wd_728 wd_73 wd_729 hy_X2_putNumber (Rc.obj 24 ga_P rfl) rfl (Nat.le_of_ble_eq_true rfl) dX2_putUnits_42 ?_
          refine r_iconst (v := 1) dX2_putUnits_45 (by decide) ?_
          refine r_istore_n (lv2 := [(2, .int 1), (0, .ref (eA E 24)), (1, .int a0), (3, .int v3_15)]) dX2_putUnits_46 rfl (by decide) rfl ?_
          have e9 := Option.some.inj hf
          subst e9
          exact (Wa.sub [1, 2, 0, 3] rfl kj4)
        have hf := hq6
        refine r_if_eq (tgt := 40) dX2_putUnits_31 (by decide) (fun c5 => ?_) (fun c5 => ?_)
        · have hf := hf_pos c5 hf
          have e9 := Option.some.inj hf
          subst e9
          exact (Wa.sub [0, 1, 3] rfl kj6)
        · have hf := hf_neg c5 hf
          refine r_aload_n dX2_putUnits_34 0 rfl ?_
          refine r_bipush (v := 43) dX2_putUnits_35 (by decide) ?_
          obtain ⟨q7, hq7, hf⟩ := hf_bind hf
          refine r_callVv (As := [.int 43]) (b := (eA E 24)) (st := []) (s_X2_put hq7) (by decide) (by decide) wd_721 wd_703 wd_704 wd_73 wd_705 hy_X2_put (Rc.obj 24 ga_P rfl) rfl (Nat.le_of_ble_eq_true rfl) dX2_putUnits_37 ?_
          have e9 := Option.some.inj hf
          subst e9
          exact (Wa.sub [0, 1, 3] rfl kj6)
set_option maxHeartbeats 4000000 in
set_option maxRecDepth 100000 in
theorem s_X2_putUnits {E : EN} {hX : TX} {hR : TR} {hL : TC} {hT : TC} {hK : TK} {hS : TS} {hM : TM} {P_length : Int32} {P_signs : Nat → Int32} {a0 : Int32} {qR : Int32 × (Nat → Int32)} (hf : f_X2_putUnits P_length P_signs a0 = some qR) : Sem E yX2_putUnits cX2_putUnits 4 none 3 [.ref (eA E 24), .int a0] (hX, hR, hL, hT, hK, hS, (P_length, P_signs), hM) (none, (hX, hR, hL, hT, hK, hS, (qR.1, qR.2), hM)) := by
  refine Sem.mk (lv := [(0, .ref (eA E 24)), (1, .int a0)]) (by decide) (Nat.le_of_ble_eq_true rfl) rfl ?_
  rw [f_X2_putUnits] at hf
  refine r_iload_n dX2_putUnits_0 1 rfl ?_
  refine r_if_ne (tgt := 11) dX2_putUnits_1 (by decide) (fun c1 => ?_) (fun c1 => ?_)
  · have hf := hf_neg c1 hf
    refine r_iconst (v := 0) dX2_putUnits_11 (by decide) ?_
    refine r_istore_n (lv2 := [(2, .int 0), (0, .ref (eA E 24)), (1, .int a0)]) dX2_putUnits_12 rfl (by decide) rfl ?_
    refine r_iconst (v := 0) dX2_putUnits_13 (by decide) ?_
    refine r_istore_n (lv2 := [(3, .int 0), (2, .int 0), (0, .ref (eA E 24)), (1, .int a0)]) dX2_putUnits_14 rfl (by decide) rfl ?_
    obtain ⟨q9, hq9, hf⟩ := hf_bind hf
    refine (Wa.sub [2, 3, 1, 0] rfl (w_X2_putUnits_15 _ _ _ _ _ _ hq9 ?_))
    have e9 := Option.some.inj hf
    subst e9
    exact r_vret rfl dX2_putUnits_53
  · have hf := hf_pos c1 hf
    refine r_aload_n dX2_putUnits_4 0 rfl ?_
    refine r_bipush (v := 45) dX2_putUnits_5 (by decide) ?_
    obtain ⟨q10, hq10, hf⟩ := hf_bind hf
    refine r_callVv (As := [.int 45]) (b := (eA E 24)) (st := []) (s_X2_put hq10) (by decide) (by decide) wd_721 wd_703 wd_704 wd_73 wd_705 hy_X2_put (Rc.obj 24 ga_P rfl) rfl (Nat.le_of_ble_eq_true rfl) dX2_putUnits_7 ?_
    have e9 := Option.some.inj hf
    subst e9
    exact r_vret rfl dX2_putUnits_10
-- DuelSamples$Reply.sign
def f_X2_sign (P_length : Int32) (P_signs : Nat → Int32) (a0 : Int32) : Option (Int32) := if a0 < 0 then some (-5) else if P_length ≤ a0 then some (-5) else if 300 ≤ a0 then some (-5) else if inB a0 300 then some (P_signs (Int32.toNatClampNeg a0)) else none
theorem hy_X2_sign : yX2_sign.cls ≠ "java/lang/invoke/MethodHandle" ∧ yX2_sign.cls ≠ "java/lang/invoke/VarHandle" ∧ (parseMethodDescriptor yX2_sign.desc).map (fun d => d.parameters.length) = some 1 := by decide +kernel
set_option maxHeartbeats 4000000 in
set_option maxRecDepth 100000 in
theorem s_X2_sign {E : EN} {hX : TX} {hR : TR} {hL : TC} {hT : TC} {hK : TK} {hS : TS} {hM : TM} {P_length : Int32} {P_signs : Nat → Int32} {a0 : Int32} {qR : Int32} (hf : f_X2_sign P_length P_signs a0 = some qR) : Sem E yX2_sign cX2_sign 2 (some .int) 1 [.ref (eA E 24), .int a0] (hX, hR, hL, hT, hK, hS, (P_length, P_signs), hM) (some (.int qR), (hX, hR, hL, hT, hK, hS, (P_length, P_signs), hM)) := by
  refine Sem.mk (lv := [(0, .ref (eA E 24)), (1, .int a0)]) (by decide) (Nat.le_of_ble_eq_true rfl) rfl ?_
  rw [f_X2_sign] at hf
  refine r_iload_n dX2_sign_0 1 rfl ?_
  refine r_if_lt (tgt := 28) dX2_sign_1 (by decide) (fun c1 => ?_) (fun c1 => ?_)
  · have hf := hf_pos c1 hf
    refine r_bipush (v := (-5)) dX2_sign_28 (by decide) ?_
    have e9 := Option.some.inj hf
    subst e9
    exact r_iret rfl dX2_sign_30
  · have hf := hf_neg c1 hf
    refine r_iload_n dX2_sign_4 1 rfl ?_
    refine r_aload_n dX2_sign_5 0 rfl ?_
    refine r_get (v := .int P_length) in_X2 24 ga_P rfl 1 (by decide) wd_207 rfl rfl dX2_sign_6 ?_
    refine r_icmp_ge (tgt := 28) dX2_sign_9 (by decide) (fun c2 => ?_) (fun c2 => ?_)
    · have hf := hf_pos c2 hf
      refine r_bipush (v := (-5)) dX2_sign_28 (by decide) ?_
      have e9 := Option.some.inj hf
      subst e9
      exact r_iret rfl dX2_sign_30
    · have hf := hf_neg c2 hf
      refine r_iload_n dX2_sign_12 1 rfl ?_
      refine r_sipush (v := 300) dX2_sign_13 (by decide) ?_
      refine r_icmp_ge (tgt := 28) dX2_sign_16 (by decide) (fun c3 => ?_) (fun c3 => ?_)
      · have hf := hf_pos c3 hf
        refine r_bipush (v := (-5)) dX2_sign_28 (by decide) ?_
        have e9 := Option.some.inj hf
        subst e9
        exact r_iret rfl dX2_sign_30
      · have hf := hf_neg c3 hf
        refine r_aload_n dX2_sign_19 0 rfl ?_
        refine r_get (v := .ref (eA E 25)) in_X2 24 ga_P rfl 0 (by decide) wd_206 rfl rfl dX2_sign_20 ?_
        refine r_iload_n dX2_sign_23 1 rfl ?_
        obtain ⟨i4, hf⟩ := hf_in hf
        refine r_bald (f := P_signs) 25 ga_P_signs i4 dX2_sign_24 ?_
        refine r_goto (tgt := 30) dX2_sign_25 (by decide) ?_
        have e9 := Option.some.inj hf
        subst e9
        exact r_iret rfl dX2_sign_30
