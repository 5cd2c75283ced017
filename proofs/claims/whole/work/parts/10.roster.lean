def f_X3_fits  (a0 : Int32) (a1 : Int32) : Option (Int32) := if a0 < 0 then some 0 else if 5 ≤ a0 then some 0 else if a1 < 0 then some 0 else if inB a0 5 then if ((([12, 99, 3, 99, 99] : List Int32)).getD a0.toNatClampNeg 0) < a1 then some 0 else some 1 else none
theorem hy_X3_fits : yX3_fits.cls ≠ "java/lang/invoke/MethodHandle" ∧ yX3_fits.cls ≠ "java/lang/invoke/VarHandle" ∧ (parseMethodDescriptor yX3_fits.desc).map (fun d => d.parameters.length) = some 2 := by decide +kernel
set_option maxHeartbeats 4000000 in
set_option maxRecDepth 100000 in
theorem s_X3_fits {E : EN} {hX : TX} {hR : TR} {hL : TC} {hT : TC} {hK : TK} {hS : TS} {hP : TP} {hM : TM}  {a0 : Int32} {a1 : Int32} {q9 : Int32} (hf : f_X3_fits a0 a1 = some q9) : Sem E yX3_fits cX3_fits 2 (some .boolean) 1 [.int a0, .int a1] (hX, hR, hL, hT, hK, hS, hP, hM) (some (.int q9), (hX, hR, hL, hT, hK, hS, hP, hM)) := by
  refine Sem.mk (lv := [(0, .int a0), (1, .int a1)]) (by decide) (Nat.le_of_ble_eq_true rfl) rfl ?_
  rw [f_X3_fits] at hf
  refine r_iload_n dX3_fits_0 0 rfl ?_
  refine r_if_lt (tgt := 29) dX3_fits_1 (by decide) (fun c1 => ?_) (fun c1 => ?_)
  · have hf := hf_pos c1 hf
    refine r_iconst (v := 0) dX3_fits_29 (by decide) ?_
    have e9 := Option.some.inj hf
    subst e9
    exact r_zret rfl rfl dX3_fits_30
  · have hf := hf_neg c1 hf
    refine r_iload_n dX3_fits_4 0 rfl ?_
    refine r_most wd_249 dX3_fits_5 ?_
    refine r_mostlen dX3_fits_8 ?_
    refine r_icmp_ge (tgt := 29) dX3_fits_9 (by decide) (fun c2 => ?_) (fun c2 => ?_)
    · have hf := hf_pos c2 hf
      refine r_iconst (v := 0) dX3_fits_29 (by decide) ?_
      have e9 := Option.some.inj hf
      subst e9
      exact r_zret rfl rfl dX3_fits_30
    · have hf := hf_neg c2 hf
      refine r_iload_n dX3_fits_12 1 rfl ?_
      refine r_if_lt (tgt := 29) dX3_fits_13 (by decide) (fun c3 => ?_) (fun c3 => ?_)
      · have hf := hf_pos c3 hf
        refine r_iconst (v := 0) dX3_fits_29 (by decide) ?_
        have e9 := Option.some.inj hf
        subst e9
        exact r_zret rfl rfl dX3_fits_30
      · have hf := hf_neg c3 hf
        refine r_iload_n dX3_fits_16 1 rfl ?_
        refine r_most wd_249 dX3_fits_17 ?_
        refine r_iload_n dX3_fits_20 0 rfl ?_
        obtain ⟨i4, hf⟩ := hf_in hf
        refine r_mostld i4 dX3_fits_21 ?_
        refine r_icmp_gt (tgt := 29) dX3_fits_22 (by decide) (fun c5 => ?_) (fun c5 => ?_)
        · have hf := hf_pos c5 hf
          refine r_iconst (v := 0) dX3_fits_29 (by decide) ?_
          have e9 := Option.some.inj hf
          subst e9
          exact r_zret rfl rfl dX3_fits_30
        · have hf := hf_neg c5 hf
          refine r_iconst (v := 1) dX3_fits_25 (by decide) ?_
          refine r_goto (tgt := 30) dX3_fits_26 (by decide) ?_
          have e9 := Option.some.inj hf
          subst e9
          exact r_zret rfl rfl dX3_fits_30
def f_X3_has (R_count : Int32) (a0 : Int32) : Option (Int32) := if a0 < 0 then some 0 else if R_count ≤ a0 then some 0 else some 1
theorem hy_X3_has : yX3_has.cls ≠ "java/lang/invoke/MethodHandle" ∧ yX3_has.cls ≠ "java/lang/invoke/VarHandle" ∧ (parseMethodDescriptor yX3_has.desc).map (fun d => d.parameters.length) = some 1 := by decide +kernel
set_option maxHeartbeats 4000000 in
set_option maxRecDepth 100000 in
theorem s_X3_has {E : EN} {hX : TX} {hL : TC} {hT : TC} {hK : TK} {hS : TS} {hP : TP} {hM : TM} {R_count : Int32} {R_changes : Int32} {R_F : Nat → Nat → Int32} {a0 : Int32} {q9 : Int32} (hf : f_X3_has R_count a0 = some q9) : Sem E yX3_has cX3_has 2 (some .boolean) 1 [.ref (eA E 1), .int a0] (hX, (R_count, R_changes, R_F), hL, hT, hK, hS, hP, hM) (some (.int q9), (hX, (R_count, R_changes, R_F), hL, hT, hK, hS, hP, hM)) := by
  refine Sem.mk (lv := [(0, .ref (eA E 1)), (1, .int a0)]) (by decide) (Nat.le_of_ble_eq_true rfl) rfl ?_
  rw [f_X3_has] at hf
  refine r_iload_n dX3_has_0 1 rfl ?_
  refine r_if_lt (tgt := 16) dX3_has_1 (by decide) (fun c1 => ?_) (fun c1 => ?_)
  · have hf := hf_pos c1 hf
    refine r_iconst (v := 0) dX3_has_16 (by decide) ?_
    have e9 := Option.some.inj hf
    subst e9
    exact r_zret rfl rfl dX3_has_17
  · have hf := hf_neg c1 hf
    refine r_iload_n dX3_has_4 1 rfl ?_
    refine r_aload_n dX3_has_5 0 rfl ?_
    refine r_get in_X3 1 rfl rfl 1 (by decide) wd_101 rfl rfl dX3_has_6 ?_
    refine r_icmp_ge (tgt := 16) dX3_has_9 (by decide) (fun c2 => ?_) (fun c2 => ?_)
    · have hf := hf_pos c2 hf
      refine r_iconst (v := 0) dX3_has_16 (by decide) ?_
      have e9 := Option.some.inj hf
      subst e9
      exact r_zret rfl rfl dX3_has_17
    · have hf := hf_neg c2 hf
      refine r_iconst (v := 1) dX3_has_12 (by decide) ?_
      refine r_goto (tgt := 17) dX3_has_13 (by decide) ?_
      have e9 := Option.some.inj hf
      subst e9
      exact r_zret rfl rfl dX3_has_17
def f_X3_fact (R_count : Int32) (R_F : Nat → Nat → Int32) (a0 : Int32) (a1 : Int32) : Option (Int32) := if a0 < 0 then some 0 else if R_count ≤ a0 then some 0 else if a1 < 0 then some 0 else if 5 ≤ a1 then some 0 else if inB a1 5 then if inB a0 12 then some (R_F a1.toNatClampNeg a0.toNatClampNeg) else none else none
theorem hy_X3_fact : yX3_fact.cls ≠ "java/lang/invoke/MethodHandle" ∧ yX3_fact.cls ≠ "java/lang/invoke/VarHandle" ∧ (parseMethodDescriptor yX3_fact.desc).map (fun d => d.parameters.length) = some 2 := by decide +kernel
set_option maxHeartbeats 4000000 in
set_option maxRecDepth 100000 in
theorem s_X3_fact {E : EN} {hX : TX} {hL : TC} {hT : TC} {hK : TK} {hS : TS} {hP : TP} {hM : TM} {R_count : Int32} {R_changes : Int32} {R_F : Nat → Nat → Int32} {a0 : Int32} {a1 : Int32} {q9 : Int32} (hf : f_X3_fact R_count R_F a0 a1 = some q9) : Sem E yX3_fact cX3_fact 3 (some .int) 1 [.ref (eA E 1), .int a0, .int a1] (hX, (R_count, R_changes, R_F), hL, hT, hK, hS, hP, hM) (some (.int q9), (hX, (R_count, R_changes, R_F), hL, hT, hK, hS, hP, hM)) := by
  refine Sem.mk (lv := [(0, .ref (eA E 1)), (1, .int a0), (2, .int a1)]) (by decide) (Nat.le_of_ble_eq_true rfl) rfl ?_
  rw [f_X3_fact] at hf
  refine r_iload_n dX3_fact_0 1 rfl ?_
  refine r_if_lt (tgt := 32) dX3_fact_1 (by decide) (fun c1 => ?_) (fun c1 => ?_)
  · have hf := hf_pos c1 hf
    refine r_iconst (v := 0) dX3_fact_32 (by decide) ?_
    have e9 := Option.some.inj hf
    subst e9
    exact r_iret rfl dX3_fact_33
  · have hf := hf_neg c1 hf
    refine r_iload_n dX3_fact_4 1 rfl ?_
    refine r_aload_n dX3_fact_5 0 rfl ?_
    refine r_get in_X3 1 rfl rfl 1 (by decide) wd_101 rfl rfl dX3_fact_6 ?_
    refine r_icmp_ge (tgt := 32) dX3_fact_9 (by decide) (fun c2 => ?_) (fun c2 => ?_)
    · have hf := hf_pos c2 hf
      refine r_iconst (v := 0) dX3_fact_32 (by decide) ?_
      have e9 := Option.some.inj hf
      subst e9
      exact r_iret rfl dX3_fact_33
    · have hf := hf_neg c2 hf
      refine r_iload_n dX3_fact_12 2 rfl ?_
      refine r_if_lt (tgt := 32) dX3_fact_13 (by decide) (fun c3 => ?_) (fun c3 => ?_)
      · have hf := hf_pos c3 hf
        refine r_iconst (v := 0) dX3_fact_32 (by decide) ?_
        have e9 := Option.some.inj hf
        subst e9
        exact r_iret rfl dX3_fact_33
      · have hf := hf_neg c3 hf
        refine r_iload_n dX3_fact_16 2 rfl ?_
        refine r_iconst (v := 5) dX3_fact_17 (by decide) ?_
        refine r_icmp_ge (tgt := 32) dX3_fact_18 (by decide) (fun c4 => ?_) (fun c4 => ?_)
        · have hf := hf_pos c4 hf
          refine r_iconst (v := 0) dX3_fact_32 (by decide) ?_
          have e9 := Option.some.inj hf
          subst e9
          exact r_iret rfl dX3_fact_33
        · have hf := hf_neg c4 hf
          refine r_aload_n dX3_fact_21 0 rfl ?_
          refine r_get in_X3 1 rfl rfl 0 (by decide) wd_99 rfl rfl dX3_fact_22 ?_
          refine r_iload_n dX3_fact_25 2 rfl ?_
          obtain ⟨i5, hf⟩ := hf_in hf
          refine r_aald i5 dX3_fact_26 ?_
          refine r_iload_n dX3_fact_27 1 rfl ?_
          obtain ⟨i6, hf⟩ := hf_in hf
          refine r_rowld i5 i6 dX3_fact_28 ?_
          refine r_goto (tgt := 33) dX3_fact_29 (by decide) ?_
          have e9 := Option.some.inj hf
          subst e9
          exact r_iret rfl dX3_fact_33
def f_X3_change (R_count : Int32) (R_changes : Int32) (R_F : Nat → Nat → Int32) (a0 : Int32) (a1 : Int32) (a2 : Int32) : Option (Int32 × Int32 × (Nat → Nat → Int32)) := Option.bind (f_X3_has R_count a0) (fun q1 => if q1 = 0 then some ((-2), R_changes, R_F) else if a1 < 0 then some ((-2), R_changes, R_F) else if a1 < 5 then if inB a1 5 then if inB a0 12 then if inB a1 5 then if inB a0 12 then some ((R_F a1.toNatClampNeg a0.toNatClampNeg), (R_changes + 1), (up2 R_F a1.toNatClampNeg a0.toNatClampNeg a2)) else none else none else none else none else some ((-2), R_changes, R_F))
theorem hy_X3_change : yX3_change.cls ≠ "java/lang/invoke/MethodHandle" ∧ yX3_change.cls ≠ "java/lang/invoke/VarHandle" ∧ (parseMethodDescriptor yX3_change.desc).map (fun d => d.parameters.length) = some 3 := by decide +kernel
set_option maxHeartbeats 4000000 in
set_option maxRecDepth 100000 in
theorem s_X3_change {E : EN} {hX : TX} {hL : TC} {hT : TC} {hK : TK} {hS : TS} {hP : TP} {hM : TM} {R_count : Int32} {R_changes : Int32} {R_F : Nat → Nat → Int32} {a0 : Int32} {a1 : Int32} {a2 : Int32} {q9 : Int32 × Int32 × (Nat → Nat → Int32)} (hf : f_X3_change R_count R_changes R_F a0 a1 a2 = some q9) : Sem E yX3_change cX3_change 5 (some .int) 2 [.ref (eA E 1), .int a0, .int a1, .int a2] (hX, (R_count, R_changes, R_F), hL, hT, hK, hS, hP, hM) (some (.int q9.1), (hX, (R_count, q9.2.1, q9.2.2), hL, hT, hK, hS, hP, hM)) := by
  refine Sem.mk (lv := [(0, .ref (eA E 1)), (1, .int a0), (2, .int a1), (3, .int a2)]) (by decide) (Nat.le_of_ble_eq_true rfl) rfl ?_
  rw [f_X3_change] at hf
  refine r_aload_n dX3_change_0 0 rfl ?_
  refine r_iload_n dX3_change_1 1 rfl ?_
  obtain ⟨q1, hq1, hf⟩ := hf_bind hf
  refine r_callVi (As := [.int a0]) (b := (eA E 1)) (st := []) (s_X3_has hq1) (by decide) (by decide) wd_271 wd_264 wd_265 wd_69 wd_266 hy_X3_has (Rc.obj 1 rfl rfl) rfl (Nat.le_of_ble_eq_true rfl) dX3_change_2 ?_
  refine r_if_eq (tgt := 17) dX3_change_5 (by decide) (fun c2 => ?_) (fun c2 => ?_)
  · have hf := hf_pos c2 hf
    refine r_bipush (v := (-2)) dX3_change_17 (by decide) ?_
    have e9 := Option.some.inj hf
    subst e9
    exact r_iret rfl dX3_change_19
  · have hf := hf_neg c2 hf
    refine r_iload_n dX3_change_8 2 rfl ?_
    refine r_if_lt (tgt := 17) dX3_change_9 (by decide) (fun c3 => ?_) (fun c3 => ?_)
    · have hf := hf_pos c3 hf
      refine r_bipush (v := (-2)) dX3_change_17 (by decide) ?_
      have e9 := Option.some.inj hf
      subst e9
      exact r_iret rfl dX3_change_19
    · have hf := hf_neg c3 hf
      refine r_iload_n dX3_change_12 2 rfl ?_
      refine r_iconst (v := 5) dX3_change_13 (by decide) ?_
      refine r_icmp_lt (tgt := 20) dX3_change_14 (by decide) (fun c4 => ?_) (fun c4 => ?_)
      · have hf := hf_pos c4 hf
        refine r_aload_n dX3_change_20 0 rfl ?_
        refine r_get in_X3 1 rfl rfl 0 (by decide) wd_99 rfl rfl dX3_change_21 ?_
        refine r_iload_n dX3_change_24 2 rfl ?_
        obtain ⟨i5, hf⟩ := hf_in hf
        refine r_aald i5 dX3_change_25 ?_
        refine r_iload_n dX3_change_26 1 rfl ?_
        obtain ⟨i6, hf⟩ := hf_in hf
        refine r_rowld i5 i6 dX3_change_27 ?_
        refine r_istore (lv2 := [(4, .int (R_F a1.toNatClampNeg a0.toNatClampNeg)), (0, .ref (eA E 1)), (1, .int a0), (2, .int a1), (3, .int a2)]) dX3_change_28 (by decide) rfl ?_
        refine r_aload_n dX3_change_30 1 rfl ?_
        refine r_get in_X3 1 rfl rfl 0 (by decide) wd_99 rfl rfl dX3_change_31 ?_
        refine r_iload_n dX3_change_34 3 rfl ?_
        obtain ⟨i7, hf⟩ := hf_in hf
        refine r_aald i7 dX3_change_35 ?_
        refine r_iload_n dX3_change_36 2 rfl ?_
        refine r_iload_n dX3_change_37 4 rfl ?_
        obtain ⟨i8, hf⟩ := hf_in hf
        refine r_rowst i7 i8 dX3_change_38 ?_
        refine r_aload_n dX3_change_39 1 rfl ?_
        refine r_dup dX3_change_40 rfl ?_
        refine r_get in_X3 1 rfl rfl 2 (by decide) wd_103 rfl rfl dX3_change_41 ?_
        refine r_iconst (v := 1) dX3_change_44 (by decide) ?_
        refine r_iadd dX3_change_45 ?_
        refine r_put in_X3 tyX3_ok nmX3 1 rfl rfl 2 (by decide) wd_103 rfl rfl pfI (Nat.le_of_ble_eq_true rfl) (h2 := (hX, (R_count, (R_changes + 1), (up2 R_F a1.toNatClampNeg a0.toNatClampNeg a2)), hL, hT, hK, hS, hP, hM)) rfl dX3_change_46 ?_
        refine r_iload dX3_change_49 0 rfl ?_
        have e9 := Option.some.inj hf
        subst e9
        exact r_iret rfl dX3_change_51
      · have hf := hf_neg c4 hf
        refine r_bipush (v := (-2)) dX3_change_17 (by decide) ?_
        have e9 := Option.some.inj hf
        subst e9
        exact r_iret rfl dX3_change_19
def f_X3_removeAll (R_changes : Int32)  : Option (Int32 × Int32) := some (0, (R_changes + 1))
theorem hy_X3_removeAll : yX3_removeAll.cls ≠ "java/lang/invoke/MethodHandle" ∧ yX3_removeAll.cls ≠ "java/lang/invoke/VarHandle" ∧ (parseMethodDescriptor yX3_removeAll.desc).map (fun d => d.parameters.length) = some 0 := by decide +kernel
set_option maxHeartbeats 4000000 in
set_option maxRecDepth 100000 in
theorem s_X3_removeAll {E : EN} {hX : TX} {hL : TC} {hT : TC} {hK : TK} {hS : TS} {hP : TP} {hM : TM} {R_count : Int32} {R_changes : Int32} {R_F : Nat → Nat → Int32}  {q9 : Int32 × Int32} (hf : f_X3_removeAll R_changes = some q9) : Sem E yX3_removeAll cX3_removeAll 1 none 1 [.ref (eA E 1)] (hX, (R_count, R_changes, R_F), hL, hT, hK, hS, hP, hM) (none, (hX, (q9.1, q9.2, R_F), hL, hT, hK, hS, hP, hM)) := by
  refine Sem.mk (lv := [(0, .ref (eA E 1))]) (by decide) (Nat.le_of_ble_eq_true rfl) rfl ?_
  rw [f_X3_removeAll] at hf
  refine r_aload_n dX3_removeAll_0 0 rfl ?_
  refine r_iconst (v := 0) dX3_removeAll_1 (by decide) ?_
  refine r_put in_X3 tyX3_ok nmX3 1 rfl rfl 1 (by decide) wd_101 rfl rfl pfI (Nat.le_of_ble_eq_true rfl) (h2 := (hX, (0, R_changes, R_F), hL, hT, hK, hS, hP, hM)) rfl dX3_removeAll_2 ?_
  refine r_aload_n dX3_removeAll_5 0 rfl ?_
  refine r_dup dX3_removeAll_6 rfl ?_
  refine r_get in_X3 1 rfl rfl 2 (by decide) wd_103 rfl rfl dX3_removeAll_7 ?_
  refine r_iconst (v := 1) dX3_removeAll_10 (by decide) ?_
  refine r_iadd dX3_removeAll_11 ?_
  refine r_put in_X3 tyX3_ok nmX3 1 rfl rfl 2 (by decide) wd_103 rfl rfl pfI (Nat.le_of_ble_eq_true rfl) (h2 := (hX, (0, (R_changes + 1), R_F), hL, hT, hK, hS, hP, hM)) rfl dX3_removeAll_12 ?_
  have e9 := Option.some.inj hf
  subst e9
  exact r_vret rfl dX3_removeAll_15
def f_X3_distance (R_count : Int32) (R_F : Nat → Nat → Int32) (a0 : Int32) (a1 : Int32) : Option (Int32) := Option.bind (f_X3_fact R_count R_F a0 1) (fun q1 => Option.bind (f_X3_fact R_count R_F a1 1) (fun q2 => some (if 0 ≤ (q1 - q2) then (q1 - q2) else 0 - (q1 - q2))))
theorem hy_X3_distance : yX3_distance.cls ≠ "java/lang/invoke/MethodHandle" ∧ yX3_distance.cls ≠ "java/lang/invoke/VarHandle" ∧ (parseMethodDescriptor yX3_distance.desc).map (fun d => d.parameters.length) = some 2 := by decide +kernel
set_option maxHeartbeats 4000000 in
set_option maxRecDepth 100000 in
theorem s_X3_distance {E : EN} {hX : TX} {hL : TC} {hT : TC} {hK : TK} {hS : TS} {hP : TP} {hM : TM} {R_count : Int32} {R_changes : Int32} {R_F : Nat → Nat → Int32} {a0 : Int32} {a1 : Int32} {q9 : Int32} (hf : f_X3_distance R_count R_F a0 a1 = some q9) : Sem E yX3_distance cX3_distance 3 (some .int) 2 [.ref (eA E 1), .int a0, .int a1] (hX, (R_count, R_changes, R_F), hL, hT, hK, hS, hP, hM) (some (.int q9), (hX, (R_count, R_changes, R_F), hL, hT, hK, hS, hP, hM)) := by
  refine Sem.mk (lv := [(0, .ref (eA E 1)), (1, .int a0), (2, .int a1)]) (by decide) (Nat.le_of_ble_eq_true rfl) rfl ?_
  rw [f_X3_distance] at hf
  refine r_aload_n dX3_distance_0 0 rfl ?_
  refine r_iload_n dX3_distance_1 1 rfl ?_
  refine r_iconst (v := 1) dX3_distance_2 (by decide) ?_
  obtain ⟨q1, hq1, hf⟩ := hf_bind hf
  refine r_callVi (As := [.int a0, .int 1]) (b := (eA E 1)) (st := []) (s_X3_fact hq1) (by decide) (by decide) wd_310 wd_311 wd_312 wd_69 wd_313 hy_X3_fact (Rc.obj 1 rfl rfl) rfl (Nat.le_of_ble_eq_true rfl) dX3_distance_3 ?_
  refine r_aload_n dX3_distance_6 0 rfl ?_
  refine r_iload_n dX3_distance_7 2 rfl ?_
  refine r_iconst (v := 1) dX3_distance_8 (by decide) ?_
  obtain ⟨q2, hq2, hf⟩ := hf_bind hf
  refine r_callVi (As := [.int a1, .int 1]) (b := (eA E 1)) (st := [.int q1]) (s_X3_fact hq2) (by decide) (by decide) wd_310 wd_311 wd_312 wd_69 wd_313 hy_X3_fact (Rc.obj 1 rfl rfl) rfl (Nat.le_of_ble_eq_true rfl) dX3_distance_9 ?_
  refine r_isub dX3_distance_12 ?_
  refine r_mabs wd_377 wd_378 wd_75 wd_379 (by decide) (Nat.le_of_ble_eq_true rfl) dX3_distance_13 ?_
  have e9 := Option.some.inj hf
  subst e9
  exact r_iret rfl dX3_distance_16
def lp_X3_sum_4 (R_count : Int32) (R_F : Nat → Nat → Int32) (a0 : Int32) : Nat → Int32 → Int32 → Option (Int32)
  | 0, _, _ => none
  | n9 + 1, v2_4, v3_4 => if R_count ≤ v3_4 then some v2_4 else Option.bind (f_X3_fact R_count R_F v3_4 0) (fun q2 => Option.bind (if q2 ≤ 0 then some v2_4 else Option.bind (f_X3_fact R_count R_F v3_4 a0) (fun q5 => some (v2_4 + q5))) (fun q4 => lp_X3_sum_4 R_count R_F a0 n9 q4 (v3_4 + 1)))
def f_X3_sum (R_count : Int32) (R_F : Nat → Nat → Int32) (a0 : Int32) : Option (Int32) := Option.bind (lp_X3_sum_4 R_count R_F a0 FU 0 0) (fun q6 => some q6)
theorem hy_X3_sum : yX3_sum.cls ≠ "java/lang/invoke/MethodHandle" ∧ yX3_sum.cls ≠ "java/lang/invoke/VarHandle" ∧ (parseMethodDescriptor yX3_sum.desc).map (fun d => d.parameters.length) = some 1 := by decide +kernel
set_option maxHeartbeats 4000000 in
set_option maxRecDepth 100000 in
theorem w_X3_sum_4 {E : EN} {res : Option Value × Hp} {hX : TX} {hL : TC} {hT : TC} {hK : TK} {hS : TS} {hP : TP} {hM : TM} {a0 : Int32} {R_count : Int32} {R_changes : Int32} {R_F : Nat → Nat → Int32} : ∀ (n9 : Nat) (v2_4 : Int32) (v3_4 : Int32) (q9 : Int32), lp_X3_sum_4 R_count R_F a0 n9 v2_4 v3_4 = some q9 → (Wa E yX3_sum cX3_sum 4 (some .int) 2 res 36 [(2, .int q9)] [] (hX, (R_count, R_changes, R_F), hL, hT, hK, hS, hP, hM)) → Wa E yX3_sum cX3_sum 4 (some .int) 2 res 4 [(0, .ref (eA E 1)), (1, .int a0), (2, .int v2_4), (3, .int v3_4)] [] (hX, (R_count, R_changes, R_F), hL, hT, hK, hS, hP, hM) := by
  intro n9
  induction n9 with
  | zero =>
    intro v2_4 v3_4 q9 hf
    exact nomatch (show (none : Option (Int32)) = some q9 from hf)
  | succ n9 ih =>
    intro v2_4 v3_4 q9 hf kx0
    rw [lp_X3_sum_4] at hf
    refine r_iload_n dX3_sum_4 3 rfl ?_
    refine r_aload_n dX3_sum_5 0 rfl ?_
    refine r_get in_X3 1 rfl rfl 1 (by decide) wd_101 rfl rfl dX3_sum_6 ?_
    refine r_icmp_ge (tgt := 36) dX3_sum_9 (by decide) (fun c1 => ?_) (fun c1 => ?_)
    · have hf := hf_pos c1 hf
      have e9 := Option.some.inj hf
      subst e9
      exact (Wa.sub [2] rfl kx0)
    · have hf := hf_neg c1 hf
      refine r_aload_n dX3_sum_12 0 rfl ?_
      refine r_iload_n dX3_sum_13 3 rfl ?_
      refine r_iconst (v := 0) dX3_sum_14 (by decide) ?_
      obtain ⟨q2, hq2, hf⟩ := hf_bind hf
      refine r_callVi (As := [.int v3_4, .int 0]) (b := (eA E 1)) (st := []) (s_X3_fact hq2) (by decide) (by decide) wd_310 wd_311 wd_312 wd_69 wd_313 hy_X3_fact (Rc.obj 1 rfl rfl) rfl (Nat.le_of_ble_eq_true rfl) dX3_sum_15 ?_
      obtain ⟨q4, hq4, hf⟩ := hf_bind hf
      have kj4 : Wa E yX3_sum cX3_sum 4 (some .int) 2 res 30 [(0, .ref (eA E 1)), (1, .int a0), (2, .int q4), (3, .int v3_4)] [] (hX, (R_count, R_changes, R_F), hL, hT, hK, hS, hP, hM) := by
        refine r_iinc (v := (v3_4 + 1)) (lv2 := [(3, .int (v3_4 + 1)), (0, .ref (eA E 1)), (1, .int a0), (2, .int q4)]) dX3_sum_30 3 rfl rfl (by decide) rfl ?_
        refine r_goto (tgt := 4) dX3_sum_33 (by decide) ?_
        exact (Wa.sub [1, 2, 3, 0] rfl (ih _ _ _ hf kx0))
      have hf := hq4
      refine r_if_le (tgt := 30) dX3_sum_18 (by decide) (fun c3 => ?_) (fun c3 => ?_)
      · have hf := hf_pos c3 hf
        have e9 := Option.some.inj hf
        subst e9
        exact kj4
      · have hf := hf_neg c3 hf
        refine r_iload_n dX3_sum_21 2 rfl ?_
        refine r_aload_n dX3_sum_22 0 rfl ?_
        refine r_iload_n dX3_sum_23 3 rfl ?_
        refine r_iload_n dX3_sum_24 1 rfl ?_
        obtain ⟨q5, hq5, hf⟩ := hf_bind hf
        refine r_callVi (As := [.int v3_4, .int a0]) (b := (eA E 1)) (st := [.int v2_4]) (s_X3_fact hq5) (by decide) (by decide) wd_310 wd_311 wd_312 wd_69 wd_313 hy_X3_fact (Rc.obj 1 rfl rfl) rfl (Nat.le_of_ble_eq_true rfl) dX3_sum_25 ?_
        refine r_iadd dX3_sum_28 ?_
        refine r_istore_n (lv2 := [(2, .int (v2_4 + q5)), (0, .ref (eA E 1)), (1, .int a0), (3, .int v3_4)]) dX3_sum_29 rfl (by decide) rfl ?_
        have e9 := Option.some.inj hf
        subst e9
        exact (Wa.sub [1, 2, 0, 3] rfl kj4)
set_option maxHeartbeats 4000000 in
set_option maxRecDepth 100000 in
theorem s_X3_sum {E : EN} {hX : TX} {hL : TC} {hT : TC} {hK : TK} {hS : TS} {hP : TP} {hM : TM} {R_count : Int32} {R_changes : Int32} {R_F : Nat → Nat → Int32} {a0 : Int32} {q9 : Int32} (hf : f_X3_sum R_count R_F a0 = some q9) : Sem E yX3_sum cX3_sum 4 (some .int) 2 [.ref (eA E 1), .int a0] (hX, (R_count, R_changes, R_F), hL, hT, hK, hS, hP, hM) (some (.int q9), (hX, (R_count, R_changes, R_F), hL, hT, hK, hS, hP, hM)) := by
  refine Sem.mk (lv := [(0, .ref (eA E 1)), (1, .int a0)]) (by decide) (Nat.le_of_ble_eq_true rfl) rfl ?_
  rw [f_X3_sum] at hf
  refine r_iconst (v := 0) dX3_sum_0 (by decide) ?_
  refine r_istore_n (lv2 := [(2, .int 0), (0, .ref (eA E 1)), (1, .int a0)]) dX3_sum_1 rfl (by decide) rfl ?_
  refine r_iconst (v := 0) dX3_sum_2 (by decide) ?_
  refine r_istore_n (lv2 := [(3, .int 0), (2, .int 0), (0, .ref (eA E 1)), (1, .int a0)]) dX3_sum_3 rfl (by decide) rfl ?_
  obtain ⟨q6, hq6, hf⟩ := hf_bind hf
  refine (Wa.sub [2, 3, 1, 0] rfl (w_X3_sum_4 _ _ _ _ hq6 ?_))
  refine r_iload_n dX3_sum_36 0 rfl ?_
  have e9 := Option.some.inj hf
  subst e9
  exact r_iret rfl dX3_sum_37
