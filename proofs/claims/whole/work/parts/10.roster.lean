-- DuelSamples$Roster.fits
def f_X3_fits  (a0 : Int32) (a1 : Int32) : Option (Int32) := if a0 < 0 then some 0 else if 5 ≤ a0 then some 0 else if a1 < 0 then some 0 else if inB a0 5 then if ((([12, 99, 3, 99, 99] : List Int32)).getD (Int32.toNatClampNeg a0) 0) < a1 then some 0 else some 1 else none
theorem hy_X3_fits : yX3_fits.cls ≠ "java/lang/invoke/MethodHandle" ∧ yX3_fits.cls ≠ "java/lang/invoke/VarHandle" ∧ (parseMethodDescriptor yX3_fits.desc).map (fun d => d.parameters.length) = some 2 := by decide +kernel
theorem X3_fits_01 {a0 : Int32} {a1 : Int32} {qR : Int32} (hf : f_X3_fits a0 a1 = some qR) : qR = 0 ∨ qR = 1 := by
  rw [f_X3_fits] at hf
  (repeat' split at hf) <;> first | (have e9 := Option.some.inj hf; subst e9; simp; done) | (cases hf; done)
set_option maxHeartbeats 4000000 in
set_option maxRecDepth 100000 in
theorem s_X3_fits {E : EN} {hX : TX} {hR : TR} {hL : TC} {hT : TC} {hK : TK} {hS : TS} {hP : TP} {hM : TM}  {a0 : Int32} {a1 : Int32} {qR : Int32} (hf : f_X3_fits a0 a1 = some qR) : Sem E yX3_fits cX3_fits 2 (some .boolean) 1 [.int a0, .int a1] (hX, hR, hL, hT, hK, hS, hP, hM) (some (.int qR), (hX, hR, hL, hT, hK, hS, hP, hM)) := by
  refine Sem.mk (lv := [(0, .int a0), (1, .int a1)]) (by decide) (Nat.le_of_ble_eq_true rfl) rfl ?_
  rw [f_X3_fits] at hf
  refine r_iload_n dX3_fits_0 0 rfl ?_
  refine r_if_lt (tgt := 29) dX3_fits_1 (by decide) (fun c1 => ?_) (fun c1 => ?_)
  · have hf := hf_pos c1 hf
    refine r_iconst (v := 0) dX3_fits_29 (by decide) ?_
    have e9 := Option.some.inj hf
    subst e9
    exact r_zret rfl (narB (Or.inl rfl)) dX3_fits_30
  · have hf := hf_neg c1 hf
    refine r_iload_n dX3_fits_4 0 rfl ?_
    refine r_most wd_249 dX3_fits_5 ?_
    refine r_mostlen dX3_fits_8 ?_
    refine r_icmp_ge (tgt := 29) dX3_fits_9 (by decide) (fun c2 => ?_) (fun c2 => ?_)
    · have hf := hf_pos c2 hf
      refine r_iconst (v := 0) dX3_fits_29 (by decide) ?_
      have e9 := Option.some.inj hf
      subst e9
      exact r_zret rfl (narB (Or.inl rfl)) dX3_fits_30
    · have hf := hf_neg c2 hf
      refine r_iload_n dX3_fits_12 1 rfl ?_
      refine r_if_lt (tgt := 29) dX3_fits_13 (by decide) (fun c3 => ?_) (fun c3 => ?_)
      · have hf := hf_pos c3 hf
        refine r_iconst (v := 0) dX3_fits_29 (by decide) ?_
        have e9 := Option.some.inj hf
        subst e9
        exact r_zret rfl (narB (Or.inl rfl)) dX3_fits_30
      · have hf := hf_neg c3 hf
        refine r_iload_n dX3_fits_16 1 rfl ?_
        refine r_most wd_249 dX3_fits_17 ?_
        refine r_iload_n dX3_fits_20 0 rfl ?_
        obtain ⟨i4, hf⟩ := hf_in hf
        refine r_mostld i4 dX3_fits_21 ?_
        refine r_icmp_gt (tgt := 29) dX3_fits_22 (by decide) (fun c5 => ?_) (fun c5 => ?_)
        · have hf := hf_pos c5 hf
          refine r_iconst (v := 0) dX3_fits_29 (by decide) ?_
          have e9 := Option.some.inj hf
          subst e9
          exact r_zret rfl (narB (Or.inl rfl)) dX3_fits_30
        · have hf := hf_neg c5 hf
          refine r_iconst (v := 1) dX3_fits_25 (by decide) ?_
          refine r_goto (tgt := 30) dX3_fits_26 (by decide) ?_
          have e9 := Option.some.inj hf
          subst e9
          exact r_zret rfl (narB (Or.inr rfl)) dX3_fits_30
-- DuelSamples$Roster.append
def f_X3_append (R_count : Int32) (R_changes : Int32) (R_F : Nat → Nat → Int32) (a0 : Int32) (a1 : Int32) (a2 : Int32) (a3 : Int32) (a4 : Int32) : Option (Int32 × Int32 × Int32 × (Nat → Nat → Int32)) := if R_count < 12 then if inB 0 5 then if inB R_count 12 then if inB 1 5 then if inB R_count 12 then if inB 2 5 then if inB R_count 12 then if inB 3 5 then if inB R_count 12 then if inB 4 5 then if inB R_count 12 then some (((R_count + 1) - 1), (R_count + 1), (R_changes + 1), (up2 (up2 (up2 (up2 (up2 R_F (Int32.toNatClampNeg 0) (Int32.toNatClampNeg R_count) a0) (Int32.toNatClampNeg 1) (Int32.toNatClampNeg R_count) a1) (Int32.toNatClampNeg 2) (Int32.toNatClampNeg R_count) a2) (Int32.toNatClampNeg 3) (Int32.toNatClampNeg R_count) a3) (Int32.toNatClampNeg 4) (Int32.toNatClampNeg R_count) a4)) else none else none else none else none else none else none else none else none else none else none else some ((-4), R_count, R_changes, R_F)
theorem hy_X3_append : yX3_append.cls ≠ "java/lang/invoke/MethodHandle" ∧ yX3_append.cls ≠ "java/lang/invoke/VarHandle" ∧ (parseMethodDescriptor yX3_append.desc).map (fun d => d.parameters.length) = some 5 := by decide +kernel
set_option maxHeartbeats 4000000 in
set_option maxRecDepth 100000 in
theorem s_X3_append {E : EN} {hX : TX} {hL : TC} {hT : TC} {hK : TK} {hS : TS} {hP : TP} {hM : TM} {R_count : Int32} {R_changes : Int32} {R_F : Nat → Nat → Int32} {a0 : Int32} {a1 : Int32} {a2 : Int32} {a3 : Int32} {a4 : Int32} {qR : Int32 × Int32 × Int32 × (Nat → Nat → Int32)} (hf : f_X3_append R_count R_changes R_F a0 a1 a2 a3 a4 = some qR) : Sem E yX3_append cX3_append 6 (some .int) 1 [.ref (eA E 1), .int a0, .int a1, .int a2, .int a3, .int a4] (hX, (R_count, R_changes, R_F), hL, hT, hK, hS, hP, hM) (some (.int qR.1), (hX, (qR.2.1, qR.2.2.1, qR.2.2.2), hL, hT, hK, hS, hP, hM)) := by
  refine Sem.mk (lv := [(0, .ref (eA E 1)), (1, .int a0), (2, .int a1), (3, .int a2), (4, .int a3), (5, .int a4)]) (by decide) (Nat.le_of_ble_eq_true rfl) rfl ?_
  rw [f_X3_append] at hf
  refine r_aload_n dX3_append_0 0 rfl ?_
  refine r_get (v := .int R_count) in_X3 1 ga_R rfl 1 (by decide) wd_101 rfl rfl dX3_append_1 ?_
  refine r_bipush (v := 12) dX3_append_4 (by decide) ?_
  refine r_icmp_lt (tgt := 12) dX3_append_6 (by decide) (fun c1 => ?_) (fun c1 => ?_)
  · have hf := hf_pos c1 hf
    refine r_aload_n dX3_append_12 0 rfl ?_
    refine r_get (v := .ref (eA E 2)) in_X3 1 ga_R rfl 0 (by decide) wd_99 rfl rfl dX3_append_13 ?_
    refine r_iconst (v := 0) dX3_append_16 (by decide) ?_
    obtain ⟨i2, hf⟩ := hf_in hf
    refine r_aald i2 dX3_append_17 ?_
    refine r_aload_n dX3_append_18 0 rfl ?_
    refine r_get (v := .int R_count) in_X3 1 ga_R rfl 1 (by decide) wd_101 rfl rfl dX3_append_19 ?_
    refine r_iload_n dX3_append_22 1 rfl ?_
    obtain ⟨i3, hf⟩ := hf_in hf
    refine r_rowst i2 i3 dX3_append_23 ?_
    refine r_aload_n dX3_append_24 0 rfl ?_
    refine r_get (v := .ref (eA E 2)) in_X3 1 ga_R rfl 0 (by decide) wd_99 rfl rfl dX3_append_25 ?_
    refine r_iconst (v := 1) dX3_append_28 (by decide) ?_
    obtain ⟨i4, hf⟩ := hf_in hf
    refine r_aald i4 dX3_append_29 ?_
    refine r_aload_n dX3_append_30 0 rfl ?_
    refine r_get (v := .int R_count) in_X3 1 ga_R rfl 1 (by decide) wd_101 rfl rfl dX3_append_31 ?_
    refine r_iload_n dX3_append_34 2 rfl ?_
    obtain ⟨i5, hf⟩ := hf_in hf
    refine r_rowst i4 i5 dX3_append_35 ?_
    refine r_aload_n dX3_append_36 0 rfl ?_
    refine r_get (v := .ref (eA E 2)) in_X3 1 ga_R rfl 0 (by decide) wd_99 rfl rfl dX3_append_37 ?_
    refine r_iconst (v := 2) dX3_append_40 (by decide) ?_
    obtain ⟨i6, hf⟩ := hf_in hf
    refine r_aald i6 dX3_append_41 ?_
    refine r_aload_n dX3_append_42 0 rfl ?_
    refine r_get (v := .int R_count) in_X3 1 ga_R rfl 1 (by decide) wd_101 rfl rfl dX3_append_43 ?_
    refine r_iload_n dX3_append_46 3 rfl ?_
    obtain ⟨i7, hf⟩ := hf_in hf
    refine r_rowst i6 i7 dX3_append_47 ?_
    refine r_aload_n dX3_append_48 0 rfl ?_
    refine r_get (v := .ref (eA E 2)) in_X3 1 ga_R rfl 0 (by decide) wd_99 rfl rfl dX3_append_49 ?_
    refine r_iconst (v := 3) dX3_append_52 (by decide) ?_
    obtain ⟨i8, hf⟩ := hf_in hf
    refine r_aald i8 dX3_append_53 ?_
    refine r_aload_n dX3_append_54 0 rfl ?_
    refine r_get (v := .int R_count) in_X3 1 ga_R rfl 1 (by decide) wd_101 rfl rfl dX3_append_55 ?_
    refine r_iload dX3_append_58 4 rfl ?_
    obtain ⟨i9, hf⟩ := hf_in hf
    refine r_rowst i8 i9 dX3_append_60 ?_
    refine r_aload_n dX3_append_61 0 rfl ?_
    refine r_get (v := .ref (eA E 2)) in_X3 1 ga_R rfl 0 (by decide) wd_99 rfl rfl dX3_append_62 ?_
    refine r_iconst (v := 4) dX3_append_65 (by decide) ?_
    obtain ⟨i10, hf⟩ := hf_in hf
    refine r_aald i10 dX3_append_66 ?_
    refine r_aload_n dX3_append_67 0 rfl ?_
    refine r_get (v := .int R_count) in_X3 1 ga_R rfl 1 (by decide) wd_101 rfl rfl dX3_append_68 ?_
    refine r_iload dX3_append_71 5 rfl ?_
    obtain ⟨i11, hf⟩ := hf_in hf
    refine r_rowst i10 i11 dX3_append_73 ?_
    refine r_aload_n dX3_append_74 0 rfl ?_
    refine r_dup dX3_append_75 rfl ?_
    refine r_get (v := .int R_changes) in_X3 1 ga_R rfl 2 (by decide) wd_103 rfl rfl dX3_append_76 ?_
    refine r_iconst (v := 1) dX3_append_79 (by decide) ?_
    refine r_iadd dX3_append_80 ?_
    refine r_put in_X3 tyX3_ok nmX3 1 ga_R rfl 2 (by decide) wd_103 rfl rfl pfI (Nat.le_of_ble_eq_true rfl) sa_R_changes dX3_append_81 ?_
    refine r_aload_n dX3_append_84 0 rfl ?_
    refine r_dup dX3_append_85 rfl ?_
    refine r_get (v := .int R_count) in_X3 1 ga_R rfl 1 (by decide) wd_101 rfl rfl dX3_append_86 ?_
    refine r_iconst (v := 1) dX3_append_89 (by decide) ?_
    refine r_iadd dX3_append_90 ?_
    refine r_put in_X3 tyX3_ok nmX3 1 ga_R rfl 1 (by decide) wd_101 rfl rfl pfI (Nat.le_of_ble_eq_true rfl) sa_R_count dX3_append_91 ?_
    refine r_aload_n dX3_append_94 0 rfl ?_
    refine r_get (v := .int (R_count + 1)) in_X3 1 ga_R rfl 1 (by decide) wd_101 rfl rfl dX3_append_95 ?_
    refine r_iconst (v := 1) dX3_append_98 (by decide) ?_
    refine r_isub dX3_append_99 ?_
    have e9 := Option.some.inj hf
    subst e9
    exact r_iret rfl dX3_append_100
  · have hf := hf_neg c1 hf
    refine r_bipush (v := (-4)) dX3_append_9 (by decide) ?_
    have e9 := Option.some.inj hf
    subst e9
    exact r_iret rfl dX3_append_11
-- DuelSamples$Roster.has
def f_X3_has (R_count : Int32) (a0 : Int32) : Option (Int32) := if a0 < 0 then some 0 else if R_count ≤ a0 then some 0 else some 1
theorem hy_X3_has : yX3_has.cls ≠ "java/lang/invoke/MethodHandle" ∧ yX3_has.cls ≠ "java/lang/invoke/VarHandle" ∧ (parseMethodDescriptor yX3_has.desc).map (fun d => d.parameters.length) = some 1 := by decide +kernel
set_option maxHeartbeats 4000000 in
set_option maxRecDepth 100000 in
theorem s_X3_has {E : EN} {hX : TX} {hL : TC} {hT : TC} {hK : TK} {hS : TS} {hP : TP} {hM : TM} {R_count : Int32} {R_changes : Int32} {R_F : Nat → Nat → Int32} {a0 : Int32} {qR : Int32} (hf : f_X3_has R_count a0 = some qR) : Sem E yX3_has cX3_has 2 (some .boolean) 1 [.ref (eA E 1), .int a0] (hX, (R_count, R_changes, R_F), hL, hT, hK, hS, hP, hM) (some (.int qR), (hX, (R_count, R_changes, R_F), hL, hT, hK, hS, hP, hM)) := by
  refine Sem.mk (lv := [(0, .ref (eA E 1)), (1, .int a0)]) (by decide) (Nat.le_of_ble_eq_true rfl) rfl ?_
  rw [f_X3_has] at hf
  refine r_iload_n dX3_has_0 1 rfl ?_
  refine r_if_lt (tgt := 16) dX3_has_1 (by decide) (fun c1 => ?_) (fun c1 => ?_)
  · have hf := hf_pos c1 hf
    refine r_iconst (v := 0) dX3_has_16 (by decide) ?_
    have e9 := Option.some.inj hf
    subst e9
    exact r_zret rfl (narB (Or.inl rfl)) dX3_has_17
  · have hf := hf_neg c1 hf
    refine r_iload_n dX3_has_4 1 rfl ?_
    refine r_aload_n dX3_has_5 0 rfl ?_
    refine r_get (v := .int R_count) in_X3 1 ga_R rfl 1 (by decide) wd_101 rfl rfl dX3_has_6 ?_
    refine r_icmp_ge (tgt := 16) dX3_has_9 (by decide) (fun c2 => ?_) (fun c2 => ?_)
    · have hf := hf_pos c2 hf
      refine r_iconst (v := 0) dX3_has_16 (by decide) ?_
      have e9 := Option.some.inj hf
      subst e9
      exact r_zret rfl (narB (Or.inl rfl)) dX3_has_17
    · have hf := hf_neg c2 hf
      refine r_iconst (v := 1) dX3_has_12 (by decide) ?_
      refine r_goto (tgt := 17) dX3_has_13 (by decide) ?_
      have e9 := Option.some.inj hf
      subst e9
      exact r_zret rfl (narB (Or.inr rfl)) dX3_has_17
-- DuelSamples$Roster.change
def f_X3_change (R_count : Int32) (R_changes : Int32) (R_F : Nat → Nat → Int32) (a0 : Int32) (a1 : Int32) (a2 : Int32) : Option (Int32 × Int32 × (Nat → Nat → Int32)) := Option.bind (f_X3_has R_count a0) (fun (q1 : Int32) => if q1 = 0 then some ((-2), R_changes, R_F) else if a1 < 0 then some ((-2), R_changes, R_F) else if a1 < 5 then if inB a1 5 then if inB a0 12 then if inB a1 5 then if inB a0 12 then some ((R_F (Int32.toNatClampNeg a1) (Int32.toNatClampNeg a0)), (R_changes + 1), (up2 R_F (Int32.toNatClampNeg a1) (Int32.toNatClampNeg a0) a2)) else none else none else none else none else some ((-2), R_changes, R_F))
theorem hy_X3_change : yX3_change.cls ≠ "java/lang/invoke/MethodHandle" ∧ yX3_change.cls ≠ "java/lang/invoke/VarHandle" ∧ (parseMethodDescriptor yX3_change.desc).map (fun d => d.parameters.length) = some 3 := by decide +kernel
set_option maxHeartbeats 4000000 in
set_option maxRecDepth 100000 in
theorem s_X3_change {E : EN} {hX : TX} {hL : TC} {hT : TC} {hK : TK} {hS : TS} {hP : TP} {hM : TM} {R_count : Int32} {R_changes : Int32} {R_F : Nat → Nat → Int32} {a0 : Int32} {a1 : Int32} {a2 : Int32} {qR : Int32 × Int32 × (Nat → Nat → Int32)} (hf : f_X3_change R_count R_changes R_F a0 a1 a2 = some qR) : Sem E yX3_change cX3_change 5 (some .int) 2 [.ref (eA E 1), .int a0, .int a1, .int a2] (hX, (R_count, R_changes, R_F), hL, hT, hK, hS, hP, hM) (some (.int qR.1), (hX, (R_count, qR.2.1, qR.2.2), hL, hT, hK, hS, hP, hM)) := by
  refine Sem.mk (lv := [(0, .ref (eA E 1)), (1, .int a0), (2, .int a1), (3, .int a2)]) (by decide) (Nat.le_of_ble_eq_true rfl) rfl ?_
  rw [f_X3_change] at hf
  refine r_aload_n dX3_change_0 0 rfl ?_
  refine r_iload_n dX3_change_1 1 rfl ?_
  obtain ⟨q1, hq1, hf⟩ := hf_bind hf
  refine r_callVi (As := [.int a0]) (b := (eA E 1)) (st := []) (s_X3_has hq1) (by decide) (by decide) wd_271 wd_264 wd_265 wd_69 wd_266 hy_X3_has (Rc.obj 1 ga_R rfl) rfl (Nat.le_of_ble_eq_true rfl) dX3_change_2 ?_
  refine r_if_eq (tgt := 17) dX3_change_5 (by decide) (fun c2 => ?_) (fun c2 => ?_)
  · have hf := hf_pos c2 hf
    refine r_bipush (v := (-2)) dX3_change_17 (by decide) ?_
    have e9 := Option.some.inj hf
    subst e9
    exact r_iret rfl dX3_change_19
  · have hf := hf_neg c2 hf
    refine r_iload_n dX3_change_8 2 rfl ?_
    refine r_if_lt (tgt := 17) dX3_change_9 (by decide) (fun c3 => ?_) (fun c3 => ?_)
    · have hf := hf_pos c3 hf
      refine r_bipush (v := (-2)) dX3_change_17 (by decide) ?_
      have e9 := Option.some.inj hf
      subst e9
      exact r_iret rfl dX3_change_19
    · have hf := hf_neg c3 hf
      refine r_iload_n dX3_change_12 2 rfl ?_
      refine r_iconst (v := 5) dX3_change_13 (by decide) ?_
      refine r_icmp_lt (tgt := 20) dX3_change_14 (by decide) (fun c4 => ?_) (fun c4 => ?_)
      · have hf := hf_pos c4 hf
        refine r_aload_n dX3_change_20 0 rfl ?_
        refine r_get (v := .ref (eA E 2)) in_X3 1 ga_R rfl 0 (by decide) wd_99 rfl rfl dX3_change_21 ?_
        refine r_iload_n dX3_change_24 2 rfl ?_
        obtain ⟨i5, hf⟩ := hf_in hf
        refine r_aald i5 dX3_change_25 ?_
        refine r_iload_n dX3_change_26 1 rfl ?_
        obtain ⟨i6, hf⟩ := hf_in hf
        refine r_rowld2 i5 i6 dX3_change_27 ?_
        refine r_istore (lv2 := [(4, .int (R_F (Int32.toNatClampNeg a1) (Int32.toNatClampNeg a0))), (0, .ref (eA E 1)), (1, .int a0), (2, .int a1), (3, .int a2)]) dX3_change_28 (by decide) rfl ?_
        refine r_aload_n dX3_change_30 1 rfl ?_
        refine r_get (v := .ref (eA E 2)) in_X3 1 ga_R rfl 0 (by decide) wd_99 rfl rfl dX3_change_31 ?_
        refine r_iload_n dX3_change_34 3 rfl ?_
        obtain ⟨i7, hf⟩ := hf_in hf
        refine r_aald i7 dX3_change_35 ?_
        refine r_iload_n dX3_change_36 2 rfl ?_
        refine r_iload_n dX3_change_37 4 rfl ?_
        obtain ⟨i8, hf⟩ := hf_in hf
        refine r_rowst i7 i8 dX3_change_38 ?_
        refine r_aload_n dX3_change_39 1 rfl ?_
        refine r_dup dX3_change_40 rfl ?_
        refine r_get (v := .int R_changes) in_X3 1 ga_R rfl 2 (by decide) wd_103 rfl rfl dX3_change_41 ?_
        refine r_iconst (v := 1) dX3_change_44 (by decide) ?_
        refine r_iadd dX3_change_45 ?_
        refine r_put in_X3 tyX3_ok nmX3 1 ga_R rfl 2 (by decide) wd_103 rfl rfl pfI (Nat.le_of_ble_eq_true rfl) sa_R_changes dX3_change_46 ?_
        refine r_iload dX3_change_49 0 rfl ?_
        have e9 := Option.some.inj hf
        subst e9
        exact r_iret rfl dX3_change_51
      · have hf := hf_neg c4 hf
        refine r_bipush (v := (-2)) dX3_change_17 (by decide) ?_
        have e9 := Option.some.inj hf
        subst e9
        exact r_iret rfl dX3_change_19
-- DuelSamples$Roster.removeAll
def f_X3_removeAll (R_changes : Int32)  : Option (Int32 × Int32) := some (0, (R_changes + 1))
theorem hy_X3_removeAll : yX3_removeAll.cls ≠ "java/lang/invoke/MethodHandle" ∧ yX3_removeAll.cls ≠ "java/lang/invoke/VarHandle" ∧ (parseMethodDescriptor yX3_removeAll.desc).map (fun d => d.parameters.length) = some 0 := by decide +kernel
set_option maxHeartbeats 4000000 in
set_option maxRecDepth 100000 in
theorem s_X3_removeAll {E : EN} {hX : TX} {hL : TC} {hT : TC} {hK : TK} {hS : TS} {hP : TP} {hM : TM} {R_count : Int32} {R_changes : Int32} {R_F : Nat → Nat → Int32}  {qR : Int32 × Int32} (hf : f_X3_removeAll R_changes = some qR) : Sem E yX3_removeAll cX3_removeAll 1 none 1 [.ref (eA E 1)] (hX, (R_count, R_changes, R_F), hL, hT, hK, hS, hP, hM) (none, (hX, (qR.1, qR.2, R_F), hL, hT, hK, hS, hP, hM)) := by
  refine Sem.mk (lv := [(0, .ref (eA E 1))]) (by decide) (Nat.le_of_ble_eq_true rfl) rfl ?_
  rw [f_X3_removeAll] at hf
  refine r_aload_n dX3_removeAll_0 0 rfl ?_
  refine r_iconst (v := 0) dX3_removeAll_1 (by decide) ?_
  refine r_put in_X3 tyX3_ok nmX3 1 ga_R rfl 1 (by decide) wd_101 rfl rfl pfI (Nat.le_of_ble_eq_true rfl) sa_R_count dX3_removeAll_2 ?_
  refine r_aload_n dX3_removeAll_5 0 rfl ?_
  refine r_dup dX3_removeAll_6 rfl ?_
  refine r_get (v := .int R_changes) in_X3 1 ga_R rfl 2 (by decide) wd_103 rfl rfl dX3_removeAll_7 ?_
  refine r_iconst (v := 1) dX3_removeAll_10 (by decide) ?_
  refine r_iadd dX3_removeAll_11 ?_
  refine r_put in_X3 tyX3_ok nmX3 1 ga_R rfl 2 (by decide) wd_103 rfl rfl pfI (Nat.le_of_ble_eq_true rfl) sa_R_changes dX3_removeAll_12 ?_
  have e9 := Option.some.inj hf
  subst e9
  exact r_vret rfl dX3_removeAll_15
-- DuelSamples$Roster.fact
def f_X3_fact (R_count : Int32) (R_F : Nat → Nat → Int32) (a0 : Int32) (a1 : Int32) : Option (Int32) := if a0 < 0 then some 0 else if R_count ≤ a0 then some 0 else if a1 < 0 then some 0 else if 5 ≤ a1 then some 0 else if inB a1 5 then if inB a0 12 then some (R_F (Int32.toNatClampNeg a1) (Int32.toNatClampNeg a0)) else none else none
theorem hy_X3_fact : yX3_fact.cls ≠ "java/lang/invoke/MethodHandle" ∧ yX3_fact.cls ≠ "java/lang/invoke/VarHandle" ∧ (parseMethodDescriptor yX3_fact.desc).map (fun d => d.parameters.length) = some 2 := by decide +kernel
set_option maxHeartbeats 4000000 in
set_option maxRecDepth 100000 in
theorem s_X3_fact {E : EN} {hX : TX} {hL : TC} {hT : TC} {hK : TK} {hS : TS} {hP : TP} {hM : TM} {R_count : Int32} {R_changes : Int32} {R_F : Nat → Nat → Int32} {a0 : Int32} {a1 : Int32} {qR : Int32} (hf : f_X3_fact R_count R_F a0 a1 = some qR) : Sem E yX3_fact cX3_fact 3 (some .int) 1 [.ref (eA E 1), .int a0, .int a1] (hX, (R_count, R_changes, R_F), hL, hT, hK, hS, hP, hM) (some (.int qR), (hX, (R_count, R_changes, R_F), hL, hT, hK, hS, hP, hM)) := by
  refine Sem.mk (lv := [(0, .ref (eA E 1)), (1, .int a0), (2, .int a1)]) (by decide) (Nat.le_of_ble_eq_true rfl) rfl ?_
  rw [f_X3_fact] at hf
  refine r_iload_n dX3_fact_0 1 rfl ?_
  refine r_if_lt (tgt := 32) dX3_fact_1 (by decide) (fun c1 => ?_) (fun c1 => ?_)
  · have hf := hf_pos c1 hf
    refine r_iconst (v := 0) dX3_fact_32 (by decide) ?_
    have e9 := Option.some.inj hf
    subst e9
    exact r_iret rfl dX3_fact_33
  · have hf := hf_neg c1 hf
    refine r_iload_n dX3_fact_4 1 rfl ?_
    refine r_aload_n dX3_fact_5 0 rfl ?_
    refine r_get (v := .int R_count) in_X3 1 ga_R rfl 1 (by decide) wd_101 rfl rfl dX3_fact_6 ?_
    refine r_icmp_ge (tgt := 32) dX3_fact_9 (by decide) (fun c2 => ?_) (fun c2 => ?_)
    · have hf := hf_pos c2 hf
      refine r_iconst (v := 0) dX3_fact_32 (by decide) ?_
      have e9 := Option.some.inj hf
      subst e9
      exact r_iret rfl dX3_fact_33
    · have hf := hf_neg c2 hf
      refine r_iload_n dX3_fact_12 2 rfl ?_
      refine r_if_lt (tgt := 32) dX3_fact_13 (by decide) (fun c3 => ?_) (fun c3 => ?_)
      · have hf := hf_pos c3 hf
        refine r_iconst (v := 0) dX3_fact_32 (by decide) ?_
        have e9 := Option.some.inj hf
        subst e9
        exact r_iret rfl dX3_fact_33
      · have hf := hf_neg c3 hf
        refine r_iload_n dX3_fact_16 2 rfl ?_
        refine r_iconst (v := 5) dX3_fact_17 (by decide) ?_
        refine r_icmp_ge (tgt := 32) dX3_fact_18 (by decide) (fun c4 => ?_) (fun c4 => ?_)
        · have hf := hf_pos c4 hf
          refine r_iconst (v := 0) dX3_fact_32 (by decide) ?_
          have e9 := Option.some.inj hf
          subst e9
          exact r_iret rfl dX3_fact_33
        · have hf := hf_neg c4 hf
          refine r_aload_n dX3_fact_21 0 rfl ?_
          refine r_get (v := .ref (eA E 2)) in_X3 1 ga_R rfl 0 (by decide) wd_99 rfl rfl dX3_fact_22 ?_
          refine r_iload_n dX3_fact_25 2 rfl ?_
          obtain ⟨i5, hf⟩ := hf_in hf
          refine r_aald i5 dX3_fact_26 ?_
          refine r_iload_n dX3_fact_27 1 rfl ?_
          obtain ⟨i6, hf⟩ := hf_in hf
          refine r_rowld2 i5 i6 dX3_fact_28 ?_
          refine r_goto (tgt := 33) dX3_fact_29 (by decide) ?_
          have e9 := Option.some.inj hf
          subst e9
          exact r_iret rfl dX3_fact_33
-- DuelSamples$Roster.sum
def lp_X3_sum_4 (R_count : Int32) (R_F : Nat → Nat → Int32) (a0 : Int32) : Nat → Int32 → Int32 → Option (Int32)
  | 0, _, _ => none
  | n9 + 1, v2_4, v3_4 => if R_count ≤ v3_4 then some v2_4 else Option.bind (f_X3_fact R_count R_F v3_4 0) (fun (q2 : Int32) => Option.bind (if q2 ≤ 0 then some v2_4 else Option.bind (f_X3_fact R_count R_F v3_4 a0) (fun (q5 : Int32) => some (v2_4 + q5))) (fun (q4 : Int32) => lp_X3_sum_4 R_count R_F a0 n9 q4 (v3_4 + 1)))
def f_X3_sum (R_count : Int32) (R_F : Nat → Nat → Int32) (a0 : Int32) : Option (Int32) := Option.bind (lp_X3_sum_4 R_count R_F a0 FU 0 0) (fun (q6 : Int32) => some q6)
theorem hy_X3_sum : yX3_sum.cls ≠ "java/lang/invoke/MethodHandle" ∧ yX3_sum.cls ≠ "java/lang/invoke/VarHandle" ∧ (parseMethodDescriptor yX3_sum.desc).map (fun d => d.parameters.length) = some 1 := by decide +kernel
set_option maxHeartbeats 4000000 in
set_option maxRecDepth 100000 in
theorem w_X3_sum_4 {E : EN} {res : Option Value × Hp} {hX : TX} {hL : TC} {hT : TC} {hK : TK} {hS : TS} {hP : TP} {hM : TM} {a0 : Int32} {R_count : Int32} {R_changes : Int32} {R_F : Nat → Nat → Int32} : ∀ (n9 : Nat) (v2_4 : Int32) (v3_4 : Int32) (qL : Int32), lp_X3_sum_4 R_count R_F a0 n9 v2_4 v3_4 = some qL → (Wa E yX3_sum cX3_sum 4 (some .int) 2 res 36 [(2, .int qL)] [] (hX, (R_count, R_changes, R_F), hL, hT, hK, hS, hP, hM)) → Wa E yX3_sum cX3_sum 4 (some .int) 2 res 4 [(0, .ref (eA E 1)), (1, .int a0), (2, .int v2_4), (3, .int v3_4)] [] (hX, (R_count, R_changes, R_F), hL, hT, hK, hS, hP, hM) := by
  intro n9
  induction n9 with
  | zero =>
    intro v2_4 v3_4 qL hf
    exact nomatch (show (none : Option (Int32)) = some qL from hf)
  | succ n9 ih =>
    intro v2_4 v3_4 qL hf kx0
    rw [lp_X3_sum_4] at hf
    refine r_iload_n dX3_sum_4 3 rfl ?_
    refine r_aload_n dX3_sum_5 0 rfl ?_
    refine r_get (v := .int R_count) in_X3 1 ga_R rfl 1 (by decide) wd_101 rfl rfl dX3_sum_6 ?_
    refine r_icmp_ge (tgt := 36) dX3_sum_9 (by decide) (fun c1 => ?_) (fun c1 => ?_)
    · have hf := hf_pos c1 hf
      have e9 := Option.some.inj hf
      subst e9
      exact (Wa.sub [2] rfl kx0)
    · have hf := hf_neg c1 hf
      refine r_aload_n dX3_sum_12 0 rfl ?_
      refine r_iload_n dX3_sum_13 3 rfl ?_
      refine r_iconst (v := 0) dX3_sum_14 (by decide) ?_
      obtain ⟨q2, hq2, hf⟩ := hf_bind hf
      refine r_callVi (As := [.int v3_4, .int 0]) (b := (eA E 1)) (st := []) (s_X3_fact hq2) (by decide) (by decide) wd_310 wd_311 wd_312 wd_69 wd_313 hy_X3_fact (Rc.obj 1 ga_R rfl) rfl (Nat.le_of_ble_eq_true rfl) dX3_sum_15 ?_
      obtain ⟨q4, hq4, hf⟩ := hf_bind hf
      have kj4 : Wa E yX3_sum cX3_sum 4 (some .int) 2 res 30 [(0, .ref (eA E 1)), (1, .int a0), (2, .int q4), (3, .int v3_4)] [] (hX, (R_count, R_changes, R_F), hL, hT, hK, hS, hP, hM) := by
        refine r_iinc (v := (v3_4 + 1)) (lv2 := [(3, .int (v3_4 + 1)), (0, .ref (eA E 1)), (1, .int a0), (2, .int q4)]) dX3_sum_30 3 rfl rfl (by decide) rfl ?_
        refine r_goto (tgt := 4) dX3_sum_33 (by decide) ?_
        exact (Wa.sub [1, 2, 3, 0] rfl (ih _ _ _ hf kx0))
      have hf := hq4
      refine r_if_le (tgt := 30) dX3_sum_18 (by decide) (fun c3 => ?_) (fun c3 => ?_)
      · have hf := hf_pos c3 hf
        have e9 := Option.some.inj hf
        subst e9
        exact kj4
      · have hf := hf_neg c3 hf
        refine r_iload_n dX3_sum_21 2 rfl ?_
        refine r_aload_n dX3_sum_22 0 rfl ?_
        refine r_iload_n dX3_sum_23 3 rfl ?_
        refine r_iload_n dX3_sum_24 1 rfl ?_
        obtain ⟨q5, hq5, hf⟩ := hf_bind hf
        refine r_callVi (As := [.int v3_4, .int a0]) (b := (eA E 1)) (st := [.int v2_4]) (s_X3_fact hq5) (by decide) (by decide) wd_310 wd_311 wd_312 wd_69 wd_313 hy_X3_fact (Rc.obj 1 ga_R rfl) rfl (Nat.le_of_ble_eq_true rfl) dX3_sum_25 ?_
        refine r_iadd dX3_sum_28 ?_
        refine r_istore_n (lv2 := [(2, .int (v2_4 + q5)), (0, .ref (eA E 1)), (1, .int a0), (3, .int v3_4)]) dX3_sum_29 rfl (by decide) rfl ?_
        have e9 := Option.some.inj hf
        subst e9
        exact (Wa.sub [1, 2, 0, 3] rfl kj4)
set_option maxHeartbeats 4000000 in
set_option maxRecDepth 100000 in
theorem s_X3_sum {E : EN} {hX : TX} {hL : TC} {hT : TC} {hK : TK} {hS : TS} {hP : TP} {hM : TM} {R_count : Int32} {R_changes : Int32} {R_F : Nat → Nat → Int32} {a0 : Int32} {qR : Int32} (hf : f_X3_sum R_count R_F a0 = some qR) : Sem E yX3_sum cX3_sum 4 (some .int) 2 [.ref (eA E 1), .int a0] (hX, (R_count, R_changes, R_F), hL, hT, hK, hS, hP, hM) (some (.int qR), (hX, (R_count, R_changes, R_F), hL, hT, hK, hS, hP, hM)) := by
  refine Sem.mk (lv := [(0, .ref (eA E 1)), (1, .int a0)]) (by decide) (Nat.le_of_ble_eq_true rfl) rfl ?_
  rw [f_X3_sum] at hf
  refine r_iconst (v := 0) dX3_sum_0 (by decide) ?_
  refine r_istore_n (lv2 := [(2, .int 0), (0, .ref (eA E 1)), (1, .int a0)]) dX3_sum_1 rfl (by decide) rfl ?_
  refine r_iconst (v := 0) dX3_sum_2 (by decide) ?_
  refine r_istore_n (lv2 := [(3, .int 0), (2, .int 0), (0, .ref (eA E 1)), (1, .int a0)]) dX3_sum_3 rfl (by decide) rfl ?_
  obtain ⟨q6, hq6, hf⟩ := hf_bind hf
  refine (Wa.sub [2, 3, 1, 0] rfl (w_X3_sum_4 _ _ _ _ hq6 ?_))
  refine r_iload_n dX3_sum_36 0 rfl ?_
  have e9 := Option.some.inj hf
  subst e9
  exact r_iret rfl dX3_sum_37
-- DuelSamples$Roster.openAtFirst
def lp_X3_openAtFirst_4 (R_count : Int32) (R_F : Nat → Nat → Int32) : Nat → Int32 → Int32 → Option (Int32)
  | 0, _, _ => none
  | n9 + 1, v1_4, v2_4 => if R_count ≤ v2_4 then some v1_4 else Option.bind (f_X3_fact R_count R_F v2_4 0) (fun (q2 : Int32) => Option.bind (if q2 ≤ 0 then some v1_4 else Option.bind (f_X3_fact R_count R_F v2_4 0) (fun (q5 : Int32) => if 12 ≤ q5 then some v1_4 else some (v1_4 + 1))) (fun (q4 : Int32) => lp_X3_openAtFirst_4 R_count R_F n9 q4 (v2_4 + 1)))
def f_X3_openAtFirst (R_count : Int32) (R_F : Nat → Nat → Int32)  : Option (Int32) := Option.bind (lp_X3_openAtFirst_4 R_count R_F FU 0 0) (fun (q7 : Int32) => some q7)
theorem hy_X3_openAtFirst : yX3_openAtFirst.cls ≠ "java/lang/invoke/MethodHandle" ∧ yX3_openAtFirst.cls ≠ "java/lang/invoke/VarHandle" ∧ (parseMethodDescriptor yX3_openAtFirst.desc).map (fun d => d.parameters.length) = some 0 := by decide +kernel
set_option maxHeartbeats 4000000 in
set_option maxRecDepth 100000 in
theorem w_X3_openAtFirst_4 {E : EN} {res : Option Value × Hp} {hX : TX} {hL : TC} {hT : TC} {hK : TK} {hS : TS} {hP : TP} {hM : TM} {R_count : Int32} {R_changes : Int32} {R_F : Nat → Nat → Int32} : ∀ (n9 : Nat) (v1_4 : Int32) (v2_4 : Int32) (qL : Int32), lp_X3_openAtFirst_4 R_count R_F n9 v1_4 v2_4 = some qL → (Wa E yX3_openAtFirst cX3_openAtFirst 3 (some .int) 2 res 41 [(1, .int qL)] [] (hX, (R_count, R_changes, R_F), hL, hT, hK, hS, hP, hM)) → Wa E yX3_openAtFirst cX3_openAtFirst 3 (some .int) 2 res 4 [(0, .ref (eA E 1)), (1, .int v1_4), (2, .int v2_4)] [] (hX, (R_count, R_changes, R_F), hL, hT, hK, hS, hP, hM) := by
  intro n9
  induction n9 with
  | zero =>
    intro v1_4 v2_4 qL hf
    exact nomatch (show (none : Option (Int32)) = some qL from hf)
  | succ n9 ih =>
    intro v1_4 v2_4 qL hf kx0
    rw [lp_X3_openAtFirst_4] at hf
    refine r_iload_n dX3_openAtFirst_4 2 rfl ?_
    refine r_aload_n dX3_openAtFirst_5 0 rfl ?_
    refine r_get (v := .int R_count) in_X3 1 ga_R rfl 1 (by decide) wd_101 rfl rfl dX3_openAtFirst_6 ?_
    refine r_icmp_ge (tgt := 41) dX3_openAtFirst_9 (by decide) (fun c1 => ?_) (fun c1 => ?_)
    · have hf := hf_pos c1 hf
      have e9 := Option.some.inj hf
      subst e9
      exact (Wa.sub [1] rfl kx0)
    · have hf := hf_neg c1 hf
      refine r_aload_n dX3_openAtFirst_12 0 rfl ?_
      refine r_iload_n dX3_openAtFirst_13 2 rfl ?_
      refine r_iconst (v := 0) dX3_openAtFirst_14 (by decide) ?_
      obtain ⟨q2, hq2, hf⟩ := hf_bind hf
      refine r_callVi (As := [.int v2_4, .int 0]) (b := (eA E 1)) (st := []) (s_X3_fact hq2) (by decide) (by decide) wd_310 wd_311 wd_312 wd_69 wd_313 hy_X3_fact (Rc.obj 1 ga_R rfl) rfl (Nat.le_of_ble_eq_true rfl) dX3_openAtFirst_15 ?_
      obtain ⟨q4, hq4, hf⟩ := hf_bind hf
      have kj4 : Wa E yX3_openAtFirst cX3_openAtFirst 3 (some .int) 2 res 35 [(0, .ref (eA E 1)), (1, .int q4), (2, .int v2_4)] [] (hX, (R_count, R_changes, R_F), hL, hT, hK, hS, hP, hM) := by
        refine r_iinc (v := (v2_4 + 1)) (lv2 := [(2, .int (v2_4 + 1)), (0, .ref (eA E 1)), (1, .int q4)]) dX3_openAtFirst_35 2 rfl rfl (by decide) rfl ?_
        refine r_goto (tgt := 4) dX3_openAtFirst_38 (by decide) ?_
        exact (Wa.sub [1, 2, 0] rfl (ih _ _ _ hf kx0))
      have hf := hq4
      refine r_if_le (tgt := 35) dX3_openAtFirst_18 (by decide) (fun c3 => ?_) (fun c3 => ?_)
      · have hf := hf_pos c3 hf
        have e9 := Option.some.inj hf
        subst e9
        exact kj4
      · have hf := hf_neg c3 hf
        refine r_aload_n dX3_openAtFirst_21 0 rfl ?_
        refine r_iload_n dX3_openAtFirst_22 2 rfl ?_
        refine r_iconst (v := 0) dX3_openAtFirst_23 (by decide) ?_
        obtain ⟨q5, hq5, hf⟩ := hf_bind hf
        refine r_callVi (As := [.int v2_4, .int 0]) (b := (eA E 1)) (st := []) (s_X3_fact hq5) (by decide) (by decide) wd_310 wd_311 wd_312 wd_69 wd_313 hy_X3_fact (Rc.obj 1 ga_R rfl) rfl (Nat.le_of_ble_eq_true rfl) dX3_openAtFirst_24 ?_
        refine r_bipush (v := 12) dX3_openAtFirst_27 (by decide) ?_
        refine r_icmp_ge (tgt := 35) dX3_openAtFirst_29 (by decide) (fun c6 => ?_) (fun c6 => ?_)
        · have hf := hf_pos c6 hf
          have e9 := Option.some.inj hf
          subst e9
          exact kj4
        · have hf := hf_neg c6 hf
          refine r_iinc (v := (v1_4 + 1)) (lv2 := [(1, .int (v1_4 + 1)), (0, .ref (eA E 1)), (2, .int v2_4)]) dX3_openAtFirst_32 1 rfl rfl (by decide) rfl ?_
          have e9 := Option.some.inj hf
          subst e9
          exact (Wa.sub [1, 0, 2] rfl kj4)
set_option maxHeartbeats 4000000 in
set_option maxRecDepth 100000 in
theorem s_X3_openAtFirst {E : EN} {hX : TX} {hL : TC} {hT : TC} {hK : TK} {hS : TS} {hP : TP} {hM : TM} {R_count : Int32} {R_changes : Int32} {R_F : Nat → Nat → Int32}  {qR : Int32} (hf : f_X3_openAtFirst R_count R_F = some qR) : Sem E yX3_openAtFirst cX3_openAtFirst 3 (some .int) 2 [.ref (eA E 1)] (hX, (R_count, R_changes, R_F), hL, hT, hK, hS, hP, hM) (some (.int qR), (hX, (R_count, R_changes, R_F), hL, hT, hK, hS, hP, hM)) := by
  refine Sem.mk (lv := [(0, .ref (eA E 1))]) (by decide) (Nat.le_of_ble_eq_true rfl) rfl ?_
  rw [f_X3_openAtFirst] at hf
  refine r_iconst (v := 0) dX3_openAtFirst_0 (by decide) ?_
  refine r_istore_n (lv2 := [(1, .int 0), (0, .ref (eA E 1))]) dX3_openAtFirst_1 rfl (by decide) rfl ?_
  refine r_iconst (v := 0) dX3_openAtFirst_2 (by decide) ?_
  refine r_istore_n (lv2 := [(2, .int 0), (1, .int 0), (0, .ref (eA E 1))]) dX3_openAtFirst_3 rfl (by decide) rfl ?_
  obtain ⟨q7, hq7, hf⟩ := hf_bind hf
  refine (Wa.sub [2, 1, 0] rfl (w_X3_openAtFirst_4 _ _ _ _ hq7 ?_))
  refine r_iload_n dX3_openAtFirst_41 0 rfl ?_
  have e9 := Option.some.inj hf
  subst e9
  exact r_iret rfl dX3_openAtFirst_42
-- DuelSamples$Roster.distance
def f_X3_distance (R_count : Int32) (R_F : Nat → Nat → Int32) (a0 : Int32) (a1 : Int32) : Option (Int32) := Option.bind (f_X3_fact R_count R_F a0 1) (fun (q1 : Int32) => Option.bind (f_X3_fact R_count R_F a1 1) (fun (q2 : Int32) => some (if 0 ≤ (q1 - q2) then (q1 - q2) else 0 - (q1 - q2))))
theorem hy_X3_distance : yX3_distance.cls ≠ "java/lang/invoke/MethodHandle" ∧ yX3_distance.cls ≠ "java/lang/invoke/VarHandle" ∧ (parseMethodDescriptor yX3_distance.desc).map (fun d => d.parameters.length) = some 2 := by decide +kernel
set_option maxHeartbeats 4000000 in
set_option maxRecDepth 100000 in
theorem s_X3_distance {E : EN} {hX : TX} {hL : TC} {hT : TC} {hK : TK} {hS : TS} {hP : TP} {hM : TM} {R_count : Int32} {R_changes : Int32} {R_F : Nat → Nat → Int32} {a0 : Int32} {a1 : Int32} {qR : Int32} (hf : f_X3_distance R_count R_F a0 a1 = some qR) : Sem E yX3_distance cX3_distance 3 (some .int) 2 [.ref (eA E 1), .int a0, .int a1] (hX, (R_count, R_changes, R_F), hL, hT, hK, hS, hP, hM) (some (.int qR), (hX, (R_count, R_changes, R_F), hL, hT, hK, hS, hP, hM)) := by
  refine Sem.mk (lv := [(0, .ref (eA E 1)), (1, .int a0), (2, .int a1)]) (by decide) (Nat.le_of_ble_eq_true rfl) rfl ?_
  rw [f_X3_distance] at hf
  refine r_aload_n dX3_distance_0 0 rfl ?_
  refine r_iload_n dX3_distance_1 1 rfl ?_
  refine r_iconst (v := 1) dX3_distance_2 (by decide) ?_
  obtain ⟨q1, hq1, hf⟩ := hf_bind hf
  refine r_callVi (As := [.int a0, .int 1]) (b := (eA E 1)) (st := []) (s_X3_fact hq1) (by decide) (by decide) wd_310 wd_311 wd_312 wd_69 wd_313 hy_X3_fact (Rc.obj 1 ga_R rfl) rfl (Nat.le_of_ble_eq_true rfl) dX3_distance_3 ?_
  refine r_aload_n dX3_distance_6 0 rfl ?_
  refine r_iload_n dX3_distance_7 2 rfl ?_
  refine r_iconst (v := 1) dX3_distance_8 (by decide) ?_
  obtain ⟨q2, hq2, hf⟩ := hf_bind hf
  refine r_callVi (As := [.int a1, .int 1]) (b := (eA E 1)) (st := [.int q1]) (s_X3_fact hq2) (by decide) (by decide) wd_310 wd_311 wd_312 wd_69 wd_313 hy_X3_fact (Rc.obj 1 ga_R rfl) rfl (Nat.le_of_ble_eq_true rfl) dX3_distance_9 ?_
  refine r_isub dX3_distance_12 ?_
  refine r_mabs wd_377 wd_378 wd_75 wd_379 (by decide) (Nat.le_of_ble_eq_true rfl) dX3_distance_13 ?_
  have e9 := Option.some.inj hf
  subst e9
  exact r_iret rfl dX3_distance_16
-- DuelSamples$Roster.countUp
def lp_X3_countUp_5 (R_count : Int32) (R_F : Nat → Nat → Int32) (a0 : Int32) (a1 : Int32) : Nat → Int64 → Int32 → Option (Int64)
  | 0, _, _ => none
  | n9 + 1, v3_5, v5_5 => if R_count ≤ v5_5 then some v3_5 else Option.bind (f_X3_fact R_count R_F v5_5 0) (fun (q2 : Int32) => Option.bind (if ((a0 >>> (v5_5 &&& 31)) &&& 1) = 1 then if q2 ≤ 0 then some v3_5 else Option.bind (f_X3_fact R_count R_F v5_5 a1) (fun (q6 : Int32) => if q2 = 0 then none else some (v3_5 + ((Int32.toInt64 q6) * (Int32.toInt64 (332640 / q2))))) else some v3_5) (fun (q4 : Int64) => lp_X3_countUp_5 R_count R_F a0 a1 n9 q4 (v5_5 + 1)))
def f_X3_countUp (R_count : Int32) (R_F : Nat → Nat → Int32) (a0 : Int32) (a1 : Int32) : Option (Int64) := Option.bind (lp_X3_countUp_5 R_count R_F a0 a1 FU 0 0) (fun (q8 : Int64) => some q8)
theorem hy_X3_countUp : yX3_countUp.cls ≠ "java/lang/invoke/MethodHandle" ∧ yX3_countUp.cls ≠ "java/lang/invoke/VarHandle" ∧ (parseMethodDescriptor yX3_countUp.desc).map (fun d => d.parameters.length) = some 2 := by decide +kernel
set_option maxHeartbeats 4000000 in
set_option maxRecDepth 100000 in
theorem w_X3_countUp_5 {E : EN} {res : Option Value × Hp} {hX : TX} {hL : TC} {hT : TC} {hK : TK} {hS : TS} {hP : TP} {hM : TM} {a0 : Int32} {a1 : Int32} {R_count : Int32} {R_changes : Int32} {R_F : Nat → Nat → Int32} : ∀ (n9 : Nat) (v3_5 : Int64) (v5_5 : Int32) (qL : Int64), lp_X3_countUp_5 R_count R_F a0 a1 n9 v3_5 v5_5 = some qL → (Wa E yX3_countUp cX3_countUp 7 (some .long) 2 res 62 [(3, .long qL)] [] (hX, (R_count, R_changes, R_F), hL, hT, hK, hS, hP, hM)) → Wa E yX3_countUp cX3_countUp 7 (some .long) 2 res 5 [(0, .ref (eA E 1)), (1, .int a0), (2, .int a1), (3, .long v3_5), (5, .int v5_5)] [] (hX, (R_count, R_changes, R_F), hL, hT, hK, hS, hP, hM) := by
  intro n9
  induction n9 with
  | zero =>
    intro v3_5 v5_5 qL hf
    exact nomatch (show (none : Option (Int64)) = some qL from hf)
  | succ n9 ih =>
    intro v3_5 v5_5 qL hf kx0
    rw [lp_X3_countUp_5] at hf
    refine r_iload dX3_countUp_5 4 rfl ?_
    refine r_aload_n dX3_countUp_7 0 rfl ?_
    refine r_get (v := .int R_count) in_X3 1 ga_R rfl 1 (by decide) wd_101 rfl rfl dX3_countUp_8 ?_
    refine r_icmp_ge (tgt := 62) dX3_countUp_11 (by decide) (fun c1 => ?_) (fun c1 => ?_)
    · have hf := hf_pos c1 hf
      have e9 := Option.some.inj hf
      subst e9
      exact (Wa.sub [3] rfl kx0)
    · have hf := hf_neg c1 hf
      refine r_aload_n dX3_countUp_14 0 rfl ?_
      refine r_iload dX3_countUp_15 4 rfl ?_
      refine r_iconst (v := 0) dX3_countUp_17 (by decide) ?_
      obtain ⟨q2, hq2, hf⟩ := hf_bind hf
      refine r_callVi (As := [.int v5_5, .int 0]) (b := (eA E 1)) (st := []) (s_X3_fact hq2) (by decide) (by decide) wd_310 wd_311 wd_312 wd_69 wd_313 hy_X3_fact (Rc.obj 1 ga_R rfl) rfl (Nat.le_of_ble_eq_true rfl) dX3_countUp_18 ?_
      refine r_istore (lv2 := [(6, .int q2), (0, .ref (eA E 1)), (1, .int a0), (2, .int a1), (3, .long v3_5), (5, .int v5_5)]) dX3_countUp_21 (by decide) rfl ?_
      refine r_iload_n dX3_countUp_23 2 rfl ?_
      refine r_iload dX3_countUp_24 5 rfl ?_
      refine r_ishr dX3_countUp_26 ?_
      refine r_iconst (v := 1) dX3_countUp_27 (by decide) ?_
      refine r_iand dX3_countUp_28 ?_
      refine r_iconst (v := 1) dX3_countUp_29 (by decide) ?_
      obtain ⟨q4, hq4, hf⟩ := hf_bind hf
      have kj4 : Wa E yX3_countUp cX3_countUp 7 (some .long) 2 res 56 [(0, .ref (eA E 1)), (1, .int a0), (2, .int a1), (3, .long q4), (5, .int v5_5)] [] (hX, (R_count, R_changes, R_F), hL, hT, hK, hS, hP, hM) := by
        refine r_iinc (v := (v5_5 + 1)) (lv2 := [(5, .int (v5_5 + 1)), (0, .ref (eA E 1)), (1, .int a0), (2, .int a1), (3, .long q4)]) dX3_countUp_56 4 rfl rfl (by decide) rfl ?_
        refine r_goto (tgt := 5) dX3_countUp_59 (by decide) ?_
        exact (Wa.sub [1, 2, 3, 4, 0] rfl (ih _ _ _ hf kx0))
      have hf := hq4
      refine r_icmp_ne (tgt := 56) dX3_countUp_30 (by decide) (fun c3 => ?_) (fun c3 => ?_)
      · have hf := hf_neg c3 hf
        have e9 := Option.some.inj hf
        subst e9
        exact (Wa.sub [1, 2, 3, 4, 5] rfl kj4)
      · have hf := hf_pos c3 hf
        refine r_iload dX3_countUp_33 0 rfl ?_
        refine r_if_le (tgt := 56) dX3_countUp_35 (by decide) (fun c5 => ?_) (fun c5 => ?_)
        · have hf := hf_pos c5 hf
          have e9 := Option.some.inj hf
          subst e9
          exact (Wa.sub [1, 2, 3, 4, 5] rfl kj4)
        · have hf := hf_neg c5 hf
          refine r_lload_n dX3_countUp_38 4 rfl ?_
          refine r_aload_n dX3_countUp_39 1 rfl ?_
          refine r_iload dX3_countUp_40 5 rfl ?_
          refine r_iload_n dX3_countUp_42 3 rfl ?_
          obtain ⟨q6, hq6, hf⟩ := hf_bind hf
          refine r_callVi (As := [.int v5_5, .int a1]) (b := (eA E 1)) (st := [.long v3_5]) (s_X3_fact hq6) (by decide) (by decide) wd_310 wd_311 wd_312 wd_69 wd_313 hy_X3_fact (Rc.obj 1 ga_R rfl) rfl (Nat.le_of_ble_eq_true rfl) dX3_countUp_43 ?_
          refine r_i2l dX3_countUp_46 ?_
          refine r_ldc (v := 332640) wd_463 dX3_countUp_47 ?_
          refine r_iload dX3_countUp_49 0 rfl ?_
          obtain ⟨z7, hf⟩ := hf_nz hf
          refine r_idiv dX3_countUp_51 z7 ?_
          refine r_i2l dX3_countUp_52 ?_
          refine r_lmul dX3_countUp_53 ?_
          refine r_ladd dX3_countUp_54 ?_
          refine r_lstore_n (lv2 := [(3, .long (v3_5 + ((Int32.toInt64 q6) * (Int32.toInt64 (332640 / q2))))), (6, .int q2), (0, .ref (eA E 1)), (1, .int a0), (2, .int a1), (5, .int v5_5)]) dX3_countUp_55 rfl (by decide) rfl ?_
          have e9 := Option.some.inj hf
          subst e9
          exact (Wa.sub [2, 3, 4, 0, 5] rfl kj4)
set_option maxHeartbeats 4000000 in
set_option maxRecDepth 100000 in
theorem s_X3_countUp {E : EN} {hX : TX} {hL : TC} {hT : TC} {hK : TK} {hS : TS} {hP : TP} {hM : TM} {R_count : Int32} {R_changes : Int32} {R_F : Nat → Nat → Int32} {a0 : Int32} {a1 : Int32} {qR : Int64} (hf : f_X3_countUp R_count R_F a0 a1 = some qR) : Sem E yX3_countUp cX3_countUp 7 (some .long) 2 [.ref (eA E 1), .int a0, .int a1] (hX, (R_count, R_changes, R_F), hL, hT, hK, hS, hP, hM) (some (.long qR), (hX, (R_count, R_changes, R_F), hL, hT, hK, hS, hP, hM)) := by
  refine Sem.mk (lv := [(0, .ref (eA E 1)), (1, .int a0), (2, .int a1)]) (by decide) (Nat.le_of_ble_eq_true rfl) rfl ?_
  rw [f_X3_countUp] at hf
  refine r_lconst (v := 0) dX3_countUp_0 (by decide) ?_
  refine r_lstore_n (lv2 := [(3, .long 0), (0, .ref (eA E 1)), (1, .int a0), (2, .int a1)]) dX3_countUp_1 rfl (by decide) rfl ?_
  refine r_iconst (v := 0) dX3_countUp_2 (by decide) ?_
  refine r_istore (lv2 := [(5, .int 0), (3, .long 0), (0, .ref (eA E 1)), (1, .int a0), (2, .int a1)]) dX3_countUp_3 (by decide) rfl ?_
  obtain ⟨q8, hq8, hf⟩ := hf_bind hf
  refine (Wa.sub [2, 3, 4, 1, 0] rfl (w_X3_countUp_5 _ _ _ _ hq8 ?_))
  refine r_lload_n dX3_countUp_62 0 rfl ?_
  have e9 := Option.some.inj hf
  subst e9
  exact r_lret rfl dX3_countUp_63
-- DuelSamples$Roster.miss
def f_X3_miss (R_count : Int32) (R_F : Nat → Nat → Int32) (a0 : Int32) : Option (Int64) := Option.bind (f_X3_countUp R_count R_F a0 3) (fun (q1 : Int64) => Option.bind (f_X3_sum R_count R_F 3) (fun (q2 : Int32) => some (if 0 < (q1 - ((Int32.toInt64 q2) * 27720)) then (q1 - ((Int32.toInt64 q2) * 27720)) else -(q1 - ((Int32.toInt64 q2) * 27720)))))
theorem hy_X3_miss : yX3_miss.cls ≠ "java/lang/invoke/MethodHandle" ∧ yX3_miss.cls ≠ "java/lang/invoke/VarHandle" ∧ (parseMethodDescriptor yX3_miss.desc).map (fun d => d.parameters.length) = some 1 := by decide +kernel
set_option maxHeartbeats 4000000 in
set_option maxRecDepth 100000 in
theorem s_X3_miss {E : EN} {hX : TX} {hL : TC} {hT : TC} {hK : TK} {hS : TS} {hP : TP} {hM : TM} {R_count : Int32} {R_changes : Int32} {R_F : Nat → Nat → Int32} {a0 : Int32} {qR : Int64} (hf : f_X3_miss R_count R_F a0 = some qR) : Sem E yX3_miss cX3_miss 2 (some .long) 3 [.ref (eA E 1), .int a0] (hX, (R_count, R_changes, R_F), hL, hT, hK, hS, hP, hM) (some (.long qR), (hX, (R_count, R_changes, R_F), hL, hT, hK, hS, hP, hM)) := by
  refine Sem.mk (lv := [(0, .ref (eA E 1)), (1, .int a0)]) (by decide) (Nat.le_of_ble_eq_true rfl) rfl ?_
  rw [f_X3_miss] at hf
  refine r_aload_n dX3_miss_0 0 rfl ?_
  refine r_iload_n dX3_miss_1 1 rfl ?_
  refine r_iconst (v := 3) dX3_miss_2 (by decide) ?_
  obtain ⟨q1, hq1, hf⟩ := hf_bind hf
  refine r_callVl (As := [.int a0, .int 3]) (b := (eA E 1)) (st := []) (s_X3_countUp hq1) (by decide) (by decide) wd_468 wd_460 wd_461 wd_69 wd_462 hy_X3_countUp (Rc.obj 1 ga_R rfl) rfl (Nat.le_of_ble_eq_true rfl) dX3_miss_3 ?_
  refine r_aload_n dX3_miss_6 0 rfl ?_
  refine r_iconst (v := 3) dX3_miss_7 (by decide) ?_
  obtain ⟨q2, hq2, hf⟩ := hf_bind hf
  refine r_callVi (As := [.int 3]) (b := (eA E 1)) (st := [.long q1]) (s_X3_sum hq2) (by decide) (by decide) wd_469 wd_307 wd_308 wd_69 wd_309 hy_X3_sum (Rc.obj 1 ga_R rfl) rfl (Nat.le_of_ble_eq_true rfl) dX3_miss_8 ?_
  refine r_i2l dX3_miss_11 ?_
  refine r_ldc2 (v := 27720) wd_470 dX3_miss_12 ?_
  refine r_lmul dX3_miss_15 ?_
  refine r_lsub dX3_miss_16 ?_
  refine r_mabs_long wd_471 wd_472 wd_75 wd_473 (by decide) (Nat.le_of_ble_eq_true rfl) dX3_miss_17 ?_
  have e9 := Option.some.inj hf
  subst e9
  exact r_lret rfl dX3_miss_20
