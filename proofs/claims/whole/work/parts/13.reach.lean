-- DuelSamples$Reach.mark
def f_X1_mark (K_seen : Nat → Int64) (a0 : Int32) : Option ((Nat → Int64)) := if a0 < 0 then some K_seen else if 4096 ≤ a0 then some K_seen else if inB (a0 / 64) 64 then if inB (a0 / 64) 64 then some (vp_updL K_seen (Int32.toNatClampNeg (a0 / 64)) ((K_seen (Int32.toNatClampNeg (a0 / 64))) ||| (1 <<< ((a0 - a0 / 64 * 64).toInt64 &&& 63)))) else none else none
theorem hy_X1_mark : yX1_mark.cls ≠ "java/lang/invoke/MethodHandle" ∧ yX1_mark.cls ≠ "java/lang/invoke/VarHandle" ∧ (parseMethodDescriptor yX1_mark.desc).map (fun d => d.parameters.length) = some 1 := by decide +kernel
set_option maxHeartbeats 4000000 in
set_option maxRecDepth 100000 in
theorem s_X1_mark {E : EN} {hX : TX} {hR : TR} {hL : TC} {hT : TC} {hS : TS} {hP : TP} {hM : TM} {K_atChanges : Int32} {K_atMethod : Int32} {K_seen : Nat → Int64} {a0 : Int32} {qR : (Nat → Int64)} (hf : f_X1_mark K_seen a0 = some qR) : Sem E yX1_mark cX1_mark 2 none 1 [.ref (eA E 18), .int a0] (hX, hR, hL, hT, (K_atChanges, K_atMethod, K_seen), hS, hP, hM) (none, (hX, hR, hL, hT, (K_atChanges, K_atMethod, qR), hS, hP, hM)) := by
  refine Sem.mk (lv := [(0, .ref (eA E 18)), (1, .int a0)]) (by decide) (Nat.le_of_ble_eq_true rfl) rfl ?_
  rw [f_X1_mark] at hf
  refine r_iload_n dX1_mark_0 1 rfl ?_
  refine r_if_lt (tgt := 29) dX1_mark_1 (by decide) (fun c1 => ?_) (fun c1 => ?_)
  · have hf := hf_pos c1 hf
    have e9 := Option.some.inj hf
    subst e9
    exact r_vret rfl dX1_mark_29
  · have hf := hf_neg c1 hf
    refine r_iload_n dX1_mark_4 1 rfl ?_
    refine r_sipush (v := 4096) dX1_mark_5 (by decide) ?_
    refine r_icmp_ge (tgt := 29) dX1_mark_8 (by decide) (fun c2 => ?_) (fun c2 => ?_)
    · have hf := hf_pos c2 hf
      have e9 := Option.some.inj hf
      subst e9
      exact r_vret rfl dX1_mark_29
    · have hf := hf_neg c2 hf
      refine r_aload_n dX1_mark_11 0 rfl ?_
      refine r_get (v := .ref (eA E 19)) in_X1 18 ga_K rfl 0 (by decide) wd_158 rfl rfl dX1_mark_12 ?_
      refine r_iload_n dX1_mark_15 1 rfl ?_
      refine r_bipush (v := 64) dX1_mark_16 (by decide) ?_
      refine r_idiv dX1_mark_18 (by decide) ?_
      refine r_dup2 dX1_mark_19 rfl rfl ?_
      obtain ⟨i3, hf⟩ := hf_in hf
      refine r_lald (f := K_seen) 19 ga_K_seen i3 dX1_mark_20 ?_
      refine r_lconst (v := 1) dX1_mark_21 (by decide) ?_
      refine r_iload_n dX1_mark_22 1 rfl ?_
      refine r_bipush (v := 64) dX1_mark_23 (by decide) ?_
      refine r_irem dX1_mark_25 (by decide) ?_
      refine r_lshl dX1_mark_26 ?_
      refine r_lor dX1_mark_27 ?_
      obtain ⟨i4, hf⟩ := hf_in hf
      refine r_last 19 ga_K_seen sa_K_seen i4 dX1_mark_28 ?_
      have e9 := Option.some.inj hf
      subst e9
      exact r_vret rfl dX1_mark_29
-- DuelSamples$Reach.follow
def f_X1_follow : Nat → Int32 → (Nat → Nat → Int32) → Int32 → Int32 → (Nat → Int32) → (Nat → Int64) → Int32 → Int32 → Option (Int32 × Int32 × (Nat → Int32) × (Nat → Int64))
  | 0, _, _, _, _, _, _, _, _ => none
  | n9 + 1, R_count, R_F, T_u, T_v, T_left, K_seen, a3, a4 => if 12 < a4 then Option.bind (f_X0_wholeOnes T_left) (fun (q2 : Int32) => Option.bind (f_X1_mark K_seen q2) (fun (q3 : (Nat → Int64)) => some (T_u, T_v, T_left, q3))) else Option.bind (f_X0_pick R_count R_F T_left a3) (fun (q4 : Int32 × Int32 × Int32) => if q4.1 = 0 then Option.bind (f_X0_wholeOnes T_left) (fun (q14 : Int32) => Option.bind (f_X1_mark K_seen q14) (fun (q15 : (Nat → Int64)) => some (q4.2.1, q4.2.2, T_left, q15))) else Option.bind (f_X0_leftOf T_left q4.2.1) (fun (q6 : Int32) => Option.bind (f_X0_leftOf T_left q4.2.2) (fun (q7 : Int32) => Option.bind (f_X0_settle q4.2.1 q4.2.2 T_left 1) (fun (q8 : (Nat → Int32)) => Option.bind (f_X1_follow n9 R_count R_F q4.2.1 q4.2.2 q8 K_seen a3 (a4 + 1)) (fun (q9 : Int32 × Int32 × (Nat → Int32) × (Nat → Int64)) => Option.bind (f_X0_restore q9.2.2.1 q4.2.1 q4.2.2 q6 q7) (fun (q10 : Int32 × Int32 × (Nat → Int32)) => Option.bind (f_X0_settle q10.1 q10.2.1 q10.2.2 0) (fun (q11 : (Nat → Int32)) => Option.bind (f_X1_follow n9 R_count R_F q10.1 q10.2.1 q11 q9.2.2.2 a3 (a4 + 1)) (fun (q12 : Int32 × Int32 × (Nat → Int32) × (Nat → Int64)) => Option.bind (f_X0_restore q12.2.2.1 q4.2.1 q4.2.2 q6 q7) (fun (q13 : Int32 × Int32 × (Nat → Int32)) => some (q13.1, q13.2.1, q13.2.2, q12.2.2.2))))))))))
theorem hy_X1_follow : yX1_follow.cls ≠ "java/lang/invoke/MethodHandle" ∧ yX1_follow.cls ≠ "java/lang/invoke/VarHandle" ∧ (parseMethodDescriptor yX1_follow.desc).map (fun d => d.parameters.length) = some 5 := by decide +kernel
set_option maxHeartbeats 4000000 in
set_option maxRecDepth 100000 in
theorem s_X1_follow {E : EN} {hX : TX} {hL : TC} {hS : TS} {hP : TP} {hM : TM}  : ∀ (n9 : Nat) (R_count : Int32) (R_changes : Int32) (R_F : Nat → Nat → Int32) (T_sample : Int32) (T_plays : Int32) (T_small : Int32) (T_large : Int32) (T_u : Int32) (T_v : Int32) (T_left : Nat → Int32) (T_firsts : Nat → Int32) (T_seconds : Nat → Int32) (T_winners : Nat → Int32) (K_atChanges : Int32) (K_atMethod : Int32) (K_seen : Nat → Int64) (a3 : Int32) (a4 : Int32) (qR : Int32 × Int32 × (Nat → Int32) × (Nat → Int64)), f_X1_follow n9 R_count R_F T_u T_v T_left K_seen a3 a4 = some qR → Sem E yX1_follow cX1_follow 9 none (4 + n9) [.ref (eA E 18), .ref (eA E 13), .ref (eA E 1), .int a3, .int a4] (hX, (R_count, R_changes, R_F), hL, (T_sample, T_plays, T_small, T_large, T_u, T_v, T_left, T_firsts, T_seconds, T_winners), (K_atChanges, K_atMethod, K_seen), hS, hP, hM) (none, (hX, (R_count, R_changes, R_F), hL, (T_sample, T_plays, T_small, T_large, qR.1, qR.2.1, qR.2.2.1, T_firsts, T_seconds, T_winners), (K_atChanges, K_atMethod, qR.2.2.2), hS, hP, hM)) := by
  intro n9
  induction n9 with
  | zero =>
    intro R_count R_changes R_F T_sample T_plays T_small T_large T_u T_v T_left T_firsts T_seconds T_winners K_atChanges K_atMethod K_seen a3 a4 qR hf
    exact nomatch (show (none : Option (Int32 × Int32 × (Nat → Int32) × (Nat → Int64))) = some qR from hf)
  | succ n9 ih =>
    intro R_count R_changes R_F T_sample T_plays T_small T_large T_u T_v T_left T_firsts T_seconds T_winners K_atChanges K_atMethod K_seen a3 a4 qR hf
    refine Sem.mk (lv := [(0, .ref (eA E 18)), (1, .ref (eA E 13)), (2, .ref (eA E 1)), (3, .int a3), (4, .int a4)]) (by decide) (Nat.le_of_ble_eq_true rfl) rfl ?_
    rw [f_X1_follow] at hf
    refine r_iload dX1_follow_0 4 rfl ?_
    refine r_bipush (v := 12) dX1_follow_2 (by decide) ?_
    refine r_icmp_gt (tgt := 16) dX1_follow_4 (by decide) (fun c1 => ?_) (fun c1 => ?_)
    · have hf := hf_pos c1 hf
      refine r_aload_n dX1_follow_16 0 rfl ?_
      refine r_aload_n dX1_follow_17 1 rfl ?_
      obtain ⟨q2, hq2, hf⟩ := hf_bind hf
      refine r_callVi (As := []) (b := (eA E 13)) (st := [.ref (eA E 18)]) (s_X0_wholeOnes_T hq2) (by omega) (by decide) wd_521 wd_430 wd_431 wd_70 wd_432 hy_X0_wholeOnes (Rc.obj 13 ga_T rfl) rfl (Nat.le_of_ble_eq_true rfl) dX1_follow_18 ?_
      obtain ⟨q3, hq3, hf⟩ := hf_bind hf
      refine r_callVv (As := [.int q2]) (b := (eA E 18)) (st := []) (s_X1_mark hq3) (by omega) (by decide) wd_522 wd_524 wd_16 wd_71 wd_525 hy_X1_mark (Rc.obj 18 ga_K rfl) rfl (Nat.le_of_ble_eq_true rfl) dX1_follow_21 ?_
      have e9 := Option.some.inj hf
      subst e9
      exact r_vret rfl dX1_follow_24
    · have hf := hf_neg c1 hf
      refine r_aload_n dX1_follow_7 1 rfl ?_
      refine r_aload_n dX1_follow_8 2 rfl ?_
      refine r_iload_n dX1_follow_9 3 rfl ?_
      obtain ⟨q4, hq4, hf⟩ := hf_bind hf
      refine r_callVi (As := [.ref (eA E 1), .int a3]) (b := (eA E 13)) (st := []) (s_X0_pick_T hq4) (by omega) (by decide) wd_520 wd_358 wd_359 wd_70 wd_360 hy_X0_pick (Rc.obj 13 ga_T rfl) rfl (Nat.le_of_ble_eq_true rfl) dX1_follow_10 ?_
      refine r_if_ne (tgt := 25) dX1_follow_13 (by decide) (fun c5 => ?_) (fun c5 => ?_)
      · have hf := hf_neg c5 hf
        refine r_aload_n dX1_follow_25 1 rfl ?_
        refine r_getN (v := .int q4.2.1) in_X0 13 ga_T rfl 8 (by decide) wn_127 rfl rfl dX1_follow_26 ?_
        refine r_istore (lv2 := [(5, .int q4.2.1), (0, .ref (eA E 18)), (1, .ref (eA E 13)), (2, .ref (eA E 1)), (3, .int a3), (4, .int a4)]) dX1_follow_29 (by decide) rfl ?_
        refine r_aload_n dX1_follow_31 2 rfl ?_
        refine r_getN (v := .int q4.2.2) in_X0 13 ga_T rfl 9 (by decide) wn_129 rfl rfl dX1_follow_32 ?_
        refine r_istore (lv2 := [(6, .int q4.2.2), (5, .int q4.2.1), (0, .ref (eA E 18)), (1, .ref (eA E 13)), (2, .ref (eA E 1)), (3, .int a3), (4, .int a4)]) dX1_follow_35 (by decide) rfl ?_
        refine r_aload_n dX1_follow_37 3 rfl ?_
        refine r_iload dX1_follow_38 1 rfl ?_
        obtain ⟨q6, hq6, hf⟩ := hf_bind hf
        refine r_callVi (As := [.int q4.2.1]) (b := (eA E 13)) (st := []) (s_X0_leftOf_T hq6) (by omega) (by decide) wd_526 wd_406 wd_407 wd_70 wd_408 hy_X0_leftOf (Rc.obj 13 ga_T rfl) rfl (Nat.le_of_ble_eq_true rfl) dX1_follow_40 ?_
        refine r_istore (lv2 := [(7, .int q6), (6, .int q4.2.2), (5, .int q4.2.1), (0, .ref (eA E 18)), (1, .ref (eA E 13)), (2, .ref (eA E 1)), (3, .int a3), (4, .int a4)]) dX1_follow_43 (by decide) rfl ?_
        refine r_aload_n dX1_follow_45 4 rfl ?_
        refine r_iload dX1_follow_46 1 rfl ?_
        obtain ⟨q7, hq7, hf⟩ := hf_bind hf
        refine r_callVi (As := [.int q4.2.2]) (b := (eA E 13)) (st := []) (s_X0_leftOf_T hq7) (by omega) (by decide) wd_526 wd_406 wd_407 wd_70 wd_408 hy_X0_leftOf (Rc.obj 13 ga_T rfl) rfl (Nat.le_of_ble_eq_true rfl) dX1_follow_48 ?_
        refine r_istore (lv2 := [(8, .int q7), (7, .int q6), (6, .int q4.2.2), (5, .int q4.2.1), (0, .ref (eA E 18)), (1, .ref (eA E 13)), (2, .ref (eA E 1)), (3, .int a3), (4, .int a4)]) dX1_follow_51 (by decide) rfl ?_
        refine r_aload_n dX1_follow_53 5 rfl ?_
        refine r_iconst (v := 1) dX1_follow_54 (by decide) ?_
        obtain ⟨q8, hq8, hf⟩ := hf_bind hf
        refine r_callVv (As := [.int 1]) (b := (eA E 13)) (st := []) (s_X0_settle_T hq8) (by omega) (by decide) wd_527 wd_419 wd_420 wd_70 wd_421 hy_X0_settle (Rc.obj 13 ga_T rfl) rfl (Nat.le_of_ble_eq_true rfl) dX1_follow_55 ?_
        refine r_aload_n dX1_follow_58 4 rfl ?_
        refine r_aload_n dX1_follow_59 5 rfl ?_
        refine r_aload_n dX1_follow_60 6 rfl ?_
        refine r_iload_n dX1_follow_61 7 rfl ?_
        refine r_iload dX1_follow_62 8 rfl ?_
        refine r_iconst (v := 1) dX1_follow_64 (by decide) ?_
        refine r_iadd dX1_follow_65 ?_
        obtain ⟨q9, hq9, hf⟩ := hf_bind hf
        refine r_callSv (As := [.ref (eA E 18), .ref (eA E 13), .ref (eA E 1), .int a3, .int (a4 + 1)]) (st := []) (ih _ _ _ _ _ _ _ _ _ _ _ _ _ _ _ _ _ _ _ hq9) (by omega) (by decide) wd_517 wd_518 wd_71 wd_519 hy_X1_follow rfl (Nat.le_of_ble_eq_true rfl) dX1_follow_66 ?_
        refine r_aload_n dX1_follow_69 5 rfl ?_
        refine r_iload dX1_follow_70 3 rfl ?_
        refine r_iload dX1_follow_72 2 rfl ?_
        refine r_iload dX1_follow_74 1 rfl ?_
        refine r_iload dX1_follow_76 0 rfl ?_
        obtain ⟨q10, hq10, hf⟩ := hf_bind hf
        refine r_callVv (As := [.int q4.2.1, .int q4.2.2, .int q6, .int q7]) (b := (eA E 13)) (st := []) (s_X0_restore_T hq10) (by omega) (by decide) wd_528 wd_529 wd_530 wd_70 wd_531 hy_X0_restore (Rc.obj 13 ga_T rfl) rfl (Nat.le_of_ble_eq_true rfl) dX1_follow_78 ?_
        refine r_aload_n dX1_follow_81 5 rfl ?_
        refine r_iconst (v := 0) dX1_follow_82 (by decide) ?_
        obtain ⟨q11, hq11, hf⟩ := hf_bind hf
        refine r_callVv (As := [.int 0]) (b := (eA E 13)) (st := []) (s_X0_settle_T hq11) (by omega) (by decide) wd_527 wd_419 wd_420 wd_70 wd_421 hy_X0_settle (Rc.obj 13 ga_T rfl) rfl (Nat.le_of_ble_eq_true rfl) dX1_follow_83 ?_
        refine r_aload_n dX1_follow_86 4 rfl ?_
        refine r_aload_n dX1_follow_87 5 rfl ?_
        refine r_aload_n dX1_follow_88 6 rfl ?_
        refine r_iload_n dX1_follow_89 7 rfl ?_
        refine r_iload dX1_follow_90 8 rfl ?_
        refine r_iconst (v := 1) dX1_follow_92 (by decide) ?_
        refine r_iadd dX1_follow_93 ?_
        obtain ⟨q12, hq12, hf⟩ := hf_bind hf
        refine r_callSv (As := [.ref (eA E 18), .ref (eA E 13), .ref (eA E 1), .int a3, .int (a4 + 1)]) (st := []) (ih _ _ _ _ _ _ _ _ _ _ _ _ _ _ _ _ _ _ _ hq12) (by omega) (by decide) wd_517 wd_518 wd_71 wd_519 hy_X1_follow rfl (Nat.le_of_ble_eq_true rfl) dX1_follow_94 ?_
        refine r_aload_n dX1_follow_97 5 rfl ?_
        refine r_iload dX1_follow_98 3 rfl ?_
        refine r_iload dX1_follow_100 2 rfl ?_
        refine r_iload dX1_follow_102 1 rfl ?_
        refine r_iload dX1_follow_104 0 rfl ?_
        obtain ⟨q13, hq13, hf⟩ := hf_bind hf
        refine r_callVv (As := [.int q4.2.1, .int q4.2.2, .int q6, .int q7]) (b := (eA E 13)) (st := []) (s_X0_restore_T hq13) (by omega) (by decide) wd_528 wd_529 wd_530 wd_70 wd_531 hy_X0_restore (Rc.obj 13 ga_T rfl) rfl (Nat.le_of_ble_eq_true rfl) dX1_follow_106 ?_
        have e9 := Option.some.inj hf
        subst e9
        exact r_vret rfl dX1_follow_109
      · have hf := hf_pos c5 hf
        refine r_aload_n dX1_follow_16 0 rfl ?_
        refine r_aload_n dX1_follow_17 1 rfl ?_
        obtain ⟨q14, hq14, hf⟩ := hf_bind hf
        refine r_callVi (As := []) (b := (eA E 13)) (st := [.ref (eA E 18)]) (s_X0_wholeOnes_T hq14) (by omega) (by decide) wd_521 wd_430 wd_431 wd_70 wd_432 hy_X0_wholeOnes (Rc.obj 13 ga_T rfl) rfl (Nat.le_of_ble_eq_true rfl) dX1_follow_18 ?_
        obtain ⟨q15, hq15, hf⟩ := hf_bind hf
        refine r_callVv (As := [.int q14]) (b := (eA E 18)) (st := []) (s_X1_mark hq15) (by omega) (by decide) wd_522 wd_524 wd_16 wd_71 wd_525 hy_X1_mark (Rc.obj 18 ga_K rfl) rfl (Nat.le_of_ble_eq_true rfl) dX1_follow_21 ?_
        have e9 := Option.some.inj hf
        subst e9
        exact r_vret rfl dX1_follow_24
-- DuelSamples$Reach.explore
def j_X1_explore_20 (K_seen : Nat → Int64) (R_count : Int32) (R_F : Nat → Nat → Int32) (T_left : Nat → Int32) (T_u : Int32) (T_v : Int32) (a1 : Int32) (R_changes : Int32) : Option (Int32 × Int32 × (Nat → Int32) × Int32 × Int32 × (Nat → Int64)) := Option.bind (f_J7_fill_d0a16 K_seen 0) (fun (q2 : (Nat → Int64)) => Option.bind (f_X0_begin R_count R_F T_left) (fun (q3 : (Nat → Int32)) => Option.bind (f_X1_follow 14 R_count R_F T_u T_v q3 q2 a1 0) (fun (q4 : Int32 × Int32 × (Nat → Int32) × (Nat → Int64)) => some (q4.1, q4.2.1, q4.2.2.1, R_changes, a1, q4.2.2.2))))
def f_X1_explore (R_count : Int32) (R_changes : Int32) (R_F : Nat → Nat → Int32) (T_u : Int32) (T_v : Int32) (T_left : Nat → Int32) (K_atChanges : Int32) (K_atMethod : Int32) (K_seen : Nat → Int64) (a1 : Int32) : Option (Int32 × Int32 × (Nat → Int32) × Int32 × Int32 × (Nat → Int64)) := if K_atChanges = R_changes then if K_atMethod = a1 then some (T_u, T_v, T_left, K_atChanges, K_atMethod, K_seen) else j_X1_explore_20 K_seen R_count R_F T_left T_u T_v a1 R_changes else j_X1_explore_20 K_seen R_count R_F T_left T_u T_v a1 R_changes
theorem hy_X1_explore : yX1_explore.cls ≠ "java/lang/invoke/MethodHandle" ∧ yX1_explore.cls ≠ "java/lang/invoke/VarHandle" ∧ (parseMethodDescriptor yX1_explore.desc).map (fun d => d.parameters.length) = some 3 := by decide +kernel
set_option maxHeartbeats 4000000 in
set_option maxRecDepth 100000 in
theorem wj_X1_explore_20 {E : EN} {hX : TX} {hL : TC} {hS : TS} {hP : TP} {hM : TM} {R_count : Int32} {R_changes : Int32} {R_F : Nat → Nat → Int32} {T_sample : Int32} {T_plays : Int32} {T_small : Int32} {T_large : Int32} {T_firsts : Nat → Int32} {T_seconds : Nat → Int32} {T_winners : Nat → Int32} {a1 : Int32} {T_u : Int32} {T_v : Int32} {T_left : Nat → Int32} {K_atChanges : Int32} {K_atMethod : Int32} {K_seen : Nat → Int64} {qR : Int32 × Int32 × (Nat → Int32) × Int32 × Int32 × (Nat → Int64)} (hf : j_X1_explore_20 K_seen R_count R_F T_left T_u T_v a1 R_changes = some qR) : Wa E yX1_explore cX1_explore 4 none 19 (none, (hX, (R_count, R_changes, R_F), hL, (T_sample, T_plays, T_small, T_large, qR.1, qR.2.1, qR.2.2.1, T_firsts, T_seconds, T_winners), (qR.2.2.2.1, qR.2.2.2.2.1, qR.2.2.2.2.2), hS, hP, hM)) 20 [(0, .ref (eA E 18)), (1, .ref (eA E 1)), (2, .int a1), (3, .ref (eA E 13))] [] (hX, (R_count, R_changes, R_F), hL, (T_sample, T_plays, T_small, T_large, T_u, T_v, T_left, T_firsts, T_seconds, T_winners), (K_atChanges, K_atMethod, K_seen), hS, hP, hM) := by
  rw [j_X1_explore_20] at hf
  refine r_aload_n dX1_explore_20 0 rfl ?_
  refine r_aload_n dX1_explore_21 1 rfl ?_
  refine r_getN (v := .int R_changes) in_X3 1 ga_R rfl 2 (by decide) wn_102 rfl rfl dX1_explore_22 ?_
  refine r_put in_X1 tyX1_ok nmX1 18 ga_K rfl 1 (by decide) wd_159 rfl rfl pfI (Nat.le_of_ble_eq_true rfl) sa_K_atChanges dX1_explore_25 ?_
  refine r_aload_n dX1_explore_28 0 rfl ?_
  refine r_iload_n dX1_explore_29 2 rfl ?_
  refine r_put in_X1 tyX1_ok nmX1 18 ga_K rfl 2 (by decide) wd_160 rfl rfl pfI (Nat.le_of_ble_eq_true rfl) sa_K_atMethod dX1_explore_30 ?_
  refine r_aload_n dX1_explore_33 0 rfl ?_
  refine r_get (v := .ref (eA E 19)) in_X1 18 ga_K rfl 0 (by decide) wd_158 rfl rfl dX1_explore_34 ?_
  refine r_lconst (v := 0) dX1_explore_37 (by decide) ?_
  obtain ⟨q2, hq2, hf⟩ := hf_bind hf
  refine r_callSv (As := [.ref (eA E 19), .long 0]) (st := []) (s_J7_fill_d0a16 hq2) (by decide) (by decide) wd_513 wd_514 wd_77 wd_515 hy_J7_fill_d0a16 rfl (Nat.le_of_ble_eq_true rfl) dX1_explore_38 ?_
  refine r_aload_n dX1_explore_41 3 rfl ?_
  refine r_aload_n dX1_explore_42 1 rfl ?_
  obtain ⟨q3, hq3, hf⟩ := hf_bind hf
  refine r_callVv (As := [.ref (eA E 1)]) (b := (eA E 13)) (st := []) (s_X0_begin_T hq3) (by decide) (by decide) wd_516 wd_353 wd_354 wd_70 wd_355 hy_X0_begin (Rc.obj 13 ga_T rfl) rfl (Nat.le_of_ble_eq_true rfl) dX1_explore_43 ?_
  refine r_aload_n dX1_explore_46 0 rfl ?_
  refine r_aload_n dX1_explore_47 3 rfl ?_
  refine r_aload_n dX1_explore_48 1 rfl ?_
  refine r_iload_n dX1_explore_49 2 rfl ?_
  refine r_iconst (v := 0) dX1_explore_50 (by decide) ?_
  obtain ⟨q4, hq4, hf⟩ := hf_bind hf
  refine r_callSv (As := [.ref (eA E 18), .ref (eA E 13), .ref (eA E 1), .int a1, .int 0]) (st := []) (s_X1_follow 14 _ _ _ _ _ _ _ _ _ _ _ _ _ _ _ _ _ _ _ hq4) (by decide) (by decide) wd_517 wd_518 wd_71 wd_519 hy_X1_follow rfl (Nat.le_of_ble_eq_true rfl) dX1_explore_51 ?_
  have e9 := Option.some.inj hf
  subst e9
  exact r_vret rfl dX1_explore_54
set_option maxHeartbeats 4000000 in
set_option maxRecDepth 100000 in
theorem s_X1_explore {E : EN} {hX : TX} {hL : TC} {hS : TS} {hP : TP} {hM : TM} {R_count : Int32} {R_changes : Int32} {R_F : Nat → Nat → Int32} {T_sample : Int32} {T_plays : Int32} {T_small : Int32} {T_large : Int32} {T_u : Int32} {T_v : Int32} {T_left : Nat → Int32} {T_firsts : Nat → Int32} {T_seconds : Nat → Int32} {T_winners : Nat → Int32} {K_atChanges : Int32} {K_atMethod : Int32} {K_seen : Nat → Int64} {a1 : Int32} {qR : Int32 × Int32 × (Nat → Int32) × Int32 × Int32 × (Nat → Int64)} (hf : f_X1_explore R_count R_changes R_F T_u T_v T_left K_atChanges K_atMethod K_seen a1 = some qR) : Sem E yX1_explore cX1_explore 4 none 19 [.ref (eA E 18), .ref (eA E 1), .int a1, .ref (eA E 13)] (hX, (R_count, R_changes, R_F), hL, (T_sample, T_plays, T_small, T_large, T_u, T_v, T_left, T_firsts, T_seconds, T_winners), (K_atChanges, K_atMethod, K_seen), hS, hP, hM) (none, (hX, (R_count, R_changes, R_F), hL, (T_sample, T_plays, T_small, T_large, qR.1, qR.2.1, qR.2.2.1, T_firsts, T_seconds, T_winners), (qR.2.2.2.1, qR.2.2.2.2.1, qR.2.2.2.2.2), hS, hP, hM)) := by
  refine Sem.mk (lv := [(0, .ref (eA E 18)), (1, .ref (eA E 1)), (2, .int a1), (3, .ref (eA E 13))]) (by decide) (Nat.le_of_ble_eq_true rfl) rfl ?_
  rw [f_X1_explore] at hf
  refine r_aload_n dX1_explore_0 0 rfl ?_
  refine r_get (v := .int K_atChanges) in_X1 18 ga_K rfl 1 (by decide) wd_159 rfl rfl dX1_explore_1 ?_
  refine r_aload_n dX1_explore_4 1 rfl ?_
  refine r_getN (v := .int R_changes) in_X3 1 ga_R rfl 2 (by decide) wn_102 rfl rfl dX1_explore_5 ?_
  refine r_icmp_ne (tgt := 20) dX1_explore_8 (by decide) (fun c1 => ?_) (fun c1 => ?_)
  · have hf := hf_neg c1 hf
    exact (wj_X1_explore_20 hf)
  · have hf := hf_pos c1 hf
    refine r_aload_n dX1_explore_11 0 rfl ?_
    refine r_get (v := .int K_atMethod) in_X1 18 ga_K rfl 2 (by decide) wd_160 rfl rfl dX1_explore_12 ?_
    refine r_iload_n dX1_explore_15 2 rfl ?_
    refine r_icmp_ne (tgt := 20) dX1_explore_16 (by decide) (fun c5 => ?_) (fun c5 => ?_)
    · have hf := hf_neg c5 hf
      exact (wj_X1_explore_20 hf)
    · have hf := hf_pos c5 hf
      have e9 := Option.some.inj hf
      subst e9
      exact r_vret rfl dX1_explore_19
-- DuelSamples$Reach.howMany
def lp_X1_howMany_4 (K_seen : Nat → Int64) : Nat → Int32 → Int32 → Option (Int32)
  | 0, _, _ => none
  | n9 + 1, v1_4, v2_4 => if 64 ≤ v2_4 then some v1_4 else if inB v2_4 64 then Option.bind (f_J13_bitCount_95d88 (K_seen (Int32.toNatClampNeg v2_4))) (fun (q3 : Int32) => lp_X1_howMany_4 K_seen n9 (v1_4 + q3) (v2_4 + 1)) else none
def f_X1_howMany (K_seen : Nat → Int64)  : Option (Int32) := Option.bind (lp_X1_howMany_4 K_seen FU 0 0) (fun (q4 : Int32) => some q4)
theorem hy_X1_howMany : yX1_howMany.cls ≠ "java/lang/invoke/MethodHandle" ∧ yX1_howMany.cls ≠ "java/lang/invoke/VarHandle" ∧ (parseMethodDescriptor yX1_howMany.desc).map (fun d => d.parameters.length) = some 0 := by decide +kernel
set_option maxHeartbeats 4000000 in
set_option maxRecDepth 100000 in
theorem w_X1_howMany_4 {E : EN} {res : Option Value × Hp} {hX : TX} {hR : TR} {hL : TC} {hT : TC} {hS : TS} {hP : TP} {hM : TM} {K_atChanges : Int32} {K_atMethod : Int32} {K_seen : Nat → Int64} : ∀ (n9 : Nat) (v1_4 : Int32) (v2_4 : Int32) (qL : Int32), lp_X1_howMany_4 K_seen n9 v1_4 v2_4 = some qL → (Wa E yX1_howMany cX1_howMany 3 (some .int) 2 res 31 [(1, .int qL)] [] (hX, hR, hL, hT, (K_atChanges, K_atMethod, K_seen), hS, hP, hM)) → Wa E yX1_howMany cX1_howMany 3 (some .int) 2 res 4 [(0, .ref (eA E 18)), (1, .int v1_4), (2, .int v2_4)] [] (hX, hR, hL, hT, (K_atChanges, K_atMethod, K_seen), hS, hP, hM) := by
  intro n9
  induction n9 with
  | zero =>
    intro v1_4 v2_4 qL hf
    exact nomatch (show (none : Option (Int32)) = some qL from hf)
  | succ n9 ih =>
    intro v1_4 v2_4 qL hf kx0
    rw [lp_X1_howMany_4] at hf
    refine r_iload_n dX1_howMany_4 2 rfl ?_
    refine r_aload_n dX1_howMany_5 0 rfl ?_
    refine r_get (v := .ref (eA E 19)) in_X1 18 ga_K rfl 0 (by decide) wd_158 rfl rfl dX1_howMany_6 ?_
    refine r_alen (v := 64) 19 2 ga_K_seen rfl rfl dX1_howMany_9 ?_
    refine r_icmp_ge (tgt := 31) dX1_howMany_10 (by decide) (fun c1 => ?_) (fun c1 => ?_)
    · have hf := hf_pos c1 hf
      have e9 := Option.some.inj hf
      subst e9
      exact (Wa.sub [1] rfl kx0)
    · have hf := hf_neg c1 hf
      refine r_iload_n dX1_howMany_13 1 rfl ?_
      refine r_aload_n dX1_howMany_14 0 rfl ?_
      refine r_get (v := .ref (eA E 19)) in_X1 18 ga_K rfl 0 (by decide) wd_158 rfl rfl dX1_howMany_15 ?_
      refine r_iload_n dX1_howMany_18 2 rfl ?_
      obtain ⟨i2, hf⟩ := hf_in hf
      refine r_lald (f := K_seen) 19 ga_K_seen i2 dX1_howMany_19 ?_
      obtain ⟨q3, hq3, hf⟩ := hf_bind hf
      refine r_callSi (As := [.long (K_seen (Int32.toNatClampNeg v2_4))]) (st := [.int v1_4]) (s_J13_bitCount_95d88 hq3) (by decide) (by decide) wd_536 wd_537 wd_78 wd_538 hy_J13_bitCount_95d88 rfl (Nat.le_of_ble_eq_true rfl) dX1_howMany_20 ?_
      refine r_iadd dX1_howMany_23 ?_
      refine r_istore_n (lv2 := [(1, .int (v1_4 + q3)), (0, .ref (eA E 18)), (2, .int v2_4)]) dX1_howMany_24 rfl (by decide) rfl ?_
      refine r_iinc (v := (v2_4 + 1)) (lv2 := [(2, .int (v2_4 + 1)), (1, .int (v1_4 + q3)), (0, .ref (eA E 18))]) dX1_howMany_25 2 rfl rfl (by decide) rfl ?_
      refine r_goto (tgt := 4) dX1_howMany_28 (by decide) ?_
      exact (Wa.sub [2, 1, 0] rfl (ih _ _ _ hf kx0))
set_option maxHeartbeats 4000000 in
set_option maxRecDepth 100000 in
theorem s_X1_howMany {E : EN} {hX : TX} {hR : TR} {hL : TC} {hT : TC} {hS : TS} {hP : TP} {hM : TM} {K_atChanges : Int32} {K_atMethod : Int32} {K_seen : Nat → Int64}  {qR : Int32} (hf : f_X1_howMany K_seen = some qR) : Sem E yX1_howMany cX1_howMany 3 (some .int) 2 [.ref (eA E 18)] (hX, hR, hL, hT, (K_atChanges, K_atMethod, K_seen), hS, hP, hM) (some (.int qR), (hX, hR, hL, hT, (K_atChanges, K_atMethod, K_seen), hS, hP, hM)) := by
  refine Sem.mk (lv := [(0, .ref (eA E 18))]) (by decide) (Nat.le_of_ble_eq_true rfl) rfl ?_
  rw [f_X1_howMany] at hf
  refine r_iconst (v := 0) dX1_howMany_0 (by decide) ?_
  refine r_istore_n (lv2 := [(1, .int 0), (0, .ref (eA E 18))]) dX1_howMany_1 rfl (by decide) rfl ?_
  refine r_iconst (v := 0) dX1_howMany_2 (by decide) ?_
  refine r_istore_n (lv2 := [(2, .int 0), (1, .int 0), (0, .ref (eA E 18))]) dX1_howMany_3 rfl (by decide) rfl ?_
  obtain ⟨q4, hq4, hf⟩ := hf_bind hf
  refine (Wa.sub [2, 1, 0] rfl (w_X1_howMany_4 _ _ _ _ hq4 ?_))
  refine r_iload_n dX1_howMany_31 0 rfl ?_
  have e9 := Option.some.inj hf
  subst e9
  exact r_iret rfl dX1_howMany_32
-- DuelSamples$Reach.isSeen
def f_X1_isSeen (K_seen : Nat → Int64) (a0 : Int32) : Option (Int32) := if a0 < 0 then some 0 else if 4096 ≤ a0 then some 0 else if inB (a0 / 64) 64 then if (lg_cmp (((K_seen (Int32.toNatClampNeg (a0 / 64))) >>> ((a0 - a0 / 64 * 64).toInt64 &&& 63)) &&& 1) 1) = 0 then some 1 else some 0 else none
theorem hy_X1_isSeen : yX1_isSeen.cls ≠ "java/lang/invoke/MethodHandle" ∧ yX1_isSeen.cls ≠ "java/lang/invoke/VarHandle" ∧ (parseMethodDescriptor yX1_isSeen.desc).map (fun d => d.parameters.length) = some 1 := by decide +kernel
set_option maxHeartbeats 4000000 in
set_option maxRecDepth 100000 in
theorem s_X1_isSeen {E : EN} {hX : TX} {hR : TR} {hL : TC} {hT : TC} {hS : TS} {hP : TP} {hM : TM} {K_atChanges : Int32} {K_atMethod : Int32} {K_seen : Nat → Int64} {a0 : Int32} {qR : Int32} (hf : f_X1_isSeen K_seen a0 = some qR) : Sem E yX1_isSeen cX1_isSeen 2 (some .boolean) 1 [.ref (eA E 18), .int a0] (hX, hR, hL, hT, (K_atChanges, K_atMethod, K_seen), hS, hP, hM) (some (.int qR), (hX, hR, hL, hT, (K_atChanges, K_atMethod, K_seen), hS, hP, hM)) := by
  refine Sem.mk (lv := [(0, .ref (eA E 18)), (1, .int a0)]) (by decide) (Nat.le_of_ble_eq_true rfl) rfl ?_
  rw [f_X1_isSeen] at hf
  refine r_iload_n dX1_isSeen_0 1 rfl ?_
  refine r_if_lt (tgt := 36) dX1_isSeen_1 (by decide) (fun c1 => ?_) (fun c1 => ?_)
  · have hf := hf_pos c1 hf
    refine r_iconst (v := 0) dX1_isSeen_36 (by decide) ?_
    have e9 := Option.some.inj hf
    subst e9
    exact r_zret rfl (narB (Or.inl rfl)) dX1_isSeen_37
  · have hf := hf_neg c1 hf
    refine r_iload_n dX1_isSeen_4 1 rfl ?_
    refine r_sipush (v := 4096) dX1_isSeen_5 (by decide) ?_
    refine r_icmp_ge (tgt := 36) dX1_isSeen_8 (by decide) (fun c2 => ?_) (fun c2 => ?_)
    · have hf := hf_pos c2 hf
      refine r_iconst (v := 0) dX1_isSeen_36 (by decide) ?_
      have e9 := Option.some.inj hf
      subst e9
      exact r_zret rfl (narB (Or.inl rfl)) dX1_isSeen_37
    · have hf := hf_neg c2 hf
      refine r_aload_n dX1_isSeen_11 0 rfl ?_
      refine r_get (v := .ref (eA E 19)) in_X1 18 ga_K rfl 0 (by decide) wd_158 rfl rfl dX1_isSeen_12 ?_
      refine r_iload_n dX1_isSeen_15 1 rfl ?_
      refine r_bipush (v := 64) dX1_isSeen_16 (by decide) ?_
      refine r_idiv dX1_isSeen_18 (by decide) ?_
      obtain ⟨i3, hf⟩ := hf_in hf
      refine r_lald (f := K_seen) 19 ga_K_seen i3 dX1_isSeen_19 ?_
      refine r_iload_n dX1_isSeen_20 1 rfl ?_
      refine r_bipush (v := 64) dX1_isSeen_21 (by decide) ?_
      refine r_irem dX1_isSeen_23 (by decide) ?_
      refine r_lshr dX1_isSeen_24 ?_
      refine r_lconst (v := 1) dX1_isSeen_25 (by decide) ?_
      refine r_land dX1_isSeen_26 ?_
      refine r_lconst (v := 1) dX1_isSeen_27 (by decide) ?_
      refine r_lcmp dX1_isSeen_28 ?_
      refine r_if_ne (tgt := 36) dX1_isSeen_29 (by decide) (fun c4 => ?_) (fun c4 => ?_)
      · have hf := hf_neg c4 hf
        refine r_iconst (v := 0) dX1_isSeen_36 (by decide) ?_
        have e9 := Option.some.inj hf
        subst e9
        exact r_zret rfl (narB (Or.inl rfl)) dX1_isSeen_37
      · have hf := hf_pos c4 hf
        refine r_iconst (v := 1) dX1_isSeen_32 (by decide) ?_
        refine r_goto (tgt := 37) dX1_isSeen_33 (by decide) ?_
        have e9 := Option.some.inj hf
        subst e9
        exact r_zret rfl (narB (Or.inr rfl)) dX1_isSeen_37
-- DuelSamples$Reach.fewestUnits
def lp_X1_fewestUnits_5 (K_seen : Nat → Int64) : Nat → Int32 → Int32 → Option (Int32)
  | 0, _, _ => none
  | n9 + 1, v1_5, v2_5 => if 4096 ≤ v2_5 then some v1_5 else Option.bind (f_X1_isSeen K_seen v2_5) (fun (q2 : Int32) => Option.bind (if q2 = 0 then some v1_5 else Option.bind (f_J6_bitCount_0f7a4 v2_5) (fun (q5 : Int32) => some (if q5 < v1_5 then q5 else v1_5))) (fun (q4 : Int32) => lp_X1_fewestUnits_5 K_seen n9 q4 (v2_5 + 1)))
def f_X1_fewestUnits (K_seen : Nat → Int64)  : Option (Int32) := Option.bind (lp_X1_fewestUnits_5 K_seen FU 12 0) (fun (q6 : Int32) => some q6)
theorem hy_X1_fewestUnits : yX1_fewestUnits.cls ≠ "java/lang/invoke/MethodHandle" ∧ yX1_fewestUnits.cls ≠ "java/lang/invoke/VarHandle" ∧ (parseMethodDescriptor yX1_fewestUnits.desc).map (fun d => d.parameters.length) = some 0 := by decide +kernel
set_option maxHeartbeats 4000000 in
set_option maxRecDepth 100000 in
theorem w_X1_fewestUnits_5 {E : EN} {res : Option Value × Hp} {hX : TX} {hR : TR} {hL : TC} {hT : TC} {hS : TS} {hP : TP} {hM : TM} {K_atChanges : Int32} {K_atMethod : Int32} {K_seen : Nat → Int64} : ∀ (n9 : Nat) (v1_5 : Int32) (v2_5 : Int32) (qL : Int32), lp_X1_fewestUnits_5 K_seen n9 v1_5 v2_5 = some qL → (Wa E yX1_fewestUnits cX1_fewestUnits 3 (some .int) 2 res 35 [(1, .int qL)] [] (hX, hR, hL, hT, (K_atChanges, K_atMethod, K_seen), hS, hP, hM)) → Wa E yX1_fewestUnits cX1_fewestUnits 3 (some .int) 2 res 5 [(0, .ref (eA E 18)), (1, .int v1_5), (2, .int v2_5)] [] (hX, hR, hL, hT, (K_atChanges, K_atMethod, K_seen), hS, hP, hM) := by
  intro n9
  induction n9 with
  | zero =>
    intro v1_5 v2_5 qL hf
    exact nomatch (show (none : Option (Int32)) = some qL from hf)
  | succ n9 ih =>
    intro v1_5 v2_5 qL hf kx0
    rw [lp_X1_fewestUnits_5] at hf
    refine r_iload_n dX1_fewestUnits_5 2 rfl ?_
    refine r_sipush (v := 4096) dX1_fewestUnits_6 (by decide) ?_
    refine r_icmp_ge (tgt := 35) dX1_fewestUnits_9 (by decide) (fun c1 => ?_) (fun c1 => ?_)
    · have hf := hf_pos c1 hf
      have e9 := Option.some.inj hf
      subst e9
      exact (Wa.sub [1] rfl kx0)
    · have hf := hf_neg c1 hf
      refine r_aload_n dX1_fewestUnits_12 0 rfl ?_
      refine r_iload_n dX1_fewestUnits_13 2 rfl ?_
      obtain ⟨q2, hq2, hf⟩ := hf_bind hf
      refine r_callVi (As := [.int v2_5]) (b := (eA E 18)) (st := []) (s_X1_isSeen hq2) (by decide) (by decide) wd_550 wd_552 wd_17 wd_71 wd_553 hy_X1_isSeen (Rc.obj 18 ga_K rfl) rfl (Nat.le_of_ble_eq_true rfl) dX1_fewestUnits_14 ?_
      obtain ⟨q4, hq4, hf⟩ := hf_bind hf
      have kj4 : Wa E yX1_fewestUnits cX1_fewestUnits 3 (some .int) 2 res 29 [(0, .ref (eA E 18)), (1, .int q4), (2, .int v2_5)] [] (hX, hR, hL, hT, (K_atChanges, K_atMethod, K_seen), hS, hP, hM) := by
        refine r_iinc (v := (v2_5 + 1)) (lv2 := [(2, .int (v2_5 + 1)), (0, .ref (eA E 18)), (1, .int q4)]) dX1_fewestUnits_29 2 rfl rfl (by decide) rfl ?_
        refine r_goto (tgt := 5) dX1_fewestUnits_32 (by decide) ?_
        exact (Wa.sub [1, 2, 0] rfl (ih _ _ _ hf kx0))
      have hf := hq4
      refine r_if_eq (tgt := 29) dX1_fewestUnits_17 (by decide) (fun c3 => ?_) (fun c3 => ?_)
      · have hf := hf_pos c3 hf
        have e9 := Option.some.inj hf
        subst e9
        exact kj4
      · have hf := hf_neg c3 hf
        refine r_iload_n dX1_fewestUnits_20 1 rfl ?_
        refine r_iload_n dX1_fewestUnits_21 2 rfl ?_
        obtain ⟨q5, hq5, hf⟩ := hf_bind hf
        refine r_callSi (As := [.int v2_5]) (st := [.int v1_5]) (s_J6_bitCount_0f7a4 hq5) (by decide) (by decide) wd_554 wd_434 wd_76 wd_435 hy_J6_bitCount_0f7a4 rfl (Nat.le_of_ble_eq_true rfl) dX1_fewestUnits_22 ?_
        refine r_mmin wd_555 wd_427 wd_75 wd_428 (by decide) (Nat.le_of_ble_eq_true rfl) dX1_fewestUnits_25 ?_
        refine r_istore_n (lv2 := [(1, .int (if q5 < v1_5 then q5 else v1_5)), (0, .ref (eA E 18)), (2, .int v2_5)]) dX1_fewestUnits_28 rfl (by decide) rfl ?_
        have e9 := Option.some.inj hf
        subst e9
        exact (Wa.sub [1, 0, 2] rfl kj4)
set_option maxHeartbeats 4000000 in
set_option maxRecDepth 100000 in
theorem s_X1_fewestUnits {E : EN} {hX : TX} {hR : TR} {hL : TC} {hT : TC} {hS : TS} {hP : TP} {hM : TM} {K_atChanges : Int32} {K_atMethod : Int32} {K_seen : Nat → Int64}  {qR : Int32} (hf : f_X1_fewestUnits K_seen = some qR) : Sem E yX1_fewestUnits cX1_fewestUnits 3 (some .int) 2 [.ref (eA E 18)] (hX, hR, hL, hT, (K_atChanges, K_atMethod, K_seen), hS, hP, hM) (some (.int qR), (hX, hR, hL, hT, (K_atChanges, K_atMethod, K_seen), hS, hP, hM)) := by
  refine Sem.mk (lv := [(0, .ref (eA E 18))]) (by decide) (Nat.le_of_ble_eq_true rfl) rfl ?_
  rw [f_X1_fewestUnits] at hf
  refine r_bipush (v := 12) dX1_fewestUnits_0 (by decide) ?_
  refine r_istore_n (lv2 := [(1, .int 12), (0, .ref (eA E 18))]) dX1_fewestUnits_2 rfl (by decide) rfl ?_
  refine r_iconst (v := 0) dX1_fewestUnits_3 (by decide) ?_
  refine r_istore_n (lv2 := [(2, .int 0), (1, .int 12), (0, .ref (eA E 18))]) dX1_fewestUnits_4 rfl (by decide) rfl ?_
  obtain ⟨q6, hq6, hf⟩ := hf_bind hf
  refine (Wa.sub [2, 1, 0] rfl (w_X1_fewestUnits_5 _ _ _ _ hq6 ?_))
  refine r_iload_n dX1_fewestUnits_35 0 rfl ?_
  have e9 := Option.some.inj hf
  subst e9
  exact r_iret rfl dX1_fewestUnits_36
-- DuelSamples$Reach.mostUnits
def lp_X1_mostUnits_4 (K_seen : Nat → Int64) : Nat → Int32 → Int32 → Option (Int32)
  | 0, _, _ => none
  | n9 + 1, v1_4, v2_4 => if 4096 ≤ v2_4 then some v1_4 else Option.bind (f_X1_isSeen K_seen v2_4) (fun (q2 : Int32) => Option.bind (if q2 = 0 then some v1_4 else Option.bind (f_J6_bitCount_0f7a4 v2_4) (fun (q5 : Int32) => some (if v1_4 < q5 then q5 else v1_4))) (fun (q4 : Int32) => lp_X1_mostUnits_4 K_seen n9 q4 (v2_4 + 1)))
def f_X1_mostUnits (K_seen : Nat → Int64)  : Option (Int32) := Option.bind (lp_X1_mostUnits_4 K_seen FU 0 0) (fun (q6 : Int32) => some q6)
theorem hy_X1_mostUnits : yX1_mostUnits.cls ≠ "java/lang/invoke/MethodHandle" ∧ yX1_mostUnits.cls ≠ "java/lang/invoke/VarHandle" ∧ (parseMethodDescriptor yX1_mostUnits.desc).map (fun d => d.parameters.length) = some 0 := by decide +kernel
set_option maxHeartbeats 4000000 in
set_option maxRecDepth 100000 in
theorem w_X1_mostUnits_4 {E : EN} {res : Option Value × Hp} {hX : TX} {hR : TR} {hL : TC} {hT : TC} {hS : TS} {hP : TP} {hM : TM} {K_atChanges : Int32} {K_atMethod : Int32} {K_seen : Nat → Int64} : ∀ (n9 : Nat) (v1_4 : Int32) (v2_4 : Int32) (qL : Int32), lp_X1_mostUnits_4 K_seen n9 v1_4 v2_4 = some qL → (Wa E yX1_mostUnits cX1_mostUnits 3 (some .int) 2 res 34 [(1, .int qL)] [] (hX, hR, hL, hT, (K_atChanges, K_atMethod, K_seen), hS, hP, hM)) → Wa E yX1_mostUnits cX1_mostUnits 3 (some .int) 2 res 4 [(0, .ref (eA E 18)), (1, .int v1_4), (2, .int v2_4)] [] (hX, hR, hL, hT, (K_atChanges, K_atMethod, K_seen), hS, hP, hM) := by
  intro n9
  induction n9 with
  | zero =>
    intro v1_4 v2_4 qL hf
    exact nomatch (show (none : Option (Int32)) = some qL from hf)
  | succ n9 ih =>
    intro v1_4 v2_4 qL hf kx0
    rw [lp_X1_mostUnits_4] at hf
    refine r_iload_n dX1_mostUnits_4 2 rfl ?_
    refine r_sipush (v := 4096) dX1_mostUnits_5 (by decide) ?_
    refine r_icmp_ge (tgt := 34) dX1_mostUnits_8 (by decide) (fun c1 => ?_) (fun c1 => ?_)
    · have hf := hf_pos c1 hf
      have e9 := Option.some.inj hf
      subst e9
      exact (Wa.sub [1] rfl kx0)
    · have hf := hf_neg c1 hf
      refine r_aload_n dX1_mostUnits_11 0 rfl ?_
      refine r_iload_n dX1_mostUnits_12 2 rfl ?_
      obtain ⟨q2, hq2, hf⟩ := hf_bind hf
      refine r_callVi (As := [.int v2_4]) (b := (eA E 18)) (st := []) (s_X1_isSeen hq2) (by decide) (by decide) wd_550 wd_552 wd_17 wd_71 wd_553 hy_X1_isSeen (Rc.obj 18 ga_K rfl) rfl (Nat.le_of_ble_eq_true rfl) dX1_mostUnits_13 ?_
      obtain ⟨q4, hq4, hf⟩ := hf_bind hf
      have kj4 : Wa E yX1_mostUnits cX1_mostUnits 3 (some .int) 2 res 28 [(0, .ref (eA E 18)), (1, .int q4), (2, .int v2_4)] [] (hX, hR, hL, hT, (K_atChanges, K_atMethod, K_seen), hS, hP, hM) := by
        refine r_iinc (v := (v2_4 + 1)) (lv2 := [(2, .int (v2_4 + 1)), (0, .ref (eA E 18)), (1, .int q4)]) dX1_mostUnits_28 2 rfl rfl (by decide) rfl ?_
        refine r_goto (tgt := 4) dX1_mostUnits_31 (by decide) ?_
        exact (Wa.sub [1, 2, 0] rfl (ih _ _ _ hf kx0))
      have hf := hq4
      refine r_if_eq (tgt := 28) dX1_mostUnits_16 (by decide) (fun c3 => ?_) (fun c3 => ?_)
      · have hf := hf_pos c3 hf
        have e9 := Option.some.inj hf
        subst e9
        exact kj4
      · have hf := hf_neg c3 hf
        refine r_iload_n dX1_mostUnits_19 1 rfl ?_
        refine r_iload_n dX1_mostUnits_20 2 rfl ?_
        obtain ⟨q5, hq5, hf⟩ := hf_bind hf
        refine r_callSi (As := [.int v2_4]) (st := [.int v1_4]) (s_J6_bitCount_0f7a4 hq5) (by decide) (by decide) wd_554 wd_434 wd_76 wd_435 hy_J6_bitCount_0f7a4 rfl (Nat.le_of_ble_eq_true rfl) dX1_mostUnits_21 ?_
        refine r_mmax wd_560 wd_561 wd_75 wd_562 (by decide) (Nat.le_of_ble_eq_true rfl) dX1_mostUnits_24 ?_
        refine r_istore_n (lv2 := [(1, .int (if v1_4 < q5 then q5 else v1_4)), (0, .ref (eA E 18)), (2, .int v2_4)]) dX1_mostUnits_27 rfl (by decide) rfl ?_
        have e9 := Option.some.inj hf
        subst e9
        exact (Wa.sub [1, 0, 2] rfl kj4)
set_option maxHeartbeats 4000000 in
set_option maxRecDepth 100000 in
theorem s_X1_mostUnits {E : EN} {hX : TX} {hR : TR} {hL : TC} {hT : TC} {hS : TS} {hP : TP} {hM : TM} {K_atChanges : Int32} {K_atMethod : Int32} {K_seen : Nat → Int64}  {qR : Int32} (hf : f_X1_mostUnits K_seen = some qR) : Sem E yX1_mostUnits cX1_mostUnits 3 (some .int) 2 [.ref (eA E 18)] (hX, hR, hL, hT, (K_atChanges, K_atMethod, K_seen), hS, hP, hM) (some (.int qR), (hX, hR, hL, hT, (K_atChanges, K_atMethod, K_seen), hS, hP, hM)) := by
  refine Sem.mk (lv := [(0, .ref (eA E 18))]) (by decide) (Nat.le_of_ble_eq_true rfl) rfl ?_
  rw [f_X1_mostUnits] at hf
  refine r_iconst (v := 0) dX1_mostUnits_0 (by decide) ?_
  refine r_istore_n (lv2 := [(1, .int 0), (0, .ref (eA E 18))]) dX1_mostUnits_1 rfl (by decide) rfl ?_
  refine r_iconst (v := 0) dX1_mostUnits_2 (by decide) ?_
  refine r_istore_n (lv2 := [(2, .int 0), (1, .int 0), (0, .ref (eA E 18))]) dX1_mostUnits_3 rfl (by decide) rfl ?_
  obtain ⟨q6, hq6, hf⟩ := hf_bind hf
  refine (Wa.sub [2, 1, 0] rfl (w_X1_mostUnits_4 _ _ _ _ hq6 ?_))
  refine r_iload_n dX1_mostUnits_34 0 rfl ?_
  have e9 := Option.some.inj hf
  subst e9
  exact r_iret rfl dX1_mostUnits_35
-- DuelSamples$Reach.hasWith
def lp_X1_hasWith_2 (a0 : Int32) (K_seen : Nat → Int64) : Nat → Int32 → Option (Nat)
  | 0, _ => none
  | n9 + 1, v2_2 => if 4096 ≤ v2_2 then some 1 else if (v2_2 &&& a0) = a0 then Option.bind (f_X1_isSeen K_seen v2_2) (fun (q3 : Int32) => if q3 = 0 then lp_X1_hasWith_2 a0 K_seen n9 (v2_2 + 1) else some 0) else lp_X1_hasWith_2 a0 K_seen n9 (v2_2 + 1)
def f_X1_hasWith (K_seen : Nat → Int64) (a0 : Int32) : Option (Int32) := Option.bind (lp_X1_hasWith_2 a0 K_seen FU 0) (fun (q5 : Nat) => if q5 = 0 then some 1 else some 0)
theorem hy_X1_hasWith : yX1_hasWith.cls ≠ "java/lang/invoke/MethodHandle" ∧ yX1_hasWith.cls ≠ "java/lang/invoke/VarHandle" ∧ (parseMethodDescriptor yX1_hasWith.desc).map (fun d => d.parameters.length) = some 1 := by decide +kernel
set_option maxHeartbeats 4000000 in
set_option maxRecDepth 100000 in
theorem w_X1_hasWith_2 {E : EN} {res : Option Value × Hp} {hX : TX} {hR : TR} {hL : TC} {hT : TC} {hS : TS} {hP : TP} {hM : TM} {a0 : Int32} {K_atChanges : Int32} {K_atMethod : Int32} {K_seen : Nat → Int64} : ∀ (n9 : Nat) (v2_2 : Int32) (qL : Nat), lp_X1_hasWith_2 a0 K_seen n9 v2_2 = some qL → (qL = 0 → Wa E yX1_hasWith cX1_hasWith 3 (some .boolean) 2 res 24 [] [] (hX, hR, hL, hT, (K_atChanges, K_atMethod, K_seen), hS, hP, hM)) → (qL = 1 → Wa E yX1_hasWith cX1_hasWith 3 (some .boolean) 2 res 32 [] [] (hX, hR, hL, hT, (K_atChanges, K_atMethod, K_seen), hS, hP, hM)) → Wa E yX1_hasWith cX1_hasWith 3 (some .boolean) 2 res 2 [(0, .ref (eA E 18)), (1, .int a0), (2, .int v2_2)] [] (hX, hR, hL, hT, (K_atChanges, K_atMethod, K_seen), hS, hP, hM) := by
  intro n9
  induction n9 with
  | zero =>
    intro v2_2 qL hf
    exact nomatch (show (none : Option (Nat)) = some qL from hf)
  | succ n9 ih =>
    intro v2_2 qL hf kx0 kx1
    rw [lp_X1_hasWith_2] at hf
    refine r_iload_n dX1_hasWith_2 2 rfl ?_
    refine r_sipush (v := 4096) dX1_hasWith_3 (by decide) ?_
    refine r_icmp_ge (tgt := 32) dX1_hasWith_6 (by decide) (fun c1 => ?_) (fun c1 => ?_)
    · have hf := hf_pos c1 hf
      have e9 := Option.some.inj hf
      subst e9
      exact (Wa.sub [] rfl (kx1 rfl))
    · have hf := hf_neg c1 hf
      refine r_iload_n dX1_hasWith_9 2 rfl ?_
      refine r_iload_n dX1_hasWith_10 1 rfl ?_
      refine r_iand dX1_hasWith_11 ?_
      refine r_iload_n dX1_hasWith_12 1 rfl ?_
      refine r_icmp_ne (tgt := 26) dX1_hasWith_13 (by decide) (fun c2 => ?_) (fun c2 => ?_)
      · have hf := hf_neg c2 hf
        refine r_iinc (v := (v2_2 + 1)) (lv2 := [(2, .int (v2_2 + 1)), (0, .ref (eA E 18)), (1, .int a0)]) dX1_hasWith_26 2 rfl rfl (by decide) rfl ?_
        refine r_goto (tgt := 2) dX1_hasWith_29 (by decide) ?_
        exact (Wa.sub [1, 2, 0] rfl (ih _ _ hf kx0 kx1))
      · have hf := hf_pos c2 hf
        refine r_aload_n dX1_hasWith_16 0 rfl ?_
        refine r_iload_n dX1_hasWith_17 2 rfl ?_
        obtain ⟨q3, hq3, hf⟩ := hf_bind hf
        refine r_callVi (As := [.int v2_2]) (b := (eA E 18)) (st := []) (s_X1_isSeen hq3) (by decide) (by decide) wd_550 wd_552 wd_17 wd_71 wd_553 hy_X1_isSeen (Rc.obj 18 ga_K rfl) rfl (Nat.le_of_ble_eq_true rfl) dX1_hasWith_18 ?_
        refine r_if_eq (tgt := 26) dX1_hasWith_21 (by decide) (fun c4 => ?_) (fun c4 => ?_)
        · have hf := hf_pos c4 hf
          refine r_iinc (v := (v2_2 + 1)) (lv2 := [(2, .int (v2_2 + 1)), (0, .ref (eA E 18)), (1, .int a0)]) dX1_hasWith_26 2 rfl rfl (by decide) rfl ?_
          refine r_goto (tgt := 2) dX1_hasWith_29 (by decide) ?_
          exact (Wa.sub [1, 2, 0] rfl (ih _ _ hf kx0 kx1))
        · have hf := hf_neg c4 hf
          have e9 := Option.some.inj hf
          subst e9
          exact (Wa.sub [] rfl (kx0 rfl))
set_option maxHeartbeats 4000000 in
set_option maxRecDepth 100000 in
theorem s_X1_hasWith {E : EN} {hX : TX} {hR : TR} {hL : TC} {hT : TC} {hS : TS} {hP : TP} {hM : TM} {K_atChanges : Int32} {K_atMethod : Int32} {K_seen : Nat → Int64} {a0 : Int32} {qR : Int32} (hf : f_X1_hasWith K_seen a0 = some qR) : Sem E yX1_hasWith cX1_hasWith 3 (some .boolean) 2 [.ref (eA E 18), .int a0] (hX, hR, hL, hT, (K_atChanges, K_atMethod, K_seen), hS, hP, hM) (some (.int qR), (hX, hR, hL, hT, (K_atChanges, K_atMethod, K_seen), hS, hP, hM)) := by
  refine Sem.mk (lv := [(0, .ref (eA E 18)), (1, .int a0)]) (by decide) (Nat.le_of_ble_eq_true rfl) rfl ?_
  rw [f_X1_hasWith] at hf
  refine r_iconst (v := 0) dX1_hasWith_0 (by decide) ?_
  refine r_istore_n (lv2 := [(2, .int 0), (0, .ref (eA E 18)), (1, .int a0)]) dX1_hasWith_1 rfl (by decide) rfl ?_
  obtain ⟨q5, hq5, hf⟩ := hf_bind hf
  refine (Wa.sub [1, 2, 0] rfl (w_X1_hasWith_2 _ _ _ hq5 ?_ ?_))
  · intro ht
    have hf := hf_pos ht hf
    refine r_iconst (v := 1) dX1_hasWith_24 (by decide) ?_
    have e9 := Option.some.inj hf
    subst e9
    exact r_zret rfl (narB (Or.inr rfl)) dX1_hasWith_25
  · intro ht
    have hf := hf_neg (show ¬ q5 = 0 by rw [ht]; decide) hf
    refine r_iconst (v := 0) dX1_hasWith_32 (by decide) ?_
    have e9 := Option.some.inj hf
    subst e9
    exact r_zret rfl (narB (Or.inl rfl)) dX1_hasWith_33
-- DuelSamples$Reach.leastMiss
def lp_X1_leastMiss_7 (K_seen : Nat → Int64) (R_count : Int32) (R_F : Nat → Nat → Int32) : Nat → Int64 → Int32 → Option (Int64)
  | 0, _, _ => none
  | n9 + 1, v2_7, v4_7 => if 4096 ≤ v4_7 then some v2_7 else Option.bind (f_X1_isSeen K_seen v4_7) (fun (q2 : Int32) => Option.bind (if q2 = 0 then some v2_7 else Option.bind (f_X3_miss R_count R_F v4_7) (fun (q5 : Int64) => Option.bind (if (lg_cmp v2_7 (-1)) = 0 then some q5 else some (if q5 < v2_7 then q5 else v2_7)) (fun (q7 : Int64) => some q7))) (fun (q4 : Int64) => lp_X1_leastMiss_7 K_seen R_count R_F n9 q4 (v4_7 + 1)))
def f_X1_leastMiss (R_count : Int32) (R_F : Nat → Nat → Int32) (K_seen : Nat → Int64)  : Option (Int64) := Option.bind (lp_X1_leastMiss_7 K_seen R_count R_F FU (-1) 0) (fun (q8 : Int64) => some q8)
theorem hy_X1_leastMiss : yX1_leastMiss.cls ≠ "java/lang/invoke/MethodHandle" ∧ yX1_leastMiss.cls ≠ "java/lang/invoke/VarHandle" ∧ (parseMethodDescriptor yX1_leastMiss.desc).map (fun d => d.parameters.length) = some 1 := by decide +kernel
set_option maxHeartbeats 4000000 in
set_option maxRecDepth 100000 in
theorem w_X1_leastMiss_7 {E : EN} {res : Option Value × Hp} {hX : TX} {hL : TC} {hT : TC} {hS : TS} {hP : TP} {hM : TM} {R_count : Int32} {R_changes : Int32} {R_F : Nat → Nat → Int32} {K_atChanges : Int32} {K_atMethod : Int32} {K_seen : Nat → Int64} : ∀ (n9 : Nat) (v2_7 : Int64) (v4_7 : Int32) (qL : Int64), lp_X1_leastMiss_7 K_seen R_count R_F n9 v2_7 v4_7 = some qL → (Wa E yX1_leastMiss cX1_leastMiss 7 (some .long) 4 res 58 [(2, .long qL)] [] (hX, (R_count, R_changes, R_F), hL, hT, (K_atChanges, K_atMethod, K_seen), hS, hP, hM)) → Wa E yX1_leastMiss cX1_leastMiss 7 (some .long) 4 res 7 [(0, .ref (eA E 18)), (1, .ref (eA E 1)), (2, .long v2_7), (4, .int v4_7)] [] (hX, (R_count, R_changes, R_F), hL, hT, (K_atChanges, K_atMethod, K_seen), hS, hP, hM) := by
  intro n9
  induction n9 with
  | zero =>
    intro v2_7 v4_7 qL hf
    exact nomatch (show (none : Option (Int64)) = some qL from hf)
  | succ n9 ih =>
    intro v2_7 v4_7 qL hf kx0
    rw [lp_X1_leastMiss_7] at hf
    refine r_iload dX1_leastMiss_7 3 rfl ?_
    refine r_sipush (v := 4096) dX1_leastMiss_9 (by decide) ?_
    refine r_icmp_ge (tgt := 58) dX1_leastMiss_12 (by decide) (fun c1 => ?_) (fun c1 => ?_)
    · have hf := hf_pos c1 hf
      have e9 := Option.some.inj hf
      subst e9
      exact (Wa.sub [2] rfl kx0)
    · have hf := hf_neg c1 hf
      refine r_aload_n dX1_leastMiss_15 0 rfl ?_
      refine r_iload dX1_leastMiss_16 3 rfl ?_
      obtain ⟨q2, hq2, hf⟩ := hf_bind hf
      refine r_callVi (As := [.int v4_7]) (b := (eA E 18)) (st := []) (s_X1_isSeen hq2) (by decide) (by decide) wd_550 wd_552 wd_17 wd_71 wd_553 hy_X1_isSeen (Rc.obj 18 ga_K rfl) rfl (Nat.le_of_ble_eq_true rfl) dX1_leastMiss_18 ?_
      obtain ⟨q4, hq4, hf⟩ := hf_bind hf
      have kj4 : Wa E yX1_leastMiss cX1_leastMiss 7 (some .long) 4 res 52 [(0, .ref (eA E 18)), (1, .ref (eA E 1)), (2, .long q4), (4, .int v4_7)] [] (hX, (R_count, R_changes, R_F), hL, hT, (K_atChanges, K_atMethod, K_seen), hS, hP, hM) := by
        refine r_iinc (v := (v4_7 + 1)) (lv2 := [(4, .int (v4_7 + 1)), (0, .ref (eA E 18)), (1, .ref (eA E 1)), (2, .long q4)]) dX1_leastMiss_52 3 rfl rfl (by decide) rfl ?_
        refine r_goto (tgt := 7) dX1_leastMiss_55 (by decide) ?_
        exact (Wa.sub [1, 2, 3, 0] rfl (ih _ _ _ hf kx0))
      have hf := hq4
      refine r_if_eq (tgt := 52) dX1_leastMiss_21 (by decide) (fun c3 => ?_) (fun c3 => ?_)
      · have hf := hf_pos c3 hf
        have e9 := Option.some.inj hf
        subst e9
        exact kj4
      · have hf := hf_neg c3 hf
        refine r_aload_n dX1_leastMiss_24 1 rfl ?_
        refine r_iload dX1_leastMiss_25 3 rfl ?_
        obtain ⟨q5, hq5, hf⟩ := hf_bind hf
        refine r_callVl (As := [.int v4_7]) (b := (eA E 1)) (st := []) (s_X3_miss hq5) (by decide) (by decide) wd_580 wd_465 wd_466 wd_69 wd_467 hy_X3_miss (Rc.obj 1 ga_R rfl) rfl (Nat.le_of_ble_eq_true rfl) dX1_leastMiss_27 ?_
        refine r_lstore (lv2 := [(5, .long q5), (0, .ref (eA E 18)), (1, .ref (eA E 1)), (2, .long v2_7), (4, .int v4_7)]) dX1_leastMiss_30 (by decide) rfl ?_
        refine r_lload_n dX1_leastMiss_32 3 rfl ?_
        refine r_ldc2 (v := (-1)) wd_579 dX1_leastMiss_33 ?_
        refine r_lcmp dX1_leastMiss_36 ?_
        obtain ⟨q7, hq7, hf⟩ := hf_bind hf
        have kj7 : Wa E yX1_leastMiss cX1_leastMiss 7 (some .long) 4 res 51 [(0, .ref (eA E 18)), (1, .ref (eA E 1)), (4, .int v4_7)] [.long q7] (hX, (R_count, R_changes, R_F), hL, hT, (K_atChanges, K_atMethod, K_seen), hS, hP, hM) := by
          refine r_lstore_n (lv2 := [(2, .long q7), (0, .ref (eA E 18)), (1, .ref (eA E 1)), (4, .int v4_7)]) dX1_leastMiss_51 rfl (by decide) rfl ?_
          have e9 := Option.some.inj hf
          subst e9
          exact (Wa.sub [1, 2, 0, 3] rfl kj4)
        have hf := hq7
        refine r_if_ne (tgt := 45) dX1_leastMiss_37 (by decide) (fun c6 => ?_) (fun c6 => ?_)
        · have hf := hf_neg c6 hf
          refine r_lload_n dX1_leastMiss_45 3 rfl ?_
          refine r_lload dX1_leastMiss_46 0 rfl ?_
          refine r_mmin_long wd_581 wd_582 wd_75 wd_583 (by decide) (Nat.le_of_ble_eq_true rfl) dX1_leastMiss_48 ?_
          have e9 := Option.some.inj hf
          subst e9
          exact (Wa.sub [1, 2, 4] rfl kj7)
        · have hf := hf_pos c6 hf
          refine r_lload dX1_leastMiss_40 0 rfl ?_
          refine r_goto (tgt := 51) dX1_leastMiss_42 (by decide) ?_
          have e9 := Option.some.inj hf
          subst e9
          exact (Wa.sub [1, 2, 4] rfl kj7)
set_option maxHeartbeats 4000000 in
set_option maxRecDepth 100000 in
theorem s_X1_leastMiss {E : EN} {hX : TX} {hL : TC} {hT : TC} {hS : TS} {hP : TP} {hM : TM} {R_count : Int32} {R_changes : Int32} {R_F : Nat → Nat → Int32} {K_atChanges : Int32} {K_atMethod : Int32} {K_seen : Nat → Int64}  {qR : Int64} (hf : f_X1_leastMiss R_count R_F K_seen = some qR) : Sem E yX1_leastMiss cX1_leastMiss 7 (some .long) 4 [.ref (eA E 18), .ref (eA E 1)] (hX, (R_count, R_changes, R_F), hL, hT, (K_atChanges, K_atMethod, K_seen), hS, hP, hM) (some (.long qR), (hX, (R_count, R_changes, R_F), hL, hT, (K_atChanges, K_atMethod, K_seen), hS, hP, hM)) := by
  refine Sem.mk (lv := [(0, .ref (eA E 18)), (1, .ref (eA E 1))]) (by decide) (Nat.le_of_ble_eq_true rfl) rfl ?_
  rw [f_X1_leastMiss] at hf
  refine r_ldc2 (v := (-1)) wd_579 dX1_leastMiss_0 ?_
  refine r_lstore_n (lv2 := [(2, .long (-1)), (0, .ref (eA E 18)), (1, .ref (eA E 1))]) dX1_leastMiss_3 rfl (by decide) rfl ?_
  refine r_iconst (v := 0) dX1_leastMiss_4 (by decide) ?_
  refine r_istore (lv2 := [(4, .int 0), (2, .long (-1)), (0, .ref (eA E 18)), (1, .ref (eA E 1))]) dX1_leastMiss_5 (by decide) rfl ?_
  obtain ⟨q8, hq8, hf⟩ := hf_bind hf
  refine (Wa.sub [2, 3, 1, 0] rfl (w_X1_leastMiss_7 _ _ _ _ hq8 ?_))
  refine r_lload_n dX1_leastMiss_58 0 rfl ?_
  have e9 := Option.some.inj hf
  subst e9
  exact r_lret rfl dX1_leastMiss_59
