-- DuelSamples$Course.run
def lp_X0_run_16 (R_count : Int32) (R_F : Nat → Nat → Int32) (a1 : Int32) : Nat → Int64 → Int32 → Int32 → Int32 → Int32 → Int32 → Int32 → (Nat → Int32) → (Nat → Int32) → (Nat → Int32) → (Nat → Int32) → Option (Int32 × Int32 × Int32 × Int32 × Int32 × (Nat → Int32) × (Nat → Int32) × (Nat → Int32) × (Nat → Int32))
  | 0, _, _, _, _, _, _, _, _, _, _, _ => none
  | n9 + 1, v4_16, v6_16, C_plays_16, C_small_16, C_large_16, C_u_16, C_v_16, C_left_16, C_firsts_16, C_seconds_16, C_winners_16 => if 12 ≤ v6_16 then some (C_plays_16, C_small_16, C_large_16, C_u_16, C_v_16, C_left_16, C_firsts_16, C_seconds_16, C_winners_16) else Option.bind (f_X0_pick R_count R_F C_left_16 a1) (fun (q4 : Int32 × Int32 × Int32) => if q4.1 = 0 then some (C_plays_16, C_small_16, C_large_16, q4.2.1, q4.2.2, C_left_16, C_firsts_16, C_seconds_16, C_winners_16) else Option.bind (f_X5_nextX v4_16) (fun (q6 : Int64) => Option.bind (f_X0_chancesOfBoth q4.2.1 q4.2.2 C_left_16) (fun (q7 : Int32) => Option.bind (if q7 ≤ 0 then some 0 else if (Int32.toInt64 q7) = 0 then none else Option.bind (f_X0_chancesOfFirst q4.2.1 q4.2.2 C_left_16) (fun (q11 : Int32) => if 0 ≤ (lg_cmp ((q6 / 65536) - (q6 / 65536) / (Int32.toInt64 q7) * (Int32.toInt64 q7)) (Int32.toInt64 q11)) then some 0 else some 1)) (fun (q9 : Int32) => Option.bind (f_X0_write C_plays_16 C_small_16 C_large_16 q4.2.1 q4.2.2 C_left_16 C_firsts_16 C_seconds_16 C_winners_16 q9) (fun (q13 : Int32 × Int32 × Int32 × (Nat → Int32) × (Nat → Int32) × (Nat → Int32)) => Option.bind (f_X0_settle q4.2.1 q4.2.2 C_left_16 q9) (fun (q14 : (Nat → Int32)) => lp_X0_run_16 R_count R_F a1 n9 q6 (v6_16 + 1) q13.1 q13.2.1 q13.2.2.1 q4.2.1 q4.2.2 q14 q13.2.2.2.1 q13.2.2.2.2.1 q13.2.2.2.2.2))))))
def f_X0_run (R_count : Int32) (R_F : Nat → Nat → Int32) (C_u : Int32) (C_v : Int32) (C_left : Nat → Int32) (C_firsts : Nat → Int32) (C_seconds : Nat → Int32) (C_winners : Nat → Int32) (a1 : Int32) (a2 : Int32) : Option (Int32 × Int32 × Int32 × Int32 × Int32 × Int32 × (Nat → Int32) × (Nat → Int32) × (Nat → Int32) × (Nat → Int32)) := Option.bind (f_X0_forget) (fun (q1 : Int32 × Int32 × Int32 × Int32) => Option.bind (f_X0_begin R_count R_F C_left) (fun (q2 : (Nat → Int32)) => Option.bind (lp_X0_run_16 R_count R_F a1 FU (Int32.toInt64 a2) 0 q1.2.1 q1.2.2.1 q1.2.2.2 C_u C_v q2 C_firsts C_seconds C_winners) (fun (q15 : Int32 × Int32 × Int32 × Int32 × Int32 × (Nat → Int32) × (Nat → Int32) × (Nat → Int32) × (Nat → Int32)) => Option.bind (f_X0_wholeOnes q15.2.2.2.2.2.1) (fun (q16 : Int32) => some (q16, q15.1, q15.2.1, q15.2.2.1, q15.2.2.2.1, q15.2.2.2.2.1, q15.2.2.2.2.2.1, q15.2.2.2.2.2.2.1, q15.2.2.2.2.2.2.2.1, q15.2.2.2.2.2.2.2.2)))))
theorem hy_X0_run : yX0_run.cls ≠ "java/lang/invoke/MethodHandle" ∧ yX0_run.cls ≠ "java/lang/invoke/VarHandle" ∧ (parseMethodDescriptor yX0_run.desc).map (fun d => d.parameters.length) = some 3 := by decide +kernel
set_option maxHeartbeats 4000000 in
set_option maxRecDepth 100000 in
theorem w_X0_run_16_L {E : EN} {res : Option Value × Hp} {hX : TX} {hT : TC} {hK : TK} {hS : TS} {hP : TP} {hM : TM} {a1 : Int32} {R_count : Int32} {R_changes : Int32} {R_F : Nat → Nat → Int32} {q1 : Int32 × Int32 × Int32 × Int32} : ∀ (n9 : Nat) (v4_16 : Int64) (v6_16 : Int32) (C_plays_16 : Int32) (C_small_16 : Int32) (C_large_16 : Int32) (C_u_16 : Int32) (C_v_16 : Int32) (C_left_16 : Nat → Int32) (C_firsts_16 : Nat → Int32) (C_seconds_16 : Nat → Int32) (C_winners_16 : Nat → Int32) (qL : Int32 × Int32 × Int32 × Int32 × Int32 × (Nat → Int32) × (Nat → Int32) × (Nat → Int32) × (Nat → Int32)), lp_X0_run_16 R_count R_F a1 n9 v4_16 v6_16 C_plays_16 C_small_16 C_large_16 C_u_16 C_v_16 C_left_16 C_firsts_16 C_seconds_16 C_winners_16 = some qL → (Wa E yX0_run cX0_run 9 none 5 res 94 [(0, .ref (eA E 8))] [] (hX, (R_count, R_changes, R_F), (q1.1, qL.1, qL.2.1, qL.2.2.1, qL.2.2.2.1, qL.2.2.2.2.1, qL.2.2.2.2.2.1, qL.2.2.2.2.2.2.1, qL.2.2.2.2.2.2.2.1, qL.2.2.2.2.2.2.2.2), hT, hK, hS, hP, hM)) → Wa E yX0_run cX0_run 9 none 5 res 16 [(0, .ref (eA E 8)), (1, .ref (eA E 1)), (2, .int a1), (4, .long v4_16), (6, .int v6_16)] [] (hX, (R_count, R_changes, R_F), (q1.1, C_plays_16, C_small_16, C_large_16, C_u_16, C_v_16, C_left_16, C_firsts_16, C_seconds_16, C_winners_16), hT, hK, hS, hP, hM) := by
  intro n9
  induction n9 with
  | zero =>
    intro v4_16 v6_16 C_plays_16 C_small_16 C_large_16 C_u_16 C_v_16 C_left_16 C_firsts_16 C_seconds_16 C_winners_16 qL hf
    exact nomatch (show (none : Option (Int32 × Int32 × Int32 × Int32 × Int32 × (Nat → Int32) × (Nat → Int32) × (Nat → Int32) × (Nat → Int32))) = some qL from hf)
  | succ n9 ih =>
    intro v4_16 v6_16 C_plays_16 C_small_16 C_large_16 C_u_16 C_v_16 C_left_16 C_firsts_16 C_seconds_16 C_winners_16 qL hf kx0
    rw [lp_X0_run_16] at hf
    refine r_iload dX0_run_16 4 rfl ?_
    refine r_bipush (v := 12) dX0_run_18 (by decide) ?_
    refine r_icmp_ge (tgt := 94) dX0_run_20 (by decide) (fun c3 => ?_) (fun c3 => ?_)
    · have hf := hf_pos c3 hf
      have e9 := Option.some.inj hf
      subst e9
      exact (Wa.sub [0] rfl kx0)
    · have hf := hf_neg c3 hf
      refine r_aload_n dX0_run_23 0 rfl ?_
      refine r_aload_n dX0_run_24 1 rfl ?_
      refine r_iload_n dX0_run_25 2 rfl ?_
      obtain ⟨q4, hq4, hf⟩ := hf_bind hf
      refine r_callVi (As := [.ref (eA E 1), .int a1]) (b := (eA E 8)) (st := []) (s_X0_pick_L hq4) (by decide) (by decide) wd_357 wd_358 wd_359 wd_70 wd_360 hy_X0_pick (Rc.obj 8 rfl rfl) rfl (Nat.le_of_ble_eq_true rfl) dX0_run_26 ?_
      refine r_if_eq (tgt := 94) dX0_run_29 (by decide) (fun c5 => ?_) (fun c5 => ?_)
      · have hf := hf_pos c5 hf
        have e9 := Option.some.inj hf
        subst e9
        exact (Wa.sub [0] rfl kx0)
      · have hf := hf_neg c5 hf
        refine r_lload dX0_run_32 3 rfl ?_
        obtain ⟨q6, hq6, hf⟩ := hf_bind hf
        refine r_callSNl (As := [.long v4_16]) (st := []) (s_X5_nextX hq6) (by decide) (by decide) wn_396 wd_293 wd_68 wd_294 hy_X5_nextX rfl (Nat.le_of_ble_eq_true rfl) dX0_run_34 ?_
        refine r_lstore (lv2 := [(4, .long q6), (0, .ref (eA E 8)), (1, .ref (eA E 1)), (2, .int a1), (6, .int v6_16)]) dX0_run_37 (by decide) rfl ?_
        refine r_aload_n dX0_run_39 1 rfl ?_
        obtain ⟨q7, hq7, hf⟩ := hf_bind hf
        refine r_callVi (As := []) (b := (eA E 8)) (st := []) (s_X0_chancesOfBoth_L hq7) (by decide) (by decide) wd_397 wd_399 wd_10 wd_70 wd_400 hy_X0_chancesOfBoth (Rc.obj 8 rfl rfl) rfl (Nat.le_of_ble_eq_true rfl) dX0_run_40 ?_
        refine r_istore (lv2 := [(7, .int q7), (4, .long q6), (0, .ref (eA E 8)), (1, .ref (eA E 1)), (2, .int a1), (6, .int v6_16)]) dX0_run_43 (by decide) rfl ?_
        refine r_iload dX0_run_45 0 rfl ?_
        obtain ⟨q9, hq9, hf⟩ := hf_bind hf
        have kj9 : Wa E yX0_run cX0_run 9 none 5 res 74 [(0, .ref (eA E 8)), (1, .ref (eA E 1)), (2, .int a1), (4, .long q6), (6, .int v6_16)] [.int q9] (hX, (R_count, R_changes, R_F), (q1.1, C_plays_16, C_small_16, C_large_16, q4.2.1, q4.2.2, C_left_16, C_firsts_16, C_seconds_16, C_winners_16), hT, hK, hS, hP, hM) := by
          refine r_istore (lv2 := [(8, .int q9), (0, .ref (eA E 8)), (1, .ref (eA E 1)), (2, .int a1), (4, .long q6), (6, .int v6_16)]) dX0_run_74 (by decide) rfl ?_
          refine r_aload_n dX0_run_76 1 rfl ?_
          refine r_iload dX0_run_77 0 rfl ?_
          obtain ⟨q13, hq13, hf⟩ := hf_bind hf
          refine r_callVv (As := [.int q9]) (b := (eA E 8)) (st := []) (s_X0_write_L hq13) (by decide) (by decide) wd_414 wd_416 wd_13 wd_70 wd_417 hy_X0_write (Rc.obj 8 rfl rfl) rfl (Nat.le_of_ble_eq_true rfl) dX0_run_79 ?_
          refine r_aload_n dX0_run_82 1 rfl ?_
          refine r_iload dX0_run_83 0 rfl ?_
          obtain ⟨q14, hq14, hf⟩ := hf_bind hf
          refine r_callVv (As := [.int q9]) (b := (eA E 8)) (st := []) (s_X0_settle_L hq14) (by decide) (by decide) wd_418 wd_419 wd_420 wd_70 wd_421 hy_X0_settle (Rc.obj 8 rfl rfl) rfl (Nat.le_of_ble_eq_true rfl) dX0_run_85 ?_
          refine r_iinc (v := (v6_16 + 1)) (lv2 := [(6, .int (v6_16 + 1)), (8, .int q9), (0, .ref (eA E 8)), (1, .ref (eA E 1)), (2, .int a1), (4, .long q6)]) dX0_run_88 5 rfl rfl (by decide) rfl ?_
          refine r_goto (tgt := 16) dX0_run_91 (by decide) ?_
          exact (Wa.sub [2, 3, 4, 5, 0] rfl (ih _ _ _ _ _ _ _ _ _ _ _ _ hf kx0))
        have hf := hq9
        refine r_if_le (tgt := 73) dX0_run_47 (by decide) (fun c8 => ?_) (fun c8 => ?_)
        · have hf := hf_pos c8 hf
          refine r_iconst (v := 0) dX0_run_73 (by decide) ?_
          have e9 := Option.some.inj hf
          subst e9
          exact (Wa.sub [2, 3, 4, 1, 5] rfl kj9)
        · have hf := hf_neg c8 hf
          refine r_lload dX0_run_50 1 rfl ?_
          refine r_ldc2 (v := 65536) wd_409 dX0_run_52 ?_
          refine r_ldiv dX0_run_55 (by decide) ?_
          refine r_iload dX0_run_56 0 rfl ?_
          refine r_i2l dX0_run_58 ?_
          obtain ⟨z10, hf⟩ := hf_nz hf
          refine r_lrem dX0_run_59 z10 ?_
          refine r_aload_n dX0_run_60 2 rfl ?_
          obtain ⟨q11, hq11, hf⟩ := hf_bind hf
          refine r_callVi (As := []) (b := (eA E 8)) (st := [.long ((q6 / 65536) - (q6 / 65536) / (Int32.toInt64 q7) * (Int32.toInt64 q7))]) (s_X0_chancesOfFirst_L hq11) (by decide) (by decide) wd_410 wd_412 wd_12 wd_70 wd_413 hy_X0_chancesOfFirst (Rc.obj 8 rfl rfl) rfl (Nat.le_of_ble_eq_true rfl) dX0_run_61 ?_
          refine r_i2l dX0_run_64 ?_
          refine r_lcmp dX0_run_65 ?_
          refine r_if_ge (tgt := 73) dX0_run_66 (by decide) (fun c12 => ?_) (fun c12 => ?_)
          · have hf := hf_pos c12 hf
            refine r_iconst (v := 0) dX0_run_73 (by decide) ?_
            have e9 := Option.some.inj hf
            subst e9
            exact (Wa.sub [2, 3, 4, 1, 5] rfl kj9)
          · have hf := hf_neg c12 hf
            refine r_iconst (v := 1) dX0_run_69 (by decide) ?_
            refine r_goto (tgt := 74) dX0_run_70 (by decide) ?_
            have e9 := Option.some.inj hf
            subst e9
            exact (Wa.sub [2, 3, 4, 1, 5] rfl kj9)
set_option maxHeartbeats 4000000 in
set_option maxRecDepth 100000 in
theorem s_X0_run_L {E : EN} {hX : TX} {hT : TC} {hK : TK} {hS : TS} {hP : TP} {hM : TM} {R_count : Int32} {R_changes : Int32} {R_F : Nat → Nat → Int32} {C_sample : Int32} {C_plays : Int32} {C_small : Int32} {C_large : Int32} {C_u : Int32} {C_v : Int32} {C_left : Nat → Int32} {C_firsts : Nat → Int32} {C_seconds : Nat → Int32} {C_winners : Nat → Int32} {a1 : Int32} {a2 : Int32} {qR : Int32 × Int32 × Int32 × Int32 × Int32 × Int32 × (Nat → Int32) × (Nat → Int32) × (Nat → Int32) × (Nat → Int32)} (hf : f_X0_run R_count R_F C_u C_v C_left C_firsts C_seconds C_winners a1 a2 = some qR) : Sem E yX0_run cX0_run 9 none 5 [.ref (eA E 8), .ref (eA E 1), .int a1, .int a2] (hX, (R_count, R_changes, R_F), (C_sample, C_plays, C_small, C_large, C_u, C_v, C_left, C_firsts, C_seconds, C_winners), hT, hK, hS, hP, hM) (none, (hX, (R_count, R_changes, R_F), (qR.1, qR.2.1, qR.2.2.1, qR.2.2.2.1, qR.2.2.2.2.1, qR.2.2.2.2.2.1, qR.2.2.2.2.2.2.1, qR.2.2.2.2.2.2.2.1, qR.2.2.2.2.2.2.2.2.1, qR.2.2.2.2.2.2.2.2.2), hT, hK, hS, hP, hM)) := by
  refine Sem.mk (lv := [(0, .ref (eA E 8)), (1, .ref (eA E 1)), (2, .int a1), (3, .int a2)]) (by decide) (Nat.le_of_ble_eq_true rfl) rfl ?_
  rw [f_X0_run] at hf
  refine r_aload_n dX0_run_0 0 rfl ?_
  obtain ⟨q1, hq1, hf⟩ := hf_bind hf
  refine r_callVv (As := []) (b := (eA E 8)) (st := []) (s_X0_forget_L hq1) (by decide) (by decide) wd_351 wd_281 wd_282 wd_70 wd_283 hy_X0_forget (Rc.obj 8 rfl rfl) rfl (Nat.le_of_ble_eq_true rfl) dX0_run_1 ?_
  refine r_aload_n dX0_run_4 0 rfl ?_
  refine r_aload_n dX0_run_5 1 rfl ?_
  obtain ⟨q2, hq2, hf⟩ := hf_bind hf
  refine r_callVv (As := [.ref (eA E 1)]) (b := (eA E 8)) (st := []) (s_X0_begin_L hq2) (by decide) (by decide) wd_352 wd_353 wd_354 wd_70 wd_355 hy_X0_begin (Rc.obj 8 rfl rfl) rfl (Nat.le_of_ble_eq_true rfl) dX0_run_6 ?_
  refine r_iload_n dX0_run_9 3 rfl ?_
  refine r_i2l dX0_run_10 ?_
  refine r_lstore (lv2 := [(4, .long (Int32.toInt64 a2)), (0, .ref (eA E 8)), (1, .ref (eA E 1)), (2, .int a1), (3, .int a2)]) dX0_run_11 (by decide) rfl ?_
  refine r_iconst (v := 0) dX0_run_13 (by decide) ?_
  refine r_istore (lv2 := [(6, .int 0), (4, .long (Int32.toInt64 a2)), (0, .ref (eA E 8)), (1, .ref (eA E 1)), (2, .int a1), (3, .int a2)]) dX0_run_14 (by decide) rfl ?_
  obtain ⟨q15, hq15, hf⟩ := hf_bind hf
  refine (Wa.sub [2, 3, 4, 1, 0] rfl (w_X0_run_16_L _ _ _ _ _ _ _ _ _ _ _ _ _ hq15 ?_))
  refine r_aload_n dX0_run_94 0 rfl ?_
  refine r_aload_n dX0_run_95 0 rfl ?_
  obtain ⟨q16, hq16, hf⟩ := hf_bind hf
  refine r_callVi (As := []) (b := (eA E 8)) (st := [.ref (eA E 8)]) (s_X0_wholeOnes_L hq16) (by decide) (by decide) wd_429 wd_430 wd_431 wd_70 wd_432 hy_X0_wholeOnes (Rc.obj 8 rfl rfl) rfl (Nat.le_of_ble_eq_true rfl) dX0_run_96 ?_
  refine r_put in_X0 tyX0_ok nmX0 8 rfl rfl 4 (by decide) wd_122 rfl rfl pfI (Nat.le_of_ble_eq_true rfl) (h2 := (hX, (R_count, R_changes, R_F), (q16, q15.1, q15.2.1, q15.2.2.1, q15.2.2.2.1, q15.2.2.2.2.1, q15.2.2.2.2.2.1, q15.2.2.2.2.2.2.1, q15.2.2.2.2.2.2.2.1, q15.2.2.2.2.2.2.2.2), hT, hK, hS, hP, hM)) rfl dX0_run_99 ?_
  have e9 := Option.some.inj hf
  subst e9
  exact r_vret rfl dX0_run_102
set_option maxHeartbeats 4000000 in
set_option maxRecDepth 100000 in
theorem w_X0_run_16_T {E : EN} {res : Option Value × Hp} {hX : TX} {hL : TC} {hK : TK} {hS : TS} {hP : TP} {hM : TM} {a1 : Int32} {R_count : Int32} {R_changes : Int32} {R_F : Nat → Nat → Int32} {q1 : Int32 × Int32 × Int32 × Int32} : ∀ (n9 : Nat) (v4_16 : Int64) (v6_16 : Int32) (C_plays_16 : Int32) (C_small_16 : Int32) (C_large_16 : Int32) (C_u_16 : Int32) (C_v_16 : Int32) (C_left_16 : Nat → Int32) (C_firsts_16 : Nat → Int32) (C_seconds_16 : Nat → Int32) (C_winners_16 : Nat → Int32) (qL : Int32 × Int32 × Int32 × Int32 × Int32 × (Nat → Int32) × (Nat → Int32) × (Nat → Int32) × (Nat → Int32)), lp_X0_run_16 R_count R_F a1 n9 v4_16 v6_16 C_plays_16 C_small_16 C_large_16 C_u_16 C_v_16 C_left_16 C_firsts_16 C_seconds_16 C_winners_16 = some qL → (Wa E yX0_run cX0_run 9 none 5 res 94 [(0, .ref (eA E 13))] [] (hX, (R_count, R_changes, R_F), hL, (q1.1, qL.1, qL.2.1, qL.2.2.1, qL.2.2.2.1, qL.2.2.2.2.1, qL.2.2.2.2.2.1, qL.2.2.2.2.2.2.1, qL.2.2.2.2.2.2.2.1, qL.2.2.2.2.2.2.2.2), hK, hS, hP, hM)) → Wa E yX0_run cX0_run 9 none 5 res 16 [(0, .ref (eA E 13)), (1, .ref (eA E 1)), (2, .int a1), (4, .long v4_16), (6, .int v6_16)] [] (hX, (R_count, R_changes, R_F), hL, (q1.1, C_plays_16, C_small_16, C_large_16, C_u_16, C_v_16, C_left_16, C_firsts_16, C_seconds_16, C_winners_16), hK, hS, hP, hM) := by
  intro n9
  induction n9 with
  | zero =>
    intro v4_16 v6_16 C_plays_16 C_small_16 C_large_16 C_u_16 C_v_16 C_left_16 C_firsts_16 C_seconds_16 C_winners_16 qL hf
    exact nomatch (show (none : Option (Int32 × Int32 × Int32 × Int32 × Int32 × (Nat → Int32) × (Nat → Int32) × (Nat → Int32) × (Nat → Int32))) = some qL from hf)
  | succ n9 ih =>
    intro v4_16 v6_16 C_plays_16 C_small_16 C_large_16 C_u_16 C_v_16 C_left_16 C_firsts_16 C_seconds_16 C_winners_16 qL hf kx0
    rw [lp_X0_run_16] at hf
    refine r_iload dX0_run_16 4 rfl ?_
    refine r_bipush (v := 12) dX0_run_18 (by decide) ?_
    refine r_icmp_ge (tgt := 94) dX0_run_20 (by decide) (fun c3 => ?_) (fun c3 => ?_)
    · have hf := hf_pos c3 hf
      have e9 := Option.some.inj hf
      subst e9
      exact (Wa.sub [0] rfl kx0)
    · have hf := hf_neg c3 hf
      refine r_aload_n dX0_run_23 0 rfl ?_
      refine r_aload_n dX0_run_24 1 rfl ?_
      refine r_iload_n dX0_run_25 2 rfl ?_
      obtain ⟨q4, hq4, hf⟩ := hf_bind hf
      refine r_callVi (As := [.ref (eA E 1), .int a1]) (b := (eA E 13)) (st := []) (s_X0_pick_T hq4) (by decide) (by decide) wd_357 wd_358 wd_359 wd_70 wd_360 hy_X0_pick (Rc.obj 13 rfl rfl) rfl (Nat.le_of_ble_eq_true rfl) dX0_run_26 ?_
      refine r_if_eq (tgt := 94) dX0_run_29 (by decide) (fun c5 => ?_) (fun c5 => ?_)
      · have hf := hf_pos c5 hf
        have e9 := Option.some.inj hf
        subst e9
        exact (Wa.sub [0] rfl kx0)
      · have hf := hf_neg c5 hf
        refine r_lload dX0_run_32 3 rfl ?_
        obtain ⟨q6, hq6, hf⟩ := hf_bind hf
        refine r_callSNl (As := [.long v4_16]) (st := []) (s_X5_nextX hq6) (by decide) (by decide) wn_396 wd_293 wd_68 wd_294 hy_X5_nextX rfl (Nat.le_of_ble_eq_true rfl) dX0_run_34 ?_
        refine r_lstore (lv2 := [(4, .long q6), (0, .ref (eA E 13)), (1, .ref (eA E 1)), (2, .int a1), (6, .int v6_16)]) dX0_run_37 (by decide) rfl ?_
        refine r_aload_n dX0_run_39 1 rfl ?_
        obtain ⟨q7, hq7, hf⟩ := hf_bind hf
        refine r_callVi (As := []) (b := (eA E 13)) (st := []) (s_X0_chancesOfBoth_T hq7) (by decide) (by decide) wd_397 wd_399 wd_10 wd_70 wd_400 hy_X0_chancesOfBoth (Rc.obj 13 rfl rfl) rfl (Nat.le_of_ble_eq_true rfl) dX0_run_40 ?_
        refine r_istore (lv2 := [(7, .int q7), (4, .long q6), (0, .ref (eA E 13)), (1, .ref (eA E 1)), (2, .int a1), (6, .int v6_16)]) dX0_run_43 (by decide) rfl ?_
        refine r_iload dX0_run_45 0 rfl ?_
        obtain ⟨q9, hq9, hf⟩ := hf_bind hf
        have kj9 : Wa E yX0_run cX0_run 9 none 5 res 74 [(0, .ref (eA E 13)), (1, .ref (eA E 1)), (2, .int a1), (4, .long q6), (6, .int v6_16)] [.int q9] (hX, (R_count, R_changes, R_F), hL, (q1.1, C_plays_16, C_small_16, C_large_16, q4.2.1, q4.2.2, C_left_16, C_firsts_16, C_seconds_16, C_winners_16), hK, hS, hP, hM) := by
          refine r_istore (lv2 := [(8, .int q9), (0, .ref (eA E 13)), (1, .ref (eA E 1)), (2, .int a1), (4, .long q6), (6, .int v6_16)]) dX0_run_74 (by decide) rfl ?_
          refine r_aload_n dX0_run_76 1 rfl ?_
          refine r_iload dX0_run_77 0 rfl ?_
          obtain ⟨q13, hq13, hf⟩ := hf_bind hf
          refine r_callVv (As := [.int q9]) (b := (eA E 13)) (st := []) (s_X0_write_T hq13) (by decide) (by decide) wd_414 wd_416 wd_13 wd_70 wd_417 hy_X0_write (Rc.obj 13 rfl rfl) rfl (Nat.le_of_ble_eq_true rfl) dX0_run_79 ?_
          refine r_aload_n dX0_run_82 1 rfl ?_
          refine r_iload dX0_run_83 0 rfl ?_
          obtain ⟨q14, hq14, hf⟩ := hf_bind hf
          refine r_callVv (As := [.int q9]) (b := (eA E 13)) (st := []) (s_X0_settle_T hq14) (by decide) (by decide) wd_418 wd_419 wd_420 wd_70 wd_421 hy_X0_settle (Rc.obj 13 rfl rfl) rfl (Nat.le_of_ble_eq_true rfl) dX0_run_85 ?_
          refine r_iinc (v := (v6_16 + 1)) (lv2 := [(6, .int (v6_16 + 1)), (8, .int q9), (0, .ref (eA E 13)), (1, .ref (eA E 1)), (2, .int a1), (4, .long q6)]) dX0_run_88 5 rfl rfl (by decide) rfl ?_
          refine r_goto (tgt := 16) dX0_run_91 (by decide) ?_
          exact (Wa.sub [2, 3, 4, 5, 0] rfl (ih _ _ _ _ _ _ _ _ _ _ _ _ hf kx0))
        have hf := hq9
        refine r_if_le (tgt := 73) dX0_run_47 (by decide) (fun c8 => ?_) (fun c8 => ?_)
        · have hf := hf_pos c8 hf
          refine r_iconst (v := 0) dX0_run_73 (by decide) ?_
          have e9 := Option.some.inj hf
          subst e9
          exact (Wa.sub [2, 3, 4, 1, 5] rfl kj9)
        · have hf := hf_neg c8 hf
          refine r_lload dX0_run_50 1 rfl ?_
          refine r_ldc2 (v := 65536) wd_409 dX0_run_52 ?_
          refine r_ldiv dX0_run_55 (by decide) ?_
          refine r_iload dX0_run_56 0 rfl ?_
          refine r_i2l dX0_run_58 ?_
          obtain ⟨z10, hf⟩ := hf_nz hf
          refine r_lrem dX0_run_59 z10 ?_
          refine r_aload_n dX0_run_60 2 rfl ?_
          obtain ⟨q11, hq11, hf⟩ := hf_bind hf
          refine r_callVi (As := []) (b := (eA E 13)) (st := [.long ((q6 / 65536) - (q6 / 65536) / (Int32.toInt64 q7) * (Int32.toInt64 q7))]) (s_X0_chancesOfFirst_T hq11) (by decide) (by decide) wd_410 wd_412 wd_12 wd_70 wd_413 hy_X0_chancesOfFirst (Rc.obj 13 rfl rfl) rfl (Nat.le_of_ble_eq_true rfl) dX0_run_61 ?_
          refine r_i2l dX0_run_64 ?_
          refine r_lcmp dX0_run_65 ?_
          refine r_if_ge (tgt := 73) dX0_run_66 (by decide) (fun c12 => ?_) (fun c12 => ?_)
          · have hf := hf_pos c12 hf
            refine r_iconst (v := 0) dX0_run_73 (by decide) ?_
            have e9 := Option.some.inj hf
            subst e9
            exact (Wa.sub [2, 3, 4, 1, 5] rfl kj9)
          · have hf := hf_neg c12 hf
            refine r_iconst (v := 1) dX0_run_69 (by decide) ?_
            refine r_goto (tgt := 74) dX0_run_70 (by decide) ?_
            have e9 := Option.some.inj hf
            subst e9
            exact (Wa.sub [2, 3, 4, 1, 5] rfl kj9)
set_option maxHeartbeats 4000000 in
set_option maxRecDepth 100000 in
theorem s_X0_run_T {E : EN} {hX : TX} {hL : TC} {hK : TK} {hS : TS} {hP : TP} {hM : TM} {R_count : Int32} {R_changes : Int32} {R_F : Nat → Nat → Int32} {C_sample : Int32} {C_plays : Int32} {C_small : Int32} {C_large : Int32} {C_u : Int32} {C_v : Int32} {C_left : Nat → Int32} {C_firsts : Nat → Int32} {C_seconds : Nat → Int32} {C_winners : Nat → Int32} {a1 : Int32} {a2 : Int32} {qR : Int32 × Int32 × Int32 × Int32 × Int32 × Int32 × (Nat → Int32) × (Nat → Int32) × (Nat → Int32) × (Nat → Int32)} (hf : f_X0_run R_count R_F C_u C_v C_left C_firsts C_seconds C_winners a1 a2 = some qR) : Sem E yX0_run cX0_run 9 none 5 [.ref (eA E 13), .ref (eA E 1), .int a1, .int a2] (hX, (R_count, R_changes, R_F), hL, (C_sample, C_plays, C_small, C_large, C_u, C_v, C_left, C_firsts, C_seconds, C_winners), hK, hS, hP, hM) (none, (hX, (R_count, R_changes, R_F), hL, (qR.1, qR.2.1, qR.2.2.1, qR.2.2.2.1, qR.2.2.2.2.1, qR.2.2.2.2.2.1, qR.2.2.2.2.2.2.1, qR.2.2.2.2.2.2.2.1, qR.2.2.2.2.2.2.2.2.1, qR.2.2.2.2.2.2.2.2.2), hK, hS, hP, hM)) := by
  refine Sem.mk (lv := [(0, .ref (eA E 13)), (1, .ref (eA E 1)), (2, .int a1), (3, .int a2)]) (by decide) (Nat.le_of_ble_eq_true rfl) rfl ?_
  rw [f_X0_run] at hf
  refine r_aload_n dX0_run_0 0 rfl ?_
  obtain ⟨q1, hq1, hf⟩ := hf_bind hf
  refine r_callVv (As := []) (b := (eA E 13)) (st := []) (s_X0_forget_T hq1) (by decide) (by decide) wd_351 wd_281 wd_282 wd_70 wd_283 hy_X0_forget (Rc.obj 13 rfl rfl) rfl (Nat.le_of_ble_eq_true rfl) dX0_run_1 ?_
  refine r_aload_n dX0_run_4 0 rfl ?_
  refine r_aload_n dX0_run_5 1 rfl ?_
  obtain ⟨q2, hq2, hf⟩ := hf_bind hf
  refine r_callVv (As := [.ref (eA E 1)]) (b := (eA E 13)) (st := []) (s_X0_begin_T hq2) (by decide) (by decide) wd_352 wd_353 wd_354 wd_70 wd_355 hy_X0_begin (Rc.obj 13 rfl rfl) rfl (Nat.le_of_ble_eq_true rfl) dX0_run_6 ?_
  refine r_iload_n dX0_run_9 3 rfl ?_
  refine r_i2l dX0_run_10 ?_
  refine r_lstore (lv2 := [(4, .long (Int32.toInt64 a2)), (0, .ref (eA E 13)), (1, .ref (eA E 1)), (2, .int a1), (3, .int a2)]) dX0_run_11 (by decide) rfl ?_
  refine r_iconst (v := 0) dX0_run_13 (by decide) ?_
  refine r_istore (lv2 := [(6, .int 0), (4, .long (Int32.toInt64 a2)), (0, .ref (eA E 13)), (1, .ref (eA E 1)), (2, .int a1), (3, .int a2)]) dX0_run_14 (by decide) rfl ?_
  obtain ⟨q15, hq15, hf⟩ := hf_bind hf
  refine (Wa.sub [2, 3, 4, 1, 0] rfl (w_X0_run_16_T _ _ _ _ _ _ _ _ _ _ _ _ _ hq15 ?_))
  refine r_aload_n dX0_run_94 0 rfl ?_
  refine r_aload_n dX0_run_95 0 rfl ?_
  obtain ⟨q16, hq16, hf⟩ := hf_bind hf
  refine r_callVi (As := []) (b := (eA E 13)) (st := [.ref (eA E 13)]) (s_X0_wholeOnes_T hq16) (by decide) (by decide) wd_429 wd_430 wd_431 wd_70 wd_432 hy_X0_wholeOnes (Rc.obj 13 rfl rfl) rfl (Nat.le_of_ble_eq_true rfl) dX0_run_96 ?_
  refine r_put in_X0 tyX0_ok nmX0 13 rfl rfl 4 (by decide) wd_122 rfl rfl pfI (Nat.le_of_ble_eq_true rfl) (h2 := (hX, (R_count, R_changes, R_F), hL, (q16, q15.1, q15.2.1, q15.2.2.1, q15.2.2.2.1, q15.2.2.2.2.1, q15.2.2.2.2.2.1, q15.2.2.2.2.2.2.1, q15.2.2.2.2.2.2.2.1, q15.2.2.2.2.2.2.2.2), hK, hS, hP, hM)) rfl dX0_run_99 ?_
  have e9 := Option.some.inj hf
  subst e9
  exact r_vret rfl dX0_run_102
-- DuelSamples$Course.tally
def f_X0_tally (C_sample : Int32) (C_plays : Int32) (C_small : Int32) (C_large : Int32) (a0 : Int32) : Option (Int32) := if a0 = 0 then some C_sample else if a0 = 1 then some C_plays else if a0 = 2 then some C_small else some C_large
theorem hy_X0_tally : yX0_tally.cls ≠ "java/lang/invoke/MethodHandle" ∧ yX0_tally.cls ≠ "java/lang/invoke/VarHandle" ∧ (parseMethodDescriptor yX0_tally.desc).map (fun d => d.parameters.length) = some 1 := by decide +kernel
set_option maxHeartbeats 4000000 in
set_option maxRecDepth 100000 in
theorem s_X0_tally_L {E : EN} {hX : TX} {hR : TR} {hT : TC} {hK : TK} {hS : TS} {hP : TP} {hM : TM} {C_sample : Int32} {C_plays : Int32} {C_small : Int32} {C_large : Int32} {C_u : Int32} {C_v : Int32} {C_left : Nat → Int32} {C_firsts : Nat → Int32} {C_seconds : Nat → Int32} {C_winners : Nat → Int32} {a0 : Int32} {qR : Int32} (hf : f_X0_tally C_sample C_plays C_small C_large a0 = some qR) : Sem E yX0_tally cX0_tally 2 (some .int) 1 [.ref (eA E 8), .int a0] (hX, hR, (C_sample, C_plays, C_small, C_large, C_u, C_v, C_left, C_firsts, C_seconds, C_winners), hT, hK, hS, hP, hM) (some (.int qR), (hX, hR, (C_sample, C_plays, C_small, C_large, C_u, C_v, C_left, C_firsts, C_seconds, C_winners), hT, hK, hS, hP, hM)) := by
  refine Sem.mk (lv := [(0, .ref (eA E 8)), (1, .int a0)]) (by decide) (Nat.le_of_ble_eq_true rfl) rfl ?_
  rw [f_X0_tally] at hf
  refine r_iload_n dX0_tally_0 1 rfl ?_
  by_cases c1 : a0 = 0
  · have hf := hf_pos c1 hf
    refine r_tswi (off := 27) (tgt := 28) dX0_tally_1 c1 (by decide) (by decide) (by decide) (by decide) ?_
    refine r_aload_n dX0_tally_28 0 rfl ?_
    refine r_get (v := .int C_sample) in_X0 8 rfl rfl 4 (by decide) wd_122 rfl rfl dX0_tally_29 ?_
    have e9 := Option.some.inj hf
    subst e9
    exact r_iret rfl dX0_tally_32
  · have hf := hf_neg c1 hf
    by_cases c2 : a0 = 1
    · have hf := hf_pos c2 hf
      refine r_tswi (off := 32) (tgt := 33) dX0_tally_1 c2 (by decide) (by decide) (by decide) (by decide) ?_
      refine r_aload_n dX0_tally_33 0 rfl ?_
      refine r_get (v := .int C_plays) in_X0 8 rfl rfl 5 (by decide) wd_124 rfl rfl dX0_tally_34 ?_
      have e9 := Option.some.inj hf
      subst e9
      exact r_iret rfl dX0_tally_37
    · have hf := hf_neg c2 hf
      by_cases c3 : a0 = 2
      · have hf := hf_pos c3 hf
        refine r_tswi (off := 37) (tgt := 38) dX0_tally_1 c3 (by decide) (by decide) (by decide) (by decide) ?_
        refine r_aload_n dX0_tally_38 0 rfl ?_
        refine r_get (v := .int C_small) in_X0 8 rfl rfl 6 (by decide) wd_125 rfl rfl dX0_tally_39 ?_
        have e9 := Option.some.inj hf
        subst e9
        exact r_iret rfl dX0_tally_42
      · have hf := hf_neg c3 hf
        refine r_tswo (tgt := 43) dX0_tally_1 (tsw_out0_2 c1 c2 c3) (by decide) ?_
        refine r_aload_n dX0_tally_43 0 rfl ?_
        refine r_get (v := .int C_large) in_X0 8 rfl rfl 7 (by decide) wd_126 rfl rfl dX0_tally_44 ?_
        have e9 := Option.some.inj hf
        subst e9
        exact r_iret rfl dX0_tally_47
set_option maxHeartbeats 4000000 in
set_option maxRecDepth 100000 in
theorem s_X0_tally_T {E : EN} {hX : TX} {hR : TR} {hL : TC} {hK : TK} {hS : TS} {hP : TP} {hM : TM} {C_sample : Int32} {C_plays : Int32} {C_small : Int32} {C_large : Int32} {C_u : Int32} {C_v : Int32} {C_left : Nat → Int32} {C_firsts : Nat → Int32} {C_seconds : Nat → Int32} {C_winners : Nat → Int32} {a0 : Int32} {qR : Int32} (hf : f_X0_tally C_sample C_plays C_small C_large a0 = some qR) : Sem E yX0_tally cX0_tally 2 (some .int) 1 [.ref (eA E 13), .int a0] (hX, hR, hL, (C_sample, C_plays, C_small, C_large, C_u, C_v, C_left, C_firsts, C_seconds, C_winners), hK, hS, hP, hM) (some (.int qR), (hX, hR, hL, (C_sample, C_plays, C_small, C_large, C_u, C_v, C_left, C_firsts, C_seconds, C_winners), hK, hS, hP, hM)) := by
  refine Sem.mk (lv := [(0, .ref (eA E 13)), (1, .int a0)]) (by decide) (Nat.le_of_ble_eq_true rfl) rfl ?_
  rw [f_X0_tally] at hf
  refine r_iload_n dX0_tally_0 1 rfl ?_
  by_cases c1 : a0 = 0
  · have hf := hf_pos c1 hf
    refine r_tswi (off := 27) (tgt := 28) dX0_tally_1 c1 (by decide) (by decide) (by decide) (by decide) ?_
    refine r_aload_n dX0_tally_28 0 rfl ?_
    refine r_get (v := .int C_sample) in_X0 13 rfl rfl 4 (by decide) wd_122 rfl rfl dX0_tally_29 ?_
    have e9 := Option.some.inj hf
    subst e9
    exact r_iret rfl dX0_tally_32
  · have hf := hf_neg c1 hf
    by_cases c2 : a0 = 1
    · have hf := hf_pos c2 hf
      refine r_tswi (off := 32) (tgt := 33) dX0_tally_1 c2 (by decide) (by decide) (by decide) (by decide) ?_
      refine r_aload_n dX0_tally_33 0 rfl ?_
      refine r_get (v := .int C_plays) in_X0 13 rfl rfl 5 (by decide) wd_124 rfl rfl dX0_tally_34 ?_
      have e9 := Option.some.inj hf
      subst e9
      exact r_iret rfl dX0_tally_37
    · have hf := hf_neg c2 hf
      by_cases c3 : a0 = 2
      · have hf := hf_pos c3 hf
        refine r_tswi (off := 37) (tgt := 38) dX0_tally_1 c3 (by decide) (by decide) (by decide) (by decide) ?_
        refine r_aload_n dX0_tally_38 0 rfl ?_
        refine r_get (v := .int C_small) in_X0 13 rfl rfl 6 (by decide) wd_125 rfl rfl dX0_tally_39 ?_
        have e9 := Option.some.inj hf
        subst e9
        exact r_iret rfl dX0_tally_42
      · have hf := hf_neg c3 hf
        refine r_tswo (tgt := 43) dX0_tally_1 (tsw_out0_2 c1 c2 c3) (by decide) ?_
        refine r_aload_n dX0_tally_43 0 rfl ?_
        refine r_get (v := .int C_large) in_X0 13 rfl rfl 7 (by decide) wd_126 rfl rfl dX0_tally_44 ?_
        have e9 := Option.some.inj hf
        subst e9
        exact r_iret rfl dX0_tally_47
-- DuelSamples$Course.recorded
def f_X0_recorded (C_plays : Int32) (C_firsts : Nat → Int32) (C_seconds : Nat → Int32) (C_winners : Nat → Int32) (a0 : Int32) (a1 : Int32) : Option (Int32) := if a0 < 0 then some (-1) else if C_plays ≤ a0 then some (-1) else if a0 < 12 then if a1 = 0 then if inB a0 12 then some (C_firsts (Int32.toNatClampNeg a0)) else none else if a1 = 1 then if inB a0 12 then some (C_seconds (Int32.toNatClampNeg a0)) else none else if inB a0 12 then some (C_winners (Int32.toNatClampNeg a0)) else none else some (-1)
theorem hy_X0_recorded : yX0_recorded.cls ≠ "java/lang/invoke/MethodHandle" ∧ yX0_recorded.cls ≠ "java/lang/invoke/VarHandle" ∧ (parseMethodDescriptor yX0_recorded.desc).map (fun d => d.parameters.length) = some 2 := by decide +kernel
set_option maxHeartbeats 4000000 in
set_option maxRecDepth 100000 in
theorem s_X0_recorded_L {E : EN} {hX : TX} {hR : TR} {hT : TC} {hK : TK} {hS : TS} {hP : TP} {hM : TM} {C_sample : Int32} {C_plays : Int32} {C_small : Int32} {C_large : Int32} {C_u : Int32} {C_v : Int32} {C_left : Nat → Int32} {C_firsts : Nat → Int32} {C_seconds : Nat → Int32} {C_winners : Nat → Int32} {a0 : Int32} {a1 : Int32} {qR : Int32} (hf : f_X0_recorded C_plays C_firsts C_seconds C_winners a0 a1 = some qR) : Sem E yX0_recorded cX0_recorded 3 (some .int) 1 [.ref (eA E 8), .int a0, .int a1] (hX, hR, (C_sample, C_plays, C_small, C_large, C_u, C_v, C_left, C_firsts, C_seconds, C_winners), hT, hK, hS, hP, hM) (some (.int qR), (hX, hR, (C_sample, C_plays, C_small, C_large, C_u, C_v, C_left, C_firsts, C_seconds, C_winners), hT, hK, hS, hP, hM)) := by
  refine Sem.mk (lv := [(0, .ref (eA E 8)), (1, .int a0), (2, .int a1)]) (by decide) (Nat.le_of_ble_eq_true rfl) rfl ?_
  rw [f_X0_recorded] at hf
  refine r_iload_n dX0_recorded_0 1 rfl ?_
  refine r_if_lt (tgt := 18) dX0_recorded_1 (by decide) (fun c1 => ?_) (fun c1 => ?_)
  · have hf := hf_pos c1 hf
    refine r_iconst (v := (-1)) dX0_recorded_18 (by decide) ?_
    have e9 := Option.some.inj hf
    subst e9
    exact r_iret rfl dX0_recorded_19
  · have hf := hf_neg c1 hf
    refine r_iload_n dX0_recorded_4 1 rfl ?_
    refine r_aload_n dX0_recorded_5 0 rfl ?_
    refine r_get (v := .int C_plays) in_X0 8 rfl rfl 5 (by decide) wd_124 rfl rfl dX0_recorded_6 ?_
    refine r_icmp_ge (tgt := 18) dX0_recorded_9 (by decide) (fun c2 => ?_) (fun c2 => ?_)
    · have hf := hf_pos c2 hf
      refine r_iconst (v := (-1)) dX0_recorded_18 (by decide) ?_
      have e9 := Option.some.inj hf
      subst e9
      exact r_iret rfl dX0_recorded_19
    · have hf := hf_neg c2 hf
      refine r_iload_n dX0_recorded_12 1 rfl ?_
      refine r_bipush (v := 12) dX0_recorded_13 (by decide) ?_
      refine r_icmp_lt (tgt := 20) dX0_recorded_15 (by decide) (fun c3 => ?_) (fun c3 => ?_)
      · have hf := hf_pos c3 hf
        refine r_iload_n dX0_recorded_20 2 rfl ?_
        refine r_if_ne (tgt := 31) dX0_recorded_21 (by decide) (fun c4 => ?_) (fun c4 => ?_)
        · have hf := hf_neg c4 hf
          refine r_iload_n dX0_recorded_31 2 rfl ?_
          refine r_iconst (v := 1) dX0_recorded_32 (by decide) ?_
          refine r_icmp_ne (tgt := 45) dX0_recorded_33 (by decide) (fun c5 => ?_) (fun c5 => ?_)
          · have hf := hf_neg c5 hf
            refine r_aload_n dX0_recorded_45 0 rfl ?_
            refine r_get (v := .ref (eA E 12)) in_X0 8 rfl rfl 3 (by decide) wd_121 rfl rfl dX0_recorded_46 ?_
            refine r_iload_n dX0_recorded_49 1 rfl ?_
            obtain ⟨i6, hf⟩ := hf_in hf
            refine r_iald (f := C_winners) 12 rfl i6 dX0_recorded_50 ?_
            have e9 := Option.some.inj hf
            subst e9
            exact r_iret rfl dX0_recorded_51
          · have hf := hf_pos c5 hf
            refine r_aload_n dX0_recorded_36 0 rfl ?_
            refine r_get (v := .ref (eA E 11)) in_X0 8 rfl rfl 2 (by decide) wd_120 rfl rfl dX0_recorded_37 ?_
            refine r_iload_n dX0_recorded_40 1 rfl ?_
            obtain ⟨i7, hf⟩ := hf_in hf
            refine r_iald (f := C_seconds) 11 rfl i7 dX0_recorded_41 ?_
            refine r_goto (tgt := 51) dX0_recorded_42 (by decide) ?_
            have e9 := Option.some.inj hf
            subst e9
            exact r_iret rfl dX0_recorded_51
        · have hf := hf_pos c4 hf
          refine r_aload_n dX0_recorded_24 0 rfl ?_
          refine r_get (v := .ref (eA E 10)) in_X0 8 rfl rfl 1 (by decide) wd_119 rfl rfl dX0_recorded_25 ?_
          refine r_iload_n dX0_recorded_28 1 rfl ?_
          obtain ⟨i8, hf⟩ := hf_in hf
          refine r_iald (f := C_firsts) 10 rfl i8 dX0_recorded_29 ?_
          have e9 := Option.some.inj hf
          subst e9
          exact r_iret rfl dX0_recorded_30
      · have hf := hf_neg c3 hf
        refine r_iconst (v := (-1)) dX0_recorded_18 (by decide) ?_
        have e9 := Option.some.inj hf
        subst e9
        exact r_iret rfl dX0_recorded_19
set_option maxHeartbeats 4000000 in
set_option maxRecDepth 100000 in
theorem s_X0_recorded_T {E : EN} {hX : TX} {hR : TR} {hL : TC} {hK : TK} {hS : TS} {hP : TP} {hM : TM} {C_sample : Int32} {C_plays : Int32} {C_small : Int32} {C_large : Int32} {C_u : Int32} {C_v : Int32} {C_left : Nat → Int32} {C_firsts : Nat → Int32} {C_seconds : Nat → Int32} {C_winners : Nat → Int32} {a0 : Int32} {a1 : Int32} {qR : Int32} (hf : f_X0_recorded C_plays C_firsts C_seconds C_winners a0 a1 = some qR) : Sem E yX0_recorded cX0_recorded 3 (some .int) 1 [.ref (eA E 13), .int a0, .int a1] (hX, hR, hL, (C_sample, C_plays, C_small, C_large, C_u, C_v, C_left, C_firsts, C_seconds, C_winners), hK, hS, hP, hM) (some (.int qR), (hX, hR, hL, (C_sample, C_plays, C_small, C_large, C_u, C_v, C_left, C_firsts, C_seconds, C_winners), hK, hS, hP, hM)) := by
  refine Sem.mk (lv := [(0, .ref (eA E 13)), (1, .int a0), (2, .int a1)]) (by decide) (Nat.le_of_ble_eq_true rfl) rfl ?_
  rw [f_X0_recorded] at hf
  refine r_iload_n dX0_recorded_0 1 rfl ?_
  refine r_if_lt (tgt := 18) dX0_recorded_1 (by decide) (fun c1 => ?_) (fun c1 => ?_)
  · have hf := hf_pos c1 hf
    refine r_iconst (v := (-1)) dX0_recorded_18 (by decide) ?_
    have e9 := Option.some.inj hf
    subst e9
    exact r_iret rfl dX0_recorded_19
  · have hf := hf_neg c1 hf
    refine r_iload_n dX0_recorded_4 1 rfl ?_
    refine r_aload_n dX0_recorded_5 0 rfl ?_
    refine r_get (v := .int C_plays) in_X0 13 rfl rfl 5 (by decide) wd_124 rfl rfl dX0_recorded_6 ?_
    refine r_icmp_ge (tgt := 18) dX0_recorded_9 (by decide) (fun c2 => ?_) (fun c2 => ?_)
    · have hf := hf_pos c2 hf
      refine r_iconst (v := (-1)) dX0_recorded_18 (by decide) ?_
      have e9 := Option.some.inj hf
      subst e9
      exact r_iret rfl dX0_recorded_19
    · have hf := hf_neg c2 hf
      refine r_iload_n dX0_recorded_12 1 rfl ?_
      refine r_bipush (v := 12) dX0_recorded_13 (by decide) ?_
      refine r_icmp_lt (tgt := 20) dX0_recorded_15 (by decide) (fun c3 => ?_) (fun c3 => ?_)
      · have hf := hf_pos c3 hf
        refine r_iload_n dX0_recorded_20 2 rfl ?_
        refine r_if_ne (tgt := 31) dX0_recorded_21 (by decide) (fun c4 => ?_) (fun c4 => ?_)
        · have hf := hf_neg c4 hf
          refine r_iload_n dX0_recorded_31 2 rfl ?_
          refine r_iconst (v := 1) dX0_recorded_32 (by decide) ?_
          refine r_icmp_ne (tgt := 45) dX0_recorded_33 (by decide) (fun c5 => ?_) (fun c5 => ?_)
          · have hf := hf_neg c5 hf
            refine r_aload_n dX0_recorded_45 0 rfl ?_
            refine r_get (v := .ref (eA E 17)) in_X0 13 rfl rfl 3 (by decide) wd_121 rfl rfl dX0_recorded_46 ?_
            refine r_iload_n dX0_recorded_49 1 rfl ?_
            obtain ⟨i6, hf⟩ := hf_in hf
            refine r_iald (f := C_winners) 17 rfl i6 dX0_recorded_50 ?_
            have e9 := Option.some.inj hf
            subst e9
            exact r_iret rfl dX0_recorded_51
          · have hf := hf_pos c5 hf
            refine r_aload_n dX0_recorded_36 0 rfl ?_
            refine r_get (v := .ref (eA E 16)) in_X0 13 rfl rfl 2 (by decide) wd_120 rfl rfl dX0_recorded_37 ?_
            refine r_iload_n dX0_recorded_40 1 rfl ?_
            obtain ⟨i7, hf⟩ := hf_in hf
            refine r_iald (f := C_seconds) 16 rfl i7 dX0_recorded_41 ?_
            refine r_goto (tgt := 51) dX0_recorded_42 (by decide) ?_
            have e9 := Option.some.inj hf
            subst e9
            exact r_iret rfl dX0_recorded_51
        · have hf := hf_pos c4 hf
          refine r_aload_n dX0_recorded_24 0 rfl ?_
          refine r_get (v := .ref (eA E 15)) in_X0 13 rfl rfl 1 (by decide) wd_119 rfl rfl dX0_recorded_25 ?_
          refine r_iload_n dX0_recorded_28 1 rfl ?_
          obtain ⟨i8, hf⟩ := hf_in hf
          refine r_iald (f := C_firsts) 15 rfl i8 dX0_recorded_29 ?_
          have e9 := Option.some.inj hf
          subst e9
          exact r_iret rfl dX0_recorded_30
      · have hf := hf_neg c3 hf
        refine r_iconst (v := (-1)) dX0_recorded_18 (by decide) ?_
        have e9 := Option.some.inj hf
        subst e9
        exact r_iret rfl dX0_recorded_19
-- DuelSamples$Course.restore
def f_X0_restore (C_left : Nat → Int32) (a0 : Int32) (a1 : Int32) (a2 : Int32) (a3 : Int32) : Option (Int32 × Int32 × (Nat → Int32)) := Option.bind (f_X0_leave C_left a0 a2) (fun (q1 : (Nat → Int32)) => Option.bind (f_X0_leave q1 a1 a3) (fun (q2 : (Nat → Int32)) => some (a0, a1, q2)))
theorem hy_X0_restore : yX0_restore.cls ≠ "java/lang/invoke/MethodHandle" ∧ yX0_restore.cls ≠ "java/lang/invoke/VarHandle" ∧ (parseMethodDescriptor yX0_restore.desc).map (fun d => d.parameters.length) = some 4 := by decide +kernel
set_option maxHeartbeats 4000000 in
set_option maxRecDepth 100000 in
theorem s_X0_restore_L {E : EN} {hX : TX} {hR : TR} {hT : TC} {hK : TK} {hS : TS} {hP : TP} {hM : TM} {C_sample : Int32} {C_plays : Int32} {C_small : Int32} {C_large : Int32} {C_u : Int32} {C_v : Int32} {C_left : Nat → Int32} {C_firsts : Nat → Int32} {C_seconds : Nat → Int32} {C_winners : Nat → Int32} {a0 : Int32} {a1 : Int32} {a2 : Int32} {a3 : Int32} {qR : Int32 × Int32 × (Nat → Int32)} (hf : f_X0_restore C_left a0 a1 a2 a3 = some qR) : Sem E yX0_restore cX0_restore 5 none 2 [.ref (eA E 8), .int a0, .int a1, .int a2, .int a3] (hX, hR, (C_sample, C_plays, C_small, C_large, C_u, C_v, C_left, C_firsts, C_seconds, C_winners), hT, hK, hS, hP, hM) (none, (hX, hR, (C_sample, C_plays, C_small, C_large, qR.1, qR.2.1, qR.2.2, C_firsts, C_seconds, C_winners), hT, hK, hS, hP, hM)) := by
  refine Sem.mk (lv := [(0, .ref (eA E 8)), (1, .int a0), (2, .int a1), (3, .int a2), (4, .int a3)]) (by decide) (Nat.le_of_ble_eq_true rfl) rfl ?_
  rw [f_X0_restore] at hf
  refine r_aload_n dX0_restore_0 0 rfl ?_
  refine r_iload_n dX0_restore_1 1 rfl ?_
  refine r_put in_X0 tyX0_ok nmX0 8 rfl rfl 8 (by decide) wd_128 rfl rfl pfI (Nat.le_of_ble_eq_true rfl) (h2 := (hX, hR, (C_sample, C_plays, C_small, C_large, a0, C_v, C_left, C_firsts, C_seconds, C_winners), hT, hK, hS, hP, hM)) rfl dX0_restore_2 ?_
  refine r_aload_n dX0_restore_5 0 rfl ?_
  refine r_iload_n dX0_restore_6 2 rfl ?_
  refine r_put in_X0 tyX0_ok nmX0 8 rfl rfl 9 (by decide) wd_130 rfl rfl pfI (Nat.le_of_ble_eq_true rfl) (h2 := (hX, hR, (C_sample, C_plays, C_small, C_large, a0, a1, C_left, C_firsts, C_seconds, C_winners), hT, hK, hS, hP, hM)) rfl dX0_restore_7 ?_
  refine r_aload_n dX0_restore_10 0 rfl ?_
  refine r_iload_n dX0_restore_11 1 rfl ?_
  refine r_iload_n dX0_restore_12 3 rfl ?_
  obtain ⟨q1, hq1, hf⟩ := hf_bind hf
  refine r_callVv (As := [.int a0, .int a2]) (b := (eA E 8)) (st := []) (s_X0_leave_L hq1) (by decide) (by decide) wd_422 wd_424 wd_14 wd_70 wd_425 hy_X0_leave (Rc.obj 8 rfl rfl) rfl (Nat.le_of_ble_eq_true rfl) dX0_restore_13 ?_
  refine r_aload_n dX0_restore_16 0 rfl ?_
  refine r_iload_n dX0_restore_17 2 rfl ?_
  refine r_iload dX0_restore_18 4 rfl ?_
  obtain ⟨q2, hq2, hf⟩ := hf_bind hf
  refine r_callVv (As := [.int a1, .int a3]) (b := (eA E 8)) (st := []) (s_X0_leave_L hq2) (by decide) (by decide) wd_422 wd_424 wd_14 wd_70 wd_425 hy_X0_leave (Rc.obj 8 rfl rfl) rfl (Nat.le_of_ble_eq_true rfl) dX0_restore_20 ?_
  have e9 := Option.some.inj hf
  subst e9
  exact r_vret rfl dX0_restore_23
set_option maxHeartbeats 4000000 in
set_option maxRecDepth 100000 in
theorem s_X0_restore_T {E : EN} {hX : TX} {hR : TR} {hL : TC} {hK : TK} {hS : TS} {hP : TP} {hM : TM} {C_sample : Int32} {C_plays : Int32} {C_small : Int32} {C_large : Int32} {C_u : Int32} {C_v : Int32} {C_left : Nat → Int32} {C_firsts : Nat → Int32} {C_seconds : Nat → Int32} {C_winners : Nat → Int32} {a0 : Int32} {a1 : Int32} {a2 : Int32} {a3 : Int32} {qR : Int32 × Int32 × (Nat → Int32)} (hf : f_X0_restore C_left a0 a1 a2 a3 = some qR) : Sem E yX0_restore cX0_restore 5 none 2 [.ref (eA E 13), .int a0, .int a1, .int a2, .int a3] (hX, hR, hL, (C_sample, C_plays, C_small, C_large, C_u, C_v, C_left, C_firsts, C_seconds, C_winners), hK, hS, hP, hM) (none, (hX, hR, hL, (C_sample, C_plays, C_small, C_large, qR.1, qR.2.1, qR.2.2, C_firsts, C_seconds, C_winners), hK, hS, hP, hM)) := by
  refine Sem.mk (lv := [(0, .ref (eA E 13)), (1, .int a0), (2, .int a1), (3, .int a2), (4, .int a3)]) (by decide) (Nat.le_of_ble_eq_true rfl) rfl ?_
  rw [f_X0_restore] at hf
  refine r_aload_n dX0_restore_0 0 rfl ?_
  refine r_iload_n dX0_restore_1 1 rfl ?_
  refine r_put in_X0 tyX0_ok nmX0 13 rfl rfl 8 (by decide) wd_128 rfl rfl pfI (Nat.le_of_ble_eq_true rfl) (h2 := (hX, hR, hL, (C_sample, C_plays, C_small, C_large, a0, C_v, C_left, C_firsts, C_seconds, C_winners), hK, hS, hP, hM)) rfl dX0_restore_2 ?_
  refine r_aload_n dX0_restore_5 0 rfl ?_
  refine r_iload_n dX0_restore_6 2 rfl ?_
  refine r_put in_X0 tyX0_ok nmX0 13 rfl rfl 9 (by decide) wd_130 rfl rfl pfI (Nat.le_of_ble_eq_true rfl) (h2 := (hX, hR, hL, (C_sample, C_plays, C_small, C_large, a0, a1, C_left, C_firsts, C_seconds, C_winners), hK, hS, hP, hM)) rfl dX0_restore_7 ?_
  refine r_aload_n dX0_restore_10 0 rfl ?_
  refine r_iload_n dX0_restore_11 1 rfl ?_
  refine r_iload_n dX0_restore_12 3 rfl ?_
  obtain ⟨q1, hq1, hf⟩ := hf_bind hf
  refine r_callVv (As := [.int a0, .int a2]) (b := (eA E 13)) (st := []) (s_X0_leave_T hq1) (by decide) (by decide) wd_422 wd_424 wd_14 wd_70 wd_425 hy_X0_leave (Rc.obj 13 rfl rfl) rfl (Nat.le_of_ble_eq_true rfl) dX0_restore_13 ?_
  refine r_aload_n dX0_restore_16 0 rfl ?_
  refine r_iload_n dX0_restore_17 2 rfl ?_
  refine r_iload dX0_restore_18 4 rfl ?_
  obtain ⟨q2, hq2, hf⟩ := hf_bind hf
  refine r_callVv (As := [.int a1, .int a3]) (b := (eA E 13)) (st := []) (s_X0_leave_T hq2) (by decide) (by decide) wd_422 wd_424 wd_14 wd_70 wd_425 hy_X0_leave (Rc.obj 13 rfl rfl) rfl (Nat.le_of_ble_eq_true rfl) dX0_restore_20 ?_
  have e9 := Option.some.inj hf
  subst e9
  exact r_vret rfl dX0_restore_23
