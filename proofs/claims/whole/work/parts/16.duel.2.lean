-- DuelSamples.spread
def lp_X5_spread_19 (R_count : Int32) (L_sample : Int32) (v2_4 : Int32) (R_F : Nat → Nat → Int32) : Nat → Int32 → Int32 → Option (Int32)
  | 0, _, _ => none
  | n9 + 1, v1_19, v3_19 => if R_count ≤ v3_19 then some v1_19 else Option.bind (f_X0_holds L_sample v2_4) (fun (q3 : Int32) => Option.bind (if q3 = 0 then some v1_19 else Option.bind (f_X0_holds L_sample v3_19) (fun (q6 : Int32) => if q6 = 0 then some v1_19 else Option.bind (f_X3_distance R_count R_F v2_4 v3_19) (fun (q8 : Int32) => Option.bind (if v1_19 = (-1) then some q8 else some (if q8 < v1_19 then q8 else v1_19)) (fun (q10 : Int32) => some q10)))) (fun (q5 : Int32) => lp_X5_spread_19 R_count L_sample v2_4 R_F n9 q5 (v3_19 + 1)))
def lp_X5_spread_4 (R_count : Int32) (L_sample : Int32) (R_F : Nat → Nat → Int32) : Nat → Int32 → Int32 → Option (Int32)
  | 0, _, _ => none
  | n9 + 1, v1_4, v2_4 => if R_count ≤ v2_4 then some v1_4 else Option.bind (lp_X5_spread_19 R_count L_sample v2_4 R_F FU v1_4 (v2_4 + 1)) (fun (q11 : Int32) => lp_X5_spread_4 R_count L_sample R_F n9 q11 (v2_4 + 1))
def f_X5_spread (R_count : Int32) (R_F : Nat → Nat → Int32) (L_sample : Int32)  : Option (Int32) := Option.bind (lp_X5_spread_4 R_count L_sample R_F FU (-1) 0) (fun (q12 : Int32) => some q12)
theorem hy_X5_spread : yX5_spread.cls ≠ "java/lang/invoke/MethodHandle" ∧ yX5_spread.cls ≠ "java/lang/invoke/VarHandle" ∧ (parseMethodDescriptor yX5_spread.desc).map (fun d => d.parameters.length) = some 0 := by decide +kernel
set_option maxHeartbeats 4000000 in
set_option maxRecDepth 100000 in
theorem w_X5_spread_19 {E : EN} {res : Option Value × Hp} {hM : TM} {v2_4 : Int32} {X_method : Int32} {X_refusedBad : Int32} {X_refusedFull : Int32} {R_count : Int32} {R_changes : Int32} {R_F : Nat → Nat → Int32} {L_sample : Int32} {L_plays : Int32} {L_small : Int32} {L_large : Int32} {L_u : Int32} {L_v : Int32} {L_left : Nat → Int32} {L_firsts : Nat → Int32} {L_seconds : Nat → Int32} {L_winners : Nat → Int32} {T_sample : Int32} {T_plays : Int32} {T_small : Int32} {T_large : Int32} {T_u : Int32} {T_v : Int32} {T_left : Nat → Int32} {T_firsts : Nat → Int32} {T_seconds : Nat → Int32} {T_winners : Nat → Int32} {K_atChanges : Int32} {K_atMethod : Int32} {K_seen : Nat → Int64} {S_length : Int32} {S_sentences : Int32} {S_at : Int32} {S_units : Int32} {S_text : Nat → Int32} {S_verbs : Nat → Int32} {S_numbers : Nat → Int32} {P_length : Int32} {P_signs : Nat → Int32} : ∀ (n9 : Nat) (v1_19 : Int32) (v3_19 : Int32) (qL : Int32), lp_X5_spread_19 R_count L_sample v2_4 R_F n9 v1_19 v3_19 = some qL → (Wa E yX5_spread cX5_spread 5 (some .int) 3 res 86 [(0, .ref (eA E 0)), (1, .int qL), (2, .int v2_4)] [] ((X_method, X_refusedBad, X_refusedFull), (R_count, R_changes, R_F), (L_sample, L_plays, L_small, L_large, L_u, L_v, L_left, L_firsts, L_seconds, L_winners), (T_sample, T_plays, T_small, T_large, T_u, T_v, T_left, T_firsts, T_seconds, T_winners), (K_atChanges, K_atMethod, K_seen), (S_length, S_sentences, S_at, S_units, S_text, S_verbs, S_numbers), (P_length, P_signs), hM)) → Wa E yX5_spread cX5_spread 5 (some .int) 3 res 19 [(0, .ref (eA E 0)), (1, .int v1_19), (2, .int v2_4), (3, .int v3_19)] [] ((X_method, X_refusedBad, X_refusedFull), (R_count, R_changes, R_F), (L_sample, L_plays, L_small, L_large, L_u, L_v, L_left, L_firsts, L_seconds, L_winners), (T_sample, T_plays, T_small, T_large, T_u, T_v, T_left, T_firsts, T_seconds, T_winners), (K_atChanges, K_atMethod, K_seen), (S_length, S_sentences, S_at, S_units, S_text, S_verbs, S_numbers), (P_length, P_signs), hM) := by
  intro n9
  induction n9 with
  | zero =>
    intro v1_19 v3_19 qL hf
    exact nomatch (show (none : Option (Int32)) = some qL from hf)
  | succ n9 ih =>
    intro v1_19 v3_19 qL hf kx0
    rw [lp_X5_spread_19] at hf
    refine r_iload_n dX5_spread_19 3 rfl ?_
    refine r_aload_n dX5_spread_20 0 rfl ?_
    refine r_get (v := .ref (eA E 1)) in_X5 0 ga_X rfl 0 (by decide) wd_214 rfl rfl dX5_spread_21 ?_
    refine r_getN (v := .int R_count) in_X3 1 ga_R rfl 1 (by decide) wn_100 rfl rfl dX5_spread_24 ?_
    refine r_icmp_ge (tgt := 86) dX5_spread_27 (by decide) (fun c2 => ?_) (fun c2 => ?_)
    · have hf := hf_pos c2 hf
      have e9 := Option.some.inj hf
      subst e9
      exact (Wa.sub [0, 1, 2] rfl kx0)
    · have hf := hf_neg c2 hf
      refine r_aload_n dX5_spread_30 0 rfl ?_
      refine r_get (v := .ref (eA E 8)) in_X5 0 ga_X rfl 1 (by decide) wd_215 rfl rfl dX5_spread_31 ?_
      refine r_iload_n dX5_spread_34 2 rfl ?_
      obtain ⟨q3, hq3, hf⟩ := hf_bind hf
      refine r_callVi (As := [.int v2_4]) (b := (eA E 8)) (st := []) (s_X0_holds_L hq3) (by decide) (by decide) wd_322 wd_323 wd_324 wd_70 wd_325 hy_X0_holds (Rc.obj 8 ga_L rfl) rfl (Nat.le_of_ble_eq_true rfl) dX5_spread_35 ?_
      obtain ⟨q5, hq5, hf⟩ := hf_bind hf
      have kj5 : Wa E yX5_spread cX5_spread 5 (some .int) 3 res 80 [(0, .ref (eA E 0)), (1, .int q5), (2, .int v2_4), (3, .int v3_19)] [] ((X_method, X_refusedBad, X_refusedFull), (R_count, R_changes, R_F), (L_sample, L_plays, L_small, L_large, L_u, L_v, L_left, L_firsts, L_seconds, L_winners), (T_sample, T_plays, T_small, T_large, T_u, T_v, T_left, T_firsts, T_seconds, T_winners), (K_atChanges, K_atMethod, K_seen), (S_length, S_sentences, S_at, S_units, S_text, S_verbs, S_numbers), (P_length, P_signs), hM) := by
        refine r_iinc (v := (v3_19 + 1)) (lv2 := [(3, .int (v3_19 + 1)), (0, .ref (eA E 0)), (1, .int q5), (2, .int v2_4)]) dX5_spread_80 3 rfl rfl (by decide) rfl ?_
        refine r_goto (tgt := 19) dX5_spread_83 (by decide) ?_
        exact (Wa.sub [1, 2, 3, 0] rfl (ih _ _ _ hf kx0))
      have hf := hq5
      refine r_if_eq (tgt := 80) dX5_spread_38 (by decide) (fun c4 => ?_) (fun c4 => ?_)
      · have hf := hf_pos c4 hf
        have e9 := Option.some.inj hf
        subst e9
        exact kj5
      · have hf := hf_neg c4 hf
        refine r_aload_n dX5_spread_41 0 rfl ?_
        refine r_get (v := .ref (eA E 8)) in_X5 0 ga_X rfl 1 (by decide) wd_215 rfl rfl dX5_spread_42 ?_
        refine r_iload_n dX5_spread_45 3 rfl ?_
        obtain ⟨q6, hq6, hf⟩ := hf_bind hf
        refine r_callVi (As := [.int v3_19]) (b := (eA E 8)) (st := []) (s_X0_holds_L hq6) (by decide) (by decide) wd_322 wd_323 wd_324 wd_70 wd_325 hy_X0_holds (Rc.obj 8 ga_L rfl) rfl (Nat.le_of_ble_eq_true rfl) dX5_spread_46 ?_
        refine r_if_eq (tgt := 80) dX5_spread_49 (by decide) (fun c7 => ?_) (fun c7 => ?_)
        · have hf := hf_pos c7 hf
          have e9 := Option.some.inj hf
          subst e9
          exact kj5
        · have hf := hf_neg c7 hf
          refine r_aload_n dX5_spread_52 0 rfl ?_
          refine r_get (v := .ref (eA E 1)) in_X5 0 ga_X rfl 0 (by decide) wd_214 rfl rfl dX5_spread_53 ?_
          refine r_iload_n dX5_spread_56 2 rfl ?_
          refine r_iload_n dX5_spread_57 3 rfl ?_
          obtain ⟨q8, hq8, hf⟩ := hf_bind hf
          refine r_callVi (As := [.int v2_4, .int v3_19]) (b := (eA E 1)) (st := []) (s_X3_distance hq8) (by decide) (by decide) wd_482 wd_374 wd_375 wd_69 wd_376 hy_X3_distance (Rc.obj 1 ga_R rfl) rfl (Nat.le_of_ble_eq_true rfl) dX5_spread_58 ?_
          refine r_istore (lv2 := [(4, .int q8), (0, .ref (eA E 0)), (1, .int v1_19), (2, .int v2_4), (3, .int v3_19)]) dX5_spread_61 (by decide) rfl ?_
          refine r_iload_n dX5_spread_63 2 rfl ?_
          refine r_iconst (v := (-1)) dX5_spread_64 (by decide) ?_
          obtain ⟨q10, hq10, hf⟩ := hf_bind hf
          have kj10 : Wa E yX5_spread cX5_spread 5 (some .int) 3 res 79 [(0, .ref (eA E 0)), (2, .int v2_4), (3, .int v3_19)] [.int q10] ((X_method, X_refusedBad, X_refusedFull), (R_count, R_changes, R_F), (L_sample, L_plays, L_small, L_large, L_u, L_v, L_left, L_firsts, L_seconds, L_winners), (T_sample, T_plays, T_small, T_large, T_u, T_v, T_left, T_firsts, T_seconds, T_winners), (K_atChanges, K_atMethod, K_seen), (S_length, S_sentences, S_at, S_units, S_text, S_verbs, S_numbers), (P_length, P_signs), hM) := by
            refine r_istore_n (lv2 := [(1, .int q10), (0, .ref (eA E 0)), (2, .int v2_4), (3, .int v3_19)]) dX5_spread_79 rfl (by decide) rfl ?_
            have e9 := Option.some.inj hf
            subst e9
            exact (Wa.sub [1, 0, 2, 3] rfl kj5)
          have hf := hq10
          refine r_icmp_ne (tgt := 73) dX5_spread_65 (by decide) (fun c9 => ?_) (fun c9 => ?_)
          · have hf := hf_neg c9 hf
            refine r_iload_n dX5_spread_73 2 rfl ?_
            refine r_iload dX5_spread_74 0 rfl ?_
            refine r_mmin wd_483 wd_427 wd_75 wd_428 (by decide) (Nat.le_of_ble_eq_true rfl) dX5_spread_76 ?_
            have e9 := Option.some.inj hf
            subst e9
            exact (Wa.sub [1, 3, 4] rfl kj10)
          · have hf := hf_pos c9 hf
            refine r_iload dX5_spread_68 0 rfl ?_
            refine r_goto (tgt := 79) dX5_spread_70 (by decide) ?_
            have e9 := Option.some.inj hf
            subst e9
            exact (Wa.sub [1, 3, 4] rfl kj10)
set_option maxHeartbeats 4000000 in
set_option maxRecDepth 100000 in
theorem w_X5_spread_4 {E : EN} {res : Option Value × Hp} {hM : TM} {X_method : Int32} {X_refusedBad : Int32} {X_refusedFull : Int32} {R_count : Int32} {R_changes : Int32} {R_F : Nat → Nat → Int32} {L_sample : Int32} {L_plays : Int32} {L_small : Int32} {L_large : Int32} {L_u : Int32} {L_v : Int32} {L_left : Nat → Int32} {L_firsts : Nat → Int32} {L_seconds : Nat → Int32} {L_winners : Nat → Int32} {T_sample : Int32} {T_plays : Int32} {T_small : Int32} {T_large : Int32} {T_u : Int32} {T_v : Int32} {T_left : Nat → Int32} {T_firsts : Nat → Int32} {T_seconds : Nat → Int32} {T_winners : Nat → Int32} {K_atChanges : Int32} {K_atMethod : Int32} {K_seen : Nat → Int64} {S_length : Int32} {S_sentences : Int32} {S_at : Int32} {S_units : Int32} {S_text : Nat → Int32} {S_verbs : Nat → Int32} {S_numbers : Nat → Int32} {P_length : Int32} {P_signs : Nat → Int32} : ∀ (n9 : Nat) (v1_4 : Int32) (v2_4 : Int32) (qL : Int32), lp_X5_spread_4 R_count L_sample R_F n9 v1_4 v2_4 = some qL → (Wa E yX5_spread cX5_spread 5 (some .int) 3 res 92 [(1, .int qL)] [] ((X_method, X_refusedBad, X_refusedFull), (R_count, R_changes, R_F), (L_sample, L_plays, L_small, L_large, L_u, L_v, L_left, L_firsts, L_seconds, L_winners), (T_sample, T_plays, T_small, T_large, T_u, T_v, T_left, T_firsts, T_seconds, T_winners), (K_atChanges, K_atMethod, K_seen), (S_length, S_sentences, S_at, S_units, S_text, S_verbs, S_numbers), (P_length, P_signs), hM)) → Wa E yX5_spread cX5_spread 5 (some .int) 3 res 4 [(0, .ref (eA E 0)), (1, .int v1_4), (2, .int v2_4)] [] ((X_method, X_refusedBad, X_refusedFull), (R_count, R_changes, R_F), (L_sample, L_plays, L_small, L_large, L_u, L_v, L_left, L_firsts, L_seconds, L_winners), (T_sample, T_plays, T_small, T_large, T_u, T_v, T_left, T_firsts, T_seconds, T_winners), (K_atChanges, K_atMethod, K_seen), (S_length, S_sentences, S_at, S_units, S_text, S_verbs, S_numbers), (P_length, P_signs), hM) := by
  intro n9
  induction n9 with
  | zero =>
    intro v1_4 v2_4 qL hf
    exact nomatch (show (none : Option (Int32)) = some qL from hf)
  | succ n9 ih =>
    intro v1_4 v2_4 qL hf kx0
    rw [lp_X5_spread_4] at hf
    refine r_iload_n dX5_spread_4 2 rfl ?_
    refine r_aload_n dX5_spread_5 0 rfl ?_
    refine r_get (v := .ref (eA E 1)) in_X5 0 ga_X rfl 0 (by decide) wd_214 rfl rfl dX5_spread_6 ?_
    refine r_getN (v := .int R_count) in_X3 1 ga_R rfl 1 (by decide) wn_100 rfl rfl dX5_spread_9 ?_
    refine r_icmp_ge (tgt := 92) dX5_spread_12 (by decide) (fun c1 => ?_) (fun c1 => ?_)
    · have hf := hf_pos c1 hf
      have e9 := Option.some.inj hf
      subst e9
      exact (Wa.sub [1] rfl kx0)
    · have hf := hf_neg c1 hf
      refine r_iload_n dX5_spread_15 2 rfl ?_
      refine r_iconst (v := 1) dX5_spread_16 (by decide) ?_
      refine r_iadd dX5_spread_17 ?_
      refine r_istore_n (lv2 := [(3, .int (v2_4 + 1)), (0, .ref (eA E 0)), (1, .int v1_4), (2, .int v2_4)]) dX5_spread_18 rfl (by decide) rfl ?_
      obtain ⟨q11, hq11, hf⟩ := hf_bind hf
      refine (Wa.sub [1, 2, 3, 0] rfl (w_X5_spread_19 _ _ _ _ hq11 ?_))
      refine r_iinc (v := (v2_4 + 1)) (lv2 := [(2, .int (v2_4 + 1)), (0, .ref (eA E 0)), (1, .int q11)]) dX5_spread_86 2 rfl rfl (by decide) rfl ?_
      refine r_goto (tgt := 4) dX5_spread_89 (by decide) ?_
      exact (Wa.sub [1, 2, 0] rfl (ih _ _ _ hf kx0))
set_option maxHeartbeats 4000000 in
set_option maxRecDepth 100000 in
theorem s_X5_spread {E : EN} {hM : TM} {X_method : Int32} {X_refusedBad : Int32} {X_refusedFull : Int32} {R_count : Int32} {R_changes : Int32} {R_F : Nat → Nat → Int32} {L_sample : Int32} {L_plays : Int32} {L_small : Int32} {L_large : Int32} {L_u : Int32} {L_v : Int32} {L_left : Nat → Int32} {L_firsts : Nat → Int32} {L_seconds : Nat → Int32} {L_winners : Nat → Int32} {T_sample : Int32} {T_plays : Int32} {T_small : Int32} {T_large : Int32} {T_u : Int32} {T_v : Int32} {T_left : Nat → Int32} {T_firsts : Nat → Int32} {T_seconds : Nat → Int32} {T_winners : Nat → Int32} {K_atChanges : Int32} {K_atMethod : Int32} {K_seen : Nat → Int64} {S_length : Int32} {S_sentences : Int32} {S_at : Int32} {S_units : Int32} {S_text : Nat → Int32} {S_verbs : Nat → Int32} {S_numbers : Nat → Int32} {P_length : Int32} {P_signs : Nat → Int32}  {qR : Int32} (hf : f_X5_spread R_count R_F L_sample = some qR) : Sem E yX5_spread cX5_spread 5 (some .int) 3 [.ref (eA E 0)] ((X_method, X_refusedBad, X_refusedFull), (R_count, R_changes, R_F), (L_sample, L_plays, L_small, L_large, L_u, L_v, L_left, L_firsts, L_seconds, L_winners), (T_sample, T_plays, T_small, T_large, T_u, T_v, T_left, T_firsts, T_seconds, T_winners), (K_atChanges, K_atMethod, K_seen), (S_length, S_sentences, S_at, S_units, S_text, S_verbs, S_numbers), (P_length, P_signs), hM) (some (.int qR), ((X_method, X_refusedBad, X_refusedFull), (R_count, R_changes, R_F), (L_sample, L_plays, L_small, L_large, L_u, L_v, L_left, L_firsts, L_seconds, L_winners), (T_sample, T_plays, T_small, T_large, T_u, T_v, T_left, T_firsts, T_seconds, T_winners), (K_atChanges, K_atMethod, K_seen), (S_length, S_sentences, S_at, S_units, S_text, S_verbs, S_numbers), (P_length, P_signs), hM)) := by
  refine Sem.mk (lv := [(0, .ref (eA E 0))]) (by decide) (Nat.le_of_ble_eq_true rfl) rfl ?_
  rw [f_X5_spread] at hf
  refine r_iconst (v := (-1)) dX5_spread_0 (by decide) ?_
  refine r_istore_n (lv2 := [(1, .int (-1)), (0, .ref (eA E 0))]) dX5_spread_1 rfl (by decide) rfl ?_
  refine r_iconst (v := 0) dX5_spread_2 (by decide) ?_
  refine r_istore_n (lv2 := [(2, .int 0), (1, .int (-1)), (0, .ref (eA E 0))]) dX5_spread_3 rfl (by decide) rfl ?_
  obtain ⟨q12, hq12, hf⟩ := hf_bind hf
  refine (Wa.sub [2, 1, 0] rfl (w_X5_spread_4 _ _ _ _ hq12 ?_))
  refine r_iload_n dX5_spread_92 0 rfl ?_
  have e9 := Option.some.inj hf
  subst e9
  exact r_iret rfl dX5_spread_93
-- DuelSamples.walksWith
def lp_X5_walksWith_6 (a2 : Int32) (R_count : Int32) (R_F : Nat → Nat → Int32) (X_method : Int32) (a1 : Int32) (a0 : Int32) : Nat → Int32 → Int32 → Int32 → Int32 → Int32 → Int32 → Int32 → Int32 → (Nat → Int32) → (Nat → Int32) → (Nat → Int32) → (Nat → Int32) → Option (Int32 × Int32 × Int32 × Int32 × Int32 × Int32 × Int32 × (Nat → Int32) × (Nat → Int32) × (Nat → Int32) × (Nat → Int32))
  | 0, _, _, _, _, _, _, _, _, _, _, _, _ => none
  | n9 + 1, v4_6, v5_6, T_sample_6, T_plays_6, T_small_6, T_large_6, T_u_6, T_v_6, T_left_6, T_firsts_6, T_seconds_6, T_winners_6 => if a2 ≤ v5_6 then some (v4_6, T_sample_6, T_plays_6, T_small_6, T_large_6, T_u_6, T_v_6, T_left_6, T_firsts_6, T_seconds_6, T_winners_6) else Option.bind (f_X0_run R_count R_F T_u_6 T_v_6 T_left_6 T_firsts_6 T_seconds_6 T_winners_6 X_method (a1 + v5_6)) (fun (q2 : Int32 × Int32 × Int32 × Int32 × Int32 × Int32 × (Nat → Int32) × (Nat → Int32) × (Nat → Int32) × (Nat → Int32)) => Option.bind (if (q2.1 &&& a0) = a0 then some (v4_6 + 1) else some v4_6) (fun (q4 : Int32) => lp_X5_walksWith_6 a2 R_count R_F X_method a1 a0 n9 q4 (v5_6 + 1) q2.1 q2.2.1 q2.2.2.1 q2.2.2.2.1 q2.2.2.2.2.1 q2.2.2.2.2.2.1 q2.2.2.2.2.2.2.1 q2.2.2.2.2.2.2.2.1 q2.2.2.2.2.2.2.2.2.1 q2.2.2.2.2.2.2.2.2.2))
def f_X5_walksWith (X_method : Int32) (R_count : Int32) (R_F : Nat → Nat → Int32) (T_sample : Int32) (T_plays : Int32) (T_small : Int32) (T_large : Int32) (T_u : Int32) (T_v : Int32) (T_left : Nat → Int32) (T_firsts : Nat → Int32) (T_seconds : Nat → Int32) (T_winners : Nat → Int32) (a0 : Int32) (a1 : Int32) (a2 : Int32) : Option (Int32 × Int32 × Int32 × Int32 × Int32 × Int32 × Int32 × (Nat → Int32) × (Nat → Int32) × (Nat → Int32) × (Nat → Int32)) := Option.bind (lp_X5_walksWith_6 a2 R_count R_F X_method a1 a0 FU 0 0 T_sample T_plays T_small T_large T_u T_v T_left T_firsts T_seconds T_winners) (fun (q5 : Int32 × Int32 × Int32 × Int32 × Int32 × Int32 × Int32 × (Nat → Int32) × (Nat → Int32) × (Nat → Int32) × (Nat → Int32)) => some (q5.1, q5.2.1, q5.2.2.1, q5.2.2.2.1, q5.2.2.2.2.1, q5.2.2.2.2.2.1, q5.2.2.2.2.2.2.1, q5.2.2.2.2.2.2.2.1, q5.2.2.2.2.2.2.2.2.1, q5.2.2.2.2.2.2.2.2.2.1, q5.2.2.2.2.2.2.2.2.2.2))
theorem hy_X5_walksWith : yX5_walksWith.cls ≠ "java/lang/invoke/MethodHandle" ∧ yX5_walksWith.cls ≠ "java/lang/invoke/VarHandle" ∧ (parseMethodDescriptor yX5_walksWith.desc).map (fun d => d.parameters.length) = some 3 := by decide +kernel
set_option maxHeartbeats 4000000 in
set_option maxRecDepth 100000 in
theorem w_X5_walksWith_6 {E : EN} {res : Option Value × Hp} {hM : TM} {a0 : Int32} {a1 : Int32} {a2 : Int32} {X_method : Int32} {X_refusedBad : Int32} {X_refusedFull : Int32} {R_count : Int32} {R_changes : Int32} {R_F : Nat → Nat → Int32} {L_sample : Int32} {L_plays : Int32} {L_small : Int32} {L_large : Int32} {L_u : Int32} {L_v : Int32} {L_left : Nat → Int32} {L_firsts : Nat → Int32} {L_seconds : Nat → Int32} {L_winners : Nat → Int32} {K_atChanges : Int32} {K_atMethod : Int32} {K_seen : Nat → Int64} {S_length : Int32} {S_sentences : Int32} {S_at : Int32} {S_units : Int32} {S_text : Nat → Int32} {S_verbs : Nat → Int32} {S_numbers : Nat → Int32} {P_length : Int32} {P_signs : Nat → Int32} : ∀ (n9 : Nat) (v4_6 : Int32) (v5_6 : Int32) (T_sample_6 : Int32) (T_plays_6 : Int32) (T_small_6 : Int32) (T_large_6 : Int32) (T_u_6 : Int32) (T_v_6 : Int32) (T_left_6 : Nat → Int32) (T_firsts_6 : Nat → Int32) (T_seconds_6 : Nat → Int32) (T_winners_6 : Nat → Int32) (qL : Int32 × Int32 × Int32 × Int32 × Int32 × Int32 × Int32 × (Nat → Int32) × (Nat → Int32) × (Nat → Int32) × (Nat → Int32)), lp_X5_walksWith_6 a2 R_count R_F X_method a1 a0 n9 v4_6 v5_6 T_sample_6 T_plays_6 T_small_6 T_large_6 T_u_6 T_v_6 T_left_6 T_firsts_6 T_seconds_6 T_winners_6 = some qL → (Wa E yX5_walksWith cX5_walksWith 6 (some .int) 6 res 53 [(4, .int qL.1)] [] ((X_method, X_refusedBad, X_refusedFull), (R_count, R_changes, R_F), (L_sample, L_plays, L_small, L_large, L_u, L_v, L_left, L_firsts, L_seconds, L_winners), (qL.2.1, qL.2.2.1, qL.2.2.2.1, qL.2.2.2.2.1, qL.2.2.2.2.2.1, qL.2.2.2.2.2.2.1, qL.2.2.2.2.2.2.2.1, qL.2.2.2.2.2.2.2.2.1, qL.2.2.2.2.2.2.2.2.2.1, qL.2.2.2.2.2.2.2.2.2.2), (K_atChanges, K_atMethod, K_seen), (S_length, S_sentences, S_at, S_units, S_text, S_verbs, S_numbers), (P_length, P_signs), hM)) → Wa E yX5_walksWith cX5_walksWith 6 (some .int) 6 res 6 [(0, .ref (eA E 0)), (1, .int a0), (2, .int a1), (3, .int a2), (4, .int v4_6), (5, .int v5_6)] [] ((X_method, X_refusedBad, X_refusedFull), (R_count, R_changes, R_F), (L_sample, L_plays, L_small, L_large, L_u, L_v, L_left, L_firsts, L_seconds, L_winners), (T_sample_6, T_plays_6, T_small_6, T_large_6, T_u_6, T_v_6, T_left_6, T_firsts_6, T_seconds_6, T_winners_6), (K_atChanges, K_atMethod, K_seen), (S_length, S_sentences, S_at, S_units, S_text, S_verbs, S_numbers), (P_length, P_signs), hM) := by
  intro n9
  induction n9 with
  | zero =>
    intro v4_6 v5_6 T_sample_6 T_plays_6 T_small_6 T_large_6 T_u_6 T_v_6 T_left_6 T_firsts_6 T_seconds_6 T_winners_6 qL hf
    exact nomatch (show (none : Option (Int32 × Int32 × Int32 × Int32 × Int32 × Int32 × Int32 × (Nat → Int32) × (Nat → Int32) × (Nat → Int32) × (Nat → Int32))) = some qL from hf)
  | succ n9 ih =>
    intro v4_6 v5_6 T_sample_6 T_plays_6 T_small_6 T_large_6 T_u_6 T_v_6 T_left_6 T_firsts_6 T_seconds_6 T_winners_6 qL hf kx0
    rw [lp_X5_walksWith_6] at hf
    refine r_iload dX5_walksWith_6 5 rfl ?_
    refine r_iload_n dX5_walksWith_8 3 rfl ?_
    refine r_icmp_ge (tgt := 53) dX5_walksWith_9 (by decide) (fun c1 => ?_) (fun c1 => ?_)
    · have hf := hf_pos c1 hf
      have e9 := Option.some.inj hf
      subst e9
      exact (Wa.sub [4] rfl kx0)
    · have hf := hf_neg c1 hf
      refine r_aload_n dX5_walksWith_12 0 rfl ?_
      refine r_get (v := .ref (eA E 13)) in_X5 0 ga_X rfl 2 (by decide) wd_216 rfl rfl dX5_walksWith_13 ?_
      refine r_aload_n dX5_walksWith_16 0 rfl ?_
      refine r_get (v := .ref (eA E 1)) in_X5 0 ga_X rfl 0 (by decide) wd_214 rfl rfl dX5_walksWith_17 ?_
      refine r_aload_n dX5_walksWith_20 0 rfl ?_
      refine r_get (v := .int X_method) in_X5 0 ga_X rfl 6 (by decide) wd_220 rfl rfl dX5_walksWith_21 ?_
      refine r_iload_n dX5_walksWith_24 2 rfl ?_
      refine r_iload dX5_walksWith_25 5 rfl ?_
      refine r_iadd dX5_walksWith_27 ?_
      obtain ⟨q2, hq2, hf⟩ := hf_bind hf
      refine r_callVv (As := [.ref (eA E 1), .int X_method, .int (a1 + v5_6)]) (b := (eA E 13)) (st := []) (s_X0_run_T hq2) (by decide) (by decide) wd_347 wd_348 wd_349 wd_70 wd_350 hy_X0_run (Rc.obj 13 ga_T rfl) rfl (Nat.le_of_ble_eq_true rfl) dX5_walksWith_28 ?_
      refine r_aload_n dX5_walksWith_31 0 rfl ?_
      refine r_get (v := .ref (eA E 13)) in_X5 0 ga_X rfl 2 (by decide) wd_216 rfl rfl dX5_walksWith_32 ?_
      refine r_getN (v := .int q2.1) in_X0 13 ga_T rfl 4 (by decide) wn_123 rfl rfl dX5_walksWith_35 ?_
      refine r_iload_n dX5_walksWith_38 1 rfl ?_
      refine r_iand dX5_walksWith_39 ?_
      refine r_iload_n dX5_walksWith_40 1 rfl ?_
      obtain ⟨q4, hq4, hf⟩ := hf_bind hf
      have kj4 : Wa E yX5_walksWith cX5_walksWith 6 (some .int) 6 res 47 [(0, .ref (eA E 0)), (1, .int a0), (2, .int a1), (3, .int a2), (4, .int q4), (5, .int v5_6)] [] ((X_method, X_refusedBad, X_refusedFull), (R_count, R_changes, R_F), (L_sample, L_plays, L_small, L_large, L_u, L_v, L_left, L_firsts, L_seconds, L_winners), (q2.1, q2.2.1, q2.2.2.1, q2.2.2.2.1, q2.2.2.2.2.1, q2.2.2.2.2.2.1, q2.2.2.2.2.2.2.1, q2.2.2.2.2.2.2.2.1, q2.2.2.2.2.2.2.2.2.1, q2.2.2.2.2.2.2.2.2.2), (K_atChanges, K_atMethod, K_seen), (S_length, S_sentences, S_at, S_units, S_text, S_verbs, S_numbers), (P_length, P_signs), hM) := by
        refine r_iinc (v := (v5_6 + 1)) (lv2 := [(5, .int (v5_6 + 1)), (0, .ref (eA E 0)), (1, .int a0), (2, .int a1), (3, .int a2), (4, .int q4)]) dX5_walksWith_47 5 rfl rfl (by decide) rfl ?_
        refine r_goto (tgt := 6) dX5_walksWith_50 (by decide) ?_
        exact (Wa.sub [1, 2, 3, 4, 5, 0] rfl (ih _ _ _ _ _ _ _ _ _ _ _ _ _ hf kx0))
      have hf := hq4
      refine r_icmp_ne (tgt := 47) dX5_walksWith_41 (by decide) (fun c3 => ?_) (fun c3 => ?_)
      · have hf := hf_neg c3 hf
        have e9 := Option.some.inj hf
        subst e9
        exact kj4
      · have hf := hf_pos c3 hf
        refine r_iinc (v := (v4_6 + 1)) (lv2 := [(4, .int (v4_6 + 1)), (0, .ref (eA E 0)), (1, .int a0), (2, .int a1), (3, .int a2), (5, .int v5_6)]) dX5_walksWith_44 4 rfl rfl (by decide) rfl ?_
        have e9 := Option.some.inj hf
        subst e9
        exact (Wa.sub [1, 2, 3, 4, 0, 5] rfl kj4)
set_option maxHeartbeats 4000000 in
set_option maxRecDepth 100000 in
theorem s_X5_walksWith {E : EN} {hM : TM} {X_method : Int32} {X_refusedBad : Int32} {X_refusedFull : Int32} {R_count : Int32} {R_changes : Int32} {R_F : Nat → Nat → Int32} {L_sample : Int32} {L_plays : Int32} {L_small : Int32} {L_large : Int32} {L_u : Int32} {L_v : Int32} {L_left : Nat → Int32} {L_firsts : Nat → Int32} {L_seconds : Nat → Int32} {L_winners : Nat → Int32} {T_sample : Int32} {T_plays : Int32} {T_small : Int32} {T_large : Int32} {T_u : Int32} {T_v : Int32} {T_left : Nat → Int32} {T_firsts : Nat → Int32} {T_seconds : Nat → Int32} {T_winners : Nat → Int32} {K_atChanges : Int32} {K_atMethod : Int32} {K_seen : Nat → Int64} {S_length : Int32} {S_sentences : Int32} {S_at : Int32} {S_units : Int32} {S_text : Nat → Int32} {S_verbs : Nat → Int32} {S_numbers : Nat → Int32} {P_length : Int32} {P_signs : Nat → Int32} {a0 : Int32} {a1 : Int32} {a2 : Int32} {qR : Int32 × Int32 × Int32 × Int32 × Int32 × Int32 × Int32 × (Nat → Int32) × (Nat → Int32) × (Nat → Int32) × (Nat → Int32)} (hf : f_X5_walksWith X_method R_count R_F T_sample T_plays T_small T_large T_u T_v T_left T_firsts T_seconds T_winners a0 a1 a2 = some qR) : Sem E yX5_walksWith cX5_walksWith 6 (some .int) 6 [.ref (eA E 0), .int a0, .int a1, .int a2] ((X_method, X_refusedBad, X_refusedFull), (R_count, R_changes, R_F), (L_sample, L_plays, L_small, L_large, L_u, L_v, L_left, L_firsts, L_seconds, L_winners), (T_sample, T_plays, T_small, T_large, T_u, T_v, T_left, T_firsts, T_seconds, T_winners), (K_atChanges, K_atMethod, K_seen), (S_length, S_sentences, S_at, S_units, S_text, S_verbs, S_numbers), (P_length, P_signs), hM) (some (.int qR.1), ((X_method, X_refusedBad, X_refusedFull), (R_count, R_changes, R_F), (L_sample, L_plays, L_small, L_large, L_u, L_v, L_left, L_firsts, L_seconds, L_winners), (qR.2.1, qR.2.2.1, qR.2.2.2.1, qR.2.2.2.2.1, qR.2.2.2.2.2.1, qR.2.2.2.2.2.2.1, qR.2.2.2.2.2.2.2.1, qR.2.2.2.2.2.2.2.2.1, qR.2.2.2.2.2.2.2.2.2.1, qR.2.2.2.2.2.2.2.2.2.2), (K_atChanges, K_atMethod, K_seen), (S_length, S_sentences, S_at, S_units, S_text, S_verbs, S_numbers), (P_length, P_signs), hM)) := by
  refine Sem.mk (lv := [(0, .ref (eA E 0)), (1, .int a0), (2, .int a1), (3, .int a2)]) (by decide) (Nat.le_of_ble_eq_true rfl) rfl ?_
  rw [f_X5_walksWith] at hf
  refine r_iconst (v := 0) dX5_walksWith_0 (by decide) ?_
  refine r_istore (lv2 := [(4, .int 0), (0, .ref (eA E 0)), (1, .int a0), (2, .int a1), (3, .int a2)]) dX5_walksWith_1 (by decide) rfl ?_
  refine r_iconst (v := 0) dX5_walksWith_3 (by decide) ?_
  refine r_istore (lv2 := [(5, .int 0), (4, .int 0), (0, .ref (eA E 0)), (1, .int a0), (2, .int a1), (3, .int a2)]) dX5_walksWith_4 (by decide) rfl ?_
  obtain ⟨q5, hq5, hf⟩ := hf_bind hf
  refine (Wa.sub [2, 3, 4, 5, 1, 0] rfl (w_X5_walksWith_6 _ _ _ _ _ _ _ _ _ _ _ _ _ _ hq5 ?_))
  refine r_iload dX5_walksWith_53 0 rfl ?_
  have e9 := Option.some.inj hf
  subst e9
  exact r_iret rfl dX5_walksWith_55
-- DuelSamples.often
def f_X5_often (X_method : Int32) (X_refusedBad : Int32) (X_refusedFull : Int32) (R_count : Int32) (R_F : Nat → Nat → Int32) (T_sample : Int32) (T_plays : Int32) (T_small : Int32) (T_large : Int32) (T_u : Int32) (T_v : Int32) (T_left : Nat → Int32) (T_firsts : Nat → Int32) (T_seconds : Nat → Int32) (T_winners : Nat → Int32) (a0 : Int32) (a1 : Int32) (a2 : Int32) : Option (Int32 × Int32 × Int32 × Int32 × Int32 × Int32 × Int32 × Int32 × Int32 × (Nat → Int32) × (Nat → Int32) × (Nat → Int32) × (Nat → Int32)) := Option.bind (f_X3_has R_count a0) (fun (q1 : Int32) => if q1 = 0 then Option.bind (f_X5_refuse X_refusedBad X_refusedFull (-2)) (fun (q3 : Int32 × Int32 × Int32) => some (q3.1, q3.2.1, q3.2.2, T_sample, T_plays, T_small, T_large, T_u, T_v, T_left, T_firsts, T_seconds, T_winners)) else Option.bind (f_X5_areSeeds a1 a2) (fun (q4 : Int32) => if q4 = 0 then Option.bind (f_X5_refuse X_refusedBad X_refusedFull (-2)) (fun (q7 : Int32 × Int32 × Int32) => some (q7.1, q7.2.1, q7.2.2, T_sample, T_plays, T_small, T_large, T_u, T_v, T_left, T_firsts, T_seconds, T_winners)) else Option.bind (f_X5_walksWith X_method R_count R_F T_sample T_plays T_small T_large T_u T_v T_left T_firsts T_seconds T_winners (1 <<< (a0 &&& 31)) a1 a2) (fun (q6 : Int32 × Int32 × Int32 × Int32 × Int32 × Int32 × Int32 × (Nat → Int32) × (Nat → Int32) × (Nat → Int32) × (Nat → Int32)) => some (q6.1, X_refusedBad, X_refusedFull, q6.2.1, q6.2.2.1, q6.2.2.2.1, q6.2.2.2.2.1, q6.2.2.2.2.2.1, q6.2.2.2.2.2.2.1, q6.2.2.2.2.2.2.2.1, q6.2.2.2.2.2.2.2.2.1, q6.2.2.2.2.2.2.2.2.2.1, q6.2.2.2.2.2.2.2.2.2.2))))
theorem hy_X5_often : yX5_often.cls ≠ "java/lang/invoke/MethodHandle" ∧ yX5_often.cls ≠ "java/lang/invoke/VarHandle" ∧ (parseMethodDescriptor yX5_often.desc).map (fun d => d.parameters.length) = some 3 := by decide +kernel
set_option maxHeartbeats 4000000 in
set_option maxRecDepth 100000 in
theorem s_X5_often {E : EN} {hM : TM} {X_method : Int32} {X_refusedBad : Int32} {X_refusedFull : Int32} {R_count : Int32} {R_changes : Int32} {R_F : Nat → Nat → Int32} {L_sample : Int32} {L_plays : Int32} {L_small : Int32} {L_large : Int32} {L_u : Int32} {L_v : Int32} {L_left : Nat → Int32} {L_firsts : Nat → Int32} {L_seconds : Nat → Int32} {L_winners : Nat → Int32} {T_sample : Int32} {T_plays : Int32} {T_small : Int32} {T_large : Int32} {T_u : Int32} {T_v : Int32} {T_left : Nat → Int32} {T_firsts : Nat → Int32} {T_seconds : Nat → Int32} {T_winners : Nat → Int32} {K_atChanges : Int32} {K_atMethod : Int32} {K_seen : Nat → Int64} {S_length : Int32} {S_sentences : Int32} {S_at : Int32} {S_units : Int32} {S_text : Nat → Int32} {S_verbs : Nat → Int32} {S_numbers : Nat → Int32} {P_length : Int32} {P_signs : Nat → Int32} {a0 : Int32} {a1 : Int32} {a2 : Int32} {qR : Int32 × Int32 × Int32 × Int32 × Int32 × Int32 × Int32 × Int32 × Int32 × (Nat → Int32) × (Nat → Int32) × (Nat → Int32) × (Nat → Int32)} (hf : f_X5_often X_method X_refusedBad X_refusedFull R_count R_F T_sample T_plays T_small T_large T_u T_v T_left T_firsts T_seconds T_winners a0 a1 a2 = some qR) : Sem E yX5_often cX5_often 4 (some .int) 7 [.ref (eA E 0), .int a0, .int a1, .int a2] ((X_method, X_refusedBad, X_refusedFull), (R_count, R_changes, R_F), (L_sample, L_plays, L_small, L_large, L_u, L_v, L_left, L_firsts, L_seconds, L_winners), (T_sample, T_plays, T_small, T_large, T_u, T_v, T_left, T_firsts, T_seconds, T_winners), (K_atChanges, K_atMethod, K_seen), (S_length, S_sentences, S_at, S_units, S_text, S_verbs, S_numbers), (P_length, P_signs), hM) (some (.int qR.1), ((X_method, qR.2.1, qR.2.2.1), (R_count, R_changes, R_F), (L_sample, L_plays, L_small, L_large, L_u, L_v, L_left, L_firsts, L_seconds, L_winners), (qR.2.2.2.1, qR.2.2.2.2.1, qR.2.2.2.2.2.1, qR.2.2.2.2.2.2.1, qR.2.2.2.2.2.2.2.1, qR.2.2.2.2.2.2.2.2.1, qR.2.2.2.2.2.2.2.2.2.1, qR.2.2.2.2.2.2.2.2.2.2.1, qR.2.2.2.2.2.2.2.2.2.2.2.1, qR.2.2.2.2.2.2.2.2.2.2.2.2), (K_atChanges, K_atMethod, K_seen), (S_length, S_sentences, S_at, S_units, S_text, S_verbs, S_numbers), (P_length, P_signs), hM)) := by
  refine Sem.mk (lv := [(0, .ref (eA E 0)), (1, .int a0), (2, .int a1), (3, .int a2)]) (by decide) (Nat.le_of_ble_eq_true rfl) rfl ?_
  rw [f_X5_often] at hf
  refine r_aload_n dX5_often_0 0 rfl ?_
  refine r_get (v := .ref (eA E 1)) in_X5 0 ga_X rfl 0 (by decide) wd_214 rfl rfl dX5_often_1 ?_
  refine r_iload_n dX5_often_4 1 rfl ?_
  obtain ⟨q1, hq1, hf⟩ := hf_bind hf
  refine r_callVi (As := [.int a0]) (b := (eA E 1)) (st := []) (s_X3_has hq1) (by decide) (by decide) wd_263 wd_264 wd_265 wd_69 wd_266 hy_X3_has (Rc.obj 1 ga_R rfl) rfl (Nat.le_of_ble_eq_true rfl) dX5_often_5 ?_
  refine r_if_eq (tgt := 19) dX5_often_8 (by decide) (fun c2 => ?_) (fun c2 => ?_)
  · have hf := hf_pos c2 hf
    refine r_aload_n dX5_often_19 0 rfl ?_
    refine r_bipush (v := (-2)) dX5_often_20 (by decide) ?_
    obtain ⟨q3, hq3, hf⟩ := hf_bind hf
    refine r_callVi (As := [.int (-2)]) (b := (eA E 0)) (st := []) (s_X5_refuse hq3) (by decide) (by decide) wd_251 wd_253 wd_0 wd_68 wd_254 hy_X5_refuse (Rc.obj 0 ga_X rfl) rfl (Nat.le_of_ble_eq_true rfl) dX5_often_22 ?_
    have e9 := Option.some.inj hf
    subst e9
    exact r_iret rfl dX5_often_25
  · have hf := hf_neg c2 hf
    refine r_iload_n dX5_often_11 2 rfl ?_
    refine r_iload_n dX5_often_12 3 rfl ?_
    obtain ⟨q4, hq4, hf⟩ := hf_bind hf
    refine r_callSi (As := [.int a1, .int a2]) (st := []) (s_X5_areSeeds hq4) (by decide) (by decide) wd_488 wd_489 wd_68 wd_490 hy_X5_areSeeds rfl (Nat.le_of_ble_eq_true rfl) dX5_often_13 ?_
    refine r_if_ne (tgt := 26) dX5_often_16 (by decide) (fun c5 => ?_) (fun c5 => ?_)
    · have hf := hf_neg c5 hf
      refine r_aload_n dX5_often_26 0 rfl ?_
      refine r_iconst (v := 1) dX5_often_27 (by decide) ?_
      refine r_iload_n dX5_often_28 1 rfl ?_
      refine r_ishl dX5_often_29 ?_
      refine r_iload_n dX5_often_30 2 rfl ?_
      refine r_iload_n dX5_often_31 3 rfl ?_
      obtain ⟨q6, hq6, hf⟩ := hf_bind hf
      refine r_callVi (As := [.int (1 <<< (a0 &&& 31)), .int a1, .int a2]) (b := (eA E 0)) (st := []) (s_X5_walksWith hq6) (by decide) (by decide) wd_492 wd_494 wd_15 wd_68 wd_495 hy_X5_walksWith (Rc.obj 0 ga_X rfl) rfl (Nat.le_of_ble_eq_true rfl) dX5_often_32 ?_
      have e9 := Option.some.inj hf
      subst e9
      exact r_iret rfl dX5_often_35
    · have hf := hf_pos c5 hf
      refine r_aload_n dX5_often_19 0 rfl ?_
      refine r_bipush (v := (-2)) dX5_often_20 (by decide) ?_
      obtain ⟨q7, hq7, hf⟩ := hf_bind hf
      refine r_callVi (As := [.int (-2)]) (b := (eA E 0)) (st := []) (s_X5_refuse hq7) (by decide) (by decide) wd_251 wd_253 wd_0 wd_68 wd_254 hy_X5_refuse (Rc.obj 0 ga_X rfl) rfl (Nat.le_of_ble_eq_true rfl) dX5_often_22 ?_
      have e9 := Option.some.inj hf
      subst e9
      exact r_iret rfl dX5_often_25
-- DuelSamples.both
def f_X5_both (X_method : Int32) (X_refusedBad : Int32) (X_refusedFull : Int32) (R_count : Int32) (R_F : Nat → Nat → Int32) (T_sample : Int32) (T_plays : Int32) (T_small : Int32) (T_large : Int32) (T_u : Int32) (T_v : Int32) (T_left : Nat → Int32) (T_firsts : Nat → Int32) (T_seconds : Nat → Int32) (T_winners : Nat → Int32) (a0 : Int32) (a1 : Int32) (a2 : Int32) (a3 : Int32) : Option (Int32 × Int32 × Int32 × Int32 × Int32 × Int32 × Int32 × Int32 × Int32 × (Nat → Int32) × (Nat → Int32) × (Nat → Int32) × (Nat → Int32)) := Option.bind (f_X3_has R_count a0) (fun (q1 : Int32) => if q1 = 0 then Option.bind (f_X5_refuse X_refusedBad X_refusedFull (-2)) (fun (q3 : Int32 × Int32 × Int32) => some (q3.1, q3.2.1, q3.2.2, T_sample, T_plays, T_small, T_large, T_u, T_v, T_left, T_firsts, T_seconds, T_winners)) else Option.bind (f_X3_has R_count a1) (fun (q4 : Int32) => if q4 = 0 then Option.bind (f_X5_refuse X_refusedBad X_refusedFull (-2)) (fun (q6 : Int32 × Int32 × Int32) => some (q6.1, q6.2.1, q6.2.2, T_sample, T_plays, T_small, T_large, T_u, T_v, T_left, T_firsts, T_seconds, T_winners)) else if a0 = a1 then Option.bind (f_X5_refuse X_refusedBad X_refusedFull (-2)) (fun (q8 : Int32 × Int32 × Int32) => some (q8.1, q8.2.1, q8.2.2, T_sample, T_plays, T_small, T_large, T_u, T_v, T_left, T_firsts, T_seconds, T_winners)) else Option.bind (f_X5_areSeeds a2 a3) (fun (q9 : Int32) => if q9 = 0 then Option.bind (f_X5_refuse X_refusedBad X_refusedFull (-2)) (fun (q12 : Int32 × Int32 × Int32) => some (q12.1, q12.2.1, q12.2.2, T_sample, T_plays, T_small, T_large, T_u, T_v, T_left, T_firsts, T_seconds, T_winners)) else Option.bind (f_X5_walksWith X_method R_count R_F T_sample T_plays T_small T_large T_u T_v T_left T_firsts T_seconds T_winners ((1 <<< (a0 &&& 31)) ||| (1 <<< (a1 &&& 31))) a2 a3) (fun (q11 : Int32 × Int32 × Int32 × Int32 × Int32 × Int32 × Int32 × (Nat → Int32) × (Nat → Int32) × (Nat → Int32) × (Nat → Int32)) => some (q11.1, X_refusedBad, X_refusedFull, q11.2.1, q11.2.2.1, q11.2.2.2.1, q11.2.2.2.2.1, q11.2.2.2.2.2.1, q11.2.2.2.2.2.2.1, q11.2.2.2.2.2.2.2.1, q11.2.2.2.2.2.2.2.2.1, q11.2.2.2.2.2.2.2.2.2.1, q11.2.2.2.2.2.2.2.2.2.2)))))
theorem hy_X5_both : yX5_both.cls ≠ "java/lang/invoke/MethodHandle" ∧ yX5_both.cls ≠ "java/lang/invoke/VarHandle" ∧ (parseMethodDescriptor yX5_both.desc).map (fun d => d.parameters.length) = some 4 := by decide +kernel
set_option maxHeartbeats 4000000 in
set_option maxRecDepth 100000 in
theorem s_X5_both {E : EN} {hM : TM} {X_method : Int32} {X_refusedBad : Int32} {X_refusedFull : Int32} {R_count : Int32} {R_changes : Int32} {R_F : Nat → Nat → Int32} {L_sample : Int32} {L_plays : Int32} {L_small : Int32} {L_large : Int32} {L_u : Int32} {L_v : Int32} {L_left : Nat → Int32} {L_firsts : Nat → Int32} {L_seconds : Nat → Int32} {L_winners : Nat → Int32} {T_sample : Int32} {T_plays : Int32} {T_small : Int32} {T_large : Int32} {T_u : Int32} {T_v : Int32} {T_left : Nat → Int32} {T_firsts : Nat → Int32} {T_seconds : Nat → Int32} {T_winners : Nat → Int32} {K_atChanges : Int32} {K_atMethod : Int32} {K_seen : Nat → Int64} {S_length : Int32} {S_sentences : Int32} {S_at : Int32} {S_units : Int32} {S_text : Nat → Int32} {S_verbs : Nat → Int32} {S_numbers : Nat → Int32} {P_length : Int32} {P_signs : Nat → Int32} {a0 : Int32} {a1 : Int32} {a2 : Int32} {a3 : Int32} {qR : Int32 × Int32 × Int32 × Int32 × Int32 × Int32 × Int32 × Int32 × Int32 × (Nat → Int32) × (Nat → Int32) × (Nat → Int32) × (Nat → Int32)} (hf : f_X5_both X_method X_refusedBad X_refusedFull R_count R_F T_sample T_plays T_small T_large T_u T_v T_left T_firsts T_seconds T_winners a0 a1 a2 a3 = some qR) : Sem E yX5_both cX5_both 5 (some .int) 7 [.ref (eA E 0), .int a0, .int a1, .int a2, .int a3] ((X_method, X_refusedBad, X_refusedFull), (R_count, R_changes, R_F), (L_sample, L_plays, L_small, L_large, L_u, L_v, L_left, L_firsts, L_seconds, L_winners), (T_sample, T_plays, T_small, T_large, T_u, T_v, T_left, T_firsts, T_seconds, T_winners), (K_atChanges, K_atMethod, K_seen), (S_length, S_sentences, S_at, S_units, S_text, S_verbs, S_numbers), (P_length, P_signs), hM) (some (.int qR.1), ((X_method, qR.2.1, qR.2.2.1), (R_count, R_changes, R_F), (L_sample, L_plays, L_small, L_large, L_u, L_v, L_left, L_firsts, L_seconds, L_winners), (qR.2.2.2.1, qR.2.2.2.2.1, qR.2.2.2.2.2.1, qR.2.2.2.2.2.2.1, qR.2.2.2.2.2.2.2.1, qR.2.2.2.2.2.2.2.2.1, qR.2.2.2.2.2.2.2.2.2.1, qR.2.2.2.2.2.2.2.2.2.2.1, qR.2.2.2.2.2.2.2.2.2.2.2.1, qR.2.2.2.2.2.2.2.2.2.2.2.2), (K_atChanges, K_atMethod, K_seen), (S_length, S_sentences, S_at, S_units, S_text, S_verbs, S_numbers), (P_length, P_signs), hM)) := by
  refine Sem.mk (lv := [(0, .ref (eA E 0)), (1, .int a0), (2, .int a1), (3, .int a2), (4, .int a3)]) (by decide) (Nat.le_of_ble_eq_true rfl) rfl ?_
  rw [f_X5_both] at hf
  refine r_aload_n dX5_both_0 0 rfl ?_
  refine r_get (v := .ref (eA E 1)) in_X5 0 ga_X rfl 0 (by decide) wd_214 rfl rfl dX5_both_1 ?_
  refine r_iload_n dX5_both_4 1 rfl ?_
  obtain ⟨q1, hq1, hf⟩ := hf_bind hf
  refine r_callVi (As := [.int a0]) (b := (eA E 1)) (st := []) (s_X3_has hq1) (by decide) (by decide) wd_263 wd_264 wd_265 wd_69 wd_266 hy_X3_has (Rc.obj 1 ga_R rfl) rfl (Nat.le_of_ble_eq_true rfl) dX5_both_5 ?_
  refine r_if_eq (tgt := 36) dX5_both_8 (by decide) (fun c2 => ?_) (fun c2 => ?_)
  · have hf := hf_pos c2 hf
    refine r_aload_n dX5_both_36 0 rfl ?_
    refine r_bipush (v := (-2)) dX5_both_37 (by decide) ?_
    obtain ⟨q3, hq3, hf⟩ := hf_bind hf
    refine r_callVi (As := [.int (-2)]) (b := (eA E 0)) (st := []) (s_X5_refuse hq3) (by decide) (by decide) wd_251 wd_253 wd_0 wd_68 wd_254 hy_X5_refuse (Rc.obj 0 ga_X rfl) rfl (Nat.le_of_ble_eq_true rfl) dX5_both_39 ?_
    have e9 := Option.some.inj hf
    subst e9
    exact r_iret rfl dX5_both_42
  · have hf := hf_neg c2 hf
    refine r_aload_n dX5_both_11 0 rfl ?_
    refine r_get (v := .ref (eA E 1)) in_X5 0 ga_X rfl 0 (by decide) wd_214 rfl rfl dX5_both_12 ?_
    refine r_iload_n dX5_both_15 2 rfl ?_
    obtain ⟨q4, hq4, hf⟩ := hf_bind hf
    refine r_callVi (As := [.int a1]) (b := (eA E 1)) (st := []) (s_X3_has hq4) (by decide) (by decide) wd_263 wd_264 wd_265 wd_69 wd_266 hy_X3_has (Rc.obj 1 ga_R rfl) rfl (Nat.le_of_ble_eq_true rfl) dX5_both_16 ?_
    refine r_if_eq (tgt := 36) dX5_both_19 (by decide) (fun c5 => ?_) (fun c5 => ?_)
    · have hf := hf_pos c5 hf
      refine r_aload_n dX5_both_36 0 rfl ?_
      refine r_bipush (v := (-2)) dX5_both_37 (by decide) ?_
      obtain ⟨q6, hq6, hf⟩ := hf_bind hf
      refine r_callVi (As := [.int (-2)]) (b := (eA E 0)) (st := []) (s_X5_refuse hq6) (by decide) (by decide) wd_251 wd_253 wd_0 wd_68 wd_254 hy_X5_refuse (Rc.obj 0 ga_X rfl) rfl (Nat.le_of_ble_eq_true rfl) dX5_both_39 ?_
      have e9 := Option.some.inj hf
      subst e9
      exact r_iret rfl dX5_both_42
    · have hf := hf_neg c5 hf
      refine r_iload_n dX5_both_22 1 rfl ?_
      refine r_iload_n dX5_both_23 2 rfl ?_
      refine r_icmp_eq (tgt := 36) dX5_both_24 (by decide) (fun c7 => ?_) (fun c7 => ?_)
      · have hf := hf_pos c7 hf
        refine r_aload_n dX5_both_36 0 rfl ?_
        refine r_bipush (v := (-2)) dX5_both_37 (by decide) ?_
        obtain ⟨q8, hq8, hf⟩ := hf_bind hf
        refine r_callVi (As := [.int (-2)]) (b := (eA E 0)) (st := []) (s_X5_refuse hq8) (by decide) (by decide) wd_251 wd_253 wd_0 wd_68 wd_254 hy_X5_refuse (Rc.obj 0 ga_X rfl) rfl (Nat.le_of_ble_eq_true rfl) dX5_both_39 ?_
        have e9 := Option.some.inj hf
        subst e9
        exact r_iret rfl dX5_both_42
      · have hf := hf_neg c7 hf
        refine r_iload_n dX5_both_27 3 rfl ?_
        refine r_iload dX5_both_28 4 rfl ?_
        obtain ⟨q9, hq9, hf⟩ := hf_bind hf
        refine r_callSi (As := [.int a2, .int a3]) (st := []) (s_X5_areSeeds hq9) (by decide) (by decide) wd_488 wd_489 wd_68 wd_490 hy_X5_areSeeds rfl (Nat.le_of_ble_eq_true rfl) dX5_both_30 ?_
        refine r_if_ne (tgt := 43) dX5_both_33 (by decide) (fun c10 => ?_) (fun c10 => ?_)
        · have hf := hf_neg c10 hf
          refine r_aload_n dX5_both_43 0 rfl ?_
          refine r_iconst (v := 1) dX5_both_44 (by decide) ?_
          refine r_iload_n dX5_both_45 1 rfl ?_
          refine r_ishl dX5_both_46 ?_
          refine r_iconst (v := 1) dX5_both_47 (by decide) ?_
          refine r_iload_n dX5_both_48 2 rfl ?_
          refine r_ishl dX5_both_49 ?_
          refine r_ior dX5_both_50 ?_
          refine r_iload_n dX5_both_51 3 rfl ?_
          refine r_iload dX5_both_52 4 rfl ?_
          obtain ⟨q11, hq11, hf⟩ := hf_bind hf
          refine r_callVi (As := [.int ((1 <<< (a0 &&& 31)) ||| (1 <<< (a1 &&& 31))), .int a2, .int a3]) (b := (eA E 0)) (st := []) (s_X5_walksWith hq11) (by decide) (by decide) wd_492 wd_494 wd_15 wd_68 wd_495 hy_X5_walksWith (Rc.obj 0 ga_X rfl) rfl (Nat.le_of_ble_eq_true rfl) dX5_both_54 ?_
          have e9 := Option.some.inj hf
          subst e9
          exact r_iret rfl dX5_both_57
        · have hf := hf_pos c10 hf
          refine r_aload_n dX5_both_36 0 rfl ?_
          refine r_bipush (v := (-2)) dX5_both_37 (by decide) ?_
          obtain ⟨q12, hq12, hf⟩ := hf_bind hf
          refine r_callVi (As := [.int (-2)]) (b := (eA E 0)) (st := []) (s_X5_refuse hq12) (by decide) (by decide) wd_251 wd_253 wd_0 wd_68 wd_254 hy_X5_refuse (Rc.obj 0 ga_X rfl) rfl (Nat.le_of_ble_eq_true rfl) dX5_both_39 ?_
          have e9 := Option.some.inj hf
          subst e9
          exact r_iret rfl dX5_both_42
-- DuelSamples.best
def lp_X5_best_36 (a1 : Int32) (R_count : Int32) (R_F : Nat → Nat → Int32) (X_method : Int32) (a0 : Int32) : Nat → Int32 → Int64 → Int32 → Int32 → Int32 → Int32 → Int32 → Int32 → Int32 → (Nat → Int32) → (Nat → Int32) → (Nat → Int32) → (Nat → Int32) → Option (Int32 × Int64 × Int32 × Int32 × Int32 × Int32 × Int32 × Int32 × (Nat → Int32) × (Nat → Int32) × (Nat → Int32) × (Nat → Int32))
  | 0, _, _, _, _, _, _, _, _, _, _, _, _, _ => none
  | n9 + 1, v4_36, v5_36, v7_36, T_sample_36, T_plays_36, T_small_36, T_large_36, T_u_36, T_v_36, T_left_36, T_firsts_36, T_seconds_36, T_winners_36 => if a1 ≤ v7_36 then some (v4_36, v5_36, T_sample_36, T_plays_36, T_small_36, T_large_36, T_u_36, T_v_36, T_left_36, T_firsts_36, T_seconds_36, T_winners_36) else Option.bind (f_X0_run R_count R_F T_u_36 T_v_36 T_left_36 T_firsts_36 T_seconds_36 T_winners_36 X_method (a0 + v7_36)) (fun (q8 : Int32 × Int32 × Int32 × Int32 × Int32 × Int32 × (Nat → Int32) × (Nat → Int32) × (Nat → Int32) × (Nat → Int32)) => Option.bind (f_X3_miss R_count R_F q8.1) (fun (q9 : Int64) => Option.bind (if (lg_cmp v5_36 (-1)) = 0 then some ((a0 + v7_36), q9) else if 0 ≤ (lg_cmp q9 v5_36) then some (v4_36, v5_36) else some ((a0 + v7_36), q9)) (fun (q11 : Int32 × Int64) => lp_X5_best_36 a1 R_count R_F X_method a0 n9 q11.1 q11.2 (v7_36 + 1) q8.1 q8.2.1 q8.2.2.1 q8.2.2.2.1 q8.2.2.2.2.1 q8.2.2.2.2.2.1 q8.2.2.2.2.2.2.1 q8.2.2.2.2.2.2.2.1 q8.2.2.2.2.2.2.2.2.1 q8.2.2.2.2.2.2.2.2.2)))
def f_X5_best (X_method : Int32) (X_refusedBad : Int32) (X_refusedFull : Int32) (R_count : Int32) (R_F : Nat → Nat → Int32) (T_sample : Int32) (T_plays : Int32) (T_small : Int32) (T_large : Int32) (T_u : Int32) (T_v : Int32) (T_left : Nat → Int32) (T_firsts : Nat → Int32) (T_seconds : Nat → Int32) (T_winners : Nat → Int32) (a0 : Int32) (a1 : Int32) (a2 : Int32) : Option (Int64 × Int32 × Int32 × Int32 × Int32 × Int32 × Int32 × Int32 × Int32 × (Nat → Int32) × (Nat → Int32) × (Nat → Int32) × (Nat → Int32)) := Option.bind (f_X5_areSeeds a0 a1) (fun (q1 : Int32) => if q1 = 0 then Option.bind (f_X5_refuse X_refusedBad X_refusedFull (-2)) (fun (q3 : Int32 × Int32 × Int32) => some ((Int32.toInt64 q3.1), q3.2.1, q3.2.2, T_sample, T_plays, T_small, T_large, T_u, T_v, T_left, T_firsts, T_seconds, T_winners)) else if a2 < 0 then Option.bind (f_X5_refuse X_refusedBad X_refusedFull (-2)) (fun (q5 : Int32 × Int32 × Int32) => some ((Int32.toInt64 q5.1), q5.2.1, q5.2.2, T_sample, T_plays, T_small, T_large, T_u, T_v, T_left, T_firsts, T_seconds, T_winners)) else if a2 ≤ 1 then Option.bind (lp_X5_best_36 a1 R_count R_F X_method a0 FU a0 (-1) 0 T_sample T_plays T_small T_large T_u T_v T_left T_firsts T_seconds T_winners) (fun (q13 : Int32 × Int64 × Int32 × Int32 × Int32 × Int32 × Int32 × Int32 × (Nat → Int32) × (Nat → Int32) × (Nat → Int32) × (Nat → Int32)) => if a2 = 0 then some ((Int32.toInt64 q13.1), X_refusedBad, X_refusedFull, q13.2.2.1, q13.2.2.2.1, q13.2.2.2.2.1, q13.2.2.2.2.2.1, q13.2.2.2.2.2.2.1, q13.2.2.2.2.2.2.2.1, q13.2.2.2.2.2.2.2.2.1, q13.2.2.2.2.2.2.2.2.2.1, q13.2.2.2.2.2.2.2.2.2.2.1, q13.2.2.2.2.2.2.2.2.2.2.2) else some (q13.2.1, X_refusedBad, X_refusedFull, q13.2.2.1, q13.2.2.2.1, q13.2.2.2.2.1, q13.2.2.2.2.2.1, q13.2.2.2.2.2.2.1, q13.2.2.2.2.2.2.2.1, q13.2.2.2.2.2.2.2.2.1, q13.2.2.2.2.2.2.2.2.2.1, q13.2.2.2.2.2.2.2.2.2.2.1, q13.2.2.2.2.2.2.2.2.2.2.2)) else Option.bind (f_X5_refuse X_refusedBad X_refusedFull (-2)) (fun (q15 : Int32 × Int32 × Int32) => some ((Int32.toInt64 q15.1), q15.2.1, q15.2.2, T_sample, T_plays, T_small, T_large, T_u, T_v, T_left, T_firsts, T_seconds, T_winners)))
theorem hy_X5_best : yX5_best.cls ≠ "java/lang/invoke/MethodHandle" ∧ yX5_best.cls ≠ "java/lang/invoke/VarHandle" ∧ (parseMethodDescriptor yX5_best.desc).map (fun d => d.parameters.length) = some 3 := by decide +kernel
set_option maxHeartbeats 4000000 in
set_option maxRecDepth 100000 in
theorem w_X5_best_36 {E : EN} {res : Option Value × Hp} {hM : TM} {a0 : Int32} {a1 : Int32} {a2 : Int32} {X_method : Int32} {X_refusedBad : Int32} {X_refusedFull : Int32} {R_count : Int32} {R_changes : Int32} {R_F : Nat → Nat → Int32} {L_sample : Int32} {L_plays : Int32} {L_small : Int32} {L_large : Int32} {L_u : Int32} {L_v : Int32} {L_left : Nat → Int32} {L_firsts : Nat → Int32} {L_seconds : Nat → Int32} {L_winners : Nat → Int32} {K_atChanges : Int32} {K_atMethod : Int32} {K_seen : Nat → Int64} {S_length : Int32} {S_sentences : Int32} {S_at : Int32} {S_units : Int32} {S_text : Nat → Int32} {S_verbs : Nat → Int32} {S_numbers : Nat → Int32} {P_length : Int32} {P_signs : Nat → Int32} : ∀ (n9 : Nat) (v4_36 : Int32) (v5_36 : Int64) (v7_36 : Int32) (T_sample_36 : Int32) (T_plays_36 : Int32) (T_small_36 : Int32) (T_large_36 : Int32) (T_u_36 : Int32) (T_v_36 : Int32) (T_left_36 : Nat → Int32) (T_firsts_36 : Nat → Int32) (T_seconds_36 : Nat → Int32) (T_winners_36 : Nat → Int32) (qL : Int32 × Int64 × Int32 × Int32 × Int32 × Int32 × Int32 × Int32 × (Nat → Int32) × (Nat → Int32) × (Nat → Int32) × (Nat → Int32)), lp_X5_best_36 a1 R_count R_F X_method a0 n9 v4_36 v5_36 v7_36 T_sample_36 T_plays_36 T_small_36 T_large_36 T_u_36 T_v_36 T_left_36 T_firsts_36 T_seconds_36 T_winners_36 = some qL → (Wa E yX5_best cX5_best 10 (some .long) 6 res 110 [(3, .int a2), (4, .int qL.1), (5, .long qL.2.1)] [] ((X_method, X_refusedBad, X_refusedFull), (R_count, R_changes, R_F), (L_sample, L_plays, L_small, L_large, L_u, L_v, L_left, L_firsts, L_seconds, L_winners), (qL.2.2.1, qL.2.2.2.1, qL.2.2.2.2.1, qL.2.2.2.2.2.1, qL.2.2.2.2.2.2.1, qL.2.2.2.2.2.2.2.1, qL.2.2.2.2.2.2.2.2.1, qL.2.2.2.2.2.2.2.2.2.1, qL.2.2.2.2.2.2.2.2.2.2.1, qL.2.2.2.2.2.2.2.2.2.2.2), (K_atChanges, K_atMethod, K_seen), (S_length, S_sentences, S_at, S_units, S_text, S_verbs, S_numbers), (P_length, P_signs), hM)) → Wa E yX5_best cX5_best 10 (some .long) 6 res 36 [(0, .ref (eA E 0)), (1, .int a0), (2, .int a1), (3, .int a2), (4, .int v4_36), (5, .long v5_36), (7, .int v7_36)] [] ((X_method, X_refusedBad, X_refusedFull), (R_count, R_changes, R_F), (L_sample, L_plays, L_small, L_large, L_u, L_v, L_left, L_firsts, L_seconds, L_winners), (T_sample_36, T_plays_36, T_small_36, T_large_36, T_u_36, T_v_36, T_left_36, T_firsts_36, T_seconds_36, T_winners_36), (K_atChanges, K_atMethod, K_seen), (S_length, S_sentences, S_at, S_units, S_text, S_verbs, S_numbers), (P_length, P_signs), hM) := by
  intro n9
  induction n9 with
  | zero =>
    intro v4_36 v5_36 v7_36 T_sample_36 T_plays_36 T_small_36 T_large_36 T_u_36 T_v_36 T_left_36 T_firsts_36 T_seconds_36 T_winners_36 qL hf
    exact nomatch (show (none : Option (Int32 × Int64 × Int32 × Int32 × Int32 × Int32 × Int32 × Int32 × (Nat → Int32) × (Nat → Int32) × (Nat → Int32) × (Nat → Int32))) = some qL from hf)
  | succ n9 ih =>
    intro v4_36 v5_36 v7_36 T_sample_36 T_plays_36 T_small_36 T_large_36 T_u_36 T_v_36 T_left_36 T_firsts_36 T_seconds_36 T_winners_36 qL hf kx0
    rw [lp_X5_best_36] at hf
    refine r_iload dX5_best_36 6 rfl ?_
    refine r_iload_n dX5_best_38 2 rfl ?_
    refine r_icmp_ge (tgt := 110) dX5_best_39 (by decide) (fun c7 => ?_) (fun c7 => ?_)
    · have hf := hf_pos c7 hf
      have e9 := Option.some.inj hf
      subst e9
      exact (Wa.sub [3, 4, 5] rfl kx0)
    · have hf := hf_neg c7 hf
      refine r_aload_n dX5_best_42 0 rfl ?_
      refine r_get (v := .ref (eA E 13)) in_X5 0 ga_X rfl 2 (by decide) wd_216 rfl rfl dX5_best_43 ?_
      refine r_aload_n dX5_best_46 0 rfl ?_
      refine r_get (v := .ref (eA E 1)) in_X5 0 ga_X rfl 0 (by decide) wd_214 rfl rfl dX5_best_47 ?_
      refine r_aload_n dX5_best_50 0 rfl ?_
      refine r_get (v := .int X_method) in_X5 0 ga_X rfl 6 (by decide) wd_220 rfl rfl dX5_best_51 ?_
      refine r_iload_n dX5_best_54 1 rfl ?_
      refine r_iload dX5_best_55 6 rfl ?_
      refine r_iadd dX5_best_57 ?_
      obtain ⟨q8, hq8, hf⟩ := hf_bind hf
      refine r_callVv (As := [.ref (eA E 1), .int X_method, .int (a0 + v7_36)]) (b := (eA E 13)) (st := []) (s_X0_run_T hq8) (by decide) (by decide) wd_347 wd_348 wd_349 wd_70 wd_350 hy_X0_run (Rc.obj 13 ga_T rfl) rfl (Nat.le_of_ble_eq_true rfl) dX5_best_58 ?_
      refine r_aload_n dX5_best_61 0 rfl ?_
      refine r_get (v := .ref (eA E 1)) in_X5 0 ga_X rfl 0 (by decide) wd_214 rfl rfl dX5_best_62 ?_
      refine r_aload_n dX5_best_65 0 rfl ?_
      refine r_get (v := .ref (eA E 13)) in_X5 0 ga_X rfl 2 (by decide) wd_216 rfl rfl dX5_best_66 ?_
      refine r_getN (v := .int q8.1) in_X0 13 ga_T rfl 4 (by decide) wn_123 rfl rfl dX5_best_69 ?_
      obtain ⟨q9, hq9, hf⟩ := hf_bind hf
      refine r_callVl (As := [.int q8.1]) (b := (eA E 1)) (st := []) (s_X3_miss hq9) (by decide) (by decide) wd_464 wd_465 wd_466 wd_69 wd_467 hy_X3_miss (Rc.obj 1 ga_R rfl) rfl (Nat.le_of_ble_eq_true rfl) dX5_best_72 ?_
      refine r_lstore (lv2 := [(8, .long q9), (0, .ref (eA E 0)), (1, .int a0), (2, .int a1), (3, .int a2), (4, .int v4_36), (5, .long v5_36), (7, .int v7_36)]) dX5_best_75 (by decide) rfl ?_
      refine r_lload dX5_best_77 6 rfl ?_
      refine r_ldc2 (v := (-1)) wd_504 dX5_best_79 ?_
      refine r_lcmp dX5_best_82 ?_
      obtain ⟨q11, hq11, hf⟩ := hf_bind hf
      have kj11 : Wa E yX5_best cX5_best 10 (some .long) 6 res 104 [(0, .ref (eA E 0)), (1, .int a0), (2, .int a1), (3, .int a2), (4, .int q11.1), (5, .long q11.2), (7, .int v7_36)] [] ((X_method, X_refusedBad, X_refusedFull), (R_count, R_changes, R_F), (L_sample, L_plays, L_small, L_large, L_u, L_v, L_left, L_firsts, L_seconds, L_winners), (q8.1, q8.2.1, q8.2.2.1, q8.2.2.2.1, q8.2.2.2.2.1, q8.2.2.2.2.2.1, q8.2.2.2.2.2.2.1, q8.2.2.2.2.2.2.2.1, q8.2.2.2.2.2.2.2.2.1, q8.2.2.2.2.2.2.2.2.2), (K_atChanges, K_atMethod, K_seen), (S_length, S_sentences, S_at, S_units, S_text, S_verbs, S_numbers), (P_length, P_signs), hM) := by
        refine r_iinc (v := (v7_36 + 1)) (lv2 := [(7, .int (v7_36 + 1)), (0, .ref (eA E 0)), (1, .int a0), (2, .int a1), (3, .int a2), (4, .int q11.1), (5, .long q11.2)]) dX5_best_104 6 rfl rfl (by decide) rfl ?_
        refine r_goto (tgt := 36) dX5_best_107 (by decide) ?_
        exact (Wa.sub [1, 2, 3, 4, 5, 6, 0] rfl (ih _ _ _ _ _ _ _ _ _ _ _ _ _ _ hf kx0))
      have hf := hq11
      refine r_if_eq (tgt := 94) dX5_best_83 (by decide) (fun c10 => ?_) (fun c10 => ?_)
      · have hf := hf_pos c10 hf
        refine r_lload dX5_best_94 0 rfl ?_
        refine r_lstore (lv2 := [(5, .long q9), (8, .long q9), (0, .ref (eA E 0)), (1, .int a0), (2, .int a1), (3, .int a2), (4, .int v4_36), (7, .int v7_36)]) dX5_best_96 (by decide) rfl ?_
        refine r_iload_n dX5_best_98 3 rfl ?_
        refine r_iload dX5_best_99 7 rfl ?_
        refine r_iadd dX5_best_101 ?_
        refine r_istore (lv2 := [(4, .int (a0 + v7_36)), (5, .long q9), (8, .long q9), (0, .ref (eA E 0)), (1, .int a0), (2, .int a1), (3, .int a2), (7, .int v7_36)]) dX5_best_102 (by decide) rfl ?_
        have e9 := Option.some.inj hf
        subst e9
        exact (Wa.sub [3, 4, 5, 6, 0, 1, 7] rfl kj11)
      · have hf := hf_neg c10 hf
        refine r_lload dX5_best_86 0 rfl ?_
        refine r_lload dX5_best_88 6 rfl ?_
        refine r_lcmp dX5_best_90 ?_
        refine r_if_ge (tgt := 104) dX5_best_91 (by decide) (fun c12 => ?_) (fun c12 => ?_)
        · have hf := hf_pos c12 hf
          have e9 := Option.some.inj hf
          subst e9
          exact (Wa.sub [1, 2, 3, 4, 5, 6, 7] rfl kj11)
        · have hf := hf_neg c12 hf
          refine r_lload dX5_best_94 0 rfl ?_
          refine r_lstore (lv2 := [(5, .long q9), (8, .long q9), (0, .ref (eA E 0)), (1, .int a0), (2, .int a1), (3, .int a2), (4, .int v4_36), (7, .int v7_36)]) dX5_best_96 (by decide) rfl ?_
          refine r_iload_n dX5_best_98 3 rfl ?_
          refine r_iload dX5_best_99 7 rfl ?_
          refine r_iadd dX5_best_101 ?_
          refine r_istore (lv2 := [(4, .int (a0 + v7_36)), (5, .long q9), (8, .long q9), (0, .ref (eA E 0)), (1, .int a0), (2, .int a1), (3, .int a2), (7, .int v7_36)]) dX5_best_102 (by decide) rfl ?_
          have e9 := Option.some.inj hf
          subst e9
          exact (Wa.sub [3, 4, 5, 6, 0, 1, 7] rfl kj11)
set_option maxHeartbeats 4000000 in
set_option maxRecDepth 100000 in
theorem s_X5_best {E : EN} {hM : TM} {X_method : Int32} {X_refusedBad : Int32} {X_refusedFull : Int32} {R_count : Int32} {R_changes : Int32} {R_F : Nat → Nat → Int32} {L_sample : Int32} {L_plays : Int32} {L_small : Int32} {L_large : Int32} {L_u : Int32} {L_v : Int32} {L_left : Nat → Int32} {L_firsts : Nat → Int32} {L_seconds : Nat → Int32} {L_winners : Nat → Int32} {T_sample : Int32} {T_plays : Int32} {T_small : Int32} {T_large : Int32} {T_u : Int32} {T_v : Int32} {T_left : Nat → Int32} {T_firsts : Nat → Int32} {T_seconds : Nat → Int32} {T_winners : Nat → Int32} {K_atChanges : Int32} {K_atMethod : Int32} {K_seen : Nat → Int64} {S_length : Int32} {S_sentences : Int32} {S_at : Int32} {S_units : Int32} {S_text : Nat → Int32} {S_verbs : Nat → Int32} {S_numbers : Nat → Int32} {P_length : Int32} {P_signs : Nat → Int32} {a0 : Int32} {a1 : Int32} {a2 : Int32} {qR : Int64 × Int32 × Int32 × Int32 × Int32 × Int32 × Int32 × Int32 × Int32 × (Nat → Int32) × (Nat → Int32) × (Nat → Int32) × (Nat → Int32)} (hf : f_X5_best X_method X_refusedBad X_refusedFull R_count R_F T_sample T_plays T_small T_large T_u T_v T_left T_firsts T_seconds T_winners a0 a1 a2 = some qR) : Sem E yX5_best cX5_best 10 (some .long) 6 [.ref (eA E 0), .int a0, .int a1, .int a2] ((X_method, X_refusedBad, X_refusedFull), (R_count, R_changes, R_F), (L_sample, L_plays, L_small, L_large, L_u, L_v, L_left, L_firsts, L_seconds, L_winners), (T_sample, T_plays, T_small, T_large, T_u, T_v, T_left, T_firsts, T_seconds, T_winners), (K_atChanges, K_atMethod, K_seen), (S_length, S_sentences, S_at, S_units, S_text, S_verbs, S_numbers), (P_length, P_signs), hM) (some (.long qR.1), ((X_method, qR.2.1, qR.2.2.1), (R_count, R_changes, R_F), (L_sample, L_plays, L_small, L_large, L_u, L_v, L_left, L_firsts, L_seconds, L_winners), (qR.2.2.2.1, qR.2.2.2.2.1, qR.2.2.2.2.2.1, qR.2.2.2.2.2.2.1, qR.2.2.2.2.2.2.2.1, qR.2.2.2.2.2.2.2.2.1, qR.2.2.2.2.2.2.2.2.2.1, qR.2.2.2.2.2.2.2.2.2.2.1, qR.2.2.2.2.2.2.2.2.2.2.2.1, qR.2.2.2.2.2.2.2.2.2.2.2.2), (K_atChanges, K_atMethod, K_seen), (S_length, S_sentences, S_at, S_units, S_text, S_verbs, S_numbers), (P_length, P_signs), hM)) := by
  refine Sem.mk (lv := [(0, .ref (eA E 0)), (1, .int a0), (2, .int a1), (3, .int a2)]) (by decide) (Nat.le_of_ble_eq_true rfl) rfl ?_
  rw [f_X5_best] at hf
  refine r_iload_n dX5_best_0 1 rfl ?_
  refine r_iload_n dX5_best_1 2 rfl ?_
  obtain ⟨q1, hq1, hf⟩ := hf_bind hf
  refine r_callSi (As := [.int a0, .int a1]) (st := []) (s_X5_areSeeds hq1) (by decide) (by decide) wd_488 wd_489 wd_68 wd_490 hy_X5_areSeeds rfl (Nat.le_of_ble_eq_true rfl) dX5_best_2 ?_
  refine r_if_eq (tgt := 17) dX5_best_5 (by decide) (fun c2 => ?_) (fun c2 => ?_)
  · have hf := hf_pos c2 hf
    refine r_aload_n dX5_best_17 0 rfl ?_
    refine r_bipush (v := (-2)) dX5_best_18 (by decide) ?_
    obtain ⟨q3, hq3, hf⟩ := hf_bind hf
    refine r_callVi (As := [.int (-2)]) (b := (eA E 0)) (st := []) (s_X5_refuse hq3) (by decide) (by decide) wd_251 wd_253 wd_0 wd_68 wd_254 hy_X5_refuse (Rc.obj 0 ga_X rfl) rfl (Nat.le_of_ble_eq_true rfl) dX5_best_20 ?_
    refine r_i2l dX5_best_23 ?_
    have e9 := Option.some.inj hf
    subst e9
    exact r_lret rfl dX5_best_24
  · have hf := hf_neg c2 hf
    refine r_iload_n dX5_best_8 3 rfl ?_
    refine r_if_lt (tgt := 17) dX5_best_9 (by decide) (fun c4 => ?_) (fun c4 => ?_)
    · have hf := hf_pos c4 hf
      refine r_aload_n dX5_best_17 0 rfl ?_
      refine r_bipush (v := (-2)) dX5_best_18 (by decide) ?_
      obtain ⟨q5, hq5, hf⟩ := hf_bind hf
      refine r_callVi (As := [.int (-2)]) (b := (eA E 0)) (st := []) (s_X5_refuse hq5) (by decide) (by decide) wd_251 wd_253 wd_0 wd_68 wd_254 hy_X5_refuse (Rc.obj 0 ga_X rfl) rfl (Nat.le_of_ble_eq_true rfl) dX5_best_20 ?_
      refine r_i2l dX5_best_23 ?_
      have e9 := Option.some.inj hf
      subst e9
      exact r_lret rfl dX5_best_24
    · have hf := hf_neg c4 hf
      refine r_iload_n dX5_best_12 3 rfl ?_
      refine r_iconst (v := 1) dX5_best_13 (by decide) ?_
      refine r_icmp_le (tgt := 25) dX5_best_14 (by decide) (fun c6 => ?_) (fun c6 => ?_)
      · have hf := hf_pos c6 hf
        refine r_iload_n dX5_best_25 1 rfl ?_
        refine r_istore (lv2 := [(4, .int a0), (0, .ref (eA E 0)), (1, .int a0), (2, .int a1), (3, .int a2)]) dX5_best_26 (by decide) rfl ?_
        refine r_ldc2 (v := (-1)) wd_504 dX5_best_28 ?_
        refine r_lstore (lv2 := [(5, .long (-1)), (4, .int a0), (0, .ref (eA E 0)), (1, .int a0), (2, .int a1), (3, .int a2)]) dX5_best_31 (by decide) rfl ?_
        refine r_iconst (v := 0) dX5_best_33 (by decide) ?_
        refine r_istore (lv2 := [(7, .int 0), (5, .long (-1)), (4, .int a0), (0, .ref (eA E 0)), (1, .int a0), (2, .int a1), (3, .int a2)]) dX5_best_34 (by decide) rfl ?_
        obtain ⟨q13, hq13, hf⟩ := hf_bind hf
        refine (Wa.sub [3, 4, 5, 6, 2, 1, 0] rfl (w_X5_best_36 _ _ _ _ _ _ _ _ _ _ _ _ _ _ _ hq13 ?_))
        refine r_iload_n dX5_best_110 0 rfl ?_
        refine r_if_ne (tgt := 120) dX5_best_111 (by decide) (fun c14 => ?_) (fun c14 => ?_)
        · have hf := hf_neg c14 hf
          refine r_lload dX5_best_120 2 rfl ?_
          have e9 := Option.some.inj hf
          subst e9
          exact r_lret rfl dX5_best_122
        · have hf := hf_pos c14 hf
          refine r_iload dX5_best_114 1 rfl ?_
          refine r_i2l dX5_best_116 ?_
          refine r_goto (tgt := 122) dX5_best_117 (by decide) ?_
          have e9 := Option.some.inj hf
          subst e9
          exact r_lret rfl dX5_best_122
      · have hf := hf_neg c6 hf
        refine r_aload_n dX5_best_17 0 rfl ?_
        refine r_bipush (v := (-2)) dX5_best_18 (by decide) ?_
        obtain ⟨q15, hq15, hf⟩ := hf_bind hf
        refine r_callVi (As := [.int (-2)]) (b := (eA E 0)) (st := []) (s_X5_refuse hq15) (by decide) (by decide) wd_251 wd_253 wd_0 wd_68 wd_254 hy_X5_refuse (Rc.obj 0 ga_X rfl) rfl (Nat.le_of_ble_eq_true rfl) dX5_best_20 ?_
        refine r_i2l dX5_best_23 ?_
        have e9 := Option.some.inj hf
        subst e9
        exact r_lret rfl dX5_best_24
-- DuelSamples.many
def f_X5_many (X_method : Int32) (R_count : Int32) (R_changes : Int32) (R_F : Nat → Nat → Int32) (T_u : Int32) (T_v : Int32) (T_left : Nat → Int32) (K_atChanges : Int32) (K_atMethod : Int32) (K_seen : Nat → Int64)  : Option (Int32 × Int32 × Int32 × (Nat → Int32) × Int32 × Int32 × (Nat → Int64)) := Option.bind (f_X1_explore R_count R_changes R_F T_u T_v T_left K_atChanges K_atMethod K_seen X_method) (fun (q1 : Int32 × Int32 × (Nat → Int32) × Int32 × Int32 × (Nat → Int64)) => Option.bind (f_X1_howMany q1.2.2.2.2.2) (fun (q2 : Int32) => some (q2, q1.1, q1.2.1, q1.2.2.1, q1.2.2.2.1, q1.2.2.2.2.1, q1.2.2.2.2.2)))
theorem hy_X5_many : yX5_many.cls ≠ "java/lang/invoke/MethodHandle" ∧ yX5_many.cls ≠ "java/lang/invoke/VarHandle" ∧ (parseMethodDescriptor yX5_many.desc).map (fun d => d.parameters.length) = some 0 := by decide +kernel
set_option maxHeartbeats 4000000 in
set_option maxRecDepth 100000 in
theorem s_X5_many {E : EN} {hM : TM} {X_method : Int32} {X_refusedBad : Int32} {X_refusedFull : Int32} {R_count : Int32} {R_changes : Int32} {R_F : Nat → Nat → Int32} {L_sample : Int32} {L_plays : Int32} {L_small : Int32} {L_large : Int32} {L_u : Int32} {L_v : Int32} {L_left : Nat → Int32} {L_firsts : Nat → Int32} {L_seconds : Nat → Int32} {L_winners : Nat → Int32} {T_sample : Int32} {T_plays : Int32} {T_small : Int32} {T_large : Int32} {T_u : Int32} {T_v : Int32} {T_left : Nat → Int32} {T_firsts : Nat → Int32} {T_seconds : Nat → Int32} {T_winners : Nat → Int32} {K_atChanges : Int32} {K_atMethod : Int32} {K_seen : Nat → Int64} {S_length : Int32} {S_sentences : Int32} {S_at : Int32} {S_units : Int32} {S_text : Nat → Int32} {S_verbs : Nat → Int32} {S_numbers : Nat → Int32} {P_length : Int32} {P_signs : Nat → Int32}  {qR : Int32 × Int32 × Int32 × (Nat → Int32) × Int32 × Int32 × (Nat → Int64)} (hf : f_X5_many X_method R_count R_changes R_F T_u T_v T_left K_atChanges K_atMethod K_seen = some qR) : Sem E yX5_many cX5_many 1 (some .int) 20 [.ref (eA E 0)] ((X_method, X_refusedBad, X_refusedFull), (R_count, R_changes, R_F), (L_sample, L_plays, L_small, L_large, L_u, L_v, L_left, L_firsts, L_seconds, L_winners), (T_sample, T_plays, T_small, T_large, T_u, T_v, T_left, T_firsts, T_seconds, T_winners), (K_atChanges, K_atMethod, K_seen), (S_length, S_sentences, S_at, S_units, S_text, S_verbs, S_numbers), (P_length, P_signs), hM) (some (.int qR.1), ((X_method, X_refusedBad, X_refusedFull), (R_count, R_changes, R_F), (L_sample, L_plays, L_small, L_large, L_u, L_v, L_left, L_firsts, L_seconds, L_winners), (T_sample, T_plays, T_small, T_large, qR.2.1, qR.2.2.1, qR.2.2.2.1, T_firsts, T_seconds, T_winners), (qR.2.2.2.2.1, qR.2.2.2.2.2.1, qR.2.2.2.2.2.2), (S_length, S_sentences, S_at, S_units, S_text, S_verbs, S_numbers), (P_length, P_signs), hM)) := by
  refine Sem.mk (lv := [(0, .ref (eA E 0))]) (by decide) (Nat.le_of_ble_eq_true rfl) rfl ?_
  rw [f_X5_many] at hf
  refine r_aload_n dX5_many_0 0 rfl ?_
  refine r_get (v := .ref (eA E 18)) in_X5 0 ga_X rfl 3 (by decide) wd_217 rfl rfl dX5_many_1 ?_
  refine r_aload_n dX5_many_4 0 rfl ?_
  refine r_get (v := .ref (eA E 1)) in_X5 0 ga_X rfl 0 (by decide) wd_214 rfl rfl dX5_many_5 ?_
  refine r_aload_n dX5_many_8 0 rfl ?_
  refine r_get (v := .int X_method) in_X5 0 ga_X rfl 6 (by decide) wd_220 rfl rfl dX5_many_9 ?_
  refine r_aload_n dX5_many_12 0 rfl ?_
  refine r_get (v := .ref (eA E 13)) in_X5 0 ga_X rfl 2 (by decide) wd_216 rfl rfl dX5_many_13 ?_
  obtain ⟨q1, hq1, hf⟩ := hf_bind hf
  refine r_callVv (As := [.ref (eA E 1), .int X_method, .ref (eA E 13)]) (b := (eA E 18)) (st := []) (s_X1_explore hq1) (by decide) (by decide) wd_509 wd_510 wd_511 wd_71 wd_512 hy_X1_explore (Rc.obj 18 ga_K rfl) rfl (Nat.le_of_ble_eq_true rfl) dX5_many_16 ?_
  refine r_aload_n dX5_many_19 0 rfl ?_
  refine r_get (v := .ref (eA E 18)) in_X5 0 ga_X rfl 3 (by decide) wd_217 rfl rfl dX5_many_20 ?_
  obtain ⟨q2, hq2, hf⟩ := hf_bind hf
  refine r_callVi (As := []) (b := (eA E 18)) (st := []) (s_X1_howMany hq2) (by decide) (by decide) wd_532 wd_533 wd_534 wd_71 wd_535 hy_X1_howMany (Rc.obj 18 ga_K rfl) rfl (Nat.le_of_ble_eq_true rfl) dX5_many_23 ?_
  have e9 := Option.some.inj hf
  subst e9
  exact r_iret rfl dX5_many_26
-- DuelSamples.sizes
def f_X5_sizes (X_method : Int32) (X_refusedBad : Int32) (X_refusedFull : Int32) (R_count : Int32) (R_changes : Int32) (R_F : Nat → Nat → Int32) (T_u : Int32) (T_v : Int32) (T_left : Nat → Int32) (K_atChanges : Int32) (K_atMethod : Int32) (K_seen : Nat → Int64) (a0 : Int32) : Option (Int32 × Int32 × Int32 × Int32 × Int32 × (Nat → Int32) × Int32 × Int32 × (Nat → Int64)) := if a0 < 0 then Option.bind (f_X5_refuse X_refusedBad X_refusedFull (-2)) (fun (q2 : Int32 × Int32 × Int32) => some (q2.1, q2.2.1, q2.2.2, T_u, T_v, T_left, K_atChanges, K_atMethod, K_seen)) else if a0 ≤ 1 then Option.bind (f_X1_explore R_count R_changes R_F T_u T_v T_left K_atChanges K_atMethod K_seen X_method) (fun (q4 : Int32 × Int32 × (Nat → Int32) × Int32 × Int32 × (Nat → Int64)) => if a0 = 0 then Option.bind (f_X1_fewestUnits q4.2.2.2.2.2) (fun (q7 : Int32) => some (q7, X_refusedBad, X_refusedFull, q4.1, q4.2.1, q4.2.2.1, q4.2.2.2.1, q4.2.2.2.2.1, q4.2.2.2.2.2)) else Option.bind (f_X1_mostUnits q4.2.2.2.2.2) (fun (q6 : Int32) => some (q6, X_refusedBad, X_refusedFull, q4.1, q4.2.1, q4.2.2.1, q4.2.2.2.1, q4.2.2.2.2.1, q4.2.2.2.2.2))) else Option.bind (f_X5_refuse X_refusedBad X_refusedFull (-2)) (fun (q8 : Int32 × Int32 × Int32) => some (q8.1, q8.2.1, q8.2.2, T_u, T_v, T_left, K_atChanges, K_atMethod, K_seen))
theorem hy_X5_sizes : yX5_sizes.cls ≠ "java/lang/invoke/MethodHandle" ∧ yX5_sizes.cls ≠ "java/lang/invoke/VarHandle" ∧ (parseMethodDescriptor yX5_sizes.desc).map (fun d => d.parameters.length) = some 1 := by decide +kernel
set_option maxHeartbeats 4000000 in
set_option maxRecDepth 100000 in
theorem s_X5_sizes {E : EN} {hM : TM} {X_method : Int32} {X_refusedBad : Int32} {X_refusedFull : Int32} {R_count : Int32} {R_changes : Int32} {R_F : Nat → Nat → Int32} {L_sample : Int32} {L_plays : Int32} {L_small : Int32} {L_large : Int32} {L_u : Int32} {L_v : Int32} {L_left : Nat → Int32} {L_firsts : Nat → Int32} {L_seconds : Nat → Int32} {L_winners : Nat → Int32} {T_sample : Int32} {T_plays : Int32} {T_small : Int32} {T_large : Int32} {T_u : Int32} {T_v : Int32} {T_left : Nat → Int32} {T_firsts : Nat → Int32} {T_seconds : Nat → Int32} {T_winners : Nat → Int32} {K_atChanges : Int32} {K_atMethod : Int32} {K_seen : Nat → Int64} {S_length : Int32} {S_sentences : Int32} {S_at : Int32} {S_units : Int32} {S_text : Nat → Int32} {S_verbs : Nat → Int32} {S_numbers : Nat → Int32} {P_length : Int32} {P_signs : Nat → Int32} {a0 : Int32} {qR : Int32 × Int32 × Int32 × Int32 × Int32 × (Nat → Int32) × Int32 × Int32 × (Nat → Int64)} (hf : f_X5_sizes X_method X_refusedBad X_refusedFull R_count R_changes R_F T_u T_v T_left K_atChanges K_atMethod K_seen a0 = some qR) : Sem E yX5_sizes cX5_sizes 2 (some .int) 20 [.ref (eA E 0), .int a0] ((X_method, X_refusedBad, X_refusedFull), (R_count, R_changes, R_F), (L_sample, L_plays, L_small, L_large, L_u, L_v, L_left, L_firsts, L_seconds, L_winners), (T_sample, T_plays, T_small, T_large, T_u, T_v, T_left, T_firsts, T_seconds, T_winners), (K_atChanges, K_atMethod, K_seen), (S_length, S_sentences, S_at, S_units, S_text, S_verbs, S_numbers), (P_length, P_signs), hM) (some (.int qR.1), ((X_method, qR.2.1, qR.2.2.1), (R_count, R_changes, R_F), (L_sample, L_plays, L_small, L_large, L_u, L_v, L_left, L_firsts, L_seconds, L_winners), (T_sample, T_plays, T_small, T_large, qR.2.2.2.1, qR.2.2.2.2.1, qR.2.2.2.2.2.1, T_firsts, T_seconds, T_winners), (qR.2.2.2.2.2.2.1, qR.2.2.2.2.2.2.2.1, qR.2.2.2.2.2.2.2.2), (S_length, S_sentences, S_at, S_units, S_text, S_verbs, S_numbers), (P_length, P_signs), hM)) := by
  refine Sem.mk (lv := [(0, .ref (eA E 0)), (1, .int a0)]) (by decide) (Nat.le_of_ble_eq_true rfl) rfl ?_
  rw [f_X5_sizes] at hf
  refine r_iload_n dX5_sizes_0 1 rfl ?_
  refine r_if_lt (tgt := 9) dX5_sizes_1 (by decide) (fun c1 => ?_) (fun c1 => ?_)
  · have hf := hf_pos c1 hf
    refine r_aload_n dX5_sizes_9 0 rfl ?_
    refine r_bipush (v := (-2)) dX5_sizes_10 (by decide) ?_
    obtain ⟨q2, hq2, hf⟩ := hf_bind hf
    refine r_callVi (As := [.int (-2)]) (b := (eA E 0)) (st := []) (s_X5_refuse hq2) (by decide) (by decide) wd_251 wd_253 wd_0 wd_68 wd_254 hy_X5_refuse (Rc.obj 0 ga_X rfl) rfl (Nat.le_of_ble_eq_true rfl) dX5_sizes_12 ?_
    have e9 := Option.some.inj hf
    subst e9
    exact r_iret rfl dX5_sizes_15
  · have hf := hf_neg c1 hf
    refine r_iload_n dX5_sizes_4 1 rfl ?_
    refine r_iconst (v := 1) dX5_sizes_5 (by decide) ?_
    refine r_icmp_le (tgt := 16) dX5_sizes_6 (by decide) (fun c3 => ?_) (fun c3 => ?_)
    · have hf := hf_pos c3 hf
      refine r_aload_n dX5_sizes_16 0 rfl ?_
      refine r_get (v := .ref (eA E 18)) in_X5 0 ga_X rfl 3 (by decide) wd_217 rfl rfl dX5_sizes_17 ?_
      refine r_aload_n dX5_sizes_20 0 rfl ?_
      refine r_get (v := .ref (eA E 1)) in_X5 0 ga_X rfl 0 (by decide) wd_214 rfl rfl dX5_sizes_21 ?_
      refine r_aload_n dX5_sizes_24 0 rfl ?_
      refine r_get (v := .int X_method) in_X5 0 ga_X rfl 6 (by decide) wd_220 rfl rfl dX5_sizes_25 ?_
      refine r_aload_n dX5_sizes_28 0 rfl ?_
      refine r_get (v := .ref (eA E 13)) in_X5 0 ga_X rfl 2 (by decide) wd_216 rfl rfl dX5_sizes_29 ?_
      obtain ⟨q4, hq4, hf⟩ := hf_bind hf
      refine r_callVv (As := [.ref (eA E 1), .int X_method, .ref (eA E 13)]) (b := (eA E 18)) (st := []) (s_X1_explore hq4) (by decide) (by decide) wd_509 wd_510 wd_511 wd_71 wd_512 hy_X1_explore (Rc.obj 18 ga_K rfl) rfl (Nat.le_of_ble_eq_true rfl) dX5_sizes_32 ?_
      refine r_iload_n dX5_sizes_35 1 rfl ?_
      refine r_if_ne (tgt := 49) dX5_sizes_36 (by decide) (fun c5 => ?_) (fun c5 => ?_)
      · have hf := hf_neg c5 hf
        refine r_aload_n dX5_sizes_49 0 rfl ?_
        refine r_get (v := .ref (eA E 18)) in_X5 0 ga_X rfl 3 (by decide) wd_217 rfl rfl dX5_sizes_50 ?_
        obtain ⟨q6, hq6, hf⟩ := hf_bind hf
        refine r_callVi (As := []) (b := (eA E 18)) (st := []) (s_X1_mostUnits hq6) (by decide) (by decide) wd_556 wd_557 wd_558 wd_71 wd_559 hy_X1_mostUnits (Rc.obj 18 ga_K rfl) rfl (Nat.le_of_ble_eq_true rfl) dX5_sizes_53 ?_
        have e9 := Option.some.inj hf
        subst e9
        exact r_iret rfl dX5_sizes_56
      · have hf := hf_pos c5 hf
        refine r_aload_n dX5_sizes_39 0 rfl ?_
        refine r_get (v := .ref (eA E 18)) in_X5 0 ga_X rfl 3 (by decide) wd_217 rfl rfl dX5_sizes_40 ?_
        obtain ⟨q7, hq7, hf⟩ := hf_bind hf
        refine r_callVi (As := []) (b := (eA E 18)) (st := []) (s_X1_fewestUnits hq7) (by decide) (by decide) wd_546 wd_547 wd_548 wd_71 wd_549 hy_X1_fewestUnits (Rc.obj 18 ga_K rfl) rfl (Nat.le_of_ble_eq_true rfl) dX5_sizes_43 ?_
        refine r_goto (tgt := 56) dX5_sizes_46 (by decide) ?_
        have e9 := Option.some.inj hf
        subst e9
        exact r_iret rfl dX5_sizes_56
    · have hf := hf_neg c3 hf
      refine r_aload_n dX5_sizes_9 0 rfl ?_
      refine r_bipush (v := (-2)) dX5_sizes_10 (by decide) ?_
      obtain ⟨q8, hq8, hf⟩ := hf_bind hf
      refine r_callVi (As := [.int (-2)]) (b := (eA E 0)) (st := []) (s_X5_refuse hq8) (by decide) (by decide) wd_251 wd_253 wd_0 wd_68 wd_254 hy_X5_refuse (Rc.obj 0 ga_X rfl) rfl (Nat.le_of_ble_eq_true rfl) dX5_sizes_12 ?_
      have e9 := Option.some.inj hf
      subst e9
      exact r_iret rfl dX5_sizes_15
-- DuelSamples.can
def f_X5_can (X_method : Int32) (X_refusedBad : Int32) (X_refusedFull : Int32) (R_count : Int32) (R_changes : Int32) (R_F : Nat → Nat → Int32) (T_u : Int32) (T_v : Int32) (T_left : Nat → Int32) (K_atChanges : Int32) (K_atMethod : Int32) (K_seen : Nat → Int64) (a0 : Int32) (a1 : Int32) : Option (Int32 × Int32 × Int32 × Int32 × Int32 × (Nat → Int32) × Int32 × Int32 × (Nat → Int64)) := Option.bind (f_X3_has R_count a0) (fun (q1 : Int32) => if q1 = 0 then Option.bind (f_X5_refuse X_refusedBad X_refusedFull (-2)) (fun (q3 : Int32 × Int32 × Int32) => some (q3.1, q3.2.1, q3.2.2, T_u, T_v, T_left, K_atChanges, K_atMethod, K_seen)) else Option.bind (f_X3_has R_count a1) (fun (q4 : Int32) => if q4 = 0 then Option.bind (f_X5_refuse X_refusedBad X_refusedFull (-2)) (fun (q9 : Int32 × Int32 × Int32) => some (q9.1, q9.2.1, q9.2.2, T_u, T_v, T_left, K_atChanges, K_atMethod, K_seen)) else Option.bind (f_X1_explore R_count R_changes R_F T_u T_v T_left K_atChanges K_atMethod K_seen X_method) (fun (q6 : Int32 × Int32 × (Nat → Int32) × Int32 × Int32 × (Nat → Int64)) => Option.bind (f_X1_hasWith q6.2.2.2.2.2 ((1 <<< (a0 &&& 31)) ||| (1 <<< (a1 &&& 31)))) (fun (q7 : Int32) => if q7 = 0 then some (0, X_refusedBad, X_refusedFull, q6.1, q6.2.1, q6.2.2.1, q6.2.2.2.1, q6.2.2.2.2.1, q6.2.2.2.2.2) else some (1, X_refusedBad, X_refusedFull, q6.1, q6.2.1, q6.2.2.1, q6.2.2.2.1, q6.2.2.2.2.1, q6.2.2.2.2.2)))))
theorem hy_X5_can : yX5_can.cls ≠ "java/lang/invoke/MethodHandle" ∧ yX5_can.cls ≠ "java/lang/invoke/VarHandle" ∧ (parseMethodDescriptor yX5_can.desc).map (fun d => d.parameters.length) = some 2 := by decide +kernel
set_option maxHeartbeats 4000000 in
set_option maxRecDepth 100000 in
theorem s_X5_can {E : EN} {hM : TM} {X_method : Int32} {X_refusedBad : Int32} {X_refusedFull : Int32} {R_count : Int32} {R_changes : Int32} {R_F : Nat → Nat → Int32} {L_sample : Int32} {L_plays : Int32} {L_small : Int32} {L_large : Int32} {L_u : Int32} {L_v : Int32} {L_left : Nat → Int32} {L_firsts : Nat → Int32} {L_seconds : Nat → Int32} {L_winners : Nat → Int32} {T_sample : Int32} {T_plays : Int32} {T_small : Int32} {T_large : Int32} {T_u : Int32} {T_v : Int32} {T_left : Nat → Int32} {T_firsts : Nat → Int32} {T_seconds : Nat → Int32} {T_winners : Nat → Int32} {K_atChanges : Int32} {K_atMethod : Int32} {K_seen : Nat → Int64} {S_length : Int32} {S_sentences : Int32} {S_at : Int32} {S_units : Int32} {S_text : Nat → Int32} {S_verbs : Nat → Int32} {S_numbers : Nat → Int32} {P_length : Int32} {P_signs : Nat → Int32} {a0 : Int32} {a1 : Int32} {qR : Int32 × Int32 × Int32 × Int32 × Int32 × (Nat → Int32) × Int32 × Int32 × (Nat → Int64)} (hf : f_X5_can X_method X_refusedBad X_refusedFull R_count R_changes R_F T_u T_v T_left K_atChanges K_atMethod K_seen a0 a1 = some qR) : Sem E yX5_can cX5_can 3 (some .int) 20 [.ref (eA E 0), .int a0, .int a1] ((X_method, X_refusedBad, X_refusedFull), (R_count, R_changes, R_F), (L_sample, L_plays, L_small, L_large, L_u, L_v, L_left, L_firsts, L_seconds, L_winners), (T_sample, T_plays, T_small, T_large, T_u, T_v, T_left, T_firsts, T_seconds, T_winners), (K_atChanges, K_atMethod, K_seen), (S_length, S_sentences, S_at, S_units, S_text, S_verbs, S_numbers), (P_length, P_signs), hM) (some (.int qR.1), ((X_method, qR.2.1, qR.2.2.1), (R_count, R_changes, R_F), (L_sample, L_plays, L_small, L_large, L_u, L_v, L_left, L_firsts, L_seconds, L_winners), (T_sample, T_plays, T_small, T_large, qR.2.2.2.1, qR.2.2.2.2.1, qR.2.2.2.2.2.1, T_firsts, T_seconds, T_winners), (qR.2.2.2.2.2.2.1, qR.2.2.2.2.2.2.2.1, qR.2.2.2.2.2.2.2.2), (S_length, S_sentences, S_at, S_units, S_text, S_verbs, S_numbers), (P_length, P_signs), hM)) := by
  refine Sem.mk (lv := [(0, .ref (eA E 0)), (1, .int a0), (2, .int a1)]) (by decide) (Nat.le_of_ble_eq_true rfl) rfl ?_
  rw [f_X5_can] at hf
  refine r_aload_n dX5_can_0 0 rfl ?_
  refine r_get (v := .ref (eA E 1)) in_X5 0 ga_X rfl 0 (by decide) wd_214 rfl rfl dX5_can_1 ?_
  refine r_iload_n dX5_can_4 1 rfl ?_
  obtain ⟨q1, hq1, hf⟩ := hf_bind hf
  refine r_callVi (As := [.int a0]) (b := (eA E 1)) (st := []) (s_X3_has hq1) (by decide) (by decide) wd_263 wd_264 wd_265 wd_69 wd_266 hy_X3_has (Rc.obj 1 ga_R rfl) rfl (Nat.le_of_ble_eq_true rfl) dX5_can_5 ?_
  refine r_if_eq (tgt := 22) dX5_can_8 (by decide) (fun c2 => ?_) (fun c2 => ?_)
  · have hf := hf_pos c2 hf
    refine r_aload_n dX5_can_22 0 rfl ?_
    refine r_bipush (v := (-2)) dX5_can_23 (by decide) ?_
    obtain ⟨q3, hq3, hf⟩ := hf_bind hf
    refine r_callVi (As := [.int (-2)]) (b := (eA E 0)) (st := []) (s_X5_refuse hq3) (by decide) (by decide) wd_251 wd_253 wd_0 wd_68 wd_254 hy_X5_refuse (Rc.obj 0 ga_X rfl) rfl (Nat.le_of_ble_eq_true rfl) dX5_can_25 ?_
    have e9 := Option.some.inj hf
    subst e9
    exact r_iret rfl dX5_can_28
  · have hf := hf_neg c2 hf
    refine r_aload_n dX5_can_11 0 rfl ?_
    refine r_get (v := .ref (eA E 1)) in_X5 0 ga_X rfl 0 (by decide) wd_214 rfl rfl dX5_can_12 ?_
    refine r_iload_n dX5_can_15 2 rfl ?_
    obtain ⟨q4, hq4, hf⟩ := hf_bind hf
    refine r_callVi (As := [.int a1]) (b := (eA E 1)) (st := []) (s_X3_has hq4) (by decide) (by decide) wd_263 wd_264 wd_265 wd_69 wd_266 hy_X3_has (Rc.obj 1 ga_R rfl) rfl (Nat.le_of_ble_eq_true rfl) dX5_can_16 ?_
    refine r_if_ne (tgt := 29) dX5_can_19 (by decide) (fun c5 => ?_) (fun c5 => ?_)
    · have hf := hf_neg c5 hf
      refine r_aload_n dX5_can_29 0 rfl ?_
      refine r_get (v := .ref (eA E 18)) in_X5 0 ga_X rfl 3 (by decide) wd_217 rfl rfl dX5_can_30 ?_
      refine r_aload_n dX5_can_33 0 rfl ?_
      refine r_get (v := .ref (eA E 1)) in_X5 0 ga_X rfl 0 (by decide) wd_214 rfl rfl dX5_can_34 ?_
      refine r_aload_n dX5_can_37 0 rfl ?_
      refine r_get (v := .int X_method) in_X5 0 ga_X rfl 6 (by decide) wd_220 rfl rfl dX5_can_38 ?_
      refine r_aload_n dX5_can_41 0 rfl ?_
      refine r_get (v := .ref (eA E 13)) in_X5 0 ga_X rfl 2 (by decide) wd_216 rfl rfl dX5_can_42 ?_
      obtain ⟨q6, hq6, hf⟩ := hf_bind hf
      refine r_callVv (As := [.ref (eA E 1), .int X_method, .ref (eA E 13)]) (b := (eA E 18)) (st := []) (s_X1_explore hq6) (by decide) (by decide) wd_509 wd_510 wd_511 wd_71 wd_512 hy_X1_explore (Rc.obj 18 ga_K rfl) rfl (Nat.le_of_ble_eq_true rfl) dX5_can_45 ?_
      refine r_aload_n dX5_can_48 0 rfl ?_
      refine r_get (v := .ref (eA E 18)) in_X5 0 ga_X rfl 3 (by decide) wd_217 rfl rfl dX5_can_49 ?_
      refine r_iconst (v := 1) dX5_can_52 (by decide) ?_
      refine r_iload_n dX5_can_53 1 rfl ?_
      refine r_ishl dX5_can_54 ?_
      refine r_iconst (v := 1) dX5_can_55 (by decide) ?_
      refine r_iload_n dX5_can_56 2 rfl ?_
      refine r_ishl dX5_can_57 ?_
      refine r_ior dX5_can_58 ?_
      obtain ⟨q7, hq7, hf⟩ := hf_bind hf
      refine r_callVi (As := [.int ((1 <<< (a0 &&& 31)) ||| (1 <<< (a1 &&& 31)))]) (b := (eA E 18)) (st := []) (s_X1_hasWith hq7) (by decide) (by decide) wd_567 wd_568 wd_569 wd_71 wd_570 hy_X1_hasWith (Rc.obj 18 ga_K rfl) rfl (Nat.le_of_ble_eq_true rfl) dX5_can_59 ?_
      refine r_if_eq (tgt := 69) dX5_can_62 (by decide) (fun c8 => ?_) (fun c8 => ?_)
      · have hf := hf_pos c8 hf
        refine r_iconst (v := 0) dX5_can_69 (by decide) ?_
        have e9 := Option.some.inj hf
        subst e9
        exact r_iret rfl dX5_can_70
      · have hf := hf_neg c8 hf
        refine r_iconst (v := 1) dX5_can_65 (by decide) ?_
        refine r_goto (tgt := 70) dX5_can_66 (by decide) ?_
        have e9 := Option.some.inj hf
        subst e9
        exact r_iret rfl dX5_can_70
    · have hf := hf_pos c5 hf
      refine r_aload_n dX5_can_22 0 rfl ?_
      refine r_bipush (v := (-2)) dX5_can_23 (by decide) ?_
      obtain ⟨q9, hq9, hf⟩ := hf_bind hf
      refine r_callVi (As := [.int (-2)]) (b := (eA E 0)) (st := []) (s_X5_refuse hq9) (by decide) (by decide) wd_251 wd_253 wd_0 wd_68 wd_254 hy_X5_refuse (Rc.obj 0 ga_X rfl) rfl (Nat.le_of_ble_eq_true rfl) dX5_can_25 ?_
      have e9 := Option.some.inj hf
      subst e9
      exact r_iret rfl dX5_can_28
-- DuelSamples.least
def f_X5_least (X_method : Int32) (R_count : Int32) (R_changes : Int32) (R_F : Nat → Nat → Int32) (T_u : Int32) (T_v : Int32) (T_left : Nat → Int32) (K_atChanges : Int32) (K_atMethod : Int32) (K_seen : Nat → Int64)  : Option (Int64 × Int32 × Int32 × (Nat → Int32) × Int32 × Int32 × (Nat → Int64)) := Option.bind (f_X1_explore R_count R_changes R_F T_u T_v T_left K_atChanges K_atMethod K_seen X_method) (fun (q1 : Int32 × Int32 × (Nat → Int32) × Int32 × Int32 × (Nat → Int64)) => Option.bind (f_X1_leastMiss R_count R_F q1.2.2.2.2.2) (fun (q2 : Int64) => some (q2, q1.1, q1.2.1, q1.2.2.1, q1.2.2.2.1, q1.2.2.2.2.1, q1.2.2.2.2.2)))
theorem hy_X5_least : yX5_least.cls ≠ "java/lang/invoke/MethodHandle" ∧ yX5_least.cls ≠ "java/lang/invoke/VarHandle" ∧ (parseMethodDescriptor yX5_least.desc).map (fun d => d.parameters.length) = some 0 := by decide +kernel
set_option maxHeartbeats 4000000 in
set_option maxRecDepth 100000 in
theorem s_X5_least {E : EN} {hM : TM} {X_method : Int32} {X_refusedBad : Int32} {X_refusedFull : Int32} {R_count : Int32} {R_changes : Int32} {R_F : Nat → Nat → Int32} {L_sample : Int32} {L_plays : Int32} {L_small : Int32} {L_large : Int32} {L_u : Int32} {L_v : Int32} {L_left : Nat → Int32} {L_firsts : Nat → Int32} {L_seconds : Nat → Int32} {L_winners : Nat → Int32} {T_sample : Int32} {T_plays : Int32} {T_small : Int32} {T_large : Int32} {T_u : Int32} {T_v : Int32} {T_left : Nat → Int32} {T_firsts : Nat → Int32} {T_seconds : Nat → Int32} {T_winners : Nat → Int32} {K_atChanges : Int32} {K_atMethod : Int32} {K_seen : Nat → Int64} {S_length : Int32} {S_sentences : Int32} {S_at : Int32} {S_units : Int32} {S_text : Nat → Int32} {S_verbs : Nat → Int32} {S_numbers : Nat → Int32} {P_length : Int32} {P_signs : Nat → Int32}  {qR : Int64 × Int32 × Int32 × (Nat → Int32) × Int32 × Int32 × (Nat → Int64)} (hf : f_X5_least X_method R_count R_changes R_F T_u T_v T_left K_atChanges K_atMethod K_seen = some qR) : Sem E yX5_least cX5_least 1 (some .long) 20 [.ref (eA E 0)] ((X_method, X_refusedBad, X_refusedFull), (R_count, R_changes, R_F), (L_sample, L_plays, L_small, L_large, L_u, L_v, L_left, L_firsts, L_seconds, L_winners), (T_sample, T_plays, T_small, T_large, T_u, T_v, T_left, T_firsts, T_seconds, T_winners), (K_atChanges, K_atMethod, K_seen), (S_length, S_sentences, S_at, S_units, S_text, S_verbs, S_numbers), (P_length, P_signs), hM) (some (.long qR.1), ((X_method, X_refusedBad, X_refusedFull), (R_count, R_changes, R_F), (L_sample, L_plays, L_small, L_large, L_u, L_v, L_left, L_firsts, L_seconds, L_winners), (T_sample, T_plays, T_small, T_large, qR.2.1, qR.2.2.1, qR.2.2.2.1, T_firsts, T_seconds, T_winners), (qR.2.2.2.2.1, qR.2.2.2.2.2.1, qR.2.2.2.2.2.2), (S_length, S_sentences, S_at, S_units, S_text, S_verbs, S_numbers), (P_length, P_signs), hM)) := by
  refine Sem.mk (lv := [(0, .ref (eA E 0))]) (by decide) (Nat.le_of_ble_eq_true rfl) rfl ?_
  rw [f_X5_least] at hf
  refine r_aload_n dX5_least_0 0 rfl ?_
  refine r_get (v := .ref (eA E 18)) in_X5 0 ga_X rfl 3 (by decide) wd_217 rfl rfl dX5_least_1 ?_
  refine r_aload_n dX5_least_4 0 rfl ?_
  refine r_get (v := .ref (eA E 1)) in_X5 0 ga_X rfl 0 (by decide) wd_214 rfl rfl dX5_least_5 ?_
  refine r_aload_n dX5_least_8 0 rfl ?_
  refine r_get (v := .int X_method) in_X5 0 ga_X rfl 6 (by decide) wd_220 rfl rfl dX5_least_9 ?_
  refine r_aload_n dX5_least_12 0 rfl ?_
  refine r_get (v := .ref (eA E 13)) in_X5 0 ga_X rfl 2 (by decide) wd_216 rfl rfl dX5_least_13 ?_
  obtain ⟨q1, hq1, hf⟩ := hf_bind hf
  refine r_callVv (As := [.ref (eA E 1), .int X_method, .ref (eA E 13)]) (b := (eA E 18)) (st := []) (s_X1_explore hq1) (by decide) (by decide) wd_509 wd_510 wd_511 wd_71 wd_512 hy_X1_explore (Rc.obj 18 ga_K rfl) rfl (Nat.le_of_ble_eq_true rfl) dX5_least_16 ?_
  refine r_aload_n dX5_least_19 0 rfl ?_
  refine r_get (v := .ref (eA E 18)) in_X5 0 ga_X rfl 3 (by decide) wd_217 rfl rfl dX5_least_20 ?_
  refine r_aload_n dX5_least_23 0 rfl ?_
  refine r_get (v := .ref (eA E 1)) in_X5 0 ga_X rfl 0 (by decide) wd_214 rfl rfl dX5_least_24 ?_
  obtain ⟨q2, hq2, hf⟩ := hf_bind hf
  refine r_callVl (As := [.ref (eA E 1)]) (b := (eA E 18)) (st := []) (s_X1_leastMiss hq2) (by decide) (by decide) wd_575 wd_576 wd_577 wd_71 wd_578 hy_X1_leastMiss (Rc.obj 18 ga_K rfl) rfl (Nat.le_of_ble_eq_true rfl) dX5_least_27 ?_
  have e9 := Option.some.inj hf
  subst e9
  exact r_lret rfl dX5_least_30
-- DuelSamples.type
def f_X5_type (X_refusedBad : Int32) (X_refusedFull : Int32) (S_length : Int32) (S_text : Nat → Int32) (a0 : Int32) : Option (Int32 × Int32 × Int32 × Int32 × (Nat → Int32)) := if a0 < 0 then Option.bind (f_X5_refuse X_refusedBad X_refusedFull (-2)) (fun (q2 : Int32 × Int32 × Int32) => some (q2.1, q2.2.1, q2.2.2, S_length, S_text)) else if a0 ≤ 127 then if S_length < 120 then Option.bind (f_X4_append S_length S_text a0) (fun (q5 : Int32 × Int32 × (Nat → Int32)) => some (q5.1, X_refusedBad, X_refusedFull, q5.2.1, q5.2.2)) else Option.bind (f_X5_refuse X_refusedBad X_refusedFull (-4)) (fun (q6 : Int32 × Int32 × Int32) => some (q6.1, q6.2.1, q6.2.2, S_length, S_text)) else Option.bind (f_X5_refuse X_refusedBad X_refusedFull (-2)) (fun (q7 : Int32 × Int32 × Int32) => some (q7.1, q7.2.1, q7.2.2, S_length, S_text))
theorem hy_X5_type : yX5_type.cls ≠ "java/lang/invoke/MethodHandle" ∧ yX5_type.cls ≠ "java/lang/invoke/VarHandle" ∧ (parseMethodDescriptor yX5_type.desc).map (fun d => d.parameters.length) = some 1 := by decide +kernel
set_option maxHeartbeats 4000000 in
set_option maxRecDepth 100000 in
theorem s_X5_type {E : EN} {hM : TM} {X_method : Int32} {X_refusedBad : Int32} {X_refusedFull : Int32} {R_count : Int32} {R_changes : Int32} {R_F : Nat → Nat → Int32} {L_sample : Int32} {L_plays : Int32} {L_small : Int32} {L_large : Int32} {L_u : Int32} {L_v : Int32} {L_left : Nat → Int32} {L_firsts : Nat → Int32} {L_seconds : Nat → Int32} {L_winners : Nat → Int32} {T_sample : Int32} {T_plays : Int32} {T_small : Int32} {T_large : Int32} {T_u : Int32} {T_v : Int32} {T_left : Nat → Int32} {T_firsts : Nat → Int32} {T_seconds : Nat → Int32} {T_winners : Nat → Int32} {K_atChanges : Int32} {K_atMethod : Int32} {K_seen : Nat → Int64} {S_length : Int32} {S_sentences : Int32} {S_at : Int32} {S_units : Int32} {S_text : Nat → Int32} {S_verbs : Nat → Int32} {S_numbers : Nat → Int32} {P_length : Int32} {P_signs : Nat → Int32} {a0 : Int32} {qR : Int32 × Int32 × Int32 × Int32 × (Nat → Int32)} (hf : f_X5_type X_refusedBad X_refusedFull S_length S_text a0 = some qR) : Sem E yX5_type cX5_type 2 (some .int) 2 [.ref (eA E 0), .int a0] ((X_method, X_refusedBad, X_refusedFull), (R_count, R_changes, R_F), (L_sample, L_plays, L_small, L_large, L_u, L_v, L_left, L_firsts, L_seconds, L_winners), (T_sample, T_plays, T_small, T_large, T_u, T_v, T_left, T_firsts, T_seconds, T_winners), (K_atChanges, K_atMethod, K_seen), (S_length, S_sentences, S_at, S_units, S_text, S_verbs, S_numbers), (P_length, P_signs), hM) (some (.int qR.1), ((X_method, qR.2.1, qR.2.2.1), (R_count, R_changes, R_F), (L_sample, L_plays, L_small, L_large, L_u, L_v, L_left, L_firsts, L_seconds, L_winners), (T_sample, T_plays, T_small, T_large, T_u, T_v, T_left, T_firsts, T_seconds, T_winners), (K_atChanges, K_atMethod, K_seen), (qR.2.2.2.1, S_sentences, S_at, S_units, qR.2.2.2.2, S_verbs, S_numbers), (P_length, P_signs), hM)) := by
  refine Sem.mk (lv := [(0, .ref (eA E 0)), (1, .int a0)]) (by decide) (Nat.le_of_ble_eq_true rfl) rfl ?_
  rw [f_X5_type] at hf
  refine r_iload_n dX5_type_0 1 rfl ?_
  refine r_if_lt (tgt := 10) dX5_type_1 (by decide) (fun c1 => ?_) (fun c1 => ?_)
  · have hf := hf_pos c1 hf
    refine r_aload_n dX5_type_10 0 rfl ?_
    refine r_bipush (v := (-2)) dX5_type_11 (by decide) ?_
    obtain ⟨q2, hq2, hf⟩ := hf_bind hf
    refine r_callVi (As := [.int (-2)]) (b := (eA E 0)) (st := []) (s_X5_refuse hq2) (by decide) (by decide) wd_251 wd_253 wd_0 wd_68 wd_254 hy_X5_refuse (Rc.obj 0 ga_X rfl) rfl (Nat.le_of_ble_eq_true rfl) dX5_type_13 ?_
    have e9 := Option.some.inj hf
    subst e9
    exact r_iret rfl dX5_type_16
  · have hf := hf_neg c1 hf
    refine r_iload_n dX5_type_4 1 rfl ?_
    refine r_bipush (v := 127) dX5_type_5 (by decide) ?_
    refine r_icmp_le (tgt := 17) dX5_type_7 (by decide) (fun c3 => ?_) (fun c3 => ?_)
    · have hf := hf_pos c3 hf
      refine r_aload_n dX5_type_17 0 rfl ?_
      refine r_get (v := .ref (eA E 20)) in_X5 0 ga_X rfl 4 (by decide) wd_218 rfl rfl dX5_type_18 ?_
      refine r_getN (v := .int S_length) in_X4 20 ga_S rfl 3 (by decide) wn_179 rfl rfl dX5_type_21 ?_
      refine r_bipush (v := 120) dX5_type_24 (by decide) ?_
      refine r_icmp_lt (tgt := 36) dX5_type_26 (by decide) (fun c4 => ?_) (fun c4 => ?_)
      · have hf := hf_pos c4 hf
        refine r_aload_n dX5_type_36 0 rfl ?_
        refine r_get (v := .ref (eA E 20)) in_X5 0 ga_X rfl 4 (by decide) wd_218 rfl rfl dX5_type_37 ?_
        refine r_iload_n dX5_type_40 1 rfl ?_
        obtain ⟨q5, hq5, hf⟩ := hf_bind hf
        refine r_callVi (As := [.int a0]) (b := (eA E 20)) (st := []) (s_X4_append hq5) (by decide) (by decide) wd_588 wd_589 wd_590 wd_72 wd_591 hy_X4_append (Rc.obj 20 ga_S rfl) rfl (Nat.le_of_ble_eq_true rfl) dX5_type_41 ?_
        have e9 := Option.some.inj hf
        subst e9
        exact r_iret rfl dX5_type_44
      · have hf := hf_neg c4 hf
        refine r_aload_n dX5_type_29 0 rfl ?_
        refine r_bipush (v := (-4)) dX5_type_30 (by decide) ?_
        obtain ⟨q6, hq6, hf⟩ := hf_bind hf
        refine r_callVi (As := [.int (-4)]) (b := (eA E 0)) (st := []) (s_X5_refuse hq6) (by decide) (by decide) wd_251 wd_253 wd_0 wd_68 wd_254 hy_X5_refuse (Rc.obj 0 ga_X rfl) rfl (Nat.le_of_ble_eq_true rfl) dX5_type_32 ?_
        have e9 := Option.some.inj hf
        subst e9
        exact r_iret rfl dX5_type_35
    · have hf := hf_neg c3 hf
      refine r_aload_n dX5_type_10 0 rfl ?_
      refine r_bipush (v := (-2)) dX5_type_11 (by decide) ?_
      obtain ⟨q7, hq7, hf⟩ := hf_bind hf
      refine r_callVi (As := [.int (-2)]) (b := (eA E 0)) (st := []) (s_X5_refuse hq7) (by decide) (by decide) wd_251 wd_253 wd_0 wd_68 wd_254 hy_X5_refuse (Rc.obj 0 ga_X rfl) rfl (Nat.le_of_ble_eq_true rfl) dX5_type_13 ?_
      have e9 := Option.some.inj hf
      subst e9
      exact r_iret rfl dX5_type_16
-- DuelSamples.clear
def f_X5_clear (S_length : Int32)  : Option (Int32 × Int32) := some (S_length, 0)
theorem hy_X5_clear : yX5_clear.cls ≠ "java/lang/invoke/MethodHandle" ∧ yX5_clear.cls ≠ "java/lang/invoke/VarHandle" ∧ (parseMethodDescriptor yX5_clear.desc).map (fun d => d.parameters.length) = some 0 := by decide +kernel
set_option maxHeartbeats 4000000 in
set_option maxRecDepth 100000 in
theorem s_X5_clear {E : EN} {hM : TM} {X_method : Int32} {X_refusedBad : Int32} {X_refusedFull : Int32} {R_count : Int32} {R_changes : Int32} {R_F : Nat → Nat → Int32} {L_sample : Int32} {L_plays : Int32} {L_small : Int32} {L_large : Int32} {L_u : Int32} {L_v : Int32} {L_left : Nat → Int32} {L_firsts : Nat → Int32} {L_seconds : Nat → Int32} {L_winners : Nat → Int32} {T_sample : Int32} {T_plays : Int32} {T_small : Int32} {T_large : Int32} {T_u : Int32} {T_v : Int32} {T_left : Nat → Int32} {T_firsts : Nat → Int32} {T_seconds : Nat → Int32} {T_winners : Nat → Int32} {K_atChanges : Int32} {K_atMethod : Int32} {K_seen : Nat → Int64} {S_length : Int32} {S_sentences : Int32} {S_at : Int32} {S_units : Int32} {S_text : Nat → Int32} {S_verbs : Nat → Int32} {S_numbers : Nat → Int32} {P_length : Int32} {P_signs : Nat → Int32}  {qR : Int32 × Int32} (hf : f_X5_clear S_length = some qR) : Sem E yX5_clear cX5_clear 2 (some .int) 1 [.ref (eA E 0)] ((X_method, X_refusedBad, X_refusedFull), (R_count, R_changes, R_F), (L_sample, L_plays, L_small, L_large, L_u, L_v, L_left, L_firsts, L_seconds, L_winners), (T_sample, T_plays, T_small, T_large, T_u, T_v, T_left, T_firsts, T_seconds, T_winners), (K_atChanges, K_atMethod, K_seen), (S_length, S_sentences, S_at, S_units, S_text, S_verbs, S_numbers), (P_length, P_signs), hM) (some (.int qR.1), ((X_method, X_refusedBad, X_refusedFull), (R_count, R_changes, R_F), (L_sample, L_plays, L_small, L_large, L_u, L_v, L_left, L_firsts, L_seconds, L_winners), (T_sample, T_plays, T_small, T_large, T_u, T_v, T_left, T_firsts, T_seconds, T_winners), (K_atChanges, K_atMethod, K_seen), (qR.2, S_sentences, S_at, S_units, S_text, S_verbs, S_numbers), (P_length, P_signs), hM)) := by
  refine Sem.mk (lv := [(0, .ref (eA E 0))]) (by decide) (Nat.le_of_ble_eq_true rfl) rfl ?_
  rw [f_X5_clear] at hf
  refine r_aload_n dX5_clear_0 0 rfl ?_
  refine r_get (v := .ref (eA E 20)) in_X5 0 ga_X rfl 4 (by decide) wd_218 rfl rfl dX5_clear_1 ?_
  refine r_getN (v := .int S_length) in_X4 20 ga_S rfl 3 (by decide) wn_179 rfl rfl dX5_clear_4 ?_
  refine r_istore_n (lv2 := [(1, .int S_length), (0, .ref (eA E 0))]) dX5_clear_7 rfl (by decide) rfl ?_
  refine r_aload_n dX5_clear_8 1 rfl ?_
  refine r_get (v := .ref (eA E 20)) in_X5 0 ga_X rfl 4 (by decide) wd_218 rfl rfl dX5_clear_9 ?_
  refine r_iconst (v := 0) dX5_clear_12 (by decide) ?_
  refine r_putN in_X4 tyX4_ok nmX4 20 ga_S rfl 3 (by decide) wn_179 rfl rfl pfI (Nat.le_of_ble_eq_true rfl) sa_S_length dX5_clear_13 ?_
  refine r_iload_n dX5_clear_16 0 rfl ?_
  have e9 := Option.some.inj hf
  subst e9
  exact r_iret rfl dX5_clear_17
