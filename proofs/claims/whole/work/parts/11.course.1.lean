-- DuelSamples$Course.forget
def f_X0_forget   : Option (Int32 × Int32 × Int32 × Int32) := some (0, 0, 0, 0)
theorem hy_X0_forget : yX0_forget.cls ≠ "java/lang/invoke/MethodHandle" ∧ yX0_forget.cls ≠ "java/lang/invoke/VarHandle" ∧ (parseMethodDescriptor yX0_forget.desc).map (fun d => d.parameters.length) = some 0 := by decide +kernel
set_option maxHeartbeats 4000000 in
set_option maxRecDepth 100000 in
theorem s_X0_forget_L {E : EN} {hX : TX} {hR : TR} {hT : TC} {hK : TK} {hS : TS} {hP : TP} {hM : TM} {C_sample : Int32} {C_plays : Int32} {C_small : Int32} {C_large : Int32} {C_u : Int32} {C_v : Int32} {C_left : Nat → Int32} {C_firsts : Nat → Int32} {C_seconds : Nat → Int32} {C_winners : Nat → Int32}  {qR : Int32 × Int32 × Int32 × Int32} (hf : f_X0_forget  = some qR) : Sem E yX0_forget cX0_forget 1 none 1 [.ref (eA E 8)] (hX, hR, (C_sample, C_plays, C_small, C_large, C_u, C_v, C_left, C_firsts, C_seconds, C_winners), hT, hK, hS, hP, hM) (none, (hX, hR, (qR.1, qR.2.1, qR.2.2.1, qR.2.2.2, C_u, C_v, C_left, C_firsts, C_seconds, C_winners), hT, hK, hS, hP, hM)) := by
  refine Sem.mk (lv := [(0, .ref (eA E 8))]) (by decide) (Nat.le_of_ble_eq_true rfl) rfl ?_
  rw [f_X0_forget] at hf
  refine r_aload_n dX0_forget_0 0 rfl ?_
  refine r_iconst (v := 0) dX0_forget_1 (by decide) ?_
  refine r_put in_X0 tyX0_ok nmX0 8 ga_L rfl 4 (by decide) wd_122 rfl rfl pfI (Nat.le_of_ble_eq_true rfl) sa_L_sample dX0_forget_2 ?_
  refine r_aload_n dX0_forget_5 0 rfl ?_
  refine r_iconst (v := 0) dX0_forget_6 (by decide) ?_
  refine r_put in_X0 tyX0_ok nmX0 8 ga_L rfl 5 (by decide) wd_124 rfl rfl pfI (Nat.le_of_ble_eq_true rfl) sa_L_plays dX0_forget_7 ?_
  refine r_aload_n dX0_forget_10 0 rfl ?_
  refine r_iconst (v := 0) dX0_forget_11 (by decide) ?_
  refine r_put in_X0 tyX0_ok nmX0 8 ga_L rfl 6 (by decide) wd_125 rfl rfl pfI (Nat.le_of_ble_eq_true rfl) sa_L_small dX0_forget_12 ?_
  refine r_aload_n dX0_forget_15 0 rfl ?_
  refine r_iconst (v := 0) dX0_forget_16 (by decide) ?_
  refine r_put in_X0 tyX0_ok nmX0 8 ga_L rfl 7 (by decide) wd_126 rfl rfl pfI (Nat.le_of_ble_eq_true rfl) sa_L_large dX0_forget_17 ?_
  have e9 := Option.some.inj hf
  subst e9
  exact r_vret rfl dX0_forget_20
set_option maxHeartbeats 4000000 in
set_option maxRecDepth 100000 in
theorem s_X0_forget_T {E : EN} {hX : TX} {hR : TR} {hL : TC} {hK : TK} {hS : TS} {hP : TP} {hM : TM} {C_sample : Int32} {C_plays : Int32} {C_small : Int32} {C_large : Int32} {C_u : Int32} {C_v : Int32} {C_left : Nat → Int32} {C_firsts : Nat → Int32} {C_seconds : Nat → Int32} {C_winners : Nat → Int32}  {qR : Int32 × Int32 × Int32 × Int32} (hf : f_X0_forget  = some qR) : Sem E yX0_forget cX0_forget 1 none 1 [.ref (eA E 13)] (hX, hR, hL, (C_sample, C_plays, C_small, C_large, C_u, C_v, C_left, C_firsts, C_seconds, C_winners), hK, hS, hP, hM) (none, (hX, hR, hL, (qR.1, qR.2.1, qR.2.2.1, qR.2.2.2, C_u, C_v, C_left, C_firsts, C_seconds, C_winners), hK, hS, hP, hM)) := by
  refine Sem.mk (lv := [(0, .ref (eA E 13))]) (by decide) (Nat.le_of_ble_eq_true rfl) rfl ?_
  rw [f_X0_forget] at hf
  refine r_aload_n dX0_forget_0 0 rfl ?_
  refine r_iconst (v := 0) dX0_forget_1 (by decide) ?_
  refine r_put in_X0 tyX0_ok nmX0 13 ga_T rfl 4 (by decide) wd_122 rfl rfl pfI (Nat.le_of_ble_eq_true rfl) sa_T_sample dX0_forget_2 ?_
  refine r_aload_n dX0_forget_5 0 rfl ?_
  refine r_iconst (v := 0) dX0_forget_6 (by decide) ?_
  refine r_put in_X0 tyX0_ok nmX0 13 ga_T rfl 5 (by decide) wd_124 rfl rfl pfI (Nat.le_of_ble_eq_true rfl) sa_T_plays dX0_forget_7 ?_
  refine r_aload_n dX0_forget_10 0 rfl ?_
  refine r_iconst (v := 0) dX0_forget_11 (by decide) ?_
  refine r_put in_X0 tyX0_ok nmX0 13 ga_T rfl 6 (by decide) wd_125 rfl rfl pfI (Nat.le_of_ble_eq_true rfl) sa_T_small dX0_forget_12 ?_
  refine r_aload_n dX0_forget_15 0 rfl ?_
  refine r_iconst (v := 0) dX0_forget_16 (by decide) ?_
  refine r_put in_X0 tyX0_ok nmX0 13 ga_T rfl 7 (by decide) wd_126 rfl rfl pfI (Nat.le_of_ble_eq_true rfl) sa_T_large dX0_forget_17 ?_
  have e9 := Option.some.inj hf
  subst e9
  exact r_vret rfl dX0_forget_20
-- DuelSamples$Course.holds
def f_X0_holds (C_sample : Int32) (a0 : Int32) : Option (Int32) := if a0 < 0 then some 0 else if 12 ≤ a0 then some 0 else if ((C_sample >>> (a0 &&& 31)) &&& 1) = 1 then some 1 else some 0
theorem hy_X0_holds : yX0_holds.cls ≠ "java/lang/invoke/MethodHandle" ∧ yX0_holds.cls ≠ "java/lang/invoke/VarHandle" ∧ (parseMethodDescriptor yX0_holds.desc).map (fun d => d.parameters.length) = some 1 := by decide +kernel
set_option maxHeartbeats 4000000 in
set_option maxRecDepth 100000 in
theorem s_X0_holds_L {E : EN} {hX : TX} {hR : TR} {hT : TC} {hK : TK} {hS : TS} {hP : TP} {hM : TM} {C_sample : Int32} {C_plays : Int32} {C_small : Int32} {C_large : Int32} {C_u : Int32} {C_v : Int32} {C_left : Nat → Int32} {C_firsts : Nat → Int32} {C_seconds : Nat → Int32} {C_winners : Nat → Int32} {a0 : Int32} {qR : Int32} (hf : f_X0_holds C_sample a0 = some qR) : Sem E yX0_holds cX0_holds 2 (some .boolean) 1 [.ref (eA E 8), .int a0] (hX, hR, (C_sample, C_plays, C_small, C_large, C_u, C_v, C_left, C_firsts, C_seconds, C_winners), hT, hK, hS, hP, hM) (some (.int qR), (hX, hR, (C_sample, C_plays, C_small, C_large, C_u, C_v, C_left, C_firsts, C_seconds, C_winners), hT, hK, hS, hP, hM)) := by
  refine Sem.mk (lv := [(0, .ref (eA E 8)), (1, .int a0)]) (by decide) (Nat.le_of_ble_eq_true rfl) rfl ?_
  rw [f_X0_holds] at hf
  refine r_iload_n dX0_holds_0 1 rfl ?_
  refine r_if_lt (tgt := 26) dX0_holds_1 (by decide) (fun c1 => ?_) (fun c1 => ?_)
  · have hf := hf_pos c1 hf
    refine r_iconst (v := 0) dX0_holds_26 (by decide) ?_
    have e9 := Option.some.inj hf
    subst e9
    exact r_zret rfl (narB (Or.inl rfl)) dX0_holds_27
  · have hf := hf_neg c1 hf
    refine r_iload_n dX0_holds_4 1 rfl ?_
    refine r_bipush (v := 12) dX0_holds_5 (by decide) ?_
    refine r_icmp_ge (tgt := 26) dX0_holds_7 (by decide) (fun c2 => ?_) (fun c2 => ?_)
    · have hf := hf_pos c2 hf
      refine r_iconst (v := 0) dX0_holds_26 (by decide) ?_
      have e9 := Option.some.inj hf
      subst e9
      exact r_zret rfl (narB (Or.inl rfl)) dX0_holds_27
    · have hf := hf_neg c2 hf
      refine r_aload_n dX0_holds_10 0 rfl ?_
      refine r_get (v := .int C_sample) in_X0 8 ga_L rfl 4 (by decide) wd_122 rfl rfl dX0_holds_11 ?_
      refine r_iload_n dX0_holds_14 1 rfl ?_
      refine r_ishr dX0_holds_15 ?_
      refine r_iconst (v := 1) dX0_holds_16 (by decide) ?_
      refine r_iand dX0_holds_17 ?_
      refine r_iconst (v := 1) dX0_holds_18 (by decide) ?_
      refine r_icmp_ne (tgt := 26) dX0_holds_19 (by decide) (fun c3 => ?_) (fun c3 => ?_)
      · have hf := hf_neg c3 hf
        refine r_iconst (v := 0) dX0_holds_26 (by decide) ?_
        have e9 := Option.some.inj hf
        subst e9
        exact r_zret rfl (narB (Or.inl rfl)) dX0_holds_27
      · have hf := hf_pos c3 hf
        refine r_iconst (v := 1) dX0_holds_22 (by decide) ?_
        refine r_goto (tgt := 27) dX0_holds_23 (by decide) ?_
        have e9 := Option.some.inj hf
        subst e9
        exact r_zret rfl (narB (Or.inr rfl)) dX0_holds_27
set_option maxHeartbeats 4000000 in
set_option maxRecDepth 100000 in
theorem s_X0_holds_T {E : EN} {hX : TX} {hR : TR} {hL : TC} {hK : TK} {hS : TS} {hP : TP} {hM : TM} {C_sample : Int32} {C_plays : Int32} {C_small : Int32} {C_large : Int32} {C_u : Int32} {C_v : Int32} {C_left : Nat → Int32} {C_firsts : Nat → Int32} {C_seconds : Nat → Int32} {C_winners : Nat → Int32} {a0 : Int32} {qR : Int32} (hf : f_X0_holds C_sample a0 = some qR) : Sem E yX0_holds cX0_holds 2 (some .boolean) 1 [.ref (eA E 13), .int a0] (hX, hR, hL, (C_sample, C_plays, C_small, C_large, C_u, C_v, C_left, C_firsts, C_seconds, C_winners), hK, hS, hP, hM) (some (.int qR), (hX, hR, hL, (C_sample, C_plays, C_small, C_large, C_u, C_v, C_left, C_firsts, C_seconds, C_winners), hK, hS, hP, hM)) := by
  refine Sem.mk (lv := [(0, .ref (eA E 13)), (1, .int a0)]) (by decide) (Nat.le_of_ble_eq_true rfl) rfl ?_
  rw [f_X0_holds] at hf
  refine r_iload_n dX0_holds_0 1 rfl ?_
  refine r_if_lt (tgt := 26) dX0_holds_1 (by decide) (fun c1 => ?_) (fun c1 => ?_)
  · have hf := hf_pos c1 hf
    refine r_iconst (v := 0) dX0_holds_26 (by decide) ?_
    have e9 := Option.some.inj hf
    subst e9
    exact r_zret rfl (narB (Or.inl rfl)) dX0_holds_27
  · have hf := hf_neg c1 hf
    refine r_iload_n dX0_holds_4 1 rfl ?_
    refine r_bipush (v := 12) dX0_holds_5 (by decide) ?_
    refine r_icmp_ge (tgt := 26) dX0_holds_7 (by decide) (fun c2 => ?_) (fun c2 => ?_)
    · have hf := hf_pos c2 hf
      refine r_iconst (v := 0) dX0_holds_26 (by decide) ?_
      have e9 := Option.some.inj hf
      subst e9
      exact r_zret rfl (narB (Or.inl rfl)) dX0_holds_27
    · have hf := hf_neg c2 hf
      refine r_aload_n dX0_holds_10 0 rfl ?_
      refine r_get (v := .int C_sample) in_X0 13 ga_T rfl 4 (by decide) wd_122 rfl rfl dX0_holds_11 ?_
      refine r_iload_n dX0_holds_14 1 rfl ?_
      refine r_ishr dX0_holds_15 ?_
      refine r_iconst (v := 1) dX0_holds_16 (by decide) ?_
      refine r_iand dX0_holds_17 ?_
      refine r_iconst (v := 1) dX0_holds_18 (by decide) ?_
      refine r_icmp_ne (tgt := 26) dX0_holds_19 (by decide) (fun c3 => ?_) (fun c3 => ?_)
      · have hf := hf_neg c3 hf
        refine r_iconst (v := 0) dX0_holds_26 (by decide) ?_
        have e9 := Option.some.inj hf
        subst e9
        exact r_zret rfl (narB (Or.inl rfl)) dX0_holds_27
      · have hf := hf_pos c3 hf
        refine r_iconst (v := 1) dX0_holds_22 (by decide) ?_
        refine r_goto (tgt := 27) dX0_holds_23 (by decide) ?_
        have e9 := Option.some.inj hf
        subst e9
        exact r_zret rfl (narB (Or.inr rfl)) dX0_holds_27
-- DuelSamples$Course.begin
def lp_X0_begin_2 (R_count : Int32) (R_F : Nat → Nat → Int32) : Nat → Int32 → (Nat → Int32) → Option ((Nat → Int32))
  | 0, _, _ => none
  | n9 + 1, v2_2, C_left_2 => if 12 ≤ v2_2 then some C_left_2 else Option.bind (f_X3_fact R_count R_F v2_2 0) (fun (q2 : Int32) => if inB v2_2 12 then lp_X0_begin_2 R_count R_F n9 (v2_2 + 1) (upd C_left_2 (Int32.toNatClampNeg v2_2) q2) else none)
def f_X0_begin (R_count : Int32) (R_F : Nat → Nat → Int32) (C_left : Nat → Int32)  : Option ((Nat → Int32)) := Option.bind (lp_X0_begin_2 R_count R_F FU 0 C_left) (fun (q4 : (Nat → Int32)) => some q4)
theorem hy_X0_begin : yX0_begin.cls ≠ "java/lang/invoke/MethodHandle" ∧ yX0_begin.cls ≠ "java/lang/invoke/VarHandle" ∧ (parseMethodDescriptor yX0_begin.desc).map (fun d => d.parameters.length) = some 1 := by decide +kernel
set_option maxHeartbeats 4000000 in
set_option maxRecDepth 100000 in
theorem w_X0_begin_2_L {E : EN} {res : Option Value × Hp} {hX : TX} {hT : TC} {hK : TK} {hS : TS} {hP : TP} {hM : TM} {R_count : Int32} {R_changes : Int32} {R_F : Nat → Nat → Int32} {C_sample : Int32} {C_plays : Int32} {C_small : Int32} {C_large : Int32} {C_u : Int32} {C_v : Int32} {C_firsts : Nat → Int32} {C_seconds : Nat → Int32} {C_winners : Nat → Int32} : ∀ (n9 : Nat) (v2_2 : Int32) (C_left_2 : Nat → Int32) (qL : (Nat → Int32)), lp_X0_begin_2 R_count R_F n9 v2_2 C_left_2 = some qL → (Wa E yX0_begin cX0_begin 3 none 2 res 26 [] [] (hX, (R_count, R_changes, R_F), (C_sample, C_plays, C_small, C_large, C_u, C_v, qL, C_firsts, C_seconds, C_winners), hT, hK, hS, hP, hM)) → Wa E yX0_begin cX0_begin 3 none 2 res 2 [(0, .ref (eA E 8)), (1, .ref (eA E 1)), (2, .int v2_2)] [] (hX, (R_count, R_changes, R_F), (C_sample, C_plays, C_small, C_large, C_u, C_v, C_left_2, C_firsts, C_seconds, C_winners), hT, hK, hS, hP, hM) := by
  intro n9
  induction n9 with
  | zero =>
    intro v2_2 C_left_2 qL hf
    exact nomatch (show (none : Option ((Nat → Int32))) = some qL from hf)
  | succ n9 ih =>
    intro v2_2 C_left_2 qL hf kx0
    rw [lp_X0_begin_2] at hf
    refine r_iload_n dX0_begin_2 2 rfl ?_
    refine r_bipush (v := 12) dX0_begin_3 (by decide) ?_
    refine r_icmp_ge (tgt := 26) dX0_begin_5 (by decide) (fun c1 => ?_) (fun c1 => ?_)
    · have hf := hf_pos c1 hf
      have e9 := Option.some.inj hf
      subst e9
      exact (Wa.sub [] rfl kx0)
    · have hf := hf_neg c1 hf
      refine r_aload_n dX0_begin_8 0 rfl ?_
      refine r_get (v := .ref (eA E 9)) in_X0 8 ga_L rfl 0 (by decide) wd_118 rfl rfl dX0_begin_9 ?_
      refine r_iload_n dX0_begin_12 2 rfl ?_
      refine r_aload_n dX0_begin_13 1 rfl ?_
      refine r_iload_n dX0_begin_14 2 rfl ?_
      refine r_iconst (v := 0) dX0_begin_15 (by decide) ?_
      obtain ⟨q2, hq2, hf⟩ := hf_bind hf
      refine r_callVi (As := [.int v2_2, .int 0]) (b := (eA E 1)) (st := [.int v2_2, .ref (eA E 9)]) (s_X3_fact hq2) (by decide) (by decide) wd_356 wd_311 wd_312 wd_69 wd_313 hy_X3_fact (Rc.obj 1 ga_R rfl) rfl (Nat.le_of_ble_eq_true rfl) dX0_begin_16 ?_
      obtain ⟨i3, hf⟩ := hf_in hf
      refine r_iast 9 ga_L_left sa_L_left i3 dX0_begin_19 ?_
      refine r_iinc (v := (v2_2 + 1)) (lv2 := [(2, .int (v2_2 + 1)), (0, .ref (eA E 8)), (1, .ref (eA E 1))]) dX0_begin_20 2 rfl rfl (by decide) rfl ?_
      refine r_goto (tgt := 2) dX0_begin_23 (by decide) ?_
      exact (Wa.sub [1, 2, 0] rfl (ih _ _ _ hf kx0))
set_option maxHeartbeats 4000000 in
set_option maxRecDepth 100000 in
theorem s_X0_begin_L {E : EN} {hX : TX} {hT : TC} {hK : TK} {hS : TS} {hP : TP} {hM : TM} {R_count : Int32} {R_changes : Int32} {R_F : Nat → Nat → Int32} {C_sample : Int32} {C_plays : Int32} {C_small : Int32} {C_large : Int32} {C_u : Int32} {C_v : Int32} {C_left : Nat → Int32} {C_firsts : Nat → Int32} {C_seconds : Nat → Int32} {C_winners : Nat → Int32}  {qR : (Nat → Int32)} (hf : f_X0_begin R_count R_F C_left = some qR) : Sem E yX0_begin cX0_begin 3 none 2 [.ref (eA E 8), .ref (eA E 1)] (hX, (R_count, R_changes, R_F), (C_sample, C_plays, C_small, C_large, C_u, C_v, C_left, C_firsts, C_seconds, C_winners), hT, hK, hS, hP, hM) (none, (hX, (R_count, R_changes, R_F), (C_sample, C_plays, C_small, C_large, C_u, C_v, qR, C_firsts, C_seconds, C_winners), hT, hK, hS, hP, hM)) := by
  refine Sem.mk (lv := [(0, .ref (eA E 8)), (1, .ref (eA E 1))]) (by decide) (Nat.le_of_ble_eq_true rfl) rfl ?_
  rw [f_X0_begin] at hf
  refine r_iconst (v := 0) dX0_begin_0 (by decide) ?_
  refine r_istore_n (lv2 := [(2, .int 0), (0, .ref (eA E 8)), (1, .ref (eA E 1))]) dX0_begin_1 rfl (by decide) rfl ?_
  obtain ⟨q4, hq4, hf⟩ := hf_bind hf
  refine (Wa.sub [1, 2, 0] rfl (w_X0_begin_2_L _ _ _ _ hq4 ?_))
  have e9 := Option.some.inj hf
  subst e9
  exact r_vret rfl dX0_begin_26
set_option maxHeartbeats 4000000 in
set_option maxRecDepth 100000 in
theorem w_X0_begin_2_T {E : EN} {res : Option Value × Hp} {hX : TX} {hL : TC} {hK : TK} {hS : TS} {hP : TP} {hM : TM} {R_count : Int32} {R_changes : Int32} {R_F : Nat → Nat → Int32} {C_sample : Int32} {C_plays : Int32} {C_small : Int32} {C_large : Int32} {C_u : Int32} {C_v : Int32} {C_firsts : Nat → Int32} {C_seconds : Nat → Int32} {C_winners : Nat → Int32} : ∀ (n9 : Nat) (v2_2 : Int32) (C_left_2 : Nat → Int32) (qL : (Nat → Int32)), lp_X0_begin_2 R_count R_F n9 v2_2 C_left_2 = some qL → (Wa E yX0_begin cX0_begin 3 none 2 res 26 [] [] (hX, (R_count, R_changes, R_F), hL, (C_sample, C_plays, C_small, C_large, C_u, C_v, qL, C_firsts, C_seconds, C_winners), hK, hS, hP, hM)) → Wa E yX0_begin cX0_begin 3 none 2 res 2 [(0, .ref (eA E 13)), (1, .ref (eA E 1)), (2, .int v2_2)] [] (hX, (R_count, R_changes, R_F), hL, (C_sample, C_plays, C_small, C_large, C_u, C_v, C_left_2, C_firsts, C_seconds, C_winners), hK, hS, hP, hM) := by
  intro n9
  induction n9 with
  | zero =>
    intro v2_2 C_left_2 qL hf
    exact nomatch (show (none : Option ((Nat → Int32))) = some qL from hf)
  | succ n9 ih =>
    intro v2_2 C_left_2 qL hf kx0
    rw [lp_X0_begin_2] at hf
    refine r_iload_n dX0_begin_2 2 rfl ?_
    refine r_bipush (v := 12) dX0_begin_3 (by decide) ?_
    refine r_icmp_ge (tgt := 26) dX0_begin_5 (by decide) (fun c1 => ?_) (fun c1 => ?_)
    · have hf := hf_pos c1 hf
      have e9 := Option.some.inj hf
      subst e9
      exact (Wa.sub [] rfl kx0)
    · have hf := hf_neg c1 hf
      refine r_aload_n dX0_begin_8 0 rfl ?_
      refine r_get (v := .ref (eA E 14)) in_X0 13 ga_T rfl 0 (by decide) wd_118 rfl rfl dX0_begin_9 ?_
      refine r_iload_n dX0_begin_12 2 rfl ?_
      refine r_aload_n dX0_begin_13 1 rfl ?_
      refine r_iload_n dX0_begin_14 2 rfl ?_
      refine r_iconst (v := 0) dX0_begin_15 (by decide) ?_
      obtain ⟨q2, hq2, hf⟩ := hf_bind hf
      refine r_callVi (As := [.int v2_2, .int 0]) (b := (eA E 1)) (st := [.int v2_2, .ref (eA E 14)]) (s_X3_fact hq2) (by decide) (by decide) wd_356 wd_311 wd_312 wd_69 wd_313 hy_X3_fact (Rc.obj 1 ga_R rfl) rfl (Nat.le_of_ble_eq_true rfl) dX0_begin_16 ?_
      obtain ⟨i3, hf⟩ := hf_in hf
      refine r_iast 14 ga_T_left sa_T_left i3 dX0_begin_19 ?_
      refine r_iinc (v := (v2_2 + 1)) (lv2 := [(2, .int (v2_2 + 1)), (0, .ref (eA E 13)), (1, .ref (eA E 1))]) dX0_begin_20 2 rfl rfl (by decide) rfl ?_
      refine r_goto (tgt := 2) dX0_begin_23 (by decide) ?_
      exact (Wa.sub [1, 2, 0] rfl (ih _ _ _ hf kx0))
set_option maxHeartbeats 4000000 in
set_option maxRecDepth 100000 in
theorem s_X0_begin_T {E : EN} {hX : TX} {hL : TC} {hK : TK} {hS : TS} {hP : TP} {hM : TM} {R_count : Int32} {R_changes : Int32} {R_F : Nat → Nat → Int32} {C_sample : Int32} {C_plays : Int32} {C_small : Int32} {C_large : Int32} {C_u : Int32} {C_v : Int32} {C_left : Nat → Int32} {C_firsts : Nat → Int32} {C_seconds : Nat → Int32} {C_winners : Nat → Int32}  {qR : (Nat → Int32)} (hf : f_X0_begin R_count R_F C_left = some qR) : Sem E yX0_begin cX0_begin 3 none 2 [.ref (eA E 13), .ref (eA E 1)] (hX, (R_count, R_changes, R_F), hL, (C_sample, C_plays, C_small, C_large, C_u, C_v, C_left, C_firsts, C_seconds, C_winners), hK, hS, hP, hM) (none, (hX, (R_count, R_changes, R_F), hL, (C_sample, C_plays, C_small, C_large, C_u, C_v, qR, C_firsts, C_seconds, C_winners), hK, hS, hP, hM)) := by
  refine Sem.mk (lv := [(0, .ref (eA E 13)), (1, .ref (eA E 1))]) (by decide) (Nat.le_of_ble_eq_true rfl) rfl ?_
  rw [f_X0_begin] at hf
  refine r_iconst (v := 0) dX0_begin_0 (by decide) ?_
  refine r_istore_n (lv2 := [(2, .int 0), (0, .ref (eA E 13)), (1, .ref (eA E 1))]) dX0_begin_1 rfl (by decide) rfl ?_
  obtain ⟨q4, hq4, hf⟩ := hf_bind hf
  refine (Wa.sub [1, 2, 0] rfl (w_X0_begin_2_T _ _ _ _ hq4 ?_))
  have e9 := Option.some.inj hf
  subst e9
  exact r_vret rfl dX0_begin_26
-- DuelSamples$Course.isOpen
def f_X0_isOpen (C_left : Nat → Int32) (a0 : Int32) : Option (Int32) := if a0 < 0 then some 0 else if 12 ≤ a0 then some 0 else if inB a0 12 then if (C_left (Int32.toNatClampNeg a0)) ≤ 0 then some 0 else if inB a0 12 then if 12 ≤ (C_left (Int32.toNatClampNeg a0)) then some 0 else some 1 else none else none
theorem hy_X0_isOpen : yX0_isOpen.cls ≠ "java/lang/invoke/MethodHandle" ∧ yX0_isOpen.cls ≠ "java/lang/invoke/VarHandle" ∧ (parseMethodDescriptor yX0_isOpen.desc).map (fun d => d.parameters.length) = some 1 := by decide +kernel
set_option maxHeartbeats 4000000 in
set_option maxRecDepth 100000 in
theorem s_X0_isOpen_L {E : EN} {hX : TX} {hR : TR} {hT : TC} {hK : TK} {hS : TS} {hP : TP} {hM : TM} {C_sample : Int32} {C_plays : Int32} {C_small : Int32} {C_large : Int32} {C_u : Int32} {C_v : Int32} {C_left : Nat → Int32} {C_firsts : Nat → Int32} {C_seconds : Nat → Int32} {C_winners : Nat → Int32} {a0 : Int32} {qR : Int32} (hf : f_X0_isOpen C_left a0 = some qR) : Sem E yX0_isOpen cX0_isOpen 2 (some .boolean) 1 [.ref (eA E 8), .int a0] (hX, hR, (C_sample, C_plays, C_small, C_large, C_u, C_v, C_left, C_firsts, C_seconds, C_winners), hT, hK, hS, hP, hM) (some (.int qR), (hX, hR, (C_sample, C_plays, C_small, C_large, C_u, C_v, C_left, C_firsts, C_seconds, C_winners), hT, hK, hS, hP, hM)) := by
  refine Sem.mk (lv := [(0, .ref (eA E 8)), (1, .int a0)]) (by decide) (Nat.le_of_ble_eq_true rfl) rfl ?_
  rw [f_X0_isOpen] at hf
  refine r_iload_n dX0_isOpen_0 1 rfl ?_
  refine r_if_lt (tgt := 34) dX0_isOpen_1 (by decide) (fun c1 => ?_) (fun c1 => ?_)
  · have hf := hf_pos c1 hf
    refine r_iconst (v := 0) dX0_isOpen_34 (by decide) ?_
    have e9 := Option.some.inj hf
    subst e9
    exact r_zret rfl (narB (Or.inl rfl)) dX0_isOpen_35
  · have hf := hf_neg c1 hf
    refine r_iload_n dX0_isOpen_4 1 rfl ?_
    refine r_bipush (v := 12) dX0_isOpen_5 (by decide) ?_
    refine r_icmp_ge (tgt := 34) dX0_isOpen_7 (by decide) (fun c2 => ?_) (fun c2 => ?_)
    · have hf := hf_pos c2 hf
      refine r_iconst (v := 0) dX0_isOpen_34 (by decide) ?_
      have e9 := Option.some.inj hf
      subst e9
      exact r_zret rfl (narB (Or.inl rfl)) dX0_isOpen_35
    · have hf := hf_neg c2 hf
      refine r_aload_n dX0_isOpen_10 0 rfl ?_
      refine r_get (v := .ref (eA E 9)) in_X0 8 ga_L rfl 0 (by decide) wd_118 rfl rfl dX0_isOpen_11 ?_
      refine r_iload_n dX0_isOpen_14 1 rfl ?_
      obtain ⟨i3, hf⟩ := hf_in hf
      refine r_iald (f := C_left) 9 ga_L_left i3 dX0_isOpen_15 ?_
      refine r_if_le (tgt := 34) dX0_isOpen_16 (by decide) (fun c4 => ?_) (fun c4 => ?_)
      · have hf := hf_pos c4 hf
        refine r_iconst (v := 0) dX0_isOpen_34 (by decide) ?_
        have e9 := Option.some.inj hf
        subst e9
        exact r_zret rfl (narB (Or.inl rfl)) dX0_isOpen_35
      · have hf := hf_neg c4 hf
        refine r_aload_n dX0_isOpen_19 0 rfl ?_
        refine r_get (v := .ref (eA E 9)) in_X0 8 ga_L rfl 0 (by decide) wd_118 rfl rfl dX0_isOpen_20 ?_
        refine r_iload_n dX0_isOpen_23 1 rfl ?_
        obtain ⟨i5, hf⟩ := hf_in hf
        refine r_iald (f := C_left) 9 ga_L_left i5 dX0_isOpen_24 ?_
        refine r_bipush (v := 12) dX0_isOpen_25 (by decide) ?_
        refine r_icmp_ge (tgt := 34) dX0_isOpen_27 (by decide) (fun c6 => ?_) (fun c6 => ?_)
        · have hf := hf_pos c6 hf
          refine r_iconst (v := 0) dX0_isOpen_34 (by decide) ?_
          have e9 := Option.some.inj hf
          subst e9
          exact r_zret rfl (narB (Or.inl rfl)) dX0_isOpen_35
        · have hf := hf_neg c6 hf
          refine r_iconst (v := 1) dX0_isOpen_30 (by decide) ?_
          refine r_goto (tgt := 35) dX0_isOpen_31 (by decide) ?_
          have e9 := Option.some.inj hf
          subst e9
          exact r_zret rfl (narB (Or.inr rfl)) dX0_isOpen_35
set_option maxHeartbeats 4000000 in
set_option maxRecDepth 100000 in
theorem s_X0_isOpen_T {E : EN} {hX : TX} {hR : TR} {hL : TC} {hK : TK} {hS : TS} {hP : TP} {hM : TM} {C_sample : Int32} {C_plays : Int32} {C_small : Int32} {C_large : Int32} {C_u : Int32} {C_v : Int32} {C_left : Nat → Int32} {C_firsts : Nat → Int32} {C_seconds : Nat → Int32} {C_winners : Nat → Int32} {a0 : Int32} {qR : Int32} (hf : f_X0_isOpen C_left a0 = some qR) : Sem E yX0_isOpen cX0_isOpen 2 (some .boolean) 1 [.ref (eA E 13), .int a0] (hX, hR, hL, (C_sample, C_plays, C_small, C_large, C_u, C_v, C_left, C_firsts, C_seconds, C_winners), hK, hS, hP, hM) (some (.int qR), (hX, hR, hL, (C_sample, C_plays, C_small, C_large, C_u, C_v, C_left, C_firsts, C_seconds, C_winners), hK, hS, hP, hM)) := by
  refine Sem.mk (lv := [(0, .ref (eA E 13)), (1, .int a0)]) (by decide) (Nat.le_of_ble_eq_true rfl) rfl ?_
  rw [f_X0_isOpen] at hf
  refine r_iload_n dX0_isOpen_0 1 rfl ?_
  refine r_if_lt (tgt := 34) dX0_isOpen_1 (by decide) (fun c1 => ?_) (fun c1 => ?_)
  · have hf := hf_pos c1 hf
    refine r_iconst (v := 0) dX0_isOpen_34 (by decide) ?_
    have e9 := Option.some.inj hf
    subst e9
    exact r_zret rfl (narB (Or.inl rfl)) dX0_isOpen_35
  · have hf := hf_neg c1 hf
    refine r_iload_n dX0_isOpen_4 1 rfl ?_
    refine r_bipush (v := 12) dX0_isOpen_5 (by decide) ?_
    refine r_icmp_ge (tgt := 34) dX0_isOpen_7 (by decide) (fun c2 => ?_) (fun c2 => ?_)
    · have hf := hf_pos c2 hf
      refine r_iconst (v := 0) dX0_isOpen_34 (by decide) ?_
      have e9 := Option.some.inj hf
      subst e9
      exact r_zret rfl (narB (Or.inl rfl)) dX0_isOpen_35
    · have hf := hf_neg c2 hf
      refine r_aload_n dX0_isOpen_10 0 rfl ?_
      refine r_get (v := .ref (eA E 14)) in_X0 13 ga_T rfl 0 (by decide) wd_118 rfl rfl dX0_isOpen_11 ?_
      refine r_iload_n dX0_isOpen_14 1 rfl ?_
      obtain ⟨i3, hf⟩ := hf_in hf
      refine r_iald (f := C_left) 14 ga_T_left i3 dX0_isOpen_15 ?_
      refine r_if_le (tgt := 34) dX0_isOpen_16 (by decide) (fun c4 => ?_) (fun c4 => ?_)
      · have hf := hf_pos c4 hf
        refine r_iconst (v := 0) dX0_isOpen_34 (by decide) ?_
        have e9 := Option.some.inj hf
        subst e9
        exact r_zret rfl (narB (Or.inl rfl)) dX0_isOpen_35
      · have hf := hf_neg c4 hf
        refine r_aload_n dX0_isOpen_19 0 rfl ?_
        refine r_get (v := .ref (eA E 14)) in_X0 13 ga_T rfl 0 (by decide) wd_118 rfl rfl dX0_isOpen_20 ?_
        refine r_iload_n dX0_isOpen_23 1 rfl ?_
        obtain ⟨i5, hf⟩ := hf_in hf
        refine r_iald (f := C_left) 14 ga_T_left i5 dX0_isOpen_24 ?_
        refine r_bipush (v := 12) dX0_isOpen_25 (by decide) ?_
        refine r_icmp_ge (tgt := 34) dX0_isOpen_27 (by decide) (fun c6 => ?_) (fun c6 => ?_)
        · have hf := hf_pos c6 hf
          refine r_iconst (v := 0) dX0_isOpen_34 (by decide) ?_
          have e9 := Option.some.inj hf
          subst e9
          exact r_zret rfl (narB (Or.inl rfl)) dX0_isOpen_35
        · have hf := hf_neg c6 hf
          refine r_iconst (v := 1) dX0_isOpen_30 (by decide) ?_
          refine r_goto (tgt := 35) dX0_isOpen_31 (by decide) ?_
          have e9 := Option.some.inj hf
          subst e9
          exact r_zret rfl (narB (Or.inr rfl)) dX0_isOpen_35
-- DuelSamples$Course.openFrom
def lp_X0_openFrom_2 (C_left : Nat → Int32) : Nat → Int32 → Option (Nat × Int32)
  | 0, _ => none
  | n9 + 1, v2_2 => if 12 ≤ v2_2 then some (1, v2_2) else Option.bind (f_X0_isOpen C_left v2_2) (fun (q2 : Int32) => if q2 = 0 then lp_X0_openFrom_2 C_left n9 (v2_2 + 1) else some (0, v2_2))
def f_X0_openFrom (C_left : Nat → Int32) (a0 : Int32) : Option (Int32) := Option.bind (lp_X0_openFrom_2 C_left FU a0) (fun (q4 : Nat × Int32) => if q4.1 = 0 then some q4.2 else some (-1))
theorem hy_X0_openFrom : yX0_openFrom.cls ≠ "java/lang/invoke/MethodHandle" ∧ yX0_openFrom.cls ≠ "java/lang/invoke/VarHandle" ∧ (parseMethodDescriptor yX0_openFrom.desc).map (fun d => d.parameters.length) = some 1 := by decide +kernel
set_option maxHeartbeats 4000000 in
set_option maxRecDepth 100000 in
theorem w_X0_openFrom_2_L {E : EN} {res : Option Value × Hp} {hX : TX} {hR : TR} {hT : TC} {hK : TK} {hS : TS} {hP : TP} {hM : TM} {C_sample : Int32} {C_plays : Int32} {C_small : Int32} {C_large : Int32} {C_u : Int32} {C_v : Int32} {C_left : Nat → Int32} {C_firsts : Nat → Int32} {C_seconds : Nat → Int32} {C_winners : Nat → Int32} : ∀ (n9 : Nat) (v2_2 : Int32) (qL : Nat × Int32), lp_X0_openFrom_2 C_left n9 v2_2 = some qL → (qL.1 = 0 → Wa E yX0_openFrom cX0_openFrom 3 (some .int) 2 res 16 [(2, .int qL.2)] [] (hX, hR, (C_sample, C_plays, C_small, C_large, C_u, C_v, C_left, C_firsts, C_seconds, C_winners), hT, hK, hS, hP, hM)) → (qL.1 = 1 → Wa E yX0_openFrom cX0_openFrom 3 (some .int) 2 res 24 [] [] (hX, hR, (C_sample, C_plays, C_small, C_large, C_u, C_v, C_left, C_firsts, C_seconds, C_winners), hT, hK, hS, hP, hM)) → Wa E yX0_openFrom cX0_openFrom 3 (some .int) 2 res 2 [(0, .ref (eA E 8)), (2, .int v2_2)] [] (hX, hR, (C_sample, C_plays, C_small, C_large, C_u, C_v, C_left, C_firsts, C_seconds, C_winners), hT, hK, hS, hP, hM) := by
  intro n9
  induction n9 with
  | zero =>
    intro v2_2 qL hf
    exact nomatch (show (none : Option (Nat × Int32)) = some qL from hf)
  | succ n9 ih =>
    intro v2_2 qL hf kx0 kx1
    rw [lp_X0_openFrom_2] at hf
    refine r_iload_n dX0_openFrom_2 1 rfl ?_
    refine r_bipush (v := 12) dX0_openFrom_3 (by decide) ?_
    refine r_icmp_ge (tgt := 24) dX0_openFrom_5 (by decide) (fun c1 => ?_) (fun c1 => ?_)
    · have hf := hf_pos c1 hf
      have e9 := Option.some.inj hf
      subst e9
      exact (Wa.sub [] rfl (kx1 rfl))
    · have hf := hf_neg c1 hf
      refine r_aload_n dX0_openFrom_8 0 rfl ?_
      refine r_iload_n dX0_openFrom_9 1 rfl ?_
      obtain ⟨q2, hq2, hf⟩ := hf_bind hf
      refine r_callVi (As := [.int v2_2]) (b := (eA E 8)) (st := []) (s_X0_isOpen_L hq2) (by decide) (by decide) wd_365 wd_367 wd_4 wd_70 wd_368 hy_X0_isOpen (Rc.obj 8 ga_L rfl) rfl (Nat.le_of_ble_eq_true rfl) dX0_openFrom_10 ?_
      refine r_if_eq (tgt := 18) dX0_openFrom_13 (by decide) (fun c3 => ?_) (fun c3 => ?_)
      · have hf := hf_pos c3 hf
        refine r_iinc (v := (v2_2 + 1)) (lv2 := [(2, .int (v2_2 + 1)), (0, .ref (eA E 8))]) dX0_openFrom_18 1 rfl rfl (by decide) rfl ?_
        refine r_goto (tgt := 2) dX0_openFrom_21 (by decide) ?_
        exact (Wa.sub [1, 0] rfl (ih _ _ hf kx0 kx1))
      · have hf := hf_neg c3 hf
        have e9 := Option.some.inj hf
        subst e9
        exact (Wa.sub [1] rfl (kx0 rfl))
set_option maxHeartbeats 4000000 in
set_option maxRecDepth 100000 in
theorem s_X0_openFrom_L {E : EN} {hX : TX} {hR : TR} {hT : TC} {hK : TK} {hS : TS} {hP : TP} {hM : TM} {C_sample : Int32} {C_plays : Int32} {C_small : Int32} {C_large : Int32} {C_u : Int32} {C_v : Int32} {C_left : Nat → Int32} {C_firsts : Nat → Int32} {C_seconds : Nat → Int32} {C_winners : Nat → Int32} {a0 : Int32} {qR : Int32} (hf : f_X0_openFrom C_left a0 = some qR) : Sem E yX0_openFrom cX0_openFrom 3 (some .int) 2 [.ref (eA E 8), .int a0] (hX, hR, (C_sample, C_plays, C_small, C_large, C_u, C_v, C_left, C_firsts, C_seconds, C_winners), hT, hK, hS, hP, hM) (some (.int qR), (hX, hR, (C_sample, C_plays, C_small, C_large, C_u, C_v, C_left, C_firsts, C_seconds, C_winners), hT, hK, hS, hP, hM)) := by
  refine Sem.mk (lv := [(0, .ref (eA E 8)), (1, .int a0)]) (by decide) (Nat.le_of_ble_eq_true rfl) rfl ?_
  rw [f_X0_openFrom] at hf
  refine r_iload_n dX0_openFrom_0 1 rfl ?_
  refine r_istore_n (lv2 := [(2, .int a0), (0, .ref (eA E 8)), (1, .int a0)]) dX0_openFrom_1 rfl (by decide) rfl ?_
  obtain ⟨q4, hq4, hf⟩ := hf_bind hf
  refine (Wa.sub [1, 0] rfl (w_X0_openFrom_2_L _ _ _ hq4 ?_ ?_))
  · intro ht
    have hf := hf_pos ht hf
    refine r_iload_n dX0_openFrom_16 0 rfl ?_
    have e9 := Option.some.inj hf
    subst e9
    exact r_iret rfl dX0_openFrom_17
  · intro ht
    have hf := hf_neg (show ¬ q4.1 = 0 by rw [ht]; decide) hf
    refine r_iconst (v := (-1)) dX0_openFrom_24 (by decide) ?_
    have e9 := Option.some.inj hf
    subst e9
    exact r_iret rfl dX0_openFrom_25
set_option maxHeartbeats 4000000 in
set_option maxRecDepth 100000 in
theorem w_X0_openFrom_2_T {E : EN} {res : Option Value × Hp} {hX : TX} {hR : TR} {hL : TC} {hK : TK} {hS : TS} {hP : TP} {hM : TM} {C_sample : Int32} {C_plays : Int32} {C_small : Int32} {C_large : Int32} {C_u : Int32} {C_v : Int32} {C_left : Nat → Int32} {C_firsts : Nat → Int32} {C_seconds : Nat → Int32} {C_winners : Nat → Int32} : ∀ (n9 : Nat) (v2_2 : Int32) (qL : Nat × Int32), lp_X0_openFrom_2 C_left n9 v2_2 = some qL → (qL.1 = 0 → Wa E yX0_openFrom cX0_openFrom 3 (some .int) 2 res 16 [(2, .int qL.2)] [] (hX, hR, hL, (C_sample, C_plays, C_small, C_large, C_u, C_v, C_left, C_firsts, C_seconds, C_winners), hK, hS, hP, hM)) → (qL.1 = 1 → Wa E yX0_openFrom cX0_openFrom 3 (some .int) 2 res 24 [] [] (hX, hR, hL, (C_sample, C_plays, C_small, C_large, C_u, C_v, C_left, C_firsts, C_seconds, C_winners), hK, hS, hP, hM)) → Wa E yX0_openFrom cX0_openFrom 3 (some .int) 2 res 2 [(0, .ref (eA E 13)), (2, .int v2_2)] [] (hX, hR, hL, (C_sample, C_plays, C_small, C_large, C_u, C_v, C_left, C_firsts, C_seconds, C_winners), hK, hS, hP, hM) := by
  intro n9
  induction n9 with
  | zero =>
    intro v2_2 qL hf
    exact nomatch (show (none : Option (Nat × Int32)) = some qL from hf)
  | succ n9 ih =>
    intro v2_2 qL hf kx0 kx1
    rw [lp_X0_openFrom_2] at hf
    refine r_iload_n dX0_openFrom_2 1 rfl ?_
    refine r_bipush (v := 12) dX0_openFrom_3 (by decide) ?_
    refine r_icmp_ge (tgt := 24) dX0_openFrom_5 (by decide) (fun c1 => ?_) (fun c1 => ?_)
    · have hf := hf_pos c1 hf
      have e9 := Option.some.inj hf
      subst e9
      exact (Wa.sub [] rfl (kx1 rfl))
    · have hf := hf_neg c1 hf
      refine r_aload_n dX0_openFrom_8 0 rfl ?_
      refine r_iload_n dX0_openFrom_9 1 rfl ?_
      obtain ⟨q2, hq2, hf⟩ := hf_bind hf
      refine r_callVi (As := [.int v2_2]) (b := (eA E 13)) (st := []) (s_X0_isOpen_T hq2) (by decide) (by decide) wd_365 wd_367 wd_4 wd_70 wd_368 hy_X0_isOpen (Rc.obj 13 ga_T rfl) rfl (Nat.le_of_ble_eq_true rfl) dX0_openFrom_10 ?_
      refine r_if_eq (tgt := 18) dX0_openFrom_13 (by decide) (fun c3 => ?_) (fun c3 => ?_)
      · have hf := hf_pos c3 hf
        refine r_iinc (v := (v2_2 + 1)) (lv2 := [(2, .int (v2_2 + 1)), (0, .ref (eA E 13))]) dX0_openFrom_18 1 rfl rfl (by decide) rfl ?_
        refine r_goto (tgt := 2) dX0_openFrom_21 (by decide) ?_
        exact (Wa.sub [1, 0] rfl (ih _ _ hf kx0 kx1))
      · have hf := hf_neg c3 hf
        have e9 := Option.some.inj hf
        subst e9
        exact (Wa.sub [1] rfl (kx0 rfl))
set_option maxHeartbeats 4000000 in
set_option maxRecDepth 100000 in
theorem s_X0_openFrom_T {E : EN} {hX : TX} {hR : TR} {hL : TC} {hK : TK} {hS : TS} {hP : TP} {hM : TM} {C_sample : Int32} {C_plays : Int32} {C_small : Int32} {C_large : Int32} {C_u : Int32} {C_v : Int32} {C_left : Nat → Int32} {C_firsts : Nat → Int32} {C_seconds : Nat → Int32} {C_winners : Nat → Int32} {a0 : Int32} {qR : Int32} (hf : f_X0_openFrom C_left a0 = some qR) : Sem E yX0_openFrom cX0_openFrom 3 (some .int) 2 [.ref (eA E 13), .int a0] (hX, hR, hL, (C_sample, C_plays, C_small, C_large, C_u, C_v, C_left, C_firsts, C_seconds, C_winners), hK, hS, hP, hM) (some (.int qR), (hX, hR, hL, (C_sample, C_plays, C_small, C_large, C_u, C_v, C_left, C_firsts, C_seconds, C_winners), hK, hS, hP, hM)) := by
  refine Sem.mk (lv := [(0, .ref (eA E 13)), (1, .int a0)]) (by decide) (Nat.le_of_ble_eq_true rfl) rfl ?_
  rw [f_X0_openFrom] at hf
  refine r_iload_n dX0_openFrom_0 1 rfl ?_
  refine r_istore_n (lv2 := [(2, .int a0), (0, .ref (eA E 13)), (1, .int a0)]) dX0_openFrom_1 rfl (by decide) rfl ?_
  obtain ⟨q4, hq4, hf⟩ := hf_bind hf
  refine (Wa.sub [1, 0] rfl (w_X0_openFrom_2_T _ _ _ hq4 ?_ ?_))
  · intro ht
    have hf := hf_pos ht hf
    refine r_iload_n dX0_openFrom_16 0 rfl ?_
    have e9 := Option.some.inj hf
    subst e9
    exact r_iret rfl dX0_openFrom_17
  · intro ht
    have hf := hf_neg (show ¬ q4.1 = 0 by rw [ht]; decide) hf
    refine r_iconst (v := (-1)) dX0_openFrom_24 (by decide) ?_
    have e9 := Option.some.inj hf
    subst e9
    exact r_iret rfl dX0_openFrom_25
-- DuelSamples$Course.byDistance
def lp_X0_byDistance_29 (C_left : Nat → Int32) (R_count : Int32) (R_F : Nat → Nat → Int32) (C_u : Int32) (a1 : Int32) : Nat → Int32 → Int32 → Int32 → Option (Int32)
  | 0, _, _, _ => none
  | n9 + 1, v3_29, v4_29, v5_29 => if 12 ≤ v5_29 then some v3_29 else Option.bind (f_X0_isOpen C_left v5_29) (fun (q3 : Int32) => Option.bind (if q3 = 0 then some v4_29 else Option.bind (f_X3_distance R_count R_F C_u v5_29) (fun (q6 : Int32) => some (a1 * q6))) (fun (q5 : Int32) => Option.bind (if v4_29 ≤ q5 then some (v3_29, v4_29) else some (v5_29, q5)) (fun (q8 : Int32 × Int32) => lp_X0_byDistance_29 C_left R_count R_F C_u a1 n9 q8.1 q8.2 (v5_29 + 1))))
def f_X0_byDistance (R_count : Int32) (R_F : Nat → Nat → Int32) (C_u : Int32) (C_v : Int32) (C_left : Nat → Int32) (a1 : Int32) : Option (Int32) := Option.bind (f_X3_distance R_count R_F C_u C_v) (fun (q1 : Int32) => Option.bind (lp_X0_byDistance_29 C_left R_count R_F C_u a1 FU C_v (a1 * q1) (C_v + 1)) (fun (q9 : Int32) => some q9))
theorem hy_X0_byDistance : yX0_byDistance.cls ≠ "java/lang/invoke/MethodHandle" ∧ yX0_byDistance.cls ≠ "java/lang/invoke/VarHandle" ∧ (parseMethodDescriptor yX0_byDistance.desc).map (fun d => d.parameters.length) = some 2 := by decide +kernel
set_option maxHeartbeats 4000000 in
set_option maxRecDepth 100000 in
theorem w_X0_byDistance_29_L {E : EN} {res : Option Value × Hp} {hX : TX} {hT : TC} {hK : TK} {hS : TS} {hP : TP} {hM : TM} {a1 : Int32} {R_count : Int32} {R_changes : Int32} {R_F : Nat → Nat → Int32} {C_sample : Int32} {C_plays : Int32} {C_small : Int32} {C_large : Int32} {C_u : Int32} {C_v : Int32} {C_left : Nat → Int32} {C_firsts : Nat → Int32} {C_seconds : Nat → Int32} {C_winners : Nat → Int32} : ∀ (n9 : Nat) (v3_29 : Int32) (v4_29 : Int32) (v5_29 : Int32) (qL : Int32), lp_X0_byDistance_29 C_left R_count R_F C_u a1 n9 v3_29 v4_29 v5_29 = some qL → (Wa E yX0_byDistance cX0_byDistance 7 (some .int) 3 res 84 [(3, .int qL)] [] (hX, (R_count, R_changes, R_F), (C_sample, C_plays, C_small, C_large, C_u, C_v, C_left, C_firsts, C_seconds, C_winners), hT, hK, hS, hP, hM)) → Wa E yX0_byDistance cX0_byDistance 7 (some .int) 3 res 29 [(0, .ref (eA E 8)), (1, .ref (eA E 1)), (2, .int a1), (3, .int v3_29), (4, .int v4_29), (5, .int v5_29)] [] (hX, (R_count, R_changes, R_F), (C_sample, C_plays, C_small, C_large, C_u, C_v, C_left, C_firsts, C_seconds, C_winners), hT, hK, hS, hP, hM) := by
  intro n9
  induction n9 with
  | zero =>
    intro v3_29 v4_29 v5_29 qL hf
    exact nomatch (show (none : Option (Int32)) = some qL from hf)
  | succ n9 ih =>
    intro v3_29 v4_29 v5_29 qL hf kx0
    rw [lp_X0_byDistance_29] at hf
    refine r_iload dX0_byDistance_29 5 rfl ?_
    refine r_bipush (v := 12) dX0_byDistance_31 (by decide) ?_
    refine r_icmp_ge (tgt := 84) dX0_byDistance_33 (by decide) (fun c2 => ?_) (fun c2 => ?_)
    · have hf := hf_pos c2 hf
      have e9 := Option.some.inj hf
      subst e9
      exact (Wa.sub [3] rfl kx0)
    · have hf := hf_neg c2 hf
      refine r_aload_n dX0_byDistance_36 0 rfl ?_
      refine r_iload dX0_byDistance_37 5 rfl ?_
      obtain ⟨q3, hq3, hf⟩ := hf_bind hf
      refine r_callVi (As := [.int v5_29]) (b := (eA E 8)) (st := []) (s_X0_isOpen_L hq3) (by decide) (by decide) wd_365 wd_367 wd_4 wd_70 wd_368 hy_X0_isOpen (Rc.obj 8 ga_L rfl) rfl (Nat.le_of_ble_eq_true rfl) dX0_byDistance_39 ?_
      obtain ⟨q5, hq5, hf⟩ := hf_bind hf
      have kj5 : Wa E yX0_byDistance cX0_byDistance 7 (some .int) 3 res 62 [(0, .ref (eA E 8)), (1, .ref (eA E 1)), (2, .int a1), (3, .int v3_29), (4, .int v4_29), (5, .int v5_29)] [.int q5] (hX, (R_count, R_changes, R_F), (C_sample, C_plays, C_small, C_large, C_u, C_v, C_left, C_firsts, C_seconds, C_winners), hT, hK, hS, hP, hM) := by
        refine r_istore (lv2 := [(6, .int q5), (0, .ref (eA E 8)), (1, .ref (eA E 1)), (2, .int a1), (3, .int v3_29), (4, .int v4_29), (5, .int v5_29)]) dX0_byDistance_62 (by decide) rfl ?_
        refine r_iload dX0_byDistance_64 0 rfl ?_
        refine r_iload dX0_byDistance_66 5 rfl ?_
        obtain ⟨q8, hq8, hf⟩ := hf_bind hf
        have kj8 : Wa E yX0_byDistance cX0_byDistance 7 (some .int) 3 res 78 [(0, .ref (eA E 8)), (1, .ref (eA E 1)), (2, .int a1), (3, .int q8.1), (4, .int q8.2), (5, .int v5_29)] [] (hX, (R_count, R_changes, R_F), (C_sample, C_plays, C_small, C_large, C_u, C_v, C_left, C_firsts, C_seconds, C_winners), hT, hK, hS, hP, hM) := by
          refine r_iinc (v := (v5_29 + 1)) (lv2 := [(5, .int (v5_29 + 1)), (0, .ref (eA E 8)), (1, .ref (eA E 1)), (2, .int a1), (3, .int q8.1), (4, .int q8.2)]) dX0_byDistance_78 5 rfl rfl (by decide) rfl ?_
          refine r_goto (tgt := 29) dX0_byDistance_81 (by decide) ?_
          exact (Wa.sub [1, 2, 3, 4, 5, 0] rfl (ih _ _ _ _ hf kx0))
        have hf := hq8
        refine r_icmp_ge (tgt := 78) dX0_byDistance_68 (by decide) (fun c7 => ?_) (fun c7 => ?_)
        · have hf := hf_pos c7 hf
          have e9 := Option.some.inj hf
          subst e9
          exact (Wa.sub [1, 2, 3, 4, 5, 6] rfl kj8)
        · have hf := hf_neg c7 hf
          refine r_iload dX0_byDistance_71 6 rfl ?_
          refine r_istore_n (lv2 := [(3, .int v5_29), (6, .int q5), (0, .ref (eA E 8)), (1, .ref (eA E 1)), (2, .int a1), (4, .int v4_29), (5, .int v5_29)]) dX0_byDistance_73 rfl (by decide) rfl ?_
          refine r_iload dX0_byDistance_74 1 rfl ?_
          refine r_istore (lv2 := [(4, .int q5), (3, .int v5_29), (6, .int q5), (0, .ref (eA E 8)), (1, .ref (eA E 1)), (2, .int a1), (5, .int v5_29)]) dX0_byDistance_76 (by decide) rfl ?_
          have e9 := Option.some.inj hf
          subst e9
          exact (Wa.sub [3, 4, 5, 1, 0, 6] rfl kj8)
      have hf := hq5
      refine r_if_eq (tgt := 60) dX0_byDistance_42 (by decide) (fun c4 => ?_) (fun c4 => ?_)
      · have hf := hf_pos c4 hf
        refine r_iload dX0_byDistance_60 4 rfl ?_
        have e9 := Option.some.inj hf
        subst e9
        exact kj5
      · have hf := hf_neg c4 hf
        refine r_iload_n dX0_byDistance_45 2 rfl ?_
        refine r_aload_n dX0_byDistance_46 1 rfl ?_
        refine r_aload_n dX0_byDistance_47 0 rfl ?_
        refine r_get (v := .int C_u) in_X0 8 ga_L rfl 8 (by decide) wd_128 rfl rfl dX0_byDistance_48 ?_
        refine r_iload dX0_byDistance_51 5 rfl ?_
        obtain ⟨q6, hq6, hf⟩ := hf_bind hf
        refine r_callVi (As := [.int C_u, .int v5_29]) (b := (eA E 1)) (st := [.int a1]) (s_X3_distance hq6) (by decide) (by decide) wd_373 wd_374 wd_375 wd_69 wd_376 hy_X3_distance (Rc.obj 1 ga_R rfl) rfl (Nat.le_of_ble_eq_true rfl) dX0_byDistance_53 ?_
        refine r_imul dX0_byDistance_56 ?_
        refine r_goto (tgt := 62) dX0_byDistance_57 (by decide) ?_
        have e9 := Option.some.inj hf
        subst e9
        exact kj5
set_option maxHeartbeats 4000000 in
set_option maxRecDepth 100000 in
theorem s_X0_byDistance_L {E : EN} {hX : TX} {hT : TC} {hK : TK} {hS : TS} {hP : TP} {hM : TM} {R_count : Int32} {R_changes : Int32} {R_F : Nat → Nat → Int32} {C_sample : Int32} {C_plays : Int32} {C_small : Int32} {C_large : Int32} {C_u : Int32} {C_v : Int32} {C_left : Nat → Int32} {C_firsts : Nat → Int32} {C_seconds : Nat → Int32} {C_winners : Nat → Int32} {a1 : Int32} {qR : Int32} (hf : f_X0_byDistance R_count R_F C_u C_v C_left a1 = some qR) : Sem E yX0_byDistance cX0_byDistance 7 (some .int) 3 [.ref (eA E 8), .ref (eA E 1), .int a1] (hX, (R_count, R_changes, R_F), (C_sample, C_plays, C_small, C_large, C_u, C_v, C_left, C_firsts, C_seconds, C_winners), hT, hK, hS, hP, hM) (some (.int qR), (hX, (R_count, R_changes, R_F), (C_sample, C_plays, C_small, C_large, C_u, C_v, C_left, C_firsts, C_seconds, C_winners), hT, hK, hS, hP, hM)) := by
  refine Sem.mk (lv := [(0, .ref (eA E 8)), (1, .ref (eA E 1)), (2, .int a1)]) (by decide) (Nat.le_of_ble_eq_true rfl) rfl ?_
  rw [f_X0_byDistance] at hf
  refine r_aload_n dX0_byDistance_0 0 rfl ?_
  refine r_get (v := .int C_v) in_X0 8 ga_L rfl 9 (by decide) wd_130 rfl rfl dX0_byDistance_1 ?_
  refine r_istore_n (lv2 := [(3, .int C_v), (0, .ref (eA E 8)), (1, .ref (eA E 1)), (2, .int a1)]) dX0_byDistance_4 rfl (by decide) rfl ?_
  refine r_iload_n dX0_byDistance_5 3 rfl ?_
  refine r_aload_n dX0_byDistance_6 2 rfl ?_
  refine r_aload_n dX0_byDistance_7 1 rfl ?_
  refine r_get (v := .int C_u) in_X0 8 ga_L rfl 8 (by decide) wd_128 rfl rfl dX0_byDistance_8 ?_
  refine r_aload_n dX0_byDistance_11 1 rfl ?_
  refine r_get (v := .int C_v) in_X0 8 ga_L rfl 9 (by decide) wd_130 rfl rfl dX0_byDistance_12 ?_
  obtain ⟨q1, hq1, hf⟩ := hf_bind hf
  refine r_callVi (As := [.int C_u, .int C_v]) (b := (eA E 1)) (st := [.int a1]) (s_X3_distance hq1) (by decide) (by decide) wd_373 wd_374 wd_375 wd_69 wd_376 hy_X3_distance (Rc.obj 1 ga_R rfl) rfl (Nat.le_of_ble_eq_true rfl) dX0_byDistance_15 ?_
  refine r_imul dX0_byDistance_18 ?_
  refine r_istore (lv2 := [(4, .int (a1 * q1)), (3, .int C_v), (0, .ref (eA E 8)), (1, .ref (eA E 1)), (2, .int a1)]) dX0_byDistance_19 (by decide) rfl ?_
  refine r_aload_n dX0_byDistance_21 2 rfl ?_
  refine r_get (v := .int C_v) in_X0 8 ga_L rfl 9 (by decide) wd_130 rfl rfl dX0_byDistance_22 ?_
  refine r_iconst (v := 1) dX0_byDistance_25 (by decide) ?_
  refine r_iadd dX0_byDistance_26 ?_
  refine r_istore (lv2 := [(5, .int (C_v + 1)), (4, .int (a1 * q1)), (3, .int C_v), (0, .ref (eA E 8)), (1, .ref (eA E 1)), (2, .int a1)]) dX0_byDistance_27 (by decide) rfl ?_
  obtain ⟨q9, hq9, hf⟩ := hf_bind hf
  refine (Wa.sub [3, 4, 5, 2, 1, 0] rfl (w_X0_byDistance_29_L _ _ _ _ _ hq9 ?_))
  refine r_iload_n dX0_byDistance_84 0 rfl ?_
  have e9 := Option.some.inj hf
  subst e9
  exact r_iret rfl dX0_byDistance_85
set_option maxHeartbeats 4000000 in
set_option maxRecDepth 100000 in
theorem w_X0_byDistance_29_T {E : EN} {res : Option Value × Hp} {hX : TX} {hL : TC} {hK : TK} {hS : TS} {hP : TP} {hM : TM} {a1 : Int32} {R_count : Int32} {R_changes : Int32} {R_F : Nat → Nat → Int32} {C_sample : Int32} {C_plays : Int32} {C_small : Int32} {C_large : Int32} {C_u : Int32} {C_v : Int32} {C_left : Nat → Int32} {C_firsts : Nat → Int32} {C_seconds : Nat → Int32} {C_winners : Nat → Int32} : ∀ (n9 : Nat) (v3_29 : Int32) (v4_29 : Int32) (v5_29 : Int32) (qL : Int32), lp_X0_byDistance_29 C_left R_count R_F C_u a1 n9 v3_29 v4_29 v5_29 = some qL → (Wa E yX0_byDistance cX0_byDistance 7 (some .int) 3 res 84 [(3, .int qL)] [] (hX, (R_count, R_changes, R_F), hL, (C_sample, C_plays, C_small, C_large, C_u, C_v, C_left, C_firsts, C_seconds, C_winners), hK, hS, hP, hM)) → Wa E yX0_byDistance cX0_byDistance 7 (some .int) 3 res 29 [(0, .ref (eA E 13)), (1, .ref (eA E 1)), (2, .int a1), (3, .int v3_29), (4, .int v4_29), (5, .int v5_29)] [] (hX, (R_count, R_changes, R_F), hL, (C_sample, C_plays, C_small, C_large, C_u, C_v, C_left, C_firsts, C_seconds, C_winners), hK, hS, hP, hM) := by
  intro n9
  induction n9 with
  | zero =>
    intro v3_29 v4_29 v5_29 qL hf
    exact nomatch (show (none : Option (Int32)) = some qL from hf)
  | succ n9 ih =>
    intro v3_29 v4_29 v5_29 qL hf kx0
    rw [lp_X0_byDistance_29] at hf
    refine r_iload dX0_byDistance_29 5 rfl ?_
    refine r_bipush (v := 12) dX0_byDistance_31 (by decide) ?_
    refine r_icmp_ge (tgt := 84) dX0_byDistance_33 (by decide) (fun c2 => ?_) (fun c2 => ?_)
    · have hf := hf_pos c2 hf
      have e9 := Option.some.inj hf
      subst e9
      exact (Wa.sub [3] rfl kx0)
    · have hf := hf_neg c2 hf
      refine r_aload_n dX0_byDistance_36 0 rfl ?_
      refine r_iload dX0_byDistance_37 5 rfl ?_
      obtain ⟨q3, hq3, hf⟩ := hf_bind hf
      refine r_callVi (As := [.int v5_29]) (b := (eA E 13)) (st := []) (s_X0_isOpen_T hq3) (by decide) (by decide) wd_365 wd_367 wd_4 wd_70 wd_368 hy_X0_isOpen (Rc.obj 13 ga_T rfl) rfl (Nat.le_of_ble_eq_true rfl) dX0_byDistance_39 ?_
      obtain ⟨q5, hq5, hf⟩ := hf_bind hf
      have kj5 : Wa E yX0_byDistance cX0_byDistance 7 (some .int) 3 res 62 [(0, .ref (eA E 13)), (1, .ref (eA E 1)), (2, .int a1), (3, .int v3_29), (4, .int v4_29), (5, .int v5_29)] [.int q5] (hX, (R_count, R_changes, R_F), hL, (C_sample, C_plays, C_small, C_large, C_u, C_v, C_left, C_firsts, C_seconds, C_winners), hK, hS, hP, hM) := by
        refine r_istore (lv2 := [(6, .int q5), (0, .ref (eA E 13)), (1, .ref (eA E 1)), (2, .int a1), (3, .int v3_29), (4, .int v4_29), (5, .int v5_29)]) dX0_byDistance_62 (by decide) rfl ?_
        refine r_iload dX0_byDistance_64 0 rfl ?_
        refine r_iload dX0_byDistance_66 5 rfl ?_
        obtain ⟨q8, hq8, hf⟩ := hf_bind hf
        have kj8 : Wa E yX0_byDistance cX0_byDistance 7 (some .int) 3 res 78 [(0, .ref (eA E 13)), (1, .ref (eA E 1)), (2, .int a1), (3, .int q8.1), (4, .int q8.2), (5, .int v5_29)] [] (hX, (R_count, R_changes, R_F), hL, (C_sample, C_plays, C_small, C_large, C_u, C_v, C_left, C_firsts, C_seconds, C_winners), hK, hS, hP, hM) := by
          refine r_iinc (v := (v5_29 + 1)) (lv2 := [(5, .int (v5_29 + 1)), (0, .ref (eA E 13)), (1, .ref (eA E 1)), (2, .int a1), (3, .int q8.1), (4, .int q8.2)]) dX0_byDistance_78 5 rfl rfl (by decide) rfl ?_
          refine r_goto (tgt := 29) dX0_byDistance_81 (by decide) ?_
          exact (Wa.sub [1, 2, 3, 4, 5, 0] rfl (ih _ _ _ _ hf kx0))
        have hf := hq8
        refine r_icmp_ge (tgt := 78) dX0_byDistance_68 (by decide) (fun c7 => ?_) (fun c7 => ?_)
        · have hf := hf_pos c7 hf
          have e9 := Option.some.inj hf
          subst e9
          exact (Wa.sub [1, 2, 3, 4, 5, 6] rfl kj8)
        · have hf := hf_neg c7 hf
          refine r_iload dX0_byDistance_71 6 rfl ?_
          refine r_istore_n (lv2 := [(3, .int v5_29), (6, .int q5), (0, .ref (eA E 13)), (1, .ref (eA E 1)), (2, .int a1), (4, .int v4_29), (5, .int v5_29)]) dX0_byDistance_73 rfl (by decide) rfl ?_
          refine r_iload dX0_byDistance_74 1 rfl ?_
          refine r_istore (lv2 := [(4, .int q5), (3, .int v5_29), (6, .int q5), (0, .ref (eA E 13)), (1, .ref (eA E 1)), (2, .int a1), (5, .int v5_29)]) dX0_byDistance_76 (by decide) rfl ?_
          have e9 := Option.some.inj hf
          subst e9
          exact (Wa.sub [3, 4, 5, 1, 0, 6] rfl kj8)
      have hf := hq5
      refine r_if_eq (tgt := 60) dX0_byDistance_42 (by decide) (fun c4 => ?_) (fun c4 => ?_)
      · have hf := hf_pos c4 hf
        refine r_iload dX0_byDistance_60 4 rfl ?_
        have e9 := Option.some.inj hf
        subst e9
        exact kj5
      · have hf := hf_neg c4 hf
        refine r_iload_n dX0_byDistance_45 2 rfl ?_
        refine r_aload_n dX0_byDistance_46 1 rfl ?_
        refine r_aload_n dX0_byDistance_47 0 rfl ?_
        refine r_get (v := .int C_u) in_X0 13 ga_T rfl 8 (by decide) wd_128 rfl rfl dX0_byDistance_48 ?_
        refine r_iload dX0_byDistance_51 5 rfl ?_
        obtain ⟨q6, hq6, hf⟩ := hf_bind hf
        refine r_callVi (As := [.int C_u, .int v5_29]) (b := (eA E 1)) (st := [.int a1]) (s_X3_distance hq6) (by decide) (by decide) wd_373 wd_374 wd_375 wd_69 wd_376 hy_X3_distance (Rc.obj 1 ga_R rfl) rfl (Nat.le_of_ble_eq_true rfl) dX0_byDistance_53 ?_
        refine r_imul dX0_byDistance_56 ?_
        refine r_goto (tgt := 62) dX0_byDistance_57 (by decide) ?_
        have e9 := Option.some.inj hf
        subst e9
        exact kj5
set_option maxHeartbeats 4000000 in
set_option maxRecDepth 100000 in
theorem s_X0_byDistance_T {E : EN} {hX : TX} {hL : TC} {hK : TK} {hS : TS} {hP : TP} {hM : TM} {R_count : Int32} {R_changes : Int32} {R_F : Nat → Nat → Int32} {C_sample : Int32} {C_plays : Int32} {C_small : Int32} {C_large : Int32} {C_u : Int32} {C_v : Int32} {C_left : Nat → Int32} {C_firsts : Nat → Int32} {C_seconds : Nat → Int32} {C_winners : Nat → Int32} {a1 : Int32} {qR : Int32} (hf : f_X0_byDistance R_count R_F C_u C_v C_left a1 = some qR) : Sem E yX0_byDistance cX0_byDistance 7 (some .int) 3 [.ref (eA E 13), .ref (eA E 1), .int a1] (hX, (R_count, R_changes, R_F), hL, (C_sample, C_plays, C_small, C_large, C_u, C_v, C_left, C_firsts, C_seconds, C_winners), hK, hS, hP, hM) (some (.int qR), (hX, (R_count, R_changes, R_F), hL, (C_sample, C_plays, C_small, C_large, C_u, C_v, C_left, C_firsts, C_seconds, C_winners), hK, hS, hP, hM)) := by
  refine Sem.mk (lv := [(0, .ref (eA E 13)), (1, .ref (eA E 1)), (2, .int a1)]) (by decide) (Nat.le_of_ble_eq_true rfl) rfl ?_
  rw [f_X0_byDistance] at hf
  refine r_aload_n dX0_byDistance_0 0 rfl ?_
  refine r_get (v := .int C_v) in_X0 13 ga_T rfl 9 (by decide) wd_130 rfl rfl dX0_byDistance_1 ?_
  refine r_istore_n (lv2 := [(3, .int C_v), (0, .ref (eA E 13)), (1, .ref (eA E 1)), (2, .int a1)]) dX0_byDistance_4 rfl (by decide) rfl ?_
  refine r_iload_n dX0_byDistance_5 3 rfl ?_
  refine r_aload_n dX0_byDistance_6 2 rfl ?_
  refine r_aload_n dX0_byDistance_7 1 rfl ?_
  refine r_get (v := .int C_u) in_X0 13 ga_T rfl 8 (by decide) wd_128 rfl rfl dX0_byDistance_8 ?_
  refine r_aload_n dX0_byDistance_11 1 rfl ?_
  refine r_get (v := .int C_v) in_X0 13 ga_T rfl 9 (by decide) wd_130 rfl rfl dX0_byDistance_12 ?_
  obtain ⟨q1, hq1, hf⟩ := hf_bind hf
  refine r_callVi (As := [.int C_u, .int C_v]) (b := (eA E 1)) (st := [.int a1]) (s_X3_distance hq1) (by decide) (by decide) wd_373 wd_374 wd_375 wd_69 wd_376 hy_X3_distance (Rc.obj 1 ga_R rfl) rfl (Nat.le_of_ble_eq_true rfl) dX0_byDistance_15 ?_
  refine r_imul dX0_byDistance_18 ?_
  refine r_istore (lv2 := [(4, .int (a1 * q1)), (3, .int C_v), (0, .ref (eA E 13)), (1, .ref (eA E 1)), (2, .int a1)]) dX0_byDistance_19 (by decide) rfl ?_
  refine r_aload_n dX0_byDistance_21 2 rfl ?_
  refine r_get (v := .int C_v) in_X0 13 ga_T rfl 9 (by decide) wd_130 rfl rfl dX0_byDistance_22 ?_
  refine r_iconst (v := 1) dX0_byDistance_25 (by decide) ?_
  refine r_iadd dX0_byDistance_26 ?_
  refine r_istore (lv2 := [(5, .int (C_v + 1)), (4, .int (a1 * q1)), (3, .int C_v), (0, .ref (eA E 13)), (1, .ref (eA E 1)), (2, .int a1)]) dX0_byDistance_27 (by decide) rfl ?_
  obtain ⟨q9, hq9, hf⟩ := hf_bind hf
  refine (Wa.sub [3, 4, 5, 2, 1, 0] rfl (w_X0_byDistance_29_T _ _ _ _ _ hq9 ?_))
  refine r_iload_n dX0_byDistance_84 0 rfl ?_
  have e9 := Option.some.inj hf
  subst e9
  exact r_iret rfl dX0_byDistance_85
-- DuelSamples$Course.openOfStratum
def lp_X0_openOfStratum_3 (C_left : Nat → Int32) (R_count : Int32) (R_F : Nat → Nat → Int32) (a1 : Int32) : Nat → Int32 → Option (Nat × Int32)
  | 0, _ => none
  | n9 + 1, v4_3 => if 12 ≤ v4_3 then some (1, v4_3) else Option.bind (f_X0_isOpen C_left v4_3) (fun (q2 : Int32) => if q2 = 0 then lp_X0_openOfStratum_3 C_left R_count R_F a1 n9 (v4_3 + 1) else Option.bind (f_X3_fact R_count R_F v4_3 2) (fun (q4 : Int32) => if q4 = a1 then some (0, v4_3) else lp_X0_openOfStratum_3 C_left R_count R_F a1 n9 (v4_3 + 1)))
def f_X0_openOfStratum (R_count : Int32) (R_F : Nat → Nat → Int32) (C_left : Nat → Int32) (a1 : Int32) (a2 : Int32) : Option (Int32) := Option.bind (lp_X0_openOfStratum_3 C_left R_count R_F a1 FU a2) (fun (q6 : Nat × Int32) => if q6.1 = 0 then some q6.2 else some (-1))
theorem hy_X0_openOfStratum : yX0_openOfStratum.cls ≠ "java/lang/invoke/MethodHandle" ∧ yX0_openOfStratum.cls ≠ "java/lang/invoke/VarHandle" ∧ (parseMethodDescriptor yX0_openOfStratum.desc).map (fun d => d.parameters.length) = some 3 := by decide +kernel
set_option maxHeartbeats 4000000 in
set_option maxRecDepth 100000 in
theorem w_X0_openOfStratum_3_L {E : EN} {res : Option Value × Hp} {hX : TX} {hT : TC} {hK : TK} {hS : TS} {hP : TP} {hM : TM} {a1 : Int32} {R_count : Int32} {R_changes : Int32} {R_F : Nat → Nat → Int32} {C_sample : Int32} {C_plays : Int32} {C_small : Int32} {C_large : Int32} {C_u : Int32} {C_v : Int32} {C_left : Nat → Int32} {C_firsts : Nat → Int32} {C_seconds : Nat → Int32} {C_winners : Nat → Int32} : ∀ (n9 : Nat) (v4_3 : Int32) (qL : Nat × Int32), lp_X0_openOfStratum_3 C_left R_count R_F a1 n9 v4_3 = some qL → (qL.1 = 0 → Wa E yX0_openOfStratum cX0_openOfStratum 5 (some .int) 2 res 30 [(4, .int qL.2)] [] (hX, (R_count, R_changes, R_F), (C_sample, C_plays, C_small, C_large, C_u, C_v, C_left, C_firsts, C_seconds, C_winners), hT, hK, hS, hP, hM)) → (qL.1 = 1 → Wa E yX0_openOfStratum cX0_openOfStratum 5 (some .int) 2 res 39 [] [] (hX, (R_count, R_changes, R_F), (C_sample, C_plays, C_small, C_large, C_u, C_v, C_left, C_firsts, C_seconds, C_winners), hT, hK, hS, hP, hM)) → Wa E yX0_openOfStratum cX0_openOfStratum 5 (some .int) 2 res 3 [(0, .ref (eA E 8)), (1, .ref (eA E 1)), (2, .int a1), (4, .int v4_3)] [] (hX, (R_count, R_changes, R_F), (C_sample, C_plays, C_small, C_large, C_u, C_v, C_left, C_firsts, C_seconds, C_winners), hT, hK, hS, hP, hM) := by
  intro n9
  induction n9 with
  | zero =>
    intro v4_3 qL hf
    exact nomatch (show (none : Option (Nat × Int32)) = some qL from hf)
  | succ n9 ih =>
    intro v4_3 qL hf kx0 kx1
    rw [lp_X0_openOfStratum_3] at hf
    refine r_iload dX0_openOfStratum_3 3 rfl ?_
    refine r_bipush (v := 12) dX0_openOfStratum_5 (by decide) ?_
    refine r_icmp_ge (tgt := 39) dX0_openOfStratum_7 (by decide) (fun c1 => ?_) (fun c1 => ?_)
    · have hf := hf_pos c1 hf
      have e9 := Option.some.inj hf
      subst e9
      exact (Wa.sub [] rfl (kx1 rfl))
    · have hf := hf_neg c1 hf
      refine r_aload_n dX0_openOfStratum_10 0 rfl ?_
      refine r_iload dX0_openOfStratum_11 3 rfl ?_
      obtain ⟨q2, hq2, hf⟩ := hf_bind hf
      refine r_callVi (As := [.int v4_3]) (b := (eA E 8)) (st := []) (s_X0_isOpen_L hq2) (by decide) (by decide) wd_365 wd_367 wd_4 wd_70 wd_368 hy_X0_isOpen (Rc.obj 8 ga_L rfl) rfl (Nat.le_of_ble_eq_true rfl) dX0_openOfStratum_13 ?_
      refine r_if_eq (tgt := 33) dX0_openOfStratum_16 (by decide) (fun c3 => ?_) (fun c3 => ?_)
      · have hf := hf_pos c3 hf
        refine r_iinc (v := (v4_3 + 1)) (lv2 := [(4, .int (v4_3 + 1)), (0, .ref (eA E 8)), (1, .ref (eA E 1)), (2, .int a1)]) dX0_openOfStratum_33 3 rfl rfl (by decide) rfl ?_
        refine r_goto (tgt := 3) dX0_openOfStratum_36 (by decide) ?_
        exact (Wa.sub [1, 2, 3, 0] rfl (ih _ _ hf kx0 kx1))
      · have hf := hf_neg c3 hf
        refine r_aload_n dX0_openOfStratum_19 1 rfl ?_
        refine r_iload dX0_openOfStratum_20 3 rfl ?_
        refine r_iconst (v := 2) dX0_openOfStratum_22 (by decide) ?_
        obtain ⟨q4, hq4, hf⟩ := hf_bind hf
        refine r_callVi (As := [.int v4_3, .int 2]) (b := (eA E 1)) (st := []) (s_X3_fact hq4) (by decide) (by decide) wd_356 wd_311 wd_312 wd_69 wd_313 hy_X3_fact (Rc.obj 1 ga_R rfl) rfl (Nat.le_of_ble_eq_true rfl) dX0_openOfStratum_23 ?_
        refine r_iload_n dX0_openOfStratum_26 2 rfl ?_
        refine r_icmp_ne (tgt := 33) dX0_openOfStratum_27 (by decide) (fun c5 => ?_) (fun c5 => ?_)
        · have hf := hf_neg c5 hf
          refine r_iinc (v := (v4_3 + 1)) (lv2 := [(4, .int (v4_3 + 1)), (0, .ref (eA E 8)), (1, .ref (eA E 1)), (2, .int a1)]) dX0_openOfStratum_33 3 rfl rfl (by decide) rfl ?_
          refine r_goto (tgt := 3) dX0_openOfStratum_36 (by decide) ?_
          exact (Wa.sub [1, 2, 3, 0] rfl (ih _ _ hf kx0 kx1))
        · have hf := hf_pos c5 hf
          have e9 := Option.some.inj hf
          subst e9
          exact (Wa.sub [3] rfl (kx0 rfl))
set_option maxHeartbeats 4000000 in
set_option maxRecDepth 100000 in
theorem s_X0_openOfStratum_L {E : EN} {hX : TX} {hT : TC} {hK : TK} {hS : TS} {hP : TP} {hM : TM} {R_count : Int32} {R_changes : Int32} {R_F : Nat → Nat → Int32} {C_sample : Int32} {C_plays : Int32} {C_small : Int32} {C_large : Int32} {C_u : Int32} {C_v : Int32} {C_left : Nat → Int32} {C_firsts : Nat → Int32} {C_seconds : Nat → Int32} {C_winners : Nat → Int32} {a1 : Int32} {a2 : Int32} {qR : Int32} (hf : f_X0_openOfStratum R_count R_F C_left a1 a2 = some qR) : Sem E yX0_openOfStratum cX0_openOfStratum 5 (some .int) 2 [.ref (eA E 8), .ref (eA E 1), .int a1, .int a2] (hX, (R_count, R_changes, R_F), (C_sample, C_plays, C_small, C_large, C_u, C_v, C_left, C_firsts, C_seconds, C_winners), hT, hK, hS, hP, hM) (some (.int qR), (hX, (R_count, R_changes, R_F), (C_sample, C_plays, C_small, C_large, C_u, C_v, C_left, C_firsts, C_seconds, C_winners), hT, hK, hS, hP, hM)) := by
  refine Sem.mk (lv := [(0, .ref (eA E 8)), (1, .ref (eA E 1)), (2, .int a1), (3, .int a2)]) (by decide) (Nat.le_of_ble_eq_true rfl) rfl ?_
  rw [f_X0_openOfStratum] at hf
  refine r_iload_n dX0_openOfStratum_0 3 rfl ?_
  refine r_istore (lv2 := [(4, .int a2), (0, .ref (eA E 8)), (1, .ref (eA E 1)), (2, .int a1), (3, .int a2)]) dX0_openOfStratum_1 (by decide) rfl ?_
  obtain ⟨q6, hq6, hf⟩ := hf_bind hf
  refine (Wa.sub [1, 2, 3, 0] rfl (w_X0_openOfStratum_3_L _ _ _ hq6 ?_ ?_))
  · intro ht
    have hf := hf_pos ht hf
    refine r_iload dX0_openOfStratum_30 0 rfl ?_
    have e9 := Option.some.inj hf
    subst e9
    exact r_iret rfl dX0_openOfStratum_32
  · intro ht
    have hf := hf_neg (show ¬ q6.1 = 0 by rw [ht]; decide) hf
    refine r_iconst (v := (-1)) dX0_openOfStratum_39 (by decide) ?_
    have e9 := Option.some.inj hf
    subst e9
    exact r_iret rfl dX0_openOfStratum_40
set_option maxHeartbeats 4000000 in
set_option maxRecDepth 100000 in
theorem w_X0_openOfStratum_3_T {E : EN} {res : Option Value × Hp} {hX : TX} {hL : TC} {hK : TK} {hS : TS} {hP : TP} {hM : TM} {a1 : Int32} {R_count : Int32} {R_changes : Int32} {R_F : Nat → Nat → Int32} {C_sample : Int32} {C_plays : Int32} {C_small : Int32} {C_large : Int32} {C_u : Int32} {C_v : Int32} {C_left : Nat → Int32} {C_firsts : Nat → Int32} {C_seconds : Nat → Int32} {C_winners : Nat → Int32} : ∀ (n9 : Nat) (v4_3 : Int32) (qL : Nat × Int32), lp_X0_openOfStratum_3 C_left R_count R_F a1 n9 v4_3 = some qL → (qL.1 = 0 → Wa E yX0_openOfStratum cX0_openOfStratum 5 (some .int) 2 res 30 [(4, .int qL.2)] [] (hX, (R_count, R_changes, R_F), hL, (C_sample, C_plays, C_small, C_large, C_u, C_v, C_left, C_firsts, C_seconds, C_winners), hK, hS, hP, hM)) → (qL.1 = 1 → Wa E yX0_openOfStratum cX0_openOfStratum 5 (some .int) 2 res 39 [] [] (hX, (R_count, R_changes, R_F), hL, (C_sample, C_plays, C_small, C_large, C_u, C_v, C_left, C_firsts, C_seconds, C_winners), hK, hS, hP, hM)) → Wa E yX0_openOfStratum cX0_openOfStratum 5 (some .int) 2 res 3 [(0, .ref (eA E 13)), (1, .ref (eA E 1)), (2, .int a1), (4, .int v4_3)] [] (hX, (R_count, R_changes, R_F), hL, (C_sample, C_plays, C_small, C_large, C_u, C_v, C_left, C_firsts, C_seconds, C_winners), hK, hS, hP, hM) := by
  intro n9
  induction n9 with
  | zero =>
    intro v4_3 qL hf
    exact nomatch (show (none : Option (Nat × Int32)) = some qL from hf)
  | succ n9 ih =>
    intro v4_3 qL hf kx0 kx1
    rw [lp_X0_openOfStratum_3] at hf
    refine r_iload dX0_openOfStratum_3 3 rfl ?_
    refine r_bipush (v := 12) dX0_openOfStratum_5 (by decide) ?_
    refine r_icmp_ge (tgt := 39) dX0_openOfStratum_7 (by decide) (fun c1 => ?_) (fun c1 => ?_)
    · have hf := hf_pos c1 hf
      have e9 := Option.some.inj hf
      subst e9
      exact (Wa.sub [] rfl (kx1 rfl))
    · have hf := hf_neg c1 hf
      refine r_aload_n dX0_openOfStratum_10 0 rfl ?_
      refine r_iload dX0_openOfStratum_11 3 rfl ?_
      obtain ⟨q2, hq2, hf⟩ := hf_bind hf
      refine r_callVi (As := [.int v4_3]) (b := (eA E 13)) (st := []) (s_X0_isOpen_T hq2) (by decide) (by decide) wd_365 wd_367 wd_4 wd_70 wd_368 hy_X0_isOpen (Rc.obj 13 ga_T rfl) rfl (Nat.le_of_ble_eq_true rfl) dX0_openOfStratum_13 ?_
      refine r_if_eq (tgt := 33) dX0_openOfStratum_16 (by decide) (fun c3 => ?_) (fun c3 => ?_)
      · have hf := hf_pos c3 hf
        refine r_iinc (v := (v4_3 + 1)) (lv2 := [(4, .int (v4_3 + 1)), (0, .ref (eA E 13)), (1, .ref (eA E 1)), (2, .int a1)]) dX0_openOfStratum_33 3 rfl rfl (by decide) rfl ?_
        refine r_goto (tgt := 3) dX0_openOfStratum_36 (by decide) ?_
        exact (Wa.sub [1, 2, 3, 0] rfl (ih _ _ hf kx0 kx1))
      · have hf := hf_neg c3 hf
        refine r_aload_n dX0_openOfStratum_19 1 rfl ?_
        refine r_iload dX0_openOfStratum_20 3 rfl ?_
        refine r_iconst (v := 2) dX0_openOfStratum_22 (by decide) ?_
        obtain ⟨q4, hq4, hf⟩ := hf_bind hf
        refine r_callVi (As := [.int v4_3, .int 2]) (b := (eA E 1)) (st := []) (s_X3_fact hq4) (by decide) (by decide) wd_356 wd_311 wd_312 wd_69 wd_313 hy_X3_fact (Rc.obj 1 ga_R rfl) rfl (Nat.le_of_ble_eq_true rfl) dX0_openOfStratum_23 ?_
        refine r_iload_n dX0_openOfStratum_26 2 rfl ?_
        refine r_icmp_ne (tgt := 33) dX0_openOfStratum_27 (by decide) (fun c5 => ?_) (fun c5 => ?_)
        · have hf := hf_neg c5 hf
          refine r_iinc (v := (v4_3 + 1)) (lv2 := [(4, .int (v4_3 + 1)), (0, .ref (eA E 13)), (1, .ref (eA E 1)), (2, .int a1)]) dX0_openOfStratum_33 3 rfl rfl (by decide) rfl ?_
          refine r_goto (tgt := 3) dX0_openOfStratum_36 (by decide) ?_
          exact (Wa.sub [1, 2, 3, 0] rfl (ih _ _ hf kx0 kx1))
        · have hf := hf_pos c5 hf
          have e9 := Option.some.inj hf
          subst e9
          exact (Wa.sub [3] rfl (kx0 rfl))
set_option maxHeartbeats 4000000 in
set_option maxRecDepth 100000 in
theorem s_X0_openOfStratum_T {E : EN} {hX : TX} {hL : TC} {hK : TK} {hS : TS} {hP : TP} {hM : TM} {R_count : Int32} {R_changes : Int32} {R_F : Nat → Nat → Int32} {C_sample : Int32} {C_plays : Int32} {C_small : Int32} {C_large : Int32} {C_u : Int32} {C_v : Int32} {C_left : Nat → Int32} {C_firsts : Nat → Int32} {C_seconds : Nat → Int32} {C_winners : Nat → Int32} {a1 : Int32} {a2 : Int32} {qR : Int32} (hf : f_X0_openOfStratum R_count R_F C_left a1 a2 = some qR) : Sem E yX0_openOfStratum cX0_openOfStratum 5 (some .int) 2 [.ref (eA E 13), .ref (eA E 1), .int a1, .int a2] (hX, (R_count, R_changes, R_F), hL, (C_sample, C_plays, C_small, C_large, C_u, C_v, C_left, C_firsts, C_seconds, C_winners), hK, hS, hP, hM) (some (.int qR), (hX, (R_count, R_changes, R_F), hL, (C_sample, C_plays, C_small, C_large, C_u, C_v, C_left, C_firsts, C_seconds, C_winners), hK, hS, hP, hM)) := by
  refine Sem.mk (lv := [(0, .ref (eA E 13)), (1, .ref (eA E 1)), (2, .int a1), (3, .int a2)]) (by decide) (Nat.le_of_ble_eq_true rfl) rfl ?_
  rw [f_X0_openOfStratum] at hf
  refine r_iload_n dX0_openOfStratum_0 3 rfl ?_
  refine r_istore (lv2 := [(4, .int a2), (0, .ref (eA E 13)), (1, .ref (eA E 1)), (2, .int a1), (3, .int a2)]) dX0_openOfStratum_1 (by decide) rfl ?_
  obtain ⟨q6, hq6, hf⟩ := hf_bind hf
  refine (Wa.sub [1, 2, 3, 0] rfl (w_X0_openOfStratum_3_T _ _ _ hq6 ?_ ?_))
  · intro ht
    have hf := hf_pos ht hf
    refine r_iload dX0_openOfStratum_30 0 rfl ?_
    have e9 := Option.some.inj hf
    subst e9
    exact r_iret rfl dX0_openOfStratum_32
  · intro ht
    have hf := hf_neg (show ¬ q6.1 = 0 by rw [ht]; decide) hf
    refine r_iconst (v := (-1)) dX0_openOfStratum_39 (by decide) ?_
    have e9 := Option.some.inj hf
    subst e9
    exact r_iret rfl dX0_openOfStratum_40
-- DuelSamples$Course.pickOfStratum
def lp_X0_pickOfStratum_2 (R_count : Int32) (R_F : Nat → Nat → Int32) (C_left : Nat → Int32) : Nat → Int32 → Option (Nat × Int32 × Int32)
  | 0, _ => none
  | n9 + 1, v2_2 => if 4 ≤ v2_2 then some (1, 0, 0) else Option.bind (f_X0_openOfStratum R_count R_F C_left v2_2 0) (fun (q2 : Int32) => Option.bind (if q2 = (-1) then some (-1) else Option.bind (f_X0_openOfStratum R_count R_F C_left v2_2 (q2 + 1)) (fun (q5 : Int32) => some q5)) (fun (q4 : Int32) => if q4 = (-1) then lp_X0_pickOfStratum_2 R_count R_F C_left n9 (v2_2 + 1) else some (0, q2, q4)))
def f_X0_pickOfStratum (R_count : Int32) (R_F : Nat → Nat → Int32) (C_u : Int32) (C_v : Int32) (C_left : Nat → Int32)  : Option (Int32 × Int32) := Option.bind (lp_X0_pickOfStratum_2 R_count R_F C_left FU 0) (fun (q7 : Nat × Int32 × Int32) => if q7.1 = 0 then some (q7.2.1, q7.2.2) else some (C_u, C_v))
theorem hy_X0_pickOfStratum : yX0_pickOfStratum.cls ≠ "java/lang/invoke/MethodHandle" ∧ yX0_pickOfStratum.cls ≠ "java/lang/invoke/VarHandle" ∧ (parseMethodDescriptor yX0_pickOfStratum.desc).map (fun d => d.parameters.length) = some 1 := by decide +kernel
set_option maxHeartbeats 4000000 in
set_option maxRecDepth 100000 in
theorem w_X0_pickOfStratum_2_L {E : EN} {res : Option Value × Hp} {hX : TX} {hT : TC} {hK : TK} {hS : TS} {hP : TP} {hM : TM} {R_count : Int32} {R_changes : Int32} {R_F : Nat → Nat → Int32} {C_sample : Int32} {C_plays : Int32} {C_small : Int32} {C_large : Int32} {C_u : Int32} {C_v : Int32} {C_left : Nat → Int32} {C_firsts : Nat → Int32} {C_seconds : Nat → Int32} {C_winners : Nat → Int32} : ∀ (n9 : Nat) (v2_2 : Int32) (qL : Nat × Int32 × Int32), lp_X0_pickOfStratum_2 R_count R_F C_left n9 v2_2 = some qL → (qL.1 = 0 → Wa E yX0_pickOfStratum cX0_pickOfStratum 5 none 3 res 41 [(0, .ref (eA E 8)), (3, .int qL.2.1), (4, .int qL.2.2)] [] (hX, (R_count, R_changes, R_F), (C_sample, C_plays, C_small, C_large, C_u, C_v, C_left, C_firsts, C_seconds, C_winners), hT, hK, hS, hP, hM)) → (qL.1 = 1 → Wa E yX0_pickOfStratum cX0_pickOfStratum 5 none 3 res 59 [] [] (hX, (R_count, R_changes, R_F), (C_sample, C_plays, C_small, C_large, C_u, C_v, C_left, C_firsts, C_seconds, C_winners), hT, hK, hS, hP, hM)) → Wa E yX0_pickOfStratum cX0_pickOfStratum 5 none 3 res 2 [(0, .ref (eA E 8)), (1, .ref (eA E 1)), (2, .int v2_2)] [] (hX, (R_count, R_changes, R_F), (C_sample, C_plays, C_small, C_large, C_u, C_v, C_left, C_firsts, C_seconds, C_winners), hT, hK, hS, hP, hM) := by
  intro n9
  induction n9 with
  | zero =>
    intro v2_2 qL hf
    exact nomatch (show (none : Option (Nat × Int32 × Int32)) = some qL from hf)
  | succ n9 ih =>
    intro v2_2 qL hf kx0 kx1
    rw [lp_X0_pickOfStratum_2] at hf
    refine r_iload_n dX0_pickOfStratum_2 2 rfl ?_
    refine r_iconst (v := 4) dX0_pickOfStratum_3 (by decide) ?_
    refine r_icmp_ge (tgt := 59) dX0_pickOfStratum_4 (by decide) (fun c1 => ?_) (fun c1 => ?_)
    · have hf := hf_pos c1 hf
      have e9 := Option.some.inj hf
      subst e9
      exact (Wa.sub [] rfl (kx1 rfl))
    · have hf := hf_neg c1 hf
      refine r_aload_n dX0_pickOfStratum_7 0 rfl ?_
      refine r_aload_n dX0_pickOfStratum_8 1 rfl ?_
      refine r_iload_n dX0_pickOfStratum_9 2 rfl ?_
      refine r_iconst (v := 0) dX0_pickOfStratum_10 (by decide) ?_
      obtain ⟨q2, hq2, hf⟩ := hf_bind hf
      refine r_callVi (As := [.ref (eA E 1), .int v2_2, .int 0]) (b := (eA E 8)) (st := []) (s_X0_openOfStratum_L hq2) (by decide) (by decide) wd_384 wd_386 wd_7 wd_70 wd_387 hy_X0_openOfStratum (Rc.obj 8 ga_L rfl) rfl (Nat.le_of_ble_eq_true rfl) dX0_pickOfStratum_11 ?_
      refine r_istore_n (lv2 := [(3, .int q2), (0, .ref (eA E 8)), (1, .ref (eA E 1)), (2, .int v2_2)]) dX0_pickOfStratum_14 rfl (by decide) rfl ?_
      refine r_iload_n dX0_pickOfStratum_15 0 rfl ?_
      refine r_iconst (v := (-1)) dX0_pickOfStratum_16 (by decide) ?_
      obtain ⟨q4, hq4, hf⟩ := hf_bind hf
      have kj4 : Wa E yX0_pickOfStratum cX0_pickOfStratum 5 none 3 res 33 [(0, .ref (eA E 8)), (1, .ref (eA E 1)), (2, .int v2_2), (3, .int q2)] [.int q4] (hX, (R_count, R_changes, R_F), (C_sample, C_plays, C_small, C_large, C_u, C_v, C_left, C_firsts, C_seconds, C_winners), hT, hK, hS, hP, hM) := by
        refine r_istore (lv2 := [(4, .int q4), (0, .ref (eA E 8)), (1, .ref (eA E 1)), (2, .int v2_2), (3, .int q2)]) dX0_pickOfStratum_33 (by decide) rfl ?_
        refine r_iload dX0_pickOfStratum_35 0 rfl ?_
        refine r_iconst (v := (-1)) dX0_pickOfStratum_37 (by decide) ?_
        refine r_icmp_eq (tgt := 53) dX0_pickOfStratum_38 (by decide) (fun c6 => ?_) (fun c6 => ?_)
        · have hf := hf_pos c6 hf
          refine r_iinc (v := (v2_2 + 1)) (lv2 := [(2, .int (v2_2 + 1)), (4, .int q4), (0, .ref (eA E 8)), (1, .ref (eA E 1)), (3, .int q2)]) dX0_pickOfStratum_53 3 rfl rfl (by decide) rfl ?_
          refine r_goto (tgt := 2) dX0_pickOfStratum_56 (by decide) ?_
          exact (Wa.sub [2, 3, 0] rfl (ih _ _ hf kx0 kx1))
        · have hf := hf_neg c6 hf
          have e9 := Option.some.inj hf
          subst e9
          exact (Wa.sub [1, 4, 0] rfl (kx0 rfl))
      have hf := hq4
      refine r_icmp_ne (tgt := 24) dX0_pickOfStratum_17 (by decide) (fun c3 => ?_) (fun c3 => ?_)
      · have hf := hf_neg c3 hf
        refine r_aload_n dX0_pickOfStratum_24 1 rfl ?_
        refine r_aload_n dX0_pickOfStratum_25 2 rfl ?_
        refine r_iload_n dX0_pickOfStratum_26 3 rfl ?_
        refine r_iload_n dX0_pickOfStratum_27 0 rfl ?_
        refine r_iconst (v := 1) dX0_pickOfStratum_28 (by decide) ?_
        refine r_iadd dX0_pickOfStratum_29 ?_
        obtain ⟨q5, hq5, hf⟩ := hf_bind hf
        refine r_callVi (As := [.ref (eA E 1), .int v2_2, .int (q2 + 1)]) (b := (eA E 8)) (st := []) (s_X0_openOfStratum_L hq5) (by decide) (by decide) wd_384 wd_386 wd_7 wd_70 wd_387 hy_X0_openOfStratum (Rc.obj 8 ga_L rfl) rfl (Nat.le_of_ble_eq_true rfl) dX0_pickOfStratum_30 ?_
        have e9 := Option.some.inj hf
        subst e9
        exact (Wa.sub [1, 2, 3, 0] rfl kj4)
      · have hf := hf_pos c3 hf
        refine r_iconst (v := (-1)) dX0_pickOfStratum_20 (by decide) ?_
        refine r_goto (tgt := 33) dX0_pickOfStratum_21 (by decide) ?_
        have e9 := Option.some.inj hf
        subst e9
        exact (Wa.sub [1, 2, 3, 0] rfl kj4)
set_option maxHeartbeats 4000000 in
set_option maxRecDepth 100000 in
theorem s_X0_pickOfStratum_L {E : EN} {hX : TX} {hT : TC} {hK : TK} {hS : TS} {hP : TP} {hM : TM} {R_count : Int32} {R_changes : Int32} {R_F : Nat → Nat → Int32} {C_sample : Int32} {C_plays : Int32} {C_small : Int32} {C_large : Int32} {C_u : Int32} {C_v : Int32} {C_left : Nat → Int32} {C_firsts : Nat → Int32} {C_seconds : Nat → Int32} {C_winners : Nat → Int32}  {qR : Int32 × Int32} (hf : f_X0_pickOfStratum R_count R_F C_u C_v C_left = some qR) : Sem E yX0_pickOfStratum cX0_pickOfStratum 5 none 3 [.ref (eA E 8), .ref (eA E 1)] (hX, (R_count, R_changes, R_F), (C_sample, C_plays, C_small, C_large, C_u, C_v, C_left, C_firsts, C_seconds, C_winners), hT, hK, hS, hP, hM) (none, (hX, (R_count, R_changes, R_F), (C_sample, C_plays, C_small, C_large, qR.1, qR.2, C_left, C_firsts, C_seconds, C_winners), hT, hK, hS, hP, hM)) := by
  refine Sem.mk (lv := [(0, .ref (eA E 8)), (1, .ref (eA E 1))]) (by decide) (Nat.le_of_ble_eq_true rfl) rfl ?_
  rw [f_X0_pickOfStratum] at hf
  refine r_iconst (v := 0) dX0_pickOfStratum_0 (by decide) ?_
  refine r_istore_n (lv2 := [(2, .int 0), (0, .ref (eA E 8)), (1, .ref (eA E 1))]) dX0_pickOfStratum_1 rfl (by decide) rfl ?_
  obtain ⟨q7, hq7, hf⟩ := hf_bind hf
  refine (Wa.sub [1, 2, 0] rfl (w_X0_pickOfStratum_2_L _ _ _ hq7 ?_ ?_))
  · intro ht
    have hf := hf_pos ht hf
    refine r_aload_n dX0_pickOfStratum_41 0 rfl ?_
    refine r_iload_n dX0_pickOfStratum_42 1 rfl ?_
    refine r_put in_X0 tyX0_ok nmX0 8 ga_L rfl 8 (by decide) wd_128 rfl rfl pfI (Nat.le_of_ble_eq_true rfl) sa_L_u dX0_pickOfStratum_43 ?_
    refine r_aload_n dX0_pickOfStratum_46 0 rfl ?_
    refine r_iload dX0_pickOfStratum_47 2 rfl ?_
    refine r_put in_X0 tyX0_ok nmX0 8 ga_L rfl 9 (by decide) wd_130 rfl rfl pfI (Nat.le_of_ble_eq_true rfl) sa_L_v dX0_pickOfStratum_49 ?_
    have e9 := Option.some.inj hf
    subst e9
    exact r_vret rfl dX0_pickOfStratum_52
  · intro ht
    have hf := hf_neg (show ¬ q7.1 = 0 by rw [ht]; decide) hf
    have e9 := Option.some.inj hf
    subst e9
    exact r_vret rfl dX0_pickOfStratum_59
set_option maxHeartbeats 4000000 in
set_option maxRecDepth 100000 in
theorem w_X0_pickOfStratum_2_T {E : EN} {res : Option Value × Hp} {hX : TX} {hL : TC} {hK : TK} {hS : TS} {hP : TP} {hM : TM} {R_count : Int32} {R_changes : Int32} {R_F : Nat → Nat → Int32} {C_sample : Int32} {C_plays : Int32} {C_small : Int32} {C_large : Int32} {C_u : Int32} {C_v : Int32} {C_left : Nat → Int32} {C_firsts : Nat → Int32} {C_seconds : Nat → Int32} {C_winners : Nat → Int32} : ∀ (n9 : Nat) (v2_2 : Int32) (qL : Nat × Int32 × Int32), lp_X0_pickOfStratum_2 R_count R_F C_left n9 v2_2 = some qL → (qL.1 = 0 → Wa E yX0_pickOfStratum cX0_pickOfStratum 5 none 3 res 41 [(0, .ref (eA E 13)), (3, .int qL.2.1), (4, .int qL.2.2)] [] (hX, (R_count, R_changes, R_F), hL, (C_sample, C_plays, C_small, C_large, C_u, C_v, C_left, C_firsts, C_seconds, C_winners), hK, hS, hP, hM)) → (qL.1 = 1 → Wa E yX0_pickOfStratum cX0_pickOfStratum 5 none 3 res 59 [] [] (hX, (R_count, R_changes, R_F), hL, (C_sample, C_plays, C_small, C_large, C_u, C_v, C_left, C_firsts, C_seconds, C_winners), hK, hS, hP, hM)) → Wa E yX0_pickOfStratum cX0_pickOfStratum 5 none 3 res 2 [(0, .ref (eA E 13)), (1, .ref (eA E 1)), (2, .int v2_2)] [] (hX, (R_count, R_changes, R_F), hL, (C_sample, C_plays, C_small, C_large, C_u, C_v, C_left, C_firsts, C_seconds, C_winners), hK, hS, hP, hM) := by
  intro n9
  induction n9 with
  | zero =>
    intro v2_2 qL hf
    exact nomatch (show (none : Option (Nat × Int32 × Int32)) = some qL from hf)
  | succ n9 ih =>
    intro v2_2 qL hf kx0 kx1
    rw [lp_X0_pickOfStratum_2] at hf
    refine r_iload_n dX0_pickOfStratum_2 2 rfl ?_
    refine r_iconst (v := 4) dX0_pickOfStratum_3 (by decide) ?_
    refine r_icmp_ge (tgt := 59) dX0_pickOfStratum_4 (by decide) (fun c1 => ?_) (fun c1 => ?_)
    · have hf := hf_pos c1 hf
      have e9 := Option.some.inj hf
      subst e9
      exact (Wa.sub [] rfl (kx1 rfl))
    · have hf := hf_neg c1 hf
      refine r_aload_n dX0_pickOfStratum_7 0 rfl ?_
      refine r_aload_n dX0_pickOfStratum_8 1 rfl ?_
      refine r_iload_n dX0_pickOfStratum_9 2 rfl ?_
      refine r_iconst (v := 0) dX0_pickOfStratum_10 (by decide) ?_
      obtain ⟨q2, hq2, hf⟩ := hf_bind hf
      refine r_callVi (As := [.ref (eA E 1), .int v2_2, .int 0]) (b := (eA E 13)) (st := []) (s_X0_openOfStratum_T hq2) (by decide) (by decide) wd_384 wd_386 wd_7 wd_70 wd_387 hy_X0_openOfStratum (Rc.obj 13 ga_T rfl) rfl (Nat.le_of_ble_eq_true rfl) dX0_pickOfStratum_11 ?_
      refine r_istore_n (lv2 := [(3, .int q2), (0, .ref (eA E 13)), (1, .ref (eA E 1)), (2, .int v2_2)]) dX0_pickOfStratum_14 rfl (by decide) rfl ?_
      refine r_iload_n dX0_pickOfStratum_15 0 rfl ?_
      refine r_iconst (v := (-1)) dX0_pickOfStratum_16 (by decide) ?_
      obtain ⟨q4, hq4, hf⟩ := hf_bind hf
      have kj4 : Wa E yX0_pickOfStratum cX0_pickOfStratum 5 none 3 res 33 [(0, .ref (eA E 13)), (1, .ref (eA E 1)), (2, .int v2_2), (3, .int q2)] [.int q4] (hX, (R_count, R_changes, R_F), hL, (C_sample, C_plays, C_small, C_large, C_u, C_v, C_left, C_firsts, C_seconds, C_winners), hK, hS, hP, hM) := by
        refine r_istore (lv2 := [(4, .int q4), (0, .ref (eA E 13)), (1, .ref (eA E 1)), (2, .int v2_2), (3, .int q2)]) dX0_pickOfStratum_33 (by decide) rfl ?_
        refine r_iload dX0_pickOfStratum_35 0 rfl ?_
        refine r_iconst (v := (-1)) dX0_pickOfStratum_37 (by decide) ?_
        refine r_icmp_eq (tgt := 53) dX0_pickOfStratum_38 (by decide) (fun c6 => ?_) (fun c6 => ?_)
        · have hf := hf_pos c6 hf
          refine r_iinc (v := (v2_2 + 1)) (lv2 := [(2, .int (v2_2 + 1)), (4, .int q4), (0, .ref (eA E 13)), (1, .ref (eA E 1)), (3, .int q2)]) dX0_pickOfStratum_53 3 rfl rfl (by decide) rfl ?_
          refine r_goto (tgt := 2) dX0_pickOfStratum_56 (by decide) ?_
          exact (Wa.sub [2, 3, 0] rfl (ih _ _ hf kx0 kx1))
        · have hf := hf_neg c6 hf
          have e9 := Option.some.inj hf
          subst e9
          exact (Wa.sub [1, 4, 0] rfl (kx0 rfl))
      have hf := hq4
      refine r_icmp_ne (tgt := 24) dX0_pickOfStratum_17 (by decide) (fun c3 => ?_) (fun c3 => ?_)
      · have hf := hf_neg c3 hf
        refine r_aload_n dX0_pickOfStratum_24 1 rfl ?_
        refine r_aload_n dX0_pickOfStratum_25 2 rfl ?_
        refine r_iload_n dX0_pickOfStratum_26 3 rfl ?_
        refine r_iload_n dX0_pickOfStratum_27 0 rfl ?_
        refine r_iconst (v := 1) dX0_pickOfStratum_28 (by decide) ?_
        refine r_iadd dX0_pickOfStratum_29 ?_
        obtain ⟨q5, hq5, hf⟩ := hf_bind hf
        refine r_callVi (As := [.ref (eA E 1), .int v2_2, .int (q2 + 1)]) (b := (eA E 13)) (st := []) (s_X0_openOfStratum_T hq5) (by decide) (by decide) wd_384 wd_386 wd_7 wd_70 wd_387 hy_X0_openOfStratum (Rc.obj 13 ga_T rfl) rfl (Nat.le_of_ble_eq_true rfl) dX0_pickOfStratum_30 ?_
        have e9 := Option.some.inj hf
        subst e9
        exact (Wa.sub [1, 2, 3, 0] rfl kj4)
      · have hf := hf_pos c3 hf
        refine r_iconst (v := (-1)) dX0_pickOfStratum_20 (by decide) ?_
        refine r_goto (tgt := 33) dX0_pickOfStratum_21 (by decide) ?_
        have e9 := Option.some.inj hf
        subst e9
        exact (Wa.sub [1, 2, 3, 0] rfl kj4)
set_option maxHeartbeats 4000000 in
set_option maxRecDepth 100000 in
theorem s_X0_pickOfStratum_T {E : EN} {hX : TX} {hL : TC} {hK : TK} {hS : TS} {hP : TP} {hM : TM} {R_count : Int32} {R_changes : Int32} {R_F : Nat → Nat → Int32} {C_sample : Int32} {C_plays : Int32} {C_small : Int32} {C_large : Int32} {C_u : Int32} {C_v : Int32} {C_left : Nat → Int32} {C_firsts : Nat → Int32} {C_seconds : Nat → Int32} {C_winners : Nat → Int32}  {qR : Int32 × Int32} (hf : f_X0_pickOfStratum R_count R_F C_u C_v C_left = some qR) : Sem E yX0_pickOfStratum cX0_pickOfStratum 5 none 3 [.ref (eA E 13), .ref (eA E 1)] (hX, (R_count, R_changes, R_F), hL, (C_sample, C_plays, C_small, C_large, C_u, C_v, C_left, C_firsts, C_seconds, C_winners), hK, hS, hP, hM) (none, (hX, (R_count, R_changes, R_F), hL, (C_sample, C_plays, C_small, C_large, qR.1, qR.2, C_left, C_firsts, C_seconds, C_winners), hK, hS, hP, hM)) := by
  refine Sem.mk (lv := [(0, .ref (eA E 13)), (1, .ref (eA E 1))]) (by decide) (Nat.le_of_ble_eq_true rfl) rfl ?_
  rw [f_X0_pickOfStratum] at hf
  refine r_iconst (v := 0) dX0_pickOfStratum_0 (by decide) ?_
  refine r_istore_n (lv2 := [(2, .int 0), (0, .ref (eA E 13)), (1, .ref (eA E 1))]) dX0_pickOfStratum_1 rfl (by decide) rfl ?_
  obtain ⟨q7, hq7, hf⟩ := hf_bind hf
  refine (Wa.sub [1, 2, 0] rfl (w_X0_pickOfStratum_2_T _ _ _ hq7 ?_ ?_))
  · intro ht
    have hf := hf_pos ht hf
    refine r_aload_n dX0_pickOfStratum_41 0 rfl ?_
    refine r_iload_n dX0_pickOfStratum_42 1 rfl ?_
    refine r_put in_X0 tyX0_ok nmX0 13 ga_T rfl 8 (by decide) wd_128 rfl rfl pfI (Nat.le_of_ble_eq_true rfl) sa_T_u dX0_pickOfStratum_43 ?_
    refine r_aload_n dX0_pickOfStratum_46 0 rfl ?_
    refine r_iload dX0_pickOfStratum_47 2 rfl ?_
    refine r_put in_X0 tyX0_ok nmX0 13 ga_T rfl 9 (by decide) wd_130 rfl rfl pfI (Nat.le_of_ble_eq_true rfl) sa_T_v dX0_pickOfStratum_49 ?_
    have e9 := Option.some.inj hf
    subst e9
    exact r_vret rfl dX0_pickOfStratum_52
  · intro ht
    have hf := hf_neg (show ¬ q7.1 = 0 by rw [ht]; decide) hf
    have e9 := Option.some.inj hf
    subst e9
    exact r_vret rfl dX0_pickOfStratum_59
-- DuelSamples$Course.mostLeftBut
def lp_X0_mostLeftBut_7 (a0 : Int32) (C_left : Nat → Int32) : Nat → Int32 → Int32 → Int32 → Option (Int32)
  | 0, _, _, _ => none
  | n9 + 1, v2_7, v3_7, v4_7 => if 12 ≤ v4_7 then some v2_7 else Option.bind (if v4_7 = a0 then some (v2_7, v3_7) else if inB v4_7 12 then if 12 ≤ (C_left (Int32.toNatClampNeg v4_7)) then some (v2_7, v3_7) else if inB v4_7 12 then if (C_left (Int32.toNatClampNeg v4_7)) ≤ v3_7 then some (v2_7, v3_7) else if inB v4_7 12 then some (v4_7, (C_left (Int32.toNatClampNeg v4_7))) else none else none else none) (fun (q3 : Int32 × Int32) => lp_X0_mostLeftBut_7 a0 C_left n9 q3.1 q3.2 (v4_7 + 1))
def f_X0_mostLeftBut (C_left : Nat → Int32) (a0 : Int32) : Option (Int32) := Option.bind (lp_X0_mostLeftBut_7 a0 C_left FU (-1) 0 0) (fun (q9 : Int32) => some q9)
theorem hy_X0_mostLeftBut : yX0_mostLeftBut.cls ≠ "java/lang/invoke/MethodHandle" ∧ yX0_mostLeftBut.cls ≠ "java/lang/invoke/VarHandle" ∧ (parseMethodDescriptor yX0_mostLeftBut.desc).map (fun d => d.parameters.length) = some 1 := by decide +kernel
set_option maxHeartbeats 4000000 in
set_option maxRecDepth 100000 in
theorem w_X0_mostLeftBut_7_L {E : EN} {res : Option Value × Hp} {hX : TX} {hR : TR} {hT : TC} {hK : TK} {hS : TS} {hP : TP} {hM : TM} {a0 : Int32} {C_sample : Int32} {C_plays : Int32} {C_small : Int32} {C_large : Int32} {C_u : Int32} {C_v : Int32} {C_left : Nat → Int32} {C_firsts : Nat → Int32} {C_seconds : Nat → Int32} {C_winners : Nat → Int32} : ∀ (n9 : Nat) (v2_7 : Int32) (v3_7 : Int32) (v4_7 : Int32) (qL : Int32), lp_X0_mostLeftBut_7 a0 C_left n9 v2_7 v3_7 v4_7 = some qL → (Wa E yX0_mostLeftBut cX0_mostLeftBut 5 (some .int) 1 res 60 [(2, .int qL)] [] (hX, hR, (C_sample, C_plays, C_small, C_large, C_u, C_v, C_left, C_firsts, C_seconds, C_winners), hT, hK, hS, hP, hM)) → Wa E yX0_mostLeftBut cX0_mostLeftBut 5 (some .int) 1 res 7 [(0, .ref (eA E 8)), (1, .int a0), (2, .int v2_7), (3, .int v3_7), (4, .int v4_7)] [] (hX, hR, (C_sample, C_plays, C_small, C_large, C_u, C_v, C_left, C_firsts, C_seconds, C_winners), hT, hK, hS, hP, hM) := by
  intro n9
  induction n9 with
  | zero =>
    intro v2_7 v3_7 v4_7 qL hf
    exact nomatch (show (none : Option (Int32)) = some qL from hf)
  | succ n9 ih =>
    intro v2_7 v3_7 v4_7 qL hf kx0
    rw [lp_X0_mostLeftBut_7] at hf
    refine r_iload dX0_mostLeftBut_7 4 rfl ?_
    refine r_bipush (v := 12) dX0_mostLeftBut_9 (by decide) ?_
    refine r_icmp_ge (tgt := 60) dX0_mostLeftBut_11 (by decide) (fun c1 => ?_) (fun c1 => ?_)
    · have hf := hf_pos c1 hf
      have e9 := Option.some.inj hf
      subst e9
      exact (Wa.sub [2] rfl kx0)
    · have hf := hf_neg c1 hf
      refine r_iload dX0_mostLeftBut_14 4 rfl ?_
      refine r_iload_n dX0_mostLeftBut_16 1 rfl ?_
      obtain ⟨q3, hq3, hf⟩ := hf_bind hf
      have kj3 : Wa E yX0_mostLeftBut cX0_mostLeftBut 5 (some .int) 1 res 54 [(0, .ref (eA E 8)), (1, .int a0), (2, .int q3.1), (3, .int q3.2), (4, .int v4_7)] [] (hX, hR, (C_sample, C_plays, C_small, C_large, C_u, C_v, C_left, C_firsts, C_seconds, C_winners), hT, hK, hS, hP, hM) := by
        refine r_iinc (v := (v4_7 + 1)) (lv2 := [(4, .int (v4_7 + 1)), (0, .ref (eA E 8)), (1, .int a0), (2, .int q3.1), (3, .int q3.2)]) dX0_mostLeftBut_54 4 rfl rfl (by decide) rfl ?_
        refine r_goto (tgt := 7) dX0_mostLeftBut_57 (by decide) ?_
        exact (Wa.sub [1, 2, 3, 4, 0] rfl (ih _ _ _ _ hf kx0))
      have hf := hq3
      refine r_icmp_eq (tgt := 54) dX0_mostLeftBut_17 (by decide) (fun c2 => ?_) (fun c2 => ?_)
      · have hf := hf_pos c2 hf
        have e9 := Option.some.inj hf
        subst e9
        exact kj3
      · have hf := hf_neg c2 hf
        refine r_aload_n dX0_mostLeftBut_20 0 rfl ?_
        refine r_get (v := .ref (eA E 9)) in_X0 8 ga_L rfl 0 (by decide) wd_118 rfl rfl dX0_mostLeftBut_21 ?_
        refine r_iload dX0_mostLeftBut_24 4 rfl ?_
        obtain ⟨i4, hf⟩ := hf_in hf
        refine r_iald (f := C_left) 9 ga_L_left i4 dX0_mostLeftBut_26 ?_
        refine r_bipush (v := 12) dX0_mostLeftBut_27 (by decide) ?_
        refine r_icmp_ge (tgt := 54) dX0_mostLeftBut_29 (by decide) (fun c5 => ?_) (fun c5 => ?_)
        · have hf := hf_pos c5 hf
          have e9 := Option.some.inj hf
          subst e9
          exact kj3
        · have hf := hf_neg c5 hf
          refine r_aload_n dX0_mostLeftBut_32 0 rfl ?_
          refine r_get (v := .ref (eA E 9)) in_X0 8 ga_L rfl 0 (by decide) wd_118 rfl rfl dX0_mostLeftBut_33 ?_
          refine r_iload dX0_mostLeftBut_36 4 rfl ?_
          obtain ⟨i6, hf⟩ := hf_in hf
          refine r_iald (f := C_left) 9 ga_L_left i6 dX0_mostLeftBut_38 ?_
          refine r_iload_n dX0_mostLeftBut_39 3 rfl ?_
          refine r_icmp_le (tgt := 54) dX0_mostLeftBut_40 (by decide) (fun c7 => ?_) (fun c7 => ?_)
          · have hf := hf_pos c7 hf
            have e9 := Option.some.inj hf
            subst e9
            exact kj3
          · have hf := hf_neg c7 hf
            refine r_iload dX0_mostLeftBut_43 4 rfl ?_
            refine r_istore_n (lv2 := [(2, .int v4_7), (0, .ref (eA E 8)), (1, .int a0), (3, .int v3_7), (4, .int v4_7)]) dX0_mostLeftBut_45 rfl (by decide) rfl ?_
            refine r_aload_n dX0_mostLeftBut_46 1 rfl ?_
            refine r_get (v := .ref (eA E 9)) in_X0 8 ga_L rfl 0 (by decide) wd_118 rfl rfl dX0_mostLeftBut_47 ?_
            refine r_iload dX0_mostLeftBut_50 4 rfl ?_
            obtain ⟨i8, hf⟩ := hf_in hf
            refine r_iald (f := C_left) 9 ga_L_left i8 dX0_mostLeftBut_52 ?_
            refine r_istore_n (lv2 := [(3, .int (C_left (Int32.toNatClampNeg v4_7))), (2, .int v4_7), (0, .ref (eA E 8)), (1, .int a0), (4, .int v4_7)]) dX0_mostLeftBut_53 rfl (by decide) rfl ?_
            have e9 := Option.some.inj hf
            subst e9
            exact (Wa.sub [2, 3, 1, 0, 4] rfl kj3)
set_option maxHeartbeats 4000000 in
set_option maxRecDepth 100000 in
theorem s_X0_mostLeftBut_L {E : EN} {hX : TX} {hR : TR} {hT : TC} {hK : TK} {hS : TS} {hP : TP} {hM : TM} {C_sample : Int32} {C_plays : Int32} {C_small : Int32} {C_large : Int32} {C_u : Int32} {C_v : Int32} {C_left : Nat → Int32} {C_firsts : Nat → Int32} {C_seconds : Nat → Int32} {C_winners : Nat → Int32} {a0 : Int32} {qR : Int32} (hf : f_X0_mostLeftBut C_left a0 = some qR) : Sem E yX0_mostLeftBut cX0_mostLeftBut 5 (some .int) 1 [.ref (eA E 8), .int a0] (hX, hR, (C_sample, C_plays, C_small, C_large, C_u, C_v, C_left, C_firsts, C_seconds, C_winners), hT, hK, hS, hP, hM) (some (.int qR), (hX, hR, (C_sample, C_plays, C_small, C_large, C_u, C_v, C_left, C_firsts, C_seconds, C_winners), hT, hK, hS, hP, hM)) := by
  refine Sem.mk (lv := [(0, .ref (eA E 8)), (1, .int a0)]) (by decide) (Nat.le_of_ble_eq_true rfl) rfl ?_
  rw [f_X0_mostLeftBut] at hf
  refine r_iconst (v := (-1)) dX0_mostLeftBut_0 (by decide) ?_
  refine r_istore_n (lv2 := [(2, .int (-1)), (0, .ref (eA E 8)), (1, .int a0)]) dX0_mostLeftBut_1 rfl (by decide) rfl ?_
  refine r_iconst (v := 0) dX0_mostLeftBut_2 (by decide) ?_
  refine r_istore_n (lv2 := [(3, .int 0), (2, .int (-1)), (0, .ref (eA E 8)), (1, .int a0)]) dX0_mostLeftBut_3 rfl (by decide) rfl ?_
  refine r_iconst (v := 0) dX0_mostLeftBut_4 (by decide) ?_
  refine r_istore (lv2 := [(4, .int 0), (3, .int 0), (2, .int (-1)), (0, .ref (eA E 8)), (1, .int a0)]) dX0_mostLeftBut_5 (by decide) rfl ?_
  obtain ⟨q9, hq9, hf⟩ := hf_bind hf
  refine (Wa.sub [3, 4, 2, 1, 0] rfl (w_X0_mostLeftBut_7_L _ _ _ _ _ hq9 ?_))
  refine r_iload_n dX0_mostLeftBut_60 0 rfl ?_
  have e9 := Option.some.inj hf
  subst e9
  exact r_iret rfl dX0_mostLeftBut_61
set_option maxHeartbeats 4000000 in
set_option maxRecDepth 100000 in
theorem w_X0_mostLeftBut_7_T {E : EN} {res : Option Value × Hp} {hX : TX} {hR : TR} {hL : TC} {hK : TK} {hS : TS} {hP : TP} {hM : TM} {a0 : Int32} {C_sample : Int32} {C_plays : Int32} {C_small : Int32} {C_large : Int32} {C_u : Int32} {C_v : Int32} {C_left : Nat → Int32} {C_firsts : Nat → Int32} {C_seconds : Nat → Int32} {C_winners : Nat → Int32} : ∀ (n9 : Nat) (v2_7 : Int32) (v3_7 : Int32) (v4_7 : Int32) (qL : Int32), lp_X0_mostLeftBut_7 a0 C_left n9 v2_7 v3_7 v4_7 = some qL → (Wa E yX0_mostLeftBut cX0_mostLeftBut 5 (some .int) 1 res 60 [(2, .int qL)] [] (hX, hR, hL, (C_sample, C_plays, C_small, C_large, C_u, C_v, C_left, C_firsts, C_seconds, C_winners), hK, hS, hP, hM)) → Wa E yX0_mostLeftBut cX0_mostLeftBut 5 (some .int) 1 res 7 [(0, .ref (eA E 13)), (1, .int a0), (2, .int v2_7), (3, .int v3_7), (4, .int v4_7)] [] (hX, hR, hL, (C_sample, C_plays, C_small, C_large, C_u, C_v, C_left, C_firsts, C_seconds, C_winners), hK, hS, hP, hM) := by
  intro n9
  induction n9 with
  | zero =>
    intro v2_7 v3_7 v4_7 qL hf
    exact nomatch (show (none : Option (Int32)) = some qL from hf)
  | succ n9 ih =>
    intro v2_7 v3_7 v4_7 qL hf kx0
    rw [lp_X0_mostLeftBut_7] at hf
    refine r_iload dX0_mostLeftBut_7 4 rfl ?_
    refine r_bipush (v := 12) dX0_mostLeftBut_9 (by decide) ?_
    refine r_icmp_ge (tgt := 60) dX0_mostLeftBut_11 (by decide) (fun c1 => ?_) (fun c1 => ?_)
    · have hf := hf_pos c1 hf
      have e9 := Option.some.inj hf
      subst e9
      exact (Wa.sub [2] rfl kx0)
    · have hf := hf_neg c1 hf
      refine r_iload dX0_mostLeftBut_14 4 rfl ?_
      refine r_iload_n dX0_mostLeftBut_16 1 rfl ?_
      obtain ⟨q3, hq3, hf⟩ := hf_bind hf
      have kj3 : Wa E yX0_mostLeftBut cX0_mostLeftBut 5 (some .int) 1 res 54 [(0, .ref (eA E 13)), (1, .int a0), (2, .int q3.1), (3, .int q3.2), (4, .int v4_7)] [] (hX, hR, hL, (C_sample, C_plays, C_small, C_large, C_u, C_v, C_left, C_firsts, C_seconds, C_winners), hK, hS, hP, hM) := by
        refine r_iinc (v := (v4_7 + 1)) (lv2 := [(4, .int (v4_7 + 1)), (0, .ref (eA E 13)), (1, .int a0), (2, .int q3.1), (3, .int q3.2)]) dX0_mostLeftBut_54 4 rfl rfl (by decide) rfl ?_
        refine r_goto (tgt := 7) dX0_mostLeftBut_57 (by decide) ?_
        exact (Wa.sub [1, 2, 3, 4, 0] rfl (ih _ _ _ _ hf kx0))
      have hf := hq3
      refine r_icmp_eq (tgt := 54) dX0_mostLeftBut_17 (by decide) (fun c2 => ?_) (fun c2 => ?_)
      · have hf := hf_pos c2 hf
        have e9 := Option.some.inj hf
        subst e9
        exact kj3
      · have hf := hf_neg c2 hf
        refine r_aload_n dX0_mostLeftBut_20 0 rfl ?_
        refine r_get (v := .ref (eA E 14)) in_X0 13 ga_T rfl 0 (by decide) wd_118 rfl rfl dX0_mostLeftBut_21 ?_
        refine r_iload dX0_mostLeftBut_24 4 rfl ?_
        obtain ⟨i4, hf⟩ := hf_in hf
        refine r_iald (f := C_left) 14 ga_T_left i4 dX0_mostLeftBut_26 ?_
        refine r_bipush (v := 12) dX0_mostLeftBut_27 (by decide) ?_
        refine r_icmp_ge (tgt := 54) dX0_mostLeftBut_29 (by decide) (fun c5 => ?_) (fun c5 => ?_)
        · have hf := hf_pos c5 hf
          have e9 := Option.some.inj hf
          subst e9
          exact kj3
        · have hf := hf_neg c5 hf
          refine r_aload_n dX0_mostLeftBut_32 0 rfl ?_
          refine r_get (v := .ref (eA E 14)) in_X0 13 ga_T rfl 0 (by decide) wd_118 rfl rfl dX0_mostLeftBut_33 ?_
          refine r_iload dX0_mostLeftBut_36 4 rfl ?_
          obtain ⟨i6, hf⟩ := hf_in hf
          refine r_iald (f := C_left) 14 ga_T_left i6 dX0_mostLeftBut_38 ?_
          refine r_iload_n dX0_mostLeftBut_39 3 rfl ?_
          refine r_icmp_le (tgt := 54) dX0_mostLeftBut_40 (by decide) (fun c7 => ?_) (fun c7 => ?_)
          · have hf := hf_pos c7 hf
            have e9 := Option.some.inj hf
            subst e9
            exact kj3
          · have hf := hf_neg c7 hf
            refine r_iload dX0_mostLeftBut_43 4 rfl ?_
            refine r_istore_n (lv2 := [(2, .int v4_7), (0, .ref (eA E 13)), (1, .int a0), (3, .int v3_7), (4, .int v4_7)]) dX0_mostLeftBut_45 rfl (by decide) rfl ?_
            refine r_aload_n dX0_mostLeftBut_46 1 rfl ?_
            refine r_get (v := .ref (eA E 14)) in_X0 13 ga_T rfl 0 (by decide) wd_118 rfl rfl dX0_mostLeftBut_47 ?_
            refine r_iload dX0_mostLeftBut_50 4 rfl ?_
            obtain ⟨i8, hf⟩ := hf_in hf
            refine r_iald (f := C_left) 14 ga_T_left i8 dX0_mostLeftBut_52 ?_
            refine r_istore_n (lv2 := [(3, .int (C_left (Int32.toNatClampNeg v4_7))), (2, .int v4_7), (0, .ref (eA E 13)), (1, .int a0), (4, .int v4_7)]) dX0_mostLeftBut_53 rfl (by decide) rfl ?_
            have e9 := Option.some.inj hf
            subst e9
            exact (Wa.sub [2, 3, 1, 0, 4] rfl kj3)
set_option maxHeartbeats 4000000 in
set_option maxRecDepth 100000 in
theorem s_X0_mostLeftBut_T {E : EN} {hX : TX} {hR : TR} {hL : TC} {hK : TK} {hS : TS} {hP : TP} {hM : TM} {C_sample : Int32} {C_plays : Int32} {C_small : Int32} {C_large : Int32} {C_u : Int32} {C_v : Int32} {C_left : Nat → Int32} {C_firsts : Nat → Int32} {C_seconds : Nat → Int32} {C_winners : Nat → Int32} {a0 : Int32} {qR : Int32} (hf : f_X0_mostLeftBut C_left a0 = some qR) : Sem E yX0_mostLeftBut cX0_mostLeftBut 5 (some .int) 1 [.ref (eA E 13), .int a0] (hX, hR, hL, (C_sample, C_plays, C_small, C_large, C_u, C_v, C_left, C_firsts, C_seconds, C_winners), hK, hS, hP, hM) (some (.int qR), (hX, hR, hL, (C_sample, C_plays, C_small, C_large, C_u, C_v, C_left, C_firsts, C_seconds, C_winners), hK, hS, hP, hM)) := by
  refine Sem.mk (lv := [(0, .ref (eA E 13)), (1, .int a0)]) (by decide) (Nat.le_of_ble_eq_true rfl) rfl ?_
  rw [f_X0_mostLeftBut] at hf
  refine r_iconst (v := (-1)) dX0_mostLeftBut_0 (by decide) ?_
  refine r_istore_n (lv2 := [(2, .int (-1)), (0, .ref (eA E 13)), (1, .int a0)]) dX0_mostLeftBut_1 rfl (by decide) rfl ?_
  refine r_iconst (v := 0) dX0_mostLeftBut_2 (by decide) ?_
  refine r_istore_n (lv2 := [(3, .int 0), (2, .int (-1)), (0, .ref (eA E 13)), (1, .int a0)]) dX0_mostLeftBut_3 rfl (by decide) rfl ?_
  refine r_iconst (v := 0) dX0_mostLeftBut_4 (by decide) ?_
  refine r_istore (lv2 := [(4, .int 0), (3, .int 0), (2, .int (-1)), (0, .ref (eA E 13)), (1, .int a0)]) dX0_mostLeftBut_5 (by decide) rfl ?_
  obtain ⟨q9, hq9, hf⟩ := hf_bind hf
  refine (Wa.sub [3, 4, 2, 1, 0] rfl (w_X0_mostLeftBut_7_T _ _ _ _ _ hq9 ?_))
  refine r_iload_n dX0_mostLeftBut_60 0 rfl ?_
  have e9 := Option.some.inj hf
  subst e9
  exact r_iret rfl dX0_mostLeftBut_61
-- DuelSamples$Course.pickByChance
def f_X0_pickByChance (C_left : Nat → Int32)  : Option (Int32 × Int32) := Option.bind (f_X0_mostLeftBut C_left (-1)) (fun (q1 : Int32) => Option.bind (f_X0_mostLeftBut C_left q1) (fun (q2 : Int32) => some (q1, q2)))
theorem hy_X0_pickByChance : yX0_pickByChance.cls ≠ "java/lang/invoke/MethodHandle" ∧ yX0_pickByChance.cls ≠ "java/lang/invoke/VarHandle" ∧ (parseMethodDescriptor yX0_pickByChance.desc).map (fun d => d.parameters.length) = some 0 := by decide +kernel
set_option maxHeartbeats 4000000 in
set_option maxRecDepth 100000 in
theorem s_X0_pickByChance_L {E : EN} {hX : TX} {hR : TR} {hT : TC} {hK : TK} {hS : TS} {hP : TP} {hM : TM} {C_sample : Int32} {C_plays : Int32} {C_small : Int32} {C_large : Int32} {C_u : Int32} {C_v : Int32} {C_left : Nat → Int32} {C_firsts : Nat → Int32} {C_seconds : Nat → Int32} {C_winners : Nat → Int32}  {qR : Int32 × Int32} (hf : f_X0_pickByChance C_left = some qR) : Sem E yX0_pickByChance cX0_pickByChance 1 none 2 [.ref (eA E 8)] (hX, hR, (C_sample, C_plays, C_small, C_large, C_u, C_v, C_left, C_firsts, C_seconds, C_winners), hT, hK, hS, hP, hM) (none, (hX, hR, (C_sample, C_plays, C_small, C_large, qR.1, qR.2, C_left, C_firsts, C_seconds, C_winners), hT, hK, hS, hP, hM)) := by
  refine Sem.mk (lv := [(0, .ref (eA E 8))]) (by decide) (Nat.le_of_ble_eq_true rfl) rfl ?_
  rw [f_X0_pickByChance] at hf
  refine r_aload_n dX0_pickByChance_0 0 rfl ?_
  refine r_aload_n dX0_pickByChance_1 0 rfl ?_
  refine r_iconst (v := (-1)) dX0_pickByChance_2 (by decide) ?_
  obtain ⟨q1, hq1, hf⟩ := hf_bind hf
  refine r_callVi (As := [.int (-1)]) (b := (eA E 8)) (st := [.ref (eA E 8)]) (s_X0_mostLeftBut_L hq1) (by decide) (by decide) wd_392 wd_394 wd_9 wd_70 wd_395 hy_X0_mostLeftBut (Rc.obj 8 ga_L rfl) rfl (Nat.le_of_ble_eq_true rfl) dX0_pickByChance_3 ?_
  refine r_put in_X0 tyX0_ok nmX0 8 ga_L rfl 8 (by decide) wd_128 rfl rfl pfI (Nat.le_of_ble_eq_true rfl) sa_L_u dX0_pickByChance_6 ?_
  refine r_aload_n dX0_pickByChance_9 0 rfl ?_
  refine r_aload_n dX0_pickByChance_10 0 rfl ?_
  refine r_aload_n dX0_pickByChance_11 0 rfl ?_
  refine r_get (v := .int q1) in_X0 8 ga_L rfl 8 (by decide) wd_128 rfl rfl dX0_pickByChance_12 ?_
  obtain ⟨q2, hq2, hf⟩ := hf_bind hf
  refine r_callVi (As := [.int q1]) (b := (eA E 8)) (st := [.ref (eA E 8)]) (s_X0_mostLeftBut_L hq2) (by decide) (by decide) wd_392 wd_394 wd_9 wd_70 wd_395 hy_X0_mostLeftBut (Rc.obj 8 ga_L rfl) rfl (Nat.le_of_ble_eq_true rfl) dX0_pickByChance_15 ?_
  refine r_put in_X0 tyX0_ok nmX0 8 ga_L rfl 9 (by decide) wd_130 rfl rfl pfI (Nat.le_of_ble_eq_true rfl) sa_L_v dX0_pickByChance_18 ?_
  have e9 := Option.some.inj hf
  subst e9
  exact r_vret rfl dX0_pickByChance_21
set_option maxHeartbeats 4000000 in
set_option maxRecDepth 100000 in
theorem s_X0_pickByChance_T {E : EN} {hX : TX} {hR : TR} {hL : TC} {hK : TK} {hS : TS} {hP : TP} {hM : TM} {C_sample : Int32} {C_plays : Int32} {C_small : Int32} {C_large : Int32} {C_u : Int32} {C_v : Int32} {C_left : Nat → Int32} {C_firsts : Nat → Int32} {C_seconds : Nat → Int32} {C_winners : Nat → Int32}  {qR : Int32 × Int32} (hf : f_X0_pickByChance C_left = some qR) : Sem E yX0_pickByChance cX0_pickByChance 1 none 2 [.ref (eA E 13)] (hX, hR, hL, (C_sample, C_plays, C_small, C_large, C_u, C_v, C_left, C_firsts, C_seconds, C_winners), hK, hS, hP, hM) (none, (hX, hR, hL, (C_sample, C_plays, C_small, C_large, qR.1, qR.2, C_left, C_firsts, C_seconds, C_winners), hK, hS, hP, hM)) := by
  refine Sem.mk (lv := [(0, .ref (eA E 13))]) (by decide) (Nat.le_of_ble_eq_true rfl) rfl ?_
  rw [f_X0_pickByChance] at hf
  refine r_aload_n dX0_pickByChance_0 0 rfl ?_
  refine r_aload_n dX0_pickByChance_1 0 rfl ?_
  refine r_iconst (v := (-1)) dX0_pickByChance_2 (by decide) ?_
  obtain ⟨q1, hq1, hf⟩ := hf_bind hf
  refine r_callVi (As := [.int (-1)]) (b := (eA E 13)) (st := [.ref (eA E 13)]) (s_X0_mostLeftBut_T hq1) (by decide) (by decide) wd_392 wd_394 wd_9 wd_70 wd_395 hy_X0_mostLeftBut (Rc.obj 13 ga_T rfl) rfl (Nat.le_of_ble_eq_true rfl) dX0_pickByChance_3 ?_
  refine r_put in_X0 tyX0_ok nmX0 13 ga_T rfl 8 (by decide) wd_128 rfl rfl pfI (Nat.le_of_ble_eq_true rfl) sa_T_u dX0_pickByChance_6 ?_
  refine r_aload_n dX0_pickByChance_9 0 rfl ?_
  refine r_aload_n dX0_pickByChance_10 0 rfl ?_
  refine r_aload_n dX0_pickByChance_11 0 rfl ?_
  refine r_get (v := .int q1) in_X0 13 ga_T rfl 8 (by decide) wd_128 rfl rfl dX0_pickByChance_12 ?_
  obtain ⟨q2, hq2, hf⟩ := hf_bind hf
  refine r_callVi (As := [.int q1]) (b := (eA E 13)) (st := [.ref (eA E 13)]) (s_X0_mostLeftBut_T hq2) (by decide) (by decide) wd_392 wd_394 wd_9 wd_70 wd_395 hy_X0_mostLeftBut (Rc.obj 13 ga_T rfl) rfl (Nat.le_of_ble_eq_true rfl) dX0_pickByChance_15 ?_
  refine r_put in_X0 tyX0_ok nmX0 13 ga_T rfl 9 (by decide) wd_130 rfl rfl pfI (Nat.le_of_ble_eq_true rfl) sa_T_v dX0_pickByChance_18 ?_
  have e9 := Option.some.inj hf
  subst e9
  exact r_vret rfl dX0_pickByChance_21
