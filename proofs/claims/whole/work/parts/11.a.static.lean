-- DuelSamples.isSeed
def f_X5_isSeed  (a0 : Int32) : Option (Int32) := if a0 < 0 then some 0 else if 999999 < a0 then some 0 else some 1
theorem hy_X5_isSeed : yX5_isSeed.cls ≠ "java/lang/invoke/MethodHandle" ∧ yX5_isSeed.cls ≠ "java/lang/invoke/VarHandle" ∧ (parseMethodDescriptor yX5_isSeed.desc).map (fun d => d.parameters.length) = some 1 := by decide +kernel
theorem X5_isSeed_01 {a0 : Int32} {qR : Int32} (hf : f_X5_isSeed a0 = some qR) : qR = 0 ∨ qR = 1 := by
  rw [f_X5_isSeed] at hf
  (repeat' split at hf) <;> first | (have e9 := Option.some.inj hf; subst e9; simp; done) | (cases hf; done)
set_option maxHeartbeats 4000000 in
set_option maxRecDepth 100000 in
theorem s_X5_isSeed {E : EN} {hX : TX} {hR : TR} {hL : TC} {hT : TC} {hK : TK} {hS : TS} {hP : TP} {hM : TM}  {a0 : Int32} {qR : Int32} (hf : f_X5_isSeed a0 = some qR) : Sem E yX5_isSeed cX5_isSeed 1 (some .boolean) 1 [.int a0] (hX, hR, hL, hT, hK, hS, hP, hM) (some (.int qR), (hX, hR, hL, hT, hK, hS, hP, hM)) := by
  refine Sem.mk (lv := [(0, .int a0)]) (by decide) (Nat.le_of_ble_eq_true rfl) rfl ?_
  rw [f_X5_isSeed] at hf
  refine r_iload_n dX5_isSeed_0 0 rfl ?_
  refine r_if_lt (tgt := 14) dX5_isSeed_1 (by decide) (fun c1 => ?_) (fun c1 => ?_)
  · have hf := hf_pos c1 hf
    refine r_iconst (v := 0) dX5_isSeed_14 (by decide) ?_
    have e9 := Option.some.inj hf
    subst e9
    exact r_zret rfl (narB (Or.inl rfl)) dX5_isSeed_15
  · have hf := hf_neg c1 hf
    refine r_iload_n dX5_isSeed_4 0 rfl ?_
    refine r_ldc (v := 999999) wd_291 dX5_isSeed_5 ?_
    refine r_icmp_gt (tgt := 14) dX5_isSeed_7 (by decide) (fun c2 => ?_) (fun c2 => ?_)
    · have hf := hf_pos c2 hf
      refine r_iconst (v := 0) dX5_isSeed_14 (by decide) ?_
      have e9 := Option.some.inj hf
      subst e9
      exact r_zret rfl (narB (Or.inl rfl)) dX5_isSeed_15
    · have hf := hf_neg c2 hf
      refine r_iconst (v := 1) dX5_isSeed_10 (by decide) ?_
      refine r_goto (tgt := 15) dX5_isSeed_11 (by decide) ?_
      have e9 := Option.some.inj hf
      subst e9
      exact r_zret rfl (narB (Or.inr rfl)) dX5_isSeed_15
-- DuelSamples.nextX
def f_X5_nextX  (a0 : Int64) : Option (Int64) := some (((a0 * 1103515245) + 12345) - ((a0 * 1103515245) + 12345) / 2147483648 * 2147483648)
theorem hy_X5_nextX : yX5_nextX.cls ≠ "java/lang/invoke/MethodHandle" ∧ yX5_nextX.cls ≠ "java/lang/invoke/VarHandle" ∧ (parseMethodDescriptor yX5_nextX.desc).map (fun d => d.parameters.length) = some 1 := by decide +kernel
set_option maxHeartbeats 4000000 in
set_option maxRecDepth 100000 in
theorem s_X5_nextX {E : EN} {hX : TX} {hR : TR} {hL : TC} {hT : TC} {hK : TK} {hS : TS} {hP : TP} {hM : TM}  {a0 : Int64} {qR : Int64} (hf : f_X5_nextX a0 = some qR) : Sem E yX5_nextX cX5_nextX 2 (some .long) 1 [.long a0] (hX, hR, hL, hT, hK, hS, hP, hM) (some (.long qR), (hX, hR, hL, hT, hK, hS, hP, hM)) := by
  refine Sem.mk (lv := [(0, .long a0)]) (by decide) (Nat.le_of_ble_eq_true rfl) rfl ?_
  rw [f_X5_nextX] at hf
  refine r_lload_n dX5_nextX_0 0 rfl ?_
  refine r_ldc2 (v := 1103515245) wd_295 dX5_nextX_1 ?_
  refine r_lmul dX5_nextX_4 ?_
  refine r_ldc2 (v := 12345) wd_296 dX5_nextX_5 ?_
  refine r_ladd dX5_nextX_8 ?_
  refine r_ldc2 (v := 2147483648) wd_297 dX5_nextX_9 ?_
  refine r_lrem dX5_nextX_12 (by decide) ?_
  have e9 := Option.some.inj hf
  subst e9
  exact r_lret rfl dX5_nextX_13
-- DuelSamples.areSeeds
def f_X5_areSeeds  (a0 : Int32) (a1 : Int32) : Option (Int32) := Option.bind (f_X5_isSeed a0) (fun (q1 : Int32) => if q1 = 0 then some 0 else if a1 < 1 then some 0 else if 60 < a1 then some 0 else if 1000000 < (a0 + a1) then some 0 else some 1)
theorem hy_X5_areSeeds : yX5_areSeeds.cls ≠ "java/lang/invoke/MethodHandle" ∧ yX5_areSeeds.cls ≠ "java/lang/invoke/VarHandle" ∧ (parseMethodDescriptor yX5_areSeeds.desc).map (fun d => d.parameters.length) = some 2 := by decide +kernel
set_option maxHeartbeats 4000000 in
set_option maxRecDepth 100000 in
theorem s_X5_areSeeds {E : EN} {hX : TX} {hR : TR} {hL : TC} {hT : TC} {hK : TK} {hS : TS} {hP : TP} {hM : TM}  {a0 : Int32} {a1 : Int32} {qR : Int32} (hf : f_X5_areSeeds a0 a1 = some qR) : Sem E yX5_areSeeds cX5_areSeeds 2 (some .boolean) 2 [.int a0, .int a1] (hX, hR, hL, hT, hK, hS, hP, hM) (some (.int qR), (hX, hR, hL, hT, hK, hS, hP, hM)) := by
  refine Sem.mk (lv := [(0, .int a0), (1, .int a1)]) (by decide) (Nat.le_of_ble_eq_true rfl) rfl ?_
  rw [f_X5_areSeeds] at hf
  refine r_iload_n dX5_areSeeds_0 0 rfl ?_
  obtain ⟨q1, hq1, hf⟩ := hf_bind hf
  refine r_callSi (As := [.int a0]) (st := []) (s_X5_isSeed hq1) (by decide) (by decide) wd_288 wd_289 wd_68 wd_290 hy_X5_isSeed rfl (Nat.le_of_ble_eq_true rfl) dX5_areSeeds_1 ?_
  refine r_if_eq (tgt := 30) dX5_areSeeds_4 (by decide) (fun c2 => ?_) (fun c2 => ?_)
  · have hf := hf_pos c2 hf
    refine r_iconst (v := 0) dX5_areSeeds_30 (by decide) ?_
    have e9 := Option.some.inj hf
    subst e9
    exact r_zret rfl (narB (Or.inl rfl)) dX5_areSeeds_31
  · have hf := hf_neg c2 hf
    refine r_iload_n dX5_areSeeds_7 1 rfl ?_
    refine r_iconst (v := 1) dX5_areSeeds_8 (by decide) ?_
    refine r_icmp_lt (tgt := 30) dX5_areSeeds_9 (by decide) (fun c3 => ?_) (fun c3 => ?_)
    · have hf := hf_pos c3 hf
      refine r_iconst (v := 0) dX5_areSeeds_30 (by decide) ?_
      have e9 := Option.some.inj hf
      subst e9
      exact r_zret rfl (narB (Or.inl rfl)) dX5_areSeeds_31
    · have hf := hf_neg c3 hf
      refine r_iload_n dX5_areSeeds_12 1 rfl ?_
      refine r_bipush (v := 60) dX5_areSeeds_13 (by decide) ?_
      refine r_icmp_gt (tgt := 30) dX5_areSeeds_15 (by decide) (fun c4 => ?_) (fun c4 => ?_)
      · have hf := hf_pos c4 hf
        refine r_iconst (v := 0) dX5_areSeeds_30 (by decide) ?_
        have e9 := Option.some.inj hf
        subst e9
        exact r_zret rfl (narB (Or.inl rfl)) dX5_areSeeds_31
      · have hf := hf_neg c4 hf
        refine r_iload_n dX5_areSeeds_18 0 rfl ?_
        refine r_iload_n dX5_areSeeds_19 1 rfl ?_
        refine r_iadd dX5_areSeeds_20 ?_
        refine r_ldc (v := 1000000) wd_491 dX5_areSeeds_21 ?_
        refine r_icmp_gt (tgt := 30) dX5_areSeeds_23 (by decide) (fun c5 => ?_) (fun c5 => ?_)
        · have hf := hf_pos c5 hf
          refine r_iconst (v := 0) dX5_areSeeds_30 (by decide) ?_
          have e9 := Option.some.inj hf
          subst e9
          exact r_zret rfl (narB (Or.inl rfl)) dX5_areSeeds_31
        · have hf := hf_neg c5 hf
          refine r_iconst (v := 1) dX5_areSeeds_26 (by decide) ?_
          refine r_goto (tgt := 31) dX5_areSeeds_27 (by decide) ?_
          have e9 := Option.some.inj hf
          subst e9
          exact r_zret rfl (narB (Or.inr rfl)) dX5_areSeeds_31
