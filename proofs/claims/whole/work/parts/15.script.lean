-- DuelSamples$Script.append
def f_X4_append (S_length : Int32) (S_text : Nat → Int32) (a0 : Int32) : Option (Int32 × Int32 × (Nat → Int32)) := Option.bind (if 120 ≤ S_length then some (S_length, S_text) else if inB S_length 120 then some ((S_length + 1), (upd S_text (Int32.toNatClampNeg S_length) (vp_nar .byte ((Int32.toInt8 a0).toInt32)))) else none) (fun (q2 : Int32 × (Nat → Int32)) => some (q2.1, q2.1, q2.2))
theorem hy_X4_append : yX4_append.cls ≠ "java/lang/invoke/MethodHandle" ∧ yX4_append.cls ≠ "java/lang/invoke/VarHandle" ∧ (parseMethodDescriptor yX4_append.desc).map (fun d => d.parameters.length) = some 1 := by decide +kernel
set_option maxHeartbeats 4000000 in
set_option maxRecDepth 100000 in
theorem s_X4_append {E : EN} {hX : TX} {hR : TR} {hL : TC} {hT : TC} {hK : TK} {hP : TP} {hM : TM} {S_length : Int32} {S_sentences : Int32} {S_at : Int32} {S_units : Int32} {S_text : Nat → Int32} {S_verbs : Nat → Int32} {S_numbers : Nat → Int32} {a0 : Int32} {qR : Int32 × Int32 × (Nat → Int32)} (hf : f_X4_append S_length S_text a0 = some qR) : Sem E yX4_append cX4_append 2 (some .int) 1 [.ref (eA E 20), .int a0] (hX, hR, hL, hT, hK, (S_length, S_sentences, S_at, S_units, S_text, S_verbs, S_numbers), hP, hM) (some (.int qR.1), (hX, hR, hL, hT, hK, (qR.2.1, S_sentences, S_at, S_units, qR.2.2, S_verbs, S_numbers), hP, hM)) := by
  refine Sem.mk (lv := [(0, .ref (eA E 20)), (1, .int a0)]) (by decide) (Nat.le_of_ble_eq_true rfl) rfl ?_
  rw [f_X4_append] at hf
  refine r_aload_n dX4_append_0 0 rfl ?_
  refine r_get (v := .int S_length) in_X4 20 ga_S rfl 3 (by decide) wd_178 rfl rfl dX4_append_1 ?_
  refine r_bipush (v := 120) dX4_append_4 (by decide) ?_
  obtain ⟨q2, hq2, hf⟩ := hf_bind hf
  have kj2 : Wa E yX4_append cX4_append 2 (some .int) 1 (some (.int qR.1), (hX, hR, hL, hT, hK, (qR.2.1, S_sentences, S_at, S_units, qR.2.2, S_verbs, S_numbers), hP, hM)) 30 [(0, .ref (eA E 20))] [] (hX, hR, hL, hT, hK, (q2.1, S_sentences, S_at, S_units, q2.2, S_verbs, S_numbers), hP, hM) := by
    refine r_aload_n dX4_append_30 0 rfl ?_
    refine r_get (v := .int q2.1) in_X4 20 ga_S rfl 3 (by decide) wd_178 rfl rfl dX4_append_31 ?_
    have e9 := Option.some.inj hf
    subst e9
    exact r_iret rfl dX4_append_34
  have hf := hq2
  refine r_icmp_ge (tgt := 30) dX4_append_6 (by decide) (fun c1 => ?_) (fun c1 => ?_)
  · have hf := hf_pos c1 hf
    have e9 := Option.some.inj hf
    subst e9
    exact (Wa.sub [0] rfl kj2)
  · have hf := hf_neg c1 hf
    refine r_aload_n dX4_append_9 0 rfl ?_
    refine r_get (v := .ref (eA E 21)) in_X4 20 ga_S rfl 0 (by decide) wd_175 rfl rfl dX4_append_10 ?_
    refine r_aload_n dX4_append_13 0 rfl ?_
    refine r_get (v := .int S_length) in_X4 20 ga_S rfl 3 (by decide) wd_178 rfl rfl dX4_append_14 ?_
    refine r_iload_n dX4_append_17 1 rfl ?_
    refine r_i2b dX4_append_18 ?_
    obtain ⟨i3, hf⟩ := hf_in hf
    refine r_bast 21 ga_S_text sa_S_text i3 dX4_append_19 ?_
    refine r_aload_n dX4_append_20 0 rfl ?_
    refine r_dup dX4_append_21 rfl ?_
    refine r_get (v := .int S_length) in_X4 20 ga_S rfl 3 (by decide) wd_178 rfl rfl dX4_append_22 ?_
    refine r_iconst (v := 1) dX4_append_25 (by decide) ?_
    refine r_iadd dX4_append_26 ?_
    refine r_put in_X4 tyX4_ok nmX4 20 ga_S rfl 3 (by decide) wd_178 rfl rfl pfI (Nat.le_of_ble_eq_true rfl) sa_S_length dX4_append_27 ?_
    have e9 := Option.some.inj hf
    subst e9
    exact (Wa.sub [0] rfl kj2)
-- DuelSamples$Script.byteAt
def f_X4_byteAt (S_length : Int32) (S_text : Nat → Int32) (a0 : Int32) : Option (Int32) := if a0 < 0 then some (-1) else if S_length ≤ a0 then some (-1) else if 120 ≤ a0 then some (-1) else if inB a0 120 then some (S_text (Int32.toNatClampNeg a0)) else none
theorem hy_X4_byteAt : yX4_byteAt.cls ≠ "java/lang/invoke/MethodHandle" ∧ yX4_byteAt.cls ≠ "java/lang/invoke/VarHandle" ∧ (parseMethodDescriptor yX4_byteAt.desc).map (fun d => d.parameters.length) = some 1 := by decide +kernel
set_option maxHeartbeats 4000000 in
set_option maxRecDepth 100000 in
theorem s_X4_byteAt {E : EN} {hX : TX} {hR : TR} {hL : TC} {hT : TC} {hK : TK} {hP : TP} {hM : TM} {S_length : Int32} {S_sentences : Int32} {S_at : Int32} {S_units : Int32} {S_text : Nat → Int32} {S_verbs : Nat → Int32} {S_numbers : Nat → Int32} {a0 : Int32} {qR : Int32} (hf : f_X4_byteAt S_length S_text a0 = some qR) : Sem E yX4_byteAt cX4_byteAt 2 (some .int) 1 [.ref (eA E 20), .int a0] (hX, hR, hL, hT, hK, (S_length, S_sentences, S_at, S_units, S_text, S_verbs, S_numbers), hP, hM) (some (.int qR), (hX, hR, hL, hT, hK, (S_length, S_sentences, S_at, S_units, S_text, S_verbs, S_numbers), hP, hM)) := by
  refine Sem.mk (lv := [(0, .ref (eA E 20)), (1, .int a0)]) (by decide) (Nat.le_of_ble_eq_true rfl) rfl ?_
  rw [f_X4_byteAt] at hf
  refine r_iload_n dX4_byteAt_0 1 rfl ?_
  refine r_if_lt (tgt := 27) dX4_byteAt_1 (by decide) (fun c1 => ?_) (fun c1 => ?_)
  · have hf := hf_pos c1 hf
    refine r_iconst (v := (-1)) dX4_byteAt_27 (by decide) ?_
    have e9 := Option.some.inj hf
    subst e9
    exact r_iret rfl dX4_byteAt_28
  · have hf := hf_neg c1 hf
    refine r_iload_n dX4_byteAt_4 1 rfl ?_
    refine r_aload_n dX4_byteAt_5 0 rfl ?_
    refine r_get (v := .int S_length) in_X4 20 ga_S rfl 3 (by decide) wd_178 rfl rfl dX4_byteAt_6 ?_
    refine r_icmp_ge (tgt := 27) dX4_byteAt_9 (by decide) (fun c2 => ?_) (fun c2 => ?_)
    · have hf := hf_pos c2 hf
      refine r_iconst (v := (-1)) dX4_byteAt_27 (by decide) ?_
      have e9 := Option.some.inj hf
      subst e9
      exact r_iret rfl dX4_byteAt_28
    · have hf := hf_neg c2 hf
      refine r_iload_n dX4_byteAt_12 1 rfl ?_
      refine r_bipush (v := 120) dX4_byteAt_13 (by decide) ?_
      refine r_icmp_ge (tgt := 27) dX4_byteAt_15 (by decide) (fun c3 => ?_) (fun c3 => ?_)
      · have hf := hf_pos c3 hf
        refine r_iconst (v := (-1)) dX4_byteAt_27 (by decide) ?_
        have e9 := Option.some.inj hf
        subst e9
        exact r_iret rfl dX4_byteAt_28
      · have hf := hf_neg c3 hf
        refine r_aload_n dX4_byteAt_18 0 rfl ?_
        refine r_get (v := .ref (eA E 21)) in_X4 20 ga_S rfl 0 (by decide) wd_175 rfl rfl dX4_byteAt_19 ?_
        refine r_iload_n dX4_byteAt_22 1 rfl ?_
        obtain ⟨i4, hf⟩ := hf_in hf
        refine r_bald (f := S_text) 21 ga_S_text i4 dX4_byteAt_23 ?_
        refine r_goto (tgt := 28) dX4_byteAt_24 (by decide) ?_
        have e9 := Option.some.inj hf
        subst e9
        exact r_iret rfl dX4_byteAt_28
-- DuelSamples$Script.skipBlanks
def lp_X4_skipBlanks_2 (S_length : Int32) (S_text : Nat → Int32) : Nat → Int32 → Int32 → Option (Int32)
  | 0, _, _ => none
  | n9 + 1, v1_2, S_at_2 => if 120 ≤ v1_2 then some S_at_2 else Option.bind (f_X4_byteAt S_length S_text S_at_2) (fun (q2 : Int32) => if q2 = 32 then lp_X4_skipBlanks_2 S_length S_text n9 (v1_2 + 1) (S_at_2 + 1) else some S_at_2)
def f_X4_skipBlanks (S_length : Int32) (S_at : Int32) (S_text : Nat → Int32)  : Option (Int32) := Option.bind (lp_X4_skipBlanks_2 S_length S_text FU 0 S_at) (fun (q4 : Int32) => some q4)
theorem hy_X4_skipBlanks : yX4_skipBlanks.cls ≠ "java/lang/invoke/MethodHandle" ∧ yX4_skipBlanks.cls ≠ "java/lang/invoke/VarHandle" ∧ (parseMethodDescriptor yX4_skipBlanks.desc).map (fun d => d.parameters.length) = some 0 := by decide +kernel
set_option maxHeartbeats 4000000 in
set_option maxRecDepth 100000 in
theorem w_X4_skipBlanks_2 {E : EN} {res : Option Value × Hp} {hX : TX} {hR : TR} {hL : TC} {hT : TC} {hK : TK} {hP : TP} {hM : TM} {S_length : Int32} {S_sentences : Int32} {S_units : Int32} {S_text : Nat → Int32} {S_verbs : Nat → Int32} {S_numbers : Nat → Int32} : ∀ (n9 : Nat) (v1_2 : Int32) (S_at_2 : Int32) (qL : Int32), lp_X4_skipBlanks_2 S_length S_text n9 v1_2 S_at_2 = some qL → (Wa E yX4_skipBlanks cX4_skipBlanks 2 none 2 res 37 [] [] (hX, hR, hL, hT, hK, (S_length, S_sentences, qL, S_units, S_text, S_verbs, S_numbers), hP, hM)) → Wa E yX4_skipBlanks cX4_skipBlanks 2 none 2 res 2 [(0, .ref (eA E 20)), (1, .int v1_2)] [] (hX, hR, hL, hT, hK, (S_length, S_sentences, S_at_2, S_units, S_text, S_verbs, S_numbers), hP, hM) := by
  intro n9
  induction n9 with
  | zero =>
    intro v1_2 S_at_2 qL hf
    exact nomatch (show (none : Option (Int32)) = some qL from hf)
  | succ n9 ih =>
    intro v1_2 S_at_2 qL hf kx0
    rw [lp_X4_skipBlanks_2] at hf
    refine r_iload_n dX4_skipBlanks_2 1 rfl ?_
    refine r_bipush (v := 120) dX4_skipBlanks_3 (by decide) ?_
    refine r_icmp_ge (tgt := 37) dX4_skipBlanks_5 (by decide) (fun c1 => ?_) (fun c1 => ?_)
    · have hf := hf_pos c1 hf
      have e9 := Option.some.inj hf
      subst e9
      exact (Wa.sub [] rfl kx0)
    · have hf := hf_neg c1 hf
      refine r_aload_n dX4_skipBlanks_8 0 rfl ?_
      refine r_aload_n dX4_skipBlanks_9 0 rfl ?_
      refine r_get (v := .int S_at_2) in_X4 20 ga_S rfl 5 (by decide) wd_182 rfl rfl dX4_skipBlanks_10 ?_
      obtain ⟨q2, hq2, hf⟩ := hf_bind hf
      refine r_callVi (As := [.int S_at_2]) (b := (eA E 20)) (st := []) (s_X4_byteAt hq2) (by decide) (by decide) wd_608 wd_610 wd_19 wd_72 wd_611 hy_X4_byteAt (Rc.obj 20 ga_S rfl) rfl (Nat.le_of_ble_eq_true rfl) dX4_skipBlanks_13 ?_
      refine r_bipush (v := 32) dX4_skipBlanks_16 (by decide) ?_
      refine r_icmp_ne (tgt := 37) dX4_skipBlanks_18 (by decide) (fun c3 => ?_) (fun c3 => ?_)
      · have hf := hf_neg c3 hf
        have e9 := Option.some.inj hf
        subst e9
        exact (Wa.sub [] rfl kx0)
      · have hf := hf_pos c3 hf
        refine r_aload_n dX4_skipBlanks_21 0 rfl ?_
        refine r_dup dX4_skipBlanks_22 rfl ?_
        refine r_get (v := .int S_at_2) in_X4 20 ga_S rfl 5 (by decide) wd_182 rfl rfl dX4_skipBlanks_23 ?_
        refine r_iconst (v := 1) dX4_skipBlanks_26 (by decide) ?_
        refine r_iadd dX4_skipBlanks_27 ?_
        refine r_put in_X4 tyX4_ok nmX4 20 ga_S rfl 5 (by decide) wd_182 rfl rfl pfI (Nat.le_of_ble_eq_true rfl) sa_S_at dX4_skipBlanks_28 ?_
        refine r_iinc (v := (v1_2 + 1)) (lv2 := [(1, .int (v1_2 + 1)), (0, .ref (eA E 20))]) dX4_skipBlanks_31 1 rfl rfl (by decide) rfl ?_
        refine r_goto (tgt := 2) dX4_skipBlanks_34 (by decide) ?_
        exact (Wa.sub [1, 0] rfl (ih _ _ _ hf kx0))
set_option maxHeartbeats 4000000 in
set_option maxRecDepth 100000 in
theorem s_X4_skipBlanks {E : EN} {hX : TX} {hR : TR} {hL : TC} {hT : TC} {hK : TK} {hP : TP} {hM : TM} {S_length : Int32} {S_sentences : Int32} {S_at : Int32} {S_units : Int32} {S_text : Nat → Int32} {S_verbs : Nat → Int32} {S_numbers : Nat → Int32}  {qR : Int32} (hf : f_X4_skipBlanks S_length S_at S_text = some qR) : Sem E yX4_skipBlanks cX4_skipBlanks 2 none 2 [.ref (eA E 20)] (hX, hR, hL, hT, hK, (S_length, S_sentences, S_at, S_units, S_text, S_verbs, S_numbers), hP, hM) (none, (hX, hR, hL, hT, hK, (S_length, S_sentences, qR, S_units, S_text, S_verbs, S_numbers), hP, hM)) := by
  refine Sem.mk (lv := [(0, .ref (eA E 20))]) (by decide) (Nat.le_of_ble_eq_true rfl) rfl ?_
  rw [f_X4_skipBlanks] at hf
  refine r_iconst (v := 0) dX4_skipBlanks_0 (by decide) ?_
  refine r_istore_n (lv2 := [(1, .int 0), (0, .ref (eA E 20))]) dX4_skipBlanks_1 rfl (by decide) rfl ?_
  obtain ⟨q4, hq4, hf⟩ := hf_bind hf
  refine (Wa.sub [1, 0] rfl (w_X4_skipBlanks_2 _ _ _ _ hq4 ?_))
  have e9 := Option.some.inj hf
  subst e9
  exact r_vret rfl dX4_skipBlanks_37
-- DuelSamples$Script.word
def f_X4_word  (a0 : Int32) : Option (Nat) := if a0 = 0 then some 0 else if a0 = 1 then some 1 else if a0 = 2 then some 2 else if a0 = 3 then some 3 else if a0 = 4 then some 4 else if a0 = 5 then some 5 else if a0 = 6 then some 6 else if a0 = 7 then some 7 else if a0 = 8 then some 8 else if a0 = 9 then some 9 else if a0 = 10 then some 10 else if a0 = 11 then some 11 else if a0 = 12 then some 12 else some 13
theorem hy_X4_word : yX4_word.cls ≠ "java/lang/invoke/MethodHandle" ∧ yX4_word.cls ≠ "java/lang/invoke/VarHandle" ∧ (parseMethodDescriptor yX4_word.desc).map (fun d => d.parameters.length) = some 1 := by decide +kernel
set_option maxHeartbeats 4000000 in
set_option maxRecDepth 100000 in
theorem s_X4_word {E : EN} {hX : TX} {hR : TR} {hL : TC} {hT : TC} {hK : TK} {hS : TS} {hP : TP} {hM : TM}  {a0 : Int32} {qR : Nat} (hf : f_X4_word a0 = some qR) : Sem E yX4_word cX4_word 1 (some (.object "java/lang/String")) 1 [.int a0] (hX, hR, hL, hT, hK, hS, hP, hM) (some (.ref (eK E qR)), (hX, hR, hL, hT, hK, hS, hP, hM)) := by
  refine Sem.mk (lv := [(0, .int a0)]) (by decide) (Nat.le_of_ble_eq_true rfl) rfl ?_
  rw [f_X4_word] at hf
  refine r_iload_n dX4_word_0 0 rfl ?_
  by_cases c1 : a0 = 0
  · have hf := hf_pos c1 hf
    refine r_tswi (off := 67) (tgt := 68) dX4_word_1 c1 (by decide) (by decide) (by decide) (by decide) ?_
    refine r_ldcS 0 (by decide) rfl rfl dX4_word_68 ?_
    have e9 := Option.some.inj hf
    subst e9
    exact r_aret rfl dX4_word_70
  · have hf := hf_neg c1 hf
    by_cases c2 : a0 = 1
    · have hf := hf_pos c2 hf
      refine r_tswi (off := 70) (tgt := 71) dX4_word_1 c2 (by decide) (by decide) (by decide) (by decide) ?_
      refine r_ldcS 1 (by decide) rfl rfl dX4_word_71 ?_
      have e9 := Option.some.inj hf
      subst e9
      exact r_aret rfl dX4_word_73
    · have hf := hf_neg c2 hf
      by_cases c3 : a0 = 2
      · have hf := hf_pos c3 hf
        refine r_tswi (off := 73) (tgt := 74) dX4_word_1 c3 (by decide) (by decide) (by decide) (by decide) ?_
        refine r_ldcS 2 (by decide) rfl rfl dX4_word_74 ?_
        have e9 := Option.some.inj hf
        subst e9
        exact r_aret rfl dX4_word_76
      · have hf := hf_neg c3 hf
        by_cases c4 : a0 = 3
        · have hf := hf_pos c4 hf
          refine r_tswi (off := 76) (tgt := 77) dX4_word_1 c4 (by decide) (by decide) (by decide) (by decide) ?_
          refine r_ldcS 3 (by decide) rfl rfl dX4_word_77 ?_
          have e9 := Option.some.inj hf
          subst e9
          exact r_aret rfl dX4_word_79
        · have hf := hf_neg c4 hf
          by_cases c5 : a0 = 4
          · have hf := hf_pos c5 hf
            refine r_tswi (off := 79) (tgt := 80) dX4_word_1 c5 (by decide) (by decide) (by decide) (by decide) ?_
            refine r_ldcS 4 (by decide) rfl rfl dX4_word_80 ?_
            have e9 := Option.some.inj hf
            subst e9
            exact r_aret rfl dX4_word_82
          · have hf := hf_neg c5 hf
            by_cases c6 : a0 = 5
            · have hf := hf_pos c6 hf
              refine r_tswi (off := 82) (tgt := 83) dX4_word_1 c6 (by decide) (by decide) (by decide) (by decide) ?_
              refine r_ldcS 5 (by decide) rfl rfl dX4_word_83 ?_
              have e9 := Option.some.inj hf
              subst e9
              exact r_aret rfl dX4_word_85
            · have hf := hf_neg c6 hf
              by_cases c7 : a0 = 6
              · have hf := hf_pos c7 hf
                refine r_tswi (off := 85) (tgt := 86) dX4_word_1 c7 (by decide) (by decide) (by decide) (by decide) ?_
                refine r_ldcS 6 (by decide) rfl rfl dX4_word_86 ?_
                have e9 := Option.some.inj hf
                subst e9
                exact r_aret rfl dX4_word_88
              · have hf := hf_neg c7 hf
                by_cases c8 : a0 = 7
                · have hf := hf_pos c8 hf
                  refine r_tswi (off := 88) (tgt := 89) dX4_word_1 c8 (by decide) (by decide) (by decide) (by decide) ?_
                  refine r_ldcS 7 (by decide) rfl rfl dX4_word_89 ?_
                  have e9 := Option.some.inj hf
                  subst e9
                  exact r_aret rfl dX4_word_91
                · have hf := hf_neg c8 hf
                  by_cases c9 : a0 = 8
                  · have hf := hf_pos c9 hf
                    refine r_tswi (off := 91) (tgt := 92) dX4_word_1 c9 (by decide) (by decide) (by decide) (by decide) ?_
                    refine r_ldcS 8 (by decide) rfl rfl dX4_word_92 ?_
                    have e9 := Option.some.inj hf
                    subst e9
                    exact r_aret rfl dX4_word_94
                  · have hf := hf_neg c9 hf
                    by_cases c10 : a0 = 9
                    · have hf := hf_pos c10 hf
                      refine r_tswi (off := 94) (tgt := 95) dX4_word_1 c10 (by decide) (by decide) (by decide) (by decide) ?_
                      refine r_ldcS 9 (by decide) rfl rfl dX4_word_95 ?_
                      have e9 := Option.some.inj hf
                      subst e9
                      exact r_aret rfl dX4_word_97
                    · have hf := hf_neg c10 hf
                      by_cases c11 : a0 = 10
                      · have hf := hf_pos c11 hf
                        refine r_tswi (off := 97) (tgt := 98) dX4_word_1 c11 (by decide) (by decide) (by decide) (by decide) ?_
                        refine r_ldcS 10 (by decide) rfl rfl dX4_word_98 ?_
                        have e9 := Option.some.inj hf
                        subst e9
                        exact r_aret rfl dX4_word_100
                      · have hf := hf_neg c11 hf
                        by_cases c12 : a0 = 11
                        · have hf := hf_pos c12 hf
                          refine r_tswi (off := 100) (tgt := 101) dX4_word_1 c12 (by decide) (by decide) (by decide) (by decide) ?_
                          refine r_ldcS 11 (by decide) rfl rfl dX4_word_101 ?_
                          have e9 := Option.some.inj hf
                          subst e9
                          exact r_aret rfl dX4_word_103
                        · have hf := hf_neg c12 hf
                          by_cases c13 : a0 = 12
                          · have hf := hf_pos c13 hf
                            refine r_tswi (off := 103) (tgt := 104) dX4_word_1 c13 (by decide) (by decide) (by decide) (by decide) ?_
                            refine r_ldcS 12 (by decide) rfl rfl dX4_word_104 ?_
                            have e9 := Option.some.inj hf
                            subst e9
                            exact r_aret rfl dX4_word_106
                          · have hf := hf_neg c13 hf
                            refine r_tswo (tgt := 107) dX4_word_1 (tsw_out0_12 c1 c2 c3 c4 c5 c6 c7 c8 c9 c10 c11 c12 c13) (by decide) ?_
                            refine r_ldcS 13 (by decide) rfl rfl dX4_word_107 ?_
                            have e9 := Option.some.inj hf
                            subst e9
                            exact r_aret rfl dX4_word_109
-- DuelSamples$Script.stands
def lp_X4_stands_15 (a0 : Nat) (S_length : Int32) (S_text : Nat → Int32) (a1 : Int32) : Nat → Int32 → Option (Nat)
  | 0, _ => none
  | n9 + 1, v4_15 => Option.bind (f_J0_length_8abf5 a0) (fun (q3 : Int32) => if q3 ≤ v4_15 then some 1 else Option.bind (f_X4_byteAt S_length S_text (a1 + v4_15)) (fun (q5 : Int32) => Option.bind (f_J0_charAt_5068e a0 v4_15) (fun (q6 : Int32) => if q5 = q6 then lp_X4_stands_15 a0 S_length S_text a1 n9 (v4_15 + 1) else some 0)))
def f_X4_stands (S_length : Int32) (S_text : Nat → Int32) (a0 : Nat) (a1 : Int32) (a2 : Int32) : Option (Int32) := Option.bind (f_J0_length_8abf5 a0) (fun (q1 : Int32) => if q1 = (a2 - a1) then Option.bind (lp_X4_stands_15 a0 S_length S_text a1 FU 0) (fun (q8 : Nat) => if q8 = 0 then some 0 else some 1) else some 0)
theorem hy_X4_stands : yX4_stands.cls ≠ "java/lang/invoke/MethodHandle" ∧ yX4_stands.cls ≠ "java/lang/invoke/VarHandle" ∧ (parseMethodDescriptor yX4_stands.desc).map (fun d => d.parameters.length) = some 3 := by decide +kernel
set_option maxHeartbeats 4000000 in
set_option maxRecDepth 100000 in
theorem w_X4_stands_15 {E : EN} {res : Option Value × Hp} {hX : TX} {hR : TR} {hL : TC} {hT : TC} {hK : TK} {hP : TP} {hM : TM} {a0 : Nat} {a1 : Int32} {S_length : Int32} {S_sentences : Int32} {S_at : Int32} {S_units : Int32} {S_text : Nat → Int32} {S_verbs : Nat → Int32} {S_numbers : Nat → Int32} : ∀ (n9 : Nat) (v4_15 : Int32) (qL : Nat), lp_X4_stands_15 a0 S_length S_text a1 n9 v4_15 = some qL → (qL = 0 → Wa E yX4_stands cX4_stands 5 (some .boolean) 5 res 41 [] [] (hX, hR, hL, hT, hK, (S_length, S_sentences, S_at, S_units, S_text, S_verbs, S_numbers), hP, hM)) → (qL = 1 → Wa E yX4_stands cX4_stands 5 (some .boolean) 5 res 49 [] [] (hX, hR, hL, hT, hK, (S_length, S_sentences, S_at, S_units, S_text, S_verbs, S_numbers), hP, hM)) → Wa E yX4_stands cX4_stands 5 (some .boolean) 5 res 15 [(0, .ref (eA E 20)), (1, .ref (eK E a0)), (2, .int a1), (4, .int v4_15)] [] (hX, hR, hL, hT, hK, (S_length, S_sentences, S_at, S_units, S_text, S_verbs, S_numbers), hP, hM) := by
  intro n9
  induction n9 with
  | zero =>
    intro v4_15 qL hf
    exact nomatch (show (none : Option (Nat)) = some qL from hf)
  | succ n9 ih =>
    intro v4_15 qL hf kx0 kx1
    rw [lp_X4_stands_15] at hf
    refine r_iload dX4_stands_15 3 rfl ?_
    refine r_aload_n dX4_stands_17 1 rfl ?_
    obtain ⟨q3, hq3, hf⟩ := hf_bind hf
    refine r_callVi (As := []) (b := (eK E a0)) (st := [.int v4_15]) (s_J0_length_8abf5 hq3) (by decide) (by decide) wd_641 wd_642 wd_643 wd_79 wd_644 hy_J0_length_8abf5 (Rc.str (J0_length_8abf5_lt9 hq3)) rfl (Nat.le_of_ble_eq_true rfl) dX4_stands_18 ?_
    refine r_icmp_ge (tgt := 49) dX4_stands_21 (by decide) (fun c4 => ?_) (fun c4 => ?_)
    · have hf := hf_pos c4 hf
      have e9 := Option.some.inj hf
      subst e9
      exact (Wa.sub [] rfl (kx1 rfl))
    · have hf := hf_neg c4 hf
      refine r_aload_n dX4_stands_24 0 rfl ?_
      refine r_iload_n dX4_stands_25 2 rfl ?_
      refine r_iload dX4_stands_26 3 rfl ?_
      refine r_iadd dX4_stands_28 ?_
      obtain ⟨q5, hq5, hf⟩ := hf_bind hf
      refine r_callVi (As := [.int (a1 + v4_15)]) (b := (eA E 20)) (st := []) (s_X4_byteAt hq5) (by decide) (by decide) wd_608 wd_610 wd_19 wd_72 wd_611 hy_X4_byteAt (Rc.obj 20 ga_S rfl) rfl (Nat.le_of_ble_eq_true rfl) dX4_stands_29 ?_
      refine r_aload_n dX4_stands_32 1 rfl ?_
      refine r_iload dX4_stands_33 3 rfl ?_
      obtain ⟨q6, hq6, hf⟩ := hf_bind hf
      refine r_callVi (As := [.int v4_15]) (b := (eK E a0)) (st := [.int q5]) (s_J0_charAt_5068e hq6) (by decide) (by decide) wd_651 wd_652 wd_653 wd_79 wd_654 hy_J0_charAt_5068e (Rc.str (J0_charAt_5068e_lt9 hq6)) rfl (Nat.le_of_ble_eq_true rfl) dX4_stands_35 ?_
      refine r_icmp_eq (tgt := 43) dX4_stands_38 (by decide) (fun c7 => ?_) (fun c7 => ?_)
      · have hf := hf_pos c7 hf
        refine r_iinc (v := (v4_15 + 1)) (lv2 := [(4, .int (v4_15 + 1)), (0, .ref (eA E 20)), (1, .ref (eK E a0)), (2, .int a1)]) dX4_stands_43 3 rfl rfl (by decide) rfl ?_
        refine r_goto (tgt := 15) dX4_stands_46 (by decide) ?_
        exact (Wa.sub [1, 2, 3, 0] rfl (ih _ _ hf kx0 kx1))
      · have hf := hf_neg c7 hf
        have e9 := Option.some.inj hf
        subst e9
        exact (Wa.sub [] rfl (kx0 rfl))
set_option maxHeartbeats 4000000 in
set_option maxRecDepth 100000 in
theorem s_X4_stands {E : EN} {hX : TX} {hR : TR} {hL : TC} {hT : TC} {hK : TK} {hP : TP} {hM : TM} {S_length : Int32} {S_sentences : Int32} {S_at : Int32} {S_units : Int32} {S_text : Nat → Int32} {S_verbs : Nat → Int32} {S_numbers : Nat → Int32} {a0 : Nat} {a1 : Int32} {a2 : Int32} {qR : Int32} (hf : f_X4_stands S_length S_text a0 a1 a2 = some qR) : Sem E yX4_stands cX4_stands 5 (some .boolean) 5 [.ref (eA E 20), .ref (eK E a0), .int a1, .int a2] (hX, hR, hL, hT, hK, (S_length, S_sentences, S_at, S_units, S_text, S_verbs, S_numbers), hP, hM) (some (.int qR), (hX, hR, hL, hT, hK, (S_length, S_sentences, S_at, S_units, S_text, S_verbs, S_numbers), hP, hM)) := by
  refine Sem.mk (lv := [(0, .ref (eA E 20)), (1, .ref (eK E a0)), (2, .int a1), (3, .int a2)]) (by decide) (Nat.le_of_ble_eq_true rfl) rfl ?_
  rw [f_X4_stands] at hf
  refine r_aload_n dX4_stands_0 1 rfl ?_
  obtain ⟨q1, hq1, hf⟩ := hf_bind hf
  refine r_callVi (As := []) (b := (eK E a0)) (st := []) (s_J0_length_8abf5 hq1) (by decide) (by decide) wd_641 wd_642 wd_643 wd_79 wd_644 hy_J0_length_8abf5 (Rc.str (J0_length_8abf5_lt9 hq1)) rfl (Nat.le_of_ble_eq_true rfl) dX4_stands_1 ?_
  refine r_iload_n dX4_stands_4 3 rfl ?_
  refine r_iload_n dX4_stands_5 2 rfl ?_
  refine r_isub dX4_stands_6 ?_
  refine r_icmp_eq (tgt := 12) dX4_stands_7 (by decide) (fun c2 => ?_) (fun c2 => ?_)
  · have hf := hf_pos c2 hf
    refine r_iconst (v := 0) dX4_stands_12 (by decide) ?_
    refine r_istore (lv2 := [(4, .int 0), (0, .ref (eA E 20)), (1, .ref (eK E a0)), (2, .int a1), (3, .int a2)]) dX4_stands_13 (by decide) rfl ?_
    obtain ⟨q8, hq8, hf⟩ := hf_bind hf
    refine (Wa.sub [1, 2, 3, 0] rfl (w_X4_stands_15 _ _ _ hq8 ?_ ?_))
    · intro ht
      have hf := hf_pos ht hf
      refine r_iconst (v := 0) dX4_stands_41 (by decide) ?_
      have e9 := Option.some.inj hf
      subst e9
      exact r_zret rfl (narB (Or.inl rfl)) dX4_stands_42
    · intro ht
      have hf := hf_neg (show ¬ q8 = 0 by rw [ht]; decide) hf
      refine r_iconst (v := 1) dX4_stands_49 (by decide) ?_
      have e9 := Option.some.inj hf
      subst e9
      exact r_zret rfl (narB (Or.inr rfl)) dX4_stands_50
  · have hf := hf_neg c2 hf
    refine r_iconst (v := 0) dX4_stands_10 (by decide) ?_
    have e9 := Option.some.inj hf
    subst e9
    exact r_zret rfl (narB (Or.inl rfl)) dX4_stands_11
-- DuelSamples$Script.readWord
def lp_X4_readWord_7 (S_length : Int32) (S_text : Nat → Int32) : Nat → Int32 → Int32 → Option (Int32)
  | 0, _, _ => none
  | n9 + 1, v2_7, S_at_7 => if 120 ≤ v2_7 then some S_at_7 else Option.bind (f_X4_byteAt S_length S_text S_at_7) (fun (q2 : Int32) => if q2 < 97 then some S_at_7 else Option.bind (f_X4_byteAt S_length S_text S_at_7) (fun (q4 : Int32) => if 122 < q4 then some S_at_7 else lp_X4_readWord_7 S_length S_text n9 (v2_7 + 1) (S_at_7 + 1)))
def lp_X4_readWord_57 (S_length : Int32) (S_text : Nat → Int32) (S_at : Int32) (q6 : Int32) : Nat → Int32 → Option (Nat × Int32)
  | 0, _ => none
  | n9 + 1, v2_57 => if 13 ≤ v2_57 then some (1, v2_57) else Option.bind (f_X4_word v2_57) (fun (q8 : Nat) => Option.bind (f_X4_stands S_length S_text q8 S_at q6) (fun (q9 : Int32) => if q9 = 0 then lp_X4_readWord_57 S_length S_text S_at q6 n9 (v2_57 + 1) else some (0, v2_57)))
def f_X4_readWord (S_length : Int32) (S_at : Int32) (S_text : Nat → Int32)  : Option (Int32 × Int32) := Option.bind (lp_X4_readWord_7 S_length S_text FU 0 S_at) (fun (q6 : Int32) => Option.bind (lp_X4_readWord_57 S_length S_text S_at q6 FU 0) (fun (q11 : Nat × Int32) => if q11.1 = 0 then some (q11.2, q6) else some ((-1), q6)))
theorem hy_X4_readWord : yX4_readWord.cls ≠ "java/lang/invoke/MethodHandle" ∧ yX4_readWord.cls ≠ "java/lang/invoke/VarHandle" ∧ (parseMethodDescriptor yX4_readWord.desc).map (fun d => d.parameters.length) = some 0 := by decide +kernel
set_option maxHeartbeats 4000000 in
set_option maxRecDepth 100000 in
theorem w_X4_readWord_7 {E : EN} {res : Option Value × Hp} {hX : TX} {hR : TR} {hL : TC} {hT : TC} {hK : TK} {hP : TP} {hM : TM} {S_at : Int32} {S_length : Int32} {S_sentences : Int32} {S_units : Int32} {S_text : Nat → Int32} {S_verbs : Nat → Int32} {S_numbers : Nat → Int32} : ∀ (n9 : Nat) (v2_7 : Int32) (S_at_7 : Int32) (qL : Int32), lp_X4_readWord_7 S_length S_text n9 v2_7 S_at_7 = some qL → (Wa E yX4_readWord cX4_readWord 3 (some .int) 6 res 55 [(0, .ref (eA E 20)), (1, .int S_at)] [] (hX, hR, hL, hT, hK, (S_length, S_sentences, qL, S_units, S_text, S_verbs, S_numbers), hP, hM)) → Wa E yX4_readWord cX4_readWord 3 (some .int) 6 res 7 [(0, .ref (eA E 20)), (1, .int S_at), (2, .int v2_7)] [] (hX, hR, hL, hT, hK, (S_length, S_sentences, S_at_7, S_units, S_text, S_verbs, S_numbers), hP, hM) := by
  intro n9
  induction n9 with
  | zero =>
    intro v2_7 S_at_7 qL hf
    exact nomatch (show (none : Option (Int32)) = some qL from hf)
  | succ n9 ih =>
    intro v2_7 S_at_7 qL hf kx0
    rw [lp_X4_readWord_7] at hf
    refine r_iload_n dX4_readWord_7 2 rfl ?_
    refine r_bipush (v := 120) dX4_readWord_8 (by decide) ?_
    refine r_icmp_ge (tgt := 55) dX4_readWord_10 (by decide) (fun c1 => ?_) (fun c1 => ?_)
    · have hf := hf_pos c1 hf
      have e9 := Option.some.inj hf
      subst e9
      exact (Wa.sub [0, 1] rfl kx0)
    · have hf := hf_neg c1 hf
      refine r_aload_n dX4_readWord_13 0 rfl ?_
      refine r_aload_n dX4_readWord_14 0 rfl ?_
      refine r_get (v := .int S_at_7) in_X4 20 ga_S rfl 5 (by decide) wd_182 rfl rfl dX4_readWord_15 ?_
      obtain ⟨q2, hq2, hf⟩ := hf_bind hf
      refine r_callVi (As := [.int S_at_7]) (b := (eA E 20)) (st := []) (s_X4_byteAt hq2) (by decide) (by decide) wd_608 wd_610 wd_19 wd_72 wd_611 hy_X4_byteAt (Rc.obj 20 ga_S rfl) rfl (Nat.le_of_ble_eq_true rfl) dX4_readWord_18 ?_
      refine r_bipush (v := 97) dX4_readWord_21 (by decide) ?_
      refine r_icmp_lt (tgt := 55) dX4_readWord_23 (by decide) (fun c3 => ?_) (fun c3 => ?_)
      · have hf := hf_pos c3 hf
        have e9 := Option.some.inj hf
        subst e9
        exact (Wa.sub [0, 1] rfl kx0)
      · have hf := hf_neg c3 hf
        refine r_aload_n dX4_readWord_26 0 rfl ?_
        refine r_aload_n dX4_readWord_27 0 rfl ?_
        refine r_get (v := .int S_at_7) in_X4 20 ga_S rfl 5 (by decide) wd_182 rfl rfl dX4_readWord_28 ?_
        obtain ⟨q4, hq4, hf⟩ := hf_bind hf
        refine r_callVi (As := [.int S_at_7]) (b := (eA E 20)) (st := []) (s_X4_byteAt hq4) (by decide) (by decide) wd_608 wd_610 wd_19 wd_72 wd_611 hy_X4_byteAt (Rc.obj 20 ga_S rfl) rfl (Nat.le_of_ble_eq_true rfl) dX4_readWord_31 ?_
        refine r_bipush (v := 122) dX4_readWord_34 (by decide) ?_
        refine r_icmp_gt (tgt := 55) dX4_readWord_36 (by decide) (fun c5 => ?_) (fun c5 => ?_)
        · have hf := hf_pos c5 hf
          have e9 := Option.some.inj hf
          subst e9
          exact (Wa.sub [0, 1] rfl kx0)
        · have hf := hf_neg c5 hf
          refine r_aload_n dX4_readWord_39 0 rfl ?_
          refine r_dup dX4_readWord_40 rfl ?_
          refine r_get (v := .int S_at_7) in_X4 20 ga_S rfl 5 (by decide) wd_182 rfl rfl dX4_readWord_41 ?_
          refine r_iconst (v := 1) dX4_readWord_44 (by decide) ?_
          refine r_iadd dX4_readWord_45 ?_
          refine r_put in_X4 tyX4_ok nmX4 20 ga_S rfl 5 (by decide) wd_182 rfl rfl pfI (Nat.le_of_ble_eq_true rfl) sa_S_at dX4_readWord_46 ?_
          refine r_iinc (v := (v2_7 + 1)) (lv2 := [(2, .int (v2_7 + 1)), (0, .ref (eA E 20)), (1, .int S_at)]) dX4_readWord_49 2 rfl rfl (by decide) rfl ?_
          refine r_goto (tgt := 7) dX4_readWord_52 (by decide) ?_
          exact (Wa.sub [1, 2, 0] rfl (ih _ _ _ hf kx0))
set_option maxHeartbeats 4000000 in
set_option maxRecDepth 100000 in
theorem w_X4_readWord_57 {E : EN} {res : Option Value × Hp} {hX : TX} {hR : TR} {hL : TC} {hT : TC} {hK : TK} {hP : TP} {hM : TM} {S_at : Int32} {S_length : Int32} {S_sentences : Int32} {q6 : Int32} {S_units : Int32} {S_text : Nat → Int32} {S_verbs : Nat → Int32} {S_numbers : Nat → Int32} : ∀ (n9 : Nat) (v2_57 : Int32) (qL : Nat × Int32), lp_X4_readWord_57 S_length S_text S_at q6 n9 v2_57 = some qL → (qL.1 = 0 → Wa E yX4_readWord cX4_readWord 3 (some .int) 6 res 79 [(2, .int qL.2)] [] (hX, hR, hL, hT, hK, (S_length, S_sentences, q6, S_units, S_text, S_verbs, S_numbers), hP, hM)) → (qL.1 = 1 → Wa E yX4_readWord cX4_readWord 3 (some .int) 6 res 87 [] [] (hX, hR, hL, hT, hK, (S_length, S_sentences, q6, S_units, S_text, S_verbs, S_numbers), hP, hM)) → Wa E yX4_readWord cX4_readWord 3 (some .int) 6 res 57 [(0, .ref (eA E 20)), (1, .int S_at), (2, .int v2_57)] [] (hX, hR, hL, hT, hK, (S_length, S_sentences, q6, S_units, S_text, S_verbs, S_numbers), hP, hM) := by
  intro n9
  induction n9 with
  | zero =>
    intro v2_57 qL hf
    exact nomatch (show (none : Option (Nat × Int32)) = some qL from hf)
  | succ n9 ih =>
    intro v2_57 qL hf kx0 kx1
    rw [lp_X4_readWord_57] at hf
    refine r_iload_n dX4_readWord_57 2 rfl ?_
    refine r_bipush (v := 13) dX4_readWord_58 (by decide) ?_
    refine r_icmp_ge (tgt := 87) dX4_readWord_60 (by decide) (fun c7 => ?_) (fun c7 => ?_)
    · have hf := hf_pos c7 hf
      have e9 := Option.some.inj hf
      subst e9
      exact (Wa.sub [] rfl (kx1 rfl))
    · have hf := hf_neg c7 hf
      refine r_aload_n dX4_readWord_63 0 rfl ?_
      refine r_iload_n dX4_readWord_64 2 rfl ?_
      obtain ⟨q8, hq8, hf⟩ := hf_bind hf
      refine r_callSa (As := [.int v2_57]) (st := [.ref (eA E 20)]) (s_X4_word hq8) (by decide) (by decide) wd_620 wd_621 wd_72 wd_622 hy_X4_word rfl (Nat.le_of_ble_eq_true rfl) dX4_readWord_65 ?_
      refine r_iload_n dX4_readWord_68 1 rfl ?_
      refine r_aload_n dX4_readWord_69 0 rfl ?_
      refine r_get (v := .int q6) in_X4 20 ga_S rfl 5 (by decide) wd_182 rfl rfl dX4_readWord_70 ?_
      obtain ⟨q9, hq9, hf⟩ := hf_bind hf
      refine r_callVi (As := [.ref (eK E q8), .int S_at, .int q6]) (b := (eA E 20)) (st := []) (s_X4_stands hq9) (by decide) (by decide) wd_637 wd_639 wd_22 wd_72 wd_640 hy_X4_stands (Rc.obj 20 ga_S rfl) rfl (Nat.le_of_ble_eq_true rfl) dX4_readWord_73 ?_
      refine r_if_eq (tgt := 81) dX4_readWord_76 (by decide) (fun c10 => ?_) (fun c10 => ?_)
      · have hf := hf_pos c10 hf
        refine r_iinc (v := (v2_57 + 1)) (lv2 := [(2, .int (v2_57 + 1)), (0, .ref (eA E 20)), (1, .int S_at)]) dX4_readWord_81 2 rfl rfl (by decide) rfl ?_
        refine r_goto (tgt := 57) dX4_readWord_84 (by decide) ?_
        exact (Wa.sub [1, 2, 0] rfl (ih _ _ hf kx0 kx1))
      · have hf := hf_neg c10 hf
        have e9 := Option.some.inj hf
        subst e9
        exact (Wa.sub [2] rfl (kx0 rfl))
set_option maxHeartbeats 4000000 in
set_option maxRecDepth 100000 in
theorem s_X4_readWord {E : EN} {hX : TX} {hR : TR} {hL : TC} {hT : TC} {hK : TK} {hP : TP} {hM : TM} {S_length : Int32} {S_sentences : Int32} {S_at : Int32} {S_units : Int32} {S_text : Nat → Int32} {S_verbs : Nat → Int32} {S_numbers : Nat → Int32}  {qR : Int32 × Int32} (hf : f_X4_readWord S_length S_at S_text = some qR) : Sem E yX4_readWord cX4_readWord 3 (some .int) 6 [.ref (eA E 20)] (hX, hR, hL, hT, hK, (S_length, S_sentences, S_at, S_units, S_text, S_verbs, S_numbers), hP, hM) (some (.int qR.1), (hX, hR, hL, hT, hK, (S_length, S_sentences, qR.2, S_units, S_text, S_verbs, S_numbers), hP, hM)) := by
  refine Sem.mk (lv := [(0, .ref (eA E 20))]) (by decide) (Nat.le_of_ble_eq_true rfl) rfl ?_
  rw [f_X4_readWord] at hf
  refine r_aload_n dX4_readWord_0 0 rfl ?_
  refine r_get (v := .int S_at) in_X4 20 ga_S rfl 5 (by decide) wd_182 rfl rfl dX4_readWord_1 ?_
  refine r_istore_n (lv2 := [(1, .int S_at), (0, .ref (eA E 20))]) dX4_readWord_4 rfl (by decide) rfl ?_
  refine r_iconst (v := 0) dX4_readWord_5 (by decide) ?_
  refine r_istore_n (lv2 := [(2, .int 0), (1, .int S_at), (0, .ref (eA E 20))]) dX4_readWord_6 rfl (by decide) rfl ?_
  obtain ⟨q6, hq6, hf⟩ := hf_bind hf
  refine (Wa.sub [2, 1, 0] rfl (w_X4_readWord_7 _ _ _ _ hq6 ?_))
  refine r_iconst (v := 0) dX4_readWord_55 (by decide) ?_
  refine r_istore_n (lv2 := [(2, .int 0), (0, .ref (eA E 20)), (1, .int S_at)]) dX4_readWord_56 rfl (by decide) rfl ?_
  obtain ⟨q11, hq11, hf⟩ := hf_bind hf
  refine (Wa.sub [1, 2, 0] rfl (w_X4_readWord_57 _ _ _ hq11 ?_ ?_))
  · intro ht
    have hf := hf_pos ht hf
    refine r_iload_n dX4_readWord_79 0 rfl ?_
    have e9 := Option.some.inj hf
    subst e9
    exact r_iret rfl dX4_readWord_80
  · intro ht
    have hf := hf_neg (show ¬ q11.1 = 0 by rw [ht]; decide) hf
    refine r_iconst (v := (-1)) dX4_readWord_87 (by decide) ?_
    have e9 := Option.some.inj hf
    subst e9
    exact r_iret rfl dX4_readWord_88
-- DuelSamples$Script.numbersBehind
def f_X4_numbersBehind  (a0 : Int32) : Option (Int32) := if a0 < 5 then some 0 else if a0 = 12 then some 0 else if a0 = 5 then some 5 else if a0 = 11 then some 1 else some 2
theorem hy_X4_numbersBehind : yX4_numbersBehind.cls ≠ "java/lang/invoke/MethodHandle" ∧ yX4_numbersBehind.cls ≠ "java/lang/invoke/VarHandle" ∧ (parseMethodDescriptor yX4_numbersBehind.desc).map (fun d => d.parameters.length) = some 1 := by decide +kernel
set_option maxHeartbeats 4000000 in
set_option maxRecDepth 100000 in
theorem s_X4_numbersBehind {E : EN} {hX : TX} {hR : TR} {hL : TC} {hT : TC} {hK : TK} {hS : TS} {hP : TP} {hM : TM}  {a0 : Int32} {qR : Int32} (hf : f_X4_numbersBehind a0 = some qR) : Sem E yX4_numbersBehind cX4_numbersBehind 1 (some .int) 1 [.int a0] (hX, hR, hL, hT, hK, hS, hP, hM) (some (.int qR), (hX, hR, hL, hT, hK, hS, hP, hM)) := by
  refine Sem.mk (lv := [(0, .int a0)]) (by decide) (Nat.le_of_ble_eq_true rfl) rfl ?_
  rw [f_X4_numbersBehind] at hf
  refine r_iload_n dX4_numbersBehind_0 0 rfl ?_
  refine r_iconst (v := 5) dX4_numbersBehind_1 (by decide) ?_
  refine r_icmp_lt (tgt := 11) dX4_numbersBehind_2 (by decide) (fun c1 => ?_) (fun c1 => ?_)
  · have hf := hf_pos c1 hf
    refine r_iconst (v := 0) dX4_numbersBehind_11 (by decide) ?_
    have e9 := Option.some.inj hf
    subst e9
    exact r_iret rfl dX4_numbersBehind_12
  · have hf := hf_neg c1 hf
    refine r_iload_n dX4_numbersBehind_5 0 rfl ?_
    refine r_bipush (v := 12) dX4_numbersBehind_6 (by decide) ?_
    refine r_icmp_ne (tgt := 13) dX4_numbersBehind_8 (by decide) (fun c2 => ?_) (fun c2 => ?_)
    · have hf := hf_neg c2 hf
      refine r_iload_n dX4_numbersBehind_13 0 rfl ?_
      refine r_iconst (v := 5) dX4_numbersBehind_14 (by decide) ?_
      refine r_icmp_ne (tgt := 20) dX4_numbersBehind_15 (by decide) (fun c3 => ?_) (fun c3 => ?_)
      · have hf := hf_neg c3 hf
        refine r_iload_n dX4_numbersBehind_20 0 rfl ?_
        refine r_bipush (v := 11) dX4_numbersBehind_21 (by decide) ?_
        refine r_icmp_ne (tgt := 30) dX4_numbersBehind_23 (by decide) (fun c4 => ?_) (fun c4 => ?_)
        · have hf := hf_neg c4 hf
          refine r_iconst (v := 2) dX4_numbersBehind_30 (by decide) ?_
          have e9 := Option.some.inj hf
          subst e9
          exact r_iret rfl dX4_numbersBehind_31
        · have hf := hf_pos c4 hf
          refine r_iconst (v := 1) dX4_numbersBehind_26 (by decide) ?_
          refine r_goto (tgt := 31) dX4_numbersBehind_27 (by decide) ?_
          have e9 := Option.some.inj hf
          subst e9
          exact r_iret rfl dX4_numbersBehind_31
      · have hf := hf_pos c3 hf
        refine r_iconst (v := 5) dX4_numbersBehind_18 (by decide) ?_
        have e9 := Option.some.inj hf
        subst e9
        exact r_iret rfl dX4_numbersBehind_19
    · have hf := hf_pos c2 hf
      refine r_iconst (v := 0) dX4_numbersBehind_11 (by decide) ?_
      have e9 := Option.some.inj hf
      subst e9
      exact r_iret rfl dX4_numbersBehind_12
-- DuelSamples$Script.readNumber
def lp_X4_readNumber_7 (a0 : Int32) (S_length : Int32) (S_text : Nat → Int32) : Nat → Int32 → Int32 → Int32 → Int32 → Option (Int32 × Int32 × Int32)
  | 0, _, _, _, _ => none
  | n9 + 1, v2_7, v3_7, v4_7, S_at_7 => if a0 < v4_7 then some (v2_7, v3_7, S_at_7) else Option.bind (f_X4_byteAt S_length S_text S_at_7) (fun (q2 : Int32) => if q2 < 48 then some (v2_7, v3_7, S_at_7) else Option.bind (f_X4_byteAt S_length S_text S_at_7) (fun (q4 : Int32) => if 57 < q4 then some (v2_7, v3_7, S_at_7) else Option.bind (f_X4_byteAt S_length S_text S_at_7) (fun (q6 : Int32) => lp_X4_readNumber_7 a0 S_length S_text n9 (((10 * v2_7) + q6) - 48) (v3_7 + 1) (v4_7 + 1) (S_at_7 + 1))))
def f_X4_readNumber (S_length : Int32) (S_at : Int32) (S_text : Nat → Int32) (a0 : Int32) : Option (Int32 × Int32) := Option.bind (lp_X4_readNumber_7 a0 S_length S_text FU 0 0 0 S_at) (fun (q7 : Int32 × Int32 × Int32) => if q7.2.1 = 0 then some ((-1), q7.2.2) else if q7.2.1 ≤ a0 then some (q7.1, q7.2.2) else some ((-1), q7.2.2))
theorem hy_X4_readNumber : yX4_readNumber.cls ≠ "java/lang/invoke/MethodHandle" ∧ yX4_readNumber.cls ≠ "java/lang/invoke/VarHandle" ∧ (parseMethodDescriptor yX4_readNumber.desc).map (fun d => d.parameters.length) = some 1 := by decide +kernel
set_option maxHeartbeats 4000000 in
set_option maxRecDepth 100000 in
theorem w_X4_readNumber_7 {E : EN} {res : Option Value × Hp} {hX : TX} {hR : TR} {hL : TC} {hT : TC} {hK : TK} {hP : TP} {hM : TM} {a0 : Int32} {S_length : Int32} {S_sentences : Int32} {S_units : Int32} {S_text : Nat → Int32} {S_verbs : Nat → Int32} {S_numbers : Nat → Int32} : ∀ (n9 : Nat) (v2_7 : Int32) (v3_7 : Int32) (v4_7 : Int32) (S_at_7 : Int32) (qL : Int32 × Int32 × Int32), lp_X4_readNumber_7 a0 S_length S_text n9 v2_7 v3_7 v4_7 S_at_7 = some qL → (Wa E yX4_readNumber cX4_readNumber 5 (some .int) 2 res 75 [(1, .int a0), (2, .int qL.1), (3, .int qL.2.1)] [] (hX, hR, hL, hT, hK, (S_length, S_sentences, qL.2.2, S_units, S_text, S_verbs, S_numbers), hP, hM)) → Wa E yX4_readNumber cX4_readNumber 5 (some .int) 2 res 7 [(0, .ref (eA E 20)), (1, .int a0), (2, .int v2_7), (3, .int v3_7), (4, .int v4_7)] [] (hX, hR, hL, hT, hK, (S_length, S_sentences, S_at_7, S_units, S_text, S_verbs, S_numbers), hP, hM) := by
  intro n9
  induction n9 with
  | zero =>
    intro v2_7 v3_7 v4_7 S_at_7 qL hf
    exact nomatch (show (none : Option (Int32 × Int32 × Int32)) = some qL from hf)
  | succ n9 ih =>
    intro v2_7 v3_7 v4_7 S_at_7 qL hf kx0
    rw [lp_X4_readNumber_7] at hf
    refine r_iload dX4_readNumber_7 4 rfl ?_
    refine r_iload_n dX4_readNumber_9 1 rfl ?_
    refine r_icmp_gt (tgt := 75) dX4_readNumber_10 (by decide) (fun c1 => ?_) (fun c1 => ?_)
    · have hf := hf_pos c1 hf
      have e9 := Option.some.inj hf
      subst e9
      exact (Wa.sub [1, 2, 3] rfl kx0)
    · have hf := hf_neg c1 hf
      refine r_aload_n dX4_readNumber_13 0 rfl ?_
      refine r_aload_n dX4_readNumber_14 0 rfl ?_
      refine r_get (v := .int S_at_7) in_X4 20 ga_S rfl 5 (by decide) wd_182 rfl rfl dX4_readNumber_15 ?_
      obtain ⟨q2, hq2, hf⟩ := hf_bind hf
      refine r_callVi (As := [.int S_at_7]) (b := (eA E 20)) (st := []) (s_X4_byteAt hq2) (by decide) (by decide) wd_608 wd_610 wd_19 wd_72 wd_611 hy_X4_byteAt (Rc.obj 20 ga_S rfl) rfl (Nat.le_of_ble_eq_true rfl) dX4_readNumber_18 ?_
      refine r_bipush (v := 48) dX4_readNumber_21 (by decide) ?_
      refine r_icmp_lt (tgt := 75) dX4_readNumber_23 (by decide) (fun c3 => ?_) (fun c3 => ?_)
      · have hf := hf_pos c3 hf
        have e9 := Option.some.inj hf
        subst e9
        exact (Wa.sub [1, 2, 3] rfl kx0)
      · have hf := hf_neg c3 hf
        refine r_aload_n dX4_readNumber_26 0 rfl ?_
        refine r_aload_n dX4_readNumber_27 0 rfl ?_
        refine r_get (v := .int S_at_7) in_X4 20 ga_S rfl 5 (by decide) wd_182 rfl rfl dX4_readNumber_28 ?_
        obtain ⟨q4, hq4, hf⟩ := hf_bind hf
        refine r_callVi (As := [.int S_at_7]) (b := (eA E 20)) (st := []) (s_X4_byteAt hq4) (by decide) (by decide) wd_608 wd_610 wd_19 wd_72 wd_611 hy_X4_byteAt (Rc.obj 20 ga_S rfl) rfl (Nat.le_of_ble_eq_true rfl) dX4_readNumber_31 ?_
        refine r_bipush (v := 57) dX4_readNumber_34 (by decide) ?_
        refine r_icmp_gt (tgt := 75) dX4_readNumber_36 (by decide) (fun c5 => ?_) (fun c5 => ?_)
        · have hf := hf_pos c5 hf
          have e9 := Option.some.inj hf
          subst e9
          exact (Wa.sub [1, 2, 3] rfl kx0)
        · have hf := hf_neg c5 hf
          refine r_bipush (v := 10) dX4_readNumber_39 (by decide) ?_
          refine r_iload_n dX4_readNumber_41 2 rfl ?_
          refine r_imul dX4_readNumber_42 ?_
          refine r_aload_n dX4_readNumber_43 0 rfl ?_
          refine r_aload_n dX4_readNumber_44 0 rfl ?_
          refine r_get (v := .int S_at_7) in_X4 20 ga_S rfl 5 (by decide) wd_182 rfl rfl dX4_readNumber_45 ?_
          obtain ⟨q6, hq6, hf⟩ := hf_bind hf
          refine r_callVi (As := [.int S_at_7]) (b := (eA E 20)) (st := [.int (10 * v2_7)]) (s_X4_byteAt hq6) (by decide) (by decide) wd_608 wd_610 wd_19 wd_72 wd_611 hy_X4_byteAt (Rc.obj 20 ga_S rfl) rfl (Nat.le_of_ble_eq_true rfl) dX4_readNumber_48 ?_
          refine r_iadd dX4_readNumber_51 ?_
          refine r_bipush (v := 48) dX4_readNumber_52 (by decide) ?_
          refine r_isub dX4_readNumber_54 ?_
          refine r_istore_n (lv2 := [(2, .int (((10 * v2_7) + q6) - 48)), (0, .ref (eA E 20)), (1, .int a0), (3, .int v3_7), (4, .int v4_7)]) dX4_readNumber_55 rfl (by decide) rfl ?_
          refine r_iinc (v := (v3_7 + 1)) (lv2 := [(3, .int (v3_7 + 1)), (2, .int (((10 * v2_7) + q6) - 48)), (0, .ref (eA E 20)), (1, .int a0), (4, .int v4_7)]) dX4_readNumber_56 3 rfl rfl (by decide) rfl ?_
          refine r_aload_n dX4_readNumber_59 2 rfl ?_
          refine r_dup dX4_readNumber_60 rfl ?_
          refine r_get (v := .int S_at_7) in_X4 20 ga_S rfl 5 (by decide) wd_182 rfl rfl dX4_readNumber_61 ?_
          refine r_iconst (v := 1) dX4_readNumber_64 (by decide) ?_
          refine r_iadd dX4_readNumber_65 ?_
          refine r_put in_X4 tyX4_ok nmX4 20 ga_S rfl 5 (by decide) wd_182 rfl rfl pfI (Nat.le_of_ble_eq_true rfl) sa_S_at dX4_readNumber_66 ?_
          refine r_iinc (v := (v4_7 + 1)) (lv2 := [(4, .int (v4_7 + 1)), (3, .int (v3_7 + 1)), (2, .int (((10 * v2_7) + q6) - 48)), (0, .ref (eA E 20)), (1, .int a0)]) dX4_readNumber_69 4 rfl rfl (by decide) rfl ?_
          refine r_goto (tgt := 7) dX4_readNumber_72 (by decide) ?_
          exact (Wa.sub [3, 4, 2, 1, 0] rfl (ih _ _ _ _ _ hf kx0))
set_option maxHeartbeats 4000000 in
set_option maxRecDepth 100000 in
theorem s_X4_readNumber {E : EN} {hX : TX} {hR : TR} {hL : TC} {hT : TC} {hK : TK} {hP : TP} {hM : TM} {S_length : Int32} {S_sentences : Int32} {S_at : Int32} {S_units : Int32} {S_text : Nat → Int32} {S_verbs : Nat → Int32} {S_numbers : Nat → Int32} {a0 : Int32} {qR : Int32 × Int32} (hf : f_X4_readNumber S_length S_at S_text a0 = some qR) : Sem E yX4_readNumber cX4_readNumber 5 (some .int) 2 [.ref (eA E 20), .int a0] (hX, hR, hL, hT, hK, (S_length, S_sentences, S_at, S_units, S_text, S_verbs, S_numbers), hP, hM) (some (.int qR.1), (hX, hR, hL, hT, hK, (S_length, S_sentences, qR.2, S_units, S_text, S_verbs, S_numbers), hP, hM)) := by
  refine Sem.mk (lv := [(0, .ref (eA E 20)), (1, .int a0)]) (by decide) (Nat.le_of_ble_eq_true rfl) rfl ?_
  rw [f_X4_readNumber] at hf
  refine r_iconst (v := 0) dX4_readNumber_0 (by decide) ?_
  refine r_istore_n (lv2 := [(2, .int 0), (0, .ref (eA E 20)), (1, .int a0)]) dX4_readNumber_1 rfl (by decide) rfl ?_
  refine r_iconst (v := 0) dX4_readNumber_2 (by decide) ?_
  refine r_istore_n (lv2 := [(3, .int 0), (2, .int 0), (0, .ref (eA E 20)), (1, .int a0)]) dX4_readNumber_3 rfl (by decide) rfl ?_
  refine r_iconst (v := 0) dX4_readNumber_4 (by decide) ?_
  refine r_istore (lv2 := [(4, .int 0), (3, .int 0), (2, .int 0), (0, .ref (eA E 20)), (1, .int a0)]) dX4_readNumber_5 (by decide) rfl ?_
  obtain ⟨q7, hq7, hf⟩ := hf_bind hf
  refine (Wa.sub [3, 4, 2, 1, 0] rfl (w_X4_readNumber_7 _ _ _ _ _ _ hq7 ?_))
  refine r_iload_n dX4_readNumber_75 2 rfl ?_
  refine r_if_eq (tgt := 84) dX4_readNumber_76 (by decide) (fun c8 => ?_) (fun c8 => ?_)
  · have hf := hf_pos c8 hf
    refine r_iconst (v := (-1)) dX4_readNumber_84 (by decide) ?_
    refine r_goto (tgt := 89) dX4_readNumber_85 (by decide) ?_
    have e9 := Option.some.inj hf
    subst e9
    exact r_iret rfl dX4_readNumber_89
  · have hf := hf_neg c8 hf
    refine r_iload_n dX4_readNumber_79 2 rfl ?_
    refine r_iload_n dX4_readNumber_80 0 rfl ?_
    refine r_icmp_le (tgt := 88) dX4_readNumber_81 (by decide) (fun c9 => ?_) (fun c9 => ?_)
    · have hf := hf_pos c9 hf
      refine r_iload_n dX4_readNumber_88 1 rfl ?_
      have e9 := Option.some.inj hf
      subst e9
      exact r_iret rfl dX4_readNumber_89
    · have hf := hf_neg c9 hf
      refine r_iconst (v := (-1)) dX4_readNumber_84 (by decide) ?_
      refine r_goto (tgt := 89) dX4_readNumber_85 (by decide) ?_
      have e9 := Option.some.inj hf
      subst e9
      exact r_iret rfl dX4_readNumber_89
-- DuelSamples$Script.mayStand
def f_X4_mayStand (S_units : Int32) (a0 : Int32) (a1 : Int32) (a2 : Int32) : Option (Int32) := if a0 = 11 then Option.bind (f_X5_isSeed a2) (fun (q7 : Int32) => some q7) else if a0 = 5 then Option.bind (f_X3_fits a1 a2) (fun (q6 : Int32) => some q6) else if a1 = 0 then if S_units ≤ a2 then some 0 else some 1 else Option.bind (f_X3_fits (a0 - 6) a2) (fun (q4 : Int32) => some q4)
theorem hy_X4_mayStand : yX4_mayStand.cls ≠ "java/lang/invoke/MethodHandle" ∧ yX4_mayStand.cls ≠ "java/lang/invoke/VarHandle" ∧ (parseMethodDescriptor yX4_mayStand.desc).map (fun d => d.parameters.length) = some 3 := by decide +kernel
set_option maxHeartbeats 4000000 in
set_option maxRecDepth 100000 in
theorem s_X4_mayStand {E : EN} {hX : TX} {hR : TR} {hL : TC} {hT : TC} {hK : TK} {hP : TP} {hM : TM} {S_length : Int32} {S_sentences : Int32} {S_at : Int32} {S_units : Int32} {S_text : Nat → Int32} {S_verbs : Nat → Int32} {S_numbers : Nat → Int32} {a0 : Int32} {a1 : Int32} {a2 : Int32} {qR : Int32} (hf : f_X4_mayStand S_units a0 a1 a2 = some qR) : Sem E yX4_mayStand cX4_mayStand 4 (some .boolean) 2 [.ref (eA E 20), .int a0, .int a1, .int a2] (hX, hR, hL, hT, hK, (S_length, S_sentences, S_at, S_units, S_text, S_verbs, S_numbers), hP, hM) (some (.int qR), (hX, hR, hL, hT, hK, (S_length, S_sentences, S_at, S_units, S_text, S_verbs, S_numbers), hP, hM)) := by
  refine Sem.mk (lv := [(0, .ref (eA E 20)), (1, .int a0), (2, .int a1), (3, .int a2)]) (by decide) (Nat.le_of_ble_eq_true rfl) rfl ?_
  rw [f_X4_mayStand] at hf
  refine r_iload_n dX4_mayStand_0 1 rfl ?_
  refine r_bipush (v := 11) dX4_mayStand_1 (by decide) ?_
  refine r_icmp_ne (tgt := 11) dX4_mayStand_3 (by decide) (fun c1 => ?_) (fun c1 => ?_)
  · have hf := hf_neg c1 hf
    refine r_iload_n dX4_mayStand_11 1 rfl ?_
    refine r_iconst (v := 5) dX4_mayStand_12 (by decide) ?_
    refine r_icmp_ne (tgt := 22) dX4_mayStand_13 (by decide) (fun c2 => ?_) (fun c2 => ?_)
    · have hf := hf_neg c2 hf
      refine r_iload_n dX4_mayStand_22 2 rfl ?_
      refine r_if_ne (tgt := 42) dX4_mayStand_23 (by decide) (fun c3 => ?_) (fun c3 => ?_)
      · have hf := hf_neg c3 hf
        refine r_iload_n dX4_mayStand_42 1 rfl ?_
        refine r_bipush (v := 6) dX4_mayStand_43 (by decide) ?_
        refine r_isub dX4_mayStand_45 ?_
        refine r_iload_n dX4_mayStand_46 3 rfl ?_
        obtain ⟨q4, hq4, hf⟩ := hf_bind hf
        refine r_callSi (As := [.int (a0 - 6), .int a2]) (st := []) (s_X3_fits hq4) (by decide) (by decide) wd_701 wd_247 wd_69 wd_248 hy_X3_fits rfl (Nat.le_of_ble_eq_true rfl) dX4_mayStand_47 ?_
        have e9 := Option.some.inj hf
        subst e9
        exact r_zret rfl (narB (X3_fits_01 hq4)) dX4_mayStand_50
      · have hf := hf_pos c3 hf
        refine r_iload_n dX4_mayStand_26 3 rfl ?_
        refine r_aload_n dX4_mayStand_27 0 rfl ?_
        refine r_get (v := .int S_units) in_X4 20 ga_S rfl 6 (by decide) wd_183 rfl rfl dX4_mayStand_28 ?_
        refine r_icmp_ge (tgt := 38) dX4_mayStand_31 (by decide) (fun c5 => ?_) (fun c5 => ?_)
        · have hf := hf_pos c5 hf
          refine r_iconst (v := 0) dX4_mayStand_38 (by decide) ?_
          refine r_goto (tgt := 50) dX4_mayStand_39 (by decide) ?_
          have e9 := Option.some.inj hf
          subst e9
          exact r_zret rfl (narB (Or.inl rfl)) dX4_mayStand_50
        · have hf := hf_neg c5 hf
          refine r_iconst (v := 1) dX4_mayStand_34 (by decide) ?_
          refine r_goto (tgt := 50) dX4_mayStand_35 (by decide) ?_
          have e9 := Option.some.inj hf
          subst e9
          exact r_zret rfl (narB (Or.inr rfl)) dX4_mayStand_50
    · have hf := hf_pos c2 hf
      refine r_iload_n dX4_mayStand_16 2 rfl ?_
      refine r_iload_n dX4_mayStand_17 3 rfl ?_
      obtain ⟨q6, hq6, hf⟩ := hf_bind hf
      refine r_callSi (As := [.int a1, .int a2]) (st := []) (s_X3_fits hq6) (by decide) (by decide) wd_701 wd_247 wd_69 wd_248 hy_X3_fits rfl (Nat.le_of_ble_eq_true rfl) dX4_mayStand_18 ?_
      have e9 := Option.some.inj hf
      subst e9
      exact r_zret rfl (narB (X3_fits_01 hq6)) dX4_mayStand_21
  · have hf := hf_pos c1 hf
    refine r_iload_n dX4_mayStand_6 3 rfl ?_
    obtain ⟨q7, hq7, hf⟩ := hf_bind hf
    refine r_callSNi (As := [.int a2]) (st := []) (s_X5_isSeed hq7) (by decide) (by decide) wn_700 wd_289 wd_68 wd_290 hy_X5_isSeed rfl (Nat.le_of_ble_eq_true rfl) dX4_mayStand_7 ?_
    have e9 := Option.some.inj hf
    subst e9
    exact r_zret rfl (narB (X5_isSeed_01 hq7)) dX4_mayStand_10
-- DuelSamples$Script.readSentence
def lp_X4_readSentence_42 (q1 : Int32 × Int32) (S_length : Int32) (S_text : Nat → Int32) (S_units : Int32) (S_sentences : Int32) : Nat → Int32 → Int32 → (Nat → Int32) → Option (Nat × Int32 × Int32 × (Nat → Int32))
  | 0, _, _, _ => none
  | n9 + 1, v3_42, S_at_42, S_numbers_42 => Option.bind (f_X4_numbersBehind q1.1) (fun (q5 : Int32) => if q5 ≤ v3_42 then some (1, 0, S_at_42, S_numbers_42) else Option.bind (f_X4_skipBlanks S_length S_at_42 S_text) (fun (q7 : Int32) => Option.bind (if q1.1 = 11 then some 6 else some 2) (fun (q9 : Int32) => Option.bind (f_X4_readNumber S_length q7 S_text q9) (fun (q10 : Int32 × Int32) => if q10.1 = (-1) then some (0, q7, q10.2, S_numbers_42) else Option.bind (f_X4_mayStand S_units q1.1 v3_42 q10.1) (fun (q12 : Int32) => if q12 = 0 then some (0, q7, q10.2, S_numbers_42) else if inB ((S_sentences * 5) + v3_42) 150 then lp_X4_readSentence_42 q1 S_length S_text S_units S_sentences n9 (v3_42 + 1) q10.2 (upd S_numbers_42 (Int32.toNatClampNeg ((S_sentences * 5) + v3_42)) q10.1) else none)))))
def j_X4_readSentence_40 (q1 : Int32 × Int32) (S_length : Int32) (S_text : Nat → Int32) (S_units : Int32) (S_sentences : Int32) (S_numbers : Nat → Int32) (S_verbs : Nat → Int32) : Option (Int32 × Int32 × Int32 × Int32 × (Nat → Int32) × (Nat → Int32)) := Option.bind (lp_X4_readSentence_42 q1 S_length S_text S_units S_sentences FU 0 q1.2 S_numbers) (fun (q15 : Nat × Int32 × Int32 × (Nat → Int32)) => if q15.1 = 0 then some (q15.2.1, S_sentences, q15.2.2.1, S_units, S_verbs, q15.2.2.2) else Option.bind (f_X4_skipBlanks S_length q15.2.2.1 S_text) (fun (q16 : Int32) => Option.bind (f_X4_byteAt S_length S_text q16) (fun (q17 : Int32) => if q17 = 59 then Option.bind (if q1.1 = 5 then some 1 else some 0) (fun (q20 : Int32) => if inB S_sentences 30 then some ((-1), (S_sentences + 1), (q16 + 1), (S_units + q20), (upd S_verbs (Int32.toNatClampNeg S_sentences) q1.1), q15.2.2.2) else none) else some (q16, S_sentences, q16, S_units, S_verbs, q15.2.2.2))))
def f_X4_readSentence (S_length : Int32) (S_sentences : Int32) (S_at : Int32) (S_units : Int32) (S_text : Nat → Int32) (S_verbs : Nat → Int32) (S_numbers : Nat → Int32)  : Option (Int32 × Int32 × Int32 × Int32 × (Nat → Int32) × (Nat → Int32)) := Option.bind (f_X4_readWord S_length S_at S_text) (fun (q1 : Int32 × Int32) => if q1.1 = (-1) then some (S_at, S_sentences, q1.2, S_units, S_verbs, S_numbers) else if 30 ≤ S_sentences then some (S_at, S_sentences, q1.2, S_units, S_verbs, S_numbers) else if q1.1 = 5 then if S_units < 12 then j_X4_readSentence_40 q1 S_length S_text S_units S_sentences S_numbers S_verbs else some (S_at, S_sentences, q1.2, S_units, S_verbs, S_numbers) else j_X4_readSentence_40 q1 S_length S_text S_units S_sentences S_numbers S_verbs)
theorem hy_X4_readSentence : yX4_readSentence.cls ≠ "java/lang/invoke/MethodHandle" ∧ yX4_readSentence.cls ≠ "java/lang/invoke/VarHandle" ∧ (parseMethodDescriptor yX4_readSentence.desc).map (fun d => d.parameters.length) = some 0 := by decide +kernel
set_option maxHeartbeats 4000000 in
set_option maxRecDepth 100000 in
theorem w_X4_readSentence_42 {E : EN} {res : Option Value × Hp} {hX : TX} {hR : TR} {hL : TC} {hT : TC} {hK : TK} {hP : TP} {hM : TM} {q1 : Int32 × Int32} {S_length : Int32} {S_sentences : Int32} {S_units : Int32} {S_text : Nat → Int32} {S_verbs : Nat → Int32} : ∀ (n9 : Nat) (v3_42 : Int32) (S_at_42 : Int32) (S_numbers_42 : Nat → Int32) (qL : Nat × Int32 × Int32 × (Nat → Int32)), lp_X4_readSentence_42 q1 S_length S_text S_units S_sentences n9 v3_42 S_at_42 S_numbers_42 = some qL → (qL.1 = 0 → Wa E yX4_readSentence cX4_readSentence 6 (some .int) 7 res 95 [(4, .int qL.2.1)] [] (hX, hR, hL, hT, hK, (S_length, S_sentences, qL.2.2.1, S_units, S_text, S_verbs, qL.2.2.2), hP, hM)) → (qL.1 = 1 → Wa E yX4_readSentence cX4_readSentence 6 (some .int) 7 res 119 [(0, .ref (eA E 20)), (2, .int q1.1)] [] (hX, hR, hL, hT, hK, (S_length, S_sentences, qL.2.2.1, S_units, S_text, S_verbs, qL.2.2.2), hP, hM)) → Wa E yX4_readSentence cX4_readSentence 6 (some .int) 7 res 42 [(0, .ref (eA E 20)), (2, .int q1.1), (3, .int v3_42)] [] (hX, hR, hL, hT, hK, (S_length, S_sentences, S_at_42, S_units, S_text, S_verbs, S_numbers_42), hP, hM) := by
  intro n9
  induction n9 with
  | zero =>
    intro v3_42 S_at_42 S_numbers_42 qL hf
    exact nomatch (show (none : Option (Nat × Int32 × Int32 × (Nat → Int32))) = some qL from hf)
  | succ n9 ih =>
    intro v3_42 S_at_42 S_numbers_42 qL hf kx0 kx1
    rw [lp_X4_readSentence_42] at hf
    refine r_iload_n dX4_readSentence_42 2 rfl ?_
    refine r_iload_n dX4_readSentence_43 1 rfl ?_
    obtain ⟨q5, hq5, hf⟩ := hf_bind hf
    refine r_callSi (As := [.int q1.1]) (st := [.int v3_42]) (s_X4_numbersBehind hq5) (by decide) (by decide) wd_689 wd_690 wd_72 wd_691 hy_X4_numbersBehind rfl (Nat.le_of_ble_eq_true rfl) dX4_readSentence_44 ?_
    refine r_icmp_ge (tgt := 119) dX4_readSentence_47 (by decide) (fun c6 => ?_) (fun c6 => ?_)
    · have hf := hf_pos c6 hf
      have e9 := Option.some.inj hf
      subst e9
      exact (Wa.sub [0, 1] rfl (kx1 rfl))
    · have hf := hf_neg c6 hf
      refine r_aload_n dX4_readSentence_50 0 rfl ?_
      obtain ⟨q7, hq7, hf⟩ := hf_bind hf
      refine r_callVv (As := []) (b := (eA E 20)) (st := []) (s_X4_skipBlanks hq7) (by decide) (by decide) wd_604 wd_606 wd_18 wd_72 wd_607 hy_X4_skipBlanks (Rc.obj 20 ga_S rfl) rfl (Nat.le_of_ble_eq_true rfl) dX4_readSentence_51 ?_
      refine r_aload_n dX4_readSentence_54 0 rfl ?_
      refine r_get (v := .int q7) in_X4 20 ga_S rfl 5 (by decide) wd_182 rfl rfl dX4_readSentence_55 ?_
      refine r_istore (lv2 := [(4, .int q7), (0, .ref (eA E 20)), (2, .int q1.1), (3, .int v3_42)]) dX4_readSentence_58 (by decide) rfl ?_
      refine r_aload_n dX4_readSentence_60 1 rfl ?_
      refine r_iload_n dX4_readSentence_61 2 rfl ?_
      refine r_bipush (v := 11) dX4_readSentence_62 (by decide) ?_
      obtain ⟨q9, hq9, hf⟩ := hf_bind hf
      have kj9 : Wa E yX4_readSentence cX4_readSentence 6 (some .int) 7 res 73 [(0, .ref (eA E 20)), (2, .int q1.1), (3, .int v3_42), (4, .int q7)] [.int q9, .ref (eA E 20)] (hX, hR, hL, hT, hK, (S_length, S_sentences, q7, S_units, S_text, S_verbs, S_numbers_42), hP, hM) := by
        obtain ⟨q10, hq10, hf⟩ := hf_bind hf
        refine r_callVi (As := [.int q9]) (b := (eA E 20)) (st := []) (s_X4_readNumber hq10) (by decide) (by decide) wd_692 wd_694 wd_23 wd_72 wd_695 hy_X4_readNumber (Rc.obj 20 ga_S rfl) rfl (Nat.le_of_ble_eq_true rfl) dX4_readSentence_73 ?_
        refine r_istore (lv2 := [(5, .int q10.1), (0, .ref (eA E 20)), (2, .int q1.1), (3, .int v3_42), (4, .int q7)]) dX4_readSentence_76 (by decide) rfl ?_
        refine r_iload dX4_readSentence_78 0 rfl ?_
        refine r_iconst (v := (-1)) dX4_readSentence_80 (by decide) ?_
        refine r_icmp_eq (tgt := 95) dX4_readSentence_81 (by decide) (fun c11 => ?_) (fun c11 => ?_)
        · have hf := hf_pos c11 hf
          have e9 := Option.some.inj hf
          subst e9
          exact (Wa.sub [4] rfl (kx0 rfl))
        · have hf := hf_neg c11 hf
          refine r_aload_n dX4_readSentence_84 1 rfl ?_
          refine r_iload_n dX4_readSentence_85 2 rfl ?_
          refine r_iload_n dX4_readSentence_86 3 rfl ?_
          refine r_iload dX4_readSentence_87 0 rfl ?_
          obtain ⟨q12, hq12, hf⟩ := hf_bind hf
          refine r_callVi (As := [.int q1.1, .int v3_42, .int q10.1]) (b := (eA E 20)) (st := []) (s_X4_mayStand hq12) (by decide) (by decide) wd_696 wd_698 wd_24 wd_72 wd_699 hy_X4_mayStand (Rc.obj 20 ga_S rfl) rfl (Nat.le_of_ble_eq_true rfl) dX4_readSentence_89 ?_
          refine r_if_ne (tgt := 98) dX4_readSentence_92 (by decide) (fun c13 => ?_) (fun c13 => ?_)
          · have hf := hf_neg c13 hf
            refine r_aload_n dX4_readSentence_98 1 rfl ?_
            refine r_get (v := .ref (eA E 23)) in_X4 20 ga_S rfl 2 (by decide) wd_177 rfl rfl dX4_readSentence_99 ?_
            refine r_aload_n dX4_readSentence_102 1 rfl ?_
            refine r_get (v := .int S_sentences) in_X4 20 ga_S rfl 4 (by decide) wd_180 rfl rfl dX4_readSentence_103 ?_
            refine r_iconst (v := 5) dX4_readSentence_106 (by decide) ?_
            refine r_imul dX4_readSentence_107 ?_
            refine r_iload_n dX4_readSentence_108 3 rfl ?_
            refine r_iadd dX4_readSentence_109 ?_
            refine r_iload dX4_readSentence_110 0 rfl ?_
            obtain ⟨i14, hf⟩ := hf_in hf
            refine r_iast 23 ga_S_numbers sa_S_numbers i14 dX4_readSentence_112 ?_
            refine r_iinc (v := (v3_42 + 1)) (lv2 := [(3, .int (v3_42 + 1)), (5, .int q10.1), (0, .ref (eA E 20)), (2, .int q1.1), (4, .int q7)]) dX4_readSentence_113 3 rfl rfl (by decide) rfl ?_
            refine r_goto (tgt := 42) dX4_readSentence_116 (by decide) ?_
            exact (Wa.sub [2, 3, 0] rfl (ih _ _ _ _ hf kx0 kx1))
          · have hf := hf_pos c13 hf
            have e9 := Option.some.inj hf
            subst e9
            exact (Wa.sub [4] rfl (kx0 rfl))
      have hf := hq9
      refine r_icmp_ne (tgt := 72) dX4_readSentence_64 (by decide) (fun c8 => ?_) (fun c8 => ?_)
      · have hf := hf_neg c8 hf
        refine r_iconst (v := 2) dX4_readSentence_72 (by decide) ?_
        have e9 := Option.some.inj hf
        subst e9
        exact (Wa.sub [1, 2, 3, 0] rfl kj9)
      · have hf := hf_pos c8 hf
        refine r_bipush (v := 6) dX4_readSentence_67 (by decide) ?_
        refine r_goto (tgt := 73) dX4_readSentence_69 (by decide) ?_
        have e9 := Option.some.inj hf
        subst e9
        exact (Wa.sub [1, 2, 3, 0] rfl kj9)
set_option maxHeartbeats 4000000 in
set_option maxRecDepth 100000 in
theorem wj_X4_readSentence_40 {E : EN} {hX : TX} {hR : TR} {hL : TC} {hT : TC} {hK : TK} {hP : TP} {hM : TM} {S_length : Int32} {S_text : Nat → Int32} {q1 : Int32 × Int32} {S_sentences : Int32} {S_units : Int32} {S_verbs : Nat → Int32} {S_numbers : Nat → Int32} {qR : Int32 × Int32 × Int32 × Int32 × (Nat → Int32) × (Nat → Int32)} (hf : j_X4_readSentence_40 q1 S_length S_text S_units S_sentences S_numbers S_verbs = some qR) : Wa E yX4_readSentence cX4_readSentence 6 (some .int) 7 (some (.int qR.1), (hX, hR, hL, hT, hK, (S_length, qR.2.1, qR.2.2.1, qR.2.2.2.1, S_text, qR.2.2.2.2.1, qR.2.2.2.2.2), hP, hM)) 40 [(0, .ref (eA E 20)), (2, .int q1.1)] [] (hX, hR, hL, hT, hK, (S_length, S_sentences, q1.2, S_units, S_text, S_verbs, S_numbers), hP, hM) := by
  rw [j_X4_readSentence_40] at hf
  refine r_iconst (v := 0) dX4_readSentence_40 (by decide) ?_
  refine r_istore_n (lv2 := [(3, .int 0), (0, .ref (eA E 20)), (2, .int q1.1)]) dX4_readSentence_41 rfl (by decide) rfl ?_
  obtain ⟨q15, hq15, hf⟩ := hf_bind hf
  refine (Wa.sub [1, 2, 0] rfl (w_X4_readSentence_42 _ _ _ _ _ hq15 ?_ ?_))
  · intro ht
    have hf := hf_pos ht hf
    refine r_iload dX4_readSentence_95 0 rfl ?_
    have e9 := Option.some.inj hf
    subst e9
    exact r_iret rfl dX4_readSentence_97
  · intro ht
    have hf := hf_neg (show ¬ q15.1 = 0 by rw [ht]; decide) hf
    refine r_aload_n dX4_readSentence_119 0 rfl ?_
    obtain ⟨q16, hq16, hf⟩ := hf_bind hf
    refine r_callVv (As := []) (b := (eA E 20)) (st := []) (s_X4_skipBlanks hq16) (by decide) (by decide) wd_604 wd_606 wd_18 wd_72 wd_607 hy_X4_skipBlanks (Rc.obj 20 ga_S rfl) rfl (Nat.le_of_ble_eq_true rfl) dX4_readSentence_120 ?_
    refine r_aload_n dX4_readSentence_123 0 rfl ?_
    refine r_aload_n dX4_readSentence_124 0 rfl ?_
    refine r_get (v := .int q16) in_X4 20 ga_S rfl 5 (by decide) wd_182 rfl rfl dX4_readSentence_125 ?_
    obtain ⟨q17, hq17, hf⟩ := hf_bind hf
    refine r_callVi (As := [.int q16]) (b := (eA E 20)) (st := []) (s_X4_byteAt hq17) (by decide) (by decide) wd_608 wd_610 wd_19 wd_72 wd_611 hy_X4_byteAt (Rc.obj 20 ga_S rfl) rfl (Nat.le_of_ble_eq_true rfl) dX4_readSentence_128 ?_
    refine r_bipush (v := 59) dX4_readSentence_131 (by decide) ?_
    refine r_icmp_eq (tgt := 141) dX4_readSentence_133 (by decide) (fun c18 => ?_) (fun c18 => ?_)
    · have hf := hf_pos c18 hf
      refine r_aload_n dX4_readSentence_141 0 rfl ?_
      refine r_dup dX4_readSentence_142 rfl ?_
      refine r_get (v := .int q16) in_X4 20 ga_S rfl 5 (by decide) wd_182 rfl rfl dX4_readSentence_143 ?_
      refine r_iconst (v := 1) dX4_readSentence_146 (by decide) ?_
      refine r_iadd dX4_readSentence_147 ?_
      refine r_put in_X4 tyX4_ok nmX4 20 ga_S rfl 5 (by decide) wd_182 rfl rfl pfI (Nat.le_of_ble_eq_true rfl) sa_S_at dX4_readSentence_148 ?_
      refine r_aload_n dX4_readSentence_151 0 rfl ?_
      refine r_dup dX4_readSentence_152 rfl ?_
      refine r_get (v := .int S_units) in_X4 20 ga_S rfl 6 (by decide) wd_183 rfl rfl dX4_readSentence_153 ?_
      refine r_iload_n dX4_readSentence_156 1 rfl ?_
      refine r_iconst (v := 5) dX4_readSentence_157 (by decide) ?_
      obtain ⟨q20, hq20, hf⟩ := hf_bind hf
      have kj20 : Wa E yX4_readSentence cX4_readSentence 6 (some .int) 7 (some (.int qR.1), (hX, hR, hL, hT, hK, (S_length, qR.2.1, qR.2.2.1, qR.2.2.2.1, S_text, qR.2.2.2.2.1, qR.2.2.2.2.2), hP, hM)) 166 [(0, .ref (eA E 20)), (2, .int q1.1)] [.int q20, .int S_units, .ref (eA E 20)] (hX, hR, hL, hT, hK, (S_length, S_sentences, (q16 + 1), S_units, S_text, S_verbs, q15.2.2.2), hP, hM) := by
        refine r_iadd dX4_readSentence_166 ?_
        refine r_put in_X4 tyX4_ok nmX4 20 ga_S rfl 6 (by decide) wd_183 rfl rfl pfI (Nat.le_of_ble_eq_true rfl) sa_S_units dX4_readSentence_167 ?_
        refine r_aload_n dX4_readSentence_170 0 rfl ?_
        refine r_get (v := .ref (eA E 22)) in_X4 20 ga_S rfl 1 (by decide) wd_176 rfl rfl dX4_readSentence_171 ?_
        refine r_aload_n dX4_readSentence_174 0 rfl ?_
        refine r_get (v := .int S_sentences) in_X4 20 ga_S rfl 4 (by decide) wd_180 rfl rfl dX4_readSentence_175 ?_
        refine r_iload_n dX4_readSentence_178 1 rfl ?_
        obtain ⟨i21, hf⟩ := hf_in hf
        refine r_iast 22 ga_S_verbs sa_S_verbs i21 dX4_readSentence_179 ?_
        refine r_aload_n dX4_readSentence_180 0 rfl ?_
        refine r_dup dX4_readSentence_181 rfl ?_
        refine r_get (v := .int S_sentences) in_X4 20 ga_S rfl 4 (by decide) wd_180 rfl rfl dX4_readSentence_182 ?_
        refine r_iconst (v := 1) dX4_readSentence_185 (by decide) ?_
        refine r_iadd dX4_readSentence_186 ?_
        refine r_put in_X4 tyX4_ok nmX4 20 ga_S rfl 4 (by decide) wd_180 rfl rfl pfI (Nat.le_of_ble_eq_true rfl) sa_S_sentences dX4_readSentence_187 ?_
        refine r_iconst (v := (-1)) dX4_readSentence_190 (by decide) ?_
        have e9 := Option.some.inj hf
        subst e9
        exact r_iret rfl dX4_readSentence_191
      have hf := hq20
      refine r_icmp_ne (tgt := 165) dX4_readSentence_158 (by decide) (fun c19 => ?_) (fun c19 => ?_)
      · have hf := hf_neg c19 hf
        refine r_iconst (v := 0) dX4_readSentence_165 (by decide) ?_
        have e9 := Option.some.inj hf
        subst e9
        exact kj20
      · have hf := hf_pos c19 hf
        refine r_iconst (v := 1) dX4_readSentence_161 (by decide) ?_
        refine r_goto (tgt := 166) dX4_readSentence_162 (by decide) ?_
        have e9 := Option.some.inj hf
        subst e9
        exact kj20
    · have hf := hf_neg c18 hf
      refine r_aload_n dX4_readSentence_136 0 rfl ?_
      refine r_get (v := .int q16) in_X4 20 ga_S rfl 5 (by decide) wd_182 rfl rfl dX4_readSentence_137 ?_
      have e9 := Option.some.inj hf
      subst e9
      exact r_iret rfl dX4_readSentence_140
set_option maxHeartbeats 4000000 in
set_option maxRecDepth 100000 in
theorem s_X4_readSentence {E : EN} {hX : TX} {hR : TR} {hL : TC} {hT : TC} {hK : TK} {hP : TP} {hM : TM} {S_length : Int32} {S_sentences : Int32} {S_at : Int32} {S_units : Int32} {S_text : Nat → Int32} {S_verbs : Nat → Int32} {S_numbers : Nat → Int32}  {qR : Int32 × Int32 × Int32 × Int32 × (Nat → Int32) × (Nat → Int32)} (hf : f_X4_readSentence S_length S_sentences S_at S_units S_text S_verbs S_numbers = some qR) : Sem E yX4_readSentence cX4_readSentence 6 (some .int) 7 [.ref (eA E 20)] (hX, hR, hL, hT, hK, (S_length, S_sentences, S_at, S_units, S_text, S_verbs, S_numbers), hP, hM) (some (.int qR.1), (hX, hR, hL, hT, hK, (S_length, qR.2.1, qR.2.2.1, qR.2.2.2.1, S_text, qR.2.2.2.2.1, qR.2.2.2.2.2), hP, hM)) := by
  refine Sem.mk (lv := [(0, .ref (eA E 20))]) (by decide) (Nat.le_of_ble_eq_true rfl) rfl ?_
  rw [f_X4_readSentence] at hf
  refine r_aload_n dX4_readSentence_0 0 rfl ?_
  refine r_get (v := .int S_at) in_X4 20 ga_S rfl 5 (by decide) wd_182 rfl rfl dX4_readSentence_1 ?_
  refine r_istore_n (lv2 := [(1, .int S_at), (0, .ref (eA E 20))]) dX4_readSentence_4 rfl (by decide) rfl ?_
  refine r_aload_n dX4_readSentence_5 1 rfl ?_
  obtain ⟨q1, hq1, hf⟩ := hf_bind hf
  refine r_callVi (As := []) (b := (eA E 20)) (st := []) (s_X4_readWord hq1) (by decide) (by decide) wd_616 wd_618 wd_21 wd_72 wd_619 hy_X4_readWord (Rc.obj 20 ga_S rfl) rfl (Nat.le_of_ble_eq_true rfl) dX4_readSentence_6 ?_
  refine r_istore_n (lv2 := [(2, .int q1.1), (1, .int S_at), (0, .ref (eA E 20))]) dX4_readSentence_9 rfl (by decide) rfl ?_
  refine r_iload_n dX4_readSentence_10 0 rfl ?_
  refine r_iconst (v := (-1)) dX4_readSentence_11 (by decide) ?_
  refine r_icmp_eq (tgt := 38) dX4_readSentence_12 (by decide) (fun c2 => ?_) (fun c2 => ?_)
  · have hf := hf_pos c2 hf
    refine r_iload_n dX4_readSentence_38 1 rfl ?_
    have e9 := Option.some.inj hf
    subst e9
    exact r_iret rfl dX4_readSentence_39
  · have hf := hf_neg c2 hf
    refine r_aload_n dX4_readSentence_15 2 rfl ?_
    refine r_get (v := .int S_sentences) in_X4 20 ga_S rfl 4 (by decide) wd_180 rfl rfl dX4_readSentence_16 ?_
    refine r_bipush (v := 30) dX4_readSentence_19 (by decide) ?_
    refine r_icmp_ge (tgt := 38) dX4_readSentence_21 (by decide) (fun c3 => ?_) (fun c3 => ?_)
    · have hf := hf_pos c3 hf
      refine r_iload_n dX4_readSentence_38 1 rfl ?_
      have e9 := Option.some.inj hf
      subst e9
      exact r_iret rfl dX4_readSentence_39
    · have hf := hf_neg c3 hf
      refine r_iload_n dX4_readSentence_24 0 rfl ?_
      refine r_iconst (v := 5) dX4_readSentence_25 (by decide) ?_
      refine r_icmp_ne (tgt := 40) dX4_readSentence_26 (by decide) (fun c4 => ?_) (fun c4 => ?_)
      · have hf := hf_neg c4 hf
        exact (Wa.sub [2, 0] rfl (wj_X4_readSentence_40 hf))
      · have hf := hf_pos c4 hf
        refine r_aload_n dX4_readSentence_29 2 rfl ?_
        refine r_get (v := .int S_units) in_X4 20 ga_S rfl 6 (by decide) wd_183 rfl rfl dX4_readSentence_30 ?_
        refine r_bipush (v := 12) dX4_readSentence_33 (by decide) ?_
        refine r_icmp_lt (tgt := 40) dX4_readSentence_35 (by decide) (fun c22 => ?_) (fun c22 => ?_)
        · have hf := hf_pos c22 hf
          exact (Wa.sub [2, 0] rfl (wj_X4_readSentence_40 hf))
        · have hf := hf_neg c22 hf
          refine r_iload_n dX4_readSentence_38 1 rfl ?_
          have e9 := Option.some.inj hf
          subst e9
          exact r_iret rfl dX4_readSentence_39
-- DuelSamples$Script.read
def lp_X4_read_17 (S_length : Int32) (S_text : Nat → Int32) : Nat → Int32 → Int32 → Int32 → Int32 → (Nat → Int32) → (Nat → Int32) → Option (Nat × Int32 × Int32 × Int32 × Int32 × (Nat → Int32) × (Nat → Int32))
  | 0, _, _, _, _, _, _ => none
  | n9 + 1, v2_17, S_sentences_17, S_at_17, S_units_17, S_verbs_17, S_numbers_17 => if 30 < v2_17 then some (2, 0, S_sentences_17, S_at_17, S_units_17, S_verbs_17, S_numbers_17) else Option.bind (f_X4_skipBlanks S_length S_at_17 S_text) (fun (q2 : Int32) => if q2 < S_length then Option.bind (f_X4_readSentence S_length S_sentences_17 q2 S_units_17 S_text S_verbs_17 S_numbers_17) (fun (q4 : Int32 × Int32 × Int32 × Int32 × (Nat → Int32) × (Nat → Int32)) => if q4.1 = (-1) then lp_X4_read_17 S_length S_text n9 (v2_17 + 1) q4.2.1 q4.2.2.1 q4.2.2.2.1 q4.2.2.2.2.1 q4.2.2.2.2.2 else some (1, q4.1, q4.2.1, q4.2.2.1, q4.2.2.2.1, q4.2.2.2.2.1, q4.2.2.2.2.2)) else some (0, 0, S_sentences_17, q2, S_units_17, S_verbs_17, S_numbers_17))
def f_X4_read (S_length : Int32) (S_text : Nat → Int32) (S_verbs : Nat → Int32) (S_numbers : Nat → Int32) (a0 : Int32) : Option (Int32 × Int32 × Int32 × Int32 × (Nat → Int32) × (Nat → Int32)) := Option.bind (lp_X4_read_17 S_length S_text FU 0 0 0 a0 S_verbs S_numbers) (fun (q6 : Nat × Int32 × Int32 × Int32 × Int32 × (Nat → Int32) × (Nat → Int32)) => if q6.1 = 0 then if q6.2.2.1 = 0 then some (S_length, q6.2.2.1, q6.2.2.2.1, q6.2.2.2.2.1, q6.2.2.2.2.2.1, q6.2.2.2.2.2.2) else some ((-1), q6.2.2.1, q6.2.2.2.1, q6.2.2.2.2.1, q6.2.2.2.2.2.1, q6.2.2.2.2.2.2) else if q6.1 = 1 then some (q6.2.1, q6.2.2.1, q6.2.2.2.1, q6.2.2.2.2.1, q6.2.2.2.2.2.1, q6.2.2.2.2.2.2) else some (q6.2.2.2.1, q6.2.2.1, q6.2.2.2.1, q6.2.2.2.2.1, q6.2.2.2.2.2.1, q6.2.2.2.2.2.2))
theorem hy_X4_read : yX4_read.cls ≠ "java/lang/invoke/MethodHandle" ∧ yX4_read.cls ≠ "java/lang/invoke/VarHandle" ∧ (parseMethodDescriptor yX4_read.desc).map (fun d => d.parameters.length) = some 1 := by decide +kernel
set_option maxHeartbeats 4000000 in
set_option maxRecDepth 100000 in
theorem w_X4_read_17 {E : EN} {res : Option Value × Hp} {hX : TX} {hR : TR} {hL : TC} {hT : TC} {hK : TK} {hP : TP} {hM : TM} {S_length : Int32} {S_text : Nat → Int32} : ∀ (n9 : Nat) (v2_17 : Int32) (S_sentences_17 : Int32) (S_at_17 : Int32) (S_units_17 : Int32) (S_verbs_17 : Nat → Int32) (S_numbers_17 : Nat → Int32) (qL : Nat × Int32 × Int32 × Int32 × Int32 × (Nat → Int32) × (Nat → Int32)), lp_X4_read_17 S_length S_text n9 v2_17 S_sentences_17 S_at_17 S_units_17 S_verbs_17 S_numbers_17 = some qL → (qL.1 = 0 → Wa E yX4_read cX4_read 4 (some .int) 8 res 38 [(0, .ref (eA E 20))] [] (hX, hR, hL, hT, hK, (S_length, qL.2.2.1, qL.2.2.2.1, qL.2.2.2.2.1, S_text, qL.2.2.2.2.2.1, qL.2.2.2.2.2.2), hP, hM)) → (qL.1 = 1 → Wa E yX4_read cX4_read 4 (some .int) 8 res 64 [(3, .int qL.2.1)] [] (hX, hR, hL, hT, hK, (S_length, qL.2.2.1, qL.2.2.2.1, qL.2.2.2.2.1, S_text, qL.2.2.2.2.2.1, qL.2.2.2.2.2.2), hP, hM)) → (qL.1 = 2 → Wa E yX4_read cX4_read 4 (some .int) 8 res 72 [(0, .ref (eA E 20))] [] (hX, hR, hL, hT, hK, (S_length, qL.2.2.1, qL.2.2.2.1, qL.2.2.2.2.1, S_text, qL.2.2.2.2.2.1, qL.2.2.2.2.2.2), hP, hM)) → Wa E yX4_read cX4_read 4 (some .int) 8 res 17 [(0, .ref (eA E 20)), (2, .int v2_17)] [] (hX, hR, hL, hT, hK, (S_length, S_sentences_17, S_at_17, S_units_17, S_text, S_verbs_17, S_numbers_17), hP, hM) := by
  intro n9
  induction n9 with
  | zero =>
    intro v2_17 S_sentences_17 S_at_17 S_units_17 S_verbs_17 S_numbers_17 qL hf
    exact nomatch (show (none : Option (Nat × Int32 × Int32 × Int32 × Int32 × (Nat → Int32) × (Nat → Int32))) = some qL from hf)
  | succ n9 ih =>
    intro v2_17 S_sentences_17 S_at_17 S_units_17 S_verbs_17 S_numbers_17 qL hf kx0 kx1 kx2
    rw [lp_X4_read_17] at hf
    refine r_iload_n dX4_read_17 1 rfl ?_
    refine r_bipush (v := 30) dX4_read_18 (by decide) ?_
    refine r_icmp_gt (tgt := 72) dX4_read_20 (by decide) (fun c1 => ?_) (fun c1 => ?_)
    · have hf := hf_pos c1 hf
      have e9 := Option.some.inj hf
      subst e9
      exact (Wa.sub [0] rfl (kx2 rfl))
    · have hf := hf_neg c1 hf
      refine r_aload_n dX4_read_23 0 rfl ?_
      obtain ⟨q2, hq2, hf⟩ := hf_bind hf
      refine r_callVv (As := []) (b := (eA E 20)) (st := []) (s_X4_skipBlanks hq2) (by decide) (by decide) wd_604 wd_606 wd_18 wd_72 wd_607 hy_X4_skipBlanks (Rc.obj 20 ga_S rfl) rfl (Nat.le_of_ble_eq_true rfl) dX4_read_24 ?_
      refine r_aload_n dX4_read_27 0 rfl ?_
      refine r_get (v := .int q2) in_X4 20 ga_S rfl 5 (by decide) wd_182 rfl rfl dX4_read_28 ?_
      refine r_aload_n dX4_read_31 0 rfl ?_
      refine r_get (v := .int S_length) in_X4 20 ga_S rfl 3 (by decide) wd_178 rfl rfl dX4_read_32 ?_
      refine r_icmp_lt (tgt := 54) dX4_read_35 (by decide) (fun c3 => ?_) (fun c3 => ?_)
      · have hf := hf_pos c3 hf
        refine r_aload_n dX4_read_54 0 rfl ?_
        obtain ⟨q4, hq4, hf⟩ := hf_bind hf
        refine r_callVi (As := []) (b := (eA E 20)) (st := []) (s_X4_readSentence hq4) (by decide) (by decide) wd_612 wd_614 wd_20 wd_72 wd_615 hy_X4_readSentence (Rc.obj 20 ga_S rfl) rfl (Nat.le_of_ble_eq_true rfl) dX4_read_55 ?_
        refine r_istore_n (lv2 := [(3, .int q4.1), (0, .ref (eA E 20)), (2, .int v2_17)]) dX4_read_58 rfl (by decide) rfl ?_
        refine r_iload_n dX4_read_59 0 rfl ?_
        refine r_iconst (v := (-1)) dX4_read_60 (by decide) ?_
        refine r_icmp_eq (tgt := 66) dX4_read_61 (by decide) (fun c5 => ?_) (fun c5 => ?_)
        · have hf := hf_pos c5 hf
          refine r_iinc (v := (v2_17 + 1)) (lv2 := [(2, .int (v2_17 + 1)), (3, .int q4.1), (0, .ref (eA E 20))]) dX4_read_66 2 rfl rfl (by decide) rfl ?_
          refine r_goto (tgt := 17) dX4_read_69 (by decide) ?_
          exact (Wa.sub [2, 0] rfl (ih _ _ _ _ _ _ _ hf kx0 kx1 kx2))
        · have hf := hf_neg c5 hf
          have e9 := Option.some.inj hf
          subst e9
          exact (Wa.sub [0] rfl (kx1 rfl))
      · have hf := hf_neg c3 hf
        have e9 := Option.some.inj hf
        subst e9
        exact (Wa.sub [0] rfl (kx0 rfl))
set_option maxHeartbeats 4000000 in
set_option maxRecDepth 100000 in
theorem s_X4_read {E : EN} {hX : TX} {hR : TR} {hL : TC} {hT : TC} {hK : TK} {hP : TP} {hM : TM} {S_length : Int32} {S_sentences : Int32} {S_at : Int32} {S_units : Int32} {S_text : Nat → Int32} {S_verbs : Nat → Int32} {S_numbers : Nat → Int32} {a0 : Int32} {qR : Int32 × Int32 × Int32 × Int32 × (Nat → Int32) × (Nat → Int32)} (hf : f_X4_read S_length S_text S_verbs S_numbers a0 = some qR) : Sem E yX4_read cX4_read 4 (some .int) 8 [.ref (eA E 20), .int a0] (hX, hR, hL, hT, hK, (S_length, S_sentences, S_at, S_units, S_text, S_verbs, S_numbers), hP, hM) (some (.int qR.1), (hX, hR, hL, hT, hK, (S_length, qR.2.1, qR.2.2.1, qR.2.2.2.1, S_text, qR.2.2.2.2.1, qR.2.2.2.2.2), hP, hM)) := by
  refine Sem.mk (lv := [(0, .ref (eA E 20)), (1, .int a0)]) (by decide) (Nat.le_of_ble_eq_true rfl) rfl ?_
  rw [f_X4_read] at hf
  refine r_aload_n dX4_read_0 0 rfl ?_
  refine r_iconst (v := 0) dX4_read_1 (by decide) ?_
  refine r_put in_X4 tyX4_ok nmX4 20 ga_S rfl 4 (by decide) wd_180 rfl rfl pfI (Nat.le_of_ble_eq_true rfl) sa_S_sentences dX4_read_2 ?_
  refine r_aload_n dX4_read_5 0 rfl ?_
  refine r_iload_n dX4_read_6 1 rfl ?_
  refine r_put in_X4 tyX4_ok nmX4 20 ga_S rfl 6 (by decide) wd_183 rfl rfl pfI (Nat.le_of_ble_eq_true rfl) sa_S_units dX4_read_7 ?_
  refine r_aload_n dX4_read_10 0 rfl ?_
  refine r_iconst (v := 0) dX4_read_11 (by decide) ?_
  refine r_put in_X4 tyX4_ok nmX4 20 ga_S rfl 5 (by decide) wd_182 rfl rfl pfI (Nat.le_of_ble_eq_true rfl) sa_S_at dX4_read_12 ?_
  refine r_iconst (v := 0) dX4_read_15 (by decide) ?_
  refine r_istore_n (lv2 := [(2, .int 0), (0, .ref (eA E 20)), (1, .int a0)]) dX4_read_16 rfl (by decide) rfl ?_
  obtain ⟨q6, hq6, hf⟩ := hf_bind hf
  refine (Wa.sub [1, 0] rfl (w_X4_read_17 _ _ _ _ _ _ _ _ hq6 ?_ ?_ ?_))
  · intro ht
    have hf := hf_pos ht hf
    refine r_aload_n dX4_read_38 0 rfl ?_
    refine r_get (v := .int q6.2.2.1) in_X4 20 ga_S rfl 4 (by decide) wd_180 rfl rfl dX4_read_39 ?_
    refine r_if_ne (tgt := 52) dX4_read_42 (by decide) (fun c7 => ?_) (fun c7 => ?_)
    · have hf := hf_neg c7 hf
      refine r_iconst (v := (-1)) dX4_read_52 (by decide) ?_
      have e9 := Option.some.inj hf
      subst e9
      exact r_iret rfl dX4_read_53
    · have hf := hf_pos c7 hf
      refine r_aload_n dX4_read_45 0 rfl ?_
      refine r_get (v := .int S_length) in_X4 20 ga_S rfl 3 (by decide) wd_178 rfl rfl dX4_read_46 ?_
      refine r_goto (tgt := 53) dX4_read_49 (by decide) ?_
      have e9 := Option.some.inj hf
      subst e9
      exact r_iret rfl dX4_read_53
  · intro ht
    have hf := hf_neg (show ¬ q6.1 = 0 by rw [ht]; decide) hf
    have hf := hf_pos ht hf
    refine r_iload_n dX4_read_64 0 rfl ?_
    have e9 := Option.some.inj hf
    subst e9
    exact r_iret rfl dX4_read_65
  · intro ht
    have hf := hf_neg (show ¬ q6.1 = 0 by rw [ht]; decide) hf
    have hf := hf_neg (show ¬ q6.1 = 1 by rw [ht]; decide) hf
    refine r_aload_n dX4_read_72 0 rfl ?_
    refine r_get (v := .int q6.2.2.2.1) in_X4 20 ga_S rfl 5 (by decide) wd_182 rfl rfl dX4_read_73 ?_
    have e9 := Option.some.inj hf
    subst e9
    exact r_iret rfl dX4_read_76
-- DuelSamples$Script.verb
def f_X4_verb (S_sentences : Int32) (S_verbs : Nat → Int32) (a0 : Int32) : Option (Int32) := if a0 < 0 then some 12 else if S_sentences ≤ a0 then some 12 else if 30 ≤ a0 then some 12 else if inB a0 30 then some (S_verbs (Int32.toNatClampNeg a0)) else none
theorem hy_X4_verb : yX4_verb.cls ≠ "java/lang/invoke/MethodHandle" ∧ yX4_verb.cls ≠ "java/lang/invoke/VarHandle" ∧ (parseMethodDescriptor yX4_verb.desc).map (fun d => d.parameters.length) = some 1 := by decide +kernel
set_option maxHeartbeats 4000000 in
set_option maxRecDepth 100000 in
theorem s_X4_verb {E : EN} {hX : TX} {hR : TR} {hL : TC} {hT : TC} {hK : TK} {hP : TP} {hM : TM} {S_length : Int32} {S_sentences : Int32} {S_at : Int32} {S_units : Int32} {S_text : Nat → Int32} {S_verbs : Nat → Int32} {S_numbers : Nat → Int32} {a0 : Int32} {qR : Int32} (hf : f_X4_verb S_sentences S_verbs a0 = some qR) : Sem E yX4_verb cX4_verb 2 (some .int) 1 [.ref (eA E 20), .int a0] (hX, hR, hL, hT, hK, (S_length, S_sentences, S_at, S_units, S_text, S_verbs, S_numbers), hP, hM) (some (.int qR), (hX, hR, hL, hT, hK, (S_length, S_sentences, S_at, S_units, S_text, S_verbs, S_numbers), hP, hM)) := by
  refine Sem.mk (lv := [(0, .ref (eA E 20)), (1, .int a0)]) (by decide) (Nat.le_of_ble_eq_true rfl) rfl ?_
  rw [f_X4_verb] at hf
  refine r_iload_n dX4_verb_0 1 rfl ?_
  refine r_if_lt (tgt := 27) dX4_verb_1 (by decide) (fun c1 => ?_) (fun c1 => ?_)
  · have hf := hf_pos c1 hf
    refine r_bipush (v := 12) dX4_verb_27 (by decide) ?_
    have e9 := Option.some.inj hf
    subst e9
    exact r_iret rfl dX4_verb_29
  · have hf := hf_neg c1 hf
    refine r_iload_n dX4_verb_4 1 rfl ?_
    refine r_aload_n dX4_verb_5 0 rfl ?_
    refine r_get (v := .int S_sentences) in_X4 20 ga_S rfl 4 (by decide) wd_180 rfl rfl dX4_verb_6 ?_
    refine r_icmp_ge (tgt := 27) dX4_verb_9 (by decide) (fun c2 => ?_) (fun c2 => ?_)
    · have hf := hf_pos c2 hf
      refine r_bipush (v := 12) dX4_verb_27 (by decide) ?_
      have e9 := Option.some.inj hf
      subst e9
      exact r_iret rfl dX4_verb_29
    · have hf := hf_neg c2 hf
      refine r_iload_n dX4_verb_12 1 rfl ?_
      refine r_bipush (v := 30) dX4_verb_13 (by decide) ?_
      refine r_icmp_ge (tgt := 27) dX4_verb_15 (by decide) (fun c3 => ?_) (fun c3 => ?_)
      · have hf := hf_pos c3 hf
        refine r_bipush (v := 12) dX4_verb_27 (by decide) ?_
        have e9 := Option.some.inj hf
        subst e9
        exact r_iret rfl dX4_verb_29
      · have hf := hf_neg c3 hf
        refine r_aload_n dX4_verb_18 0 rfl ?_
        refine r_get (v := .ref (eA E 22)) in_X4 20 ga_S rfl 1 (by decide) wd_176 rfl rfl dX4_verb_19 ?_
        refine r_iload_n dX4_verb_22 1 rfl ?_
        obtain ⟨i4, hf⟩ := hf_in hf
        refine r_iald (f := S_verbs) 22 ga_S_verbs i4 dX4_verb_23 ?_
        refine r_goto (tgt := 29) dX4_verb_24 (by decide) ?_
        have e9 := Option.some.inj hf
        subst e9
        exact r_iret rfl dX4_verb_29
-- DuelSamples$Script.number
def f_X4_number (S_numbers : Nat → Int32) (a0 : Int32) (a1 : Int32) : Option (Int32) := if ((a0 * 5) + a1) < 0 then some 0 else if 150 ≤ ((a0 * 5) + a1) then some 0 else if inB ((a0 * 5) + a1) 150 then some (S_numbers (Int32.toNatClampNeg ((a0 * 5) + a1))) else none
theorem hy_X4_number : yX4_number.cls ≠ "java/lang/invoke/MethodHandle" ∧ yX4_number.cls ≠ "java/lang/invoke/VarHandle" ∧ (parseMethodDescriptor yX4_number.desc).map (fun d => d.parameters.length) = some 2 := by decide +kernel
set_option maxHeartbeats 4000000 in
set_option maxRecDepth 100000 in
theorem s_X4_number {E : EN} {hX : TX} {hR : TR} {hL : TC} {hT : TC} {hK : TK} {hP : TP} {hM : TM} {S_length : Int32} {S_sentences : Int32} {S_at : Int32} {S_units : Int32} {S_text : Nat → Int32} {S_verbs : Nat → Int32} {S_numbers : Nat → Int32} {a0 : Int32} {a1 : Int32} {qR : Int32} (hf : f_X4_number S_numbers a0 a1 = some qR) : Sem E yX4_number cX4_number 4 (some .int) 1 [.ref (eA E 20), .int a0, .int a1] (hX, hR, hL, hT, hK, (S_length, S_sentences, S_at, S_units, S_text, S_verbs, S_numbers), hP, hM) (some (.int qR), (hX, hR, hL, hT, hK, (S_length, S_sentences, S_at, S_units, S_text, S_verbs, S_numbers), hP, hM)) := by
  refine Sem.mk (lv := [(0, .ref (eA E 20)), (1, .int a0), (2, .int a1)]) (by decide) (Nat.le_of_ble_eq_true rfl) rfl ?_
  rw [f_X4_number] at hf
  refine r_iload_n dX4_number_0 1 rfl ?_
  refine r_iconst (v := 5) dX4_number_1 (by decide) ?_
  refine r_imul dX4_number_2 ?_
  refine r_iload_n dX4_number_3 2 rfl ?_
  refine r_iadd dX4_number_4 ?_
  refine r_istore_n (lv2 := [(3, .int ((a0 * 5) + a1)), (0, .ref (eA E 20)), (1, .int a0), (2, .int a1)]) dX4_number_5 rfl (by decide) rfl ?_
  refine r_iload_n dX4_number_6 0 rfl ?_
  refine r_if_lt (tgt := 28) dX4_number_7 (by decide) (fun c1 => ?_) (fun c1 => ?_)
  · have hf := hf_pos c1 hf
    refine r_iconst (v := 0) dX4_number_28 (by decide) ?_
    have e9 := Option.some.inj hf
    subst e9
    exact r_iret rfl dX4_number_29
  · have hf := hf_neg c1 hf
    refine r_iload_n dX4_number_10 0 rfl ?_
    refine r_aload_n dX4_number_11 1 rfl ?_
    refine r_get (v := .ref (eA E 23)) in_X4 20 ga_S rfl 2 (by decide) wd_177 rfl rfl dX4_number_12 ?_
    refine r_alen (v := 150) 23 0 ga_S_numbers rfl rfl dX4_number_15 ?_
    refine r_icmp_ge (tgt := 28) dX4_number_16 (by decide) (fun c2 => ?_) (fun c2 => ?_)
    · have hf := hf_pos c2 hf
      refine r_iconst (v := 0) dX4_number_28 (by decide) ?_
      have e9 := Option.some.inj hf
      subst e9
      exact r_iret rfl dX4_number_29
    · have hf := hf_neg c2 hf
      refine r_aload_n dX4_number_19 1 rfl ?_
      refine r_get (v := .ref (eA E 23)) in_X4 20 ga_S rfl 2 (by decide) wd_177 rfl rfl dX4_number_20 ?_
      refine r_iload_n dX4_number_23 0 rfl ?_
      obtain ⟨i3, hf⟩ := hf_in hf
      refine r_iald (f := S_numbers) 23 ga_S_numbers i3 dX4_number_24 ?_
      refine r_goto (tgt := 29) dX4_number_25 (by decide) ?_
      have e9 := Option.some.inj hf
      subst e9
      exact r_iret rfl dX4_number_29
