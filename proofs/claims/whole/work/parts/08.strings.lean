section
variable {E : EN} {y : MethodName} {cc : ByteArray} {nL : Nat} {ret : Option FieldType} {d : Nat} {res : Option Value × Hp} {pc : Nat} {lv : List (Nat × Value)} {st : List Value} {h : Hp}
theorem r_cstr {index : Nat} (hlink : Cond.fieldLink y.cls index "java/lang/String" "COMPACT_STRINGS" "Z" ∈ TG) (hdg : decode cc pc = .ok (.getstatic index, 3)) (k : Wa E y cc nL ret d res (pc + 3) lv (.int 1 :: st) h) : Wa E y cc nL ret d res pc lv st h := by
  intro p e s m args below meth c H locs ls X
  obtain ⟨⟨hx, hb, hr, hml, hown, hts, hlk⟩, hSt, hP, hS, hl⟩ := id X
  exact va_gets hx hb hSt.2.2.2.2.2.2.2.1 hS hown (hts _ hlink) (fun x q => q) hdg (k p e s m args below meth c H locs ls X)
theorem r_sio {index : Nat} (hlink : Cond.fieldLink y.cls index "jdk/internal/util/Preconditions" "SIOOBE_FORMATTER" "Ljava/util/function/BiFunction;" ∈ TG) (hdg : decode cc pc = .ok (.getstatic index, 3)) (k1 : Wa E y cc nL ret d res (pc + 3) lv (.null :: st) h) (k2 : ∀ t : Nat, Wa E y cc nL ret d res (pc + 3) lv (.ref t :: st) h) : Wa E y cc nL ret d res pc lv st h := by
  intro p e s m args below meth c H locs ls X
  obtain ⟨⟨hx, hb, hr, hml, hown, hts, hlk⟩, hSt, hP, hS, hl⟩ := id X
  rcases hSt.2.2.2.2.2.2.2.2 with hz | ⟨t, hz⟩
  · exact va_gets hx hb hz hS hown (hts _ hlink) (fun x q => q) hdg (k1 p e s m args below meth c H locs ls X)
  · exact va_gets hx hb hz hS hown (hts _ hlink) (fun x q => q) hdg (k2 t p e s m args below meth c H locs ls X)
theorem r_scoder {index w : Nat} (hi : w < 14) (hlink : Cond.fieldLink y.cls index "java/lang/String" "coder" "B" ∈ TG) (hdg : decode cc pc = .ok (.getfield index, 3)) (k : Wa E y cc nL ret d res (pc + 3) lv (.int 0 :: st) h) : Wa E y cc nL ret d res pc lv (.ref (eK E w) :: st) h := by
  intro p e s m args below meth c H locs ls X
  obtain ⟨⟨hx, hb, hr, hml, hown, hts, hlk⟩, hSt, hP, hS, hl⟩ := id X
  exact vk_getf hx hb (hSt.2.2.2.2.2.1.1 w hi).2.1 hS hown (hts _ hlink) (fun x q => q) hdg (k p e s m args below meth c H locs ls X)
theorem r_svalue {index w : Nat} (hi : w < 14) (hlink : Cond.fieldLink y.cls index "java/lang/String" "value" "[B" ∈ TG) (hdg : decode cc pc = .ok (.getfield index, 3)) (k : Wa E y cc nL ret d res (pc + 3) lv (.ref (eV E w) :: st) h) : Wa E y cc nL ret d res pc lv (.ref (eK E w) :: st) h := by
  intro p e s m args below meth c H locs ls X
  obtain ⟨⟨hx, hb, hr, hml, hown, hts, hlk⟩, hSt, hP, hS, hl⟩ := id X
  exact vk_getf hx hb (hSt.2.2.2.2.2.1.1 w hi).2.2.1 hS hown (hts _ hlink) (fun x q => q) hdg (k p e s m args below meth c H locs ls X)
theorem r_svlen {w : Nat} (hi : w < 14) (hdg : decode cc pc = .ok (.arraylength, 1)) (k : Wa E y cc nL ret d res (pc + 1) lv (.int (Int32.ofNat (sLn.getD w 0)) :: st) h) : Wa E y cc nL ret d res pc lv (.ref (eV E w) :: st) h := by
  intro p e s m args below meth c H locs ls X
  obtain ⟨⟨hx, hb, hr, hml, hown, hts, hlk⟩, hSt, hP, hS, hl⟩ := id X
  exact va_tlen hx hb (hSt.2.2.2.2.2.1.1 w hi).2.2.2 hS rfl hdg (k p e s m args below meth c H locs ls X)
theorem r_svld {w : Nat} {i : Int32} (hi : w < 14) (hin : vp_in i (sLn.getD w 0)) (hdg : decode cc pc = .ok (.baload, 1)) (k : Wa E y cc nL ret d res (pc + 1) lv (.int ((sBy.getD w []).getD i.toNatClampNeg 0) :: st) h) : Wa E y cc nL ret d res pc lv (.int i :: .ref (eV E w) :: st) h := by
  intro p e s m args below meth c H locs ls X
  obtain ⟨⟨hx, hb, hr, hml, hown, hts, hlk⟩, hSt, hP, hS, hl⟩ := id X
  exact va_tb hx hb (hSt.2.2.2.2.2.1.1 w hi).2.2.2 hS hin rfl hdg (k p e s m args below meth c H locs ls X)
end
theorem hy_J0_coder_7d493 : yJ0_coder_7d493.cls ≠ "java/lang/invoke/MethodHandle" ∧ yJ0_coder_7d493.cls ≠ "java/lang/invoke/VarHandle" ∧ (parseMethodDescriptor yJ0_coder_7d493.desc).map (fun d => d.parameters.length) = some 0 := by decide +kernel
theorem hy_J0_isLatin1_aae02 : yJ0_isLatin1_aae02.cls ≠ "java/lang/invoke/MethodHandle" ∧ yJ0_isLatin1_aae02.cls ≠ "java/lang/invoke/VarHandle" ∧ (parseMethodDescriptor yJ0_isLatin1_aae02.desc).map (fun d => d.parameters.length) = some 0 := by decide +kernel
theorem hy_J0_checkIndex_df160 : yJ0_checkIndex_df160.cls ≠ "java/lang/invoke/MethodHandle" ∧ yJ0_checkIndex_df160.cls ≠ "java/lang/invoke/VarHandle" ∧ (parseMethodDescriptor yJ0_checkIndex_df160.desc).map (fun d => d.parameters.length) = some 2 := by decide +kernel
theorem hy_J3_checkIndex_8e157 : yJ3_checkIndex_8e157.cls ≠ "java/lang/invoke/MethodHandle" ∧ yJ3_checkIndex_8e157.cls ≠ "java/lang/invoke/VarHandle" ∧ (parseMethodDescriptor yJ3_checkIndex_8e157.desc).map (fun d => d.parameters.length) = some 3 := by decide +kernel
theorem hy_J1_charAt_3b067 : yJ1_charAt_3b067.cls ≠ "java/lang/invoke/MethodHandle" ∧ yJ1_charAt_3b067.cls ≠ "java/lang/invoke/VarHandle" ∧ (parseMethodDescriptor yJ1_charAt_3b067.desc).map (fun d => d.parameters.length) = some 2 := by decide +kernel
theorem hy_J0_length_8abf5 : yJ0_length_8abf5.cls ≠ "java/lang/invoke/MethodHandle" ∧ yJ0_length_8abf5.cls ≠ "java/lang/invoke/VarHandle" ∧ (parseMethodDescriptor yJ0_length_8abf5.desc).map (fun d => d.parameters.length) = some 0 := by decide +kernel
theorem hy_J0_charAt_5068e : yJ0_charAt_5068e.cls ≠ "java/lang/invoke/MethodHandle" ∧ yJ0_charAt_5068e.cls ≠ "java/lang/invoke/VarHandle" ∧ (parseMethodDescriptor yJ0_charAt_5068e.desc).map (fun d => d.parameters.length) = some 1 := by decide +kernel
theorem s_J0_coder_7d493 {E : EN} {h : Hp} {w : Nat} (hi : w < 14) : Sem E yJ0_coder_7d493 cJ0_coder_7d493 1 (some .byte) 1 [.ref (eK E w)] h (some (.int 0), h) := by
  refine Sem.mk (lv := [(0, .ref (eK E w))]) (by decide) (Nat.le_of_ble_eq_true rfl) rfl ?_
  refine r_cstr wd_649 dJ0_coder_7d493_0 ?_
  refine r_if_eq (tgt := 13) dJ0_coder_7d493_3 (by decide) (fun c => absurd c (by decide)) (fun c => ?_)
  refine r_aload_n dJ0_coder_7d493_6 0 rfl ?_
  refine r_scoder hi wd_1161 dJ0_coder_7d493_7 ?_
  refine r_goto (tgt := 14) dJ0_coder_7d493_10 (by decide) ?_
  exact r_zret rfl rfl dJ0_coder_7d493_14
theorem s_J0_isLatin1_aae02 {E : EN} {h : Hp} {w : Nat} (hi : w < 14) : Sem E yJ0_isLatin1_aae02 cJ0_isLatin1_aae02 1 (some .boolean) 1 [.ref (eK E w)] h (some (.int 1), h) := by
  refine Sem.mk (lv := [(0, .ref (eK E w))]) (by decide) (Nat.le_of_ble_eq_true rfl) rfl ?_
  refine r_cstr wd_649 dJ0_isLatin1_aae02_0 ?_
  refine r_if_eq (tgt := 17) dJ0_isLatin1_aae02_3 (by decide) (fun c => absurd c (by decide)) (fun c => ?_)
  refine r_aload_n dJ0_isLatin1_aae02_6 0 rfl ?_
  refine r_scoder hi wd_1161 dJ0_isLatin1_aae02_7 ?_
  refine r_if_ne (tgt := 17) dJ0_isLatin1_aae02_10 (by decide) (fun c => absurd rfl c) (fun c => ?_)
  refine r_iconst (v := 1) dJ0_isLatin1_aae02_13 (by decide) ?_
  refine r_goto (tgt := 18) dJ0_isLatin1_aae02_14 (by decide) ?_
  exact r_zret rfl rfl dJ0_isLatin1_aae02_18
def f_J0_length_8abf5 (w : Nat) : Option Int32 := if w < 14 then some (Int32.ofNat (sLn.getD w 0) >>> (0 &&& 31)) else none
theorem J0_length_8abf5_lt {w : Nat} {q9 : Int32} (hf : f_J0_length_8abf5 w = some q9) : w < 14 ∧ Int32.ofNat (sLn.getD w 0) >>> (0 &&& 31) = q9 := by
  rw [f_J0_length_8abf5] at hf
  by_cases hc : w < 14
  · exact ⟨hc, Option.some.inj (hf_pos hc hf)⟩
  · have hf := hf_neg hc hf
    cases hf
theorem s_J0_length_8abf5 {E : EN} {h : Hp} {w : Nat} {q9 : Int32} (hf : f_J0_length_8abf5 w = some q9) : Sem E yJ0_length_8abf5 cJ0_length_8abf5 1 (some .int) 2 [.ref (eK E w)] h (some (.int q9), h) := by
  obtain ⟨hi, e9⟩ := J0_length_8abf5_lt hf
  subst e9
  refine Sem.mk (lv := [(0, .ref (eK E w))]) (by decide) (Nat.le_of_ble_eq_true rfl) rfl ?_
  refine r_aload_n dJ0_length_8abf5_0 0 rfl ?_
  refine r_svalue hi wd_1160 dJ0_length_8abf5_1 ?_
  refine r_svlen hi dJ0_length_8abf5_4 ?_
  refine r_aload_n dJ0_length_8abf5_5 0 rfl ?_
  refine r_callVi (As := []) (b := (eK E w)) (st := [.int (Int32.ofNat (sLn.getD w 0))]) (s_J0_coder_7d493 hi) (by decide) (by decide) wd_645 wd_646 wd_647 wd_79 wd_648 hy_J0_coder_7d493 (Rc.str hi) rfl (Nat.le_of_ble_eq_true rfl) dJ0_length_8abf5_6 ?_
  refine r_ishr dJ0_length_8abf5_9 ?_
  exact r_iret rfl dJ0_length_8abf5_10
theorem s_J3_checkIndex_8e157_n {E : EN} {h : Hp} {i n : Int32} (h1 : ¬ i < 0) (h2 : i < n) : Sem E yJ3_checkIndex_8e157 cJ3_checkIndex_8e157 3 (some .int) 1 [.int i, .int n, .null] h (some (.int i), h) := by
  refine Sem.mk (lv := [(0, .int i), (1, .int n), (2, .null)]) (by decide) (Nat.le_of_ble_eq_true rfl) rfl ?_
  refine r_iload_n dJ3_checkIndex_8e157_0 0 rfl ?_
  refine r_if_lt (tgt := 9) dJ3_checkIndex_8e157_1 (by decide) (fun c => absurd c h1) (fun c => ?_)
  refine r_iload_n dJ3_checkIndex_8e157_4 0 rfl ?_
  refine r_iload_n dJ3_checkIndex_8e157_5 1 rfl ?_
  refine r_icmp_lt (tgt := 16) dJ3_checkIndex_8e157_6 (by decide) (fun c => ?_) (fun c => absurd h2 c)
  refine r_iload_n dJ3_checkIndex_8e157_16 0 rfl ?_
  exact r_iret rfl dJ3_checkIndex_8e157_17
theorem s_J3_checkIndex_8e157_r {E : EN} {h : Hp} {t : Nat} {i n : Int32} (h1 : ¬ i < 0) (h2 : i < n) : Sem E yJ3_checkIndex_8e157 cJ3_checkIndex_8e157 3 (some .int) 1 [.int i, .int n, (.ref t)] h (some (.int i), h) := by
  refine Sem.mk (lv := [(0, .int i), (1, .int n), (2, (.ref t))]) (by decide) (Nat.le_of_ble_eq_true rfl) rfl ?_
  refine r_iload_n dJ3_checkIndex_8e157_0 0 rfl ?_
  refine r_if_lt (tgt := 9) dJ3_checkIndex_8e157_1 (by decide) (fun c => absurd c h1) (fun c => ?_)
  refine r_iload_n dJ3_checkIndex_8e157_4 0 rfl ?_
  refine r_iload_n dJ3_checkIndex_8e157_5 1 rfl ?_
  refine r_icmp_lt (tgt := 16) dJ3_checkIndex_8e157_6 (by decide) (fun c => ?_) (fun c => absurd h2 c)
  refine r_iload_n dJ3_checkIndex_8e157_16 0 rfl ?_
  exact r_iret rfl dJ3_checkIndex_8e157_17
theorem s_J0_checkIndex_df160 {E : EN} {h : Hp} {i n : Int32} (h1 : ¬ i < 0) (h2 : i < n) : Sem E yJ0_checkIndex_df160 cJ0_checkIndex_df160 2 none 2 [.int i, .int n] h (none, h) := by
  refine Sem.mk (lv := [(0, .int i), (1, .int n)]) (by decide) (Nat.le_of_ble_eq_true rfl) rfl ?_
  refine r_iload_n dJ0_checkIndex_df160_0 0 rfl ?_
  refine r_iload_n dJ0_checkIndex_df160_1 1 rfl ?_
  refine r_sio wd_665 dJ0_checkIndex_df160_2 ?_ (fun t => ?_)
  · refine r_callSi (As := [.int i, .int n, .null]) (st := []) (s_J3_checkIndex_8e157_n h1 h2) (by decide) (by decide) wd_667 wd_668 wd_81 wd_669 hy_J3_checkIndex_8e157 rfl (Nat.le_of_ble_eq_true rfl) dJ0_checkIndex_df160_5 ?_
    refine r_pop dJ0_checkIndex_df160_8 rfl ?_
    exact r_vret rfl dJ0_checkIndex_df160_9
  · refine r_callSi (As := [.int i, .int n, .ref t]) (st := []) (s_J3_checkIndex_8e157_r h1 h2) (by decide) (by decide) wd_667 wd_668 wd_81 wd_669 hy_J3_checkIndex_8e157 rfl (Nat.le_of_ble_eq_true rfl) dJ0_checkIndex_df160_5 ?_
    refine r_pop dJ0_checkIndex_df160_8 rfl ?_
    exact r_vret rfl dJ0_checkIndex_df160_9
def chS (w : Nat) (i : Int32) : Int32 := (((((sBy.getD w []).getD i.toNatClampNeg 0) &&& 255).toUInt32) % 65536).toInt32
theorem sLn_lt {w : Nat} : sLn.getD w 0 < 2 ^ 31 := by
  by_cases hw : w < 14
  · have h : ∀ w, w < 14 → sLn.getD w 0 < 2 ^ 31 := by decide +kernel
    exact h w hw
  · have h : sLn.length = 14 := by decide +kernel
    rw [List.getD_eq_getElem?_getD, List.getElem?_eq_none (by omega)]
    decide
theorem s_J1_charAt_3b067 {E : EN} {h : Hp} {w : Nat} {i : Int32} (hi : w < 14) (hin : vp_in i (sLn.getD w 0)) : Sem E yJ1_charAt_3b067 cJ1_charAt_3b067 2 (some .char) 3 [.ref (eV E w), .int i] h (some (.int (chS w i)), h) := by
  have h1 : ¬ i < 0 := fun q => hin (Or.inl q)
  have h2 : i < Int32.ofNat (sLn.getD w 0) := by
    obtain ⟨j, hj, rfl⟩ := vp_in_of hin sLn_lt
    exact nI_lt hj sLn_lt
  refine Sem.mk (lv := [(0, .ref (eV E w)), (1, .int i)]) (by decide) (Nat.le_of_ble_eq_true rfl) rfl ?_
  refine r_iload_n dJ1_charAt_3b067_0 1 rfl ?_
  refine r_aload_n dJ1_charAt_3b067_1 0 rfl ?_
  refine r_svlen hi dJ1_charAt_3b067_2 ?_
  refine r_callSv (As := [.int i, .int (Int32.ofNat (sLn.getD w 0))]) (st := []) (s_J0_checkIndex_df160 h1 h2) (by decide) (by decide) wd_662 wd_663 wd_79 wd_664 hy_J0_checkIndex_df160 rfl (Nat.le_of_ble_eq_true rfl) dJ1_charAt_3b067_3 ?_
  refine r_aload_n dJ1_charAt_3b067_6 0 rfl ?_
  refine r_iload_n dJ1_charAt_3b067_7 1 rfl ?_
  refine r_svld hi hin dJ1_charAt_3b067_8 ?_
  refine r_sipush (v := 255) dJ1_charAt_3b067_9 (by decide) ?_
  refine r_iand dJ1_charAt_3b067_12 ?_
  refine r_i2c dJ1_charAt_3b067_13 ?_
  exact r_zret rfl (pk_nc _) dJ1_charAt_3b067_14
def f_J0_charAt_5068e (w : Nat) (a0 : Int32) : Option Int32 := if w < 14 then if inB a0 (sLn.getD w 0) then some (chS w a0) else none else none
theorem J0_charAt_5068e_ok {w : Nat} {a0 q9 : Int32} (hf : f_J0_charAt_5068e w a0 = some q9) : w < 14 ∧ vp_in a0 (sLn.getD w 0) ∧ chS w a0 = q9 := by
  rw [f_J0_charAt_5068e] at hf
  by_cases hc : w < 14
  · obtain ⟨h1, h2⟩ := hf_in (hf_pos hc hf)
    exact ⟨hc, h1, Option.some.inj h2⟩
  · have hf := hf_neg hc hf
    cases hf
theorem J0_charAt_5068e_lt {w : Nat} {a0 q9 : Int32} (hf : f_J0_charAt_5068e w a0 = some q9) : w < 14 := (J0_charAt_5068e_ok hf).1
theorem s_J0_charAt_5068e {E : EN} {h : Hp} {w : Nat} {a0 q9 : Int32} (hf : f_J0_charAt_5068e w a0 = some q9) : Sem E yJ0_charAt_5068e cJ0_charAt_5068e 2 (some .char) 4 [.ref (eK E w), .int a0] h (some (.int q9), h) := by
  obtain ⟨hi, hin, e9⟩ := J0_charAt_5068e_ok hf
  subst e9
  refine Sem.mk (lv := [(0, .ref (eK E w)), (1, .int a0)]) (by decide) (Nat.le_of_ble_eq_true rfl) rfl ?_
  refine r_aload_n dJ0_charAt_5068e_0 0 rfl ?_
  refine r_callVi (As := []) (b := (eK E w)) (st := []) (s_J0_isLatin1_aae02 hi) (by decide) (by decide) wd_655 wd_656 wd_657 wd_79 wd_658 hy_J0_isLatin1_aae02 (Rc.str hi) rfl (Nat.le_of_ble_eq_true rfl) dJ0_charAt_5068e_1 ?_
  refine r_if_eq (tgt := 16) dJ0_charAt_5068e_4 (by decide) (fun c => absurd c (by decide)) (fun c => ?_)
  refine r_aload_n dJ0_charAt_5068e_7 0 rfl ?_
  refine r_svalue hi wd_1160 dJ0_charAt_5068e_8 ?_
  refine r_iload_n dJ0_charAt_5068e_11 1 rfl ?_
  refine r_callSi (As := [.ref (eV E w), .int a0]) (st := []) (s_J1_charAt_3b067 hi hin) (by decide) (by decide) wd_659 wd_660 wd_80 wd_661 hy_J1_charAt_3b067 rfl (Nat.le_of_ble_eq_true rfl) dJ0_charAt_5068e_12 ?_
  exact r_zret rfl (pk_nc _) dJ0_charAt_5068e_15
theorem J0_length_8abf5_lt9 {w : Nat} {q9 : Int32} (hf : f_J0_length_8abf5 w = some q9) : w < 14 := (J0_length_8abf5_lt hf).1
theorem J0_charAt_5068e_lt9 {w : Nat} {a0 q9 : Int32} (hf : f_J0_charAt_5068e w a0 = some q9) : w < 14 := (J0_charAt_5068e_ok hf).1
