section
variable {E : EN} {y : MethodName} {cc : ByteArray} {nL : Nat} {ret : Option FieldType} {d : Nat} {res : Option Value × Hp} {pc : Nat} {lv : List (Nat × Value)} {st st0 : List Value} {h h2 : Hp}
variable {y2 : MethodName} {cc2 : ByteArray} {nL2 d2 index b : Nat} {ret2 : Option FieldType} {As : List Value}
theorem r_callVi {x : Int32} (hM : Sem E y2 cc2 nL2 ret2 d2 (.ref b :: As) h (some (.int x), h2)) (hd : d2 < d) (hn : nL2 ≤ 45) (w1 : Cond.methodLink y.cls index y2 ∈ TG) (w2 : Cond.instanceMethod y2 ∈ TG) (w3 : Cond.selects y2.cls y2 y2 ∈ TG) (w4 : Cond.initialized y2.cls ∈ TG) (w5 : Cond.code y2 cc2 nL2 ret2 ∈ TG) (hy : y2.cls ≠ "java/lang/invoke/MethodHandle" ∧ y2.cls ≠ "java/lang/invoke/VarHandle" ∧ (parseMethodDescriptor y2.desc).map (fun d => d.parameters.length) = some As.length) (hrc : Rc E h b y2.cls) (hst : st0 = As.reverse ++ .ref b :: st) (hcat : (st.map fun v => v.category).sum ≤ 8) (hdg : decode cc pc = .ok (.invokevirtual index, 3)) (k : Wa E y cc nL ret d res (pc + 3) lv (.int x :: st) h2) : Wa E y cc nL ret d res pc lv st0 h := r_callV hM hd hn w1 w2 w3 w4 w5 hy hrc hst hcat hdg k
theorem r_callSi {x : Int32} (hM : Sem E y2 cc2 nL2 ret2 d2 As h (some (.int x), h2)) (hd : d2 < d) (hn : nL2 ≤ 45) (w1 : Cond.methodLink y.cls index y2 ∈ TG) (w2 : Cond.static y2 ∈ TG) (w4 : Cond.initialized y2.cls ∈ TG) (w5 : Cond.code y2 cc2 nL2 ret2 ∈ TG) (hy : y2.cls ≠ "java/lang/invoke/MethodHandle" ∧ y2.cls ≠ "java/lang/invoke/VarHandle" ∧ (parseMethodDescriptor y2.desc).map (fun d => d.parameters.length) = some As.length) (hst : st0 = As.reverse ++ st) (hcat : (st.map fun v => v.category).sum ≤ 8) (hdg : decode cc pc = .ok (.invokestatic index, 3)) (k : Wa E y cc nL ret d res (pc + 3) lv (.int x :: st) h2) : Wa E y cc nL ret d res pc lv st0 h := r_callS hM hd hn w1 w2 w4 w5 hy hst hcat hdg k
theorem r_callSNi {host : String} {x : Int32} (hM : Sem E y2 cc2 nL2 ret2 d2 As h (some (.int x), h2)) (hd : d2 < d) (hn : nL2 ≤ 45) (w1 : Cond.methodLinkNest y.cls index y2 host ∈ NW) (w2 : Cond.static y2 ∈ TG) (w4 : Cond.initialized y2.cls ∈ TG) (w5 : Cond.code y2 cc2 nL2 ret2 ∈ TG) (hy : y2.cls ≠ "java/lang/invoke/MethodHandle" ∧ y2.cls ≠ "java/lang/invoke/VarHandle" ∧ (parseMethodDescriptor y2.desc).map (fun d => d.parameters.length) = some As.length) (hst : st0 = As.reverse ++ st) (hcat : (st.map fun v => v.category).sum ≤ 8) (hdg : decode cc pc = .ok (.invokestatic index, 3)) (k : Wa E y cc nL ret d res (pc + 3) lv (.int x :: st) h2) : Wa E y cc nL ret d res pc lv st0 h := r_callSN hM hd hn w1 w2 w4 w5 hy hst hcat hdg k
theorem r_callVl {x : Int64} (hM : Sem E y2 cc2 nL2 ret2 d2 (.ref b :: As) h (some (.long x), h2)) (hd : d2 < d) (hn : nL2 ≤ 45) (w1 : Cond.methodLink y.cls index y2 ∈ TG) (w2 : Cond.instanceMethod y2 ∈ TG) (w3 : Cond.selects y2.cls y2 y2 ∈ TG) (w4 : Cond.initialized y2.cls ∈ TG) (w5 : Cond.code y2 cc2 nL2 ret2 ∈ TG) (hy : y2.cls ≠ "java/lang/invoke/MethodHandle" ∧ y2.cls ≠ "java/lang/invoke/VarHandle" ∧ (parseMethodDescriptor y2.desc).map (fun d => d.parameters.length) = some As.length) (hrc : Rc E h b y2.cls) (hst : st0 = As.reverse ++ .ref b :: st) (hcat : (st.map fun v => v.category).sum ≤ 8) (hdg : decode cc pc = .ok (.invokevirtual index, 3)) (k : Wa E y cc nL ret d res (pc + 3) lv (.long x :: st) h2) : Wa E y cc nL ret d res pc lv st0 h := r_callV hM hd hn w1 w2 w3 w4 w5 hy hrc hst hcat hdg k
theorem r_callSl {x : Int64} (hM : Sem E y2 cc2 nL2 ret2 d2 As h (some (.long x), h2)) (hd : d2 < d) (hn : nL2 ≤ 45) (w1 : Cond.methodLink y.cls index y2 ∈ TG) (w2 : Cond.static y2 ∈ TG) (w4 : Cond.initialized y2.cls ∈ TG) (w5 : Cond.code y2 cc2 nL2 ret2 ∈ TG) (hy : y2.cls ≠ "java/lang/invoke/MethodHandle" ∧ y2.cls ≠ "java/lang/invoke/VarHandle" ∧ (parseMethodDescriptor y2.desc).map (fun d => d.parameters.length) = some As.length) (hst : st0 = As.reverse ++ st) (hcat : (st.map fun v => v.category).sum ≤ 8) (hdg : decode cc pc = .ok (.invokestatic index, 3)) (k : Wa E y cc nL ret d res (pc + 3) lv (.long x :: st) h2) : Wa E y cc nL ret d res pc lv st0 h := r_callS hM hd hn w1 w2 w4 w5 hy hst hcat hdg k
theorem r_callSNl {host : String} {x : Int64} (hM : Sem E y2 cc2 nL2 ret2 d2 As h (some (.long x), h2)) (hd : d2 < d) (hn : nL2 ≤ 45) (w1 : Cond.methodLinkNest y.cls index y2 host ∈ NW) (w2 : Cond.static y2 ∈ TG) (w4 : Cond.initialized y2.cls ∈ TG) (w5 : Cond.code y2 cc2 nL2 ret2 ∈ TG) (hy : y2.cls ≠ "java/lang/invoke/MethodHandle" ∧ y2.cls ≠ "java/lang/invoke/VarHandle" ∧ (parseMethodDescriptor y2.desc).map (fun d => d.parameters.length) = some As.length) (hst : st0 = As.reverse ++ st) (hcat : (st.map fun v => v.category).sum ≤ 8) (hdg : decode cc pc = .ok (.invokestatic index, 3)) (k : Wa E y cc nL ret d res (pc + 3) lv (.long x :: st) h2) : Wa E y cc nL ret d res pc lv st0 h := r_callSN hM hd hn w1 w2 w4 w5 hy hst hcat hdg k
theorem r_callVv  (hM : Sem E y2 cc2 nL2 ret2 d2 (.ref b :: As) h (none, h2)) (hd : d2 < d) (hn : nL2 ≤ 45) (w1 : Cond.methodLink y.cls index y2 ∈ TG) (w2 : Cond.instanceMethod y2 ∈ TG) (w3 : Cond.selects y2.cls y2 y2 ∈ TG) (w4 : Cond.initialized y2.cls ∈ TG) (w5 : Cond.code y2 cc2 nL2 ret2 ∈ TG) (hy : y2.cls ≠ "java/lang/invoke/MethodHandle" ∧ y2.cls ≠ "java/lang/invoke/VarHandle" ∧ (parseMethodDescriptor y2.desc).map (fun d => d.parameters.length) = some As.length) (hrc : Rc E h b y2.cls) (hst : st0 = As.reverse ++ .ref b :: st) (hcat : (st.map fun v => v.category).sum ≤ 8) (hdg : decode cc pc = .ok (.invokevirtual index, 3)) (k : Wa E y cc nL ret d res (pc + 3) lv (st) h2) : Wa E y cc nL ret d res pc lv st0 h := r_callV hM hd hn w1 w2 w3 w4 w5 hy hrc hst hcat hdg k
theorem r_callSv  (hM : Sem E y2 cc2 nL2 ret2 d2 As h (none, h2)) (hd : d2 < d) (hn : nL2 ≤ 45) (w1 : Cond.methodLink y.cls index y2 ∈ TG) (w2 : Cond.static y2 ∈ TG) (w4 : Cond.initialized y2.cls ∈ TG) (w5 : Cond.code y2 cc2 nL2 ret2 ∈ TG) (hy : y2.cls ≠ "java/lang/invoke/MethodHandle" ∧ y2.cls ≠ "java/lang/invoke/VarHandle" ∧ (parseMethodDescriptor y2.desc).map (fun d => d.parameters.length) = some As.length) (hst : st0 = As.reverse ++ st) (hcat : (st.map fun v => v.category).sum ≤ 8) (hdg : decode cc pc = .ok (.invokestatic index, 3)) (k : Wa E y cc nL ret d res (pc + 3) lv (st) h2) : Wa E y cc nL ret d res pc lv st0 h := r_callS hM hd hn w1 w2 w4 w5 hy hst hcat hdg k
theorem r_callSNv {host : String}  (hM : Sem E y2 cc2 nL2 ret2 d2 As h (none, h2)) (hd : d2 < d) (hn : nL2 ≤ 45) (w1 : Cond.methodLinkNest y.cls index y2 host ∈ NW) (w2 : Cond.static y2 ∈ TG) (w4 : Cond.initialized y2.cls ∈ TG) (w5 : Cond.code y2 cc2 nL2 ret2 ∈ TG) (hy : y2.cls ≠ "java/lang/invoke/MethodHandle" ∧ y2.cls ≠ "java/lang/invoke/VarHandle" ∧ (parseMethodDescriptor y2.desc).map (fun d => d.parameters.length) = some As.length) (hst : st0 = As.reverse ++ st) (hcat : (st.map fun v => v.category).sum ≤ 8) (hdg : decode cc pc = .ok (.invokestatic index, 3)) (k : Wa E y cc nL ret d res (pc + 3) lv (st) h2) : Wa E y cc nL ret d res pc lv st0 h := r_callSN hM hd hn w1 w2 w4 w5 hy hst hcat hdg k
theorem r_callVa {x : Nat} (hM : Sem E y2 cc2 nL2 ret2 d2 (.ref b :: As) h (some (.ref x), h2)) (hd : d2 < d) (hn : nL2 ≤ 45) (w1 : Cond.methodLink y.cls index y2 ∈ TG) (w2 : Cond.instanceMethod y2 ∈ TG) (w3 : Cond.selects y2.cls y2 y2 ∈ TG) (w4 : Cond.initialized y2.cls ∈ TG) (w5 : Cond.code y2 cc2 nL2 ret2 ∈ TG) (hy : y2.cls ≠ "java/lang/invoke/MethodHandle" ∧ y2.cls ≠ "java/lang/invoke/VarHandle" ∧ (parseMethodDescriptor y2.desc).map (fun d => d.parameters.length) = some As.length) (hrc : Rc E h b y2.cls) (hst : st0 = As.reverse ++ .ref b :: st) (hcat : (st.map fun v => v.category).sum ≤ 8) (hdg : decode cc pc = .ok (.invokevirtual index, 3)) (k : Wa E y cc nL ret d res (pc + 3) lv (.ref x :: st) h2) : Wa E y cc nL ret d res pc lv st0 h := r_callV hM hd hn w1 w2 w3 w4 w5 hy hrc hst hcat hdg k
theorem r_callSa {x : Nat} (hM : Sem E y2 cc2 nL2 ret2 d2 As h (some (.ref x), h2)) (hd : d2 < d) (hn : nL2 ≤ 45) (w1 : Cond.methodLink y.cls index y2 ∈ TG) (w2 : Cond.static y2 ∈ TG) (w4 : Cond.initialized y2.cls ∈ TG) (w5 : Cond.code y2 cc2 nL2 ret2 ∈ TG) (hy : y2.cls ≠ "java/lang/invoke/MethodHandle" ∧ y2.cls ≠ "java/lang/invoke/VarHandle" ∧ (parseMethodDescriptor y2.desc).map (fun d => d.parameters.length) = some As.length) (hst : st0 = As.reverse ++ st) (hcat : (st.map fun v => v.category).sum ≤ 8) (hdg : decode cc pc = .ok (.invokestatic index, 3)) (k : Wa E y cc nL ret d res (pc + 3) lv (.ref x :: st) h2) : Wa E y cc nL ret d res pc lv st0 h := r_callS hM hd hn w1 w2 w4 w5 hy hst hcat hdg k
theorem r_callSNa {host : String} {x : Nat} (hM : Sem E y2 cc2 nL2 ret2 d2 As h (some (.ref x), h2)) (hd : d2 < d) (hn : nL2 ≤ 45) (w1 : Cond.methodLinkNest y.cls index y2 host ∈ NW) (w2 : Cond.static y2 ∈ TG) (w4 : Cond.initialized y2.cls ∈ TG) (w5 : Cond.code y2 cc2 nL2 ret2 ∈ TG) (hy : y2.cls ≠ "java/lang/invoke/MethodHandle" ∧ y2.cls ≠ "java/lang/invoke/VarHandle" ∧ (parseMethodDescriptor y2.desc).map (fun d => d.parameters.length) = some As.length) (hst : st0 = As.reverse ++ st) (hcat : (st.map fun v => v.category).sum ≤ 8) (hdg : decode cc pc = .ok (.invokestatic index, 3)) (k : Wa E y cc nL ret d res (pc + 3) lv (.ref x :: st) h2) : Wa E y cc nL ret d res pc lv st0 h := r_callSN hM hd hn w1 w2 w4 w5 hy hst hcat hdg k
theorem r_tswi {dflt lo hi : Int} {offs : Array Int} {len : Nat} {x k9 : Int32} {off : Int} {tgt : Nat} (hdg : decode cc pc = .ok (.tableswitch dflt lo hi offs, len)) (hk : x = k9) (h1 : ¬ k9.toInt < lo) (h2 : ¬ hi < k9.toInt) (ho : offs[(k9.toInt - lo).toNat]? = some off) (ht : (pc : Int) + off = (tgt : Int)) (k : Wa E y cc nL ret d res tgt lv st h) : Wa E y cc nL ret d res pc lv (.int x :: st) h := by
  subst hk
  intro p e s m args below meth c H locs ls X
  obtain ⟨⟨hx, hb, hr, hml, hown, hts, hlk⟩, hSt, hP, hS, hl⟩ := id X
  exact lv_tableIn hx hb hdg h1 h2 ho ht (k p e s m args below meth c H locs ls X)
theorem r_tswo {dflt lo hi : Int} {offs : Array Int} {len : Nat} {x : Int32} {tgt : Nat} (hdg : decode cc pc = .ok (.tableswitch dflt lo hi offs, len)) (ho : x.toInt < lo ∨ hi < x.toInt) (ht : (pc : Int) + dflt = (tgt : Int)) (k : Wa E y cc nL ret d res tgt lv st h) : Wa E y cc nL ret d res pc lv (.int x :: st) h := by
  intro p e s m args below meth c H locs ls X
  obtain ⟨⟨hx, hb, hr, hml, hown, hts, hlk⟩, hSt, hP, hS, hl⟩ := id X
  exact lv_tableOut hx hb hdg ho ht (k p e s m args below meth c H locs ls X)
theorem r_rowld2 {X : TX} {a b : Int32} {F : Nat → Nat → Int32} {r : TC × TC × TK × TS × TP × TM} {i u : Int32} (hi : vp_in i 5) (hu : vp_in u 12) (hdg : decode cc pc = .ok (.iaload, 1)) (k : Wa E y cc nL ret d res (pc + 1) lv (.int (F i.toNatClampNeg u.toNatClampNeg) :: st) (X, (a, b, F), r)) : Wa E y cc nL ret d res pc lv (.int u :: .ref (eA E (3 + i.toNatClampNeg)) :: st) (X, (a, b, F), r) := r_rowld hi hu hdg k
end
theorem tsw_ne {x : Int32} {k : Int32} {n : Int} (h : ¬ x = k) (hk : k.toInt = n) : ¬ x.toInt = n := fun q => h (Int32.toInt_inj.mp (by rw [hk]; exact q))
theorem pfI : parseFieldDescriptor "I" = some .int := by decide +kernel
theorem narB {x : Int32} (h : x = 0 ∨ x = 1) : narrow .boolean (.int x) = .int x := by
  rcases h with rfl | rfl <;> rfl
def FU : Nat := 5000
theorem tsw_out0_2 {x : Int32} (h0 : ¬ x = 0) (h1 : ¬ x = 1) (h2 : ¬ x = 2) : x.toInt < 0 ∨ 2 < x.toInt := by
  have g0 := tsw_ne (n := 0) h0 (by decide)
  have g1 := tsw_ne (n := 1) h1 (by decide)
  have g2 := tsw_ne (n := 2) h2 (by decide)
  omega
theorem tsw_out1_4 {x : Int32} (h1 : ¬ x = 1) (h2 : ¬ x = 2) (h3 : ¬ x = 3) (h4 : ¬ x = 4) : x.toInt < 1 ∨ 4 < x.toInt := by
  have g1 := tsw_ne (n := 1) h1 (by decide)
  have g2 := tsw_ne (n := 2) h2 (by decide)
  have g3 := tsw_ne (n := 3) h3 (by decide)
  have g4 := tsw_ne (n := 4) h4 (by decide)
  omega
theorem tsw_out0_12 {x : Int32} (h0 : ¬ x = 0) (h1 : ¬ x = 1) (h2 : ¬ x = 2) (h3 : ¬ x = 3) (h4 : ¬ x = 4) (h5 : ¬ x = 5) (h6 : ¬ x = 6) (h7 : ¬ x = 7) (h8 : ¬ x = 8) (h9 : ¬ x = 9) (h10 : ¬ x = 10) (h11 : ¬ x = 11) (h12 : ¬ x = 12) : x.toInt < 0 ∨ 12 < x.toInt := by
  have g0 := tsw_ne (n := 0) h0 (by decide)
  have g1 := tsw_ne (n := 1) h1 (by decide)
  have g2 := tsw_ne (n := 2) h2 (by decide)
  have g3 := tsw_ne (n := 3) h3 (by decide)
  have g4 := tsw_ne (n := 4) h4 (by decide)
  have g5 := tsw_ne (n := 5) h5 (by decide)
  have g6 := tsw_ne (n := 6) h6 (by decide)
  have g7 := tsw_ne (n := 7) h7 (by decide)
  have g8 := tsw_ne (n := 8) h8 (by decide)
  have g9 := tsw_ne (n := 9) h9 (by decide)
  have g10 := tsw_ne (n := 10) h10 (by decide)
  have g11 := tsw_ne (n := 11) h11 (by decide)
  have g12 := tsw_ne (n := 12) h12 (by decide)
  omega
theorem tsw_out0_3 {x : Int32} (h0 : ¬ x = 0) (h1 : ¬ x = 1) (h2 : ¬ x = 2) (h3 : ¬ x = 3) : x.toInt < 0 ∨ 3 < x.toInt := by
  have g0 := tsw_ne (n := 0) h0 (by decide)
  have g1 := tsw_ne (n := 1) h1 (by decide)
  have g2 := tsw_ne (n := 2) h2 (by decide)
  have g3 := tsw_ne (n := 3) h3 (by decide)
  omega
theorem tsw_out0_5 {x : Int32} (h0 : ¬ x = 0) (h1 : ¬ x = 1) (h2 : ¬ x = 2) (h3 : ¬ x = 3) (h4 : ¬ x = 4) (h5 : ¬ x = 5) : x.toInt < 0 ∨ 5 < x.toInt := by
  have g0 := tsw_ne (n := 0) h0 (by decide)
  have g1 := tsw_ne (n := 1) h1 (by decide)
  have g2 := tsw_ne (n := 2) h2 (by decide)
  have g3 := tsw_ne (n := 3) h3 (by decide)
  have g4 := tsw_ne (n := 4) h4 (by decide)
  have g5 := tsw_ne (n := 5) h5 (by decide)
  omega
theorem tsw_out0_11 {x : Int32} (h0 : ¬ x = 0) (h1 : ¬ x = 1) (h2 : ¬ x = 2) (h3 : ¬ x = 3) (h4 : ¬ x = 4) (h5 : ¬ x = 5) (h6 : ¬ x = 6) (h7 : ¬ x = 7) (h8 : ¬ x = 8) (h9 : ¬ x = 9) (h10 : ¬ x = 10) (h11 : ¬ x = 11) : x.toInt < 0 ∨ 11 < x.toInt := by
  have g0 := tsw_ne (n := 0) h0 (by decide)
  have g1 := tsw_ne (n := 1) h1 (by decide)
  have g2 := tsw_ne (n := 2) h2 (by decide)
  have g3 := tsw_ne (n := 3) h3 (by decide)
  have g4 := tsw_ne (n := 4) h4 (by decide)
  have g5 := tsw_ne (n := 5) h5 (by decide)
  have g6 := tsw_ne (n := 6) h6 (by decide)
  have g7 := tsw_ne (n := 7) h7 (by decide)
  have g8 := tsw_ne (n := 8) h8 (by decide)
  have g9 := tsw_ne (n := 9) h9 (by decide)
  have g10 := tsw_ne (n := 10) h10 (by decide)
  have g11 := tsw_ne (n := 11) h11 (by decide)
  omega
theorem tsw_out0_25 {x : Int32} (h0 : ¬ x = 0) (h1 : ¬ x = 1) (h2 : ¬ x = 2) (h3 : ¬ x = 3) (h4 : ¬ x = 4) (h5 : ¬ x = 5) (h6 : ¬ x = 6) (h7 : ¬ x = 7) (h8 : ¬ x = 8) (h9 : ¬ x = 9) (h10 : ¬ x = 10) (h11 : ¬ x = 11) (h12 : ¬ x = 12) (h13 : ¬ x = 13) (h14 : ¬ x = 14) (h15 : ¬ x = 15) (h16 : ¬ x = 16) (h17 : ¬ x = 17) (h18 : ¬ x = 18) (h19 : ¬ x = 19) (h20 : ¬ x = 20) (h21 : ¬ x = 21) (h22 : ¬ x = 22) (h23 : ¬ x = 23) (h24 : ¬ x = 24) (h25 : ¬ x = 25) : x.toInt < 0 ∨ 25 < x.toInt := by
  have g0 := tsw_ne (n := 0) h0 (by decide)
  have g1 := tsw_ne (n := 1) h1 (by decide)
  have g2 := tsw_ne (n := 2) h2 (by decide)
  have g3 := tsw_ne (n := 3) h3 (by decide)
  have g4 := tsw_ne (n := 4) h4 (by decide)
  have g5 := tsw_ne (n := 5) h5 (by decide)
  have g6 := tsw_ne (n := 6) h6 (by decide)
  have g7 := tsw_ne (n := 7) h7 (by decide)
  have g8 := tsw_ne (n := 8) h8 (by decide)
  have g9 := tsw_ne (n := 9) h9 (by decide)
  have g10 := tsw_ne (n := 10) h10 (by decide)
  have g11 := tsw_ne (n := 11) h11 (by decide)
  have g12 := tsw_ne (n := 12) h12 (by decide)
  have g13 := tsw_ne (n := 13) h13 (by decide)
  have g14 := tsw_ne (n := 14) h14 (by decide)
  have g15 := tsw_ne (n := 15) h15 (by decide)
  have g16 := tsw_ne (n := 16) h16 (by decide)
  have g17 := tsw_ne (n := 17) h17 (by decide)
  have g18 := tsw_ne (n := 18) h18 (by decide)
  have g19 := tsw_ne (n := 19) h19 (by decide)
  have g20 := tsw_ne (n := 20) h20 (by decide)
  have g21 := tsw_ne (n := 21) h21 (by decide)
  have g22 := tsw_ne (n := 22) h22 (by decide)
  have g23 := tsw_ne (n := 23) h23 (by decide)
  have g24 := tsw_ne (n := 24) h24 (by decide)
  have g25 := tsw_ne (n := 25) h25 (by decide)
  omega
