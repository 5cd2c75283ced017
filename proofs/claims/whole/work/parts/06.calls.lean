/-! CALLS, by contract -/
theorem GoodL {l : List Cond} (h : ∀ w ∈ l, w ∈ TG) : GoodIn TG l := fun w hw => ⟨h w hw, TG_good (h w hw)⟩
/-- the receiver's cell -/
def Rc (E : EN) (h : Hp) (b : Nat) (C : String) : Prop := ∀ (s : State) (H : Heap) (locs : List Loc), St E s s.heap → va_P (eD E) classes (wl E h) H → va_S (fA E) s.heap H locs → ∃ cell : Cell, H[b]? = some cell ∧ cell.vm.isStatics = false ∧ s.vm.findClass C = some cell.cls
theorem Rc.obj {E : EN} {h : Hp} {b ci : Nat} {C : String} {T : u_T} {N : Nat} {fs : List Value} (q0 : Nat) (he : (wl E h)[q0]? = some (b, .inr (ci, fs))) (hc : classes[ci]? = some (C, T, N)) : Rc E h b C := fun s H locs hSt hP hS => va_recv hSt.1 hP hc he
theorem Rc.str {E : EN} {h : Hp} {i : Nat} (hi : i < 14) : Rc E h (eK E i) "java/lang/String" := fun s H locs hSt hP hS => vk_recv hSt.2.2.2.2.2.1 hi hS
section
variable {E : EN} {y : MethodName} {cc : ByteArray} {nL : Nat} {ret : Option FieldType} {d : Nat} {res : Option Value × Hp} {pc : Nat} {lv : List (Nat × Value)} {st st0 : List Value} {h h2 : Hp} {r : Option Value}
variable {y2 : MethodName} {cc2 : ByteArray} {nL2 d2 index b : Nat} {ret2 : Option FieldType} {As : List Value}
theorem Wa_run {p : Program} {e : Env} {s : State} {m : MethodId} {args : Array Value} {below : List Frame} {meth : Method} {c : Code} {H : Heap} {locs : List Loc} {ls : Array Slot} {a : Array Value} (X : Wx E y cc nL ret p s m args meth c H locs ls lv h)
    (hr : va_Run p (eL E) e (rmd d) s m args below meth c H locs 0 0 0 0 (F0 m pc ls st0) st (Qr E (r, h2) a) (fA E)) (k : Wa E y cc nL ret d res (pc + 3) lv (r.toList ++ st) h2) :
    W p (eL E) e (rmd d) s m args below meth c H locs 0 0 (MQ below (Qr E res) args s 0 0 (fA E)) (F0 m pc ls st0) := by
  obtain ⟨hC, hSt, hP, hS, hl⟩ := X
  intro T hT XT
  obtain ⟨v, st₀, t, T', L, h0, X', hL, e1, e2, ⟨hv, hP2, hz, hk⟩, go⟩ := hr T hT XT
  have hv : v = r := by cases hv; rfl
  subst hv
  rw [h0] at hz hk
  obtain ⟨t2, a1, b1⟩ := k p e s m args below meth c t.heap (locs ++ L) ls ⟨hC, hSt, hP2, ⟨Nat.le_trans hS.1 hz, fun q h1 h2 => by rw [hk q (Nat.lt_of_lt_of_le h1 hS.1) h2]; exact hS.2.1 q h1 h2, fun q hq => by
      rcases List.mem_append.mp hq with h | h
      · exact hS.2.2 q h
      · exact hL q h⟩, hl⟩ T' e1 X'
  exact ⟨t2, go t2 a1, b1⟩
theorem Wx.pre {p : Program} {s : State} {m : MethodId} {args : Array Value} {meth : Method} {c : Code} {H : Heap} {locs : List Loc} {ls : Array Slot} {av : List Value} (X : Wx E y cc nL ret p s m args meth c H locs ls lv h) : ∀ U : State, U.heap = H → s.WarmedH U.vm → Pr E av h av.toArray U := by
  obtain ⟨hC, hSt, hP, hS, hl⟩ := X
  intro U hU hW
  subst hU
  exact ⟨rfl, (hSt.kept hS.2.1).warm hW, hP⟩
theorem rm_ok {d d2 n : Nat} (hd : d2 < d) (hn : n ≤ 45) : (rmd d2).frames + 1 ≤ (rmd d).frames ∧ 8 + (n + 11) + (rmd d2).locals ≤ (rmd d).locals := by
  refine ⟨hd, ?_⟩
  show 8 + (n + 11) + 64 * d2 ≤ 64 * d
  omega
theorem r_callV (hM : Sem E y2 cc2 nL2 ret2 d2 (.ref b :: As) h (r, h2)) (hd : d2 < d) (hn : nL2 ≤ 45) (w1 : Cond.methodLink y.cls index y2 ∈ TG) (w2 : Cond.instanceMethod y2 ∈ TG) (w3 : Cond.selects y2.cls y2 y2 ∈ TG) (w4 : Cond.initialized y2.cls ∈ TG) (w5 : Cond.code y2 cc2 nL2 ret2 ∈ TG)
    (hy : y2.cls ≠ "java/lang/invoke/MethodHandle" ∧ y2.cls ≠ "java/lang/invoke/VarHandle" ∧ (parseMethodDescriptor y2.desc).map (fun d => d.parameters.length) = some As.length) (hrc : Rc E h b y2.cls) (hst : st0 = As.reverse ++ .ref b :: st) (hcat : (st.map fun v => v.category).sum ≤ 8) (hdg : decode cc pc = .ok (.invokevirtual index, 3))
    (k : Wa E y cc nL ret d res (pc + 3) lv (r.toList ++ st) h2) : Wa E y cc nL ret d res pc lv st0 h := by
  intro p e s m args below meth c H locs ls X
  obtain ⟨⟨hx, hb, hr, hml, hown, hts, hlk⟩, hSt, hP, hS, hl⟩ := id X
  subst hst
  have hG : GoodIn TG (wsV y.cls index y2.cls y2 (wsM y2 cc2 nL2 ret2)) := GoodL (fun w hw => by
    rcases List.mem_append.mp hw with hw | hw
    · simp only [List.mem_cons, List.not_mem_nil, or_false] at hw
      rcases hw with rfl | rfl | rfl | rfl
      · exact w1
      · exact w2
      · exact w3
      · exact w4
    · rcases List.mem_cons.mp hw with rfl | hw
      · exact w5
      · exact hw)
  exact Wa_run X (va_runV (As := As) (rest := st) ⟨hx, hb, hml, hown, hts⟩ hM (cwV As.length hts hG rfl rfl rfl ⟨rfl, hy⟩ (rm_ok hd hn)) ⟨Pr_blind E _ h, hrc s H locs hSt hP hS, X.pre⟩ rfl rfl hl.1 rfl (lv_room hcat) hdg ⟨Nat.le_refl _, Nat.le_refl _⟩) k
theorem r_callS (hM : Sem E y2 cc2 nL2 ret2 d2 As h (r, h2)) (hd : d2 < d) (hn : nL2 ≤ 45) (w1 : Cond.methodLink y.cls index y2 ∈ TG) (w2 : Cond.static y2 ∈ TG) (w4 : Cond.initialized y2.cls ∈ TG) (w5 : Cond.code y2 cc2 nL2 ret2 ∈ TG)
    (hy : y2.cls ≠ "java/lang/invoke/MethodHandle" ∧ y2.cls ≠ "java/lang/invoke/VarHandle" ∧ (parseMethodDescriptor y2.desc).map (fun d => d.parameters.length) = some As.length) (hst : st0 = As.reverse ++ st) (hcat : (st.map fun v => v.category).sum ≤ 8) (hdg : decode cc pc = .ok (.invokestatic index, 3))
    (k : Wa E y cc nL ret d res (pc + 3) lv (r.toList ++ st) h2) : Wa E y cc nL ret d res pc lv st0 h := by
  intro p e s m args below meth c H locs ls X
  obtain ⟨⟨hx, hb, hr, hml, hown, hts, hlk⟩, hSt, hP, hS, hl⟩ := id X
  subst hst
  have hG : GoodIn TG (va_wsS y.cls index y2 (wsM y2 cc2 nL2 ret2)) := GoodL (fun w hw => by
    rcases List.mem_append.mp hw with hw | hw
    · simp only [List.mem_cons, List.not_mem_nil, or_false] at hw
      rcases hw with rfl | rfl | rfl
      · exact w1
      · exact w2
      · exact w4
    · rcases List.mem_cons.mp hw with rfl | hw
      · exact w5
      · exact hw)
  exact Wa_run X (va_runS (As := As) (rest := st) ⟨hx, hb, hml, hown, hts⟩ hM (va_cwS As.length hts hG rfl rfl rfl hy (rm_ok hd hn)) ⟨Pr_blind E _ h, X.pre⟩ rfl rfl hl.1 rfl (lv_room hcat) hdg ⟨Nat.le_refl _, Nat.le_refl _⟩) k
theorem r_callSN {host : String} (hM : Sem E y2 cc2 nL2 ret2 d2 As h (r, h2)) (hd : d2 < d) (hn : nL2 ≤ 45) (w1 : Cond.methodLinkNest y.cls index y2 host ∈ NW) (w2 : Cond.static y2 ∈ TG) (w4 : Cond.initialized y2.cls ∈ TG) (w5 : Cond.code y2 cc2 nL2 ret2 ∈ TG)
    (hy : y2.cls ≠ "java/lang/invoke/MethodHandle" ∧ y2.cls ≠ "java/lang/invoke/VarHandle" ∧ (parseMethodDescriptor y2.desc).map (fun d => d.parameters.length) = some As.length) (hst : st0 = As.reverse ++ st) (hcat : (st.map fun v => v.category).sum ≤ 8) (hdg : decode cc pc = .ok (.invokestatic index, 3))
    (k : Wa E y cc nL ret d res (pc + 3) lv (r.toList ++ st) h2) : Wa E y cc nL ret d res pc lv st0 h := by
  intro p e s m args below meth c H locs ls X
  obtain ⟨⟨hx, hb, hr, hml, hown, hts, hlk⟩, hSt, hP, hS, hl⟩ := id X
  subst hst
  have hG : GoodIn TG (wsM y2 cc2 nL2 ret2) := GoodL (fun w hw => by
    rcases List.mem_cons.mp hw with rfl | hw
    · exact w5
    · exact hw)
  exact Wa_run X (va_runSN (As := As) (rest := st) ⟨hx, hb, hml, hown, hts⟩ hM ⟨va_cnB As.length hts hG rfl rfl rfl (hSt.2.2.1 _ w1) (hts _ w4) hy (rm_ok hd hn), hts _ w2, trivial⟩ ⟨Pr_blind E _ h, X.pre⟩ rfl rfl hl.1 rfl (lv_room hcat) hdg ⟨Nat.le_refl _, Nat.le_refl _⟩) k
theorem r_mmax {a b : Int32} (w1 : Cond.methodLink y.cls index Lib.Math.max.name ∈ TG) (w2 : Cond.static Lib.Math.max.name ∈ TG) (w4 : Cond.initialized "java/lang/Math" ∈ TG) (w5 : Cond.code Lib.Math.max.name Lib.Math.max.code 2 (some .int) ∈ TG) (hd : 0 < d) (hcat : (st.map fun v => v.category).sum ≤ 8) (hdg : decode cc pc = .ok (.invokestatic index, 3))
    (k : Wa E y cc nL ret d res (pc + 3) lv (.int (if a < b then b else a) :: st) h) : Wa E y cc nL ret d res pc lv (.int b :: .int a :: st) h := by
  intro p e s m args below meth c H locs ls X
  obtain ⟨⟨hx, hb, hr, hml, hown, hts, hlk⟩, hSt, hP, hS, hl⟩ := id X
  exact va_mmax (R := rmd d) hx hb (hml.trans hl.1.symm) hown (hts _ w1) (hts _ w2) (hts _ w4) (hts _ w5) hd (by show _ + _ ≤ 64 * d; omega) (Nat.zero_le _) (Nat.zero_le _) hdg (k p e s m args below meth c H locs ls X)
theorem r_mmin {a b : Int32} (w1 : Cond.methodLink y.cls index Lib.Math.min.name ∈ TG) (w2 : Cond.static Lib.Math.min.name ∈ TG) (w4 : Cond.initialized "java/lang/Math" ∈ TG) (w5 : Cond.code Lib.Math.min.name Lib.Math.min.code 2 (some .int) ∈ TG) (hd : 0 < d) (hcat : (st.map fun v => v.category).sum ≤ 8) (hdg : decode cc pc = .ok (.invokestatic index, 3))
    (k : Wa E y cc nL ret d res (pc + 3) lv (.int (if b < a then b else a) :: st) h) : Wa E y cc nL ret d res pc lv (.int b :: .int a :: st) h := by
  intro p e s m args below meth c H locs ls X
  obtain ⟨⟨hx, hb, hr, hml, hown, hts, hlk⟩, hSt, hP, hS, hl⟩ := id X
  exact va_mmin (R := rmd d) hx hb (hml.trans hl.1.symm) hown (hts _ w1) (hts _ w2) (hts _ w4) (hts _ w5) hd (by show _ + _ ≤ 64 * d; omega) (Nat.zero_le _) (Nat.zero_le _) hdg (k p e s m args below meth c H locs ls X)
theorem r_mabs {a : Int32} (w1 : Cond.methodLink y.cls index Lib.Math.abs.name ∈ TG) (w2 : Cond.static Lib.Math.abs.name ∈ TG) (w4 : Cond.initialized "java/lang/Math" ∈ TG) (w5 : Cond.code Lib.Math.abs.name Lib.Math.abs.code 1 (some .int) ∈ TG) (hd : 0 < d) (hcat : (st.map fun v => v.category).sum ≤ 8) (hdg : decode cc pc = .ok (.invokestatic index, 3))
    (k : Wa E y cc nL ret d res (pc + 3) lv (.int (if 0 ≤ a then a else 0 - a) :: st) h) : Wa E y cc nL ret d res pc lv (.int a :: st) h := by
  intro p e s m args below meth c H locs ls X
  obtain ⟨⟨hx, hb, hr, hml, hown, hts, hlk⟩, hSt, hP, hS, hl⟩ := id X
  exact va_mabs (R := rmd d) hx hb (hml.trans hl.1.symm) hown (hts _ w1) (hts _ w2) (hts _ w4) (hts _ w5) hd (by show _ + _ ≤ 64 * d; omega) (Nat.zero_le _) (Nat.zero_le _) hdg (k p e s m args below meth c H locs ls X)
theorem r_mmin_long {a b : Int64} (w1 : Cond.methodLink y.cls index Lib.MathLoose.min_long.x ∈ TG) (w2 : Cond.static Lib.MathLoose.min_long.x ∈ TG) (w4 : Cond.initialized "java/lang/Math" ∈ TG) (w5 : Cond.code Lib.MathLoose.min_long.x Lib.MathLoose.min_long.code 4 (some .long) ∈ TG) (hd : 0 < d) (hcat : (st.map fun v => v.category).sum ≤ 8) (hdg : decode cc pc = .ok (.invokestatic index, 3))
    (k : Wa E y cc nL ret d res (pc + 3) lv (.long (if b < a then b else a) :: st) h) : Wa E y cc nL ret d res pc lv (.long b :: .long a :: st) h := by
  intro p e s m args below meth c H locs ls X
  obtain ⟨⟨hx, hb, hr, hml, hown, hts, hlk⟩, hSt, hP, hS, hl⟩ := id X
  exact va_mmin_long (R := rmd d) hx hb (hml.trans hl.1.symm) hown (hts _ w1) (hts _ w2) (hts _ w4) (hts _ w5) hd (by show _ + _ ≤ 64 * d; omega) (Nat.zero_le _) (Nat.zero_le _) hdg (k p e s m args below meth c H locs ls X)
theorem r_mabs_long {a : Int64} (w1 : Cond.methodLink y.cls index Lib.MathLoose.abs_long.x ∈ TG) (w2 : Cond.static Lib.MathLoose.abs_long.x ∈ TG) (w4 : Cond.initialized "java/lang/Math" ∈ TG) (w5 : Cond.code Lib.MathLoose.abs_long.x Lib.MathLoose.abs_long.code 2 (some .long) ∈ TG) (hd : 0 < d) (hcat : (st.map fun v => v.category).sum ≤ 8) (hdg : decode cc pc = .ok (.invokestatic index, 3))
    (k : Wa E y cc nL ret d res (pc + 3) lv (.long (if 0 < a then a else -a) :: st) h) : Wa E y cc nL ret d res pc lv (.long a :: st) h := by
  intro p e s m args below meth c H locs ls X
  obtain ⟨⟨hx, hb, hr, hml, hown, hts, hlk⟩, hSt, hP, hS, hl⟩ := id X
  exact va_mabs_long (R := rmd d) hx hb (hml.trans hl.1.symm) hown (hts _ w1) (hts _ w2) (hts _ w4) (hts _ w5) hd (by show _ + _ ≤ 64 * d; omega) (Nat.zero_le _) (Nat.zero_le _) hdg (k p e s m args below meth c H locs ls X)
end
