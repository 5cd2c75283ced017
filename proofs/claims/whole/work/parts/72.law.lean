def R_law : String := "DuelSamplesLaw"
def lw_P (b : Addr) (xs : List Int32) (args : Array Value) (s : State) : Prop := args = #[.ref b] ∧ s.IntsAt b xs ∧ xs.length ≤ 3072 ∧ (Jvm.Cond.and given_1 narrow_1).before args s = true
def lw_Q (_ : Array Value) (s : State) (o : Outcome) (t : State) : Prop := o = .returned (some (.int 1)) ∧ Framed s o t [] 600000 7302250
def lw_Z (below : List Frame) (a : Array Value) (s : State) : State → Prop := fun t => ∃ o, t.status = .running ∧ Ended t below o ∧ lw_Q a s o t
/-- the law's own end, with 1 on the stack, nothing written that was there before, its room as the claim has it -/
theorem lw_ret {p : Program} {l : Launch} {e : Env} {s : State} {m : MethodId} {below : List Frame} {meth : Method} {c : Code} {b : Nat} (hx : p.tables.exec = Jvm.exec) (hb : c.code = code) (hr : meth.sig.returnType = ret) (hlocks : meth.locks = false) {pc : Nat} {H : Heap} {ls : Array Slot} (hdg : decode code pc = .ok (.ireturn, 1)) : W p l e room_1 s m #[Value.ref b] below meth c H [] 600000 7302250 (lw_Z below #[Value.ref b] s) (F0 m pc ls [.int 1]) := by
  intro T hT X
  obtain ⟨fs, hret, hrun, hended, hW, hframe⟩ := X.leave (v := some (.int 1)) (hlocks := hlocks) (fun h => by rw [hr] at h; cases h)
  have hmeth' : T.vm.method? m = some meth := X.method'
  refine ⟨T.setFrames fs, ?_, .returned (some (.int 1)), hrun, hended, rfl, ⟨_, rfl⟩, hW, hframe⟩
  jvm_step X.here [X.here.top, hx, hb, hdg, hmeth', hr, ret, narrow_b1]
  (try refine ⟨rfl, ?_⟩); (try refine ⟨rfl, ?_⟩)
  first | (intro acts; rw [hret _ acts rfl rfl rfl]) | rw [hret _ _ rfl rfl rfl]
  exact Steps.refl _
/-- what holds at the law's entry: the machine, the code, the tables' words (any of lw_tbl by 'hts w (by decide +kernel)'), the script of L ints xs at the cell b, what the Statement gives of the start (any of its parts by flat_of_before) -/
def lw_At (p : Program) (s : State) (m : MethodId) (meth : Method) (c : Code) (b L : Nat) (xs : Nat → Int32) : Prop :=
  p.tables.exec = Jvm.exec ∧ c.code = code ∧ meth.sig.returnType = ret ∧ c.maxLocals = 4 ∧ s.vm.findClass R_law = some m.cls ∧ (∀ w ∈ lw_tbl, w.before #[Value.ref b] s = true) ∧ va_X b L xs s s.heap ∧ b < s.heap.size ∧ meth.locks = false ∧ (Jvm.Cond.and given_1 narrow_1).before #[Value.ref b] s = true
/-! the law's own judgement: at pc, with locals lv and stack st, over the abstract heap h, the law comes to its end with true -/
def Lx (E : EN) (b L : Nat) (xs : Nat → Int32) (p : Program) (s : State) (m : MethodId) (meth : Method) (c : Code) (H : Heap) (locs : List Loc) (ls : Array Slot) (lv : List (Nat × Value)) (h : Hp) : Prop :=
  lw_At p s m meth c b L xs ∧ (St E s s.heap ∧ ∀ k : Nat, k < 36 → s.heap.size ≤ eA E k) ∧ va_P (eD E) classes (wl E h) H ∧ va_S (fA E) s.heap H locs ∧ lv_has ls 4 lv
def Lw (E : EN) (b L : Nat) (xs : Nat → Int32) (pc : Nat) (lv : List (Nat × Value)) (st : List Value) (h : Hp) : Prop :=
  ∀ (p : Program) (e : Env) (s : State) (m : MethodId) (below : List Frame) (meth : Method) (c : Code) (H : Heap) (locs : List Loc) (ls : Array Slot),
    Lx E b L xs p s m meth c H locs ls lv h → W p (eL E) e room_1 s m #[Value.ref b] below meth c H locs 600000 7302250 (lw_Z below #[Value.ref b] s) (F0 m pc ls st)
section
variable {E : EN} {b L : Nat} {xs : Nat → Int32} {pc : Nat} {lv lv2 : List (Nat × Value)} {st st0 : List Value} {h h2 : Hp}
theorem Lw.sub {lv' : List (Nat × Value)} (ks : List Nat) (hk : lv_pick lv ks = lv') (k : Lw E b L xs pc lv' st h) : Lw E b L xs pc lv st h :=
  fun p e s m below meth c H locs ls X => k p e s m below meth c H locs ls ⟨X.1, X.2.1, X.2.2.1, X.2.2.2.1, lv_sub X.2.2.2.2 ks hk⟩
theorem l_iconst {n : Int} {v : Int32} (hdg : decode code pc = .ok (.iconst n, 1)) (hv : Int32.ofInt n = v) (k : Lw E b L xs (pc + 1) lv (.int v :: st) h) : Lw E b L xs pc lv st h := by
  intro p e s m below meth c H locs ls X
  obtain ⟨⟨hx, hb, hr, hml, hown, hts, hX, hbl, hlk, hgv⟩, ⟨hSt, hA⟩, hP, hS, hl⟩ := id X
  exact lv_iconst hx hb hdg hv (k p e s m below meth c H locs ls X)
theorem l_bipush {n : Int} {v : Int32} (hdg : decode code pc = .ok (.bipush n, 2)) (hv : (Int8.ofInt n).toInt32 = v) (k : Lw E b L xs (pc + 2) lv (.int v :: st) h) : Lw E b L xs pc lv st h := by
  intro p e s m below meth c H locs ls X
  obtain ⟨⟨hx, hb, hr, hml, hown, hts, hX, hbl, hlk, hgv⟩, ⟨hSt, hA⟩, hP, hS, hl⟩ := id X
  exact lv_bipush hx hb hdg hv (k p e s m below meth c H locs ls X)
theorem l_iload_n {k9 : Fin 4} {x : Int32} (hdg : decode code pc = .ok (.iload_n k9, 1)) (j : Nat) (hv : lv[j]? = some ((k9 : Nat), .int x)) (k : Lw E b L xs (pc + 1) lv (.int x :: st) h) : Lw E b L xs pc lv st h := by
  intro p e s m below meth c H locs ls X
  obtain ⟨⟨hx, hb, hr, hml, hown, hts, hX, hbl, hlk, hgv⟩, ⟨hSt, hA⟩, hP, hS, hl⟩ := id X
  exact lv_iload_n hx hb hdg rfl (lv_at hl j hv) (k p e s m below meth c H locs ls X)
theorem l_aload_n {k9 : Fin 4} {x : Nat} (hdg : decode code pc = .ok (.aload_n k9, 1)) (j : Nat) (hv : lv[j]? = some ((k9 : Nat), .ref x)) (k : Lw E b L xs (pc + 1) lv (.ref x :: st) h) : Lw E b L xs pc lv st h := by
  intro p e s m below meth c H locs ls X
  obtain ⟨⟨hx, hb, hr, hml, hown, hts, hX, hbl, hlk, hgv⟩, ⟨hSt, hA⟩, hP, hS, hl⟩ := id X
  exact lv_aload_n hx hb hdg rfl (lv_at hl j hv) (k p e s m below meth c H locs ls X)
theorem l_iadd {a c9 : Int32} (hdg : decode code pc = .ok (.iadd, 1)) (k : Lw E b L xs (pc + 1) lv (.int (a + c9) :: st) h) : Lw E b L xs pc lv (.int c9 :: .int a :: st) h := by
  intro p e s m below meth c H locs ls X
  obtain ⟨⟨hx, hb, hr, hml, hown, hts, hX, hbl, hlk, hgv⟩, ⟨hSt, hA⟩, hP, hS, hl⟩ := id X
  exact lv_iadd hx hb hdg (k p e s m below meth c H locs ls X)
theorem l_isub {a c9 : Int32} (hdg : decode code pc = .ok (.isub, 1)) (k : Lw E b L xs (pc + 1) lv (.int (a - c9) :: st) h) : Lw E b L xs pc lv (.int c9 :: .int a :: st) h := by
  intro p e s m below meth c H locs ls X
  obtain ⟨⟨hx, hb, hr, hml, hown, hts, hX, hbl, hlk, hgv⟩, ⟨hSt, hA⟩, hP, hS, hl⟩ := id X
  exact lv_isub hx hb hdg (k p e s m below meth c H locs ls X)
theorem l_iand {a c9 : Int32} (hdg : decode code pc = .ok (.iand, 1)) (k : Lw E b L xs (pc + 1) lv (.int (a &&& c9) :: st) h) : Lw E b L xs pc lv (.int c9 :: .int a :: st) h := by
  intro p e s m below meth c H locs ls X
  obtain ⟨⟨hx, hb, hr, hml, hown, hts, hX, hbl, hlk, hgv⟩, ⟨hSt, hA⟩, hP, hS, hl⟩ := id X
  exact lv_iand hx hb hdg (k p e s m below meth c H locs ls X)
theorem l_lcmp {a c9 : Int64} (hdg : decode code pc = .ok (.lcmp, 1)) (k : Lw E b L xs (pc + 1) lv (.int (lg_cmp a c9) :: st) h) : Lw E b L xs pc lv (.long c9 :: .long a :: st) h := by
  intro p e s m below meth c H locs ls X
  obtain ⟨⟨hx, hb, hr, hml, hown, hts, hX, hbl, hlk, hgv⟩, ⟨hSt, hA⟩, hP, hS, hl⟩ := id X
  exact W.lcmp hx hb hdg (k p e s m below meth c H locs ls X)
theorem l_goto {off : Int} {tgt : Nat} (hdg : decode code pc = .ok (.goto off, 3)) (ht : (pc : Int) + off = (tgt : Int)) (k : Lw E b L xs tgt lv st h) : Lw E b L xs pc lv st h := by
  intro p e s m below meth c H locs ls X
  obtain ⟨⟨hx, hb, hr, hml, hown, hts, hX, hbl, hlk, hgv⟩, ⟨hSt, hA⟩, hP, hS, hl⟩ := id X
  exact lv_goto hx hb hdg ht (k p e s m below meth c H locs ls X)
theorem l_iinc {i9 : Nat} {n : Int} {x v : Int32} (hdg : decode code pc = .ok (.iinc i9 n, 3)) (j : Nat) (hk : lv[j]? = some (i9, .int x)) (hw : x + Int32.ofInt n = v) (hn : i9 < 4) (hv : (i9, Value.int v) :: lv.filter (fun q => !(q.1 == i9) && !(q.1 + 1 == i9 && q.2.category == 2)) = lv2) (k : Lw E b L xs (pc + 3) lv2 st h) : Lw E b L xs pc lv st h := by
  intro p e s m below meth c H locs ls X
  obtain ⟨⟨hx, hb, hr, hml, hown, hts, hX, hbl, hlk, hgv⟩, ⟨hSt, hA⟩, hP, hS, hl⟩ := id X
  exact lv_iinc hx hb hdg hl hk hw hn hv (fun ls hl => k p e s m below meth c H locs ls ⟨X.1, ⟨hSt, hA⟩, hP, hS, hl⟩)
theorem l_icmp_same {a : Int32} {off : Int} {tgt : Nat} (hdg : decode code pc = .ok (.if_icmp .eq off, 3)) (ht : (pc : Int) + off = (tgt : Int)) (k : Lw E b L xs tgt lv st h) : Lw E b L xs pc lv (.int a :: .int a :: st) h := by
  intro p e s m below meth c H locs ls X
  obtain ⟨⟨hx, hb, hr, hml, hown, hts, hX, hbl, hlk, hgv⟩, ⟨hSt, hA⟩, hP, hS, hl⟩ := id X
  exact lv_icmp_eq hx hb hdg ht (fun _ => k p e s m below meth c H locs ls X) (fun q => absurd rfl q)
theorem l_if_zero {a : Int32} {off : Int} {tgt : Nat} (hz : a = 0) (hdg : decode code pc = .ok (.ifCond .eq off, 3)) (ht : (pc : Int) + off = (tgt : Int)) (k : Lw E b L xs tgt lv st h) : Lw E b L xs pc lv (.int a :: st) h := by
  intro p e s m below meth c H locs ls X
  obtain ⟨⟨hx, hb, hr, hml, hown, hts, hX, hbl, hlk, hgv⟩, ⟨hSt, hA⟩, hP, hS, hl⟩ := id X
  exact lv_if_eq hx hb hdg ht (fun _ => k p e s m below meth c H locs ls X) (fun q => absurd hz q)
theorem l_tabIn {dflt lo hi : Int} {offs : Array Int} {len : Nat} {x : Int32} {off : Int} {tgt : Nat} (hdg : decode code pc = .ok (.tableswitch dflt lo hi offs, len)) (h1 : ¬ x.toInt < lo) (h2 : ¬ hi < x.toInt) (ho : offs[(x.toInt - lo).toNat]? = some off) (ht : (pc : Int) + off = (tgt : Int)) (k : Lw E b L xs tgt lv st h) : Lw E b L xs pc lv (.int x :: st) h := by
  intro p e s m below meth c H locs ls X
  obtain ⟨⟨hx, hb, hr, hml, hown, hts, hX, hbl, hlk, hgv⟩, ⟨hSt, hA⟩, hP, hS, hl⟩ := id X
  exact lv_tableIn hx hb hdg h1 h2 ho ht (k p e s m below meth c H locs ls X)
theorem l_tabOut {dflt lo hi : Int} {offs : Array Int} {len : Nat} {x : Int32} {tgt : Nat} (hdg : decode code pc = .ok (.tableswitch dflt lo hi offs, len)) (ho : x.toInt < lo ∨ hi < x.toInt) (ht : (pc : Int) + dflt = (tgt : Int)) (k : Lw E b L xs tgt lv st h) : Lw E b L xs pc lv (.int x :: st) h := by
  intro p e s m below meth c H locs ls X
  obtain ⟨⟨hx, hb, hr, hml, hown, hts, hX, hbl, hlk, hgv⟩, ⟨hSt, hA⟩, hP, hS, hl⟩ := id X
  exact lv_tableOut hx hb hdg ho ht (k p e s m below meth c H locs ls X)
theorem l_slen (hdg : decode code pc = .ok (.arraylength, 1)) (k : Lw E b L xs (pc + 1) lv (.int (Int32.ofNat L) :: st) h) : Lw E b L xs pc lv (.ref b :: st) h := by
  intro p e s m below meth c H locs ls X
  obtain ⟨⟨hx, hb, hr, hml, hown, hts, hX, hbl, hlk, hgv⟩, ⟨hSt, hA⟩, hP, hS, hl⟩ := id X
  exact va_slen hx hb hX hbl (show ¬ fA E b from fun q => by obtain ⟨k9, q1, q2⟩ := q; have q3 := hA k9 q1; rw [← q2] at q3; omega) hS hdg (k p e s m below meth c H locs ls X)
theorem l_sld {i : Int32} (hdg : decode code pc = .ok (.iaload, 1)) (hin : vp_in i L) (k : Lw E b L xs (pc + 1) lv (.int (xs i.toNatClampNeg) :: st) h) : Lw E b L xs pc lv (.int i :: .ref b :: st) h := by
  intro p e s m below meth c H locs ls X
  obtain ⟨⟨hx, hb, hr, hml, hown, hts, hX, hbl, hlk, hgv⟩, ⟨hSt, hA⟩, hP, hS, hl⟩ := id X
  exact va_sld hx hb hX hbl (show ¬ fA E b from fun q => by obtain ⟨k9, q1, q2⟩ := q; have q3 := hA k9 q1; rw [← q2] at q3; omega) hS hin hdg (k p e s m below meth c H locs ls X)
theorem l_icmp_gt {a c9 : Int32} {off : Int} {tgt : Nat} (hdg : decode code pc = .ok (.if_icmp .gt off, 3)) (ht : (pc : Int) + off = (tgt : Int)) (kt : c9 < a → Lw E b L xs tgt lv st h) (kf : ¬ (c9 < a) → Lw E b L xs (pc + 3) lv st h) : Lw E b L xs pc lv (.int c9 :: .int a :: st) h := by
  intro p e s m below meth c H locs ls X
  obtain ⟨⟨hx, hb, hr, hml, hown, hts, hX, hbl, hlk, hgv⟩, ⟨hSt, hA⟩, hP, hS, hl⟩ := id X
  exact lv_icmp_gt hx hb hdg ht (fun q => kt q p e s m below meth c H locs ls X) (fun q => kf q p e s m below meth c H locs ls X)
theorem l_ret (hdg : decode code pc = .ok (.ireturn, 1)) : Lw E b L xs pc lv [.int 1] h := by
  intro p e s m below meth c H locs ls X
  obtain ⟨⟨hx, hb, hr, hml, hown, hts, hX, hbl, hlk, hgv⟩, ⟨hSt, hA⟩, hP, hS, hl⟩ := id X
  refine va_forget (fun q hq => ?_) (lw_ret hx hb hr hlk hdg)
  obtain ⟨k9, q1, q2⟩ := hS.2.2 q hq
  rw [q2]
  exact hA k9 q1
theorem rm_law {d2 n : Nat} (hd : d2 ≤ 30) (hn : n ≤ 45) : (rmd d2).frames + 1 ≤ room_1.frames ∧ 8 + (n + 11) + (rmd d2).locals ≤ room_1.locals := by
  refine ⟨?_, ?_⟩
  · show d2 + 1 ≤ 2048
    omega
  · show 8 + (n + 11) + 64 * d2 ≤ 84000
    omega
theorem Lw_run {p : Program} {e : Env} {s : State} {m : MethodId} {below : List Frame} {meth : Method} {c : Code} {H : Heap} {locs : List Loc} {ls : Array Slot} {a : Array Value} {r : Value} (X : Lx E b L xs p s m meth c H locs ls lv h)
    (hr : va_Run p (eL E) e room_1 s m #[Value.ref b] below meth c H locs 600000 7302250 0 0 (F0 m pc ls st0) st (Qr E (some r, h2) a) (fA E)) (k : Lw E b L xs (pc + 3) lv (r :: st) h2) :
    W p (eL E) e room_1 s m #[Value.ref b] below meth c H locs 600000 7302250 (lw_Z below #[Value.ref b] s) (F0 m pc ls st0) := by
  obtain ⟨hC, hSt, hP, hS, hl⟩ := X
  intro T hT XT
  obtain ⟨v, st₀, t, T', Lc, h0, X', hLc, e1, e2, ⟨hv, hP2, hz, hk⟩, go⟩ := hr T hT XT
  have hv : v = some r := by cases hv; rfl
  subst hv
  rw [h0] at hz hk
  obtain ⟨t2, a1, b1⟩ := k p e s m below meth c t.heap (locs ++ Lc) ls ⟨hC, hSt, hP2, ⟨Nat.le_trans hS.1 hz, fun q h1 h2 => by rw [hk q (Nat.lt_of_lt_of_le h1 hS.1) h2]; exact hS.2.1 q h1 h2, fun q hq => by
      rcases List.mem_append.mp hq with h | h
      · exact hS.2.2 q h
      · exact hLc q h⟩, hl⟩ T' e1 X'
  exact ⟨t2, go t2 a1, b1⟩
theorem l_callV {y2 : MethodName} {cc2 : ByteArray} {nL2 d2 index b2 : Nat} {ret2 : Option FieldType} {As : List Value} {r : Value} (hM : Sem E y2 cc2 nL2 ret2 d2 (.ref b2 :: As) h (some r, h2)) (hd : d2 ≤ 30) (hn : nL2 ≤ 45) (w1 : Cond.methodLink "DuelSamplesLaw" index y2 ∈ TG) (w2 : Cond.instanceMethod y2 ∈ TG) (w3 : Cond.selects y2.cls y2 y2 ∈ TG) (w4 : Cond.initialized y2.cls ∈ TG) (w5 : Cond.code y2 cc2 nL2 ret2 ∈ TG)
    (hy : y2.cls ≠ "java/lang/invoke/MethodHandle" ∧ y2.cls ≠ "java/lang/invoke/VarHandle" ∧ (parseMethodDescriptor y2.desc).map (fun d => d.parameters.length) = some As.length) (hrc : Rc E h b2 y2.cls) (hst : st0 = As.reverse ++ .ref b2 :: st) (hcat : (st.map fun v => v.category).sum ≤ 8) (hdg : decode code pc = .ok (.invokevirtual index, 3))
    (k : Lw E b L xs (pc + 3) lv (r :: st) h2) : Lw E b L xs pc lv st0 h := by
  intro p e s m below meth c H locs ls X
  obtain ⟨⟨hx, hb, hr, hml, hown, hts, hX, hbl, hlk, hgv⟩, ⟨hSt, hA⟩, hP, hS, hl⟩ := id X
  subst hst
  have hG : GoodIn TG (wsV "DuelSamplesLaw" index y2.cls y2 (wsM y2 cc2 nL2 ret2)) := GoodL (fun w hw => by
    rcases List.mem_append.mp hw with hw | hw
    · simp only [List.mem_cons, List.not_mem_nil, or_false] at hw
      rcases hw with rfl | rfl | rfl | rfl
      · exact w1
      · exact w2
      · exact w3
      · exact w4
    · rcases List.mem_cons.mp hw with rfl | hw
      · exact w5
      · exact hw)
  have htg : ∀ w ∈ TG, w.before #[Value.ref b] s = true := fun w hw => hts w (List.mem_filter.mp hw).1
  have hown : s.vm.findClass "DuelSamplesLaw" = some m.cls := hown
  exact Lw_run X (va_runV (As := As) (rest := st) ⟨hx, hb, hml, hown, htg⟩ hM (cwV As.length htg hG rfl rfl rfl ⟨rfl, hy⟩ (rm_law hd hn)) ⟨Pr_blind E _ h, hrc s H locs hSt hP hS, fun U hU hW => by subst hU; exact ⟨rfl, (hSt.kept hS.2.1).warm hW, hP⟩⟩ rfl rfl hl.1 rfl (lv_room hcat) hdg ⟨Nat.le_of_ble_eq_true rfl, Nat.le_of_ble_eq_true rfl⟩) k
/-- the law's locals at its loop; a number of the script -/
def lvc (E : EN) (b i : Nat) : List (Nat × Value) := [(0, .ref b), (1, .ref (eA E 0)), (2, .ref (eA E 26)), (3, .int (nI i))]
def sc (xs : Nat → Int32) (i j : Nat) : Int32 := xs (nI i + nI j).toNatClampNeg
theorem sc_in {i j : Nat} (hL : L ≤ 3072) (hj : i + j < L) : vp_in (nI i + nI j) L := by
  rw [nI_add]
  exact vp_in_nI hj (by omega)
theorem l_arg {i j : Nat} {n : Int} (d1 : decode code pc = .ok (.aload_n 0, 1)) (d2 : decode code (pc + 1) = .ok (.iload_n 3, 1)) (d3 : decode code (pc + 2) = .ok (.iconst n, 1)) (d4 : decode code (pc + 3) = .ok (.iadd, 1)) (d5 : decode code (pc + 4) = .ok (.iaload, 1)) (hn : Int32.ofInt n = nI j) (hj : i + j < L) (hL : L ≤ 3072)
    (k : Lw E b L xs (pc + 5) (lvc E b i) (.int (sc xs i j) :: st) h) : Lw E b L xs pc (lvc E b i) st h := by
  refine l_aload_n d1 0 rfl ?_
  refine l_iload_n d2 3 rfl ?_
  refine l_iconst d3 hn ?_
  refine l_iadd d4 ?_
  exact l_sld d5 (sc_in hL hj) k
end
