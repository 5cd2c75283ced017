/-! ===== BEGIN new T[n][m]: the outer array a place, the inner ones among the pooled ===== -/
/-- f, but v at every address of l -/
def vr_up {α : Type} (f : Nat → α) (l : List Nat) (v : α) : Nat → α := fun a => if a ∈ l then v else f a
theorem vr_up_in {α : Type} {f : Nat → α} {l : List Nat} {v : α} {a : Nat} (h : a ∈ l) : vr_up f l v a = v := if_pos h
theorem vr_up_ne {α : Type} {f : Nat → α} {l : List Nat} {v : α} {a : Nat} (h : a ∉ l) : vr_up f l v a = f a := if_neg h
theorem vr_rows {L l : List Nat} {f : Nat → va_E} {e : va_E} (h : ∀ a, a ∈ l → a ∉ L) : va_pl L f ++ l.map (fun a => (a, e)) = va_pl (L ++ l) (vr_up f l e) := by
  unfold va_pl
  rw [List.map_append]
  congr 1
  · apply List.map_congr_left
    intro a ha
    rw [vr_up_ne (fun q => h a q ha)]
  · apply List.map_congr_left
    intro a ha
    rw [vr_up_in ha]
theorem vr_lay {X rows : va_W} {x : Nat × va_E} {pl : va_W} {D : va_G} {cl : List vw_C} {H : Heap} (hP : va_P D cl (((X ++ pl) ++ [x]) ++ rows) H) : va_P D cl ((X ++ [x]) ++ (pl ++ rows)) H := by
  rw [List.append_assoc (X ++ pl)] at hP
  have h := va_P.swap hP
  rw [← List.append_assoc X] at h
  have h2 := va_P.swap h
  rw [List.append_assoc (X ++ [x])] at h2
  exact h2
theorem vr_layD {X rows : va_W} {x : Nat × va_E} {pl : va_W} {A : Nat → Prop} (hD : va_D A (((X ++ pl) ++ [x]) ++ rows)) : va_D A ((X ++ [x]) ++ (pl ++ rows)) := by
  rw [List.append_assoc (X ++ pl)] at hD
  have h := va_D.swap hD
  rw [← List.append_assoc X] at h
  have h2 := va_D.swap h
  rw [List.append_assoc (X ++ [x])] at h2
  exact h2
/-! ===== multianewarray of two dimensions, out of the model's own text: the outer array, then its rows one by one; ours, over no other row for it ===== -/
/-- the outer array behind i rounds: its rows lie behind it, in their order -/
def nm_o (c : ClassId) (N q i : Nat) : Cell := arrV c N (fun j => va_rf (if j < i then some (q + 1 + j) else none))
/-- a row, as it is made -/
def nm_x (c : ClassId) (K : Nat) (v : Value) : Cell := { cls := c, slots := Array.replicate K v, vm := .none }
theorem nm_o_0 (c : ClassId) (N q : Nat) : ({ cls := c, slots := Array.replicate N .null, vm := .none } : Cell) = nm_o c N q 0 := by
  rw [arrV_new]
  refine congrArg (arrV c N) (funext fun j => ?_)
  simp [va_rf]
theorem nm_o_s (c : ClassId) (N q i : Nat) : (nm_o c N q i).setSlot i (.ref (q + 1 + i)) = nm_o c N q (i + 1) := by
  unfold nm_o
  rw [arrV_store]
  refine congrArg (arrV c N) (funext fun j => ?_)
  unfold updV
  by_cases e : j = i
  · rw [if_pos e, if_pos (show j < i + 1 by omega), e]
    rfl
  · rw [if_neg e]
    by_cases h : j < i
    · show va_rf (if j < i then some (q + 1 + j) else none) = _
      rw [if_pos h, if_pos (show j < i + 1 by omega)]
    · show va_rf (if j < i then some (q + 1 + j) else none) = _
      rw [if_neg h, if_neg (show ¬ j < i + 1 by omega)]
theorem nm_o_size (c : ClassId) (N q i : Nat) : (nm_o c N q i).slots.size = N := arrV_size c N _
theorem nm_x_size (c : ClassId) (K : Nat) (v : Value) : (nm_x c K v).slots.size = K := by simp [nm_x]
/-- the state behind i rounds -/
def nm_st (S : State) (q : Nat) (x : Cell) (c : ClassId) (N : Nat) : Nat → State
  | 0 => S
  | i + 1 => ((nm_st S q x c N i).pushCell x).setCell q (nm_o c N q (i + 1))
section NMS
variable {S : State} {q : Nat} {x : Cell} {c : ClassId} {N : Nat}
theorem nm_st_s (i : Nat) : nm_st S q x c N (i + 1) = ((nm_st S q x c N i).pushCell x).setCell q (nm_o c N q (i + 1)) := rfl
theorem nm_st_setTop (f : JFrame) : ∀ i : Nat, nm_st (S.setTop f) q x c N i = (nm_st S q x c N i).setTop f
  | 0 => rfl
  | i + 1 => by
    rw [nm_st_s, nm_st_setTop f i, nm_st_s]
    rfl
theorem nm_st_vm : ∀ i : Nat, (nm_st S q x c N i).vm = S.vm
  | 0 => rfl
  | i + 1 => nm_st_vm i
theorem nm_st_top : ∀ i : Nat, (nm_st S q x c N i).topJava? = S.topJava?
  | 0 => rfl
  | i + 1 => nm_st_top i
theorem nm_st_used : ∀ i : Nat, (nm_st S q x c N i).slotsUsed = S.slotsUsed + i * x.slots.size
  | 0 => by
    show S.slotsUsed = _
    omega
  | i + 1 => by
    show (nm_st S q x c N i).slotsUsed + x.slots.size = _
    rw [nm_st_used i, Nat.add_mul]
    omega
theorem nm_st_size : ∀ i : Nat, (nm_st S q x c N i).heap.size = S.heap.size + i
  | 0 => rfl
  | i + 1 => by
    rw [nm_st_s, size_setCell, size_pushCell, nm_st_size i]
    omega
theorem nm_st_old {j : Nat} (hj : j < S.heap.size) (hne : j ≠ q) : ∀ i : Nat, (nm_st S q x c N i).heap[j]? = S.heap[j]?
  | 0 => rfl
  | i + 1 => by
    rw [nm_st_s, heapAt_setCell_ne _ (Ne.symm hne), State.heap_pushCell_of_lt _ _ (show j < (nm_st S q x c N i).heap.size by rw [nm_st_size]; omega)]
    exact nm_st_old hj hne i
theorem nm_st_self (hq : q < S.heap.size) (h0 : S.heap[q]? = some (nm_o c N q 0)) : ∀ i : Nat, (nm_st S q x c N i).heap[q]? = some (nm_o c N q i)
  | 0 => h0
  | i + 1 => by
    rw [nm_st_s]
    exact heapAt_setCell_self _ (show q < ((nm_st S q x c N i).pushCell x).heap.size by rw [size_pushCell, nm_st_size]; omega)
theorem nm_st_row (hq : q < S.heap.size) {j : Nat} : ∀ i : Nat, j < i → (nm_st S q x c N i).heap[S.heap.size + j]? = some x
  | 0, h => absurd h (Nat.not_lt_zero _)
  | i + 1, h => by
    rw [nm_st_s, heapAt_setCell_ne _ (show q ≠ S.heap.size + j by omega)]
    by_cases e : j = i
    · have e2 : S.heap.size + j = (nm_st S q x c N i).heap.size := by rw [nm_st_size, e]
      rw [e2]
      exact State.heap_pushCell_size _ _
    · rw [State.heap_pushCell_of_lt _ _ (show S.heap.size + j < (nm_st S q x c N i).heap.size by rw [nm_st_size]; omega)]
      exact nm_st_row hq i (by omega)
end NMS
section NMW
variable {E : CtlPost} {e : Env} {d : Bool} {acts : List Action}
theorem nm_fit {U : State} {c comp : ClassId} {kA : Class} {ty : FieldType} {i a : Nat} (hv : U.vm.classes[c]? = some kA) (hkindA : kA.kind = .array comp (.array ty)) : U.fitsSlot c .none i (.ref a) = true := by
  simp [State.fitsSlot, State.slotType?, hv, hkindA, fits]
/-- one row of them -/
theorem nm_row {U : State} {comp c2 : ClassId} {kC : Class} {ty : FieldType} {k : Int32} {K : Nat} (hK : k.toNatClampNeg = K) (hkC : U.vm.classes[comp]? = some kC) (hkindC : kC.kind = .array c2 ty)
    (hk : ¬ k < 0) (hl : ¬ K > e.platform.arrayLengthLimit) (hh : ¬ K * componentBytes ty > e.platform.maxHeapBytes) (hdf : fits ty (defaultValue ty) = true)
    (hcells : U.heap.size < e.platform.maxCells) (hslots : U.slotsUsed + K ≤ e.platform.maxSlots) {Q : Addr → Pre} (hQ : ∀ acts' : List Action, Q U.heap.size d acts' (U.pushCell (nm_x comp K (defaultValue ty)))) :
    wp (Jvm.Op.multianewarray.make comp [k]) Q E e d acts U := by
  rw [Jvm.Op.multianewarray.make]
  simp only [wp_bind', W.ite, hk, if_false, wp_pure', W.theClass, hkC, Option.some.injEq, exists_eq_left', hkindC, hK]
  exact W.newArray_of hkC hkindC hl hh hcells hslots hdf hQ
theorem nm_make {S : State} {c comp c2 : ClassId} {kA kC : Class} {ty : FieldType} {n k : Int32} {N K : Nat} (hN : n.toNatClampNeg = N) (hK : k.toNatClampNeg = K)
    (hkA : S.vm.classes[c]? = some kA) (hkindA : kA.kind = .array comp (.array ty)) (hkC : S.vm.classes[comp]? = some kC) (hkindC : kC.kind = .array c2 ty)
    (hn : ¬ n < 0) (hk : ¬ k < 0) (hl1 : ¬ N > e.platform.arrayLengthLimit) (hl2 : ¬ K > e.platform.arrayLengthLimit) (hh1 : ¬ N * componentBytes (.array ty) > e.platform.maxHeapBytes) (hh2 : ¬ K * componentBytes ty > e.platform.maxHeapBytes)
    (hdf : fits ty (defaultValue ty) = true) (hcells : S.heap.size + (1 + N) ≤ e.platform.maxCells) (hslots : S.slotsUsed + (N + N * K) ≤ e.platform.maxSlots) {Q : Addr → Pre}
    (hQ : ∀ (d' : Bool) (acts' : List Action), Q S.heap.size d' acts' (nm_st (S.pushCell (nm_o c N S.heap.size 0)) S.heap.size (nm_x comp K (defaultValue ty)) c N N)) :
    wp (Jvm.Op.multianewarray.make c [n, k]) Q E e d acts S := by
  have hf : List.find? (fun x : Int32 => decide (x < 0)) [k] = none := by simp [hk]
  rw [Jvm.Op.multianewarray.make]
  simp only [wp_bind', W.ite, hn, if_false, wp_pure', W.theClass, hkA, Option.some.injEq, exists_eq_left', hkindA, hN]
  refine W.newArray_of hkA hkindA hl1 hh1 (by omega) (by omega) rfl fun acts' => ?_
  rw [nm_o_0 c N S.heap.size]
  simp only [hf, ite_self, wp_bind', wp_pure']
  have hS1 : (S.pushCell (nm_o c N S.heap.size 0)).heap.size = S.heap.size + 1 := size_pushCell _ _
  have hS2 : (S.pushCell (nm_o c N S.heap.size 0)).heap[S.heap.size]? = some (nm_o c N S.heap.size 0) := State.heap_pushCell_size _ _
  have hS3 : (S.pushCell (nm_o c N S.heap.size 0)).slotsUsed = S.slotsUsed + N := by
    show S.slotsUsed + (nm_o c N S.heap.size 0).slots.size = _
    rw [nm_o_size]
  have hS4 : (S.pushCell (nm_o c N S.heap.size 0)).vm = S.vm := rfl
  generalize S.pushCell (nm_o c N S.heap.size 0) = S1 at hS1 hS2 hS3 hS4 hQ ⊢
  generalize S.heap.size = q at hS1 hS2 hcells hQ ⊢
  rw [Std.Legacy.Range.forIn_eq_forIn_range']
  refine wp_forIn_inv (fun rest s' => ∃ i : Nat, i ≤ N ∧ rest = List.range' i (N - i) ∧ s' = nm_st S1 q (nm_x comp K (defaultValue ty)) c N i) _ _ ⟨0, Nat.zero_le _, by simp [Std.Legacy.Range.size], rfl⟩ ?_ ?_
  · rintro y rest s' d' acts2 Q' ⟨i, hi, hr, rfl⟩ hc
    obtain ⟨M, hM⟩ : ∃ M, N - i = M + 1 := by
      cases h : N - i with
      | zero =>
        rw [h] at hr
        cases hr
      | succ M => exact ⟨M, rfl⟩
    rw [hM, List.range'_succ] at hr
    obtain ⟨rfl, rfl⟩ := List.cons.inj hr
    have hmul : N * K = y * K + (K + M * K) := by
      rw [show N = y + (1 + M) by omega, Nat.add_mul, Nat.add_mul, Nat.one_mul]
    simp only [wp_bind', wp_pure']
    refine nm_row hK (by rw [nm_st_vm, hS4]; exact hkC) hkindC hk hl2 hh2 hdf (by rw [nm_st_size]; omega) (by rw [nm_st_used, nm_x_size]; omega) fun acts3 => ?_
    rw [wp_bind', W.writeLoc]
    have hold : ((nm_st S1 q (nm_x comp K (defaultValue ty)) c N y).pushCell (nm_x comp K (defaultValue ty))).heap[q]? = some (nm_o c N q y) := by
      rw [State.heap_pushCell_of_lt _ _ (show q < (nm_st S1 q (nm_x comp K (defaultValue ty)) c N y).heap.size by rw [nm_st_size]; omega)]
      exact nm_st_self (by omega) hS2 y
    refine ⟨nm_o c N q y, hold, (by intro h; cases h), by rw [nm_o_size]; omega, ?_, ?_⟩
    · have hv : ((nm_st S1 q (nm_x comp K (defaultValue ty)) c N y).pushCell (nm_x comp K (defaultValue ty))).vm.classes[c]? = some kA := by
        show (nm_st S1 q (nm_x comp K (defaultValue ty)) c N y).vm.classes[c]? = some kA
        rw [nm_st_vm, hS4]
        exact hkA
      exact nm_fit hv hkindA
    · rw [nm_st_size, show S1.heap.size + y = q + 1 + y by omega, nm_o_s]
      exact hc _ _ _ ⟨y + 1, by omega, by rw [show N - (y + 1) = M by omega], rfl⟩
  · rintro s' d' acts2 ⟨i, hi, hr, rfl⟩
    have hiN : i = N := by
      cases h : N - i with
      | zero => omega
      | succ M =>
        rw [h, List.range'_succ] at hr
        cases hr
    rw [hiN]
    exact hQ _ _
end NMW
section VGM
variable {p : Program} {l : Launch} {e : Env} {R : Room} {s : State} {m : MethodId} {args : Array Value} {below : List Frame} {meth : Method} {c : Code} {H : Heap} {locs : List Loc} {cells slots : Nat} {Q : State → Prop}
variable {cc : ByteArray} {pc : Nat} {ls : Array Slot} {rest : List Value} {D : va_G} {cl : List vw_C} {A : Nat → Prop} {a : Nat} {tys : List (ClassId × FieldType)} {ws : va_W} {H0 : Heap}
/-- the walk stands behind each round: what is written is new -/
theorem nm_stand {S : State} {q N : Nat} {x : Cell} {c0 : ClassId} (X : Stand p l e R s m args below meth c S locs cells slots) (hs : s.heap.size ≤ q) (hq : q < S.heap.size) (h0 : S.heap[q]? = some (nm_o c0 N q 0)) :
    ∀ i : Nat, Stand p l e R s m args below meth c (nm_st S q x c0 N i) locs (cells + i) (slots + i * x.slots.size)
  | 0 => by
    rw [Nat.zero_mul]
    exact X
  | i + 1 => by
    have X1 := (nm_stand (x := x) X hs hq h0 i).pushed x
    have hold : ((nm_st S q x c0 N i).pushCell x).heap[q]? = some (nm_o c0 N q i) := by
      rw [State.heap_pushCell_of_lt _ _ (show q < (nm_st S q x c0 N i).heap.size by rw [nm_st_size]; omega)]
      exact nm_st_self hq h0 i
    have X2 := X1.stored hold i (.ref (q + 1 + i))
    rw [nm_o_s, ← nm_st_s] at X2
    have hm : slots + i * x.slots.size + x.slots.size = slots + (i + 1) * x.slots.size := by
      rw [Nat.add_mul]
      omega
    rw [hm] at X2
    refine ⟨X2.admits, X2.cas, X2.clock, X2.frames, X2.room, X2.hears, X2.method, X2.code, X2.here, X2.tail, X2.warmed, X2.limits, X2.bytes, X2.same.weaken (fun y hy hb => ?_) (Nat.le_refl _) (Nat.le_refl _)⟩
    rcases List.mem_append.mp hy with h | h
    · exact h
    · rw [List.mem_singleton.mp h] at hb
      exact absurd hb (Nat.not_lt.mpr hs)
/-- the instruction itself -/
theorem nm_step {T : State} (X : Stand p l e R s m args below meth c T locs cells slots) (hexec : p.tables.exec = Jvm.exec) {own : String} {index : Nat} {ty : FieldType} {cy : ClassId} (hown : s.vm.findClass own = some m.cls) (hclink : (Cond.classLink own index ("[" ++ (FieldType.array ty).toString)).before args s = true) (hover : (Cond.arrayOver (.array ty)).before args s = true) (harr : (Cond.arrayClass ty).before args s = true) (hcy : s.vm.findClass (FieldType.array ty).toString = some cy)
    {n k : Int32} {N K : Nat} (hn : ¬ n < 0) (hk : ¬ k < 0) (hN : n.toNatClampNeg = N) (hK : k.toNatClampNeg = K) (hb1 : N * 4 ≤ 536870912) (hb2 : K * componentBytes ty ≤ 536870912) (hb3 : K ≤ 536870912) (hdf : fits ty (defaultValue ty) = true) (hcells : cells + (1 + N) ≤ R.cells) (hslots : slots + (N + N * K) ≤ R.slots)
    (hdg : decode c.code pc = .ok (.multianewarray index 2, 4)) :
    ∃ (vm₁ : Vm) (cA : ClassId), s.vm.findClass ("[" ++ (FieldType.array ty).toString) = some cA ∧ ArrOfT s cA (.array ty) ∧
      Stand p l e R s m args below meth c (nm_st ((T.setVm vm₁).pushCell (nm_o cA N T.heap.size 0)) T.heap.size (nm_x cy K (defaultValue ty)) cA N N) locs (cells + 1 + N) (slots + N + N * K) ∧
      ∀ target, Steps p.tables e below ((nm_st ((T.setVm vm₁).pushCell (nm_o cA N T.heap.size 0)) T.heap.size (nm_x cy K (defaultValue ty)) cA N N).setTop (F0 m (pc + 4) ls (.ref T.heap.size :: rest))) target → Steps p.tables e below (T.setTop (F0 m pc ls (.int k :: .int n :: rest))) target := by
  have hpl : e.platform.magicAccessors = ({} : Platform).magicAccessors := by rw [X.admits.platform]
  obtain ⟨comp, cA, kA, hcomp, -, hkA, hkindA, hnameA⟩ := arrayOverA_spec hover
  cases hcomp.symm.trans hcy
  obtain ⟨comp2, kC, c2, hcomp2, hkC, hkindC⟩ := Cond.arrayClass_spec harr
  have e2 : some cy = some comp2 := hcomp.symm.trans hcomp2
  cases e2
  obtain ⟨cc', hfcc, hcl⟩ := Cond.classLink_spec hown hclink e.platform hpl
  cases hnameA.symm.trans hfcc
  obtain ⟨hg₁, hwarm₁, hready₁⟩ := State.classEntry (e := e) X.warmed hcl
  generalize T.vm.noted m.cls index (.cls cA) = vm₁ at hg₁ hwarm₁ hready₁
  have hal : s.vm.Alike vm₁ := hwarm₁.alike
  obtain ⟨kA₁, hkA₁, heA⟩ := hal.2.2 _ _ hkA
  have hkindA₁ : kA₁.kind = .array cy (.array ty) := by rw [heA]; exact hkindA
  obtain ⟨kC₁, hkC₁, heC⟩ := hal.2.2 _ _ hkC
  have hkindC₁ : kC₁.kind = .array c2 ty := by rw [heC]; exact hkindC
  have hlim := Launch.admits_arrayLengthLimit X.admits
  have hmax := Launch.admits_maxHeapBytes X.admits
  obtain ⟨hr1, hr2⟩ := X.roomAbove hcells hslots
  have hsT : s.heap.size ≤ T.heap.size := X.same.2.1
  refine ⟨vm₁, cA, hnameA, fun N9 z9 => ⟨(fun q hq => by cases hq), kA, hkA, cy, hkindA⟩, ?_, fun target hrest => ?_⟩
  · have X1 := (X.noted hwarm₁).pushed (nm_o cA N T.heap.size 0)
    rw [nm_o_size] at X1
    have X2 := nm_stand (x := nm_x cy K (defaultValue ty)) X1 hsT (by rw [size_pushCell]; exact Nat.lt_succ_self _) (State.heap_pushCell_size _ _) N
    rw [nm_x_size] at X2
    exact X2
  · refine Steps.instr (c := c) (f := F0 m pc ls (.int k :: .int n :: rest)) X.here ?_
    have hd : decode c.code (F0 m pc ls (.int k :: .int n :: rest)).pc = .ok (.multianewarray index 2, 4) := hdg
    rw [hd]
    show wpRun (p.tables.exec (.multianewarray index 2)) _ _ e _
    rw [hexec]
    show wp (Jvm.Op.multianewarray.sem index 2) _ _ e false [] _
    unfold Jvm.Op.multianewarray.sem
    rw [wp_bind']
    refine (W.resolveClassAt_transfer (s := T.setTop (F0 m pc ls (.int k :: .int n :: rest))) (State.method?_setTop _ X.here.top) hg₁ hready₁).mpr ?_
    refine (W.resolveClassAt_ready (s := (T.setTop (F0 m pc ls (.int k :: .int n :: rest))).setVm vm₁) (State.method?_setTop _ X.here.top) hready₁).mpr ?_
    rw [wp_bind']
    refine (Op.popN_top (s := T.setVm vm₁) (f := F0 m pc ls (.int k :: .int n :: rest)) (args := [.int n, .int k]) (rest := rest) X.here.top rfl).mpr ?_
    simp only [List.mapM_cons, List.mapM_nil, wp_bind', wp_pure']
    refine nm_make (S := (T.setVm vm₁).setTop (F0 m pc ls rest)) (kA := kA₁) (kC := kC₁) hN hK hkA₁ hkindA₁ hkC₁ hkindC₁ hn hk (by rw [hlim]; omega) (by rw [hlim]; omega) (by rw [hmax]; show ¬ N * 4 > _; omega) (by rw [hmax]; omega) hdf hr1 hr2 fun d' acts' => ?_
    rw [wp_bind', W.mark, W.pushRef]
    have hst : nm_st (((T.setVm vm₁).setTop (F0 m pc ls rest)).pushCell (nm_o cA N T.heap.size 0)) T.heap.size (nm_x cy K (defaultValue ty)) cA N N = (nm_st ((T.setVm vm₁).pushCell (nm_o cA N T.heap.size 0)) T.heap.size (nm_x cy K (defaultValue ty)) cA N N).setTop (F0 m pc ls rest) := nm_st_setTop (S := (T.setVm vm₁).pushCell (nm_o cA N T.heap.size 0)) (F0 m pc ls rest) N
    refine ⟨F0 m pc ls rest, ?_, fun acts'' => ?_⟩
    · refine (congrArg State.topJava? hst).trans (State.topJava?_setTop' _ ?_)
      rw [nm_st_top]
      exact X.here.top
    · refine Eq.mp (congrArg (fun u => Steps p.tables e below u target) ?_) hrest
      refine Eq.symm ((congrArg (fun u : State => (afterInstr e 4 (.ok () (u.setTop (F0 m pc ls (.ref T.heap.size :: rest))) acts'')).1) hst).trans ?_)
      rw [State.setTop_setTop, afterInstr_ok]
theorem va_mna {X : va_W} {L : List Nat} {f : Nat → va_E} {cc : ByteArray} (hexec : p.tables.exec = Jvm.exec) (hb : c.code = cc) {own : String} {index : Nat} {ty : FieldType} {cy : ClassId} (hown : s.vm.findClass own = some m.cls) (hclink : (Cond.classLink own index ("[" ++ (FieldType.array ty).toString)).before args s = true) (hover : (Cond.arrayOver (.array ty)).before args s = true) (harr : (Cond.arrayClass ty).before args s = true) (hcy : s.vm.findClass (FieldType.array ty).toString = some cy)
    (hK : va_K D cl tys s) (hP : va_P D cl (X ++ va_pl L f) H) (hD : va_D A (X ++ va_pl L f)) (hS : va_S A H0 H locs) (hA : ∀ q, H0.size ≤ q → A q) {n k : Int32} {N' K' : Nat} {z : vp_A} (hn : ¬ n < 0) (hk : ¬ k < 0) (hN : n.toNatClampNeg = N') (hM : k.toNatClampNeg = K')
    (hb1 : N' * 4 ≤ 536870912) (hb2 : K' * componentBytes ty ≤ 536870912) (hb3 : K' ≤ 536870912) (hdf : fits ty (defaultValue ty) = true) (hdd : (defaultValue ty).isDefault = true) (hcells : cells + (1 + N') ≤ R.cells) (hslots : slots + (N' + N' * K') ≤ R.slots) (hz : ∀ c : ClassId, nm_x c K' (defaultValue ty) = vp_cell c z) (hdg : decode cc pc = .ok (.multianewarray index 2, 4))
    (kk : ∀ (q : Nat) (r : Nat → Nat) (cA : ClassId) (H1 : Heap), (∀ i j : Nat, i < N' → j < N' → r i = r j → i = j) → (∀ i : Nat, i < N' → r i ∉ L) → va_K D cl (tys ++ [(cA, .array ty)]) s →
      va_P D cl ((X ++ [(q, .inl (cA, N', .inr (.inr (.inr (.inr (fun i => if i < N' then some (r i) else none))))))]) ++ va_pl (L ++ (List.range N').map r) (vr_up f ((List.range N').map r) (.inl (cy, z)))) H1 → va_D A ((X ++ [(q, .inl (cA, N', .inr (.inr (.inr (.inr (fun i => if i < N' then some (r i) else none))))))]) ++ va_pl (L ++ (List.range N').map r) (vr_up f ((List.range N').map r) (.inl (cy, z)))) → va_S A H0 H1 locs →
      W p l e R s m args below meth c H1 locs (cells + 1 + N') (slots + N' + N' * K') Q (F0 m (pc + 4) ls (.ref q :: rest))) : W p l e R s m args below meth c H locs cells slots Q (F0 m pc ls (.int k :: .int n :: rest)) := by
  subst hN
  subst hM
  intro T hT Xs
  obtain ⟨vm₁, cA, fA, hAr, X', step⟩ := nm_step (pc := pc) (ls := ls) (rest := rest) Xs hexec hown hclink hover harr hcy hn hk rfl rfl hb1 hb2 hb3 hdf hcells hslots (by rw [hb]; exact hdg)
  have hsz : ((T.setVm vm₁).pushCell (nm_o cA n.toNatClampNeg T.heap.size 0)).heap.size = H.size + 1 := by rw [size_pushCell, ← hT]; rfl
  have f1 : (nm_st ((T.setVm vm₁).pushCell (nm_o cA n.toNatClampNeg T.heap.size 0)) T.heap.size (nm_x cy k.toNatClampNeg (defaultValue ty)) cA n.toNatClampNeg n.toNatClampNeg).heap.size = H.size + 1 + n.toNatClampNeg := by rw [nm_st_size, hsz]
  have eT : T.heap.size = H.size := by rw [hT]
  have f2 := nm_st_self (S := (T.setVm vm₁).pushCell (nm_o cA n.toNatClampNeg T.heap.size 0)) (q := T.heap.size) (x := nm_x cy k.toNatClampNeg (defaultValue ty)) (c := cA) (N := n.toNatClampNeg) (by rw [hsz]; omega) (State.heap_pushCell_size _ _) n.toNatClampNeg
  have hold : ∀ x : Nat, x < H.size → (nm_st ((T.setVm vm₁).pushCell (nm_o cA n.toNatClampNeg T.heap.size 0)) T.heap.size (nm_x cy k.toNatClampNeg (defaultValue ty)) cA n.toNatClampNeg n.toNatClampNeg).heap[x]? = H[x]? := fun x hx => by
    rw [nm_st_old (by rw [hsz]; omega) (by omega), State.heap_pushCell_of_lt _ _ (show x < (T.setVm vm₁).heap.size by show x < T.heap.size; omega)]
    show T.heap[x]? = _
    rw [hT]
  have hrow : ∀ j : Nat, j < n.toNatClampNeg → (nm_st ((T.setVm vm₁).pushCell (nm_o cA n.toNatClampNeg T.heap.size 0)) T.heap.size (nm_x cy k.toNatClampNeg (defaultValue ty)) cA n.toNatClampNeg n.toNatClampNeg).heap[H.size + 1 + j]? = some (vp_cell cy z) := fun j hj => by
    have h9 := nm_st_row (S := (T.setVm vm₁).pushCell (nm_o cA n.toNatClampNeg T.heap.size 0)) (q := T.heap.size) (x := nm_x cy k.toNatClampNeg (defaultValue ty)) (c := cA) (N := n.toNatClampNeg) (by rw [hsz]; omega) n.toNatClampNeg hj
    rw [hsz, hz] at h9
    rw [hz]
    exact h9
  generalize nm_st ((T.setVm vm₁).pushCell (nm_o cA n.toNatClampNeg T.heap.size 0)) T.heap.size (nm_x cy k.toNatClampNeg (defaultValue ty)) cA n.toNatClampNeg n.toNatClampNeg = F at X' step f1 f2 hold hrow
  have hout : nm_o cA n.toNatClampNeg T.heap.size n.toNatClampNeg = vp_cell cA (n.toNatClampNeg, .inr (.inr (.inr (.inr (fun i => if i < n.toNatClampNeg then some (H.size + 1 + i) else none))))) := by
    rw [vp_cell_q, eT]
    rfl
  rw [hout, eT] at f2
  have hlt : ∀ a, a ∈ L → a < H.size := fun a ha => by
    obtain ⟨k9, hk9⟩ := va_pl_get (X := X) (f := f) ha
    exact (hP k9 _ hk9).lt
  have hnl : ∀ i : Nat, i < n.toNatClampNeg → H.size + 1 + i ∉ L := fun i _ h => by
    have := hlt _ h
    omega
  have hnm : ∀ a, a ∈ (List.range n.toNatClampNeg).map (fun i => H.size + 1 + i) → a ∉ L := fun a ha h => by
    obtain ⟨i, -, rfl⟩ := List.mem_map.mp ha
    have := hlt _ h
    omega
  have hP0 : va_P D cl (X ++ va_pl L f) F.heap := hP.kept (fun k9 x hx => hold x.1 ((hP k9 x hx).lt))
  have hP1 : va_P D cl ((X ++ va_pl L f) ++ [(H.size, .inl (cA, n.toNatClampNeg, .inr (.inr (.inr (.inr (fun i => if i < n.toNatClampNeg then some (H.size + 1 + i) else none))))))]) F.heap := hP0.app (fun k9 x hx => by
    have h0 : k9 < 1 := (List.getElem?_eq_some_iff.mp hx).1
    rw [show k9 = 0 by omega] at hx
    cases hx
    exact f2)
  have hP2 : va_P D cl (((X ++ va_pl L f) ++ [(H.size, .inl (cA, n.toNatClampNeg, .inr (.inr (.inr (.inr (fun i => if i < n.toNatClampNeg then some (H.size + 1 + i) else none))))))]) ++ ((List.range n.toNatClampNeg).map (fun i => H.size + 1 + i)).map (fun a => (a, .inl (cy, z)))) F.heap := hP1.app (fun k9 x hx => by
    obtain ⟨a, ha, rfl⟩ := List.mem_map.mp (List.mem_of_getElem? hx)
    obtain ⟨i, hi, rfl⟩ := List.mem_map.mp ha
    exact hrow i (List.mem_range.mp hi))
  have hD2 : va_D A (((X ++ va_pl L f) ++ [(H.size, .inl (cA, n.toNatClampNeg, .inr (.inr (.inr (.inr (fun i => if i < n.toNatClampNeg then some (H.size + 1 + i) else none))))))]) ++ ((List.range n.toNatClampNeg).map (fun i => H.size + 1 + i)).map (fun a => (a, .inl (cy, z)))) := by
    have hD1 := hD.push (e := .inl (cA, n.toNatClampNeg, .inr (.inr (.inr (.inr (fun i => if i < n.toNatClampNeg then some (H.size + 1 + i) else none)))))) hP rfl (hA _ hS.1)
    generalize hW1 : (X ++ va_pl L f) ++ [(H.size, .inl (cA, n.toNatClampNeg, .inr (.inr (.inr (.inr (fun i => if i < n.toNatClampNeg then some (H.size + 1 + i) else none))))))] = W1 at hD1 hP1 ⊢
    have hle : ∀ (k9 : Nat) (x : Nat × va_E), W1[k9]? = some x → x.1 ≤ H.size := fun k9 x hx => by
      rw [← hW1] at hx
      by_cases hl : k9 < (X ++ va_pl L f).length
      · rw [List.getElem?_append_left hl] at hx
        exact Nat.le_of_lt ((hP k9 x hx).lt)
      · rw [List.getElem?_append_right (by omega)] at hx
        have h0 : k9 - (X ++ va_pl L f).length < 1 := (List.getElem?_eq_some_iff.mp hx).1
        rw [show k9 - (X ++ va_pl L f).length = 0 by omega] at hx
        cases hx
        exact Nat.le_refl _
    have hr : ∀ (k9 : Nat) (x : Nat × va_E), (((List.range n.toNatClampNeg).map (fun i => H.size + 1 + i)).map (fun a => ((a, .inl (cy, z)) : Nat × va_E)))[k9]? = some x → x.1 = H.size + 1 + k9 := fun k9 x hx => by
      rw [List.getElem?_map, List.getElem?_map] at hx
      by_cases h9 : k9 < n.toNatClampNeg
      · rw [List.getElem?_range h9] at hx
        cases hx
        rfl
      · have hn0 : (List.range n.toNatClampNeg)[k9]? = none := List.getElem?_eq_none (by rw [List.length_range]; omega)
        rw [hn0] at hx
        cases hx
    refine ⟨fun i j x y hi hj hxy => ?_, fun k9 x hx => ?_⟩
    · by_cases h1 : i < W1.length <;> by_cases h2 : j < W1.length
      · rw [List.getElem?_append_left h1] at hi
        rw [List.getElem?_append_left h2] at hj
        exact hD1.1 i j x y hi hj hxy
      · rw [List.getElem?_append_left h1] at hi
        rw [List.getElem?_append_right (by omega)] at hj
        have := hle _ _ hi
        have := hr _ _ hj
        omega
      · rw [List.getElem?_append_right (by omega)] at hi
        rw [List.getElem?_append_left h2] at hj
        have := hle _ _ hj
        have := hr _ _ hi
        omega
      · rw [List.getElem?_append_right (by omega)] at hi hj
        have := hr _ _ hi
        have := hr _ _ hj
        omega
    · by_cases h1 : k9 < W1.length
      · rw [List.getElem?_append_left h1] at hx
        exact hD1.2 k9 x hx
      · rw [List.getElem?_append_right (by omega)] at hx
        have := hr _ _ hx
        exact hA _ (by have := hS.1; omega)
  have hK2 : va_K D cl (tys ++ [(cA, .array ty)]) s := ⟨hK.1, fun k9 x hx => by
    by_cases hl : k9 < tys.length
    · rw [List.getElem?_append_left hl] at hx
      exact hK.2 k9 x hx
    · rw [List.getElem?_append_right (by omega)] at hx
      have h0 : k9 - tys.length < 1 := (List.getElem?_eq_some_iff.mp hx).1
      rw [show k9 - tys.length = 0 by omega] at hx
      cases hx
      exact ⟨hAr, fA⟩⟩
  obtain ⟨t, a1, b1⟩ := kk H.size (fun i => H.size + 1 + i) cA F.heap (fun i j _ _ h => by have h9 : H.size + 1 + i = H.size + 1 + j := h; omega) hnl hK2 (by rw [← vr_rows hnm]; exact vr_lay hP2) (by rw [← vr_rows hnm]; exact vr_layD hD2) ⟨by rw [f1]; have := hS.1; omega, fun x h1 h2 => (hold x (Nat.lt_of_lt_of_le h1 hS.1)).trans (hS.2.1 x h1 h2), hS.2.2⟩ F rfl X'
  refine ⟨t, step t ?_, b1⟩
  rw [eT]
  exact a1
end VGM
/-! ===== END ===== -/
/-- the word on arrays of arrays, at alike tables -/
theorem aov_moved {ty : FieldType} {a b : Array Value} {u U : State} (hvm : u.vm.Alike U.vm) (h : (Cond.arrayOver ty).before a u = true) : (Cond.arrayOver ty).before b U = true := by
  have e : (Cond.arrayOver ty).before b U = (Cond.arrayOver ty).before a (u.setVm U.vm) := rfl
  rw [e, Cond.arrayOver_setVmC hvm]
  exact h
