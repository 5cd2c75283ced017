/-! THE ENVIRONMENT AND THE WORLD: all cells of the class (0..25) and of the reference (26..35) in one list; a method's contract is over the abstract heap Hp -/
abbrev EN : Type := Launch × va_G × (Nat → Nat) × (ClassId × ClassId × ClassId × ClassId × ClassId) × Nat × (Nat → Nat) × (Nat → Nat)
def eL (E : EN) : Launch := E.1
def eD (E : EN) : va_G := E.2.1
def eA (E : EN) : Nat → Nat := E.2.2.1
def eI (E : EN) : ClassId := E.2.2.2.1.1
def eB (E : EN) : ClassId := E.2.2.2.1.2.1
def eJ (E : EN) : ClassId := E.2.2.2.1.2.2.1
def eZ (E : EN) : ClassId := E.2.2.2.1.2.2.2.1
def eG (E : EN) : ClassId := E.2.2.2.1.2.2.2.2
def eM (E : EN) : Nat := E.2.2.2.2.1
def eK (E : EN) : Nat → Nat := E.2.2.2.2.2.1
def eV (E : EN) : Nat → Nat := E.2.2.2.2.2.2
abbrev tys (E : EN) : List (ClassId × FieldType) := [(eI E, .int), (eB E, .byte), (eJ E, .long), (eZ E, .boolean), (eG E, .array .int)]
abbrev classes : List vw_C := [(RX0, TX0, 10), (RX1, TX1, 3), (RX2, TX2, 2), (RX3, TX3, 3), (RX4, TX4, 7), (RX5, TX5, 9), (RX6, TX6, 23)]
abbrev TX : Type := Int32 × Int32 × Int32
abbrev TR : Type := Int32 × Int32 × (Nat → Nat → Int32)
abbrev TC : Type := Int32 × Int32 × Int32 × Int32 × Int32 × Int32 × (Nat → Int32) × (Nat → Int32) × (Nat → Int32) × (Nat → Int32)

abbrev TK : Type := Int32 × Int32 × (Nat → Int64)
abbrev TS : Type := Int32 × Int32 × Int32 × Int32 × (Nat → Int32) × (Nat → Int32) × (Nat → Int32)
abbrev TP : Type := Int32 × (Nat → Int32)
abbrev TM : Type := Int32 × Int32 × Int32 × Int32 × Int32 × Int32 × Int32 × Int32 × Int32 × Int32 × Int32 × Int32 × Int32 × Int32 × (Nat → Int32) × (Nat → Int32) × (Nat → Int32) × (Nat → Int32) × (Nat → Int32) × (Nat → Int32) × (Nat → Int32) × (Nat → Int32) × (Nat → Int32)
abbrev Hp : Type := TX × TR × TC × TC × TK × TS × TP × TM
def wX (E : EN) (x : TX) : va_W := [(eA E 0, .inr (5, [.ref (eA E 1), .ref (eA E 8), .ref (eA E 13), .ref (eA E 18), .ref (eA E 20), .ref (eA E 24), .int x.1, .int x.2.1, .int x.2.2]))]
def wR (E : EN) (x : TR) : va_W := [(eA E 1, .inr (3, [.ref (eA E 2), .int x.1, .int x.2.1])), (eA E 2, .inl (eG E, 5, .inr (.inr (.inr (.inr (fun i => if i < 5 then some (eA E (3 + i)) else none)))))), (eA E 3, .inl (eI E, 12, .inl (x.2.2 0))), (eA E 4, .inl (eI E, 12, .inl (x.2.2 1))), (eA E 5, .inl (eI E, 12, .inl (x.2.2 2))), (eA E 6, .inl (eI E, 12, .inl (x.2.2 3))), (eA E 7, .inl (eI E, 12, .inl (x.2.2 4)))]
def wC (E : EN) (o : Nat) (x : TC) : va_W := [(eA E (o + 0), .inr (0, [.ref (eA E (o + 1)), .ref (eA E (o + 2)), .ref (eA E (o + 3)), .ref (eA E (o + 4)), .int x.1, .int x.2.1, .int x.2.2.1, .int x.2.2.2.1, .int x.2.2.2.2.1, .int x.2.2.2.2.2.1])), (eA E (o + 1), .inl (eI E, 12, .inl x.2.2.2.2.2.2.1)), (eA E (o + 2), .inl (eI E, 12, .inl x.2.2.2.2.2.2.2.1)), (eA E (o + 3), .inl (eI E, 12, .inl x.2.2.2.2.2.2.2.2.1)), (eA E (o + 4), .inl (eI E, 12, .inl x.2.2.2.2.2.2.2.2.2))]
def wK (E : EN) (x : TK) : va_W := [(eA E 18, .inr (1, [.ref (eA E 19), .int x.1, .int x.2.1])), (eA E 19, .inl (eJ E, 64, .inr (.inl x.2.2)))]
def wS (E : EN) (x : TS) : va_W := [(eA E 20, .inr (4, [.ref (eA E 21), .ref (eA E 22), .ref (eA E 23), .int x.1, .int x.2.1, .int x.2.2.1, .int x.2.2.2.1])), (eA E 21, .inl (eB E, 120, .inl x.2.2.2.2.1)), (eA E 22, .inl (eI E, 30, .inl x.2.2.2.2.2.1)), (eA E 23, .inl (eI E, 150, .inl x.2.2.2.2.2.2))]
def wP (E : EN) (x : TP) : va_W := [(eA E 24, .inr (2, [.ref (eA E 25), .int x.1])), (eA E 25, .inl (eB E, 300, .inl x.2))]
def wM (E : EN) (x : TM) : va_W := [(eA E 26, .inr (6, [.ref (eA E 27), .int x.1, .int x.2.1, .int x.2.2.1, .ref (eA E 28), .ref (eA E 29), .int x.2.2.2.1, .int x.2.2.2.2.1, .ref (eA E 30), .int x.2.2.2.2.2.1, .int x.2.2.2.2.2.2.1, .int x.2.2.2.2.2.2.2.1, .ref (eA E 31), .int x.2.2.2.2.2.2.2.2.1, .int x.2.2.2.2.2.2.2.2.2.1, .int x.2.2.2.2.2.2.2.2.2.2.1, .ref (eA E 32), .ref (eA E 33), .int x.2.2.2.2.2.2.2.2.2.2.2.1, .ref (eA E 34), .int x.2.2.2.2.2.2.2.2.2.2.2.2.1, .int x.2.2.2.2.2.2.2.2.2.2.2.2.2.1, .ref (eA E 35)])), (eA E 27, .inl (eI E, 60, .inl x.2.2.2.2.2.2.2.2.2.2.2.2.2.2.1)), (eA E 28, .inl (eI E, 3, .inl x.2.2.2.2.2.2.2.2.2.2.2.2.2.2.2.1)), (eA E 29, .inl (eI E, 12, .inl x.2.2.2.2.2.2.2.2.2.2.2.2.2.2.2.2.1)), (eA E 30, .inl (eI E, 36, .inl x.2.2.2.2.2.2.2.2.2.2.2.2.2.2.2.2.2.1)), (eA E 31, .inl (eI E, 36, .inl x.2.2.2.2.2.2.2.2.2.2.2.2.2.2.2.2.2.2.1)), (eA E 32, .inl (eZ E, 4096, .inl x.2.2.2.2.2.2.2.2.2.2.2.2.2.2.2.2.2.2.2.1)), (eA E 33, .inl (eI E, 120, .inl x.2.2.2.2.2.2.2.2.2.2.2.2.2.2.2.2.2.2.2.2.1)), (eA E 34, .inl (eI E, 300, .inl x.2.2.2.2.2.2.2.2.2.2.2.2.2.2.2.2.2.2.2.2.2.1)), (eA E 35, .inl (eI E, 5, .inl x.2.2.2.2.2.2.2.2.2.2.2.2.2.2.2.2.2.2.2.2.2.2))]
def wl (E : EN) (h : Hp) : va_W := wX E h.1 ++ (wR E h.2.1 ++ (wC E 8 h.2.2.1 ++ (wC E 13 h.2.2.2.1 ++ (wK E h.2.2.2.2.1 ++ (wS E h.2.2.2.2.2.1 ++ (wP E h.2.2.2.2.2.2.1 ++ (wM E h.2.2.2.2.2.2.2)))))))
def fA (E : EN) : Nat → Prop := fun q => ∃ k : Nat, k < 36 ∧ q = eA E k
theorem wl_ads (E : EN) (h : Hp) : (wl E h).map (fun q => q.1) = (List.range 36).map (eA E) := rfl
theorem wl_at {E : EN} {h : Hp} {i : Nat} {q : Nat × va_E} (hq : (wl E h)[i]? = some q) : i < 36 ∧ q.1 = eA E i := by
  have h1 : ((wl E h).map (fun q => q.1))[i]? = some q.1 := by rw [List.getElem?_map, hq]; rfl
  rw [wl_ads, List.getElem?_map] at h1
  cases hi : (List.range 36)[i]? with
  | none => rw [hi] at h1; cases h1
  | some j =>
    rw [hi] at h1
    have h2 := List.getElem?_eq_some_iff.mp hi
    obtain ⟨h3, h4⟩ := h2
    rw [List.getElem_range] at h4
    subst h4
    rw [List.length_range] at h3
    exact ⟨h3, (Option.some.inj h1).symm⟩
theorem wl_D {E : EN} (h : Hp) (hi : ∀ i j : Nat, i < 36 → j < 36 → eA E i = eA E j → i = j) : va_D (fA E) (wl E h) := by
  refine ⟨fun i j p q hp hq e => ?_, fun k q hq => ⟨k, (wl_at hq).1, (wl_at hq).2⟩⟩
  obtain ⟨h1, h2⟩ := wl_at hp
  obtain ⟨h3, h4⟩ := wl_at hq
  exact hi i j h1 h3 (by rw [← h2, ← h4, e])
/-- the tables' words that stay under warmer tables; the nest mates' -/
def TG : List Cond := lw_tbl.filter goodWord
def nestWord : Cond → Bool
  | .fieldLinkNest .. => true
  | .methodLinkNest .. => true
  | _ => false
def NW : List Cond := lw_tbl.filter nestWord
theorem NW_warm {s U : State} (hW : s.WarmedH U.vm) {w : Cond} (hn : nestWord w = true) (h : va_Nw w s) : va_Nw w U := by
  cases w <;> first | (exact va_Nw.warmF hW h) | (exact va_Nw.warmM hW h) | (simp [nestWord] at hn)
theorem NW_same {s U : State} (hv : s.vm = U.vm) {w : Cond} (hn : nestWord w = true) (h : va_Nw w s) : va_Nw w U := by
  cases w <;> first | (exact va_Nw.same rfl hv h) | (simp [nestWord] at hn)
theorem NW_tab {w : Cond} (hn : nestWord w = true) : w.onTables = true := by
  cases w <;> first | rfl | (simp [nestWord] at hn)
theorem TG_good {w : Cond} (h : w ∈ TG) : (w.onTables && w.keeps) = true ∨ ∃ ty, w = .arrayClass ty := good_of_word (List.mem_filter.mp h).2
/-- the String constants: their texts, in the order of Script.word -/
def sTx : List String := ["row", "near", "strata", "far", "chance", "unit", "turn", "place", "stratum", "size", "value", "walk", "many", ""]
def sLn : List Nat := sTx.map String.length
def sBy : List (List Int32) := [[114, 111, 119], [110, 101, 97, 114], [115, 116, 114, 97, 116, 97], [102, 97, 114], [99, 104, 97, 110, 99, 101], [117, 110, 105, 116], [116, 117, 114, 110], [112, 108, 97, 99, 101], [115, 116, 114, 97, 116, 117, 109], [115, 105, 122, 101], [118, 97, 108, 117, 101], [119, 97, 108, 107], [109, 97, 110, 121], []]
def mostF : Nat → Value := fun j => .int ((([12, 99, 3, 99, 99] : List Int32)).getD j 0)
/-- what stands unchanged all along: the classes, the statics, the constants, the nest mates' words -/
def St (E : EN) (U : State) (H : Heap) : Prop :=
  va_K (eD E) classes (tys E) U ∧ (∀ i j : Nat, i < 36 → j < 36 → eA E i = eA E j → i = j) ∧ (∀ w ∈ NW, va_Nw w U) ∧
  va_Z "DuelSamples$Roster" "MOST" "[I" (.ref (eM E)) (fA E) U H ∧ va_T .int (eM E) 5 mostF (fA E) U H ∧
  vk_S 14 sLn sBy (eK E) (eV E) (fA E) U H ∧ (∀ i : Nat, i < 14 → vk_R "DuelSamples$Script" (22 + 2 * i) (sTx.getD i "") (eK E i) U) ∧
  va_Z "java/lang/String" "COMPACT_STRINGS" "Z" (.int 1) (fA E) U H ∧ va_Zq "jdk/internal/util/Preconditions" "SIOOBE_FORMATTER" "Ljava/util/function/BiFunction;" (fA E) U H
theorem St.warm {E : EN} {s U : State} {H : Heap} (hW : s.WarmedH U.vm) (h : St E s H) : St E U H := by
  obtain ⟨h1, h2, h3, h4, h5, h6, h7, h8, h9⟩ := h
  exact ⟨va_K.moved hW.alike h1, h2, fun w hw => NW_warm hW (List.mem_filter.mp hw).2 (h3 w hw), h4.moved hW.alike, h5.moved hW.alike, h6.moved hW.alike, fun i hi => (h7 i hi).warm hW, h8.moved hW.alike, h9.moved hW.alike⟩
theorem St.same {E : EN} {s U : State} {H : Heap} (hv : s.vm = U.vm) (h : St E s H) : St E U H := by
  obtain ⟨h1, h2, h3, h4, h5, h6, h7, h8, h9⟩ := h
  have ha : s.vm.Alike U.vm := by rw [hv]; exact Vm.Alike.refl U.vm
  exact ⟨va_K.moved ha h1, h2, fun w hw => NW_same hv (List.mem_filter.mp hw).2 (h3 w hw), h4.moved ha, h5.moved ha, h6.moved ha, fun i hi => (h7 i hi).same hv.symm, h8.moved ha, h9.moved ha⟩
theorem St.kept {E : EN} {U : State} {H H1 : Heap} (h : St E U H) (hq : ∀ a : Nat, a < H.size → ¬ fA E a → H1[a]? = H[a]?) : St E U H1 := by
  obtain ⟨h1, h2, h3, h4, h5, h6, h7, h8, h9⟩ := h
  exact ⟨h1, h2, h3, h4.kept hq, h5.kept hq, h6.kept hq, h7, h8.kept hq, h9.kept hq⟩
/-! A METHOD'S CONTRACT over the abstract heap: Sem; a walk of its body: Wa -/
abbrev rmd (d : Nat) : Room := { frames := d, cells := 0, slots := 0, locals := 64 * d }
def Pr (E : EN) (av : List Value) (h : Hp) : Array Value → State → Prop := fun v U => v = av.toArray ∧ St E U U.heap ∧ va_P (eD E) classes (wl E h) U.heap
def Qr (E : EN) (res : Option Value × Hp) : Array Value → State → Outcome → State → Prop := fun _ st o t => o = .returned res.1 ∧ va_P (eD E) classes (wl E res.2) t.heap ∧ va_F (fA E) st t
abbrev wsM (y : MethodName) (cc : ByteArray) (nL : Nat) (ret : Option FieldType) : List Cond := .code y cc nL ret :: TG
def Sem (E : EN) (y : MethodName) (cc : ByteArray) (nL : Nat) (ret : Option FieldType) (d : Nat) (av : List Value) (h : Hp) (res : Option Value × Hp) : Prop :=
  Met (eL E) y (wsM y cc nL ret) (rmd d) (Pr E av h) (Qr E res) 0 0 (fA E)
theorem Pr_blind (E : EN) (av : List Value) (h : Hp) : FrameBlind (Pr E av h) := fun a U g mk q => ⟨q.1, (St.same (s := U) (U := U.calling g mk a) (H := U.heap) rfl q.2.1 : St E (U.calling g mk a) U.heap), q.2.2⟩
def Wx (E : EN) (y : MethodName) (cc : ByteArray) (nL : Nat) (ret : Option FieldType) (p : Program) (s : State) (m : MethodId) (args : Array Value) (meth : Method) (c : Code) (H : Heap) (locs : List Loc) (ls : Array Slot) (lv : List (Nat × Value)) (h : Hp) : Prop :=
  (p.tables.exec = Jvm.exec ∧ c.code = cc ∧ meth.sig.returnType = ret ∧ c.maxLocals = nL ∧ s.vm.findClass y.cls = some m.cls ∧ (∀ w ∈ TG, w.before args s = true) ∧ meth.locks = false) ∧ St E s s.heap ∧ va_P (eD E) classes (wl E h) H ∧ va_S (fA E) s.heap H locs ∧ lv_has ls nL lv
def Wa (E : EN) (y : MethodName) (cc : ByteArray) (nL : Nat) (ret : Option FieldType) (d : Nat) (res : Option Value × Hp) (pc : Nat) (lv : List (Nat × Value)) (st : List Value) (h : Hp) : Prop :=
  ∀ (p : Program) (e : Env) (s : State) (m : MethodId) (args : Array Value) (below : List Frame) (meth : Method) (c : Code) (H : Heap) (locs : List Loc) (ls : Array Slot),
    Wx E y cc nL ret p s m args meth c H locs ls lv h → W p (eL E) e (rmd d) s m args below meth c H locs 0 0 (MQ below (Qr E res) args s 0 0 (fA E)) (F0 m pc ls st)
theorem Sem.mk {E : EN} {y : MethodName} {cc : ByteArray} {nL : Nat} {ret : Option FieldType} {d : Nat} {av : List Value} {h : Hp} {res : Option Value × Hp} {lv : List (Nat × Value)} (hy : plainName y.cls = true) (hn : (lg_sl av).length ≤ nL) (hlv : lv_args 0 av = lv)
    (k : Wa E y cc nL ret d res 0 lv [] h) : Sem E y cc nL ret d av h res := by
  refine Met.ofW (cc := cc) (maxL := nL) (ret := ret) hy rfl ?_
  intro p e s m args below meth c s₁ B hml hv
  obtain ⟨rfl, hSt, hP⟩ := hv
  have hts := atoms_spec (ws := wsM y cc nL ret) B.pre
  have hl := lv_entry av (n := nL) hn
  rw [hlv] at hl
  rw [lg_entry_eq]
  exact k p e s m _ below meth c s.heap [] _ ⟨⟨B.exec, B.bytes, B.returns, hml, findClass_of_methodNamed B.named, fun w hw => hts w (List.mem_cons_of_mem _ hw), B.notSynchronized⟩, hSt, hP, va_S.rf, hl⟩
theorem Wa.sub {E : EN} {y : MethodName} {cc : ByteArray} {nL : Nat} {ret : Option FieldType} {d : Nat} {res : Option Value × Hp} {pc : Nat} {lv lv' : List (Nat × Value)} {st : List Value} {h : Hp} (ks : List Nat) (hk : lv_pick lv ks = lv') (k : Wa E y cc nL ret d res pc lv' st h) : Wa E y cc nL ret d res pc lv st h :=
  fun p e s m args below meth c H locs ls X => k p e s m args below meth c H locs ls ⟨X.1, X.2.1, X.2.2.1, X.2.2.2.1, lv_sub X.2.2.2.2 ks hk⟩
/-! facts of the functions, taken apart -/
theorem hf_pos {α : Type} {c : Prop} [Decidable c] {A B x : α} (hc : c) (h : (if c then A else B) = x) : A = x := (if_pos hc).symm.trans h
theorem hf_neg {α : Type} {c : Prop} [Decidable c] {A B x : α} (hc : ¬ c) (h : (if c then A else B) = x) : B = x := (if_neg hc).symm.trans h
theorem hf_bind {α β : Type} {o : Option α} {g : α → Option β} {b : β} (h : o.bind g = some b) : ∃ a, o = some a ∧ g a = some b := Option.bind_eq_some_iff.mp h
/-- an index in its row -/
def inB (i : Int32) (n : Nat) : Bool := decide (¬ (i < 0 ∨ n ≤ i.toNatClampNeg))
theorem inB_in {i : Int32} {n : Nat} (h : inB i n = true) : vp_in i n := (of_decide_eq_true h : ¬ (i < 0 ∨ n ≤ i.toNatClampNeg))
theorem hf_in {α : Type} {i : Int32} {n : Nat} {A : Option α} {x : α} (h : (if inB i n then A else none) = some x) : vp_in i n ∧ A = some x := by
  by_cases hc : inB i n = true
  · rw [if_pos hc] at h
    exact ⟨inB_in hc, h⟩
  · rw [if_neg hc] at h
    cases h
theorem hf_nz {α β : Type} [DecidableEq β] {y z : β} {A : Option α} {x : α} (h : (if y = z then none else A) = some x) : ¬ y = z ∧ A = some x := by
  by_cases hc : y = z
  · rw [if_pos hc] at h
    cases h
  · rw [if_neg hc] at h
    exact ⟨hc, h⟩

section
variable {E : EN} {y : MethodName} {cc : ByteArray} {nL : Nat} {ret : Option FieldType} {d : Nat} {res : Option Value × Hp} {pc : Nat} {lv lv2 : List (Nat × Value)} {st : List Value} {h : Hp}
theorem r_iconst {n : Int} {v : Int32} (hdg : decode cc pc = .ok (.iconst n, 1)) (hv : Int32.ofInt n = v) (k : Wa E y cc nL ret d res (pc + 1) lv (.int v :: st) h) : Wa E y cc nL ret d res pc lv (st) h := by
  intro p e s m args below meth c H locs ls X
  obtain ⟨⟨hx, hb, hr, hml, hown, hts, hlk⟩, hSt, hP, hS, hl⟩ := id X
  exact lv_iconst hx hb hdg hv (k p e s m args below meth c H locs ls X)
theorem r_bipush {n : Int} {v : Int32} (hdg : decode cc pc = .ok (.bipush n, 2)) (hv : (Int8.ofInt n).toInt32 = v) (k : Wa E y cc nL ret d res (pc + 2) lv (.int v :: st) h) : Wa E y cc nL ret d res pc lv (st) h := by
  intro p e s m args below meth c H locs ls X
  obtain ⟨⟨hx, hb, hr, hml, hown, hts, hlk⟩, hSt, hP, hS, hl⟩ := id X
  exact lv_bipush hx hb hdg hv (k p e s m args below meth c H locs ls X)
theorem r_sipush {n : Int} {v : Int32} (hdg : decode cc pc = .ok (.sipush n, 3)) (hv : (Int16.ofInt n).toInt32 = v) (k : Wa E y cc nL ret d res (pc + 3) lv (.int v :: st) h) : Wa E y cc nL ret d res pc lv (st) h := by
  intro p e s m args below meth c H locs ls X
  obtain ⟨⟨hx, hb, hr, hml, hown, hts, hlk⟩, hSt, hP, hS, hl⟩ := id X
  exact lv_sipush hx hb hdg hv (k p e s m args below meth c H locs ls X)
theorem r_lconst {n : Fin 2} {v : Int64} (hdg : decode cc pc = .ok (.lconst n, 1)) (hv : Int64.ofNat (n : Nat) = v) (k : Wa E y cc nL ret d res (pc + 1) lv (.long v :: st) h) : Wa E y cc nL ret d res pc lv (st) h := by
  intro p e s m args below meth c H locs ls X
  obtain ⟨⟨hx, hb, hr, hml, hown, hts, hlk⟩, hSt, hP, hS, hl⟩ := id X
  exact lv_lconst hx hb hdg hv (k p e s m args below meth c H locs ls X)
theorem r_iload_n {k9 : Fin 4} {x : Int32} (hdg : decode cc pc = .ok (.iload_n k9, 1)) (j : Nat) (hv : lv[j]? = some ((k9 : Nat), .int x)) (k : Wa E y cc nL ret d res (pc + 1) lv (.int x :: st) h) : Wa E y cc nL ret d res pc lv (st) h := by
  intro p e s m args below meth c H locs ls X
  obtain ⟨⟨hx, hb, hr, hml, hown, hts, hlk⟩, hSt, hP, hS, hl⟩ := id X
  exact lv_iload_n hx hb hdg rfl (lv_at hl j hv) (k p e s m args below meth c H locs ls X)
theorem r_iload {i9 : Nat} {x : Int32} (hdg : decode cc pc = .ok (.iload i9, 2)) (j : Nat) (hv : lv[j]? = some (i9, .int x)) (k : Wa E y cc nL ret d res (pc + 2) lv (.int x :: st) h) : Wa E y cc nL ret d res pc lv (st) h := by
  intro p e s m args below meth c H locs ls X
  obtain ⟨⟨hx, hb, hr, hml, hown, hts, hlk⟩, hSt, hP, hS, hl⟩ := id X
  exact lv_iload hx hb hdg (lv_at hl j hv) (k p e s m args below meth c H locs ls X)
theorem r_istore_n {k9 : Fin 4} {i9 : Nat} {x : Int32} (hdg : decode cc pc = .ok (.istore_n k9, 1)) (hi : (k9 : Nat) = i9) (hn : i9 < nL) (hv : (i9, Value.int x) :: lv.filter (fun q => !(q.1 == i9) && !(q.1 + 1 == i9 && q.2.category == 2)) = lv2) (k : Wa E y cc nL ret d res (pc + 1) lv2 st h) : Wa E y cc nL ret d res pc lv (.int x :: st) h := by
  intro p e s m args below meth c H locs ls X
  obtain ⟨⟨hx, hb, hr, hml, hown, hts, hlk⟩, hSt, hP, hS, hl⟩ := id X
  exact lv_istore_n hx hb hdg hi hl hn hv (fun ls hl => k p e s m args below meth c H locs ls ⟨X.1, hSt, hP, hS, hl⟩)
theorem r_istore {i9 : Nat} {x : Int32} (hdg : decode cc pc = .ok (.istore i9, 2)) (hn : i9 < nL) (hv : (i9, Value.int x) :: lv.filter (fun q => !(q.1 == i9) && !(q.1 + 1 == i9 && q.2.category == 2)) = lv2) (k : Wa E y cc nL ret d res (pc + 2) lv2 st h) : Wa E y cc nL ret d res pc lv (.int x :: st) h := by
  intro p e s m args below meth c H locs ls X
  obtain ⟨⟨hx, hb, hr, hml, hown, hts, hlk⟩, hSt, hP, hS, hl⟩ := id X
  exact lv_istore hx hb hdg hl hn hv (fun ls hl => k p e s m args below meth c H locs ls ⟨X.1, hSt, hP, hS, hl⟩)
theorem r_lload_n {k9 : Fin 4} {x : Int64} (hdg : decode cc pc = .ok (.lload_n k9, 1)) (j : Nat) (hv : lv[j]? = some ((k9 : Nat), .long x)) (k : Wa E y cc nL ret d res (pc + 1) lv (.long x :: st) h) : Wa E y cc nL ret d res pc lv (st) h := by
  intro p e s m args below meth c H locs ls X
  obtain ⟨⟨hx, hb, hr, hml, hown, hts, hlk⟩, hSt, hP, hS, hl⟩ := id X
  exact lv_lload_n hx hb hdg rfl (lv_at hl j hv) (k p e s m args below meth c H locs ls X)
theorem r_lload {i9 : Nat} {x : Int64} (hdg : decode cc pc = .ok (.lload i9, 2)) (j : Nat) (hv : lv[j]? = some (i9, .long x)) (k : Wa E y cc nL ret d res (pc + 2) lv (.long x :: st) h) : Wa E y cc nL ret d res pc lv (st) h := by
  intro p e s m args below meth c H locs ls X
  obtain ⟨⟨hx, hb, hr, hml, hown, hts, hlk⟩, hSt, hP, hS, hl⟩ := id X
  exact lv_lload hx hb hdg (lv_at hl j hv) (k p e s m args below meth c H locs ls X)
theorem r_lstore_n {k9 : Fin 4} {i9 : Nat} {x : Int64} (hdg : decode cc pc = .ok (.lstore_n k9, 1)) (hi : (k9 : Nat) = i9) (hn : i9 + 1 < nL) (hv : (i9, Value.long x) :: lv.filter (fun q => !(q.1 == i9) && (!(q.1 == i9 + 1) && !(q.1 + 1 == i9 && q.2.category == 2))) = lv2) (k : Wa E y cc nL ret d res (pc + 1) lv2 st h) : Wa E y cc nL ret d res pc lv (.long x :: st) h := by
  intro p e s m args below meth c H locs ls X
  obtain ⟨⟨hx, hb, hr, hml, hown, hts, hlk⟩, hSt, hP, hS, hl⟩ := id X
  exact lv_lstore_n hx hb hdg hi hl hn hv (fun ls hl => k p e s m args below meth c H locs ls ⟨X.1, hSt, hP, hS, hl⟩)
theorem r_lstore {i9 : Nat} {x : Int64} (hdg : decode cc pc = .ok (.lstore i9, 2)) (hn : i9 + 1 < nL) (hv : (i9, Value.long x) :: lv.filter (fun q => !(q.1 == i9) && (!(q.1 == i9 + 1) && !(q.1 + 1 == i9 && q.2.category == 2))) = lv2) (k : Wa E y cc nL ret d res (pc + 2) lv2 st h) : Wa E y cc nL ret d res pc lv (.long x :: st) h := by
  intro p e s m args below meth c H locs ls X
  obtain ⟨⟨hx, hb, hr, hml, hown, hts, hlk⟩, hSt, hP, hS, hl⟩ := id X
  exact lv_lstore hx hb hdg hl hn hv (fun ls hl => k p e s m args below meth c H locs ls ⟨X.1, hSt, hP, hS, hl⟩)
theorem r_aload_n {k9 : Fin 4} {x : Nat} (hdg : decode cc pc = .ok (.aload_n k9, 1)) (j : Nat) (hv : lv[j]? = some ((k9 : Nat), .ref x)) (k : Wa E y cc nL ret d res (pc + 1) lv (.ref x :: st) h) : Wa E y cc nL ret d res pc lv (st) h := by
  intro p e s m args below meth c H locs ls X
  obtain ⟨⟨hx, hb, hr, hml, hown, hts, hlk⟩, hSt, hP, hS, hl⟩ := id X
  exact lv_aload_n hx hb hdg rfl (lv_at hl j hv) (k p e s m args below meth c H locs ls X)
theorem r_aload {i9 : Nat} {x : Nat} (hdg : decode cc pc = .ok (.aload i9, 2)) (j : Nat) (hv : lv[j]? = some (i9, .ref x)) (k : Wa E y cc nL ret d res (pc + 2) lv (.ref x :: st) h) : Wa E y cc nL ret d res pc lv (st) h := by
  intro p e s m args below meth c H locs ls X
  obtain ⟨⟨hx, hb, hr, hml, hown, hts, hlk⟩, hSt, hP, hS, hl⟩ := id X
  exact lv_aload hx hb hdg (lv_at hl j hv) (k p e s m args below meth c H locs ls X)
theorem r_astore_n {k9 : Fin 4} {i9 : Nat} {x : Nat} (hdg : decode cc pc = .ok (.astore_n k9, 1)) (hi : (k9 : Nat) = i9) (hn : i9 < nL) (hv : (i9, Value.ref x) :: lv.filter (fun q => !(q.1 == i9) && !(q.1 + 1 == i9 && q.2.category == 2)) = lv2) (k : Wa E y cc nL ret d res (pc + 1) lv2 st h) : Wa E y cc nL ret d res pc lv (.ref x :: st) h := by
  intro p e s m args below meth c H locs ls X
  obtain ⟨⟨hx, hb, hr, hml, hown, hts, hlk⟩, hSt, hP, hS, hl⟩ := id X
  exact lv_astore_n hx hb hdg hi hl hn hv (fun ls hl => k p e s m args below meth c H locs ls ⟨X.1, hSt, hP, hS, hl⟩)
theorem r_astore {i9 : Nat} {x : Nat} (hdg : decode cc pc = .ok (.astore i9, 2)) (hn : i9 < nL) (hv : (i9, Value.ref x) :: lv.filter (fun q => !(q.1 == i9) && !(q.1 + 1 == i9 && q.2.category == 2)) = lv2) (k : Wa E y cc nL ret d res (pc + 2) lv2 st h) : Wa E y cc nL ret d res pc lv (.ref x :: st) h := by
  intro p e s m args below meth c H locs ls X
  obtain ⟨⟨hx, hb, hr, hml, hown, hts, hlk⟩, hSt, hP, hS, hl⟩ := id X
  exact lv_astore hx hb hdg hl hn hv (fun ls hl => k p e s m args below meth c H locs ls ⟨X.1, hSt, hP, hS, hl⟩)
theorem r_iinc {i9 : Nat} {n : Int} {x v : Int32} (hdg : decode cc pc = .ok (.iinc i9 n, 3)) (j : Nat) (hk : lv[j]? = some (i9, .int x)) (hw : x + Int32.ofInt n = v) (hn : i9 < nL) (hv : (i9, Value.int v) :: lv.filter (fun q => !(q.1 == i9) && !(q.1 + 1 == i9 && q.2.category == 2)) = lv2) (k : Wa E y cc nL ret d res (pc + 3) lv2 st h) : Wa E y cc nL ret d res pc lv st h := by
  intro p e s m args below meth c H locs ls X
  obtain ⟨⟨hx, hb, hr, hml, hown, hts, hlk⟩, hSt, hP, hS, hl⟩ := id X
  exact lv_iinc hx hb hdg hl hk hw hn hv (fun ls hl => k p e s m args below meth c H locs ls ⟨X.1, hSt, hP, hS, hl⟩)
theorem r_iadd {a b : Int32} (hdg : decode cc pc = .ok (.iadd, 1))  (k : Wa E y cc nL ret d res (pc + 1) lv (.int (a + b) :: st) h) : Wa E y cc nL ret d res pc lv (.int b :: .int a :: st) h := by
  intro p e s m args below meth c H locs ls X
  obtain ⟨⟨hx, hb, hr, hml, hown, hts, hlk⟩, hSt, hP, hS, hl⟩ := id X
  exact lv_iadd hx hb hdg (k p e s m args below meth c H locs ls X)
theorem r_isub {a b : Int32} (hdg : decode cc pc = .ok (.isub, 1))  (k : Wa E y cc nL ret d res (pc + 1) lv (.int (a - b) :: st) h) : Wa E y cc nL ret d res pc lv (.int b :: .int a :: st) h := by
  intro p e s m args below meth c H locs ls X
  obtain ⟨⟨hx, hb, hr, hml, hown, hts, hlk⟩, hSt, hP, hS, hl⟩ := id X
  exact lv_isub hx hb hdg (k p e s m args below meth c H locs ls X)
theorem r_imul {a b : Int32} (hdg : decode cc pc = .ok (.imul, 1))  (k : Wa E y cc nL ret d res (pc + 1) lv (.int (a * b) :: st) h) : Wa E y cc nL ret d res pc lv (.int b :: .int a :: st) h := by
  intro p e s m args below meth c H locs ls X
  obtain ⟨⟨hx, hb, hr, hml, hown, hts, hlk⟩, hSt, hP, hS, hl⟩ := id X
  exact lv_imul hx hb hdg (k p e s m args below meth c H locs ls X)
theorem r_iand {a b : Int32} (hdg : decode cc pc = .ok (.iand, 1))  (k : Wa E y cc nL ret d res (pc + 1) lv (.int (a &&& b) :: st) h) : Wa E y cc nL ret d res pc lv (.int b :: .int a :: st) h := by
  intro p e s m args below meth c H locs ls X
  obtain ⟨⟨hx, hb, hr, hml, hown, hts, hlk⟩, hSt, hP, hS, hl⟩ := id X
  exact lv_iand hx hb hdg (k p e s m args below meth c H locs ls X)
theorem r_ior {a b : Int32} (hdg : decode cc pc = .ok (.ior, 1))  (k : Wa E y cc nL ret d res (pc + 1) lv (.int (a ||| b) :: st) h) : Wa E y cc nL ret d res pc lv (.int b :: .int a :: st) h := by
  intro p e s m args below meth c H locs ls X
  obtain ⟨⟨hx, hb, hr, hml, hown, hts, hlk⟩, hSt, hP, hS, hl⟩ := id X
  exact lv_ior hx hb hdg (k p e s m args below meth c H locs ls X)
theorem r_ixor {a b : Int32} (hdg : decode cc pc = .ok (.ixor, 1))  (k : Wa E y cc nL ret d res (pc + 1) lv (.int (a ^^^ b) :: st) h) : Wa E y cc nL ret d res pc lv (.int b :: .int a :: st) h := by
  intro p e s m args below meth c H locs ls X
  obtain ⟨⟨hx, hb, hr, hml, hown, hts, hlk⟩, hSt, hP, hS, hl⟩ := id X
  exact lv_ixor hx hb hdg (k p e s m args below meth c H locs ls X)
theorem r_ishl {a b : Int32} (hdg : decode cc pc = .ok (.ishl, 1))  (k : Wa E y cc nL ret d res (pc + 1) lv (.int (a <<< (b &&& 31)) :: st) h) : Wa E y cc nL ret d res pc lv (.int b :: .int a :: st) h := by
  intro p e s m args below meth c H locs ls X
  obtain ⟨⟨hx, hb, hr, hml, hown, hts, hlk⟩, hSt, hP, hS, hl⟩ := id X
  exact lv_ishl hx hb hdg (k p e s m args below meth c H locs ls X)
theorem r_ishr {a b : Int32} (hdg : decode cc pc = .ok (.ishr, 1))  (k : Wa E y cc nL ret d res (pc + 1) lv (.int (a >>> (b &&& 31)) :: st) h) : Wa E y cc nL ret d res pc lv (.int b :: .int a :: st) h := by
  intro p e s m args below meth c H locs ls X
  obtain ⟨⟨hx, hb, hr, hml, hown, hts, hlk⟩, hSt, hP, hS, hl⟩ := id X
  exact lv_ishr hx hb hdg (k p e s m args below meth c H locs ls X)
theorem r_ladd {a b : Int64} (hdg : decode cc pc = .ok (.ladd, 1))  (k : Wa E y cc nL ret d res (pc + 1) lv (.long (a + b) :: st) h) : Wa E y cc nL ret d res pc lv (.long b :: .long a :: st) h := by
  intro p e s m args below meth c H locs ls X
  obtain ⟨⟨hx, hb, hr, hml, hown, hts, hlk⟩, hSt, hP, hS, hl⟩ := id X
  exact lv_ladd hx hb hdg (k p e s m args below meth c H locs ls X)
theorem r_lsub {a b : Int64} (hdg : decode cc pc = .ok (.lsub, 1))  (k : Wa E y cc nL ret d res (pc + 1) lv (.long (a - b) :: st) h) : Wa E y cc nL ret d res pc lv (.long b :: .long a :: st) h := by
  intro p e s m args below meth c H locs ls X
  obtain ⟨⟨hx, hb, hr, hml, hown, hts, hlk⟩, hSt, hP, hS, hl⟩ := id X
  exact lv_lsub hx hb hdg (k p e s m args below meth c H locs ls X)
theorem r_lmul {a b : Int64} (hdg : decode cc pc = .ok (.lmul, 1))  (k : Wa E y cc nL ret d res (pc + 1) lv (.long (a * b) :: st) h) : Wa E y cc nL ret d res pc lv (.long b :: .long a :: st) h := by
  intro p e s m args below meth c H locs ls X
  obtain ⟨⟨hx, hb, hr, hml, hown, hts, hlk⟩, hSt, hP, hS, hl⟩ := id X
  exact lv_lmul hx hb hdg (k p e s m args below meth c H locs ls X)
theorem r_land {a b : Int64} (hdg : decode cc pc = .ok (.land, 1))  (k : Wa E y cc nL ret d res (pc + 1) lv (.long (a &&& b) :: st) h) : Wa E y cc nL ret d res pc lv (.long b :: .long a :: st) h := by
  intro p e s m args below meth c H locs ls X
  obtain ⟨⟨hx, hb, hr, hml, hown, hts, hlk⟩, hSt, hP, hS, hl⟩ := id X
  exact lv_land hx hb hdg (k p e s m args below meth c H locs ls X)
theorem r_lor {a b : Int64} (hdg : decode cc pc = .ok (.lor, 1))  (k : Wa E y cc nL ret d res (pc + 1) lv (.long (a ||| b) :: st) h) : Wa E y cc nL ret d res pc lv (.long b :: .long a :: st) h := by
  intro p e s m args below meth c H locs ls X
  obtain ⟨⟨hx, hb, hr, hml, hown, hts, hlk⟩, hSt, hP, hS, hl⟩ := id X
  exact lv_lor hx hb hdg (k p e s m args below meth c H locs ls X)
theorem r_lxor {a b : Int64} (hdg : decode cc pc = .ok (.lxor, 1))  (k : Wa E y cc nL ret d res (pc + 1) lv (.long (a ^^^ b) :: st) h) : Wa E y cc nL ret d res pc lv (.long b :: .long a :: st) h := by
  intro p e s m args below meth c H locs ls X
  obtain ⟨⟨hx, hb, hr, hml, hown, hts, hlk⟩, hSt, hP, hS, hl⟩ := id X
  exact lv_lxor hx hb hdg (k p e s m args below meth c H locs ls X)
theorem r_idiv {a b : Int32} (hdg : decode cc pc = .ok (.idiv, 1)) (hne : ¬ b = 0) (k : Wa E y cc nL ret d res (pc + 1) lv (.int (a / b) :: st) h) : Wa E y cc nL ret d res pc lv (.int b :: .int a :: st) h := by
  intro p e s m args below meth c H locs ls X
  obtain ⟨⟨hx, hb, hr, hml, hown, hts, hlk⟩, hSt, hP, hS, hl⟩ := id X
  exact lv_idiv hx hb hdg hne (k p e s m args below meth c H locs ls X)
theorem r_irem {a b : Int32} (hdg : decode cc pc = .ok (.irem, 1)) (hne : ¬ b = 0) (k : Wa E y cc nL ret d res (pc + 1) lv (.int (a - a / b * b) :: st) h) : Wa E y cc nL ret d res pc lv (.int b :: .int a :: st) h := by
  intro p e s m args below meth c H locs ls X
  obtain ⟨⟨hx, hb, hr, hml, hown, hts, hlk⟩, hSt, hP, hS, hl⟩ := id X
  exact lv_irem hx hb hdg hne (k p e s m args below meth c H locs ls X)
theorem r_ldiv {a b : Int64} (hdg : decode cc pc = .ok (.ldiv, 1)) (hne : ¬ b = 0) (k : Wa E y cc nL ret d res (pc + 1) lv (.long (a / b) :: st) h) : Wa E y cc nL ret d res pc lv (.long b :: .long a :: st) h := by
  intro p e s m args below meth c H locs ls X
  obtain ⟨⟨hx, hb, hr, hml, hown, hts, hlk⟩, hSt, hP, hS, hl⟩ := id X
  exact lv_ldiv hx hb hdg hne (k p e s m args below meth c H locs ls X)
theorem r_lrem {a b : Int64} (hdg : decode cc pc = .ok (.lrem, 1)) (hne : ¬ b = 0) (k : Wa E y cc nL ret d res (pc + 1) lv (.long (a - a / b * b) :: st) h) : Wa E y cc nL ret d res pc lv (.long b :: .long a :: st) h := by
  intro p e s m args below meth c H locs ls X
  obtain ⟨⟨hx, hb, hr, hml, hown, hts, hlk⟩, hSt, hP, hS, hl⟩ := id X
  exact lv_lrem hx hb hdg hne (k p e s m args below meth c H locs ls X)
theorem r_ineg {a : Int32} (hdg : decode cc pc = .ok (.ineg, 1))  (k : Wa E y cc nL ret d res (pc + 1) lv (.int (-a) :: st) h) : Wa E y cc nL ret d res pc lv (.int a :: st) h := by
  intro p e s m args below meth c H locs ls X
  obtain ⟨⟨hx, hb, hr, hml, hown, hts, hlk⟩, hSt, hP, hS, hl⟩ := id X
  exact lv_ineg hx hb hdg (k p e s m args below meth c H locs ls X)
theorem r_lneg {a : Int64} (hdg : decode cc pc = .ok (.lneg, 1))  (k : Wa E y cc nL ret d res (pc + 1) lv (.long (-a) :: st) h) : Wa E y cc nL ret d res pc lv (.long a :: st) h := by
  intro p e s m args below meth c H locs ls X
  obtain ⟨⟨hx, hb, hr, hml, hown, hts, hlk⟩, hSt, hP, hS, hl⟩ := id X
  exact lv_lneg hx hb hdg (k p e s m args below meth c H locs ls X)
theorem r_i2l {a : Int32} (hdg : decode cc pc = .ok (.i2l, 1))  (k : Wa E y cc nL ret d res (pc + 1) lv (.long a.toInt64 :: st) h) : Wa E y cc nL ret d res pc lv (.int a :: st) h := by
  intro p e s m args below meth c H locs ls X
  obtain ⟨⟨hx, hb, hr, hml, hown, hts, hlk⟩, hSt, hP, hS, hl⟩ := id X
  exact lv_i2l hx hb hdg rfl (k p e s m args below meth c H locs ls X)
theorem r_l2i {a : Int64} (hdg : decode cc pc = .ok (.l2i, 1))  (k : Wa E y cc nL ret d res (pc + 1) lv (.int a.toInt32 :: st) h) : Wa E y cc nL ret d res pc lv (.long a :: st) h := by
  intro p e s m args below meth c H locs ls X
  obtain ⟨⟨hx, hb, hr, hml, hown, hts, hlk⟩, hSt, hP, hS, hl⟩ := id X
  exact lv_l2i hx hb hdg rfl (k p e s m args below meth c H locs ls X)
theorem r_i2b {a : Int32} (hdg : decode cc pc = .ok (.i2b, 1))  (k : Wa E y cc nL ret d res (pc + 1) lv (.int a.toInt8.toInt32 :: st) h) : Wa E y cc nL ret d res pc lv (.int a :: st) h := by
  intro p e s m args below meth c H locs ls X
  obtain ⟨⟨hx, hb, hr, hml, hown, hts, hlk⟩, hSt, hP, hS, hl⟩ := id X
  exact lv_i2b hx hb hdg rfl (k p e s m args below meth c H locs ls X)
theorem r_i2c {a : Int32} (hdg : decode cc pc = .ok (.i2c, 1))  (k : Wa E y cc nL ret d res (pc + 1) lv (.int (a.toUInt32 % 65536).toInt32 :: st) h) : Wa E y cc nL ret d res pc lv (.int a :: st) h := by
  intro p e s m args below meth c H locs ls X
  obtain ⟨⟨hx, hb, hr, hml, hown, hts, hlk⟩, hSt, hP, hS, hl⟩ := id X
  exact lv_i2c hx hb hdg rfl (k p e s m args below meth c H locs ls X)
theorem r_iushr {a b : Int32} (hdg : decode cc pc = .ok (.iushr, 1))  (k : Wa E y cc nL ret d res (pc + 1) lv (.int (a.toUInt32 >>> (b.toUInt32 &&& Int32.toUInt32 31)).toInt32 :: st) h) : Wa E y cc nL ret d res pc lv (.int b :: .int a :: st) h := by
  intro p e s m args below meth c H locs ls X
  obtain ⟨⟨hx, hb, hr, hml, hown, hts, hlk⟩, hSt, hP, hS, hl⟩ := id X
  exact lv_iushr hx hb hdg rfl (k p e s m args below meth c H locs ls X)
theorem r_lushr {a : Int64} {b : Int32} (hdg : decode cc pc = .ok (.lushr, 1))  (k : Wa E y cc nL ret d res (pc + 1) lv (.long (a.toUInt64 >>> (b.toInt64.toUInt64 &&& Int64.toUInt64 63)).toInt64 :: st) h) : Wa E y cc nL ret d res pc lv (.int b :: .long a :: st) h := by
  intro p e s m args below meth c H locs ls X
  obtain ⟨⟨hx, hb, hr, hml, hown, hts, hlk⟩, hSt, hP, hS, hl⟩ := id X
  exact lv_lushr hx hb hdg rfl (k p e s m args below meth c H locs ls X)
theorem r_lshl {a : Int64} {b : Int32} (hdg : decode cc pc = .ok (.lshl, 1))  (k : Wa E y cc nL ret d res (pc + 1) lv (.long (a <<< (b.toInt64 &&& 63)) :: st) h) : Wa E y cc nL ret d res pc lv (.int b :: .long a :: st) h := by
  intro p e s m args below meth c H locs ls X
  obtain ⟨⟨hx, hb, hr, hml, hown, hts, hlk⟩, hSt, hP, hS, hl⟩ := id X
  exact lv_lshl hx hb hdg rfl (k p e s m args below meth c H locs ls X)
theorem r_lshr {a : Int64} {b : Int32} (hdg : decode cc pc = .ok (.lshr, 1))  (k : Wa E y cc nL ret d res (pc + 1) lv (.long (a >>> (b.toInt64 &&& 63)) :: st) h) : Wa E y cc nL ret d res pc lv (.int b :: .long a :: st) h := by
  intro p e s m args below meth c H locs ls X
  obtain ⟨⟨hx, hb, hr, hml, hown, hts, hlk⟩, hSt, hP, hS, hl⟩ := id X
  exact lv_lshr hx hb hdg rfl (k p e s m args below meth c H locs ls X)
theorem r_lcmp {a b : Int64} (hdg : decode cc pc = .ok (.lcmp, 1)) (k : Wa E y cc nL ret d res (pc + 1) lv (.int (lg_cmp a b) :: st) h) : Wa E y cc nL ret d res pc lv (.long b :: .long a :: st) h := by
  intro p e s m args below meth c H locs ls X
  obtain ⟨⟨hx, hb, hr, hml, hown, hts, hlk⟩, hSt, hP, hS, hl⟩ := id X
  exact W.lcmp hx hb hdg (k p e s m args below meth c H locs ls X)
theorem r_dup {v : Value} (hdg : decode cc pc = .ok (.dup, 1)) (hv : v.category = 1) (k : Wa E y cc nL ret d res (pc + 1) lv (v :: v :: st) h) : Wa E y cc nL ret d res pc lv (v :: st) h := by
  intro p e s m args below meth c H locs ls X
  obtain ⟨⟨hx, hb, hr, hml, hown, hts, hlk⟩, hSt, hP, hS, hl⟩ := id X
  exact lv_dup hx hb hdg hv (k p e s m args below meth c H locs ls X)
theorem r_pop {v : Value} (hdg : decode cc pc = .ok (.pop, 1)) (hv : v.category = 1) (k : Wa E y cc nL ret d res (pc + 1) lv (st) h) : Wa E y cc nL ret d res pc lv (v :: st) h := by
  intro p e s m args below meth c H locs ls X
  obtain ⟨⟨hx, hb, hr, hml, hown, hts, hlk⟩, hSt, hP, hS, hl⟩ := id X
  exact lv_pop hx hb hdg hv (k p e s m args below meth c H locs ls X)
theorem r_dup2 {v u : Value} (hdg : decode cc pc = .ok (.dup2, 1)) (hv : v.category = 1) (hu : u.category = 1) (k : Wa E y cc nL ret d res (pc + 1) lv (v :: u :: v :: u :: st) h) : Wa E y cc nL ret d res pc lv (v :: u :: st) h := by
  intro p e s m args below meth c H locs ls X
  obtain ⟨⟨hx, hb, hr, hml, hown, hts, hlk⟩, hSt, hP, hS, hl⟩ := id X
  exact lv_dup2_11 hx hb hdg hv hu (k p e s m args below meth c H locs ls X)
theorem r_dup_x1 {v u : Value} (hdg : decode cc pc = .ok (.dup_x1, 1)) (hv : v.category = 1) (hu : u.category = 1) (k : Wa E y cc nL ret d res (pc + 1) lv (v :: u :: v :: st) h) : Wa E y cc nL ret d res pc lv (v :: u :: st) h := by
  intro p e s m args below meth c H locs ls X
  obtain ⟨⟨hx, hb, hr, hml, hown, hts, hlk⟩, hSt, hP, hS, hl⟩ := id X
  exact lv_dup_x1 hx hb hdg hv hu (k p e s m args below meth c H locs ls X)
theorem r_if_eq {a : Int32} {off : Int} {tgt : Nat} (hdg : decode cc pc = .ok (.ifCond .eq off, 3)) (ht : (pc : Int) + off = (tgt : Int)) (kt : a = 0 → Wa E y cc nL ret d res tgt lv st h) (kf : ¬ (a = 0) → Wa E y cc nL ret d res (pc + 3) lv st h) : Wa E y cc nL ret d res pc lv (.int a :: st) h := by
  intro p e s m args below meth c H locs ls X
  obtain ⟨⟨hx, hb, hr, hml, hown, hts, hlk⟩, hSt, hP, hS, hl⟩ := id X
  exact lv_if_eq hx hb hdg ht (fun q => kt q p e s m args below meth c H locs ls X) (fun q => kf q p e s m args below meth c H locs ls X)
theorem r_icmp_eq {a b : Int32} {off : Int} {tgt : Nat} (hdg : decode cc pc = .ok (.if_icmp .eq off, 3)) (ht : (pc : Int) + off = (tgt : Int)) (kt : a = b → Wa E y cc nL ret d res tgt lv st h) (kf : ¬ (a = b) → Wa E y cc nL ret d res (pc + 3) lv st h) : Wa E y cc nL ret d res pc lv (.int b :: .int a :: st) h := by
  intro p e s m args below meth c H locs ls X
  obtain ⟨⟨hx, hb, hr, hml, hown, hts, hlk⟩, hSt, hP, hS, hl⟩ := id X
  exact lv_icmp_eq hx hb hdg ht (fun q => kt q p e s m args below meth c H locs ls X) (fun q => kf q p e s m args below meth c H locs ls X)
theorem r_if_ne {a : Int32} {off : Int} {tgt : Nat} (hdg : decode cc pc = .ok (.ifCond .ne off, 3)) (ht : (pc : Int) + off = (tgt : Int)) (kt : ¬ a = 0 → Wa E y cc nL ret d res tgt lv st h) (kf : a = 0 → Wa E y cc nL ret d res (pc + 3) lv st h) : Wa E y cc nL ret d res pc lv (.int a :: st) h := by
  intro p e s m args below meth c H locs ls X
  obtain ⟨⟨hx, hb, hr, hml, hown, hts, hlk⟩, hSt, hP, hS, hl⟩ := id X
  exact lv_if_ne hx hb hdg ht (fun q => kt q p e s m args below meth c H locs ls X) (fun q => kf q p e s m args below meth c H locs ls X)
theorem r_icmp_ne {a b : Int32} {off : Int} {tgt : Nat} (hdg : decode cc pc = .ok (.if_icmp .ne off, 3)) (ht : (pc : Int) + off = (tgt : Int)) (kt : ¬ a = b → Wa E y cc nL ret d res tgt lv st h) (kf : a = b → Wa E y cc nL ret d res (pc + 3) lv st h) : Wa E y cc nL ret d res pc lv (.int b :: .int a :: st) h := by
  intro p e s m args below meth c H locs ls X
  obtain ⟨⟨hx, hb, hr, hml, hown, hts, hlk⟩, hSt, hP, hS, hl⟩ := id X
  exact lv_icmp_ne hx hb hdg ht (fun q => kt q p e s m args below meth c H locs ls X) (fun q => kf q p e s m args below meth c H locs ls X)
theorem r_if_lt {a : Int32} {off : Int} {tgt : Nat} (hdg : decode cc pc = .ok (.ifCond .lt off, 3)) (ht : (pc : Int) + off = (tgt : Int)) (kt : a < 0 → Wa E y cc nL ret d res tgt lv st h) (kf : ¬ (a < 0) → Wa E y cc nL ret d res (pc + 3) lv st h) : Wa E y cc nL ret d res pc lv (.int a :: st) h := by
  intro p e s m args below meth c H locs ls X
  obtain ⟨⟨hx, hb, hr, hml, hown, hts, hlk⟩, hSt, hP, hS, hl⟩ := id X
  exact lv_if_lt hx hb hdg ht (fun q => kt q p e s m args below meth c H locs ls X) (fun q => kf q p e s m args below meth c H locs ls X)
theorem r_icmp_lt {a b : Int32} {off : Int} {tgt : Nat} (hdg : decode cc pc = .ok (.if_icmp .lt off, 3)) (ht : (pc : Int) + off = (tgt : Int)) (kt : a < b → Wa E y cc nL ret d res tgt lv st h) (kf : ¬ (a < b) → Wa E y cc nL ret d res (pc + 3) lv st h) : Wa E y cc nL ret d res pc lv (.int b :: .int a :: st) h := by
  intro p e s m args below meth c H locs ls X
  obtain ⟨⟨hx, hb, hr, hml, hown, hts, hlk⟩, hSt, hP, hS, hl⟩ := id X
  exact lv_icmp_lt hx hb hdg ht (fun q => kt q p e s m args below meth c H locs ls X) (fun q => kf q p e s m args below meth c H locs ls X)
theorem r_if_ge {a : Int32} {off : Int} {tgt : Nat} (hdg : decode cc pc = .ok (.ifCond .ge off, 3)) (ht : (pc : Int) + off = (tgt : Int)) (kt : 0 ≤ a → Wa E y cc nL ret d res tgt lv st h) (kf : ¬ (0 ≤ a) → Wa E y cc nL ret d res (pc + 3) lv st h) : Wa E y cc nL ret d res pc lv (.int a :: st) h := by
  intro p e s m args below meth c H locs ls X
  obtain ⟨⟨hx, hb, hr, hml, hown, hts, hlk⟩, hSt, hP, hS, hl⟩ := id X
  exact lv_if_ge hx hb hdg ht (fun q => kt q p e s m args below meth c H locs ls X) (fun q => kf q p e s m args below meth c H locs ls X)
theorem r_icmp_ge {a b : Int32} {off : Int} {tgt : Nat} (hdg : decode cc pc = .ok (.if_icmp .ge off, 3)) (ht : (pc : Int) + off = (tgt : Int)) (kt : b ≤ a → Wa E y cc nL ret d res tgt lv st h) (kf : ¬ (b ≤ a) → Wa E y cc nL ret d res (pc + 3) lv st h) : Wa E y cc nL ret d res pc lv (.int b :: .int a :: st) h := by
  intro p e s m args below meth c H locs ls X
  obtain ⟨⟨hx, hb, hr, hml, hown, hts, hlk⟩, hSt, hP, hS, hl⟩ := id X
  exact lv_icmp_ge hx hb hdg ht (fun q => kt q p e s m args below meth c H locs ls X) (fun q => kf q p e s m args below meth c H locs ls X)
theorem r_if_gt {a : Int32} {off : Int} {tgt : Nat} (hdg : decode cc pc = .ok (.ifCond .gt off, 3)) (ht : (pc : Int) + off = (tgt : Int)) (kt : 0 < a → Wa E y cc nL ret d res tgt lv st h) (kf : ¬ (0 < a) → Wa E y cc nL ret d res (pc + 3) lv st h) : Wa E y cc nL ret d res pc lv (.int a :: st) h := by
  intro p e s m args below meth c H locs ls X
  obtain ⟨⟨hx, hb, hr, hml, hown, hts, hlk⟩, hSt, hP, hS, hl⟩ := id X
  exact lv_if_gt hx hb hdg ht (fun q => kt q p e s m args below meth c H locs ls X) (fun q => kf q p e s m args below meth c H locs ls X)
theorem r_icmp_gt {a b : Int32} {off : Int} {tgt : Nat} (hdg : decode cc pc = .ok (.if_icmp .gt off, 3)) (ht : (pc : Int) + off = (tgt : Int)) (kt : b < a → Wa E y cc nL ret d res tgt lv st h) (kf : ¬ (b < a) → Wa E y cc nL ret d res (pc + 3) lv st h) : Wa E y cc nL ret d res pc lv (.int b :: .int a :: st) h := by
  intro p e s m args below meth c H locs ls X
  obtain ⟨⟨hx, hb, hr, hml, hown, hts, hlk⟩, hSt, hP, hS, hl⟩ := id X
  exact lv_icmp_gt hx hb hdg ht (fun q => kt q p e s m args below meth c H locs ls X) (fun q => kf q p e s m args below meth c H locs ls X)
theorem r_if_le {a : Int32} {off : Int} {tgt : Nat} (hdg : decode cc pc = .ok (.ifCond .le off, 3)) (ht : (pc : Int) + off = (tgt : Int)) (kt : a ≤ 0 → Wa E y cc nL ret d res tgt lv st h) (kf : ¬ (a ≤ 0) → Wa E y cc nL ret d res (pc + 3) lv st h) : Wa E y cc nL ret d res pc lv (.int a :: st) h := by
  intro p e s m args below meth c H locs ls X
  obtain ⟨⟨hx, hb, hr, hml, hown, hts, hlk⟩, hSt, hP, hS, hl⟩ := id X
  exact lv_if_le hx hb hdg ht (fun q => kt q p e s m args below meth c H locs ls X) (fun q => kf q p e s m args below meth c H locs ls X)
theorem r_icmp_le {a b : Int32} {off : Int} {tgt : Nat} (hdg : decode cc pc = .ok (.if_icmp .le off, 3)) (ht : (pc : Int) + off = (tgt : Int)) (kt : a ≤ b → Wa E y cc nL ret d res tgt lv st h) (kf : ¬ (a ≤ b) → Wa E y cc nL ret d res (pc + 3) lv st h) : Wa E y cc nL ret d res pc lv (.int b :: .int a :: st) h := by
  intro p e s m args below meth c H locs ls X
  obtain ⟨⟨hx, hb, hr, hml, hown, hts, hlk⟩, hSt, hP, hS, hl⟩ := id X
  exact lv_icmp_le hx hb hdg ht (fun q => kt q p e s m args below meth c H locs ls X) (fun q => kf q p e s m args below meth c H locs ls X)
theorem r_goto {off : Int} {tgt : Nat} (hdg : decode cc pc = .ok (.goto off, 3)) (ht : (pc : Int) + off = (tgt : Int)) (k : Wa E y cc nL ret d res tgt lv st h) : Wa E y cc nL ret d res pc lv st h := by
  intro p e s m args below meth c H locs ls X
  obtain ⟨⟨hx, hb, hr, hml, hown, hts, hlk⟩, hSt, hP, hS, hl⟩ := id X
  exact lv_goto hx hb hdg ht (k p e s m args below meth c H locs ls X)
theorem r_ldc {index : Nat} {v : Int32} (hw : Cond.constant y.cls index v ∈ TG) (hdg : decode cc pc = .ok (.ldc index, 2)) (k : Wa E y cc nL ret d res (pc + 2) lv (.int v :: st) h) : Wa E y cc nL ret d res pc lv st h := by
  intro p e s m args below meth c H locs ls X
  obtain ⟨⟨hx, hb, hr, hml, hown, hts, hlk⟩, hSt, hP, hS, hl⟩ := id X
  exact lv_ldc hx hb hown (hts _ hw) hdg (k p e s m args below meth c H locs ls X)
theorem r_ldcw {index : Nat} {v : Int32} (hw : Cond.constant y.cls index v ∈ TG) (hdg : decode cc pc = .ok (.ldc_w index, 3)) (k : Wa E y cc nL ret d res (pc + 3) lv (.int v :: st) h) : Wa E y cc nL ret d res pc lv st h := by
  intro p e s m args below meth c H locs ls X
  obtain ⟨⟨hx, hb, hr, hml, hown, hts, hlk⟩, hSt, hP, hS, hl⟩ := id X
  exact lv_ldcw hx hb hown (hts _ hw) hdg (k p e s m args below meth c H locs ls X)
theorem r_ldc2 {index : Nat} {v : Int64} (hw : Cond.constantLong y.cls index v ∈ TG) (hdg : decode cc pc = .ok (.ldc2_w index, 3)) (k : Wa E y cc nL ret d res (pc + 3) lv (.long v :: st) h) : Wa E y cc nL ret d res pc lv st h := by
  intro p e s m args below meth c H locs ls X
  obtain ⟨⟨hx, hb, hr, hml, hown, hts, hlk⟩, hSt, hP, hS, hl⟩ := id X
  exact lv_ldc2 hx hb hown (hts _ hw) hdg (k p e s m args below meth c H locs ls X)
theorem r_ldcS {index : Nat} (i : Nat) (hi : i < 14) (hix : 22 + 2 * i = index) (hy : y.cls = "DuelSamples$Script") (hdg : decode cc pc = .ok (.ldc index, 2)) (k : Wa E y cc nL ret d res (pc + 2) lv (.ref (eK E i) :: st) h) : Wa E y cc nL ret d res pc lv st h := by
  intro p e s m args below meth c H locs ls X
  obtain ⟨⟨hx, hb, hr, hml, hown, hts, hlk⟩, hSt, hP, hS, hl⟩ := id X
  subst hix
  rw [hy] at hown
  exact va_ldcS hx hb hown (hSt.2.2.2.2.2.2.1 i hi) hdg (k p e s m args below meth c H locs ls X)
theorem r_get {ref C : String} {T : u_T} {N ci index : Nat} {a : Nat} {fs : List Value} {v : Value} (hin : ∀ w ∈ u_ws C T N, w ∈ TG) (q0 : Nat) (he : (wl E h)[q0]? = some (a, .inr (ci, fs))) (hc : classes[ci]? = some (C, T, N)) (k0 : Nat) (hk : k0 < N) (hlink : Cond.fieldLink y.cls index ref (T k0).2.1 (T k0).2.2.1 ∈ TG) (hs : (T k0).1 = ref) (hv : fs[k0]? = some v) (hdg : decode cc pc = .ok (.getfield index, 3)) (k : Wa E y cc nL ret d res (pc + 3) lv (v :: st) h) : Wa E y cc nL ret d res pc lv (.ref a :: st) h := by
  intro p e s m args below meth c H locs ls X
  obtain ⟨⟨hx, hb, hr, hml, hown, hts, hlk⟩, hSt, hP, hS, hl⟩ := id X
  exact va_get hx hb hts hin hown hSt.1 hP q0 he hc k0 hk (hts _ hlink) (fun x q => by rw [← hs]; exact q) hv hdg (k p e s m args below meth c H locs ls X)
theorem r_getN {ref C host : String} {T : u_T} {N ci index : Nat} {a : Nat} {fs : List Value} {v : Value} (hin : ∀ w ∈ u_ws C T N, w ∈ TG) (q0 : Nat) (he : (wl E h)[q0]? = some (a, .inr (ci, fs))) (hc : classes[ci]? = some (C, T, N)) (k0 : Nat) (hk : k0 < N) (hlink : Cond.fieldLinkNest y.cls index ref (T k0).2.1 (T k0).2.2.1 host ∈ NW) (hs : (T k0).1 = ref) (hv : fs[k0]? = some v) (hdg : decode cc pc = .ok (.getfield index, 3)) (k : Wa E y cc nL ret d res (pc + 3) lv (v :: st) h) : Wa E y cc nL ret d res pc lv (.ref a :: st) h := by
  intro p e s m args below meth c H locs ls X
  obtain ⟨⟨hx, hb, hr, hml, hown, hts, hlk⟩, hSt, hP, hS, hl⟩ := id X
  exact va_getN hx hb hts hin hown hSt.1 hP q0 he hc k0 hk (va_Nw.use rfl (hSt.2.2.1 _ hlink)) (fun x q => by rw [← hs]; exact q) hv hdg (k p e s m args below meth c H locs ls X)
theorem r_put {ref C : String} {T : u_T} {N ci index : Nat} {a : Nat} {fs : List Value} {x : Int32} {h2 : Hp} (hin : ∀ w ∈ u_ws C T N, w ∈ TG) {ty0 : Nat → FieldType} (hty : ∀ k, k < N → parseFieldDescriptor (T k).2.2.1 = some (ty0 k)) (hnm : ∀ a, a < N → ∀ b, b < N → a ≠ b → (T a).2.1 ≠ (T b).2.1) (q0 : Nat) (he : (wl E h)[q0]? = some (a, .inr (ci, fs))) (hc : classes[ci]? = some (C, T, N)) (k0 : Nat) (hk : k0 < N) (hlink : Cond.fieldLink y.cls index ref (T k0).2.1 (T k0).2.2.1 ∈ TG) (hs : (T k0).1 = ref) (hfin : (T k0).2.2.2 = false) (hd : parseFieldDescriptor (T k0).2.2.1 = some .int) (hlen : k0 < fs.length) (hset : (wl E h).set q0 (a, .inr (ci, fs.set k0 (.int x))) = wl E h2) (hdg : decode cc pc = .ok (.putfield index, 3)) (k : Wa E y cc nL ret d res (pc + 3) lv st h2) : Wa E y cc nL ret d res pc lv (.int x :: .ref a :: st) h := by
  intro p e s m args below meth c H locs ls X
  obtain ⟨⟨hx, hb, hr, hml, hown, hts, hlk⟩, hSt, hP, hS, hl⟩ := id X
  refine va_put hx hb hts hin ty0 hty hnm hown hSt.1 hP (wl_D h hSt.2.1) hS q0 he hc k0 hk (hts _ hlink) (fun x q => by rw [← hs]; exact q) hfin hd rfl rfl hlen hdg (fun H1 locs1 hP1 hD1 hS1 => ?_)
  rw [hset] at hP1
  exact k p e s m args below meth c H1 locs1 ls ⟨X.1, hSt, hP1, hS1, hl⟩
theorem r_putN {ref C host : String} {T : u_T} {N ci index : Nat} {a : Nat} {fs : List Value} {x : Int32} {h2 : Hp} (hin : ∀ w ∈ u_ws C T N, w ∈ TG) {ty0 : Nat → FieldType} (hty : ∀ k, k < N → parseFieldDescriptor (T k).2.2.1 = some (ty0 k)) (hnm : ∀ a, a < N → ∀ b, b < N → a ≠ b → (T a).2.1 ≠ (T b).2.1) (q0 : Nat) (he : (wl E h)[q0]? = some (a, .inr (ci, fs))) (hc : classes[ci]? = some (C, T, N)) (k0 : Nat) (hk : k0 < N) (hlink : Cond.fieldLinkNest y.cls index ref (T k0).2.1 (T k0).2.2.1 host ∈ NW) (hs : (T k0).1 = ref) (hfin : (T k0).2.2.2 = false) (hd : parseFieldDescriptor (T k0).2.2.1 = some .int) (hlen : k0 < fs.length) (hset : (wl E h).set q0 (a, .inr (ci, fs.set k0 (.int x))) = wl E h2) (hdg : decode cc pc = .ok (.putfield index, 3)) (k : Wa E y cc nL ret d res (pc + 3) lv st h2) : Wa E y cc nL ret d res pc lv (.int x :: .ref a :: st) h := by
  intro p e s m args below meth c H locs ls X
  obtain ⟨⟨hx, hb, hr, hml, hown, hts, hlk⟩, hSt, hP, hS, hl⟩ := id X
  refine va_putN hx hb hts hin ty0 hty hnm hown hSt.1 hP (wl_D h hSt.2.1) hS q0 he hc k0 hk (va_Nw.use rfl (hSt.2.2.1 _ hlink)) (fun x q => by rw [← hs]; exact q) hfin hd rfl rfl hlen hdg (fun H1 locs1 hP1 hD1 hS1 => ?_)
  rw [hset] at hP1
  exact k p e s m args below meth c H1 locs1 ls ⟨X.1, hSt, hP1, hS1, hl⟩
theorem r_iald {a n : Nat} {f : Nat → Int32} {i : Int32} (q0 : Nat) (he : (wl E h)[q0]? = some (a, .inl (eI E, n, .inl f))) (hi : vp_in i n) (hdg : decode cc pc = .ok (.iaload, 1)) (k : Wa E y cc nL ret d res (pc + 1) lv (.int (f i.toNatClampNeg) :: st) h) : Wa E y cc nL ret d res pc lv (.int i :: .ref a :: st) h := by
  intro p e s m args below meth c H locs ls X
  obtain ⟨⟨hx, hb, hr, hml, hown, hts, hlk⟩, hSt, hP, hS, hl⟩ := id X
  exact va_iald hx hb hSt.1 hP q0 0 he rfl hi hdg (k p e s m args below meth c H locs ls X)
theorem r_bald {a n : Nat} {f : Nat → Int32} {i : Int32} (q0 : Nat) (he : (wl E h)[q0]? = some (a, .inl (eB E, n, .inl f))) (hi : vp_in i n) (hdg : decode cc pc = .ok (.baload, 1)) (k : Wa E y cc nL ret d res (pc + 1) lv (.int (f i.toNatClampNeg) :: st) h) : Wa E y cc nL ret d res pc lv (.int i :: .ref a :: st) h := by
  intro p e s m args below meth c H locs ls X
  obtain ⟨⟨hx, hb, hr, hml, hown, hts, hlk⟩, hSt, hP, hS, hl⟩ := id X
  exact va_bald hx hb hSt.1 hP q0 1 he rfl hi hdg (k p e s m args below meth c H locs ls X)
theorem r_zald {a n : Nat} {f : Nat → Int32} {i : Int32} (q0 : Nat) (he : (wl E h)[q0]? = some (a, .inl (eZ E, n, .inl f))) (hi : vp_in i n) (hdg : decode cc pc = .ok (.baload, 1)) (k : Wa E y cc nL ret d res (pc + 1) lv (.int (f i.toNatClampNeg) :: st) h) : Wa E y cc nL ret d res pc lv (.int i :: .ref a :: st) h := by
  intro p e s m args below meth c H locs ls X
  obtain ⟨⟨hx, hb, hr, hml, hown, hts, hlk⟩, hSt, hP, hS, hl⟩ := id X
  exact va_zald hx hb hSt.1 hP q0 3 he rfl hi hdg (k p e s m args below meth c H locs ls X)
theorem r_lald {a n : Nat} {f : Nat → Int64} {i : Int32} (q0 : Nat) (he : (wl E h)[q0]? = some (a, .inl (eJ E, n, .inr (.inl f)))) (hi : vp_in i n) (hdg : decode cc pc = .ok (.laload, 1)) (k : Wa E y cc nL ret d res (pc + 1) lv (.long (f i.toNatClampNeg) :: st) h) : Wa E y cc nL ret d res pc lv (.int i :: .ref a :: st) h := by
  intro p e s m args below meth c H locs ls X
  obtain ⟨⟨hx, hb, hr, hml, hown, hts, hlk⟩, hSt, hP, hS, hl⟩ := id X
  exact va_lald hx hb hSt.1 hP q0 2 he rfl hi hdg (k p e s m args below meth c H locs ls X)
theorem r_iast {a n : Nat} {f : Nat → Int32} {i : Int32} {x : Int32} {h2 : Hp} (q0 : Nat) (he : (wl E h)[q0]? = some (a, .inl (eI E, n, .inl f))) (hset : (wl E h).set q0 (a, .inl (eI E, n, .inl (upd f i.toNatClampNeg x))) = wl E h2) (hi : vp_in i n) (hdg : decode cc pc = .ok (.iastore, 1)) (k : Wa E y cc nL ret d res (pc + 1) lv st h2) : Wa E y cc nL ret d res pc lv (.int x :: .int i :: .ref a :: st) h := by
  intro p e s m args below meth c H locs ls X
  obtain ⟨⟨hx, hb, hr, hml, hown, hts, hlk⟩, hSt, hP, hS, hl⟩ := id X
  refine va_iast hx hb hSt.1 hP (wl_D h hSt.2.1) hS q0 0 he rfl hi hdg (fun H1 locs1 hP1 hD1 hS1 => ?_)
  rw [hset] at hP1
  exact k p e s m args below meth c H1 locs1 ls ⟨X.1, hSt, hP1, hS1, hl⟩
theorem r_bast {a n : Nat} {f : Nat → Int32} {i : Int32} {x : Int32} {h2 : Hp} (q0 : Nat) (he : (wl E h)[q0]? = some (a, .inl (eB E, n, .inl f))) (hset : (wl E h).set q0 (a, .inl (eB E, n, .inl (upd f i.toNatClampNeg (vp_nar .byte x)))) = wl E h2) (hi : vp_in i n) (hdg : decode cc pc = .ok (.bastore, 1)) (k : Wa E y cc nL ret d res (pc + 1) lv st h2) : Wa E y cc nL ret d res pc lv (.int x :: .int i :: .ref a :: st) h := by
  intro p e s m args below meth c H locs ls X
  obtain ⟨⟨hx, hb, hr, hml, hown, hts, hlk⟩, hSt, hP, hS, hl⟩ := id X
  refine va_bast hx hb hSt.1 hP (wl_D h hSt.2.1) hS q0 1 he rfl hi hdg (fun H1 locs1 hP1 hD1 hS1 => ?_)
  rw [hset] at hP1
  exact k p e s m args below meth c H1 locs1 ls ⟨X.1, hSt, hP1, hS1, hl⟩
theorem r_zast {a n : Nat} {f : Nat → Int32} {i : Int32} {x : Int32} {h2 : Hp} (q0 : Nat) (he : (wl E h)[q0]? = some (a, .inl (eZ E, n, .inl f))) (hset : (wl E h).set q0 (a, .inl (eZ E, n, .inl (upd f i.toNatClampNeg (vp_nar .boolean x)))) = wl E h2) (hi : vp_in i n) (hdg : decode cc pc = .ok (.bastore, 1)) (k : Wa E y cc nL ret d res (pc + 1) lv st h2) : Wa E y cc nL ret d res pc lv (.int x :: .int i :: .ref a :: st) h := by
  intro p e s m args below meth c H locs ls X
  obtain ⟨⟨hx, hb, hr, hml, hown, hts, hlk⟩, hSt, hP, hS, hl⟩ := id X
  refine va_zast hx hb hSt.1 hP (wl_D h hSt.2.1) hS q0 3 he rfl hi hdg (fun H1 locs1 hP1 hD1 hS1 => ?_)
  rw [hset] at hP1
  exact k p e s m args below meth c H1 locs1 ls ⟨X.1, hSt, hP1, hS1, hl⟩
theorem r_last {a n : Nat} {f : Nat → Int64} {i : Int32} {x : Int64} {h2 : Hp} (q0 : Nat) (he : (wl E h)[q0]? = some (a, .inl (eJ E, n, .inr (.inl f)))) (hset : (wl E h).set q0 (a, .inl (eJ E, n, .inr (.inl (vp_updL f i.toNatClampNeg x)))) = wl E h2) (hi : vp_in i n) (hdg : decode cc pc = .ok (.lastore, 1)) (k : Wa E y cc nL ret d res (pc + 1) lv st h2) : Wa E y cc nL ret d res pc lv (.long x :: .int i :: .ref a :: st) h := by
  intro p e s m args below meth c H locs ls X
  obtain ⟨⟨hx, hb, hr, hml, hown, hts, hlk⟩, hSt, hP, hS, hl⟩ := id X
  refine va_last hx hb hSt.1 hP (wl_D h hSt.2.1) hS q0 2 he rfl hi hdg (fun H1 locs1 hP1 hD1 hS1 => ?_)
  rw [hset] at hP1
  exact k p e s m args below meth c H1 locs1 ls ⟨X.1, hSt, hP1, hS1, hl⟩
theorem r_alen {a : Nat} {cA : ClassId} {x : vp_A} {ty : FieldType} {v : Int32} (q0 t0 : Nat) (he : (wl E h)[q0]? = some (a, .inl (cA, x))) (ht : (tys E)[t0]? = some (cA, ty)) (hv : Int32.ofNat x.1 = v) (hdg : decode cc pc = .ok (.arraylength, 1)) (k : Wa E y cc nL ret d res (pc + 1) lv (.int v :: st) h) : Wa E y cc nL ret d res pc lv (.ref a :: st) h := by
  intro p e s m args below meth c H locs ls X
  obtain ⟨⟨hx, hb, hr, hml, hown, hts, hlk⟩, hSt, hP, hS, hl⟩ := id X
  exact va_alen hx hb hSt.1 hP q0 t0 he ht hv hdg (k p e s m args below meth c H locs ls X)
theorem r_aald {i : Int32} (hi : vp_in i 5) (hdg : decode cc pc = .ok (.aaload, 1)) (k : Wa E y cc nL ret d res (pc + 1) lv (.ref (eA E (3 + i.toNatClampNeg)) :: st) h) : Wa E y cc nL ret d res pc lv (.int i :: .ref (eA E 2) :: st) h := by
  intro p e s m args below meth c H locs ls X
  obtain ⟨⟨hx, hb, hr, hml, hown, hts, hlk⟩, hSt, hP, hS, hl⟩ := id X
  have hlt : i.toNatClampNeg < 5 := Nat.not_le.mp fun q => hi (Or.inr q)
  have hc : H[eA E 2]? = some (vp_cell (eG E) (5, .inr (.inr (.inr (.inr (fun i => if i < 5 then some (eA E (3 + i)) else none)))))) := hP 2 _ rfl
  refine W.aald (v := .ref (eA E (3 + i.toNatClampNeg))) (ty := .array .int) hx hb hc ((hSt.1.2 4 _ rfl).1 5 (fun j => va_rf (if j < 5 then some (eA E (3 + j)) else none))) rfl (fun q => by cases q) (by show ¬ (i < 0 ∨ (arrV _ _ _).slots.size ≤ _); rw [arrV_size]; exact hi) (by show (arrV _ _ _).slots[_]? = _; rw [arrV_read _ _ hlt]; show some (va_rf (if i.toNatClampNeg < 5 then some (eA E (3 + i.toNatClampNeg)) else none)) = _; rw [if_pos hlt]; rfl) rfl rfl hdg (k p e s m args below meth c H locs ls X)
theorem wl_row {E : EN} {h : Hp} {j : Nat} (hj : j < 5) : (wl E h)[3 + j]? = some (eA E (3 + j), .inl (eI E, 12, .inl (h.2.1.2.2 j))) := by
  rcases (show j = 0 ∨ j = 1 ∨ j = 2 ∨ j = 3 ∨ j = 4 by omega) with rfl | rfl | rfl | rfl | rfl <;> rfl
def up2 (F : Nat → Nat → Int32) (j i : Nat) (x : Int32) : Nat → Nat → Int32 := fun r => if r = j then upd (F j) i x else F r
theorem wl_rowset {E : EN} {X : TX} {a b : Int32} {F : Nat → Nat → Int32} {r : TC × TC × TK × TS × TP × TM} {j i : Nat} {x : Int32} (hj : j < 5) : (wl E (X, (a, b, F), r)).set (3 + j) (eA E (3 + j), .inl (eI E, 12, .inl (upd (F j) i x))) = wl E (X, (a, b, up2 F j i x), r) := by
  rcases (show j = 0 ∨ j = 1 ∨ j = 2 ∨ j = 3 ∨ j = 4 by omega) with rfl | rfl | rfl | rfl | rfl <;> rfl
theorem r_rowld {i u : Int32} (hi : vp_in i 5) (hu : vp_in u 12) (hdg : decode cc pc = .ok (.iaload, 1)) (k : Wa E y cc nL ret d res (pc + 1) lv (.int (h.2.1.2.2 i.toNatClampNeg u.toNatClampNeg) :: st) h) : Wa E y cc nL ret d res pc lv (.int u :: .ref (eA E (3 + i.toNatClampNeg)) :: st) h :=
  r_iald (3 + i.toNatClampNeg) (wl_row (Nat.not_le.mp fun q => hi (Or.inr q))) hu hdg k
theorem r_rowst {X : TX} {a b : Int32} {F : Nat → Nat → Int32} {r : TC × TC × TK × TS × TP × TM} {i u x : Int32} (hi : vp_in i 5) (hu : vp_in u 12) (hdg : decode cc pc = .ok (.iastore, 1)) (k : Wa E y cc nL ret d res (pc + 1) lv st (X, (a, b, up2 F i.toNatClampNeg u.toNatClampNeg x), r)) : Wa E y cc nL ret d res pc lv (.int x :: .int u :: .ref (eA E (3 + i.toNatClampNeg)) :: st) (X, (a, b, F), r) :=
  r_iast (3 + i.toNatClampNeg) (wl_row (Nat.not_le.mp fun q => hi (Or.inr q))) (wl_rowset (Nat.not_le.mp fun q => hi (Or.inr q))) hu hdg k
theorem r_most {index : Nat} (hlink : Cond.fieldLink y.cls index "DuelSamples$Roster" "MOST" "[I" ∈ TG) (hdg : decode cc pc = .ok (.getstatic index, 3)) (k : Wa E y cc nL ret d res (pc + 3) lv (.ref (eM E) :: st) h) : Wa E y cc nL ret d res pc lv st h := by
  intro p e s m args below meth c H locs ls X
  obtain ⟨⟨hx, hb, hr, hml, hown, hts, hlk⟩, hSt, hP, hS, hl⟩ := id X
  exact va_gets hx hb hSt.2.2.2.1 hS hown (hts _ hlink) (fun x q => q) hdg (k p e s m args below meth c H locs ls X)
theorem r_mostld {i : Int32} (hi : vp_in i 5) (hdg : decode cc pc = .ok (.iaload, 1)) (k : Wa E y cc nL ret d res (pc + 1) lv (.int ((([12, 99, 3, 99, 99] : List Int32)).getD i.toNatClampNeg 0) :: st) h) : Wa E y cc nL ret d res pc lv (.int i :: .ref (eM E) :: st) h := by
  intro p e s m args below meth c H locs ls X
  obtain ⟨⟨hx, hb, hr, hml, hown, hts, hlk⟩, hSt, hP, hS, hl⟩ := id X
  exact va_ti hx hb hSt.2.2.2.2.1 hS hi rfl hdg (k p e s m args below meth c H locs ls X)
theorem r_mostlen (hdg : decode cc pc = .ok (.arraylength, 1)) (k : Wa E y cc nL ret d res (pc + 1) lv (.int 5 :: st) h) : Wa E y cc nL ret d res pc lv (.ref (eM E) :: st) h := by
  intro p e s m args below meth c H locs ls X
  obtain ⟨⟨hx, hb, hr, hml, hown, hts, hlk⟩, hSt, hP, hS, hl⟩ := id X
  exact va_tlen hx hb hSt.2.2.2.2.1 hS rfl hdg (k p e s m args below meth c H locs ls X)
theorem r_iret {x : Int32} (hret : ret = some .int) (hdg : decode cc pc = .ok (.ireturn, 1)) : Wa E y cc nL ret d (some (.int x), h) pc lv [.int x] h := by
  intro p e s m args below meth c H locs ls X
  obtain ⟨⟨hx, hb, hr, hml, hown, hts, hlk⟩, hSt, hP, hS, hl⟩ := id X
  subst hret
  exact W.iret hx hb hr (fun t ht hW => ⟨rfl, by rw [ht]; exact hP, hS.F ht⟩) hS.2.2 hdg hlk
theorem r_lret {x : Int64} (hret : ret = some .long) (hdg : decode cc pc = .ok (.lreturn, 1)) : Wa E y cc nL ret d (some (.long x), h) pc lv [.long x] h := by
  intro p e s m args below meth c H locs ls X
  obtain ⟨⟨hx, hb, hr, hml, hown, hts, hlk⟩, hSt, hP, hS, hl⟩ := id X
  subst hret
  exact W.lret hx hb hr (fun t ht hW => ⟨rfl, by rw [ht]; exact hP, hS.F ht⟩) hS.2.2 hdg hlk
theorem r_zret {x : Int32} {ty : FieldType} (hret : ret = some ty) (hn : narrow ty (.int x) = .int x) (hdg : decode cc pc = .ok (.ireturn, 1)) : Wa E y cc nL ret d (some (.int x), h) pc lv [.int x] h := by
  intro p e s m args below meth c H locs ls X
  obtain ⟨⟨hx, hb, hr, hml, hown, hts, hlk⟩, hSt, hP, hS, hl⟩ := id X
  subst hret
  exact W.zret hx hb hr hn (fun t ht hW => ⟨rfl, by rw [ht]; exact hP, hS.F ht⟩) hS.2.2 hdg hlk
theorem r_vret (hret : ret = none) (hdg : decode cc pc = .ok (.return_, 1)) : Wa E y cc nL ret d (none, h) pc lv [] h := by
  intro p e s m args below meth c H locs ls X
  obtain ⟨⟨hx, hb, hr, hml, hown, hts, hlk⟩, hSt, hP, hS, hl⟩ := id X
  subst hret
  exact W.vret hx hb hr (fun t ht hW => ⟨rfl, by rw [ht]; exact hP, hS.F ht⟩) hS.2.2 hdg hlk
theorem r_aret {a : Nat} {n : String} (hret : ret = some (.object n)) (hdg : decode cc pc = .ok (.areturn, 1)) : Wa E y cc nL ret d (some (.ref a), h) pc lv [.ref a] h := by
  intro p e s m args below meth c H locs ls X
  obtain ⟨⟨hx, hb, hr, hml, hown, hts, hlk⟩, hSt, hP, hS, hl⟩ := id X
  subst hret
  exact W.aret hx hb hr (Or.inl ⟨_, rfl⟩) (Or.inr ⟨_, rfl⟩) (fun t ht hW => ⟨rfl, by rw [ht]; exact hP, hS.F ht⟩) hS.2.2 hdg hlk
end
