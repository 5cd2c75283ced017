/-! the start: what the Statement gives of statics, constants and classes -/
def stm (i : Nat) : Term := .string "DuelSamples$Script" (22 + 2 * i)
def nar : List Cond := flatC (Jvm.Cond.and given_1 narrow_1)
def lnS : List Nat := [3, 4, 6, 3, 6, 4, 4, 5, 7, 4, 5, 4, 4, 0]
theorem lnS_eq : sLn = lnS := by decide
def psS : List Nat := [17, 24, 33, 45, 55, 69, 82, 96, 112, 131, 148, 167, 186, 206]
theorem nar_ex : ∀ i, i < 14 → nar[psS.getD i 0]? = some (Cond.exactly (stm i) "java/lang/String") := by decide +kernel
theorem nar_co : ∀ i, i < 14 → nar[psS.getD i 0 + 1]? = some (Cond.eq (.field (stm i) "java/lang/String" "coder" "B") (.int 0)) := by decide +kernel
theorem nar_ar : ∀ i, i < 14 → nar[psS.getD i 0 + 2]? = some (Cond.arrayOf (.field (stm i) "java/lang/String" "value" "[B") .byte) := by decide +kernel
theorem nar_le : ∀ i, i < 14 → nar[psS.getD i 0 + 3]? = some (Cond.eq (.length (.field (stm i) "java/lang/String" "value" "[B")) (.int (Int32.ofNat (lnS.getD i 0)))) := by decide +kernel
theorem nar_el : ∀ i, i < 14 → ∀ j, j < lnS.getD i 0 → nar[psS.getD i 0 + 4 + j]? = some (Cond.eq (.elem (.field (stm i) "java/lang/String" "value" "[B") (.int (Int32.ofNat j))) (.int ((sBy.getD i []).getD j 0))) := by decide +kernel
theorem nar_nq : ∀ j, j < 14 → ∀ i, i < j → nar[psS.getD j 0 + 4 + lnS.getD j 0 + i]? = some (Cond.not (Cond.eq (stm i) (stm j))) := by decide +kernel
theorem nar_ne {i j : Nat} (hi : i < 14) (hj : j < 14) (hn : i ≠ j) : Cond.not (Cond.eq (stm i) (stm j)) ∈ nar ∨ Cond.not (Cond.eq (stm j) (stm i)) ∈ nar := by
  rcases Nat.lt_or_ge i j with q | q
  · exact Or.inl (List.mem_of_getElem? (nar_nq j hj i q))
  · exact Or.inr (List.mem_of_getElem? (nar_nq i hi j (by omega)))
theorem nar_ml : Cond.eq (.length (.static "DuelSamples$Roster" "MOST" "[I")) (.int (Int32.ofNat 5)) ∈ nar := List.mem_of_getElem? (i := 6) (by decide +kernel)
theorem nar_ma : Cond.arrayOf (.static "DuelSamples$Roster" "MOST" "[I") .int ∈ nar := List.mem_of_getElem? (i := 5) (by decide +kernel)
theorem nar_me : ∀ j, j < 5 → nar[7 + j]? = some (Cond.eq (.elem (.static "DuelSamples$Roster" "MOST" "[I") (.int (Int32.ofNat j))) (.int (([12, 99, 3, 99, 99] : List Int32).getD j 0))) := by decide +kernel
theorem nar_cs : Cond.eq (.static "java/lang/String" "COMPACT_STRINGS" "Z") (.int 1) ∈ nar := List.mem_of_getElem? (i := 12) (by decide +kernel)
theorem nar_sf : Cond.isRef (.static "jdk/internal/util/Preconditions" "SIOOBE_FORMATTER" "Ljava/util/function/BiFunction;") ∈ nar := List.mem_of_getElem? (i := 13) (by decide +kernel)
theorem tbl_s : ∀ i, i < 14 → lw_tbl[623 + i]? = some (Cond.stringRef "DuelSamples$Script" (22 + 2 * i) (sTx.getD i "")) := by decide +kernel
theorem tbl_ao : Cond.arrayOver (.array .int) ∈ lw_tbl := List.mem_of_getElem? (i := 98) (by decide +kernel)
theorem lnS_lt : ∀ i, i < 14 → lnS.getD i 0 < 2 ^ 31 := by decide
theorem arr_known {args : Array Value} {s : State} {ty : FieldType} (h : (Cond.arrayClass ty).before args s = true) : ∃ c, s.vm.findClass ("[" ++ ty.toString) = some c ∧ ArrOfT s c ty := by
  obtain ⟨cA, kA, comp, h1, h2, h3⟩ := Cond.arrayClass_spec h
  exact ⟨cA, h1, fun n z => ⟨fun k h => (by cases h), kA, h2, comp, h3⟩⟩
theorem grid_known {args : Array Value} {s : State} (h : (Cond.arrayOver (.array .int)).before args s = true) : ∃ c, s.vm.findClass ("[" ++ (FieldType.array .int).toString) = some c ∧ ArrOfT s c (.array .int) := by
  obtain ⟨comp, cA, kA, h1, h2, h3, h4, h5⟩ := arrayOverA_spec (show (Cond.arrayOver (.array .int)).holds args s none s [] = true from h)
  exact ⟨cA, h5, fun n z => ⟨fun k h => (by cases h), kA, h3, comp, h4⟩⟩
theorem K_start {args : Array Value} {s : State} (hts : ∀ w ∈ lw_tbl, w.before args s = true) : ∃ (D : va_G) (cI cB cJ cZ cG : ClassId), CS D (TYs cI cB cJ cZ cG) s := by
  have htg : ∀ w ∈ TG, w.before args s = true := fun w hw => hts w (List.mem_filter.mp hw).1
  obtain ⟨c0, i0, n0⟩ := u_known (C := RX0) (T := TX0) (N := 10) (n := 10) htg in_X0 (htg _ wd_113)
  obtain ⟨c1, i1, n1⟩ := u_known (C := RX1) (T := TX1) (N := 3) (n := 3) htg in_X1 (htg _ wd_153)
  obtain ⟨c2, i2, n2⟩ := u_known (C := RX2) (T := TX2) (N := 2) (n := 2) htg in_X2 (htg _ wd_201)
  obtain ⟨c3, i3, n3⟩ := u_known (C := RX3) (T := TX3) (N := 3) (n := 3) htg in_X3 (htg _ wd_92)
  obtain ⟨c4, i4, n4⟩ := u_known (C := RX4) (T := TX4) (N := 7) (n := 7) htg in_X4 (htg _ wd_170)
  obtain ⟨c5, i5, n5⟩ := u_known (C := RX5) (T := TX5) (N := 9) (n := 9) htg in_X5 (htg _ wd_84)
  obtain ⟨c6, i6, n6⟩ := u_known (C := RX6) (T := TX6) (N := 23) (n := 23) htg in_X6 (htg _ wd_758)
  obtain ⟨cI, fcI, acI⟩ := arr_known (htg _ wd_111)
  obtain ⟨cB, fcB, acB⟩ := arr_known (htg _ wd_199)
  obtain ⟨cJ, fcJ, acJ⟩ := arr_known (htg _ wd_168)
  obtain ⟨cZ, fcZ, acZ⟩ := arr_known (htg _ wd_833)
  obtain ⟨cG, fcG, acG⟩ := grid_known (hts _ tbl_ao)
  refine ⟨(fun k => ([c0, c1, c2, c3, c4, c5, c6] : List ClassId).getD k c0, fun k => ([i0, i1, i2, i3, i4, i5, i6] : List (Nat → Nat)).getD k i0), cI, cB, cJ, cZ, cG, ⟨fun k q hq => ?_, fun k q hq => ?_⟩, fun w hw => va_Nw.of (NW_tab (List.mem_filter.mp hw).2) (hts w (List.mem_filter.mp hw).1), aov_moved (Vm.Alike.refl s.vm) (hts _ tbl_ao)⟩
  · match k, hq with
    | 0, hq => cases hq; exact n0
    | 1, hq => cases hq; exact n1
    | 2, hq => cases hq; exact n2
    | 3, hq => cases hq; exact n3
    | 4, hq => cases hq; exact n4
    | 5, hq => cases hq; exact n5
    | 6, hq => cases hq; exact n6
    | k + 7, hq => simp [classes] at hq
  · match k, hq with
    | 0, hq => cases hq; exact ⟨acI, fcI⟩
    | 1, hq => cases hq; exact ⟨acB, fcB⟩
    | 2, hq => cases hq; exact ⟨acJ, fcJ⟩
    | 3, hq => cases hq; exact ⟨acZ, fcZ⟩
    | 4, hq => cases hq; exact ⟨acG, fcG⟩
    | k + 5, hq => simp at hq
theorem S_start {b : Nat} {s : State} {A : Nat → Prop} (hts : ∀ w ∈ lw_tbl, w.before #[Value.ref b] s = true) (hgv : (Jvm.Cond.and given_1 narrow_1).before #[Value.ref b] s = true) (hA : ∀ a : Nat, a < s.heap.size → ¬ A a) : ∃ (mo : Nat) (aK aV : Nat → Nat),
    va_Z "DuelSamples$Roster" "MOST" "[I" (.ref mo) A s s.heap ∧ va_T .int mo 5 mostF A s s.heap ∧ vk_S 14 sLn sBy aK aV A s s.heap ∧ (∀ i : Nat, i < 14 → vk_R "DuelSamples$Script" (22 + 2 * i) (sTx.getD i "") (aK i) s) ∧
    va_Z "java/lang/String" "COMPACT_STRINGS" "Z" (.int 1) A s s.heap ∧ va_Zq "jdk/internal/util/Preconditions" "SIOOBE_FORMATTER" "Ljava/util/function/BiFunction;" A s s.heap := by
  have hs : ∀ w ∈ nar, w.before #[Value.ref b] s = true := flat_of_before _ hgv
  have hm : ∀ {k : Nat} {w : Cond}, nar[k]? = some w → w.before #[Value.ref b] s = true := fun h => hs _ (List.mem_of_getElem? h)
  obtain ⟨mo, m1, m2⟩ := va_Tof (N := 5) (f := mostF) (A := A) (by decide) (hs _ nar_ma) (va_eqt (hs _ nar_ml)) (fun j hj => va_eqt (hm (nar_me j hj))) hA
  obtain ⟨aK, aV, k1, k2⟩ := vk_Sof (N := 14) (tm := stm) (len := lnS) (byt := sBy) (A := A) lnS_lt (fun i hi => hm (nar_ex i hi)) (fun i hi => hm (nar_co i hi)) (fun i hi => hm (nar_ar i hi)) (fun i hi => hm (nar_le i hi)) (fun i hi j hj => hm (nar_el i hi j hj)) (fun i j hi hj hn => (nar_ne hi hj hn).elim (fun q => Or.inl (hs _ q)) (fun q => Or.inr (hs _ q))) hA
  exact ⟨mo, aK, aV, va_Zref (hts _ (List.mem_of_getElem? (i := 250) (by decide +kernel))) (hts _ (List.mem_filter.mp wd_69).1) m1 hA, m2, lnS_eq ▸ k1, fun i hi => vk_R.of (hts _ (List.mem_of_getElem? (tbl_s i hi))) (k2 i hi), va_Zof (hts _ (List.mem_of_getElem? (i := 650) (by decide +kernel))) (hts _ (List.mem_filter.mp wd_79).1) (va_eqi (hs _ nar_cs)) hA, va_Zqof (hts _ (List.mem_of_getElem? (i := 666) (by decide +kernel))) (hts _ (List.mem_filter.mp wd_81).1) (hs _ nar_sf) hA⟩
/-- the abstract heap at the start -/
def c00 : TC := (0, 0, 0, 0, 0, 0, fun _ => 0, fun _ => 0, fun _ => 0, fun _ => 0)
def h00 : Hp := ((0, 0, 0), (0, 0, fun _ _ => 0), c00, c00, (-1, -1, fun _ => 0), (0, 0, 0, 0, fun _ => 0, fun _ => 0, fun _ => 0), (0, fun _ => 0), (0, 0, 0, 0, 0, 0, 0, 0, 0, 0, 0, 0, 0, 0, fun _ => 0, fun _ => 0, fun _ => 0, fun _ => 0, fun _ => 0, fun _ => 0, fun _ => 0, fun _ => 0, fun _ => 0))
theorem REL_0 : REL 0 h00 := by
  refine ⟨0, 0, 0, 0, 0, 0, 0, 0, fun _ => 0, fun _ _ => 0, ⟨by omega, l0, l0, ⟨by omega, l0, l0, fun u hu => absurd hu (by omega)⟩, by omega, l0, l0, by omega, l0, l0, by omega, l0, l0, by omega, l0, l0, fun i hi => absurd hi (by omega), ⟨by omega, l0, l0, fun i hi => absurd hi (by omega)⟩, l0⟩, ⟨rfl, rfl, rfl⟩, ⟨by omega, l0, l0, fun i hi => absurd hi (by omega)⟩, ⟨l0, by omega, Or.inl rfl, fun w hw e => absurd e (by decide)⟩⟩
def adr (h5 : Nat) (u5 : (Nat → Nat) × (Nat → Nat → Nat)) (h6 : Nat) (u6 : Nat → Nat) : Nat → Nat := fun k => ([h5, (u5.1 0), (u5.2 0 0), (u5.2 0 1), (u5.2 0 2), (u5.2 0 3), (u5.2 0 4), (u5.2 0 5), (u5.1 1), (u5.2 1 0), (u5.2 1 1), (u5.2 1 2), (u5.2 1 3), (u5.1 2), (u5.2 2 0), (u5.2 2 1), (u5.2 2 2), (u5.2 2 3), (u5.1 3), (u5.2 3 0), (u5.1 4), (u5.2 4 0), (u5.2 4 1), (u5.2 4 2), (u5.1 5), (u5.2 5 0), h6, (u6 0), (u6 1), (u6 2), (u6 3), (u6 4), (u6 5), (u6 6), (u6 7), (u6 8)] : List Nat).getD k 0
theorem grid_eq (h5 : Nat) (u5 : (Nat → Nat) × (Nat → Nat → Nat)) (h6 : Nat) (u6 : Nat → Nat) : (fun i => if i < 5 then some (adr h5 u5 h6 u6 (3 + i)) else none) = (fun i => if i < 5 then some (u5.2 0 (i + 1)) else none) := by
  funext i
  match i with
  | 0 => rfl
  | 1 => rfl
  | 2 => rfl
  | 3 => rfl
  | 4 => rfl
  | i + 5 =>
    rw [if_neg (by omega), if_neg (by omega)]
abbrev EN0 (l : Launch) (D : va_G) (cI cB cJ cZ cG : ClassId) (mo : Nat) (aK aV : Nat → Nat) (h5 : Nat) (u5 : (Nat → Nat) × (Nat → Nat → Nat)) (h6 : Nat) (u6 : Nat → Nat) : EN := (l, D, adr h5 u5 h6 u6, (cI, cB, cJ, cZ, cG), mo, aK, aV)
set_option maxRecDepth 100000 in
theorem w_start {l : Launch} {D : va_G} {cI cB cJ cZ cG : ClassId} {mo : Nat} {aK aV : Nat → Nat} {h5 : Nat} {u5 : (Nat → Nat) × (Nat → Nat → Nat)} {h6 : Nat} {u6 : Nat → Nat} : wl (EN0 l D cI cB cJ cZ cG mo aK aV h5 u5 h6 u6) h00 = [(h5, .inr (5, [.ref (u5.1 0), .ref (u5.1 1), .ref (u5.1 2), .ref (u5.1 3), .ref (u5.1 4), .ref (u5.1 5), .int 0, .int 0, .int 0])), ((u5.1 0), .inr (3, [.ref (u5.2 0 0), .int 0, .int 0])), ((u5.2 0 0), .inl (cG, 5, .inr (.inr (.inr (.inr (fun i => if i < 5 then some (u5.2 0 (i + 1)) else none)))))), ((u5.2 0 1), .inl (cI, 12, .inl (fun _ => 0))), ((u5.2 0 2), .inl (cI, 12, .inl (fun _ => 0))), ((u5.2 0 3), .inl (cI, 12, .inl (fun _ => 0))), ((u5.2 0 4), .inl (cI, 12, .inl (fun _ => 0))), ((u5.2 0 5), .inl (cI, 12, .inl (fun _ => 0))), ((u5.1 1), .inr (0, [.ref (u5.2 1 0), .ref (u5.2 1 1), .ref (u5.2 1 2), .ref (u5.2 1 3), .int 0, .int 0, .int 0, .int 0, .int 0, .int 0])), ((u5.2 1 0), .inl (cI, 12, .inl (fun _ => 0))), ((u5.2 1 1), .inl (cI, 12, .inl (fun _ => 0))), ((u5.2 1 2), .inl (cI, 12, .inl (fun _ => 0))), ((u5.2 1 3), .inl (cI, 12, .inl (fun _ => 0))), ((u5.1 2), .inr (0, [.ref (u5.2 2 0), .ref (u5.2 2 1), .ref (u5.2 2 2), .ref (u5.2 2 3), .int 0, .int 0, .int 0, .int 0, .int 0, .int 0])), ((u5.2 2 0), .inl (cI, 12, .inl (fun _ => 0))), ((u5.2 2 1), .inl (cI, 12, .inl (fun _ => 0))), ((u5.2 2 2), .inl (cI, 12, .inl (fun _ => 0))), ((u5.2 2 3), .inl (cI, 12, .inl (fun _ => 0))), ((u5.1 3), .inr (1, [.ref (u5.2 3 0), .int (-1), .int (-1)])), ((u5.2 3 0), .inl (cJ, 64, .inr (.inl (fun _ => 0)))), ((u5.1 4), .inr (4, [.ref (u5.2 4 0), .ref (u5.2 4 1), .ref (u5.2 4 2), .int 0, .int 0, .int 0, .int 0])), ((u5.2 4 0), .inl (cB, 120, .inl (fun _ => 0))), ((u5.2 4 1), .inl (cI, 30, .inl (fun _ => 0))), ((u5.2 4 2), .inl (cI, 150, .inl (fun _ => 0))), ((u5.1 5), .inr (2, [.ref (u5.2 5 0), .int 0])), ((u5.2 5 0), .inl (cB, 300, .inl (fun _ => 0))), (h6, .inr (6, [.ref (u6 0), .int 0, .int 0, .int 0, .ref (u6 1), .ref (u6 2), .int 0, .int 0, .ref (u6 3), .int 0, .int 0, .int 0, .ref (u6 4), .int 0, .int 0, .int 0, .ref (u6 5), .ref (u6 6), .int 0, .ref (u6 7), .int 0, .int 0, .ref (u6 8)])), ((u6 0), .inl (cI, 60, .inl (fun _ => 0))), ((u6 1), .inl (cI, 3, .inl (fun _ => 0))), ((u6 2), .inl (cI, 12, .inl (fun _ => 0))), ((u6 3), .inl (cI, 36, .inl (fun _ => 0))), ((u6 4), .inl (cI, 36, .inl (fun _ => 0))), ((u6 5), .inl (cZ, 4096, .inl (fun _ => 0))), ((u6 6), .inl (cI, 120, .inl (fun _ => 0))), ((u6 7), .inl (cI, 300, .inl (fun _ => 0))), ((u6 8), .inl (cI, 5, .inl (fun _ => 0)))] := by
  rw [← grid_eq h5 u5 h6 u6]
  rfl
