/-! the words, said and spelt -/
/-- the thirteen words, in the class's order -/
def wd : Nat → List Nat
  | 0 => [114, 111, 119]
  | 1 => [110, 101, 97, 114]
  | 2 => [115, 116, 114, 97, 116, 97]
  | 3 => [102, 97, 114]
  | 4 => [99, 104, 97, 110, 99, 101]
  | 5 => [117, 110, 105, 116]
  | 6 => [116, 117, 114, 110]
  | 7 => [112, 108, 97, 99, 101]
  | 8 => [115, 116, 114, 97, 116, 117, 109]
  | 9 => [115, 105, 122, 101]
  | 10 => [118, 97, 108, 117, 101]
  | 11 => [119, 97, 108, 107]
  | _ => [109, 97, 110, 121]
/-- the reference's number of a word, as the class's -/
def cod (m : Nat) : Nat := if m < 5 then m else if m < 10 then m + 1 else if m = 10 then 5 else m
theorem wd_len : ∀ w, w < 13 → f_J0_length_8abf5 w = some (nI (wd w).length) ∧ 0 < (wd w).length ∧ (wd w).length ≤ 7 := by decide +kernel
theorem wd_chr : ∀ w, w < 13 → ∀ i, i < (wd w).length → f_J0_charAt_5068e w (nI i) = some (nI ((wd w).getD i 0)) := by decide +kernel
theorem wd_rng : ∀ w, w < 13 → ∀ i, i < (wd w).length → 97 ≤ (wd w).getD i 0 ∧ (wd w).getD i 0 ≤ 122 := by decide +kernel
/-- the value of the first k signs from a on -/
def vN (b : Nat → Nat) (a : Nat) : Nat → Nat
  | 0 => 0
  | k + 1 => 27 * vN b a k + (b (a + k) - 96)
def vW (w : Nat) : Nat := vN (fun i => (wd w).getD i 0) 0 (wd w).length
theorem let_tab : ∀ m, m < 13 → f_X6_letters (nI m) = some (lN (vW (cod m))) := by decide +kernel
theorem word_tab : ∀ w, w < 13 → f_X4_word (nI w) = some w := by decide +kernel
def putAll : List Nat → Int32 × (Nat → Int32) → Option (Int32 × (Nat → Int32))
  | [], x => some x
  | c :: cs, x => Option.bind (f_X2_put x.1 x.2 (nI c)) (putAll cs)
def tellAll : List Nat → Int32 × (Nat → Int32) → Option (Int32 × (Nat → Int32))
  | [], x => some x
  | c :: cs, x => Option.bind (f_X6_tells x.1 x.2 (nI c)) (tellAll cs)
theorem e_all2 : ∀ cs p pl ps al an, (∀ c, c ∈ cs → c ≤ 127) → ANS p pl ps al an → TPU (putAll cs (pl, ps)) (tellAll cs (al, an))
  | [], p, pl, ps, al, an, _, h => ⟨p, pl, ps, al, an, rfl, rfl, h⟩
  | c :: cs, p, pl, ps, al, an, hc, h => by
    obtain ⟨p', pl', ps', al', an', e1, e2, h'⟩ := e_put h (hc c (List.mem_cons_self ..))
    show TPU (Option.bind (f_X2_put pl ps (nI c)) (putAll cs)) (Option.bind (f_X6_tells al an (nI c)) (tellAll cs))
    rw [e1, e2, bs, bs]
    exact e_all2 cs p' pl' ps' al' an' (fun c' h => hc c' (List.mem_cons_of_mem _ h)) h'
theorem drop_get {l : List Nat} {i : Nat} (h : i < l.length) : l.drop i = l.getD i 0 :: l.drop (i + 1) := by
  rw [List.drop_eq_getElem_cons h]
  congr 1
  rw [List.getD_eq_getElem?_getD, List.getElem?_eq_getElem h]
  rfl
theorem e_lp_putWord {w : Nat} (hw : w < 13) : ∀ n i pl ps, i ≤ (wd w).length → (wd w).length < n + i → lp_X2_putWord_2 w n (nI i) pl ps = putAll ((wd w).drop i) (pl, ps) := by
  obtain ⟨h1, h2, h3⟩ := wd_len w hw
  intro n
  induction n with
  | zero => intro i pl ps g1 g2; omega
  | succ n ih =>
    intro i pl ps g1 g2
    rw [lp_X2_putWord_2, h1, bs]
    by_cases e : i = (wd w).length
    · rw [if_pos (by rw [i_le (by omega) (by omega)]; omega), e, List.drop_length]
      rfl
    · have hi : i < (wd w).length := by omega
      rw [if_neg (by rw [i_le (by omega) (by omega)]; omega), wd_chr w hw i hi, bs, drop_get hi, show nI i + 1 = nI (i + 1) by rw [l1, nI_add]]
      show Option.bind _ _ = Option.bind (f_X2_put pl ps (nI ((wd w).getD i 0))) (putAll ((wd w).drop (i + 1)))
      congr 1
      funext x
      exact ih (i + 1) x.1 x.2 (by omega) (by omega)
theorem e_putWord1 {w : Nat} (hw : w < 13) (pl : Int32) (ps : Nat → Int32) : f_X2_putWord pl ps w = putAll (wd w) (pl, ps) := by
  obtain ⟨h1, h2, h3⟩ := wd_len w hw
  unfold f_X2_putWord
  have h := e_lp_putWord hw FU 0 pl ps (by omega) (by rw [FU_eq]; omega)
  rw [← l0] at h
  rw [h, List.drop_zero]
  cases putAll (wd w) (pl, ps) <;> rfl
/-- the value of a list of letters -/
def vL : List Nat → Nat
  | [] => 0
  | c :: cs => (c - 96) * 27 ^ cs.length + vL cs
theorem vL_lt : ∀ cs, (∀ c, c ∈ cs → 97 ≤ c ∧ c ≤ 122) → vL cs < 27 ^ cs.length
  | [], _ => by decide
  | c :: cs, h => by
    have h1 := vL_lt cs (fun c' k => h c' (List.mem_cons_of_mem _ k))
    have h2 := h c (List.mem_cons_self ..)
    show (c - 96) * 27 ^ cs.length + vL cs < 27 ^ (cs.length + 1)
    have h3 : (c - 96) * 27 ^ cs.length ≤ 26 * 27 ^ cs.length := Nat.mul_le_mul_right _ (by omega)
    rw [Nat.pow_succ]
    omega
theorem l_i32 {x : Nat} (h : x < 1000) : (lN x).toInt32 = nI x := by
  apply Int32.toInt_inj.mp
  rw [Int64.toInt_toInt32, l_ti (by omega)]
  exact (Int32.toInt_ofNat' (n := x)).symm
theorem e_lp_tells30 : ∀ cs n al an, (∀ c, c ∈ cs → 97 ≤ c ∧ c ≤ 122) → cs.length ≤ 7 → cs.length < n → lp_X6_tellsWord_30 n (lN (vL cs)) (lN (if cs.length = 0 then 0 else 27 ^ (cs.length - 1))) al an = tellAll cs (al, an)
  | [], n, al, an, _, _, hn => by
    obtain ⟨n, rfl⟩ : ∃ n', n = n' + 1 := ⟨n - 1, by have : 0 < n := hn; omega⟩
    rw [lp_X6_tellsWord_30]
    exact if_pos (by decide)
  | c :: cs, n, al, an, h, h7, hn => by
    obtain ⟨n, rfl⟩ : ∃ n', n = n' + 1 := ⟨n - 1, by have : 0 < n := Nat.lt_of_le_of_lt (Nat.zero_le _) hn; omega⟩
    have hl : (c :: cs).length = cs.length + 1 := rfl
    rw [hl] at h7 hn ⊢
    have h1 := vL_lt cs (fun c' k => h c' (List.mem_cons_of_mem _ k))
    have h2 := h c (List.mem_cons_self ..)
    have hp : 0 < 27 ^ cs.length := Nat.pow_pos (by decide)
    have hp7 : 27 ^ cs.length ≤ 27 ^ 6 := Nat.pow_le_pow_right (by decide) (by omega)
    have h76 : 27 ^ 6 = 387420489 := by decide
    have hv : vL (c :: cs) < 27 * 387420489 := by
      have := vL_lt (c :: cs) h
      rw [hl, Nat.pow_succ] at this
      omega
    rw [if_neg (show ¬ (cs.length + 1 = 0) by omega), Nat.add_sub_cancel, lp_X6_tellsWord_30]
    have e0 : (0 : Int64) = lN 0 := rfl
    have ed : vL (c :: cs) / 27 ^ cs.length = c - 96 := by
      show ((c - 96) * 27 ^ cs.length + vL cs) / 27 ^ cs.length = _
      rw [Nat.add_comm, Nat.add_mul_div_right _ _ hp, Nat.div_eq_of_lt h1, Nat.zero_add]
    have em : vL (c :: cs) % 27 ^ cs.length = vL cs := by
      show ((c - 96) * 27 ^ cs.length + vL cs) % 27 ^ cs.length = _
      rw [Nat.add_comm, Nat.add_mul_mod_self_right, Nat.mod_eq_of_lt h1]
    have ec : (lN (c - 96)).toInt32 + 97 - 1 = nI c := by
      rw [l_i32 (by omega), l97, l1, nI_add, i_sub (by omega)]
      congr 1
      omega
    have eq : (if cs.length = 0 then 0 else 27 ^ (cs.length - 1)) = 27 ^ cs.length / 27 := by
      by_cases g : cs.length = 0
      · rw [if_pos g, g]
      · rw [if_neg g]
        obtain ⟨k, hk⟩ : ∃ k, cs.length = k + 1 := ⟨cs.length - 1, by omega⟩
        rw [hk, Nat.add_sub_cancel, Nat.pow_succ, Nat.mul_div_cancel _ (by decide)]
    have l27 : (27 : Int64) = lN 27 := rfl
    have hne : ¬ lN (27 ^ cs.length) = 0 := by
      rw [e0, pk_lEQ (by omega) (by omega)]
      omega
    have hgt : ¬ lg_cmp (lN (27 ^ cs.length)) 0 ≤ 0 := by
      intro q
      have q2 : ¬ (0 < lg_cmp (lN (27 ^ cs.length)) 0) := by
        rw [fa_le] at q
        rw [fa_lt]
        omega
      apply q2
      rw [c_gt, e0, L_lt (by omega) (by omega)]
      exact hp
    rw [if_neg hgt, if_neg hne, pk_lRem (by omega) hp (by omega), pk_lDiv (by omega) hp (by omega), ed, em, ec, l27, pk_lDiv (by omega) (by omega) (by omega), ← eq]
    show _ = Option.bind (f_X6_tells al an (nI c)) (tellAll cs)
    congr 1
    funext x
    rw [if_neg hne]
    exact e_lp_tells30 cs n x.1 x.2 (fun c' k => h c' (List.mem_cons_of_mem _ k)) (by omega) (by omega)
theorem tw_tab : ∀ w, w < 5 → f_X6_letters (nI w) = some (lN (vL (wd w))) ∧ lp_X6_tellsWord_8 (lN (vL (wd w))) FU 1 = some (lN (27 ^ ((wd w).length - 1))) := by decide +kernel
theorem wd_mem : ∀ w, w < 13 → ∀ c, c ∈ wd w → 97 ≤ c ∧ c ≤ 122 := by decide +kernel
theorem e_putWord {w p : Nat} {pl al : Int32} {ps an : Nat → Int32} (hw : w < 5) (h : ANS p pl ps al an) : TPU (f_X2_putWord pl ps w) (f_X6_tellsWord al an (nI w)) := by
  obtain ⟨h1, h2, h3⟩ := wd_len w (by omega)
  obtain ⟨t1, t2⟩ := tw_tab w hw
  have t3 := e_lp_tells30 (wd w) FU al an (wd_mem w (by omega)) h3 (by rw [FU_eq]; omega)
  rw [if_neg (by omega)] at t3
  obtain ⟨p', pl', ps', al', an', e1, e2, h'⟩ := e_all2 (wd w) p pl ps al an (fun c k => by have := wd_mem w (by omega) c k; omega) h
  refine ⟨p', pl', ps', al', an', ?_, ?_, h'⟩
  · rw [e_putWord1 (by omega)]; exact e1
  · unfold f_X6_tellsWord
    rw [t1, bs, t2, bs, t3, e2, bs]
