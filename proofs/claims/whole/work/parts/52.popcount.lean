/-! how many bits a long has: Long.bitCount, byte by byte -/
/-- a number, each of its bytes changed by f -/
def byf (f : Nat → Nat) : Nat → Nat → Nat
  | 0, _ => 0
  | k + 1, n => f (n % 256) + 256 * byf f k (n / 256)
theorem byf_lt {f : Nat → Nat} (hf : ∀ b, b < 256 → f b < 256) : ∀ k n, byf f k n < 256 ^ k
  | 0, _ => by show 0 < 1; decide
  | k + 1, n => by
    have h := byf_lt hf k (n / 256)
    have h2 := hf (n % 256) (Nat.mod_lt _ (by decide))
    rw [byf, Nat.pow_succ]
    omega
theorem byf_id : ∀ k n, n < 256 ^ k → byf (fun b => b) k n = n
  | 0, n, h => by
    have : n < 1 := h
    show 0 = n
    omega
  | k + 1, n, h => by
    rw [Nat.pow_succ] at h
    rw [byf, byf_id k (n / 256) (by omega)]
    omega
theorem byf_comp {f g : Nat → Nat} (hf : ∀ b, b < 256 → f b < 256) : ∀ k n, byf g k (byf f k n) = byf (fun b => g (f b)) k n
  | 0, _ => rfl
  | k + 1, n => by
    have h2 := hf (n % 256) (Nat.mod_lt _ (by decide))
    show g ((f (n % 256) + 256 * byf f k (n / 256)) % 256) + 256 * byf g k ((f (n % 256) + 256 * byf f k (n / 256)) / 256) = g (f (n % 256)) + 256 * byf (fun b => g (f b)) k (n / 256)
    rw [show (f (n % 256) + 256 * byf f k (n / 256)) % 256 = f (n % 256) by omega, show (f (n % 256) + 256 * byf f k (n / 256)) / 256 = byf f k (n / 256) by omega, byf_comp hf k]
theorem byf_cong {f g : Nat → Nat} (h : ∀ b, b < 256 → f b = g b) : ∀ k n, byf f k n = byf g k n
  | 0, _ => rfl
  | k + 1, n => by rw [byf, byf, h _ (Nat.mod_lt _ (by decide)), byf_cong h k]
theorem byf_add {f g : Nat → Nat} : ∀ k n, byf f k n + byf g k n = byf (fun b => f b + g b) k n
  | 0, _ => rfl
  | k + 1, n => by
    have := byf_add (f := f) (g := g) k (n / 256)
    rw [byf, byf, byf]
    omega
theorem byf_sub {f g : Nat → Nat} (h : ∀ b, b < 256 → g b ≤ f b) : ∀ k n, byf f k n - byf g k n = byf (fun b => f b - g b) k n ∧ byf g k n ≤ byf f k n
  | 0, _ => ⟨rfl, Nat.le_refl _⟩
  | k + 1, n => by
    have h1 := byf_sub h k (n / 256)
    have h2 := h (n % 256) (Nat.mod_lt _ (by decide))
    rw [byf, byf, byf]
    omega
theorem and_split (p q a c : Nat) (ha : a < 256) (hc : c < 256) : (a + 256 * p) &&& (c + 256 * q) = (a &&& c) + 256 * (p &&& q) := by
  have h1 : ∀ x y, x < 256 → x + 256 * y = 2 ^ 8 * y ||| x := fun x y hx => by
    rw [← Nat.two_pow_add_eq_or_of_lt (show x < 2 ^ 8 from hx)]
    omega
  have hac : a &&& c < 256 := Nat.lt_of_le_of_lt Nat.and_le_left ha
  rw [h1 a p ha, h1 c q hc, h1 (a &&& c) (p &&& q) hac]
  apply Nat.eq_of_testBit_eq
  intro i
  simp only [Nat.testBit_and, Nat.testBit_or, Nat.testBit_two_pow_mul]
  by_cases g : 8 ≤ i
  · have t1 : a.testBit i = false := Nat.testBit_lt_two_pow (Nat.lt_of_lt_of_le (show a < 2 ^ 8 from ha) (Nat.pow_le_pow_right (by decide) g))
    have t2 : c.testBit i = false := Nat.testBit_lt_two_pow (Nat.lt_of_lt_of_le (show c < 2 ^ 8 from hc) (Nat.pow_le_pow_right (by decide) g))
    simp [g, t1, t2]
  · simp [g]
/-- a mask of k like bytes -/
def msk (m : Nat) (k : Nat) : Nat := byf (fun _ => m) k 0
theorem msk_succ (m k : Nat) : msk m (k + 1) = m + 256 * msk m k := rfl
theorem byf_mask {f : Nat → Nat} {m : Nat} (hm : m < 256) (hf : ∀ b, b < 256 → f b < 256) : ∀ k n, byf f k n &&& msk m k = byf (fun b => f b &&& m) k n
  | 0, _ => Nat.and_zero _
  | k + 1, n => by
    rw [msk_succ, byf, byf, and_split _ _ _ _ (hf _ (Nat.mod_lt _ (by decide))) hm, byf_mask hm hf k]
/-- shifted right by less than a byte, under a mask that hides what comes from the next byte -/
theorem byf_shr {m d : Nat} (hm : m < 256) (hd : d = 2 ∨ d = 4) (hmask : ∀ e, e < d → ∀ b, b < 256 → (b / d + 256 / d * e) &&& m = b / d &&& m) : ∀ k n, n < 256 ^ k → (n / d) &&& msk m k = byf (fun b => b / d &&& m) k n
  | 0, n, h => by
    have : n < 1 := h
    rw [show n = 0 by omega]
    show 0 / d &&& 0 = 0
    exact Nat.and_zero _
  | k + 1, n, h => by
    rw [Nat.pow_succ] at h
    have ih := byf_shr hm hd hmask k (n / 256) (by omega)
    have e : n / d = ((n % 256) / d + 256 / d * (n / 256 % d)) + 256 * (n / 256 / d) := by
      rcases hd with rfl | rfl <;> omega
    have hl : (n % 256) / d + 256 / d * (n / 256 % d) < 256 := by
      rcases hd with rfl | rfl <;> omega
    have hed : n / 256 % d < d := Nat.mod_lt _ (by omega)
    rw [e, msk_succ, and_split _ _ _ _ hl hm, hmask _ hed _ (Nat.mod_lt _ (by decide)), ih]
    rfl
theorem byf_nib {f : Nat → Nat} (hf : ∀ b, b < 256 → f b % 16 ≤ 4 ∧ f b / 16 ≤ 4) : ∀ k n, (byf f k n + byf f k n / 16) &&& msk 15 k = byf (fun b => (f b + f b / 16) &&& 15) k n ∧ byf f k n % 16 ≤ 4
  | 0, _ => ⟨Nat.and_zero _, Nat.zero_le _⟩
  | k + 1, n => by
    obtain ⟨i1, i2⟩ := byf_nib hf k (n / 256)
    obtain ⟨h1, h2⟩ := hf (n % 256) (Nat.mod_lt _ (by decide))
    have e : byf f (k + 1) n + byf f (k + 1) n / 16 = (f (n % 256) + f (n % 256) / 16 + 16 * (byf f k (n / 256) % 16)) + 256 * (byf f k (n / 256) + byf f k (n / 256) / 16) := by
      rw [byf]; omega
    have h15 : ∀ x, x &&& 15 = x % 16 := fun x => Nat.and_two_pow_sub_one_eq_mod x 4
    constructor
    · rw [e, msk_succ, and_split _ _ _ _ (by omega) (by decide), i1, byf, h15, h15]
      omega
    · rw [byf]; omega
def pp (b : Nat) : Nat := b - (b / 2 &&& 85)
def pq (b : Nat) : Nat := (pp b &&& 51) + (pp b / 4 &&& 51)
def pr (b : Nat) : Nat := (pq b + pq b / 16) &&& 15
theorem pp_lt : ∀ b, b < 256 → pp b < 256 := by decide +kernel
theorem pp_le : ∀ b, b < 256 → b / 2 &&& 85 ≤ b := by decide +kernel
theorem pq_ok : ∀ b, b < 256 → pq b < 256 ∧ pq b % 16 ≤ 4 ∧ pq b / 16 ≤ 4 := by decide +kernel
theorem pr_ok : ∀ b, b < 256 → pr b = fb_ct (fun i => b.testBit i) 8 := by decide +kernel
theorem m1_ok : ∀ e, e < 2 → ∀ b, b < 256 → (b / 2 + 256 / 2 * e) &&& 85 = b / 2 &&& 85 := by decide +kernel
theorem m2_ok : ∀ e, e < 4 → ∀ b, b < 256 → (b / 4 + 256 / 4 * e) &&& 51 = b / 4 &&& 51 := by decide +kernel
/-- the three steps within the bytes -/
theorem pop_steps {n : Nat} (h : n < 256 ^ 8) :
    let x1 := n - (n / 2 &&& msk 85 8)
    let x2 := (x1 &&& msk 51 8) + (x1 / 4 &&& msk 51 8)
    (n / 2 &&& msk 85 8 ≤ n) ∧ x1 < 256 ^ 8 ∧ x2 < 256 ^ 8 ∧ x2 = byf pq 8 n ∧ (x2 + x2 / 16) &&& msk 15 8 = byf pr 8 n := by
  intro x1 x2
  have a1 : n / 2 &&& msk 85 8 = byf (fun b => b / 2 &&& 85) 8 n := byf_shr (by decide) (Or.inl rfl) m1_ok 8 n h
  have a2 := byf_sub (f := fun b => b) (g := fun b => b / 2 &&& 85) pp_le 8 n
  rw [byf_id 8 n h] at a2
  have a3 : x1 = byf pp 8 n := by
    show n - (n / 2 &&& msk 85 8) = _
    rw [a1]; exact a2.1
  have h1 : x1 < 256 ^ 8 := by rw [a3]; exact byf_lt pp_lt 8 n
  have a4 : x1 &&& msk 51 8 = byf (fun b => pp b &&& 51) 8 n := by rw [a3]; exact byf_mask (by decide) pp_lt 8 n
  have a5 : x1 / 4 &&& msk 51 8 = byf (fun b => pp b / 4 &&& 51) 8 n := by
    rw [byf_shr (by decide) (Or.inr rfl) m2_ok 8 x1 h1, a3]
    exact byf_comp pp_lt 8 n
  have a6 : x2 = byf pq 8 n := by
    show (x1 &&& msk 51 8) + (x1 / 4 &&& msk 51 8) = _
    rw [a4, a5]; exact byf_add 8 n
  refine ⟨by rw [a1]; exact a2.2, h1, by rw [a6]; exact byf_lt (fun b hb => (pq_ok b hb).1) 8 n, a6, ?_⟩
  rw [a6]
  exact (byf_nib (fun b hb => (pq_ok b hb).2) 8 n).1
theorem byf8 (f : Nat → Nat) (n : Nat) : byf f 8 n = f (n % 256) + 256 * (f (n / 256 % 256) + 256 * (f (n / 256 / 256 % 256) + 256 * (f (n / 256 / 256 / 256 % 256) + 256 * (f (n / 256 / 256 / 256 / 256 % 256) + 256 * (f (n / 256 / 256 / 256 / 256 / 256 % 256) + 256 * (f (n / 256 / 256 / 256 / 256 / 256 / 256 % 256) + 256 * (f (n / 256 / 256 / 256 / 256 / 256 / 256 / 256 % 256) + 256 * 0))))))) := rfl
theorem pe_1 {p q m : Nat} (h : p < 256) (e : m = p + 256 * q) : m / 256 = q := by omega
theorem pe_2 {a b r x : Nat} (ha : a < 256) (hb : b < 256) (e : x = a + 256 * (b + 256 * r)) : x / 65536 = r := by omega
theorem pe_4 {a b c d s x : Nat} (ha : a < 256) (hb : b < 256) (hc : c < 256) (hd : d < 256) (e : x = a + 256 * (b + 256 * (c + 256 * (d + 256 * s)))) : x / 4294967296 = s := by
  have h1 : x / 65536 = c + 256 * (d + 256 * s) := pe_2 ha hb e
  have h2 : x / 65536 / 65536 = s := pe_2 hc hd h1
  have h3 : x / 65536 / 65536 = x / (65536 * 65536) := Nat.div_div_eq_div_mul _ _ _
  rw [← h2, h3]
theorem pe_b {m x4 x5 x6 : Nat} (hm : m < 648518346341351424) (e4 : x4 = m + m / 256) (e5 : x5 = x4 + x4 / 65536) (e6 : x6 = x5 + x5 / 4294967296) : x6 < 9223372036854775808 := by
  have h1 : m / 256 ≤ m := Nat.div_le_self _ _
  have h2 : x4 / 65536 ≤ x4 := Nat.div_le_self _ _
  have h3 : x5 / 4294967296 ≤ x5 := Nat.div_le_self _ _
  omega
theorem pe_mod {t0 s1 t4 s5 z : Nat} (h : t0 + t4 < 128) (e : z = t0 + 256 * s1 + (t4 + 256 * s5)) : z % 128 = t0 + t4 := by omega
theorem pe_q {p q b : Nat} (hp : p ≤ 8) (hq : q < b) : p + 256 * q < 256 * b := by omega
theorem pe_f4 {p0 p1 p2 q1 q2 q3 : Nat} (e1 : q1 = p1 + 256 * q2) (e2 : q2 = p2 + 256 * q3) : p0 + 256 * q1 + q1 = (p0 + p1) + 256 * ((p1 + p2) + 256 * (q2 + q3)) := by omega
theorem pe_r {p p' q q' q'' : Nat} (e1 : q = p + 256 * q') (e2 : q' = p' + 256 * q'') : q + q' = (p + p') + 256 * (q' + q'') := by omega
theorem pe_s {t t' r r' u u' : Nat} (e1 : r = t + 256 * r') (e2 : u = t' + 256 * u') : r + u = (t + t') + 256 * (r' + u') := by omega
theorem pe_x {a b r : Nat} {x : Nat} (e : x = a + 256 * b) : x + r = (a + r) + 256 * b := by omega
theorem pop_end {p0 p1 p2 p3 p4 p5 p6 p7 : Nat} (h0 : p0 ≤ 8) (h1 : p1 ≤ 8) (h2 : p2 ≤ 8) (h3 : p3 ≤ 8) (h4 : p4 ≤ 8) (h5 : p5 ≤ 8) (h6 : p6 ≤ 8) (h7 : p7 ≤ 8) {m x4 x5 x6 : Nat}
    (hm : m = p0 + 256 * (p1 + 256 * (p2 + 256 * (p3 + 256 * (p4 + 256 * (p5 + 256 * (p6 + 256 * (p7 + 256 * 0)))))))) (e4 : x4 = m + m / 256) (e5 : x5 = x4 + x4 / 65536) (e6 : x6 = x5 + x5 / 4294967296) :
    x6 < 9223372036854775808 ∧ x6 % 128 = p0 + p1 + p2 + p3 + p4 + p5 + p6 + p7 := by
  obtain ⟨q8, eq8⟩ : ∃ q, q = 0 := ⟨_, rfl⟩
  obtain ⟨q7, eq7⟩ : ∃ q, q = p7 + 256 * q8 := ⟨_, rfl⟩
  obtain ⟨q6, eq6⟩ : ∃ q, q = p6 + 256 * q7 := ⟨_, rfl⟩
  obtain ⟨q5, eq5⟩ : ∃ q, q = p5 + 256 * q6 := ⟨_, rfl⟩
  obtain ⟨q4, eq4⟩ : ∃ q, q = p4 + 256 * q5 := ⟨_, rfl⟩
  obtain ⟨q3, eq3⟩ : ∃ q, q = p3 + 256 * q4 := ⟨_, rfl⟩
  obtain ⟨q2, eq2⟩ : ∃ q, q = p2 + 256 * q3 := ⟨_, rfl⟩
  obtain ⟨q1, eq1⟩ : ∃ q, q = p1 + 256 * q2 := ⟨_, rfl⟩
  have hm' : m = p0 + 256 * q1 := by rw [hm, eq1, eq2, eq3, eq4, eq5, eq6, eq7, eq8]
  clear hm
  have b7 : q7 < 9 := by rw [eq7, eq8]; exact Nat.lt_succ_of_le h7
  have b6 : q6 < 256 * 9 := by rw [eq6]; exact pe_q h6 b7
  have b5 : q5 < 256 * (256 * 9) := by rw [eq5]; exact pe_q h5 b6
  have b4 : q4 < 256 * (256 * (256 * 9)) := by rw [eq4]; exact pe_q h4 b5
  have r1 := pe_r eq1 eq2
  have r2 := pe_r eq2 eq3
  have r3 := pe_r eq3 eq4
  have r4 := pe_r eq4 eq5
  have r5 := pe_r eq5 eq6
  have r6 := pe_r eq6 eq7
  have s1 := pe_s r1 r3
  have s2 := pe_s r2 r4
  have s3 := pe_s r3 r5
  have s4 := pe_s r4 r6
  have d1 : m / 256 = q1 := pe_1 (Nat.lt_of_le_of_lt h0 (by decide)) hm'
  have k01 : p0 + p1 < 256 := Nat.lt_of_le_of_lt (Nat.add_le_add h0 h1) (by decide)
  have k12 : p1 + p2 < 256 := Nat.lt_of_le_of_lt (Nat.add_le_add h1 h2) (by decide)
  have f4 : x4 = (p0 + p1) + 256 * ((p1 + p2) + 256 * (q2 + q3)) := by rw [e4, d1, hm']; exact pe_f4 eq1 eq2
  have d2 : x4 / 65536 = q2 + q3 := pe_2 k01 k12 f4
  have k0 : p0 + p1 + (p2 + p3) < 256 := Nat.lt_of_le_of_lt (Nat.add_le_add (Nat.add_le_add h0 h1) (Nat.add_le_add h2 h3)) (by decide)
  have k1 : p1 + p2 + (p3 + p4) < 256 := Nat.lt_of_le_of_lt (Nat.add_le_add (Nat.add_le_add h1 h2) (Nat.add_le_add h3 h4)) (by decide)
  have k2 : p2 + p3 + (p4 + p5) < 256 := Nat.lt_of_le_of_lt (Nat.add_le_add (Nat.add_le_add h2 h3) (Nat.add_le_add h4 h5)) (by decide)
  have k3 : p3 + p4 + (p5 + p6) < 256 := Nat.lt_of_le_of_lt (Nat.add_le_add (Nat.add_le_add h3 h4) (Nat.add_le_add h5 h6)) (by decide)
  have f5 : x5 = (p0 + p1 + (p2 + p3)) + 256 * ((p1 + p2 + (p3 + p4)) + 256 * ((p2 + p3 + (p4 + p5)) + 256 * ((p3 + p4 + (p5 + p6)) + 256 * (q4 + q5 + (q6 + q7))))) := by
    rw [e5, d2, f4, ← r1]
    rw [pe_s (r := (p0 + p1) + 256 * (q1 + q2)) rfl r2, s1, s2, s3]
  have d3 : x5 / 4294967296 = q4 + q5 + (q6 + q7) := pe_4 k0 k1 k2 k3 f5
  have k4 : p0 + p1 + (p2 + p3) + (p4 + p5 + (p6 + p7)) < 128 := Nat.lt_of_le_of_lt (Nat.add_le_add (Nat.add_le_add (Nat.add_le_add h0 h1) (Nat.add_le_add h2 h3)) (Nat.add_le_add (Nat.add_le_add h4 h5) (Nat.add_le_add h6 h7))) (by decide)
  have g : x6 = (p0 + p1 + (p2 + p3)) + 256 * ((p1 + p2 + (p3 + p4)) + 256 * ((p2 + p3 + (p4 + p5)) + 256 * ((p3 + p4 + (p5 + p6)) + 256 * (q4 + q5 + (q6 + q7))))) + ((p4 + p5 + (p6 + p7)) + 256 * (q5 + q6 + (q7 + q8))) := by
    rw [e6, d3, ← s4, ← f5]
  refine ⟨?_, ?_⟩
  · have b3 : q3 < 256 * (256 * (256 * (256 * 9))) := by rw [eq3]; exact pe_q h3 b4
    have b2 : q2 < 256 * (256 * (256 * (256 * (256 * 9)))) := by rw [eq2]; exact pe_q h2 b3
    have b1 : q1 < 256 * (256 * (256 * (256 * (256 * (256 * 9))))) := by rw [eq1]; exact pe_q h1 b2
    have b0 : m < 648518346341351424 := by rw [hm']; exact pe_q h0 b1
    exact pe_b b0 e4 e5 e6
  · rw [pe_mod k4 g]
    simp only [Nat.add_assoc]
