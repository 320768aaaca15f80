/-! Long.bitCount -/
def cntq (s : Nat → Bool) : Nat → Nat
  | 0 => 0
  | n + 1 => cntq s n + (if s n = true then 1 else 0)
theorem cntq_add (s : Nat → Bool) (a b : Nat) : cntq s (a + b) = cntq s a + cntq (fun j => s (a + j)) b := by
  induction b with
  | zero => rfl
  | succ b ih =>
    show cntq s (a + b) + (if s (a + b) = true then 1 else 0) = cntq s a + (cntq (fun j => s (a + j)) b + (if s (a + b) = true then 1 else 0))
    rw [ih, Nat.add_assoc]
theorem cntq_congr {s t : Nat → Bool} {n : Nat} (h : ∀ j, j < n → s j = t j) : cntq s n = cntq t n := by
  induction n with
  | zero => rfl
  | succ n ih =>
    show cntq s n + (if s n = true then 1 else 0) = cntq t n + (if t n = true then 1 else 0)
    rw [ih (fun j hj => h j (by omega)), h n (by omega)]
theorem cntq_le (s : Nat → Bool) (n : Nat) : cntq s n ≤ n := by
  induction n with
  | zero => exact Nat.le_refl 0
  | succ n ih =>
    show cntq s n + (if s n = true then 1 else 0) ≤ n + 1
    by_cases h : s n = true
    · rw [if_pos h]; omega
    · rw [if_neg h]; omega
theorem cntq_mono (s : Nat → Bool) {a b : Nat} (h : a ≤ b) : cntq s a ≤ cntq s b := by
  rw [show b = a + (b - a) by omega, cntq_add]
  omega
theorem pc_and (a m : Nat) : a &&& m = 256 * ((a / 256) &&& (m / 256)) + ((a % 256) &&& (m % 256)) := by
  have h1 : (a &&& m) / 256 = (a / 256) &&& (m / 256) := by
    have := Nat.shiftRight_and_distrib (a := a) (b := m) (i := 8)
    rw [Nat.shiftRight_eq_div_pow, Nat.shiftRight_eq_div_pow, Nat.shiftRight_eq_div_pow] at this
    exact this
  have h2 : (a &&& m) % 256 = (a % 256) &&& (m % 256) := Nat.and_mod_two_pow (n := 8)
  omega
def pc_m (d : Nat) : Nat → Nat
  | 0 => 0
  | k + 1 => 256 * pc_m d k + d
def pc1 (k n : Nat) : Nat := n - ((n / 2) &&& pc_m 0x55 k)
def pc2 (k n : Nat) : Nat := (n &&& pc_m 0x33 k) + ((n / 4) &&& pc_m 0x33 k)
def pc3 (k n : Nat) : Nat := (n + n / 16) &&& pc_m 0x0f k
theorem pc_m_div (d k : Nat) (h : d < 256) : pc_m d (k + 1) / 256 = pc_m d k ∧ pc_m d (k + 1) % 256 = d := by
  show (256 * pc_m d k + d) / 256 = pc_m d k ∧ (256 * pc_m d k + d) % 256 = d
  omega
theorem pc1_d : ∀ r, r < 2 → ∀ b, b < 256 → ((128 * r + b / 2) &&& 0x55) = ((b / 2) &&& 0x55) := by decide +kernel
theorem pc2_d : ∀ r, r < 4 → ∀ b, b < 256 → ((64 * r + b / 4) &&& 0x33) = ((b / 4) &&& 0x33) := by decide +kernel
theorem pc1_s (k q b : Nat) (hb : b < 256) : pc1 (k + 1) (256 * q + b) = 256 * pc1 k q + pc1 1 b := by
  unfold pc1
  obtain ⟨m1, m2⟩ := pc_m_div 0x55 k (by decide)
  rw [pc_and ((256 * q + b) / 2), m1, m2, show (256 * q + b) / 2 / 256 = q / 2 by omega, show (256 * q + b) / 2 % 256 = 128 * (q % 2) + b / 2 by omega, pc1_d (q % 2) (by omega) b hb, show pc_m 0x55 1 = 0x55 from rfl]
  have h1 : (q / 2 &&& pc_m 85 k) ≤ q / 2 := Nat.and_le_left
  have h2 : (b / 2 &&& 85) ≤ b / 2 := Nat.and_le_left
  omega
theorem pc2_s (k q b : Nat) (hb : b < 256) : pc2 (k + 1) (256 * q + b) = 256 * pc2 k q + pc2 1 b := by
  unfold pc2
  obtain ⟨m1, m2⟩ := pc_m_div 0x33 k (by decide)
  rw [pc_and (256 * q + b), pc_and ((256 * q + b) / 4), m1, m2, show (256 * q + b) / 256 = q by omega, show (256 * q + b) % 256 = b by omega, show (256 * q + b) / 4 / 256 = q / 4 by omega, show (256 * q + b) / 4 % 256 = 64 * (q % 4) + b / 4 by omega, pc2_d (q % 4) (by omega) b hb, show pc_m 0x33 1 = 0x33 from rfl]
  omega
theorem pc1_lt : ∀ b, b < 256 → pc1 1 b < 256 := by decide +kernel
theorem pc12_d : ∀ b, b < 256 → pc2 1 (pc1 1 b) % 16 ≤ 4 ∧ pc2 1 (pc1 1 b) / 16 ≤ 4 := by decide +kernel
theorem pc12_s (k q b : Nat) (hb : b < 256) : pc2 (k + 1) (pc1 (k + 1) (256 * q + b)) = 256 * pc2 k (pc1 k q) + pc2 1 (pc1 1 b) := by
  rw [pc1_s k q b hb, pc2_s k _ _ (pc1_lt b hb)]
theorem pc12_n (k q : Nat) : pc2 k (pc1 k q) % 16 ≤ 4 := by
  cases k with
  | zero => simp [pc2, pc_m]
  | succ k =>
    have e : q = 256 * (q / 256) + q % 256 := by omega
    rw [e, pc12_s k _ _ (by omega)]
    have := (pc12_d (q % 256) (by omega)).1
    omega
theorem pc3_d : ∀ r, r ≤ 4 → ∀ c, c < 256 → c % 16 ≤ 4 → c / 16 ≤ 4 → ((16 * r + c + c / 16) &&& 0x0f) = ((c + c / 16) &&& 0x0f) := by decide +kernel
/-- the three steps, a byte at a time -/
def pcF (k n : Nat) : Nat := pc3 k (pc2 k (pc1 k n))
theorem pcF_s (k q b : Nat) (hb : b < 256) : pcF (k + 1) (256 * q + b) = 256 * pcF k q + pcF 1 b := by
  unfold pcF
  rw [pc12_s k q b hb]
  have h1 := pc12_n k q
  obtain ⟨h2, h3⟩ := pc12_d b hb
  generalize pc2 k (pc1 k q) = u at h1 ⊢
  generalize pc2 1 (pc1 1 b) = c at h2 h3 ⊢
  unfold pc3
  obtain ⟨m1, m2⟩ := pc_m_div 0x0f k (by decide)
  have e1 : (256 * u + c + (256 * u + c) / 16) / 256 = u + u / 16 := by omega
  have e2 : (256 * u + c + (256 * u + c) / 16) % 256 = 16 * (u % 16) + c + c / 16 := by omega
  rw [pc_and (256 * u + c + (256 * u + c) / 16), m1, m2, e1, e2, pc3_d (u % 16) h1 c (by omega) h2 h3, show pc_m 0x0f 1 = 0x0f from rfl]
theorem pcF_d : ∀ b, b < 256 → pcF 1 b = cntq (fun j => b.testBit j) 8 ∧ pcF 1 b ≤ 8 := by decide +kernel
theorem cntq_byte (n k : Nat) : cntq (fun j => n.testBit j) (8 + k) = cntq (fun j => (n % 256).testBit j) 8 + cntq (fun j => (n / 256).testBit j) k := by
  rw [cntq_add]
  congr 1
  · apply cntq_congr
    intro j hj
    have := Nat.testBit_mod_two_pow n 8 j
    rw [show (256 : Nat) = 2 ^ 8 from rfl, this]
    simp [hj]
  · apply cntq_congr
    intro j _
    rw [show (256 : Nat) = 2 ^ 8 from rfl, Nat.testBit_div_two_pow, Nat.add_comm]
/-- eight bytes -/
theorem pc_8 (n : Nat) (hn : n < 2 ^ 64) : ∃ p0 p1 p2 p3 p4 p5 p6 p7 : Nat, p0 ≤ 8 ∧ p1 ≤ 8 ∧ p2 ≤ 8 ∧ p3 ≤ 8 ∧ p4 ≤ 8 ∧ p5 ≤ 8 ∧ p6 ≤ 8 ∧ p7 ≤ 8 ∧ pcF 8 n = p0 + 256 * (p1 + 256 * (p2 + 256 * (p3 + 256 * (p4 + 256 * (p5 + 256 * (p6 + 256 * p7)))))) ∧ cntq (fun j => n.testBit j) 64 = p0 + (p1 + (p2 + (p3 + (p4 + (p5 + (p6 + p7)))))) := by
  have st : ∀ k m, pcF (k + 1) m = 256 * pcF k (m / 256) + pcF 1 (m % 256) := fun k m => by
    have e : m = 256 * (m / 256) + m % 256 := by omega
    rw [show pcF (k + 1) m = pcF (k + 1) (256 * (m / 256) + m % 256) from congrArg _ e, pcF_s k _ _ (by omega)]
  have bd : ∀ m, pcF 1 (m % 256) = cntq (fun j => (m % 256).testBit j) 8 ∧ pcF 1 (m % 256) ≤ 8 := fun m => pcF_d _ (by omega)
  refine ⟨_, _, _, _, _, _, _, _, (bd n).2, (bd (n / 256)).2, (bd (n / 256 / 256)).2, (bd (n / 256 / 256 / 256)).2, (bd (n / 256 / 256 / 256 / 256)).2, (bd (n / 256 / 256 / 256 / 256 / 256)).2, (bd (n / 256 / 256 / 256 / 256 / 256 / 256)).2, (bd (n / 256 / 256 / 256 / 256 / 256 / 256 / 256)).2, ?_, ?_⟩
  · rw [st 7 n, st 6, st 5, st 4, st 3, st 2, st 1, show (n / 256 / 256 / 256 / 256 / 256 / 256 / 256) = (n / 256 / 256 / 256 / 256 / 256 / 256 / 256) % 256 by omega]
    simp only [Nat.mod_mod]
    omega
  · rw [show (64 : Nat) = 8 + 56 from rfl, cntq_byte, show (56 : Nat) = 8 + 48 from rfl, cntq_byte, show (48 : Nat) = 8 + 40 from rfl, cntq_byte, show (40 : Nat) = 8 + 32 from rfl, cntq_byte, show (32 : Nat) = 8 + 24 from rfl, cntq_byte, show (24 : Nat) = 8 + 16 from rfl, cntq_byte, show (16 : Nat) = 8 + 8 from rfl, cntq_byte, (bd n).1, (bd (n / 256)).1, (bd (n / 256 / 256)).1, (bd (n / 256 / 256 / 256)).1, (bd (n / 256 / 256 / 256 / 256)).1, (bd (n / 256 / 256 / 256 / 256 / 256)).1, (bd (n / 256 / 256 / 256 / 256 / 256 / 256)).1, (bd (n / 256 / 256 / 256 / 256 / 256 / 256 / 256)).1, show (n / 256 / 256 / 256 / 256 / 256 / 256 / 256) % 256 = n / 256 / 256 / 256 / 256 / 256 / 256 / 256 by omega]
def pcZ (n : Nat) : Nat := let a := pcF 8 n; let b := a + a / 256; let c := b + b / 65536; c + c / 4294967296
theorem pcZ_lin {p0 p1 p2 p3 p4 p5 p6 p7 v0 v1 v2 v3 v4 v5 v6 : Nat} (h0 : p0 ≤ 8) (h1 : p1 ≤ 8) (h2 : p2 ≤ 8) (h3 : p3 ≤ 8) (h4 : p4 ≤ 8) (h5 : p5 ≤ 8) (h6 : p6 ≤ 8) (h7 : p7 ≤ 8) (e0 : v0 = p0 + 256 * v1) (e1 : v1 = p1 + 256 * v2) (e2 : v2 = p2 + 256 * v3) (e3 : v3 = p3 + 256 * v4) (e4 : v4 = p4 + 256 * v5) (e5 : v5 = p5 + 256 * v6) (e6 : v6 = p6 + 256 * p7) :
    (v0 + v0 / 256 + (v0 + v0 / 256) / 65536 + (v0 + v0 / 256 + (v0 + v0 / 256) / 65536) / 4294967296) % 128 = p0 + (p1 + (p2 + (p3 + (p4 + (p5 + (p6 + p7)))))) := by
  have a1 : v0 / 256 = v1 := by omega
  rw [a1]
  have a2 : (v0 + v1) / 65536 = v2 + v3 := by
    have : v0 + v1 = (p0 + p1) + 256 * (p1 + p2) + 65536 * (v2 + v3) := by omega
    clear e2 e3 e4 e5 e6 e0 e1 a1
    omega
  rw [a2]
  have a3 : (v0 + v1 + (v2 + v3)) / 4294967296 = v4 + v5 + v6 + p7 := by
    have b1 : v0 + v1 + (v2 + v3) = (p0 + p1 + p2 + p3) + 256 * (v1 + v2 + v3 + v4) := by omega
    have b2 : v1 + v2 + v3 + v4 = (p1 + p2 + p3 + p4) + 256 * (v2 + v3 + v4 + v5) := by omega
    have b3 : v2 + v3 + v4 + v5 = (p2 + p3 + p4 + p5) + 256 * (v3 + v4 + v5 + v6) := by omega
    have b4 : v3 + v4 + v5 + v6 = (p3 + p4 + p5 + p6) + 256 * (v4 + v5 + v6 + p7) := by omega
    generalize v0 + v1 + (v2 + v3) = w0 at b1 ⊢
    generalize v1 + v2 + v3 + v4 = w1 at b1 b2
    generalize v2 + v3 + v4 + v5 = w2 at b2 b3
    generalize v3 + v4 + v5 + v6 = w3 at b3 b4
    generalize v4 + v5 + v6 + p7 = w4 at b4 ⊢
    clear e0 e1 e2 e3 e4 e5 e6 a1 a2
    omega
  rw [a3]
  have c1 : v0 + v1 + (v2 + v3) + (v4 + v5 + v6 + p7) = (p0 + (p1 + (p2 + (p3 + (p4 + (p5 + (p6 + p7))))))) + 256 * (v1 + v2 + v3 + v4 + v5 + v6 + p7) := by omega
  rw [c1]
  clear c1 e0 e1 e2 e3 e4 e5 e6 a1 a2 a3
  omega
theorem pcZ_ok (n : Nat) (hn : n < 2 ^ 64) : pcZ n % 128 = cntq (fun j => n.testBit j) 64 ∧ pcF 8 n < 2 ^ 60 := by
  obtain ⟨p0, p1, p2, p3, p4, p5, p6, p7, h0, h1, h2, h3, h4, h5, h6, h7, e, f⟩ := pc_8 n hn
  rw [f]
  clear f
  refine ⟨pcZ_lin h0 h1 h2 h3 h4 h5 h6 h7 e rfl rfl rfl rfl rfl rfl, ?_⟩
  rw [e]
  omega
