/-! WHAT AN OBJECT MEANS, for class and reference alike. A symbol's code: 0 none, 1 to 5 nonterminals, 6 to 8 letters; its number is dn of it -/
def isN (k : Nat) : Bool := decide (1 ≤ k) && decide (k ≤ 5)
theorem isN_iff {k : Nat} : isN k = true ↔ 1 ≤ k ∧ k ≤ 5 := by simp [isN]
def nz (f : Nat → Nat) : Nat → Nat
  | 0 => 0
  | p + 1 => nz f p + (if isN (f p) = true then 1 else 0)
def updN (f : Nat → Nat) (k x : Nat) : Nat → Nat := fun j => if j = k then x else f j
def ptf (f : Nat → Nat) : Nat → Nat → Nat
  | 0 => fun _ => 0
  | p + 1 => if isN (f p) = true then updN (ptf f p) (nz f p) (f p - 1) else ptf f p
def lcf (f : Nat → Nat) : Nat → Nat
  | 0 => 0
  | p + 1 => lcf f p + (if 6 ≤ f p then 8 ^ (f p - 6) else 0)
/-- how often a symbol stands among the first p -/
def tm (f : Nat → Nat) (k p : Nat) : Nat := cntq (fun q => decide (f q = k)) p
theorem tm_s (f : Nat → Nat) (k p : Nat) : tm f k (p + 1) = tm f k p + (if f p = k then 1 else 0) := by
  show cntq _ p + _ = _
  unfold tm
  by_cases h : f p = k
  · rw [if_pos h, if_pos (decide_eq_true h)]
  · rw [if_neg h, if_neg (fun z => h (of_decide_eq_true z))]
theorem nz_le (f : Nat → Nat) (p : Nat) : nz f p ≤ p := by
  induction p with
  | zero => exact Nat.le_refl 0
  | succ p ih =>
    show nz f p + _ ≤ p + 1
    by_cases h : isN (f p) = true
    · rw [if_pos h]; omega
    · rw [if_neg h]; omega
theorem nz_mono (f : Nat → Nat) {p q : Nat} (h : p ≤ q) : nz f p ≤ nz f q := by
  induction h with
  | refl => exact Nat.le_refl _
  | step _ ih => exact Nat.le_trans ih (Nat.le_add_right _ _)
theorem ptf_lt {f : Nat → Nat} : ∀ p i, i < nz f p → ptf f p i < 5 := by
  intro p
  induction p with
  | zero => exact fun i hi => absurd hi (Nat.not_lt_zero i)
  | succ p ih =>
    intro i hi
    unfold ptf
    unfold nz at hi
    by_cases h : isN (f p) = true
    · rw [if_pos h] at hi ⊢
      unfold updN
      have := isN_iff.mp h
      by_cases he : i = nz f p
      · rw [if_pos he]; omega
      · rw [if_neg he]; exact ih i (by omega)
    · rw [if_neg h] at hi ⊢
      exact ih i hi
theorem ptf_up {f : Nat → Nat} {p i : Nat} (hi : i < nz f p) : ptf f (p + 1) i = ptf f p i := by
  show (if isN (f p) = true then updN (ptf f p) (nz f p) (f p - 1) else ptf f p) i = _
  by_cases h : isN (f p) = true
  · rw [if_pos h]
    exact if_neg (by omega)
  · rw [if_neg h]
theorem ptf_mono {f : Nat → Nat} {p q i : Nat} (h : p ≤ q) (hi : i < nz f p) : ptf f q i = ptf f p i := by
  induction h with
  | refl => rfl
  | @step m hm ih => exact (ptf_up (Nat.lt_of_lt_of_le hi (nz_mono f hm))).trans ih
/-- the nonterminal at place p -/
theorem ptf_at {f : Nat → Nat} {p q : Nat} (h : p < q) (hN : isN (f p) = true) : nz f (p + 1) = nz f p + 1 ∧ ptf f q (nz f p) = f p - 1 := by
  have e : nz f (p + 1) = nz f p + 1 := by show nz f p + _ = _; rw [if_pos hN]
  refine ⟨e, ?_⟩
  rw [ptf_mono (p := p + 1) (q := q) (by omega) (by omega)]
  show (if isN (f p) = true then updN (ptf f p) (nz f p) (f p - 1) else ptf f p) (nz f p) = _
  rw [if_pos hN]
  exact if_pos rfl
theorem nz_no {f : Nat → Nat} {p : Nat} (hN : ¬ isN (f p) = true) : nz f (p + 1) = nz f p := by show nz f p + _ = _; rw [if_neg hN]; rfl
/-- times of a nonterminal among the parts -/
theorem tm_pt (f : Nat → Nat) {n : Nat} (hn : n < 5) : ∀ p, cntq (fun i => decide (ptf f p i = n)) (nz f p) = tm f (n + 1) p := by
  intro p
  induction p with
  | zero => rfl
  | succ p ih =>
    rw [tm_s, ← ih]
    have hc : cntq (fun i => decide (ptf f (p + 1) i = n)) (nz f p) = cntq (fun i => decide (ptf f p i = n)) (nz f p) := cntq_congr (fun j hj => by rw [ptf_up hj])
    by_cases h : isN (f p) = true
    · obtain ⟨e1, e2⟩ := ptf_at (Nat.lt_succ_self p) h
      rw [e1]
      show cntq _ (nz f p) + (if decide (ptf f (p + 1) (nz f p) = n) = true then 1 else 0) = _
      rw [hc, e2]
      have := isN_iff.mp h
      by_cases he : f p = n + 1
      · rw [if_pos he, if_pos (decide_eq_true (by omega))]
      · rw [if_neg he, if_neg (fun z => he (by have := of_decide_eq_true z; omega))]
    · rw [nz_no h, hc, if_neg (fun z => h (isN_iff.mpr (by omega)))]; rfl
theorem tm_le (f : Nat → Nat) (k p : Nat) : tm f k p ≤ p := cntq_le _ _
theorem lcf_tm (f : Nat → Nat) : ∀ p, (∀ q, q < p → f q < 9) → lcf f p = tm f 6 p + 8 * tm f 7 p + 64 * tm f 8 p := by
  intro p
  induction p with
  | zero => exact fun _ => rfl
  | succ p ih =>
    intro h
    rw [tm_s, tm_s, tm_s]
    show lcf f p + _ = _
    rw [ih (fun q hq => h q (by omega))]
    have h9 := h p (Nat.lt_succ_self p)
    rcases (show f p < 6 ∨ f p = 6 ∨ f p = 7 ∨ f p = 8 by omega) with z | z | z | z
    · rw [if_neg (by omega), if_neg (by omega), if_neg (by omega), if_neg (by omega)]; omega
    · rw [z]; simp; omega
    · rw [z]; simp; omega
    · rw [z]; simp; omega
/-- the abstract state: rules, left sides, symbols, uses, steps made, steps -/
abbrev Ab : Type := Nat × (Nat → Nat) × (Nat → Nat → Nat) × (Nat → Nat) × Nat × (Nat → Nat)
abbrev Ab.nR (a : Ab) : Nat := a.1
abbrev Ab.lf (a : Ab) : Nat → Nat := a.2.1
abbrev Ab.sy (a : Ab) : Nat → Nat → Nat := a.2.2.1
abbrev Ab.us (a : Ab) : Nat → Nat := a.2.2.2.1
abbrev Ab.st (a : Ab) : Nat := a.2.2.2.2.1
abbrev Ab.sp (a : Ab) : Nat → Nat := a.2.2.2.2.2
def AbOk (a : Ab) : Prop := a.nR ≤ 10 ∧ (∀ r, r < a.nR → a.lf r < 5 ∧ (∀ p, p < 4 → a.sy r p < 9) ∧ a.us r ≤ 50) ∧ a.st ≤ 500
/-- its grammar -/
def gO (a : Ab) : Gr := (a.nR, a.lf, fun r => nz (a.sy r) 4, fun r => lcf (a.sy r) 4, fun r => ptf (a.sy r) 4)
theorem gO_ok {a : Ab} (h : AbOk a) : GrOk (gO a) := by
  refine ⟨h.1, fun r hr => ⟨(h.2.1 r hr).1, nz_le _ 4, ?_, fun i hi => ptf_lt 4 i hi⟩⟩
  show lcf (a.sy r) 4 < 512
  rw [lcf_tm _ 4 (h.2.1 r hr).2.1]
  have := tm_le (a.sy r) 6 4
  have := tm_le (a.sy r) 7 4
  have := tm_le (a.sy r) 8 4
  omega
/-- what the class's object holds of it -/
def CR (a : Ab) (S : Cs) : Prop := ruS (gO a) S ∧ (∀ r, r < a.nR → S.2.2 (20 + r) = nI (a.us r)) ∧ S.2.2 2 = nI a.st ∧ (∀ t, t < a.st → S.2.1 70 t = nI (a.sp t)) ∧ (S.2.2 1 = 1 ∨ (S.2.2 1 = 0 ∧ wkI (gO a) S))
/-- the number that height answers -/
def HT (g : Gr) (n c : Nat) (x : Int32) : Prop := (Tr g n c ∧ x = nI (hgt g n c)) ∨ (¬ Tr g n c ∧ x = -1)
theorem HT_uniq {g : Gr} {n c : Nat} {x y : Int32} (h : HT g n c x) (h' : HT g n c y) : x = y := by
  rcases h with ⟨h1, h2⟩ | ⟨h1, h2⟩ <;> rcases h' with ⟨h3, h4⟩ | ⟨h3, h4⟩
  · rw [h2, h4]
  · exact absurd h1 h3
  · exact absurd h3 h1
  · rw [h2, h4]
/-- sums over rules -/
def sm (f : Nat → Nat) : Nat → Nat
  | 0 => 0
  | r + 1 => sm f r + f r
theorem sm_le {f : Nat → Nat} {B : Nat} : ∀ m, (∀ r, r < m → f r ≤ B) → sm f m ≤ B * m := by
  intro m
  induction m with
  | zero => exact fun _ => Nat.zero_le _
  | succ m ih =>
    intro h
    have h1 := ih (fun r hr => h r (by omega))
    have h2 := h m (Nat.lt_succ_self m)
    show sm f m + f m ≤ B * (m + 1)
    rw [Nat.mul_succ]; omega
def lfS (a : Ab) (n : Nat) : Nat := sm (fun r => if a.lf r = n then a.us r else 0) a.nR
def stS (a : Ab) (k : Nat) : Nat := sm (fun r => a.us r * tm (a.sy r) k 4) a.nR
theorem lfS_le {a : Ab} (h : AbOk a) (n : Nat) : lfS a n ≤ 500 := by
  refine Nat.le_trans (sm_le (B := 50) a.nR (fun r hr => ?_)) (by have := h.1; omega)
  have := (h.2.1 r hr).2.2
  by_cases hz : a.lf r = n
  · rw [if_pos hz]; exact this
  · rw [if_neg hz]; omega
theorem stS_le {a : Ab} (h : AbOk a) (k : Nat) : stS a k ≤ 2000 := by
  refine Nat.le_trans (sm_le (B := 200) a.nR (fun r hr => ?_)) (by have := h.1; omega)
  have h1 := (h.2.1 r hr).2.2
  have h2 := tm_le (a.sy r) k 4
  exact Nat.mul_le_mul h1 h2
/-- masks of nonterminals -/
def mkN (pt : Nat → Nat) : Nat → Nat
  | 0 => 0
  | i + 1 => mkN pt i ||| 2 ^ pt i
def mkR (a : Ab) (r : Nat) : Nat := mkN (ptf (a.sy r) 4) (nz (a.sy r) 4)
def swp (a : Ab) : Nat → Nat → Nat
  | 0, m => m
  | r + 1, m => if 0 < a.us r ∧ (swp a r m).testBit (a.lf r) = true then swp a r m ||| mkR a r else swp a r m
def swk (a : Ab) : Nat → Nat → Nat
  | 0, m => m
  | k + 1, m => swp a a.nR (swk a k m)
theorem or32 : ∀ a, a < 32 → ∀ b, b < 32 → nI a ||| nI b = nI (a ||| b) ∧ a ||| b < 32 := by decide +kernel
theorem sh32 : ∀ n, n < 5 → nI 1 <<< (nI n &&& 31) = nI (2 ^ n) ∧ 2 ^ n < 32 := by decide +kernel
theorem bt32 : ∀ m, m < 32 → ∀ n, n < 5 → (nI m >>> (nI n &&& 31)) &&& nI 1 = nI (if m.testBit n = true then 1 else 0) := by decide +kernel
theorem mkN_lt {pt : Nat → Nat} : ∀ i, (∀ j, j < i → pt j < 5) → mkN pt i < 32 := by
  intro i
  induction i with
  | zero => exact fun _ => (show 0 < 32 by decide)
  | succ i ih => exact fun h => (or32 _ (ih (fun j hj => h j (by omega))) _ (sh32 _ (h i (Nat.lt_succ_self i))).2).2
theorem bits_mk {pt : Nat → Nat} : ∀ i, (∀ j, j < i → pt j < 5) → bitsR pt i = nI (mkN pt i) := by
  intro i
  induction i with
  | zero => exact fun _ => rfl
  | succ i ih =>
    intro h
    have h5 := sh32 _ (h i (Nat.lt_succ_self i))
    show bitsR pt i ||| (nI 1 <<< (nI (pt i) &&& 31)) = _
    rw [ih (fun j hj => h j (by omega)), h5.1]
    exact (or32 _ (mkN_lt i (fun j hj => h j (by omega))) _ h5.2).1
theorem mkR_lt (a : Ab) (r : Nat) : mkR a r < 32 := mkN_lt _ (fun j hj => ptf_lt 4 j hj)
theorem swp_lt (a : Ab) {m : Nat} (hm : m < 32) : ∀ r, swp a r m < 32 := by
  intro r
  induction r with
  | zero => exact hm
  | succ r ih =>
    unfold swp
    by_cases h : 0 < a.us r ∧ (swp a r m).testBit (a.lf r) = true
    · rw [if_pos h]; exact (or32 _ ih _ (mkR_lt a r)).2
    · rw [if_neg h]; exact ih
theorem swk_lt (a : Ab) {m : Nat} (hm : m < 32) : ∀ k, swk a k m < 32 := by
  intro k
  induction k with
  | zero => exact hm
  | succ k ih => exact swp_lt a ih a.nR
/-- what fit answers: the second loop, the first -/
def ft2 (a : Ab) (m0 : Nat) : Nat → Nat → Int32
  | 0, _ => nI 0
  | d + 1, m => if 0 < lfS a m ∧ m0.testBit m = false then nI (11 + m) else ft2 a m0 d (m + 1)
def ft1 (a : Ab) (n m0 : Nat) : Nat → Nat → Int32
  | 0, _ => ft2 a m0 5 0
  | d + 1, m => if lfS a m = stS a (m + 1) + (if m = n then 1 else 0) then ft1 a n m0 d (m + 1) else nI (1 + m)
/-- sweeps: four are as good as five -/
def pop5 (m : Nat) : Nat := m % 2 + m / 2 % 2 + m / 4 % 2 + m / 8 % 2 + m / 16 % 2
theorem pop5_lt : ∀ a, a < 32 → ∀ b, b < 32 → a ||| b = b → a ≠ b → pop5 a < pop5 b := by decide +kernel
theorem pop5_31 : ∀ a, a < 32 → 5 ≤ pop5 a → a = 31 := by decide +kernel
theorem pop5_1 : ∀ n, n < 5 → pop5 (2 ^ n) = 1 := by decide
theorem or_31 : ∀ b, b < 32 → 31 ||| b = b → b = 31 := by decide +kernel
theorem swp_or (a : Ab) {m : Nat} : ∀ r, m ||| swp a r m = swp a r m := by
  intro r
  induction r with
  | zero => exact Nat.or_self m
  | succ r ih =>
    unfold swp
    by_cases h : 0 < a.us r ∧ (swp a r m).testBit (a.lf r) = true
    · rw [if_pos h, ← Nat.or_assoc, ih]
    · rw [if_neg h]; exact ih
theorem swk_fix {a : Ab} {m k : Nat} (h : swk a (k + 1) m = swk a k m) : ∀ j, k ≤ j → swk a j m = swk a k m := by
  intro j hj
  induction hj with
  | refl => rfl
  | step _ ih =>
    show swp a a.nR (swk a _ m) = _
    rw [ih]; exact h
theorem swk_pop {a : Ab} {n : Nat} (hn : n < 5) : ∀ k, (∀ j, j < k → swk a (j + 1) (2 ^ n) ≠ swk a j (2 ^ n)) → k + 1 ≤ pop5 (swk a k (2 ^ n)) := by
  have h32 : 2 ^ n < 32 := (sh32 n hn).2
  intro k
  induction k with
  | zero => intro _; show 1 ≤ pop5 (2 ^ n); rw [pop5_1 n hn]; exact Nat.le_refl 1
  | succ k ih =>
    intro h
    have h1 := ih (fun j hj => h j (by omega))
    have h2 := pop5_lt _ (swk_lt a h32 k) _ (swk_lt a h32 (k + 1)) (swp_or a a.nR) (fun z => h k (Nat.lt_succ_self k) z.symm)
    omega
theorem swk_54 (a : Ab) {n : Nat} (hn : n < 5) : swk a 5 (2 ^ n) = swk a 4 (2 ^ n) := by
  have h32 : 2 ^ n < 32 := (sh32 n hn).2
  by_cases h : ∃ k, k < 4 ∧ swk a (k + 1) (2 ^ n) = swk a k (2 ^ n)
  · obtain ⟨k, h1, h2⟩ := h
    rw [swk_fix h2 5 (by omega), swk_fix h2 4 (by omega)]
  · have h1 := swk_pop (a := a) hn 4 (fun j hj z => h ⟨j, hj, z⟩)
    have h2 := pop5_31 _ (swk_lt a h32 4) h1
    have h3 : swk a 4 (2 ^ n) ||| swk a 5 (2 ^ n) = swk a 5 (2 ^ n) := swp_or a a.nR
    rw [h2] at h3 ⊢
    exact or_31 _ (swk_lt a h32 5) h3
/-- uses keep to their limit -/
theorem Gd_us {g : Gr} {n c T : Nat} (h : Gd g n c T) (r : Nat) : ∀ t, t ≤ T → us g n c t r ≤ 50 := by
  intro t
  induction t with
  | zero => exact fun _ => Nat.zero_le _
  | succ t ih =>
    intro ht
    have h1 := ih (by omega)
    rw [us_s]
    by_cases he : tr g n c t = r
    · rw [if_pos he]
      have := (h.2.2 t (by omega)).2
      rw [he] at this
      omega
    · rw [if_neg he]; exact h1
