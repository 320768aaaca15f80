/-! THE TREE of a nonterminal and a count: heights, roots, counts below a root, the order of its rules -/
noncomputable def leastN (P : Nat → Prop) : Nat := Classical.epsilon (fun x => P x ∧ ∀ y, y < x → ¬ P y)
theorem least_ex {P : Nat → Prop} : ∀ n x, x ≤ n → P x → ∃ y, P y ∧ ∀ z, z < y → ¬ P z := by
  intro n
  induction n with
  | zero =>
    intro x hx h
    have e : x = 0 := by omega
    subst e
    exact ⟨0, h, fun z hz => absurd hz (Nat.not_lt_zero z)⟩
  | succ n ih =>
    intro x hx h
    by_cases h1 : ∃ z, z < x ∧ P z
    · obtain ⟨z, h2, h3⟩ := h1
      exact ih z (by omega) h3
    · exact ⟨x, h, fun z hz hP => h1 ⟨z, hz, hP⟩⟩
theorem leastN_spec {P : Nat → Prop} {x : Nat} (h : P x) : P (leastN P) ∧ ∀ y, y < leastN P → ¬ P y :=
  Classical.epsilon_spec (p := fun x => P x ∧ ∀ y, y < x → ¬ P y) (least_ex x x (Nat.le_refl x) h)
theorem leastN_eq {P : Nat → Prop} {x : Nat} (h1 : P x) (h2 : ∀ y, y < x → ¬ P y) : leastN P = x := by
  obtain ⟨a1, a2⟩ := leastN_spec h1
  rcases Nat.lt_trichotomy (leastN P) x with h | h | h
  · exact absurd a1 (h2 _ h)
  · exact h
  · exact absurd h1 (a2 x h)
noncomputable def hgt (g : Gr) (n c : Nat) : Nat := leastN (fun h => Hh g h n c)
theorem hgt_eq {g : Gr} {n c j : Nat} (h1 : Hh g (j + 1) n c) (h2 : ¬ Hh g j n c) : hgt g n c = j + 1 :=
  leastN_eq (P := fun h => Hh g h n c) h1 (fun y hy z => h2 (Hh_mono g (by omega) z))
theorem hgt_le {g : Gr} {n c h : Nat} (h1 : Hh g h n c) : hgt g n c ≤ h := by
  have := (leastN_spec (P := fun h => Hh g h n c) h1).2
  exact Nat.not_lt.mp (fun z => this h z h1)
theorem hgt_at {g : Gr} {n c h : Nat} (h1 : Hh g h n c) : Hh g (hgt g n c) n c := (leastN_spec (P := fun h => Hh g h n c) h1).1
theorem hgt_s {g : Gr} {n c h : Nat} (h1 : Hh g h n c) : ∃ j, hgt g n c = j + 1 ∧ Hh g (j + 1) n c ∧ ¬ Hh g j n c := by
  obtain ⟨a1, a2⟩ := leastN_spec (P := fun h => Hh g h n c) h1
  have e : leastN (fun h => Hh g h n c) = hgt g n c := rfl
  rw [e] at a1 a2
  cases hh : hgt g n c with
  | zero => rw [hh] at a1; exact a1.elim
  | succ j => rw [hh] at a1 a2; exact ⟨j, rfl, a1, a2 j (Nat.lt_succ_self j)⟩
theorem hgt_iff {g : Gr} {n c h k : Nat} (h1 : Hh g h n c) : Hh g k n c ↔ hgt g n c ≤ k := by
  constructor
  · exact hgt_le
  · intro z; exact Hh_mono g z (hgt_at h1)
/-- a nonterminal has a tree with this count -/
def Tr (g : Gr) (n c : Nat) : Prop := ∃ h, Hh g h n c
noncomputable def rootF (g : Gr) (n c : Nat) : Nat := leastN (fun r => r < g.nR ∧ g.lf r = n ∧ EH g r 0 (hgt g n c) c)
theorem rootF_at {g : Gr} {n c : Nat} (h : Tr g n c) : rootF g n c < g.nR ∧ g.lf (rootF g n c) = n ∧ EH g (rootF g n c) 0 (hgt g n c) c := by
  obtain ⟨h, h1⟩ := h
  obtain ⟨r, h2⟩ := (Hh_EH g _ n c).mp (hgt_at h1)
  exact (leastN_spec (P := fun r => r < g.nR ∧ g.lf r = n ∧ EH g r 0 (hgt g n c) c) h2).1
/-- a count x below a root of rule r as its i-th part, where rest is left -/
def cP (g : Gr) (r h i rest x : Nat) : Prop := x ≤ rest ∧ okc x (rest - x) = true ∧ Hh g (h - 1) (g.pt r i) x ∧ EH g r (i + 1) h (rest - x)
noncomputable def rst (g : Gr) (r h c : Nat) : Nat → Nat
  | 0 => c
  | i + 1 => rst g r h c i - leastN (cP g r h i (rst g r h c i))
noncomputable def chl (g : Gr) (r h c i : Nat) : Nat := leastN (cP g r h i (rst g r h c i))
theorem rst_s (g : Gr) (r h c i : Nat) : rst g r h c (i + 1) = rst g r h c i - chl g r h c i := rfl
theorem cP_ex {g : Gr} {r h i rest : Nat} (hi : i < g.sz r) (hE : EH g r i h rest) : ∃ x, cP g r h i rest x := by
  cases h with
  | zero => exact hE.elim
  | succ h =>
    obtain ⟨x, h1, h2, h3, h4⟩ := (EH_step g r i h rest hi).mp hE
    exact ⟨x, h1, h3, h2, h4⟩
theorem rst_EH {g : Gr} {r h c : Nat} (hE : EH g r 0 h c) : ∀ i, i ≤ g.sz r → EH g r i h (rst g r h c i) := by
  intro i
  induction i with
  | zero => exact fun _ => hE
  | succ i ih =>
    intro hi
    obtain ⟨x, hx⟩ := cP_ex (by omega) (ih (by omega))
    exact (leastN_spec hx).1.2.2.2
theorem chl_at {g : Gr} {r h c i : Nat} (hE : EH g r 0 h c) (hi : i < g.sz r) : cP g r h i (rst g r h c i) (chl g r h c i) ∧ ∀ y, y < chl g r h c i → ¬ cP g r h i (rst g r h c i) y := by
  obtain ⟨x, hx⟩ := cP_ex hi (rst_EH hE i (by omega))
  exact leastN_spec hx
/-- the walk through the tree behind t steps: how many trees are still to come, their nonterminals, their counts -/
noncomputable def Ds (g : Gr) (n c : Nat) : Nat → Nat × (Nat → Nat) × (Nat → Nat)
  | 0 => (1, fun _ => n, fun _ => c)
  | t + 1 =>
    let k := (Ds g n c t).1 - 1
    let a := (Ds g n c t).2.1 k
    let b := (Ds g n c t).2.2 k
    let r := rootF g a b
    (k + g.sz r, fun j => if j < k then (Ds g n c t).2.1 j else g.pt r (g.sz r - 1 - (j - k)), fun j => if j < k then (Ds g n c t).2.2 j else chl g r (hgt g a b) b (g.sz r - 1 - (j - k)))
noncomputable def dh (g : Gr) (n c t : Nat) : Nat := (Ds g n c t).1
noncomputable def dN (g : Gr) (n c t : Nat) : Nat := (Ds g n c t).2.1 (dh g n c t - 1)
noncomputable def dC (g : Gr) (n c t : Nat) : Nat := (Ds g n c t).2.2 (dh g n c t - 1)
noncomputable def tr (g : Gr) (n c t : Nat) : Nat := rootF g (dN g n c t) (dC g n c t)
noncomputable def us (g : Gr) (n c t r : Nat) : Nat := cntq (fun s => decide (tr g n c s = r)) t
theorem dh_s (g : Gr) (n c t : Nat) : dh g n c (t + 1) = dh g n c t - 1 + g.sz (tr g n c t) := rfl
theorem us_s (g : Gr) (n c t r : Nat) : us g n c (t + 1) r = us g n c t r + (if tr g n c t = r then 1 else 0) := by
  show cntq _ t + _ = _
  unfold us
  by_cases h : tr g n c t = r
  · rw [if_pos h, if_pos (decide_eq_true h)]
  · rw [if_neg h, if_neg (fun z => h (of_decide_eq_true z))]
/-- the walk ends behind T steps and keeps to the limits -/
def Gd (g : Gr) (n c T : Nat) : Prop := dh g n c T = 0 ∧ T ≤ 500 ∧ ∀ t, t < T → 0 < dh g n c t ∧ us g n c t (tr g n c t) < 50
theorem Gd_uniq {g : Gr} {n c T T' : Nat} (h : Gd g n c T) (h' : Gd g n c T') : T = T' := by
  rcases Nat.lt_trichotomy T T' with z | z | z
  · have := (h'.2.2 T z).1; have := h.1; omega
  · exact z
  · have := (h.2.2 T' z).1; have := h'.1; omega
theorem Gd_far {g : Gr} {n c T : Nat} (h : Gd g n c T) : ∀ d t, t + d = T → t + dh g n c t ≤ T := by
  intro d
  induction d with
  | zero =>
    intro t ht
    have e : t = T := by omega
    subst e
    rw [h.1]; omega
  | succ d ih =>
    intro t ht
    have h1 := ih (t + 1) (by omega)
    rw [dh_s] at h1
    have := (h.2.2 t (by omega)).1
    omega
/-- what is still to come has trees -/
def DOk (g : Gr) (n c t : Nat) : Prop := ∀ j, j < dh g n c t → (Ds g n c t).2.1 j < 5 ∧ (Ds g n c t).2.2 j < 512 ∧ Tr g ((Ds g n c t).2.1 j) ((Ds g n c t).2.2 j)
theorem DOk_0 {g : Gr} (hg : GrOk g) {n c : Nat} (h : Tr g n c) : DOk g n c 0 := by
  intro j _
  obtain ⟨k, hk⟩ := h
  obtain ⟨h1, h2⟩ := Hh_lt hg hk
  exact ⟨h1, h2, k, hk⟩
theorem DOk_top {g : Gr} {n c t : Nat} (h : DOk g n c t) (hp : 0 < dh g n c t) : dN g n c t < 5 ∧ dC g n c t < 512 ∧ Tr g (dN g n c t) (dC g n c t) := h _ (by omega)
theorem DOk_s {g : Gr} (hg : GrOk g) {n c t : Nat} (h : DOk g n c t) (hp : 0 < dh g n c t) : DOk g n c (t + 1) := by
  obtain ⟨a1, a2, a3⟩ := DOk_top h hp
  obtain ⟨b1, b2, b3⟩ := rootF_at a3
  intro j hj
  rw [dh_s] at hj
  by_cases hk : j < dh g n c t - 1
  · have e1 : (Ds g n c (t + 1)).2.1 j = (Ds g n c t).2.1 j := if_pos hk
    have e2 : (Ds g n c (t + 1)).2.2 j = (Ds g n c t).2.2 j := if_pos hk
    rw [e1, e2]
    exact h j (by omega)
  · have e1 : (Ds g n c (t + 1)).2.1 j = g.pt (tr g n c t) (g.sz (tr g n c t) - 1 - (j - (dh g n c t - 1))) := if_neg hk
    have e2 : (Ds g n c (t + 1)).2.2 j = chl g (tr g n c t) (hgt g (dN g n c t) (dC g n c t)) (dC g n c t) (g.sz (tr g n c t) - 1 - (j - (dh g n c t - 1))) := if_neg hk
    rw [e1, e2]
    have hi : g.sz (tr g n c t) - 1 - (j - (dh g n c t - 1)) < g.sz (tr g n c t) := by omega
    have hc := (chl_at b3 hi).1
    have h3 := Hh_lt hg hc.2.2.1
    exact ⟨h3.1, h3.2, _, hc.2.2.1⟩
theorem okc_le {x y : Nat} (hxy : x ≤ y) (hy : y < 512) : okc x (y - x) = true ↔ x % 8 ≤ y % 8 ∧ x / 8 % 8 * 8 ≤ y / 8 % 8 * 8 ∧ x / 64 * 64 ≤ y / 64 * 64 := by
  constructor
  · intro h
    obtain ⟨h1, h2, h3⟩ := okc_d h
    rw [show x + (y - x) = y by omega] at h1 h2 h3
    omega
  · rintro ⟨h1, h2, h3⟩
    rw [okc_iff]
    omega
/-- what a worked-out object's numbers say -/
theorem LT_lt {E : Nat → Prop} {h k : Nat} {x : Int32} (hh : h < 4000) (hk : k < h + 1) (hm : ∀ j k, j ≤ k → E j → E k) (hL : LT E h x) (hk0 : 0 < k) : x < nI k ↔ E (k - 1) := by
  rcases hL with ⟨q1, q2⟩ | ⟨j, q1, q2, q3, q4⟩
  · constructor
    · intro z
      rw [q2, show NEV = nI 1000000 by decide] at z
      have := (nI_ltI (by omega) (by omega)).mp z
      omega
    · intro z; exact absurd (hm _ _ (by omega) z) q1
  · rw [q4, nI_ltI (by omega) (by omega)]
    constructor
    · intro z; exact hm _ _ (by omega) q2
    · intro z
      refine Nat.lt_of_not_le (fun w => q3 (hm _ _ (by omega) z))
theorem LT_le {E : Nat → Prop} {h k : Nat} {x : Int32} (hh : h < 4000) (hk : k < h + 1) (hm : ∀ j k, j ≤ k → E j → E k) (hL : LT E h x) : x ≤ nI k ↔ E k := by
  rcases hL with ⟨q1, q2⟩ | ⟨j, q1, q2, q3, q4⟩
  · constructor
    · intro z
      rw [q2, show NEV = nI 1000000 by decide] at z
      have := (nI_leI (by omega) (by omega)).mp z
      omega
    · intro z; exact absurd (hm _ _ (by omega) z) q1
  · rw [q4, nI_leI (by omega) (by omega)]
    constructor
    · intro z; exact hm _ _ (by omega) q2
    · intro z
      refine Nat.not_lt.mp (fun w => q3 (hm _ _ (by omega) z))
/-- the height that an object holds -/
theorem LT_hgt {g : Gr} {n c h : Nat} {x : Int32} (hL : LT (fun j => Hh g j n c) h x) (hs : Hh g h n c) : x = nI (hgt g n c) ∧ hgt g n c ≤ h := by
  rcases hL with ⟨q1, q2⟩ | ⟨j, q1, q2, q3, q4⟩
  · exact absurd hs q1
  · rw [hgt_eq q2 q3]; exact ⟨q4, by omega⟩
theorem RT_root {g : Gr} {n c h : Nat} {x : Int32} (hR : RT g h n c x) (hs : Hh g h n c) : x = nI (rootF g n c) := by
  obtain ⟨j, h1, h2, h3⟩ := hgt_s hs
  have hj : j < h := by have := hgt_le hs; omega
  obtain ⟨r, r1, r2, r3, r4, r5⟩ := hR j hj h2 h3
  rw [r2]
  congr 1
  symm
  refine leastN_eq ⟨r1, r3, by rw [h1]; exact r4⟩ (fun y hy z => r5 y hy z.2.1 (by rw [← h1]; exact z.2.2))
