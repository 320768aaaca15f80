/-! THE PICTURE of a new object; a rule more -/
def ixL : Nat → Nat → Nat
  | 0, k => 9 + 9 * (k / 3) + 1 + 2 * (k % 3)
  | 1, k => 9 + 9 * (k / 3) + 2 + 2 * (k % 3)
  | 2, k => if k < 5 then 9 + 9 * k + 7 else if k < 10 then 9 + 9 * (k - 5) + 8 else if k = 70 then 2 else k - 67
  | 3, k => 9 + 9 * k
  | 7, _ => 54
  | 8, _ => 0
  | 9, _ => 1
  | _, _ => 3
def livB (t k : Nat) : Bool := match t with
  | 0 => decide (k < 15)
  | 1 => decide (k < 15)
  | 2 => decide (k < 10) || (decide (70 ≤ k) && decide (k < 76))
  | 3 => decide (k < 5)
  | 7 => decide (k = 0)
  | 8 => decide (k = 0)
  | 9 => decide (k = 0)
  | 10 => decide (k = 0)
  | _ => false
theorem liv_0 {t k : Nat} (h : liv 0 t k) : t < 11 ∧ k < 76 ∧ livB t k = true := by
  match t, h with
  | 0, h => have h : k < 15 + 10 * 0 := h; exact ⟨by decide, by omega, decide_eq_true (by omega)⟩
  | 1, h => have h : k < 15 + 10 * 0 := h; exact ⟨by decide, by omega, decide_eq_true (by omega)⟩
  | 2, h =>
    have h : k < 10 ∨ (10 ≤ k ∧ k < 10 + 0) ∨ (20 ≤ k ∧ k < 20 + 5 * 0) ∨ (70 ≤ k ∧ k < 76) := h
    refine ⟨by decide, by omega, ?_⟩
    show (decide (k < 10) || (decide (70 ≤ k) && decide (k < 76))) = true
    rw [Bool.or_eq_true, Bool.and_eq_true, decide_eq_true_iff, decide_eq_true_iff, decide_eq_true_iff]
    omega
  | 3, h => have h : k < 5 := h; exact ⟨by decide, by omega, decide_eq_true h⟩
  | 4, h => exact absurd h (Nat.not_lt_zero k)
  | 5, h => exact absurd h (Nat.not_lt_zero k)
  | 6, h => have h : k < 5 * 0 := h; omega
  | 7, h => have h : k = 0 := h; exact ⟨by decide, by omega, decide_eq_true h⟩
  | 8, h => have h : k = 0 := h; exact ⟨by decide, by omega, decide_eq_true h⟩
  | 9, h => have h : k = 0 := h; exact ⟨by decide, by omega, decide_eq_true h⟩
  | 10, h => have h : k = 0 := h; exact ⟨by decide, by omega, decide_eq_true h⟩
  | _ + 11, h => exact h.elim
def ivL (i : Nat) : Nat × Nat := if i = 0 then (8, 0) else if i = 1 then (9, 0) else if i = 2 then (2, 70) else if i = 3 then (10, 0) else if i < 9 then (2, i + 67) else if i = 54 then (7, 0) else
  match (i - 9) % 9 with
  | 0 => (3, (i - 9) / 9)
  | 1 => (0, 3 * ((i - 9) / 9))
  | 2 => (1, 3 * ((i - 9) / 9))
  | 3 => (0, 3 * ((i - 9) / 9) + 1)
  | 4 => (1, 3 * ((i - 9) / 9) + 1)
  | 5 => (0, 3 * ((i - 9) / 9) + 2)
  | 6 => (1, 3 * ((i - 9) / 9) + 2)
  | 7 => (2, (i - 9) / 9)
  | _ => (2, 5 + (i - 9) / 9)
def okL (t k : Nat) : Bool := !(livB t k) || (Nat.beq (ivL (ixL t k)).1 t && (Nat.beq (ivL (ixL t k)).2 k && (decide (ixL t k < 55) && (decide (ixL t k = 54) == decide (t = 7)))))
theorem okL_all : ∀ t, t < 11 → ∀ k, k < 76 → okL t k = true := by decide +kernel
theorem ivL_ok (t : Nat) (ht : t < 11) (k : Nat) (hk : k < 76) (hl : livB t k = true) : ivL (ixL t k) = (t, k) ∧ ixL t k < 55 ∧ (ixL t k = 54 → t = 7) ∧ (t = 7 → ixL t k = 54) := by
  have h := okL_all t ht k hk
  unfold okL at h
  rw [hl, Bool.not_true, Bool.false_or, Bool.and_eq_true, Bool.and_eq_true, Bool.and_eq_true, decide_eq_true_iff, beq_iff_eq, decide_eq_decide] at h
  obtain ⟨h1, h2, h3, h4⟩ := h
  exact ⟨Prod.ext (Nat.eq_of_beq_eq_true h1) (Nat.eq_of_beq_eq_true h2), h3, h4.mp, h4.mpr⟩
def adL (b : Nat → Nat) (q t k : Nat) : Nat := if t = 7 then q else b (ixL t k)
def S0 : Cs := (fun _ _ => 0, fun _ _ => 0, fun i => if i = 1 then nI 1 else nI 0)
theorem sm_div (m : Nat) (h : m < 45) : m / 9 < 5 ∧ m % 9 < 9 := by omega
theorem Pic_new {G : fm_G} {M M1 : fm_M} {q : Nat} {b : Nat → Nat} (h : Nw M M1 q (fm_O 5 [.ref (b 0), .ref (b 1), .int (nI 0), .int (nI 1), .ref (b 2), .int (nI 0), .ref (b 3)]) 54 b (ctL G b 5)) : Pic G (adL b q) 0 S0 M1 := by
  obtain ⟨h1, h2, h3, h4⟩ := h
  have at0 : ∀ i, i < 54 → i ≠ 0 → M1 (b i) = some (ctL G b 5 i) := fun i hi _ => (h2 i hi).2.2
  have atN : ∀ n s, n < 5 → s < 9 → M1 (b (9 + 9 * n + s)) = some (ctM G (fun s => b (9 + 9 * n + s)) s) := fun n s hn hs => by
    have := at0 (9 + 9 * n + s) (by omega) (by omega)
    rw [show 9 + 9 * n + s = (9 * n + s) + 9 by omega] at this
    rw [show 9 + 9 * n + s = (9 * n + s) + 9 by omega, this]
    show some (ctM G (fun s' => b (9 + 9 * ((9 * n + s) / 9) + s')) ((9 * n + s) % 9)) = _
    rw [show (9 * n + s) / 9 = n by omega, show (9 * n + s) % 9 = s by omega]
  refine ⟨Nat.zero_le _, fun t k hl => ?_, fun t k t' k' hl hl' e => ?_⟩
  · match t, hl with
    | 0, hl =>
      have hl : k < 15 + 10 * 0 := hl
      show M1 (b (9 + 9 * (k / 3) + 1 + 2 * (k % 3))) = some (fm_O 0 [.ref (b (9 + 9 * (k / 3) + 2 + 2 * (k % 3)))])
      rcases (show k % 3 = 0 ∨ k % 3 = 1 ∨ k % 3 = 2 by omega) with e | e | e
      · rw [e]; exact atN (k / 3) 1 (by omega) (by decide)
      · rw [e]; exact atN (k / 3) 3 (by omega) (by decide)
      · rw [e]; exact atN (k / 3) 5 (by omega) (by decide)
    | 1, hl =>
      have hl : k < 15 + 10 * 0 := hl
      show M1 (b (9 + 9 * (k / 3) + 2 + 2 * (k % 3))) = some (fm_L G 8 (fun _ => 0))
      rcases (show k % 3 = 0 ∨ k % 3 = 1 ∨ k % 3 = 2 by omega) with e | e | e
      · rw [e]; exact atN (k / 3) 2 (by omega) (by decide)
      · rw [e]; exact atN (k / 3) 4 (by omega) (by decide)
      · rw [e]; exact atN (k / 3) 6 (by omega) (by decide)
    | 2, hl =>
      have hl : k < 10 ∨ (10 ≤ k ∧ k < 10 + 0) ∨ (20 ≤ k ∧ k < 20 + 5 * 0) ∨ (70 ≤ k ∧ k < 76) := hl
      show M1 (b (if k < 5 then 9 + 9 * k + 7 else if k < 10 then 9 + 9 * (k - 5) + 8 else if k = 70 then 2 else k - 67)) = some (fm_I G (lenA k) (fun _ => 0))
      by_cases c1 : k < 5
      · rw [if_pos c1, lenA_h (by omega)]; exact atN k 7 c1 (by decide)
      · by_cases c2 : k < 10
        · rw [if_neg c1, if_pos c2, lenA_h c2]; exact atN (k - 5) 8 (by omega) (by decide)
        · rw [if_neg c1, if_neg c2]
          rcases (show k = 70 ∨ k = 71 ∨ k = 72 ∨ k = 73 ∨ k = 74 ∨ k = 75 by omega) with rfl | rfl | rfl | rfl | rfl | rfl
          · exact at0 2 (by decide) (by decide)
          · exact at0 4 (by decide) (by decide)
          · exact at0 5 (by decide) (by decide)
          · exact at0 6 (by decide) (by decide)
          · exact at0 7 (by decide) (by decide)
          · exact at0 8 (by decide) (by decide)
    | 3, hl =>
      have hl : k < 5 := hl
      show M1 (b (9 + 9 * k)) = some (fm_O 2 [.ref (b (9 + 9 * ((3 * k) / 3) + 1 + 2 * ((3 * k) % 3))), .ref (b (9 + 9 * ((3 * k + 1) / 3) + 1 + 2 * ((3 * k + 1) % 3))), .ref (b (9 + 9 * ((3 * k + 2) / 3) + 1 + 2 * ((3 * k + 2) % 3))), .ref (b (if k < 5 then 9 + 9 * k + 7 else if k < 10 then 9 + 9 * (k - 5) + 8 else if k = 70 then 2 else k - 67)), .ref (b (if 5 + k < 5 then 9 + 9 * (5 + k) + 7 else if 5 + k < 10 then 9 + 9 * (5 + k - 5) + 8 else if 5 + k = 70 then 2 else 5 + k - 67))])
      rw [show (3 * k) / 3 = k by omega, show (3 * k) % 3 = 0 by omega, show (3 * k + 1) / 3 = k by omega, show (3 * k + 1) % 3 = 1 by omega, show (3 * k + 2) / 3 = k by omega, show (3 * k + 2) % 3 = 2 by omega, if_pos hl, if_neg (by omega), if_pos (by omega), show 5 + k - 5 = k by omega]
      exact atN k 0 hl (by decide)
    | 4, hl => exact absurd hl (Nat.not_lt_zero k)
    | 5, hl => exact absurd hl (Nat.not_lt_zero k)
    | 6, hl => exact absurd (show k < 5 * 0 from hl) (by omega)
    | 7, hl => exact h1
    | 8, hl =>
      show M1 (b 0) = some (fm_R G 3 5 (fun n => if n < 5 then some (b (9 + 9 * n)) else none))
      have e := (h2 0 (by decide)).2.2
      exact e
    | 9, hl => exact at0 1 (by decide) (by decide)
    | 10, hl => exact at0 3 (by decide) (by decide)
    | _ + 11, hl => exact hl.elim
  · obtain ⟨a1, a2, a3⟩ := liv_0 hl
    obtain ⟨b1, b2, b3⟩ := liv_0 hl'
    obtain ⟨i1, i2, i3, i4⟩ := ivL_ok t a1 k a2 a3
    obtain ⟨j1, j2, j3, j4⟩ := ivL_ok t' b1 k' b2 b3
    unfold adL at e
    have fin : ixL t k = ixL t' k' → t = t' ∧ k = k' := fun z => by
      rw [z, j1] at i1
      exact ⟨(congrArg Prod.fst i1).symm, (congrArg Prod.snd i1).symm⟩
    by_cases c : t = 7 <;> by_cases c' : t' = 7
    · exact fin (by rw [i4 c, j4 c'])
    · rw [if_pos c, if_neg c'] at e
      exact absurd e.symm (h2 _ (by have := mt j3 c'; omega)).1
    · rw [if_neg c, if_pos c'] at e
      exact absurd e (h2 _ (by have := mt i3 c; omega)).1
    · rw [if_neg c, if_neg c'] at e
      exact fin (h3 _ _ (by have := mt i3 c; omega) (by have := mt j3 c'; omega) e)
