/-! THE OBJECT'S PICTURE: its cells by kind and number, at addresses that are apart; its contents: planes, int arrays, scalars -/
abbrev Cs : Type := (Nat → Nat → Int64) × (Nat → Nat → Int32) × (Nat → Int32)
def lenA (j : Nat) : Nat := if j < 10 then 512 else if j < 20 then 4 else if j < 70 then 512 else if j < 72 then 500 else if j = 72 then 10 else if j < 75 then 500 else 4
/-- kinds: 0 set, 1 its planes, 2 int array, 3 nonterminal, 4 rule, 5 a rule's ends, 6 end, 7 the object, 8 its nonterminals, 9 its rules, 10 the walk -/
def cel (G : fm_G) (ad : Nat → Nat → Nat) (nr : Nat) (S : Cs) : Nat → Nat → va_E
  | 0, k => fm_O 0 [.ref (ad 1 k)]
  | 1, k => fm_L G 8 (S.1 k)
  | 2, k => fm_I G (lenA k) (S.2.1 k)
  | 3, k => fm_O 2 [.ref (ad 0 (3 * k)), .ref (ad 0 (3 * k + 1)), .ref (ad 0 (3 * k + 2)), .ref (ad 2 k), .ref (ad 2 (5 + k))]
  | 4, k => fm_O 3 [.int (S.2.2 (10 + k)), .int (S.2.2 (20 + k)), .int (S.2.2 (30 + k)), .int (S.2.2 (40 + k)), .ref (ad 2 (10 + k)), .ref (ad 5 k)]
  | 5, k => fm_R G 5 5 (fun i => if i < 5 then some (ad 6 (5 * k + i)) else none)
  | 6, k => fm_O 1 [.ref (ad 0 (15 + 2 * k)), .ref (ad 0 (16 + 2 * k)), .ref (ad 2 (20 + k))]
  | 7, _ => fm_O 5 [.ref (ad 8 0), .ref (ad 9 0), .int (S.2.2 0), .int (S.2.2 1), .ref (ad 2 70), .int (S.2.2 2), .ref (ad 10 0)]
  | 8, _ => fm_R G 3 5 (fun n => if n < 5 then some (ad 3 n) else none)
  | 9, _ => fm_R G 4 10 (fun r => if r < nr then some (ad 4 r) else none)
  | _, _ => fm_O 4 [.ref (ad 2 71), .ref (ad 2 72), .int (S.2.2 3), .ref (ad 2 73), .ref (ad 2 74), .int (S.2.2 4), .ref (ad 2 75)]
def liv (nr : Nat) : Nat → Nat → Prop
  | 0, k => k < 15 + 10 * nr
  | 1, k => k < 15 + 10 * nr
  | 2, k => k < 10 ∨ (10 ≤ k ∧ k < 10 + nr) ∨ (20 ≤ k ∧ k < 20 + 5 * nr) ∨ (70 ≤ k ∧ k < 76)
  | 3, k => k < 5
  | 4, k => k < nr
  | 5, k => k < nr
  | 6, k => k < 5 * nr
  | 7, k => k = 0
  | 8, k => k = 0
  | 9, k => k = 0
  | 10, k => k = 0
  | _, _ => False
def Pic (G : fm_G) (ad : Nat → Nat → Nat) (nr : Nat) (S : Cs) (M : fm_M) : Prop :=
  nr ≤ 10 ∧ (∀ t k, liv nr t k → M (ad t k) = some (cel G ad nr S t k)) ∧ ∀ t k t' k', liv nr t k → liv nr t' k' → ad t k = ad t' k' → t = t' ∧ k = k'
/-- nothing but the object's cells has changed -/
def Fr (ad : Nat → Nat → Nat) (nr : Nat) (M M1 : fm_M) : Prop := ∀ a, (∀ t k, liv nr t k → a ≠ ad t k) → M1 a = M a
theorem Fr.rf {ad : Nat → Nat → Nat} {nr : Nat} {M : fm_M} : Fr ad nr M M := fun _ _ => rfl
theorem Fr.tr {ad : Nat → Nat → Nat} {nr : Nat} {M M1 M2 : fm_M} (h1 : Fr ad nr M M1) (h2 : Fr ad nr M1 M2) : Fr ad nr M M2 := fun a h => (h2 a h).trans (h1 a h)
theorem Fr.st {ad : Nat → Nat → Nat} {nr : Nat} {M M1 : fm_M} (h : Fr ad nr M M1) {t k : Nat} {e : va_E} (hl : liv nr t k) : Fr ad nr M (fm_set M1 (ad t k) e) := fun a ha => by rw [fm_set_ne _ _ (ha t k hl)]; exact h a ha
theorem knts_at {n : Nat} {ad : Nat → Nat → Nat} (h : n < 5) : (fun n => if n < 5 then some (ad 3 n) else none) n = some (ad 3 n) := if_pos h
theorem kends_at {k i : Nat} {ad : Nat → Nat → Nat} (h : i < 5) : (fun i => if i < 5 then some (ad 6 (5 * k + i)) else none) i = some (ad 6 (5 * k + i)) := if_pos h
section PIC
variable {G : fm_G} {ad : Nat → Nat → Nat} {nr : Nat} {S : Cs} {M : fm_M}
theorem Pic.ne (P : Pic G ad nr S M) {t k t' k' : Nat} (h1 : liv nr t k) (h2 : liv nr t' k') (h : ¬ (t = t' ∧ k = k')) : ad t k ≠ ad t' k' := fun e => h (P.2.2 t k t' k' h1 h2 e)
theorem Pic.at (P : Pic G ad nr S M) {t k : Nat} (h : liv nr t k) : M (ad t k) = some (cel G ad nr S t k) := P.2.1 t k h
/-- a cell gets new contents: the picture of the new contents -/
theorem Pic.up (P : Pic G ad nr S M) {S' : Cs} {t k : Nat} (hl : liv nr t k) (h : ∀ t' k', liv nr t' k' → ¬ (t' = t ∧ k' = k) → cel G ad nr S' t' k' = cel G ad nr S t' k') {e : va_E} (he : cel G ad nr S' t k = e) : Pic G ad nr S' (fm_set M (ad t k) e) := by
  refine ⟨P.1, fun t' k' hl' => ?_, P.2.2⟩
  by_cases hq : t' = t ∧ k' = k
  · obtain ⟨rfl, rfl⟩ := hq
    rw [fm_set_eq, he]
  · rw [fm_set_ne _ _ (P.ne hl' hl hq), P.at hl', h t' k' hl' hq]
theorem Pic.pl (P : Pic G ad nr S M) {k : Nat} (hk : k < 15 + 10 * nr) (g : Nat → Int64) : Pic G ad nr (va_up S.1 k g, S.2) (fm_set M (ad 1 k) (fm_L G 8 g)) := by
  refine P.up (t := 1) (k := k) hk (fun t' k' hl' hq => ?_) (by show fm_L G 8 (va_up S.1 k g k) = _; rw [va_up_self])
  match t', hl' with
  | 1, _ =>
    show fm_L G 8 (va_up S.1 k g k') = fm_L G 8 (S.1 k')
    rw [va_up_ne _ _ (fun e => hq ⟨rfl, e⟩)]
  | 0, _ => rfl
  | 2, _ => rfl
  | 3, _ => rfl
  | 4, _ => rfl
  | 5, _ => rfl
  | 6, _ => rfl
  | 7, _ => rfl
  | 8, _ => rfl
  | 9, _ => rfl
  | _ + 10, _ => rfl
theorem Pic.ar (P : Pic G ad nr S M) {k : Nat} (hk : liv nr 2 k) (f : Nat → Int32) {n : Nat} (hn : lenA k = n) : Pic G ad nr (S.1, va_up S.2.1 k f, S.2.2) (fm_set M (ad 2 k) (fm_I G n f)) := by
  refine P.up (t := 2) (k := k) hk (fun t' k' hl' hq => ?_) (by show fm_I G (lenA k) (va_up S.2.1 k f k) = _; rw [va_up_self, hn])
  match t', hl' with
  | 2, _ =>
    show fm_I G (lenA k') (va_up S.2.1 k f k') = fm_I G (lenA k') (S.2.1 k')
    rw [va_up_ne _ _ (fun e => hq ⟨rfl, e⟩)]
  | 0, _ => rfl
  | 1, _ => rfl
  | 3, _ => rfl
  | 4, _ => rfl
  | 5, _ => rfl
  | 6, _ => rfl
  | 7, _ => rfl
  | 8, _ => rfl
  | 9, _ => rfl
  | _ + 10, _ => rfl
/-- a scalar of the object -/
theorem Pic.lc (P : Pic G ad nr S M) {i : Nat} (hi : i < 3) (x : Int32) {e : va_E} (he : cel G ad nr (S.1, S.2.1, va_up S.2.2 i x) 7 0 = e) : Pic G ad nr (S.1, S.2.1, va_up S.2.2 i x) (fm_set M (ad 7 0) e) := by
  refine P.up (t := 7) (k := 0) rfl (fun t' k' hl' hq => ?_) he
  match t', hl' with
  | 0, _ => rfl
  | 1, _ => rfl
  | 2, _ => rfl
  | 3, _ => rfl
  | 4, _ =>
    show fm_O 3 [.int (va_up S.2.2 i x (10 + k')), .int (va_up S.2.2 i x (20 + k')), .int (va_up S.2.2 i x (30 + k')), .int (va_up S.2.2 i x (40 + k')), _, _] = _
    rw [va_up_ne _ _ (show 10 + k' ≠ i by omega), va_up_ne _ _ (show 20 + k' ≠ i by omega), va_up_ne _ _ (show 30 + k' ≠ i by omega), va_up_ne _ _ (show 40 + k' ≠ i by omega)]
    rfl
  | 5, _ => rfl
  | 6, _ => rfl
  | 7, h => exact absurd ⟨rfl, h⟩ hq
  | 8, _ => rfl
  | 9, _ => rfl
  | _ + 10, _ =>
    show fm_O 4 [_, _, .int (va_up S.2.2 i x 3), _, _, .int (va_up S.2.2 i x 4), _] = _
    rw [va_up_ne _ _ (show 3 ≠ i by omega), va_up_ne _ _ (show 4 ≠ i by omega)]
    rfl
/-- a scalar of the walk -/
theorem Pic.wk (P : Pic G ad nr S M) {i : Nat} (hi : i = 3 ∨ i = 4) (x : Int32) {e : va_E} (he : cel G ad nr (S.1, S.2.1, va_up S.2.2 i x) 10 0 = e) : Pic G ad nr (S.1, S.2.1, va_up S.2.2 i x) (fm_set M (ad 10 0) e) := by
  refine P.up (t := 10) (k := 0) rfl (fun t' k' hl' hq => ?_) he
  match t', hl' with
  | 0, _ => rfl
  | 1, _ => rfl
  | 2, _ => rfl
  | 3, _ => rfl
  | 4, _ =>
    show fm_O 3 [.int (va_up S.2.2 i x (10 + k')), .int (va_up S.2.2 i x (20 + k')), .int (va_up S.2.2 i x (30 + k')), .int (va_up S.2.2 i x (40 + k')), _, _] = _
    rw [va_up_ne _ _ (show 10 + k' ≠ i by omega), va_up_ne _ _ (show 20 + k' ≠ i by omega), va_up_ne _ _ (show 30 + k' ≠ i by omega), va_up_ne _ _ (show 40 + k' ≠ i by omega)]
    rfl
  | 5, _ => rfl
  | 6, _ => rfl
  | 7, _ =>
    show fm_O 5 [_, _, .int (va_up S.2.2 i x 0), .int (va_up S.2.2 i x 1), _, .int (va_up S.2.2 i x 2), _] = _
    rw [va_up_ne _ _ (show 0 ≠ i by omega), va_up_ne _ _ (show 1 ≠ i by omega), va_up_ne _ _ (show 2 ≠ i by omega)]
    rfl
  | 8, _ => rfl
  | 9, _ => rfl
  | 10, h => exact absurd ⟨rfl, h⟩ hq
  | _ + 11, h => exact absurd h (fun z => z)
/-- a scalar of a rule: j = 0 left, 1 uses, 2 letters, 3 size -/
theorem Pic.ru (P : Pic G ad nr S M) {r j : Nat} (hr : r < nr) (hj : j < 4) (x : Int32) {e : va_E} (he : cel G ad nr (S.1, S.2.1, va_up S.2.2 (10 * j + 10 + r) x) 4 r = e) : Pic G ad nr (S.1, S.2.1, va_up S.2.2 (10 * j + 10 + r) x) (fm_set M (ad 4 r) e) := by
  have h10 := P.1
  refine P.up (t := 4) (k := r) hr (fun t' k' hl' hq => ?_) he
  match t', hl' with
  | 0, _ => rfl
  | 1, _ => rfl
  | 2, _ => rfl
  | 3, _ => rfl
  | 4, h =>
    have hk : k' < nr := h
    have hne : k' ≠ r := fun z => hq ⟨rfl, z⟩
    show fm_O 3 [.int (va_up S.2.2 (10 * j + 10 + r) x (10 + k')), .int (va_up S.2.2 (10 * j + 10 + r) x (20 + k')), .int (va_up S.2.2 (10 * j + 10 + r) x (30 + k')), .int (va_up S.2.2 (10 * j + 10 + r) x (40 + k')), _, _] = _
    rw [va_up_ne _ _ (show 10 + k' ≠ 10 * j + 10 + r by omega), va_up_ne _ _ (show 20 + k' ≠ 10 * j + 10 + r by omega), va_up_ne _ _ (show 30 + k' ≠ 10 * j + 10 + r by omega), va_up_ne _ _ (show 40 + k' ≠ 10 * j + 10 + r by omega)]
    rfl
  | 5, _ => rfl
  | 6, _ => rfl
  | 7, _ =>
    show fm_O 5 [_, _, .int (va_up S.2.2 (10 * j + 10 + r) x 0), .int (va_up S.2.2 (10 * j + 10 + r) x 1), _, .int (va_up S.2.2 (10 * j + 10 + r) x 2), _] = _
    rw [va_up_ne _ _ (show 0 ≠ 10 * j + 10 + r by omega), va_up_ne _ _ (show 1 ≠ 10 * j + 10 + r by omega), va_up_ne _ _ (show 2 ≠ 10 * j + 10 + r by omega)]
    rfl
  | 8, _ => rfl
  | 9, _ => rfl
  | _ + 10, _ =>
    show fm_O 4 [_, _, .int (va_up S.2.2 (10 * j + 10 + r) x 3), _, _, .int (va_up S.2.2 (10 * j + 10 + r) x 4), _] = _
    rw [va_up_ne _ _ (show 3 ≠ 10 * j + 10 + r by omega), va_up_ne _ _ (show 4 ≠ 10 * j + 10 + r by omega)]
    rfl
end PIC
