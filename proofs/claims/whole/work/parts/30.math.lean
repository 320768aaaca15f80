/-! THE MATHEMATICS: counts of trees by their height. A grammar: nR rules; of each its left side lf, its nonterminals pt (sz many), its letters lc -/
def sumP (A B : Nat → Prop) (c : Nat) : Prop := ∃ x, x ≤ c ∧ A x ∧ okc x (c - x) = true ∧ B (c - x)
theorem sumP_mono {A A' B B' : Nat → Prop} {c : Nat} (hA : ∀ x, A x → A' x) (hB : ∀ x, B x → B' x) (h : sumP A B c) : sumP A' B' c := by
  obtain ⟨x, h1, h2, h3, h4⟩ := h
  exact ⟨x, h1, hA x h2, h3, hB _ h4⟩
theorem sumP_comm {A B : Nat → Prop} {c : Nat} (h : sumP A B c) : sumP B A c := by
  obtain ⟨x, h1, h2, h3, h4⟩ := h
  refine ⟨c - x, by omega, h4, ?_, ?_⟩
  · rw [show c - (c - x) = x by omega, okc_comm]; exact h3
  · rw [show c - (c - x) = x by omega]; exact h2
theorem sumP_lt {A B : Nat → Prop} {c : Nat} (h : sumP A B c) : c < 512 := by
  obtain ⟨x, h1, h2, h3, h4⟩ := h
  have := okc_lt h3
  omega
/-- a grammar: how many rules; left sides; how many nonterminals; letters; the nonterminals -/
abbrev Gr : Type := Nat × (Nat → Nat) × (Nat → Nat) × (Nat → Nat) × (Nat → Nat → Nat)
abbrev Gr.nR (g : Gr) : Nat := g.1
abbrev Gr.lf (g : Gr) : Nat → Nat := g.2.1
abbrev Gr.sz (g : Gr) : Nat → Nat := g.2.2.1
abbrev Gr.lc (g : Gr) : Nat → Nat := g.2.2.2.1
abbrev Gr.pt (g : Gr) : Nat → Nat → Nat := g.2.2.2.2
/-- what the last m nonterminals of a right side make together with the rule's letters, out of sets P -/
def Eb (P : Nat → Nat → Prop) (lc : Nat) (pt : Nat → Nat) (sz : Nat) : Nat → Nat → Prop
  | 0 => fun c => c = lc
  | m + 1 => sumP (P (pt (sz - (m + 1)))) (Eb P lc pt sz m)
theorem Eb_mono {P Q : Nat → Nat → Prop} (h : ∀ n c, P n c → Q n c) {lc : Nat} {pt : Nat → Nat} {sz : Nat} : ∀ m c, Eb P lc pt sz m c → Eb Q lc pt sz m c := by
  intro m
  induction m with
  | zero => exact fun _ h => h
  | succ m ih => exact fun c hc => sumP_mono (fun x => h _ x) ih hc
/-- the counts that a nonterminal has by trees of height at most h -/
def Hh (g : Gr) : Nat → Nat → Nat → Prop
  | 0 => fun _ _ => False
  | h + 1 => fun n c => ∃ r, r < g.nR ∧ g.lf r = n ∧ Eb (Hh g h) (g.lc r) (g.pt r) (g.sz r) (g.sz r) c
/-- what the end of rule r from its i-th nonterminal on makes by round h -/
def EH (g : Gr) (r i : Nat) : Nat → Nat → Prop
  | 0 => fun _ => False
  | h + 1 => Eb (Hh g h) (g.lc r) (g.pt r) (g.sz r) (g.sz r - i)
theorem Hh_mono1 (g : Gr) : ∀ h n c, Hh g h n c → Hh g (h + 1) n c := by
  intro h
  induction h with
  | zero => exact fun _ _ z => z.elim
  | succ h ih =>
    rintro n c ⟨r, h1, h2, h3⟩
    exact ⟨r, h1, h2, Eb_mono ih _ _ h3⟩
theorem Hh_mono (g : Gr) {h k : Nat} (hk : h ≤ k) {n c : Nat} (z : Hh g h n c) : Hh g k n c := by
  induction hk with
  | refl => exact z
  | step _ ih => exact Hh_mono1 g _ _ _ ih
theorem EH_mono1 (g : Gr) (r i h c : Nat) (z : EH g r i h c) : EH g r i (h + 1) c := by
  cases h with
  | zero => exact z.elim
  | succ h => exact Eb_mono (Hh_mono1 g h) _ _ z
theorem EH_mono (g : Gr) (r i : Nat) {h k : Nat} (hk : h ≤ k) {c : Nat} (z : EH g r i h c) : EH g r i k c := by
  induction hk with
  | refl => exact z
  | step _ ih => exact EH_mono1 g r i _ _ ih
theorem Hh_EH (g : Gr) (h n c : Nat) : Hh g h n c ↔ ∃ r, r < g.nR ∧ g.lf r = n ∧ EH g r 0 h c := by
  cases h with
  | zero => exact ⟨fun z => z.elim, fun ⟨_, _, _, z⟩ => z⟩
  | succ h => exact Iff.rfl
theorem EH_last (g : Gr) (r h c : Nat) : EH g r (g.sz r) (h + 1) c ↔ c = g.lc r := by
  show Eb _ _ _ _ (g.sz r - g.sz r) c ↔ _
  rw [Nat.sub_self]
  exact Iff.rfl
theorem EH_step (g : Gr) (r i h c : Nat) (hi : i < g.sz r) : EH g r i (h + 1) c ↔ sumP (Hh g h (g.pt r i)) (EH g r (i + 1) (h + 1)) c := by
  show Eb _ _ _ _ (g.sz r - i) c ↔ sumP _ (Eb _ _ _ _ (g.sz r - (i + 1))) c
  rw [show g.sz r - i = (g.sz r - (i + 1)) + 1 by omega]
  show sumP (Hh g h (g.pt r (g.sz r - (g.sz r - (i + 1) + 1)))) _ c ↔ _
  rw [show g.sz r - (g.sz r - (i + 1) + 1) = i by omega]
/-- a round's growth of an end: only sums with something new -/
theorem EH_new (g : Gr) (r i h c : Nat) (hi : i < g.sz r) : EH g r i (h + 1) c ↔ (EH g r i h c ∨ sumP (fun x => Hh g h (g.pt r i) x ∧ ¬ Hh g (h - 1) (g.pt r i) x) (EH g r (i + 1) (h + 1)) c ∨ sumP (fun x => EH g r (i + 1) (h + 1) x ∧ ¬ EH g r (i + 1) h x) (Hh g h (g.pt r i)) c) := by
  constructor
  · intro z
    obtain ⟨x, h1, h2, h3, h4⟩ := (EH_step g r i h c hi).mp z
    by_cases hx : Hh g (h - 1) (g.pt r i) x
    · by_cases hy : EH g r (i + 1) h (c - x)
      · cases h with
        | zero => exact hy.elim
        | succ h => exact Or.inl ((EH_step g r i h c hi).mpr ⟨x, h1, hx, h3, hy⟩)
      · exact Or.inr (Or.inr (sumP_comm ⟨x, h1, h2, h3, h4, hy⟩))
    · exact Or.inr (Or.inl ⟨x, h1, ⟨h2, hx⟩, h3, h4⟩)
  · rintro (z | z | z)
    · exact EH_mono1 g r i h c z
    · exact (EH_step g r i h c hi).mpr (sumP_mono (fun _ q => q.1) (fun _ q => q) z)
    · exact (EH_step g r i h c hi).mpr (sumP_mono (fun _ q => q) (fun _ q => q.1) (sumP_comm z))
/-- the grammar's numbers are in range -/
def GrOk (g : Gr) : Prop := g.nR ≤ 10 ∧ ∀ r, r < g.nR → g.lf r < 5 ∧ g.sz r ≤ 4 ∧ g.lc r < 512 ∧ ∀ i, i < g.sz r → g.pt r i < 5
theorem Eb_lt {P : Nat → Nat → Prop} {lc : Nat} {pt : Nat → Nat} {sz : Nat} (hlc : lc < 512) (m c : Nat) (z : Eb P lc pt sz m c) : c < 512 := by
  cases m with
  | zero => have z : c = lc := z; omega
  | succ m => exact sumP_lt z
theorem Hh_lt {g : Gr} (hg : GrOk g) {h n c : Nat} (z : Hh g h n c) : n < 5 ∧ c < 512 := by
  cases h with
  | zero => exact z.elim
  | succ h =>
    obtain ⟨r, h1, h2, h3⟩ := z
    obtain ⟨a1, a2, a3, a4⟩ := hg.2 r h1
    exact ⟨by omega, Eb_lt a3 _ _ h3⟩
theorem EH_lt {g : Gr} (hg : GrOk g) {r i h c : Nat} (hr : r < g.nR) (z : EH g r i h c) : c < 512 := by
  cases h with
  | zero => exact z.elim
  | succ h => exact Eb_lt (hg.2 r hr).2.2.1 _ _ z
/-- nothing new in a round: nothing new ever -/
theorem Hh_stop {g : Gr} {h : Nat} (h0 : ∀ n c, Hh g (h + 1) n c → Hh g h n c) : ∀ k, h ≤ k → ∀ n c, Hh g k n c → Hh g h n c := by
  intro k hk
  induction hk with
  | refl => exact fun _ _ z => z
  | @step m _ ih =>
    rintro n c ⟨r, h1, h2, h3⟩
    exact h0 n c ⟨r, h1, h2, Eb_mono ih _ _ h3⟩
/-- how many of the first m a predicate holds of -/
noncomputable def cntP (P : Nat → Prop) (m : Nat) : Nat := cntq (fun j => @decide (P j) (Classical.propDecidable _)) m
theorem cntq_le_of {s t : Nat → Bool} {n : Nat} (h : ∀ j, j < n → s j = true → t j = true) : cntq s n ≤ cntq t n := by
  induction n with
  | zero => exact Nat.le_refl 0
  | succ n ih =>
    show cntq s n + (if s n = true then 1 else 0) ≤ cntq t n + (if t n = true then 1 else 0)
    have h1 := ih (fun j hj => h j (by omega))
    by_cases h2 : s n = true
    · rw [if_pos h2, if_pos (h n (by omega) h2)]; omega
    · rw [if_neg h2]; omega
theorem cntq_lt_of {s t : Nat → Bool} {n i : Nat} (h : ∀ j, j < n → s j = true → t j = true) (hi : i < n) (h1 : s i = false) (h2 : t i = true) : cntq s n < cntq t n := by
  induction n with
  | zero => exact absurd hi (Nat.not_lt_zero i)
  | succ n ih =>
    show cntq s n + (if s n = true then 1 else 0) < cntq t n + (if t n = true then 1 else 0)
    by_cases hn : i = n
    · subst hn
      have h3 := cntq_le_of (n := i) (fun j hj => h j (by omega))
      rw [h1, h2]
      simp
      omega
    · have h3 := ih (fun j hj => h j (by omega)) (by omega)
      by_cases h4 : s n = true
      · rw [if_pos h4, if_pos (h n (by omega) h4)]; omega
      · rw [if_neg h4]; omega
theorem cntP_lt {P Q : Nat → Prop} {n i : Nat} (h : ∀ j, j < n → P j → Q j) (hi : i < n) (h1 : ¬ P i) (h2 : Q i) : cntP P n < cntP Q n := by
  refine cntq_lt_of (i := i) (fun j hj z => ?_) hi ?_ ?_
  · exact @decide_eq_true _ (Classical.propDecidable _) (h j hj (@of_decide_eq_true _ (Classical.propDecidable _) z))
  · exact @decide_eq_false _ (Classical.propDecidable _) h1
  · exact @decide_eq_true _ (Classical.propDecidable _) h2
/-- pairs as one number -/
def HhN (g : Gr) (h j : Nat) : Prop := Hh g h (j / 512) (j % 512)
/-- as many rounds with something new as there are pairs at most -/
theorem Hh_bound {g : Gr} (hg : GrOk g) : ∀ m, (∀ j, j < m → ∃ n c, Hh g (j + 1) n c ∧ ¬ Hh g j n c) → m ≤ cntP (HhN g m) 2560 := by
  intro m
  induction m with
  | zero => exact fun _ => Nat.zero_le _
  | succ m ih =>
    intro h
    have h1 := ih (fun j hj => h j (by omega))
    obtain ⟨n, c, h2, h3⟩ := h m (by omega)
    obtain ⟨h4, h5⟩ := Hh_lt hg h2
    have e1 : (512 * n + c) / 512 = n := by omega
    have e2 : (512 * n + c) % 512 = c := by omega
    have := cntP_lt (P := HhN g m) (Q := HhN g (m + 1)) (n := 2560) (i := 512 * n + c) (fun j _ z => Hh_mono1 g m _ _ z) (by omega) (by unfold HhN; rw [e1, e2]; exact h3) (by unfold HhN; rw [e1, e2]; exact h2)
    omega
theorem Hh_short {g : Gr} (hg : GrOk g) {m : Nat} (h : ∀ j, j < m → ∃ n c, Hh g (j + 1) n c ∧ ¬ Hh g j n c) : m ≤ 2560 := Nat.le_trans (Hh_bound hg m h) (cntq_le _ _)
