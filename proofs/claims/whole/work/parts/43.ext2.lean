/-! A RULE MORE -/
/-- the cells of rule nr -/
abbrev nwR (nr t k : Nat) : Prop := ((t = 0 ∨ t = 1) ∧ 15 + 10 * nr ≤ k ∧ k < 25 + 10 * nr) ∨ (t = 2 ∧ (k = 10 + nr ∨ (20 + 5 * nr ≤ k ∧ k < 25 + 5 * nr))) ∨ ((t = 4 ∨ t = 5) ∧ k = nr) ∨ (t = 6 ∧ 5 * nr ≤ k ∧ k < 5 * nr + 5)
def ixR (nr : Nat) : Nat → Nat → Nat
  | 0, k => 2 + 6 * ((k - (15 + 10 * nr)) / 2) + (1 + 2 * ((k - (15 + 10 * nr)) % 2))
  | 1, k => 2 + 6 * ((k - (15 + 10 * nr)) / 2) + (2 + 2 * ((k - (15 + 10 * nr)) % 2))
  | 2, k => if k = 10 + nr then 0 else 2 + 6 * (k - (20 + 5 * nr)) + 5
  | 5, _ => 1
  | 6, k => 2 + 6 * (k - 5 * nr)
  | _, _ => 32
def adR (ad : Nat → Nat → Nat) (b : Nat → Nat) (q nr t k : Nat) : Nat := if nwR nr t k then (if t = 4 then q else b (ixR nr t k)) else ad t k
def Sx (nr : Nat) (S : Cs) : Cs := (fun k => if 15 + 10 * nr ≤ k ∧ k < 25 + 10 * nr then (fun _ => 0) else S.1 k, fun j => if j = 10 + nr ∨ (20 + 5 * nr ≤ j ∧ j < 25 + 5 * nr) then (fun _ => 0) else S.2.1 j, fun i => if i = 10 + nr ∨ i = 20 + nr ∨ i = 30 + nr ∨ i = 40 + nr then nI 0 else S.2.2 i)
theorem liv_new {nr t k : Nat} (h : liv (nr + 1) t k) : liv nr t k ∨ nwR nr t k := by
  match t, h with
  | 0, h => have h : k < 15 + 10 * (nr + 1) := h; show k < 15 + 10 * nr ∨ _; unfold nwR; omega
  | 1, h => have h : k < 15 + 10 * (nr + 1) := h; show k < 15 + 10 * nr ∨ _; unfold nwR; omega
  | 2, h =>
    have h : k < 10 ∨ (10 ≤ k ∧ k < 10 + (nr + 1)) ∨ (20 ≤ k ∧ k < 20 + 5 * (nr + 1)) ∨ (70 ≤ k ∧ k < 76) := h
    show (k < 10 ∨ (10 ≤ k ∧ k < 10 + nr) ∨ (20 ≤ k ∧ k < 20 + 5 * nr) ∨ (70 ≤ k ∧ k < 76)) ∨ _
    unfold nwR; omega
  | 3, h => exact Or.inl h
  | 4, h => have h : k < nr + 1 := h; show k < nr ∨ _; unfold nwR; omega
  | 5, h => have h : k < nr + 1 := h; show k < nr ∨ _; unfold nwR; omega
  | 6, h => have h : k < 5 * (nr + 1) := h; show k < 5 * nr ∨ _; unfold nwR; omega
  | 7, h => exact Or.inl h
  | 8, h => exact Or.inl h
  | 9, h => exact Or.inl h
  | 10, h => exact Or.inl h
  | _ + 11, h => exact h.elim
theorem liv_old {nr t k : Nat} (h10 : nr < 10) (h : liv nr t k) : ¬ nwR nr t k := by
  match t, h with
  | 0, h => have h : k < 15 + 10 * nr := h; unfold nwR; omega
  | 1, h => have h : k < 15 + 10 * nr := h; unfold nwR; omega
  | 2, h =>
    have h : k < 10 ∨ (10 ≤ k ∧ k < 10 + nr) ∨ (20 ≤ k ∧ k < 20 + 5 * nr) ∨ (70 ≤ k ∧ k < 76) := h
    unfold nwR; omega
  | 3, h => unfold nwR; omega
  | 4, h => have h : k < nr := h; unfold nwR; omega
  | 5, h => have h : k < nr := h; unfold nwR; omega
  | 6, h => have h : k < 5 * nr := h; unfold nwR; omega
  | 7, h => unfold nwR; omega
  | 8, h => unfold nwR; omega
  | 9, h => unfold nwR; omega
  | 10, h => unfold nwR; omega
  | _ + 11, h => exact h.elim
theorem ixR_inj {nr t k t' k' : Nat} (h : nwR nr t k) (h' : nwR nr t' k') (ht : t ≠ 4) (ht' : t' ≠ 4) (e : ixR nr t k = ixR nr t' k') : t = t' ∧ k = k' := by
  have c : t = 0 ∨ t = 1 ∨ t = 2 ∨ t = 5 ∨ t = 6 := by unfold nwR at h; omega
  have c' : t' = 0 ∨ t' = 1 ∨ t' = 2 ∨ t' = 5 ∨ t' = 6 := by unfold nwR at h'; omega
  unfold nwR at h h'
  rcases c with rfl | rfl | rfl | rfl | rfl <;> rcases c' with rfl | rfl | rfl | rfl | rfl <;> simp only [ixR] at e <;> (try split at e) <;> (try split at e) <;> omega
theorem ixR_lt {nr t k : Nat} (h : nwR nr t k) (ht : t ≠ 4) : ixR nr t k < 32 := by
  have c : t = 0 ∨ t = 1 ∨ t = 2 ∨ t = 5 ∨ t = 6 := by unfold nwR at h; omega
  unfold nwR at h
  rcases c with rfl | rfl | rfl | rfl | rfl <;> simp only [ixR] <;> (try split) <;> omega

set_option maxHeartbeats 4000000 in
set_option maxRecDepth 100000 in
theorem Pic_ext {G : fm_G} {ad : Nat → Nat → Nat} {nr : Nat} {S : Cs} {M M1 : fm_M} {q : Nat} {e0 : va_E} {b : Nat → Nat} (Pi : Pic G ad nr S M) (h10 : nr < 10) (hq : M q = none) (h : Nw (fm_set M q e0) M1 q (fm_O 3 [.int (nI 0), .int (nI 0), .int (nI 0), .int (nI 0), .ref (b 0), .ref (b 1)]) 32 b (ctR G b 5)) :
    Pic G (adR ad b q nr) (nr + 1) (Sx nr S) (fm_set M1 (ad 9 0) (fm_R G 4 10 (va_up (fun r => if r < nr then some (ad 4 r) else none) nr (some q)))) ∧ (∀ t k, liv nr t k → adR ad b q nr t k = ad t k) ∧ (∀ t k, liv (nr + 1) t k → ¬ liv nr t k → M (adR ad b q nr t k) = none) ∧ ∀ a e, M a = some e → M1 a = some e := by
  obtain ⟨h1, h2, h3, h4⟩ := h
  have fr : ∀ i, i < 32 → M (b i) = none := fun i hi => by
    obtain ⟨a1, a2, a3⟩ := h2 i hi
    rw [fm_set_ne _ _ a1] at a2; exact a2
  have old : ∀ t k, liv nr t k → adR ad b q nr t k = ad t k := fun t k hl => if_neg (liv_old h10 hl)
  have nqo : ∀ a e, M a = some e → a ≠ q ∧ ∀ i, i < 32 → a ≠ b i := fun a e he => ⟨fun z => (by rw [z, hq] at he; cases he), fun i hi z => (by rw [z, fr i hi] at he; cases he)⟩
  have keep : ∀ a e, M a = some e → M1 a = some e := fun a e he => by
    obtain ⟨n1, n2⟩ := nqo a e he
    rw [h4 a n1 n2, fm_set_ne _ _ n1]; exact he
  have new4 : adR ad b q nr 4 nr = q := by unfold adR; rw [if_pos (by unfold nwR; omega), if_pos rfl]
  have newb : ∀ t k, nwR nr t k → t ≠ 4 → adR ad b q nr t k = b (ixR nr t k) := fun t k hn ht => by unfold adR; rw [if_pos hn, if_neg ht]
  have l9 : liv nr 9 0 := rfl
  have n9 : ∀ t k, nwR nr t k → adR ad b q nr t k ≠ ad 9 0 := fun t k hn z => by
    by_cases ht : t = 4
    · subst ht
      have hk : k = nr := by unfold nwR at hn; omega
      subst hk
      rw [new4] at z
      exact (nqo _ _ (Pi.at l9)).1 z.symm
    · rw [newb t k hn ht] at z
      exact (nqo _ _ (Pi.at l9)).2 _ (ixR_lt hn ht) z.symm
  have nfr : ∀ t k, nwR nr t k → M (adR ad b q nr t k) = none := fun t k hn => by
    by_cases ht : t = 4
    · subst ht
      have hk : k = nr := by unfold nwR at hn; omega
      subst hk
      rw [new4]; exact hq
    · rw [newb t k hn ht]; exact fr _ (ixR_lt hn ht)
  have atK : ∀ i s, i < 5 → s < 6 → M1 (b (2 + 6 * i + s)) = some (ctK G (fun s => b (2 + 6 * i + s)) s) := fun i s hi hs => by
    have := (h2 (2 + 6 * i + s) (by omega)).2.2
    rw [show 2 + 6 * i + s = (6 * i + s) + 2 by omega] at this
    rw [show 2 + 6 * i + s = (6 * i + s) + 2 by omega, this]
    show some (ctK G (fun s' => b (2 + 6 * ((6 * i + s) / 6) + s')) ((6 * i + s) % 6)) = _
    rw [show (6 * i + s) / 6 = i by omega, show (6 * i + s) % 6 = s by omega]
  refine ⟨⟨by omega, fun t k hl => ?_, fun t k t' k' hl hl' e => ?_⟩, old, fun t k hl hnl => nfr t k ((liv_new hl).resolve_left hnl), keep⟩
  · rcases liv_new hl with ho | hn
    · rw [old t k ho]
      by_cases h90 : t = 9 ∧ k = 0
      · obtain ⟨rfl, rfl⟩ := h90
        rw [fm_set_eq]
        show some (fm_R G 4 10 _) = some (fm_R G 4 10 (fun r => if r < nr + 1 then some (adR ad b q nr 4 r) else none))
        congr 3
        funext r
        by_cases hr : r = nr
        · subst hr; rw [va_up_self, if_pos (Nat.lt_succ_self r), new4]
        · rw [va_up_ne _ _ hr]
          by_cases hr2 : r < nr
          · rw [if_pos hr2, if_pos (by omega), old 4 r hr2]
          · rw [if_neg hr2, if_neg (by omega)]
      · rw [fm_set_ne _ _ (Pi.ne ho l9 h90), keep _ _ (Pi.at ho)]
        congr 1
        have o := liv_old h10 ho
        match t, ho with
        | 0, ho => show fm_O 0 [.ref (ad 1 k)] = fm_O 0 [.ref (adR ad b q nr 1 k)]; rw [old 1 k ho]
        | 1, ho =>
          show fm_L G 8 (S.1 k) = fm_L G 8 (if 15 + 10 * nr ≤ k ∧ k < 25 + 10 * nr then (fun _ => 0) else S.1 k)
          have ho : k < 15 + 10 * nr := ho
          rw [if_neg (by omega)]
        | 2, ho =>
          show fm_I G (lenA k) (S.2.1 k) = fm_I G (lenA k) (if k = 10 + nr ∨ (20 + 5 * nr ≤ k ∧ k < 25 + 5 * nr) then (fun _ => 0) else S.2.1 k)
          rw [if_neg (by unfold nwR at o; omega)]
        | 3, ho =>
          have ho : k < 5 := ho
          show fm_O 2 [.ref (ad 0 (3 * k)), .ref (ad 0 (3 * k + 1)), .ref (ad 0 (3 * k + 2)), .ref (ad 2 k), .ref (ad 2 (5 + k))] = fm_O 2 [.ref (adR ad b q nr 0 (3 * k)), .ref (adR ad b q nr 0 (3 * k + 1)), .ref (adR ad b q nr 0 (3 * k + 2)), .ref (adR ad b q nr 2 k), .ref (adR ad b q nr 2 (5 + k))]
          rw [old 0 (3 * k) (show 3 * k < 15 + 10 * nr by omega), old 0 (3 * k + 1) (show 3 * k + 1 < 15 + 10 * nr by omega), old 0 (3 * k + 2) (show 3 * k + 2 < 15 + 10 * nr by omega), old 2 k (Or.inl (by omega)), old 2 (5 + k) (Or.inl (by omega))]
        | 4, ho =>
          have ho : k < nr := ho
          show fm_O 3 [.int (S.2.2 (10 + k)), .int (S.2.2 (20 + k)), .int (S.2.2 (30 + k)), .int (S.2.2 (40 + k)), .ref (ad 2 (10 + k)), .ref (ad 5 k)] = fm_O 3 [.int ((Sx nr S).2.2 (10 + k)), .int ((Sx nr S).2.2 (20 + k)), .int ((Sx nr S).2.2 (30 + k)), .int ((Sx nr S).2.2 (40 + k)), .ref (adR ad b q nr 2 (10 + k)), .ref (adR ad b q nr 5 k)]
          have sc : ∀ j, j = 10 + k ∨ j = 20 + k ∨ j = 30 + k ∨ j = 40 + k → (Sx nr S).2.2 j = S.2.2 j := fun j hj => if_neg (by omega)
          rw [sc _ (Or.inl rfl), sc _ (Or.inr (Or.inl rfl)), sc _ (Or.inr (Or.inr (Or.inl rfl))), sc _ (Or.inr (Or.inr (Or.inr rfl))), old 2 (10 + k) (Or.inr (Or.inl ⟨by omega, by omega⟩)), old 5 k ho]
        | 5, ho =>
          have ho : k < nr := ho
          show fm_R G 5 5 (fun i => if i < 5 then some (ad 6 (5 * k + i)) else none) = fm_R G 5 5 (fun i => if i < 5 then some (adR ad b q nr 6 (5 * k + i)) else none)
          congr 3
          funext i
          by_cases hi : i < 5
          · rw [if_pos hi, if_pos hi, old 6 (5 * k + i) (show 5 * k + i < 5 * nr by omega)]
          · rw [if_neg hi, if_neg hi]
        | 6, ho =>
          have ho : k < 5 * nr := ho
          show fm_O 1 [.ref (ad 0 (15 + 2 * k)), .ref (ad 0 (16 + 2 * k)), .ref (ad 2 (20 + k))] = fm_O 1 [.ref (adR ad b q nr 0 (15 + 2 * k)), .ref (adR ad b q nr 0 (16 + 2 * k)), .ref (adR ad b q nr 2 (20 + k))]
          rw [old 0 (15 + 2 * k) (show 15 + 2 * k < 15 + 10 * nr by omega), old 0 (16 + 2 * k) (show 16 + 2 * k < 15 + 10 * nr by omega), old 2 (20 + k) (Or.inr (Or.inr (Or.inl ⟨by omega, by omega⟩)))]
        | 7, ho =>
          show fm_O 5 [.ref (ad 8 0), .ref (ad 9 0), .int (S.2.2 0), .int (S.2.2 1), .ref (ad 2 70), .int (S.2.2 2), .ref (ad 10 0)] = fm_O 5 [.ref (adR ad b q nr 8 0), .ref (adR ad b q nr 9 0), .int ((Sx nr S).2.2 0), .int ((Sx nr S).2.2 1), .ref (adR ad b q nr 2 70), .int ((Sx nr S).2.2 2), .ref (adR ad b q nr 10 0)]
          have sc : ∀ j, j < 5 → (Sx nr S).2.2 j = S.2.2 j := fun j hj => if_neg (by omega)
          rw [sc 0 (by decide), sc 1 (by decide), sc 2 (by decide), old 8 0 rfl, old 9 0 rfl, old 10 0 rfl, old 2 70 (Or.inr (Or.inr (Or.inr (by omega))))]
        | 8, ho =>
          show fm_R G 3 5 (fun n => if n < 5 then some (ad 3 n) else none) = fm_R G 3 5 (fun n => if n < 5 then some (adR ad b q nr 3 n) else none)
          have e3 : ∀ n, adR ad b q nr 3 n = ad 3 n := fun n => if_neg (by unfold nwR; omega)
          simp only [e3]
        | 9, ho => exact absurd ⟨rfl, ho⟩ h90
        | 10, ho =>
          show fm_O 4 [.ref (ad 2 71), .ref (ad 2 72), .int (S.2.2 3), .ref (ad 2 73), .ref (ad 2 74), .int (S.2.2 4), .ref (ad 2 75)] = fm_O 4 [.ref (adR ad b q nr 2 71), .ref (adR ad b q nr 2 72), .int ((Sx nr S).2.2 3), .ref (adR ad b q nr 2 73), .ref (adR ad b q nr 2 74), .int ((Sx nr S).2.2 4), .ref (adR ad b q nr 2 75)]
          have sc : ∀ j, j < 5 → (Sx nr S).2.2 j = S.2.2 j := fun j hj => if_neg (by omega)
          have o2 : ∀ j, 70 ≤ j → j < 76 → adR ad b q nr 2 j = ad 2 j := fun j h7 h8 => old 2 j (Or.inr (Or.inr (Or.inr ⟨h7, h8⟩)))
          rw [sc 3 (by decide), sc 4 (by decide), o2 71 (by decide) (by decide), o2 72 (by decide) (by decide), o2 73 (by decide) (by decide), o2 74 (by decide) (by decide), o2 75 (by decide) (by decide)]
        | _ + 11, ho => exact ho.elim
    · rw [fm_set_ne _ _ (n9 t k hn)]
      have c : t = 0 ∨ t = 1 ∨ t = 2 ∨ t = 4 ∨ t = 5 ∨ t = 6 := by unfold nwR at hn; omega
      rcases c with rfl | rfl | rfl | rfl | rfl | rfl
      · have hk : 15 + 10 * nr ≤ k ∧ k < 25 + 10 * nr := by unfold nwR at hn; omega
        rw [newb 0 k hn (by decide)]
        show M1 (b (ixR nr 0 k)) = some (fm_O 0 [.ref (adR ad b q nr 1 k)])
        rw [newb 1 k (by unfold nwR; omega) (by decide)]
        show M1 (b (2 + 6 * ((k - (15 + 10 * nr)) / 2) + (1 + 2 * ((k - (15 + 10 * nr)) % 2)))) = some (fm_O 0 [.ref (b (2 + 6 * ((k - (15 + 10 * nr)) / 2) + (2 + 2 * ((k - (15 + 10 * nr)) % 2))))])
        rcases (show (k - (15 + 10 * nr)) % 2 = 0 ∨ (k - (15 + 10 * nr)) % 2 = 1 by omega) with e | e
        · rw [e]; exact atK _ 1 (by omega) (by decide)
        · rw [e]; exact atK _ 3 (by omega) (by decide)
      · have hk : 15 + 10 * nr ≤ k ∧ k < 25 + 10 * nr := by unfold nwR at hn; omega
        rw [newb 1 k hn (by decide)]
        show M1 (b (2 + 6 * ((k - (15 + 10 * nr)) / 2) + (2 + 2 * ((k - (15 + 10 * nr)) % 2)))) = some (fm_L G 8 (if 15 + 10 * nr ≤ k ∧ k < 25 + 10 * nr then (fun _ => 0) else S.1 k))
        rw [if_pos hk]
        rcases (show (k - (15 + 10 * nr)) % 2 = 0 ∨ (k - (15 + 10 * nr)) % 2 = 1 by omega) with e | e
        · rw [e]; exact atK _ 2 (by omega) (by decide)
        · rw [e]; exact atK _ 4 (by omega) (by decide)
      · have hk : k = 10 + nr ∨ (20 + 5 * nr ≤ k ∧ k < 25 + 5 * nr) := by unfold nwR at hn; omega
        rw [newb 2 k hn (by decide)]
        show M1 (b (if k = 10 + nr then 0 else 2 + 6 * (k - (20 + 5 * nr)) + 5)) = some (fm_I G (lenA k) (if k = 10 + nr ∨ (20 + 5 * nr ≤ k ∧ k < 25 + 5 * nr) then (fun _ => 0) else S.2.1 k))
        rw [if_pos hk]
        by_cases hk2 : k = 10 + nr
        · rw [if_pos hk2, hk2, lenA_p h10]; exact (h2 0 (by decide)).2.2
        · rw [if_neg hk2, show k = 20 + (k - 20) by omega, lenA_e (by omega)]
          exact atK _ 5 (by omega) (by decide)
      · have hk : k = nr := by unfold nwR at hn; omega
        subst hk
        rw [new4, h1]
        show _ = some (fm_O 3 [.int ((Sx k S).2.2 (10 + k)), .int ((Sx k S).2.2 (20 + k)), .int ((Sx k S).2.2 (30 + k)), .int ((Sx k S).2.2 (40 + k)), .ref (adR ad b q k 2 (10 + k)), .ref (adR ad b q k 5 k)])
        have sc : ∀ j, j = 10 + k ∨ j = 20 + k ∨ j = 30 + k ∨ j = 40 + k → (Sx k S).2.2 j = nI 0 := fun j hj => if_pos (by omega)
        rw [sc _ (Or.inl rfl), sc _ (Or.inr (Or.inl rfl)), sc _ (Or.inr (Or.inr (Or.inl rfl))), sc _ (Or.inr (Or.inr (Or.inr rfl))), newb 2 (10 + k) (by unfold nwR; omega) (by decide), newb 5 k (by unfold nwR; omega) (by decide)]
        show _ = some (fm_O 3 [_, _, _, _, .ref (b (if 10 + k = 10 + k then 0 else _)), .ref (b 1)])
        rw [if_pos rfl]
      · have hk : k = nr := by unfold nwR at hn; omega
        subst hk
        rw [newb 5 k hn (by decide)]
        show M1 (b 1) = some (fm_R G 5 5 (fun i => if i < 5 then some (adR ad b q k 6 (5 * k + i)) else none))
        rw [(h2 1 (by decide)).2.2]
        show some (fm_R G 5 5 (fun i => if i < 5 then some (b (2 + 6 * i)) else none)) = _
        congr 4
        funext i
        by_cases hi : i < 5
        · rw [if_pos hi, if_pos hi, newb 6 (5 * k + i) (by unfold nwR; omega) (by decide)]
          show _ = some (b (2 + 6 * (5 * k + i - 5 * k)))
          rw [show 5 * k + i - 5 * k = i by omega]
        · rw [if_neg hi, if_neg hi]
      · have hk : 5 * nr ≤ k ∧ k < 5 * nr + 5 := by unfold nwR at hn; omega
        rw [newb 6 k hn (by decide)]
        show M1 (b (2 + 6 * (k - 5 * nr))) = some (fm_O 1 [.ref (adR ad b q nr 0 (15 + 2 * k)), .ref (adR ad b q nr 0 (16 + 2 * k)), .ref (adR ad b q nr 2 (20 + k))])
        rw [newb 0 (15 + 2 * k) (by unfold nwR; omega) (by decide), newb 0 (16 + 2 * k) (by unfold nwR; omega) (by decide), newb 2 (20 + k) (by unfold nwR; omega) (by decide)]
        show _ = some (fm_O 1 [.ref (b (2 + 6 * ((15 + 2 * k - (15 + 10 * nr)) / 2) + (1 + 2 * ((15 + 2 * k - (15 + 10 * nr)) % 2)))), .ref (b (2 + 6 * ((16 + 2 * k - (15 + 10 * nr)) / 2) + (1 + 2 * ((16 + 2 * k - (15 + 10 * nr)) % 2)))), .ref (b (if 20 + k = 10 + nr then 0 else 2 + 6 * (20 + k - (20 + 5 * nr)) + 5))])
        rw [if_neg (by omega), show (15 + 2 * k - (15 + 10 * nr)) / 2 = k - 5 * nr by omega, show (15 + 2 * k - (15 + 10 * nr)) % 2 = 0 by omega, show (16 + 2 * k - (15 + 10 * nr)) / 2 = k - 5 * nr by omega, show (16 + 2 * k - (15 + 10 * nr)) % 2 = 1 by omega, show 20 + k - (20 + 5 * nr) = k - 5 * nr by omega]
        exact atK (k - 5 * nr) 0 (by omega) (by decide)
  · rcases liv_new hl with ho | hn <;> rcases liv_new hl' with ho' | hn'
    · rw [old t k ho, old t' k' ho'] at e
      exact Pi.2.2 t k t' k' ho ho' e
    · have := nfr t' k' hn'
      rw [← e, old t k ho, Pi.at ho] at this
      cases this
    · have := nfr t k hn
      rw [e, old t' k' ho', Pi.at ho'] at this
      cases this
    · by_cases ht : t = 4 <;> by_cases ht' : t' = 4
      · subst ht; subst ht'; unfold nwR at hn hn'; omega
      · subst ht
        have hk : k = nr := by unfold nwR at hn; omega
        subst hk
        rw [new4, newb t' k' hn' ht'] at e
        exact absurd e.symm (h2 _ (ixR_lt hn' ht')).1
      · subst ht'
        have hk : k' = nr := by unfold nwR at hn'; omega
        subst hk
        rw [new4, newb t k hn ht] at e
        exact absurd e (h2 _ (ixR_lt hn ht)).1
      · rw [newb t k hn ht, newb t' k' hn' ht'] at e
        exact ixR_inj hn hn' ht ht' (h3 _ _ (ixR_lt hn ht) (ixR_lt hn' ht') e)
