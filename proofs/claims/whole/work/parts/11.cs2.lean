theorem fm_ne {M : fm_M} {a b : Nat} {x y : va_E} (h1 : M a = some x) (h2 : M b = some y) (h : x = y → False) : a ≠ b := fun e => h (Option.some.inj (h1.symm.trans ((congrArg M e).trans h2)))
theorem fm_ne' {M : fm_M} {a b : Nat} {x : va_E} (h1 : M a = some x) (h2 : M b = none) : a ≠ b := fun e => by rw [e, h2] at h1; cases h1
theorem fm_o {M : fm_M} {a p : Nat} {x e : va_E} (h : M a = some x) (hn : a ≠ p) : fm_set M p e a = some x := by rw [fm_set_ne _ _ hn]; exact h

set_option maxHeartbeats 4000000 in
set_option maxRecDepth 100000 in
theorem c_CS_init (G : fm_G) (a : Nat) (M : fm_M) (hc : M a = some (fm_O 0 [.null])) : fm_Ct G yX0_init cX0_init 1 none 1 12 1 8 [.ref a] M (fun v M1 => v = none ∧ ∃ p, M p = none ∧ M1 = fm_set (fm_set M p (fm_L G 8 (fun _ => 0))) a (fm_O 0 [.ref p])) := by
  refine fm_head (by decide) (Nat.le_of_ble_eq_true rfl) rfl (fun X C N0 rt => ?_)
  refine g_aload_n C dX0_init_0 rfl ?_
  refine g_objI C dX0_init_1 cw_X0_3 (by decide) (by decide) ?_
  refine g_aload_n C dX0_init_4 rfl ?_
  refine g_bipush C dX0_init_5 (v := nI 8) rfl ?_
  refine g_newL C rfl ka_long dX0_init_7 (by decide) (by decide) (by decide) (fun p hp => ?_)
  refine g_putF C N0 fl_X0_11 rfl rfl dX0_init_9 (fm_o hc (fm_ne' hc hp)) rfl rfl (by decide) ?_
  exact rt none _ _ _ _ _ (fm_retV dX0_init_12) ⟨rfl, p, hp, rfl⟩ (by decide) (by decide)

set_option maxHeartbeats 4000000 in
set_option maxRecDepth 100000 in
theorem c_empty (G : fm_G) (a p : Nat) (M : fm_M) (g : Nat → Int64) (hc : M a = some (fm_O 0 [.ref p])) (hp : M p = some (fm_L G 8 g)) : fm_Ct G yX0_empty cX0_empty 1 none 1 24 0 0 [.ref a] M (fun v M1 => v = none ∧ M1 = fm_set M p (fm_L G 8 (fillf 8 0 g))) := by
  refine fm_head (by decide) (Nat.le_of_ble_eq_true rfl) rfl (fun X C N0 rt => ?_)
  refine g_aload_n C dX0_empty_0 rfl ?_
  refine g_getf C fl_X0_11 dX0_empty_1 hc rfl ?_
  refine g_lconst C dX0_empty_4 (v := 0) rfl ?_
  refine g_callS C dX0_empty_5 cw_X0_15 (c_fillL G p 8 M g 0 hp (by decide)) rfl rfl (by decide) (by decide) (by decide) (by decide) (by decide) (fun v M1 hq => ?_)
  obtain ⟨rfl, rfl⟩ := hq
  exact rt none _ _ _ _ _ (fm_retV dX0_empty_8) ⟨rfl, rfl⟩ (by decide) (by decide)
theorem bq_fill0 (g : Nat → Int64) (c : Nat) (h : c < 512) : bq (fillf 8 0 g) c = false := by
  unfold bq
  rw [fillf_lt (by omega)]
  exact b_zero _

def orf (g : Nat → Int64) : Nat → Int64
  | 0 => 0
  | i + 1 => orf g i ||| g i
theorem orf_bit (g : Nat → Int64) (n j : Nat) : (orf g n).toBitVec.getLsbD j = false ↔ ∀ i, i < n → (g i).toBitVec.getLsbD j = false := by
  induction n with
  | zero => exact ⟨fun _ i hi => absurd hi (Nat.not_lt_zero i), fun _ => b_zero j⟩
  | succ n ih =>
    show (orf g n ||| g n).toBitVec.getLsbD j = false ↔ _
    rw [b_or, Bool.or_eq_false_iff, ih]
    constructor
    · rintro ⟨h1, h2⟩ i hi
      by_cases h : i = n
      · rw [h]; exact h2
      · exact h1 i (by omega)
    · intro h
      exact ⟨fun i hi => h i (by omega), h n (by omega)⟩
/-- the set is empty -/
def empq (g : Nat → Int64) : Bool := decide (orf g 8 = 0)
theorem empq_iff (g : Nat → Int64) : empq g = true ↔ ∀ c, c < 512 → bq g c = false := by
  unfold empq
  rw [decide_eq_true_iff, b_is0]
  constructor
  · intro h c hc
    exact (orf_bit g 8 (c % 64)).mp (h _ (by omega)) (c / 64) (by omega)
  · intro h j hj
    refine (orf_bit g 8 j).mpr (fun i hi => ?_)
    have := h (64 * i + j) (by omega)
    unfold bq at this
    rw [show (64 * i + j) / 64 = i by omega, show (64 * i + j) % 64 = j by omega] at this
    exact this

set_option maxHeartbeats 4000000 in
set_option maxRecDepth 100000 in
theorem l_isEmpty {G : fm_G} {X : fm_X} {fr lo mc ms kc ks a p : Nat} {M : fm_M} {g : Nat → Int64} (C : GC G X RX0 cX0_isEmpty 4 fr lo mc ms) (hc : M a = some (fm_O 0 [.ref p])) (hp : M p = some (fm_L G 8 g)) (kk : GW G X 4 M kc ks 25 [(0, .ref a), (1, .long (orf g 8)), (3, .int (nI 8))] []) : ∀ d i, i + d = 8 → GW G X 4 M kc ks 4 [(0, .ref a), (1, .long (orf g i)), (3, .int (nI i))] [] := by
  intro d
  induction d with
  | zero =>
    intro i hi
    have e : i = 8 := by omega
    subst e
    refine g_iload_n C dX0_isEmpty_4 rfl ?_
    refine g_bipush C dX0_isEmpty_5 (v := nI 8) rfl ?_
    refine g_icmp_geN C dX0_isEmpty_7 (tgt := 25) (by decide) (by decide) (by decide) (fun hb => ?_) (fun hb => absurd hb (by omega))
    exact kk
  | succ d ih =>
    intro i hi
    refine g_iload_n C dX0_isEmpty_4 rfl ?_
    refine g_bipush C dX0_isEmpty_5 (v := nI 8) rfl ?_
    refine g_icmp_geN C dX0_isEmpty_7 (tgt := 25) (by decide) (by omega) (by decide) (fun hb => absurd hb (by omega)) (fun hb => ?_)
    refine g_lload_n C dX0_isEmpty_10 rfl ?_
    refine g_aload_n C dX0_isEmpty_11 rfl ?_
    refine g_getf C fl_X0_11 dX0_isEmpty_12 hc rfl ?_
    refine g_iload_n C dX0_isEmpty_15 rfl ?_
    refine g_laldN C dX0_isEmpty_16 hp hb (by decide) ?_
    refine g_lor C dX0_isEmpty_17 ?_
    refine g_lstore_n C dX0_isEmpty_18 (by decide) ?_
    refine g_inc1 C dX0_isEmpty_19 rfl (by decide) ?_
    refine g_goto C dX0_isEmpty_22 (tgt := 4) (by decide) ?_
    exact ih (i + 1) (by omega)

set_option maxHeartbeats 4000000 in
set_option maxRecDepth 100000 in
theorem c_isEmpty (G : fm_G) (a p : Nat) (M : fm_M) (g : Nat → Int64) (hc : M a = some (fm_O 0 [.ref p])) (hp : M p = some (fm_L G 8 g)) : fm_Ct G yX0_isEmpty cX0_isEmpty 4 (some .boolean) 0 0 0 0 [.ref a] M (fun v M1 => v = some (.int (bI (empq g))) ∧ M1 = M) := by
  refine fm_head (by decide) (Nat.le_of_ble_eq_true rfl) rfl (fun X C N0 rt => ?_)
  refine g_lconst C dX0_isEmpty_0 (v := 0) rfl ?_
  refine g_lstore_n C dX0_isEmpty_1 (by decide) ?_
  refine g_iconst C dX0_isEmpty_2 (v := nI 0) rfl ?_
  refine g_istore_n C dX0_isEmpty_3 (by decide) ?_
  refine l_isEmpty C hc hp ?_ 8 0 (by decide)
  refine g_lload_n C dX0_isEmpty_25 rfl ?_
  refine g_lconst C dX0_isEmpty_26 (v := 0) rfl ?_
  refine g_lcmp C dX0_isEmpty_27 ?_
  refine g_if_ne C dX0_isEmpty_28 (tgt := 35) (by decide) (fun hb => ?_) (fun hb => ?_)
  · have e : empq g = false := decide_eq_false (fun z => hb ((fm_cmp0 _).mpr z))
    refine g_iconst C dX0_isEmpty_35 (v := nI 0) rfl ?_
    exact rt (some (.int (nI 0))) M _ _ _ _ (fm_retZ (Or.inl rfl) dX0_isEmpty_36) ⟨by rw [e]; rfl, rfl⟩ (Nat.le_refl _) (Nat.le_refl _)
  · have e : empq g = true := decide_eq_true ((fm_cmp0 _).mp hb)
    refine g_iconst C dX0_isEmpty_31 (v := nI 1) rfl ?_
    refine g_goto C dX0_isEmpty_32 (tgt := 36) (by decide) ?_
    exact rt (some (.int (nI 1))) M _ _ _ _ (fm_retZ (Or.inr rfl) dX0_isEmpty_36) ⟨by rw [e]; rfl, rfl⟩ (Nat.le_refl _) (Nat.le_refl _)

set_option maxHeartbeats 4000000 in
set_option maxRecDepth 100000 in
theorem c_become (G : fm_G) (a p : Nat) (M : fm_M) (g : Nat → Int64) (hc : M a = some (fm_O 0 [.ref p])) (hp : M p = some (fm_L G 8 g)) (b q : Nat) (o : Nat → Int64) (hcb : M b = some (fm_O 0 [.ref q])) (hq : M q = some (fm_L G 8 o)) : fm_Ct G yX0_become cX0_become 2 none 1 30 0 0 [.ref a, .ref b] M (fun v M1 => v = none ∧ M1 = fm_set M p (fm_L G 8 (va_cpy o g 0 0 8))) := by
  refine fm_head (by decide) (Nat.le_of_ble_eq_true rfl) rfl (fun X C N0 rt => ?_)
  refine g_aload_n C dX0_become_0 rfl ?_
  refine g_getf C fl_X0_11 dX0_become_1 hcb rfl ?_
  refine g_iconst C dX0_become_4 (v := nI 0) rfl ?_
  refine g_aload_n C dX0_become_5 rfl ?_
  refine g_getf C fl_X0_11 dX0_become_6 hc rfl ?_
  refine g_iconst C dX0_become_9 (v := nI 0) rfl ?_
  refine g_bipush C dX0_become_10 (v := nI 8) rfl ?_
  refine g_copyL C cw_X0_31 dX0_become_12 hq hp (by decide) (by decide) (by decide) (by decide) (by decide) ?_
  exact rt none _ _ _ _ _ (fm_retV dX0_become_15) ⟨rfl, rfl⟩ (by decide) (by decide)
theorem bq_cpy (o g : Nat → Int64) (c : Nat) (h : c < 512) : bq (va_cpy o g 0 0 8) c = bq o c := by
  unfold bq
  rw [pk_cpy_in (Nat.zero_le _) (by omega)]
  simp

def zipf (op : Int64 → Int64 → Int64) (i : Nat) (g o : Nat → Int64) : Nat → Int64 := fun j => if j < i then op (g j) (o j) else g j
theorem zipf_0 (op : Int64 → Int64 → Int64) (g o : Nat → Int64) : zipf op 0 g o = g := by funext j; simp [zipf]
theorem zipf_at (op : Int64 → Int64 → Int64) (i : Nat) (g o : Nat → Int64) : zipf op i g o i = g i := if_neg (Nat.lt_irrefl i)
theorem zipf_s (op : Int64 → Int64 → Int64) (i : Nat) (g o : Nat → Int64) : vp_updL (zipf op i g o) i (op (g i) (o i)) = zipf op (i + 1) g o := by
  funext j
  unfold vp_updL zipf
  by_cases h : j = i
  · subst h; rw [if_pos rfl, if_pos (by omega)]
  · rw [if_neg h]
    by_cases h2 : j < i
    · rw [if_pos h2, if_pos (by omega)]
    · rw [if_neg h2, if_neg (by omega)]
abbrev orL : Int64 → Int64 → Int64 := fun x y => x ||| y
abbrev anL : Int64 → Int64 → Int64 := fun x y => x &&& (y ^^^ (-1))
theorem bq_or (g o : Nat → Int64) (c : Nat) (h : c < 512) : bq (zipf orL 8 g o) c = (bq g c || bq o c) := by
  unfold bq zipf
  rw [if_pos (by omega), b_or]
theorem bq_an (g o : Nat → Int64) (c : Nat) (h : c < 512) : bq (zipf anL 8 g o) c = (bq g c && !(bq o c)) := by
  unfold bq zipf
  rw [if_pos (by omega), b_andn _ _ (by omega)]

set_option maxHeartbeats 4000000 in
set_option maxRecDepth 100000 in
theorem l_addAll {G : fm_G} {X : fm_X} {fr lo mc ms kc ks a p : Nat} {M : fm_M} {g : Nat → Int64} {b q : Nat} {o : Nat → Int64} (C : GC G X RX0 cX0_addAll 3 fr lo mc ms) (hc : M a = some (fm_O 0 [.ref p])) (hp : M p = some (fm_L G 8 g)) (hcb : M b = some (fm_O 0 [.ref q])) (hq : M q = some (fm_L G 8 o)) (hpq : q ≠ p) (kk : ∀ ls, GW G X 3 (fm_set M p (fm_L G 8 (zipf orL 8 g o))) kc ks 29 ls []) : ∀ d i, i + d = 8 → GW G X 3 (fm_set M p (fm_L G 8 (zipf orL i g o))) kc ks 2 [(0, .ref a), (1, .ref b), (2, .int (nI i))] [] := by
  have ha : a ≠ p := fm_ne hc hp (fun h => nomatch h)
  have hb0 : b ≠ p := fm_ne hcb hp (fun h => nomatch h)
  intro d
  induction d with
  | zero =>
    intro i hi
    have e : i = 8 := by omega
    subst e
    refine g_iload_n C dX0_addAll_2 rfl ?_
    refine g_bipush C dX0_addAll_3 (v := nI 8) rfl ?_
    refine g_icmp_geN C dX0_addAll_5 (tgt := 29) (by decide) (by decide) (by decide) (fun hb => ?_) (fun hb => absurd hb (by omega))
    exact kk _
  | succ d ih =>
    intro i hi
    refine g_iload_n C dX0_addAll_2 rfl ?_
    refine g_bipush C dX0_addAll_3 (v := nI 8) rfl ?_
    refine g_icmp_geN C dX0_addAll_5 (tgt := 29) (by decide) (by omega) (by decide) (fun hb => absurd hb (by omega)) (fun hb => ?_)
    refine g_aload_n C dX0_addAll_8 rfl ?_
    refine g_getf C fl_X0_11 dX0_addAll_9 (fm_o hc ha) rfl ?_
    refine g_iload_n C dX0_addAll_12 rfl ?_
    refine g_dup2 C dX0_addAll_13 rfl rfl ?_
    refine g_laldN C dX0_addAll_14 (fm_set_eq _ _ _) hb (by decide) ?_
    refine g_aload_n C dX0_addAll_15 rfl ?_
    refine g_getf C fl_X0_11 dX0_addAll_16 (fm_o hcb hb0) rfl ?_
    refine g_iload_n C dX0_addAll_19 rfl ?_
    refine g_laldN C dX0_addAll_20 (fm_o hq hpq) hb (by decide) ?_
    refine g_lor C dX0_addAll_21 ?_
    refine g_lastN C dX0_addAll_22 (fm_set_eq _ _ _) hb (by decide) ?_
    refine g_inc1 C dX0_addAll_23 rfl (by decide) ?_
    refine g_goto C dX0_addAll_26 (tgt := 2) (by decide) ?_
    rw [fm_set_set, zipf_at, show vp_updL (zipf orL i g o) i (orL (g i) (o i)) = zipf orL (i + 1) g o from zipf_s orL i g o]
    exact ih (i + 1) (by omega)

set_option maxHeartbeats 4000000 in
set_option maxRecDepth 100000 in
theorem c_addAll (G : fm_G) (a p : Nat) (M : fm_M) (g : Nat → Int64) (hc : M a = some (fm_O 0 [.ref p])) (hp : M p = some (fm_L G 8 g)) (b q : Nat) (o : Nat → Int64) (hcb : M b = some (fm_O 0 [.ref q])) (hq : M q = some (fm_L G 8 o)) (hpq : q ≠ p) : fm_Ct G yX0_addAll cX0_addAll 3 none 0 0 0 0 [.ref a, .ref b] M (fun v M1 => v = none ∧ M1 = fm_set M p (fm_L G 8 (zipf orL 8 g o))) := by
  refine fm_head (by decide) (Nat.le_of_ble_eq_true rfl) rfl (fun X C N0 rt => ?_)
  refine g_iconst C dX0_addAll_0 (v := nI 0) rfl ?_
  refine g_istore_n C dX0_addAll_1 (by decide) ?_
  have e0 : M = fm_set M p (fm_L G 8 (zipf orL 0 g o)) := by rw [zipf_0, fm_set_id hp]
  refine g_mem e0 ?_
  exact l_addAll C hc hp hcb hq hpq (fun ls => rt none _ _ _ _ ls (fm_retV dX0_addAll_29) ⟨rfl, rfl⟩ (Nat.le_refl _) (Nat.le_refl _)) 8 0 (by decide)

set_option maxHeartbeats 4000000 in
set_option maxRecDepth 100000 in
theorem l_removeAll {G : fm_G} {X : fm_X} {fr lo mc ms kc ks a p : Nat} {M : fm_M} {g : Nat → Int64} {b q : Nat} {o : Nat → Int64} (C : GC G X RX0 cX0_removeAll 3 fr lo mc ms) (hc : M a = some (fm_O 0 [.ref p])) (hp : M p = some (fm_L G 8 g)) (hcb : M b = some (fm_O 0 [.ref q])) (hq : M q = some (fm_L G 8 o)) (hpq : q ≠ p) (kk : ∀ ls, GW G X 3 (fm_set M p (fm_L G 8 (zipf anL 8 g o))) kc ks 33 ls []) : ∀ d i, i + d = 8 → GW G X 3 (fm_set M p (fm_L G 8 (zipf anL i g o))) kc ks 2 [(0, .ref a), (1, .ref b), (2, .int (nI i))] [] := by
  have ha : a ≠ p := fm_ne hc hp (fun h => nomatch h)
  have hb0 : b ≠ p := fm_ne hcb hp (fun h => nomatch h)
  intro d
  induction d with
  | zero =>
    intro i hi
    have e : i = 8 := by omega
    subst e
    refine g_iload_n C dX0_removeAll_2 rfl ?_
    refine g_bipush C dX0_removeAll_3 (v := nI 8) rfl ?_
    refine g_icmp_geN C dX0_removeAll_5 (tgt := 33) (by decide) (by decide) (by decide) (fun hb => ?_) (fun hb => absurd hb (by omega))
    exact kk _
  | succ d ih =>
    intro i hi
    refine g_iload_n C dX0_removeAll_2 rfl ?_
    refine g_bipush C dX0_removeAll_3 (v := nI 8) rfl ?_
    refine g_icmp_geN C dX0_removeAll_5 (tgt := 33) (by decide) (by omega) (by decide) (fun hb => absurd hb (by omega)) (fun hb => ?_)
    refine g_aload_n C dX0_removeAll_8 rfl ?_
    refine g_getf C fl_X0_11 dX0_removeAll_9 (fm_o hc ha) rfl ?_
    refine g_iload_n C dX0_removeAll_12 rfl ?_
    refine g_dup2 C dX0_removeAll_13 rfl rfl ?_
    refine g_laldN C dX0_removeAll_14 (fm_set_eq _ _ _) hb (by decide) ?_
    refine g_aload_n C dX0_removeAll_15 rfl ?_
    refine g_getf C fl_X0_11 dX0_removeAll_16 (fm_o hcb hb0) rfl ?_
    refine g_iload_n C dX0_removeAll_19 rfl ?_
    refine g_laldN C dX0_removeAll_20 (fm_o hq hpq) hb (by decide) ?_
    refine g_ldc2 C dX0_removeAll_21 kc_X0_37 ?_
    refine g_lxor C dX0_removeAll_24 ?_
    refine g_land C dX0_removeAll_25 ?_
    refine g_lastN C dX0_removeAll_26 (fm_set_eq _ _ _) hb (by decide) ?_
    refine g_inc1 C dX0_removeAll_27 rfl (by decide) ?_
    refine g_goto C dX0_removeAll_30 (tgt := 2) (by decide) ?_
    rw [fm_set_set, zipf_at, show vp_updL (zipf anL i g o) i (anL (g i) (o i)) = zipf anL (i + 1) g o from zipf_s anL i g o]
    exact ih (i + 1) (by omega)

set_option maxHeartbeats 4000000 in
set_option maxRecDepth 100000 in
theorem c_removeAll (G : fm_G) (a p : Nat) (M : fm_M) (g : Nat → Int64) (hc : M a = some (fm_O 0 [.ref p])) (hp : M p = some (fm_L G 8 g)) (b q : Nat) (o : Nat → Int64) (hcb : M b = some (fm_O 0 [.ref q])) (hq : M q = some (fm_L G 8 o)) (hpq : q ≠ p) : fm_Ct G yX0_removeAll cX0_removeAll 3 none 0 0 0 0 [.ref a, .ref b] M (fun v M1 => v = none ∧ M1 = fm_set M p (fm_L G 8 (zipf anL 8 g o))) := by
  refine fm_head (by decide) (Nat.le_of_ble_eq_true rfl) rfl (fun X C N0 rt => ?_)
  refine g_iconst C dX0_removeAll_0 (v := nI 0) rfl ?_
  refine g_istore_n C dX0_removeAll_1 (by decide) ?_
  have e0 : M = fm_set M p (fm_L G 8 (zipf anL 0 g o)) := by rw [zipf_0, fm_set_id hp]
  refine g_mem e0 ?_
  exact l_removeAll C hc hp hcb hq hpq (fun ls => rt none _ _ _ _ ls (fm_retV dX0_removeAll_33) ⟨rfl, rfl⟩ (Nat.le_refl _) (Nat.le_refl _)) 8 0 (by decide)
