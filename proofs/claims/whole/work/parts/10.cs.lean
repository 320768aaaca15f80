/-! THE SETS OF COUNTS, and what they call of the JDK -/
theorem fm_set_set (M : fm_M) (a : Nat) (e e' : va_E) : fm_set (fm_set M a e) a e' = fm_set M a e' := by
  funext q
  unfold fm_set
  by_cases h : q = a
  · rw [if_pos h, if_pos h]
  · rw [if_neg h, if_neg h, if_neg h]
theorem fm_set_id {M : fm_M} {a : Nat} {e : va_E} (h : M a = some e) : fm_set M a e = M := by
  funext q
  unfold fm_set
  by_cases hq : q = a
  · rw [if_pos hq, hq, h]
  · rw [if_neg hq]
/-- the first n places hold x -/
def fillf {α : Type} (n : Nat) (x : α) (f : Nat → α) : Nat → α := fun j => if j < n then x else f j
theorem fillf_0 {α : Type} (x : α) (f : Nat → α) : fillf 0 x f = f := by funext j; simp [fillf]
theorem fillf_lt {α : Type} {n j : Nat} {x : α} {f : Nat → α} (h : j < n) : fillf n x f j = x := if_pos h
theorem fillf_sL (i : Nat) (x : Int64) (f : Nat → Int64) : vp_updL (fillf i x f) i x = fillf (i + 1) x f := by
  funext j
  unfold vp_updL fillf
  by_cases h : j = i
  · rw [if_pos h, if_pos (by omega)]
  · rw [if_neg h]
    by_cases h2 : j < i
    · rw [if_pos h2, if_pos (by omega)]
    · rw [if_neg h2, if_neg (by omega)]
theorem fillf_sI (i : Nat) (x : Int32) (f : Nat → Int32) : upd (fillf i x f) i x = fillf (i + 1) x f := by
  funext j
  unfold upd fillf
  by_cases h : j = i
  · rw [if_pos h, if_pos (by omega)]
  · rw [if_neg h]
    by_cases h2 : j < i
    · rw [if_pos h2, if_pos (by omega)]
    · rw [if_neg h2, if_neg (by omega)]

set_option maxHeartbeats 4000000 in
set_option maxRecDepth 100000 in
theorem l_fillL {G : fm_G} {X : fm_X} {fr lo mc ms kc ks p n : Nat} {M : fm_M} {f : Nat → Int64} {x : Int64} (C : GC G X RJ7 cJ7_fill_d0a16 5 fr lo mc ms) (hn : n < 2 ^ 31) (kk : ∀ ls, GW G X 5 (fm_set M p (fm_L G n (fillf n x f))) kc ks 22 ls []) : ∀ d i, i + d = n → GW G X 5 (fm_set M p (fm_L G n (fillf i x f))) kc ks 6 [(0, .ref p), (1, .long x), (3, .int (nI i)), (4, .int (nI n))] [] := by
  intro d
  induction d with
  | zero =>
    intro i hi
    have e : i = n := by omega
    subst e
    refine g_iload_n C dJ7_fill_d0a16_6 rfl ?_
    refine g_iload C dJ7_fill_d0a16_7 rfl ?_
    refine g_icmp_geN C dJ7_fill_d0a16_9 (tgt := 22) (by decide) hn hn (fun hb => ?_) (fun hb => absurd hb (by omega))
    exact kk _
  | succ d ih =>
    intro i hi
    refine g_iload_n C dJ7_fill_d0a16_6 rfl ?_
    refine g_iload C dJ7_fill_d0a16_7 rfl ?_
    refine g_icmp_geN C dJ7_fill_d0a16_9 (tgt := 22) (by decide) (by omega) hn (fun hb => absurd hb (by omega)) (fun hb => ?_)
    refine g_aload_n C dJ7_fill_d0a16_12 rfl ?_
    refine g_iload_n C dJ7_fill_d0a16_13 rfl ?_
    refine g_lload_n C dJ7_fill_d0a16_14 rfl ?_
    refine g_lastN C dJ7_fill_d0a16_15 (fm_set_eq _ _ _) hb hn ?_
    refine g_inc1 C dJ7_fill_d0a16_16 rfl (by decide) ?_
    refine g_goto C dJ7_fill_d0a16_19 (tgt := 6) (by decide) ?_
    rw [fm_set_set, fillf_sL]
    exact ih (i + 1) (by omega)

set_option maxHeartbeats 4000000 in
set_option maxRecDepth 100000 in
theorem c_fillL (G : fm_G) (p n : Nat) (M : fm_M) (f : Nat → Int64) (x : Int64) (hp : M p = some (fm_L G n f)) (hn : n < 2 ^ 31) : fm_Ct G yJ7_fill_d0a16 cJ7_fill_d0a16 5 none 0 0 0 0 [.ref p, .long x] M (fun v M1 => v = none ∧ M1 = fm_set M p (fm_L G n (fillf n x f))) := by
  refine fm_head (by decide) (Nat.le_of_ble_eq_true rfl) rfl (fun X C N0 rt => ?_)
  refine g_iconst C dJ7_fill_d0a16_0 (v := nI 0) rfl ?_
  refine g_istore_n C dJ7_fill_d0a16_1 (by decide) ?_
  refine g_aload_n C dJ7_fill_d0a16_2 rfl ?_
  refine g_alen C dJ7_fill_d0a16_3 hp rfl ?_
  refine g_istore C dJ7_fill_d0a16_4 (by decide) ?_
  have e0 : M = fm_set M p (fm_L G n (fillf 0 x f)) := by rw [fillf_0, fm_set_id hp]
  refine g_mem e0 ?_
  exact l_fillL C hn (fun ls => rt none _ _ _ _ ls (fm_retV dJ7_fill_d0a16_22) ⟨rfl, rfl⟩ (Nat.le_refl _) (Nat.le_refl _)) n 0 (by omega)

set_option maxHeartbeats 4000000 in
set_option maxRecDepth 100000 in
theorem l_fillI {G : fm_G} {X : fm_X} {fr lo mc ms kc ks p n : Nat} {M : fm_M} {f : Nat → Int32} {x : Int32} (C : GC G X RJ7 cJ7_fill_53178 4 fr lo mc ms) (hn : n < 2 ^ 31) (kk : ∀ ls, GW G X 4 (fm_set M p (fm_I G n (fillf n x f))) kc ks 20 ls []) : ∀ d i, i + d = n → GW G X 4 (fm_set M p (fm_I G n (fillf i x f))) kc ks 5 [(0, .ref p), (1, .int x), (2, .int (nI i)), (3, .int (nI n))] [] := by
  intro d
  induction d with
  | zero =>
    intro i hi
    have e : i = n := by omega
    subst e
    refine g_iload_n C dJ7_fill_53178_5 rfl ?_
    refine g_iload_n C dJ7_fill_53178_6 rfl ?_
    refine g_icmp_geN C dJ7_fill_53178_7 (tgt := 20) (by decide) hn hn (fun hb => ?_) (fun hb => absurd hb (by omega))
    exact kk _
  | succ d ih =>
    intro i hi
    refine g_iload_n C dJ7_fill_53178_5 rfl ?_
    refine g_iload_n C dJ7_fill_53178_6 rfl ?_
    refine g_icmp_geN C dJ7_fill_53178_7 (tgt := 20) (by decide) (by omega) hn (fun hb => absurd hb (by omega)) (fun hb => ?_)
    refine g_aload_n C dJ7_fill_53178_10 rfl ?_
    refine g_iload_n C dJ7_fill_53178_11 rfl ?_
    refine g_iload_n C dJ7_fill_53178_12 rfl ?_
    refine g_iastN C dJ7_fill_53178_13 (fm_set_eq _ _ _) hb hn ?_
    refine g_inc1 C dJ7_fill_53178_14 rfl (by decide) ?_
    refine g_goto C dJ7_fill_53178_17 (tgt := 5) (by decide) ?_
    rw [fm_set_set, fillf_sI]
    exact ih (i + 1) (by omega)

set_option maxHeartbeats 4000000 in
set_option maxRecDepth 100000 in
theorem c_fillI (G : fm_G) (p n : Nat) (M : fm_M) (f : Nat → Int32) (x : Int32) (hp : M p = some (fm_I G n f)) (hn : n < 2 ^ 31) : fm_Ct G yJ7_fill_53178 cJ7_fill_53178 4 none 0 0 0 0 [.ref p, .int x] M (fun v M1 => v = none ∧ M1 = fm_set M p (fm_I G n (fillf n x f))) := by
  refine fm_head (by decide) (Nat.le_of_ble_eq_true rfl) rfl (fun X C N0 rt => ?_)
  refine g_iconst C dJ7_fill_53178_0 (v := nI 0) rfl ?_
  refine g_istore_n C dJ7_fill_53178_1 (by decide) ?_
  refine g_aload_n C dJ7_fill_53178_2 rfl ?_
  refine g_alen C dJ7_fill_53178_3 hp rfl ?_
  refine g_istore_n C dJ7_fill_53178_4 (by decide) ?_
  have e0 : M = fm_set M p (fm_I G n (fillf 0 x f)) := by rw [fillf_0, fm_set_id hp]
  refine g_mem e0 ?_
  exact l_fillI C hn (fun ls => rt none _ _ _ _ ls (fm_retV dJ7_fill_53178_20) ⟨rfl, rfl⟩ (Nat.le_refl _) (Nat.le_refl _)) n 0 (by omega)

set_option maxHeartbeats 4000000 in
set_option maxRecDepth 100000 in
theorem c_holds (G : fm_G) (a p : Nat) (M : fm_M) (g : Nat → Int64) (hc : M a = some (fm_O 0 [.ref p])) (hp : M p = some (fm_L G 8 g)) (c : Nat) (h : c < 512) : fm_Ct G yX0_holds cX0_holds 2 (some .boolean) 0 0 0 0 [.ref a, .int (nI c)] M (fun v M1 => v = some (.int (bI (bq g c))) ∧ M1 = M) := by
  refine fm_head (by decide) (Nat.le_of_ble_eq_true rfl) rfl (fun X C N0 rt => ?_)
  refine g_aload_n C dX0_holds_0 rfl ?_
  refine g_getf C fl_X0_11 dX0_holds_1 hc rfl ?_
  refine g_iload_n C dX0_holds_4 rfl ?_
  refine g_bipush C dX0_holds_5 (v := nI 6) rfl ?_
  refine g_ishr C dX0_holds_7 ?_
  refine g_topI (b_sh6 h) ?_
  refine g_laldN C dX0_holds_8 hp (by omega) (by decide) ?_
  refine g_iload_n C dX0_holds_9 rfl ?_
  refine g_bipush C dX0_holds_10 (v := nI 63) rfl ?_
  refine g_iand C dX0_holds_12 ?_
  refine g_topI (b_an63 h) ?_
  refine g_lushr C dX0_holds_13 ?_
  refine g_lconst C dX0_holds_14 (v := 1) rfl ?_
  refine g_land C dX0_holds_15 ?_
  refine g_lconst C dX0_holds_16 (v := 0) rfl ?_
  refine g_lcmp C dX0_holds_17 ?_
  refine g_if_eq C dX0_holds_18 (tgt := 25) (by decide) (fun hb => ?_) (fun hb => ?_)
  · have e : bq g c = false := (b_get _ (by omega)).mp ((fm_cmp0 _).mp hb)
    refine g_iconst C dX0_holds_25 (v := nI 0) rfl ?_
    exact rt (some (.int (nI 0))) M _ _ _ _ (fm_retZ (Or.inl rfl) dX0_holds_26) ⟨by rw [e]; rfl, rfl⟩ (Nat.le_refl _) (Nat.le_refl _)
  · have e : bq g c = true := by
      cases h9 : bq g c with
      | true => rfl
      | false => exact absurd ((fm_cmp0 _).mpr ((b_get _ (by omega)).mpr h9)) hb
    refine g_iconst C dX0_holds_21 (v := nI 1) rfl ?_
    refine g_goto C dX0_holds_22 (tgt := 26) (by decide) ?_
    exact rt (some (.int (nI 1))) M _ _ _ _ (fm_retZ (Or.inr rfl) dX0_holds_26) ⟨by rw [e]; rfl, rfl⟩ (Nat.le_refl _) (Nat.le_refl _)

/-- one count more -/
def addf (g : Nat → Int64) (c : Nat) : Nat → Int64 := vp_updL g (c / 64) (g (c / 64) ||| ((1 : Int64) <<< ((nI (c % 64)).toInt64 &&& 63)))
theorem bq_addf (g : Nat → Int64) (c : Nat) (d : Nat) : bq (addf g c) d = (bq g d || decide (d = c)) := by
  unfold bq addf vp_updL
  by_cases h : d / 64 = c / 64
  · rw [if_pos h, b_bit _ (by omega) (by omega), ← h]
    congr 1
    by_cases h2 : d = c
    · simp [h2]
    · have h3 : ¬ d % 64 = c % 64 := by omega
      simp [h2, h3]
  · rw [if_neg h]
    have h2 : ¬ d = c := fun e => h (by rw [e])
    simp [h2]

set_option maxHeartbeats 4000000 in
set_option maxRecDepth 100000 in
theorem c_add (G : fm_G) (a p : Nat) (M : fm_M) (g : Nat → Int64) (hc : M a = some (fm_O 0 [.ref p])) (hp : M p = some (fm_L G 8 g)) (c : Nat) (h : c < 512) : fm_Ct G yX0_add cX0_add 2 none 0 0 0 0 [.ref a, .int (nI c)] M (fun v M1 => v = none ∧ M1 = fm_set M p (fm_L G 8 (addf g c))) := by
  refine fm_head (by decide) (Nat.le_of_ble_eq_true rfl) rfl (fun X C N0 rt => ?_)
  refine g_aload_n C dX0_add_0 rfl ?_
  refine g_getf C fl_X0_11 dX0_add_1 hc rfl ?_
  refine g_iload_n C dX0_add_4 rfl ?_
  refine g_bipush C dX0_add_5 (v := nI 6) rfl ?_
  refine g_ishr C dX0_add_7 ?_
  refine g_topI (b_sh6 h) ?_
  refine g_dup2 C dX0_add_8 rfl rfl ?_
  refine g_laldN C dX0_add_9 hp (by omega) (by decide) ?_
  refine g_lconst C dX0_add_10 (v := 1) rfl ?_
  refine g_iload_n C dX0_add_11 rfl ?_
  refine g_bipush C dX0_add_12 (v := nI 63) rfl ?_
  refine g_iand C dX0_add_14 ?_
  refine g_topI (b_an63 h) ?_
  refine g_lshl C dX0_add_15 ?_
  refine g_lor C dX0_add_16 ?_
  refine g_lastN C dX0_add_17 hp (by omega) (by decide) ?_
  exact rt none _ _ _ _ _ (fm_retV dX0_add_18) ⟨rfl, rfl⟩ (Nat.le_refl _) (Nat.le_refl _)
