/-! Long.bitCount; CountSet.size, at -/
def un (x : Int64) : Nat := x.toBitVec.toNat
theorem un_lt (x : Int64) : un x < 2 ^ 64 := x.toBitVec.isLt
theorem un_and (x y : Int64) : un (x &&& y) = un x &&& un y := by unfold un; rw [Int64.toBitVec_and, BitVec.toNat_and]
theorem un_add {x y : Int64} (h : un x + un y < 2 ^ 64) : un (x + y) = un x + un y := by
  unfold un at *
  rw [Int64.toBitVec_add, BitVec.toNat_add, Nat.mod_eq_of_lt h]
theorem un_sub {x y : Int64} (h : un y ≤ un x) : un (x - y) = un x - un y := by
  have h1 := un_lt x
  unfold un at *
  rw [Int64.toBitVec_sub, BitVec.toNat_sub, show 2 ^ 64 - y.toBitVec.toNat + x.toBitVec.toNat = 2 ^ 64 + (x.toBitVec.toNat - y.toBitVec.toNat) by have := y.toBitVec.isLt; omega, Nat.add_mod_left, Nat.mod_eq_of_lt (by omega)]
theorem un_shr (x : Int64) {k : Nat} (hk : k < 64) : un (x.toUInt64 >>> ((nI k).toInt64.toUInt64 &&& Int64.toUInt64 63)).toInt64 = un x / 2 ^ k := by
  rw [wb_cu k hk]
  show (x.toUInt64 >>> UInt64.ofNat k).toNat = _
  rw [UInt64.toNat_shiftRight, u_tn (show k < 2 ^ 64 by omega), Nat.mod_eq_of_lt hk, Nat.shiftRight_eq_div_pow]
  rfl
theorem un_m1 : un 6148914691236517205 = pc_m 0x55 8 := by decide +kernel
theorem un_m2 : un 3689348814741910323 = pc_m 0x33 8 := by decide +kernel
theorem un_m4 : un 1085102592571150095 = pc_m 0x0f 8 := by decide +kernel
theorem un_127 (x : Int64) : x.toInt32 &&& nI 127 = nI (un x % 128) := by
  rw [pk_and x.toInt32 7 (by decide)]
  congr 1
  rw [Int64.toBitVec_toInt32, BitVec.signExtend_eq_setWidth_of_le _ (by decide), BitVec.toNat_setWidth]
  show x.toBitVec.toNat % 2 ^ 32 % 2 ^ 7 = un x % 128
  unfold un
  omega
theorem un_1 {x : Int64} : un (x - ((x.toUInt64 >>> ((nI 1).toInt64.toUInt64 &&& Int64.toUInt64 63)).toInt64 &&& 6148914691236517205)) = pc1 8 (un x) := by
  have h : un ((x.toUInt64 >>> ((nI 1).toInt64.toUInt64 &&& Int64.toUInt64 63)).toInt64 &&& 6148914691236517205) = (un x / 2) &&& pc_m 0x55 8 := by rw [un_and, un_shr x (by decide), un_m1]
  rw [un_sub (by rw [h]; exact Nat.le_trans Nat.and_le_left (Nat.div_le_self _ _)), h]
  rfl
theorem un_2 {x : Int64} : un ((x &&& 3689348814741910323) + ((x.toUInt64 >>> ((nI 2).toInt64.toUInt64 &&& Int64.toUInt64 63)).toInt64 &&& 3689348814741910323)) = pc2 8 (un x) := by
  have h1 : un (x &&& 3689348814741910323) = un x &&& pc_m 0x33 8 := by rw [un_and, un_m2]
  have h2 : un ((x.toUInt64 >>> ((nI 2).toInt64.toUInt64 &&& Int64.toUInt64 63)).toInt64 &&& 3689348814741910323) = (un x / 4) &&& pc_m 0x33 8 := by rw [un_and, un_shr x (by decide), un_m2]
  have l1 : un x &&& pc_m 0x33 8 ≤ pc_m 0x33 8 := Nat.and_le_right
  have l2 : (un x / 4) &&& pc_m 0x33 8 ≤ pc_m 0x33 8 := Nat.and_le_right
  have l3 : pc_m 0x33 8 + pc_m 0x33 8 < 2 ^ 64 := by decide +kernel
  rw [un_add (by rw [h1, h2]; exact Nat.lt_of_le_of_lt (Nat.add_le_add l1 l2) l3), h1, h2]
  rfl
theorem pc2_le (n : Nat) : pc2 8 n ≤ 2 * pc_m 0x33 8 := by
  have l1 : n &&& pc_m 0x33 8 ≤ pc_m 0x33 8 := Nat.and_le_right
  have l2 : (n / 4) &&& pc_m 0x33 8 ≤ pc_m 0x33 8 := Nat.and_le_right
  unfold pc2
  omega
theorem un_3 {x : Int64} {n : Nat} (h : un x = pc2 8 n) : un ((x + (x.toUInt64 >>> ((nI 4).toInt64.toUInt64 &&& Int64.toUInt64 63)).toInt64) &&& 1085102592571150095) = pc3 8 (pc2 8 n) := by
  have h2 := pc2_le n
  have l3 : 2 * pc_m 0x33 8 + 2 * pc_m 0x33 8 / 16 < 2 ^ 64 := by decide +kernel
  have h4 : pc2 8 n / 16 ≤ 2 * pc_m 0x33 8 / 16 := Nat.div_le_div_right h2
  rw [un_and, un_add (by rw [un_shr x (by decide), h]; show pc2 8 n + pc2 8 n / 16 < 2 ^ 64; omega), un_shr x (by decide), h, un_m4]
  rfl
theorem un_4 {x : Int64} {k n : Nat} (hk : k < 64) (hk0 : 0 < k) (h : un x = n) (hn : n < 2 ^ 62) : un (x + (x.toUInt64 >>> ((nI k).toInt64.toUInt64 &&& Int64.toUInt64 63)).toInt64) = n + n / 2 ^ k := by
  have : n / 2 ^ k ≤ n := Nat.div_le_self _ _
  rw [un_add (by rw [un_shr x hk, h]; omega), un_shr x hk, h]
/-- the bits that x has -/
def bitsL (x : Int64) : Nat := cntq (fun j => x.toBitVec.getLsbD j) 64
theorem bitsL_le (x : Int64) : bitsL x ≤ 64 := cntq_le _ _

set_option maxHeartbeats 4000000 in
set_option maxRecDepth 100000 in
theorem c_bitCount (G : fm_G) (M : fm_M) (x : Int64) : fm_Ct G yJ13_bitCount_95d88 cJ13_bitCount_95d88 2 (some .int) 0 0 0 0 [.long x] M (fun v M1 => v = some (.int (nI (bitsL x))) ∧ M1 = M) := by
  refine fm_head (by decide) (Nat.le_of_ble_eq_true rfl) rfl (fun X C N0 rt => ?_)
  refine g_lload_n C dJ13_bitCount_95d88_0 rfl ?_
  refine g_lload_n C dJ13_bitCount_95d88_1 rfl ?_
  refine g_iconst C dJ13_bitCount_95d88_2 (v := nI 1) rfl ?_
  refine g_lushr C dJ13_bitCount_95d88_3 ?_
  refine g_ldc2 C dJ13_bitCount_95d88_4 kc_J13_314 ?_
  refine g_land C dJ13_bitCount_95d88_7 ?_
  refine g_lsub C dJ13_bitCount_95d88_8 ?_
  refine g_lstore_n C dJ13_bitCount_95d88_9 (by decide) ?_
  refine g_lload_n C dJ13_bitCount_95d88_10 rfl ?_
  refine g_ldc2 C dJ13_bitCount_95d88_11 kc_J13_316 ?_
  refine g_land C dJ13_bitCount_95d88_14 ?_
  refine g_lload_n C dJ13_bitCount_95d88_15 rfl ?_
  refine g_iconst C dJ13_bitCount_95d88_16 (v := nI 2) rfl ?_
  refine g_lushr C dJ13_bitCount_95d88_17 ?_
  refine g_ldc2 C dJ13_bitCount_95d88_18 kc_J13_316 ?_
  refine g_land C dJ13_bitCount_95d88_21 ?_
  refine g_ladd C dJ13_bitCount_95d88_22 ?_
  refine g_lstore_n C dJ13_bitCount_95d88_23 (by decide) ?_
  refine g_lload_n C dJ13_bitCount_95d88_24 rfl ?_
  refine g_lload_n C dJ13_bitCount_95d88_25 rfl ?_
  refine g_iconst C dJ13_bitCount_95d88_26 (v := nI 4) rfl ?_
  refine g_lushr C dJ13_bitCount_95d88_27 ?_
  refine g_ladd C dJ13_bitCount_95d88_28 ?_
  refine g_ldc2 C dJ13_bitCount_95d88_29 kc_J13_318 ?_
  refine g_land C dJ13_bitCount_95d88_32 ?_
  refine g_lstore_n C dJ13_bitCount_95d88_33 (by decide) ?_
  refine g_lload_n C dJ13_bitCount_95d88_34 rfl ?_
  refine g_lload_n C dJ13_bitCount_95d88_35 rfl ?_
  refine g_bipush C dJ13_bitCount_95d88_36 (v := nI 8) rfl ?_
  refine g_lushr C dJ13_bitCount_95d88_38 ?_
  refine g_ladd C dJ13_bitCount_95d88_39 ?_
  refine g_lstore_n C dJ13_bitCount_95d88_40 (by decide) ?_
  refine g_lload_n C dJ13_bitCount_95d88_41 rfl ?_
  refine g_lload_n C dJ13_bitCount_95d88_42 rfl ?_
  refine g_bipush C dJ13_bitCount_95d88_43 (v := nI 16) rfl ?_
  refine g_lushr C dJ13_bitCount_95d88_45 ?_
  refine g_ladd C dJ13_bitCount_95d88_46 ?_
  refine g_lstore_n C dJ13_bitCount_95d88_47 (by decide) ?_
  refine g_lload_n C dJ13_bitCount_95d88_48 rfl ?_
  refine g_lload_n C dJ13_bitCount_95d88_49 rfl ?_
  refine g_bipush C dJ13_bitCount_95d88_50 (v := nI 32) rfl ?_
  refine g_lushr C dJ13_bitCount_95d88_52 ?_
  refine g_ladd C dJ13_bitCount_95d88_53 ?_
  refine g_lstore_n C dJ13_bitCount_95d88_54 (by decide) ?_
  refine g_lload_n C dJ13_bitCount_95d88_55 rfl ?_
  refine g_l2i C dJ13_bitCount_95d88_56 ?_
  refine g_bipush C dJ13_bitCount_95d88_57 (v := nI 127) rfl ?_
  refine g_iand C dJ13_bitCount_95d88_59 ?_
  refine rt (some (.int _)) M _ _ _ _ (fm_retI dJ13_bitCount_95d88_60) ⟨?_, rfl⟩ (Nat.le_refl _) (Nat.le_refl _)
  rw [un_127]
  congr 3
  have h3 := un_3 (x := _) (n := pc1 8 (un x)) (un_2.trans (congrArg (pc2 8) un_1))
  have hz := pcZ_ok (un x) (un_lt x)
  have hb : pcF 8 (un x) < 2 ^ 60 := hz.2
  have b1 : pcF 8 (un x) / 2 ^ 8 ≤ pcF 8 (un x) := Nat.div_le_self _ _
  have h4 := un_4 (k := 8) (by decide) (by decide) (show un _ = pcF 8 (un x) from h3) (by omega)
  have b2 : (pcF 8 (un x) + pcF 8 (un x) / 2 ^ 8) / 2 ^ 16 ≤ (pcF 8 (un x) + pcF 8 (un x) / 2 ^ 8) / 2 := Nat.div_le_div_left (by decide) (by decide)
  have h5 := un_4 (k := 16) (by decide) (by decide) h4 (by omega)
  have h6 := un_4 (k := 32) (by decide) (by decide) h5 (by omega)
  rw [h6]
  exact hz.1

/-- how many counts the set has -/
def cntg (g : Nat → Int64) : Nat := cntq (bq g) 512
theorem cnt_plane (g : Nat → Int64) (i : Nat) : cntq (bq g) (64 * (i + 1)) = cntq (bq g) (64 * i) + bitsL (g i) := by
  rw [show 64 * (i + 1) = 64 * i + 64 by omega, cntq_add]
  congr 1
  exact cntq_congr (fun j hj => bq_at g i j hj)

set_option maxHeartbeats 4000000 in
set_option maxRecDepth 100000 in
theorem l_size {G : fm_G} {X : fm_X} {fr lo mc ms a p : Nat} {M : fm_M} {g : Nat → Int64} (C : GC G X RX0 cX0_size 3 (fr + 1) (lo + 21) mc ms) (hc : M a = some (fm_O 0 [.ref p])) (hp : M p = some (fm_L G 8 g)) (kk : ∀ ls, fm_lk ls 1 = some (.int (nI (cntg g))) → GW G X 3 M 0 0 28 ls []) : ∀ d i, i + d = 8 → GW G X 3 M 0 0 4 [(0, .ref a), (1, .int (nI (cntq (bq g) (64 * i)))), (2, .int (nI i))] [] := by
  intro d
  induction d with
  | zero =>
    intro i hi
    have e : i = 8 := by omega
    subst e
    refine g_iload_n C dX0_size_4 rfl ?_
    refine g_bipush C dX0_size_5 (v := nI 8) rfl ?_
    refine g_icmp_geN C dX0_size_7 (tgt := 28) (by decide) (by decide) (by decide) (fun hb => ?_) (fun hb => absurd hb (by omega))
    exact kk _ rfl
  | succ d ih =>
    intro i hi
    refine g_iload_n C dX0_size_4 rfl ?_
    refine g_bipush C dX0_size_5 (v := nI 8) rfl ?_
    refine g_icmp_geN C dX0_size_7 (tgt := 28) (by decide) (by omega) (by decide) (fun hb => absurd hb (by omega)) (fun hb => ?_)
    refine g_iload_n C dX0_size_10 rfl ?_
    refine g_aload_n C dX0_size_11 rfl ?_
    refine g_getf C fl_X0_11 dX0_size_12 hc rfl ?_
    refine g_iload_n C dX0_size_15 rfl ?_
    refine g_laldN C dX0_size_16 hp hb (by decide) ?_
    refine g_callS C dX0_size_17 cw_X0_21 (c_bitCount G M (g i)) rfl rfl (Nat.le_of_ble_eq_true rfl) (by omega) (by omega) (by omega) (by omega) (fun v M1 hq => ?_)
    obtain ⟨rfl, rfl⟩ := hq
    show GW G X 3 _ 0 0 20 _ [.int (nI (bitsL (g i))), .int (nI (cntq (bq g) (64 * i)))]
    refine g_iadd C dX0_size_20 ?_
    refine g_topI ((nI_add _ _).trans (congrArg nI (cnt_plane g i).symm)) ?_
    refine g_istore_n C dX0_size_21 (by decide) ?_
    refine g_inc1 C dX0_size_22 rfl (by decide) ?_
    refine g_goto C dX0_size_25 (tgt := 4) (by decide) ?_
    exact ih (i + 1) (by omega)

set_option maxHeartbeats 4000000 in
set_option maxRecDepth 100000 in
theorem c_size (G : fm_G) (a p : Nat) (M : fm_M) (g : Nat → Int64) (hc : M a = some (fm_O 0 [.ref p])) (hp : M p = some (fm_L G 8 g)) : fm_Ct G yX0_size cX0_size 3 (some .int) 1 21 0 0 [.ref a] M (fun v M1 => v = some (.int (nI (cntg g))) ∧ M1 = M) := by
  refine fm_head (by decide) (Nat.le_of_ble_eq_true rfl) rfl (fun X C N0 rt => ?_)
  refine g_iconst C dX0_size_0 (v := nI 0) rfl ?_
  refine g_istore_n C dX0_size_1 (by decide) ?_
  refine g_iconst C dX0_size_2 (v := nI 0) rfl ?_
  refine g_istore_n C dX0_size_3 (by decide) ?_
  refine l_size (fr := 0) (lo := 0) C hc hp (fun ls h1 => ?_) 8 0 (by decide)
  refine g_iload_n C dX0_size_28 h1 ?_
  exact rt (some (.int _)) M _ _ _ _ (fm_retI dX0_size_29) ⟨rfl, rfl⟩ (Nat.le_refl _) (Nat.le_refl _)

set_option maxHeartbeats 4000000 in
set_option maxRecDepth 100000 in
theorem l_at {G : fm_G} {X : fm_X} {fr lo mc ms a p : Nat} {M : fm_M} {g : Nat → Int64} {k : Nat} (C : GC G X RX0 cX0_at 4 (fr + 1) (lo + 21) mc ms) (hc : M a = some (fm_O 0 [.ref p])) (hp : M p = some (fm_L G 8 g)) (hk : k < cntg g) (kk : ∀ c ls, c < 512 → bq g c = true → cntq (bq g) c = k → fm_lk ls 3 = some (.int (nI c)) → GW G X 4 M 0 0 24 ls []) : ∀ d i, i + d = 512 → cntq (bq g) i ≤ k → GW G X 4 M 0 0 4 [(0, .ref a), (1, .int (nI k)), (2, .int (nI (cntq (bq g) i))), (3, .int (nI i))] [] := by
  intro d
  induction d with
  | zero =>
    intro i hi hik
    have e : i = 512 := by omega
    subst e
    exact absurd hk (by unfold cntg; omega)
  | succ d ih =>
    intro i hi hik
    have hk5 : cntg g ≤ 512 := cntq_le _ _
    have hi5 : cntq (bq g) i ≤ i := cntq_le _ _
    refine g_iload_n C dX0_at_4 rfl ?_
    refine g_sipush C dX0_at_5 (v := nI 512) rfl ?_
    refine g_icmp_geN C dX0_at_8 (tgt := 35) (by decide) (by omega) (by decide) (fun hb => absurd hb (by omega)) (fun hb => ?_)
    refine g_aload_n C dX0_at_11 rfl ?_
    refine g_iload_n C dX0_at_12 rfl ?_
    refine g_callV (ci := 0) C dX0_at_13 cw_X0_27 rfl (c_holds G a p M g hc hp i hb) hc rfl rfl (Nat.le_of_ble_eq_true rfl) (by omega) (by omega) (by omega) (by omega) (fun v M1 hq => ?_)
    obtain ⟨rfl, rfl⟩ := hq
    show GW G X 4 _ 0 0 16 _ [.int (bI (bq g i))]
    refine g_if_eq C dX0_at_16 (tgt := 29) (by decide) (fun h0 => ?_) (fun h0 => ?_)
    · have e : cntq (bq g) (i + 1) = cntq (bq g) i := by
        show cntq (bq g) i + (if bq g i = true then 1 else 0) = _
        rw [bI_0.mp h0]; rfl
      refine g_inc1 C dX0_at_29 rfl (by decide) ?_
      refine g_goto C dX0_at_32 (tgt := 4) (by decide) ?_
      rw [← e]
      exact ih (i + 1) (by omega) (by omega)
    · have e : cntq (bq g) (i + 1) = cntq (bq g) i + 1 := by
        show cntq (bq g) i + (if bq g i = true then 1 else 0) = _
        rw [bI_n0.mp h0]; rfl
      refine g_iload_n C dX0_at_19 rfl ?_
      refine g_iload_n C dX0_at_20 rfl ?_
      refine g_icmp_neN C dX0_at_21 (tgt := 26) (by decide) (by omega) (by omega) (fun h1 => ?_) (fun h1 => ?_)
      · skip
        refine g_inc1 C dX0_at_26 rfl (by decide) ?_
        refine g_inc1 C dX0_at_29 rfl (by decide) ?_
        refine g_goto C dX0_at_32 (tgt := 4) (by decide) ?_
        rw [← e]
        exact ih (i + 1) (by omega) (by omega)
      · exact kk i _ hb (bI_n0.mp h0) h1 rfl

set_option maxHeartbeats 4000000 in
set_option maxRecDepth 100000 in
theorem c_at (G : fm_G) (a p : Nat) (M : fm_M) (g : Nat → Int64) (hc : M a = some (fm_O 0 [.ref p])) (hp : M p = some (fm_L G 8 g)) (k : Nat) (hk : k < cntg g) : fm_Ct G yX0_at cX0_at 4 (some .int) 1 21 0 0 [.ref a, .int (nI k)] M (fun v M1 => M1 = M ∧ ∃ c, c < 512 ∧ bq g c = true ∧ cntq (bq g) c = k ∧ v = some (.int (nI c))) := by
  refine fm_head (by decide) (Nat.le_of_ble_eq_true rfl) rfl (fun X C N0 rt => ?_)
  refine g_iconst C dX0_at_0 (v := nI 0) rfl ?_
  refine g_istore_n C dX0_at_1 (by decide) ?_
  refine g_iconst C dX0_at_2 (v := nI 0) rfl ?_
  refine g_istore_n C dX0_at_3 (by decide) ?_
  refine l_at (fr := 0) (lo := 0) C hc hp hk (fun c ls h1 h2 h3 h4 => ?_) 512 0 (by decide) (Nat.zero_le _)
  refine g_iload_n C dX0_at_24 h4 ?_
  exact rt (some (.int _)) M _ _ _ _ (fm_retI dX0_at_25) ⟨rfl, c, h1, h2, h3, rfl⟩ (Nat.le_refl _) (Nat.le_refl _)
