/-! THE LAW: the loop -/
theorem sub6 {L i : Nat} (hL : L ≤ 3072) (hi : i ≤ 3080) : (nI L - nI 6 < nI i) ↔ L < i + 6 := by
  by_cases h : 6 ≤ L
  · have e : nI L - nI 6 = nI (L - 6) := by
      have e1 : nI L = nI (L - 6) + nI 6 := by rw [nI_add]; exact congrArg nI (by omega)
      rw [e1, Int32.add_sub_cancel]
    rw [e, nI_ltI (by omega) (by omega)]
    omega
  · refine ⟨fun _ => by omega, fun _ => ?_⟩
    have h0 : ∀ j, j < 6 → nI j - nI 6 < 0 := by decide +kernel
    have h1 := h0 L (by omega)
    have h2 : (0 : Int32) ≤ nI i := nI_pos' (by omega)
    exact Int32.lt_of_lt_of_le h1 h2
theorem and15 (x : Int32) : ∃ k, k < 16 ∧ x &&& nI 15 = nI k := by
  refine ⟨(x &&& nI 15).toBitVec.toNat, ?_, ?_⟩
  · have e : (x &&& nI 15).toBitVec = x.toBitVec &&& (nI 15).toBitVec := rfl
    rw [e, BitVec.toNat_and]
    have : (nI 15).toBitVec.toNat = 15 := by decide +kernel
    rw [this]
    exact Nat.lt_succ_of_le Nat.and_le_right
  · apply Int32.toBitVec_inj.mp
    show _ = BitVec.ofNat 32 _
    rw [BitVec.ofNat_toNat, BitVec.setWidth_eq]
set_option maxHeartbeats 4000000 in
set_option maxRecDepth 100000 in
theorem v_clear {G : fm_G} {X : fm_X} (C : GCL G X) {b L : Nat} {M : fm_M} {i x mm o kc ks : Nat} {a : Ab} (hc : kc + 34 ≤ room_1.cells) (hs : ks + 2686 ≤ room_1.slots) (hI : LI G M x mm o a) (kk : ∀ (a2 : Ab) (M2 : fm_M), LI G M2 x mm o a2 → GW G X 7 M2 (kc + 34) (ks + 2686) 755 (lwl b x mm o i) []) : GW G X 7 M kc ks 200 (lwl b x mm o i) [] := by
  obtain ⟨rd, S1, f, rfl, ⟨ad, nr, S, rfl, Pi, hCR, hnr, hR, ho, h7⟩, hRR, ha⟩ := hI
  refine g_aload_n C dL_law_200 rfl ?_
  refine g_callV C dL_law_201 cw_L_64 rfl (c_clear G ad nr S M Pi a hCR) Pi.klc rfl rfl (Nat.le_of_ble_eq_true rfl) (by decide) (by decide) (by omega) (by omega) (fun v M1 hp => ?_)
  obtain ⟨rfl, S2, P2, F2, C2⟩ := hp
  have hl := LC.fr hR ho h7 P2 F2 C2 (Nat.zero_le _)
  refine g_aload_n C dL_law_204 rfl ?_
  refine g_callV C dL_law_205 cw_L_67 rfl (r_clear G rd S1 M1 hl.rp a ha hRR) hl.rp.ob rfl rfl (Nat.le_of_ble_eq_true rfl) (by decide) (by decide) (by omega) (by omega) (fun v M2 hp => ?_)
  obtain ⟨rfl, S3, P3, F3, R3⟩ := hp
  refine g_goto C dL_law_208 (tgt := 755) (by decide) ?_
  exact g_wide (by omega) (by omega) (kk _ M2 (LI.of hl P3 F3 R3 AbOk_clear rfl).1)
set_option maxHeartbeats 4000000 in
set_option maxRecDepth 100000 in
theorem lw_loop {G : fm_G} {X : fm_X} (C : GCL G X) (HS : GS X) (hT : G.1.stackTraces = false) {b L : Nat} {xs : Nat → Int32} (P : GP X b L xs) (hL : L ≤ 3072) {x mm o : Nat} (fin : ∀ (M : fm_M) (kc ks i : Nat), kc ≤ room_1.cells → ks ≤ room_1.slots → GW G X 7 M kc ks 762 (lwl b x mm o i) [.int 1]) : ∀ (t q : Nat) (a : Ab) (M : fm_M), q + t ≤ 512 → L < 6 * (q + t) + 6 → LI G M x mm o a → GW G X 7 M (100 + 34 * q) (17000 + 2686 * q) 23 (lwl b x mm o (6 * q)) [] := by
  have hC : 20000 ≤ room_1.cells := Nat.le_of_ble_eq_true rfl
  have hSl : 1500000 ≤ room_1.slots := Nat.le_of_ble_eq_true rfl
  intro t
  induction t with
  | zero =>
    intro q a M hq hl hI
    refine g_iload C dL_law_23 rfl ?_
    refine g_aload_n C dL_law_25 rfl ?_
    refine g_slen C P dL_law_26 ?_
    refine g_bipush C dL_law_27 (v := nI 6) (by decide) ?_
    refine g_isub C dL_law_29 ?_
    refine g_icmp_gt C dL_law_30 (tgt := 761) (by decide) (fun hb => ?_) (fun hb => absurd ((sub6 hL (by omega)).mpr (by omega)) hb)
    refine g_iconst C dL_law_761 (v := 1) rfl ?_
    exact fin M _ _ _ (by omega) (by omega)
  | succ t ih =>
    intro q a M hq hl hI
    refine g_iload C dL_law_23 rfl ?_
    refine g_aload_n C dL_law_25 rfl ?_
    refine g_slen C P dL_law_26 ?_
    refine g_bipush C dL_law_27 (v := nI 6) (by decide) ?_
    refine g_isub C dL_law_29 ?_
    refine g_icmp_gt C dL_law_30 (tgt := 761) (by decide) (fun hb => ?_) (fun hb => ?_)
    · refine g_iconst C dL_law_761 (v := 1) rfl ?_
      exact fin M _ _ _ (by omega) (by omega)
    have hi : 6 * q + 6 ≤ L := Nat.le_of_not_lt (fun z => hb ((sub6 hL (by omega)).mpr z))
    have kk : ∀ (a2 : Ab) (M2 : fm_M), LI G M2 x mm o a2 → GW G X 7 M2 (100 + 34 * q + 34) (17000 + 2686 * q + 2686) 755 (lwl b x mm o (6 * q)) [] := by
      intro a2 M2 h2
      refine g_iinc C dL_law_755 rfl (v := nI (6 * (q + 1))) (nI_add (6 * q) 6) (by decide) ?_
      refine g_goto C dL_law_758 (tgt := 23) (by decide) ?_
      exact g_wide (by omega) (by omega) (ih (q + 1) a2 M2 (by omega) (by omega) h2)
    have kd := kk a M hI
    refine g_aload_n C dL_law_33 rfl ?_
    refine g_iload C dL_law_34 rfl ?_
    refine g_sld C P dL_law_36 (by omega) (by omega) ?_
    refine g_bipush C dL_law_37 (v := nI 15) (by decide) ?_
    refine g_iand C dL_law_39 ?_
    obtain ⟨k, hk, e⟩ := and15 (xs (6 * q))
    rw [e]
    clear e
    match k, hk with
    | 0, _ => exact g_tsIn C dL_law_40 (tgt := 96) (off := 56) (by decide) (by decide) rfl (by decide) (v_rule C HS hT P hL hi (by omega) (by omega) hI kk)
    | 1, _ => exact g_tsIn C dL_law_40 (tgt := 200) (off := 160) (by decide) (by decide) rfl (by decide) (v_clear C (L := L) (by omega) (by omega) hI kk)
    | 2, _ => exact g_tsIn C dL_law_40 (tgt := 211) (off := 171) (by decide) (by decide) rfl (by decide) (v_height C HS hT P hL hi (by omega) (by omega) hI kk)
    | 3, _ => exact g_tsIn C dL_law_40 (tgt := 303) (off := 263) (by decide) (by decide) rfl (by decide) (v_many C HS hT P hL hi (by omega) (by omega) hI kk)
    | 4, _ => exact g_tsIn C dL_law_40 (tgt := 359) (off := 319) (by decide) (by decide) rfl (by decide) (v_count C HS hT P hL hi (by omega) (by omega) hI kk)
    | 5, _ => exact g_tsIn C dL_law_40 (tgt := 427) (off := 387) (by decide) (by decide) rfl (by decide) (v_derive C HS hT P hL hi (by omega) (by omega) hI kk)
    | 6, _ => exact g_tsIn C dL_law_40 (tgt := 519) (off := 479) (by decide) (by decide) rfl (by decide) (v_step C HS hT P hL hi (by omega) (by omega) hI kk)
    | 7, _ => exact g_tsIn C dL_law_40 (tgt := 575) (off := 535) (by decide) (by decide) rfl (by decide) (v_use C HS hT P hL hi (by omega) (by omega) hI kk)
    | 8, _ => exact g_tsIn C dL_law_40 (tgt := 643) (off := 603) (by decide) (by decide) rfl (by decide) (v_fit C HS hT P hL hi (by omega) (by omega) hI kk)
    | 9, _ => exact g_tsIn C dL_law_40 (tgt := 699) (off := 659) (by decide) (by decide) rfl (by decide) (v_letters C HS hT P hL hi (by omega) (by omega) hI kk)
    | 10, _ => exact g_tsOut C dL_law_40 (tgt := 755) (by decide) (by decide) (g_wide (by omega) (by omega) kd)
    | 11, _ => exact g_tsOut C dL_law_40 (tgt := 755) (by decide) (by decide) (g_wide (by omega) (by omega) kd)
    | 12, _ => exact g_tsOut C dL_law_40 (tgt := 755) (by decide) (by decide) (g_wide (by omega) (by omega) kd)
    | 13, _ => exact g_tsOut C dL_law_40 (tgt := 755) (by decide) (by decide) (g_wide (by omega) (by omega) kd)
    | 14, _ => exact g_tsOut C dL_law_40 (tgt := 755) (by decide) (by decide) (g_wide (by omega) (by omega) kd)
    | 15, _ => exact g_tsOut C dL_law_40 (tgt := 755) (by decide) (by decide) (g_wide (by omega) (by omega) kd)
    | k + 16, h => exact absurd h (by omega)
def a0 : Ab := (0, fun _ => 0, fun _ _ => 0, fun _ => 0, 0, fun _ => 0)
theorem a0_C : CR a0 S0 := ⟨⟨rfl, fun r hr => absurd hr (Nat.not_lt_zero r)⟩, fun r hr => absurd hr (Nat.not_lt_zero r), rfl, fun r hr => absurd hr (Nat.not_lt_zero r), Or.inl (by decide)⟩
theorem a0_R : RR a0 S0r := ⟨⟨rfl, fun r hr => absurd hr (Nat.not_lt_zero r)⟩, fun r hr => absurd hr (Nat.not_lt_zero r), Or.inl ⟨rfl, rfl⟩, fun r hr => absurd hr (Nat.not_lt_zero r), Or.inl rfl⟩
theorem a0_ok : AbOk a0 := ⟨Nat.zero_le _, fun r hr => absurd hr (Nat.not_lt_zero r), Nat.zero_le _⟩
set_option maxHeartbeats 4000000 in
set_option maxRecDepth 100000 in
theorem lw_go {G : fm_G} {X : fm_X} (C : GCL G X) (HS : GS X) (hT : G.1.stackTraces = false) {b L : Nat} {xs : Nat → Int32} (P : GP X b L xs) (hL : L ≤ 3072) (fin : ∀ (M : fm_M) (kc ks x mm o i : Nat), kc ≤ room_1.cells → ks ≤ room_1.slots → GW G X 7 M kc ks 762 (lwl b x mm o i) [.int 1]) : GW G X 7 (fun _ => none) 0 0 0 [(0, .ref b)] [] := by
  refine g_new C cl_L_8 dL_law_0 (by decide) (by decide) (fun x hx => ?_)
  refine g_dup C dL_law_3 rfl ?_
  refine g_callI C dL_law_4 cw_L_50 (c_LC_init G x _ (fm_set_eq _ _ _)) rfl rfl (Nat.le_of_ble_eq_true rfl) (by decide) (by decide) (by decide) (by decide) (fun v M1 hp => ?_)
  obtain ⟨rfl, b1, hN⟩ := hp
  have Pi := Pic_new hN
  clear hN
  refine g_astore_n C dL_law_7 (by decide) ?_
  refine g_new C cl_L_51 dL_law_8 (by decide) (by decide) (fun mm hm => ?_)
  refine g_dup C dL_law_11 rfl ?_
  refine g_callI C dL_law_12 cw_L_53 (r_init G mm _ (fm_set_eq _ _ _)) rfl rfl (Nat.le_of_ble_eq_true rfl) (by decide) (by decide) (by decide) (by decide) (fun v M2 hp => ?_)
  obtain ⟨rfl, b2, hN⟩ := hp
  have hR := RPic_new hN
  have fr : ∀ j, j < 10 → M1 (rdX mm b2 j) = none := by
    intro j hj
    unfold rdX
    by_cases e : j = 0
    · rw [if_pos e]; exact hm
    · rw [if_neg e]
      obtain ⟨h1, h2, -⟩ := hN.2.1 (j - 1) (by omega)
      rw [fm_set_ne _ _ h1] at h2
      exact h2
  have ne1 : ∀ t k j, liv 0 t k → j < 10 → adL b1 x t k ≠ rdX mm b2 j := by
    intro t k j hl hj e
    have h1 := Pi.at hl
    rw [e, fr j hj] at h1
    exact nomatch h1
  have Pi : Pic G (adL b1 x) 0 S0 M2 := Pi.same (fun t k hl => by
    rw [hN.2.2.2 _ (ne1 t k 0 hl (by decide)) (fun i hi z => ne1 t k (i + 1) hl (by omega) z)]
    exact fm_set_ne _ _ (ne1 t k 0 hl (by decide)))
  clear hN
  refine g_astore_n C dL_law_15 (by decide) ?_
  refine g_iconst C dL_law_16 (v := nI 1) rfl ?_
  refine g_newL C rfl ka_long dL_law_17 (by decide) (by decide) (by decide) (fun o ho => ?_)
  have ne2 : ∀ t k, liv 0 t k → adL b1 x t k ≠ o := by
    intro t k hl e
    have h1 := Pi.at hl
    rw [e, ho] at h1
    exact nomatch h1
  have ne3 : ∀ j, j < 10 → rdX mm b2 j ≠ o := by
    intro j hj e
    have h1 := hR.1 j hj
    rw [e, ho] at h1
    exact nomatch h1
  refine g_astore_n C dL_law_19 (by decide) ?_
  refine g_iconst C dL_law_20 (v := nI 0) rfl ?_
  refine g_istore C dL_law_21 (by decide) ?_
  refine g_loc [0, 1, 2, 3, 4] rfl ?_
  refine g_wide (k2 := 100 + 34 * 0) (s2 := 17000 + 2686 * 0) (by decide) (by decide) ?_
  exact lw_loop C HS hT P hL (fun M kc ks i h1 h2 => fin M kc ks x mm o i h1 h2) 512 0 a0 _ (by decide) (by omega) ⟨rdX mm b2, S0r, _, rfl, ⟨adL b1 x, 0, S0, rfl, Pi.same (fun t k hl => fm_set_ne _ _ (ne2 t k hl)), a0_C, Nat.zero_le _, hR.same (fun j hj => fm_set_ne _ _ (ne3 j hj)), fm_set_eq _ _ _, ne1, ne2, ne3⟩, a0_R, a0_ok⟩
