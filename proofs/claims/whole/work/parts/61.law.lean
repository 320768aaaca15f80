/-! THE LAW: rows -/
section LAWR
variable {G : fm_G} {X : fm_X} {own : String} {cc : ByteArray} {nL fr lo mc ms : Nat} {M : fm_M} {kc ks pc : Nat} {ls : List (Nat × Value)} {st : List Value}
def GP (X : fm_X) (b L : Nat) (xs : Nat → Int32) : Prop := match X with
  | (_, _, _, s, _, _, _, _, _, _, A) => va_X b L xs s s.heap ∧ b < s.heap.size ∧ ¬ A b
theorem g_sld (C : GC G X own cc nL fr lo mc ms) {b L : Nat} {xs : Nat → Int32} (P : GP X b L xs) {j : Nat} (hd : decode cc pc = .ok (.iaload, 1)) (hj : j < L) (hL : L < 2 ^ 31) (kk : GW G X nL M kc ks (pc + 1) ls (.int (xs j) :: st)) : GW G X nL M kc ks pc ls (.int (nI j) :: .ref b :: st) := by
  obtain ⟨p, e, R, s, m, args, below, meth, c, Q, A⟩ := X
  obtain ⟨hx, hb, hown, hts, hK, hA, hml, hlocks, hR, hZ⟩ := C
  obtain ⟨p1, p2, p3⟩ := P
  intro H locs la hP hS hv
  have hcl : (nI j).toNatClampNeg = j := nI_clamp (Nat.lt_trans hj hL)
  exact va_sld hx hb p1 p2 p3 hS (vp_in_nI hj hL) hd (by rw [hcl]; exact kk H locs la hP hS hv)
theorem g_slen (C : GC G X own cc nL fr lo mc ms) {b L : Nat} {xs : Nat → Int32} (P : GP X b L xs) (hd : decode cc pc = .ok (.arraylength, 1)) (kk : GW G X nL M kc ks (pc + 1) ls (.int (nI L) :: st)) : GW G X nL M kc ks pc ls (.ref b :: st) := by
  obtain ⟨p, e, R, s, m, args, below, meth, c, Q, A⟩ := X
  obtain ⟨hx, hb, hown, hts, hK, hA, hml, hlocks, hR, hZ⟩ := C
  obtain ⟨p1, p2, p3⟩ := P
  intro H locs la hP hS hv
  exact va_slen hx hb p1 p2 p3 hS hd (kk H locs la hP hS hv)
theorem g_tsOut (C : GC G X own cc nL fr lo mc ms) {dflt l0 hi : Int} {offs : Array Int} {len : Nat} {x : Int32} {tgt : Nat} (hd : decode cc pc = .ok (.tableswitch dflt l0 hi offs, len)) (h : x.toInt < l0 ∨ hi < x.toInt) (ht : (pc : Int) + dflt = (tgt : Int)) (kk : GW G X nL M kc ks tgt ls st) : GW G X nL M kc ks pc ls (.int x :: st) := by
  obtain ⟨p, e, R, s, m, args, below, meth, c, Q, A⟩ := X
  obtain ⟨hx, hb, hown, hts, hK, hA, hml, hlocks, hR, hZ⟩ := C
  intro H locs la hP hS hv
  exact lv_tableOut hx hb hd h ht (kk H locs la hP hS hv)
theorem g_tsIn (C : GC G X own cc nL fr lo mc ms) {dflt l0 hi : Int} {offs : Array Int} {len : Nat} {x : Int32} {off : Int} {tgt : Nat} (hd : decode cc pc = .ok (.tableswitch dflt l0 hi offs, len)) (h1 : ¬ x.toInt < l0) (h2 : ¬ hi < x.toInt) (ho : offs[(x.toInt - l0).toNat]? = some off) (ht : (pc : Int) + off = (tgt : Int)) (kk : GW G X nL M kc ks tgt ls st) : GW G X nL M kc ks pc ls (.int x :: st) := by
  obtain ⟨p, e, R, s, m, args, below, meth, c, Q, A⟩ := X
  obtain ⟨hx, hb, hown, hts, hK, hA, hml, hlocks, hR, hZ⟩ := C
  intro H locs la hP hS hv
  exact lv_tableIn hx hb hd h1 h2 ho ht (kk H locs la hP hS hv)
/-- script[i + k] -/
theorem g_arg (C : GC G X own cc nL fr lo mc ms) {b L i : Nat} {xs : Nat → Int32} (P : GP X b L xs) (k : Nat) {n : Int} (d0 : decode cc pc = .ok (.aload_n 0, 1)) (d1 : decode cc (pc + 1) = .ok (.iload 4, 2)) (d3 : decode cc (pc + 3) = .ok (.iconst n, 1)) (d4 : decode cc (pc + 4) = .ok (.iadd, 1)) (d5 : decode cc (pc + 5) = .ok (.iaload, 1)) (h0 : fm_lk ls 0 = some (.ref b)) (h4 : fm_lk ls 4 = some (.int (nI i))) (hk : Int32.ofInt n = nI k) (hj : i + k < L) (hL : L < 2 ^ 31) (kk : GW G X nL M kc ks (pc + 6) ls (.int (xs (i + k)) :: st)) : GW G X nL M kc ks pc ls st := by
  refine g_aload_n C d0 h0 ?_
  refine g_iload C d1 h4 ?_
  refine g_iconst C d3 hk ?_
  refine g_iadd C d4 ?_
  refine g_topI (nI_add i k) ?_
  exact g_sld C P d5 hj hL kk
end LAWR
abbrev lwl (b x mm o : Nat) (i : Nat) : List (Nat × Value) := [(0, .ref b), (1, .ref x), (2, .ref mm), (3, .ref o), (4, .int (nI i))]
abbrev GCL (G : fm_G) (X : fm_X) : Prop := GC G X RL cL_law 7 12 438 room_1.cells room_1.slots
set_option maxHeartbeats 4000000 in
set_option maxRecDepth 100000 in
theorem t_rule {G : fm_G} {X : fm_X} (C : GCL G X) (HS : GS X) {b L : Nat} {xs : Nat → Int32} (P : GP X b L xs) (hL : L ≤ 3072) {M : fm_M} {i x mm o kc ks code mc ms fr lo : Nat} {PC : fm_M → Prop} {PR : Int32 → fm_M → Prop} (hi : i + 6 ≤ L) (hc : kc + 34 ≤ room_1.cells) (hs : ks + 2686 ≤ room_1.slots) (hmc : mc ≤ 34) (hms : ms ≤ 2686) (hcd : code < 4) (hfr : fr + 1 ≤ 12) (hlo : 8 + (7 + 11) + lo ≤ 438)
    (KC : fm_CtW G yL_rule cL_rule 8 (some .int) hL_rule 9 200 mc ms [.ref x, .int (xs (i + 1)), .int (xs (i + 2)), .int (xs (i + 3)), .int (xs (i + 4)), .int (xs (i + 5)), .ref o] M (fun v M1 => v = some (.int (nI code)) ∧ PC M1))
    (HR : ∀ M1, PC M1 → (∃ fs, M1 mm = some (fm_O 6 fs)) ∧ fm_Ct G yX6_rule cX6_rule 7 (some .int) fr lo 0 0 [.ref mm, .int (xs (i + 1)), .int (xs (i + 2)), .int (xs (i + 3)), .int (xs (i + 4)), .int (xs (i + 5))] M1 (fun v M2 => ∃ r, v = some (.int r) ∧ PR r M2))
    (HT : ∀ r M2, PR r M2 → (∃ rd S2, rd 0 = mm ∧ RPic G rd S2 M2 ∧ S2.2 0 = nI code) ∧ (code = 0 → ∃ f, M2 o = some (fm_L G 1 f) ∧ f 0 = r.toInt64))
    (kk : ∀ r M2, PR r M2 → GW G X 7 M2 (kc + 34) (ks + 2686) 755 (lwl b x mm o i) []) : GW G X 7 M kc ks 96 (lwl b x mm o i) [] := by
  refine g_aload_n C dL_law_96 rfl ?_
  refine g_arg C P 1 dL_law_97 dL_law_98 dL_law_100 dL_law_101 dL_law_102 rfl rfl rfl (by omega) (by omega) ?_
  refine g_arg C P 2 dL_law_103 dL_law_104 dL_law_106 dL_law_107 dL_law_108 rfl rfl rfl (by omega) (by omega) ?_
  refine g_arg C P 3 dL_law_109 dL_law_110 dL_law_112 dL_law_113 dL_law_114 rfl rfl rfl (by omega) (by omega) ?_
  refine g_arg C P 4 dL_law_115 dL_law_116 dL_law_118 dL_law_119 dL_law_120 rfl rfl rfl (by omega) (by omega) ?_
  refine g_arg C P 5 dL_law_121 dL_law_122 dL_law_124 dL_law_125 dL_law_126 rfl rfl rfl (by omega) (by omega) ?_
  refine g_aload_n C dL_law_127 rfl ?_
  refine g_callW C HS dL_law_128 cw_L_54 KC rfl rfl (Nat.le_of_ble_eq_true rfl) (by decide) (by decide) (by omega) (by omega) (fun v M1 hp => ?_)
  obtain ⟨rfl, hp⟩ := hp
  obtain ⟨⟨fs, hfs⟩, KR⟩ := HR M1 hp
  refine g_istore C dL_law_131 (by decide) ?_
  refine g_aload_n C dL_law_133 rfl ?_
  refine g_arg C P 1 dL_law_134 dL_law_135 dL_law_137 dL_law_138 dL_law_139 rfl rfl rfl (by omega) (by omega) ?_
  refine g_arg C P 2 dL_law_140 dL_law_141 dL_law_143 dL_law_144 dL_law_145 rfl rfl rfl (by omega) (by omega) ?_
  refine g_arg C P 3 dL_law_146 dL_law_147 dL_law_149 dL_law_150 dL_law_151 rfl rfl rfl (by omega) (by omega) ?_
  refine g_arg C P 4 dL_law_152 dL_law_153 dL_law_155 dL_law_156 dL_law_157 rfl rfl rfl (by omega) (by omega) ?_
  refine g_arg C P 5 dL_law_158 dL_law_159 dL_law_161 dL_law_162 dL_law_163 rfl rfl rfl (by omega) (by omega) ?_
  refine g_callV C dL_law_164 cw_L_59 rfl KR hfs rfl rfl (Nat.le_of_ble_eq_true rfl) hfr hlo (by omega) (by omega) (fun v M2 hq => ?_)
  obtain ⟨r, rfl, hq⟩ := hq
  obtain ⟨⟨rd, S2, e0, hR, e1⟩, hout⟩ := HT r M2 hq
  refine g_istore C dL_law_167 (by decide) ?_
  refine g_aload_n C dL_law_169 rfl ?_
  have KT := r_thrown G rd S2 M2 hR
  rw [e0, e1] at KT
  have hob := hR.ob
  rw [e0] at hob
  refine g_callV C dL_law_170 cw_L_60 rfl KT hob rfl rfl (Nat.le_of_ble_eq_true rfl) (by decide) (by decide) (by omega) (by omega) (fun v M3 hz => ?_)
  obtain ⟨rfl, hM⟩ := hz
  rw [hM]
  clear hM
  refine g_iload C dL_law_173 rfl ?_
  refine g_icmp_eq C dL_law_175 (tgt := 180) (by decide) (fun hb => ?_) (fun hb => absurd rfl hb)
  refine g_iload C dL_law_180 rfl ?_
  refine g_if_ne C dL_law_182 (tgt := 197) (by decide) (fun hb => ?_) (fun hb => ?_)
  · skip
    refine g_goto C dL_law_197 (tgt := 755) (by decide) ?_
    refine g_loc [0, 1, 2, 3, 4] rfl ?_
    exact g_wide (by omega) (by omega) (kk r _ hq)
  · have hc0 : code = 0 := (nI_eq (by omega) (by decide)).mp (hb.trans nI_0.symm)
    obtain ⟨f, hf, ef⟩ := hout hc0
    refine g_aload_n C dL_law_185 rfl ?_
    refine g_iconst C dL_law_186 (v := nI 0) rfl ?_
    refine g_laldN C dL_law_187 hf (by decide) (by decide) ?_
    refine g_iload C dL_law_188 rfl ?_
    refine g_i2l C dL_law_190 ?_
    refine g_lcmp C dL_law_191 ?_
    refine g_if_eq C dL_law_192 (tgt := 197) (by decide) (fun hb => ?_) (fun hb => absurd ((lg_cmp_eq _ _).mpr ef) hb)
    refine g_goto C dL_law_197 (tgt := 755) (by decide) ?_
    refine g_loc [0, 1, 2, 3, 4] rfl ?_
    exact g_wide (by omega) (by omega) (kk r _ hq)
set_option maxHeartbeats 4000000 in
set_option maxRecDepth 100000 in
theorem t_height {G : fm_G} {X : fm_X} (C : GCL G X) (HS : GS X) {b L : Nat} {xs : Nat → Int32} (P : GP X b L xs) (hL : L ≤ 3072) {M : fm_M} {i x mm o kc ks code mc ms fr lo : Nat} {PC : fm_M → Prop} {PR : Int32 → fm_M → Prop} (hi : i + 6 ≤ L) (hc : kc + 34 ≤ room_1.cells) (hs : ks + 2686 ≤ room_1.slots) (hmc : mc ≤ 34) (hms : ms ≤ 2686) (hcd : code < 4) (hfr : fr + 1 ≤ 12) (hlo : 8 + (6 + 11) + lo ≤ 438)
    (KC : fm_CtW G yL_height cL_height 7 (some .int) hL_height 9 200 mc ms [.ref x, .int (xs (i + 1)), .int (xs (i + 2)), .int (xs (i + 3)), .int (xs (i + 4)), .ref o] M (fun v M1 => v = some (.int (nI code)) ∧ PC M1))
    (HR : ∀ M1, PC M1 → (∃ fs, M1 mm = some (fm_O 6 fs)) ∧ fm_Ct G yX6_height cX6_height 6 (some .int) fr lo 0 0 [.ref mm, .int (xs (i + 1)), .int (xs (i + 2)), .int (xs (i + 3)), .int (xs (i + 4))] M1 (fun v M2 => ∃ r, v = some (.int r) ∧ PR r M2))
    (HT : ∀ r M2, PR r M2 → (∃ rd S2, rd 0 = mm ∧ RPic G rd S2 M2 ∧ S2.2 0 = nI code) ∧ (code = 0 → ∃ f, M2 o = some (fm_L G 1 f) ∧ f 0 = r.toInt64))
    (kk : ∀ r M2, PR r M2 → GW G X 7 M2 (kc + 34) (ks + 2686) 755 (lwl b x mm o i) []) : GW G X 7 M kc ks 211 (lwl b x mm o i) [] := by
  refine g_aload_n C dL_law_211 rfl ?_
  refine g_arg C P 1 dL_law_212 dL_law_213 dL_law_215 dL_law_216 dL_law_217 rfl rfl rfl (by omega) (by omega) ?_
  refine g_arg C P 2 dL_law_218 dL_law_219 dL_law_221 dL_law_222 dL_law_223 rfl rfl rfl (by omega) (by omega) ?_
  refine g_arg C P 3 dL_law_224 dL_law_225 dL_law_227 dL_law_228 dL_law_229 rfl rfl rfl (by omega) (by omega) ?_
  refine g_arg C P 4 dL_law_230 dL_law_231 dL_law_233 dL_law_234 dL_law_235 rfl rfl rfl (by omega) (by omega) ?_
  refine g_aload_n C dL_law_236 rfl ?_
  refine g_callW C HS dL_law_237 cw_L_68 KC rfl rfl (Nat.le_of_ble_eq_true rfl) (by decide) (by decide) (by omega) (by omega) (fun v M1 hp => ?_)
  obtain ⟨rfl, hp⟩ := hp
  obtain ⟨⟨fs, hfs⟩, KR⟩ := HR M1 hp
  refine g_istore C dL_law_240 (by decide) ?_
  refine g_aload_n C dL_law_242 rfl ?_
  refine g_arg C P 1 dL_law_243 dL_law_244 dL_law_246 dL_law_247 dL_law_248 rfl rfl rfl (by omega) (by omega) ?_
  refine g_arg C P 2 dL_law_249 dL_law_250 dL_law_252 dL_law_253 dL_law_254 rfl rfl rfl (by omega) (by omega) ?_
  refine g_arg C P 3 dL_law_255 dL_law_256 dL_law_258 dL_law_259 dL_law_260 rfl rfl rfl (by omega) (by omega) ?_
  refine g_arg C P 4 dL_law_261 dL_law_262 dL_law_264 dL_law_265 dL_law_266 rfl rfl rfl (by omega) (by omega) ?_
  refine g_callV C dL_law_267 cw_L_71 rfl KR hfs rfl rfl (Nat.le_of_ble_eq_true rfl) hfr hlo (by omega) (by omega) (fun v M2 hq => ?_)
  obtain ⟨r, rfl, hq⟩ := hq
  obtain ⟨⟨rd, S2, e0, hR, e1⟩, hout⟩ := HT r M2 hq
  refine g_istore C dL_law_270 (by decide) ?_
  refine g_aload_n C dL_law_272 rfl ?_
  have KT := r_thrown G rd S2 M2 hR
  rw [e0, e1] at KT
  have hob := hR.ob
  rw [e0] at hob
  refine g_callV C dL_law_273 cw_L_60 rfl KT hob rfl rfl (Nat.le_of_ble_eq_true rfl) (by decide) (by decide) (by omega) (by omega) (fun v M3 hz => ?_)
  obtain ⟨rfl, hM⟩ := hz
  rw [hM]
  clear hM
  refine g_iload C dL_law_276 rfl ?_
  refine g_icmp_eq C dL_law_278 (tgt := 283) (by decide) (fun hb => ?_) (fun hb => absurd rfl hb)
  refine g_iload C dL_law_283 rfl ?_
  refine g_if_ne C dL_law_285 (tgt := 300) (by decide) (fun hb => ?_) (fun hb => ?_)
  · skip
    refine g_goto C dL_law_300 (tgt := 755) (by decide) ?_
    refine g_loc [0, 1, 2, 3, 4] rfl ?_
    exact g_wide (by omega) (by omega) (kk r _ hq)
  · have hc0 : code = 0 := (nI_eq (by omega) (by decide)).mp (hb.trans nI_0.symm)
    obtain ⟨f, hf, ef⟩ := hout hc0
    refine g_aload_n C dL_law_288 rfl ?_
    refine g_iconst C dL_law_289 (v := nI 0) rfl ?_
    refine g_laldN C dL_law_290 hf (by decide) (by decide) ?_
    refine g_iload C dL_law_291 rfl ?_
    refine g_i2l C dL_law_293 ?_
    refine g_lcmp C dL_law_294 ?_
    refine g_if_eq C dL_law_295 (tgt := 300) (by decide) (fun hb => ?_) (fun hb => absurd ((lg_cmp_eq _ _).mpr ef) hb)
    refine g_goto C dL_law_300 (tgt := 755) (by decide) ?_
    refine g_loc [0, 1, 2, 3, 4] rfl ?_
    exact g_wide (by omega) (by omega) (kk r _ hq)
set_option maxHeartbeats 4000000 in
set_option maxRecDepth 100000 in
theorem t_many {G : fm_G} {X : fm_X} (C : GCL G X) (HS : GS X) {b L : Nat} {xs : Nat → Int32} (P : GP X b L xs) (hL : L ≤ 3072) {M : fm_M} {i x mm o kc ks code mc ms fr lo : Nat} {PC : fm_M → Prop} {PR : Int32 → fm_M → Prop} (hi : i + 6 ≤ L) (hc : kc + 34 ≤ room_1.cells) (hs : ks + 2686 ≤ room_1.slots) (hmc : mc ≤ 34) (hms : ms ≤ 2686) (hcd : code < 4) (hfr : fr + 1 ≤ 12) (hlo : 8 + (2 + 11) + lo ≤ 438)
    (KC : fm_CtW G yL_many cL_many 4 (some .int) hL_many 9 200 mc ms [.ref x, .int (xs (i + 1)), .ref o] M (fun v M1 => v = some (.int (nI code)) ∧ PC M1))
    (HR : ∀ M1, PC M1 → (∃ fs, M1 mm = some (fm_O 6 fs)) ∧ fm_Ct G yX6_many cX6_many 2 (some .int) fr lo 0 0 [.ref mm, .int (xs (i + 1))] M1 (fun v M2 => ∃ r, v = some (.int r) ∧ PR r M2))
    (HT : ∀ r M2, PR r M2 → (∃ rd S2, rd 0 = mm ∧ RPic G rd S2 M2 ∧ S2.2 0 = nI code) ∧ (code = 0 → ∃ f, M2 o = some (fm_L G 1 f) ∧ f 0 = r.toInt64))
    (kk : ∀ r M2, PR r M2 → GW G X 7 M2 (kc + 34) (ks + 2686) 755 (lwl b x mm o i) []) : GW G X 7 M kc ks 303 (lwl b x mm o i) [] := by
  refine g_aload_n C dL_law_303 rfl ?_
  refine g_arg C P 1 dL_law_304 dL_law_305 dL_law_307 dL_law_308 dL_law_309 rfl rfl rfl (by omega) (by omega) ?_
  refine g_aload_n C dL_law_310 rfl ?_
  refine g_callW C HS dL_law_311 cw_L_72 KC rfl rfl (Nat.le_of_ble_eq_true rfl) (by decide) (by decide) (by omega) (by omega) (fun v M1 hp => ?_)
  obtain ⟨rfl, hp⟩ := hp
  obtain ⟨⟨fs, hfs⟩, KR⟩ := HR M1 hp
  refine g_istore C dL_law_314 (by decide) ?_
  refine g_aload_n C dL_law_316 rfl ?_
  refine g_arg C P 1 dL_law_317 dL_law_318 dL_law_320 dL_law_321 dL_law_322 rfl rfl rfl (by omega) (by omega) ?_
  refine g_callV C dL_law_323 cw_L_75 rfl KR hfs rfl rfl (Nat.le_of_ble_eq_true rfl) hfr hlo (by omega) (by omega) (fun v M2 hq => ?_)
  obtain ⟨r, rfl, hq⟩ := hq
  obtain ⟨⟨rd, S2, e0, hR, e1⟩, hout⟩ := HT r M2 hq
  refine g_istore C dL_law_326 (by decide) ?_
  refine g_aload_n C dL_law_328 rfl ?_
  have KT := r_thrown G rd S2 M2 hR
  rw [e0, e1] at KT
  have hob := hR.ob
  rw [e0] at hob
  refine g_callV C dL_law_329 cw_L_60 rfl KT hob rfl rfl (Nat.le_of_ble_eq_true rfl) (by decide) (by decide) (by omega) (by omega) (fun v M3 hz => ?_)
  obtain ⟨rfl, hM⟩ := hz
  rw [hM]
  clear hM
  refine g_iload C dL_law_332 rfl ?_
  refine g_icmp_eq C dL_law_334 (tgt := 339) (by decide) (fun hb => ?_) (fun hb => absurd rfl hb)
  refine g_iload C dL_law_339 rfl ?_
  refine g_if_ne C dL_law_341 (tgt := 356) (by decide) (fun hb => ?_) (fun hb => ?_)
  · skip
    refine g_goto C dL_law_356 (tgt := 755) (by decide) ?_
    refine g_loc [0, 1, 2, 3, 4] rfl ?_
    exact g_wide (by omega) (by omega) (kk r _ hq)
  · have hc0 : code = 0 := (nI_eq (by omega) (by decide)).mp (hb.trans nI_0.symm)
    obtain ⟨f, hf, ef⟩ := hout hc0
    refine g_aload_n C dL_law_344 rfl ?_
    refine g_iconst C dL_law_345 (v := nI 0) rfl ?_
    refine g_laldN C dL_law_346 hf (by decide) (by decide) ?_
    refine g_iload C dL_law_347 rfl ?_
    refine g_i2l C dL_law_349 ?_
    refine g_lcmp C dL_law_350 ?_
    refine g_if_eq C dL_law_351 (tgt := 356) (by decide) (fun hb => ?_) (fun hb => absurd ((lg_cmp_eq _ _).mpr ef) hb)
    refine g_goto C dL_law_356 (tgt := 755) (by decide) ?_
    refine g_loc [0, 1, 2, 3, 4] rfl ?_
    exact g_wide (by omega) (by omega) (kk r _ hq)
set_option maxHeartbeats 4000000 in
set_option maxRecDepth 100000 in
theorem t_count {G : fm_G} {X : fm_X} (C : GCL G X) (HS : GS X) {b L : Nat} {xs : Nat → Int32} (P : GP X b L xs) (hL : L ≤ 3072) {M : fm_M} {i x mm o kc ks code mc ms fr lo : Nat} {PC : fm_M → Prop} {PR : Int32 → fm_M → Prop} (hi : i + 6 ≤ L) (hc : kc + 34 ≤ room_1.cells) (hs : ks + 2686 ≤ room_1.slots) (hmc : mc ≤ 34) (hms : ms ≤ 2686) (hcd : code < 4) (hfr : fr + 1 ≤ 12) (hlo : 8 + (6 + 11) + lo ≤ 438)
    (KC : fm_CtW G yL_count cL_count 5 (some .int) hL_count 9 200 mc ms [.ref x, .int (xs (i + 1)), .int (xs (i + 2)), .ref o] M (fun v M1 => v = some (.int (nI code)) ∧ PC M1))
    (HR : ∀ M1, PC M1 → (∃ fs, M1 mm = some (fm_O 6 fs)) ∧ fm_Ct G yX6_count cX6_count 6 (some .int) fr lo 0 0 [.ref mm, .int (xs (i + 1)), .int (xs (i + 2))] M1 (fun v M2 => ∃ r, v = some (.int r) ∧ PR r M2))
    (HT : ∀ r M2, PR r M2 → (∃ rd S2, rd 0 = mm ∧ RPic G rd S2 M2 ∧ S2.2 0 = nI code) ∧ (code = 0 → ∃ f, M2 o = some (fm_L G 1 f) ∧ f 0 = r.toInt64))
    (kk : ∀ r M2, PR r M2 → GW G X 7 M2 (kc + 34) (ks + 2686) 755 (lwl b x mm o i) []) : GW G X 7 M kc ks 359 (lwl b x mm o i) [] := by
  refine g_aload_n C dL_law_359 rfl ?_
  refine g_arg C P 1 dL_law_360 dL_law_361 dL_law_363 dL_law_364 dL_law_365 rfl rfl rfl (by omega) (by omega) ?_
  refine g_arg C P 2 dL_law_366 dL_law_367 dL_law_369 dL_law_370 dL_law_371 rfl rfl rfl (by omega) (by omega) ?_
  refine g_aload_n C dL_law_372 rfl ?_
  refine g_callW C HS dL_law_373 cw_L_76 KC rfl rfl (Nat.le_of_ble_eq_true rfl) (by decide) (by decide) (by omega) (by omega) (fun v M1 hp => ?_)
  obtain ⟨rfl, hp⟩ := hp
  obtain ⟨⟨fs, hfs⟩, KR⟩ := HR M1 hp
  refine g_istore C dL_law_376 (by decide) ?_
  refine g_aload_n C dL_law_378 rfl ?_
  refine g_arg C P 1 dL_law_379 dL_law_380 dL_law_382 dL_law_383 dL_law_384 rfl rfl rfl (by omega) (by omega) ?_
  refine g_arg C P 2 dL_law_385 dL_law_386 dL_law_388 dL_law_389 dL_law_390 rfl rfl rfl (by omega) (by omega) ?_
  refine g_callV C dL_law_391 cw_L_79 rfl KR hfs rfl rfl (Nat.le_of_ble_eq_true rfl) hfr hlo (by omega) (by omega) (fun v M2 hq => ?_)
  obtain ⟨r, rfl, hq⟩ := hq
  obtain ⟨⟨rd, S2, e0, hR, e1⟩, hout⟩ := HT r M2 hq
  refine g_istore C dL_law_394 (by decide) ?_
  refine g_aload_n C dL_law_396 rfl ?_
  have KT := r_thrown G rd S2 M2 hR
  rw [e0, e1] at KT
  have hob := hR.ob
  rw [e0] at hob
  refine g_callV C dL_law_397 cw_L_60 rfl KT hob rfl rfl (Nat.le_of_ble_eq_true rfl) (by decide) (by decide) (by omega) (by omega) (fun v M3 hz => ?_)
  obtain ⟨rfl, hM⟩ := hz
  rw [hM]
  clear hM
  refine g_iload C dL_law_400 rfl ?_
  refine g_icmp_eq C dL_law_402 (tgt := 407) (by decide) (fun hb => ?_) (fun hb => absurd rfl hb)
  refine g_iload C dL_law_407 rfl ?_
  refine g_if_ne C dL_law_409 (tgt := 424) (by decide) (fun hb => ?_) (fun hb => ?_)
  · skip
    refine g_goto C dL_law_424 (tgt := 755) (by decide) ?_
    refine g_loc [0, 1, 2, 3, 4] rfl ?_
    exact g_wide (by omega) (by omega) (kk r _ hq)
  · have hc0 : code = 0 := (nI_eq (by omega) (by decide)).mp (hb.trans nI_0.symm)
    obtain ⟨f, hf, ef⟩ := hout hc0
    refine g_aload_n C dL_law_412 rfl ?_
    refine g_iconst C dL_law_413 (v := nI 0) rfl ?_
    refine g_laldN C dL_law_414 hf (by decide) (by decide) ?_
    refine g_iload C dL_law_415 rfl ?_
    refine g_i2l C dL_law_417 ?_
    refine g_lcmp C dL_law_418 ?_
    refine g_if_eq C dL_law_419 (tgt := 424) (by decide) (fun hb => ?_) (fun hb => absurd ((lg_cmp_eq _ _).mpr ef) hb)
    refine g_goto C dL_law_424 (tgt := 755) (by decide) ?_
    refine g_loc [0, 1, 2, 3, 4] rfl ?_
    exact g_wide (by omega) (by omega) (kk r _ hq)
set_option maxHeartbeats 4000000 in
set_option maxRecDepth 100000 in
theorem t_derive {G : fm_G} {X : fm_X} (C : GCL G X) (HS : GS X) {b L : Nat} {xs : Nat → Int32} (P : GP X b L xs) (hL : L ≤ 3072) {M : fm_M} {i x mm o kc ks code mc ms fr lo : Nat} {PC : fm_M → Prop} {PR : Int32 → fm_M → Prop} (hi : i + 6 ≤ L) (hc : kc + 34 ≤ room_1.cells) (hs : ks + 2686 ≤ room_1.slots) (hmc : mc ≤ 34) (hms : ms ≤ 2686) (hcd : code < 4) (hfr : fr + 1 ≤ 12) (hlo : 8 + (9 + 11) + lo ≤ 438)
    (KC : fm_CtW G yL_derive cL_derive 7 (some .int) hL_derive 9 200 mc ms [.ref x, .int (xs (i + 1)), .int (xs (i + 2)), .int (xs (i + 3)), .int (xs (i + 4)), .ref o] M (fun v M1 => v = some (.int (nI code)) ∧ PC M1))
    (HR : ∀ M1, PC M1 → (∃ fs, M1 mm = some (fm_O 6 fs)) ∧ fm_Ct G yX6_derive cX6_derive 9 (some .int) fr lo 0 0 [.ref mm, .int (xs (i + 1)), .int (xs (i + 2)), .int (xs (i + 3)), .int (xs (i + 4))] M1 (fun v M2 => ∃ r, v = some (.int r) ∧ PR r M2))
    (HT : ∀ r M2, PR r M2 → (∃ rd S2, rd 0 = mm ∧ RPic G rd S2 M2 ∧ S2.2 0 = nI code) ∧ (code = 0 → ∃ f, M2 o = some (fm_L G 1 f) ∧ f 0 = r.toInt64))
    (kk : ∀ r M2, PR r M2 → GW G X 7 M2 (kc + 34) (ks + 2686) 755 (lwl b x mm o i) []) : GW G X 7 M kc ks 427 (lwl b x mm o i) [] := by
  refine g_aload_n C dL_law_427 rfl ?_
  refine g_arg C P 1 dL_law_428 dL_law_429 dL_law_431 dL_law_432 dL_law_433 rfl rfl rfl (by omega) (by omega) ?_
  refine g_arg C P 2 dL_law_434 dL_law_435 dL_law_437 dL_law_438 dL_law_439 rfl rfl rfl (by omega) (by omega) ?_
  refine g_arg C P 3 dL_law_440 dL_law_441 dL_law_443 dL_law_444 dL_law_445 rfl rfl rfl (by omega) (by omega) ?_
  refine g_arg C P 4 dL_law_446 dL_law_447 dL_law_449 dL_law_450 dL_law_451 rfl rfl rfl (by omega) (by omega) ?_
  refine g_aload_n C dL_law_452 rfl ?_
  refine g_callW C HS dL_law_453 cw_L_80 KC rfl rfl (Nat.le_of_ble_eq_true rfl) (by decide) (by decide) (by omega) (by omega) (fun v M1 hp => ?_)
  obtain ⟨rfl, hp⟩ := hp
  obtain ⟨⟨fs, hfs⟩, KR⟩ := HR M1 hp
  refine g_istore C dL_law_456 (by decide) ?_
  refine g_aload_n C dL_law_458 rfl ?_
  refine g_arg C P 1 dL_law_459 dL_law_460 dL_law_462 dL_law_463 dL_law_464 rfl rfl rfl (by omega) (by omega) ?_
  refine g_arg C P 2 dL_law_465 dL_law_466 dL_law_468 dL_law_469 dL_law_470 rfl rfl rfl (by omega) (by omega) ?_
  refine g_arg C P 3 dL_law_471 dL_law_472 dL_law_474 dL_law_475 dL_law_476 rfl rfl rfl (by omega) (by omega) ?_
  refine g_arg C P 4 dL_law_477 dL_law_478 dL_law_480 dL_law_481 dL_law_482 rfl rfl rfl (by omega) (by omega) ?_
  refine g_callV C dL_law_483 cw_L_82 rfl KR hfs rfl rfl (Nat.le_of_ble_eq_true rfl) hfr hlo (by omega) (by omega) (fun v M2 hq => ?_)
  obtain ⟨r, rfl, hq⟩ := hq
  obtain ⟨⟨rd, S2, e0, hR, e1⟩, hout⟩ := HT r M2 hq
  refine g_istore C dL_law_486 (by decide) ?_
  refine g_aload_n C dL_law_488 rfl ?_
  have KT := r_thrown G rd S2 M2 hR
  rw [e0, e1] at KT
  have hob := hR.ob
  rw [e0] at hob
  refine g_callV C dL_law_489 cw_L_60 rfl KT hob rfl rfl (Nat.le_of_ble_eq_true rfl) (by decide) (by decide) (by omega) (by omega) (fun v M3 hz => ?_)
  obtain ⟨rfl, hM⟩ := hz
  rw [hM]
  clear hM
  refine g_iload C dL_law_492 rfl ?_
  refine g_icmp_eq C dL_law_494 (tgt := 499) (by decide) (fun hb => ?_) (fun hb => absurd rfl hb)
  refine g_iload C dL_law_499 rfl ?_
  refine g_if_ne C dL_law_501 (tgt := 516) (by decide) (fun hb => ?_) (fun hb => ?_)
  · skip
    refine g_goto C dL_law_516 (tgt := 755) (by decide) ?_
    refine g_loc [0, 1, 2, 3, 4] rfl ?_
    exact g_wide (by omega) (by omega) (kk r _ hq)
  · have hc0 : code = 0 := (nI_eq (by omega) (by decide)).mp (hb.trans nI_0.symm)
    obtain ⟨f, hf, ef⟩ := hout hc0
    refine g_aload_n C dL_law_504 rfl ?_
    refine g_iconst C dL_law_505 (v := nI 0) rfl ?_
    refine g_laldN C dL_law_506 hf (by decide) (by decide) ?_
    refine g_iload C dL_law_507 rfl ?_
    refine g_i2l C dL_law_509 ?_
    refine g_lcmp C dL_law_510 ?_
    refine g_if_eq C dL_law_511 (tgt := 516) (by decide) (fun hb => ?_) (fun hb => absurd ((lg_cmp_eq _ _).mpr ef) hb)
    refine g_goto C dL_law_516 (tgt := 755) (by decide) ?_
    refine g_loc [0, 1, 2, 3, 4] rfl ?_
    exact g_wide (by omega) (by omega) (kk r _ hq)
set_option maxHeartbeats 4000000 in
set_option maxRecDepth 100000 in
theorem t_step {G : fm_G} {X : fm_X} (C : GCL G X) (HS : GS X) {b L : Nat} {xs : Nat → Int32} (P : GP X b L xs) (hL : L ≤ 3072) {M : fm_M} {i x mm o kc ks code mc ms fr lo : Nat} {PC : fm_M → Prop} {PR : Int32 → fm_M → Prop} (hi : i + 6 ≤ L) (hc : kc + 34 ≤ room_1.cells) (hs : ks + 2686 ≤ room_1.slots) (hmc : mc ≤ 34) (hms : ms ≤ 2686) (hcd : code < 4) (hfr : fr + 1 ≤ 12) (hlo : 8 + (2 + 11) + lo ≤ 438)
    (KC : fm_CtW G yL_step cL_step 4 (some .int) hL_step 9 200 mc ms [.ref x, .int (xs (i + 1)), .ref o] M (fun v M1 => v = some (.int (nI code)) ∧ PC M1))
    (HR : ∀ M1, PC M1 → (∃ fs, M1 mm = some (fm_O 6 fs)) ∧ fm_Ct G yX6_step cX6_step 2 (some .int) fr lo 0 0 [.ref mm, .int (xs (i + 1))] M1 (fun v M2 => ∃ r, v = some (.int r) ∧ PR r M2))
    (HT : ∀ r M2, PR r M2 → (∃ rd S2, rd 0 = mm ∧ RPic G rd S2 M2 ∧ S2.2 0 = nI code) ∧ (code = 0 → ∃ f, M2 o = some (fm_L G 1 f) ∧ f 0 = r.toInt64))
    (kk : ∀ r M2, PR r M2 → GW G X 7 M2 (kc + 34) (ks + 2686) 755 (lwl b x mm o i) []) : GW G X 7 M kc ks 519 (lwl b x mm o i) [] := by
  refine g_aload_n C dL_law_519 rfl ?_
  refine g_arg C P 1 dL_law_520 dL_law_521 dL_law_523 dL_law_524 dL_law_525 rfl rfl rfl (by omega) (by omega) ?_
  refine g_aload_n C dL_law_526 rfl ?_
  refine g_callW C HS dL_law_527 cw_L_83 KC rfl rfl (Nat.le_of_ble_eq_true rfl) (by decide) (by decide) (by omega) (by omega) (fun v M1 hp => ?_)
  obtain ⟨rfl, hp⟩ := hp
  obtain ⟨⟨fs, hfs⟩, KR⟩ := HR M1 hp
  refine g_istore C dL_law_530 (by decide) ?_
  refine g_aload_n C dL_law_532 rfl ?_
  refine g_arg C P 1 dL_law_533 dL_law_534 dL_law_536 dL_law_537 dL_law_538 rfl rfl rfl (by omega) (by omega) ?_
  refine g_callV C dL_law_539 cw_L_85 rfl KR hfs rfl rfl (Nat.le_of_ble_eq_true rfl) hfr hlo (by omega) (by omega) (fun v M2 hq => ?_)
  obtain ⟨r, rfl, hq⟩ := hq
  obtain ⟨⟨rd, S2, e0, hR, e1⟩, hout⟩ := HT r M2 hq
  refine g_istore C dL_law_542 (by decide) ?_
  refine g_aload_n C dL_law_544 rfl ?_
  have KT := r_thrown G rd S2 M2 hR
  rw [e0, e1] at KT
  have hob := hR.ob
  rw [e0] at hob
  refine g_callV C dL_law_545 cw_L_60 rfl KT hob rfl rfl (Nat.le_of_ble_eq_true rfl) (by decide) (by decide) (by omega) (by omega) (fun v M3 hz => ?_)
  obtain ⟨rfl, hM⟩ := hz
  rw [hM]
  clear hM
  refine g_iload C dL_law_548 rfl ?_
  refine g_icmp_eq C dL_law_550 (tgt := 555) (by decide) (fun hb => ?_) (fun hb => absurd rfl hb)
  refine g_iload C dL_law_555 rfl ?_
  refine g_if_ne C dL_law_557 (tgt := 572) (by decide) (fun hb => ?_) (fun hb => ?_)
  · skip
    refine g_goto C dL_law_572 (tgt := 755) (by decide) ?_
    refine g_loc [0, 1, 2, 3, 4] rfl ?_
    exact g_wide (by omega) (by omega) (kk r _ hq)
  · have hc0 : code = 0 := (nI_eq (by omega) (by decide)).mp (hb.trans nI_0.symm)
    obtain ⟨f, hf, ef⟩ := hout hc0
    refine g_aload_n C dL_law_560 rfl ?_
    refine g_iconst C dL_law_561 (v := nI 0) rfl ?_
    refine g_laldN C dL_law_562 hf (by decide) (by decide) ?_
    refine g_iload C dL_law_563 rfl ?_
    refine g_i2l C dL_law_565 ?_
    refine g_lcmp C dL_law_566 ?_
    refine g_if_eq C dL_law_567 (tgt := 572) (by decide) (fun hb => ?_) (fun hb => absurd ((lg_cmp_eq _ _).mpr ef) hb)
    refine g_goto C dL_law_572 (tgt := 755) (by decide) ?_
    refine g_loc [0, 1, 2, 3, 4] rfl ?_
    exact g_wide (by omega) (by omega) (kk r _ hq)
set_option maxHeartbeats 4000000 in
set_option maxRecDepth 100000 in
theorem t_use {G : fm_G} {X : fm_X} (C : GCL G X) (HS : GS X) {b L : Nat} {xs : Nat → Int32} (P : GP X b L xs) (hL : L ≤ 3072) {M : fm_M} {i x mm o kc ks code mc ms fr lo : Nat} {PC : fm_M → Prop} {PR : Int32 → fm_M → Prop} (hi : i + 6 ≤ L) (hc : kc + 34 ≤ room_1.cells) (hs : ks + 2686 ≤ room_1.slots) (hmc : mc ≤ 34) (hms : ms ≤ 2686) (hcd : code < 4) (hfr : fr + 1 ≤ 12) (hlo : 8 + (4 + 11) + lo ≤ 438)
    (KC : fm_CtW G yL_use cL_use 5 (some .int) hL_use 9 200 mc ms [.ref x, .int (xs (i + 1)), .int (xs (i + 2)), .ref o] M (fun v M1 => v = some (.int (nI code)) ∧ PC M1))
    (HR : ∀ M1, PC M1 → (∃ fs, M1 mm = some (fm_O 6 fs)) ∧ fm_Ct G yX6_use cX6_use 4 (some .int) fr lo 0 0 [.ref mm, .int (xs (i + 1)), .int (xs (i + 2))] M1 (fun v M2 => ∃ r, v = some (.int r) ∧ PR r M2))
    (HT : ∀ r M2, PR r M2 → (∃ rd S2, rd 0 = mm ∧ RPic G rd S2 M2 ∧ S2.2 0 = nI code) ∧ (code = 0 → ∃ f, M2 o = some (fm_L G 1 f) ∧ f 0 = r.toInt64))
    (kk : ∀ r M2, PR r M2 → GW G X 7 M2 (kc + 34) (ks + 2686) 755 (lwl b x mm o i) []) : GW G X 7 M kc ks 575 (lwl b x mm o i) [] := by
  refine g_aload_n C dL_law_575 rfl ?_
  refine g_arg C P 1 dL_law_576 dL_law_577 dL_law_579 dL_law_580 dL_law_581 rfl rfl rfl (by omega) (by omega) ?_
  refine g_arg C P 2 dL_law_582 dL_law_583 dL_law_585 dL_law_586 dL_law_587 rfl rfl rfl (by omega) (by omega) ?_
  refine g_aload_n C dL_law_588 rfl ?_
  refine g_callW C HS dL_law_589 cw_L_86 KC rfl rfl (Nat.le_of_ble_eq_true rfl) (by decide) (by decide) (by omega) (by omega) (fun v M1 hp => ?_)
  obtain ⟨rfl, hp⟩ := hp
  obtain ⟨⟨fs, hfs⟩, KR⟩ := HR M1 hp
  refine g_istore C dL_law_592 (by decide) ?_
  refine g_aload_n C dL_law_594 rfl ?_
  refine g_arg C P 1 dL_law_595 dL_law_596 dL_law_598 dL_law_599 dL_law_600 rfl rfl rfl (by omega) (by omega) ?_
  refine g_arg C P 2 dL_law_601 dL_law_602 dL_law_604 dL_law_605 dL_law_606 rfl rfl rfl (by omega) (by omega) ?_
  refine g_callV C dL_law_607 cw_L_88 rfl KR hfs rfl rfl (Nat.le_of_ble_eq_true rfl) hfr hlo (by omega) (by omega) (fun v M2 hq => ?_)
  obtain ⟨r, rfl, hq⟩ := hq
  obtain ⟨⟨rd, S2, e0, hR, e1⟩, hout⟩ := HT r M2 hq
  refine g_istore C dL_law_610 (by decide) ?_
  refine g_aload_n C dL_law_612 rfl ?_
  have KT := r_thrown G rd S2 M2 hR
  rw [e0, e1] at KT
  have hob := hR.ob
  rw [e0] at hob
  refine g_callV C dL_law_613 cw_L_60 rfl KT hob rfl rfl (Nat.le_of_ble_eq_true rfl) (by decide) (by decide) (by omega) (by omega) (fun v M3 hz => ?_)
  obtain ⟨rfl, hM⟩ := hz
  rw [hM]
  clear hM
  refine g_iload C dL_law_616 rfl ?_
  refine g_icmp_eq C dL_law_618 (tgt := 623) (by decide) (fun hb => ?_) (fun hb => absurd rfl hb)
  refine g_iload C dL_law_623 rfl ?_
  refine g_if_ne C dL_law_625 (tgt := 640) (by decide) (fun hb => ?_) (fun hb => ?_)
  · skip
    refine g_goto C dL_law_640 (tgt := 755) (by decide) ?_
    refine g_loc [0, 1, 2, 3, 4] rfl ?_
    exact g_wide (by omega) (by omega) (kk r _ hq)
  · have hc0 : code = 0 := (nI_eq (by omega) (by decide)).mp (hb.trans nI_0.symm)
    obtain ⟨f, hf, ef⟩ := hout hc0
    refine g_aload_n C dL_law_628 rfl ?_
    refine g_iconst C dL_law_629 (v := nI 0) rfl ?_
    refine g_laldN C dL_law_630 hf (by decide) (by decide) ?_
    refine g_iload C dL_law_631 rfl ?_
    refine g_i2l C dL_law_633 ?_
    refine g_lcmp C dL_law_634 ?_
    refine g_if_eq C dL_law_635 (tgt := 640) (by decide) (fun hb => ?_) (fun hb => absurd ((lg_cmp_eq _ _).mpr ef) hb)
    refine g_goto C dL_law_640 (tgt := 755) (by decide) ?_
    refine g_loc [0, 1, 2, 3, 4] rfl ?_
    exact g_wide (by omega) (by omega) (kk r _ hq)
set_option maxHeartbeats 4000000 in
set_option maxRecDepth 100000 in
theorem t_fit {G : fm_G} {X : fm_X} (C : GCL G X) (HS : GS X) {b L : Nat} {xs : Nat → Int32} (P : GP X b L xs) (hL : L ≤ 3072) {M : fm_M} {i x mm o kc ks code mc ms fr lo : Nat} {PC : fm_M → Prop} {PR : Int32 → fm_M → Prop} (hi : i + 6 ≤ L) (hc : kc + 34 ≤ room_1.cells) (hs : ks + 2686 ≤ room_1.slots) (hmc : mc ≤ 34) (hms : ms ≤ 2686) (hcd : code < 4) (hfr : fr + 1 ≤ 12) (hlo : 8 + (4 + 11) + lo ≤ 438)
    (KC : fm_CtW G yL_fit cL_fit 4 (some .int) hL_fit 9 200 mc ms [.ref x, .int (xs (i + 1)), .ref o] M (fun v M1 => v = some (.int (nI code)) ∧ PC M1))
    (HR : ∀ M1, PC M1 → (∃ fs, M1 mm = some (fm_O 6 fs)) ∧ fm_Ct G yX6_fit cX6_fit 4 (some .int) fr lo 0 0 [.ref mm, .int (xs (i + 1))] M1 (fun v M2 => ∃ r, v = some (.int r) ∧ PR r M2))
    (HT : ∀ r M2, PR r M2 → (∃ rd S2, rd 0 = mm ∧ RPic G rd S2 M2 ∧ S2.2 0 = nI code) ∧ (code = 0 → ∃ f, M2 o = some (fm_L G 1 f) ∧ f 0 = r.toInt64))
    (kk : ∀ r M2, PR r M2 → GW G X 7 M2 (kc + 34) (ks + 2686) 755 (lwl b x mm o i) []) : GW G X 7 M kc ks 643 (lwl b x mm o i) [] := by
  refine g_aload_n C dL_law_643 rfl ?_
  refine g_arg C P 1 dL_law_644 dL_law_645 dL_law_647 dL_law_648 dL_law_649 rfl rfl rfl (by omega) (by omega) ?_
  refine g_aload_n C dL_law_650 rfl ?_
  refine g_callW C HS dL_law_651 cw_L_89 KC rfl rfl (Nat.le_of_ble_eq_true rfl) (by decide) (by decide) (by omega) (by omega) (fun v M1 hp => ?_)
  obtain ⟨rfl, hp⟩ := hp
  obtain ⟨⟨fs, hfs⟩, KR⟩ := HR M1 hp
  refine g_istore C dL_law_654 (by decide) ?_
  refine g_aload_n C dL_law_656 rfl ?_
  refine g_arg C P 1 dL_law_657 dL_law_658 dL_law_660 dL_law_661 dL_law_662 rfl rfl rfl (by omega) (by omega) ?_
  refine g_callV C dL_law_663 cw_L_91 rfl KR hfs rfl rfl (Nat.le_of_ble_eq_true rfl) hfr hlo (by omega) (by omega) (fun v M2 hq => ?_)
  obtain ⟨r, rfl, hq⟩ := hq
  obtain ⟨⟨rd, S2, e0, hR, e1⟩, hout⟩ := HT r M2 hq
  refine g_istore C dL_law_666 (by decide) ?_
  refine g_aload_n C dL_law_668 rfl ?_
  have KT := r_thrown G rd S2 M2 hR
  rw [e0, e1] at KT
  have hob := hR.ob
  rw [e0] at hob
  refine g_callV C dL_law_669 cw_L_60 rfl KT hob rfl rfl (Nat.le_of_ble_eq_true rfl) (by decide) (by decide) (by omega) (by omega) (fun v M3 hz => ?_)
  obtain ⟨rfl, hM⟩ := hz
  rw [hM]
  clear hM
  refine g_iload C dL_law_672 rfl ?_
  refine g_icmp_eq C dL_law_674 (tgt := 679) (by decide) (fun hb => ?_) (fun hb => absurd rfl hb)
  refine g_iload C dL_law_679 rfl ?_
  refine g_if_ne C dL_law_681 (tgt := 696) (by decide) (fun hb => ?_) (fun hb => ?_)
  · skip
    refine g_goto C dL_law_696 (tgt := 755) (by decide) ?_
    refine g_loc [0, 1, 2, 3, 4] rfl ?_
    exact g_wide (by omega) (by omega) (kk r _ hq)
  · have hc0 : code = 0 := (nI_eq (by omega) (by decide)).mp (hb.trans nI_0.symm)
    obtain ⟨f, hf, ef⟩ := hout hc0
    refine g_aload_n C dL_law_684 rfl ?_
    refine g_iconst C dL_law_685 (v := nI 0) rfl ?_
    refine g_laldN C dL_law_686 hf (by decide) (by decide) ?_
    refine g_iload C dL_law_687 rfl ?_
    refine g_i2l C dL_law_689 ?_
    refine g_lcmp C dL_law_690 ?_
    refine g_if_eq C dL_law_691 (tgt := 696) (by decide) (fun hb => ?_) (fun hb => absurd ((lg_cmp_eq _ _).mpr ef) hb)
    refine g_goto C dL_law_696 (tgt := 755) (by decide) ?_
    refine g_loc [0, 1, 2, 3, 4] rfl ?_
    exact g_wide (by omega) (by omega) (kk r _ hq)
set_option maxHeartbeats 4000000 in
set_option maxRecDepth 100000 in
theorem t_letters {G : fm_G} {X : fm_X} (C : GCL G X) (HS : GS X) {b L : Nat} {xs : Nat → Int32} (P : GP X b L xs) (hL : L ≤ 3072) {M : fm_M} {i x mm o kc ks code mc ms fr lo : Nat} {PC : fm_M → Prop} {PR : Int32 → fm_M → Prop} (hi : i + 6 ≤ L) (hc : kc + 34 ≤ room_1.cells) (hs : ks + 2686 ≤ room_1.slots) (hmc : mc ≤ 34) (hms : ms ≤ 2686) (hcd : code < 4) (hfr : fr + 1 ≤ 12) (hlo : 8 + (2 + 11) + lo ≤ 438)
    (KC : fm_CtW G yL_letters cL_letters 4 (some .int) hL_letters 9 200 mc ms [.ref x, .int (xs (i + 1)), .ref o] M (fun v M1 => v = some (.int (nI code)) ∧ PC M1))
    (HR : ∀ M1, PC M1 → (∃ fs, M1 mm = some (fm_O 6 fs)) ∧ fm_Ct G yX6_letters cX6_letters 2 (some .int) fr lo 0 0 [.ref mm, .int (xs (i + 1))] M1 (fun v M2 => ∃ r, v = some (.int r) ∧ PR r M2))
    (HT : ∀ r M2, PR r M2 → (∃ rd S2, rd 0 = mm ∧ RPic G rd S2 M2 ∧ S2.2 0 = nI code) ∧ (code = 0 → ∃ f, M2 o = some (fm_L G 1 f) ∧ f 0 = r.toInt64))
    (kk : ∀ r M2, PR r M2 → GW G X 7 M2 (kc + 34) (ks + 2686) 755 (lwl b x mm o i) []) : GW G X 7 M kc ks 699 (lwl b x mm o i) [] := by
  refine g_aload_n C dL_law_699 rfl ?_
  refine g_arg C P 1 dL_law_700 dL_law_701 dL_law_703 dL_law_704 dL_law_705 rfl rfl rfl (by omega) (by omega) ?_
  refine g_aload_n C dL_law_706 rfl ?_
  refine g_callW C HS dL_law_707 cw_L_92 KC rfl rfl (Nat.le_of_ble_eq_true rfl) (by decide) (by decide) (by omega) (by omega) (fun v M1 hp => ?_)
  obtain ⟨rfl, hp⟩ := hp
  obtain ⟨⟨fs, hfs⟩, KR⟩ := HR M1 hp
  refine g_istore C dL_law_710 (by decide) ?_
  refine g_aload_n C dL_law_712 rfl ?_
  refine g_arg C P 1 dL_law_713 dL_law_714 dL_law_716 dL_law_717 dL_law_718 rfl rfl rfl (by omega) (by omega) ?_
  refine g_callV C dL_law_719 cw_L_94 rfl KR hfs rfl rfl (Nat.le_of_ble_eq_true rfl) hfr hlo (by omega) (by omega) (fun v M2 hq => ?_)
  obtain ⟨r, rfl, hq⟩ := hq
  obtain ⟨⟨rd, S2, e0, hR, e1⟩, hout⟩ := HT r M2 hq
  refine g_istore C dL_law_722 (by decide) ?_
  refine g_aload_n C dL_law_724 rfl ?_
  have KT := r_thrown G rd S2 M2 hR
  rw [e0, e1] at KT
  have hob := hR.ob
  rw [e0] at hob
  refine g_callV C dL_law_725 cw_L_60 rfl KT hob rfl rfl (Nat.le_of_ble_eq_true rfl) (by decide) (by decide) (by omega) (by omega) (fun v M3 hz => ?_)
  obtain ⟨rfl, hM⟩ := hz
  rw [hM]
  clear hM
  refine g_iload C dL_law_728 rfl ?_
  refine g_icmp_eq C dL_law_730 (tgt := 735) (by decide) (fun hb => ?_) (fun hb => absurd rfl hb)
  refine g_iload C dL_law_735 rfl ?_
  refine g_if_ne C dL_law_737 (tgt := 752) (by decide) (fun hb => ?_) (fun hb => ?_)
  · skip
    refine g_goto C dL_law_752 (tgt := 755) (by decide) ?_
    refine g_loc [0, 1, 2, 3, 4] rfl ?_
    exact g_wide (by omega) (by omega) (kk r _ hq)
  · have hc0 : code = 0 := (nI_eq (by omega) (by decide)).mp (hb.trans nI_0.symm)
    obtain ⟨f, hf, ef⟩ := hout hc0
    refine g_aload_n C dL_law_740 rfl ?_
    refine g_iconst C dL_law_741 (v := nI 0) rfl ?_
    refine g_laldN C dL_law_742 hf (by decide) (by decide) ?_
    refine g_iload C dL_law_743 rfl ?_
    refine g_i2l C dL_law_745 ?_
    refine g_lcmp C dL_law_746 ?_
    refine g_if_eq C dL_law_747 (tgt := 752) (by decide) (fun hb => ?_) (fun hb => absurd ((lg_cmp_eq _ _).mpr ef) hb)
    refine g_goto C dL_law_752 (tgt := 755) (by decide) ?_
    refine g_loc [0, 1, 2, 3, 4] rfl ?_
    exact g_wide (by omega) (by omega) (kk r _ hq)
