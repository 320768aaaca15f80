/-! THE REFERENCE: rootOf, spread -/
theorem hw_has {g : Gr} {F : Nat → Int32} (h : hwI g F) {k : Nat} (hk : k < 4000) {n c : Nat} (hn : n < 5) (hc : c < 512) : (0 < F (512 * n + c) ∧ F (512 * n + c) < nI (k + 1)) ↔ Hh g k n c := by
  rcases h n c hn hc with ⟨⟨j, q1⟩, q2, q3⟩ | ⟨q1, q2⟩
  · rw [q2, hgt_iff q1]
    have := hgt_pos q1
    constructor
    · rintro ⟨_, z⟩
      have := (nI_ltI (by omega) (by omega)).mp z
      omega
    · intro z
      exact ⟨(nI_ltI (a := 0) (by omega) (by omega)).mpr (by omega), (nI_ltI (by omega) (by omega)).mpr (by omega)⟩
  · rw [q2]
    exact ⟨fun z => absurd z.1 Int32.lt_irrefl, fun z => absurd ⟨k, z⟩ q1⟩
theorem dle_ok {x y : Nat} (hy : y < 512) : dle x y ↔ x ≤ y ∧ okc x (y - x) = true := by
  constructor
  · intro h
    obtain ⟨h1, h2, h3⟩ := h
    have hle : x ≤ y := by omega
    exact ⟨hle, (okc_le hle hy).mpr ⟨h1, by omega, by omega⟩⟩
  · rintro ⟨h1, h2⟩
    have := (okc_le h1 hy).mp h2
    exact ⟨this.1, by omega, by omega⟩
theorem rest_ok {Q : Nat → Prop} {l v : Nat} (hv : v < 512) : (∃ w, Q w ∧ okc w l = true ∧ v = w + l) ↔ (dle l v ∧ Q (v - l)) := by
  constructor
  · rintro ⟨w, h1, h2, h3⟩
    refine ⟨(dle_ok hv).mpr ⟨by omega, ?_⟩, ?_⟩
    · rw [show v - l = w by omega, okc_comm]; exact h2
    · rw [show v - l = w by omega]; exact h1
  · rintro ⟨h1, h2⟩
    obtain ⟨q1, q2⟩ := (dle_ok hv).mp h1
    exact ⟨v - l, h2, by rw [okc_comm]; exact q2, by omega⟩
theorem EH_root {a : Ab} (ha : AbOk a) {r : Nat} (hr : r < a.nR) {k v : Nat} (hv : v < 512) : EH (gO a) r 0 (k + 1) v ↔ (dle (lcf (a.sy r) 4) v ∧ Sq (Hh (gO a) k) (a.sy r) 4 (v - lcf (a.sy r) 4)) := by
  have q := EHq ha hr k 4 (Nat.le_refl 4) v
  have e0 : nz (a.sy r) (4 - 4) = 0 := rfl
  rw [e0] at q
  rw [q]
  exact rest_ok (Q := Sq (Hh (gO a) k) (a.sy r) 4) hv

set_option maxHeartbeats 4000000 in
set_option maxRecDepth 100000 in
theorem l_rootOf {G : fm_G} {rd : Nat → Nat} {S : Rs} {M : fm_M} {X : fm_X} {fr lo mc ms : Nat} {a : Ab} {n v k : Nat} (C : GC G X RX6 cX6_rootOf 6 (fr + 3) (lo + 74) mc ms) (ha : AbOk a) (hy : ryI a S) (hw : hwI (gO a) (S.1 4)) (hn : n < 5) (hv : v < 512) (hk : k < 4000) (hh : hgt (gO a) n v = k + 1) (hT : Tr (gO a) n v) (kk : ∀ S' M1 ls, RPic G rd S' M1 → RFr rd M M1 → eq5 S S' → rwI (Hh (gO a) k) (a.sy (rootF (gO a) n v)) 0 (S'.1 5) → GW G X 6 M1 0 0 75 ls [.int (nI (rootF (gO a) n v))]) : ∀ d r S1 M1, r + d = rootF (gO a) n v → RPic G rd S1 M1 → RFr rd M M1 → eq5 S S1 → GW G X 6 M1 0 0 16 [(0, .ref (rd 0)), (1, .int (nI n)), (2, .int (nI v)), (3, .int (nI (k + 1))), (4, .int (nI r))] [] := by
  have h10 := ha.1
  obtain ⟨b1, b2, b3⟩ := rootF_at hT
  have b1 : rootF (gO a) n v < a.nR := b1
  rw [hh] at b3
  have least : ∀ r, r < rootF (gO a) n v → ¬ (a.lf r = n ∧ EH (gO a) r 0 (k + 1) v) := fun r hr z => by
    obtain ⟨j, hj⟩ := hT
    obtain ⟨r0, z0⟩ := (Hh_EH (gO a) _ n v).mp (hgt_at hj)
    refine (leastN_spec (P := fun r => r < (gO a).nR ∧ (gO a).lf r = n ∧ EH (gO a) r 0 (hgt (gO a) n v) v) z0).2 r hr ⟨Nat.lt_trans hr b1, z.1, ?_⟩
    rw [hh]; exact z.2
  intro d
  induction d with
  | zero =>
    intro r S1 M1 hr P1 F1 E1
    have e : r = rootF (gO a) n v := by omega
    subst e
    have y1 := E1.ry hy
    have e0 : S1.2 1 = nI a.nR := y1.1
    have l1 : S1.1 1 (rootF (gO a) n v) = nI n := by rw [(y1.2 _ b1).1]; congr 1
    obtain ⟨d1, d2⟩ := (EH_root ha b1 hv).mp b3
    have hlc : lcf (a.sy (rootF (gO a) n v)) 4 < 512 := ((gO_ok ha).2 _ b1).2.2.1
    refine g_iload C dX6_rootOf_16 rfl ?_
    refine g_aload_n C dX6_rootOf_18 rfl ?_
    refine g_getf C fl_X6_53 dX6_rootOf_19 P1.ob rfl ?_
    rw [e0]
    refine g_icmp_geN C dX6_rootOf_22 (tgt := 82) (by decide) (by omega) (by omega) (fun hb => absurd hb (by omega)) (fun hb => ?_)
    refine g_iload_n C dX6_rootOf_25 rfl ?_
    refine g_aload_n C dX6_rootOf_26 rfl ?_
    refine g_iload C dX6_rootOf_27 rfl ?_
    refine g_callV (ci := 6) C dX6_rootOf_29 cw_X6_84 rfl (r_own G rd S1 M1 P1 a ha y1 _ b1) P1.ob rfl rfl (Nat.le_of_ble_eq_true rfl) (by omega) (by omega) (by omega) (by omega) (fun u M2 hq => ?_)
    obtain ⟨rfl, rfl⟩ := hq
    show GW G X 6 M2 0 0 32 _ (.int (nI (lcf (a.sy (rootF (gO a) n v)) 4)) :: .int (nI v) :: [])
    refine g_callS C dX6_rootOf_32 cw_X6_101 (r_less G M2 v _ hv hlc) rfl rfl (Nat.le_of_ble_eq_true rfl) (by omega) (by omega) (by omega) (by omega) (fun u M3 hq => ?_)
    obtain ⟨rfl, rfl⟩ := hq
    rw [pB_t d1, if_pos rfl]
    show GW G X 6 M3 0 0 35 _ [.int (nI (v - lcf (a.sy (rootF (gO a) n v)) 4))]
    refine g_istore C dX6_rootOf_35 (by decide) ?_
    refine g_aload_n C dX6_rootOf_37 rfl ?_
    refine g_getf C fl_X6_7 dX6_rootOf_38 P1.ob rfl ?_
    refine g_iload C dX6_rootOf_41 rfl ?_
    refine g_ialdN C dX6_rootOf_43 P1.k1 (show rootF (gO a) n v < 10 by omega) (by decide) ?_
    rw [l1]
    refine g_iload_n C dX6_rootOf_44 rfl ?_
    refine g_icmp_ne C dX6_rootOf_45 (tgt := 76) (by decide) (fun z => absurd rfl z) (fun _ => ?_)
    refine g_iload C dX6_rootOf_48 rfl ?_
    refine g_if_ge C dX6_rootOf_50 (tgt := 56) (by decide) (fun _ => ?_) (fun z => absurd (nI_pos' (by omega)) z)
    refine g_aload_n C dX6_rootOf_56 rfl ?_
    refine g_iload C dX6_rootOf_57 rfl ?_
    refine g_iload_n C dX6_rootOf_59 rfl ?_
    refine g_callV (ci := 6) C dX6_rootOf_60 cw_X6_81 rfl (r_reckonSums G rd S1 M3 P1 a ha y1 _ (nI (k + 1)) (Hh (gO a) k) b1 (fun n' c hn' hc => by rw [E1.2 4 (by decide)]; exact hw_has hw hk hn' hc)) P1.ob rfl rfl (Nat.le_of_ble_eq_true rfl) (by omega) (by omega) (by omega) (by omega) (fun u M4 hq => ?_)
    obtain ⟨rfl, S4, P4, F4, E4, I4⟩ := hq
    obtain ⟨s, s1, s2⟩ := I4 0 (Nat.le_refl 0) (by decide)
    have hs := s1 (v - lcf (a.sy (rootF (gO a) n v)) 4) (by omega)
    rw [(s2 _ (by omega)).mpr d2, show 512 * 0 + (v - lcf (a.sy (rootF (gO a) n v)) 4) = v - lcf (a.sy (rootF (gO a) n v)) 4 by omega] at hs
    show GW G X 6 M4 0 0 63 _ []
    refine g_aload_n C dX6_rootOf_63 rfl ?_
    refine g_getf C fl_X6_22 dX6_rootOf_64 P4.ob rfl ?_
    refine g_iload C dX6_rootOf_67 rfl ?_
    refine g_zaldN C dX6_rootOf_69 P4.k5 (show v - lcf (a.sy (rootF (gO a) n v)) 4 < 2560 by omega) (by decide) ?_
    rw [hs]
    refine g_if_eq C dX6_rootOf_70 (tgt := 76) (by decide) (fun z => absurd z (by decide)) (fun _ => ?_)
    refine g_iload C dX6_rootOf_73 rfl ?_
    exact kk S4 M4 _ P4 (F1.tr F4) (E1.tr E4) I4
  | succ d ih =>
    intro r S1 M1 hr P1 F1 E1
    have hrr : r < rootF (gO a) n v := by omega
    have hrn : r < a.nR := by omega
    have y1 := E1.ry hy
    have e0 : S1.2 1 = nI a.nR := y1.1
    have l1 := (y1.2 r hrn).1
    have hno := least r hrr
    have hlf := (ha.2.1 r hrn).1
    have hlc : lcf (a.sy r) 4 < 512 := ((gO_ok ha).2 _ hrn).2.2.1
    have nxt : ∀ S2 M2 ls, fm_sel ls [0, 1, 2, 3, 4] = some [(0, .ref (rd 0)), (1, .int (nI n)), (2, .int (nI v)), (3, .int (nI (k + 1))), (4, .int (nI r))] → RPic G rd S2 M2 → RFr rd M M2 → eq5 S S2 → GW G X 6 M2 0 0 76 ls [] := by
      intro S2 M2 ls hls P2 F2 E2
      refine g_loc [0, 1, 2, 3, 4] hls ?_
      refine g_inc1 C dX6_rootOf_76 rfl (by decide) ?_
      refine g_goto C dX6_rootOf_79 (tgt := 16) (by decide) ?_
      exact ih (r + 1) S2 M2 (by omega) P2 F2 E2
    refine g_iload C dX6_rootOf_16 rfl ?_
    refine g_aload_n C dX6_rootOf_18 rfl ?_
    refine g_getf C fl_X6_53 dX6_rootOf_19 P1.ob rfl ?_
    rw [e0]
    refine g_icmp_geN C dX6_rootOf_22 (tgt := 82) (by decide) (by omega) (by omega) (fun hb => absurd hb (by omega)) (fun hb => ?_)
    refine g_iload_n C dX6_rootOf_25 rfl ?_
    refine g_aload_n C dX6_rootOf_26 rfl ?_
    refine g_iload C dX6_rootOf_27 rfl ?_
    refine g_callV (ci := 6) C dX6_rootOf_29 cw_X6_84 rfl (r_own G rd S1 M1 P1 a ha y1 r hrn) P1.ob rfl rfl (Nat.le_of_ble_eq_true rfl) (by omega) (by omega) (by omega) (by omega) (fun u M2 hq => ?_)
    obtain ⟨rfl, rfl⟩ := hq
    show GW G X 6 M2 0 0 32 _ (.int (nI (lcf (a.sy r) 4)) :: .int (nI v) :: [])
    refine g_callS C dX6_rootOf_32 cw_X6_101 (r_less G M2 v _ hv hlc) rfl rfl (Nat.le_of_ble_eq_true rfl) (by omega) (by omega) (by omega) (by omega) (fun u M3 hq => ?_)
    obtain ⟨rfl, rfl⟩ := hq
    show GW G X 6 M3 0 0 35 _ [.int (if pB (dle (lcf (a.sy r) 4) v) = true then nI (v - lcf (a.sy r) 4) else -1)]
    refine g_istore C dX6_rootOf_35 (by decide) ?_
    refine g_aload_n C dX6_rootOf_37 rfl ?_
    refine g_getf C fl_X6_7 dX6_rootOf_38 P1.ob rfl ?_
    refine g_iload C dX6_rootOf_41 rfl ?_
    refine g_ialdN C dX6_rootOf_43 P1.k1 (show r < 10 by omega) (by decide) ?_
    rw [l1]
    refine g_iload_n C dX6_rootOf_44 rfl ?_
    refine g_icmp_neN C dX6_rootOf_45 (tgt := 76) (by decide) (by omega) (by omega) (fun z => nxt S1 M3 _ rfl P1 F1 E1) (fun z1 => ?_)
    refine g_iload C dX6_rootOf_48 rfl ?_
    by_cases hd : dle (lcf (a.sy r) 4) v
    · rw [pB_t hd, if_pos rfl]
      have hnq : ¬ Sq (Hh (gO a) k) (a.sy r) 4 (v - lcf (a.sy r) 4) := fun z => hno ⟨z1, (EH_root ha hrn hv).mpr ⟨hd, z⟩⟩
      refine g_if_ge C dX6_rootOf_50 (tgt := 56) (by decide) (fun _ => ?_) (fun z => absurd (nI_pos' (by omega)) z)
      refine g_aload_n C dX6_rootOf_56 rfl ?_
      refine g_iload C dX6_rootOf_57 rfl ?_
      refine g_iload_n C dX6_rootOf_59 rfl ?_
      refine g_callV (ci := 6) C dX6_rootOf_60 cw_X6_81 rfl (r_reckonSums G rd S1 M3 P1 a ha y1 r (nI (k + 1)) (Hh (gO a) k) hrn (fun n' c hn' hc => by rw [E1.2 4 (by decide)]; exact hw_has hw hk hn' hc)) P1.ob rfl rfl (Nat.le_of_ble_eq_true rfl) (by omega) (by omega) (by omega) (by omega) (fun u M4 hq => ?_)
      obtain ⟨rfl, S4, P4, F4, E4, I4⟩ := hq
      obtain ⟨s, s1, s2⟩ := I4 0 (Nat.le_refl 0) (by decide)
      have hs := s1 (v - lcf (a.sy r) 4) (by omega)
      have hsf : s (v - lcf (a.sy r) 4) = false := by
        cases hq : s (v - lcf (a.sy r) 4) with
        | false => rfl
        | true => exact absurd ((s2 _ (by omega)).mp hq) hnq
      rw [hsf, show 512 * 0 + (v - lcf (a.sy r) 4) = v - lcf (a.sy r) 4 by omega] at hs
      show GW G X 6 M4 0 0 63 _ []
      refine g_aload_n C dX6_rootOf_63 rfl ?_
      refine g_getf C fl_X6_22 dX6_rootOf_64 P4.ob rfl ?_
      refine g_iload C dX6_rootOf_67 rfl ?_
      refine g_zaldN C dX6_rootOf_69 P4.k5 (show v - lcf (a.sy r) 4 < 2560 by omega) (by decide) ?_
      rw [hs]
      refine g_if_eq C dX6_rootOf_70 (tgt := 76) (by decide) (fun z => nxt S4 M4 _ rfl P4 (F1.tr F4) (E1.tr E4)) (fun z => absurd (by decide) z)
    · rw [pB_f hd, if_neg Bool.false_ne_true]
      refine g_if_ge C dX6_rootOf_50 (tgt := 56) (by decide) (fun z => absurd z (by decide)) (fun z => ?_)
      refine g_goto C dX6_rootOf_53 (tgt := 76) (by decide) ?_
      exact nxt S1 M3 _ rfl P1 F1 E1

set_option maxHeartbeats 4000000 in
set_option maxRecDepth 100000 in
theorem r_rootOf (G : fm_G) (rd : Nat → Nat) (S : Rs) (M : fm_M) (Pi : RPic G rd S M) (a : Ab) (ha : AbOk a) (hy : ryI a S) (hw : hwI (gO a) (S.1 4)) (n v k : Nat) (hn : n < 5) (hv : v < 512) (hk : k < 4000) (hh : hgt (gO a) n v = k + 1) (hT : Tr (gO a) n v) : fm_Ct G yX6_rootOf cX6_rootOf 6 (some .int) 3 74 0 0 [.ref (rd 0), .int (nI n), .int (nI v)] M (fun u M1 => u = some (.int (nI (rootF (gO a) n v))) ∧ ∃ S', RPic G rd S' M1 ∧ RFr rd M M1 ∧ eq5 S S' ∧ rwI (Hh (gO a) k) (a.sy (rootF (gO a) n v)) 0 (S'.1 5)) := by
  have h4 : S.1 4 (512 * n + v) = nI (k + 1) := by
    rcases hw n v hn hv with ⟨_, q2, _⟩ | ⟨q1, _⟩
    · rw [q2, hh]
    · exact absurd hT q1
  refine fm_head (by decide) (Nat.le_of_ble_eq_true rfl) rfl (fun X C N0 rt => ?_)
  refine g_aload_n C dX6_rootOf_0 rfl ?_
  refine g_getf C fl_X6_19 dX6_rootOf_1 Pi.ob rfl ?_
  refine g_sipush C dX6_rootOf_4 (v := nI 512) rfl ?_
  refine g_iload_n C dX6_rootOf_7 rfl ?_
  refine g_imul C dX6_rootOf_8 ?_
  refine g_topI (pk_mul 512 n) ?_
  refine g_iload_n C dX6_rootOf_9 rfl ?_
  refine g_iadd C dX6_rootOf_10 ?_
  refine g_topI (nI_add _ _) ?_
  refine g_ialdN C dX6_rootOf_11 Pi.k4 (show 512 * n + v < 2560 by omega) (by decide) ?_
  rw [h4]
  refine g_istore_n C dX6_rootOf_12 (by decide) ?_
  refine g_iconst C dX6_rootOf_13 (v := nI 0) rfl ?_
  refine g_istore C dX6_rootOf_14 (by decide) ?_
  exact l_rootOf (fr := 0) (lo := 0) (S := S) (M := M) C ha hy hw hn hv hk hh hT (fun S1 M1 ls P1 F1 E1 I1 => rt (some (.int _)) M1 _ _ _ ls (fm_retI dX6_rootOf_75) ⟨rfl, S1, P1, F1, E1, I1⟩ (Nat.le_refl _) (Nat.le_refl _)) (rootF (gO a) n v) 0 S M (by omega) Pi RFr.rf eq5.rf

theorem cP_ref {a : Ab} (ha : AbOk a) {r : Nat} (hr : r < a.nR) {p k rest x : Nat} (hp : p < 4) (hN : isN (a.sy r p) = true) (hok : okc rest (lcf (a.sy r) 4) = true) : (Hh (gO a) k (a.sy r p - 1) x ∧ dle x rest ∧ Sq (Hh (gO a) k) (a.sy r) (4 - (p + 1)) (rest - x)) ↔ cP (gO a) r (k + 1) (nz (a.sy r) p) (rest + lcf (a.sy r) 4) x := by
  obtain ⟨e1, e2⟩ := ptf_at (q := 4) hp hN
  have hrest : rest < 512 := by have := okc_lt hok; omega
  have q := EHq ha hr k (4 - (p + 1)) (by omega)
  rw [show 4 - (4 - (p + 1)) = p + 1 by omega, e1] at q
  have e3 : (gO a).pt r (nz (a.sy r) p) = a.sy r p - 1 := e2
  unfold cP
  rw [e3, show k + 1 - 1 = k from rfl]
  constructor
  · rintro ⟨h1, h2, h3⟩
    obtain ⟨d1, d2⟩ := (dle_ok hrest).mp h2
    obtain ⟨o1, o2⟩ := okc_sa (x := x) (w := rest - x) (l := lcf (a.sy r) 4) d2 (by rw [show x + (rest - x) = rest by omega]; exact hok)
    refine ⟨by omega, ?_, h1, (q _).mpr ⟨rest - x, h3, o1, by omega⟩⟩
    rw [show rest + lcf (a.sy r) 4 - x = rest - x + lcf (a.sy r) 4 by omega]; exact o2
  · rintro ⟨h1, h2, h3, h4⟩
    obtain ⟨w, w1, w2, w3⟩ := (q _).mp h4
    rw [w3] at h2
    obtain ⟨o1, o2⟩ := okc_as w2 h2
    have hw : rest = x + w := by omega
    refine ⟨h3, ?_, ?_⟩
    · rw [dle_ok hrest]
      refine ⟨by omega, ?_⟩
      rw [show rest - x = w by omega]; exact o1
    · rw [show rest - x = w by omega]; exact w1
/-- the same but for the pile and its height -/
def eq9 (S S' : Rs) : Prop := (∀ i, i ≠ 5 → S'.2 i = S.2 i) ∧ ∀ k, k ≠ 9 → S'.1 k = S.1 k
theorem eq9.rf {S : Rs} : eq9 S S := ⟨fun _ _ => rfl, fun _ _ => rfl⟩
theorem eq9.tr {S S' S'' : Rs} (h : eq9 S S') (h2 : eq9 S' S'') : eq9 S S'' := ⟨fun i hi => (h2.1 i hi).trans (h.1 i hi), fun k hk => (h2.2 k hk).trans (h.2 k hk)⟩
theorem raI.e9 {S S' : Rs} {f : Nat → Int32} (h : raI S S' 9 f) : eq9 S S' := ⟨fun i _ => by rw [h.2], fun k hk => h.ne hk⟩
theorem rsI.e9 {S S' : Rs} {x : Int32} (h : rsI S S' 5 x) : eq9 S S' := ⟨fun i hi => h.ne hi, fun k _ => by rw [h.1]⟩
theorem eq9.ry {a : Ab} {S S' : Rs} (h : eq9 S S') (hy : ryI a S) : ryI a S' := hy.of (h.1 1 (by decide)) (h.2 1 (by decide)) (h.2 2 (by decide))
/-- the pile in the middle of spread: i trees upon K, in their order -/
def psI (a : Ab) (r h v K i : Nat) (F F' : Nat → Int32) : Prop := (∀ j, j < K → F' j = F j) ∧ ∀ j, j < i → F' (K + j) = nI (512 * ptf (a.sy r) 4 j + chl (gO a) r h v j)

set_option maxHeartbeats 4000000 in
set_option maxRecDepth 100000 in
theorem l_spr_in {G : fm_G} {rd : Nat → Nat} {S : Rs} {M : fm_M} {X : fm_X} {fr lo mc ms : Nat} {a : Ab} {r v k K p rest : Nat} (C : GC G X RX6 cX6_spread 9 (fr + 2) (lo + 45) mc ms) (Pi : RPic G rd S M) (ha : AbOk a) (hr : r < a.nR) (hw : hwI (gO a) (S.1 4)) (hk : k < 4000) (hE : EH (gO a) r 0 (k + 1) v) (hp : p < 4) (hN : isN (a.sy r p) = true) (hrw : rwI (Hh (gO a) k) (a.sy r) 0 (S.1 5)) (hre : rst (gO a) r (k + 1) v (nz (a.sy r) p) = rest + lcf (a.sy r) 4) (hok : okc rest (lcf (a.sy r) 4) = true) (kk : GW G X 9 M 0 0 123 ([(0, .ref (rd 0)), (1, .int (nI r)), (2, .int (nI v)), (3, .int (nI (k + 1))), (4, .int (nI rest)), (5, .int (nI K)), (6, .int (nI p)), (7, .int (nI (a.sy r p - 1))), (8, .int (nI (chl (gO a) r (k + 1) v (nz (a.sy r) p))))]) []) : ∀ d x, x + d = chl (gO a) r (k + 1) v (nz (a.sy r) p) → GW G X 9 M 0 0 71 ([(0, .ref (rd 0)), (1, .int (nI r)), (2, .int (nI v)), (3, .int (nI (k + 1))), (4, .int (nI rest)), (5, .int (nI K)), (6, .int (nI p)), (7, .int (nI (a.sy r p - 1))), (8, .int (nI x))]) [] := by
  have hrest : rest < 512 := by have := okc_lt hok; omega
  have hn5 : a.sy r p - 1 < 5 := by have := isN_iff.mp hN; omega
  obtain ⟨e1, e2⟩ := ptf_at (q := 4) hp hN
  have hi : nz (a.sy r) p < (gO a).sz r := by
    have := nz_mono (a.sy r) (show p + 1 ≤ 4 by omega)
    show nz (a.sy r) p < nz (a.sy r) 4
    omega
  obtain ⟨c1, c2⟩ := chl_at hE hi
  rw [hre] at c1 c2
  have hcl : chl (gO a) r (k + 1) v (nz (a.sy r) p) < 512 := (Hh_lt (gO_ok ha) c1.2.2.1).2
  obtain ⟨s, s1, s2⟩ := hrw (p + 1) (Nat.zero_le _) (by omega)
  have cond : ∀ x, x ≤ chl (gO a) r (k + 1) v (nz (a.sy r) p) → (∀ ls, fm_sel ls [0, 1, 2, 3, 4, 5, 6, 7, 8] = some ([(0, .ref (rd 0)), (1, .int (nI r)), (2, .int (nI v)), (3, .int (nI (k + 1))), (4, .int (nI rest)), (5, .int (nI K)), (6, .int (nI p)), (7, .int (nI (a.sy r p - 1))), (8, .int (nI x))]) → ¬ cP (gO a) r (k + 1) (nz (a.sy r) p) (rest + lcf (a.sy r) 4) x → GW G X 9 M 0 0 117 ls []) → (cP (gO a) r (k + 1) (nz (a.sy r) p) (rest + lcf (a.sy r) 4) x → GW G X 9 M 0 0 123 ([(0, .ref (rd 0)), (1, .int (nI r)), (2, .int (nI v)), (3, .int (nI (k + 1))), (4, .int (nI rest)), (5, .int (nI K)), (6, .int (nI p)), (7, .int (nI (a.sy r p - 1))), (8, .int (nI x))]) []) → GW G X 9 M 0 0 71 ([(0, .ref (rd 0)), (1, .int (nI r)), (2, .int (nI v)), (3, .int (nI (k + 1))), (4, .int (nI rest)), (5, .int (nI K)), (6, .int (nI p)), (7, .int (nI (a.sy r p - 1))), (8, .int (nI x))]) [] := by
    intro x hx no yes
    have iff := cP_ref ha hr (k := k) (x := x) hp hN hok
    refine g_aload_n C dX6_spread_71 rfl ?_
    refine g_iload C dX6_spread_72 rfl ?_
    refine g_iload C dX6_spread_74 rfl ?_
    refine g_iload_n C dX6_spread_76 rfl ?_
    refine g_callV (ci := 6) C dX6_spread_77 cw_X6_68 rfl (r_has G rd S M Pi (a.sy r p - 1) x (nI (k + 1)) hn5 (by omega)) Pi.ob rfl rfl (Nat.le_of_ble_eq_true rfl) (by omega) (by omega) (by omega) (by omega) (fun u M2 hq => ?_)
    obtain ⟨rfl, rfl⟩ := hq
    generalize hbb : (decide (0 < S.1 4 (512 * (a.sy r p - 1) + x)) && decide (S.1 4 (512 * (a.sy r p - 1) + x) < nI (k + 1))) = bb
    have hbt : bb = true ↔ Hh (gO a) k (a.sy r p - 1) x := by rw [← hbb, Bool.and_eq_true, decide_eq_true_iff, decide_eq_true_iff]; exact hw_has hw hk hn5 (by omega)
    show GW G X 9 M2 0 0 80 _ [.int (bI bb)]
    refine g_if_eq C dX6_spread_80 (tgt := 117) (by decide) (fun h1 => no _ rfl (fun z => by rw [hbt.mpr (iff.mpr z).1] at h1; exact absurd h1 (by decide))) (fun h1 => ?_)
    refine g_iload C dX6_spread_83 rfl ?_
    refine g_iload C dX6_spread_85 rfl ?_
    refine g_callS C dX6_spread_87 cw_X6_101 (r_less G M2 rest x hrest (by omega)) rfl rfl (Nat.le_of_ble_eq_true rfl) (by omega) (by omega) (by omega) (by omega) (fun u M3 hq => ?_)
    obtain ⟨rfl, rfl⟩ := hq
    show GW G X 9 M3 0 0 90 _ [.int (if pB (dle x rest) = true then nI (rest - x) else -1)]
    by_cases hd : dle x rest
    rotate_left
    · rw [pB_f hd, if_neg Bool.false_ne_true]
      exact g_if_lt C dX6_spread_90 (tgt := 117) (by decide) (fun _ => no _ rfl (fun z => hd (iff.mpr z).2.1)) (fun z => absurd (by decide) z)
    rw [pB_t hd, if_pos rfl]
    refine g_if_lt C dX6_spread_90 (tgt := 117) (by decide) (fun z => absurd z (nI_pos (by omega))) (fun _ => ?_)
    refine g_aload_n C dX6_spread_93 rfl ?_
    refine g_getf C fl_X6_22 dX6_spread_94 Pi.ob rfl ?_
    refine g_sipush C dX6_spread_97 (v := nI 512) rfl ?_
    refine g_iload C dX6_spread_100 rfl ?_
    refine g_iconst C dX6_spread_102 (v := nI 1) rfl ?_
    refine g_iadd C dX6_spread_103 ?_
    refine g_topI (nI_add p 1) ?_
    refine g_imul C dX6_spread_104 ?_
    refine g_topI (pk_mul 512 _) ?_
    refine g_iload C dX6_spread_105 rfl ?_
    refine g_iload C dX6_spread_107 rfl ?_
    refine g_callS C dX6_spread_109 cw_X6_101 (r_less G M3 rest x hrest (by omega)) rfl rfl (Nat.le_of_ble_eq_true rfl) (by omega) (by omega) (by omega) (by omega) (fun u M4 hq => ?_)
    obtain ⟨rfl, rfl⟩ := hq
    rw [pB_t hd, if_pos rfl]
    show GW G X 9 M4 0 0 112 _ (.int (nI (rest - x)) :: .int (nI (512 * (p + 1))) :: .ref (rd 5) :: [])
    have hsv := s1 (rest - x) (by omega)
    refine g_iadd C dX6_spread_112 ?_
    refine g_topI (nI_add _ _) ?_
    refine g_zaldN C dX6_spread_113 Pi.k5 (show 512 * (p + 1) + (rest - x) < 2560 by omega) (by decide) ?_
    rw [hsv]
    refine g_if_ne C dX6_spread_114 (tgt := 123) (by decide) (fun h2 => ?_) (fun h2 => ?_)
    · exact yes (iff.mp ⟨hbt.mp (bI_n0.mp h1), hd, (s2 _ (by omega)).mp (bI_n0.mp h2)⟩)
    · refine no _ rfl (fun z => ?_)
      have := (s2 _ (by omega)).mpr (iff.mpr z).2.2
      rw [this] at h2
      exact absurd h2 (by decide)
  intro d
  induction d with
  | zero =>
    intro x hx
    have e : x = chl (gO a) r (k + 1) v (nz (a.sy r) p) := by omega
    subst e
    exact cond _ (Nat.le_refl _) (fun ls _ z => absurd c1 z) (fun _ => kk)
  | succ d ih =>
    intro x hx
    refine cond x (by omega) (fun ls hls z => ?_) (fun z => absurd z (c2 x (by omega)))
    refine g_loc [0, 1, 2, 3, 4, 5, 6, 7, 8] hls ?_
    refine g_inc1 C dX6_spread_117 rfl (by decide) ?_
    refine g_goto C dX6_spread_120 (tgt := 71) (by decide) ?_
    exact ih (x + 1) (by omega)

set_option maxHeartbeats 4000000 in
set_option maxRecDepth 100000 in
theorem l_spr1 {G : fm_G} {rd : Nat → Nat} {S : Rs} {M : fm_M} {X : fm_X} {fr lo mc ms : Nat} {a : Ab} {r v k K : Nat} (C : GC G X RX6 cX6_spread 9 (fr + 2) (lo + 45) mc ms) (ha : AbOk a) (hy : ryI a S) (hr : r < a.nR) (hw : hwI (gO a) (S.1 4)) (hk : k < 4000) (hE : EH (gO a) r 0 (k + 1) v) (hrw : rwI (Hh (gO a) k) (a.sy r) 0 (S.1 5)) (hK : K + 4 ≤ 2600) (kk : ∀ S' M1 ls, fm_sel ls [0, 5] = some [(0, .ref (rd 0)), (5, .int (nI K))] → RPic G rd S' M1 → RFr rd M M1 → eq9 S S' → S'.2 5 = nI (K + nz (a.sy r) 4) → psI a r (k + 1) v K (nz (a.sy r) 4) (S.1 9) (S'.1 9) → GW G X 9 M1 0 0 166 ls []) : ∀ d p rest S1 M1, p + d = 4 → RPic G rd S1 M1 → RFr rd M M1 → eq9 S S1 → S1.2 5 = nI (K + nz (a.sy r) p) → psI a r (k + 1) v K (nz (a.sy r) p) (S.1 9) (S1.1 9) → rst (gO a) r (k + 1) v (nz (a.sy r) p) = rest + lcf (a.sy r) 4 → okc rest (lcf (a.sy r) 4) = true → GW G X 9 M1 0 0 38 ([(0, .ref (rd 0)), (1, .int (nI r)), (2, .int (nI v)), (3, .int (nI (k + 1))), (4, .int (nI rest)), (5, .int (nI K)), (6, .int (nI p))]) [] := by
  have h10 := ha.1
  intro d
  induction d with
  | zero =>
    intro p rest S1 M1 hp P1 F1 E1 h5 I1 hre hok
    have e : p = 4 := by omega
    subst e
    refine g_iload C dX6_spread_38 rfl ?_
    refine g_iconst C dX6_spread_40 (v := nI 4) rfl ?_
    refine g_icmp_geN C dX6_spread_41 (tgt := 166) (by decide) (by decide) (by decide) (fun hb => kk S1 M1 _ rfl P1 F1 E1 h5 I1) (fun hb => absurd hb (by omega))
  | succ d ih =>
    intro p rest S1 M1 hp P1 F1 E1 h5 I1 hre hok
    have hp4 : p < 4 := by omega
    have y1 := E1.ry hy
    have hs := (y1.2 r hr).2 p hp4
    have h9 := (ha.2.1 r hr).2.1 p hp4
    have hrest : rest < 512 := by have := okc_lt hok; omega
    have hnz := nz_le (a.sy r) p
    refine g_iload C dX6_spread_38 rfl ?_
    refine g_iconst C dX6_spread_40 (v := nI 4) rfl ?_
    refine g_icmp_geN C dX6_spread_41 (tgt := 166) (by decide) (by omega) (by decide) (fun hb => absurd hb (by omega)) (fun hb => ?_)
    refine g_aload_n C dX6_spread_44 rfl ?_
    refine g_getf C fl_X6_13 dX6_spread_45 P1.ob rfl ?_
    refine g_iconst C dX6_spread_48 (v := nI 4) rfl ?_
    refine g_iload_n C dX6_spread_49 rfl ?_
    refine g_imul C dX6_spread_50 ?_
    refine g_topI (pk_mul 4 r) ?_
    refine g_iload C dX6_spread_51 rfl ?_
    refine g_iadd C dX6_spread_53 ?_
    refine g_topI (nI_add _ _) ?_
    refine g_ialdN C dX6_spread_54 P1.k2 (show 4 * r + p < 40 by omega) (by decide) ?_
    rw [hs]
    refine g_istore C dX6_spread_55 (by decide) ?_
    refine g_iload C dX6_spread_57 rfl ?_
    refine g_callS C dX6_spread_59 cw_X6_49 (r_isN G M1 (dn (a.sy r p))) rfl rfl (Nat.le_of_ble_eq_true rfl) (by omega) (by omega) (by omega) (by omega) (fun u M2 hq => ?_)
    obtain ⟨rfl, rfl⟩ := hq
    rw [pN_dn h9]
    show GW G X 9 M2 0 0 62 _ [.int (bI (isN (a.sy r p)))]
    cases hN : isN (a.sy r p) with
    | false =>
      have ez : nz (a.sy r) (p + 1) = nz (a.sy r) p := nz_no (by rw [hN]; exact Bool.false_ne_true)
      refine g_if_ne C dX6_spread_62 (tgt := 68) (by decide) (fun h1 => absurd (by decide) h1) (fun h1 => ?_)
      refine g_goto C dX6_spread_65 (tgt := 160) (by decide) ?_
      refine g_inc1 C dX6_spread_160 rfl (by decide) ?_
      refine g_goto C dX6_spread_163 (tgt := 38) (by decide) ?_
      refine g_loc [0, 1, 2, 3, 4, 5, 6] rfl ?_
      exact ih (p + 1) rest S1 M2 (by omega) P1 F1 E1 (by rw [ez]; exact h5) (by rw [ez]; exact I1) (by rw [ez]; exact hre) hok
    | true =>
      obtain ⟨ez, e2⟩ := ptf_at (q := 4) hp4 hN
      have hn5 : a.sy r p - 1 < 5 := by have := isN_iff.mp hN; omega
      have hdn : dn (a.sy r p) = nI (a.sy r p - 1) := by
        have := isN_iff.mp hN
        rw [show a.sy r p = (a.sy r p - 1) + 1 by omega]; rfl
      have hi : nz (a.sy r) p < (gO a).sz r := by
        have := nz_mono (a.sy r) (show p + 1 ≤ 4 by omega)
        show nz (a.sy r) p < nz (a.sy r) 4
        omega
      have c1 := (chl_at hE hi).1
      rw [hre] at c1
      have hcl : chl (gO a) r (k + 1) v (nz (a.sy r) p) < 512 := (Hh_lt (gO_ok ha) c1.2.2.1).2
      obtain ⟨q1, q2, q3⟩ := (cP_ref ha hr (k := k) hp4 hN hok).mpr c1
      obtain ⟨o1, o2⟩ := (dle_ok hrest).mp q2
      obtain ⟨o3, o4⟩ := okc_sa (x := chl (gO a) r (k + 1) v (nz (a.sy r) p)) (w := rest - chl (gO a) r (k + 1) v (nz (a.sy r) p)) (l := lcf (a.sy r) 4) o2 (by rw [show chl (gO a) r (k + 1) v (nz (a.sy r) p) + (rest - chl (gO a) r (k + 1) v (nz (a.sy r) p)) = rest by omega]; exact hok)
      refine g_if_ne C dX6_spread_62 (tgt := 68) (by decide) (fun h1 => ?_) (fun h1 => absurd h1 (by decide))
      rw [hdn]
      refine g_iconst C dX6_spread_68 (v := nI 0) rfl ?_
      refine g_istore C dX6_spread_69 (by decide) ?_
      refine l_spr_in (fr := fr) (lo := lo) (S := S1) (M := M2) C P1 ha hr (by rw [E1.2 4 (by decide)]; exact hw) hk hE hp4 hN (by rw [E1.2 5 (by decide)]; exact hrw) hre hok ?_ (chl (gO a) r (k + 1) v (nz (a.sy r) p)) 0 (by omega)
      refine g_iload C dX6_spread_123 rfl ?_
      refine g_iload C dX6_spread_125 rfl ?_
      refine g_callS C dX6_spread_127 cw_X6_101 (r_less G M2 rest _ hrest hcl) rfl rfl (Nat.le_of_ble_eq_true rfl) (by omega) (by omega) (by omega) (by omega) (fun u M4 hq => ?_)
      obtain ⟨rfl, rfl⟩ := hq
      rw [pB_t q2, if_pos rfl]
      show GW G X 9 M4 0 0 130 _ [.int (nI (rest - chl (gO a) r (k + 1) v (nz (a.sy r) p)))]
      refine g_istore C dX6_spread_130 (by decide) ?_
      refine g_aload_n C dX6_spread_132 rfl ?_
      refine g_getf C fl_X6_39 dX6_spread_133 P1.ob rfl ?_
      refine g_aload_n C dX6_spread_136 rfl ?_
      refine g_getf C fl_X6_104 dX6_spread_137 P1.ob rfl ?_
      rw [h5]
      refine g_sipush C dX6_spread_140 (v := nI 512) rfl ?_
      refine g_iload C dX6_spread_143 rfl ?_
      refine g_imul C dX6_spread_145 ?_
      refine g_topI (pk_mul 512 _) ?_
      refine g_iload C dX6_spread_146 rfl ?_
      refine g_iadd C dX6_spread_148 ?_
      refine g_topI (nI_add _ _) ?_
      refine g_iastN C dX6_spread_149 P1.k9 (show K + nz (a.sy r) p < 2600 by omega) (by decide) ?_
      refine g_abs (fun M' => ∃ S2, RPic G rd S2 M' ∧ RFr rd M M' ∧ raI S1 S2 9 (upd (S1.1 9) (K + nz (a.sy r) p) (nI (512 * (a.sy r p - 1) + chl (gO a) r (k + 1) v (nz (a.sy r) p))))) ⟨_, P1.ar (n := 2600) (by decide) (by decide) _ rfl, F1.st (k := 9) (by decide), rfl, rfl⟩ (fun M5 ⟨S5, P5, F5, A5⟩ => ?_)
      have h55 : S5.2 5 = nI (K + nz (a.sy r) p) := by rw [A5.2]; exact h5
      refine g_aload_n C dX6_spread_150 rfl ?_
      refine g_dup C dX6_spread_151 rfl ?_
      refine g_getf C fl_X6_104 dX6_spread_152 P5.ob rfl ?_
      rw [h55]
      refine g_iconst C dX6_spread_155 (v := nI 1) rfl ?_
      refine g_iadd C dX6_spread_156 ?_
      refine g_topI (nI_add _ 1) ?_
      refine g_putf C fl_X6_104 rfl dX6_spread_157 P5.ob rfl rfl (Nat.le_of_ble_eq_true rfl) ?_
      refine g_abs (fun M' => ∃ S6, RPic G rd S6 M' ∧ RFr rd M M' ∧ rsI S5 S6 5 (nI (K + nz (a.sy r) p + 1))) ⟨_, P5.sc 5 _ rfl, F5.st (k := 0) (by decide), rfl, rfl⟩ (fun M6 ⟨S6, P6, F6, A6⟩ => ?_)
      refine g_inc1 C dX6_spread_160 rfl (by decide) ?_
      refine g_goto C dX6_spread_163 (tgt := 38) (by decide) ?_
      refine g_loc [0, 1, 2, 3, 4, 5, 6] rfl ?_
      refine ih (p + 1) (rest - chl (gO a) r (k + 1) v (nz (a.sy r) p)) S6 M6 (by omega) P6 F6 ((E1.tr A5.e9).tr A6.e9) (by rw [A6.at, ez, Nat.add_assoc]) ⟨fun j hj => ?_, fun j hj => ?_⟩ ?_ o3
      · rw [A6.1, A5.at, pk_un (by omega)]; exact I1.1 j hj
      · rw [A6.1, A5.at]
        rw [ez] at hj
        by_cases he : j = nz (a.sy r) p
        · subst he; rw [pk_us, e2]
        · rw [pk_un (by omega)]; exact I1.2 j (by omega)
      · rw [ez, rst_s, hre]; omega

/-- the pile in the middle of its turning round -/
def rvI (O : Nat → Int32) (K sz q : Nat) (F F' : Nat → Int32) : Prop := (∀ j, j < K → F' j = F j) ∧ ∀ j, j < sz → F' (K + j) = if j < q ∨ sz - q ≤ j then O (sz - 1 - j) else O j
theorem rvI_s {O : Nat → Int32} {K sz q : Nat} {F F' : Nat → Int32} (h : rvI O K sz q F F') (hq : q < sz - 1 - q) : rvI O K sz (q + 1) F (upd (upd F' (K + q) (F' (K + sz - 1 - q))) (K + sz - 1 - q) (F' (K + q))) := by
  obtain ⟨h1, h2⟩ := h
  refine ⟨fun j hj => by rw [pk_un (by omega), pk_un (by omega)]; exact h1 j hj, fun j hj => ?_⟩
  by_cases e1 : j = sz - 1 - q
  · subst e1
    rw [show K + (sz - 1 - q) = K + sz - 1 - q by omega, pk_us, h2 q (by omega), if_neg (by omega), if_pos (by omega), show sz - 1 - (sz - 1 - q) = q by omega]
  · rw [pk_un (by omega)]
    by_cases e2 : j = q
    · subst e2
      rw [pk_us, show K + sz - 1 - j = K + (sz - 1 - j) by omega, h2 (sz - 1 - j) (by omega), if_neg (by omega), if_pos (by omega)]
    · rw [pk_un (by omega), h2 j hj]
      by_cases c : j < q ∨ sz - q ≤ j
      · rw [if_pos c, if_pos (by omega)]
      · rw [if_neg c, if_neg (by omega)]
theorem rvI_end {O : Nat → Int32} {K sz q : Nat} {F F' : Nat → Int32} (h : rvI O K sz q F F') (hq : sz - 1 - q ≤ q) : ∀ j, j < sz → F' (K + j) = O (sz - 1 - j) := by
  intro j hj
  rw [h.2 j hj]
  by_cases c : j < q ∨ sz - q ≤ j
  · rw [if_pos c]
  · rw [if_neg c, show sz - 1 - j = j by omega]

set_option maxHeartbeats 4000000 in
set_option maxRecDepth 100000 in
theorem l_spr2 {G : fm_G} {rd : Nat → Nat} {S : Rs} {M : fm_M} {X : fm_X} {fr lo mc ms : Nat} {K sz : Nat} {O : Nat → Int32} (C : GC G X RX6 cX6_spread 9 (fr + 2) (lo + 45) mc ms) (hK : K + 4 ≤ 2600) (hz : sz ≤ 4) (hpos : 0 < K + sz) (h5 : S.2 5 = nI (K + sz)) (kk : ∀ S' M1 ls, RPic G rd S' M1 → RFr rd M M1 → eq9 S S' → S'.2 5 = nI (K + sz) → (∀ j, j < K → S'.1 9 j = S.1 9 j) → (∀ j, j < sz → S'.1 9 (K + j) = O (sz - 1 - j)) → GW G X 9 M1 0 0 244 ls []) : ∀ d q S1 M1, q + d = 3 → RPic G rd S1 M1 → RFr rd M M1 → eq9 S S1 → S1.2 5 = S.2 5 → q ≤ sz - q + 1 → (q = 0 ∨ q < sz) → rvI O K sz q (S.1 9) (S1.1 9) → GW G X 9 M1 0 0 169 [(0, .ref (rd 0)), (5, .int (nI K)), (6, .int (nI q))] [] := by
  have fin : ∀ q S1 M1, RPic G rd S1 M1 → RFr rd M M1 → eq9 S S1 → S1.2 5 = S.2 5 → (q = 0 ∨ q < sz) → sz - 1 - q ≤ q → rvI O K sz q (S.1 9) (S1.1 9) → GW G X 9 M1 0 0 169 [(0, .ref (rd 0)), (5, .int (nI K)), (6, .int (nI q))] [] := by
    intro q S1 M1 P1 F1 E1 e5 hq1 hq I1
    have e5' : S1.2 5 = nI (K + sz) := e5.trans h5
    refine g_iload C dX6_spread_169 rfl ?_
    refine g_iload C dX6_spread_171 rfl ?_
    refine g_iadd C dX6_spread_173 ?_
    refine g_topI (nI_add _ _) ?_
    refine g_aload_n C dX6_spread_174 rfl ?_
    refine g_getf C fl_X6_104 dX6_spread_175 P1.ob rfl ?_
    rw [e5']
    refine g_iconst C dX6_spread_178 (v := nI 1) rfl ?_
    refine g_isub C dX6_spread_179 ?_
    refine g_topI (pk_sub (show 1 ≤ K + sz by omega)) ?_
    refine g_iload C dX6_spread_180 rfl ?_
    refine g_isub C dX6_spread_182 ?_
    refine g_topI (pk_sub (show q ≤ K + sz - 1 by omega)) ?_
    refine g_icmp_geN C dX6_spread_183 (tgt := 244) (by decide) (by omega) (by omega) (fun hb => kk S1 M1 _ P1 F1 E1 e5' I1.1 (rvI_end I1 hq)) (fun hb => absurd hb (by omega))
  intro d
  induction d with
  | zero =>
    intro q S1 M1 hd P1 F1 E1 e5 hq0 hq1 I1
    exact fin q S1 M1 P1 F1 E1 e5 hq1 (by omega) I1
  | succ d ih =>
    intro q S1 M1 hd P1 F1 E1 e5 hq0 hq1 I1
    by_cases hq : sz - 1 - q ≤ q
    · exact fin q S1 M1 P1 F1 E1 e5 hq1 hq I1
    have e5' : S1.2 5 = nI (K + sz) := e5.trans h5
    refine g_iload C dX6_spread_169 rfl ?_
    refine g_iload C dX6_spread_171 rfl ?_
    refine g_iadd C dX6_spread_173 ?_
    refine g_topI (nI_add _ _) ?_
    refine g_aload_n C dX6_spread_174 rfl ?_
    refine g_getf C fl_X6_104 dX6_spread_175 P1.ob rfl ?_
    rw [e5']
    refine g_iconst C dX6_spread_178 (v := nI 1) rfl ?_
    refine g_isub C dX6_spread_179 ?_
    refine g_topI (pk_sub (show 1 ≤ K + sz by omega)) ?_
    refine g_iload C dX6_spread_180 rfl ?_
    refine g_isub C dX6_spread_182 ?_
    refine g_topI (pk_sub (show q ≤ K + sz - 1 by omega)) ?_
    refine g_icmp_geN C dX6_spread_183 (tgt := 244) (by decide) (by omega) (by omega) (fun hb => absurd hb (by omega)) (fun hb => ?_)
    refine g_aload_n C dX6_spread_186 rfl ?_
    refine g_getf C fl_X6_39 dX6_spread_187 P1.ob rfl ?_
    refine g_iload C dX6_spread_190 rfl ?_
    refine g_iload C dX6_spread_192 rfl ?_
    refine g_iadd C dX6_spread_194 ?_
    refine g_topI (nI_add _ _) ?_
    refine g_ialdN C dX6_spread_195 P1.k9 (show K + q < 2600 by omega) (by decide) ?_
    refine g_istore C dX6_spread_196 (by decide) ?_
    refine g_aload_n C dX6_spread_198 rfl ?_
    refine g_getf C fl_X6_39 dX6_spread_199 P1.ob rfl ?_
    refine g_iload C dX6_spread_202 rfl ?_
    refine g_iload C dX6_spread_204 rfl ?_
    refine g_iadd C dX6_spread_206 ?_
    refine g_topI (nI_add _ _) ?_
    refine g_aload_n C dX6_spread_207 rfl ?_
    refine g_getf C fl_X6_39 dX6_spread_208 P1.ob rfl ?_
    refine g_aload_n C dX6_spread_211 rfl ?_
    refine g_getf C fl_X6_104 dX6_spread_212 P1.ob rfl ?_
    rw [e5']
    refine g_iconst C dX6_spread_215 (v := nI 1) rfl ?_
    refine g_isub C dX6_spread_216 ?_
    refine g_topI (pk_sub (show 1 ≤ K + sz by omega)) ?_
    refine g_iload C dX6_spread_217 rfl ?_
    refine g_isub C dX6_spread_219 ?_
    refine g_topI (pk_sub (show q ≤ K + sz - 1 by omega)) ?_
    refine g_ialdN C dX6_spread_220 P1.k9 (show K + sz - 1 - q < 2600 by omega) (by decide) ?_
    refine g_iastN C dX6_spread_221 P1.k9 (show K + q < 2600 by omega) (by decide) ?_
    refine g_abs (fun M' => ∃ S2, RPic G rd S2 M' ∧ RFr rd M M' ∧ raI S1 S2 9 (upd (S1.1 9) (K + q) (S1.1 9 (K + sz - 1 - q)))) ⟨_, P1.ar (n := 2600) (by decide) (by decide) _ rfl, F1.st (k := 9) (by decide), rfl, rfl⟩ (fun M2 ⟨S2, P2, F2, A2⟩ => ?_)
    have e52 : S2.2 5 = nI (K + sz) := by rw [A2.2]; exact e5'
    refine g_aload_n C dX6_spread_222 rfl ?_
    refine g_getf C fl_X6_39 dX6_spread_223 P2.ob rfl ?_
    refine g_aload_n C dX6_spread_226 rfl ?_
    refine g_getf C fl_X6_104 dX6_spread_227 P2.ob rfl ?_
    rw [e52]
    refine g_iconst C dX6_spread_230 (v := nI 1) rfl ?_
    refine g_isub C dX6_spread_231 ?_
    refine g_topI (pk_sub (show 1 ≤ K + sz by omega)) ?_
    refine g_iload C dX6_spread_232 rfl ?_
    refine g_isub C dX6_spread_234 ?_
    refine g_topI (pk_sub (show q ≤ K + sz - 1 by omega)) ?_
    refine g_iload C dX6_spread_235 rfl ?_
    refine g_iastN C dX6_spread_237 P2.k9 (show K + sz - 1 - q < 2600 by omega) (by decide) ?_
    refine g_abs (fun M' => ∃ S3, RPic G rd S3 M' ∧ RFr rd M M' ∧ raI S2 S3 9 (upd (S2.1 9) (K + sz - 1 - q) (S1.1 9 (K + q)))) ⟨_, P2.ar (n := 2600) (by decide) (by decide) _ rfl, F2.st (k := 9) (by decide), rfl, rfl⟩ (fun M3 ⟨S3, P3, F3, A3⟩ => ?_)
    refine g_inc1 C dX6_spread_238 rfl (by decide) ?_
    refine g_goto C dX6_spread_241 (tgt := 169) (by decide) ?_
    refine g_loc [0, 5, 6] rfl ?_
    refine ih (q + 1) S3 M3 (by omega) P3 F3 ((E1.tr A2.e9).tr A3.e9) (by rw [A3.2, A2.2]; exact e5) (by omega) (Or.inr (by omega)) ?_
    rw [A3.at, A2.at]
    exact rvI_s I1 (by omega)

set_option maxHeartbeats 4000000 in
set_option maxRecDepth 100000 in
theorem r_spread (G : fm_G) (rd : Nat → Nat) (S : Rs) (M : fm_M) (Pi : RPic G rd S M) (a : Ab) (ha : AbOk a) (hy : ryI a S) (hw : hwI (gO a) (S.1 4)) (r v k K : Nat) (hr : r < a.nR) (hv : v < 512) (hk : k < 4000) (hh : hgt (gO a) (a.lf r) v = k + 1) (hT : Tr (gO a) (a.lf r) v) (hE : EH (gO a) r 0 (k + 1) v) (hrw : rwI (Hh (gO a) k) (a.sy r) 0 (S.1 5)) (hK : K + 4 ≤ 2600) (h5 : S.2 5 = nI K) : fm_Ct G yX6_spread cX6_spread 9 none 2 45 0 0 [.ref (rd 0), .int (nI r), .int (nI v)] M (fun u M1 => u = none ∧ ∃ S', RPic G rd S' M1 ∧ RFr rd M M1 ∧ eq9 S S' ∧ S'.2 5 = nI (K + nz (a.sy r) 4) ∧ (∀ j, j < K → S'.1 9 j = S.1 9 j) ∧ ∀ j, j < nz (a.sy r) 4 → S'.1 9 (K + j) = nI (512 * ptf (a.sy r) 4 (nz (a.sy r) 4 - 1 - j) + chl (gO a) r (k + 1) v (nz (a.sy r) 4 - 1 - j))) := by
  have h10 := ha.1
  have hlf := (ha.2.1 r hr).1
  have hlc : lcf (a.sy r) 4 < 512 := ((gO_ok ha).2 _ hr).2.2.1
  have l1 := (hy.2 r hr).1
  have hnz := nz_le (a.sy r) 4
  have h4 : S.1 4 (512 * a.lf r + v) = nI (k + 1) := by
    rcases hw _ v hlf hv with ⟨_, q2, _⟩ | ⟨q1, _⟩
    · rw [q2, hh]
    · exact absurd hT q1
  obtain ⟨d1, d2⟩ := (EH_root ha hr hv).mp hE
  obtain ⟨o1, o2⟩ := (dle_ok hv).mp d1
  refine fm_head (by decide) (Nat.le_of_ble_eq_true rfl) rfl (fun X C N0 rt => ?_)
  refine g_aload_n C dX6_spread_0 rfl ?_
  refine g_getf C fl_X6_19 dX6_spread_1 Pi.ob rfl ?_
  refine g_sipush C dX6_spread_4 (v := nI 512) rfl ?_
  refine g_aload_n C dX6_spread_7 rfl ?_
  refine g_getf C fl_X6_7 dX6_spread_8 Pi.ob rfl ?_
  refine g_iload_n C dX6_spread_11 rfl ?_
  refine g_ialdN C dX6_spread_12 Pi.k1 (show r < 10 by omega) (by decide) ?_
  rw [l1]
  refine g_imul C dX6_spread_13 ?_
  refine g_topI (pk_mul 512 _) ?_
  refine g_iload_n C dX6_spread_14 rfl ?_
  refine g_iadd C dX6_spread_15 ?_
  refine g_topI (nI_add _ _) ?_
  refine g_ialdN C dX6_spread_16 Pi.k4 (show 512 * a.lf r + v < 2560 by omega) (by decide) ?_
  rw [h4]
  refine g_istore_n C dX6_spread_17 (by decide) ?_
  refine g_iload_n C dX6_spread_18 rfl ?_
  refine g_aload_n C dX6_spread_19 rfl ?_
  refine g_iload_n C dX6_spread_20 rfl ?_
  refine g_callV (ci := 6) C dX6_spread_21 cw_X6_84 rfl (r_own G rd S M Pi a ha hy r hr) Pi.ob rfl rfl (Nat.le_of_ble_eq_true rfl) (by decide) (by decide) (by decide) (by decide) (fun u M2 hq => ?_)
  obtain ⟨rfl, hM⟩ := hq
  rw [hM]
  clear hM
  show GW G X 9 M 0 0 24 _ (.int (nI (lcf (a.sy r) 4)) :: .int (nI v) :: [])
  refine g_callS C dX6_spread_24 cw_X6_101 (r_less G M v _ hv hlc) rfl rfl (Nat.le_of_ble_eq_true rfl) (by decide) (by decide) (by decide) (by decide) (fun u M3 hq => ?_)
  obtain ⟨hM, rfl⟩ := hq
  rw [hM, pB_t d1, if_pos rfl]
  clear hM
  show GW G X 9 M 0 0 27 _ [.int (nI (v - lcf (a.sy r) 4))]
  refine g_istore C dX6_spread_27 (by decide) ?_
  refine g_aload_n C dX6_spread_29 rfl ?_
  refine g_getf C fl_X6_104 dX6_spread_30 Pi.ob rfl ?_
  rw [h5]
  refine g_istore C dX6_spread_33 (by decide) ?_
  refine g_iconst C dX6_spread_35 (v := nI 0) rfl ?_
  refine g_istore C dX6_spread_36 (by decide) ?_
  refine l_spr1 (fr := 0) (lo := 0) (S := S) (M := M) C ha hy hr hw hk hE hrw hK (fun S1 M1 ls hls P1 F1 E1 e1 I1 => ?_) 4 0 (v - lcf (a.sy r) 4) S M (by omega) Pi RFr.rf eq9.rf h5 ⟨fun _ _ => rfl, fun j hj => absurd hj (Nat.not_lt_zero j)⟩ (show v = v - lcf (a.sy r) 4 + lcf (a.sy r) 4 by omega) (by rw [okc_comm]; exact o2)
  refine g_loc [0, 5] hls ?_
  refine g_iconst C dX6_spread_166 (v := nI 0) rfl ?_
  refine g_istore C dX6_spread_167 (by decide) ?_
  by_cases hz : K + nz (a.sy r) 4 = 0
  · have hz1 : K = 0 := by omega
    have hz2 : nz (a.sy r) 4 = 0 := by omega
    have e1' : S1.2 5 = nI 0 := by rw [e1, hz]
    refine g_iload C dX6_spread_169 rfl ?_
    refine g_iload C dX6_spread_171 rfl ?_
    refine g_iadd C dX6_spread_173 ?_
    refine g_topI (nI_add _ _) ?_
    refine g_aload_n C dX6_spread_174 rfl ?_
    refine g_getf C fl_X6_104 dX6_spread_175 P1.ob rfl ?_
    rw [e1']
    refine g_iconst C dX6_spread_178 (v := nI 1) rfl ?_
    refine g_isub C dX6_spread_179 ?_
    refine g_iload C dX6_spread_180 rfl ?_
    refine g_isub C dX6_spread_182 ?_
    refine g_icmp_ge C dX6_spread_183 (tgt := 244) (by decide) (fun hb => ?_) (fun hb => absurd (by rw [hz1]; decide) hb)
    exact rt none M1 _ _ _ _ (fm_retV dX6_spread_244) ⟨rfl, S1, P1, F1, E1, e1, I1.1, fun j hj => absurd hj (by omega)⟩ (Nat.le_refl _) (Nat.le_refl _)
  · exact l_spr2 (fr := 0) (lo := 0) (S := S1) (M := M1) (O := fun j => nI (512 * ptf (a.sy r) 4 j + chl (gO a) r (k + 1) v j)) C hK hnz (by omega) e1 (fun S2 M2 ls P2 F2 E2 e2 I2 I3 => rt none M2 _ _ _ ls (fm_retV dX6_spread_244) ⟨rfl, S2, P2, F1.tr F2, E1.tr E2, e2, fun j hj => (I2 j hj).trans (I1.1 j hj), I3⟩ (Nat.le_refl _) (Nat.le_refl _)) 3 0 S1 M1 (by omega) P1 RFr.rf eq9.rf rfl (by omega) (Or.inl rfl) ⟨fun _ _ => rfl, fun j hj => by rw [if_neg (by omega)]; exact I1.2 j hj⟩

