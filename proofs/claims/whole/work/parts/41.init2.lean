/-! CONSTRUCTORS of Rule and LetterCounts -/
theorem Nw.sub2 {M M1 M2 : fm_M} {q m m' p : Nat} {cq e0 cp : va_E} {b b' : Nat → Nat} {ct ct' : Nat → va_E} (h : Nw M M1 q cq m b ct) (hp : M1 p = none) (h' : Nw (fm_set M1 p e0) M2 p cp m' b' ct') : ∃ bb cc, Nw M M2 q cq (m + 1 + m') bb cc ∧ (∀ j, j < m → bb j = b j ∧ cc j = ct j) ∧ bb m = p ∧ cc m = cp ∧ ∀ j, j < m' → bb (m + 1 + j) = b' j ∧ cc (m + 1 + j) = ct' j := by
  refine ⟨_, _, h.sub hp h', fun j hj => ⟨if_pos hj, if_pos hj⟩, ?_, ?_, fun j hj => ⟨?_, ?_⟩⟩
  · simp
  · simp
  · simp only [if_neg (show ¬ m + 1 + j < m by omega), if_neg (show ¬ m + 1 + j = m by omega), show m + 1 + j - (m + 1) = j by omega]
  · simp only [if_neg (show ¬ m + 1 + j < m by omega), if_neg (show ¬ m + 1 + j = m by omega), show m + 1 + j - (m + 1) = j by omega]
/-- an End and its cells, at u 0, u 1, .. -/
def ctK (G : fm_G) (u : Nat → Nat) : Nat → va_E
  | 0 => fm_O 1 [.ref (u 1), .ref (u 3), .ref (u 5)]
  | 1 => fm_O 0 [.ref (u 2)]
  | 2 => fm_L G 8 (fun _ => 0)
  | 3 => fm_O 0 [.ref (u 4)]
  | 4 => fm_L G 8 (fun _ => 0)
  | _ => fm_I G 512 (fun _ => 0)
theorem ctK_congr {G : fm_G} {u u' : Nat → Nat} (h : ∀ s, s < 6 → u s = u' s) (s : Nat) : ctK G u s = ctK G u' s := by
  match s with
  | 0 => show fm_O 1 [.ref (u 1), .ref (u 3), .ref (u 5)] = _; rw [h 1 (by decide), h 3 (by decide), h 5 (by decide)]; rfl
  | 1 => show fm_O 0 [.ref (u 2)] = _; rw [h 2 (by decide)]; rfl
  | 2 => rfl
  | 3 => show fm_O 0 [.ref (u 4)] = _; rw [h 4 (by decide)]; rfl
  | 4 => rfl
  | _ + 5 => rfl
theorem ctK_E {G : fm_G} {u b' : Nat → Nat} (h : ∀ s, s < 5 → u (s + 1) = b' s) {s : Nat} (hs : s < 5) : ctE G b' s = ctK G u (s + 1) := by
  match s, hs with
  | 0, _ => show fm_O 0 [.ref (b' 1)] = _; rw [← h 1 (by decide)]; rfl
  | 1, _ => rfl
  | 2, _ => show fm_O 0 [.ref (b' 3)] = _; rw [← h 3 (by decide)]; rfl
  | 3, _ => rfl
  | 4, _ => rfl
/-- a Nonterminal and its cells -/
def ctM (G : fm_G) (u : Nat → Nat) : Nat → va_E
  | 0 => fm_O 2 [.ref (u 1), .ref (u 3), .ref (u 5), .ref (u 7), .ref (u 8)]
  | 1 => fm_O 0 [.ref (u 2)]
  | 2 => fm_L G 8 (fun _ => 0)
  | 3 => fm_O 0 [.ref (u 4)]
  | 4 => fm_L G 8 (fun _ => 0)
  | 5 => fm_O 0 [.ref (u 6)]
  | 6 => fm_L G 8 (fun _ => 0)
  | _ => fm_I G 512 (fun _ => 0)
theorem ctM_congr {G : fm_G} {u u' : Nat → Nat} (h : ∀ s, s < 9 → u s = u' s) (s : Nat) : ctM G u s = ctM G u' s := by
  match s with
  | 0 => show fm_O 2 [.ref (u 1), .ref (u 3), .ref (u 5), .ref (u 7), .ref (u 8)] = _; rw [h 1 (by decide), h 3 (by decide), h 5 (by decide), h 7 (by decide), h 8 (by decide)]; rfl
  | 1 => show fm_O 0 [.ref (u 2)] = _; rw [h 2 (by decide)]; rfl
  | 2 => rfl
  | 3 => show fm_O 0 [.ref (u 4)] = _; rw [h 4 (by decide)]; rfl
  | 4 => rfl
  | 5 => show fm_O 0 [.ref (u 6)] = _; rw [h 6 (by decide)]; rfl
  | 6 => rfl
  | _ + 7 => rfl
theorem ctM_N {G : fm_G} {u b' : Nat → Nat} (h : ∀ s, s < 8 → u (s + 1) = b' s) {s : Nat} (hs : s < 8) : ctN G b' s = ctM G u (s + 1) := by
  match s, hs with
  | 0, _ => show fm_O 0 [.ref (b' 1)] = _; rw [← h 1 (by decide)]; rfl
  | 1, _ => rfl
  | 2, _ => show fm_O 0 [.ref (b' 3)] = _; rw [← h 3 (by decide)]; rfl
  | 3, _ => rfl
  | 4, _ => show fm_O 0 [.ref (b' 5)] = _; rw [← h 5 (by decide)]; rfl
  | 5, _ => rfl
  | 6, _ => rfl
  | 7, _ => rfl
/-- a Rule's cells, i of its ends made -/
def ctR (G : fm_G) (b : Nat → Nat) (i : Nat) : Nat → va_E
  | 0 => fm_I G 4 (fun _ => 0)
  | 1 => fm_R G 5 5 (fun k => if k < i then some (b (2 + 6 * k)) else none)
  | j + 2 => ctK G (fun s => b (2 + 6 * (j / 6) + s)) (j % 6)
/-- the object's cells, i of its nonterminals made -/
def ctL (G : fm_G) (b : Nat → Nat) (i : Nat) : Nat → va_E
  | 0 => fm_R G 3 5 (fun k => if k < i then some (b (9 + 9 * k)) else none)
  | 1 => fm_R G 4 10 (fun _ => none)
  | 2 => fm_I G 500 (fun _ => 0)
  | 3 => fm_O 4 [.ref (b 4), .ref (b 5), .int (nI 0), .ref (b 6), .ref (b 7), .int (nI 0), .ref (b 8)]
  | 4 => fm_I G 500 (fun _ => 0)
  | 5 => fm_I G 10 (fun _ => 0)
  | 6 => fm_I G 500 (fun _ => 0)
  | 7 => fm_I G 500 (fun _ => 0)
  | 8 => fm_I G 4 (fun _ => 0)
  | j + 9 => ctM G (fun s => b (9 + 9 * (j / 9) + s)) (j % 9)
theorem fR_up {b bb : Nat → Nat} {i p : Nat} {B C : Nat} (h1 : ∀ k, k < i → bb (B + C * k) = b (B + C * k)) (h2 : bb (B + C * i) = p) : va_up (fun k => if k < i then some (b (B + C * k)) else none) i (some p) = fun k => if k < i + 1 then some (bb (B + C * k)) else none := by
  funext k
  by_cases he : k = i
  · subst he; rw [va_up_self, if_pos (Nat.lt_succ_self k), h2]
  · rw [va_up_ne _ _ he]
    by_cases hk : k < i
    · rw [if_pos hk, if_pos (by omega), h1 k hk]
    · rw [if_neg hk, if_neg (by omega)]
theorem ctR_s {G : fm_G} {b bb b' : Nat → Nat} {cc : Nat → va_E} {i p : Nat} (h1 : ∀ j, j < 2 + 6 * i → bb j = b j ∧ cc j = ctR G b i j) (h2 : bb (2 + 6 * i) = p) (h3 : cc (2 + 6 * i) = fm_O 1 [.ref (b' 0), .ref (b' 2), .ref (b' 4)]) (h4 : ∀ j, j < 5 → bb (2 + 6 * i + 1 + j) = b' j ∧ cc (2 + 6 * i + 1 + j) = ctE G b' j) :
    ∀ j, j < 2 + 6 * i + 1 + 5 → va_up cc 1 (fm_R G 5 5 (va_up (fun k => if k < i then some (b (2 + 6 * k)) else none) i (some p))) j = ctR G bb (i + 1) j := by
  intro j hj
  match j, hj with
  | 0, _ => rw [va_up_ne _ _ (by decide), (h1 0 (by omega)).2]; rfl
  | 1, _ =>
    rw [va_up_self, fR_up (bb := bb) (fun k hk => (h1 _ (by omega)).1) h2]
    rfl
  | j + 2, hj =>
    rw [va_up_ne _ _ (by omega)]
    show cc (j + 2) = ctK G (fun s => bb (2 + 6 * (j / 6) + s)) (j % 6)
    by_cases hlt : j < 6 * i
    · rw [(h1 (j + 2) (by omega)).2]
      exact ctK_congr (fun s hs => ((h1 _ (by omega)).1).symm) _
    · have ei : j / 6 = i := by omega
      rw [ei]
      by_cases hz : j = 6 * i
      · rw [show j + 2 = 2 + 6 * i by omega, show j % 6 = 0 by omega, h3]
        show _ = fm_O 1 [.ref (bb (2 + 6 * i + 1)), .ref (bb (2 + 6 * i + 3)), .ref (bb (2 + 6 * i + 5))]
        rw [← (h4 0 (by decide)).1, ← (h4 2 (by decide)).1, ← (h4 4 (by decide)).1]
      · have hs : j + 2 = 2 + 6 * i + 1 + (j - 6 * i - 1) := by omega
        rw [hs, (h4 (j - 6 * i - 1) (by omega)).2, ctK_E (u := fun s => bb (2 + 6 * i + s)) (fun s hs => (by
          show bb (2 + 6 * i + (s + 1)) = b' s
          rw [show 2 + 6 * i + (s + 1) = 2 + 6 * i + 1 + s by omega]; exact (h4 s hs).1)) (by omega), show j - 6 * i - 1 + 1 = j % 6 by omega]
theorem ctL_s {G : fm_G} {b bb b' : Nat → Nat} {cc : Nat → va_E} {i p : Nat} (h1 : ∀ j, j < 9 + 9 * i → bb j = b j ∧ cc j = ctL G b i j) (h2 : bb (9 + 9 * i) = p) (h3 : cc (9 + 9 * i) = fm_O 2 [.ref (b' 0), .ref (b' 2), .ref (b' 4), .ref (b' 6), .ref (b' 7)]) (h4 : ∀ j, j < 8 → bb (9 + 9 * i + 1 + j) = b' j ∧ cc (9 + 9 * i + 1 + j) = ctN G b' j) :
    ∀ j, j < 9 + 9 * i + 1 + 8 → va_up cc 0 (fm_R G 3 5 (va_up (fun k => if k < i then some (b (9 + 9 * k)) else none) i (some p))) j = ctL G bb (i + 1) j := by
  intro j hj
  match j, hj with
  | 0, _ =>
    rw [va_up_self, fR_up (bb := bb) (fun k hk => (h1 _ (by omega)).1) h2]
    rfl
  | 1, _ => rw [va_up_ne _ _ (by decide), (h1 1 (by omega)).2]; rfl
  | 2, _ => rw [va_up_ne _ _ (by decide), (h1 2 (by omega)).2]; rfl
  | 3, _ =>
    rw [va_up_ne _ _ (by decide), (h1 3 (by omega)).2]
    show _ = fm_O 4 [.ref (bb 4), .ref (bb 5), .int (nI 0), .ref (bb 6), .ref (bb 7), .int (nI 0), .ref (bb 8)]
    rw [(h1 4 (by omega)).1, (h1 5 (by omega)).1, (h1 6 (by omega)).1, (h1 7 (by omega)).1, (h1 8 (by omega)).1]
    rfl
  | 4, _ => rw [va_up_ne _ _ (by decide), (h1 4 (by omega)).2]; rfl
  | 5, _ => rw [va_up_ne _ _ (by decide), (h1 5 (by omega)).2]; rfl
  | 6, _ => rw [va_up_ne _ _ (by decide), (h1 6 (by omega)).2]; rfl
  | 7, _ => rw [va_up_ne _ _ (by decide), (h1 7 (by omega)).2]; rfl
  | 8, _ => rw [va_up_ne _ _ (by decide), (h1 8 (by omega)).2]; rfl
  | j + 9, hj =>
    rw [va_up_ne _ _ (by omega)]
    show cc (j + 9) = ctM G (fun s => bb (9 + 9 * (j / 9) + s)) (j % 9)
    by_cases hlt : j < 9 * i
    · rw [(h1 (j + 9) (by omega)).2]
      exact ctM_congr (fun s hs => ((h1 _ (by omega)).1).symm) _
    · have ei : j / 9 = i := by omega
      rw [ei]
      by_cases hz : j = 9 * i
      · rw [show j + 9 = 9 + 9 * i by omega, show j % 9 = 0 by omega, h3]
        show _ = fm_O 2 [.ref (bb (9 + 9 * i + 1)), .ref (bb (9 + 9 * i + 3)), .ref (bb (9 + 9 * i + 5)), .ref (bb (9 + 9 * i + 7)), .ref (bb (9 + 9 * i + 8))]
        rw [← (h4 0 (by decide)).1, ← (h4 2 (by decide)).1, ← (h4 4 (by decide)).1, ← (h4 6 (by decide)).1, ← (h4 7 (by decide)).1]
      · have hs : j + 9 = 9 + 9 * i + 1 + (j - 9 * i - 1) := by omega
        rw [hs, (h4 (j - 9 * i - 1) (by omega)).2, ctM_N (u := fun s => bb (9 + 9 * i + s)) (fun s hs => (by
          show bb (9 + 9 * i + (s + 1)) = b' s
          rw [show 9 + 9 * i + (s + 1) = 9 + 9 * i + 1 + s by omega]; exact (h4 s hs).1)) (by omega), show j - 9 * i - 1 + 1 = j % 9 by omega]

set_option maxHeartbeats 4000000 in
set_option maxRecDepth 100000 in
theorem l_R_init {G : fm_G} {X : fm_X} {M : fm_M} {q : Nat} (C : GC G X RX3 cX3_init 2 3 52 32 2674) (kk : ∀ M1 b ls, Nw M M1 q (fm_O 3 [.int (nI 0), .int (nI 0), .int (nI 0), .int (nI 0), .ref (b 0), .ref (b 1)]) 32 b (ctR G b 5) → GW G X 2 M1 32 2674 65 ls []) : ∀ d i M1 b, i + d = 5 → Nw M M1 q (fm_O 3 [.int (nI 0), .int (nI 0), .int (nI 0), .int (nI 0), .ref (b 0), .ref (b 1)]) (2 + 6 * i) b (ctR G b i) → GW G X 2 M1 (2 + 6 * i) (9 + 533 * i) 41 [(0, .ref q), (1, .int (nI i))] [] := by
  intro d
  induction d with
  | zero =>
    intro i M1 b hi N1
    have e : i = 5 := by omega
    subst e
    refine g_iload_n C dX3_init_41 rfl ?_
    refine g_iconst C dX3_init_42 (v := nI 4) rfl ?_
    refine g_icmp_gtN C dX3_init_43 (tgt := 65) (by decide) (by decide) (by decide) (fun hb => kk M1 b _ N1) (fun hb => absurd hb (by omega))
  | succ d ih =>
    intro i M1 b hi N1
    refine g_iload_n C dX3_init_41 rfl ?_
    refine g_iconst C dX3_init_42 (v := nI 4) rfl ?_
    refine g_icmp_gtN C dX3_init_43 (tgt := 65) (by decide) (by omega) (by decide) (fun hb => absurd hb (by omega)) (fun hb => ?_)
    refine g_aload_n C dX3_init_46 rfl ?_
    refine g_getf C fl_X3_30 dX3_init_47 N1.1 rfl ?_
    refine g_iload_n C dX3_init_50 rfl ?_
    refine g_new C cl_X3_28 dX3_init_51 (by omega) (by omega) (fun p hp => ?_)
    refine g_dup C dX3_init_54 rfl ?_
    refine g_callN C dX3_init_55 cw_X3_34 (c_End_init G p _ (fm_set_eq _ _ _)) rfl rfl (Nat.le_of_ble_eq_true rfl) (by omega) (by omega) (by omega) (by omega) (fun v M2 hq => ?_)
    obtain ⟨rfl, b', N2⟩ := hq
    obtain ⟨bb, cc, A, h1, h2, h3, h4⟩ := N1.sub2 hp N2
    have hA : M2 (b 1) = some (fm_R G 5 5 (fun k => if k < i then some (b (2 + 6 * k)) else none)) := by
      have := (A.2.1 1 (by omega)).2.2
      rw [(h1 1 (by omega)).1, (h1 1 (by omega)).2] at this
      exact this
    show GW G X 2 M2 (2 + 6 * i + 1 + 5) (9 + 533 * i + 3 + 530) 58 _ [.ref p, .int (nI i), .ref (b 1)]
    refine g_aast C dX3_init_58 hA rfl N2.1 (ci := 1) rfl (by omega) (by decide) ?_
    have B := A.mod (i := 1) (by omega) (fm_R G 5 5 (va_up (fun k => if k < i then some (b (2 + 6 * k)) else none) i (some p)))
    rw [(h1 1 (by omega)).1] at B
    have B2 := B.congr (cq' := fm_O 3 [.int (nI 0), .int (nI 0), .int (nI 0), .int (nI 0), .ref (bb 0), .ref (bb 1)]) (by rw [(h1 0 (by omega)).1, (h1 1 (by omega)).1]) (ctR_s h1 h2 h3 h4)
    refine g_inc1 C dX3_init_59 rfl (by decide) ?_
    refine g_goto C dX3_init_62 (tgt := 41) (by decide) ?_
    refine g_wide (k2 := 2 + 6 * (i + 1)) (s2 := 9 + 533 * (i + 1)) (by omega) (by omega) ?_
    exact ih (i + 1) _ bb (by omega) B2

set_option maxHeartbeats 4000000 in
set_option maxRecDepth 100000 in
theorem c_R_init (G : fm_G) (a : Nat) (M : fm_M) (hc : M a = some (fm_O 3 [.int 0, .int 0, .int 0, .int 0, .null, .null])) : fm_Ct G yX3_init cX3_init 2 none 3 52 32 2674 [.ref a] M (fun v M1 => v = none ∧ ∃ b, Nw M M1 a (fm_O 3 [.int (nI 0), .int (nI 0), .int (nI 0), .int (nI 0), .ref (b 0), .ref (b 1)]) 32 b (ctR G b 5)) := by
  refine fm_head (by decide) (Nat.le_of_ble_eq_true rfl) rfl (fun X C N0 rt => ?_)
  have Z0 := Nw.start hc (fun _ => 0) (fun _ => fm_O 0 [])
  refine g_aload_n C dX3_init_0 rfl ?_
  refine g_objI C dX3_init_1 cw_X3_3 (by decide) (by decide) ?_
  refine g_aload_n C dX3_init_4 rfl ?_
  refine g_iconst C dX3_init_5 (v := nI 0) rfl ?_
  refine g_putf C fl_X3_9 rfl dX3_init_6 Z0.1 rfl rfl (Nat.le_of_ble_eq_true rfl) ?_
  have N1 := Z0.put (fm_O 3 [.int (nI 0), .int 0, .int 0, .int 0, .null, .null])
  refine g_aload_n C dX3_init_9 rfl ?_
  refine g_iconst C dX3_init_10 (v := nI 0) rfl ?_
  refine g_putf C fl_X3_15 rfl dX3_init_11 N1.1 rfl rfl (Nat.le_of_ble_eq_true rfl) ?_
  have N2 := N1.put (fm_O 3 [.int (nI 0), .int (nI 0), .int 0, .int 0, .null, .null])
  refine g_aload_n C dX3_init_14 rfl ?_
  refine g_iconst C dX3_init_15 (v := nI 0) rfl ?_
  refine g_putf C fl_X3_18 rfl dX3_init_16 N2.1 rfl rfl (Nat.le_of_ble_eq_true rfl) ?_
  have N3 := N2.put (fm_O 3 [.int (nI 0), .int (nI 0), .int (nI 0), .int 0, .null, .null])
  refine g_aload_n C dX3_init_19 rfl ?_
  refine g_iconst C dX3_init_20 (v := nI 0) rfl ?_
  refine g_putf C fl_X3_21 rfl dX3_init_21 N3.1 rfl rfl (Nat.le_of_ble_eq_true rfl) ?_
  have N4 := N3.put (fm_O 3 [.int (nI 0), .int (nI 0), .int (nI 0), .int (nI 0), .null, .null])
  refine g_aload_n C dX3_init_24 rfl ?_
  refine g_iconst C dX3_init_25 (v := nI 4) rfl ?_
  refine g_newI C rfl ka_int dX3_init_26 (by decide) (by decide) (by decide) (fun q5 hq5 => ?_)
  have A5 := N4.new hq5 (fm_I G 4 (fun _ => 0))
  refine g_putF C N0 fl_X3_24 rfl rfl dX3_init_28 A5.1 rfl rfl (Nat.le_of_ble_eq_true rfl) ?_
  have N5 := A5.put (fm_O 3 [.int (nI 0), .int (nI 0), .int (nI 0), .int (nI 0), .ref q5, .null])
  refine g_aload_n C dX3_init_31 rfl ?_
  refine g_iconst C dX3_init_32 (v := nI 5) rfl ?_
  refine g_newR (t := 5) C kl_X3_28 (by decide) rfl dX3_init_33 (by decide) (by decide) (by decide) (fun q6 hq6 => ?_)
  have A6 := N5.new hq6 (fm_R G 5 5 (fun _ => none))
  refine g_putF C N0 fl_X3_30 rfl rfl dX3_init_36 A6.1 rfl rfl (Nat.le_of_ble_eq_true rfl) ?_
  have N6 := A6.put (fm_O 3 [.int (nI 0), .int (nI 0), .int (nI 0), .int (nI 0), .ref q5, .ref q6])
  refine g_iconst C dX3_init_39 (v := nI 0) rfl ?_
  refine g_istore_n C dX3_init_40 (by decide) ?_
  exact l_R_init (M := M) (q := a) C (fun M1 b ls N1 => rt none M1 _ _ _ ls (fm_retV dX3_init_65) ⟨rfl, b, N1⟩ (by decide) (by decide)) 5 0 _ _ (by omega) (Nw.congr N6 rfl (fun i hi => match i, hi with | 0, _ => rfl | 1, _ => rfl | n + 2, h => absurd h (by omega)))

set_option maxHeartbeats 4000000 in
set_option maxRecDepth 100000 in
theorem l_LC_init {G : fm_G} {X : fm_X} {M : fm_M} {q : Nat} (C : GC G X RX5 cX5_init 2 3 52 54 7316) (kk : ∀ M1 b ls, Nw M M1 q (fm_O 5 [.ref (b 0), .ref (b 1), .int (nI 0), .int (nI 1), .ref (b 2), .int (nI 0), .ref (b 3)]) 54 b (ctL G b 5) → GW G X 2 M1 54 7316 82 ls []) : ∀ d i M1 b, i + d = 5 → Nw M M1 q (fm_O 5 [.ref (b 0), .ref (b 1), .int (nI 0), .int (nI 1), .ref (b 2), .int (nI 0), .ref (b 3)]) (9 + 9 * i) b (ctL G b i) → GW G X 2 M1 (9 + 9 * i) (2036 + 1056 * i) 58 [(0, .ref q), (1, .int (nI i))] [] := by
  intro d
  induction d with
  | zero =>
    intro i M1 b hi N1
    have e : i = 5 := by omega
    subst e
    refine g_iload_n C dX5_init_58 rfl ?_
    refine g_iconst C dX5_init_59 (v := nI 5) rfl ?_
    refine g_icmp_geN C dX5_init_60 (tgt := 82) (by decide) (by decide) (by decide) (fun hb => kk M1 b _ N1) (fun hb => absurd hb (by omega))
  | succ d ih =>
    intro i M1 b hi N1
    refine g_iload_n C dX5_init_58 rfl ?_
    refine g_iconst C dX5_init_59 (v := nI 5) rfl ?_
    refine g_icmp_geN C dX5_init_60 (tgt := 82) (by decide) (by omega) (by decide) (fun hb => absurd hb (by omega)) (fun hb => ?_)
    refine g_aload_n C dX5_init_63 rfl ?_
    refine g_getf C fl_X5_11 dX5_init_64 N1.1 rfl ?_
    refine g_iload_n C dX5_init_67 rfl ?_
    refine g_new C cl_X5_9 dX5_init_68 (by omega) (by omega) (fun p hp => ?_)
    refine g_dup C dX5_init_71 rfl ?_
    refine g_callN C dX5_init_72 cw_X5_43 (c_NT_init G p _ (fm_set_eq _ _ _)) rfl rfl (Nat.le_of_ble_eq_true rfl) (by omega) (by omega) (by omega) (by omega) (fun v M2 hq => ?_)
    obtain ⟨rfl, b', N2⟩ := hq
    obtain ⟨bb, cc, A, h1, h2, h3, h4⟩ := N1.sub2 hp N2
    have hA : M2 (b 0) = some (fm_R G 3 5 (fun k => if k < i then some (b (9 + 9 * k)) else none)) := by
      have := (A.2.1 0 (by omega)).2.2
      rw [(h1 0 (by omega)).1, (h1 0 (by omega)).2] at this
      exact this
    show GW G X 2 M2 (9 + 9 * i + 1 + 8) (2036 + 1056 * i + 5 + 1051) 75 _ [.ref p, .int (nI i), .ref (b 0)]
    refine g_aast C dX5_init_75 hA rfl N2.1 (ci := 2) rfl (by omega) (by decide) ?_
    have B := A.mod (i := 0) (by omega) (fm_R G 3 5 (va_up (fun k => if k < i then some (b (9 + 9 * k)) else none) i (some p)))
    rw [(h1 0 (by omega)).1] at B
    have B2 := B.congr (cq' := fm_O 5 [.ref (bb 0), .ref (bb 1), .int (nI 0), .int (nI 1), .ref (bb 2), .int (nI 0), .ref (bb 3)]) (by rw [(h1 0 (by omega)).1, (h1 1 (by omega)).1, (h1 2 (by omega)).1, (h1 3 (by omega)).1]) (ctL_s h1 h2 h3 h4)
    refine g_inc1 C dX5_init_76 rfl (by decide) ?_
    refine g_goto C dX5_init_79 (tgt := 58) (by decide) ?_
    refine g_wide (k2 := 9 + 9 * (i + 1)) (s2 := 2036 + 1056 * (i + 1)) (by omega) (by omega) ?_
    exact ih (i + 1) _ bb (by omega) B2

set_option maxHeartbeats 4000000 in
set_option maxRecDepth 100000 in
theorem c_LC_init (G : fm_G) (a : Nat) (M : fm_M) (hc : M a = some (fm_O 5 [.null, .null, .int 0, .int 0, .null, .int 0, .null])) : fm_Ct G yX5_init cX5_init 2 none 3 52 54 7316 [.ref a] M (fun v M1 => v = none ∧ ∃ b, Nw M M1 a (fm_O 5 [.ref (b 0), .ref (b 1), .int (nI 0), .int (nI 1), .ref (b 2), .int (nI 0), .ref (b 3)]) 54 b (ctL G b 5)) := by
  refine fm_head (by decide) (Nat.le_of_ble_eq_true rfl) rfl (fun X C N0 rt => ?_)
  have Z0 := Nw.start hc (fun _ => 0) (fun _ => fm_O 0 [])
  refine g_aload_n C dX5_init_0 rfl ?_
  refine g_objI C dX5_init_1 cw_X5_3 (by decide) (by decide) ?_
  refine g_aload_n C dX5_init_4 rfl ?_
  refine g_iconst C dX5_init_5 (v := nI 5) rfl ?_
  refine g_newR (t := 3) C kl_X5_9 (by decide) rfl dX5_init_6 (by decide) (by decide) (by decide) (fun q1 hq1 => ?_)
  have A1 := Z0.new hq1 (fm_R G 3 5 (fun _ => none))
  refine g_putF C N0 fl_X5_11 rfl rfl dX5_init_9 A1.1 rfl rfl (Nat.le_of_ble_eq_true rfl) ?_
  have N1 := A1.put (fm_O 5 [.ref q1, .null, .int 0, .int 0, .null, .int 0, .null])
  refine g_aload_n C dX5_init_12 rfl ?_
  refine g_bipush C dX5_init_13 (v := nI 10) rfl ?_
  refine g_newR (t := 4) C kl_X5_15 (by decide) rfl dX5_init_15 (by decide) (by decide) (by decide) (fun q2 hq2 => ?_)
  have A2 := N1.new hq2 (fm_R G 4 10 (fun _ => none))
  refine g_putF C N0 fl_X5_17 rfl rfl dX5_init_18 A2.1 rfl rfl (Nat.le_of_ble_eq_true rfl) ?_
  have N2 := A2.put (fm_O 5 [.ref q1, .ref q2, .int 0, .int 0, .null, .int 0, .null])
  refine g_aload_n C dX5_init_21 rfl ?_
  refine g_iconst C dX5_init_22 (v := nI 0) rfl ?_
  refine g_putf C fl_X5_21 rfl dX5_init_23 N2.1 rfl rfl (Nat.le_of_ble_eq_true rfl) ?_
  have N3 := N2.put (fm_O 5 [.ref q1, .ref q2, .int (nI 0), .int 0, .null, .int 0, .null])
  refine g_aload_n C dX5_init_26 rfl ?_
  refine g_iconst C dX5_init_27 (v := nI 1) rfl ?_
  refine g_putf C fl_X5_25 rfl dX5_init_28 N3.1 rfl rfl (Nat.le_of_ble_eq_true rfl) ?_
  have N4 := N3.put (fm_O 5 [.ref q1, .ref q2, .int (nI 0), .int (nI 1), .null, .int 0, .null])
  refine g_aload_n C dX5_init_31 rfl ?_
  refine g_sipush C dX5_init_32 (v := nI 500) rfl ?_
  refine g_newI C rfl ka_int dX5_init_35 (by decide) (by decide) (by decide) (fun q5 hq5 => ?_)
  have A5 := N4.new hq5 (fm_I G 500 (fun _ => 0))
  refine g_putF C N0 fl_X5_29 rfl rfl dX5_init_37 A5.1 rfl rfl (Nat.le_of_ble_eq_true rfl) ?_
  have N5 := A5.put (fm_O 5 [.ref q1, .ref q2, .int (nI 0), .int (nI 1), .ref q5, .int 0, .null])
  refine g_aload_n C dX5_init_40 rfl ?_
  refine g_iconst C dX5_init_41 (v := nI 0) rfl ?_
  refine g_putf C fl_X5_33 rfl dX5_init_42 N5.1 rfl rfl (Nat.le_of_ble_eq_true rfl) ?_
  have N6 := N5.put (fm_O 5 [.ref q1, .ref q2, .int (nI 0), .int (nI 1), .ref q5, .int (nI 0), .null])
  refine g_aload_n C dX5_init_45 rfl ?_
  refine g_new C cl_X5_36 dX5_init_46 (by decide) (by decide) (fun q7 hq7 => ?_)
  refine g_dup C dX5_init_49 rfl ?_
  refine g_callN C dX5_init_50 cw_X5_38 (c_Walk_init G q7 _ (fm_set_eq _ _ _)) rfl rfl (Nat.le_of_ble_eq_true rfl) (by decide) (by decide) (by decide) (by decide) (fun v M7 hp => ?_)
  obtain ⟨rfl, b7, W7⟩ := hp
  have A7 := N6.sub hq7 W7
  refine g_putF C N0 fl_X5_39 rfl rfl dX5_init_53 A7.1 rfl rfl (Nat.le_of_ble_eq_true rfl) ?_
  have N7 := A7.put (fm_O 5 [.ref q1, .ref q2, .int (nI 0), .int (nI 1), .ref q5, .int (nI 0), .ref q7])
  refine g_iconst C dX5_init_56 (v := nI 0) rfl ?_
  refine g_istore_n C dX5_init_57 (by decide) ?_
  exact l_LC_init (M := M) (q := a) C (fun M1 b ls N1 => rt none M1 _ _ _ ls (fm_retV dX5_init_82) ⟨rfl, b, N1⟩ (by decide) (by decide)) 5 0 _ _ (by omega) (Nw.congr N7 rfl (fun i hi => match i, hi with | 0, _ => rfl | 1, _ => rfl | 2, _ => rfl | 3, _ => rfl | 4, _ => rfl | 5, _ => rfl | 6, _ => rfl | 7, _ => rfl | 8, _ => rfl | n + 9, h => absurd h (by omega)))
