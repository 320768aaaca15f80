/-! CONSTRUCTORS: an object under construction at q, and what came new, at b 0, b 1, .. -/
def Nw (M M1 : fm_M) (q : Nat) (cq : va_E) (m : Nat) (b : Nat → Nat) (ct : Nat → va_E) : Prop := M1 q = some cq ∧ (∀ i, i < m → b i ≠ q ∧ M (b i) = none ∧ M1 (b i) = some (ct i)) ∧ (∀ i j, i < m → j < m → b i = b j → i = j) ∧ ∀ a, a ≠ q → (∀ i, i < m → a ≠ b i) → M1 a = M a
section NWS
variable {M M1 M2 : fm_M} {q m m' p : Nat} {cq e0 cp : va_E} {b b' : Nat → Nat} {ct ct' : Nat → va_E}
theorem Nw.start (h : M q = some cq) (b : Nat → Nat) (ct : Nat → va_E) : Nw M M q cq 0 b ct := ⟨h, fun i hi => absurd hi (Nat.not_lt_zero i), fun i j hi => absurd hi (Nat.not_lt_zero i), fun _ _ _ => rfl⟩
theorem Nw.put (h : Nw M M1 q cq m b ct) (e : va_E) : Nw M (fm_set M1 q e) q e m b ct := by
  obtain ⟨h1, h2, h3, h4⟩ := h
  refine ⟨fm_set_eq _ _ _, fun i hi => ⟨(h2 i hi).1, (h2 i hi).2.1, ?_⟩, h3, fun a ha hb => ?_⟩
  · rw [fm_set_ne _ _ (h2 i hi).1]; exact (h2 i hi).2.2
  · rw [fm_set_ne _ _ ha]; exact h4 a ha hb
theorem Nw.fr0 (h : Nw M M1 q cq m b ct) (hp : M1 p = none) : p ≠ q ∧ (∀ i, i < m → p ≠ b i) ∧ M p = none := by
  obtain ⟨h1, h2, h3, h4⟩ := h
  have k1 : p ≠ q := fun z => by rw [z, h1] at hp; cases hp
  have k2 : ∀ i, i < m → p ≠ b i := fun i hi z => by rw [z, (h2 i hi).2.2] at hp; cases hp
  exact ⟨k1, k2, (h4 p k1 k2).symm.trans hp⟩
theorem Nw.new (h : Nw M M1 q cq m b ct) (hp : M1 p = none) (e : va_E) : Nw M (fm_set M1 p e) q cq (m + 1) (va_up b m p) (va_up ct m e) := by
  obtain ⟨k1, k2, k3⟩ := h.fr0 hp
  obtain ⟨h1, h2, h3, h4⟩ := h
  refine ⟨?_, fun i hi => ?_, fun i j hi hj hij => ?_, fun a ha hb => ?_⟩
  · rw [fm_set_ne _ _ (fun z => k1 z.symm)]; exact h1
  · by_cases he : i = m
    · subst he; rw [va_up_self, va_up_self]; exact ⟨k1, k3, fm_set_eq _ _ _⟩
    · rw [va_up_ne _ _ he, va_up_ne _ _ he]
      obtain ⟨a1, a2, a3⟩ := h2 i (by omega)
      exact ⟨a1, a2, by rw [fm_set_ne _ _ (fun z => k2 i (by omega) z.symm)]; exact a3⟩
  · by_cases he : i = m <;> by_cases hf : j = m
    · omega
    · subst he; rw [va_up_self, va_up_ne _ _ hf] at hij; exact absurd hij (k2 j (by omega))
    · subst hf; rw [va_up_self, va_up_ne _ _ he] at hij; exact absurd hij.symm (k2 i (by omega))
    · rw [va_up_ne _ _ he, va_up_ne _ _ hf] at hij; exact h3 i j (by omega) (by omega) hij
  · have hap : a ≠ p := fun z => hb m (Nat.lt_succ_self m) (by rw [va_up_self]; exact z)
    rw [fm_set_ne _ _ hap]
    exact h4 a ha (fun i hi z => hb i (by omega) (by rw [va_up_ne _ _ (by omega)]; exact z))
theorem Nw.mod (h : Nw M M1 q cq m b ct) {i : Nat} (hi : i < m) (e : va_E) : Nw M (fm_set M1 (b i) e) q cq m b (va_up ct i e) := by
  obtain ⟨h1, h2, h3, h4⟩ := h
  refine ⟨?_, fun j hj => ⟨(h2 j hj).1, (h2 j hj).2.1, ?_⟩, h3, fun a ha hb => ?_⟩
  · rw [fm_set_ne _ _ (fun z => (h2 i hi).1 z.symm)]; exact h1
  · by_cases he : j = i
    · subst he; rw [va_up_self]; exact fm_set_eq _ _ _
    · rw [va_up_ne _ _ he, fm_set_ne _ _ (fun z => he (h3 j i hj hi z))]; exact (h2 j hj).2.2
  · rw [fm_set_ne _ _ (hb i hi)]; exact h4 a ha hb
theorem Nw.sub (h : Nw M M1 q cq m b ct) (hp : M1 p = none) (h' : Nw (fm_set M1 p e0) M2 p cp m' b' ct') : Nw M M2 q cq (m + 1 + m') (fun j => if j < m then b j else if j = m then p else b' (j - (m + 1))) (fun j => if j < m then ct j else if j = m then cp else ct' (j - (m + 1))) := by
  obtain ⟨k1, k2, k3⟩ := h.fr0 hp
  obtain ⟨h1, h2, h3, h4⟩ := h
  obtain ⟨g1, g2, g3, g4⟩ := h'
  have f1 : ∀ j, j < m' → b' j ≠ p ∧ M1 (b' j) = none ∧ M2 (b' j) = some (ct' j) := fun j hj => by
    obtain ⟨a1, a2, a3⟩ := g2 j hj
    rw [fm_set_ne _ _ a1] at a2
    exact ⟨a1, a2, a3⟩
  have f2 : ∀ j, j < m' → b' j ≠ q ∧ (∀ i, i < m → b' j ≠ b i) ∧ M (b' j) = none := fun j hj => Nw.fr0 ⟨h1, h2, h3, h4⟩ (f1 j hj).2.1
  have old : ∀ a e, M1 a = some e → M2 a = some e := fun a e he => by
    have n1 : a ≠ p := fun z => by rw [z, hp] at he; cases he
    have n2 : ∀ j, j < m' → a ≠ b' j := fun j hj z => by rw [z, (f1 j hj).2.1] at he; cases he
    rw [g4 a n1 n2, fm_set_ne _ _ n1]; exact he
  refine ⟨old q _ h1, fun i hi => ?_, fun i j hi hj hij => ?_, fun a ha hb => ?_⟩
  · by_cases c1 : i < m
    · simp only [if_pos c1]
      exact ⟨(h2 i c1).1, (h2 i c1).2.1, old _ _ (h2 i c1).2.2⟩
    · by_cases c2 : i = m
      · simp only [if_neg c1, if_pos c2]; exact ⟨k1, k3, g1⟩
      · simp only [if_neg c1, if_neg c2]
        exact ⟨(f2 _ (by omega)).1, (f2 _ (by omega)).2.2, (f1 _ (by omega)).2.2⟩
  · by_cases c1 : i < m <;> by_cases d1 : j < m
    · simp only [if_pos c1, if_pos d1] at hij; exact h3 i j c1 d1 hij
    · by_cases d2 : j = m
      · simp only [if_pos c1, if_neg d1, if_pos d2] at hij; exact absurd hij.symm (k2 i c1)
      · simp only [if_pos c1, if_neg d1, if_neg d2] at hij; exact absurd hij.symm ((f2 _ (by omega)).2.1 i c1)
    · by_cases c2 : i = m
      · simp only [if_neg c1, if_pos c2, if_pos d1] at hij; exact absurd hij (k2 j d1)
      · simp only [if_neg c1, if_neg c2, if_pos d1] at hij; exact absurd hij ((f2 _ (by omega)).2.1 j d1)
    · by_cases c2 : i = m <;> by_cases d2 : j = m
      · omega
      · simp only [if_neg c1, if_pos c2, if_neg d1, if_neg d2] at hij; exact absurd hij.symm (f1 _ (by omega)).1
      · simp only [if_neg c1, if_neg c2, if_neg d1, if_pos d2] at hij; exact absurd hij (f1 _ (by omega)).1
      · simp only [if_neg c1, if_neg c2, if_neg d1, if_neg d2] at hij
        have := g3 _ _ (by omega) (by omega) hij
        omega
  · have n1 : a ≠ p := fun z => hb m (by omega) (by simp only [if_neg (Nat.lt_irrefl m), if_pos]; exact z)
    have n2 : ∀ j, j < m' → a ≠ b' j := fun j hj z => hb (m + 1 + j) (by omega) (by
      simp only [if_neg (show ¬ m + 1 + j < m by omega), if_neg (show ¬ m + 1 + j = m by omega), show m + 1 + j - (m + 1) = j by omega]; exact z)
    rw [g4 a n1 n2, fm_set_ne _ _ n1]
    exact h4 a ha (fun i hi z => hb i (by omega) (by simp only [if_pos hi]; exact z))
theorem Nw.congr {cq' : va_E} {ct' : Nat → va_E} (h : Nw M M1 q cq m b ct) (h1 : cq = cq') (h2 : ∀ i, i < m → ct i = ct' i) : Nw M M1 q cq' m b ct' := by
  obtain ⟨k1, k2, k3, k4⟩ := h
  subst h1
  exact ⟨k1, fun i hi => ⟨(k2 i hi).1, (k2 i hi).2.1, by rw [(k2 i hi).2.2, h2 i hi]⟩, k3, k4⟩
end NWS
theorem CS_Nw {G : fm_G} {M : fm_M} {q p : Nat} {e : va_E} (hq : M q = some e) (hp : M p = none) : Nw M (fm_set (fm_set M p (fm_L G 8 (fun _ => 0))) q (fm_O 0 [.ref p])) q (fm_O 0 [.ref p]) 1 (fun _ => p) (fun _ => fm_L G 8 (fun _ => 0)) :=
  by
  have h := ((Nw.start hq (fun _ => p) (fun _ => fm_L G 8 (fun _ => 0))).new hp (fm_L G 8 (fun _ => 0))).put (fm_O 0 [.ref p])
  have e1 : va_up (fun _ : Nat => p) 0 p = fun _ => p := funext fun j => by by_cases h : j = 0; rw [h, va_up_self]; rw [va_up_ne _ _ h]
  have e2 : va_up (fun _ : Nat => fm_L G 8 (fun _ => 0)) 0 (fm_L G 8 (fun _ => 0)) = fun _ => fm_L G 8 (fun _ => 0) := funext fun j => by by_cases h : j = 0; rw [h, va_up_self]; rw [va_up_ne _ _ h]
  rw [e1, e2] at h
  exact h

def ctE (G : fm_G) (b : Nat → Nat) : Nat → va_E
  | 0 => fm_O 0 [.ref (b 1)]
  | 1 => fm_L G 8 (fun _ => 0)
  | 2 => fm_O 0 [.ref (b 3)]
  | 3 => fm_L G 8 (fun _ => 0)
  | _ => fm_I G 512 (fun _ => 0)
def ctN (G : fm_G) (b : Nat → Nat) : Nat → va_E
  | 0 => fm_O 0 [.ref (b 1)]
  | 1 => fm_L G 8 (fun _ => 0)
  | 2 => fm_O 0 [.ref (b 3)]
  | 3 => fm_L G 8 (fun _ => 0)
  | 4 => fm_O 0 [.ref (b 5)]
  | 5 => fm_L G 8 (fun _ => 0)
  | _ => fm_I G 512 (fun _ => 0)
def ctW (G : fm_G) : Nat → va_E
  | 0 => fm_I G 500 (fun _ => 0)
  | 1 => fm_I G 10 (fun _ => 0)
  | 2 => fm_I G 500 (fun _ => 0)
  | 3 => fm_I G 500 (fun _ => 0)
  | _ => fm_I G 4 (fun _ => 0)

set_option maxHeartbeats 4000000 in
set_option maxRecDepth 100000 in
theorem c_End_init (G : fm_G) (a : Nat) (M : fm_M) (hc : M a = some (fm_O 1 [.null, .null, .null])) : fm_Ct G yX1_init cX1_init 1 none 2 32 5 530 [.ref a] M (fun v M1 => v = none ∧ ∃ b, Nw M M1 a (fm_O 1 [.ref (b 0), .ref (b 2), .ref (b 4)]) 5 b (ctE G b)) := by
  refine fm_head (by decide) (Nat.le_of_ble_eq_true rfl) rfl (fun X C N0 rt => ?_)
  have Z0 := Nw.start hc (fun _ => 0) (fun _ => fm_O 0 [])
  refine g_aload_n C dX1_init_0 rfl ?_
  refine g_objI C dX1_init_1 cw_X1_3 (by decide) (by decide) ?_
  refine g_aload_n C dX1_init_4 rfl ?_
  refine g_new C cl_X1_9 dX1_init_5 (by decide) (by decide) (fun q1 hq1 => ?_)
  refine g_dup C dX1_init_8 rfl ?_
  refine g_callN C dX1_init_9 cw_X1_11 (c_CS_init G q1 _ (fm_set_eq _ _ _)) rfl rfl (Nat.le_of_ble_eq_true rfl) (by decide) (by decide) (by decide) (by decide) (fun v M1 hp => ?_)
  obtain ⟨rfl, p1, hp1, rfl⟩ := hp
  have A1 := Z0.sub hq1 (CS_Nw (G := G) (fm_set_eq _ _ _) hp1)
  refine g_putF C N0 fl_X1_12 rfl rfl dX1_init_12 A1.1 rfl rfl (Nat.le_of_ble_eq_true rfl) ?_
  have N1 := A1.put (fm_O 1 [.ref q1, .null, .null])
  refine g_aload_n C dX1_init_15 rfl ?_
  refine g_new C cl_X1_9 dX1_init_16 (by decide) (by decide) (fun q2 hq2 => ?_)
  refine g_dup C dX1_init_19 rfl ?_
  refine g_callN C dX1_init_20 cw_X1_11 (c_CS_init G q2 _ (fm_set_eq _ _ _)) rfl rfl (Nat.le_of_ble_eq_true rfl) (by decide) (by decide) (by decide) (by decide) (fun v M2 hp => ?_)
  obtain ⟨rfl, p2, hp2, rfl⟩ := hp
  have A2 := N1.sub hq2 (CS_Nw (G := G) (fm_set_eq _ _ _) hp2)
  refine g_putF C N0 fl_X1_18 rfl rfl dX1_init_23 A2.1 rfl rfl (Nat.le_of_ble_eq_true rfl) ?_
  have N2 := A2.put (fm_O 1 [.ref q1, .ref q2, .null])
  refine g_aload_n C dX1_init_26 rfl ?_
  refine g_sipush C dX1_init_27 (v := nI 512) rfl ?_
  refine g_newI C rfl ka_int dX1_init_30 (by decide) (by decide) (by decide) (fun q3 hq3 => ?_)
  have A3 := N2.new hq3 (fm_I G 512 (fun _ => 0))
  refine g_putF C N0 fl_X1_21 rfl rfl dX1_init_32 A3.1 rfl rfl (Nat.le_of_ble_eq_true rfl) ?_
  have N3 := A3.put (fm_O 1 [.ref q1, .ref q2, .ref q3])
  exact rt none _ _ _ _ _ (fm_retV dX1_init_35) ⟨rfl, _, Nw.congr N3 rfl (fun i hi => match i, hi with | 0, _ => rfl | 1, _ => rfl | 2, _ => rfl | 3, _ => rfl | 4, _ => rfl | n + 5, h => absurd h (by omega))⟩ (by decide) (by decide)

set_option maxHeartbeats 4000000 in
set_option maxRecDepth 100000 in
theorem c_NT_init (G : fm_G) (a : Nat) (M : fm_M) (hc : M a = some (fm_O 2 [.null, .null, .null, .null, .null])) : fm_Ct G yX2_init cX2_init 1 none 2 32 8 1051 [.ref a] M (fun v M1 => v = none ∧ ∃ b, Nw M M1 a (fm_O 2 [.ref (b 0), .ref (b 2), .ref (b 4), .ref (b 6), .ref (b 7)]) 8 b (ctN G b)) := by
  refine fm_head (by decide) (Nat.le_of_ble_eq_true rfl) rfl (fun X C N0 rt => ?_)
  have Z0 := Nw.start hc (fun _ => 0) (fun _ => fm_O 0 [])
  refine g_aload_n C dX2_init_0 rfl ?_
  refine g_objI C dX2_init_1 cw_X2_3 (by decide) (by decide) ?_
  refine g_aload_n C dX2_init_4 rfl ?_
  refine g_new C cl_X2_9 dX2_init_5 (by decide) (by decide) (fun q1 hq1 => ?_)
  refine g_dup C dX2_init_8 rfl ?_
  refine g_callN C dX2_init_9 cw_X2_11 (c_CS_init G q1 _ (fm_set_eq _ _ _)) rfl rfl (Nat.le_of_ble_eq_true rfl) (by decide) (by decide) (by decide) (by decide) (fun v M1 hp => ?_)
  obtain ⟨rfl, p1, hp1, rfl⟩ := hp
  have A1 := Z0.sub hq1 (CS_Nw (G := G) (fm_set_eq _ _ _) hp1)
  refine g_putF C N0 fl_X2_12 rfl rfl dX2_init_12 A1.1 rfl rfl (Nat.le_of_ble_eq_true rfl) ?_
  have N1 := A1.put (fm_O 2 [.ref q1, .null, .null, .null, .null])
  refine g_aload_n C dX2_init_15 rfl ?_
  refine g_new C cl_X2_9 dX2_init_16 (by decide) (by decide) (fun q2 hq2 => ?_)
  refine g_dup C dX2_init_19 rfl ?_
  refine g_callN C dX2_init_20 cw_X2_11 (c_CS_init G q2 _ (fm_set_eq _ _ _)) rfl rfl (Nat.le_of_ble_eq_true rfl) (by decide) (by decide) (by decide) (by decide) (fun v M2 hp => ?_)
  obtain ⟨rfl, p2, hp2, rfl⟩ := hp
  have A2 := N1.sub hq2 (CS_Nw (G := G) (fm_set_eq _ _ _) hp2)
  refine g_putF C N0 fl_X2_18 rfl rfl dX2_init_23 A2.1 rfl rfl (Nat.le_of_ble_eq_true rfl) ?_
  have N2 := A2.put (fm_O 2 [.ref q1, .ref q2, .null, .null, .null])
  refine g_aload_n C dX2_init_26 rfl ?_
  refine g_new C cl_X2_9 dX2_init_27 (by decide) (by decide) (fun q3 hq3 => ?_)
  refine g_dup C dX2_init_30 rfl ?_
  refine g_callN C dX2_init_31 cw_X2_11 (c_CS_init G q3 _ (fm_set_eq _ _ _)) rfl rfl (Nat.le_of_ble_eq_true rfl) (by decide) (by decide) (by decide) (by decide) (fun v M3 hp => ?_)
  obtain ⟨rfl, p3, hp3, rfl⟩ := hp
  have A3 := N2.sub hq3 (CS_Nw (G := G) (fm_set_eq _ _ _) hp3)
  refine g_putF C N0 fl_X2_21 rfl rfl dX2_init_34 A3.1 rfl rfl (Nat.le_of_ble_eq_true rfl) ?_
  have N3 := A3.put (fm_O 2 [.ref q1, .ref q2, .ref q3, .null, .null])
  refine g_aload_n C dX2_init_37 rfl ?_
  refine g_sipush C dX2_init_38 (v := nI 512) rfl ?_
  refine g_newI C rfl ka_int dX2_init_41 (by decide) (by decide) (by decide) (fun q4 hq4 => ?_)
  have A4 := N3.new hq4 (fm_I G 512 (fun _ => 0))
  refine g_putF C N0 fl_X2_24 rfl rfl dX2_init_43 A4.1 rfl rfl (Nat.le_of_ble_eq_true rfl) ?_
  have N4 := A4.put (fm_O 2 [.ref q1, .ref q2, .ref q3, .ref q4, .null])
  refine g_aload_n C dX2_init_46 rfl ?_
  refine g_sipush C dX2_init_47 (v := nI 512) rfl ?_
  refine g_newI C rfl ka_int dX2_init_50 (by decide) (by decide) (by decide) (fun q5 hq5 => ?_)
  have A5 := N4.new hq5 (fm_I G 512 (fun _ => 0))
  refine g_putF C N0 fl_X2_28 rfl rfl dX2_init_52 A5.1 rfl rfl (Nat.le_of_ble_eq_true rfl) ?_
  have N5 := A5.put (fm_O 2 [.ref q1, .ref q2, .ref q3, .ref q4, .ref q5])
  exact rt none _ _ _ _ _ (fm_retV dX2_init_55) ⟨rfl, _, Nw.congr N5 rfl (fun i hi => match i, hi with | 0, _ => rfl | 1, _ => rfl | 2, _ => rfl | 3, _ => rfl | 4, _ => rfl | 5, _ => rfl | 6, _ => rfl | 7, _ => rfl | n + 8, h => absurd h (by omega))⟩ (by decide) (by decide)

set_option maxHeartbeats 4000000 in
set_option maxRecDepth 100000 in
theorem c_Walk_init (G : fm_G) (a : Nat) (M : fm_M) (hc : M a = some (fm_O 4 [.null, .null, .int 0, .null, .null, .int 0, .null])) : fm_Ct G yX4_init cX4_init 1 none 1 12 5 1514 [.ref a] M (fun v M1 => v = none ∧ ∃ b, Nw M M1 a (fm_O 4 [.ref (b 0), .ref (b 1), .int (nI 0), .ref (b 2), .ref (b 3), .int (nI 0), .ref (b 4)]) 5 b (ctW G)) := by
  refine fm_head (by decide) (Nat.le_of_ble_eq_true rfl) rfl (fun X C N0 rt => ?_)
  have Z0 := Nw.start hc (fun _ => 0) (fun _ => fm_O 0 [])
  refine g_aload_n C dX4_init_0 rfl ?_
  refine g_objI C dX4_init_1 cw_X4_3 (by decide) (by decide) ?_
  refine g_aload_n C dX4_init_4 rfl ?_
  refine g_sipush C dX4_init_5 (v := nI 500) rfl ?_
  refine g_newI C rfl ka_int dX4_init_8 (by decide) (by decide) (by decide) (fun q1 hq1 => ?_)
  have A1 := Z0.new hq1 (fm_I G 500 (fun _ => 0))
  refine g_putF C N0 fl_X4_9 rfl rfl dX4_init_10 A1.1 rfl rfl (Nat.le_of_ble_eq_true rfl) ?_
  have N1 := A1.put (fm_O 4 [.ref q1, .null, .int 0, .null, .null, .int 0, .null])
  refine g_aload_n C dX4_init_13 rfl ?_
  refine g_bipush C dX4_init_14 (v := nI 10) rfl ?_
  refine g_newI C rfl ka_int dX4_init_16 (by decide) (by decide) (by decide) (fun q2 hq2 => ?_)
  have A2 := N1.new hq2 (fm_I G 10 (fun _ => 0))
  refine g_putF C N0 fl_X4_15 rfl rfl dX4_init_18 A2.1 rfl rfl (Nat.le_of_ble_eq_true rfl) ?_
  have N2 := A2.put (fm_O 4 [.ref q1, .ref q2, .int 0, .null, .null, .int 0, .null])
  refine g_aload_n C dX4_init_21 rfl ?_
  refine g_iconst C dX4_init_22 (v := nI 0) rfl ?_
  refine g_putf C fl_X4_18 rfl dX4_init_23 N2.1 rfl rfl (Nat.le_of_ble_eq_true rfl) ?_
  have N3 := N2.put (fm_O 4 [.ref q1, .ref q2, .int (nI 0), .null, .null, .int 0, .null])
  refine g_aload_n C dX4_init_26 rfl ?_
  refine g_sipush C dX4_init_27 (v := nI 500) rfl ?_
  refine g_newI C rfl ka_int dX4_init_30 (by decide) (by decide) (by decide) (fun q4 hq4 => ?_)
  have A4 := N3.new hq4 (fm_I G 500 (fun _ => 0))
  refine g_putF C N0 fl_X4_22 rfl rfl dX4_init_32 A4.1 rfl rfl (Nat.le_of_ble_eq_true rfl) ?_
  have N4 := A4.put (fm_O 4 [.ref q1, .ref q2, .int (nI 0), .ref q4, .null, .int 0, .null])
  refine g_aload_n C dX4_init_35 rfl ?_
  refine g_sipush C dX4_init_36 (v := nI 500) rfl ?_
  refine g_newI C rfl ka_int dX4_init_39 (by decide) (by decide) (by decide) (fun q5 hq5 => ?_)
  have A5 := N4.new hq5 (fm_I G 500 (fun _ => 0))
  refine g_putF C N0 fl_X4_25 rfl rfl dX4_init_41 A5.1 rfl rfl (Nat.le_of_ble_eq_true rfl) ?_
  have N5 := A5.put (fm_O 4 [.ref q1, .ref q2, .int (nI 0), .ref q4, .ref q5, .int 0, .null])
  refine g_aload_n C dX4_init_44 rfl ?_
  refine g_iconst C dX4_init_45 (v := nI 0) rfl ?_
  refine g_putf C fl_X4_28 rfl dX4_init_46 N5.1 rfl rfl (Nat.le_of_ble_eq_true rfl) ?_
  have N6 := N5.put (fm_O 4 [.ref q1, .ref q2, .int (nI 0), .ref q4, .ref q5, .int (nI 0), .null])
  refine g_aload_n C dX4_init_49 rfl ?_
  refine g_iconst C dX4_init_50 (v := nI 4) rfl ?_
  refine g_newI C rfl ka_int dX4_init_51 (by decide) (by decide) (by decide) (fun q7 hq7 => ?_)
  have A7 := N6.new hq7 (fm_I G 4 (fun _ => 0))
  refine g_putF C N0 fl_X4_31 rfl rfl dX4_init_53 A7.1 rfl rfl (Nat.le_of_ble_eq_true rfl) ?_
  have N7 := A7.put (fm_O 4 [.ref q1, .ref q2, .int (nI 0), .ref q4, .ref q5, .int (nI 0), .ref q7])
  exact rt none _ _ _ _ _ (fm_retV dX4_init_56) ⟨rfl, _, Nw.congr N7 rfl (fun i hi => match i, hi with | 0, _ => rfl | 1, _ => rfl | 2, _ => rfl | 3, _ => rfl | 4, _ => rfl | n + 5, h => absurd h (by omega))⟩ (by decide) (by decide)
