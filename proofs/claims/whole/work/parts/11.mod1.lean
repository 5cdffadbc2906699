/-! the reference's objects: the object 1, its rows 2 to 12, the rows of its history 13 to 20 -/
def LM (Γ : GG) (P : MP) : Prop := Ob Γ 1 (.inl 6) ∧ P 1 1 = some 2 ∧ Ob Γ 2 (.inr (0, 900)) ∧ P 1 8 = some 3 ∧ Ob Γ 3 (.inr (0, 1655)) ∧ P 1 9 = some 4 ∧ Ob Γ 4 (.inr (0, 1655)) ∧ P 1 10 = some 5 ∧ Ob Γ 5 (.inr (0, 1655)) ∧ P 1 16 = some 7 ∧ Ob Γ 7 (.inr (0, 36)) ∧ P 1 17 = some 8 ∧ Ob Γ 8 (.inr (0, 36)) ∧ P 1 18 = some 9 ∧ Ob Γ 9 (.inr (0, 36)) ∧ P 1 19 = some 10 ∧ Ob Γ 10 (.inr (2, 36)) ∧ P 1 20 = some 11 ∧ Ob Γ 11 (.inr (3, 1500)) ∧ P 1 23 = some 12 ∧ Ob Γ 12 (.inr (0, 36)) ∧ P 1 11 = some 6 ∧ Ob Γ 6 (.inr (5, 8)) ∧ (∀ i, i < 8 → P 6 i = some (13 + i) ∧ Ob Γ (13 + i) (.inr (0, 1655)))
theorem LM_ob {Γ : GG} {P : MP} (h : LM Γ P) : Ob Γ 1 (.inl 6) := h.1
theorem LM_p1 {Γ : GG} {P : MP} (h : LM Γ P) : P 1 1 = some 2 := h.2.1
theorem LM_a1 {Γ : GG} {P : MP} (h : LM Γ P) : Ob Γ 2 (.inr (0, 900)) := h.2.2.1
theorem LM_p8 {Γ : GG} {P : MP} (h : LM Γ P) : P 1 8 = some 3 := h.2.2.2.1
theorem LM_a8 {Γ : GG} {P : MP} (h : LM Γ P) : Ob Γ 3 (.inr (0, 1655)) := h.2.2.2.2.1
theorem LM_p9 {Γ : GG} {P : MP} (h : LM Γ P) : P 1 9 = some 4 := h.2.2.2.2.2.1
theorem LM_a9 {Γ : GG} {P : MP} (h : LM Γ P) : Ob Γ 4 (.inr (0, 1655)) := h.2.2.2.2.2.2.1
theorem LM_p10 {Γ : GG} {P : MP} (h : LM Γ P) : P 1 10 = some 5 := h.2.2.2.2.2.2.2.1
theorem LM_a10 {Γ : GG} {P : MP} (h : LM Γ P) : Ob Γ 5 (.inr (0, 1655)) := h.2.2.2.2.2.2.2.2.1
theorem LM_p16 {Γ : GG} {P : MP} (h : LM Γ P) : P 1 16 = some 7 := h.2.2.2.2.2.2.2.2.2.1
theorem LM_a16 {Γ : GG} {P : MP} (h : LM Γ P) : Ob Γ 7 (.inr (0, 36)) := h.2.2.2.2.2.2.2.2.2.2.1
theorem LM_p17 {Γ : GG} {P : MP} (h : LM Γ P) : P 1 17 = some 8 := h.2.2.2.2.2.2.2.2.2.2.2.1
theorem LM_a17 {Γ : GG} {P : MP} (h : LM Γ P) : Ob Γ 8 (.inr (0, 36)) := h.2.2.2.2.2.2.2.2.2.2.2.2.1
theorem LM_p18 {Γ : GG} {P : MP} (h : LM Γ P) : P 1 18 = some 9 := h.2.2.2.2.2.2.2.2.2.2.2.2.2.1
theorem LM_a18 {Γ : GG} {P : MP} (h : LM Γ P) : Ob Γ 9 (.inr (0, 36)) := h.2.2.2.2.2.2.2.2.2.2.2.2.2.2.1
theorem LM_p19 {Γ : GG} {P : MP} (h : LM Γ P) : P 1 19 = some 10 := h.2.2.2.2.2.2.2.2.2.2.2.2.2.2.2.1
theorem LM_a19 {Γ : GG} {P : MP} (h : LM Γ P) : Ob Γ 10 (.inr (2, 36)) := h.2.2.2.2.2.2.2.2.2.2.2.2.2.2.2.2.1
theorem LM_p20 {Γ : GG} {P : MP} (h : LM Γ P) : P 1 20 = some 11 := h.2.2.2.2.2.2.2.2.2.2.2.2.2.2.2.2.2.1
theorem LM_a20 {Γ : GG} {P : MP} (h : LM Γ P) : Ob Γ 11 (.inr (3, 1500)) := h.2.2.2.2.2.2.2.2.2.2.2.2.2.2.2.2.2.2.1
theorem LM_p23 {Γ : GG} {P : MP} (h : LM Γ P) : P 1 23 = some 12 := h.2.2.2.2.2.2.2.2.2.2.2.2.2.2.2.2.2.2.2.1
theorem LM_a23 {Γ : GG} {P : MP} (h : LM Γ P) : Ob Γ 12 (.inr (0, 36)) := h.2.2.2.2.2.2.2.2.2.2.2.2.2.2.2.2.2.2.2.2.1
theorem LM_p11 {Γ : GG} {P : MP} (h : LM Γ P) : P 1 11 = some 6 := h.2.2.2.2.2.2.2.2.2.2.2.2.2.2.2.2.2.2.2.2.2.1
theorem LM_a11 {Γ : GG} {P : MP} (h : LM Γ P) : Ob Γ 6 (.inr (5, 8)) := h.2.2.2.2.2.2.2.2.2.2.2.2.2.2.2.2.2.2.2.2.2.2.1
theorem LM_hh {Γ : GG} {P : MP} (h : LM Γ P) : (∀ i, i < 8 → P 6 i = some (13 + i) ∧ Ob Γ (13 + i) (.inr (0, 1655))) := h.2.2.2.2.2.2.2.2.2.2.2.2.2.2.2.2.2.2.2.2.2.2.2
theorem LM_h {Γ : GG} {P : MP} (h : LM Γ P) {j : Int} (h0 : 0 ≤ j) (h1 : j < 8) : P 6 j.toNat = some (13 + j.toNat) ∧ Ob Γ (13 + j.toNat) (.inr (0, 1655)) := LM_hh h j.toNat (by omega)
set_option maxRecDepth 100000 in
set_option maxHeartbeats 4000000 in
theorem t_X6_exchange_0 {Γ : GG} {P : MP} {I : MM} {R : MM → Prop} {x1 x2 : Int} (hM : LM Γ P)
    (h : (Cl Γ m_X6_machine [vI x1] P I (ri P (fun (z1 : Int) (I2 : MM) => (∀ x3 : Int, x3 = ((z1 + 3) + x2) → (0 ≤ x3) ∧ (x3 < 1655) ∧ (∀ x6 : Int, x6 = (I2 3 (x3).toNat) → (0 ≤ (x3 + 1)) ∧ ((x3 + 1) < 1655) ∧ (∀ I9 : MM, I9 = up2 I2 3 (x3).toNat (I2 3 ((x3 + 1)).toNat) → (∀ I10 : MM, I10 = up2 I9 3 ((x3 + 1)).toNat x6 → R I10)))))))) :
    XM Γ m_X6_exchange 0 0 0 [(0, vR 1), (1, vI x1), (2, vI x2)] [] P I (rv P R) := by
  refine x_iload_n (pc := 0) 1 dX6_exchange_0 rfl ?_
  refine x_Si (pc := 1) dX6_exchange_1 h k_X6_machine ml_X6_158 ⟨Nat.le_of_ble_eq_true rfl, Nat.le_of_ble_eq_true rfl⟩ ⟨rfl, rfl⟩ ⟨Nat.zero_le _, Nat.zero_le _⟩ rfl (Nat.le_of_ble_eq_true rfl) _ rfl (fun z1 I2 h => ?_)
  refine x_iconst (pc := 4) dX6_exchange_4 ?_
  refine x_iadd (pc := 5) dX6_exchange_5 ?_
  refine x_iload_n (pc := 6) 2 dX6_exchange_6 rfl ?_
  refine x_iadd (pc := 7) dX6_exchange_7 ?_
  refine x_nmT (fun x3 ex3 => ?_)
  have h := h x3 ex3
  refine x_istore_n (pc := 8) (al' := [(0, vR 1), (1, vI x1), (2, vI x2), (3, vI x3)]) dX6_exchange_8 rfl rfl (by decide) ?_
  refine x_aload_n (pc := 9) 0 dX6_exchange_9 rfl ?_
  refine x_getP (pc := 10) dX6_exchange_10 FC6 8 (by decide) rfl fl_X6_17 (LM_ob hM) (LM_p8 hM) ?_
  refine x_iload_n (pc := 13) 3 dX6_exchange_13 rfl ?_
  obtain ⟨hv4, h⟩ := h
  obtain ⟨hv5, h⟩ := h
  refine x_iald (pc := 14) dX6_exchange_14 (LM_a8 hM) hv4 hv5 (by decide) ?_
  refine x_nmT (fun x6 ex6 => ?_)
  have h := h x6 ex6
  refine x_istore (pc := 15) (al' := [(0, vR 1), (1, vI x1), (2, vI x2), (3, vI x3), (4, vI x6)]) dX6_exchange_15 rfl rfl (by decide) ?_
  refine x_aload_n (pc := 17) 0 dX6_exchange_17 rfl ?_
  refine x_getP (pc := 18) dX6_exchange_18 FC6 8 (by decide) rfl fl_X6_17 (LM_ob hM) (LM_p8 hM) ?_
  refine x_iload_n (pc := 21) 3 dX6_exchange_21 rfl ?_
  refine x_aload_n (pc := 22) 0 dX6_exchange_22 rfl ?_
  refine x_getP (pc := 23) dX6_exchange_23 FC6 8 (by decide) rfl fl_X6_17 (LM_ob hM) (LM_p8 hM) ?_
  refine x_iload_n (pc := 26) 3 dX6_exchange_26 rfl ?_
  refine x_iconst (pc := 27) dX6_exchange_27 ?_
  refine x_iadd (pc := 28) dX6_exchange_28 ?_
  obtain ⟨hv7, h⟩ := h
  obtain ⟨hv8, h⟩ := h
  refine x_iald (pc := 29) dX6_exchange_29 (LM_a8 hM) hv7 hv8 (by decide) ?_
  refine x_iast (pc := 30) dX6_exchange_30 (LM_a8 hM) hv4 hv5 (by decide) ?_
  refine x_nmI (fun I9 eI9 => ?_)
  have h := h I9 eI9
  refine x_aload_n (pc := 31) 0 dX6_exchange_31 rfl ?_
  refine x_getP (pc := 32) dX6_exchange_32 FC6 8 (by decide) rfl fl_X6_17 (LM_ob hM) (LM_p8 hM) ?_
  refine x_iload_n (pc := 35) 3 dX6_exchange_35 rfl ?_
  refine x_iconst (pc := 36) dX6_exchange_36 ?_
  refine x_iadd (pc := 37) dX6_exchange_37 ?_
  refine x_iload (pc := 38) 4 dX6_exchange_38 rfl ?_
  refine x_iast (pc := 40) dX6_exchange_40 (LM_a8 hM) hv7 hv8 (by decide) ?_
  refine x_nmI (fun I10 eI10 => ?_)
  have h := h I10 eI10
  exact x_vret (pc := 41) dX6_exchange_41 rfl (Nat.le_refl _) (Nat.le_refl _) ⟨rfl, rfl, h⟩
set_option maxRecDepth 100000 in
set_option maxHeartbeats 4000000 in
theorem t_X6_layArcs_0 {Γ : GG} {P : MP} {I : MM} {R : MM → Prop} (hM : LM Γ P)
    (h : XM Γ m_X6_layArcs 0 0 2 [(0, vR 1), (1, vI 0)] [] P I (rv P R)) :
    XM Γ m_X6_layArcs 0 0 0 [(0, vR 1)] [] P I (rv P R) := by
  refine x_iconst (pc := 0) dX6_layArcs_0 ?_
  refine x_istore_n (pc := 1) (al' := [(0, vR 1), (1, vI 0)]) dX6_layArcs_1 rfl rfl (by decide) ?_
  exact x_sub [0, 1] rfl h
set_option maxRecDepth 100000 in
set_option maxHeartbeats 4000000 in
theorem t_X6_layArcs_2 {Γ : GG} {P : MP} {I : MM} {R : MM → Prop} {x1 : Int} (hM : LM Γ P)
    (h : (inR x1) ∧ ((36 ≤ x1 → XM Γ m_X6_layArcs 0 0 23 [(0, vR 1), (1, vI 0)] [] P I (rv P R)) ∧ (¬ 36 ≤ x1 → (0 ≤ x1) ∧ (x1 < 36) ∧ (∀ I6 : MM, I6 = up2 I 7 (x1).toNat (-1) → XM Γ m_X6_layArcs 0 0 2 [(0, vR 1), (1, vI (x1 + 1))] [] P I6 (rv P R))))) :
    XM Γ m_X6_layArcs 0 0 2 [(0, vR 1), (1, vI x1)] [] P I (rv P R) := by
  refine x_iload_n (pc := 2) 1 dX6_layArcs_2 rfl ?_
  refine x_bipush (pc := 3) dX6_layArcs_3 rfl ?_
  obtain ⟨hr1, h⟩ := h
  obtain ⟨hA2, hB3⟩ := h
  refine x_icmp_ge (pc := 5) 21 dX6_layArcs_5 (by decide) hr1 ⟨by decide, by decide⟩ (fun hc => ?_) (fun hc => ?_)
  · have h := hA2 hc
    refine x_iconst (pc := 21) dX6_layArcs_21 ?_
    refine x_istore_n (pc := 22) (al' := [(0, vR 1), (1, vI 0)]) dX6_layArcs_22 rfl rfl (by decide) ?_
    exact x_sub [0, 1] rfl h
  · have h := hB3 hc
    refine x_aload_n (pc := 8) 0 dX6_layArcs_8 rfl ?_
    refine x_getP (pc := 9) dX6_layArcs_9 FC6 16 (by decide) rfl fl_X6_31 (LM_ob hM) (LM_p16 hM) ?_
    refine x_iload_n (pc := 12) 1 dX6_layArcs_12 rfl ?_
    refine x_iconst (pc := 13) dX6_layArcs_13 ?_
    obtain ⟨hv4, h⟩ := h
    obtain ⟨hv5, h⟩ := h
    refine x_iast (pc := 14) dX6_layArcs_14 (LM_a16 hM) hv4 hv5 (by decide) ?_
    refine x_nmI (fun I6 eI6 => ?_)
    have h := h I6 eI6
    refine x_iinc (pc := 15) (al' := [(0, vR 1), (1, vI (x1 + 1))]) 1 dX6_layArcs_15 rfl rfl rfl (by decide) ?_
    refine x_goto (pc := 18) 2 dX6_layArcs_18 (by decide) ?_
    exact x_sub [0, 1] rfl h
set_option maxRecDepth 100000 in
set_option maxHeartbeats 4000000 in
theorem t_X6_layArcs_23 {Γ : GG} {P : MP} {I : MM} {R : MM → Prop} {x1 : Int} (hM : LM Γ P)
    (h : (inR x1) ∧ (inR (I 3 0)) ∧ (((I 3 0) ≤ x1 → R I) ∧ (¬ (I 3 0) ≤ x1 → (Cl Γ m_X6_machine [vI x1] P I (ri P (fun (z5 : Int) (I6 : MM) => XM Γ m_X6_layArcs 0 0 40 [(0, vR 1), (1, vI x1), (2, vI z5), (3, vI 1)] [] P I6 (rv P R))))))) :
    XM Γ m_X6_layArcs 0 0 23 [(0, vR 1), (1, vI x1)] [] P I (rv P R) := by
  refine x_iload_n (pc := 23) 1 dX6_layArcs_23 rfl ?_
  refine x_aload_n (pc := 24) 0 dX6_layArcs_24 rfl ?_
  refine x_getP (pc := 25) dX6_layArcs_25 FC6 8 (by decide) rfl fl_X6_17 (LM_ob hM) (LM_p8 hM) ?_
  refine x_iconst (pc := 28) dX6_layArcs_28 ?_
  refine x_iald (pc := 29) dX6_layArcs_29 (LM_a8 hM) (by decide) (by decide) (by decide) ?_
  obtain ⟨hr1, h⟩ := h
  obtain ⟨hr2, h⟩ := h
  obtain ⟨hA3, hB4⟩ := h
  refine x_icmp_ge (pc := 30) 150 dX6_layArcs_30 (by decide) hr1 hr2 (fun hc => ?_) (fun hc => ?_)
  · have h := hA3 hc
    exact x_vret (pc := 150) dX6_layArcs_150 rfl (Nat.le_refl _) (Nat.le_refl _) ⟨rfl, rfl, h⟩
  · have h := hB4 hc
    refine x_iload_n (pc := 33) 1 dX6_layArcs_33 rfl ?_
    refine x_Si (pc := 34) dX6_layArcs_34 h k_X6_machine ml_X6_158 ⟨Nat.le_of_ble_eq_true rfl, Nat.le_of_ble_eq_true rfl⟩ ⟨rfl, rfl⟩ ⟨Nat.zero_le _, Nat.zero_le _⟩ rfl (Nat.le_of_ble_eq_true rfl) _ rfl (fun z5 I6 h => ?_)
    refine x_istore_n (pc := 37) (al' := [(0, vR 1), (1, vI x1), (2, vI z5)]) dX6_layArcs_37 rfl rfl (by decide) ?_
    refine x_iconst (pc := 38) dX6_layArcs_38 ?_
    refine x_istore_n (pc := 39) (al' := [(0, vR 1), (1, vI x1), (2, vI z5), (3, vI 1)]) dX6_layArcs_39 rfl rfl (by decide) ?_
    exact x_sub [0, 1, 2, 3] rfl h
set_option maxRecDepth 100000 in
set_option maxHeartbeats 4000000 in
theorem t_X6_layArcs_40 {Γ : GG} {P : MP} {I : MM} {R : MM → Prop} {x1 x2 x3 : Int} (hM : LM Γ P)
    (h : (0 ≤ (x2 + 2)) ∧ ((x2 + 2) < 1655) ∧ (inR x3) ∧ (inR (I 3 ((x2 + 2)).toNat)) ∧ (((I 3 ((x2 + 2)).toNat) ≤ x3 → XM Γ m_X6_layArcs 0 0 23 [(0, vR 1), (1, vI (x1 + 1))] [] P I (rv P R)) ∧ (¬ (I 3 ((x2 + 2)).toNat) ≤ x3 → (0 ≤ (((x2 + 3) + x3) - 1)) ∧ ((((x2 + 3) + x3) - 1) < 1655) ∧ (∀ x9 : Int, x9 = (I 3 ((((x2 + 3) + x3) - 1)).toNat) → (0 ≤ ((x2 + 3) + x3)) ∧ (((x2 + 3) + x3) < 1655) ∧ (∀ x12 : Int, x12 = (I 3 (((x2 + 3) + x3)).toNat) → (Cl Γ m_X6_isBlocking [vR 1, vI x9] P I (ri P (fun (z13 : Int) (I14 : MM) => (inR z13) ∧ ((z13 = 0 → (0 ≤ x12) ∧ (x12 < 36) ∧ (∀ I20 : MM, I20 = up2 I14 7 (x12).toNat x9 → (0 ≤ (x2 + 1)) ∧ ((x2 + 1) < 1655) ∧ (Cl Γ m_X6_isBlocking [vR 1, vI x9] P I20 (ri P (fun (z23 : Int) (I24 : MM) => (inR z23) ∧ ((z23 = 0 → (Cl Γ m_X6_durationOf [vR 1, vI x9] P I24 (ri P (fun (z28 : Int) (I29 : MM) => (∀ I30 : MM, I30 = up2 I29 8 (x12).toNat ((I20 3 ((x2 + 1)).toNat) + z28) → XM Γ m_X6_layArcs 0 0 40 [(0, vR 1), (1, vI x1), (2, vI x2), (3, vI (x3 + 1))] [] P I30 (rv P R)))))) ∧ (¬ z23 = 0 → (∀ I31 : MM, I31 = up2 I24 8 (x12).toNat ((I20 3 ((x2 + 1)).toNat) + 0) → XM Γ m_X6_layArcs 0 0 40 [(0, vR 1), (1, vI x1), (2, vI x2), (3, vI (x3 + 1))] [] P I31 (rv P R))))))))) ∧ (¬ z13 = 0 → (0 ≤ x12) ∧ (x12 < 36) ∧ (∀ I34 : MM, I34 = up2 I14 7 (x12).toNat (x9 + 1) → (0 ≤ (x2 + 1)) ∧ ((x2 + 1) < 1655) ∧ (Cl Γ m_X6_isBlocking [vR 1, vI x9] P I34 (ri P (fun (z37 : Int) (I38 : MM) => (inR z37) ∧ ((z37 = 0 → (Cl Γ m_X6_durationOf [vR 1, vI x9] P I38 (ri P (fun (z42 : Int) (I43 : MM) => (∀ I44 : MM, I44 = up2 I43 8 (x12).toNat ((I34 3 ((x2 + 1)).toNat) + z42) → XM Γ m_X6_layArcs 0 0 40 [(0, vR 1), (1, vI x1), (2, vI x2), (3, vI (x3 + 1))] [] P I44 (rv P R)))))) ∧ (¬ z37 = 0 → (∀ I45 : MM, I45 = up2 I38 8 (x12).toNat ((I34 3 ((x2 + 1)).toNat) + 0) → XM Γ m_X6_layArcs 0 0 40 [(0, vR 1), (1, vI x1), (2, vI x2), (3, vI (x3 + 1))] [] P I45 (rv P R)))))))))))))))))) :
    XM Γ m_X6_layArcs 0 0 40 [(0, vR 1), (1, vI x1), (2, vI x2), (3, vI x3)] [] P I (rv P R) := by
  refine x_iload_n (pc := 40) 3 dX6_layArcs_40 rfl ?_
  refine x_aload_n (pc := 41) 0 dX6_layArcs_41 rfl ?_
  refine x_getP (pc := 42) dX6_layArcs_42 FC6 8 (by decide) rfl fl_X6_17 (LM_ob hM) (LM_p8 hM) ?_
  refine x_iload_n (pc := 45) 2 dX6_layArcs_45 rfl ?_
  refine x_iconst (pc := 46) dX6_layArcs_46 ?_
  refine x_iadd (pc := 47) dX6_layArcs_47 ?_
  obtain ⟨hv1, h⟩ := h
  obtain ⟨hv2, h⟩ := h
  refine x_iald (pc := 48) dX6_layArcs_48 (LM_a8 hM) hv1 hv2 (by decide) ?_
  obtain ⟨hr3, h⟩ := h
  obtain ⟨hr4, h⟩ := h
  obtain ⟨hA5, hB6⟩ := h
  refine x_icmp_ge (pc := 49) 144 dX6_layArcs_49 (by decide) hr3 hr4 (fun hc => ?_) (fun hc => ?_)
  · have h := hA5 hc
    refine x_iinc (pc := 144) (al' := [(0, vR 1), (1, vI (x1 + 1)), (2, vI x2), (3, vI x3)]) 1 dX6_layArcs_144 rfl rfl rfl (by decide) ?_
    refine x_goto (pc := 147) 23 dX6_layArcs_147 (by decide) ?_
    exact x_sub [0, 1] rfl h
  · have h := hB6 hc
    refine x_aload_n (pc := 52) 0 dX6_layArcs_52 rfl ?_
    refine x_getP (pc := 53) dX6_layArcs_53 FC6 8 (by decide) rfl fl_X6_17 (LM_ob hM) (LM_p8 hM) ?_
    refine x_iload_n (pc := 56) 2 dX6_layArcs_56 rfl ?_
    refine x_iconst (pc := 57) dX6_layArcs_57 ?_
    refine x_iadd (pc := 58) dX6_layArcs_58 ?_
    refine x_iload_n (pc := 59) 3 dX6_layArcs_59 rfl ?_
    refine x_iadd (pc := 60) dX6_layArcs_60 ?_
    refine x_iconst (pc := 61) dX6_layArcs_61 ?_
    refine x_isub (pc := 62) dX6_layArcs_62 ?_
    obtain ⟨hv7, h⟩ := h
    obtain ⟨hv8, h⟩ := h
    refine x_iald (pc := 63) dX6_layArcs_63 (LM_a8 hM) hv7 hv8 (by decide) ?_
    refine x_nmT (fun x9 ex9 => ?_)
    have h := h x9 ex9
    refine x_istore (pc := 64) (al' := [(0, vR 1), (1, vI x1), (2, vI x2), (3, vI x3), (4, vI x9)]) dX6_layArcs_64 rfl rfl (by decide) ?_
    refine x_aload_n (pc := 66) 0 dX6_layArcs_66 rfl ?_
    refine x_getP (pc := 67) dX6_layArcs_67 FC6 8 (by decide) rfl fl_X6_17 (LM_ob hM) (LM_p8 hM) ?_
    refine x_iload_n (pc := 70) 2 dX6_layArcs_70 rfl ?_
    refine x_iconst (pc := 71) dX6_layArcs_71 ?_
    refine x_iadd (pc := 72) dX6_layArcs_72 ?_
    refine x_iload_n (pc := 73) 3 dX6_layArcs_73 rfl ?_
    refine x_iadd (pc := 74) dX6_layArcs_74 ?_
    obtain ⟨hv10, h⟩ := h
    obtain ⟨hv11, h⟩ := h
    refine x_iald (pc := 75) dX6_layArcs_75 (LM_a8 hM) hv10 hv11 (by decide) ?_
    refine x_nmT (fun x12 ex12 => ?_)
    have h := h x12 ex12
    refine x_istore (pc := 76) (al' := [(0, vR 1), (1, vI x1), (2, vI x2), (3, vI x3), (4, vI x9), (5, vI x12)]) dX6_layArcs_76 rfl rfl (by decide) ?_
    refine x_aload_n (pc := 78) 0 dX6_layArcs_78 rfl ?_
    refine x_getP (pc := 79) dX6_layArcs_79 FC6 16 (by decide) rfl fl_X6_31 (LM_ob hM) (LM_p16 hM) ?_
    refine x_iload (pc := 82) 5 dX6_layArcs_82 rfl ?_
    refine x_aload_n (pc := 84) 0 dX6_layArcs_84 rfl ?_
    refine x_iload (pc := 85) 4 dX6_layArcs_85 rfl ?_
    refine x_Vi (pc := 87) dX6_layArcs_87 h k_X6_isBlocking ml_X6_199 ⟨Nat.le_of_ble_eq_true rfl, Nat.le_of_ble_eq_true rfl⟩ ⟨rfl, rfl⟩ ⟨Nat.zero_le _, Nat.zero_le _⟩ rfl (LM_ob hM) rfl (Nat.le_of_ble_eq_true rfl) _ rfl (fun z13 I14 h => ?_)
    obtain ⟨hr15, h⟩ := h
    obtain ⟨hA16, hB17⟩ := h
    refine x_if_eq (pc := 90) 100 dX6_layArcs_90 (by decide) hr15 (fun hc => ?_) (fun hc => ?_)
    · have h := hA16 hc
      refine x_iload (pc := 100) 4 dX6_layArcs_100 rfl ?_
      obtain ⟨hv18, h⟩ := h
      obtain ⟨hv19, h⟩ := h
      refine x_iast (pc := 102) dX6_layArcs_102 (LM_a16 hM) hv18 hv19 (by decide) ?_
      refine x_nmI (fun I20 eI20 => ?_)
      have h := h I20 eI20
      refine x_aload_n (pc := 103) 0 dX6_layArcs_103 rfl ?_
      refine x_getP (pc := 104) dX6_layArcs_104 FC6 17 (by decide) rfl fl_X6_34 (LM_ob hM) (LM_p17 hM) ?_
      refine x_iload (pc := 107) 5 dX6_layArcs_107 rfl ?_
      refine x_aload_n (pc := 109) 0 dX6_layArcs_109 rfl ?_
      refine x_getP (pc := 110) dX6_layArcs_110 FC6 8 (by decide) rfl fl_X6_17 (LM_ob hM) (LM_p8 hM) ?_
      refine x_iload_n (pc := 113) 2 dX6_layArcs_113 rfl ?_
      refine x_iconst (pc := 114) dX6_layArcs_114 ?_
      refine x_iadd (pc := 115) dX6_layArcs_115 ?_
      obtain ⟨hv21, h⟩ := h
      obtain ⟨hv22, h⟩ := h
      refine x_iald (pc := 116) dX6_layArcs_116 (LM_a8 hM) hv21 hv22 (by decide) ?_
      refine x_aload_n (pc := 117) 0 dX6_layArcs_117 rfl ?_
      refine x_iload (pc := 118) 4 dX6_layArcs_118 rfl ?_
      refine x_Vi (pc := 120) dX6_layArcs_120 h k_X6_isBlocking ml_X6_199 ⟨Nat.le_of_ble_eq_true rfl, Nat.le_of_ble_eq_true rfl⟩ ⟨rfl, rfl⟩ ⟨Nat.zero_le _, Nat.zero_le _⟩ rfl (LM_ob hM) rfl (Nat.le_of_ble_eq_true rfl) _ rfl (fun z23 I24 h => ?_)
      obtain ⟨hr25, h⟩ := h
      obtain ⟨hA26, hB27⟩ := h
      refine x_if_eq (pc := 123) 130 dX6_layArcs_123 (by decide) hr25 (fun hc => ?_) (fun hc => ?_)
      · have h := hA26 hc
        refine x_aload_n (pc := 130) 0 dX6_layArcs_130 rfl ?_
        refine x_iload (pc := 131) 4 dX6_layArcs_131 rfl ?_
        refine x_Vi (pc := 133) dX6_layArcs_133 h k_X6_durationOf ml_X6_202 ⟨Nat.le_of_ble_eq_true rfl, Nat.le_of_ble_eq_true rfl⟩ ⟨rfl, rfl⟩ ⟨Nat.zero_le _, Nat.zero_le _⟩ rfl (LM_ob hM) rfl (Nat.le_of_ble_eq_true rfl) _ rfl (fun z28 I29 h => ?_)
        refine x_iadd (pc := 136) dX6_layArcs_136 ?_
        refine x_iast (pc := 137) dX6_layArcs_137 (LM_a17 hM) hv18 hv19 (by decide) ?_
        refine x_nmI (fun I30 eI30 => ?_)
        have h := h I30 eI30
        refine x_iinc (pc := 138) (al' := [(0, vR 1), (1, vI x1), (2, vI x2), (3, vI (x3 + 1)), (4, vI x9), (5, vI x12)]) 3 dX6_layArcs_138 rfl rfl rfl (by decide) ?_
        refine x_goto (pc := 141) 40 dX6_layArcs_141 (by decide) ?_
        exact x_sub [0, 1, 2, 3] rfl h
      · have h := hB27 hc
        refine x_iconst (pc := 126) dX6_layArcs_126 ?_
        refine x_goto (pc := 127) 136 dX6_layArcs_127 (by decide) ?_
        refine x_iadd (pc := 136) dX6_layArcs_136 ?_
        refine x_iast (pc := 137) dX6_layArcs_137 (LM_a17 hM) hv18 hv19 (by decide) ?_
        refine x_nmI (fun I31 eI31 => ?_)
        have h := h I31 eI31
        refine x_iinc (pc := 138) (al' := [(0, vR 1), (1, vI x1), (2, vI x2), (3, vI (x3 + 1)), (4, vI x9), (5, vI x12)]) 3 dX6_layArcs_138 rfl rfl rfl (by decide) ?_
        refine x_goto (pc := 141) 40 dX6_layArcs_141 (by decide) ?_
        exact x_sub [0, 1, 2, 3] rfl h
    · have h := hB17 hc
      refine x_iload (pc := 93) 4 dX6_layArcs_93 rfl ?_
      refine x_iconst (pc := 95) dX6_layArcs_95 ?_
      refine x_iadd (pc := 96) dX6_layArcs_96 ?_
      refine x_goto (pc := 97) 102 dX6_layArcs_97 (by decide) ?_
      obtain ⟨hv32, h⟩ := h
      obtain ⟨hv33, h⟩ := h
      refine x_iast (pc := 102) dX6_layArcs_102 (LM_a16 hM) hv32 hv33 (by decide) ?_
      refine x_nmI (fun I34 eI34 => ?_)
      have h := h I34 eI34
      refine x_aload_n (pc := 103) 0 dX6_layArcs_103 rfl ?_
      refine x_getP (pc := 104) dX6_layArcs_104 FC6 17 (by decide) rfl fl_X6_34 (LM_ob hM) (LM_p17 hM) ?_
      refine x_iload (pc := 107) 5 dX6_layArcs_107 rfl ?_
      refine x_aload_n (pc := 109) 0 dX6_layArcs_109 rfl ?_
      refine x_getP (pc := 110) dX6_layArcs_110 FC6 8 (by decide) rfl fl_X6_17 (LM_ob hM) (LM_p8 hM) ?_
      refine x_iload_n (pc := 113) 2 dX6_layArcs_113 rfl ?_
      refine x_iconst (pc := 114) dX6_layArcs_114 ?_
      refine x_iadd (pc := 115) dX6_layArcs_115 ?_
      obtain ⟨hv35, h⟩ := h
      obtain ⟨hv36, h⟩ := h
      refine x_iald (pc := 116) dX6_layArcs_116 (LM_a8 hM) hv35 hv36 (by decide) ?_
      refine x_aload_n (pc := 117) 0 dX6_layArcs_117 rfl ?_
      refine x_iload (pc := 118) 4 dX6_layArcs_118 rfl ?_
      refine x_Vi (pc := 120) dX6_layArcs_120 h k_X6_isBlocking ml_X6_199 ⟨Nat.le_of_ble_eq_true rfl, Nat.le_of_ble_eq_true rfl⟩ ⟨rfl, rfl⟩ ⟨Nat.zero_le _, Nat.zero_le _⟩ rfl (LM_ob hM) rfl (Nat.le_of_ble_eq_true rfl) _ rfl (fun z37 I38 h => ?_)
      obtain ⟨hr39, h⟩ := h
      obtain ⟨hA40, hB41⟩ := h
      refine x_if_eq (pc := 123) 130 dX6_layArcs_123 (by decide) hr39 (fun hc => ?_) (fun hc => ?_)
      · have h := hA40 hc
        refine x_aload_n (pc := 130) 0 dX6_layArcs_130 rfl ?_
        refine x_iload (pc := 131) 4 dX6_layArcs_131 rfl ?_
        refine x_Vi (pc := 133) dX6_layArcs_133 h k_X6_durationOf ml_X6_202 ⟨Nat.le_of_ble_eq_true rfl, Nat.le_of_ble_eq_true rfl⟩ ⟨rfl, rfl⟩ ⟨Nat.zero_le _, Nat.zero_le _⟩ rfl (LM_ob hM) rfl (Nat.le_of_ble_eq_true rfl) _ rfl (fun z42 I43 h => ?_)
        refine x_iadd (pc := 136) dX6_layArcs_136 ?_
        refine x_iast (pc := 137) dX6_layArcs_137 (LM_a17 hM) hv32 hv33 (by decide) ?_
        refine x_nmI (fun I44 eI44 => ?_)
        have h := h I44 eI44
        refine x_iinc (pc := 138) (al' := [(0, vR 1), (1, vI x1), (2, vI x2), (3, vI (x3 + 1)), (4, vI x9), (5, vI x12)]) 3 dX6_layArcs_138 rfl rfl rfl (by decide) ?_
        refine x_goto (pc := 141) 40 dX6_layArcs_141 (by decide) ?_
        exact x_sub [0, 1, 2, 3] rfl h
      · have h := hB41 hc
        refine x_iconst (pc := 126) dX6_layArcs_126 ?_
        refine x_goto (pc := 127) 136 dX6_layArcs_127 (by decide) ?_
        refine x_iadd (pc := 136) dX6_layArcs_136 ?_
        refine x_iast (pc := 137) dX6_layArcs_137 (LM_a17 hM) hv32 hv33 (by decide) ?_
        refine x_nmI (fun I45 eI45 => ?_)
        have h := h I45 eI45
        refine x_iinc (pc := 138) (al' := [(0, vR 1), (1, vI x1), (2, vI x2), (3, vI (x3 + 1)), (4, vI x9), (5, vI x12)]) 3 dX6_layArcs_138 rfl rfl rfl (by decide) ?_
        refine x_goto (pc := 141) 40 dX6_layArcs_141 (by decide) ?_
        exact x_sub [0, 1, 2, 3] rfl h
set_option maxRecDepth 100000 in
set_option maxHeartbeats 4000000 in
theorem t_X6_thrown_0 {Γ : GG} {P : MP} {I : MM} {R : Int → MM → Prop} (hM : LM Γ P)
    (h : R (I 1 0) I) :
    XM Γ m_X6_thrown 0 0 0 [(0, vR 1)] [] P I (ri P R) := by
  refine x_aload_n (pc := 0) 0 dX6_thrown_0 rfl ?_
  refine x_getI (pc := 1) dX6_thrown_1 FC6 0 (by decide) rfl fl_X6_51 (LM_ob hM) ?_
  exact x_iret (pc := 4) dX6_thrown_4 rfl (Nat.le_refl _) (Nat.le_refl _) ⟨_, rfl, rfl, h⟩
