set_option maxRecDepth 100000 in
set_option maxHeartbeats 4000000 in
theorem t_X6_deadlocks_0 {Γ : GG} {P : MP} {I : MM} {R : Int → MM → Prop} {x1 x2 : Int} (hM : LM Γ P)
    (h : (∀ I1 : MM, I1 = up2 I 1 0 0 → (Cl Γ m_X6_noSwap [vR 1, vI x1, vI x2] P I1 (ri P (fun (z2 : Int) (I3 : MM) => (inR z2) ∧ ((z2 ≠ 0 → R 0 I3) ∧ (z2 = 0 → (Cl Γ m_X6_spanAfter [vR 1, vI x1, vI x2] P I3 (ri P (fun (z7 : Int) (I8 : MM) => (inR z7) ∧ ((z7 ≠ (-1) → R 0 I8) ∧ (z7 = (-1) → R 1 I8)))))))))))) :
    XM Γ m_X6_deadlocks 0 0 0 [(0, vR 1), (1, vI x1), (2, vI x2)] [] P I (ri P R) := by
  refine x_aload_n (pc := 0) 0 dX6_deadlocks_0 rfl ?_
  refine x_iconst (pc := 1) dX6_deadlocks_1 ?_
  refine x_putI (pc := 2) dX6_deadlocks_2 FC6 0 (by decide) rfl rfl fl_X6_51 (LM_ob hM) ?_
  refine x_nmI (fun I1 eI1 => ?_)
  have h := h I1 eI1
  refine x_aload_n (pc := 5) 0 dX6_deadlocks_5 rfl ?_
  refine x_iload_n (pc := 6) 1 dX6_deadlocks_6 rfl ?_
  refine x_iload_n (pc := 7) 2 dX6_deadlocks_7 rfl ?_
  refine x_Vi (μ := m_X6_deadlocks) (pc := 8) dX6_deadlocks_8 h k_X6_noSwap ml_X6_294 ⟨Nat.le_of_ble_eq_true rfl, Nat.le_of_ble_eq_true rfl⟩ ⟨rfl, rfl⟩ ⟨Nat.zero_le _, Nat.zero_le _⟩ rfl (LM_ob hM) rfl (Nat.le_of_ble_eq_true rfl) _ rfl (fun z2 I3 h => ?_)
  obtain ⟨hr4, h⟩ := h
  obtain ⟨hA5, hB6⟩ := h
  refine x_if_ne (pc := 11) 28 dX6_deadlocks_11 (by decide) hr4 (fun hc => ?_) (fun hc => ?_)
  · have h := hA5 hc
    refine x_iconst (pc := 28) dX6_deadlocks_28 ?_
    exact x_zret (pc := 29) dX6_deadlocks_29 rfl (by decide) (Nat.le_refl _) (Nat.le_refl _) ⟨_, rfl, rfl, h⟩
  · have h := hB6 hc
    refine x_aload_n (pc := 14) 0 dX6_deadlocks_14 rfl ?_
    refine x_iload_n (pc := 15) 1 dX6_deadlocks_15 rfl ?_
    refine x_iload_n (pc := 16) 2 dX6_deadlocks_16 rfl ?_
    refine x_Vi (μ := m_X6_deadlocks) (pc := 17) dX6_deadlocks_17 h k_X6_spanAfter ml_X6_297 ⟨Nat.le_of_ble_eq_true rfl, Nat.le_of_ble_eq_true rfl⟩ ⟨rfl, rfl⟩ ⟨Nat.zero_le _, Nat.zero_le _⟩ rfl (LM_ob hM) rfl (Nat.le_of_ble_eq_true rfl) _ rfl (fun z7 I8 h => ?_)
    refine x_iconst (pc := 20) dX6_deadlocks_20 ?_
    obtain ⟨hr9, h⟩ := h
    obtain ⟨hA10, hB11⟩ := h
    refine x_icmp_ne (pc := 21) 28 dX6_deadlocks_21 (by decide) hr9 ⟨by decide, by decide⟩ (fun hc => ?_) (fun hc => ?_)
    · have h := hA10 hc
      refine x_iconst (pc := 28) dX6_deadlocks_28 ?_
      exact x_zret (pc := 29) dX6_deadlocks_29 rfl (by decide) (Nat.le_refl _) (Nat.le_refl _) ⟨_, rfl, rfl, h⟩
    · have h := hB11 hc
      refine x_iconst (pc := 24) dX6_deadlocks_24 ?_
      refine x_goto (pc := 25) 29 dX6_deadlocks_25 (by decide) ?_
      exact x_zret (pc := 29) dX6_deadlocks_29 rfl (by decide) (Nat.le_refl _) (Nat.le_refl _) ⟨_, rfl, rfl, h⟩
set_option maxRecDepth 100000 in
set_option maxHeartbeats 4000000 in
theorem t_X6_makespanAfter_0 {Γ : GG} {P : MP} {I : MM} {R : Int → MM → Prop} {x1 x2 : Int} (hM : LM Γ P)
    (h : (∀ I1 : MM, I1 = up2 I 1 0 0 → (Cl Γ m_X6_noSwap [vR 1, vI x1, vI x2] P I1 (ri P (fun (z2 : Int) (I3 : MM) => (inR z2) ∧ ((z2 = 0 → (Cl Γ m_X6_spanAfter [vR 1, vI x1, vI x2] P I3 (ri P (fun (z7 : Int) (I8 : MM) => R z7 I8)))) ∧ (¬ z2 = 0 → R 0 I3))))))) :
    XM Γ m_X6_makespanAfter 0 0 0 [(0, vR 1), (1, vI x1), (2, vI x2)] [] P I (ri P R) := by
  refine x_aload_n (pc := 0) 0 dX6_makespanAfter_0 rfl ?_
  refine x_iconst (pc := 1) dX6_makespanAfter_1 ?_
  refine x_putI (pc := 2) dX6_makespanAfter_2 FC6 0 (by decide) rfl rfl fl_X6_51 (LM_ob hM) ?_
  refine x_nmI (fun I1 eI1 => ?_)
  have h := h I1 eI1
  refine x_aload_n (pc := 5) 0 dX6_makespanAfter_5 rfl ?_
  refine x_iload_n (pc := 6) 1 dX6_makespanAfter_6 rfl ?_
  refine x_iload_n (pc := 7) 2 dX6_makespanAfter_7 rfl ?_
  refine x_Vi (μ := m_X6_makespanAfter) (pc := 8) dX6_makespanAfter_8 h k_X6_noSwap ml_X6_294 ⟨Nat.le_of_ble_eq_true rfl, Nat.le_of_ble_eq_true rfl⟩ ⟨rfl, rfl⟩ ⟨Nat.zero_le _, Nat.zero_le _⟩ rfl (LM_ob hM) rfl (Nat.le_of_ble_eq_true rfl) _ rfl (fun z2 I3 h => ?_)
  obtain ⟨hr4, h⟩ := h
  obtain ⟨hA5, hB6⟩ := h
  refine x_if_eq (pc := 11) 18 dX6_makespanAfter_11 (by decide) hr4 (fun hc => ?_) (fun hc => ?_)
  · have h := hA5 hc
    refine x_aload_n (pc := 18) 0 dX6_makespanAfter_18 rfl ?_
    refine x_iload_n (pc := 19) 1 dX6_makespanAfter_19 rfl ?_
    refine x_iload_n (pc := 20) 2 dX6_makespanAfter_20 rfl ?_
    refine x_Vi (μ := m_X6_makespanAfter) (pc := 21) dX6_makespanAfter_21 h k_X6_spanAfter ml_X6_297 ⟨Nat.le_of_ble_eq_true rfl, Nat.le_of_ble_eq_true rfl⟩ ⟨rfl, rfl⟩ ⟨Nat.zero_le _, Nat.zero_le _⟩ rfl (LM_ob hM) rfl (Nat.le_of_ble_eq_true rfl) _ rfl (fun z7 I8 h => ?_)
    exact x_iret (pc := 24) dX6_makespanAfter_24 rfl (Nat.le_refl _) (Nat.le_refl _) ⟨_, rfl, rfl, h⟩
  · have h := hB6 hc
    refine x_iconst (pc := 14) dX6_makespanAfter_14 ?_
    refine x_goto (pc := 15) 24 dX6_makespanAfter_15 (by decide) ?_
    exact x_iret (pc := 24) dX6_makespanAfter_24 rfl (Nat.le_refl _) (Nat.le_refl _) ⟨_, rfl, rfl, h⟩
set_option maxRecDepth 100000 in
set_option maxHeartbeats 4000000 in
theorem t_X6_bestSwap_0 {Γ : GG} {P : MP} {I : MM} {R : Int → MM → Prop} (hM : LM Γ P)
    (h : (∀ I1 : MM, I1 = up2 I 1 0 0 → (Cl Γ m_X6_findBest [vR 1] P I1 (ri P (fun (z2 : Int) (I3 : MM) => R z2 I3))))) :
    XM Γ m_X6_bestSwap 0 0 0 [(0, vR 1)] [] P I (ri P R) := by
  refine x_aload_n (pc := 0) 0 dX6_bestSwap_0 rfl ?_
  refine x_iconst (pc := 1) dX6_bestSwap_1 ?_
  refine x_putI (pc := 2) dX6_bestSwap_2 FC6 0 (by decide) rfl rfl fl_X6_51 (LM_ob hM) ?_
  refine x_nmI (fun I1 eI1 => ?_)
  have h := h I1 eI1
  refine x_aload_n (pc := 5) 0 dX6_bestSwap_5 rfl ?_
  refine x_Vi (μ := m_X6_bestSwap) (pc := 6) dX6_bestSwap_6 h k_X6_findBest ml_X6_300 ⟨Nat.le_of_ble_eq_true rfl, Nat.le_of_ble_eq_true rfl⟩ ⟨rfl, rfl⟩ ⟨Nat.zero_le _, Nat.zero_le _⟩ rfl (LM_ob hM) rfl (Nat.le_of_ble_eq_true rfl) _ rfl (fun z2 I3 h => ?_)
  exact x_iret (pc := 9) dX6_bestSwap_9 rfl (Nat.le_refl _) (Nat.le_refl _) ⟨_, rfl, rfl, h⟩
set_option maxRecDepth 100000 in
set_option maxHeartbeats 4000000 in
theorem t_X6_remember_0 {Γ : GG} {P : MP} {I : MM} {R : MM → Prop} (hM : LM Γ P)
    (h : (inR (I 1 12)) ∧ (((I 1 12) ≠ 8 → (0 ≤ (I 1 12)) ∧ ((I 1 12) < 8) ∧ (Cl Γ m_X6_copy [vR 3, vR (13 + ((I 1 12)).toNat)] P I (rv P (fun (I6 : MM) => (∀ I7 : MM, I7 = up2 I6 1 12 ((I6 1 12) + 1) → R I7))))) ∧ ((I 1 12) = 8 → XM Γ m_X6_remember 0 0 11 [(0, vR 1), (1, vI 1)] [] P I (rv P R)))) :
    XM Γ m_X6_remember 0 0 0 [(0, vR 1)] [] P I (rv P R) := by
  refine x_aload_n (pc := 0) 0 dX6_remember_0 rfl ?_
  refine x_getI (pc := 1) dX6_remember_1 FC6 12 (by decide) rfl fl_X6_303 (LM_ob hM) ?_
  refine x_bipush (pc := 4) dX6_remember_4 rfl ?_
  obtain ⟨hr1, h⟩ := h
  obtain ⟨hA2, hB3⟩ := h
  refine x_icmp_ne (pc := 6) 50 dX6_remember_6 (by decide) hr1 ⟨by decide, by decide⟩ (fun hc => ?_) (fun hc => ?_)
  · have h := hA2 hc
    refine x_aload_n (pc := 50) 0 dX6_remember_50 rfl ?_
    refine x_getP (pc := 51) dX6_remember_51 FC6 8 (by decide) rfl fl_X6_17 (LM_ob hM) (LM_p8 hM) ?_
    refine x_aload_n (pc := 54) 0 dX6_remember_54 rfl ?_
    refine x_getP (pc := 55) dX6_remember_55 FC6 11 (by decide) rfl fl_X6_28 (LM_ob hM) (LM_p11 hM) ?_
    refine x_aload_n (pc := 58) 0 dX6_remember_58 rfl ?_
    refine x_getI (pc := 59) dX6_remember_59 FC6 12 (by decide) rfl fl_X6_303 (LM_ob hM) ?_
    obtain ⟨hv4, h⟩ := h
    obtain ⟨hv5, h⟩ := h
    refine x_aald (pc := 62) dX6_remember_62 5 (LM_a11 hM) (by decide) hv4 hv5 (by decide) (LM_h hM hv4 hv5).1 ?_
    refine x_Sv (μ := m_X6_remember) (pc := 63) dX6_remember_63 h k_X6_copy ml_X6_186 ⟨Nat.le_of_ble_eq_true rfl, Nat.le_of_ble_eq_true rfl⟩ ⟨rfl, rfl⟩ ⟨Nat.zero_le _, Nat.zero_le _⟩ rfl (Nat.le_of_ble_eq_true rfl) _ rfl (fun I6 h => ?_)
    refine x_aload_n (pc := 66) 0 dX6_remember_66 rfl ?_
    refine x_dup (pc := 67) dX6_remember_67 rfl ?_
    refine x_getI (pc := 68) dX6_remember_68 FC6 12 (by decide) rfl fl_X6_303 (LM_ob hM) ?_
    refine x_iconst (pc := 71) dX6_remember_71 ?_
    refine x_iadd (pc := 72) dX6_remember_72 ?_
    refine x_putI (pc := 73) dX6_remember_73 FC6 12 (by decide) rfl rfl fl_X6_303 (LM_ob hM) ?_
    refine x_nmI (fun I7 eI7 => ?_)
    have h := h I7 eI7
    exact x_vret (pc := 76) dX6_remember_76 rfl (Nat.le_refl _) (Nat.le_refl _) ⟨rfl, rfl, h⟩
  · have h := hB3 hc
    refine x_iconst (pc := 9) dX6_remember_9 ?_
    refine x_istore_n (pc := 10) (al' := [(0, vR 1), (1, vI 1)]) dX6_remember_10 rfl rfl (Nat.le_of_ble_eq_true rfl) ?_
    exact x_sub [0, 1] rfl h
set_option maxRecDepth 100000 in
set_option maxHeartbeats 4000000 in
theorem t_X6_remember_11 {Γ : GG} {P : MP} {I : MM} {R : MM → Prop} {x1 : Int} (hM : LM Γ P)
    (h : (inR x1) ∧ ((8 ≤ x1 → (∀ I4 : MM, I4 = up2 I 1 12 ((I 1 12) - 1) → (0 ≤ (I4 1 12)) ∧ ((I4 1 12) < 8) ∧ (Cl Γ m_X6_copy [vR 3, vR (13 + ((I4 1 12)).toNat)] P I4 (rv P (fun (I7 : MM) => (∀ I8 : MM, I8 = up2 I7 1 12 ((I7 1 12) + 1) → R I8)))))) ∧ (¬ 8 ≤ x1 → (0 ≤ x1) ∧ (x1 < 8) ∧ (0 ≤ (x1 - 1)) ∧ ((x1 - 1) < 8) ∧ (Cl Γ m_X6_copy [vR (13 + (x1).toNat), vR (13 + ((x1 - 1)).toNat)] P I (rv P (fun (I13 : MM) => XM Γ m_X6_remember 0 0 11 [(0, vR 1), (1, vI (x1 + 1))] [] P I13 (rv P R))))))) :
    XM Γ m_X6_remember 0 0 11 [(0, vR 1), (1, vI x1)] [] P I (rv P R) := by
  refine x_iload_n (pc := 11) 1 dX6_remember_11 rfl ?_
  refine x_bipush (pc := 12) dX6_remember_12 rfl ?_
  obtain ⟨hr1, h⟩ := h
  obtain ⟨hA2, hB3⟩ := h
  refine x_icmp_ge (pc := 14) 40 dX6_remember_14 (by decide) hr1 ⟨by decide, by decide⟩ (fun hc => ?_) (fun hc => ?_)
  · have h := hA2 hc
    refine x_aload_n (pc := 40) 0 dX6_remember_40 rfl ?_
    refine x_dup (pc := 41) dX6_remember_41 rfl ?_
    refine x_getI (pc := 42) dX6_remember_42 FC6 12 (by decide) rfl fl_X6_303 (LM_ob hM) ?_
    refine x_iconst (pc := 45) dX6_remember_45 ?_
    refine x_isub (pc := 46) dX6_remember_46 ?_
    refine x_putI (pc := 47) dX6_remember_47 FC6 12 (by decide) rfl rfl fl_X6_303 (LM_ob hM) ?_
    refine x_nmI (fun I4 eI4 => ?_)
    have h := h I4 eI4
    refine x_aload_n (pc := 50) 0 dX6_remember_50 rfl ?_
    refine x_getP (pc := 51) dX6_remember_51 FC6 8 (by decide) rfl fl_X6_17 (LM_ob hM) (LM_p8 hM) ?_
    refine x_aload_n (pc := 54) 0 dX6_remember_54 rfl ?_
    refine x_getP (pc := 55) dX6_remember_55 FC6 11 (by decide) rfl fl_X6_28 (LM_ob hM) (LM_p11 hM) ?_
    refine x_aload_n (pc := 58) 0 dX6_remember_58 rfl ?_
    refine x_getI (pc := 59) dX6_remember_59 FC6 12 (by decide) rfl fl_X6_303 (LM_ob hM) ?_
    obtain ⟨hv5, h⟩ := h
    obtain ⟨hv6, h⟩ := h
    refine x_aald (pc := 62) dX6_remember_62 5 (LM_a11 hM) (by decide) hv5 hv6 (by decide) (LM_h hM hv5 hv6).1 ?_
    refine x_Sv (μ := m_X6_remember) (pc := 63) dX6_remember_63 h k_X6_copy ml_X6_186 ⟨Nat.le_of_ble_eq_true rfl, Nat.le_of_ble_eq_true rfl⟩ ⟨rfl, rfl⟩ ⟨Nat.zero_le _, Nat.zero_le _⟩ rfl (Nat.le_of_ble_eq_true rfl) _ rfl (fun I7 h => ?_)
    refine x_aload_n (pc := 66) 0 dX6_remember_66 rfl ?_
    refine x_dup (pc := 67) dX6_remember_67 rfl ?_
    refine x_getI (pc := 68) dX6_remember_68 FC6 12 (by decide) rfl fl_X6_303 (LM_ob hM) ?_
    refine x_iconst (pc := 71) dX6_remember_71 ?_
    refine x_iadd (pc := 72) dX6_remember_72 ?_
    refine x_putI (pc := 73) dX6_remember_73 FC6 12 (by decide) rfl rfl fl_X6_303 (LM_ob hM) ?_
    refine x_nmI (fun I8 eI8 => ?_)
    have h := h I8 eI8
    exact x_vret (pc := 76) dX6_remember_76 rfl (Nat.le_refl _) (Nat.le_refl _) ⟨rfl, rfl, h⟩
  · have h := hB3 hc
    refine x_aload_n (pc := 17) 0 dX6_remember_17 rfl ?_
    refine x_getP (pc := 18) dX6_remember_18 FC6 11 (by decide) rfl fl_X6_28 (LM_ob hM) (LM_p11 hM) ?_
    refine x_iload_n (pc := 21) 1 dX6_remember_21 rfl ?_
    obtain ⟨hv9, h⟩ := h
    obtain ⟨hv10, h⟩ := h
    refine x_aald (pc := 22) dX6_remember_22 5 (LM_a11 hM) (by decide) hv9 hv10 (by decide) (LM_h hM hv9 hv10).1 ?_
    refine x_aload_n (pc := 23) 0 dX6_remember_23 rfl ?_
    refine x_getP (pc := 24) dX6_remember_24 FC6 11 (by decide) rfl fl_X6_28 (LM_ob hM) (LM_p11 hM) ?_
    refine x_iload_n (pc := 27) 1 dX6_remember_27 rfl ?_
    refine x_iconst (pc := 28) dX6_remember_28 ?_
    refine x_isub (pc := 29) dX6_remember_29 ?_
    obtain ⟨hv11, h⟩ := h
    obtain ⟨hv12, h⟩ := h
    refine x_aald (pc := 30) dX6_remember_30 5 (LM_a11 hM) (by decide) hv11 hv12 (by decide) (LM_h hM hv11 hv12).1 ?_
    refine x_Sv (μ := m_X6_remember) (pc := 31) dX6_remember_31 h k_X6_copy ml_X6_186 ⟨Nat.le_of_ble_eq_true rfl, Nat.le_of_ble_eq_true rfl⟩ ⟨rfl, rfl⟩ ⟨Nat.zero_le _, Nat.zero_le _⟩ rfl (Nat.le_of_ble_eq_true rfl) _ rfl (fun I13 h => ?_)
    refine x_iinc (pc := 34) (al' := [(0, vR 1), (1, vI (x1 + 1))]) 1 dX6_remember_34 rfl rfl rfl (Nat.le_of_ble_eq_true rfl) ?_
    refine x_goto (pc := 37) 11 dX6_remember_37 (by decide) ?_
    exact x_sub [0, 1] rfl h
set_option maxRecDepth 100000 in
set_option maxHeartbeats 4000000 in
theorem t_X6_swap_0 {Γ : GG} {P : MP} {I : MM} {R : Int → MM → Prop} {x1 x2 : Int} (hM : LM Γ P)
    (h : (∀ I1 : MM, I1 = up2 I 1 0 0 → (Cl Γ m_X6_noSwap [vR 1, vI x1, vI x2] P I1 (ri P (fun (z2 : Int) (I3 : MM) => (inR z2) ∧ ((z2 ≠ 0 → R 0 I3) ∧ (z2 = 0 → (Cl Γ m_X6_spanAfter [vR 1, vI x1, vI x2] P I3 (ri P (fun (z7 : Int) (I8 : MM) => (inR z7) ∧ ((z7 ≠ (-1) → (Cl Γ m_X6_fails [vR 1, vI 0, vI 2] P I8 (ri P (fun (z12 : Int) (I13 : MM) => (inR z12) ∧ ((z12 = 0 → (Cl Γ m_X6_remember [vR 1] P I13 (rv P (fun (I17 : MM) => (Cl Γ m_X6_exchange [vR 1, vI x1, vI x2] P I17 (rv P (fun (I18 : MM) => (Cl Γ m_X6_spanNow [vR 1] P I18 (ri P (fun (z19 : Int) (I20 : MM) => R z19 I20)))))))))) ∧ (¬ z12 = 0 → R 0 I13)))))) ∧ (z7 = (-1) → (Cl Γ m_X6_fails [vR 1, vI 1, vI 2] P I8 (ri P (fun (z21 : Int) (I22 : MM) => (inR z21) ∧ ((z21 = 0 → (Cl Γ m_X6_remember [vR 1] P I22 (rv P (fun (I26 : MM) => (Cl Γ m_X6_exchange [vR 1, vI x1, vI x2] P I26 (rv P (fun (I27 : MM) => (Cl Γ m_X6_spanNow [vR 1] P I27 (ri P (fun (z28 : Int) (I29 : MM) => R z28 I29)))))))))) ∧ (¬ z21 = 0 → R 0 I22))))))))))))))))) :
    XM Γ m_X6_swap 0 0 0 [(0, vR 1), (1, vI x1), (2, vI x2)] [] P I (ri P R) := by
  refine x_aload_n (pc := 0) 0 dX6_swap_0 rfl ?_
  refine x_iconst (pc := 1) dX6_swap_1 ?_
  refine x_putI (pc := 2) dX6_swap_2 FC6 0 (by decide) rfl rfl fl_X6_51 (LM_ob hM) ?_
  refine x_nmI (fun I1 eI1 => ?_)
  have h := h I1 eI1
  refine x_aload_n (pc := 5) 0 dX6_swap_5 rfl ?_
  refine x_iload_n (pc := 6) 1 dX6_swap_6 rfl ?_
  refine x_iload_n (pc := 7) 2 dX6_swap_7 rfl ?_
  refine x_Vi (μ := m_X6_swap) (pc := 8) dX6_swap_8 h k_X6_noSwap ml_X6_294 ⟨Nat.le_of_ble_eq_true rfl, Nat.le_of_ble_eq_true rfl⟩ ⟨rfl, rfl⟩ ⟨Nat.zero_le _, Nat.zero_le _⟩ rfl (LM_ob hM) rfl (Nat.le_of_ble_eq_true rfl) _ rfl (fun z2 I3 h => ?_)
  obtain ⟨hr4, h⟩ := h
  obtain ⟨hA5, hB6⟩ := h
  refine x_if_ne (pc := 11) 37 dX6_swap_11 (by decide) hr4 (fun hc => ?_) (fun hc => ?_)
  · have h := hA5 hc
    refine x_iconst (pc := 37) dX6_swap_37 ?_
    exact x_iret (pc := 38) dX6_swap_38 rfl (Nat.le_refl _) (Nat.le_refl _) ⟨_, rfl, rfl, h⟩
  · have h := hB6 hc
    refine x_aload_n (pc := 14) 0 dX6_swap_14 rfl ?_
    refine x_aload_n (pc := 15) 0 dX6_swap_15 rfl ?_
    refine x_iload_n (pc := 16) 1 dX6_swap_16 rfl ?_
    refine x_iload_n (pc := 17) 2 dX6_swap_17 rfl ?_
    refine x_Vi (μ := m_X6_swap) (pc := 18) dX6_swap_18 h k_X6_spanAfter ml_X6_297 ⟨Nat.le_of_ble_eq_true rfl, Nat.le_of_ble_eq_true rfl⟩ ⟨rfl, rfl⟩ ⟨Nat.zero_le _, Nat.zero_le _⟩ rfl (LM_ob hM) rfl (Nat.le_of_ble_eq_true rfl) _ rfl (fun z7 I8 h => ?_)
    refine x_iconst (pc := 21) dX6_swap_21 ?_
    obtain ⟨hr9, h⟩ := h
    obtain ⟨hA10, hB11⟩ := h
    refine x_icmp_ne (pc := 22) 29 dX6_swap_22 (by decide) hr9 ⟨by decide, by decide⟩ (fun hc => ?_) (fun hc => ?_)
    · have h := hA10 hc
      refine x_iconst (pc := 29) dX6_swap_29 ?_
      refine x_iconst (pc := 30) dX6_swap_30 ?_
      refine x_Vi (μ := m_X6_swap) (pc := 31) dX6_swap_31 h k_X6_fails ml_X6_174 ⟨Nat.le_of_ble_eq_true rfl, Nat.le_of_ble_eq_true rfl⟩ ⟨rfl, rfl⟩ ⟨Nat.zero_le _, Nat.zero_le _⟩ rfl (LM_ob hM) rfl (Nat.le_of_ble_eq_true rfl) _ rfl (fun z12 I13 h => ?_)
      obtain ⟨hr14, h⟩ := h
      obtain ⟨hA15, hB16⟩ := h
      refine x_if_eq (pc := 34) 39 dX6_swap_34 (by decide) hr14 (fun hc => ?_) (fun hc => ?_)
      · have h := hA15 hc
        refine x_aload_n (pc := 39) 0 dX6_swap_39 rfl ?_
        refine x_Vv (μ := m_X6_swap) (pc := 40) dX6_swap_40 h k_X6_remember ml_X6_183 ⟨Nat.le_of_ble_eq_true rfl, Nat.le_of_ble_eq_true rfl⟩ ⟨rfl, rfl⟩ ⟨Nat.zero_le _, Nat.zero_le _⟩ rfl (LM_ob hM) rfl (Nat.le_of_ble_eq_true rfl) _ rfl (fun I17 h => ?_)
        refine x_aload_n (pc := 43) 0 dX6_swap_43 rfl ?_
        refine x_iload_n (pc := 44) 1 dX6_swap_44 rfl ?_
        refine x_iload_n (pc := 45) 2 dX6_swap_45 rfl ?_
        refine x_Vv (μ := m_X6_swap) (pc := 46) dX6_swap_46 h k_X6_exchange ml_X6_241 ⟨Nat.le_of_ble_eq_true rfl, Nat.le_of_ble_eq_true rfl⟩ ⟨rfl, rfl⟩ ⟨Nat.zero_le _, Nat.zero_le _⟩ rfl (LM_ob hM) rfl (Nat.le_of_ble_eq_true rfl) _ rfl (fun I18 h => ?_)
        refine x_aload_n (pc := 49) 0 dX6_swap_49 rfl ?_
        refine x_Vi (μ := m_X6_swap) (pc := 50) dX6_swap_50 h k_X6_spanNow ml_X6_288 ⟨Nat.le_of_ble_eq_true rfl, Nat.le_of_ble_eq_true rfl⟩ ⟨rfl, rfl⟩ ⟨Nat.zero_le _, Nat.zero_le _⟩ rfl (LM_ob hM) rfl (Nat.le_of_ble_eq_true rfl) _ rfl (fun z19 I20 h => ?_)
        exact x_iret (pc := 53) dX6_swap_53 rfl (Nat.le_refl _) (Nat.le_refl _) ⟨_, rfl, rfl, h⟩
      · have h := hB16 hc
        refine x_iconst (pc := 37) dX6_swap_37 ?_
        exact x_iret (pc := 38) dX6_swap_38 rfl (Nat.le_refl _) (Nat.le_refl _) ⟨_, rfl, rfl, h⟩
    · have h := hB11 hc
      refine x_iconst (pc := 25) dX6_swap_25 ?_
      refine x_goto (pc := 26) 30 dX6_swap_26 (by decide) ?_
      refine x_iconst (pc := 30) dX6_swap_30 ?_
      refine x_Vi (μ := m_X6_swap) (pc := 31) dX6_swap_31 h k_X6_fails ml_X6_174 ⟨Nat.le_of_ble_eq_true rfl, Nat.le_of_ble_eq_true rfl⟩ ⟨rfl, rfl⟩ ⟨Nat.zero_le _, Nat.zero_le _⟩ rfl (LM_ob hM) rfl (Nat.le_of_ble_eq_true rfl) _ rfl (fun z21 I22 h => ?_)
      obtain ⟨hr23, h⟩ := h
      obtain ⟨hA24, hB25⟩ := h
      refine x_if_eq (pc := 34) 39 dX6_swap_34 (by decide) hr23 (fun hc => ?_) (fun hc => ?_)
      · have h := hA24 hc
        refine x_aload_n (pc := 39) 0 dX6_swap_39 rfl ?_
        refine x_Vv (μ := m_X6_swap) (pc := 40) dX6_swap_40 h k_X6_remember ml_X6_183 ⟨Nat.le_of_ble_eq_true rfl, Nat.le_of_ble_eq_true rfl⟩ ⟨rfl, rfl⟩ ⟨Nat.zero_le _, Nat.zero_le _⟩ rfl (LM_ob hM) rfl (Nat.le_of_ble_eq_true rfl) _ rfl (fun I26 h => ?_)
        refine x_aload_n (pc := 43) 0 dX6_swap_43 rfl ?_
        refine x_iload_n (pc := 44) 1 dX6_swap_44 rfl ?_
        refine x_iload_n (pc := 45) 2 dX6_swap_45 rfl ?_
        refine x_Vv (μ := m_X6_swap) (pc := 46) dX6_swap_46 h k_X6_exchange ml_X6_241 ⟨Nat.le_of_ble_eq_true rfl, Nat.le_of_ble_eq_true rfl⟩ ⟨rfl, rfl⟩ ⟨Nat.zero_le _, Nat.zero_le _⟩ rfl (LM_ob hM) rfl (Nat.le_of_ble_eq_true rfl) _ rfl (fun I27 h => ?_)
        refine x_aload_n (pc := 49) 0 dX6_swap_49 rfl ?_
        refine x_Vi (μ := m_X6_swap) (pc := 50) dX6_swap_50 h k_X6_spanNow ml_X6_288 ⟨Nat.le_of_ble_eq_true rfl, Nat.le_of_ble_eq_true rfl⟩ ⟨rfl, rfl⟩ ⟨Nat.zero_le _, Nat.zero_le _⟩ rfl (LM_ob hM) rfl (Nat.le_of_ble_eq_true rfl) _ rfl (fun z28 I29 h => ?_)
        exact x_iret (pc := 53) dX6_swap_53 rfl (Nat.le_refl _) (Nat.le_refl _) ⟨_, rfl, rfl, h⟩
      · have h := hB25 hc
        refine x_iconst (pc := 37) dX6_swap_37 ?_
        exact x_iret (pc := 38) dX6_swap_38 rfl (Nat.le_refl _) (Nat.le_refl _) ⟨_, rfl, rfl, h⟩
set_option maxRecDepth 100000 in
set_option maxHeartbeats 4000000 in
theorem t_X6_improve_0 {Γ : GG} {P : MP} {I : MM} {R : Int → MM → Prop} {x1 : Int} (hM : LM Γ P)
    (h : (∀ I1 : MM, I1 = up2 I 1 0 0 → (Cl Γ m_X6_in [vI x1, vI 1, vI 20] P I1 (ri P (fun (z2 : Int) (I3 : MM) => (inR z2) ∧ ((z2 ≠ 0 → (Cl Γ m_X6_fails [vR 1, vI 0, vI 1] P I3 (ri P (fun (z7 : Int) (I8 : MM) => (inR z7) ∧ ((z7 = 0 → (Cl Γ m_X6_remember [vR 1] P I8 (rv P (fun (I12 : MM) => XM Γ m_X6_improve 0 0 36 [(0, vR 1), (1, vI x1), (2, vI 0)] [] P I12 (ri P R))))) ∧ (¬ z7 = 0 → R 0 I8)))))) ∧ (z2 = 0 → (Cl Γ m_X6_fails [vR 1, vI 1, vI 1] P I3 (ri P (fun (z13 : Int) (I14 : MM) => (inR z13) ∧ ((z13 = 0 → (Cl Γ m_X6_remember [vR 1] P I14 (rv P (fun (I18 : MM) => XM Γ m_X6_improve 0 0 36 [(0, vR 1), (1, vI x1), (2, vI 0)] [] P I18 (ri P R))))) ∧ (¬ z13 = 0 → R 0 I14)))))))))))) :
    XM Γ m_X6_improve 0 0 0 [(0, vR 1), (1, vI x1)] [] P I (ri P R) := by
  refine x_aload_n (pc := 0) 0 dX6_improve_0 rfl ?_
  refine x_iconst (pc := 1) dX6_improve_1 ?_
  refine x_putI (pc := 2) dX6_improve_2 FC6 0 (by decide) rfl rfl fl_X6_51 (LM_ob hM) ?_
  refine x_nmI (fun I1 eI1 => ?_)
  have h := h I1 eI1
  refine x_aload_n (pc := 5) 0 dX6_improve_5 rfl ?_
  refine x_iload_n (pc := 6) 1 dX6_improve_6 rfl ?_
  refine x_iconst (pc := 7) dX6_improve_7 ?_
  refine x_bipush (pc := 8) dX6_improve_8 rfl ?_
  refine x_Si (μ := m_X6_improve) (pc := 10) dX6_improve_10 h k_X6_in ml_X6_73 ⟨Nat.le_of_ble_eq_true rfl, Nat.le_of_ble_eq_true rfl⟩ ⟨rfl, rfl⟩ ⟨Nat.zero_le _, Nat.zero_le _⟩ rfl (Nat.le_of_ble_eq_true rfl) _ rfl (fun z2 I3 h => ?_)
  obtain ⟨hr4, h⟩ := h
  obtain ⟨hA5, hB6⟩ := h
  refine x_if_ne (pc := 13) 20 dX6_improve_13 (by decide) hr4 (fun hc => ?_) (fun hc => ?_)
  · have h := hA5 hc
    refine x_iconst (pc := 20) dX6_improve_20 ?_
    refine x_iconst (pc := 21) dX6_improve_21 ?_
    refine x_Vi (μ := m_X6_improve) (pc := 22) dX6_improve_22 h k_X6_fails ml_X6_174 ⟨Nat.le_of_ble_eq_true rfl, Nat.le_of_ble_eq_true rfl⟩ ⟨rfl, rfl⟩ ⟨Nat.zero_le _, Nat.zero_le _⟩ rfl (LM_ob hM) rfl (Nat.le_of_ble_eq_true rfl) _ rfl (fun z7 I8 h => ?_)
    obtain ⟨hr9, h⟩ := h
    obtain ⟨hA10, hB11⟩ := h
    refine x_if_eq (pc := 25) 30 dX6_improve_25 (by decide) hr9 (fun hc => ?_) (fun hc => ?_)
    · have h := hA10 hc
      refine x_aload_n (pc := 30) 0 dX6_improve_30 rfl ?_
      refine x_Vv (μ := m_X6_improve) (pc := 31) dX6_improve_31 h k_X6_remember ml_X6_183 ⟨Nat.le_of_ble_eq_true rfl, Nat.le_of_ble_eq_true rfl⟩ ⟨rfl, rfl⟩ ⟨Nat.zero_le _, Nat.zero_le _⟩ rfl (LM_ob hM) rfl (Nat.le_of_ble_eq_true rfl) _ rfl (fun I12 h => ?_)
      refine x_iconst (pc := 34) dX6_improve_34 ?_
      refine x_istore_n (pc := 35) (al' := [(0, vR 1), (1, vI x1), (2, vI 0)]) dX6_improve_35 rfl rfl (Nat.le_of_ble_eq_true rfl) ?_
      exact x_sub [0, 1, 2] rfl h
    · have h := hB11 hc
      refine x_iconst (pc := 28) dX6_improve_28 ?_
      exact x_iret (pc := 29) dX6_improve_29 rfl (Nat.le_refl _) (Nat.le_refl _) ⟨_, rfl, rfl, h⟩
  · have h := hB6 hc
    refine x_iconst (pc := 16) dX6_improve_16 ?_
    refine x_goto (pc := 17) 21 dX6_improve_17 (by decide) ?_
    refine x_iconst (pc := 21) dX6_improve_21 ?_
    refine x_Vi (μ := m_X6_improve) (pc := 22) dX6_improve_22 h k_X6_fails ml_X6_174 ⟨Nat.le_of_ble_eq_true rfl, Nat.le_of_ble_eq_true rfl⟩ ⟨rfl, rfl⟩ ⟨Nat.zero_le _, Nat.zero_le _⟩ rfl (LM_ob hM) rfl (Nat.le_of_ble_eq_true rfl) _ rfl (fun z13 I14 h => ?_)
    obtain ⟨hr15, h⟩ := h
    obtain ⟨hA16, hB17⟩ := h
    refine x_if_eq (pc := 25) 30 dX6_improve_25 (by decide) hr15 (fun hc => ?_) (fun hc => ?_)
    · have h := hA16 hc
      refine x_aload_n (pc := 30) 0 dX6_improve_30 rfl ?_
      refine x_Vv (μ := m_X6_improve) (pc := 31) dX6_improve_31 h k_X6_remember ml_X6_183 ⟨Nat.le_of_ble_eq_true rfl, Nat.le_of_ble_eq_true rfl⟩ ⟨rfl, rfl⟩ ⟨Nat.zero_le _, Nat.zero_le _⟩ rfl (LM_ob hM) rfl (Nat.le_of_ble_eq_true rfl) _ rfl (fun I18 h => ?_)
      refine x_iconst (pc := 34) dX6_improve_34 ?_
      refine x_istore_n (pc := 35) (al' := [(0, vR 1), (1, vI x1), (2, vI 0)]) dX6_improve_35 rfl rfl (Nat.le_of_ble_eq_true rfl) ?_
      exact x_sub [0, 1, 2] rfl h
    · have h := hB17 hc
      refine x_iconst (pc := 28) dX6_improve_28 ?_
      exact x_iret (pc := 29) dX6_improve_29 rfl (Nat.le_refl _) (Nat.le_refl _) ⟨_, rfl, rfl, h⟩
set_option maxRecDepth 100000 in
set_option maxHeartbeats 4000000 in
theorem t_X6_improve_36 {Γ : GG} {P : MP} {I : MM} {R : Int → MM → Prop} {x1 x2 : Int} (hM : LM Γ P)
    (h : (inR x2) ∧ (inR x1) ∧ ((x1 ≤ x2 → R x1 I) ∧ (¬ x1 ≤ x2 → (Cl Γ m_X6_spanNow [vR 1] P I (ri P (fun (z5 : Int) (I6 : MM) => (Cl Γ m_X6_costOfPlan [vR 1] P I6 (ri P (fun (z7 : Int) (I8 : MM) => (Cl Γ m_X6_findBest [vR 1] P I8 (ri P (fun (z9 : Int) (I10 : MM) => (inR z9) ∧ ((z9 = (-1) → R x2 I10) ∧ (¬ z9 = (-1) → (Cl Γ m_X6_isBetter [vI (I10 1 21), vI (I10 1 22), vI z5, vI z7] P I10 (ri P (fun (z14 : Int) (I15 : MM) => (inR z14) ∧ ((z14 ≠ 0 → (0 ≤ z9) ∧ (Cl Γ m_X6_exchange [vR 1, vI (z9 / 100), vI (z9 % 100)] P I15 (rv P (fun (I20 : MM) => XM Γ m_X6_improve 0 0 36 [(0, vR 1), (1, vI x1), (2, vI (x2 + 1))] [] P I20 (ri P R))))) ∧ (z14 = 0 → R x2 I15))))))))))))))))))) :
    XM Γ m_X6_improve 0 0 36 [(0, vR 1), (1, vI x1), (2, vI x2)] [] P I (ri P R) := by
  refine x_iload_n (pc := 36) 2 dX6_improve_36 rfl ?_
  refine x_iload_n (pc := 37) 1 dX6_improve_37 rfl ?_
  obtain ⟨hr1, h⟩ := h
  obtain ⟨hr2, h⟩ := h
  obtain ⟨hA3, hB4⟩ := h
  refine x_icmp_ge (pc := 38) 103 dX6_improve_38 (by decide) hr1 hr2 (fun hc => ?_) (fun hc => ?_)
  · have h := hA3 hc
    refine x_iload_n (pc := 103) 1 dX6_improve_103 rfl ?_
    exact x_iret (pc := 104) dX6_improve_104 rfl (Nat.le_refl _) (Nat.le_refl _) ⟨_, rfl, rfl, h⟩
  · have h := hB4 hc
    refine x_aload_n (pc := 41) 0 dX6_improve_41 rfl ?_
    refine x_Vi (μ := m_X6_improve) (pc := 42) dX6_improve_42 h k_X6_spanNow ml_X6_288 ⟨Nat.le_of_ble_eq_true rfl, Nat.le_of_ble_eq_true rfl⟩ ⟨rfl, rfl⟩ ⟨Nat.zero_le _, Nat.zero_le _⟩ rfl (LM_ob hM) rfl (Nat.le_of_ble_eq_true rfl) _ rfl (fun z5 I6 h => ?_)
    refine x_istore_n (pc := 45) (al' := [(0, vR 1), (1, vI x1), (2, vI x2), (3, vI z5)]) dX6_improve_45 rfl rfl (Nat.le_of_ble_eq_true rfl) ?_
    refine x_aload_n (pc := 46) 0 dX6_improve_46 rfl ?_
    refine x_Vi (μ := m_X6_improve) (pc := 47) dX6_improve_47 h k_X6_costOfPlan ml_X6_250 ⟨Nat.le_of_ble_eq_true rfl, Nat.le_of_ble_eq_true rfl⟩ ⟨rfl, rfl⟩ ⟨Nat.zero_le _, Nat.zero_le _⟩ rfl (LM_ob hM) rfl (Nat.le_of_ble_eq_true rfl) _ rfl (fun z7 I8 h => ?_)
    refine x_istore (pc := 50) (al' := [(0, vR 1), (1, vI x1), (2, vI x2), (3, vI z5), (4, vI z7)]) dX6_improve_50 rfl rfl (Nat.le_of_ble_eq_true rfl) ?_
    refine x_aload_n (pc := 52) 0 dX6_improve_52 rfl ?_
    refine x_Vi (μ := m_X6_improve) (pc := 53) dX6_improve_53 h k_X6_findBest ml_X6_300 ⟨Nat.le_of_ble_eq_true rfl, Nat.le_of_ble_eq_true rfl⟩ ⟨rfl, rfl⟩ ⟨Nat.zero_le _, Nat.zero_le _⟩ rfl (LM_ob hM) rfl (Nat.le_of_ble_eq_true rfl) _ rfl (fun z9 I10 h => ?_)
    refine x_istore (pc := 56) (al' := [(0, vR 1), (1, vI x1), (2, vI x2), (3, vI z5), (4, vI z7), (5, vI z9)]) dX6_improve_56 rfl rfl (Nat.le_of_ble_eq_true rfl) ?_
    refine x_iload (pc := 58) 5 dX6_improve_58 rfl ?_
    refine x_iconst (pc := 60) dX6_improve_60 ?_
    obtain ⟨hr11, h⟩ := h
    obtain ⟨hA12, hB13⟩ := h
    refine x_icmp_eq (pc := 61) 81 dX6_improve_61 (by decide) hr11 ⟨by decide, by decide⟩ (fun hc => ?_) (fun hc => ?_)
    · have h := hA12 hc
      refine x_iload_n (pc := 81) 2 dX6_improve_81 rfl ?_
      exact x_iret (pc := 82) dX6_improve_82 rfl (Nat.le_refl _) (Nat.le_refl _) ⟨_, rfl, rfl, h⟩
    · have h := hB13 hc
      refine x_aload_n (pc := 64) 0 dX6_improve_64 rfl ?_
      refine x_getI (pc := 65) dX6_improve_65 FC6 21 (by decide) rfl fl_X6_253 (LM_ob hM) ?_
      refine x_aload_n (pc := 68) 0 dX6_improve_68 rfl ?_
      refine x_getI (pc := 69) dX6_improve_69 FC6 22 (by decide) rfl fl_X6_256 (LM_ob hM) ?_
      refine x_iload_n (pc := 72) 3 dX6_improve_72 rfl ?_
      refine x_iload (pc := 73) 4 dX6_improve_73 rfl ?_
      refine x_Si (μ := m_X6_improve) (pc := 75) dX6_improve_75 h k_X6_isBetter ml_X6_259 ⟨Nat.le_of_ble_eq_true rfl, Nat.le_of_ble_eq_true rfl⟩ ⟨rfl, rfl⟩ ⟨Nat.zero_le _, Nat.zero_le _⟩ rfl (Nat.le_of_ble_eq_true rfl) _ rfl (fun z14 I15 h => ?_)
      obtain ⟨hr16, h⟩ := h
      obtain ⟨hA17, hB18⟩ := h
      refine x_if_ne (pc := 78) 83 dX6_improve_78 (by decide) hr16 (fun hc => ?_) (fun hc => ?_)
      · have h := hA17 hc
        refine x_aload_n (pc := 83) 0 dX6_improve_83 rfl ?_
        refine x_iload (pc := 84) 5 dX6_improve_84 rfl ?_
        refine x_bipush (pc := 86) dX6_improve_86 rfl ?_
        obtain ⟨hv19, h⟩ := h
        refine x_idiv (pc := 88) dX6_improve_88 hr11 ⟨by decide, by decide⟩ hv19 (by decide) ?_
        refine x_iload (pc := 89) 5 dX6_improve_89 rfl ?_
        refine x_bipush (pc := 91) dX6_improve_91 rfl ?_
        refine x_irem (pc := 93) dX6_improve_93 hr11 ⟨by decide, by decide⟩ hv19 (by decide) ?_
        refine x_Vv (μ := m_X6_improve) (pc := 94) dX6_improve_94 h k_X6_exchange ml_X6_241 ⟨Nat.le_of_ble_eq_true rfl, Nat.le_of_ble_eq_true rfl⟩ ⟨rfl, rfl⟩ ⟨Nat.zero_le _, Nat.zero_le _⟩ rfl (LM_ob hM) rfl (Nat.le_of_ble_eq_true rfl) _ rfl (fun I20 h => ?_)
        refine x_iinc (pc := 97) (al' := [(0, vR 1), (1, vI x1), (2, vI (x2 + 1)), (3, vI z5), (4, vI z7), (5, vI z9)]) 2 dX6_improve_97 rfl rfl rfl (Nat.le_of_ble_eq_true rfl) ?_
        refine x_goto (pc := 100) 36 dX6_improve_100 (by decide) ?_
        exact x_sub [0, 1, 2] rfl h
      · have h := hB18 hc
        refine x_iload_n (pc := 81) 2 dX6_improve_81 rfl ?_
        exact x_iret (pc := 82) dX6_improve_82 rfl (Nat.le_refl _) (Nat.le_refl _) ⟨_, rfl, rfl, h⟩
set_option maxRecDepth 100000 in
set_option maxHeartbeats 4000000 in
theorem t_X6_bring_0 {Γ : GG} {P : MP} {I : MM} {R : MM → Prop} {x1 x2 : Int} (hM : LM Γ P)
    (h : (Cl Γ m_X6_machineOf [vR 1, vI x1] P I (ri P (fun (z1 : Int) (I2 : MM) => (Cl Γ m_X6_placeOf [vR 1, vI x1] P I2 (ri P (fun (z3 : Int) (I4 : MM) => XM Γ m_X6_bring 0 0 13 [(0, vR 1), (2, vI x2), (3, vI z1), (4, vI z3)] [] P I4 (rv P R)))))))) :
    XM Γ m_X6_bring 0 0 0 [(0, vR 1), (1, vI x1), (2, vI x2)] [] P I (rv P R) := by
  refine x_aload_n (pc := 0) 0 dX6_bring_0 rfl ?_
  refine x_iload_n (pc := 1) 1 dX6_bring_1 rfl ?_
  refine x_Vi (μ := m_X6_bring) (pc := 2) dX6_bring_2 h k_X6_machineOf ml_X6_193 ⟨Nat.le_of_ble_eq_true rfl, Nat.le_of_ble_eq_true rfl⟩ ⟨rfl, rfl⟩ ⟨Nat.zero_le _, Nat.zero_le _⟩ rfl (LM_ob hM) rfl (Nat.le_of_ble_eq_true rfl) _ rfl (fun z1 I2 h => ?_)
  refine x_istore_n (pc := 5) (al' := [(0, vR 1), (1, vI x1), (2, vI x2), (3, vI z1)]) dX6_bring_5 rfl rfl (Nat.le_of_ble_eq_true rfl) ?_
  refine x_aload_n (pc := 6) 0 dX6_bring_6 rfl ?_
  refine x_iload_n (pc := 7) 1 dX6_bring_7 rfl ?_
  refine x_Vi (μ := m_X6_bring) (pc := 8) dX6_bring_8 h k_X6_placeOf ml_X6_279 ⟨Nat.le_of_ble_eq_true rfl, Nat.le_of_ble_eq_true rfl⟩ ⟨rfl, rfl⟩ ⟨Nat.zero_le _, Nat.zero_le _⟩ rfl (LM_ob hM) rfl (Nat.le_of_ble_eq_true rfl) _ rfl (fun z3 I4 h => ?_)
  refine x_istore (pc := 11) (al' := [(0, vR 1), (1, vI x1), (2, vI x2), (3, vI z1), (4, vI z3)]) dX6_bring_11 rfl rfl (Nat.le_of_ble_eq_true rfl) ?_
  exact x_sub [0, 2, 3, 4] rfl h
set_option maxRecDepth 100000 in
set_option maxHeartbeats 4000000 in
theorem t_X6_bring_13 {Γ : GG} {P : MP} {I : MM} {R : MM → Prop} {x2 x3 x4 : Int} (hM : LM Γ P)
    (h : (inR x4) ∧ (inR x2) ∧ ((x2 ≤ x4 → XM Γ m_X6_bring 0 0 32 [(0, vR 1), (2, vI x2), (3, vI x3), (4, vI x4)] [] P I (rv P R)) ∧ (¬ x2 ≤ x4 → (Cl Γ m_X6_exchange [vR 1, vI x3, vI x4] P I (rv P (fun (I5 : MM) => XM Γ m_X6_bring 0 0 13 [(0, vR 1), (2, vI x2), (3, vI x3), (4, vI (x4 + 1))] [] P I5 (rv P R))))))) :
    XM Γ m_X6_bring 0 0 13 [(0, vR 1), (2, vI x2), (3, vI x3), (4, vI x4)] [] P I (rv P R) := by
  refine x_iload (pc := 13) 3 dX6_bring_13 rfl ?_
  refine x_iload_n (pc := 15) 1 dX6_bring_15 rfl ?_
  obtain ⟨hr1, h⟩ := h
  obtain ⟨hr2, h⟩ := h
  obtain ⟨hA3, hB4⟩ := h
  refine x_icmp_ge (pc := 16) 32 dX6_bring_16 (by decide) hr1 hr2 (fun hc => ?_) (fun hc => ?_)
  · have h := hA3 hc
    exact x_sub [0, 1, 2, 3] rfl h
  · have h := hB4 hc
    refine x_aload_n (pc := 19) 0 dX6_bring_19 rfl ?_
    refine x_iload_n (pc := 20) 2 dX6_bring_20 rfl ?_
    refine x_iload (pc := 21) 3 dX6_bring_21 rfl ?_
    refine x_Vv (μ := m_X6_bring) (pc := 23) dX6_bring_23 h k_X6_exchange ml_X6_241 ⟨Nat.le_of_ble_eq_true rfl, Nat.le_of_ble_eq_true rfl⟩ ⟨rfl, rfl⟩ ⟨Nat.zero_le _, Nat.zero_le _⟩ rfl (LM_ob hM) rfl (Nat.le_of_ble_eq_true rfl) _ rfl (fun I5 h => ?_)
    refine x_iinc (pc := 26) (al' := [(0, vR 1), (2, vI x2), (3, vI x3), (4, vI (x4 + 1))]) 3 dX6_bring_26 rfl rfl rfl (Nat.le_of_ble_eq_true rfl) ?_
    refine x_goto (pc := 29) 13 dX6_bring_29 (by decide) ?_
    exact x_sub [0, 1, 2, 3] rfl h
set_option maxRecDepth 100000 in
set_option maxHeartbeats 4000000 in
theorem t_X6_bring_32 {Γ : GG} {P : MP} {I : MM} {R : MM → Prop} {x2 x3 x4 : Int} (hM : LM Γ P)
    (h : (inR x4) ∧ (inR x2) ∧ ((x4 ≤ x2 → R I) ∧ (¬ x4 ≤ x2 → (Cl Γ m_X6_exchange [vR 1, vI x3, vI (x4 - 1)] P I (rv P (fun (I5 : MM) => XM Γ m_X6_bring 0 0 32 [(0, vR 1), (2, vI x2), (3, vI x3), (4, vI (x4 + (-1)))] [] P I5 (rv P R))))))) :
    XM Γ m_X6_bring 0 0 32 [(0, vR 1), (2, vI x2), (3, vI x3), (4, vI x4)] [] P I (rv P R) := by
  refine x_iload (pc := 32) 3 dX6_bring_32 rfl ?_
  refine x_iload_n (pc := 34) 1 dX6_bring_34 rfl ?_
  obtain ⟨hr1, h⟩ := h
  obtain ⟨hr2, h⟩ := h
  obtain ⟨hA3, hB4⟩ := h
  refine x_icmp_le (pc := 35) 53 dX6_bring_35 (by decide) hr1 hr2 (fun hc => ?_) (fun hc => ?_)
  · have h := hA3 hc
    exact x_vret (pc := 53) dX6_bring_53 rfl (Nat.le_refl _) (Nat.le_refl _) ⟨rfl, rfl, h⟩
  · have h := hB4 hc
    refine x_aload_n (pc := 38) 0 dX6_bring_38 rfl ?_
    refine x_iload_n (pc := 39) 2 dX6_bring_39 rfl ?_
    refine x_iload (pc := 40) 3 dX6_bring_40 rfl ?_
    refine x_iconst (pc := 42) dX6_bring_42 ?_
    refine x_isub (pc := 43) dX6_bring_43 ?_
    refine x_Vv (μ := m_X6_bring) (pc := 44) dX6_bring_44 h k_X6_exchange ml_X6_241 ⟨Nat.le_of_ble_eq_true rfl, Nat.le_of_ble_eq_true rfl⟩ ⟨rfl, rfl⟩ ⟨Nat.zero_le _, Nat.zero_le _⟩ rfl (LM_ob hM) rfl (Nat.le_of_ble_eq_true rfl) _ rfl (fun I5 h => ?_)
    refine x_iinc (pc := 47) (al' := [(0, vR 1), (2, vI x2), (3, vI x3), (4, vI (x4 + (-1)))]) 3 dX6_bring_47 rfl rfl rfl (Nat.le_of_ble_eq_true rfl) ?_
    refine x_goto (pc := 50) 32 dX6_bring_50 (by decide) ?_
    exact x_sub [0, 1, 2, 3] rfl h
set_option maxRecDepth 100000 in
set_option maxHeartbeats 4000000 in
theorem t_X6_place_0 {Γ : GG} {P : MP} {I : MM} {R : Int → MM → Prop} {x1 x2 x3 : Int} (hM : LM Γ P)
    (h : (∀ I1 : MM, I1 = up2 I 1 0 0 → (Cl Γ m_X6_noOperation [vR 1, vI x1, vI x2] P I1 (ri P (fun (z2 : Int) (I3 : MM) => (inR z2) ∧ ((z2 = 0 → (∀ u7 : Int, u7 = ((6 * x1) + x2) → (Cl Γ m_X6_machineOf [vR 1, vI u7] P I3 (ri P (fun (z8 : Int) (I9 : MM) => (Cl Γ m_X6_machine [vI z8] P I9 (ri P (fun (z10 : Int) (I11 : MM) => (0 ≤ (z10 + 2)) ∧ ((z10 + 2) < 1655) ∧ (Cl Γ m_X6_in [vI x3, vI 0, vI ((I11 3 ((z10 + 2)).toNat) - 1)] P I11 (ri P (fun (z14 : Int) (I15 : MM) => (inR z14) ∧ ((z14 ≠ 0 → (Cl Γ m_X6_fails [vR 1, vI 0, vI 1] P I15 (ri P (fun (z19 : Int) (I20 : MM) => (inR z19) ∧ ((z19 = 0 → (Cl Γ m_X6_copy [vR 3, vR 5] P I20 (rv P (fun (I24 : MM) => (Cl Γ m_X6_bring [vR 1, vI u7, vI x3] P I24 (rv P (fun (I25 : MM) => (Cl Γ m_X6_isDeadlocked [vR 1] P I25 (ri P (fun (z26 : Int) (I27 : MM) => (Cl Γ m_X6_copy [vR 5, vR 3] P I27 (rv P (fun (I28 : MM) => (Cl Γ m_X6_fails [vR 1, vI z26, vI 2] P I28 (ri P (fun (z29 : Int) (I30 : MM) => (inR z29) ∧ ((z29 = 0 → (Cl Γ m_X6_remember [vR 1] P I30 (rv P (fun (I34 : MM) => (Cl Γ m_X6_bring [vR 1, vI u7, vI x3] P I34 (rv P (fun (I35 : MM) => (Cl Γ m_X6_spanNow [vR 1] P I35 (ri P (fun (z36 : Int) (I37 : MM) => R z36 I37)))))))))) ∧ (¬ z29 = 0 → R 0 I30)))))))))))))))))) ∧ (¬ z19 = 0 → R 0 I20)))))) ∧ (z14 = 0 → (Cl Γ m_X6_fails [vR 1, vI 1, vI 1] P I15 (ri P (fun (z38 : Int) (I39 : MM) => (inR z38) ∧ ((z38 = 0 → (Cl Γ m_X6_copy [vR 3, vR 5] P I39 (rv P (fun (I43 : MM) => (Cl Γ m_X6_bring [vR 1, vI u7, vI x3] P I43 (rv P (fun (I44 : MM) => (Cl Γ m_X6_isDeadlocked [vR 1] P I44 (ri P (fun (z45 : Int) (I46 : MM) => (Cl Γ m_X6_copy [vR 5, vR 3] P I46 (rv P (fun (I47 : MM) => (Cl Γ m_X6_fails [vR 1, vI z45, vI 2] P I47 (ri P (fun (z48 : Int) (I49 : MM) => (inR z48) ∧ ((z48 = 0 → (Cl Γ m_X6_remember [vR 1] P I49 (rv P (fun (I53 : MM) => (Cl Γ m_X6_bring [vR 1, vI u7, vI x3] P I53 (rv P (fun (I54 : MM) => (Cl Γ m_X6_spanNow [vR 1] P I54 (ri P (fun (z55 : Int) (I56 : MM) => R z55 I56)))))))))) ∧ (¬ z48 = 0 → R 0 I49)))))))))))))))))) ∧ (¬ z38 = 0 → R 0 I39)))))))))))))))))) ∧ (¬ z2 = 0 → R 0 I3))))))) :
    XM Γ m_X6_place 0 0 0 [(0, vR 1), (1, vI x1), (2, vI x2), (3, vI x3)] [] P I (ri P R) := by
  refine x_aload_n (pc := 0) 0 dX6_place_0 rfl ?_
  refine x_iconst (pc := 1) dX6_place_1 ?_
  refine x_putI (pc := 2) dX6_place_2 FC6 0 (by decide) rfl rfl fl_X6_51 (LM_ob hM) ?_
  refine x_nmI (fun I1 eI1 => ?_)
  have h := h I1 eI1
  refine x_aload_n (pc := 5) 0 dX6_place_5 rfl ?_
  refine x_iload_n (pc := 6) 1 dX6_place_6 rfl ?_
  refine x_iload_n (pc := 7) 2 dX6_place_7 rfl ?_
  refine x_Vi (μ := m_X6_place) (pc := 8) dX6_place_8 h k_X6_noOperation ml_X6_275 ⟨Nat.le_of_ble_eq_true rfl, Nat.le_of_ble_eq_true rfl⟩ ⟨rfl, rfl⟩ ⟨Nat.zero_le _, Nat.zero_le _⟩ rfl (LM_ob hM) rfl (Nat.le_of_ble_eq_true rfl) _ rfl (fun z2 I3 h => ?_)
  obtain ⟨hr4, h⟩ := h
  obtain ⟨hA5, hB6⟩ := h
  refine x_if_eq (pc := 11) 16 dX6_place_11 (by decide) hr4 (fun hc => ?_) (fun hc => ?_)
  · have h := hA5 hc
    refine x_bipush (pc := 16) dX6_place_16 rfl ?_
    refine x_iload_n (pc := 18) 1 dX6_place_18 rfl ?_
    refine x_imul (pc := 19) dX6_place_19 ?_
    refine x_iload_n (pc := 20) 2 dX6_place_20 rfl ?_
    refine x_iadd (pc := 21) dX6_place_21 ?_
    refine x_nmT (fun u7 eu7 => ?_)
    have h := h u7 eu7
    refine x_istore (pc := 22) (al' := [(0, vR 1), (1, vI x1), (2, vI x2), (3, vI x3), (4, vI u7)]) dX6_place_22 rfl rfl (Nat.le_of_ble_eq_true rfl) ?_
    refine x_aload_n (pc := 24) 0 dX6_place_24 rfl ?_
    refine x_iload_n (pc := 25) 3 dX6_place_25 rfl ?_
    refine x_iconst (pc := 26) dX6_place_26 ?_
    refine x_aload_n (pc := 27) 0 dX6_place_27 rfl ?_
    refine x_getP (pc := 28) dX6_place_28 FC6 8 (by decide) rfl fl_X6_17 (LM_ob hM) (LM_p8 hM) ?_
    refine x_aload_n (pc := 31) 0 dX6_place_31 rfl ?_
    refine x_iload (pc := 32) 4 dX6_place_32 rfl ?_
    refine x_Vi (μ := m_X6_place) (pc := 34) dX6_place_34 h k_X6_machineOf ml_X6_193 ⟨Nat.le_of_ble_eq_true rfl, Nat.le_of_ble_eq_true rfl⟩ ⟨rfl, rfl⟩ ⟨Nat.zero_le _, Nat.zero_le _⟩ rfl (LM_ob hM) rfl (Nat.le_of_ble_eq_true rfl) _ rfl (fun z8 I9 h => ?_)
    refine x_Si (μ := m_X6_place) (pc := 37) dX6_place_37 h k_X6_machine ml_X6_158 ⟨Nat.le_of_ble_eq_true rfl, Nat.le_of_ble_eq_true rfl⟩ ⟨rfl, rfl⟩ ⟨Nat.zero_le _, Nat.zero_le _⟩ rfl (Nat.le_of_ble_eq_true rfl) _ rfl (fun z10 I11 h => ?_)
    refine x_iconst (pc := 40) dX6_place_40 ?_
    refine x_iadd (pc := 41) dX6_place_41 ?_
    obtain ⟨hv12, h⟩ := h
    obtain ⟨hv13, h⟩ := h
    refine x_iald (pc := 42) dX6_place_42 (LM_a8 hM) hv12 hv13 (by decide) ?_
    refine x_iconst (pc := 43) dX6_place_43 ?_
    refine x_isub (pc := 44) dX6_place_44 ?_
    refine x_Si (μ := m_X6_place) (pc := 45) dX6_place_45 h k_X6_in ml_X6_73 ⟨Nat.le_of_ble_eq_true rfl, Nat.le_of_ble_eq_true rfl⟩ ⟨rfl, rfl⟩ ⟨Nat.zero_le _, Nat.zero_le _⟩ rfl (Nat.le_of_ble_eq_true rfl) _ rfl (fun z14 I15 h => ?_)
    obtain ⟨hr16, h⟩ := h
    obtain ⟨hA17, hB18⟩ := h
    refine x_if_ne (pc := 48) 55 dX6_place_48 (by decide) hr16 (fun hc => ?_) (fun hc => ?_)
    · have h := hA17 hc
      refine x_iconst (pc := 55) dX6_place_55 ?_
      refine x_iconst (pc := 56) dX6_place_56 ?_
      refine x_Vi (μ := m_X6_place) (pc := 57) dX6_place_57 h k_X6_fails ml_X6_174 ⟨Nat.le_of_ble_eq_true rfl, Nat.le_of_ble_eq_true rfl⟩ ⟨rfl, rfl⟩ ⟨Nat.zero_le _, Nat.zero_le _⟩ rfl (LM_ob hM) rfl (Nat.le_of_ble_eq_true rfl) _ rfl (fun z19 I20 h => ?_)
      obtain ⟨hr21, h⟩ := h
      obtain ⟨hA22, hB23⟩ := h
      refine x_if_eq (pc := 60) 65 dX6_place_60 (by decide) hr21 (fun hc => ?_) (fun hc => ?_)
      · have h := hA22 hc
        refine x_aload_n (pc := 65) 0 dX6_place_65 rfl ?_
        refine x_getP (pc := 66) dX6_place_66 FC6 8 (by decide) rfl fl_X6_17 (LM_ob hM) (LM_p8 hM) ?_
        refine x_aload_n (pc := 69) 0 dX6_place_69 rfl ?_
        refine x_getP (pc := 70) dX6_place_70 FC6 10 (by decide) rfl fl_X6_23 (LM_ob hM) (LM_p10 hM) ?_
        refine x_Sv (μ := m_X6_place) (pc := 73) dX6_place_73 h k_X6_copy ml_X6_186 ⟨Nat.le_of_ble_eq_true rfl, Nat.le_of_ble_eq_true rfl⟩ ⟨rfl, rfl⟩ ⟨Nat.zero_le _, Nat.zero_le _⟩ rfl (Nat.le_of_ble_eq_true rfl) _ rfl (fun I24 h => ?_)
        refine x_aload_n (pc := 76) 0 dX6_place_76 rfl ?_
        refine x_iload (pc := 77) 4 dX6_place_77 rfl ?_
        refine x_iload_n (pc := 79) 3 dX6_place_79 rfl ?_
        refine x_Vv (μ := m_X6_place) (pc := 80) dX6_place_80 h k_X6_bring ml_X6_306 ⟨Nat.le_of_ble_eq_true rfl, Nat.le_of_ble_eq_true rfl⟩ ⟨rfl, rfl⟩ ⟨Nat.zero_le _, Nat.zero_le _⟩ rfl (LM_ob hM) rfl (Nat.le_of_ble_eq_true rfl) _ rfl (fun I25 h => ?_)
        refine x_aload_n (pc := 83) 0 dX6_place_83 rfl ?_
        refine x_Vi (μ := m_X6_place) (pc := 84) dX6_place_84 h k_X6_isDeadlocked ml_X6_244 ⟨Nat.le_of_ble_eq_true rfl, Nat.le_of_ble_eq_true rfl⟩ ⟨rfl, rfl⟩ ⟨Nat.zero_le _, Nat.zero_le _⟩ rfl (LM_ob hM) rfl (Nat.le_of_ble_eq_true rfl) _ rfl (fun z26 I27 h => ?_)
        refine x_istore (pc := 87) (al' := [(0, vR 1), (1, vI x1), (2, vI x2), (3, vI x3), (4, vI u7), (5, vI z26)]) dX6_place_87 rfl rfl (Nat.le_of_ble_eq_true rfl) ?_
        refine x_aload_n (pc := 89) 0 dX6_place_89 rfl ?_
        refine x_getP (pc := 90) dX6_place_90 FC6 10 (by decide) rfl fl_X6_23 (LM_ob hM) (LM_p10 hM) ?_
        refine x_aload_n (pc := 93) 0 dX6_place_93 rfl ?_
        refine x_getP (pc := 94) dX6_place_94 FC6 8 (by decide) rfl fl_X6_17 (LM_ob hM) (LM_p8 hM) ?_
        refine x_Sv (μ := m_X6_place) (pc := 97) dX6_place_97 h k_X6_copy ml_X6_186 ⟨Nat.le_of_ble_eq_true rfl, Nat.le_of_ble_eq_true rfl⟩ ⟨rfl, rfl⟩ ⟨Nat.zero_le _, Nat.zero_le _⟩ rfl (Nat.le_of_ble_eq_true rfl) _ rfl (fun I28 h => ?_)
        refine x_aload_n (pc := 100) 0 dX6_place_100 rfl ?_
        refine x_iload (pc := 101) 5 dX6_place_101 rfl ?_
        refine x_iconst (pc := 103) dX6_place_103 ?_
        refine x_Vi (μ := m_X6_place) (pc := 104) dX6_place_104 h k_X6_fails ml_X6_174 ⟨Nat.le_of_ble_eq_true rfl, Nat.le_of_ble_eq_true rfl⟩ ⟨rfl, rfl⟩ ⟨Nat.zero_le _, Nat.zero_le _⟩ rfl (LM_ob hM) rfl (Nat.le_of_ble_eq_true rfl) _ rfl (fun z29 I30 h => ?_)
        obtain ⟨hr31, h⟩ := h
        obtain ⟨hA32, hB33⟩ := h
        refine x_if_eq (pc := 107) 112 dX6_place_107 (by decide) hr31 (fun hc => ?_) (fun hc => ?_)
        · have h := hA32 hc
          refine x_aload_n (pc := 112) 0 dX6_place_112 rfl ?_
          refine x_Vv (μ := m_X6_place) (pc := 113) dX6_place_113 h k_X6_remember ml_X6_183 ⟨Nat.le_of_ble_eq_true rfl, Nat.le_of_ble_eq_true rfl⟩ ⟨rfl, rfl⟩ ⟨Nat.zero_le _, Nat.zero_le _⟩ rfl (LM_ob hM) rfl (Nat.le_of_ble_eq_true rfl) _ rfl (fun I34 h => ?_)
          refine x_aload_n (pc := 116) 0 dX6_place_116 rfl ?_
          refine x_iload (pc := 117) 4 dX6_place_117 rfl ?_
          refine x_iload_n (pc := 119) 3 dX6_place_119 rfl ?_
          refine x_Vv (μ := m_X6_place) (pc := 120) dX6_place_120 h k_X6_bring ml_X6_306 ⟨Nat.le_of_ble_eq_true rfl, Nat.le_of_ble_eq_true rfl⟩ ⟨rfl, rfl⟩ ⟨Nat.zero_le _, Nat.zero_le _⟩ rfl (LM_ob hM) rfl (Nat.le_of_ble_eq_true rfl) _ rfl (fun I35 h => ?_)
          refine x_aload_n (pc := 123) 0 dX6_place_123 rfl ?_
          refine x_Vi (μ := m_X6_place) (pc := 124) dX6_place_124 h k_X6_spanNow ml_X6_288 ⟨Nat.le_of_ble_eq_true rfl, Nat.le_of_ble_eq_true rfl⟩ ⟨rfl, rfl⟩ ⟨Nat.zero_le _, Nat.zero_le _⟩ rfl (LM_ob hM) rfl (Nat.le_of_ble_eq_true rfl) _ rfl (fun z36 I37 h => ?_)
          exact x_iret (pc := 127) dX6_place_127 rfl (Nat.le_refl _) (Nat.le_refl _) ⟨_, rfl, rfl, h⟩
        · have h := hB33 hc
          refine x_iconst (pc := 110) dX6_place_110 ?_
          exact x_iret (pc := 111) dX6_place_111 rfl (Nat.le_refl _) (Nat.le_refl _) ⟨_, rfl, rfl, h⟩
      · have h := hB23 hc
        refine x_iconst (pc := 63) dX6_place_63 ?_
        exact x_iret (pc := 64) dX6_place_64 rfl (Nat.le_refl _) (Nat.le_refl _) ⟨_, rfl, rfl, h⟩
    · have h := hB18 hc
      refine x_iconst (pc := 51) dX6_place_51 ?_
      refine x_goto (pc := 52) 56 dX6_place_52 (by decide) ?_
      refine x_iconst (pc := 56) dX6_place_56 ?_
      refine x_Vi (μ := m_X6_place) (pc := 57) dX6_place_57 h k_X6_fails ml_X6_174 ⟨Nat.le_of_ble_eq_true rfl, Nat.le_of_ble_eq_true rfl⟩ ⟨rfl, rfl⟩ ⟨Nat.zero_le _, Nat.zero_le _⟩ rfl (LM_ob hM) rfl (Nat.le_of_ble_eq_true rfl) _ rfl (fun z38 I39 h => ?_)
      obtain ⟨hr40, h⟩ := h
      obtain ⟨hA41, hB42⟩ := h
      refine x_if_eq (pc := 60) 65 dX6_place_60 (by decide) hr40 (fun hc => ?_) (fun hc => ?_)
      · have h := hA41 hc
        refine x_aload_n (pc := 65) 0 dX6_place_65 rfl ?_
        refine x_getP (pc := 66) dX6_place_66 FC6 8 (by decide) rfl fl_X6_17 (LM_ob hM) (LM_p8 hM) ?_
        refine x_aload_n (pc := 69) 0 dX6_place_69 rfl ?_
        refine x_getP (pc := 70) dX6_place_70 FC6 10 (by decide) rfl fl_X6_23 (LM_ob hM) (LM_p10 hM) ?_
        refine x_Sv (μ := m_X6_place) (pc := 73) dX6_place_73 h k_X6_copy ml_X6_186 ⟨Nat.le_of_ble_eq_true rfl, Nat.le_of_ble_eq_true rfl⟩ ⟨rfl, rfl⟩ ⟨Nat.zero_le _, Nat.zero_le _⟩ rfl (Nat.le_of_ble_eq_true rfl) _ rfl (fun I43 h => ?_)
        refine x_aload_n (pc := 76) 0 dX6_place_76 rfl ?_
        refine x_iload (pc := 77) 4 dX6_place_77 rfl ?_
        refine x_iload_n (pc := 79) 3 dX6_place_79 rfl ?_
        refine x_Vv (μ := m_X6_place) (pc := 80) dX6_place_80 h k_X6_bring ml_X6_306 ⟨Nat.le_of_ble_eq_true rfl, Nat.le_of_ble_eq_true rfl⟩ ⟨rfl, rfl⟩ ⟨Nat.zero_le _, Nat.zero_le _⟩ rfl (LM_ob hM) rfl (Nat.le_of_ble_eq_true rfl) _ rfl (fun I44 h => ?_)
        refine x_aload_n (pc := 83) 0 dX6_place_83 rfl ?_
        refine x_Vi (μ := m_X6_place) (pc := 84) dX6_place_84 h k_X6_isDeadlocked ml_X6_244 ⟨Nat.le_of_ble_eq_true rfl, Nat.le_of_ble_eq_true rfl⟩ ⟨rfl, rfl⟩ ⟨Nat.zero_le _, Nat.zero_le _⟩ rfl (LM_ob hM) rfl (Nat.le_of_ble_eq_true rfl) _ rfl (fun z45 I46 h => ?_)
        refine x_istore (pc := 87) (al' := [(0, vR 1), (1, vI x1), (2, vI x2), (3, vI x3), (4, vI u7), (5, vI z45)]) dX6_place_87 rfl rfl (Nat.le_of_ble_eq_true rfl) ?_
        refine x_aload_n (pc := 89) 0 dX6_place_89 rfl ?_
        refine x_getP (pc := 90) dX6_place_90 FC6 10 (by decide) rfl fl_X6_23 (LM_ob hM) (LM_p10 hM) ?_
        refine x_aload_n (pc := 93) 0 dX6_place_93 rfl ?_
        refine x_getP (pc := 94) dX6_place_94 FC6 8 (by decide) rfl fl_X6_17 (LM_ob hM) (LM_p8 hM) ?_
        refine x_Sv (μ := m_X6_place) (pc := 97) dX6_place_97 h k_X6_copy ml_X6_186 ⟨Nat.le_of_ble_eq_true rfl, Nat.le_of_ble_eq_true rfl⟩ ⟨rfl, rfl⟩ ⟨Nat.zero_le _, Nat.zero_le _⟩ rfl (Nat.le_of_ble_eq_true rfl) _ rfl (fun I47 h => ?_)
        refine x_aload_n (pc := 100) 0 dX6_place_100 rfl ?_
        refine x_iload (pc := 101) 5 dX6_place_101 rfl ?_
        refine x_iconst (pc := 103) dX6_place_103 ?_
        refine x_Vi (μ := m_X6_place) (pc := 104) dX6_place_104 h k_X6_fails ml_X6_174 ⟨Nat.le_of_ble_eq_true rfl, Nat.le_of_ble_eq_true rfl⟩ ⟨rfl, rfl⟩ ⟨Nat.zero_le _, Nat.zero_le _⟩ rfl (LM_ob hM) rfl (Nat.le_of_ble_eq_true rfl) _ rfl (fun z48 I49 h => ?_)
        obtain ⟨hr50, h⟩ := h
        obtain ⟨hA51, hB52⟩ := h
        refine x_if_eq (pc := 107) 112 dX6_place_107 (by decide) hr50 (fun hc => ?_) (fun hc => ?_)
        · have h := hA51 hc
          refine x_aload_n (pc := 112) 0 dX6_place_112 rfl ?_
          refine x_Vv (μ := m_X6_place) (pc := 113) dX6_place_113 h k_X6_remember ml_X6_183 ⟨Nat.le_of_ble_eq_true rfl, Nat.le_of_ble_eq_true rfl⟩ ⟨rfl, rfl⟩ ⟨Nat.zero_le _, Nat.zero_le _⟩ rfl (LM_ob hM) rfl (Nat.le_of_ble_eq_true rfl) _ rfl (fun I53 h => ?_)
          refine x_aload_n (pc := 116) 0 dX6_place_116 rfl ?_
          refine x_iload (pc := 117) 4 dX6_place_117 rfl ?_
          refine x_iload_n (pc := 119) 3 dX6_place_119 rfl ?_
          refine x_Vv (μ := m_X6_place) (pc := 120) dX6_place_120 h k_X6_bring ml_X6_306 ⟨Nat.le_of_ble_eq_true rfl, Nat.le_of_ble_eq_true rfl⟩ ⟨rfl, rfl⟩ ⟨Nat.zero_le _, Nat.zero_le _⟩ rfl (LM_ob hM) rfl (Nat.le_of_ble_eq_true rfl) _ rfl (fun I54 h => ?_)
          refine x_aload_n (pc := 123) 0 dX6_place_123 rfl ?_
          refine x_Vi (μ := m_X6_place) (pc := 124) dX6_place_124 h k_X6_spanNow ml_X6_288 ⟨Nat.le_of_ble_eq_true rfl, Nat.le_of_ble_eq_true rfl⟩ ⟨rfl, rfl⟩ ⟨Nat.zero_le _, Nat.zero_le _⟩ rfl (LM_ob hM) rfl (Nat.le_of_ble_eq_true rfl) _ rfl (fun z55 I56 h => ?_)
          exact x_iret (pc := 127) dX6_place_127 rfl (Nat.le_refl _) (Nat.le_refl _) ⟨_, rfl, rfl, h⟩
        · have h := hB52 hc
          refine x_iconst (pc := 110) dX6_place_110 ?_
          exact x_iret (pc := 111) dX6_place_111 rfl (Nat.le_refl _) (Nat.le_refl _) ⟨_, rfl, rfl, h⟩
      · have h := hB42 hc
        refine x_iconst (pc := 63) dX6_place_63 ?_
        exact x_iret (pc := 64) dX6_place_64 rfl (Nat.le_refl _) (Nat.le_refl _) ⟨_, rfl, rfl, h⟩
  · have h := hB6 hc
    refine x_iconst (pc := 14) dX6_place_14 ?_
    exact x_iret (pc := 15) dX6_place_15 rfl (Nat.le_refl _) (Nat.le_refl _) ⟨_, rfl, rfl, h⟩
