set_option maxRecDepth 100000 in
set_option maxHeartbeats 4000000 in
theorem t_X6_findStarts_0 {Γ : GG} {P : MP} {I : MM} {R : Int → MM → Prop} (hM : LM Γ P)
    (h : (Cl Γ m_X6_layArcs [vR 1] P I (rv P (fun (I1 : MM) => XM Γ m_X6_findStarts 0 0 6 [(0, vR 1), (1, vI 0)] [] P I1 (ri P R))))) :
    XM Γ m_X6_findStarts 0 0 0 [(0, vR 1)] [] P I (ri P R) := by
  refine x_aload_n (pc := 0) 0 dX6_findStarts_0 rfl ?_
  refine x_Vv (μ := m_X6_findStarts) (pc := 1) dX6_findStarts_1 h k_X6_layArcs ml_X6_208 ⟨Nat.le_of_ble_eq_true rfl, Nat.le_of_ble_eq_true rfl⟩ ⟨rfl, rfl⟩ ⟨Nat.zero_le _, Nat.zero_le _⟩ rfl (LM_ob hM) rfl (Nat.le_of_ble_eq_true rfl) _ rfl (fun I1 h => ?_)
  refine x_iconst (pc := 4) dX6_findStarts_4 ?_
  refine x_istore_n (pc := 5) (al' := [(0, vR 1), (1, vI 0)]) dX6_findStarts_5 rfl rfl (by decide) ?_
  exact x_sub [0, 1] rfl h
set_option maxRecDepth 100000 in
set_option maxHeartbeats 4000000 in
theorem t_X6_findStarts_6 {Γ : GG} {P : MP} {I : MM} {R : Int → MM → Prop} {x1 : Int} (hM : LM Γ P)
    (h : (inR x1) ∧ ((36 ≤ x1 → XM Γ m_X6_findStarts 0 0 27 [(0, vR 1), (1, vI 0)] [] P I (ri P R)) ∧ (¬ 36 ≤ x1 → (0 ≤ x1) ∧ (x1 < 36) ∧ (∀ I6 : MM, I6 = up2 I 9 (x1).toNat 0 → XM Γ m_X6_findStarts 0 0 6 [(0, vR 1), (1, vI (x1 + 1))] [] P I6 (ri P R))))) :
    XM Γ m_X6_findStarts 0 0 6 [(0, vR 1), (1, vI x1)] [] P I (ri P R) := by
  refine x_iload_n (pc := 6) 1 dX6_findStarts_6 rfl ?_
  refine x_bipush (pc := 7) dX6_findStarts_7 rfl ?_
  obtain ⟨hr1, h⟩ := h
  obtain ⟨hA2, hB3⟩ := h
  refine x_icmp_ge (pc := 9) 25 dX6_findStarts_9 (by decide) hr1 ⟨by decide, by decide⟩ (fun hc => ?_) (fun hc => ?_)
  · have h := hA2 hc
    refine x_iconst (pc := 25) dX6_findStarts_25 ?_
    refine x_istore_n (pc := 26) (al' := [(0, vR 1), (1, vI 0)]) dX6_findStarts_26 rfl rfl (by decide) ?_
    exact x_sub [0, 1] rfl h
  · have h := hB3 hc
    refine x_aload_n (pc := 12) 0 dX6_findStarts_12 rfl ?_
    refine x_getP (pc := 13) dX6_findStarts_13 FC6 18 (by decide) rfl fl_X6_37 (LM_ob hM) (LM_p18 hM) ?_
    refine x_iload_n (pc := 16) 1 dX6_findStarts_16 rfl ?_
    refine x_iconst (pc := 17) dX6_findStarts_17 ?_
    obtain ⟨hv4, h⟩ := h
    obtain ⟨hv5, h⟩ := h
    refine x_iast (pc := 18) dX6_findStarts_18 (LM_a18 hM) hv4 hv5 (by decide) ?_
    refine x_nmI (fun I6 eI6 => ?_)
    have h := h I6 eI6
    refine x_iinc (pc := 19) (al' := [(0, vR 1), (1, vI (x1 + 1))]) 1 dX6_findStarts_19 rfl rfl rfl (by decide) ?_
    refine x_goto (pc := 22) 6 dX6_findStarts_22 (by decide) ?_
    exact x_sub [0, 1] rfl h
set_option maxRecDepth 100000 in
set_option maxHeartbeats 4000000 in
theorem t_X6_findStarts_27 {Γ : GG} {P : MP} {I : MM} {R : Int → MM → Prop} {x1 : Int} (hM : LM Γ P)
    (h : (inR x1) ∧ ((36 < x1 → R 0 I) ∧ (¬ 36 < x1 → XM Γ m_X6_findStarts 0 0 37 [(0, vR 1), (1, vI x1), (2, vI 0), (3, vI 0)] [] P I (ri P R)))) :
    XM Γ m_X6_findStarts 0 0 27 [(0, vR 1), (1, vI x1)] [] P I (ri P R) := by
  refine x_iload_n (pc := 27) 1 dX6_findStarts_27 rfl ?_
  refine x_bipush (pc := 28) dX6_findStarts_28 rfl ?_
  obtain ⟨hr1, h⟩ := h
  obtain ⟨hA2, hB3⟩ := h
  refine x_icmp_gt (pc := 30) 79 dX6_findStarts_30 (by decide) hr1 ⟨by decide, by decide⟩ (fun hc => ?_) (fun hc => ?_)
  · have h := hA2 hc
    refine x_iconst (pc := 79) dX6_findStarts_79 ?_
    exact x_zret (pc := 80) dX6_findStarts_80 rfl (by decide) (Nat.le_refl _) (Nat.le_refl _) ⟨_, rfl, rfl, h⟩
  · have h := hB3 hc
    refine x_iconst (pc := 33) dX6_findStarts_33 ?_
    refine x_istore_n (pc := 34) (al' := [(0, vR 1), (1, vI x1), (2, vI 0)]) dX6_findStarts_34 rfl rfl (by decide) ?_
    refine x_iconst (pc := 35) dX6_findStarts_35 ?_
    refine x_istore_n (pc := 36) (al' := [(0, vR 1), (1, vI x1), (2, vI 0), (3, vI 0)]) dX6_findStarts_36 rfl rfl (by decide) ?_
    exact x_sub [0, 1, 2, 3] rfl h
set_option maxRecDepth 100000 in
set_option maxHeartbeats 4000000 in
theorem t_X6_findStarts_37 {Γ : GG} {P : MP} {I : MM} {R : Int → MM → Prop} {x1 x2 x3 : Int} (hM : LM Γ P)
    (h : (inR x3) ∧ ((36 ≤ x3 → (inR x2) ∧ ((x2 ≠ 0 → XM Γ m_X6_findStarts 0 0 27 [(0, vR 1), (1, vI (x1 + 1))] [] P I (ri P R)) ∧ (x2 = 0 → R 1 I))) ∧ (¬ 36 ≤ x3 → (Cl Γ m_X6_isThere [vR 1, vI x3] P I (ri P (fun (z7 : Int) (I8 : MM) => (inR z7) ∧ ((z7 = 0 → XM Γ m_X6_findStarts 0 0 37 [(0, vR 1), (1, vI x1), (2, vI x2), (3, vI (x3 + 1))] [] P I8 (ri P R)) ∧ (¬ z7 = 0 → (Cl Γ m_X6_raises [vR 1, vI x3] P I8 (ri P (fun (z12 : Int) (I13 : MM) => (inR z12) ∧ ((z12 = 0 → XM Γ m_X6_findStarts 0 0 37 [(0, vR 1), (1, vI x1), (2, vI x2), (3, vI (x3 + 1))] [] P I13 (ri P R)) ∧ (¬ z12 = 0 → XM Γ m_X6_findStarts 0 0 37 [(0, vR 1), (1, vI x1), (2, vI 1), (3, vI (x3 + 1))] [] P I13 (ri P R)))))))))))))) :
    XM Γ m_X6_findStarts 0 0 37 [(0, vR 1), (1, vI x1), (2, vI x2), (3, vI x3)] [] P I (ri P R) := by
  refine x_iload_n (pc := 37) 3 dX6_findStarts_37 rfl ?_
  refine x_bipush (pc := 38) dX6_findStarts_38 rfl ?_
  obtain ⟨hr1, h⟩ := h
  obtain ⟨hA2, hB3⟩ := h
  refine x_icmp_ge (pc := 40) 67 dX6_findStarts_40 (by decide) hr1 ⟨by decide, by decide⟩ (fun hc => ?_) (fun hc => ?_)
  · have h := hA2 hc
    refine x_iload_n (pc := 67) 2 dX6_findStarts_67 rfl ?_
    obtain ⟨hr4, h⟩ := h
    obtain ⟨hA5, hB6⟩ := h
    refine x_if_ne (pc := 68) 73 dX6_findStarts_68 (by decide) hr4 (fun hc => ?_) (fun hc => ?_)
    · have h := hA5 hc
      refine x_iinc (pc := 73) (al' := [(0, vR 1), (1, vI (x1 + 1)), (2, vI x2), (3, vI x3)]) 1 dX6_findStarts_73 rfl rfl rfl (by decide) ?_
      refine x_goto (pc := 76) 27 dX6_findStarts_76 (by decide) ?_
      exact x_sub [0, 1] rfl h
    · have h := hB6 hc
      refine x_iconst (pc := 71) dX6_findStarts_71 ?_
      exact x_zret (pc := 72) dX6_findStarts_72 rfl (by decide) (Nat.le_refl _) (Nat.le_refl _) ⟨_, rfl, rfl, h⟩
  · have h := hB3 hc
    refine x_aload_n (pc := 43) 0 dX6_findStarts_43 rfl ?_
    refine x_iload_n (pc := 44) 3 dX6_findStarts_44 rfl ?_
    refine x_Vi (μ := m_X6_findStarts) (pc := 45) dX6_findStarts_45 h k_X6_isThere ml_X6_211 ⟨Nat.le_of_ble_eq_true rfl, Nat.le_of_ble_eq_true rfl⟩ ⟨rfl, rfl⟩ ⟨Nat.zero_le _, Nat.zero_le _⟩ rfl (LM_ob hM) rfl (Nat.le_of_ble_eq_true rfl) _ rfl (fun z7 I8 h => ?_)
    obtain ⟨hr9, h⟩ := h
    obtain ⟨hA10, hB11⟩ := h
    refine x_if_eq (pc := 48) 61 dX6_findStarts_48 (by decide) hr9 (fun hc => ?_) (fun hc => ?_)
    · have h := hA10 hc
      refine x_iinc (pc := 61) (al' := [(0, vR 1), (1, vI x1), (2, vI x2), (3, vI (x3 + 1))]) 3 dX6_findStarts_61 rfl rfl rfl (by decide) ?_
      refine x_goto (pc := 64) 37 dX6_findStarts_64 (by decide) ?_
      exact x_sub [0, 1, 2, 3] rfl h
    · have h := hB11 hc
      refine x_aload_n (pc := 51) 0 dX6_findStarts_51 rfl ?_
      refine x_iload_n (pc := 52) 3 dX6_findStarts_52 rfl ?_
      refine x_Vi (μ := m_X6_findStarts) (pc := 53) dX6_findStarts_53 h k_X6_raises ml_X6_214 ⟨Nat.le_of_ble_eq_true rfl, Nat.le_of_ble_eq_true rfl⟩ ⟨rfl, rfl⟩ ⟨Nat.zero_le _, Nat.zero_le _⟩ rfl (LM_ob hM) rfl (Nat.le_of_ble_eq_true rfl) _ rfl (fun z12 I13 h => ?_)
      obtain ⟨hr14, h⟩ := h
      obtain ⟨hA15, hB16⟩ := h
      refine x_if_eq (pc := 56) 61 dX6_findStarts_56 (by decide) hr14 (fun hc => ?_) (fun hc => ?_)
      · have h := hA15 hc
        refine x_iinc (pc := 61) (al' := [(0, vR 1), (1, vI x1), (2, vI x2), (3, vI (x3 + 1))]) 3 dX6_findStarts_61 rfl rfl rfl (by decide) ?_
        refine x_goto (pc := 64) 37 dX6_findStarts_64 (by decide) ?_
        exact x_sub [0, 1, 2, 3] rfl h
      · have h := hB16 hc
        refine x_iconst (pc := 59) dX6_findStarts_59 ?_
        refine x_istore_n (pc := 60) (al' := [(0, vR 1), (1, vI x1), (2, vI 1), (3, vI x3)]) dX6_findStarts_60 rfl rfl (by decide) ?_
        refine x_iinc (pc := 61) (al' := [(0, vR 1), (1, vI x1), (2, vI 1), (3, vI (x3 + 1))]) 3 dX6_findStarts_61 rfl rfl rfl (by decide) ?_
        refine x_goto (pc := 64) 37 dX6_findStarts_64 (by decide) ?_
        exact x_sub [0, 1, 2, 3] rfl h
set_option maxRecDepth 100000 in
set_option maxHeartbeats 4000000 in
theorem t_X6_hasCycle_0 {Γ : GG} {P : MP} {I : MM} {R : Int → MM → Prop} (hM : LM Γ P)
    (h : XM Γ m_X6_hasCycle 0 0 4 [(0, vR 1), (1, vI 0), (2, vI 0)] [] P I (ri P R)) :
    XM Γ m_X6_hasCycle 0 0 0 [(0, vR 1)] [] P I (ri P R) := by
  refine x_iconst (pc := 0) dX6_hasCycle_0 ?_
  refine x_istore_n (pc := 1) (al' := [(0, vR 1), (1, vI 0)]) dX6_hasCycle_1 rfl rfl (by decide) ?_
  refine x_iconst (pc := 2) dX6_hasCycle_2 ?_
  refine x_istore_n (pc := 3) (al' := [(0, vR 1), (1, vI 0), (2, vI 0)]) dX6_hasCycle_3 rfl rfl (by decide) ?_
  exact x_sub [0, 1, 2] rfl h
set_option maxRecDepth 100000 in
set_option maxHeartbeats 4000000 in
theorem t_X6_hasCycle_4 {Γ : GG} {P : MP} {I : MM} {R : Int → MM → Prop} {x1 x2 : Int} (hM : LM Γ P)
    (h : (inR x2) ∧ ((36 ≤ x2 → XM Γ m_X6_hasCycle 0 0 41 [(0, vR 1), (1, vI x1), (2, vI 1)] [] P I (ri P R)) ∧ (¬ 36 ≤ x2 → (0 ≤ x2) ∧ (x2 < 36) ∧ (∀ I6 : MM, I6 = up2 I 10 (x2).toNat 0 → (Cl Γ m_X6_isThere [vR 1, vI x2] P I6 (ri P (fun (z7 : Int) (I8 : MM) => (inR z7) ∧ ((z7 = 0 → (∀ x12 : Int, x12 = (x1 + 0) → XM Γ m_X6_hasCycle 0 0 4 [(0, vR 1), (1, vI x12), (2, vI (x2 + 1))] [] P I8 (ri P R))) ∧ (¬ z7 = 0 → (∀ x13 : Int, x13 = (x1 + 1) → XM Γ m_X6_hasCycle 0 0 4 [(0, vR 1), (1, vI x13), (2, vI (x2 + 1))] [] P I8 (ri P R))))))))))) :
    XM Γ m_X6_hasCycle 0 0 4 [(0, vR 1), (1, vI x1), (2, vI x2)] [] P I (ri P R) := by
  refine x_iload_n (pc := 4) 2 dX6_hasCycle_4 rfl ?_
  refine x_bipush (pc := 5) dX6_hasCycle_5 rfl ?_
  obtain ⟨hr1, h⟩ := h
  obtain ⟨hA2, hB3⟩ := h
  refine x_icmp_ge (pc := 7) 39 dX6_hasCycle_7 (by decide) hr1 ⟨by decide, by decide⟩ (fun hc => ?_) (fun hc => ?_)
  · have h := hA2 hc
    refine x_iconst (pc := 39) dX6_hasCycle_39 ?_
    refine x_istore_n (pc := 40) (al' := [(0, vR 1), (1, vI x1), (2, vI 1)]) dX6_hasCycle_40 rfl rfl (by decide) ?_
    exact x_sub [0, 1, 2] rfl h
  · have h := hB3 hc
    refine x_aload_n (pc := 10) 0 dX6_hasCycle_10 rfl ?_
    refine x_getP (pc := 11) dX6_hasCycle_11 FC6 19 (by decide) rfl fl_X6_40 (LM_ob hM) (LM_p19 hM) ?_
    refine x_iload_n (pc := 14) 2 dX6_hasCycle_14 rfl ?_
    refine x_iconst (pc := 15) dX6_hasCycle_15 ?_
    obtain ⟨hv4, h⟩ := h
    obtain ⟨hv5, h⟩ := h
    refine x_zast (pc := 16) dX6_hasCycle_16 (LM_a19 hM) hv4 hv5 (by decide) (by decide) ?_
    refine x_nmI (fun I6 eI6 => ?_)
    have h := h I6 eI6
    refine x_iload_n (pc := 17) 1 dX6_hasCycle_17 rfl ?_
    refine x_aload_n (pc := 18) 0 dX6_hasCycle_18 rfl ?_
    refine x_iload_n (pc := 19) 2 dX6_hasCycle_19 rfl ?_
    refine x_Vi (μ := m_X6_hasCycle) (pc := 20) dX6_hasCycle_20 h k_X6_isThere ml_X6_211 ⟨Nat.le_of_ble_eq_true rfl, Nat.le_of_ble_eq_true rfl⟩ ⟨rfl, rfl⟩ ⟨Nat.zero_le _, Nat.zero_le _⟩ rfl (LM_ob hM) rfl (Nat.le_of_ble_eq_true rfl) _ rfl (fun z7 I8 h => ?_)
    obtain ⟨hr9, h⟩ := h
    obtain ⟨hA10, hB11⟩ := h
    refine x_if_eq (pc := 23) 30 dX6_hasCycle_23 (by decide) hr9 (fun hc => ?_) (fun hc => ?_)
    · have h := hA10 hc
      refine x_iconst (pc := 30) dX6_hasCycle_30 ?_
      refine x_iadd (pc := 31) dX6_hasCycle_31 ?_
      refine x_nmT (fun x12 ex12 => ?_)
      have h := h x12 ex12
      refine x_istore_n (pc := 32) (al' := [(0, vR 1), (1, vI x12), (2, vI x2)]) dX6_hasCycle_32 rfl rfl (by decide) ?_
      refine x_iinc (pc := 33) (al' := [(0, vR 1), (1, vI x12), (2, vI (x2 + 1))]) 2 dX6_hasCycle_33 rfl rfl rfl (by decide) ?_
      refine x_goto (pc := 36) 4 dX6_hasCycle_36 (by decide) ?_
      exact x_sub [0, 1, 2] rfl h
    · have h := hB11 hc
      refine x_iconst (pc := 26) dX6_hasCycle_26 ?_
      refine x_goto (pc := 27) 31 dX6_hasCycle_27 (by decide) ?_
      refine x_iadd (pc := 31) dX6_hasCycle_31 ?_
      refine x_nmT (fun x13 ex13 => ?_)
      have h := h x13 ex13
      refine x_istore_n (pc := 32) (al' := [(0, vR 1), (1, vI x13), (2, vI x2)]) dX6_hasCycle_32 rfl rfl (by decide) ?_
      refine x_iinc (pc := 33) (al' := [(0, vR 1), (1, vI x13), (2, vI (x2 + 1))]) 2 dX6_hasCycle_33 rfl rfl rfl (by decide) ?_
      refine x_goto (pc := 36) 4 dX6_hasCycle_36 (by decide) ?_
      exact x_sub [0, 1, 2] rfl h
set_option maxRecDepth 100000 in
set_option maxHeartbeats 4000000 in
theorem t_X6_hasCycle_41 {Γ : GG} {P : MP} {I : MM} {R : Int → MM → Prop} {x1 x2 : Int} (hM : LM Γ P)
    (h : (inR x2) ∧ ((x2 = 0 → (inR x1) ∧ ((x1 ≤ 0 → R 0 I) ∧ (¬ x1 ≤ 0 → R 1 I))) ∧ (¬ x2 = 0 → XM Γ m_X6_hasCycle 0 0 49 [(0, vR 1), (1, vI x1), (2, vI 0), (3, vI 0)] [] P I (ri P R)))) :
    XM Γ m_X6_hasCycle 0 0 41 [(0, vR 1), (1, vI x1), (2, vI x2)] [] P I (ri P R) := by
  refine x_iload_n (pc := 41) 2 dX6_hasCycle_41 rfl ?_
  obtain ⟨hr1, h⟩ := h
  obtain ⟨hA2, hB3⟩ := h
  refine x_if_eq (pc := 42) 138 dX6_hasCycle_42 (by decide) hr1 (fun hc => ?_) (fun hc => ?_)
  · have h := hA2 hc
    refine x_iload_n (pc := 138) 1 dX6_hasCycle_138 rfl ?_
    obtain ⟨hr4, h⟩ := h
    obtain ⟨hA5, hB6⟩ := h
    refine x_if_le (pc := 139) 146 dX6_hasCycle_139 (by decide) hr4 (fun hc => ?_) (fun hc => ?_)
    · have h := hA5 hc
      refine x_iconst (pc := 146) dX6_hasCycle_146 ?_
      exact x_zret (pc := 147) dX6_hasCycle_147 rfl (by decide) (Nat.le_refl _) (Nat.le_refl _) ⟨_, rfl, rfl, h⟩
    · have h := hB6 hc
      refine x_iconst (pc := 142) dX6_hasCycle_142 ?_
      refine x_goto (pc := 143) 147 dX6_hasCycle_143 (by decide) ?_
      exact x_zret (pc := 147) dX6_hasCycle_147 rfl (by decide) (Nat.le_refl _) (Nat.le_refl _) ⟨_, rfl, rfl, h⟩
  · have h := hB3 hc
    refine x_iconst (pc := 45) dX6_hasCycle_45 ?_
    refine x_istore_n (pc := 46) (al' := [(0, vR 1), (1, vI x1), (2, vI 0)]) dX6_hasCycle_46 rfl rfl (by decide) ?_
    refine x_iconst (pc := 47) dX6_hasCycle_47 ?_
    refine x_istore_n (pc := 48) (al' := [(0, vR 1), (1, vI x1), (2, vI 0), (3, vI 0)]) dX6_hasCycle_48 rfl rfl (by decide) ?_
    exact x_sub [0, 1, 2, 3] rfl h
set_option maxRecDepth 100000 in
set_option maxHeartbeats 4000000 in
theorem t_X6_hasCycle_49 {Γ : GG} {P : MP} {I : MM} {R : Int → MM → Prop} {x1 x2 x3 : Int} (hM : LM Γ P)
    (h : (inR x3) ∧ ((36 ≤ x3 → XM Γ m_X6_hasCycle 0 0 41 [(0, vR 1), (1, vI x1), (2, vI x2)] [] P I (ri P R)) ∧ (¬ 36 ≤ x3 → (Cl Γ m_X6_isThere [vR 1, vI x3] P I (ri P (fun (z4 : Int) (I5 : MM) => (inR z4) ∧ ((z4 = 0 → XM Γ m_X6_hasCycle 0 0 49 [(0, vR 1), (1, vI x1), (2, vI x2), (3, vI (x3 + 1))] [] P I5 (ri P R)) ∧ (¬ z4 = 0 → (0 ≤ x3) ∧ (x3 < 36) ∧ (inR (I5 10 (x3).toNat)) ∧ (((I5 10 (x3).toNat) ≠ 0 → XM Γ m_X6_hasCycle 0 0 49 [(0, vR 1), (1, vI x1), (2, vI x2), (3, vI (x3 + 1))] [] P I5 (ri P R)) ∧ ((I5 10 (x3).toNat) = 0 → (inR (x3 % 6)) ∧ (((x3 % 6) ≤ 0 → (inR (I5 7 (x3).toNat)) ∧ (((I5 7 (x3).toNat) = (-1) → (∀ I20 : MM, I20 = up2 I5 10 (x3).toNat 1 → XM Γ m_X6_hasCycle 0 0 49 [(0, vR 1), (1, vI (x1 + (-1))), (2, vI 1), (3, vI (x3 + 1))] [] P I20 (ri P R))) ∧ (¬ (I5 7 (x3).toNat) = (-1) → (0 ≤ (I5 7 (x3).toNat)) ∧ ((I5 7 (x3).toNat) < 36) ∧ (inR (I5 10 ((I5 7 (x3).toNat)).toNat)) ∧ (((I5 10 ((I5 7 (x3).toNat)).toNat) ≠ 0 → (∀ I26 : MM, I26 = up2 I5 10 (x3).toNat 1 → XM Γ m_X6_hasCycle 0 0 49 [(0, vR 1), (1, vI (x1 + (-1))), (2, vI 1), (3, vI (x3 + 1))] [] P I26 (ri P R))) ∧ ((I5 10 ((I5 7 (x3).toNat)).toNat) = 0 → XM Γ m_X6_hasCycle 0 0 49 [(0, vR 1), (1, vI x1), (2, vI x2), (3, vI (x3 + 1))] [] P I5 (ri P R)))))) ∧ (¬ (x3 % 6) ≤ 0 → (0 ≤ (x3 - 1)) ∧ ((x3 - 1) < 36) ∧ (inR (I5 10 ((x3 - 1)).toNat)) ∧ (((I5 10 ((x3 - 1)).toNat) = 0 → XM Γ m_X6_hasCycle 0 0 49 [(0, vR 1), (1, vI x1), (2, vI x2), (3, vI (x3 + 1))] [] P I5 (ri P R)) ∧ (¬ (I5 10 ((x3 - 1)).toNat) = 0 → (inR (I5 7 (x3).toNat)) ∧ (((I5 7 (x3).toNat) = (-1) → (∀ I35 : MM, I35 = up2 I5 10 (x3).toNat 1 → XM Γ m_X6_hasCycle 0 0 49 [(0, vR 1), (1, vI (x1 + (-1))), (2, vI 1), (3, vI (x3 + 1))] [] P I35 (ri P R))) ∧ (¬ (I5 7 (x3).toNat) = (-1) → (0 ≤ (I5 7 (x3).toNat)) ∧ ((I5 7 (x3).toNat) < 36) ∧ (inR (I5 10 ((I5 7 (x3).toNat)).toNat)) ∧ (((I5 10 ((I5 7 (x3).toNat)).toNat) ≠ 0 → (∀ I41 : MM, I41 = up2 I5 10 (x3).toNat 1 → XM Γ m_X6_hasCycle 0 0 49 [(0, vR 1), (1, vI (x1 + (-1))), (2, vI 1), (3, vI (x3 + 1))] [] P I41 (ri P R))) ∧ ((I5 10 ((I5 7 (x3).toNat)).toNat) = 0 → XM Γ m_X6_hasCycle 0 0 49 [(0, vR 1), (1, vI x1), (2, vI x2), (3, vI (x3 + 1))] [] P I5 (ri P R))))))))))))))))))) :
    XM Γ m_X6_hasCycle 0 0 49 [(0, vR 1), (1, vI x1), (2, vI x2), (3, vI x3)] [] P I (ri P R) := by
  refine x_iload_n (pc := 49) 3 dX6_hasCycle_49 rfl ?_
  refine x_bipush (pc := 50) dX6_hasCycle_50 rfl ?_
  obtain ⟨hr1, h⟩ := h
  obtain ⟨hA2, hB3⟩ := h
  refine x_icmp_ge (pc := 52) 135 dX6_hasCycle_52 (by decide) hr1 ⟨by decide, by decide⟩ (fun hc => ?_) (fun hc => ?_)
  · have h := hA2 hc
    refine x_goto (pc := 135) 41 dX6_hasCycle_135 (by decide) ?_
    exact x_sub [0, 1, 2] rfl h
  · have h := hB3 hc
    refine x_aload_n (pc := 55) 0 dX6_hasCycle_55 rfl ?_
    refine x_iload_n (pc := 56) 3 dX6_hasCycle_56 rfl ?_
    refine x_Vi (μ := m_X6_hasCycle) (pc := 57) dX6_hasCycle_57 h k_X6_isThere ml_X6_211 ⟨Nat.le_of_ble_eq_true rfl, Nat.le_of_ble_eq_true rfl⟩ ⟨rfl, rfl⟩ ⟨Nat.zero_le _, Nat.zero_le _⟩ rfl (LM_ob hM) rfl (Nat.le_of_ble_eq_true rfl) _ rfl (fun z4 I5 h => ?_)
    obtain ⟨hr6, h⟩ := h
    obtain ⟨hA7, hB8⟩ := h
    refine x_if_eq (pc := 60) 129 dX6_hasCycle_60 (by decide) hr6 (fun hc => ?_) (fun hc => ?_)
    · have h := hA7 hc
      refine x_iinc (pc := 129) (al' := [(0, vR 1), (1, vI x1), (2, vI x2), (3, vI (x3 + 1))]) 3 dX6_hasCycle_129 rfl rfl rfl (by decide) ?_
      refine x_goto (pc := 132) 49 dX6_hasCycle_132 (by decide) ?_
      exact x_sub [0, 1, 2, 3] rfl h
    · have h := hB8 hc
      refine x_aload_n (pc := 63) 0 dX6_hasCycle_63 rfl ?_
      refine x_getP (pc := 64) dX6_hasCycle_64 FC6 19 (by decide) rfl fl_X6_40 (LM_ob hM) (LM_p19 hM) ?_
      refine x_iload_n (pc := 67) 3 dX6_hasCycle_67 rfl ?_
      obtain ⟨hv9, h⟩ := h
      obtain ⟨hv10, h⟩ := h
      refine x_zald (pc := 68) dX6_hasCycle_68 (LM_a19 hM) hv9 hv10 (by decide) ?_
      obtain ⟨hr11, h⟩ := h
      obtain ⟨hA12, hB13⟩ := h
      refine x_if_ne (pc := 69) 129 dX6_hasCycle_69 (by decide) hr11 (fun hc => ?_) (fun hc => ?_)
      · have h := hA12 hc
        refine x_iinc (pc := 129) (al' := [(0, vR 1), (1, vI x1), (2, vI x2), (3, vI (x3 + 1))]) 3 dX6_hasCycle_129 rfl rfl rfl (by decide) ?_
        refine x_goto (pc := 132) 49 dX6_hasCycle_132 (by decide) ?_
        exact x_sub [0, 1, 2, 3] rfl h
      · have h := hB13 hc
        refine x_iload_n (pc := 72) 3 dX6_hasCycle_72 rfl ?_
        refine x_bipush (pc := 73) dX6_hasCycle_73 rfl ?_
        refine x_irem (pc := 75) dX6_hasCycle_75 hr1 ⟨by decide, by decide⟩ hv9 (by decide) ?_
        obtain ⟨hr14, h⟩ := h
        obtain ⟨hA15, hB16⟩ := h
        refine x_if_le (pc := 76) 90 dX6_hasCycle_76 (by decide) hr14 (fun hc => ?_) (fun hc => ?_)
        · have h := hA15 hc
          refine x_aload_n (pc := 90) 0 dX6_hasCycle_90 rfl ?_
          refine x_getP (pc := 91) dX6_hasCycle_91 FC6 16 (by decide) rfl fl_X6_31 (LM_ob hM) (LM_p16 hM) ?_
          refine x_iload_n (pc := 94) 3 dX6_hasCycle_94 rfl ?_
          refine x_iald (pc := 95) dX6_hasCycle_95 (LM_a16 hM) hv9 hv10 (by decide) ?_
          refine x_iconst (pc := 96) dX6_hasCycle_96 ?_
          obtain ⟨hr17, h⟩ := h
          obtain ⟨hA18, hB19⟩ := h
          refine x_icmp_eq (pc := 97) 117 dX6_hasCycle_97 (by decide) hr17 ⟨by decide, by decide⟩ (fun hc => ?_) (fun hc => ?_)
          · have h := hA18 hc
            refine x_aload_n (pc := 117) 0 dX6_hasCycle_117 rfl ?_
            refine x_getP (pc := 118) dX6_hasCycle_118 FC6 19 (by decide) rfl fl_X6_40 (LM_ob hM) (LM_p19 hM) ?_
            refine x_iload_n (pc := 121) 3 dX6_hasCycle_121 rfl ?_
            refine x_iconst (pc := 122) dX6_hasCycle_122 ?_
            refine x_zast (pc := 123) dX6_hasCycle_123 (LM_a19 hM) hv9 hv10 (by decide) (by decide) ?_
            refine x_nmI (fun I20 eI20 => ?_)
            have h := h I20 eI20
            refine x_iconst (pc := 124) dX6_hasCycle_124 ?_
            refine x_istore_n (pc := 125) (al' := [(0, vR 1), (1, vI x1), (2, vI 1), (3, vI x3)]) dX6_hasCycle_125 rfl rfl (by decide) ?_
            refine x_iinc (pc := 126) (al' := [(0, vR 1), (1, vI (x1 + (-1))), (2, vI 1), (3, vI x3)]) 1 dX6_hasCycle_126 rfl rfl rfl (by decide) ?_
            refine x_iinc (pc := 129) (al' := [(0, vR 1), (1, vI (x1 + (-1))), (2, vI 1), (3, vI (x3 + 1))]) 3 dX6_hasCycle_129 rfl rfl rfl (by decide) ?_
            refine x_goto (pc := 132) 49 dX6_hasCycle_132 (by decide) ?_
            exact x_sub [0, 1, 2, 3] rfl h
          · have h := hB19 hc
            refine x_aload_n (pc := 100) 0 dX6_hasCycle_100 rfl ?_
            refine x_getP (pc := 101) dX6_hasCycle_101 FC6 19 (by decide) rfl fl_X6_40 (LM_ob hM) (LM_p19 hM) ?_
            refine x_aload_n (pc := 104) 0 dX6_hasCycle_104 rfl ?_
            refine x_getP (pc := 105) dX6_hasCycle_105 FC6 16 (by decide) rfl fl_X6_31 (LM_ob hM) (LM_p16 hM) ?_
            refine x_iload_n (pc := 108) 3 dX6_hasCycle_108 rfl ?_
            refine x_iald (pc := 109) dX6_hasCycle_109 (LM_a16 hM) hv9 hv10 (by decide) ?_
            obtain ⟨hv21, h⟩ := h
            obtain ⟨hv22, h⟩ := h
            refine x_zald (pc := 110) dX6_hasCycle_110 (LM_a19 hM) hv21 hv22 (by decide) ?_
            obtain ⟨hr23, h⟩ := h
            obtain ⟨hA24, hB25⟩ := h
            refine x_if_ne (pc := 111) 117 dX6_hasCycle_111 (by decide) hr23 (fun hc => ?_) (fun hc => ?_)
            · have h := hA24 hc
              refine x_aload_n (pc := 117) 0 dX6_hasCycle_117 rfl ?_
              refine x_getP (pc := 118) dX6_hasCycle_118 FC6 19 (by decide) rfl fl_X6_40 (LM_ob hM) (LM_p19 hM) ?_
              refine x_iload_n (pc := 121) 3 dX6_hasCycle_121 rfl ?_
              refine x_iconst (pc := 122) dX6_hasCycle_122 ?_
              refine x_zast (pc := 123) dX6_hasCycle_123 (LM_a19 hM) hv9 hv10 (by decide) (by decide) ?_
              refine x_nmI (fun I26 eI26 => ?_)
              have h := h I26 eI26
              refine x_iconst (pc := 124) dX6_hasCycle_124 ?_
              refine x_istore_n (pc := 125) (al' := [(0, vR 1), (1, vI x1), (2, vI 1), (3, vI x3)]) dX6_hasCycle_125 rfl rfl (by decide) ?_
              refine x_iinc (pc := 126) (al' := [(0, vR 1), (1, vI (x1 + (-1))), (2, vI 1), (3, vI x3)]) 1 dX6_hasCycle_126 rfl rfl rfl (by decide) ?_
              refine x_iinc (pc := 129) (al' := [(0, vR 1), (1, vI (x1 + (-1))), (2, vI 1), (3, vI (x3 + 1))]) 3 dX6_hasCycle_129 rfl rfl rfl (by decide) ?_
              refine x_goto (pc := 132) 49 dX6_hasCycle_132 (by decide) ?_
              exact x_sub [0, 1, 2, 3] rfl h
            · have h := hB25 hc
              refine x_goto (pc := 114) 129 dX6_hasCycle_114 (by decide) ?_
              refine x_iinc (pc := 129) (al' := [(0, vR 1), (1, vI x1), (2, vI x2), (3, vI (x3 + 1))]) 3 dX6_hasCycle_129 rfl rfl rfl (by decide) ?_
              refine x_goto (pc := 132) 49 dX6_hasCycle_132 (by decide) ?_
              exact x_sub [0, 1, 2, 3] rfl h
        · have h := hB16 hc
          refine x_aload_n (pc := 79) 0 dX6_hasCycle_79 rfl ?_
          refine x_getP (pc := 80) dX6_hasCycle_80 FC6 19 (by decide) rfl fl_X6_40 (LM_ob hM) (LM_p19 hM) ?_
          refine x_iload_n (pc := 83) 3 dX6_hasCycle_83 rfl ?_
          refine x_iconst (pc := 84) dX6_hasCycle_84 ?_
          refine x_isub (pc := 85) dX6_hasCycle_85 ?_
          obtain ⟨hv27, h⟩ := h
          obtain ⟨hv28, h⟩ := h
          refine x_zald (pc := 86) dX6_hasCycle_86 (LM_a19 hM) hv27 hv28 (by decide) ?_
          obtain ⟨hr29, h⟩ := h
          obtain ⟨hA30, hB31⟩ := h
          refine x_if_eq (pc := 87) 129 dX6_hasCycle_87 (by decide) hr29 (fun hc => ?_) (fun hc => ?_)
          · have h := hA30 hc
            refine x_iinc (pc := 129) (al' := [(0, vR 1), (1, vI x1), (2, vI x2), (3, vI (x3 + 1))]) 3 dX6_hasCycle_129 rfl rfl rfl (by decide) ?_
            refine x_goto (pc := 132) 49 dX6_hasCycle_132 (by decide) ?_
            exact x_sub [0, 1, 2, 3] rfl h
          · have h := hB31 hc
            refine x_aload_n (pc := 90) 0 dX6_hasCycle_90 rfl ?_
            refine x_getP (pc := 91) dX6_hasCycle_91 FC6 16 (by decide) rfl fl_X6_31 (LM_ob hM) (LM_p16 hM) ?_
            refine x_iload_n (pc := 94) 3 dX6_hasCycle_94 rfl ?_
            refine x_iald (pc := 95) dX6_hasCycle_95 (LM_a16 hM) hv9 hv10 (by decide) ?_
            refine x_iconst (pc := 96) dX6_hasCycle_96 ?_
            obtain ⟨hr32, h⟩ := h
            obtain ⟨hA33, hB34⟩ := h
            refine x_icmp_eq (pc := 97) 117 dX6_hasCycle_97 (by decide) hr32 ⟨by decide, by decide⟩ (fun hc => ?_) (fun hc => ?_)
            · have h := hA33 hc
              refine x_aload_n (pc := 117) 0 dX6_hasCycle_117 rfl ?_
              refine x_getP (pc := 118) dX6_hasCycle_118 FC6 19 (by decide) rfl fl_X6_40 (LM_ob hM) (LM_p19 hM) ?_
              refine x_iload_n (pc := 121) 3 dX6_hasCycle_121 rfl ?_
              refine x_iconst (pc := 122) dX6_hasCycle_122 ?_
              refine x_zast (pc := 123) dX6_hasCycle_123 (LM_a19 hM) hv9 hv10 (by decide) (by decide) ?_
              refine x_nmI (fun I35 eI35 => ?_)
              have h := h I35 eI35
              refine x_iconst (pc := 124) dX6_hasCycle_124 ?_
              refine x_istore_n (pc := 125) (al' := [(0, vR 1), (1, vI x1), (2, vI 1), (3, vI x3)]) dX6_hasCycle_125 rfl rfl (by decide) ?_
              refine x_iinc (pc := 126) (al' := [(0, vR 1), (1, vI (x1 + (-1))), (2, vI 1), (3, vI x3)]) 1 dX6_hasCycle_126 rfl rfl rfl (by decide) ?_
              refine x_iinc (pc := 129) (al' := [(0, vR 1), (1, vI (x1 + (-1))), (2, vI 1), (3, vI (x3 + 1))]) 3 dX6_hasCycle_129 rfl rfl rfl (by decide) ?_
              refine x_goto (pc := 132) 49 dX6_hasCycle_132 (by decide) ?_
              exact x_sub [0, 1, 2, 3] rfl h
            · have h := hB34 hc
              refine x_aload_n (pc := 100) 0 dX6_hasCycle_100 rfl ?_
              refine x_getP (pc := 101) dX6_hasCycle_101 FC6 19 (by decide) rfl fl_X6_40 (LM_ob hM) (LM_p19 hM) ?_
              refine x_aload_n (pc := 104) 0 dX6_hasCycle_104 rfl ?_
              refine x_getP (pc := 105) dX6_hasCycle_105 FC6 16 (by decide) rfl fl_X6_31 (LM_ob hM) (LM_p16 hM) ?_
              refine x_iload_n (pc := 108) 3 dX6_hasCycle_108 rfl ?_
              refine x_iald (pc := 109) dX6_hasCycle_109 (LM_a16 hM) hv9 hv10 (by decide) ?_
              obtain ⟨hv36, h⟩ := h
              obtain ⟨hv37, h⟩ := h
              refine x_zald (pc := 110) dX6_hasCycle_110 (LM_a19 hM) hv36 hv37 (by decide) ?_
              obtain ⟨hr38, h⟩ := h
              obtain ⟨hA39, hB40⟩ := h
              refine x_if_ne (pc := 111) 117 dX6_hasCycle_111 (by decide) hr38 (fun hc => ?_) (fun hc => ?_)
              · have h := hA39 hc
                refine x_aload_n (pc := 117) 0 dX6_hasCycle_117 rfl ?_
                refine x_getP (pc := 118) dX6_hasCycle_118 FC6 19 (by decide) rfl fl_X6_40 (LM_ob hM) (LM_p19 hM) ?_
                refine x_iload_n (pc := 121) 3 dX6_hasCycle_121 rfl ?_
                refine x_iconst (pc := 122) dX6_hasCycle_122 ?_
                refine x_zast (pc := 123) dX6_hasCycle_123 (LM_a19 hM) hv9 hv10 (by decide) (by decide) ?_
                refine x_nmI (fun I41 eI41 => ?_)
                have h := h I41 eI41
                refine x_iconst (pc := 124) dX6_hasCycle_124 ?_
                refine x_istore_n (pc := 125) (al' := [(0, vR 1), (1, vI x1), (2, vI 1), (3, vI x3)]) dX6_hasCycle_125 rfl rfl (by decide) ?_
                refine x_iinc (pc := 126) (al' := [(0, vR 1), (1, vI (x1 + (-1))), (2, vI 1), (3, vI x3)]) 1 dX6_hasCycle_126 rfl rfl rfl (by decide) ?_
                refine x_iinc (pc := 129) (al' := [(0, vR 1), (1, vI (x1 + (-1))), (2, vI 1), (3, vI (x3 + 1))]) 3 dX6_hasCycle_129 rfl rfl rfl (by decide) ?_
                refine x_goto (pc := 132) 49 dX6_hasCycle_132 (by decide) ?_
                exact x_sub [0, 1, 2, 3] rfl h
              · have h := hB40 hc
                refine x_goto (pc := 114) 129 dX6_hasCycle_114 (by decide) ?_
                refine x_iinc (pc := 129) (al' := [(0, vR 1), (1, vI x1), (2, vI x2), (3, vI (x3 + 1))]) 3 dX6_hasCycle_129 rfl rfl rfl (by decide) ?_
                refine x_goto (pc := 132) 49 dX6_hasCycle_132 (by decide) ?_
                exact x_sub [0, 1, 2, 3] rfl h
set_option maxRecDepth 100000 in
set_option maxHeartbeats 4000000 in
theorem t_X6_isDeadlocked_0 {Γ : GG} {P : MP} {I : MM} {R : Int → MM → Prop} (hM : LM Γ P)
    (h : (Cl Γ m_X6_findStarts [vR 1] P I (ri P (fun (z1 : Int) (I2 : MM) => (inR z1) ∧ ((z1 = 0 → R 1 I2) ∧ (¬ z1 = 0 → (inR (I2 3 1)) ∧ (((I2 3 1) ≠ 0 → R 0 I2) ∧ ((I2 3 1) = 0 → (Cl Γ m_X6_hasCycle [vR 1] P I2 (ri P (fun (z9 : Int) (I10 : MM) => (inR z9) ∧ ((z9 = 0 → R 0 I10) ∧ (¬ z9 = 0 → R 1 I10))))))))))))) :
    XM Γ m_X6_isDeadlocked 0 0 0 [(0, vR 1)] [] P I (ri P R) := by
  refine x_aload_n (pc := 0) 0 dX6_isDeadlocked_0 rfl ?_
  refine x_Vi (μ := m_X6_isDeadlocked) (pc := 1) dX6_isDeadlocked_1 h k_X6_findStarts ml_X6_217 ⟨Nat.le_of_ble_eq_true rfl, Nat.le_of_ble_eq_true rfl⟩ ⟨rfl, rfl⟩ ⟨Nat.zero_le _, Nat.zero_le _⟩ rfl (LM_ob hM) rfl (Nat.le_of_ble_eq_true rfl) _ rfl (fun z1 I2 h => ?_)
  obtain ⟨hr3, h⟩ := h
  obtain ⟨hA4, hB5⟩ := h
  refine x_if_eq (pc := 4) 23 dX6_isDeadlocked_4 (by decide) hr3 (fun hc => ?_) (fun hc => ?_)
  · have h := hA4 hc
    refine x_iconst (pc := 23) dX6_isDeadlocked_23 ?_
    refine x_goto (pc := 24) 28 dX6_isDeadlocked_24 (by decide) ?_
    exact x_zret (pc := 28) dX6_isDeadlocked_28 rfl (by decide) (Nat.le_refl _) (Nat.le_refl _) ⟨_, rfl, rfl, h⟩
  · have h := hB5 hc
    refine x_aload_n (pc := 7) 0 dX6_isDeadlocked_7 rfl ?_
    refine x_getP (pc := 8) dX6_isDeadlocked_8 FC6 8 (by decide) rfl fl_X6_17 (LM_ob hM) (LM_p8 hM) ?_
    refine x_iconst (pc := 11) dX6_isDeadlocked_11 ?_
    refine x_iald (pc := 12) dX6_isDeadlocked_12 (LM_a8 hM) (by decide) (by decide) (by decide) ?_
    obtain ⟨hr6, h⟩ := h
    obtain ⟨hA7, hB8⟩ := h
    refine x_if_ne (pc := 13) 27 dX6_isDeadlocked_13 (by decide) hr6 (fun hc => ?_) (fun hc => ?_)
    · have h := hA7 hc
      refine x_iconst (pc := 27) dX6_isDeadlocked_27 ?_
      exact x_zret (pc := 28) dX6_isDeadlocked_28 rfl (by decide) (Nat.le_refl _) (Nat.le_refl _) ⟨_, rfl, rfl, h⟩
    · have h := hB8 hc
      refine x_aload_n (pc := 16) 0 dX6_isDeadlocked_16 rfl ?_
      refine x_Vi (μ := m_X6_isDeadlocked) (pc := 17) dX6_isDeadlocked_17 h k_X6_hasCycle ml_X6_220 ⟨Nat.le_of_ble_eq_true rfl, Nat.le_of_ble_eq_true rfl⟩ ⟨rfl, rfl⟩ ⟨Nat.zero_le _, Nat.zero_le _⟩ rfl (LM_ob hM) rfl (Nat.le_of_ble_eq_true rfl) _ rfl (fun z9 I10 h => ?_)
      obtain ⟨hr11, h⟩ := h
      obtain ⟨hA12, hB13⟩ := h
      refine x_if_eq (pc := 20) 27 dX6_isDeadlocked_20 (by decide) hr11 (fun hc => ?_) (fun hc => ?_)
      · have h := hA12 hc
        refine x_iconst (pc := 27) dX6_isDeadlocked_27 ?_
        exact x_zret (pc := 28) dX6_isDeadlocked_28 rfl (by decide) (Nat.le_refl _) (Nat.le_refl _) ⟨_, rfl, rfl, h⟩
      · have h := hB13 hc
        refine x_iconst (pc := 23) dX6_isDeadlocked_23 ?_
        refine x_goto (pc := 24) 28 dX6_isDeadlocked_24 (by decide) ?_
        exact x_zret (pc := 28) dX6_isDeadlocked_28 rfl (by decide) (Nat.le_refl _) (Nat.le_refl _) ⟨_, rfl, rfl, h⟩
set_option maxRecDepth 100000 in
set_option maxHeartbeats 4000000 in
theorem t_X6_completionOf_0 {Γ : GG} {P : MP} {I : MM} {R : Int → MM → Prop} {x1 : Int} (hM : LM Γ P)
    (h : (Cl Γ m_X6_job [vI x1] P I (ri P (fun (z1 : Int) (I2 : MM) => (0 ≤ (z1 + 3)) ∧ ((z1 + 3) < 1655) ∧ (∀ x5 : Int, x5 = (((6 * x1) + (I2 3 ((z1 + 3)).toNat)) - 1) → (0 ≤ x5) ∧ (x5 < 36) ∧ (Cl Γ m_X6_durationOf [vR 1, vI x5] P I2 (ri P (fun (z8 : Int) (I9 : MM) => R ((I2 9 (x5).toNat) + z8) I9)))))))) :
    XM Γ m_X6_completionOf 0 0 0 [(0, vR 1), (1, vI x1)] [] P I (ri P R) := by
  refine x_bipush (pc := 0) dX6_completionOf_0 rfl ?_
  refine x_iload_n (pc := 2) 1 dX6_completionOf_2 rfl ?_
  refine x_imul (pc := 3) dX6_completionOf_3 ?_
  refine x_aload_n (pc := 4) 0 dX6_completionOf_4 rfl ?_
  refine x_getP (pc := 5) dX6_completionOf_5 FC6 8 (by decide) rfl fl_X6_17 (LM_ob hM) (LM_p8 hM) ?_
  refine x_iload_n (pc := 8) 1 dX6_completionOf_8 rfl ?_
  refine x_Si (μ := m_X6_completionOf) (pc := 9) dX6_completionOf_9 h k_X6_job ml_X6_147 ⟨Nat.le_of_ble_eq_true rfl, Nat.le_of_ble_eq_true rfl⟩ ⟨rfl, rfl⟩ ⟨Nat.zero_le _, Nat.zero_le _⟩ rfl (Nat.le_of_ble_eq_true rfl) _ rfl (fun z1 I2 h => ?_)
  refine x_iconst (pc := 12) dX6_completionOf_12 ?_
  refine x_iadd (pc := 13) dX6_completionOf_13 ?_
  obtain ⟨hv3, h⟩ := h
  obtain ⟨hv4, h⟩ := h
  refine x_iald (pc := 14) dX6_completionOf_14 (LM_a8 hM) hv3 hv4 (by decide) ?_
  refine x_iadd (pc := 15) dX6_completionOf_15 ?_
  refine x_iconst (pc := 16) dX6_completionOf_16 ?_
  refine x_isub (pc := 17) dX6_completionOf_17 ?_
  refine x_nmT (fun x5 ex5 => ?_)
  have h := h x5 ex5
  refine x_istore_n (pc := 18) (al' := [(0, vR 1), (1, vI x1), (2, vI x5)]) dX6_completionOf_18 rfl rfl (by decide) ?_
  refine x_aload_n (pc := 19) 0 dX6_completionOf_19 rfl ?_
  refine x_getP (pc := 20) dX6_completionOf_20 FC6 18 (by decide) rfl fl_X6_37 (LM_ob hM) (LM_p18 hM) ?_
  refine x_iload_n (pc := 23) 2 dX6_completionOf_23 rfl ?_
  obtain ⟨hv6, h⟩ := h
  obtain ⟨hv7, h⟩ := h
  refine x_iald (pc := 24) dX6_completionOf_24 (LM_a18 hM) hv6 hv7 (by decide) ?_
  refine x_aload_n (pc := 25) 0 dX6_completionOf_25 rfl ?_
  refine x_iload_n (pc := 26) 2 dX6_completionOf_26 rfl ?_
  refine x_Vi (μ := m_X6_completionOf) (pc := 27) dX6_completionOf_27 h k_X6_durationOf ml_X6_202 ⟨Nat.le_of_ble_eq_true rfl, Nat.le_of_ble_eq_true rfl⟩ ⟨rfl, rfl⟩ ⟨Nat.zero_le _, Nat.zero_le _⟩ rfl (LM_ob hM) rfl (Nat.le_of_ble_eq_true rfl) _ rfl (fun z8 I9 h => ?_)
  refine x_iadd (pc := 30) dX6_completionOf_30 ?_
  exact x_iret (pc := 31) dX6_completionOf_31 rfl (Nat.le_refl _) (Nat.le_refl _) ⟨_, rfl, rfl, h⟩
set_option maxRecDepth 100000 in
set_option maxHeartbeats 4000000 in
theorem t_X6_makespanOf_0 {Γ : GG} {P : MP} {I : MM} {R : Int → MM → Prop} (hM : LM Γ P)
    (h : XM Γ m_X6_makespanOf 0 0 4 [(0, vR 1), (1, vI 0), (2, vI 0)] [] P I (ri P R)) :
    XM Γ m_X6_makespanOf 0 0 0 [(0, vR 1)] [] P I (ri P R) := by
  refine x_iconst (pc := 0) dX6_makespanOf_0 ?_
  refine x_istore_n (pc := 1) (al' := [(0, vR 1), (1, vI 0)]) dX6_makespanOf_1 rfl rfl (by decide) ?_
  refine x_iconst (pc := 2) dX6_makespanOf_2 ?_
  refine x_istore_n (pc := 3) (al' := [(0, vR 1), (1, vI 0), (2, vI 0)]) dX6_makespanOf_3 rfl rfl (by decide) ?_
  exact x_sub [0, 1, 2] rfl h
set_option maxRecDepth 100000 in
set_option maxHeartbeats 4000000 in
theorem t_X6_makespanOf_4 {Γ : GG} {P : MP} {I : MM} {R : Int → MM → Prop} {x1 x2 : Int} (hM : LM Γ P)
    (h : (inR x2) ∧ (inR (I 3 2)) ∧ (((I 3 2) ≤ x2 → R x1 I) ∧ (¬ (I 3 2) ≤ x2 → (Cl Γ m_X6_completionOf [vR 1, vI x2] P I (ri P (fun (z5 : Int) (I6 : MM) => (Cl Γ m_X6_max [vI x1, vI z5] P I6 (ri P (fun (z7 : Int) (I8 : MM) => XM Γ m_X6_makespanOf 0 0 4 [(0, vR 1), (1, vI z7), (2, vI (x2 + 1))] [] P I8 (ri P R)))))))))) :
    XM Γ m_X6_makespanOf 0 0 4 [(0, vR 1), (1, vI x1), (2, vI x2)] [] P I (ri P R) := by
  refine x_iload_n (pc := 4) 2 dX6_makespanOf_4 rfl ?_
  refine x_aload_n (pc := 5) 0 dX6_makespanOf_5 rfl ?_
  refine x_getP (pc := 6) dX6_makespanOf_6 FC6 8 (by decide) rfl fl_X6_17 (LM_ob hM) (LM_p8 hM) ?_
  refine x_iconst (pc := 9) dX6_makespanOf_9 ?_
  refine x_iald (pc := 10) dX6_makespanOf_10 (LM_a8 hM) (by decide) (by decide) (by decide) ?_
  obtain ⟨hr1, h⟩ := h
  obtain ⟨hr2, h⟩ := h
  obtain ⟨hA3, hB4⟩ := h
  refine x_icmp_ge (pc := 11) 30 dX6_makespanOf_11 (by decide) hr1 hr2 (fun hc => ?_) (fun hc => ?_)
  · have h := hA3 hc
    refine x_iload_n (pc := 30) 1 dX6_makespanOf_30 rfl ?_
    exact x_iret (pc := 31) dX6_makespanOf_31 rfl (Nat.le_refl _) (Nat.le_refl _) ⟨_, rfl, rfl, h⟩
  · have h := hB4 hc
    refine x_iload_n (pc := 14) 1 dX6_makespanOf_14 rfl ?_
    refine x_aload_n (pc := 15) 0 dX6_makespanOf_15 rfl ?_
    refine x_iload_n (pc := 16) 2 dX6_makespanOf_16 rfl ?_
    refine x_Vi (μ := m_X6_makespanOf) (pc := 17) dX6_makespanOf_17 h k_X6_completionOf ml_X6_223 ⟨Nat.le_of_ble_eq_true rfl, Nat.le_of_ble_eq_true rfl⟩ ⟨rfl, rfl⟩ ⟨Nat.zero_le _, Nat.zero_le _⟩ rfl (LM_ob hM) rfl (Nat.le_of_ble_eq_true rfl) _ rfl (fun z5 I6 h => ?_)
    refine x_Si (μ := m_X6_makespanOf) (pc := 20) dX6_makespanOf_20 h k_X6_max ml_X6_205 ⟨Nat.le_of_ble_eq_true rfl, Nat.le_of_ble_eq_true rfl⟩ ⟨rfl, rfl⟩ ⟨Nat.zero_le _, Nat.zero_le _⟩ rfl (Nat.le_of_ble_eq_true rfl) _ rfl (fun z7 I8 h => ?_)
    refine x_istore_n (pc := 23) (al' := [(0, vR 1), (1, vI z7), (2, vI x2)]) dX6_makespanOf_23 rfl rfl (by decide) ?_
    refine x_iinc (pc := 24) (al' := [(0, vR 1), (1, vI z7), (2, vI (x2 + 1))]) 2 dX6_makespanOf_24 rfl rfl rfl (by decide) ?_
    refine x_goto (pc := 27) 4 dX6_makespanOf_27 (by decide) ?_
    exact x_sub [0, 1, 2] rfl h
set_option maxRecDepth 100000 in
set_option maxHeartbeats 4000000 in
theorem t_X6_limited_0 {Γ : GG} {P : MP} {I : MM} {R : Int → MM → Prop} {x0 : Int} 
    (h : (inL x0) ∧ (((lc x0 1000000) ≤ 0 → ((0 ≤ (lc x0 (-1000000)) → R x0 I) ∧ (¬ 0 ≤ (lc x0 (-1000000)) → R (-1000000) I))) ∧ (¬ (lc x0 1000000) ≤ 0 → R 1000000 I))) :
    XM Γ m_X6_limited 0 0 0 [(0, vL x0)] [] P I (rl P R) := by
  refine x_lload_n (pc := 0) 0 dX6_limited_0 rfl ?_
  refine x_ldc2 (pc := 1) (1000000) dX6_limited_1 kc_X6_226 ?_
  obtain ⟨hr1, h⟩ := h
  refine x_lcmp (pc := 4) dX6_limited_4 hr1 ⟨by decide, by decide⟩ ?_
  obtain ⟨hA2, hB3⟩ := h
  refine x_if_le (pc := 5) 14 dX6_limited_5 (by decide) inR_lc (fun hc => ?_) (fun hc => ?_)
  · have h := hA2 hc
    refine x_lload_n (pc := 14) 0 dX6_limited_14 rfl ?_
    refine x_ldc2 (pc := 15) (-1000000) dX6_limited_15 kc_X6_228 ?_
    refine x_lcmp (pc := 18) dX6_limited_18 hr1 ⟨by decide, by decide⟩ ?_
    obtain ⟨hA4, hB5⟩ := h
    refine x_if_ge (pc := 19) 28 dX6_limited_19 (by decide) inR_lc (fun hc => ?_) (fun hc => ?_)
    · have h := hA4 hc
      refine x_lload_n (pc := 28) 0 dX6_limited_28 rfl ?_
      exact x_lret (pc := 29) dX6_limited_29 rfl (Nat.le_refl _) (Nat.le_refl _) ⟨_, rfl, rfl, h⟩
    · have h := hB5 hc
      refine x_ldc2 (pc := 22) (-1000000) dX6_limited_22 kc_X6_228 ?_
      refine x_goto (pc := 25) 29 dX6_limited_25 (by decide) ?_
      exact x_lret (pc := 29) dX6_limited_29 rfl (Nat.le_refl _) (Nat.le_refl _) ⟨_, rfl, rfl, h⟩
  · have h := hB3 hc
    refine x_ldc2 (pc := 8) (1000000) dX6_limited_8 kc_X6_226 ?_
    refine x_goto (pc := 11) 29 dX6_limited_11 (by decide) ?_
    exact x_lret (pc := 29) dX6_limited_29 rfl (Nat.le_refl _) (Nat.le_refl _) ⟨_, rfl, rfl, h⟩
set_option maxRecDepth 100000 in
set_option maxHeartbeats 4000000 in
theorem t_X6_operate_0 {Γ : GG} {P : MP} {I : MM} {R : Int → MM → Prop} {x0 x1 x3 : Int} 
    (h : (inR x0) ∧ ((x0 ≠ 5 → ((x0 ≠ 2 → ((x0 ≠ 3 → (Cl Γ m_X6_limited [vL (x1 * x3)] P I (rl P (fun (z8 : Int) (I9 : MM) => R z8 I9)))) ∧ (x0 = 3 → (Cl Γ m_X6_limited [vL (x1 - x3)] P I (rl P (fun (z10 : Int) (I11 : MM) => R z10 I11)))))) ∧ (x0 = 2 → (Cl Γ m_X6_limited [vL (x1 + x3)] P I (rl P (fun (z12 : Int) (I13 : MM) => R z12 I13)))))) ∧ (x0 = 5 → (inL x3) ∧ (((lc x3 0) ≠ 0 → (inR x1) ∧ (x3 ≠ 0) ∧ R (Int.tdiv x1 x3) I) ∧ ((lc x3 0) = 0 → R 0 I))))) :
    XM Γ m_X6_operate 0 0 0 [(0, vI x0), (1, vL x1), (3, vL x3)] [] P I (rl P R) := by
  refine x_iload_n (pc := 0) 0 dX6_operate_0 rfl ?_
  refine x_iconst (pc := 1) dX6_operate_1 ?_
  obtain ⟨hr1, h⟩ := h
  obtain ⟨hA2, hB3⟩ := h
  refine x_icmp_ne (pc := 2) 19 dX6_operate_2 (by decide) hr1 ⟨by decide, by decide⟩ (fun hc => ?_) (fun hc => ?_)
  · have h := hA2 hc
    refine x_iload_n (pc := 19) 0 dX6_operate_19 rfl ?_
    refine x_iconst (pc := 20) dX6_operate_20 ?_
    obtain ⟨hA4, hB5⟩ := h
    refine x_icmp_ne (pc := 21) 30 dX6_operate_21 (by decide) hr1 ⟨by decide, by decide⟩ (fun hc => ?_) (fun hc => ?_)
    · have h := hA4 hc
      refine x_iload_n (pc := 30) 0 dX6_operate_30 rfl ?_
      refine x_iconst (pc := 31) dX6_operate_31 ?_
      obtain ⟨hA6, hB7⟩ := h
      refine x_icmp_ne (pc := 32) 41 dX6_operate_32 (by decide) hr1 ⟨by decide, by decide⟩ (fun hc => ?_) (fun hc => ?_)
      · have h := hA6 hc
        refine x_lload_n (pc := 41) 1 dX6_operate_41 rfl ?_
        refine x_lload_n (pc := 42) 2 dX6_operate_42 rfl ?_
        refine x_lmul (pc := 43) dX6_operate_43 ?_
        refine x_Sl (μ := m_X6_operate) (pc := 44) dX6_operate_44 h k_X6_limited ml_X6_230 ⟨Nat.le_of_ble_eq_true rfl, Nat.le_of_ble_eq_true rfl⟩ ⟨rfl, rfl⟩ ⟨Nat.zero_le _, Nat.zero_le _⟩ rfl (Nat.le_of_ble_eq_true rfl) _ rfl (fun z8 I9 h => ?_)
        exact x_lret (pc := 47) dX6_operate_47 rfl (Nat.le_refl _) (Nat.le_refl _) ⟨_, rfl, rfl, h⟩
      · have h := hB7 hc
        refine x_lload_n (pc := 35) 1 dX6_operate_35 rfl ?_
        refine x_lload_n (pc := 36) 2 dX6_operate_36 rfl ?_
        refine x_lsub (pc := 37) dX6_operate_37 ?_
        refine x_goto (pc := 38) 44 dX6_operate_38 (by decide) ?_
        refine x_Sl (μ := m_X6_operate) (pc := 44) dX6_operate_44 h k_X6_limited ml_X6_230 ⟨Nat.le_of_ble_eq_true rfl, Nat.le_of_ble_eq_true rfl⟩ ⟨rfl, rfl⟩ ⟨Nat.zero_le _, Nat.zero_le _⟩ rfl (Nat.le_of_ble_eq_true rfl) _ rfl (fun z10 I11 h => ?_)
        exact x_lret (pc := 47) dX6_operate_47 rfl (Nat.le_refl _) (Nat.le_refl _) ⟨_, rfl, rfl, h⟩
    · have h := hB5 hc
      refine x_lload_n (pc := 24) 1 dX6_operate_24 rfl ?_
      refine x_lload_n (pc := 25) 2 dX6_operate_25 rfl ?_
      refine x_ladd (pc := 26) dX6_operate_26 ?_
      refine x_goto (pc := 27) 44 dX6_operate_27 (by decide) ?_
      refine x_Sl (μ := m_X6_operate) (pc := 44) dX6_operate_44 h k_X6_limited ml_X6_230 ⟨Nat.le_of_ble_eq_true rfl, Nat.le_of_ble_eq_true rfl⟩ ⟨rfl, rfl⟩ ⟨Nat.zero_le _, Nat.zero_le _⟩ rfl (Nat.le_of_ble_eq_true rfl) _ rfl (fun z12 I13 h => ?_)
      exact x_lret (pc := 47) dX6_operate_47 rfl (Nat.le_refl _) (Nat.le_refl _) ⟨_, rfl, rfl, h⟩
  · have h := hB3 hc
    refine x_lload_n (pc := 5) 2 dX6_operate_5 rfl ?_
    refine x_lconst (pc := 6) 0 dX6_operate_6 rfl ?_
    obtain ⟨hr14, h⟩ := h
    refine x_lcmp (pc := 7) dX6_operate_7 hr14 ⟨by decide, by decide⟩ ?_
    obtain ⟨hA15, hB16⟩ := h
    refine x_if_ne (pc := 8) 15 dX6_operate_8 (by decide) inR_lc (fun hc => ?_) (fun hc => ?_)
    · have h := hA15 hc
      refine x_lload_n (pc := 15) 1 dX6_operate_15 rfl ?_
      refine x_lload_n (pc := 16) 2 dX6_operate_16 rfl ?_
      obtain ⟨hr17, h⟩ := h
      obtain ⟨hv18, h⟩ := h
      refine x_ldiv (pc := 17) dX6_operate_17 hr17 hr14 hv18 ?_
      exact x_lret (pc := 18) dX6_operate_18 rfl (Nat.le_refl _) (Nat.le_refl _) ⟨_, rfl, rfl, h⟩
    · have h := hB16 hc
      refine x_lconst (pc := 11) 0 dX6_operate_11 rfl ?_
      refine x_goto (pc := 12) 18 dX6_operate_12 (by decide) ?_
      exact x_lret (pc := 18) dX6_operate_18 rfl (Nat.le_refl _) (Nat.le_refl _) ⟨_, rfl, rfl, h⟩
