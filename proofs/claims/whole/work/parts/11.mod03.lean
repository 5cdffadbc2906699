set_option maxRecDepth 100000 in
set_option maxHeartbeats 4000000 in
theorem t_X6_sum_0 {Γ : GG} {P : MP} {I : MM} {R : MM → Prop} {d : Nat} (hM : LM Γ P)
    (h : (Cl Γ (m_X6_term d) [vR 1] P I (rv P (fun (I1 : MM) => XM Γ (m_X6_sum d) 0 0 4 [(0, vR 1)] [] P I1 (rv P R))))) :
    XM Γ (m_X6_sum d) 0 0 0 [(0, vR 1)] [] P I (rv P R) := by
  refine x_aload_n (pc := 0) 0 dX6_sum_0 rfl ?_
  refine x_Vv (μ := (m_X6_sum d)) (pc := 1) dX6_sum_1 h k_X6_term ml_X6_141 ⟨by show (3 * d + 9) + 1 ≤ (3 * d + 10); omega, by show 8 + (2 + 11) + 40 * (3 * d + 9) ≤ 40 * (3 * d + 10); omega⟩ ⟨rfl, rfl⟩ ⟨Nat.zero_le _, Nat.zero_le _⟩ rfl (LM_ob hM) rfl (Nat.le_of_ble_eq_true rfl) _ rfl (fun I1 h => ?_)
  exact x_sub [0] rfl h
set_option maxRecDepth 100000 in
set_option maxHeartbeats 4000000 in
theorem t_X6_sum_4 {Γ : GG} {P : MP} {I : MM} {R : MM → Prop} {d : Nat} (hM : LM Γ P)
    (h : (Cl Γ m_X6_isGood [vR 1] P I (ri P (fun (z1 : Int) (I2 : MM) => (inR z1) ∧ ((z1 = 0 → R I2) ∧ (¬ z1 = 0 → (Cl Γ m_X6_next [vR 1] P I2 (ri P (fun (z6 : Int) (I7 : MM) => (inR z6) ∧ ((z6 = 43 → (Cl Γ m_X6_next [vR 1] P I7 (ri P (fun (z11 : Int) (I12 : MM) => (inR z11) ∧ ((z11 ≠ 43 → (∀ I16 : MM, I16 = up2 I12 1 4 ((I12 1 4) + 1) → (Cl Γ (m_X6_term d) [vR 1] P I16 (rv P (fun (I17 : MM) => (Cl Γ m_X6_emit [vR 1, vI 3] P I17 (rv P (fun (I18 : MM) => XM Γ (m_X6_sum d) 0 0 4 [(0, vR 1)] [] P I18 (rv P R))))))))) ∧ (z11 = 43 → (∀ I19 : MM, I19 = up2 I12 1 4 ((I12 1 4) + 1) → (Cl Γ (m_X6_term d) [vR 1] P I19 (rv P (fun (I20 : MM) => (Cl Γ m_X6_emit [vR 1, vI 2] P I20 (rv P (fun (I21 : MM) => XM Γ (m_X6_sum d) 0 0 4 [(0, vR 1)] [] P I21 (rv P R)))))))))))))) ∧ (¬ z6 = 43 → (Cl Γ m_X6_next [vR 1] P I7 (ri P (fun (z22 : Int) (I23 : MM) => (inR z22) ∧ ((z22 ≠ 45 → R I23) ∧ (z22 = 45 → (Cl Γ m_X6_next [vR 1] P I23 (ri P (fun (z27 : Int) (I28 : MM) => (inR z27) ∧ ((z27 ≠ 43 → (∀ I32 : MM, I32 = up2 I28 1 4 ((I28 1 4) + 1) → (Cl Γ (m_X6_term d) [vR 1] P I32 (rv P (fun (I33 : MM) => (Cl Γ m_X6_emit [vR 1, vI 3] P I33 (rv P (fun (I34 : MM) => XM Γ (m_X6_sum d) 0 0 4 [(0, vR 1)] [] P I34 (rv P R))))))))) ∧ (z27 = 43 → (∀ I35 : MM, I35 = up2 I28 1 4 ((I28 1 4) + 1) → (Cl Γ (m_X6_term d) [vR 1] P I35 (rv P (fun (I36 : MM) => (Cl Γ m_X6_emit [vR 1, vI 2] P I36 (rv P (fun (I37 : MM) => XM Γ (m_X6_sum d) 0 0 4 [(0, vR 1)] [] P I37 (rv P R))))))))))))))))))))))))))))) :
    XM Γ (m_X6_sum d) 0 0 4 [(0, vR 1)] [] P I (rv P R) := by
  refine x_aload_n (pc := 4) 0 dX6_sum_4 rfl ?_
  refine x_Vi (μ := (m_X6_sum d)) (pc := 5) dX6_sum_5 h k_X6_isGood ml_X6_77 ⟨by show 2 + 1 ≤ (3 * d + 10); omega, by show 8 + (1 + 11) + 80 ≤ 40 * (3 * d + 10); omega⟩ ⟨rfl, rfl⟩ ⟨Nat.zero_le _, Nat.zero_le _⟩ rfl (LM_ob hM) rfl (Nat.le_of_ble_eq_true rfl) _ rfl (fun z1 I2 h => ?_)
  obtain ⟨hr3, h⟩ := h
  obtain ⟨hA4, hB5⟩ := h
  refine x_if_eq (pc := 8) 74 dX6_sum_8 (by decide) hr3 (fun hc => ?_) (fun hc => ?_)
  · have h := hA4 hc
    exact x_vret (pc := 74) dX6_sum_74 rfl (Nat.le_refl _) (Nat.le_refl _) ⟨rfl, rfl, h⟩
  · have h := hB5 hc
    refine x_aload_n (pc := 11) 0 dX6_sum_11 rfl ?_
    refine x_Vi (μ := (m_X6_sum d)) (pc := 12) dX6_sum_12 h k_X6_next ml_X6_81 ⟨by show 3 + 1 ≤ (3 * d + 10); omega, by show 8 + (1 + 11) + 120 ≤ 40 * (3 * d + 10); omega⟩ ⟨rfl, rfl⟩ ⟨Nat.zero_le _, Nat.zero_le _⟩ rfl (LM_ob hM) rfl (Nat.le_of_ble_eq_true rfl) _ rfl (fun z6 I7 h => ?_)
    refine x_bipush (pc := 15) dX6_sum_15 rfl ?_
    obtain ⟨hr8, h⟩ := h
    obtain ⟨hA9, hB10⟩ := h
    refine x_icmp_eq (pc := 17) 29 dX6_sum_17 (by decide) hr8 ⟨by decide, by decide⟩ (fun hc => ?_) (fun hc => ?_)
    · have h := hA9 hc
      refine x_aload_n (pc := 29) 0 dX6_sum_29 rfl ?_
      refine x_Vi (μ := (m_X6_sum d)) (pc := 30) dX6_sum_30 h k_X6_next ml_X6_81 ⟨by show 3 + 1 ≤ (3 * d + 10); omega, by show 8 + (1 + 11) + 120 ≤ 40 * (3 * d + 10); omega⟩ ⟨rfl, rfl⟩ ⟨Nat.zero_le _, Nat.zero_le _⟩ rfl (LM_ob hM) rfl (Nat.le_of_ble_eq_true rfl) _ rfl (fun z11 I12 h => ?_)
      refine x_bipush (pc := 33) dX6_sum_33 rfl ?_
      obtain ⟨hr13, h⟩ := h
      obtain ⟨hA14, hB15⟩ := h
      refine x_icmp_ne (pc := 35) 42 dX6_sum_35 (by decide) hr13 ⟨by decide, by decide⟩ (fun hc => ?_) (fun hc => ?_)
      · have h := hA14 hc
        refine x_iconst (pc := 42) dX6_sum_42 ?_
        refine x_istore_n (pc := 43) (al' := [(0, vR 1), (1, vI 0)]) dX6_sum_43 rfl rfl (Nat.le_of_ble_eq_true rfl) ?_
        refine x_aload_n (pc := 44) 0 dX6_sum_44 rfl ?_
        refine x_dup (pc := 45) dX6_sum_45 rfl ?_
        refine x_getI (pc := 46) dX6_sum_46 FC6 4 (by decide) rfl fl_X6_60 (LM_ob hM) ?_
        refine x_iconst (pc := 49) dX6_sum_49 ?_
        refine x_iadd (pc := 50) dX6_sum_50 ?_
        refine x_putI (pc := 51) dX6_sum_51 FC6 4 (by decide) rfl rfl fl_X6_60 (LM_ob hM) ?_
        refine x_nmI (fun I16 eI16 => ?_)
        have h := h I16 eI16
        refine x_aload_n (pc := 54) 0 dX6_sum_54 rfl ?_
        refine x_Vv (μ := (m_X6_sum d)) (pc := 55) dX6_sum_55 h k_X6_term ml_X6_141 ⟨by show (3 * d + 9) + 1 ≤ (3 * d + 10); omega, by show 8 + (2 + 11) + 40 * (3 * d + 9) ≤ 40 * (3 * d + 10); omega⟩ ⟨rfl, rfl⟩ ⟨Nat.zero_le _, Nat.zero_le _⟩ rfl (LM_ob hM) rfl (Nat.le_of_ble_eq_true rfl) _ rfl (fun I17 h => ?_)
        refine x_aload_n (pc := 58) 0 dX6_sum_58 rfl ?_
        refine x_iload_n (pc := 59) 1 dX6_sum_59 rfl ?_
        refine x_if_eq (pc := 60) 67 dX6_sum_60 (by decide) ⟨by decide, by decide⟩ (fun hc => ?_) (fun hc => absurd hc (by decide))
        refine x_iconst (pc := 67) dX6_sum_67 ?_
        refine x_Vv (μ := (m_X6_sum d)) (pc := 68) dX6_sum_68 h k_X6_emit ml_X6_135 ⟨by show 3 + 1 ≤ (3 * d + 10); omega, by show 8 + (2 + 11) + 120 ≤ 40 * (3 * d + 10); omega⟩ ⟨rfl, rfl⟩ ⟨Nat.zero_le _, Nat.zero_le _⟩ rfl (LM_ob hM) rfl (Nat.le_of_ble_eq_true rfl) _ rfl (fun I18 h => ?_)
        refine x_goto (pc := 71) 4 dX6_sum_71 (by decide) ?_
        exact x_sub [0] rfl h
      · have h := hB15 hc
        refine x_iconst (pc := 38) dX6_sum_38 ?_
        refine x_goto (pc := 39) 43 dX6_sum_39 (by decide) ?_
        refine x_istore_n (pc := 43) (al' := [(0, vR 1), (1, vI 1)]) dX6_sum_43 rfl rfl (Nat.le_of_ble_eq_true rfl) ?_
        refine x_aload_n (pc := 44) 0 dX6_sum_44 rfl ?_
        refine x_dup (pc := 45) dX6_sum_45 rfl ?_
        refine x_getI (pc := 46) dX6_sum_46 FC6 4 (by decide) rfl fl_X6_60 (LM_ob hM) ?_
        refine x_iconst (pc := 49) dX6_sum_49 ?_
        refine x_iadd (pc := 50) dX6_sum_50 ?_
        refine x_putI (pc := 51) dX6_sum_51 FC6 4 (by decide) rfl rfl fl_X6_60 (LM_ob hM) ?_
        refine x_nmI (fun I19 eI19 => ?_)
        have h := h I19 eI19
        refine x_aload_n (pc := 54) 0 dX6_sum_54 rfl ?_
        refine x_Vv (μ := (m_X6_sum d)) (pc := 55) dX6_sum_55 h k_X6_term ml_X6_141 ⟨by show (3 * d + 9) + 1 ≤ (3 * d + 10); omega, by show 8 + (2 + 11) + 40 * (3 * d + 9) ≤ 40 * (3 * d + 10); omega⟩ ⟨rfl, rfl⟩ ⟨Nat.zero_le _, Nat.zero_le _⟩ rfl (LM_ob hM) rfl (Nat.le_of_ble_eq_true rfl) _ rfl (fun I20 h => ?_)
        refine x_aload_n (pc := 58) 0 dX6_sum_58 rfl ?_
        refine x_iload_n (pc := 59) 1 dX6_sum_59 rfl ?_
        refine x_if_eq (pc := 60) 67 dX6_sum_60 (by decide) ⟨by decide, by decide⟩ (fun hc => absurd hc (by decide)) (fun hc => ?_)
        refine x_iconst (pc := 63) dX6_sum_63 ?_
        refine x_goto (pc := 64) 68 dX6_sum_64 (by decide) ?_
        refine x_Vv (μ := (m_X6_sum d)) (pc := 68) dX6_sum_68 h k_X6_emit ml_X6_135 ⟨by show 3 + 1 ≤ (3 * d + 10); omega, by show 8 + (2 + 11) + 120 ≤ 40 * (3 * d + 10); omega⟩ ⟨rfl, rfl⟩ ⟨Nat.zero_le _, Nat.zero_le _⟩ rfl (LM_ob hM) rfl (Nat.le_of_ble_eq_true rfl) _ rfl (fun I21 h => ?_)
        refine x_goto (pc := 71) 4 dX6_sum_71 (by decide) ?_
        exact x_sub [0] rfl h
    · have h := hB10 hc
      refine x_aload_n (pc := 20) 0 dX6_sum_20 rfl ?_
      refine x_Vi (μ := (m_X6_sum d)) (pc := 21) dX6_sum_21 h k_X6_next ml_X6_81 ⟨by show 3 + 1 ≤ (3 * d + 10); omega, by show 8 + (1 + 11) + 120 ≤ 40 * (3 * d + 10); omega⟩ ⟨rfl, rfl⟩ ⟨Nat.zero_le _, Nat.zero_le _⟩ rfl (LM_ob hM) rfl (Nat.le_of_ble_eq_true rfl) _ rfl (fun z22 I23 h => ?_)
      refine x_bipush (pc := 24) dX6_sum_24 rfl ?_
      obtain ⟨hr24, h⟩ := h
      obtain ⟨hA25, hB26⟩ := h
      refine x_icmp_ne (pc := 26) 74 dX6_sum_26 (by decide) hr24 ⟨by decide, by decide⟩ (fun hc => ?_) (fun hc => ?_)
      · have h := hA25 hc
        exact x_vret (pc := 74) dX6_sum_74 rfl (Nat.le_refl _) (Nat.le_refl _) ⟨rfl, rfl, h⟩
      · have h := hB26 hc
        refine x_aload_n (pc := 29) 0 dX6_sum_29 rfl ?_
        refine x_Vi (μ := (m_X6_sum d)) (pc := 30) dX6_sum_30 h k_X6_next ml_X6_81 ⟨by show 3 + 1 ≤ (3 * d + 10); omega, by show 8 + (1 + 11) + 120 ≤ 40 * (3 * d + 10); omega⟩ ⟨rfl, rfl⟩ ⟨Nat.zero_le _, Nat.zero_le _⟩ rfl (LM_ob hM) rfl (Nat.le_of_ble_eq_true rfl) _ rfl (fun z27 I28 h => ?_)
        refine x_bipush (pc := 33) dX6_sum_33 rfl ?_
        obtain ⟨hr29, h⟩ := h
        obtain ⟨hA30, hB31⟩ := h
        refine x_icmp_ne (pc := 35) 42 dX6_sum_35 (by decide) hr29 ⟨by decide, by decide⟩ (fun hc => ?_) (fun hc => ?_)
        · have h := hA30 hc
          refine x_iconst (pc := 42) dX6_sum_42 ?_
          refine x_istore_n (pc := 43) (al' := [(0, vR 1), (1, vI 0)]) dX6_sum_43 rfl rfl (Nat.le_of_ble_eq_true rfl) ?_
          refine x_aload_n (pc := 44) 0 dX6_sum_44 rfl ?_
          refine x_dup (pc := 45) dX6_sum_45 rfl ?_
          refine x_getI (pc := 46) dX6_sum_46 FC6 4 (by decide) rfl fl_X6_60 (LM_ob hM) ?_
          refine x_iconst (pc := 49) dX6_sum_49 ?_
          refine x_iadd (pc := 50) dX6_sum_50 ?_
          refine x_putI (pc := 51) dX6_sum_51 FC6 4 (by decide) rfl rfl fl_X6_60 (LM_ob hM) ?_
          refine x_nmI (fun I32 eI32 => ?_)
          have h := h I32 eI32
          refine x_aload_n (pc := 54) 0 dX6_sum_54 rfl ?_
          refine x_Vv (μ := (m_X6_sum d)) (pc := 55) dX6_sum_55 h k_X6_term ml_X6_141 ⟨by show (3 * d + 9) + 1 ≤ (3 * d + 10); omega, by show 8 + (2 + 11) + 40 * (3 * d + 9) ≤ 40 * (3 * d + 10); omega⟩ ⟨rfl, rfl⟩ ⟨Nat.zero_le _, Nat.zero_le _⟩ rfl (LM_ob hM) rfl (Nat.le_of_ble_eq_true rfl) _ rfl (fun I33 h => ?_)
          refine x_aload_n (pc := 58) 0 dX6_sum_58 rfl ?_
          refine x_iload_n (pc := 59) 1 dX6_sum_59 rfl ?_
          refine x_if_eq (pc := 60) 67 dX6_sum_60 (by decide) ⟨by decide, by decide⟩ (fun hc => ?_) (fun hc => absurd hc (by decide))
          refine x_iconst (pc := 67) dX6_sum_67 ?_
          refine x_Vv (μ := (m_X6_sum d)) (pc := 68) dX6_sum_68 h k_X6_emit ml_X6_135 ⟨by show 3 + 1 ≤ (3 * d + 10); omega, by show 8 + (2 + 11) + 120 ≤ 40 * (3 * d + 10); omega⟩ ⟨rfl, rfl⟩ ⟨Nat.zero_le _, Nat.zero_le _⟩ rfl (LM_ob hM) rfl (Nat.le_of_ble_eq_true rfl) _ rfl (fun I34 h => ?_)
          refine x_goto (pc := 71) 4 dX6_sum_71 (by decide) ?_
          exact x_sub [0] rfl h
        · have h := hB31 hc
          refine x_iconst (pc := 38) dX6_sum_38 ?_
          refine x_goto (pc := 39) 43 dX6_sum_39 (by decide) ?_
          refine x_istore_n (pc := 43) (al' := [(0, vR 1), (1, vI 1)]) dX6_sum_43 rfl rfl (Nat.le_of_ble_eq_true rfl) ?_
          refine x_aload_n (pc := 44) 0 dX6_sum_44 rfl ?_
          refine x_dup (pc := 45) dX6_sum_45 rfl ?_
          refine x_getI (pc := 46) dX6_sum_46 FC6 4 (by decide) rfl fl_X6_60 (LM_ob hM) ?_
          refine x_iconst (pc := 49) dX6_sum_49 ?_
          refine x_iadd (pc := 50) dX6_sum_50 ?_
          refine x_putI (pc := 51) dX6_sum_51 FC6 4 (by decide) rfl rfl fl_X6_60 (LM_ob hM) ?_
          refine x_nmI (fun I35 eI35 => ?_)
          have h := h I35 eI35
          refine x_aload_n (pc := 54) 0 dX6_sum_54 rfl ?_
          refine x_Vv (μ := (m_X6_sum d)) (pc := 55) dX6_sum_55 h k_X6_term ml_X6_141 ⟨by show (3 * d + 9) + 1 ≤ (3 * d + 10); omega, by show 8 + (2 + 11) + 40 * (3 * d + 9) ≤ 40 * (3 * d + 10); omega⟩ ⟨rfl, rfl⟩ ⟨Nat.zero_le _, Nat.zero_le _⟩ rfl (LM_ob hM) rfl (Nat.le_of_ble_eq_true rfl) _ rfl (fun I36 h => ?_)
          refine x_aload_n (pc := 58) 0 dX6_sum_58 rfl ?_
          refine x_iload_n (pc := 59) 1 dX6_sum_59 rfl ?_
          refine x_if_eq (pc := 60) 67 dX6_sum_60 (by decide) ⟨by decide, by decide⟩ (fun hc => absurd hc (by decide)) (fun hc => ?_)
          refine x_iconst (pc := 63) dX6_sum_63 ?_
          refine x_goto (pc := 64) 68 dX6_sum_64 (by decide) ?_
          refine x_Vv (μ := (m_X6_sum d)) (pc := 68) dX6_sum_68 h k_X6_emit ml_X6_135 ⟨by show 3 + 1 ≤ (3 * d + 10); omega, by show 8 + (2 + 11) + 120 ≤ 40 * (3 * d + 10); omega⟩ ⟨rfl, rfl⟩ ⟨Nat.zero_le _, Nat.zero_le _⟩ rfl (LM_ob hM) rfl (Nat.le_of_ble_eq_true rfl) _ rfl (fun I37 h => ?_)
          refine x_goto (pc := 71) 4 dX6_sum_71 (by decide) ?_
          exact x_sub [0] rfl h
set_option maxRecDepth 100000 in
set_option maxHeartbeats 4000000 in
theorem t_X6_readJob_0 {Γ : GG} {P : MP} {I : MM} {R : MM → Prop} {x1 : Int} (hM : LM Γ P)
    (h : (inR (I 4 2)) ∧ (((I 4 2) ≠ 6 → (Cl Γ m_X6_number [vR 1, vI 0, vI 999] P I (ri P (fun (z4 : Int) (I5 : MM) => (Cl Γ m_X6_number [vR 1, vI 0, vI 9999] P I5 (ri P (fun (z6 : Int) (I7 : MM) => (Cl Γ m_X6_number [vR 1, vI 0, vI 99] P I7 (ri P (fun (z8 : Int) (I9 : MM) => (Cl Γ m_X6_isGood [vR 1] P I9 (ri P (fun (z10 : Int) (I11 : MM) => (inR z10) ∧ ((z10 ≠ 0 → (∀ u15 : Int, u15 = (I11 4 2) → (Cl Γ m_X6_job [vI u15] P I11 (ri P (fun (z16 : Int) (I17 : MM) => (0 ≤ z16) ∧ (z16 < 1655) ∧ (∀ I20 : MM, I20 = up2 I17 4 (z16).toNat z4 → (0 ≤ (z16 + 1)) ∧ ((z16 + 1) < 1655) ∧ (∀ I23 : MM, I23 = up2 I20 4 ((z16 + 1)).toNat z6 → (0 ≤ (z16 + 2)) ∧ ((z16 + 2) < 1655) ∧ (∀ I26 : MM, I26 = up2 I23 4 ((z16 + 2)).toNat z8 → (∀ I27 : MM, I27 = up2 I26 4 2 ((I26 4 2) + 1) → XM Γ m_X6_readJob 0 0 110 [(0, vR 1), (5, vI u15), (6, vI z16), (7, vI 1)] [] P I27 (rv P R)))))))))) ∧ (z10 = 0 → R I11))))))))))))))) ∧ ((I 4 2) = 6 → (Cl Γ m_X6_report [vR 1, vI (-4), vI x1] P I (rv P (fun (I28 : MM) => (Cl Γ m_X6_number [vR 1, vI 0, vI 999] P I28 (ri P (fun (z29 : Int) (I30 : MM) => (Cl Γ m_X6_number [vR 1, vI 0, vI 9999] P I30 (ri P (fun (z31 : Int) (I32 : MM) => (Cl Γ m_X6_number [vR 1, vI 0, vI 99] P I32 (ri P (fun (z33 : Int) (I34 : MM) => (Cl Γ m_X6_isGood [vR 1] P I34 (ri P (fun (z35 : Int) (I36 : MM) => (inR z35) ∧ ((z35 ≠ 0 → (∀ u40 : Int, u40 = (I36 4 2) → (Cl Γ m_X6_job [vI u40] P I36 (ri P (fun (z41 : Int) (I42 : MM) => (0 ≤ z41) ∧ (z41 < 1655) ∧ (∀ I45 : MM, I45 = up2 I42 4 (z41).toNat z29 → (0 ≤ (z41 + 1)) ∧ ((z41 + 1) < 1655) ∧ (∀ I48 : MM, I48 = up2 I45 4 ((z41 + 1)).toNat z31 → (0 ≤ (z41 + 2)) ∧ ((z41 + 2) < 1655) ∧ (∀ I51 : MM, I51 = up2 I48 4 ((z41 + 2)).toNat z33 → (∀ I52 : MM, I52 = up2 I51 4 2 ((I51 4 2) + 1) → XM Γ m_X6_readJob 0 0 110 [(0, vR 1), (5, vI u40), (6, vI z41), (7, vI 1)] [] P I52 (rv P R)))))))))) ∧ (z35 = 0 → R I36)))))))))))))))))))) :
    XM Γ m_X6_readJob 0 0 0 [(0, vR 1), (1, vI x1)] [] P I (rv P R) := by
  refine x_aload_n (pc := 0) 0 dX6_readJob_0 rfl ?_
  refine x_getP (pc := 1) dX6_readJob_1 FC6 9 (by decide) rfl fl_X6_20 (LM_ob hM) (LM_p9 hM) ?_
  refine x_iconst (pc := 4) dX6_readJob_4 ?_
  refine x_iald (pc := 5) dX6_readJob_5 (LM_a9 hM) (by decide) (by decide) (by decide) ?_
  refine x_bipush (pc := 6) dX6_readJob_6 rfl ?_
  obtain ⟨hr1, h⟩ := h
  obtain ⟨hA2, hB3⟩ := h
  refine x_icmp_ne (pc := 8) 18 dX6_readJob_8 (by decide) hr1 ⟨by decide, by decide⟩ (fun hc => ?_) (fun hc => ?_)
  · have h := hA2 hc
    refine x_aload_n (pc := 18) 0 dX6_readJob_18 rfl ?_
    refine x_iconst (pc := 19) dX6_readJob_19 ?_
    refine x_sipush (pc := 20) dX6_readJob_20 rfl ?_
    refine x_Vi (μ := m_X6_readJob) (pc := 23) dX6_readJob_23 h k_X6_number ml_X6_132 ⟨Nat.le_of_ble_eq_true rfl, Nat.le_of_ble_eq_true rfl⟩ ⟨rfl, rfl⟩ ⟨Nat.zero_le _, Nat.zero_le _⟩ rfl (LM_ob hM) rfl (Nat.le_of_ble_eq_true rfl) _ rfl (fun z4 I5 h => ?_)
    refine x_istore_n (pc := 26) (al' := [(0, vR 1), (1, vI x1), (2, vI z4)]) dX6_readJob_26 rfl rfl (Nat.le_of_ble_eq_true rfl) ?_
    refine x_aload_n (pc := 27) 0 dX6_readJob_27 rfl ?_
    refine x_iconst (pc := 28) dX6_readJob_28 ?_
    refine x_sipush (pc := 29) dX6_readJob_29 rfl ?_
    refine x_Vi (μ := m_X6_readJob) (pc := 32) dX6_readJob_32 h k_X6_number ml_X6_132 ⟨Nat.le_of_ble_eq_true rfl, Nat.le_of_ble_eq_true rfl⟩ ⟨rfl, rfl⟩ ⟨Nat.zero_le _, Nat.zero_le _⟩ rfl (LM_ob hM) rfl (Nat.le_of_ble_eq_true rfl) _ rfl (fun z6 I7 h => ?_)
    refine x_istore_n (pc := 35) (al' := [(0, vR 1), (1, vI x1), (2, vI z4), (3, vI z6)]) dX6_readJob_35 rfl rfl (Nat.le_of_ble_eq_true rfl) ?_
    refine x_aload_n (pc := 36) 0 dX6_readJob_36 rfl ?_
    refine x_iconst (pc := 37) dX6_readJob_37 ?_
    refine x_bipush (pc := 38) dX6_readJob_38 rfl ?_
    refine x_Vi (μ := m_X6_readJob) (pc := 40) dX6_readJob_40 h k_X6_number ml_X6_132 ⟨Nat.le_of_ble_eq_true rfl, Nat.le_of_ble_eq_true rfl⟩ ⟨rfl, rfl⟩ ⟨Nat.zero_le _, Nat.zero_le _⟩ rfl (LM_ob hM) rfl (Nat.le_of_ble_eq_true rfl) _ rfl (fun z8 I9 h => ?_)
    refine x_istore (pc := 43) (al' := [(0, vR 1), (1, vI x1), (2, vI z4), (3, vI z6), (4, vI z8)]) dX6_readJob_43 rfl rfl (Nat.le_of_ble_eq_true rfl) ?_
    refine x_aload_n (pc := 45) 0 dX6_readJob_45 rfl ?_
    refine x_Vi (μ := m_X6_readJob) (pc := 46) dX6_readJob_46 h k_X6_isGood ml_X6_77 ⟨Nat.le_of_ble_eq_true rfl, Nat.le_of_ble_eq_true rfl⟩ ⟨rfl, rfl⟩ ⟨Nat.zero_le _, Nat.zero_le _⟩ rfl (LM_ob hM) rfl (Nat.le_of_ble_eq_true rfl) _ rfl (fun z10 I11 h => ?_)
    obtain ⟨hr12, h⟩ := h
    obtain ⟨hA13, hB14⟩ := h
    refine x_if_ne (pc := 49) 53 dX6_readJob_49 (by decide) hr12 (fun hc => ?_) (fun hc => ?_)
    · have h := hA13 hc
      refine x_aload_n (pc := 53) 0 dX6_readJob_53 rfl ?_
      refine x_getP (pc := 54) dX6_readJob_54 FC6 9 (by decide) rfl fl_X6_20 (LM_ob hM) (LM_p9 hM) ?_
      refine x_iconst (pc := 57) dX6_readJob_57 ?_
      refine x_iald (pc := 58) dX6_readJob_58 (LM_a9 hM) (by decide) (by decide) (by decide) ?_
      refine x_nmT (fun u15 eu15 => ?_)
      have h := h u15 eu15
      refine x_istore (pc := 59) (al' := [(0, vR 1), (1, vI x1), (2, vI z4), (3, vI z6), (4, vI z8), (5, vI u15)]) dX6_readJob_59 rfl rfl (Nat.le_of_ble_eq_true rfl) ?_
      refine x_iload (pc := 61) 5 dX6_readJob_61 rfl ?_
      refine x_Si (μ := m_X6_readJob) (pc := 63) dX6_readJob_63 h k_X6_job ml_X6_147 ⟨Nat.le_of_ble_eq_true rfl, Nat.le_of_ble_eq_true rfl⟩ ⟨rfl, rfl⟩ ⟨Nat.zero_le _, Nat.zero_le _⟩ rfl (Nat.le_of_ble_eq_true rfl) _ rfl (fun z16 I17 h => ?_)
      refine x_istore (pc := 66) (al' := [(0, vR 1), (1, vI x1), (2, vI z4), (3, vI z6), (4, vI z8), (5, vI u15), (6, vI z16)]) dX6_readJob_66 rfl rfl (Nat.le_of_ble_eq_true rfl) ?_
      refine x_aload_n (pc := 68) 0 dX6_readJob_68 rfl ?_
      refine x_getP (pc := 69) dX6_readJob_69 FC6 9 (by decide) rfl fl_X6_20 (LM_ob hM) (LM_p9 hM) ?_
      refine x_iload (pc := 72) 6 dX6_readJob_72 rfl ?_
      refine x_iload_n (pc := 74) 2 dX6_readJob_74 rfl ?_
      obtain ⟨hv18, h⟩ := h
      obtain ⟨hv19, h⟩ := h
      refine x_iast (pc := 75) dX6_readJob_75 (LM_a9 hM) hv18 hv19 (by decide) ?_
      refine x_nmI (fun I20 eI20 => ?_)
      have h := h I20 eI20
      refine x_aload_n (pc := 76) 0 dX6_readJob_76 rfl ?_
      refine x_getP (pc := 77) dX6_readJob_77 FC6 9 (by decide) rfl fl_X6_20 (LM_ob hM) (LM_p9 hM) ?_
      refine x_iload (pc := 80) 6 dX6_readJob_80 rfl ?_
      refine x_iconst (pc := 82) dX6_readJob_82 ?_
      refine x_iadd (pc := 83) dX6_readJob_83 ?_
      refine x_iload_n (pc := 84) 3 dX6_readJob_84 rfl ?_
      obtain ⟨hv21, h⟩ := h
      obtain ⟨hv22, h⟩ := h
      refine x_iast (pc := 85) dX6_readJob_85 (LM_a9 hM) hv21 hv22 (by decide) ?_
      refine x_nmI (fun I23 eI23 => ?_)
      have h := h I23 eI23
      refine x_aload_n (pc := 86) 0 dX6_readJob_86 rfl ?_
      refine x_getP (pc := 87) dX6_readJob_87 FC6 9 (by decide) rfl fl_X6_20 (LM_ob hM) (LM_p9 hM) ?_
      refine x_iload (pc := 90) 6 dX6_readJob_90 rfl ?_
      refine x_iconst (pc := 92) dX6_readJob_92 ?_
      refine x_iadd (pc := 93) dX6_readJob_93 ?_
      refine x_iload (pc := 94) 4 dX6_readJob_94 rfl ?_
      obtain ⟨hv24, h⟩ := h
      obtain ⟨hv25, h⟩ := h
      refine x_iast (pc := 96) dX6_readJob_96 (LM_a9 hM) hv24 hv25 (by decide) ?_
      refine x_nmI (fun I26 eI26 => ?_)
      have h := h I26 eI26
      refine x_aload_n (pc := 97) 0 dX6_readJob_97 rfl ?_
      refine x_getP (pc := 98) dX6_readJob_98 FC6 9 (by decide) rfl fl_X6_20 (LM_ob hM) (LM_p9 hM) ?_
      refine x_iconst (pc := 101) dX6_readJob_101 ?_
      refine x_dup2 (pc := 102) dX6_readJob_102 rfl rfl ?_
      refine x_iald (pc := 103) dX6_readJob_103 (LM_a9 hM) (by decide) (by decide) (by decide) ?_
      refine x_iconst (pc := 104) dX6_readJob_104 ?_
      refine x_iadd (pc := 105) dX6_readJob_105 ?_
      refine x_iast (pc := 106) dX6_readJob_106 (LM_a9 hM) (by decide) (by decide) (by decide) ?_
      refine x_nmI (fun I27 eI27 => ?_)
      have h := h I27 eI27
      refine x_iconst (pc := 107) dX6_readJob_107 ?_
      refine x_istore (pc := 108) (al' := [(0, vR 1), (1, vI x1), (2, vI z4), (3, vI z6), (4, vI z8), (5, vI u15), (6, vI z16), (7, vI 1)]) dX6_readJob_108 rfl rfl (Nat.le_of_ble_eq_true rfl) ?_
      exact x_sub [0, 5, 6, 7] rfl h
    · have h := hB14 hc
      exact x_vret (pc := 52) dX6_readJob_52 rfl (Nat.le_refl _) (Nat.le_refl _) ⟨rfl, rfl, h⟩
  · have h := hB3 hc
    refine x_aload_n (pc := 11) 0 dX6_readJob_11 rfl ?_
    refine x_bipush (pc := 12) dX6_readJob_12 rfl ?_
    refine x_iload_n (pc := 14) 1 dX6_readJob_14 rfl ?_
    refine x_Vv (μ := m_X6_readJob) (pc := 15) dX6_readJob_15 h k_X6_report ml_X6_94 ⟨Nat.le_of_ble_eq_true rfl, Nat.le_of_ble_eq_true rfl⟩ ⟨rfl, rfl⟩ ⟨Nat.zero_le _, Nat.zero_le _⟩ rfl (LM_ob hM) rfl (Nat.le_of_ble_eq_true rfl) _ rfl (fun I28 h => ?_)
    refine x_aload_n (pc := 18) 0 dX6_readJob_18 rfl ?_
    refine x_iconst (pc := 19) dX6_readJob_19 ?_
    refine x_sipush (pc := 20) dX6_readJob_20 rfl ?_
    refine x_Vi (μ := m_X6_readJob) (pc := 23) dX6_readJob_23 h k_X6_number ml_X6_132 ⟨Nat.le_of_ble_eq_true rfl, Nat.le_of_ble_eq_true rfl⟩ ⟨rfl, rfl⟩ ⟨Nat.zero_le _, Nat.zero_le _⟩ rfl (LM_ob hM) rfl (Nat.le_of_ble_eq_true rfl) _ rfl (fun z29 I30 h => ?_)
    refine x_istore_n (pc := 26) (al' := [(0, vR 1), (1, vI x1), (2, vI z29)]) dX6_readJob_26 rfl rfl (Nat.le_of_ble_eq_true rfl) ?_
    refine x_aload_n (pc := 27) 0 dX6_readJob_27 rfl ?_
    refine x_iconst (pc := 28) dX6_readJob_28 ?_
    refine x_sipush (pc := 29) dX6_readJob_29 rfl ?_
    refine x_Vi (μ := m_X6_readJob) (pc := 32) dX6_readJob_32 h k_X6_number ml_X6_132 ⟨Nat.le_of_ble_eq_true rfl, Nat.le_of_ble_eq_true rfl⟩ ⟨rfl, rfl⟩ ⟨Nat.zero_le _, Nat.zero_le _⟩ rfl (LM_ob hM) rfl (Nat.le_of_ble_eq_true rfl) _ rfl (fun z31 I32 h => ?_)
    refine x_istore_n (pc := 35) (al' := [(0, vR 1), (1, vI x1), (2, vI z29), (3, vI z31)]) dX6_readJob_35 rfl rfl (Nat.le_of_ble_eq_true rfl) ?_
    refine x_aload_n (pc := 36) 0 dX6_readJob_36 rfl ?_
    refine x_iconst (pc := 37) dX6_readJob_37 ?_
    refine x_bipush (pc := 38) dX6_readJob_38 rfl ?_
    refine x_Vi (μ := m_X6_readJob) (pc := 40) dX6_readJob_40 h k_X6_number ml_X6_132 ⟨Nat.le_of_ble_eq_true rfl, Nat.le_of_ble_eq_true rfl⟩ ⟨rfl, rfl⟩ ⟨Nat.zero_le _, Nat.zero_le _⟩ rfl (LM_ob hM) rfl (Nat.le_of_ble_eq_true rfl) _ rfl (fun z33 I34 h => ?_)
    refine x_istore (pc := 43) (al' := [(0, vR 1), (1, vI x1), (2, vI z29), (3, vI z31), (4, vI z33)]) dX6_readJob_43 rfl rfl (Nat.le_of_ble_eq_true rfl) ?_
    refine x_aload_n (pc := 45) 0 dX6_readJob_45 rfl ?_
    refine x_Vi (μ := m_X6_readJob) (pc := 46) dX6_readJob_46 h k_X6_isGood ml_X6_77 ⟨Nat.le_of_ble_eq_true rfl, Nat.le_of_ble_eq_true rfl⟩ ⟨rfl, rfl⟩ ⟨Nat.zero_le _, Nat.zero_le _⟩ rfl (LM_ob hM) rfl (Nat.le_of_ble_eq_true rfl) _ rfl (fun z35 I36 h => ?_)
    obtain ⟨hr37, h⟩ := h
    obtain ⟨hA38, hB39⟩ := h
    refine x_if_ne (pc := 49) 53 dX6_readJob_49 (by decide) hr37 (fun hc => ?_) (fun hc => ?_)
    · have h := hA38 hc
      refine x_aload_n (pc := 53) 0 dX6_readJob_53 rfl ?_
      refine x_getP (pc := 54) dX6_readJob_54 FC6 9 (by decide) rfl fl_X6_20 (LM_ob hM) (LM_p9 hM) ?_
      refine x_iconst (pc := 57) dX6_readJob_57 ?_
      refine x_iald (pc := 58) dX6_readJob_58 (LM_a9 hM) (by decide) (by decide) (by decide) ?_
      refine x_nmT (fun u40 eu40 => ?_)
      have h := h u40 eu40
      refine x_istore (pc := 59) (al' := [(0, vR 1), (1, vI x1), (2, vI z29), (3, vI z31), (4, vI z33), (5, vI u40)]) dX6_readJob_59 rfl rfl (Nat.le_of_ble_eq_true rfl) ?_
      refine x_iload (pc := 61) 5 dX6_readJob_61 rfl ?_
      refine x_Si (μ := m_X6_readJob) (pc := 63) dX6_readJob_63 h k_X6_job ml_X6_147 ⟨Nat.le_of_ble_eq_true rfl, Nat.le_of_ble_eq_true rfl⟩ ⟨rfl, rfl⟩ ⟨Nat.zero_le _, Nat.zero_le _⟩ rfl (Nat.le_of_ble_eq_true rfl) _ rfl (fun z41 I42 h => ?_)
      refine x_istore (pc := 66) (al' := [(0, vR 1), (1, vI x1), (2, vI z29), (3, vI z31), (4, vI z33), (5, vI u40), (6, vI z41)]) dX6_readJob_66 rfl rfl (Nat.le_of_ble_eq_true rfl) ?_
      refine x_aload_n (pc := 68) 0 dX6_readJob_68 rfl ?_
      refine x_getP (pc := 69) dX6_readJob_69 FC6 9 (by decide) rfl fl_X6_20 (LM_ob hM) (LM_p9 hM) ?_
      refine x_iload (pc := 72) 6 dX6_readJob_72 rfl ?_
      refine x_iload_n (pc := 74) 2 dX6_readJob_74 rfl ?_
      obtain ⟨hv43, h⟩ := h
      obtain ⟨hv44, h⟩ := h
      refine x_iast (pc := 75) dX6_readJob_75 (LM_a9 hM) hv43 hv44 (by decide) ?_
      refine x_nmI (fun I45 eI45 => ?_)
      have h := h I45 eI45
      refine x_aload_n (pc := 76) 0 dX6_readJob_76 rfl ?_
      refine x_getP (pc := 77) dX6_readJob_77 FC6 9 (by decide) rfl fl_X6_20 (LM_ob hM) (LM_p9 hM) ?_
      refine x_iload (pc := 80) 6 dX6_readJob_80 rfl ?_
      refine x_iconst (pc := 82) dX6_readJob_82 ?_
      refine x_iadd (pc := 83) dX6_readJob_83 ?_
      refine x_iload_n (pc := 84) 3 dX6_readJob_84 rfl ?_
      obtain ⟨hv46, h⟩ := h
      obtain ⟨hv47, h⟩ := h
      refine x_iast (pc := 85) dX6_readJob_85 (LM_a9 hM) hv46 hv47 (by decide) ?_
      refine x_nmI (fun I48 eI48 => ?_)
      have h := h I48 eI48
      refine x_aload_n (pc := 86) 0 dX6_readJob_86 rfl ?_
      refine x_getP (pc := 87) dX6_readJob_87 FC6 9 (by decide) rfl fl_X6_20 (LM_ob hM) (LM_p9 hM) ?_
      refine x_iload (pc := 90) 6 dX6_readJob_90 rfl ?_
      refine x_iconst (pc := 92) dX6_readJob_92 ?_
      refine x_iadd (pc := 93) dX6_readJob_93 ?_
      refine x_iload (pc := 94) 4 dX6_readJob_94 rfl ?_
      obtain ⟨hv49, h⟩ := h
      obtain ⟨hv50, h⟩ := h
      refine x_iast (pc := 96) dX6_readJob_96 (LM_a9 hM) hv49 hv50 (by decide) ?_
      refine x_nmI (fun I51 eI51 => ?_)
      have h := h I51 eI51
      refine x_aload_n (pc := 97) 0 dX6_readJob_97 rfl ?_
      refine x_getP (pc := 98) dX6_readJob_98 FC6 9 (by decide) rfl fl_X6_20 (LM_ob hM) (LM_p9 hM) ?_
      refine x_iconst (pc := 101) dX6_readJob_101 ?_
      refine x_dup2 (pc := 102) dX6_readJob_102 rfl rfl ?_
      refine x_iald (pc := 103) dX6_readJob_103 (LM_a9 hM) (by decide) (by decide) (by decide) ?_
      refine x_iconst (pc := 104) dX6_readJob_104 ?_
      refine x_iadd (pc := 105) dX6_readJob_105 ?_
      refine x_iast (pc := 106) dX6_readJob_106 (LM_a9 hM) (by decide) (by decide) (by decide) ?_
      refine x_nmI (fun I52 eI52 => ?_)
      have h := h I52 eI52
      refine x_iconst (pc := 107) dX6_readJob_107 ?_
      refine x_istore (pc := 108) (al' := [(0, vR 1), (1, vI x1), (2, vI z29), (3, vI z31), (4, vI z33), (5, vI u40), (6, vI z41), (7, vI 1)]) dX6_readJob_108 rfl rfl (Nat.le_of_ble_eq_true rfl) ?_
      exact x_sub [0, 5, 6, 7] rfl h
    · have h := hB39 hc
      exact x_vret (pc := 52) dX6_readJob_52 rfl (Nat.le_refl _) (Nat.le_refl _) ⟨rfl, rfl, h⟩
set_option maxRecDepth 100000 in
set_option maxHeartbeats 4000000 in
theorem t_X6_readJob_110 {Γ : GG} {P : MP} {I : MM} {R : MM → Prop} {x5 x6 x7 : Int} (hM : LM Γ P)
    (h : (inR x7) ∧ ((x7 = 0 → R I) ∧ (¬ x7 = 0 → (Cl Γ m_X6_next [vR 1] P I (ri P (fun (z4 : Int) (I5 : MM) => (∀ u6 : Int, u6 = (I5 1 4) → (Cl Γ m_X6_takeWord [vR 1, vR (500 + 5)] P I5 (ri P (fun (z7 : Int) (I8 : MM) => (inR z7) ∧ ((z7 ≠ 0 → (Cl Γ m_X6_readOperation [vR 1, vI x5, vI u6] P I8 (rv P (fun (I12 : MM) => (Cl Γ m_X6_isGood [vR 1] P I12 (ri P (fun (z13 : Int) (I14 : MM) => XM Γ m_X6_readJob 0 0 110 [(0, vR 1), (5, vI x5), (6, vI x6), (7, vI z13)] [] P I14 (rv P R)))))))) ∧ (z7 = 0 → (0 ≤ (x6 + 3)) ∧ ((x6 + 3) < 1655) ∧ (inR (I8 4 ((x6 + 3)).toNat)) ∧ (((I8 4 ((x6 + 3)).toNat) ≠ 0 → R I8) ∧ ((I8 4 ((x6 + 3)).toNat) = 0 → (Cl Γ m_X6_report [vR 1, vI (-2), vI u6] P I8 (rv P (fun (I20 : MM) => R I20))))))))))))))))) :
    XM Γ m_X6_readJob 0 0 110 [(0, vR 1), (5, vI x5), (6, vI x6), (7, vI x7)] [] P I (rv P R) := by
  refine x_iload (pc := 110) 3 dX6_readJob_110 rfl ?_
  obtain ⟨hr1, h⟩ := h
  obtain ⟨hA2, hB3⟩ := h
  refine x_if_eq (pc := 112) 173 dX6_readJob_112 (by decide) hr1 (fun hc => ?_) (fun hc => ?_)
  · have h := hA2 hc
    exact x_vret (pc := 173) dX6_readJob_173 rfl (Nat.le_refl _) (Nat.le_refl _) ⟨rfl, rfl, h⟩
  · have h := hB3 hc
    refine x_aload_n (pc := 115) 0 dX6_readJob_115 rfl ?_
    refine x_Vi (μ := m_X6_readJob) (pc := 116) dX6_readJob_116 h k_X6_next ml_X6_81 ⟨Nat.le_of_ble_eq_true rfl, Nat.le_of_ble_eq_true rfl⟩ ⟨rfl, rfl⟩ ⟨Nat.zero_le _, Nat.zero_le _⟩ rfl (LM_ob hM) rfl (Nat.le_of_ble_eq_true rfl) _ rfl (fun z4 I5 h => ?_)
    refine x_pop (pc := 119) dX6_readJob_119 rfl ?_
    refine x_aload_n (pc := 120) 0 dX6_readJob_120 rfl ?_
    refine x_getI (pc := 121) dX6_readJob_121 FC6 4 (by decide) rfl fl_X6_60 (LM_ob hM) ?_
    refine x_nmT (fun u6 eu6 => ?_)
    have h := h u6 eu6
    refine x_istore (pc := 124) (al' := [(0, vR 1), (5, vI x5), (6, vI x6), (7, vI x7), (8, vI u6)]) dX6_readJob_124 rfl rfl (Nat.le_of_ble_eq_true rfl) ?_
    refine x_aload_n (pc := 126) 0 dX6_readJob_126 rfl ?_
    refine x_ldcS (pc := 127) "op" 5 dX6_readJob_127 oc_X6_150 ?_
    refine x_Vi (μ := m_X6_readJob) (pc := 129) dX6_readJob_129 h k_X6_takeWord ml_X6_122 ⟨Nat.le_of_ble_eq_true rfl, Nat.le_of_ble_eq_true rfl⟩ ⟨rfl, rfl⟩ ⟨Nat.zero_le _, Nat.zero_le _⟩ rfl (LM_ob hM) rfl (Nat.le_of_ble_eq_true rfl) _ rfl (fun z7 I8 h => ?_)
    obtain ⟨hr9, h⟩ := h
    obtain ⟨hA10, hB11⟩ := h
    refine x_if_ne (pc := 132) 156 dX6_readJob_132 (by decide) hr9 (fun hc => ?_) (fun hc => ?_)
    · have h := hA10 hc
      refine x_aload_n (pc := 156) 0 dX6_readJob_156 rfl ?_
      refine x_iload (pc := 157) 1 dX6_readJob_157 rfl ?_
      refine x_iload (pc := 159) 4 dX6_readJob_159 rfl ?_
      refine x_Vv (μ := m_X6_readJob) (pc := 161) dX6_readJob_161 h k_X6_readOperation ml_X6_152 ⟨Nat.le_of_ble_eq_true rfl, Nat.le_of_ble_eq_true rfl⟩ ⟨rfl, rfl⟩ ⟨Nat.zero_le _, Nat.zero_le _⟩ rfl (LM_ob hM) rfl (Nat.le_of_ble_eq_true rfl) _ rfl (fun I12 h => ?_)
      refine x_aload_n (pc := 164) 0 dX6_readJob_164 rfl ?_
      refine x_Vi (μ := m_X6_readJob) (pc := 165) dX6_readJob_165 h k_X6_isGood ml_X6_77 ⟨Nat.le_of_ble_eq_true rfl, Nat.le_of_ble_eq_true rfl⟩ ⟨rfl, rfl⟩ ⟨Nat.zero_le _, Nat.zero_le _⟩ rfl (LM_ob hM) rfl (Nat.le_of_ble_eq_true rfl) _ rfl (fun z13 I14 h => ?_)
      refine x_istore (pc := 168) (al' := [(0, vR 1), (5, vI x5), (6, vI x6), (7, vI z13), (8, vI u6)]) dX6_readJob_168 rfl rfl (Nat.le_of_ble_eq_true rfl) ?_
      refine x_goto (pc := 170) 110 dX6_readJob_170 (by decide) ?_
      exact x_sub [0, 1, 2, 3] rfl h
    · have h := hB11 hc
      refine x_aload_n (pc := 135) 0 dX6_readJob_135 rfl ?_
      refine x_getP (pc := 136) dX6_readJob_136 FC6 9 (by decide) rfl fl_X6_20 (LM_ob hM) (LM_p9 hM) ?_
      refine x_iload (pc := 139) 2 dX6_readJob_139 rfl ?_
      refine x_iconst (pc := 141) dX6_readJob_141 ?_
      refine x_iadd (pc := 142) dX6_readJob_142 ?_
      obtain ⟨hv15, h⟩ := h
      obtain ⟨hv16, h⟩ := h
      refine x_iald (pc := 143) dX6_readJob_143 (LM_a9 hM) hv15 hv16 (by decide) ?_
      obtain ⟨hr17, h⟩ := h
      obtain ⟨hA18, hB19⟩ := h
      refine x_if_ne (pc := 144) 155 dX6_readJob_144 (by decide) hr17 (fun hc => ?_) (fun hc => ?_)
      · have h := hA18 hc
        exact x_vret (pc := 155) dX6_readJob_155 rfl (Nat.le_refl _) (Nat.le_refl _) ⟨rfl, rfl, h⟩
      · have h := hB19 hc
        refine x_aload_n (pc := 147) 0 dX6_readJob_147 rfl ?_
        refine x_bipush (pc := 148) dX6_readJob_148 rfl ?_
        refine x_iload (pc := 150) 4 dX6_readJob_150 rfl ?_
        refine x_Vv (μ := m_X6_readJob) (pc := 152) dX6_readJob_152 h k_X6_report ml_X6_94 ⟨Nat.le_of_ble_eq_true rfl, Nat.le_of_ble_eq_true rfl⟩ ⟨rfl, rfl⟩ ⟨Nat.zero_le _, Nat.zero_le _⟩ rfl (LM_ob hM) rfl (Nat.le_of_ble_eq_true rfl) _ rfl (fun I20 h => ?_)
        exact x_vret (pc := 155) dX6_readJob_155 rfl (Nat.le_refl _) (Nat.le_refl _) ⟨rfl, rfl, h⟩
set_option maxRecDepth 100000 in
set_option maxHeartbeats 4000000 in
theorem t_X6_readOperation_0 {Γ : GG} {P : MP} {I : MM} {R : MM → Prop} {x1 x2 : Int} (hM : LM Γ P)
    (h : (Cl Γ m_X6_job [vI x1] P I (ri P (fun (z1 : Int) (I2 : MM) => (0 ≤ (z1 + 3)) ∧ ((z1 + 3) < 1655) ∧ (∀ u5 : Int, u5 = (I2 4 ((z1 + 3)).toNat) → (inR u5) ∧ ((u5 ≠ 6 → (Cl Γ m_X6_number [vR 1, vI 0, vI ((I2 4 0) - 1)] P I2 (ri P (fun (z9 : Int) (I10 : MM) => XM Γ m_X6_readOperation 0 0 43 [(0, vR 1), (1, vI x1), (3, vI u5), (4, vI z9), (5, vI 0)] [] P I10 (rv P R))))) ∧ (u5 = 6 → (Cl Γ m_X6_report [vR 1, vI (-4), vI x2] P I2 (rv P (fun (I11 : MM) => (Cl Γ m_X6_number [vR 1, vI 0, vI ((I11 4 0) - 1)] P I11 (ri P (fun (z12 : Int) (I13 : MM) => XM Γ m_X6_readOperation 0 0 43 [(0, vR 1), (1, vI x1), (3, vI u5), (4, vI z12), (5, vI 0)] [] P I13 (rv P R)))))))))))))) :
    XM Γ m_X6_readOperation 0 0 0 [(0, vR 1), (1, vI x1), (2, vI x2)] [] P I (rv P R) := by
  refine x_aload_n (pc := 0) 0 dX6_readOperation_0 rfl ?_
  refine x_getP (pc := 1) dX6_readOperation_1 FC6 9 (by decide) rfl fl_X6_20 (LM_ob hM) (LM_p9 hM) ?_
  refine x_iload_n (pc := 4) 1 dX6_readOperation_4 rfl ?_
  refine x_Si (μ := m_X6_readOperation) (pc := 5) dX6_readOperation_5 h k_X6_job ml_X6_147 ⟨Nat.le_of_ble_eq_true rfl, Nat.le_of_ble_eq_true rfl⟩ ⟨rfl, rfl⟩ ⟨Nat.zero_le _, Nat.zero_le _⟩ rfl (Nat.le_of_ble_eq_true rfl) _ rfl (fun z1 I2 h => ?_)
  refine x_iconst (pc := 8) dX6_readOperation_8 ?_
  refine x_iadd (pc := 9) dX6_readOperation_9 ?_
  obtain ⟨hv3, h⟩ := h
  obtain ⟨hv4, h⟩ := h
  refine x_iald (pc := 10) dX6_readOperation_10 (LM_a9 hM) hv3 hv4 (by decide) ?_
  refine x_nmT (fun u5 eu5 => ?_)
  have h := h u5 eu5
  refine x_istore_n (pc := 11) (al' := [(0, vR 1), (1, vI x1), (2, vI x2), (3, vI u5)]) dX6_readOperation_11 rfl rfl (Nat.le_of_ble_eq_true rfl) ?_
  refine x_iload_n (pc := 12) 3 dX6_readOperation_12 rfl ?_
  refine x_bipush (pc := 13) dX6_readOperation_13 rfl ?_
  obtain ⟨hr6, h⟩ := h
  obtain ⟨hA7, hB8⟩ := h
  refine x_icmp_ne (pc := 15) 25 dX6_readOperation_15 (by decide) hr6 ⟨by decide, by decide⟩ (fun hc => ?_) (fun hc => ?_)
  · have h := hA7 hc
    refine x_aload_n (pc := 25) 0 dX6_readOperation_25 rfl ?_
    refine x_iconst (pc := 26) dX6_readOperation_26 ?_
    refine x_aload_n (pc := 27) 0 dX6_readOperation_27 rfl ?_
    refine x_getP (pc := 28) dX6_readOperation_28 FC6 9 (by decide) rfl fl_X6_20 (LM_ob hM) (LM_p9 hM) ?_
    refine x_iconst (pc := 31) dX6_readOperation_31 ?_
    refine x_iald (pc := 32) dX6_readOperation_32 (LM_a9 hM) (by decide) (by decide) (by decide) ?_
    refine x_iconst (pc := 33) dX6_readOperation_33 ?_
    refine x_isub (pc := 34) dX6_readOperation_34 ?_
    refine x_Vi (μ := m_X6_readOperation) (pc := 35) dX6_readOperation_35 h k_X6_number ml_X6_132 ⟨Nat.le_of_ble_eq_true rfl, Nat.le_of_ble_eq_true rfl⟩ ⟨rfl, rfl⟩ ⟨Nat.zero_le _, Nat.zero_le _⟩ rfl (LM_ob hM) rfl (Nat.le_of_ble_eq_true rfl) _ rfl (fun z9 I10 h => ?_)
    refine x_istore (pc := 38) (al' := [(0, vR 1), (1, vI x1), (2, vI x2), (3, vI u5), (4, vI z9)]) dX6_readOperation_38 rfl rfl (Nat.le_of_ble_eq_true rfl) ?_
    refine x_iconst (pc := 40) dX6_readOperation_40 ?_
    refine x_istore (pc := 41) (al' := [(0, vR 1), (1, vI x1), (2, vI x2), (3, vI u5), (4, vI z9), (5, vI 0)]) dX6_readOperation_41 rfl rfl (Nat.le_of_ble_eq_true rfl) ?_
    exact x_sub [0, 1, 3, 4, 5] rfl h
  · have h := hB8 hc
    refine x_aload_n (pc := 18) 0 dX6_readOperation_18 rfl ?_
    refine x_bipush (pc := 19) dX6_readOperation_19 rfl ?_
    refine x_iload_n (pc := 21) 2 dX6_readOperation_21 rfl ?_
    refine x_Vv (μ := m_X6_readOperation) (pc := 22) dX6_readOperation_22 h k_X6_report ml_X6_94 ⟨Nat.le_of_ble_eq_true rfl, Nat.le_of_ble_eq_true rfl⟩ ⟨rfl, rfl⟩ ⟨Nat.zero_le _, Nat.zero_le _⟩ rfl (LM_ob hM) rfl (Nat.le_of_ble_eq_true rfl) _ rfl (fun I11 h => ?_)
    refine x_aload_n (pc := 25) 0 dX6_readOperation_25 rfl ?_
    refine x_iconst (pc := 26) dX6_readOperation_26 ?_
    refine x_aload_n (pc := 27) 0 dX6_readOperation_27 rfl ?_
    refine x_getP (pc := 28) dX6_readOperation_28 FC6 9 (by decide) rfl fl_X6_20 (LM_ob hM) (LM_p9 hM) ?_
    refine x_iconst (pc := 31) dX6_readOperation_31 ?_
    refine x_iald (pc := 32) dX6_readOperation_32 (LM_a9 hM) (by decide) (by decide) (by decide) ?_
    refine x_iconst (pc := 33) dX6_readOperation_33 ?_
    refine x_isub (pc := 34) dX6_readOperation_34 ?_
    refine x_Vi (μ := m_X6_readOperation) (pc := 35) dX6_readOperation_35 h k_X6_number ml_X6_132 ⟨Nat.le_of_ble_eq_true rfl, Nat.le_of_ble_eq_true rfl⟩ ⟨rfl, rfl⟩ ⟨Nat.zero_le _, Nat.zero_le _⟩ rfl (LM_ob hM) rfl (Nat.le_of_ble_eq_true rfl) _ rfl (fun z12 I13 h => ?_)
    refine x_istore (pc := 38) (al' := [(0, vR 1), (1, vI x1), (2, vI x2), (3, vI u5), (4, vI z12)]) dX6_readOperation_38 rfl rfl (Nat.le_of_ble_eq_true rfl) ?_
    refine x_iconst (pc := 40) dX6_readOperation_40 ?_
    refine x_istore (pc := 41) (al' := [(0, vR 1), (1, vI x1), (2, vI x2), (3, vI u5), (4, vI z12), (5, vI 0)]) dX6_readOperation_41 rfl rfl (Nat.le_of_ble_eq_true rfl) ?_
    exact x_sub [0, 1, 3, 4, 5] rfl h
set_option maxRecDepth 100000 in
set_option maxHeartbeats 4000000 in
theorem t_X6_readOperation_43 {Γ : GG} {P : MP} {I : MM} {R : MM → Prop} {x1 x3 x4 x5 : Int} (hM : LM Γ P)
    (h : (inR x5) ∧ (inR x3) ∧ ((x3 ≤ x5 → (Cl Γ m_X6_number [vR 1, vI 1, vI 99] P I (ri P (fun (z5 : Int) (I6 : MM) => (Cl Γ m_X6_isGood [vR 1] P I6 (ri P (fun (z7 : Int) (I8 : MM) => (inR z7) ∧ ((z7 ≠ 0 → (Cl Γ m_X6_operationAt [vI ((6 * x1) + x3)] P I8 (ri P (fun (z12 : Int) (I13 : MM) => (0 ≤ z12) ∧ (z12 < 1655) ∧ (∀ I16 : MM, I16 = up2 I13 4 (z12).toNat x4 → (Cl Γ m_X6_operationAt [vI ((6 * x1) + x3)] P I16 (ri P (fun (z17 : Int) (I18 : MM) => (0 ≤ (z17 + 1)) ∧ ((z17 + 1) < 1655) ∧ (∀ I21 : MM, I21 = up2 I18 4 ((z17 + 1)).toNat z5 → (Cl Γ m_X6_job [vI x1] P I21 (ri P (fun (z22 : Int) (I23 : MM) => (0 ≤ (z22 + 3)) ∧ ((z22 + 3) < 1655) ∧ (∀ I26 : MM, I26 = up2 I23 4 ((z22 + 3)).toNat ((I23 4 ((z22 + 3)).toNat) + 1) → R I26))))))))))))) ∧ (z7 = 0 → R I8))))))))) ∧ (¬ x3 ≤ x5 → (Cl Γ m_X6_isGood [vR 1] P I (ri P (fun (z27 : Int) (I28 : MM) => (inR z27) ∧ ((z27 = 0 → (Cl Γ m_X6_number [vR 1, vI 1, vI 99] P I28 (ri P (fun (z32 : Int) (I33 : MM) => (Cl Γ m_X6_isGood [vR 1] P I33 (ri P (fun (z34 : Int) (I35 : MM) => (inR z34) ∧ ((z34 ≠ 0 → (Cl Γ m_X6_operationAt [vI ((6 * x1) + x3)] P I35 (ri P (fun (z39 : Int) (I40 : MM) => (0 ≤ z39) ∧ (z39 < 1655) ∧ (∀ I43 : MM, I43 = up2 I40 4 (z39).toNat x4 → (Cl Γ m_X6_operationAt [vI ((6 * x1) + x3)] P I43 (ri P (fun (z44 : Int) (I45 : MM) => (0 ≤ (z44 + 1)) ∧ ((z44 + 1) < 1655) ∧ (∀ I48 : MM, I48 = up2 I45 4 ((z44 + 1)).toNat z32 → (Cl Γ m_X6_job [vI x1] P I48 (ri P (fun (z49 : Int) (I50 : MM) => (0 ≤ (z49 + 3)) ∧ ((z49 + 3) < 1655) ∧ (∀ I53 : MM, I53 = up2 I50 4 ((z49 + 3)).toNat ((I50 4 ((z49 + 3)).toNat) + 1) → R I53))))))))))))) ∧ (z34 = 0 → R I35))))))))) ∧ (¬ z27 = 0 → (Cl Γ m_X6_operationAt [vI ((6 * x1) + x5)] P I28 (ri P (fun (z54 : Int) (I55 : MM) => (0 ≤ z54) ∧ (z54 < 1655) ∧ (inR (I55 4 (z54).toNat)) ∧ (inR x4) ∧ (((I55 4 (z54).toNat) ≠ x4 → XM Γ m_X6_readOperation 0 0 43 [(0, vR 1), (1, vI x1), (3, vI x3), (4, vI x4), (5, vI (x5 + 1))] [] P I55 (rv P R)) ∧ ((I55 4 (z54).toNat) = x4 → (Cl Γ m_X6_report [vR 1, vI (-3), vI (I55 1 13)] P I55 (rv P (fun (I62 : MM) => XM Γ m_X6_readOperation 0 0 43 [(0, vR 1), (1, vI x1), (3, vI x3), (4, vI x4), (5, vI (x5 + 1))] [] P I62 (rv P R))))))))))))))))) :
    XM Γ m_X6_readOperation 0 0 43 [(0, vR 1), (1, vI x1), (3, vI x3), (4, vI x4), (5, vI x5)] [] P I (rv P R) := by
  refine x_iload (pc := 43) 4 dX6_readOperation_43 rfl ?_
  refine x_iload_n (pc := 45) 2 dX6_readOperation_45 rfl ?_
  obtain ⟨hr1, h⟩ := h
  obtain ⟨hr2, h⟩ := h
  obtain ⟨hA3, hB4⟩ := h
  refine x_icmp_ge (pc := 46) 92 dX6_readOperation_46 (by decide) hr1 hr2 (fun hc => ?_) (fun hc => ?_)
  · have h := hA3 hc
    refine x_aload_n (pc := 92) 0 dX6_readOperation_92 rfl ?_
    refine x_iconst (pc := 93) dX6_readOperation_93 ?_
    refine x_bipush (pc := 94) dX6_readOperation_94 rfl ?_
    refine x_Vi (μ := m_X6_readOperation) (pc := 96) dX6_readOperation_96 h k_X6_number ml_X6_132 ⟨Nat.le_of_ble_eq_true rfl, Nat.le_of_ble_eq_true rfl⟩ ⟨rfl, rfl⟩ ⟨Nat.zero_le _, Nat.zero_le _⟩ rfl (LM_ob hM) rfl (Nat.le_of_ble_eq_true rfl) _ rfl (fun z5 I6 h => ?_)
    refine x_istore (pc := 99) (al' := [(0, vR 1), (1, vI x1), (3, vI x3), (4, vI x4), (5, vI z5)]) dX6_readOperation_99 rfl rfl (Nat.le_of_ble_eq_true rfl) ?_
    refine x_aload_n (pc := 101) 0 dX6_readOperation_101 rfl ?_
    refine x_Vi (μ := m_X6_readOperation) (pc := 102) dX6_readOperation_102 h k_X6_isGood ml_X6_77 ⟨Nat.le_of_ble_eq_true rfl, Nat.le_of_ble_eq_true rfl⟩ ⟨rfl, rfl⟩ ⟨Nat.zero_le _, Nat.zero_le _⟩ rfl (LM_ob hM) rfl (Nat.le_of_ble_eq_true rfl) _ rfl (fun z7 I8 h => ?_)
    obtain ⟨hr9, h⟩ := h
    obtain ⟨hA10, hB11⟩ := h
    refine x_if_ne (pc := 105) 109 dX6_readOperation_105 (by decide) hr9 (fun hc => ?_) (fun hc => ?_)
    · have h := hA10 hc
      refine x_aload_n (pc := 109) 0 dX6_readOperation_109 rfl ?_
      refine x_getP (pc := 110) dX6_readOperation_110 FC6 9 (by decide) rfl fl_X6_20 (LM_ob hM) (LM_p9 hM) ?_
      refine x_bipush (pc := 113) dX6_readOperation_113 rfl ?_
      refine x_iload_n (pc := 115) 1 dX6_readOperation_115 rfl ?_
      refine x_imul (pc := 116) dX6_readOperation_116 ?_
      refine x_iload_n (pc := 117) 2 dX6_readOperation_117 rfl ?_
      refine x_iadd (pc := 118) dX6_readOperation_118 ?_
      refine x_Si (μ := m_X6_readOperation) (pc := 119) dX6_readOperation_119 h k_X6_operationAt ml_X6_155 ⟨Nat.le_of_ble_eq_true rfl, Nat.le_of_ble_eq_true rfl⟩ ⟨rfl, rfl⟩ ⟨Nat.zero_le _, Nat.zero_le _⟩ rfl (Nat.le_of_ble_eq_true rfl) _ rfl (fun z12 I13 h => ?_)
      refine x_iload (pc := 122) 3 dX6_readOperation_122 rfl ?_
      obtain ⟨hv14, h⟩ := h
      obtain ⟨hv15, h⟩ := h
      refine x_iast (pc := 124) dX6_readOperation_124 (LM_a9 hM) hv14 hv15 (by decide) ?_
      refine x_nmI (fun I16 eI16 => ?_)
      have h := h I16 eI16
      refine x_aload_n (pc := 125) 0 dX6_readOperation_125 rfl ?_
      refine x_getP (pc := 126) dX6_readOperation_126 FC6 9 (by decide) rfl fl_X6_20 (LM_ob hM) (LM_p9 hM) ?_
      refine x_bipush (pc := 129) dX6_readOperation_129 rfl ?_
      refine x_iload_n (pc := 131) 1 dX6_readOperation_131 rfl ?_
      refine x_imul (pc := 132) dX6_readOperation_132 ?_
      refine x_iload_n (pc := 133) 2 dX6_readOperation_133 rfl ?_
      refine x_iadd (pc := 134) dX6_readOperation_134 ?_
      refine x_Si (μ := m_X6_readOperation) (pc := 135) dX6_readOperation_135 h k_X6_operationAt ml_X6_155 ⟨Nat.le_of_ble_eq_true rfl, Nat.le_of_ble_eq_true rfl⟩ ⟨rfl, rfl⟩ ⟨Nat.zero_le _, Nat.zero_le _⟩ rfl (Nat.le_of_ble_eq_true rfl) _ rfl (fun z17 I18 h => ?_)
      refine x_iconst (pc := 138) dX6_readOperation_138 ?_
      refine x_iadd (pc := 139) dX6_readOperation_139 ?_
      refine x_iload (pc := 140) 4 dX6_readOperation_140 rfl ?_
      obtain ⟨hv19, h⟩ := h
      obtain ⟨hv20, h⟩ := h
      refine x_iast (pc := 142) dX6_readOperation_142 (LM_a9 hM) hv19 hv20 (by decide) ?_
      refine x_nmI (fun I21 eI21 => ?_)
      have h := h I21 eI21
      refine x_aload_n (pc := 143) 0 dX6_readOperation_143 rfl ?_
      refine x_getP (pc := 144) dX6_readOperation_144 FC6 9 (by decide) rfl fl_X6_20 (LM_ob hM) (LM_p9 hM) ?_
      refine x_iload_n (pc := 147) 1 dX6_readOperation_147 rfl ?_
      refine x_Si (μ := m_X6_readOperation) (pc := 148) dX6_readOperation_148 h k_X6_job ml_X6_147 ⟨Nat.le_of_ble_eq_true rfl, Nat.le_of_ble_eq_true rfl⟩ ⟨rfl, rfl⟩ ⟨Nat.zero_le _, Nat.zero_le _⟩ rfl (Nat.le_of_ble_eq_true rfl) _ rfl (fun z22 I23 h => ?_)
      refine x_iconst (pc := 151) dX6_readOperation_151 ?_
      refine x_iadd (pc := 152) dX6_readOperation_152 ?_
      refine x_dup2 (pc := 153) dX6_readOperation_153 rfl rfl ?_
      obtain ⟨hv24, h⟩ := h
      obtain ⟨hv25, h⟩ := h
      refine x_iald (pc := 154) dX6_readOperation_154 (LM_a9 hM) hv24 hv25 (by decide) ?_
      refine x_iconst (pc := 155) dX6_readOperation_155 ?_
      refine x_iadd (pc := 156) dX6_readOperation_156 ?_
      refine x_iast (pc := 157) dX6_readOperation_157 (LM_a9 hM) hv24 hv25 (by decide) ?_
      refine x_nmI (fun I26 eI26 => ?_)
      have h := h I26 eI26
      exact x_vret (pc := 158) dX6_readOperation_158 rfl (Nat.le_refl _) (Nat.le_refl _) ⟨rfl, rfl, h⟩
    · have h := hB11 hc
      exact x_vret (pc := 108) dX6_readOperation_108 rfl (Nat.le_refl _) (Nat.le_refl _) ⟨rfl, rfl, h⟩
  · have h := hB4 hc
    refine x_aload_n (pc := 49) 0 dX6_readOperation_49 rfl ?_
    refine x_Vi (μ := m_X6_readOperation) (pc := 50) dX6_readOperation_50 h k_X6_isGood ml_X6_77 ⟨Nat.le_of_ble_eq_true rfl, Nat.le_of_ble_eq_true rfl⟩ ⟨rfl, rfl⟩ ⟨Nat.zero_le _, Nat.zero_le _⟩ rfl (LM_ob hM) rfl (Nat.le_of_ble_eq_true rfl) _ rfl (fun z27 I28 h => ?_)
    obtain ⟨hr29, h⟩ := h
    obtain ⟨hA30, hB31⟩ := h
    refine x_if_eq (pc := 53) 92 dX6_readOperation_53 (by decide) hr29 (fun hc => ?_) (fun hc => ?_)
    · have h := hA30 hc
      refine x_aload_n (pc := 92) 0 dX6_readOperation_92 rfl ?_
      refine x_iconst (pc := 93) dX6_readOperation_93 ?_
      refine x_bipush (pc := 94) dX6_readOperation_94 rfl ?_
      refine x_Vi (μ := m_X6_readOperation) (pc := 96) dX6_readOperation_96 h k_X6_number ml_X6_132 ⟨Nat.le_of_ble_eq_true rfl, Nat.le_of_ble_eq_true rfl⟩ ⟨rfl, rfl⟩ ⟨Nat.zero_le _, Nat.zero_le _⟩ rfl (LM_ob hM) rfl (Nat.le_of_ble_eq_true rfl) _ rfl (fun z32 I33 h => ?_)
      refine x_istore (pc := 99) (al' := [(0, vR 1), (1, vI x1), (3, vI x3), (4, vI x4), (5, vI z32)]) dX6_readOperation_99 rfl rfl (Nat.le_of_ble_eq_true rfl) ?_
      refine x_aload_n (pc := 101) 0 dX6_readOperation_101 rfl ?_
      refine x_Vi (μ := m_X6_readOperation) (pc := 102) dX6_readOperation_102 h k_X6_isGood ml_X6_77 ⟨Nat.le_of_ble_eq_true rfl, Nat.le_of_ble_eq_true rfl⟩ ⟨rfl, rfl⟩ ⟨Nat.zero_le _, Nat.zero_le _⟩ rfl (LM_ob hM) rfl (Nat.le_of_ble_eq_true rfl) _ rfl (fun z34 I35 h => ?_)
      obtain ⟨hr36, h⟩ := h
      obtain ⟨hA37, hB38⟩ := h
      refine x_if_ne (pc := 105) 109 dX6_readOperation_105 (by decide) hr36 (fun hc => ?_) (fun hc => ?_)
      · have h := hA37 hc
        refine x_aload_n (pc := 109) 0 dX6_readOperation_109 rfl ?_
        refine x_getP (pc := 110) dX6_readOperation_110 FC6 9 (by decide) rfl fl_X6_20 (LM_ob hM) (LM_p9 hM) ?_
        refine x_bipush (pc := 113) dX6_readOperation_113 rfl ?_
        refine x_iload_n (pc := 115) 1 dX6_readOperation_115 rfl ?_
        refine x_imul (pc := 116) dX6_readOperation_116 ?_
        refine x_iload_n (pc := 117) 2 dX6_readOperation_117 rfl ?_
        refine x_iadd (pc := 118) dX6_readOperation_118 ?_
        refine x_Si (μ := m_X6_readOperation) (pc := 119) dX6_readOperation_119 h k_X6_operationAt ml_X6_155 ⟨Nat.le_of_ble_eq_true rfl, Nat.le_of_ble_eq_true rfl⟩ ⟨rfl, rfl⟩ ⟨Nat.zero_le _, Nat.zero_le _⟩ rfl (Nat.le_of_ble_eq_true rfl) _ rfl (fun z39 I40 h => ?_)
        refine x_iload (pc := 122) 3 dX6_readOperation_122 rfl ?_
        obtain ⟨hv41, h⟩ := h
        obtain ⟨hv42, h⟩ := h
        refine x_iast (pc := 124) dX6_readOperation_124 (LM_a9 hM) hv41 hv42 (by decide) ?_
        refine x_nmI (fun I43 eI43 => ?_)
        have h := h I43 eI43
        refine x_aload_n (pc := 125) 0 dX6_readOperation_125 rfl ?_
        refine x_getP (pc := 126) dX6_readOperation_126 FC6 9 (by decide) rfl fl_X6_20 (LM_ob hM) (LM_p9 hM) ?_
        refine x_bipush (pc := 129) dX6_readOperation_129 rfl ?_
        refine x_iload_n (pc := 131) 1 dX6_readOperation_131 rfl ?_
        refine x_imul (pc := 132) dX6_readOperation_132 ?_
        refine x_iload_n (pc := 133) 2 dX6_readOperation_133 rfl ?_
        refine x_iadd (pc := 134) dX6_readOperation_134 ?_
        refine x_Si (μ := m_X6_readOperation) (pc := 135) dX6_readOperation_135 h k_X6_operationAt ml_X6_155 ⟨Nat.le_of_ble_eq_true rfl, Nat.le_of_ble_eq_true rfl⟩ ⟨rfl, rfl⟩ ⟨Nat.zero_le _, Nat.zero_le _⟩ rfl (Nat.le_of_ble_eq_true rfl) _ rfl (fun z44 I45 h => ?_)
        refine x_iconst (pc := 138) dX6_readOperation_138 ?_
        refine x_iadd (pc := 139) dX6_readOperation_139 ?_
        refine x_iload (pc := 140) 4 dX6_readOperation_140 rfl ?_
        obtain ⟨hv46, h⟩ := h
        obtain ⟨hv47, h⟩ := h
        refine x_iast (pc := 142) dX6_readOperation_142 (LM_a9 hM) hv46 hv47 (by decide) ?_
        refine x_nmI (fun I48 eI48 => ?_)
        have h := h I48 eI48
        refine x_aload_n (pc := 143) 0 dX6_readOperation_143 rfl ?_
        refine x_getP (pc := 144) dX6_readOperation_144 FC6 9 (by decide) rfl fl_X6_20 (LM_ob hM) (LM_p9 hM) ?_
        refine x_iload_n (pc := 147) 1 dX6_readOperation_147 rfl ?_
        refine x_Si (μ := m_X6_readOperation) (pc := 148) dX6_readOperation_148 h k_X6_job ml_X6_147 ⟨Nat.le_of_ble_eq_true rfl, Nat.le_of_ble_eq_true rfl⟩ ⟨rfl, rfl⟩ ⟨Nat.zero_le _, Nat.zero_le _⟩ rfl (Nat.le_of_ble_eq_true rfl) _ rfl (fun z49 I50 h => ?_)
        refine x_iconst (pc := 151) dX6_readOperation_151 ?_
        refine x_iadd (pc := 152) dX6_readOperation_152 ?_
        refine x_dup2 (pc := 153) dX6_readOperation_153 rfl rfl ?_
        obtain ⟨hv51, h⟩ := h
        obtain ⟨hv52, h⟩ := h
        refine x_iald (pc := 154) dX6_readOperation_154 (LM_a9 hM) hv51 hv52 (by decide) ?_
        refine x_iconst (pc := 155) dX6_readOperation_155 ?_
        refine x_iadd (pc := 156) dX6_readOperation_156 ?_
        refine x_iast (pc := 157) dX6_readOperation_157 (LM_a9 hM) hv51 hv52 (by decide) ?_
        refine x_nmI (fun I53 eI53 => ?_)
        have h := h I53 eI53
        exact x_vret (pc := 158) dX6_readOperation_158 rfl (Nat.le_refl _) (Nat.le_refl _) ⟨rfl, rfl, h⟩
      · have h := hB38 hc
        exact x_vret (pc := 108) dX6_readOperation_108 rfl (Nat.le_refl _) (Nat.le_refl _) ⟨rfl, rfl, h⟩
    · have h := hB31 hc
      refine x_aload_n (pc := 56) 0 dX6_readOperation_56 rfl ?_
      refine x_getP (pc := 57) dX6_readOperation_57 FC6 9 (by decide) rfl fl_X6_20 (LM_ob hM) (LM_p9 hM) ?_
      refine x_bipush (pc := 60) dX6_readOperation_60 rfl ?_
      refine x_iload_n (pc := 62) 1 dX6_readOperation_62 rfl ?_
      refine x_imul (pc := 63) dX6_readOperation_63 ?_
      refine x_iload (pc := 64) 4 dX6_readOperation_64 rfl ?_
      refine x_iadd (pc := 66) dX6_readOperation_66 ?_
      refine x_Si (μ := m_X6_readOperation) (pc := 67) dX6_readOperation_67 h k_X6_operationAt ml_X6_155 ⟨Nat.le_of_ble_eq_true rfl, Nat.le_of_ble_eq_true rfl⟩ ⟨rfl, rfl⟩ ⟨Nat.zero_le _, Nat.zero_le _⟩ rfl (Nat.le_of_ble_eq_true rfl) _ rfl (fun z54 I55 h => ?_)
      obtain ⟨hv56, h⟩ := h
      obtain ⟨hv57, h⟩ := h
      refine x_iald (pc := 70) dX6_readOperation_70 (LM_a9 hM) hv56 hv57 (by decide) ?_
      refine x_iload (pc := 71) 3 dX6_readOperation_71 rfl ?_
      obtain ⟨hr58, h⟩ := h
      obtain ⟨hr59, h⟩ := h
      obtain ⟨hA60, hB61⟩ := h
      refine x_icmp_ne (pc := 73) 86 dX6_readOperation_73 (by decide) hr58 hr59 (fun hc => ?_) (fun hc => ?_)
      · have h := hA60 hc
        refine x_iinc (pc := 86) (al' := [(0, vR 1), (1, vI x1), (3, vI x3), (4, vI x4), (5, vI (x5 + 1))]) 4 dX6_readOperation_86 rfl rfl rfl (Nat.le_of_ble_eq_true rfl) ?_
        refine x_goto (pc := 89) 43 dX6_readOperation_89 (by decide) ?_
        exact x_sub [0, 1, 2, 3, 4] rfl h
      · have h := hB61 hc
        refine x_aload_n (pc := 76) 0 dX6_readOperation_76 rfl ?_
        refine x_bipush (pc := 77) dX6_readOperation_77 rfl ?_
        refine x_aload_n (pc := 79) 0 dX6_readOperation_79 rfl ?_
        refine x_getI (pc := 80) dX6_readOperation_80 FC6 13 (by decide) rfl fl_X6_102 (LM_ob hM) ?_
        refine x_Vv (μ := m_X6_readOperation) (pc := 83) dX6_readOperation_83 h k_X6_report ml_X6_94 ⟨Nat.le_of_ble_eq_true rfl, Nat.le_of_ble_eq_true rfl⟩ ⟨rfl, rfl⟩ ⟨Nat.zero_le _, Nat.zero_le _⟩ rfl (LM_ob hM) rfl (Nat.le_of_ble_eq_true rfl) _ rfl (fun I62 h => ?_)
        refine x_iinc (pc := 86) (al' := [(0, vR 1), (1, vI x1), (3, vI x3), (4, vI x4), (5, vI (x5 + 1))]) 4 dX6_readOperation_86 rfl rfl rfl (Nat.le_of_ble_eq_true rfl) ?_
        refine x_goto (pc := 89) 43 dX6_readOperation_89 (by decide) ?_
        exact x_sub [0, 1, 2, 3, 4] rfl h
