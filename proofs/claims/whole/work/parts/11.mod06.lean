set_option maxRecDepth 100000 in
set_option maxHeartbeats 4000000 in
theorem t_X6_raises_0 {Γ : GG} {P : MP} {I : MM} {R : Int → MM → Prop} {x1 : Int} (hM : LM Γ P)
    (h : (inR x1) ∧ (0 ≤ x1) ∧ (inR (x1 % 6)) ∧ (((x1 % 6) ≠ 0 → (0 ≤ (x1 - 1)) ∧ ((x1 - 1) < 36) ∧ (Cl Γ m_X6_durationOf [vR 1, vI (x1 - 1)] P I (ri P (fun (z8 : Int) (I9 : MM) => (∀ u10 : Int, u10 = ((I 9 ((x1 - 1)).toNat) + z8) → (x1 < 36) ∧ (inR (I9 7 (x1).toNat)) ∧ (((I9 7 (x1).toNat) = (-1) → (inR u10) ∧ (inR (I9 9 (x1).toNat)) ∧ (((I9 9 (x1).toNat) < u10 → (∀ I19 : MM, I19 = up2 I9 9 (x1).toNat u10 → R 1 I19)) ∧ (¬ (I9 9 (x1).toNat) < u10 → R 0 I9))) ∧ (¬ (I9 7 (x1).toNat) = (-1) → (0 ≤ (I9 7 (x1).toNat)) ∧ ((I9 7 (x1).toNat) < 36) ∧ (Cl Γ m_X6_max [vI u10, vI ((I9 9 ((I9 7 (x1).toNat)).toNat) + (I9 8 (x1).toNat))] P I9 (ri P (fun (z22 : Int) (I23 : MM) => (inR z22) ∧ (inR (I23 9 (x1).toNat)) ∧ (((I23 9 (x1).toNat) < z22 → (∀ I28 : MM, I28 = up2 I23 9 (x1).toNat z22 → R 1 I28)) ∧ (¬ (I23 9 (x1).toNat) < z22 → R 0 I23)))))))))))) ∧ ((x1 % 6) = 0 → (Cl Γ m_X6_job [vI (x1 / 6)] P I (ri P (fun (z29 : Int) (I30 : MM) => (0 ≤ z29) ∧ (z29 < 1655) ∧ (∀ u33 : Int, u33 = (I30 3 (z29).toNat) → (x1 < 36) ∧ (inR (I30 7 (x1).toNat)) ∧ (((I30 7 (x1).toNat) = (-1) → (inR u33) ∧ (inR (I30 9 (x1).toNat)) ∧ (((I30 9 (x1).toNat) < u33 → (∀ I42 : MM, I42 = up2 I30 9 (x1).toNat u33 → R 1 I42)) ∧ (¬ (I30 9 (x1).toNat) < u33 → R 0 I30))) ∧ (¬ (I30 7 (x1).toNat) = (-1) → (0 ≤ (I30 7 (x1).toNat)) ∧ ((I30 7 (x1).toNat) < 36) ∧ (Cl Γ m_X6_max [vI u33, vI ((I30 9 ((I30 7 (x1).toNat)).toNat) + (I30 8 (x1).toNat))] P I30 (ri P (fun (z45 : Int) (I46 : MM) => (inR z45) ∧ (inR (I46 9 (x1).toNat)) ∧ (((I46 9 (x1).toNat) < z45 → (∀ I51 : MM, I51 = up2 I46 9 (x1).toNat z45 → R 1 I51)) ∧ (¬ (I46 9 (x1).toNat) < z45 → R 0 I46)))))))))))))) :
    XM Γ m_X6_raises 0 0 0 [(0, vR 1), (1, vI x1)] [] P I (ri P R) := by
  refine x_iload_n (pc := 0) 1 dX6_raises_0 rfl ?_
  refine x_bipush (pc := 1) dX6_raises_1 rfl ?_
  obtain ⟨hr1, h⟩ := h
  obtain ⟨hv2, h⟩ := h
  refine x_irem (pc := 3) dX6_raises_3 hr1 ⟨by decide, by decide⟩ hv2 (by decide) ?_
  obtain ⟨hr3, h⟩ := h
  obtain ⟨hA4, hB5⟩ := h
  refine x_if_ne (pc := 4) 22 dX6_raises_4 (by decide) hr3 (fun hc => ?_) (fun hc => ?_)
  · have h := hA4 hc
    refine x_aload_n (pc := 22) 0 dX6_raises_22 rfl ?_
    refine x_getP (pc := 23) dX6_raises_23 FC6 18 (by decide) rfl fl_X6_37 (LM_ob hM) (LM_p18 hM) ?_
    refine x_iload_n (pc := 26) 1 dX6_raises_26 rfl ?_
    refine x_iconst (pc := 27) dX6_raises_27 ?_
    refine x_isub (pc := 28) dX6_raises_28 ?_
    obtain ⟨hv6, h⟩ := h
    obtain ⟨hv7, h⟩ := h
    refine x_iald (pc := 29) dX6_raises_29 (LM_a18 hM) hv6 hv7 (by decide) ?_
    refine x_aload_n (pc := 30) 0 dX6_raises_30 rfl ?_
    refine x_iload_n (pc := 31) 1 dX6_raises_31 rfl ?_
    refine x_iconst (pc := 32) dX6_raises_32 ?_
    refine x_isub (pc := 33) dX6_raises_33 ?_
    refine x_Vi (μ := m_X6_raises) (pc := 34) dX6_raises_34 h k_X6_durationOf ml_X6_202 ⟨Nat.le_of_ble_eq_true rfl, Nat.le_of_ble_eq_true rfl⟩ ⟨rfl, rfl⟩ ⟨Nat.zero_le _, Nat.zero_le _⟩ rfl (LM_ob hM) rfl (Nat.le_of_ble_eq_true rfl) _ rfl (fun z8 I9 h => ?_)
    refine x_iadd (pc := 37) dX6_raises_37 ?_
    refine x_nmT (fun u10 eu10 => ?_)
    have h := h u10 eu10
    refine x_istore_n (pc := 38) (al' := [(0, vR 1), (1, vI x1), (2, vI u10)]) dX6_raises_38 rfl rfl (Nat.le_of_ble_eq_true rfl) ?_
    refine x_aload_n (pc := 39) 0 dX6_raises_39 rfl ?_
    refine x_getP (pc := 40) dX6_raises_40 FC6 16 (by decide) rfl fl_X6_31 (LM_ob hM) (LM_p16 hM) ?_
    refine x_iload_n (pc := 43) 1 dX6_raises_43 rfl ?_
    obtain ⟨hv11, h⟩ := h
    refine x_iald (pc := 44) dX6_raises_44 (LM_a16 hM) hv2 hv11 (by decide) ?_
    refine x_iconst (pc := 45) dX6_raises_45 ?_
    obtain ⟨hr12, h⟩ := h
    obtain ⟨hA13, hB14⟩ := h
    refine x_icmp_eq (pc := 46) 72 dX6_raises_46 (by decide) hr12 ⟨by decide, by decide⟩ (fun hc => ?_) (fun hc => ?_)
    · have h := hA13 hc
      refine x_iload_n (pc := 72) 2 dX6_raises_72 rfl ?_
      refine x_aload_n (pc := 73) 0 dX6_raises_73 rfl ?_
      refine x_getP (pc := 74) dX6_raises_74 FC6 18 (by decide) rfl fl_X6_37 (LM_ob hM) (LM_p18 hM) ?_
      refine x_iload_n (pc := 77) 1 dX6_raises_77 rfl ?_
      refine x_iald (pc := 78) dX6_raises_78 (LM_a18 hM) hv2 hv11 (by decide) ?_
      obtain ⟨hr15, h⟩ := h
      obtain ⟨hr16, h⟩ := h
      obtain ⟨hA17, hB18⟩ := h
      refine x_icmp_gt (pc := 79) 84 dX6_raises_79 (by decide) hr15 hr16 (fun hc => ?_) (fun hc => ?_)
      · have h := hA17 hc
        refine x_aload_n (pc := 84) 0 dX6_raises_84 rfl ?_
        refine x_getP (pc := 85) dX6_raises_85 FC6 18 (by decide) rfl fl_X6_37 (LM_ob hM) (LM_p18 hM) ?_
        refine x_iload_n (pc := 88) 1 dX6_raises_88 rfl ?_
        refine x_iload_n (pc := 89) 2 dX6_raises_89 rfl ?_
        refine x_iast (pc := 90) dX6_raises_90 (LM_a18 hM) hv2 hv11 (by decide) ?_
        refine x_nmI (fun I19 eI19 => ?_)
        have h := h I19 eI19
        refine x_iconst (pc := 91) dX6_raises_91 ?_
        exact x_zret (pc := 92) dX6_raises_92 rfl (by decide) (Nat.le_refl _) (Nat.le_refl _) ⟨_, rfl, rfl, h⟩
      · have h := hB18 hc
        refine x_iconst (pc := 82) dX6_raises_82 ?_
        exact x_zret (pc := 83) dX6_raises_83 rfl (by decide) (Nat.le_refl _) (Nat.le_refl _) ⟨_, rfl, rfl, h⟩
    · have h := hB14 hc
      refine x_iload_n (pc := 49) 2 dX6_raises_49 rfl ?_
      refine x_aload_n (pc := 50) 0 dX6_raises_50 rfl ?_
      refine x_getP (pc := 51) dX6_raises_51 FC6 18 (by decide) rfl fl_X6_37 (LM_ob hM) (LM_p18 hM) ?_
      refine x_aload_n (pc := 54) 0 dX6_raises_54 rfl ?_
      refine x_getP (pc := 55) dX6_raises_55 FC6 16 (by decide) rfl fl_X6_31 (LM_ob hM) (LM_p16 hM) ?_
      refine x_iload_n (pc := 58) 1 dX6_raises_58 rfl ?_
      refine x_iald (pc := 59) dX6_raises_59 (LM_a16 hM) hv2 hv11 (by decide) ?_
      obtain ⟨hv20, h⟩ := h
      obtain ⟨hv21, h⟩ := h
      refine x_iald (pc := 60) dX6_raises_60 (LM_a18 hM) hv20 hv21 (by decide) ?_
      refine x_aload_n (pc := 61) 0 dX6_raises_61 rfl ?_
      refine x_getP (pc := 62) dX6_raises_62 FC6 17 (by decide) rfl fl_X6_34 (LM_ob hM) (LM_p17 hM) ?_
      refine x_iload_n (pc := 65) 1 dX6_raises_65 rfl ?_
      refine x_iald (pc := 66) dX6_raises_66 (LM_a17 hM) hv2 hv11 (by decide) ?_
      refine x_iadd (pc := 67) dX6_raises_67 ?_
      refine x_Si (μ := m_X6_raises) (pc := 68) dX6_raises_68 h k_X6_max ml_X6_205 ⟨Nat.le_of_ble_eq_true rfl, Nat.le_of_ble_eq_true rfl⟩ ⟨rfl, rfl⟩ ⟨Nat.zero_le _, Nat.zero_le _⟩ rfl (Nat.le_of_ble_eq_true rfl) _ rfl (fun z22 I23 h => ?_)
      refine x_istore_n (pc := 71) (al' := [(0, vR 1), (1, vI x1), (2, vI z22)]) dX6_raises_71 rfl rfl (Nat.le_of_ble_eq_true rfl) ?_
      refine x_iload_n (pc := 72) 2 dX6_raises_72 rfl ?_
      refine x_aload_n (pc := 73) 0 dX6_raises_73 rfl ?_
      refine x_getP (pc := 74) dX6_raises_74 FC6 18 (by decide) rfl fl_X6_37 (LM_ob hM) (LM_p18 hM) ?_
      refine x_iload_n (pc := 77) 1 dX6_raises_77 rfl ?_
      refine x_iald (pc := 78) dX6_raises_78 (LM_a18 hM) hv2 hv11 (by decide) ?_
      obtain ⟨hr24, h⟩ := h
      obtain ⟨hr25, h⟩ := h
      obtain ⟨hA26, hB27⟩ := h
      refine x_icmp_gt (pc := 79) 84 dX6_raises_79 (by decide) hr24 hr25 (fun hc => ?_) (fun hc => ?_)
      · have h := hA26 hc
        refine x_aload_n (pc := 84) 0 dX6_raises_84 rfl ?_
        refine x_getP (pc := 85) dX6_raises_85 FC6 18 (by decide) rfl fl_X6_37 (LM_ob hM) (LM_p18 hM) ?_
        refine x_iload_n (pc := 88) 1 dX6_raises_88 rfl ?_
        refine x_iload_n (pc := 89) 2 dX6_raises_89 rfl ?_
        refine x_iast (pc := 90) dX6_raises_90 (LM_a18 hM) hv2 hv11 (by decide) ?_
        refine x_nmI (fun I28 eI28 => ?_)
        have h := h I28 eI28
        refine x_iconst (pc := 91) dX6_raises_91 ?_
        exact x_zret (pc := 92) dX6_raises_92 rfl (by decide) (Nat.le_refl _) (Nat.le_refl _) ⟨_, rfl, rfl, h⟩
      · have h := hB27 hc
        refine x_iconst (pc := 82) dX6_raises_82 ?_
        exact x_zret (pc := 83) dX6_raises_83 rfl (by decide) (Nat.le_refl _) (Nat.le_refl _) ⟨_, rfl, rfl, h⟩
  · have h := hB5 hc
    refine x_aload_n (pc := 7) 0 dX6_raises_7 rfl ?_
    refine x_getP (pc := 8) dX6_raises_8 FC6 8 (by decide) rfl fl_X6_17 (LM_ob hM) (LM_p8 hM) ?_
    refine x_iload_n (pc := 11) 1 dX6_raises_11 rfl ?_
    refine x_bipush (pc := 12) dX6_raises_12 rfl ?_
    refine x_idiv (pc := 14) dX6_raises_14 hr1 ⟨by decide, by decide⟩ hv2 (by decide) ?_
    refine x_Si (μ := m_X6_raises) (pc := 15) dX6_raises_15 h k_X6_job ml_X6_147 ⟨Nat.le_of_ble_eq_true rfl, Nat.le_of_ble_eq_true rfl⟩ ⟨rfl, rfl⟩ ⟨Nat.zero_le _, Nat.zero_le _⟩ rfl (Nat.le_of_ble_eq_true rfl) _ rfl (fun z29 I30 h => ?_)
    obtain ⟨hv31, h⟩ := h
    obtain ⟨hv32, h⟩ := h
    refine x_iald (pc := 18) dX6_raises_18 (LM_a8 hM) hv31 hv32 (by decide) ?_
    refine x_goto (pc := 19) 38 dX6_raises_19 (by decide) ?_
    refine x_nmT (fun u33 eu33 => ?_)
    have h := h u33 eu33
    refine x_istore_n (pc := 38) (al' := [(0, vR 1), (1, vI x1), (2, vI u33)]) dX6_raises_38 rfl rfl (Nat.le_of_ble_eq_true rfl) ?_
    refine x_aload_n (pc := 39) 0 dX6_raises_39 rfl ?_
    refine x_getP (pc := 40) dX6_raises_40 FC6 16 (by decide) rfl fl_X6_31 (LM_ob hM) (LM_p16 hM) ?_
    refine x_iload_n (pc := 43) 1 dX6_raises_43 rfl ?_
    obtain ⟨hv34, h⟩ := h
    refine x_iald (pc := 44) dX6_raises_44 (LM_a16 hM) hv2 hv34 (by decide) ?_
    refine x_iconst (pc := 45) dX6_raises_45 ?_
    obtain ⟨hr35, h⟩ := h
    obtain ⟨hA36, hB37⟩ := h
    refine x_icmp_eq (pc := 46) 72 dX6_raises_46 (by decide) hr35 ⟨by decide, by decide⟩ (fun hc => ?_) (fun hc => ?_)
    · have h := hA36 hc
      refine x_iload_n (pc := 72) 2 dX6_raises_72 rfl ?_
      refine x_aload_n (pc := 73) 0 dX6_raises_73 rfl ?_
      refine x_getP (pc := 74) dX6_raises_74 FC6 18 (by decide) rfl fl_X6_37 (LM_ob hM) (LM_p18 hM) ?_
      refine x_iload_n (pc := 77) 1 dX6_raises_77 rfl ?_
      refine x_iald (pc := 78) dX6_raises_78 (LM_a18 hM) hv2 hv34 (by decide) ?_
      obtain ⟨hr38, h⟩ := h
      obtain ⟨hr39, h⟩ := h
      obtain ⟨hA40, hB41⟩ := h
      refine x_icmp_gt (pc := 79) 84 dX6_raises_79 (by decide) hr38 hr39 (fun hc => ?_) (fun hc => ?_)
      · have h := hA40 hc
        refine x_aload_n (pc := 84) 0 dX6_raises_84 rfl ?_
        refine x_getP (pc := 85) dX6_raises_85 FC6 18 (by decide) rfl fl_X6_37 (LM_ob hM) (LM_p18 hM) ?_
        refine x_iload_n (pc := 88) 1 dX6_raises_88 rfl ?_
        refine x_iload_n (pc := 89) 2 dX6_raises_89 rfl ?_
        refine x_iast (pc := 90) dX6_raises_90 (LM_a18 hM) hv2 hv34 (by decide) ?_
        refine x_nmI (fun I42 eI42 => ?_)
        have h := h I42 eI42
        refine x_iconst (pc := 91) dX6_raises_91 ?_
        exact x_zret (pc := 92) dX6_raises_92 rfl (by decide) (Nat.le_refl _) (Nat.le_refl _) ⟨_, rfl, rfl, h⟩
      · have h := hB41 hc
        refine x_iconst (pc := 82) dX6_raises_82 ?_
        exact x_zret (pc := 83) dX6_raises_83 rfl (by decide) (Nat.le_refl _) (Nat.le_refl _) ⟨_, rfl, rfl, h⟩
    · have h := hB37 hc
      refine x_iload_n (pc := 49) 2 dX6_raises_49 rfl ?_
      refine x_aload_n (pc := 50) 0 dX6_raises_50 rfl ?_
      refine x_getP (pc := 51) dX6_raises_51 FC6 18 (by decide) rfl fl_X6_37 (LM_ob hM) (LM_p18 hM) ?_
      refine x_aload_n (pc := 54) 0 dX6_raises_54 rfl ?_
      refine x_getP (pc := 55) dX6_raises_55 FC6 16 (by decide) rfl fl_X6_31 (LM_ob hM) (LM_p16 hM) ?_
      refine x_iload_n (pc := 58) 1 dX6_raises_58 rfl ?_
      refine x_iald (pc := 59) dX6_raises_59 (LM_a16 hM) hv2 hv34 (by decide) ?_
      obtain ⟨hv43, h⟩ := h
      obtain ⟨hv44, h⟩ := h
      refine x_iald (pc := 60) dX6_raises_60 (LM_a18 hM) hv43 hv44 (by decide) ?_
      refine x_aload_n (pc := 61) 0 dX6_raises_61 rfl ?_
      refine x_getP (pc := 62) dX6_raises_62 FC6 17 (by decide) rfl fl_X6_34 (LM_ob hM) (LM_p17 hM) ?_
      refine x_iload_n (pc := 65) 1 dX6_raises_65 rfl ?_
      refine x_iald (pc := 66) dX6_raises_66 (LM_a17 hM) hv2 hv34 (by decide) ?_
      refine x_iadd (pc := 67) dX6_raises_67 ?_
      refine x_Si (μ := m_X6_raises) (pc := 68) dX6_raises_68 h k_X6_max ml_X6_205 ⟨Nat.le_of_ble_eq_true rfl, Nat.le_of_ble_eq_true rfl⟩ ⟨rfl, rfl⟩ ⟨Nat.zero_le _, Nat.zero_le _⟩ rfl (Nat.le_of_ble_eq_true rfl) _ rfl (fun z45 I46 h => ?_)
      refine x_istore_n (pc := 71) (al' := [(0, vR 1), (1, vI x1), (2, vI z45)]) dX6_raises_71 rfl rfl (Nat.le_of_ble_eq_true rfl) ?_
      refine x_iload_n (pc := 72) 2 dX6_raises_72 rfl ?_
      refine x_aload_n (pc := 73) 0 dX6_raises_73 rfl ?_
      refine x_getP (pc := 74) dX6_raises_74 FC6 18 (by decide) rfl fl_X6_37 (LM_ob hM) (LM_p18 hM) ?_
      refine x_iload_n (pc := 77) 1 dX6_raises_77 rfl ?_
      refine x_iald (pc := 78) dX6_raises_78 (LM_a18 hM) hv2 hv34 (by decide) ?_
      obtain ⟨hr47, h⟩ := h
      obtain ⟨hr48, h⟩ := h
      obtain ⟨hA49, hB50⟩ := h
      refine x_icmp_gt (pc := 79) 84 dX6_raises_79 (by decide) hr47 hr48 (fun hc => ?_) (fun hc => ?_)
      · have h := hA49 hc
        refine x_aload_n (pc := 84) 0 dX6_raises_84 rfl ?_
        refine x_getP (pc := 85) dX6_raises_85 FC6 18 (by decide) rfl fl_X6_37 (LM_ob hM) (LM_p18 hM) ?_
        refine x_iload_n (pc := 88) 1 dX6_raises_88 rfl ?_
        refine x_iload_n (pc := 89) 2 dX6_raises_89 rfl ?_
        refine x_iast (pc := 90) dX6_raises_90 (LM_a18 hM) hv2 hv34 (by decide) ?_
        refine x_nmI (fun I51 eI51 => ?_)
        have h := h I51 eI51
        refine x_iconst (pc := 91) dX6_raises_91 ?_
        exact x_zret (pc := 92) dX6_raises_92 rfl (by decide) (Nat.le_refl _) (Nat.le_refl _) ⟨_, rfl, rfl, h⟩
      · have h := hB50 hc
        refine x_iconst (pc := 82) dX6_raises_82 ?_
        exact x_zret (pc := 83) dX6_raises_83 rfl (by decide) (Nat.le_refl _) (Nat.le_refl _) ⟨_, rfl, rfl, h⟩
set_option maxRecDepth 100000 in
set_option maxHeartbeats 4000000 in
theorem t_X6_findStarts_0 {Γ : GG} {P : MP} {I : MM} {R : Int → MM → Prop} (hM : LM Γ P)
    (h : (Cl Γ m_X6_layArcs [vR 1] P I (rv P (fun (I1 : MM) => XM Γ m_X6_findStarts 0 0 6 [(0, vR 1), (1, vI 0)] [] P I1 (ri P R))))) :
    XM Γ m_X6_findStarts 0 0 0 [(0, vR 1)] [] P I (ri P R) := by
  refine x_aload_n (pc := 0) 0 dX6_findStarts_0 rfl ?_
  refine x_Vv (μ := m_X6_findStarts) (pc := 1) dX6_findStarts_1 h k_X6_layArcs ml_X6_208 ⟨Nat.le_of_ble_eq_true rfl, Nat.le_of_ble_eq_true rfl⟩ ⟨rfl, rfl⟩ ⟨Nat.zero_le _, Nat.zero_le _⟩ rfl (LM_ob hM) rfl (Nat.le_of_ble_eq_true rfl) _ rfl (fun I1 h => ?_)
  refine x_iconst (pc := 4) dX6_findStarts_4 ?_
  refine x_istore_n (pc := 5) (al' := [(0, vR 1), (1, vI 0)]) dX6_findStarts_5 rfl rfl (Nat.le_of_ble_eq_true rfl) ?_
  exact x_sub [0, 1] rfl h
set_option maxRecDepth 100000 in
set_option maxHeartbeats 4000000 in
theorem t_X6_findStarts_6 {Γ : GG} {P : MP} {I : MM} {R : Int → MM → Prop} {x1 : Int} (hM : LM Γ P)
    (h : (inR x1) ∧ ((36 ≤ x1 → XM Γ m_X6_findStarts 0 0 27 [(0, vR 1), (1, vI 0)] [] P I (ri P R)) ∧ (¬ 36 ≤ x1 → (0 ≤ x1) ∧ (x1 < 36) ∧ (∀ I6 : MM, I6 = up2 I 9 (x1).toNat 0 → XM Γ m_X6_findStarts 0 0 6 [(0, vR 1), (1, vI (x1 + 1))] [] P I6 (ri P R))))) :
    XM Γ m_X6_findStarts 0 0 6 [(0, vR 1), (1, vI x1)] [] P I (ri P R) := by
  refine x_iload_n (pc := 6) 1 dX6_findStarts_6 rfl ?_
  refine x_bipush (pc := 7) dX6_findStarts_7 rfl ?_
  obtain ⟨hr1, h⟩ := h
  obtain ⟨hA2, hB3⟩ := h
  refine x_icmp_ge (pc := 9) 25 dX6_findStarts_9 (by decide) hr1 ⟨by decide, by decide⟩ (fun hc => ?_) (fun hc => ?_)
  · have h := hA2 hc
    refine x_iconst (pc := 25) dX6_findStarts_25 ?_
    refine x_istore_n (pc := 26) (al' := [(0, vR 1), (1, vI 0)]) dX6_findStarts_26 rfl rfl (Nat.le_of_ble_eq_true rfl) ?_
    exact x_sub [0, 1] rfl h
  · have h := hB3 hc
    refine x_aload_n (pc := 12) 0 dX6_findStarts_12 rfl ?_
    refine x_getP (pc := 13) dX6_findStarts_13 FC6 18 (by decide) rfl fl_X6_37 (LM_ob hM) (LM_p18 hM) ?_
    refine x_iload_n (pc := 16) 1 dX6_findStarts_16 rfl ?_
    refine x_iconst (pc := 17) dX6_findStarts_17 ?_
    obtain ⟨hv4, h⟩ := h
    obtain ⟨hv5, h⟩ := h
    refine x_iast (pc := 18) dX6_findStarts_18 (LM_a18 hM) hv4 hv5 (by decide) ?_
    refine x_nmI (fun I6 eI6 => ?_)
    have h := h I6 eI6
    refine x_iinc (pc := 19) (al' := [(0, vR 1), (1, vI (x1 + 1))]) 1 dX6_findStarts_19 rfl rfl rfl (Nat.le_of_ble_eq_true rfl) ?_
    refine x_goto (pc := 22) 6 dX6_findStarts_22 (by decide) ?_
    exact x_sub [0, 1] rfl h
set_option maxRecDepth 100000 in
set_option maxHeartbeats 4000000 in
theorem t_X6_findStarts_27 {Γ : GG} {P : MP} {I : MM} {R : Int → MM → Prop} {x1 : Int} (hM : LM Γ P)
    (h : (inR x1) ∧ ((36 < x1 → R 0 I) ∧ (¬ 36 < x1 → XM Γ m_X6_findStarts 0 0 37 [(0, vR 1), (1, vI x1), (2, vI 0), (3, vI 0)] [] P I (ri P R)))) :
    XM Γ m_X6_findStarts 0 0 27 [(0, vR 1), (1, vI x1)] [] P I (ri P R) := by
  refine x_iload_n (pc := 27) 1 dX6_findStarts_27 rfl ?_
  refine x_bipush (pc := 28) dX6_findStarts_28 rfl ?_
  obtain ⟨hr1, h⟩ := h
  obtain ⟨hA2, hB3⟩ := h
  refine x_icmp_gt (pc := 30) 79 dX6_findStarts_30 (by decide) hr1 ⟨by decide, by decide⟩ (fun hc => ?_) (fun hc => ?_)
  · have h := hA2 hc
    refine x_iconst (pc := 79) dX6_findStarts_79 ?_
    exact x_zret (pc := 80) dX6_findStarts_80 rfl (by decide) (Nat.le_refl _) (Nat.le_refl _) ⟨_, rfl, rfl, h⟩
  · have h := hB3 hc
    refine x_iconst (pc := 33) dX6_findStarts_33 ?_
    refine x_istore_n (pc := 34) (al' := [(0, vR 1), (1, vI x1), (2, vI 0)]) dX6_findStarts_34 rfl rfl (Nat.le_of_ble_eq_true rfl) ?_
    refine x_iconst (pc := 35) dX6_findStarts_35 ?_
    refine x_istore_n (pc := 36) (al' := [(0, vR 1), (1, vI x1), (2, vI 0), (3, vI 0)]) dX6_findStarts_36 rfl rfl (Nat.le_of_ble_eq_true rfl) ?_
    exact x_sub [0, 1, 2, 3] rfl h
set_option maxRecDepth 100000 in
set_option maxHeartbeats 4000000 in
theorem t_X6_findStarts_37 {Γ : GG} {P : MP} {I : MM} {R : Int → MM → Prop} {x1 x2 x3 : Int} (hM : LM Γ P)
    (h : (inR x3) ∧ ((36 ≤ x3 → (inR x2) ∧ ((x2 ≠ 0 → XM Γ m_X6_findStarts 0 0 27 [(0, vR 1), (1, vI (x1 + 1))] [] P I (ri P R)) ∧ (x2 = 0 → R 1 I))) ∧ (¬ 36 ≤ x3 → (Cl Γ m_X6_isThere [vR 1, vI x3] P I (ri P (fun (z7 : Int) (I8 : MM) => (inR z7) ∧ ((z7 = 0 → XM Γ m_X6_findStarts 0 0 37 [(0, vR 1), (1, vI x1), (2, vI x2), (3, vI (x3 + 1))] [] P I8 (ri P R)) ∧ (¬ z7 = 0 → (Cl Γ m_X6_raises [vR 1, vI x3] P I8 (ri P (fun (z12 : Int) (I13 : MM) => (inR z12) ∧ ((z12 = 0 → XM Γ m_X6_findStarts 0 0 37 [(0, vR 1), (1, vI x1), (2, vI x2), (3, vI (x3 + 1))] [] P I13 (ri P R)) ∧ (¬ z12 = 0 → XM Γ m_X6_findStarts 0 0 37 [(0, vR 1), (1, vI x1), (2, vI 1), (3, vI (x3 + 1))] [] P I13 (ri P R)))))))))))))) :
    XM Γ m_X6_findStarts 0 0 37 [(0, vR 1), (1, vI x1), (2, vI x2), (3, vI x3)] [] P I (ri P R) := by
  refine x_iload_n (pc := 37) 3 dX6_findStarts_37 rfl ?_
  refine x_bipush (pc := 38) dX6_findStarts_38 rfl ?_
  obtain ⟨hr1, h⟩ := h
  obtain ⟨hA2, hB3⟩ := h
  refine x_icmp_ge (pc := 40) 67 dX6_findStarts_40 (by decide) hr1 ⟨by decide, by decide⟩ (fun hc => ?_) (fun hc => ?_)
  · have h := hA2 hc
    refine x_iload_n (pc := 67) 2 dX6_findStarts_67 rfl ?_
    obtain ⟨hr4, h⟩ := h
    obtain ⟨hA5, hB6⟩ := h
    refine x_if_ne (pc := 68) 73 dX6_findStarts_68 (by decide) hr4 (fun hc => ?_) (fun hc => ?_)
    · have h := hA5 hc
      refine x_iinc (pc := 73) (al' := [(0, vR 1), (1, vI (x1 + 1)), (2, vI x2), (3, vI x3)]) 1 dX6_findStarts_73 rfl rfl rfl (Nat.le_of_ble_eq_true rfl) ?_
      refine x_goto (pc := 76) 27 dX6_findStarts_76 (by decide) ?_
      exact x_sub [0, 1] rfl h
    · have h := hB6 hc
      refine x_iconst (pc := 71) dX6_findStarts_71 ?_
      exact x_zret (pc := 72) dX6_findStarts_72 rfl (by decide) (Nat.le_refl _) (Nat.le_refl _) ⟨_, rfl, rfl, h⟩
  · have h := hB3 hc
    refine x_aload_n (pc := 43) 0 dX6_findStarts_43 rfl ?_
    refine x_iload_n (pc := 44) 3 dX6_findStarts_44 rfl ?_
    refine x_Vi (μ := m_X6_findStarts) (pc := 45) dX6_findStarts_45 h k_X6_isThere ml_X6_211 ⟨Nat.le_of_ble_eq_true rfl, Nat.le_of_ble_eq_true rfl⟩ ⟨rfl, rfl⟩ ⟨Nat.zero_le _, Nat.zero_le _⟩ rfl (LM_ob hM) rfl (Nat.le_of_ble_eq_true rfl) _ rfl (fun z7 I8 h => ?_)
    obtain ⟨hr9, h⟩ := h
    obtain ⟨hA10, hB11⟩ := h
    refine x_if_eq (pc := 48) 61 dX6_findStarts_48 (by decide) hr9 (fun hc => ?_) (fun hc => ?_)
    · have h := hA10 hc
      refine x_iinc (pc := 61) (al' := [(0, vR 1), (1, vI x1), (2, vI x2), (3, vI (x3 + 1))]) 3 dX6_findStarts_61 rfl rfl rfl (Nat.le_of_ble_eq_true rfl) ?_
      refine x_goto (pc := 64) 37 dX6_findStarts_64 (by decide) ?_
      exact x_sub [0, 1, 2, 3] rfl h
    · have h := hB11 hc
      refine x_aload_n (pc := 51) 0 dX6_findStarts_51 rfl ?_
      refine x_iload_n (pc := 52) 3 dX6_findStarts_52 rfl ?_
      refine x_Vi (μ := m_X6_findStarts) (pc := 53) dX6_findStarts_53 h k_X6_raises ml_X6_214 ⟨Nat.le_of_ble_eq_true rfl, Nat.le_of_ble_eq_true rfl⟩ ⟨rfl, rfl⟩ ⟨Nat.zero_le _, Nat.zero_le _⟩ rfl (LM_ob hM) rfl (Nat.le_of_ble_eq_true rfl) _ rfl (fun z12 I13 h => ?_)
      obtain ⟨hr14, h⟩ := h
      obtain ⟨hA15, hB16⟩ := h
      refine x_if_eq (pc := 56) 61 dX6_findStarts_56 (by decide) hr14 (fun hc => ?_) (fun hc => ?_)
      · have h := hA15 hc
        refine x_iinc (pc := 61) (al' := [(0, vR 1), (1, vI x1), (2, vI x2), (3, vI (x3 + 1))]) 3 dX6_findStarts_61 rfl rfl rfl (Nat.le_of_ble_eq_true rfl) ?_
        refine x_goto (pc := 64) 37 dX6_findStarts_64 (by decide) ?_
        exact x_sub [0, 1, 2, 3] rfl h
      · have h := hB16 hc
        refine x_iconst (pc := 59) dX6_findStarts_59 ?_
        refine x_istore_n (pc := 60) (al' := [(0, vR 1), (1, vI x1), (2, vI 1), (3, vI x3)]) dX6_findStarts_60 rfl rfl (Nat.le_of_ble_eq_true rfl) ?_
        refine x_iinc (pc := 61) (al' := [(0, vR 1), (1, vI x1), (2, vI 1), (3, vI (x3 + 1))]) 3 dX6_findStarts_61 rfl rfl rfl (Nat.le_of_ble_eq_true rfl) ?_
        refine x_goto (pc := 64) 37 dX6_findStarts_64 (by decide) ?_
        exact x_sub [0, 1, 2, 3] rfl h
set_option maxRecDepth 100000 in
set_option maxHeartbeats 4000000 in
theorem t_X6_hasCycle_0 {Γ : GG} {P : MP} {I : MM} {R : Int → MM → Prop} (hM : LM Γ P)
    (h : XM Γ m_X6_hasCycle 0 0 4 [(0, vR 1), (1, vI 0), (2, vI 0)] [] P I (ri P R)) :
    XM Γ m_X6_hasCycle 0 0 0 [(0, vR 1)] [] P I (ri P R) := by
  refine x_iconst (pc := 0) dX6_hasCycle_0 ?_
  refine x_istore_n (pc := 1) (al' := [(0, vR 1), (1, vI 0)]) dX6_hasCycle_1 rfl rfl (Nat.le_of_ble_eq_true rfl) ?_
  refine x_iconst (pc := 2) dX6_hasCycle_2 ?_
  refine x_istore_n (pc := 3) (al' := [(0, vR 1), (1, vI 0), (2, vI 0)]) dX6_hasCycle_3 rfl rfl (Nat.le_of_ble_eq_true rfl) ?_
  exact x_sub [0, 1, 2] rfl h
set_option maxRecDepth 100000 in
set_option maxHeartbeats 4000000 in
theorem t_X6_hasCycle_4 {Γ : GG} {P : MP} {I : MM} {R : Int → MM → Prop} {x1 x2 : Int} (hM : LM Γ P)
    (h : (inR x2) ∧ ((36 ≤ x2 → XM Γ m_X6_hasCycle 0 0 41 [(0, vR 1), (1, vI x1), (2, vI 1)] [] P I (ri P R)) ∧ (¬ 36 ≤ x2 → (0 ≤ x2) ∧ (x2 < 36) ∧ (∀ I6 : MM, I6 = up2 I 10 (x2).toNat 0 → (Cl Γ m_X6_isThere [vR 1, vI x2] P I6 (ri P (fun (z7 : Int) (I8 : MM) => (inR z7) ∧ ((z7 = 0 → (∀ u12 : Int, u12 = (x1 + 0) → XM Γ m_X6_hasCycle 0 0 4 [(0, vR 1), (1, vI u12), (2, vI (x2 + 1))] [] P I8 (ri P R))) ∧ (¬ z7 = 0 → (∀ u13 : Int, u13 = (x1 + 1) → XM Γ m_X6_hasCycle 0 0 4 [(0, vR 1), (1, vI u13), (2, vI (x2 + 1))] [] P I8 (ri P R))))))))))) :
    XM Γ m_X6_hasCycle 0 0 4 [(0, vR 1), (1, vI x1), (2, vI x2)] [] P I (ri P R) := by
  refine x_iload_n (pc := 4) 2 dX6_hasCycle_4 rfl ?_
  refine x_bipush (pc := 5) dX6_hasCycle_5 rfl ?_
  obtain ⟨hr1, h⟩ := h
  obtain ⟨hA2, hB3⟩ := h
  refine x_icmp_ge (pc := 7) 39 dX6_hasCycle_7 (by decide) hr1 ⟨by decide, by decide⟩ (fun hc => ?_) (fun hc => ?_)
  · have h := hA2 hc
    refine x_iconst (pc := 39) dX6_hasCycle_39 ?_
    refine x_istore_n (pc := 40) (al' := [(0, vR 1), (1, vI x1), (2, vI 1)]) dX6_hasCycle_40 rfl rfl (Nat.le_of_ble_eq_true rfl) ?_
    exact x_sub [0, 1, 2] rfl h
  · have h := hB3 hc
    refine x_aload_n (pc := 10) 0 dX6_hasCycle_10 rfl ?_
    refine x_getP (pc := 11) dX6_hasCycle_11 FC6 19 (by decide) rfl fl_X6_40 (LM_ob hM) (LM_p19 hM) ?_
    refine x_iload_n (pc := 14) 2 dX6_hasCycle_14 rfl ?_
    refine x_iconst (pc := 15) dX6_hasCycle_15 ?_
    obtain ⟨hv4, h⟩ := h
    obtain ⟨hv5, h⟩ := h
    refine x_zast (pc := 16) dX6_hasCycle_16 (LM_a19 hM) hv4 hv5 (by decide) (by decide) ?_
    refine x_nmI (fun I6 eI6 => ?_)
    have h := h I6 eI6
    refine x_iload_n (pc := 17) 1 dX6_hasCycle_17 rfl ?_
    refine x_aload_n (pc := 18) 0 dX6_hasCycle_18 rfl ?_
    refine x_iload_n (pc := 19) 2 dX6_hasCycle_19 rfl ?_
    refine x_Vi (μ := m_X6_hasCycle) (pc := 20) dX6_hasCycle_20 h k_X6_isThere ml_X6_211 ⟨Nat.le_of_ble_eq_true rfl, Nat.le_of_ble_eq_true rfl⟩ ⟨rfl, rfl⟩ ⟨Nat.zero_le _, Nat.zero_le _⟩ rfl (LM_ob hM) rfl (Nat.le_of_ble_eq_true rfl) _ rfl (fun z7 I8 h => ?_)
    obtain ⟨hr9, h⟩ := h
    obtain ⟨hA10, hB11⟩ := h
    refine x_if_eq (pc := 23) 30 dX6_hasCycle_23 (by decide) hr9 (fun hc => ?_) (fun hc => ?_)
    · have h := hA10 hc
      refine x_iconst (pc := 30) dX6_hasCycle_30 ?_
      refine x_iadd (pc := 31) dX6_hasCycle_31 ?_
      refine x_nmT (fun u12 eu12 => ?_)
      have h := h u12 eu12
      refine x_istore_n (pc := 32) (al' := [(0, vR 1), (1, vI u12), (2, vI x2)]) dX6_hasCycle_32 rfl rfl (Nat.le_of_ble_eq_true rfl) ?_
      refine x_iinc (pc := 33) (al' := [(0, vR 1), (1, vI u12), (2, vI (x2 + 1))]) 2 dX6_hasCycle_33 rfl rfl rfl (Nat.le_of_ble_eq_true rfl) ?_
      refine x_goto (pc := 36) 4 dX6_hasCycle_36 (by decide) ?_
      exact x_sub [0, 1, 2] rfl h
    · have h := hB11 hc
      refine x_iconst (pc := 26) dX6_hasCycle_26 ?_
      refine x_goto (pc := 27) 31 dX6_hasCycle_27 (by decide) ?_
      refine x_iadd (pc := 31) dX6_hasCycle_31 ?_
      refine x_nmT (fun u13 eu13 => ?_)
      have h := h u13 eu13
      refine x_istore_n (pc := 32) (al' := [(0, vR 1), (1, vI u13), (2, vI x2)]) dX6_hasCycle_32 rfl rfl (Nat.le_of_ble_eq_true rfl) ?_
      refine x_iinc (pc := 33) (al' := [(0, vR 1), (1, vI u13), (2, vI (x2 + 1))]) 2 dX6_hasCycle_33 rfl rfl rfl (Nat.le_of_ble_eq_true rfl) ?_
      refine x_goto (pc := 36) 4 dX6_hasCycle_36 (by decide) ?_
      exact x_sub [0, 1, 2] rfl h
set_option maxRecDepth 100000 in
set_option maxHeartbeats 4000000 in
theorem t_X6_hasCycle_41 {Γ : GG} {P : MP} {I : MM} {R : Int → MM → Prop} {x1 x2 : Int} (hM : LM Γ P)
    (h : (inR x2) ∧ ((x2 = 0 → (inR x1) ∧ ((x1 ≤ 0 → R 0 I) ∧ (¬ x1 ≤ 0 → R 1 I))) ∧ (¬ x2 = 0 → XM Γ m_X6_hasCycle 0 0 49 [(0, vR 1), (1, vI x1), (2, vI 0), (3, vI 0)] [] P I (ri P R)))) :
    XM Γ m_X6_hasCycle 0 0 41 [(0, vR 1), (1, vI x1), (2, vI x2)] [] P I (ri P R) := by
  refine x_iload_n (pc := 41) 2 dX6_hasCycle_41 rfl ?_
  obtain ⟨hr1, h⟩ := h
  obtain ⟨hA2, hB3⟩ := h
  refine x_if_eq (pc := 42) 138 dX6_hasCycle_42 (by decide) hr1 (fun hc => ?_) (fun hc => ?_)
  · have h := hA2 hc
    refine x_iload_n (pc := 138) 1 dX6_hasCycle_138 rfl ?_
    obtain ⟨hr4, h⟩ := h
    obtain ⟨hA5, hB6⟩ := h
    refine x_if_le (pc := 139) 146 dX6_hasCycle_139 (by decide) hr4 (fun hc => ?_) (fun hc => ?_)
    · have h := hA5 hc
      refine x_iconst (pc := 146) dX6_hasCycle_146 ?_
      exact x_zret (pc := 147) dX6_hasCycle_147 rfl (by decide) (Nat.le_refl _) (Nat.le_refl _) ⟨_, rfl, rfl, h⟩
    · have h := hB6 hc
      refine x_iconst (pc := 142) dX6_hasCycle_142 ?_
      refine x_goto (pc := 143) 147 dX6_hasCycle_143 (by decide) ?_
      exact x_zret (pc := 147) dX6_hasCycle_147 rfl (by decide) (Nat.le_refl _) (Nat.le_refl _) ⟨_, rfl, rfl, h⟩
  · have h := hB3 hc
    refine x_iconst (pc := 45) dX6_hasCycle_45 ?_
    refine x_istore_n (pc := 46) (al' := [(0, vR 1), (1, vI x1), (2, vI 0)]) dX6_hasCycle_46 rfl rfl (Nat.le_of_ble_eq_true rfl) ?_
    refine x_iconst (pc := 47) dX6_hasCycle_47 ?_
    refine x_istore_n (pc := 48) (al' := [(0, vR 1), (1, vI x1), (2, vI 0), (3, vI 0)]) dX6_hasCycle_48 rfl rfl (Nat.le_of_ble_eq_true rfl) ?_
    exact x_sub [0, 1, 2, 3] rfl h
set_option maxRecDepth 100000 in
set_option maxHeartbeats 4000000 in
theorem t_X6_hasCycle_49 {Γ : GG} {P : MP} {I : MM} {R : Int → MM → Prop} {x1 x2 x3 : Int} (hM : LM Γ P)
    (h : (inR x3) ∧ ((36 ≤ x3 → XM Γ m_X6_hasCycle 0 0 41 [(0, vR 1), (1, vI x1), (2, vI x2)] [] P I (ri P R)) ∧ (¬ 36 ≤ x3 → (Cl Γ m_X6_isThere [vR 1, vI x3] P I (ri P (fun (z4 : Int) (I5 : MM) => (inR z4) ∧ ((z4 = 0 → XM Γ m_X6_hasCycle 0 0 49 [(0, vR 1), (1, vI x1), (2, vI x2), (3, vI (x3 + 1))] [] P I5 (ri P R)) ∧ (¬ z4 = 0 → (0 ≤ x3) ∧ (x3 < 36) ∧ (inR (I5 10 (x3).toNat)) ∧ (((I5 10 (x3).toNat) ≠ 0 → XM Γ m_X6_hasCycle 0 0 49 [(0, vR 1), (1, vI x1), (2, vI x2), (3, vI (x3 + 1))] [] P I5 (ri P R)) ∧ ((I5 10 (x3).toNat) = 0 → (inR (x3 % 6)) ∧ (((x3 % 6) ≤ 0 → (inR (I5 7 (x3).toNat)) ∧ (((I5 7 (x3).toNat) = (-1) → (∀ I20 : MM, I20 = up2 I5 10 (x3).toNat 1 → XM Γ m_X6_hasCycle 0 0 49 [(0, vR 1), (1, vI (x1 + (-1))), (2, vI 1), (3, vI (x3 + 1))] [] P I20 (ri P R))) ∧ (¬ (I5 7 (x3).toNat) = (-1) → (0 ≤ (I5 7 (x3).toNat)) ∧ ((I5 7 (x3).toNat) < 36) ∧ (inR (I5 10 ((I5 7 (x3).toNat)).toNat)) ∧ (((I5 10 ((I5 7 (x3).toNat)).toNat) ≠ 0 → (∀ I26 : MM, I26 = up2 I5 10 (x3).toNat 1 → XM Γ m_X6_hasCycle 0 0 49 [(0, vR 1), (1, vI (x1 + (-1))), (2, vI 1), (3, vI (x3 + 1))] [] P I26 (ri P R))) ∧ ((I5 10 ((I5 7 (x3).toNat)).toNat) = 0 → XM Γ m_X6_hasCycle 0 0 49 [(0, vR 1), (1, vI x1), (2, vI x2), (3, vI (x3 + 1))] [] P I5 (ri P R)))))) ∧ (¬ (x3 % 6) ≤ 0 → (0 ≤ (x3 - 1)) ∧ ((x3 - 1) < 36) ∧ (inR (I5 10 ((x3 - 1)).toNat)) ∧ (((I5 10 ((x3 - 1)).toNat) = 0 → XM Γ m_X6_hasCycle 0 0 49 [(0, vR 1), (1, vI x1), (2, vI x2), (3, vI (x3 + 1))] [] P I5 (ri P R)) ∧ (¬ (I5 10 ((x3 - 1)).toNat) = 0 → (inR (I5 7 (x3).toNat)) ∧ (((I5 7 (x3).toNat) = (-1) → (∀ I35 : MM, I35 = up2 I5 10 (x3).toNat 1 → XM Γ m_X6_hasCycle 0 0 49 [(0, vR 1), (1, vI (x1 + (-1))), (2, vI 1), (3, vI (x3 + 1))] [] P I35 (ri P R))) ∧ (¬ (I5 7 (x3).toNat) = (-1) → (0 ≤ (I5 7 (x3).toNat)) ∧ ((I5 7 (x3).toNat) < 36) ∧ (inR (I5 10 ((I5 7 (x3).toNat)).toNat)) ∧ (((I5 10 ((I5 7 (x3).toNat)).toNat) ≠ 0 → (∀ I41 : MM, I41 = up2 I5 10 (x3).toNat 1 → XM Γ m_X6_hasCycle 0 0 49 [(0, vR 1), (1, vI (x1 + (-1))), (2, vI 1), (3, vI (x3 + 1))] [] P I41 (ri P R))) ∧ ((I5 10 ((I5 7 (x3).toNat)).toNat) = 0 → XM Γ m_X6_hasCycle 0 0 49 [(0, vR 1), (1, vI x1), (2, vI x2), (3, vI (x3 + 1))] [] P I5 (ri P R))))))))))))))))))) :
    XM Γ m_X6_hasCycle 0 0 49 [(0, vR 1), (1, vI x1), (2, vI x2), (3, vI x3)] [] P I (ri P R) := by
  refine x_iload_n (pc := 49) 3 dX6_hasCycle_49 rfl ?_
  refine x_bipush (pc := 50) dX6_hasCycle_50 rfl ?_
  obtain ⟨hr1, h⟩ := h
  obtain ⟨hA2, hB3⟩ := h
  refine x_icmp_ge (pc := 52) 135 dX6_hasCycle_52 (by decide) hr1 ⟨by decide, by decide⟩ (fun hc => ?_) (fun hc => ?_)
  · have h := hA2 hc
    refine x_goto (pc := 135) 41 dX6_hasCycle_135 (by decide) ?_
    exact x_sub [0, 1, 2] rfl h
  · have h := hB3 hc
    refine x_aload_n (pc := 55) 0 dX6_hasCycle_55 rfl ?_
    refine x_iload_n (pc := 56) 3 dX6_hasCycle_56 rfl ?_
    refine x_Vi (μ := m_X6_hasCycle) (pc := 57) dX6_hasCycle_57 h k_X6_isThere ml_X6_211 ⟨Nat.le_of_ble_eq_true rfl, Nat.le_of_ble_eq_true rfl⟩ ⟨rfl, rfl⟩ ⟨Nat.zero_le _, Nat.zero_le _⟩ rfl (LM_ob hM) rfl (Nat.le_of_ble_eq_true rfl) _ rfl (fun z4 I5 h => ?_)
    obtain ⟨hr6, h⟩ := h
    obtain ⟨hA7, hB8⟩ := h
    refine x_if_eq (pc := 60) 129 dX6_hasCycle_60 (by decide) hr6 (fun hc => ?_) (fun hc => ?_)
    · have h := hA7 hc
      refine x_iinc (pc := 129) (al' := [(0, vR 1), (1, vI x1), (2, vI x2), (3, vI (x3 + 1))]) 3 dX6_hasCycle_129 rfl rfl rfl (Nat.le_of_ble_eq_true rfl) ?_
      refine x_goto (pc := 132) 49 dX6_hasCycle_132 (by decide) ?_
      exact x_sub [0, 1, 2, 3] rfl h
    · have h := hB8 hc
      refine x_aload_n (pc := 63) 0 dX6_hasCycle_63 rfl ?_
      refine x_getP (pc := 64) dX6_hasCycle_64 FC6 19 (by decide) rfl fl_X6_40 (LM_ob hM) (LM_p19 hM) ?_
      refine x_iload_n (pc := 67) 3 dX6_hasCycle_67 rfl ?_
      obtain ⟨hv9, h⟩ := h
      obtain ⟨hv10, h⟩ := h
      refine x_zald (pc := 68) dX6_hasCycle_68 (LM_a19 hM) hv9 hv10 (by decide) ?_
      obtain ⟨hr11, h⟩ := h
      obtain ⟨hA12, hB13⟩ := h
      refine x_if_ne (pc := 69) 129 dX6_hasCycle_69 (by decide) hr11 (fun hc => ?_) (fun hc => ?_)
      · have h := hA12 hc
        refine x_iinc (pc := 129) (al' := [(0, vR 1), (1, vI x1), (2, vI x2), (3, vI (x3 + 1))]) 3 dX6_hasCycle_129 rfl rfl rfl (Nat.le_of_ble_eq_true rfl) ?_
        refine x_goto (pc := 132) 49 dX6_hasCycle_132 (by decide) ?_
        exact x_sub [0, 1, 2, 3] rfl h
      · have h := hB13 hc
        refine x_iload_n (pc := 72) 3 dX6_hasCycle_72 rfl ?_
        refine x_bipush (pc := 73) dX6_hasCycle_73 rfl ?_
        refine x_irem (pc := 75) dX6_hasCycle_75 hr1 ⟨by decide, by decide⟩ hv9 (by decide) ?_
        obtain ⟨hr14, h⟩ := h
        obtain ⟨hA15, hB16⟩ := h
        refine x_if_le (pc := 76) 90 dX6_hasCycle_76 (by decide) hr14 (fun hc => ?_) (fun hc => ?_)
        · have h := hA15 hc
          refine x_aload_n (pc := 90) 0 dX6_hasCycle_90 rfl ?_
          refine x_getP (pc := 91) dX6_hasCycle_91 FC6 16 (by decide) rfl fl_X6_31 (LM_ob hM) (LM_p16 hM) ?_
          refine x_iload_n (pc := 94) 3 dX6_hasCycle_94 rfl ?_
          refine x_iald (pc := 95) dX6_hasCycle_95 (LM_a16 hM) hv9 hv10 (by decide) ?_
          refine x_iconst (pc := 96) dX6_hasCycle_96 ?_
          obtain ⟨hr17, h⟩ := h
          obtain ⟨hA18, hB19⟩ := h
          refine x_icmp_eq (pc := 97) 117 dX6_hasCycle_97 (by decide) hr17 ⟨by decide, by decide⟩ (fun hc => ?_) (fun hc => ?_)
          · have h := hA18 hc
            refine x_aload_n (pc := 117) 0 dX6_hasCycle_117 rfl ?_
            refine x_getP (pc := 118) dX6_hasCycle_118 FC6 19 (by decide) rfl fl_X6_40 (LM_ob hM) (LM_p19 hM) ?_
            refine x_iload_n (pc := 121) 3 dX6_hasCycle_121 rfl ?_
            refine x_iconst (pc := 122) dX6_hasCycle_122 ?_
            refine x_zast (pc := 123) dX6_hasCycle_123 (LM_a19 hM) hv9 hv10 (by decide) (by decide) ?_
            refine x_nmI (fun I20 eI20 => ?_)
            have h := h I20 eI20
            refine x_iconst (pc := 124) dX6_hasCycle_124 ?_
            refine x_istore_n (pc := 125) (al' := [(0, vR 1), (1, vI x1), (2, vI 1), (3, vI x3)]) dX6_hasCycle_125 rfl rfl (Nat.le_of_ble_eq_true rfl) ?_
            refine x_iinc (pc := 126) (al' := [(0, vR 1), (1, vI (x1 + (-1))), (2, vI 1), (3, vI x3)]) 1 dX6_hasCycle_126 rfl rfl rfl (Nat.le_of_ble_eq_true rfl) ?_
            refine x_iinc (pc := 129) (al' := [(0, vR 1), (1, vI (x1 + (-1))), (2, vI 1), (3, vI (x3 + 1))]) 3 dX6_hasCycle_129 rfl rfl rfl (Nat.le_of_ble_eq_true rfl) ?_
            refine x_goto (pc := 132) 49 dX6_hasCycle_132 (by decide) ?_
            exact x_sub [0, 1, 2, 3] rfl h
          · have h := hB19 hc
            refine x_aload_n (pc := 100) 0 dX6_hasCycle_100 rfl ?_
            refine x_getP (pc := 101) dX6_hasCycle_101 FC6 19 (by decide) rfl fl_X6_40 (LM_ob hM) (LM_p19 hM) ?_
            refine x_aload_n (pc := 104) 0 dX6_hasCycle_104 rfl ?_
            refine x_getP (pc := 105) dX6_hasCycle_105 FC6 16 (by decide) rfl fl_X6_31 (LM_ob hM) (LM_p16 hM) ?_
            refine x_iload_n (pc := 108) 3 dX6_hasCycle_108 rfl ?_
            refine x_iald (pc := 109) dX6_hasCycle_109 (LM_a16 hM) hv9 hv10 (by decide) ?_
            obtain ⟨hv21, h⟩ := h
            obtain ⟨hv22, h⟩ := h
            refine x_zald (pc := 110) dX6_hasCycle_110 (LM_a19 hM) hv21 hv22 (by decide) ?_
            obtain ⟨hr23, h⟩ := h
            obtain ⟨hA24, hB25⟩ := h
            refine x_if_ne (pc := 111) 117 dX6_hasCycle_111 (by decide) hr23 (fun hc => ?_) (fun hc => ?_)
            · have h := hA24 hc
              refine x_aload_n (pc := 117) 0 dX6_hasCycle_117 rfl ?_
              refine x_getP (pc := 118) dX6_hasCycle_118 FC6 19 (by decide) rfl fl_X6_40 (LM_ob hM) (LM_p19 hM) ?_
              refine x_iload_n (pc := 121) 3 dX6_hasCycle_121 rfl ?_
              refine x_iconst (pc := 122) dX6_hasCycle_122 ?_
              refine x_zast (pc := 123) dX6_hasCycle_123 (LM_a19 hM) hv9 hv10 (by decide) (by decide) ?_
              refine x_nmI (fun I26 eI26 => ?_)
              have h := h I26 eI26
              refine x_iconst (pc := 124) dX6_hasCycle_124 ?_
              refine x_istore_n (pc := 125) (al' := [(0, vR 1), (1, vI x1), (2, vI 1), (3, vI x3)]) dX6_hasCycle_125 rfl rfl (Nat.le_of_ble_eq_true rfl) ?_
              refine x_iinc (pc := 126) (al' := [(0, vR 1), (1, vI (x1 + (-1))), (2, vI 1), (3, vI x3)]) 1 dX6_hasCycle_126 rfl rfl rfl (Nat.le_of_ble_eq_true rfl) ?_
              refine x_iinc (pc := 129) (al' := [(0, vR 1), (1, vI (x1 + (-1))), (2, vI 1), (3, vI (x3 + 1))]) 3 dX6_hasCycle_129 rfl rfl rfl (Nat.le_of_ble_eq_true rfl) ?_
              refine x_goto (pc := 132) 49 dX6_hasCycle_132 (by decide) ?_
              exact x_sub [0, 1, 2, 3] rfl h
            · have h := hB25 hc
              refine x_goto (pc := 114) 129 dX6_hasCycle_114 (by decide) ?_
              refine x_iinc (pc := 129) (al' := [(0, vR 1), (1, vI x1), (2, vI x2), (3, vI (x3 + 1))]) 3 dX6_hasCycle_129 rfl rfl rfl (Nat.le_of_ble_eq_true rfl) ?_
              refine x_goto (pc := 132) 49 dX6_hasCycle_132 (by decide) ?_
              exact x_sub [0, 1, 2, 3] rfl h
        · have h := hB16 hc
          refine x_aload_n (pc := 79) 0 dX6_hasCycle_79 rfl ?_
          refine x_getP (pc := 80) dX6_hasCycle_80 FC6 19 (by decide) rfl fl_X6_40 (LM_ob hM) (LM_p19 hM) ?_
          refine x_iload_n (pc := 83) 3 dX6_hasCycle_83 rfl ?_
          refine x_iconst (pc := 84) dX6_hasCycle_84 ?_
          refine x_isub (pc := 85) dX6_hasCycle_85 ?_
          obtain ⟨hv27, h⟩ := h
          obtain ⟨hv28, h⟩ := h
          refine x_zald (pc := 86) dX6_hasCycle_86 (LM_a19 hM) hv27 hv28 (by decide) ?_
          obtain ⟨hr29, h⟩ := h
          obtain ⟨hA30, hB31⟩ := h
          refine x_if_eq (pc := 87) 129 dX6_hasCycle_87 (by decide) hr29 (fun hc => ?_) (fun hc => ?_)
          · have h := hA30 hc
            refine x_iinc (pc := 129) (al' := [(0, vR 1), (1, vI x1), (2, vI x2), (3, vI (x3 + 1))]) 3 dX6_hasCycle_129 rfl rfl rfl (Nat.le_of_ble_eq_true rfl) ?_
            refine x_goto (pc := 132) 49 dX6_hasCycle_132 (by decide) ?_
            exact x_sub [0, 1, 2, 3] rfl h
          · have h := hB31 hc
            refine x_aload_n (pc := 90) 0 dX6_hasCycle_90 rfl ?_
            refine x_getP (pc := 91) dX6_hasCycle_91 FC6 16 (by decide) rfl fl_X6_31 (LM_ob hM) (LM_p16 hM) ?_
            refine x_iload_n (pc := 94) 3 dX6_hasCycle_94 rfl ?_
            refine x_iald (pc := 95) dX6_hasCycle_95 (LM_a16 hM) hv9 hv10 (by decide) ?_
            refine x_iconst (pc := 96) dX6_hasCycle_96 ?_
            obtain ⟨hr32, h⟩ := h
            obtain ⟨hA33, hB34⟩ := h
            refine x_icmp_eq (pc := 97) 117 dX6_hasCycle_97 (by decide) hr32 ⟨by decide, by decide⟩ (fun hc => ?_) (fun hc => ?_)
            · have h := hA33 hc
              refine x_aload_n (pc := 117) 0 dX6_hasCycle_117 rfl ?_
              refine x_getP (pc := 118) dX6_hasCycle_118 FC6 19 (by decide) rfl fl_X6_40 (LM_ob hM) (LM_p19 hM) ?_
              refine x_iload_n (pc := 121) 3 dX6_hasCycle_121 rfl ?_
              refine x_iconst (pc := 122) dX6_hasCycle_122 ?_
              refine x_zast (pc := 123) dX6_hasCycle_123 (LM_a19 hM) hv9 hv10 (by decide) (by decide) ?_
              refine x_nmI (fun I35 eI35 => ?_)
              have h := h I35 eI35
              refine x_iconst (pc := 124) dX6_hasCycle_124 ?_
              refine x_istore_n (pc := 125) (al' := [(0, vR 1), (1, vI x1), (2, vI 1), (3, vI x3)]) dX6_hasCycle_125 rfl rfl (Nat.le_of_ble_eq_true rfl) ?_
              refine x_iinc (pc := 126) (al' := [(0, vR 1), (1, vI (x1 + (-1))), (2, vI 1), (3, vI x3)]) 1 dX6_hasCycle_126 rfl rfl rfl (Nat.le_of_ble_eq_true rfl) ?_
              refine x_iinc (pc := 129) (al' := [(0, vR 1), (1, vI (x1 + (-1))), (2, vI 1), (3, vI (x3 + 1))]) 3 dX6_hasCycle_129 rfl rfl rfl (Nat.le_of_ble_eq_true rfl) ?_
              refine x_goto (pc := 132) 49 dX6_hasCycle_132 (by decide) ?_
              exact x_sub [0, 1, 2, 3] rfl h
            · have h := hB34 hc
              refine x_aload_n (pc := 100) 0 dX6_hasCycle_100 rfl ?_
              refine x_getP (pc := 101) dX6_hasCycle_101 FC6 19 (by decide) rfl fl_X6_40 (LM_ob hM) (LM_p19 hM) ?_
              refine x_aload_n (pc := 104) 0 dX6_hasCycle_104 rfl ?_
              refine x_getP (pc := 105) dX6_hasCycle_105 FC6 16 (by decide) rfl fl_X6_31 (LM_ob hM) (LM_p16 hM) ?_
              refine x_iload_n (pc := 108) 3 dX6_hasCycle_108 rfl ?_
              refine x_iald (pc := 109) dX6_hasCycle_109 (LM_a16 hM) hv9 hv10 (by decide) ?_
              obtain ⟨hv36, h⟩ := h
              obtain ⟨hv37, h⟩ := h
              refine x_zald (pc := 110) dX6_hasCycle_110 (LM_a19 hM) hv36 hv37 (by decide) ?_
              obtain ⟨hr38, h⟩ := h
              obtain ⟨hA39, hB40⟩ := h
              refine x_if_ne (pc := 111) 117 dX6_hasCycle_111 (by decide) hr38 (fun hc => ?_) (fun hc => ?_)
              · have h := hA39 hc
                refine x_aload_n (pc := 117) 0 dX6_hasCycle_117 rfl ?_
                refine x_getP (pc := 118) dX6_hasCycle_118 FC6 19 (by decide) rfl fl_X6_40 (LM_ob hM) (LM_p19 hM) ?_
                refine x_iload_n (pc := 121) 3 dX6_hasCycle_121 rfl ?_
                refine x_iconst (pc := 122) dX6_hasCycle_122 ?_
                refine x_zast (pc := 123) dX6_hasCycle_123 (LM_a19 hM) hv9 hv10 (by decide) (by decide) ?_
                refine x_nmI (fun I41 eI41 => ?_)
                have h := h I41 eI41
                refine x_iconst (pc := 124) dX6_hasCycle_124 ?_
                refine x_istore_n (pc := 125) (al' := [(0, vR 1), (1, vI x1), (2, vI 1), (3, vI x3)]) dX6_hasCycle_125 rfl rfl (Nat.le_of_ble_eq_true rfl) ?_
                refine x_iinc (pc := 126) (al' := [(0, vR 1), (1, vI (x1 + (-1))), (2, vI 1), (3, vI x3)]) 1 dX6_hasCycle_126 rfl rfl rfl (Nat.le_of_ble_eq_true rfl) ?_
                refine x_iinc (pc := 129) (al' := [(0, vR 1), (1, vI (x1 + (-1))), (2, vI 1), (3, vI (x3 + 1))]) 3 dX6_hasCycle_129 rfl rfl rfl (Nat.le_of_ble_eq_true rfl) ?_
                refine x_goto (pc := 132) 49 dX6_hasCycle_132 (by decide) ?_
                exact x_sub [0, 1, 2, 3] rfl h
              · have h := hB40 hc
                refine x_goto (pc := 114) 129 dX6_hasCycle_114 (by decide) ?_
                refine x_iinc (pc := 129) (al' := [(0, vR 1), (1, vI x1), (2, vI x2), (3, vI (x3 + 1))]) 3 dX6_hasCycle_129 rfl rfl rfl (Nat.le_of_ble_eq_true rfl) ?_
                refine x_goto (pc := 132) 49 dX6_hasCycle_132 (by decide) ?_
                exact x_sub [0, 1, 2, 3] rfl h
