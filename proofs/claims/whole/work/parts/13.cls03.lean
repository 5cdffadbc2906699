set_option maxRecDepth 100000 in
set_option maxHeartbeats 4000000 in
theorem t_X2_isReady_0 {Γ : GG} {P : MP} {I : MM} {R : Int → MM → Prop} {x1 : Int} {q σ κ n : Nat} (hs : LSch Γ P q σ κ n)
    (h : (inR x1) ∧ (0 ≤ x1) ∧ (inR (x1 % 6)) ∧ (((x1 % 6) = 0 → (x1 < 36) ∧ (inR (I (q + 2) (x1).toNat)) ∧ (((I (q + 2) (x1).toNat) < 0 → R 1 I) ∧ (¬ (I (q + 2) (x1).toNat) < 0 → (0 ≤ (I (q + 2) (x1).toNat)) ∧ ((I (q + 2) (x1).toNat) < 36) ∧ (inR (I (q + 4) ((I (q + 2) (x1).toNat)).toNat)) ∧ (((I (q + 4) ((I (q + 2) (x1).toNat)).toNat) = 0 → R 0 I) ∧ (¬ (I (q + 4) ((I (q + 2) (x1).toNat)).toNat) = 0 → R 1 I))))) ∧ (¬ (x1 % 6) = 0 → (0 ≤ (x1 - 1)) ∧ ((x1 - 1) < 36) ∧ (inR (I (q + 4) ((x1 - 1)).toNat)) ∧ (((I (q + 4) ((x1 - 1)).toNat) = 0 → R 0 I) ∧ (¬ (I (q + 4) ((x1 - 1)).toNat) = 0 → (x1 < 36) ∧ (inR (I (q + 2) (x1).toNat)) ∧ (((I (q + 2) (x1).toNat) < 0 → R 1 I) ∧ (¬ (I (q + 2) (x1).toNat) < 0 → (0 ≤ (I (q + 2) (x1).toNat)) ∧ ((I (q + 2) (x1).toNat) < 36) ∧ (inR (I (q + 4) ((I (q + 2) (x1).toNat)).toNat)) ∧ (((I (q + 4) ((I (q + 2) (x1).toNat)).toNat) = 0 → R 0 I) ∧ (¬ (I (q + 4) ((I (q + 2) (x1).toNat)).toNat) = 0 → R 1 I))))))))) :
    XM Γ m_X2_isReady 0 0 0 [(0, vR q), (1, vI x1)] [] P I (ri P R) := by
  refine x_iload_n (pc := 0) 1 dX2_isReady_0 rfl ?_
  refine x_bipush (pc := 1) dX2_isReady_1 rfl ?_
  obtain ⟨hr1, h⟩ := h
  obtain ⟨hv2, h⟩ := h
  refine x_irem (pc := 3) dX2_isReady_3 hr1 ⟨by decide, by decide⟩ hv2 (by decide) ?_
  obtain ⟨hr3, h⟩ := h
  obtain ⟨hA4, hB5⟩ := h
  refine x_if_eq (pc := 4) 18 dX2_isReady_4 (by decide) hr3 (fun hc => ?_) (fun hc => ?_)
  · have h := hA4 hc
    refine x_aload_n (pc := 18) 0 dX2_isReady_18 rfl ?_
    refine x_getP (pc := 19) dX2_isReady_19 FC2 2 (by decide) rfl fl_X2_15 (LSch_ob hs) (LSch_p2 hs) ?_
    refine x_iload_n (pc := 22) 1 dX2_isReady_22 rfl ?_
    obtain ⟨hv6, h⟩ := h
    refine x_iald (pc := 23) dX2_isReady_23 (LSch_a2 hs) hv2 hv6 (by decide) ?_
    obtain ⟨hr7, h⟩ := h
    obtain ⟨hA8, hB9⟩ := h
    refine x_if_lt (pc := 24) 41 dX2_isReady_24 (by decide) hr7 (fun hc => ?_) (fun hc => ?_)
    · have h := hA8 hc
      refine x_iconst (pc := 41) dX2_isReady_41 ?_
      refine x_goto (pc := 42) 46 dX2_isReady_42 (by decide) ?_
      exact x_zret (pc := 46) dX2_isReady_46 rfl (by decide) (Nat.le_refl _) (Nat.le_refl _) ⟨_, rfl, rfl, h⟩
    · have h := hB9 hc
      refine x_aload_n (pc := 27) 0 dX2_isReady_27 rfl ?_
      refine x_getP (pc := 28) dX2_isReady_28 FC2 4 (by decide) rfl fl_X2_21 (LSch_ob hs) (LSch_p4 hs) ?_
      refine x_aload_n (pc := 31) 0 dX2_isReady_31 rfl ?_
      refine x_getP (pc := 32) dX2_isReady_32 FC2 2 (by decide) rfl fl_X2_15 (LSch_ob hs) (LSch_p2 hs) ?_
      refine x_iload_n (pc := 35) 1 dX2_isReady_35 rfl ?_
      refine x_iald (pc := 36) dX2_isReady_36 (LSch_a2 hs) hv2 hv6 (by decide) ?_
      obtain ⟨hv10, h⟩ := h
      obtain ⟨hv11, h⟩ := h
      refine x_zald (pc := 37) dX2_isReady_37 (LSch_a4 hs) hv10 hv11 (by decide) ?_
      obtain ⟨hr12, h⟩ := h
      obtain ⟨hA13, hB14⟩ := h
      refine x_if_eq (pc := 38) 45 dX2_isReady_38 (by decide) hr12 (fun hc => ?_) (fun hc => ?_)
      · have h := hA13 hc
        refine x_iconst (pc := 45) dX2_isReady_45 ?_
        exact x_zret (pc := 46) dX2_isReady_46 rfl (by decide) (Nat.le_refl _) (Nat.le_refl _) ⟨_, rfl, rfl, h⟩
      · have h := hB14 hc
        refine x_iconst (pc := 41) dX2_isReady_41 ?_
        refine x_goto (pc := 42) 46 dX2_isReady_42 (by decide) ?_
        exact x_zret (pc := 46) dX2_isReady_46 rfl (by decide) (Nat.le_refl _) (Nat.le_refl _) ⟨_, rfl, rfl, h⟩
  · have h := hB5 hc
    refine x_aload_n (pc := 7) 0 dX2_isReady_7 rfl ?_
    refine x_getP (pc := 8) dX2_isReady_8 FC2 4 (by decide) rfl fl_X2_21 (LSch_ob hs) (LSch_p4 hs) ?_
    refine x_iload_n (pc := 11) 1 dX2_isReady_11 rfl ?_
    refine x_iconst (pc := 12) dX2_isReady_12 ?_
    refine x_isub (pc := 13) dX2_isReady_13 ?_
    obtain ⟨hv15, h⟩ := h
    obtain ⟨hv16, h⟩ := h
    refine x_zald (pc := 14) dX2_isReady_14 (LSch_a4 hs) hv15 hv16 (by decide) ?_
    obtain ⟨hr17, h⟩ := h
    obtain ⟨hA18, hB19⟩ := h
    refine x_if_eq (pc := 15) 45 dX2_isReady_15 (by decide) hr17 (fun hc => ?_) (fun hc => ?_)
    · have h := hA18 hc
      refine x_iconst (pc := 45) dX2_isReady_45 ?_
      exact x_zret (pc := 46) dX2_isReady_46 rfl (by decide) (Nat.le_refl _) (Nat.le_refl _) ⟨_, rfl, rfl, h⟩
    · have h := hB19 hc
      refine x_aload_n (pc := 18) 0 dX2_isReady_18 rfl ?_
      refine x_getP (pc := 19) dX2_isReady_19 FC2 2 (by decide) rfl fl_X2_15 (LSch_ob hs) (LSch_p2 hs) ?_
      refine x_iload_n (pc := 22) 1 dX2_isReady_22 rfl ?_
      obtain ⟨hv20, h⟩ := h
      refine x_iald (pc := 23) dX2_isReady_23 (LSch_a2 hs) hv2 hv20 (by decide) ?_
      obtain ⟨hr21, h⟩ := h
      obtain ⟨hA22, hB23⟩ := h
      refine x_if_lt (pc := 24) 41 dX2_isReady_24 (by decide) hr21 (fun hc => ?_) (fun hc => ?_)
      · have h := hA22 hc
        refine x_iconst (pc := 41) dX2_isReady_41 ?_
        refine x_goto (pc := 42) 46 dX2_isReady_42 (by decide) ?_
        exact x_zret (pc := 46) dX2_isReady_46 rfl (by decide) (Nat.le_refl _) (Nat.le_refl _) ⟨_, rfl, rfl, h⟩
      · have h := hB23 hc
        refine x_aload_n (pc := 27) 0 dX2_isReady_27 rfl ?_
        refine x_getP (pc := 28) dX2_isReady_28 FC2 4 (by decide) rfl fl_X2_21 (LSch_ob hs) (LSch_p4 hs) ?_
        refine x_aload_n (pc := 31) 0 dX2_isReady_31 rfl ?_
        refine x_getP (pc := 32) dX2_isReady_32 FC2 2 (by decide) rfl fl_X2_15 (LSch_ob hs) (LSch_p2 hs) ?_
        refine x_iload_n (pc := 35) 1 dX2_isReady_35 rfl ?_
        refine x_iald (pc := 36) dX2_isReady_36 (LSch_a2 hs) hv2 hv20 (by decide) ?_
        obtain ⟨hv24, h⟩ := h
        obtain ⟨hv25, h⟩ := h
        refine x_zald (pc := 37) dX2_isReady_37 (LSch_a4 hs) hv24 hv25 (by decide) ?_
        obtain ⟨hr26, h⟩ := h
        obtain ⟨hA27, hB28⟩ := h
        refine x_if_eq (pc := 38) 45 dX2_isReady_38 (by decide) hr26 (fun hc => ?_) (fun hc => ?_)
        · have h := hA27 hc
          refine x_iconst (pc := 45) dX2_isReady_45 ?_
          exact x_zret (pc := 46) dX2_isReady_46 rfl (by decide) (Nat.le_refl _) (Nat.le_refl _) ⟨_, rfl, rfl, h⟩
        · have h := hB28 hc
          refine x_iconst (pc := 41) dX2_isReady_41 ?_
          refine x_goto (pc := 42) 46 dX2_isReady_42 (by decide) ?_
          exact x_zret (pc := 46) dX2_isReady_46 rfl (by decide) (Nat.le_refl _) (Nat.le_refl _) ⟨_, rfl, rfl, h⟩
set_option maxRecDepth 100000 in
set_option maxHeartbeats 4000000 in
theorem t_X2_earliestStart_0 {Γ : GG} {P : MP} {I : MM} {R : Int → MM → Prop} {x1 : Int} {q σ κ n : Nat} (hs : LSch Γ P q σ κ n)
    (h : (inR x1) ∧ (0 ≤ x1) ∧ (0 ≤ (x1 / 6)) ∧ ((x1 / 6) < 6) ∧ (∀ u5 : Int, u5 = (I (σ + 4) ((x1 / 6)).toNat) → (inR (x1 % 6)) ∧ (((x1 % 6) ≠ 0 → (0 ≤ (x1 - 1)) ∧ ((x1 - 1) < 36) ∧ (∀ u11 : Int, u11 = ((I (q + 1) ((x1 - 1)).toNat) + (I ((q + 8) + 1) ((x1 - 1)).toNat)) → (x1 < 36) ∧ (inR (I (q + 2) (x1).toNat)) ∧ ((0 ≤ (I (q + 2) (x1).toNat) → (0 ≤ (I (q + 2) (x1).toNat)) ∧ ((I (q + 2) (x1).toNat) < 36) ∧ (∀ u18 : Int, u18 = ((I (q + 1) ((I (q + 2) (x1).toNat)).toNat) + (I (q + 3) (x1).toNat)) → (inR u11) ∧ (inR u18) ∧ R (max u11 u18) I)) ∧ (¬ 0 ≤ (I (q + 2) (x1).toNat) → (inR u11) ∧ (inR u5) ∧ R (max u11 u5) I)))) ∧ ((x1 % 6) = 0 → (x1 < 36) ∧ (inR (I (q + 2) (x1).toNat)) ∧ ((0 ≤ (I (q + 2) (x1).toNat) → (0 ≤ (I (q + 2) (x1).toNat)) ∧ ((I (q + 2) (x1).toNat) < 36) ∧ (∀ u29 : Int, u29 = ((I (q + 1) ((I (q + 2) (x1).toNat)).toNat) + (I (q + 3) (x1).toNat)) → (inR u5) ∧ (inR u29) ∧ R (max u5 u29) I)) ∧ (¬ 0 ≤ (I (q + 2) (x1).toNat) → (inR u5) ∧ R (max u5 u5) I)))))) :
    XM Γ m_X2_earliestStart 0 0 0 [(0, vR q), (1, vI x1)] [] P I (ri P R) := by
  refine x_aload_n (pc := 0) 0 dX2_earliestStart_0 rfl ?_
  refine x_getP (pc := 1) dX2_earliestStart_1 FC2 0 (by decide) rfl fl_X2_44 (LSch_ob hs) (LSch_p0 hs) ?_
  refine x_getP (pc := 4) dX2_earliestStart_4 FC1 0 (by decide) rfl fl_X2_48 (LPlan_ob (LSch_p hs)) (LPlan_p0 (LSch_p hs)) ?_
  refine x_getP (pc := 7) dX2_earliestStart_7 FC4 6 (by decide) rfl fl_X2_104 (LShop_ob (LPlan_s (LSch_p hs))) (LShop_p6 (LPlan_s (LSch_p hs))) ?_
  refine x_iload_n (pc := 10) 1 dX2_earliestStart_10 rfl ?_
  refine x_bipush (pc := 11) dX2_earliestStart_11 rfl ?_
  obtain ⟨hr1, h⟩ := h
  obtain ⟨hv2, h⟩ := h
  refine x_idiv (pc := 13) dX2_earliestStart_13 hr1 ⟨by decide, by decide⟩ hv2 (by decide) ?_
  obtain ⟨hv3, h⟩ := h
  obtain ⟨hv4, h⟩ := h
  refine x_iald (pc := 14) dX2_earliestStart_14 (LShop_a6 (LPlan_s (LSch_p hs))) hv3 hv4 (by decide) ?_
  refine x_nmT (fun u5 eu5 => ?_)
  have h := h u5 eu5
  refine x_istore_n (pc := 15) (al' := [(0, vR q), (1, vI x1), (2, vI u5)]) dX2_earliestStart_15 rfl rfl (Nat.le_of_ble_eq_true rfl) ?_
  refine x_iload_n (pc := 16) 1 dX2_earliestStart_16 rfl ?_
  refine x_bipush (pc := 17) dX2_earliestStart_17 rfl ?_
  refine x_irem (pc := 19) dX2_earliestStart_19 hr1 ⟨by decide, by decide⟩ hv2 (by decide) ?_
  obtain ⟨hr6, h⟩ := h
  obtain ⟨hA7, hB8⟩ := h
  refine x_if_ne (pc := 20) 27 dX2_earliestStart_20 (by decide) hr6 (fun hc => ?_) (fun hc => ?_)
  · have h := hA7 hc
    refine x_aload_n (pc := 27) 0 dX2_earliestStart_27 rfl ?_
    refine x_getP (pc := 28) dX2_earliestStart_28 FC2 1 (by decide) rfl fl_X2_9 (LSch_ob hs) (LSch_p1 hs) ?_
    refine x_iload_n (pc := 31) 1 dX2_earliestStart_31 rfl ?_
    refine x_iconst (pc := 32) dX2_earliestStart_32 ?_
    refine x_isub (pc := 33) dX2_earliestStart_33 ?_
    obtain ⟨hv9, h⟩ := h
    obtain ⟨hv10, h⟩ := h
    refine x_iald (pc := 34) dX2_earliestStart_34 (LSch_a1 hs) hv9 hv10 (by decide) ?_
    refine x_aload_n (pc := 35) 0 dX2_earliestStart_35 rfl ?_
    refine x_getP (pc := 36) dX2_earliestStart_36 FC2 0 (by decide) rfl fl_X2_44 (LSch_ob hs) (LSch_p0 hs) ?_
    refine x_getP (pc := 39) dX2_earliestStart_39 FC1 1 (by decide) rfl fl_X2_91 (LPlan_ob (LSch_p hs)) (LPlan_p1 (LSch_p hs)) ?_
    refine x_iload_n (pc := 42) 1 dX2_earliestStart_42 rfl ?_
    refine x_iconst (pc := 43) dX2_earliestStart_43 ?_
    refine x_isub (pc := 44) dX2_earliestStart_44 ?_
    refine x_iald (pc := 45) dX2_earliestStart_45 (LPlan_a1 (LSch_p hs)) hv9 hv10 (by decide) ?_
    refine x_iadd (pc := 46) dX2_earliestStart_46 ?_
    refine x_nmT (fun u11 eu11 => ?_)
    have h := h u11 eu11
    refine x_istore_n (pc := 47) (al' := [(0, vR q), (1, vI x1), (2, vI u5), (3, vI u11)]) dX2_earliestStart_47 rfl rfl (Nat.le_of_ble_eq_true rfl) ?_
    refine x_aload_n (pc := 48) 0 dX2_earliestStart_48 rfl ?_
    refine x_getP (pc := 49) dX2_earliestStart_49 FC2 2 (by decide) rfl fl_X2_15 (LSch_ob hs) (LSch_p2 hs) ?_
    refine x_iload_n (pc := 52) 1 dX2_earliestStart_52 rfl ?_
    obtain ⟨hv12, h⟩ := h
    refine x_iald (pc := 53) dX2_earliestStart_53 (LSch_a2 hs) hv2 hv12 (by decide) ?_
    obtain ⟨hr13, h⟩ := h
    obtain ⟨hA14, hB15⟩ := h
    refine x_if_ge (pc := 54) 61 dX2_earliestStart_54 (by decide) hr13 (fun hc => ?_) (fun hc => ?_)
    · have h := hA14 hc
      refine x_aload_n (pc := 61) 0 dX2_earliestStart_61 rfl ?_
      refine x_getP (pc := 62) dX2_earliestStart_62 FC2 1 (by decide) rfl fl_X2_9 (LSch_ob hs) (LSch_p1 hs) ?_
      refine x_aload_n (pc := 65) 0 dX2_earliestStart_65 rfl ?_
      refine x_getP (pc := 66) dX2_earliestStart_66 FC2 2 (by decide) rfl fl_X2_15 (LSch_ob hs) (LSch_p2 hs) ?_
      refine x_iload_n (pc := 69) 1 dX2_earliestStart_69 rfl ?_
      refine x_iald (pc := 70) dX2_earliestStart_70 (LSch_a2 hs) hv2 hv12 (by decide) ?_
      obtain ⟨hv16, h⟩ := h
      obtain ⟨hv17, h⟩ := h
      refine x_iald (pc := 71) dX2_earliestStart_71 (LSch_a1 hs) hv16 hv17 (by decide) ?_
      refine x_aload_n (pc := 72) 0 dX2_earliestStart_72 rfl ?_
      refine x_getP (pc := 73) dX2_earliestStart_73 FC2 3 (by decide) rfl fl_X2_18 (LSch_ob hs) (LSch_p3 hs) ?_
      refine x_iload_n (pc := 76) 1 dX2_earliestStart_76 rfl ?_
      refine x_iald (pc := 77) dX2_earliestStart_77 (LSch_a3 hs) hv2 hv12 (by decide) ?_
      refine x_iadd (pc := 78) dX2_earliestStart_78 ?_
      refine x_nmT (fun u18 eu18 => ?_)
      have h := h u18 eu18
      refine x_istore (pc := 79) (al' := [(0, vR q), (1, vI x1), (2, vI u5), (3, vI u11), (4, vI u18)]) dX2_earliestStart_79 rfl rfl (Nat.le_of_ble_eq_true rfl) ?_
      refine x_iload_n (pc := 81) 3 dX2_earliestStart_81 rfl ?_
      refine x_iload (pc := 82) 4 dX2_earliestStart_82 rfl ?_
      obtain ⟨hr19, h⟩ := h
      obtain ⟨hr20, h⟩ := h
      refine x_mmax (pc := 84) dX2_earliestStart_84 ml_X2_114 mth_max.1 mth_max.2.1 mth_max.2.2 ⟨Nat.le_of_ble_eq_true rfl, Nat.le_of_ble_eq_true rfl⟩ ⟨Nat.zero_le _, Nat.zero_le _⟩ hr19 hr20 ?_
      exact x_iret (pc := 87) dX2_earliestStart_87 rfl (Nat.le_refl _) (Nat.le_refl _) ⟨_, rfl, rfl, h⟩
    · have h := hB15 hc
      refine x_iload_n (pc := 57) 2 dX2_earliestStart_57 rfl ?_
      refine x_goto (pc := 58) 79 dX2_earliestStart_58 (by decide) ?_
      refine x_istore (pc := 79) (al' := [(0, vR q), (1, vI x1), (2, vI u5), (3, vI u11), (4, vI u5)]) dX2_earliestStart_79 rfl rfl (Nat.le_of_ble_eq_true rfl) ?_
      refine x_iload_n (pc := 81) 3 dX2_earliestStart_81 rfl ?_
      refine x_iload (pc := 82) 4 dX2_earliestStart_82 rfl ?_
      obtain ⟨hr21, h⟩ := h
      obtain ⟨hr22, h⟩ := h
      refine x_mmax (pc := 84) dX2_earliestStart_84 ml_X2_114 mth_max.1 mth_max.2.1 mth_max.2.2 ⟨Nat.le_of_ble_eq_true rfl, Nat.le_of_ble_eq_true rfl⟩ ⟨Nat.zero_le _, Nat.zero_le _⟩ hr21 hr22 ?_
      exact x_iret (pc := 87) dX2_earliestStart_87 rfl (Nat.le_refl _) (Nat.le_refl _) ⟨_, rfl, rfl, h⟩
  · have h := hB8 hc
    refine x_iload_n (pc := 23) 2 dX2_earliestStart_23 rfl ?_
    refine x_goto (pc := 24) 47 dX2_earliestStart_24 (by decide) ?_
    refine x_istore_n (pc := 47) (al' := [(0, vR q), (1, vI x1), (2, vI u5), (3, vI u5)]) dX2_earliestStart_47 rfl rfl (Nat.le_of_ble_eq_true rfl) ?_
    refine x_aload_n (pc := 48) 0 dX2_earliestStart_48 rfl ?_
    refine x_getP (pc := 49) dX2_earliestStart_49 FC2 2 (by decide) rfl fl_X2_15 (LSch_ob hs) (LSch_p2 hs) ?_
    refine x_iload_n (pc := 52) 1 dX2_earliestStart_52 rfl ?_
    obtain ⟨hv23, h⟩ := h
    refine x_iald (pc := 53) dX2_earliestStart_53 (LSch_a2 hs) hv2 hv23 (by decide) ?_
    obtain ⟨hr24, h⟩ := h
    obtain ⟨hA25, hB26⟩ := h
    refine x_if_ge (pc := 54) 61 dX2_earliestStart_54 (by decide) hr24 (fun hc => ?_) (fun hc => ?_)
    · have h := hA25 hc
      refine x_aload_n (pc := 61) 0 dX2_earliestStart_61 rfl ?_
      refine x_getP (pc := 62) dX2_earliestStart_62 FC2 1 (by decide) rfl fl_X2_9 (LSch_ob hs) (LSch_p1 hs) ?_
      refine x_aload_n (pc := 65) 0 dX2_earliestStart_65 rfl ?_
      refine x_getP (pc := 66) dX2_earliestStart_66 FC2 2 (by decide) rfl fl_X2_15 (LSch_ob hs) (LSch_p2 hs) ?_
      refine x_iload_n (pc := 69) 1 dX2_earliestStart_69 rfl ?_
      refine x_iald (pc := 70) dX2_earliestStart_70 (LSch_a2 hs) hv2 hv23 (by decide) ?_
      obtain ⟨hv27, h⟩ := h
      obtain ⟨hv28, h⟩ := h
      refine x_iald (pc := 71) dX2_earliestStart_71 (LSch_a1 hs) hv27 hv28 (by decide) ?_
      refine x_aload_n (pc := 72) 0 dX2_earliestStart_72 rfl ?_
      refine x_getP (pc := 73) dX2_earliestStart_73 FC2 3 (by decide) rfl fl_X2_18 (LSch_ob hs) (LSch_p3 hs) ?_
      refine x_iload_n (pc := 76) 1 dX2_earliestStart_76 rfl ?_
      refine x_iald (pc := 77) dX2_earliestStart_77 (LSch_a3 hs) hv2 hv23 (by decide) ?_
      refine x_iadd (pc := 78) dX2_earliestStart_78 ?_
      refine x_nmT (fun u29 eu29 => ?_)
      have h := h u29 eu29
      refine x_istore (pc := 79) (al' := [(0, vR q), (1, vI x1), (2, vI u5), (3, vI u5), (4, vI u29)]) dX2_earliestStart_79 rfl rfl (Nat.le_of_ble_eq_true rfl) ?_
      refine x_iload_n (pc := 81) 3 dX2_earliestStart_81 rfl ?_
      refine x_iload (pc := 82) 4 dX2_earliestStart_82 rfl ?_
      obtain ⟨hr30, h⟩ := h
      obtain ⟨hr31, h⟩ := h
      refine x_mmax (pc := 84) dX2_earliestStart_84 ml_X2_114 mth_max.1 mth_max.2.1 mth_max.2.2 ⟨Nat.le_of_ble_eq_true rfl, Nat.le_of_ble_eq_true rfl⟩ ⟨Nat.zero_le _, Nat.zero_le _⟩ hr30 hr31 ?_
      exact x_iret (pc := 87) dX2_earliestStart_87 rfl (Nat.le_refl _) (Nat.le_refl _) ⟨_, rfl, rfl, h⟩
    · have h := hB26 hc
      refine x_iload_n (pc := 57) 2 dX2_earliestStart_57 rfl ?_
      refine x_goto (pc := 58) 79 dX2_earliestStart_58 (by decide) ?_
      refine x_istore (pc := 79) (al' := [(0, vR q), (1, vI x1), (2, vI u5), (3, vI u5), (4, vI u5)]) dX2_earliestStart_79 rfl rfl (Nat.le_of_ble_eq_true rfl) ?_
      refine x_iload_n (pc := 81) 3 dX2_earliestStart_81 rfl ?_
      refine x_iload (pc := 82) 4 dX2_earliestStart_82 rfl ?_
      obtain ⟨hr32, h⟩ := h
      refine x_mmax (pc := 84) dX2_earliestStart_84 ml_X2_114 mth_max.1 mth_max.2.1 mth_max.2.2 ⟨Nat.le_of_ble_eq_true rfl, Nat.le_of_ble_eq_true rfl⟩ ⟨Nat.zero_le _, Nat.zero_le _⟩ hr32 hr32 ?_
      exact x_iret (pc := 87) dX2_earliestStart_87 rfl (Nat.le_refl _) (Nat.le_refl _) ⟨_, rfl, rfl, h⟩
set_option maxRecDepth 100000 in
set_option maxHeartbeats 4000000 in
theorem t_X2_settleRing_0 {Γ : GG} {P : MP} {I : MM} {R : Int → MM → Prop} {q σ κ n : Nat} (hs : LSch Γ P q σ κ n)
    (h : XM Γ m_X2_settleRing 0 0 2 [(0, vR q), (1, vI 0)] [] P I (ri P R)) :
    XM Γ m_X2_settleRing 0 0 0 [(0, vR q)] [] P I (ri P R) := by
  refine x_iconst (pc := 0) dX2_settleRing_0 ?_
  refine x_istore_n (pc := 1) (al' := [(0, vR q), (1, vI 0)]) dX2_settleRing_1 rfl rfl (Nat.le_of_ble_eq_true rfl) ?_
  exact x_sub [0, 1] rfl h
set_option maxRecDepth 100000 in
set_option maxHeartbeats 4000000 in
theorem t_X2_settleRing_2 {Γ : GG} {P : MP} {I : MM} {R : Int → MM → Prop} {x1 : Int} {q σ κ n : Nat} (hs : LSch Γ P q σ κ n)
    (h : (inR x1) ∧ (inR (I σ 1)) ∧ (((I σ 1) ≤ x1 → R 0 I) ∧ (¬ (I σ 1) ≤ x1 → XM Γ m_X2_settleRing 0 0 18 [(0, vR q), (1, vI x1), (2, vI 0)] [] P I (ri P R)))) :
    XM Γ m_X2_settleRing 0 0 2 [(0, vR q), (1, vI x1)] [] P I (ri P R) := by
  refine x_iload_n (pc := 2) 1 dX2_settleRing_2 rfl ?_
  refine x_aload_n (pc := 3) 0 dX2_settleRing_3 rfl ?_
  refine x_getP (pc := 4) dX2_settleRing_4 FC2 0 (by decide) rfl fl_X2_44 (LSch_ob hs) (LSch_p0 hs) ?_
  refine x_getP (pc := 7) dX2_settleRing_7 FC1 0 (by decide) rfl fl_X2_48 (LPlan_ob (LSch_p hs)) (LPlan_p0 (LSch_p hs)) ?_
  refine x_getI (pc := 10) dX2_settleRing_10 FC4 1 (by decide) rfl fl_X2_94 (LShop_ob (LPlan_s (LSch_p hs))) ?_
  obtain ⟨hr1, h⟩ := h
  obtain ⟨hr2, h⟩ := h
  obtain ⟨hA3, hB4⟩ := h
  refine x_icmp_ge (pc := 13) 87 dX2_settleRing_13 (by decide) hr1 hr2 (fun hc => ?_) (fun hc => ?_)
  · have h := hA3 hc
    refine x_iconst (pc := 87) dX2_settleRing_87 ?_
    exact x_iret (pc := 88) dX2_settleRing_88 rfl (Nat.le_refl _) (Nat.le_refl _) ⟨_, rfl, rfl, h⟩
  · have h := hB4 hc
    refine x_iconst (pc := 16) dX2_settleRing_16 ?_
    refine x_istore_n (pc := 17) (al' := [(0, vR q), (1, vI x1), (2, vI 0)]) dX2_settleRing_17 rfl rfl (Nat.le_of_ble_eq_true rfl) ?_
    exact x_sub [0, 1, 2] rfl h
set_option maxRecDepth 100000 in
set_option maxHeartbeats 4000000 in
theorem t_X2_settleRing_18 {Γ : GG} {P : MP} {I : MM} {R : Int → MM → Prop} {x1 x2 : Int} {q σ κ n : Nat} (hs : LSch Γ P q σ κ n)
    (h : (0 ≤ x1) ∧ (x1 < 6) ∧ (inR x2) ∧ (inR (I (σ + 7) (x1).toNat)) ∧ (((I (σ + 7) (x1).toNat) ≤ x2 → XM Γ m_X2_settleRing 0 0 2 [(0, vR q), (1, vI (x1 + 1))] [] P I (ri P R)) ∧ (¬ (I (σ + 7) (x1).toNat) ≤ x2 → (Cl Γ m_X5_idOf [vI x1, vI x2] P I (ri P (fun (z7 : Int) (I8 : MM) => (0 ≤ z7) ∧ (z7 < 36) ∧ (inR (I8 (q + 4) (z7).toNat)) ∧ (((I8 (q + 4) (z7).toNat) = 0 → (Cl Γ m_X2_sizeOfRing [vR q, vI z7] P I8 (ri P (fun (z14 : Int) (I15 : MM) => (inR z14) ∧ ((z14 ≤ 0 → XM Γ m_X2_settleRing 0 0 18 [(0, vR q), (1, vI x1), (2, vI (x2 + 1))] [] P I15 (ri P R)) ∧ (¬ z14 ≤ 0 → (Cl Γ m_X2_startTogether [vR q, vI z7, vI z14] P I15 (rv P (fun (I19 : MM) => R z14 I19))))))))) ∧ (¬ (I8 (q + 4) (z7).toNat) = 0 → XM Γ m_X2_settleRing 0 0 18 [(0, vR q), (1, vI x1), (2, vI (x2 + 1))] [] P I8 (ri P R))))))))) :
    XM Γ m_X2_settleRing 0 0 18 [(0, vR q), (1, vI x1), (2, vI x2)] [] P I (ri P R) := by
  refine x_iload_n (pc := 18) 2 dX2_settleRing_18 rfl ?_
  refine x_aload_n (pc := 19) 0 dX2_settleRing_19 rfl ?_
  refine x_getP (pc := 20) dX2_settleRing_20 FC2 0 (by decide) rfl fl_X2_44 (LSch_ob hs) (LSch_p0 hs) ?_
  refine x_getP (pc := 23) dX2_settleRing_23 FC1 0 (by decide) rfl fl_X2_48 (LPlan_ob (LSch_p hs)) (LPlan_p0 (LSch_p hs)) ?_
  refine x_getP (pc := 26) dX2_settleRing_26 FC4 9 (by decide) rfl fl_X2_97 (LShop_ob (LPlan_s (LSch_p hs))) (LShop_p9 (LPlan_s (LSch_p hs))) ?_
  refine x_iload_n (pc := 29) 1 dX2_settleRing_29 rfl ?_
  obtain ⟨hv1, h⟩ := h
  obtain ⟨hv2, h⟩ := h
  refine x_iald (pc := 30) dX2_settleRing_30 (LShop_a9 (LPlan_s (LSch_p hs))) hv1 hv2 (by decide) ?_
  obtain ⟨hr3, h⟩ := h
  obtain ⟨hr4, h⟩ := h
  obtain ⟨hA5, hB6⟩ := h
  refine x_icmp_ge (pc := 31) 81 dX2_settleRing_31 (by decide) hr3 hr4 (fun hc => ?_) (fun hc => ?_)
  · have h := hA5 hc
    refine x_iinc (pc := 81) (al' := [(0, vR q), (1, vI (x1 + 1)), (2, vI x2)]) 1 dX2_settleRing_81 rfl rfl rfl (Nat.le_of_ble_eq_true rfl) ?_
    refine x_goto (pc := 84) 2 dX2_settleRing_84 (by decide) ?_
    exact x_sub [0, 1] rfl h
  · have h := hB6 hc
    refine x_iload_n (pc := 34) 1 dX2_settleRing_34 rfl ?_
    refine x_iload_n (pc := 35) 2 dX2_settleRing_35 rfl ?_
    refine x_Ni (μ := m_X2_settleRing) (pc := 36) "BlockingShop" dX2_settleRing_36 h k_X5_idOf (by decide +kernel) ⟨Nat.le_of_ble_eq_true rfl, Nat.le_of_ble_eq_true rfl⟩ ⟨rfl, rfl⟩ ⟨Nat.zero_le _, Nat.zero_le _⟩ rfl (Nat.le_of_ble_eq_true rfl) _ rfl (fun z7 I8 h => ?_)
    refine x_istore_n (pc := 39) (al' := [(0, vR q), (1, vI x1), (2, vI x2), (3, vI z7)]) dX2_settleRing_39 rfl rfl (Nat.le_of_ble_eq_true rfl) ?_
    refine x_aload_n (pc := 40) 0 dX2_settleRing_40 rfl ?_
    refine x_getP (pc := 41) dX2_settleRing_41 FC2 4 (by decide) rfl fl_X2_21 (LSch_ob hs) (LSch_p4 hs) ?_
    refine x_iload_n (pc := 44) 3 dX2_settleRing_44 rfl ?_
    obtain ⟨hv9, h⟩ := h
    obtain ⟨hv10, h⟩ := h
    refine x_zald (pc := 45) dX2_settleRing_45 (LSch_a4 hs) hv9 hv10 (by decide) ?_
    obtain ⟨hr11, h⟩ := h
    obtain ⟨hA12, hB13⟩ := h
    refine x_if_eq (pc := 46) 53 dX2_settleRing_46 (by decide) hr11 (fun hc => ?_) (fun hc => ?_)
    · have h := hA12 hc
      refine x_aload_n (pc := 53) 0 dX2_settleRing_53 rfl ?_
      refine x_iload_n (pc := 54) 3 dX2_settleRing_54 rfl ?_
      refine x_Vi (μ := m_X2_settleRing) (pc := 55) dX2_settleRing_55 h k_X2_sizeOfRing ml_X2_119 ⟨Nat.le_of_ble_eq_true rfl, Nat.le_of_ble_eq_true rfl⟩ ⟨rfl, rfl⟩ ⟨Nat.zero_le _, Nat.zero_le _⟩ rfl (LSch_ob hs) rfl (Nat.le_of_ble_eq_true rfl) _ rfl (fun z14 I15 h => ?_)
      refine x_istore (pc := 58) (al' := [(0, vR q), (1, vI x1), (2, vI x2), (3, vI z7), (4, vI z14)]) dX2_settleRing_58 rfl rfl (Nat.le_of_ble_eq_true rfl) ?_
      refine x_iload (pc := 60) 4 dX2_settleRing_60 rfl ?_
      obtain ⟨hr16, h⟩ := h
      obtain ⟨hA17, hB18⟩ := h
      refine x_if_le (pc := 62) 75 dX2_settleRing_62 (by decide) hr16 (fun hc => ?_) (fun hc => ?_)
      · have h := hA17 hc
        refine x_iinc (pc := 75) (al' := [(0, vR q), (1, vI x1), (2, vI (x2 + 1)), (3, vI z7), (4, vI z14)]) 2 dX2_settleRing_75 rfl rfl rfl (Nat.le_of_ble_eq_true rfl) ?_
        refine x_goto (pc := 78) 18 dX2_settleRing_78 (by decide) ?_
        exact x_sub [0, 1, 2] rfl h
      · have h := hB18 hc
        refine x_aload_n (pc := 65) 0 dX2_settleRing_65 rfl ?_
        refine x_iload_n (pc := 66) 3 dX2_settleRing_66 rfl ?_
        refine x_iload (pc := 67) 4 dX2_settleRing_67 rfl ?_
        refine x_Vv (μ := m_X2_settleRing) (pc := 69) dX2_settleRing_69 h k_X2_startTogether ml_X2_122 ⟨Nat.le_of_ble_eq_true rfl, Nat.le_of_ble_eq_true rfl⟩ ⟨rfl, rfl⟩ ⟨Nat.zero_le _, Nat.zero_le _⟩ rfl (LSch_ob hs) rfl (Nat.le_of_ble_eq_true rfl) _ rfl (fun I19 h => ?_)
        refine x_iload (pc := 72) 4 dX2_settleRing_72 rfl ?_
        exact x_iret (pc := 74) dX2_settleRing_74 rfl (Nat.le_refl _) (Nat.le_refl _) ⟨_, rfl, rfl, h⟩
    · have h := hB13 hc
      refine x_iconst (pc := 49) dX2_settleRing_49 ?_
      refine x_goto (pc := 50) 58 dX2_settleRing_50 (by decide) ?_
      refine x_istore (pc := 58) (al' := [(0, vR q), (1, vI x1), (2, vI x2), (3, vI z7), (4, vI 0)]) dX2_settleRing_58 rfl rfl (Nat.le_of_ble_eq_true rfl) ?_
      refine x_iload (pc := 60) 4 dX2_settleRing_60 rfl ?_
      refine x_if_le (pc := 62) 75 dX2_settleRing_62 (by decide) ⟨by decide, by decide⟩ (fun hc => ?_) (fun hc => absurd hc (by decide))
      refine x_iinc (pc := 75) (al' := [(0, vR q), (1, vI x1), (2, vI (x2 + 1)), (3, vI z7), (4, vI 0)]) 2 dX2_settleRing_75 rfl rfl rfl (Nat.le_of_ble_eq_true rfl) ?_
      refine x_goto (pc := 78) 18 dX2_settleRing_78 (by decide) ?_
      exact x_sub [0, 1, 2] rfl h
set_option maxRecDepth 100000 in
set_option maxHeartbeats 4000000 in
theorem t_X2_sizeOfRing_0 {Γ : GG} {P : MP} {I : MM} {R : Int → MM → Prop} {x1 : Int} {q σ κ n : Nat} (hs : LSch Γ P q σ κ n)
    (h : XM Γ m_X2_sizeOfRing 0 0 4 [(0, vR q), (1, vI x1), (2, vI x1), (3, vI 1)] [] P I (ri P R)) :
    XM Γ m_X2_sizeOfRing 0 0 0 [(0, vR q), (1, vI x1)] [] P I (ri P R) := by
  refine x_iload_n (pc := 0) 1 dX2_sizeOfRing_0 rfl ?_
  refine x_istore_n (pc := 1) (al' := [(0, vR q), (1, vI x1), (2, vI x1)]) dX2_sizeOfRing_1 rfl rfl (Nat.le_of_ble_eq_true rfl) ?_
  refine x_iconst (pc := 2) dX2_sizeOfRing_2 ?_
  refine x_istore_n (pc := 3) (al' := [(0, vR q), (1, vI x1), (2, vI x1), (3, vI 1)]) dX2_sizeOfRing_3 rfl rfl (Nat.le_of_ble_eq_true rfl) ?_
  exact x_sub [0, 1, 2, 3] rfl h
set_option maxRecDepth 100000 in
set_option maxHeartbeats 4000000 in
theorem t_X2_sizeOfRing_4 {Γ : GG} {P : MP} {I : MM} {R : Int → MM → Prop} {x1 x2 x3 : Int} {q σ κ n : Nat} (hs : LSch Γ P q σ κ n)
    (h : (inR x3) ∧ ((36 < x3 → R 0 I) ∧ (¬ 36 < x3 → (inR x2) ∧ (0 ≤ x2) ∧ (inR (x2 % 6)) ∧ (((x2 % 6) = 0 → R 0 I) ∧ (¬ (x2 % 6) = 0 → (0 ≤ (x2 - 1)) ∧ ((x2 - 1) < 36) ∧ (inR (I (q + 4) ((x2 - 1)).toNat)) ∧ (((I (q + 4) ((x2 - 1)).toNat) = 0 → R 0 I) ∧ (¬ (I (q + 4) ((x2 - 1)).toNat) = 0 → (x2 < 36) ∧ (inR (I (q + 2) (x2).toNat)) ∧ (((I (q + 2) (x2).toNat) < 0 → R 0 I) ∧ (¬ (I (q + 2) (x2).toNat) < 0 → (inR (I (q + 3) (x2).toNat)) ∧ (((I (q + 3) (x2).toNat) ≤ 0 → (∀ u21 : Int, u21 = (I (q + 2) (x2).toNat) → (inR u21) ∧ (inR x1) ∧ ((u21 ≠ x1 → XM Γ m_X2_sizeOfRing 0 0 4 [(0, vR q), (1, vI x1), (2, vI u21), (3, vI (x3 + 1))] [] P I (ri P R)) ∧ (u21 = x1 → R x3 I)))) ∧ (¬ (I (q + 3) (x2).toNat) ≤ 0 → R 0 I))))))))))) :
    XM Γ m_X2_sizeOfRing 0 0 4 [(0, vR q), (1, vI x1), (2, vI x2), (3, vI x3)] [] P I (ri P R) := by
  refine x_iload_n (pc := 4) 3 dX2_sizeOfRing_4 rfl ?_
  refine x_bipush (pc := 5) dX2_sizeOfRing_5 rfl ?_
  obtain ⟨hr1, h⟩ := h
  obtain ⟨hA2, hB3⟩ := h
  refine x_icmp_gt (pc := 7) 68 dX2_sizeOfRing_7 (by decide) hr1 ⟨by decide, by decide⟩ (fun hc => ?_) (fun hc => ?_)
  · have h := hA2 hc
    refine x_iconst (pc := 68) dX2_sizeOfRing_68 ?_
    exact x_iret (pc := 69) dX2_sizeOfRing_69 rfl (Nat.le_refl _) (Nat.le_refl _) ⟨_, rfl, rfl, h⟩
  · have h := hB3 hc
    refine x_iload_n (pc := 10) 2 dX2_sizeOfRing_10 rfl ?_
    refine x_bipush (pc := 11) dX2_sizeOfRing_11 rfl ?_
    obtain ⟨hr4, h⟩ := h
    obtain ⟨hv5, h⟩ := h
    refine x_irem (pc := 13) dX2_sizeOfRing_13 hr4 ⟨by decide, by decide⟩ hv5 (by decide) ?_
    obtain ⟨hr6, h⟩ := h
    obtain ⟨hA7, hB8⟩ := h
    refine x_if_eq (pc := 14) 46 dX2_sizeOfRing_14 (by decide) hr6 (fun hc => ?_) (fun hc => ?_)
    · have h := hA7 hc
      refine x_iconst (pc := 46) dX2_sizeOfRing_46 ?_
      exact x_iret (pc := 47) dX2_sizeOfRing_47 rfl (Nat.le_refl _) (Nat.le_refl _) ⟨_, rfl, rfl, h⟩
    · have h := hB8 hc
      refine x_aload_n (pc := 17) 0 dX2_sizeOfRing_17 rfl ?_
      refine x_getP (pc := 18) dX2_sizeOfRing_18 FC2 4 (by decide) rfl fl_X2_21 (LSch_ob hs) (LSch_p4 hs) ?_
      refine x_iload_n (pc := 21) 2 dX2_sizeOfRing_21 rfl ?_
      refine x_iconst (pc := 22) dX2_sizeOfRing_22 ?_
      refine x_isub (pc := 23) dX2_sizeOfRing_23 ?_
      obtain ⟨hv9, h⟩ := h
      obtain ⟨hv10, h⟩ := h
      refine x_zald (pc := 24) dX2_sizeOfRing_24 (LSch_a4 hs) hv9 hv10 (by decide) ?_
      obtain ⟨hr11, h⟩ := h
      obtain ⟨hA12, hB13⟩ := h
      refine x_if_eq (pc := 25) 46 dX2_sizeOfRing_25 (by decide) hr11 (fun hc => ?_) (fun hc => ?_)
      · have h := hA12 hc
        refine x_iconst (pc := 46) dX2_sizeOfRing_46 ?_
        exact x_iret (pc := 47) dX2_sizeOfRing_47 rfl (Nat.le_refl _) (Nat.le_refl _) ⟨_, rfl, rfl, h⟩
      · have h := hB13 hc
        refine x_aload_n (pc := 28) 0 dX2_sizeOfRing_28 rfl ?_
        refine x_getP (pc := 29) dX2_sizeOfRing_29 FC2 2 (by decide) rfl fl_X2_15 (LSch_ob hs) (LSch_p2 hs) ?_
        refine x_iload_n (pc := 32) 2 dX2_sizeOfRing_32 rfl ?_
        obtain ⟨hv14, h⟩ := h
        refine x_iald (pc := 33) dX2_sizeOfRing_33 (LSch_a2 hs) hv5 hv14 (by decide) ?_
        obtain ⟨hr15, h⟩ := h
        obtain ⟨hA16, hB17⟩ := h
        refine x_if_lt (pc := 34) 46 dX2_sizeOfRing_34 (by decide) hr15 (fun hc => ?_) (fun hc => ?_)
        · have h := hA16 hc
          refine x_iconst (pc := 46) dX2_sizeOfRing_46 ?_
          exact x_iret (pc := 47) dX2_sizeOfRing_47 rfl (Nat.le_refl _) (Nat.le_refl _) ⟨_, rfl, rfl, h⟩
        · have h := hB17 hc
          refine x_aload_n (pc := 37) 0 dX2_sizeOfRing_37 rfl ?_
          refine x_getP (pc := 38) dX2_sizeOfRing_38 FC2 3 (by decide) rfl fl_X2_18 (LSch_ob hs) (LSch_p3 hs) ?_
          refine x_iload_n (pc := 41) 2 dX2_sizeOfRing_41 rfl ?_
          refine x_iald (pc := 42) dX2_sizeOfRing_42 (LSch_a3 hs) hv5 hv14 (by decide) ?_
          obtain ⟨hr18, h⟩ := h
          obtain ⟨hA19, hB20⟩ := h
          refine x_if_le (pc := 43) 48 dX2_sizeOfRing_43 (by decide) hr18 (fun hc => ?_) (fun hc => ?_)
          · have h := hA19 hc
            refine x_aload_n (pc := 48) 0 dX2_sizeOfRing_48 rfl ?_
            refine x_getP (pc := 49) dX2_sizeOfRing_49 FC2 2 (by decide) rfl fl_X2_15 (LSch_ob hs) (LSch_p2 hs) ?_
            refine x_iload_n (pc := 52) 2 dX2_sizeOfRing_52 rfl ?_
            refine x_iald (pc := 53) dX2_sizeOfRing_53 (LSch_a2 hs) hv5 hv14 (by decide) ?_
            refine x_nmT (fun u21 eu21 => ?_)
            have h := h u21 eu21
            refine x_istore_n (pc := 54) (al' := [(0, vR q), (1, vI x1), (2, vI u21), (3, vI x3)]) dX2_sizeOfRing_54 rfl rfl (Nat.le_of_ble_eq_true rfl) ?_
            refine x_iload_n (pc := 55) 2 dX2_sizeOfRing_55 rfl ?_
            refine x_iload_n (pc := 56) 1 dX2_sizeOfRing_56 rfl ?_
            obtain ⟨hr22, h⟩ := h
            obtain ⟨hr23, h⟩ := h
            obtain ⟨hA24, hB25⟩ := h
            refine x_icmp_ne (pc := 57) 62 dX2_sizeOfRing_57 (by decide) hr22 hr23 (fun hc => ?_) (fun hc => ?_)
            · have h := hA24 hc
              refine x_iinc (pc := 62) (al' := [(0, vR q), (1, vI x1), (2, vI u21), (3, vI (x3 + 1))]) 3 dX2_sizeOfRing_62 rfl rfl rfl (Nat.le_of_ble_eq_true rfl) ?_
              refine x_goto (pc := 65) 4 dX2_sizeOfRing_65 (by decide) ?_
              exact x_sub [0, 1, 2, 3] rfl h
            · have h := hB25 hc
              refine x_iload_n (pc := 60) 3 dX2_sizeOfRing_60 rfl ?_
              exact x_iret (pc := 61) dX2_sizeOfRing_61 rfl (Nat.le_refl _) (Nat.le_refl _) ⟨_, rfl, rfl, h⟩
          · have h := hB20 hc
            refine x_iconst (pc := 46) dX2_sizeOfRing_46 ?_
            exact x_iret (pc := 47) dX2_sizeOfRing_47 rfl (Nat.le_refl _) (Nat.le_refl _) ⟨_, rfl, rfl, h⟩
set_option maxRecDepth 100000 in
set_option maxHeartbeats 4000000 in
theorem t_X2_startTogether_0 {Γ : GG} {P : MP} {I : MM} {R : MM → Prop} {x1 x2 : Int} {q σ κ n : Nat} (hs : LSch Γ P q σ κ n)
    (h : XM Γ m_X2_startTogether 0 0 8 [(0, vR q), (2, vI x2), (3, vI 0), (4, vI x1), (5, vI 0)] [] P I (rv P R)) :
    XM Γ m_X2_startTogether 0 0 0 [(0, vR q), (1, vI x1), (2, vI x2)] [] P I (rv P R) := by
  refine x_iconst (pc := 0) dX2_startTogether_0 ?_
  refine x_istore_n (pc := 1) (al' := [(0, vR q), (1, vI x1), (2, vI x2), (3, vI 0)]) dX2_startTogether_1 rfl rfl (Nat.le_of_ble_eq_true rfl) ?_
  refine x_iload_n (pc := 2) 1 dX2_startTogether_2 rfl ?_
  refine x_istore (pc := 3) (al' := [(0, vR q), (1, vI x1), (2, vI x2), (3, vI 0), (4, vI x1)]) dX2_startTogether_3 rfl rfl (Nat.le_of_ble_eq_true rfl) ?_
  refine x_iconst (pc := 5) dX2_startTogether_5 ?_
  refine x_istore (pc := 6) (al' := [(0, vR q), (1, vI x1), (2, vI x2), (3, vI 0), (4, vI x1), (5, vI 0)]) dX2_startTogether_6 rfl rfl (Nat.le_of_ble_eq_true rfl) ?_
  exact x_sub [0, 2, 3, 4, 5] rfl h
set_option maxRecDepth 100000 in
set_option maxHeartbeats 4000000 in
theorem t_X2_startTogether_8 {Γ : GG} {P : MP} {I : MM} {R : MM → Prop} {x2 x3 x4 x5 : Int} {q σ κ n : Nat} (hs : LSch Γ P q σ κ n)
    (h : (inR x5) ∧ (inR x2) ∧ ((x2 ≤ x5 → XM Γ m_X2_startTogether 0 0 48 [(0, vR q), (2, vI x2), (3, vI x3), (4, vI x4), (5, vI 0)] [] P I (rv P R)) ∧ (¬ x2 ≤ x5 → (inR x4) ∧ ((x4 < 0 → XM Γ m_X2_startTogether 0 0 48 [(0, vR q), (2, vI x2), (3, vI x3), (4, vI x4), (5, vI 0)] [] P I (rv P R)) ∧ (¬ x4 < 0 → (Cl Γ m_X2_earliestStart [vR q, vI x4] P I (ri P (fun (z8 : Int) (I9 : MM) => (inR x3) ∧ (inR z8) ∧ (∀ u12 : Int, u12 = (max x3 z8) → (0 ≤ x4) ∧ (x4 < 36) ∧ (∀ u15 : Int, u15 = (I9 (q + 2) (x4).toNat) → XM Γ m_X2_startTogether 0 0 8 [(0, vR q), (2, vI x2), (3, vI u12), (4, vI u15), (5, vI (x5 + 1))] [] P I9 (rv P R))))))))))) :
    XM Γ m_X2_startTogether 0 0 8 [(0, vR q), (2, vI x2), (3, vI x3), (4, vI x4), (5, vI x5)] [] P I (rv P R) := by
  refine x_iload (pc := 8) 4 dX2_startTogether_8 rfl ?_
  refine x_iload_n (pc := 10) 1 dX2_startTogether_10 rfl ?_
  obtain ⟨hr1, h⟩ := h
  obtain ⟨hr2, h⟩ := h
  obtain ⟨hA3, hB4⟩ := h
  refine x_icmp_ge (pc := 11) 45 dX2_startTogether_11 (by decide) hr1 hr2 (fun hc => ?_) (fun hc => ?_)
  · have h := hA3 hc
    refine x_iconst (pc := 45) dX2_startTogether_45 ?_
    refine x_istore (pc := 46) (al' := [(0, vR q), (2, vI x2), (3, vI x3), (4, vI x4), (5, vI 0)]) dX2_startTogether_46 rfl rfl (Nat.le_of_ble_eq_true rfl) ?_
    exact x_sub [0, 1, 2, 3, 4] rfl h
  · have h := hB4 hc
    refine x_iload (pc := 14) 3 dX2_startTogether_14 rfl ?_
    obtain ⟨hr5, h⟩ := h
    obtain ⟨hA6, hB7⟩ := h
    refine x_if_lt (pc := 16) 45 dX2_startTogether_16 (by decide) hr5 (fun hc => ?_) (fun hc => ?_)
    · have h := hA6 hc
      refine x_iconst (pc := 45) dX2_startTogether_45 ?_
      refine x_istore (pc := 46) (al' := [(0, vR q), (2, vI x2), (3, vI x3), (4, vI x4), (5, vI 0)]) dX2_startTogether_46 rfl rfl (Nat.le_of_ble_eq_true rfl) ?_
      exact x_sub [0, 1, 2, 3, 4] rfl h
    · have h := hB7 hc
      refine x_iload_n (pc := 19) 2 dX2_startTogether_19 rfl ?_
      refine x_aload_n (pc := 20) 0 dX2_startTogether_20 rfl ?_
      refine x_iload (pc := 21) 3 dX2_startTogether_21 rfl ?_
      refine x_Vi (μ := m_X2_startTogether) (pc := 23) dX2_startTogether_23 h k_X2_earliestStart ml_X2_110 ⟨Nat.le_of_ble_eq_true rfl, Nat.le_of_ble_eq_true rfl⟩ ⟨rfl, rfl⟩ ⟨Nat.zero_le _, Nat.zero_le _⟩ rfl (LSch_ob hs) rfl (Nat.le_of_ble_eq_true rfl) _ rfl (fun z8 I9 h => ?_)
      obtain ⟨hr10, h⟩ := h
      obtain ⟨hr11, h⟩ := h
      refine x_mmax (pc := 26) dX2_startTogether_26 ml_X2_114 mth_max.1 mth_max.2.1 mth_max.2.2 ⟨Nat.le_of_ble_eq_true rfl, Nat.le_of_ble_eq_true rfl⟩ ⟨Nat.zero_le _, Nat.zero_le _⟩ hr10 hr11 ?_
      refine x_nmT (fun u12 eu12 => ?_)
      have h := h u12 eu12
      refine x_istore_n (pc := 29) (al' := [(0, vR q), (2, vI x2), (3, vI u12), (4, vI x4), (5, vI x5)]) dX2_startTogether_29 rfl rfl (Nat.le_of_ble_eq_true rfl) ?_
      refine x_aload_n (pc := 30) 0 dX2_startTogether_30 rfl ?_
      refine x_getP (pc := 31) dX2_startTogether_31 FC2 2 (by decide) rfl fl_X2_15 (LSch_ob hs) (LSch_p2 hs) ?_
      refine x_iload (pc := 34) 3 dX2_startTogether_34 rfl ?_
      obtain ⟨hv13, h⟩ := h
      obtain ⟨hv14, h⟩ := h
      refine x_iald (pc := 36) dX2_startTogether_36 (LSch_a2 hs) hv13 hv14 (by decide) ?_
      refine x_nmT (fun u15 eu15 => ?_)
      have h := h u15 eu15
      refine x_istore (pc := 37) (al' := [(0, vR q), (2, vI x2), (3, vI u12), (4, vI u15), (5, vI x5)]) dX2_startTogether_37 rfl rfl (Nat.le_of_ble_eq_true rfl) ?_
      refine x_iinc (pc := 39) (al' := [(0, vR q), (2, vI x2), (3, vI u12), (4, vI u15), (5, vI (x5 + 1))]) 4 dX2_startTogether_39 rfl rfl rfl (Nat.le_of_ble_eq_true rfl) ?_
      refine x_goto (pc := 42) 8 dX2_startTogether_42 (by decide) ?_
      exact x_sub [0, 1, 2, 3, 4] rfl h
set_option maxRecDepth 100000 in
set_option maxHeartbeats 4000000 in
theorem t_X2_startTogether_48 {Γ : GG} {P : MP} {I : MM} {R : MM → Prop} {x2 x3 x4 x5 : Int} {q σ κ n : Nat} (hs : LSch Γ P q σ κ n)
    (h : (inR x5) ∧ (inR x2) ∧ ((x2 ≤ x5 → R I) ∧ (¬ x2 ≤ x5 → (inR x4) ∧ ((x4 < 0 → R I) ∧ (¬ x4 < 0 → (0 ≤ x4) ∧ (x4 < 36) ∧ (∀ I10 : MM, I10 = up2 I (q + 1) (x4).toNat x3 → (∀ I11 : MM, I11 = up2 I10 (q + 4) (x4).toNat 1 → (∀ u12 : Int, u12 = (I11 (q + 2) (x4).toNat) → XM Γ m_X2_startTogether 0 0 48 [(0, vR q), (2, vI x2), (3, vI x3), (4, vI u12), (5, vI (x5 + 1))] [] P I11 (rv P R))))))))) :
    XM Γ m_X2_startTogether 0 0 48 [(0, vR q), (2, vI x2), (3, vI x3), (4, vI x4), (5, vI x5)] [] P I (rv P R) := by
  refine x_iload (pc := 48) 4 dX2_startTogether_48 rfl ?_
  refine x_iload_n (pc := 50) 1 dX2_startTogether_50 rfl ?_
  obtain ⟨hr1, h⟩ := h
  obtain ⟨hr2, h⟩ := h
  obtain ⟨hA3, hB4⟩ := h
  refine x_icmp_ge (pc := 51) 90 dX2_startTogether_51 (by decide) hr1 hr2 (fun hc => ?_) (fun hc => ?_)
  · have h := hA3 hc
    exact x_vret (pc := 90) dX2_startTogether_90 rfl (Nat.le_refl _) (Nat.le_refl _) ⟨rfl, rfl, h⟩
  · have h := hB4 hc
    refine x_iload (pc := 54) 3 dX2_startTogether_54 rfl ?_
    obtain ⟨hr5, h⟩ := h
    obtain ⟨hA6, hB7⟩ := h
    refine x_if_lt (pc := 56) 90 dX2_startTogether_56 (by decide) hr5 (fun hc => ?_) (fun hc => ?_)
    · have h := hA6 hc
      exact x_vret (pc := 90) dX2_startTogether_90 rfl (Nat.le_refl _) (Nat.le_refl _) ⟨rfl, rfl, h⟩
    · have h := hB7 hc
      refine x_aload_n (pc := 59) 0 dX2_startTogether_59 rfl ?_
      refine x_getP (pc := 60) dX2_startTogether_60 FC2 1 (by decide) rfl fl_X2_9 (LSch_ob hs) (LSch_p1 hs) ?_
      refine x_iload (pc := 63) 3 dX2_startTogether_63 rfl ?_
      refine x_iload_n (pc := 65) 2 dX2_startTogether_65 rfl ?_
      obtain ⟨hv8, h⟩ := h
      obtain ⟨hv9, h⟩ := h
      refine x_iast (pc := 66) dX2_startTogether_66 (LSch_a1 hs) hv8 hv9 (by decide) ?_
      refine x_nmI (fun I10 eI10 => ?_)
      have h := h I10 eI10
      refine x_aload_n (pc := 67) 0 dX2_startTogether_67 rfl ?_
      refine x_getP (pc := 68) dX2_startTogether_68 FC2 4 (by decide) rfl fl_X2_21 (LSch_ob hs) (LSch_p4 hs) ?_
      refine x_iload (pc := 71) 3 dX2_startTogether_71 rfl ?_
      refine x_iconst (pc := 73) dX2_startTogether_73 ?_
      refine x_zast (pc := 74) dX2_startTogether_74 (LSch_a4 hs) hv8 hv9 (by decide) (by decide) ?_
      refine x_nmI (fun I11 eI11 => ?_)
      have h := h I11 eI11
      refine x_aload_n (pc := 75) 0 dX2_startTogether_75 rfl ?_
      refine x_getP (pc := 76) dX2_startTogether_76 FC2 2 (by decide) rfl fl_X2_15 (LSch_ob hs) (LSch_p2 hs) ?_
      refine x_iload (pc := 79) 3 dX2_startTogether_79 rfl ?_
      refine x_iald (pc := 81) dX2_startTogether_81 (LSch_a2 hs) hv8 hv9 (by decide) ?_
      refine x_nmT (fun u12 eu12 => ?_)
      have h := h u12 eu12
      refine x_istore (pc := 82) (al' := [(0, vR q), (2, vI x2), (3, vI x3), (4, vI u12), (5, vI x5)]) dX2_startTogether_82 rfl rfl (Nat.le_of_ble_eq_true rfl) ?_
      refine x_iinc (pc := 84) (al' := [(0, vR q), (2, vI x2), (3, vI x3), (4, vI u12), (5, vI (x5 + 1))]) 4 dX2_startTogether_84 rfl rfl rfl (Nat.le_of_ble_eq_true rfl) ?_
      refine x_goto (pc := 87) 48 dX2_startTogether_87 (by decide) ?_
      exact x_sub [0, 1, 2, 3, 4] rfl h
set_option maxRecDepth 100000 in
set_option maxHeartbeats 4000000 in
theorem t_X2_completedAt_0 {Γ : GG} {P : MP} {I : MM} {R : Int → MM → Prop} {x1 : Int} {q σ κ n : Nat} (hs : LSch Γ P q σ κ n)
    (h : (0 ≤ x1) ∧ (x1 < 36) ∧ R ((I (q + 1) (x1).toNat) + (I ((q + 8) + 1) (x1).toNat)) I) :
    XM Γ m_X2_completedAt 0 0 0 [(0, vR q), (1, vI x1)] [] P I (ri P R) := by
  refine x_aload_n (pc := 0) 0 dX2_completedAt_0 rfl ?_
  refine x_getP (pc := 1) dX2_completedAt_1 FC2 1 (by decide) rfl fl_X2_9 (LSch_ob hs) (LSch_p1 hs) ?_
  refine x_iload_n (pc := 4) 1 dX2_completedAt_4 rfl ?_
  obtain ⟨hv1, h⟩ := h
  obtain ⟨hv2, h⟩ := h
  refine x_iald (pc := 5) dX2_completedAt_5 (LSch_a1 hs) hv1 hv2 (by decide) ?_
  refine x_aload_n (pc := 6) 0 dX2_completedAt_6 rfl ?_
  refine x_getP (pc := 7) dX2_completedAt_7 FC2 0 (by decide) rfl fl_X2_44 (LSch_ob hs) (LSch_p0 hs) ?_
  refine x_getP (pc := 10) dX2_completedAt_10 FC1 1 (by decide) rfl fl_X2_91 (LPlan_ob (LSch_p hs)) (LPlan_p1 (LSch_p hs)) ?_
  refine x_iload_n (pc := 13) 1 dX2_completedAt_13 rfl ?_
  refine x_iald (pc := 14) dX2_completedAt_14 (LPlan_a1 (LSch_p hs)) hv1 hv2 (by decide) ?_
  refine x_iadd (pc := 15) dX2_completedAt_15 ?_
  exact x_iret (pc := 16) dX2_completedAt_16 rfl (Nat.le_refl _) (Nat.le_refl _) ⟨_, rfl, rfl, h⟩
