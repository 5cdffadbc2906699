set_option maxRecDepth 100000 in
set_option maxHeartbeats 4000000 in
theorem t_X6_setDuration_0 {Γ : GG} {P : MP} {I : MM} {R : Int → MM → Prop} {x1 x2 x3 : Int} (hM : LM Γ P)
    (h : (∀ I1 : MM, I1 = up2 I 1 0 0 → (Cl Γ m_X6_noOperation [vR 1, vI x1, vI x2] P I1 (ri P (fun (z2 : Int) (I3 : MM) => (inR z2) ∧ ((z2 ≠ 0 → R 0 I3) ∧ (z2 = 0 → (Cl Γ m_X6_in [vI x3, vI 1, vI 99] P I3 (ri P (fun (z7 : Int) (I8 : MM) => (inR z7) ∧ ((z7 ≠ 0 → (Cl Γ m_X6_fails [vR 1, vI 0, vI 2] P I8 (ri P (fun (z12 : Int) (I13 : MM) => (inR z12) ∧ ((z12 = 0 → (Cl Γ m_X6_remember [vR 1] P I13 (rv P (fun (I17 : MM) => (Cl Γ m_X6_operationAt [vI ((6 * x1) + x2)] P I17 (ri P (fun (z18 : Int) (I19 : MM) => (∀ u20 : Int, u20 = (z18 + 1) → (0 ≤ u20) ∧ (u20 < 1655) ∧ (∀ u23 : Int, u23 = (I19 3 (u20).toNat) → (∀ I24 : MM, I24 = up2 I19 3 (u20).toNat x3 → R u23 I24)))))))))) ∧ (¬ z12 = 0 → R 0 I13)))))) ∧ (z7 = 0 → (Cl Γ m_X6_fails [vR 1, vI 1, vI 2] P I8 (ri P (fun (z25 : Int) (I26 : MM) => (inR z25) ∧ ((z25 = 0 → (Cl Γ m_X6_remember [vR 1] P I26 (rv P (fun (I30 : MM) => (Cl Γ m_X6_operationAt [vI ((6 * x1) + x2)] P I30 (ri P (fun (z31 : Int) (I32 : MM) => (∀ u33 : Int, u33 = (z31 + 1) → (0 ≤ u33) ∧ (u33 < 1655) ∧ (∀ u36 : Int, u36 = (I32 3 (u33).toNat) → (∀ I37 : MM, I37 = up2 I32 3 (u33).toNat x3 → R u36 I37)))))))))) ∧ (¬ z25 = 0 → R 0 I26))))))))))))))))) :
    XM Γ m_X6_setDuration 0 0 0 [(0, vR 1), (1, vI x1), (2, vI x2), (3, vI x3)] [] P I (ri P R) := by
  refine x_aload_n (pc := 0) 0 dX6_setDuration_0 rfl ?_
  refine x_iconst (pc := 1) dX6_setDuration_1 ?_
  refine x_putI (pc := 2) dX6_setDuration_2 FC6 0 (by decide) rfl rfl fl_X6_51 (LM_ob hM) ?_
  refine x_nmI (fun I1 eI1 => ?_)
  have h := h I1 eI1
  refine x_aload_n (pc := 5) 0 dX6_setDuration_5 rfl ?_
  refine x_iload_n (pc := 6) 1 dX6_setDuration_6 rfl ?_
  refine x_iload_n (pc := 7) 2 dX6_setDuration_7 rfl ?_
  refine x_Vi (μ := m_X6_setDuration) (pc := 8) dX6_setDuration_8 h k_X6_noOperation ml_X6_275 ⟨Nat.le_of_ble_eq_true rfl, Nat.le_of_ble_eq_true rfl⟩ ⟨rfl, rfl⟩ ⟨Nat.zero_le _, Nat.zero_le _⟩ rfl (LM_ob hM) rfl (Nat.le_of_ble_eq_true rfl) _ rfl (fun z2 I3 h => ?_)
  obtain ⟨hr4, h⟩ := h
  obtain ⟨hA5, hB6⟩ := h
  refine x_if_ne (pc := 11) 37 dX6_setDuration_11 (by decide) hr4 (fun hc => ?_) (fun hc => ?_)
  · have h := hA5 hc
    refine x_iconst (pc := 37) dX6_setDuration_37 ?_
    exact x_iret (pc := 38) dX6_setDuration_38 rfl (Nat.le_refl _) (Nat.le_refl _) ⟨_, rfl, rfl, h⟩
  · have h := hB6 hc
    refine x_aload_n (pc := 14) 0 dX6_setDuration_14 rfl ?_
    refine x_iload_n (pc := 15) 3 dX6_setDuration_15 rfl ?_
    refine x_iconst (pc := 16) dX6_setDuration_16 ?_
    refine x_bipush (pc := 17) dX6_setDuration_17 rfl ?_
    refine x_Si (μ := m_X6_setDuration) (pc := 19) dX6_setDuration_19 h k_X6_in ml_X6_73 ⟨Nat.le_of_ble_eq_true rfl, Nat.le_of_ble_eq_true rfl⟩ ⟨rfl, rfl⟩ ⟨Nat.zero_le _, Nat.zero_le _⟩ rfl (Nat.le_of_ble_eq_true rfl) _ rfl (fun z7 I8 h => ?_)
    obtain ⟨hr9, h⟩ := h
    obtain ⟨hA10, hB11⟩ := h
    refine x_if_ne (pc := 22) 29 dX6_setDuration_22 (by decide) hr9 (fun hc => ?_) (fun hc => ?_)
    · have h := hA10 hc
      refine x_iconst (pc := 29) dX6_setDuration_29 ?_
      refine x_iconst (pc := 30) dX6_setDuration_30 ?_
      refine x_Vi (μ := m_X6_setDuration) (pc := 31) dX6_setDuration_31 h k_X6_fails ml_X6_174 ⟨Nat.le_of_ble_eq_true rfl, Nat.le_of_ble_eq_true rfl⟩ ⟨rfl, rfl⟩ ⟨Nat.zero_le _, Nat.zero_le _⟩ rfl (LM_ob hM) rfl (Nat.le_of_ble_eq_true rfl) _ rfl (fun z12 I13 h => ?_)
      obtain ⟨hr14, h⟩ := h
      obtain ⟨hA15, hB16⟩ := h
      refine x_if_eq (pc := 34) 39 dX6_setDuration_34 (by decide) hr14 (fun hc => ?_) (fun hc => ?_)
      · have h := hA15 hc
        refine x_aload_n (pc := 39) 0 dX6_setDuration_39 rfl ?_
        refine x_Vv (μ := m_X6_setDuration) (pc := 40) dX6_setDuration_40 h k_X6_remember ml_X6_183 ⟨Nat.le_of_ble_eq_true rfl, Nat.le_of_ble_eq_true rfl⟩ ⟨rfl, rfl⟩ ⟨Nat.zero_le _, Nat.zero_le _⟩ rfl (LM_ob hM) rfl (Nat.le_of_ble_eq_true rfl) _ rfl (fun I17 h => ?_)
        refine x_bipush (pc := 43) dX6_setDuration_43 rfl ?_
        refine x_iload_n (pc := 45) 1 dX6_setDuration_45 rfl ?_
        refine x_imul (pc := 46) dX6_setDuration_46 ?_
        refine x_iload_n (pc := 47) 2 dX6_setDuration_47 rfl ?_
        refine x_iadd (pc := 48) dX6_setDuration_48 ?_
        refine x_Si (μ := m_X6_setDuration) (pc := 49) dX6_setDuration_49 h k_X6_operationAt ml_X6_155 ⟨Nat.le_of_ble_eq_true rfl, Nat.le_of_ble_eq_true rfl⟩ ⟨rfl, rfl⟩ ⟨Nat.zero_le _, Nat.zero_le _⟩ rfl (Nat.le_of_ble_eq_true rfl) _ rfl (fun z18 I19 h => ?_)
        refine x_iconst (pc := 52) dX6_setDuration_52 ?_
        refine x_iadd (pc := 53) dX6_setDuration_53 ?_
        refine x_nmT (fun u20 eu20 => ?_)
        have h := h u20 eu20
        refine x_istore (pc := 54) (al' := [(0, vR 1), (1, vI x1), (2, vI x2), (3, vI x3), (4, vI u20)]) dX6_setDuration_54 rfl rfl (Nat.le_of_ble_eq_true rfl) ?_
        refine x_aload_n (pc := 56) 0 dX6_setDuration_56 rfl ?_
        refine x_getP (pc := 57) dX6_setDuration_57 FC6 8 (by decide) rfl fl_X6_17 (LM_ob hM) (LM_p8 hM) ?_
        refine x_iload (pc := 60) 4 dX6_setDuration_60 rfl ?_
        obtain ⟨hv21, h⟩ := h
        obtain ⟨hv22, h⟩ := h
        refine x_iald (pc := 62) dX6_setDuration_62 (LM_a8 hM) hv21 hv22 (by decide) ?_
        refine x_nmT (fun u23 eu23 => ?_)
        have h := h u23 eu23
        refine x_istore (pc := 63) (al' := [(0, vR 1), (1, vI x1), (2, vI x2), (3, vI x3), (4, vI u20), (5, vI u23)]) dX6_setDuration_63 rfl rfl (Nat.le_of_ble_eq_true rfl) ?_
        refine x_aload_n (pc := 65) 0 dX6_setDuration_65 rfl ?_
        refine x_getP (pc := 66) dX6_setDuration_66 FC6 8 (by decide) rfl fl_X6_17 (LM_ob hM) (LM_p8 hM) ?_
        refine x_iload (pc := 69) 4 dX6_setDuration_69 rfl ?_
        refine x_iload_n (pc := 71) 3 dX6_setDuration_71 rfl ?_
        refine x_iast (pc := 72) dX6_setDuration_72 (LM_a8 hM) hv21 hv22 (by decide) ?_
        refine x_nmI (fun I24 eI24 => ?_)
        have h := h I24 eI24
        refine x_iload (pc := 73) 5 dX6_setDuration_73 rfl ?_
        exact x_iret (pc := 75) dX6_setDuration_75 rfl (Nat.le_refl _) (Nat.le_refl _) ⟨_, rfl, rfl, h⟩
      · have h := hB16 hc
        refine x_iconst (pc := 37) dX6_setDuration_37 ?_
        exact x_iret (pc := 38) dX6_setDuration_38 rfl (Nat.le_refl _) (Nat.le_refl _) ⟨_, rfl, rfl, h⟩
    · have h := hB11 hc
      refine x_iconst (pc := 25) dX6_setDuration_25 ?_
      refine x_goto (pc := 26) 30 dX6_setDuration_26 (by decide) ?_
      refine x_iconst (pc := 30) dX6_setDuration_30 ?_
      refine x_Vi (μ := m_X6_setDuration) (pc := 31) dX6_setDuration_31 h k_X6_fails ml_X6_174 ⟨Nat.le_of_ble_eq_true rfl, Nat.le_of_ble_eq_true rfl⟩ ⟨rfl, rfl⟩ ⟨Nat.zero_le _, Nat.zero_le _⟩ rfl (LM_ob hM) rfl (Nat.le_of_ble_eq_true rfl) _ rfl (fun z25 I26 h => ?_)
      obtain ⟨hr27, h⟩ := h
      obtain ⟨hA28, hB29⟩ := h
      refine x_if_eq (pc := 34) 39 dX6_setDuration_34 (by decide) hr27 (fun hc => ?_) (fun hc => ?_)
      · have h := hA28 hc
        refine x_aload_n (pc := 39) 0 dX6_setDuration_39 rfl ?_
        refine x_Vv (μ := m_X6_setDuration) (pc := 40) dX6_setDuration_40 h k_X6_remember ml_X6_183 ⟨Nat.le_of_ble_eq_true rfl, Nat.le_of_ble_eq_true rfl⟩ ⟨rfl, rfl⟩ ⟨Nat.zero_le _, Nat.zero_le _⟩ rfl (LM_ob hM) rfl (Nat.le_of_ble_eq_true rfl) _ rfl (fun I30 h => ?_)
        refine x_bipush (pc := 43) dX6_setDuration_43 rfl ?_
        refine x_iload_n (pc := 45) 1 dX6_setDuration_45 rfl ?_
        refine x_imul (pc := 46) dX6_setDuration_46 ?_
        refine x_iload_n (pc := 47) 2 dX6_setDuration_47 rfl ?_
        refine x_iadd (pc := 48) dX6_setDuration_48 ?_
        refine x_Si (μ := m_X6_setDuration) (pc := 49) dX6_setDuration_49 h k_X6_operationAt ml_X6_155 ⟨Nat.le_of_ble_eq_true rfl, Nat.le_of_ble_eq_true rfl⟩ ⟨rfl, rfl⟩ ⟨Nat.zero_le _, Nat.zero_le _⟩ rfl (Nat.le_of_ble_eq_true rfl) _ rfl (fun z31 I32 h => ?_)
        refine x_iconst (pc := 52) dX6_setDuration_52 ?_
        refine x_iadd (pc := 53) dX6_setDuration_53 ?_
        refine x_nmT (fun u33 eu33 => ?_)
        have h := h u33 eu33
        refine x_istore (pc := 54) (al' := [(0, vR 1), (1, vI x1), (2, vI x2), (3, vI x3), (4, vI u33)]) dX6_setDuration_54 rfl rfl (Nat.le_of_ble_eq_true rfl) ?_
        refine x_aload_n (pc := 56) 0 dX6_setDuration_56 rfl ?_
        refine x_getP (pc := 57) dX6_setDuration_57 FC6 8 (by decide) rfl fl_X6_17 (LM_ob hM) (LM_p8 hM) ?_
        refine x_iload (pc := 60) 4 dX6_setDuration_60 rfl ?_
        obtain ⟨hv34, h⟩ := h
        obtain ⟨hv35, h⟩ := h
        refine x_iald (pc := 62) dX6_setDuration_62 (LM_a8 hM) hv34 hv35 (by decide) ?_
        refine x_nmT (fun u36 eu36 => ?_)
        have h := h u36 eu36
        refine x_istore (pc := 63) (al' := [(0, vR 1), (1, vI x1), (2, vI x2), (3, vI x3), (4, vI u33), (5, vI u36)]) dX6_setDuration_63 rfl rfl (Nat.le_of_ble_eq_true rfl) ?_
        refine x_aload_n (pc := 65) 0 dX6_setDuration_65 rfl ?_
        refine x_getP (pc := 66) dX6_setDuration_66 FC6 8 (by decide) rfl fl_X6_17 (LM_ob hM) (LM_p8 hM) ?_
        refine x_iload (pc := 69) 4 dX6_setDuration_69 rfl ?_
        refine x_iload_n (pc := 71) 3 dX6_setDuration_71 rfl ?_
        refine x_iast (pc := 72) dX6_setDuration_72 (LM_a8 hM) hv34 hv35 (by decide) ?_
        refine x_nmI (fun I37 eI37 => ?_)
        have h := h I37 eI37
        refine x_iload (pc := 73) 5 dX6_setDuration_73 rfl ?_
        exact x_iret (pc := 75) dX6_setDuration_75 rfl (Nat.le_refl _) (Nat.le_refl _) ⟨_, rfl, rfl, h⟩
      · have h := hB29 hc
        refine x_iconst (pc := 37) dX6_setDuration_37 ?_
        exact x_iret (pc := 38) dX6_setDuration_38 rfl (Nat.le_refl _) (Nat.le_refl _) ⟨_, rfl, rfl, h⟩
set_option maxRecDepth 100000 in
set_option maxHeartbeats 4000000 in
theorem t_X6_restart_0 {Γ : GG} {P : MP} {I : MM} {R : Int → MM → Prop} (hM : LM Γ P)
    (h : (∀ I1 : MM, I1 = up2 I 1 0 0 → (Cl Γ m_X6_remember [vR 1] P I1 (rv P (fun (I2 : MM) => (Cl Γ m_X6_layFirst [vR 1] P I2 (rv P (fun (I3 : MM) => (Cl Γ m_X6_spanNow [vR 1] P I3 (ri P (fun (z4 : Int) (I5 : MM) => R z4 I5))))))))))) :
    XM Γ m_X6_restart 0 0 0 [(0, vR 1)] [] P I (ri P R) := by
  refine x_aload_n (pc := 0) 0 dX6_restart_0 rfl ?_
  refine x_iconst (pc := 1) dX6_restart_1 ?_
  refine x_putI (pc := 2) dX6_restart_2 FC6 0 (by decide) rfl rfl fl_X6_51 (LM_ob hM) ?_
  refine x_nmI (fun I1 eI1 => ?_)
  have h := h I1 eI1
  refine x_aload_n (pc := 5) 0 dX6_restart_5 rfl ?_
  refine x_Vv (μ := m_X6_restart) (pc := 6) dX6_restart_6 h k_X6_remember ml_X6_183 ⟨Nat.le_of_ble_eq_true rfl, Nat.le_of_ble_eq_true rfl⟩ ⟨rfl, rfl⟩ ⟨Nat.zero_le _, Nat.zero_le _⟩ rfl (LM_ob hM) rfl (Nat.le_of_ble_eq_true rfl) _ rfl (fun I2 h => ?_)
  refine x_aload_n (pc := 9) 0 dX6_restart_9 rfl ?_
  refine x_Vv (μ := m_X6_restart) (pc := 10) dX6_restart_10 h k_X6_layFirst ml_X6_190 ⟨Nat.le_of_ble_eq_true rfl, Nat.le_of_ble_eq_true rfl⟩ ⟨rfl, rfl⟩ ⟨Nat.zero_le _, Nat.zero_le _⟩ rfl (LM_ob hM) rfl (Nat.le_of_ble_eq_true rfl) _ rfl (fun I3 h => ?_)
  refine x_aload_n (pc := 13) 0 dX6_restart_13 rfl ?_
  refine x_Vi (μ := m_X6_restart) (pc := 14) dX6_restart_14 h k_X6_spanNow ml_X6_288 ⟨Nat.le_of_ble_eq_true rfl, Nat.le_of_ble_eq_true rfl⟩ ⟨rfl, rfl⟩ ⟨Nat.zero_le _, Nat.zero_le _⟩ rfl (LM_ob hM) rfl (Nat.le_of_ble_eq_true rfl) _ rfl (fun z4 I5 h => ?_)
  exact x_iret (pc := 17) dX6_restart_17 rfl (Nat.le_refl _) (Nat.le_refl _) ⟨_, rfl, rfl, h⟩
set_option maxRecDepth 100000 in
set_option maxHeartbeats 4000000 in
theorem t_X6_undo_0 {Γ : GG} {P : MP} {I : MM} {R : Int → MM → Prop} (hM : LM Γ P)
    (h : (∀ I1 : MM, I1 = up2 I 1 0 0 → (inR (I1 1 12)) ∧ (((I1 1 12) ≠ 0 → (∀ I5 : MM, I5 = up2 I1 1 12 ((I1 1 12) - 1) → (0 ≤ (I5 1 12)) ∧ ((I5 1 12) < 8) ∧ (Cl Γ m_X6_copy [vR (13 + ((I5 1 12)).toNat), vR 3] P I5 (rv P (fun (I8 : MM) => R (I8 1 12) I8))))) ∧ ((I1 1 12) = 0 → R (-1) I1)))) :
    XM Γ m_X6_undo 0 0 0 [(0, vR 1)] [] P I (ri P R) := by
  refine x_aload_n (pc := 0) 0 dX6_undo_0 rfl ?_
  refine x_iconst (pc := 1) dX6_undo_1 ?_
  refine x_putI (pc := 2) dX6_undo_2 FC6 0 (by decide) rfl rfl fl_X6_51 (LM_ob hM) ?_
  refine x_nmI (fun I1 eI1 => ?_)
  have h := h I1 eI1
  refine x_aload_n (pc := 5) 0 dX6_undo_5 rfl ?_
  refine x_getI (pc := 6) dX6_undo_6 FC6 12 (by decide) rfl fl_X6_303 (LM_ob hM) ?_
  obtain ⟨hr2, h⟩ := h
  obtain ⟨hA3, hB4⟩ := h
  refine x_if_ne (pc := 9) 14 dX6_undo_9 (by decide) hr2 (fun hc => ?_) (fun hc => ?_)
  · have h := hA3 hc
    refine x_aload_n (pc := 14) 0 dX6_undo_14 rfl ?_
    refine x_dup (pc := 15) dX6_undo_15 rfl ?_
    refine x_getI (pc := 16) dX6_undo_16 FC6 12 (by decide) rfl fl_X6_303 (LM_ob hM) ?_
    refine x_iconst (pc := 19) dX6_undo_19 ?_
    refine x_isub (pc := 20) dX6_undo_20 ?_
    refine x_putI (pc := 21) dX6_undo_21 FC6 12 (by decide) rfl rfl fl_X6_303 (LM_ob hM) ?_
    refine x_nmI (fun I5 eI5 => ?_)
    have h := h I5 eI5
    refine x_aload_n (pc := 24) 0 dX6_undo_24 rfl ?_
    refine x_getP (pc := 25) dX6_undo_25 FC6 11 (by decide) rfl fl_X6_28 (LM_ob hM) (LM_p11 hM) ?_
    refine x_aload_n (pc := 28) 0 dX6_undo_28 rfl ?_
    refine x_getI (pc := 29) dX6_undo_29 FC6 12 (by decide) rfl fl_X6_303 (LM_ob hM) ?_
    obtain ⟨hv6, h⟩ := h
    obtain ⟨hv7, h⟩ := h
    refine x_aald (pc := 32) dX6_undo_32 5 (LM_a11 hM) (by decide) hv6 hv7 (by decide) (LM_h hM hv6 hv7).1 ?_
    refine x_aload_n (pc := 33) 0 dX6_undo_33 rfl ?_
    refine x_getP (pc := 34) dX6_undo_34 FC6 8 (by decide) rfl fl_X6_17 (LM_ob hM) (LM_p8 hM) ?_
    refine x_Sv (μ := m_X6_undo) (pc := 37) dX6_undo_37 h k_X6_copy ml_X6_186 ⟨Nat.le_of_ble_eq_true rfl, Nat.le_of_ble_eq_true rfl⟩ ⟨rfl, rfl⟩ ⟨Nat.zero_le _, Nat.zero_le _⟩ rfl (Nat.le_of_ble_eq_true rfl) _ rfl (fun I8 h => ?_)
    refine x_aload_n (pc := 40) 0 dX6_undo_40 rfl ?_
    refine x_getI (pc := 41) dX6_undo_41 FC6 12 (by decide) rfl fl_X6_303 (LM_ob hM) ?_
    exact x_iret (pc := 44) dX6_undo_44 rfl (Nat.le_refl _) (Nat.le_refl _) ⟨_, rfl, rfl, h⟩
  · have h := hB4 hc
    refine x_iconst (pc := 12) dX6_undo_12 ?_
    exact x_iret (pc := 13) dX6_undo_13 rfl (Nat.le_refl _) (Nat.le_refl _) ⟨_, rfl, rfl, h⟩
set_option maxRecDepth 100000 in
set_option maxHeartbeats 4000000 in
theorem t_X6_checksum_0 {Γ : GG} {P : MP} {I : MM} {R : Int → MM → Prop} (hM : LM Γ P)
    (h : (∀ I1 : MM, I1 = up2 I 1 0 0 → (Cl Γ m_X6_spanNow [vR 1] P I1 (ri P (fun (z2 : Int) (I3 : MM) => (inR z2) ∧ (Cl Γ m_X6_costOfPlan [vR 1] P I3 (ri P (fun (z5 : Int) (I6 : MM) => (inR z5) ∧ (∀ w8 : Int, w8 = ((31 * z2) + z5) → XM Γ m_X6_checksum 0 0 25 [(0, vR 1), (1, vL w8), (3, vI 0)] [] P I6 (rl P R)))))))))) :
    XM Γ m_X6_checksum 0 0 0 [(0, vR 1)] [] P I (rl P R) := by
  refine x_aload_n (pc := 0) 0 dX6_checksum_0 rfl ?_
  refine x_iconst (pc := 1) dX6_checksum_1 ?_
  refine x_putI (pc := 2) dX6_checksum_2 FC6 0 (by decide) rfl rfl fl_X6_51 (LM_ob hM) ?_
  refine x_nmI (fun I1 eI1 => ?_)
  have h := h I1 eI1
  refine x_aload_n (pc := 5) 0 dX6_checksum_5 rfl ?_
  refine x_Vi (μ := m_X6_checksum) (pc := 6) dX6_checksum_6 h k_X6_spanNow ml_X6_288 ⟨Nat.le_of_ble_eq_true rfl, Nat.le_of_ble_eq_true rfl⟩ ⟨rfl, rfl⟩ ⟨Nat.zero_le _, Nat.zero_le _⟩ rfl (LM_ob hM) rfl (Nat.le_of_ble_eq_true rfl) _ rfl (fun z2 I3 h => ?_)
  obtain ⟨hr4, h⟩ := h
  refine x_i2l (pc := 9) dX6_checksum_9 hr4 ?_
  refine x_lstore_n (pc := 10) (al' := [(0, vR 1), (1, vL z2)]) dX6_checksum_10 rfl rfl rfl (Nat.le_of_ble_eq_true rfl) ?_
  refine x_ldc2 (pc := 11) (31) dX6_checksum_11 kc_X6_309 ?_
  refine x_lload_n (pc := 14) 1 dX6_checksum_14 rfl ?_
  refine x_lmul (pc := 15) dX6_checksum_15 ?_
  refine x_aload_n (pc := 16) 0 dX6_checksum_16 rfl ?_
  refine x_Vi (μ := m_X6_checksum) (pc := 17) dX6_checksum_17 h k_X6_costOfPlan ml_X6_250 ⟨Nat.le_of_ble_eq_true rfl, Nat.le_of_ble_eq_true rfl⟩ ⟨rfl, rfl⟩ ⟨Nat.zero_le _, Nat.zero_le _⟩ rfl (LM_ob hM) rfl (Nat.le_of_ble_eq_true rfl) _ rfl (fun z5 I6 h => ?_)
  obtain ⟨hr7, h⟩ := h
  refine x_i2l (pc := 20) dX6_checksum_20 hr7 ?_
  refine x_ladd (pc := 21) dX6_checksum_21 ?_
  refine x_nmL (fun w8 ew8 => ?_)
  have h := h w8 ew8
  refine x_lstore_n (pc := 22) (al' := [(0, vR 1), (1, vL w8)]) dX6_checksum_22 rfl rfl rfl (Nat.le_of_ble_eq_true rfl) ?_
  refine x_iconst (pc := 23) dX6_checksum_23 ?_
  refine x_istore_n (pc := 24) (al' := [(0, vR 1), (1, vL w8), (3, vI 0)]) dX6_checksum_24 rfl rfl (Nat.le_of_ble_eq_true rfl) ?_
  exact x_sub [0, 1, 2] rfl h
set_option maxRecDepth 100000 in
set_option maxHeartbeats 4000000 in
theorem t_X6_checksum_25 {Γ : GG} {P : MP} {I : MM} {R : Int → MM → Prop} {x1 x3 : Int} (hM : LM Γ P)
    (h : (inR x3) ∧ (inR (I 3 0)) ∧ (((I 3 0) ≤ x3 → XM Γ m_X6_checksum 0 0 93 [(0, vR 1), (1, vL x1), (3, vI 0)] [] P I (rl P R)) ∧ (¬ (I 3 0) ≤ x3 → XM Γ m_X6_checksum 0 0 38 [(0, vR 1), (1, vL x1), (3, vI x3), (4, vI 0)] [] P I (rl P R)))) :
    XM Γ m_X6_checksum 0 0 25 [(0, vR 1), (1, vL x1), (3, vI x3)] [] P I (rl P R) := by
  refine x_iload_n (pc := 25) 2 dX6_checksum_25 rfl ?_
  refine x_aload_n (pc := 26) 0 dX6_checksum_26 rfl ?_
  refine x_getP (pc := 27) dX6_checksum_27 FC6 8 (by decide) rfl fl_X6_17 (LM_ob hM) (LM_p8 hM) ?_
  refine x_iconst (pc := 30) dX6_checksum_30 ?_
  refine x_iald (pc := 31) dX6_checksum_31 (LM_a8 hM) (by decide) (by decide) (by decide) ?_
  obtain ⟨hr1, h⟩ := h
  obtain ⟨hr2, h⟩ := h
  obtain ⟨hA3, hB4⟩ := h
  refine x_icmp_ge (pc := 32) 91 dX6_checksum_32 (by decide) hr1 hr2 (fun hc => ?_) (fun hc => ?_)
  · have h := hA3 hc
    refine x_iconst (pc := 91) dX6_checksum_91 ?_
    refine x_istore_n (pc := 92) (al' := [(0, vR 1), (1, vL x1), (3, vI 0)]) dX6_checksum_92 rfl rfl (Nat.le_of_ble_eq_true rfl) ?_
    exact x_sub [0, 1, 2] rfl h
  · have h := hB4 hc
    refine x_iconst (pc := 35) dX6_checksum_35 ?_
    refine x_istore (pc := 36) (al' := [(0, vR 1), (1, vL x1), (3, vI x3), (4, vI 0)]) dX6_checksum_36 rfl rfl (Nat.le_of_ble_eq_true rfl) ?_
    exact x_sub [0, 1, 2, 3] rfl h
set_option maxRecDepth 100000 in
set_option maxHeartbeats 4000000 in
theorem t_X6_checksum_93 {Γ : GG} {P : MP} {I : MM} {R : Int → MM → Prop} {x1 x3 : Int} (hM : LM Γ P)
    (h : (inR x3) ∧ ((36 ≤ x3 → R x1 I) ∧ (¬ 36 ≤ x3 → (Cl Γ m_X6_isThere [vR 1, vI x3] P I (ri P (fun (z4 : Int) (I5 : MM) => (inR z4) ∧ ((z4 = 0 → XM Γ m_X6_checksum 0 0 93 [(0, vR 1), (1, vL x1), (3, vI (x3 + 1))] [] P I5 (rl P R)) ∧ (¬ z4 = 0 → (0 ≤ x3) ∧ (x3 < 36) ∧ (inR (I5 9 (x3).toNat)) ∧ (∀ w12 : Int, w12 = ((31 * x1) + (I5 9 (x3).toNat)) → XM Γ m_X6_checksum 0 0 93 [(0, vR 1), (1, vL w12), (3, vI (x3 + 1))] [] P I5 (rl P R)))))))))) :
    XM Γ m_X6_checksum 0 0 93 [(0, vR 1), (1, vL x1), (3, vI x3)] [] P I (rl P R) := by
  refine x_iload_n (pc := 93) 2 dX6_checksum_93 rfl ?_
  refine x_bipush (pc := 94) dX6_checksum_94 rfl ?_
  obtain ⟨hr1, h⟩ := h
  obtain ⟨hA2, hB3⟩ := h
  refine x_icmp_ge (pc := 96) 127 dX6_checksum_96 (by decide) hr1 ⟨by decide, by decide⟩ (fun hc => ?_) (fun hc => ?_)
  · have h := hA2 hc
    refine x_lload_n (pc := 127) 1 dX6_checksum_127 rfl ?_
    exact x_lret (pc := 128) dX6_checksum_128 rfl (Nat.le_refl _) (Nat.le_refl _) ⟨_, rfl, rfl, h⟩
  · have h := hB3 hc
    refine x_aload_n (pc := 99) 0 dX6_checksum_99 rfl ?_
    refine x_iload_n (pc := 100) 2 dX6_checksum_100 rfl ?_
    refine x_Vi (μ := m_X6_checksum) (pc := 101) dX6_checksum_101 h k_X6_isThere ml_X6_211 ⟨Nat.le_of_ble_eq_true rfl, Nat.le_of_ble_eq_true rfl⟩ ⟨rfl, rfl⟩ ⟨Nat.zero_le _, Nat.zero_le _⟩ rfl (LM_ob hM) rfl (Nat.le_of_ble_eq_true rfl) _ rfl (fun z4 I5 h => ?_)
    obtain ⟨hr6, h⟩ := h
    obtain ⟨hA7, hB8⟩ := h
    refine x_if_eq (pc := 104) 121 dX6_checksum_104 (by decide) hr6 (fun hc => ?_) (fun hc => ?_)
    · have h := hA7 hc
      refine x_iinc (pc := 121) (al' := [(0, vR 1), (1, vL x1), (3, vI (x3 + 1))]) 2 dX6_checksum_121 rfl rfl rfl (Nat.le_of_ble_eq_true rfl) ?_
      refine x_goto (pc := 124) 93 dX6_checksum_124 (by decide) ?_
      exact x_sub [0, 1, 2] rfl h
    · have h := hB8 hc
      refine x_ldc2 (pc := 107) (31) dX6_checksum_107 kc_X6_309 ?_
      refine x_lload_n (pc := 110) 1 dX6_checksum_110 rfl ?_
      refine x_lmul (pc := 111) dX6_checksum_111 ?_
      refine x_aload_n (pc := 112) 0 dX6_checksum_112 rfl ?_
      refine x_getP (pc := 113) dX6_checksum_113 FC6 18 (by decide) rfl fl_X6_37 (LM_ob hM) (LM_p18 hM) ?_
      refine x_iload_n (pc := 116) 2 dX6_checksum_116 rfl ?_
      obtain ⟨hv9, h⟩ := h
      obtain ⟨hv10, h⟩ := h
      refine x_iald (pc := 117) dX6_checksum_117 (LM_a18 hM) hv9 hv10 (by decide) ?_
      obtain ⟨hr11, h⟩ := h
      refine x_i2l (pc := 118) dX6_checksum_118 hr11 ?_
      refine x_ladd (pc := 119) dX6_checksum_119 ?_
      refine x_nmL (fun w12 ew12 => ?_)
      have h := h w12 ew12
      refine x_lstore_n (pc := 120) (al' := [(0, vR 1), (1, vL w12), (3, vI x3)]) dX6_checksum_120 rfl rfl rfl (Nat.le_of_ble_eq_true rfl) ?_
      refine x_iinc (pc := 121) (al' := [(0, vR 1), (1, vL w12), (3, vI (x3 + 1))]) 2 dX6_checksum_121 rfl rfl rfl (Nat.le_of_ble_eq_true rfl) ?_
      refine x_goto (pc := 124) 93 dX6_checksum_124 (by decide) ?_
      exact x_sub [0, 1, 2] rfl h
set_option maxRecDepth 100000 in
set_option maxHeartbeats 4000000 in
theorem t_X6_checksum_38 {Γ : GG} {P : MP} {I : MM} {R : Int → MM → Prop} {x1 x3 x4 : Int} (hM : LM Γ P)
    (h : (Cl Γ m_X6_machine [vI x3] P I (ri P (fun (z1 : Int) (I2 : MM) => (0 ≤ (z1 + 2)) ∧ ((z1 + 2) < 1655) ∧ (inR x4) ∧ (inR (I2 3 ((z1 + 2)).toNat)) ∧ (((I2 3 ((z1 + 2)).toNat) ≤ x4 → XM Γ m_X6_checksum 0 0 25 [(0, vR 1), (1, vL x1), (3, vI (x3 + 1))] [] P I2 (rl P R)) ∧ (¬ (I2 3 ((z1 + 2)).toNat) ≤ x4 → (Cl Γ m_X6_machine [vI x3] P I2 (ri P (fun (z9 : Int) (I10 : MM) => (0 ≤ ((z9 + 3) + x4)) ∧ (((z9 + 3) + x4) < 1655) ∧ (Cl Γ m_X6_told [vI (I10 3 (((z9 + 3) + x4)).toNat)] P I10 (ri P (fun (z13 : Int) (I14 : MM) => (inR z13) ∧ (∀ w16 : Int, w16 = ((31 * x1) + z13) → XM Γ m_X6_checksum 0 0 38 [(0, vR 1), (1, vL w16), (3, vI x3), (4, vI (x4 + 1))] [] P I14 (rl P R)))))))))))))) :
    XM Γ m_X6_checksum 0 0 38 [(0, vR 1), (1, vL x1), (3, vI x3), (4, vI x4)] [] P I (rl P R) := by
  refine x_iload (pc := 38) 3 dX6_checksum_38 rfl ?_
  refine x_aload_n (pc := 40) 0 dX6_checksum_40 rfl ?_
  refine x_getP (pc := 41) dX6_checksum_41 FC6 8 (by decide) rfl fl_X6_17 (LM_ob hM) (LM_p8 hM) ?_
  refine x_iload_n (pc := 44) 2 dX6_checksum_44 rfl ?_
  refine x_Si (μ := m_X6_checksum) (pc := 45) dX6_checksum_45 h k_X6_machine ml_X6_158 ⟨Nat.le_of_ble_eq_true rfl, Nat.le_of_ble_eq_true rfl⟩ ⟨rfl, rfl⟩ ⟨Nat.zero_le _, Nat.zero_le _⟩ rfl (Nat.le_of_ble_eq_true rfl) _ rfl (fun z1 I2 h => ?_)
  refine x_iconst (pc := 48) dX6_checksum_48 ?_
  refine x_iadd (pc := 49) dX6_checksum_49 ?_
  obtain ⟨hv3, h⟩ := h
  obtain ⟨hv4, h⟩ := h
  refine x_iald (pc := 50) dX6_checksum_50 (LM_a8 hM) hv3 hv4 (by decide) ?_
  obtain ⟨hr5, h⟩ := h
  obtain ⟨hr6, h⟩ := h
  obtain ⟨hA7, hB8⟩ := h
  refine x_icmp_ge (pc := 51) 85 dX6_checksum_51 (by decide) hr5 hr6 (fun hc => ?_) (fun hc => ?_)
  · have h := hA7 hc
    refine x_iinc (pc := 85) (al' := [(0, vR 1), (1, vL x1), (3, vI (x3 + 1)), (4, vI x4)]) 2 dX6_checksum_85 rfl rfl rfl (Nat.le_of_ble_eq_true rfl) ?_
    refine x_goto (pc := 88) 25 dX6_checksum_88 (by decide) ?_
    exact x_sub [0, 1, 2] rfl h
  · have h := hB8 hc
    refine x_ldc2 (pc := 54) (31) dX6_checksum_54 kc_X6_309 ?_
    refine x_lload_n (pc := 57) 1 dX6_checksum_57 rfl ?_
    refine x_lmul (pc := 58) dX6_checksum_58 ?_
    refine x_aload_n (pc := 59) 0 dX6_checksum_59 rfl ?_
    refine x_getP (pc := 60) dX6_checksum_60 FC6 8 (by decide) rfl fl_X6_17 (LM_ob hM) (LM_p8 hM) ?_
    refine x_iload_n (pc := 63) 2 dX6_checksum_63 rfl ?_
    refine x_Si (μ := m_X6_checksum) (pc := 64) dX6_checksum_64 h k_X6_machine ml_X6_158 ⟨Nat.le_of_ble_eq_true rfl, Nat.le_of_ble_eq_true rfl⟩ ⟨rfl, rfl⟩ ⟨Nat.zero_le _, Nat.zero_le _⟩ rfl (Nat.le_of_ble_eq_true rfl) _ rfl (fun z9 I10 h => ?_)
    refine x_iconst (pc := 67) dX6_checksum_67 ?_
    refine x_iadd (pc := 68) dX6_checksum_68 ?_
    refine x_iload (pc := 69) 3 dX6_checksum_69 rfl ?_
    refine x_iadd (pc := 71) dX6_checksum_71 ?_
    obtain ⟨hv11, h⟩ := h
    obtain ⟨hv12, h⟩ := h
    refine x_iald (pc := 72) dX6_checksum_72 (LM_a8 hM) hv11 hv12 (by decide) ?_
    refine x_Si (μ := m_X6_checksum) (pc := 73) dX6_checksum_73 h k_X6_told ml_X6_282 ⟨Nat.le_of_ble_eq_true rfl, Nat.le_of_ble_eq_true rfl⟩ ⟨rfl, rfl⟩ ⟨Nat.zero_le _, Nat.zero_le _⟩ rfl (Nat.le_of_ble_eq_true rfl) _ rfl (fun z13 I14 h => ?_)
    obtain ⟨hr15, h⟩ := h
    refine x_i2l (pc := 76) dX6_checksum_76 hr15 ?_
    refine x_ladd (pc := 77) dX6_checksum_77 ?_
    refine x_nmL (fun w16 ew16 => ?_)
    have h := h w16 ew16
    refine x_lstore_n (pc := 78) (al' := [(0, vR 1), (1, vL w16), (3, vI x3), (4, vI x4)]) dX6_checksum_78 rfl rfl rfl (Nat.le_of_ble_eq_true rfl) ?_
    refine x_iinc (pc := 79) (al' := [(0, vR 1), (1, vL w16), (3, vI x3), (4, vI (x4 + 1))]) 3 dX6_checksum_79 rfl rfl rfl (Nat.le_of_ble_eq_true rfl) ?_
    refine x_goto (pc := 82) 38 dX6_checksum_82 (by decide) ?_
    exact x_sub [0, 1, 2, 3] rfl h
