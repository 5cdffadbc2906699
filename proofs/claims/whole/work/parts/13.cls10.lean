set_option maxRecDepth 100000 in
set_option maxHeartbeats 4000000 in
theorem t_X5_place_0 {Γ : GG} {P : MP} {I : MM} {R : Int → MP → MM → Prop} {x1 x2 x3 : Int} {σ κ n σ2 κ2 n2 : Nat} (hb : LBS Γ P σ κ n σ2 κ2 n2)
    (h : (Cl Γ m_X5_needOperation [vR 30, vI x1, vI x2] P I (rv P (fun (I1 : MM) => (Cl Γ m_X5_idOf [vI x1, vI x2] P I1 (ri P (fun (z2 : Int) (I3 : MM) => (0 ≤ z2) ∧ (z2 < 36) ∧ (∀ u6 : Int, u6 = (I3 (σ + 8) (z2).toNat) → (inR x3) ∧ ((x3 < 0 → False) ∧ (¬ x3 < 0 → (0 ≤ u6) ∧ (u6 < 6) ∧ (inR (I3 (σ + 3) (u6).toNat)) ∧ ((x3 < (I3 (σ + 3) (u6).toNat) → (Cl Γ m_X1_copyFrom [vR 68, vR 48] P I3 (rp (fun (P16 : MP) (I15 : MM) => (P16 30 6 = some 68) ∧ (P16 30 4 = some 48) ∧ (Cl Γ m_X1_positionOf [vR 48, vI z2] P16 I15 (ri P16 (fun (z19 : Int) (I20 : MM) => (Cl Γ m_X1_move [vR 68, vI u6, vI z19, vI x3] P16 I20 (rv P16 (fun (I21 : MM) => (P16 30 5 = some 60) ∧ (Cl Γ m_X2_compute [vR 60] P16 I21 (ri P16 (fun (z23 : Int) (I24 : MM) => (inR z23) ∧ ((z23 ≠ 0 → (Cl Γ m_X5_remember [vR 30] P16 I24 (rp (fun (P29 : MP) (I28 : MM) => (Cl Γ m_X5_adoptTrial [vR 30] P29 I28 (rp (fun (P31 : MP) (I30 : MM) => (P31 30 3 = some 40) ∧ (Cl Γ m_X2_greatestCompletion [vR 40] P31 I30 (ri P31 (fun (z33 : Int) (I34 : MM) => R z33 P31 I34)))))))))) ∧ (z23 = 0 → False))))))))))))))) ∧ (¬ x3 < (I3 (σ + 3) (u6).toNat) → False)))))))))))) :
    XM Γ m_X5_place 0 0 0 [(0, vR 30), (1, vI x1), (2, vI x2), (3, vI x3)] [] P I (rpi R) := by
  refine x_aload_n (pc := 0) 0 dX5_place_0 rfl ?_
  refine x_iload_n (pc := 1) 1 dX5_place_1 rfl ?_
  refine x_iload_n (pc := 2) 2 dX5_place_2 rfl ?_
  refine x_Vv (μ := m_X5_place) (pc := 3) dX5_place_3 h k_X5_needOperation ml_X5_110 ⟨Nat.le_of_ble_eq_true rfl, Nat.le_of_ble_eq_true rfl⟩ ⟨rfl, rfl⟩ ⟨Nat.zero_le _, Nat.zero_le _⟩ rfl (LBS_ob hb) rfl (Nat.le_of_ble_eq_true rfl) _ rfl (fun I1 h => ?_)
  refine x_iload_n (pc := 6) 1 dX5_place_6 rfl ?_
  refine x_iload_n (pc := 7) 2 dX5_place_7 rfl ?_
  refine x_Si (μ := m_X5_place) (pc := 8) dX5_place_8 h k_X5_idOf ml_X5_113 ⟨Nat.le_of_ble_eq_true rfl, Nat.le_of_ble_eq_true rfl⟩ ⟨rfl, rfl⟩ ⟨Nat.zero_le _, Nat.zero_le _⟩ rfl (Nat.le_of_ble_eq_true rfl) _ rfl (fun z2 I3 h => ?_)
  refine x_istore (pc := 11) (al' := [(0, vR 30), (1, vI x1), (2, vI x2), (3, vI x3), (4, vI z2)]) dX5_place_11 rfl rfl (Nat.le_of_ble_eq_true rfl) ?_
  refine x_aload_n (pc := 13) 0 dX5_place_13 rfl ?_
  refine x_getP (pc := 14) dX5_place_14 FC5 4 (by decide) rfl fl_X5_51 (LBS_ob hb) (LBS_p4 hb) ?_
  refine x_getP (pc := 17) dX5_place_17 FC1 0 (by decide) rfl fl_X5_95 (LPlan_ob (LSch_p (LBS_s hb))) (LPlan_p0 (LSch_p (LBS_s hb))) ?_
  refine x_getP (pc := 20) dX5_place_20 FC4 10 (by decide) rfl fl_X5_117 (LShop_ob (LPlan_s (LSch_p (LBS_s hb)))) (LShop_p10 (LPlan_s (LSch_p (LBS_s hb)))) ?_
  refine x_iload (pc := 23) 4 dX5_place_23 rfl ?_
  obtain ⟨hv4, h⟩ := h
  obtain ⟨hv5, h⟩ := h
  refine x_iald (pc := 25) dX5_place_25 (LShop_a10 (LPlan_s (LSch_p (LBS_s hb)))) hv4 hv5 (by decide) ?_
  refine x_nmT (fun u6 eu6 => ?_)
  have h := h u6 eu6
  refine x_istore (pc := 26) (al' := [(0, vR 30), (1, vI x1), (2, vI x2), (3, vI x3), (4, vI z2), (5, vI u6)]) dX5_place_26 rfl rfl (Nat.le_of_ble_eq_true rfl) ?_
  refine x_iload_n (pc := 28) 3 dX5_place_28 rfl ?_
  obtain ⟨hr7, h⟩ := h
  obtain ⟨hA8, hB9⟩ := h
  refine x_if_lt (pc := 29) 49 dX5_place_29 (by decide) hr7 (fun hc => ?_) (fun hc => ?_)
  · have h := hA8 hc
    exact h.elim
  · have h := hB9 hc
    refine x_iload_n (pc := 32) 3 dX5_place_32 rfl ?_
    refine x_aload_n (pc := 33) 0 dX5_place_33 rfl ?_
    refine x_getP (pc := 34) dX5_place_34 FC5 4 (by decide) rfl fl_X5_51 (LBS_ob hb) (LBS_p4 hb) ?_
    refine x_getP (pc := 37) dX5_place_37 FC1 0 (by decide) rfl fl_X5_95 (LPlan_ob (LSch_p (LBS_s hb))) (LPlan_p0 (LSch_p (LBS_s hb))) ?_
    refine x_getP (pc := 40) dX5_place_40 FC4 5 (by decide) rfl fl_X5_132 (LShop_ob (LPlan_s (LSch_p (LBS_s hb)))) (LShop_p5 (LPlan_s (LSch_p (LBS_s hb)))) ?_
    refine x_iload (pc := 43) 5 dX5_place_43 rfl ?_
    obtain ⟨hv10, h⟩ := h
    obtain ⟨hv11, h⟩ := h
    refine x_iald (pc := 45) dX5_place_45 (LShop_a5 (LPlan_s (LSch_p (LBS_s hb)))) hv10 hv11 (by decide) ?_
    obtain ⟨hr12, h⟩ := h
    obtain ⟨hA13, hB14⟩ := h
    refine x_icmp_lt (pc := 46) 59 dX5_place_46 (by decide) hr7 hr12 (fun hc => ?_) (fun hc => ?_)
    · have h := hA13 hc
      refine x_aload_n (pc := 59) 0 dX5_place_59 rfl ?_
      refine x_getP (pc := 60) dX5_place_60 FC5 6 (by decide) rfl fl_X5_55 (LBS_ob hb) (LBS_p6 hb) ?_
      refine x_aload_n (pc := 63) 0 dX5_place_63 rfl ?_
      refine x_getP (pc := 64) dX5_place_64 FC5 4 (by decide) rfl fl_X5_51 (LBS_ob hb) (LBS_p4 hb) ?_
      refine x_Vp (μ := m_X5_place) (pc := 67) dX5_place_67 h k_X1_copyFrom ml_X5_222 ⟨Nat.le_of_ble_eq_true rfl, Nat.le_of_ble_eq_true rfl⟩ ⟨rfl, rfl⟩ ⟨Nat.zero_le _, Nat.zero_le _⟩ rfl (LPlan_ob (LSch_p (LBS_t hb))) rfl (Nat.le_of_ble_eq_true rfl) _ rfl (fun P16 I15 h => ?_)
      refine x_aload_n (pc := 70) 0 dX5_place_70 rfl ?_
      obtain ⟨hv17, h⟩ := h
      refine x_getP (pc := 71) dX5_place_71 FC5 6 (by decide) rfl fl_X5_55 (LBS_ob hb) hv17 ?_
      refine x_iload (pc := 74) 5 dX5_place_74 rfl ?_
      refine x_aload_n (pc := 76) 0 dX5_place_76 rfl ?_
      obtain ⟨hv18, h⟩ := h
      refine x_getP (pc := 77) dX5_place_77 FC5 4 (by decide) rfl fl_X5_51 (LBS_ob hb) hv18 ?_
      refine x_iload (pc := 80) 4 dX5_place_80 rfl ?_
      refine x_Vi (μ := m_X5_place) (pc := 82) dX5_place_82 h k_X1_positionOf ml_X5_123 ⟨Nat.le_of_ble_eq_true rfl, Nat.le_of_ble_eq_true rfl⟩ ⟨rfl, rfl⟩ ⟨Nat.zero_le _, Nat.zero_le _⟩ rfl (LPlan_ob (LSch_p (LBS_s hb))) rfl (Nat.le_of_ble_eq_true rfl) _ rfl (fun z19 I20 h => ?_)
      refine x_iload_n (pc := 85) 3 dX5_place_85 rfl ?_
      refine x_Vv (μ := m_X5_place) (pc := 86) dX5_place_86 h k_X1_move ml_X5_226 ⟨Nat.le_of_ble_eq_true rfl, Nat.le_of_ble_eq_true rfl⟩ ⟨rfl, rfl⟩ ⟨Nat.zero_le _, Nat.zero_le _⟩ rfl (LPlan_ob (LSch_p (LBS_t hb))) rfl (Nat.le_of_ble_eq_true rfl) _ rfl (fun I21 h => ?_)
      refine x_aload_n (pc := 89) 0 dX5_place_89 rfl ?_
      obtain ⟨hv22, h⟩ := h
      refine x_getP (pc := 90) dX5_place_90 FC5 5 (by decide) rfl fl_X5_52 (LBS_ob hb) hv22 ?_
      refine x_Vi (μ := m_X5_place) (pc := 93) dX5_place_93 h k_X2_compute ml_X5_88 ⟨Nat.le_of_ble_eq_true rfl, Nat.le_of_ble_eq_true rfl⟩ ⟨rfl, rfl⟩ ⟨Nat.zero_le _, Nat.zero_le _⟩ rfl (LSch_ob (LBS_t hb)) rfl (Nat.le_of_ble_eq_true rfl) _ rfl (fun z23 I24 h => ?_)
      obtain ⟨hr25, h⟩ := h
      obtain ⟨hA26, hB27⟩ := h
      refine x_if_ne (pc := 96) 109 dX5_place_96 (by decide) hr25 (fun hc => ?_) (fun hc => ?_)
      · have h := hA26 hc
        refine x_aload_n (pc := 109) 0 dX5_place_109 rfl ?_
        refine x_Vp (μ := m_X5_place) (pc := 110) dX5_place_110 h k_X5_remember ml_X5_82 ⟨Nat.le_of_ble_eq_true rfl, Nat.le_of_ble_eq_true rfl⟩ ⟨rfl, rfl⟩ ⟨Nat.zero_le _, Nat.zero_le _⟩ rfl (LBS_ob hb) rfl (Nat.le_of_ble_eq_true rfl) _ rfl (fun P29 I28 h => ?_)
        refine x_aload_n (pc := 113) 0 dX5_place_113 rfl ?_
        refine x_Vp (μ := m_X5_place) (pc := 114) dX5_place_114 h k_X5_adoptTrial ml_X5_206 ⟨Nat.le_of_ble_eq_true rfl, Nat.le_of_ble_eq_true rfl⟩ ⟨rfl, rfl⟩ ⟨Nat.zero_le _, Nat.zero_le _⟩ rfl (LBS_ob hb) rfl (Nat.le_of_ble_eq_true rfl) _ rfl (fun P31 I30 h => ?_)
        refine x_aload_n (pc := 117) 0 dX5_place_117 rfl ?_
        obtain ⟨hv32, h⟩ := h
        refine x_getP (pc := 118) dX5_place_118 FC5 3 (by decide) rfl fl_X5_43 (LBS_ob hb) hv32 ?_
        refine x_Vi (μ := m_X5_place) (pc := 121) dX5_place_121 h k_X2_greatestCompletion ml_X5_155 ⟨Nat.le_of_ble_eq_true rfl, Nat.le_of_ble_eq_true rfl⟩ ⟨rfl, rfl⟩ ⟨Nat.zero_le _, Nat.zero_le _⟩ rfl (LSch_ob (LBS_s hb)) rfl (Nat.le_of_ble_eq_true rfl) _ rfl (fun z33 I34 h => ?_)
        exact x_iret (pc := 124) dX5_place_124 rfl (Nat.le_refl _) (Nat.le_refl _) ⟨_, rfl, h⟩
      · have h := hB27 hc
        exact h.elim
    · have h := hB14 hc
      exact h.elim
set_option maxRecDepth 100000 in
set_option maxHeartbeats 4000000 in
theorem t_X5_setDuration_0 {Γ : GG} {P : MP} {I : MM} {R : Int → MP → MM → Prop} {x1 x2 x3 : Int} {σ κ n σ2 κ2 n2 : Nat} (hb : LBS Γ P σ κ n σ2 κ2 n2)
    (h : (Cl Γ m_X5_needOperation [vR 30, vI x1, vI x2] P I (rv P (fun (I1 : MM) => (inR x3) ∧ ((x3 < 1 → False) ∧ (¬ x3 < 1 → ((x3 ≤ 99 → (Cl Γ m_X5_idOf [vI x1, vI x2] P I1 (ri P (fun (z7 : Int) (I8 : MM) => (0 ≤ z7) ∧ (z7 < 36) ∧ (∀ u11 : Int, u11 = (I8 (48 + 1) (z7).toNat) → (Cl Γ m_X5_remember [vR 30] P I8 (rp (fun (P13 : MP) (I12 : MM) => (P13 30 4 = some 48) ∧ (P13 48 1 = some (48 + 1)) ∧ (∀ I16 : MM, I16 = up2 I12 (48 + 1) (z7).toNat x3 → (P13 30 3 = some 40) ∧ (Cl Γ m_X2_compute [vR 40] P13 I16 (ri P13 (fun (z18 : Int) (I19 : MM) => R u11 P13 I19)))))))))))) ∧ (¬ x3 ≤ 99 → False)))))))) :
    XM Γ m_X5_setDuration 0 0 0 [(0, vR 30), (1, vI x1), (2, vI x2), (3, vI x3)] [] P I (rpi R) := by
  refine x_aload_n (pc := 0) 0 dX5_setDuration_0 rfl ?_
  refine x_iload_n (pc := 1) 1 dX5_setDuration_1 rfl ?_
  refine x_iload_n (pc := 2) 2 dX5_setDuration_2 rfl ?_
  refine x_Vv (μ := m_X5_setDuration) (pc := 3) dX5_setDuration_3 h k_X5_needOperation ml_X5_110 ⟨Nat.le_of_ble_eq_true rfl, Nat.le_of_ble_eq_true rfl⟩ ⟨rfl, rfl⟩ ⟨Nat.zero_le _, Nat.zero_le _⟩ rfl (LBS_ob hb) rfl (Nat.le_of_ble_eq_true rfl) _ rfl (fun I1 h => ?_)
  refine x_iload_n (pc := 6) 3 dX5_setDuration_6 rfl ?_
  refine x_iconst (pc := 7) dX5_setDuration_7 ?_
  obtain ⟨hr2, h⟩ := h
  obtain ⟨hA3, hB4⟩ := h
  refine x_icmp_lt (pc := 8) 17 dX5_setDuration_8 (by decide) hr2 ⟨by decide, by decide⟩ (fun hc => ?_) (fun hc => ?_)
  · have h := hA3 hc
    exact h.elim
  · have h := hB4 hc
    refine x_iload_n (pc := 11) 3 dX5_setDuration_11 rfl ?_
    refine x_bipush (pc := 12) dX5_setDuration_12 rfl ?_
    obtain ⟨hA5, hB6⟩ := h
    refine x_icmp_le (pc := 14) 27 dX5_setDuration_14 (by decide) hr2 ⟨by decide, by decide⟩ (fun hc => ?_) (fun hc => ?_)
    · have h := hA5 hc
      refine x_iload_n (pc := 27) 1 dX5_setDuration_27 rfl ?_
      refine x_iload_n (pc := 28) 2 dX5_setDuration_28 rfl ?_
      refine x_Si (μ := m_X5_setDuration) (pc := 29) dX5_setDuration_29 h k_X5_idOf ml_X5_113 ⟨Nat.le_of_ble_eq_true rfl, Nat.le_of_ble_eq_true rfl⟩ ⟨rfl, rfl⟩ ⟨Nat.zero_le _, Nat.zero_le _⟩ rfl (Nat.le_of_ble_eq_true rfl) _ rfl (fun z7 I8 h => ?_)
      refine x_istore (pc := 32) (al' := [(0, vR 30), (1, vI x1), (2, vI x2), (3, vI x3), (4, vI z7)]) dX5_setDuration_32 rfl rfl (Nat.le_of_ble_eq_true rfl) ?_
      refine x_aload_n (pc := 34) 0 dX5_setDuration_34 rfl ?_
      refine x_getP (pc := 35) dX5_setDuration_35 FC5 4 (by decide) rfl fl_X5_51 (LBS_ob hb) (LBS_p4 hb) ?_
      refine x_getP (pc := 38) dX5_setDuration_38 FC1 1 (by decide) rfl fl_X5_120 (LPlan_ob (LSch_p (LBS_s hb))) (LPlan_p1 (LSch_p (LBS_s hb))) ?_
      refine x_iload (pc := 41) 4 dX5_setDuration_41 rfl ?_
      obtain ⟨hv9, h⟩ := h
      obtain ⟨hv10, h⟩ := h
      refine x_iald (pc := 43) dX5_setDuration_43 (LPlan_a1 (LSch_p (LBS_s hb))) hv9 hv10 (by decide) ?_
      refine x_nmT (fun u11 eu11 => ?_)
      have h := h u11 eu11
      refine x_istore (pc := 44) (al' := [(0, vR 30), (1, vI x1), (2, vI x2), (3, vI x3), (4, vI z7), (5, vI u11)]) dX5_setDuration_44 rfl rfl (Nat.le_of_ble_eq_true rfl) ?_
      refine x_aload_n (pc := 46) 0 dX5_setDuration_46 rfl ?_
      refine x_Vp (μ := m_X5_setDuration) (pc := 47) dX5_setDuration_47 h k_X5_remember ml_X5_82 ⟨Nat.le_of_ble_eq_true rfl, Nat.le_of_ble_eq_true rfl⟩ ⟨rfl, rfl⟩ ⟨Nat.zero_le _, Nat.zero_le _⟩ rfl (LBS_ob hb) rfl (Nat.le_of_ble_eq_true rfl) _ rfl (fun P13 I12 h => ?_)
      refine x_aload_n (pc := 50) 0 dX5_setDuration_50 rfl ?_
      obtain ⟨hv14, h⟩ := h
      refine x_getP (pc := 51) dX5_setDuration_51 FC5 4 (by decide) rfl fl_X5_51 (LBS_ob hb) hv14 ?_
      obtain ⟨hv15, h⟩ := h
      refine x_getP (pc := 54) dX5_setDuration_54 FC1 1 (by decide) rfl fl_X5_120 (LPlan_ob (LSch_p (LBS_s hb))) hv15 ?_
      refine x_iload (pc := 57) 4 dX5_setDuration_57 rfl ?_
      refine x_iload_n (pc := 59) 3 dX5_setDuration_59 rfl ?_
      refine x_iast (pc := 60) dX5_setDuration_60 (LPlan_a1 (LSch_p (LBS_s hb))) hv9 hv10 (by decide) ?_
      refine x_nmI (fun I16 eI16 => ?_)
      have h := h I16 eI16
      refine x_aload_n (pc := 61) 0 dX5_setDuration_61 rfl ?_
      obtain ⟨hv17, h⟩ := h
      refine x_getP (pc := 62) dX5_setDuration_62 FC5 3 (by decide) rfl fl_X5_43 (LBS_ob hb) hv17 ?_
      refine x_Vi (μ := m_X5_setDuration) (pc := 65) dX5_setDuration_65 h k_X2_compute ml_X5_88 ⟨Nat.le_of_ble_eq_true rfl, Nat.le_of_ble_eq_true rfl⟩ ⟨rfl, rfl⟩ ⟨Nat.zero_le _, Nat.zero_le _⟩ rfl (LSch_ob (LBS_s hb)) rfl (Nat.le_of_ble_eq_true rfl) _ rfl (fun z18 I19 h => ?_)
      refine x_pop (pc := 68) dX5_setDuration_68 rfl ?_
      refine x_iload (pc := 69) 5 dX5_setDuration_69 rfl ?_
      exact x_iret (pc := 71) dX5_setDuration_71 rfl (Nat.le_refl _) (Nat.le_refl _) ⟨_, rfl, h⟩
    · have h := hB6 hc
      exact h.elim
set_option maxRecDepth 100000 in
set_option maxHeartbeats 4000000 in
theorem t_X5_restart_0 {Γ : GG} {P : MP} {I : MM} {R : Int → MP → MM → Prop} {σ κ n σ2 κ2 n2 : Nat} (hb : LBS Γ P σ κ n σ2 κ2 n2)
    (h : (Cl Γ m_X5_remember [vR 30] P I (rp (fun (P2 : MP) (I1 : MM) => (P2 30 4 = some 48) ∧ (Cl Γ m_X1_setFirstOrders [vR 48] P2 I1 (rv P2 (fun (I4 : MM) => (P2 30 3 = some 40) ∧ (Cl Γ m_X2_compute [vR 40] P2 I4 (ri P2 (fun (z6 : Int) (I7 : MM) => (Cl Γ m_X2_greatestCompletion [vR 40] P2 I7 (ri P2 (fun (z8 : Int) (I9 : MM) => R z8 P2 I9))))))))))))) :
    XM Γ m_X5_restart 0 0 0 [(0, vR 30)] [] P I (rpi R) := by
  refine x_aload_n (pc := 0) 0 dX5_restart_0 rfl ?_
  refine x_Vp (μ := m_X5_restart) (pc := 1) dX5_restart_1 h k_X5_remember ml_X5_82 ⟨Nat.le_of_ble_eq_true rfl, Nat.le_of_ble_eq_true rfl⟩ ⟨rfl, rfl⟩ ⟨Nat.zero_le _, Nat.zero_le _⟩ rfl (LBS_ob hb) rfl (Nat.le_of_ble_eq_true rfl) _ rfl (fun P2 I1 h => ?_)
  refine x_aload_n (pc := 4) 0 dX5_restart_4 rfl ?_
  obtain ⟨hv3, h⟩ := h
  refine x_getP (pc := 5) dX5_restart_5 FC5 4 (by decide) rfl fl_X5_51 (LBS_ob hb) hv3 ?_
  refine x_Vv (μ := m_X5_restart) (pc := 8) dX5_restart_8 h k_X1_setFirstOrders ml_X5_234 ⟨Nat.le_of_ble_eq_true rfl, Nat.le_of_ble_eq_true rfl⟩ ⟨rfl, rfl⟩ ⟨Nat.zero_le _, Nat.zero_le _⟩ rfl (LPlan_ob (LSch_p (LBS_s hb))) rfl (Nat.le_of_ble_eq_true rfl) _ rfl (fun I4 h => ?_)
  refine x_aload_n (pc := 11) 0 dX5_restart_11 rfl ?_
  obtain ⟨hv5, h⟩ := h
  refine x_getP (pc := 12) dX5_restart_12 FC5 3 (by decide) rfl fl_X5_43 (LBS_ob hb) hv5 ?_
  refine x_Vi (μ := m_X5_restart) (pc := 15) dX5_restart_15 h k_X2_compute ml_X5_88 ⟨Nat.le_of_ble_eq_true rfl, Nat.le_of_ble_eq_true rfl⟩ ⟨rfl, rfl⟩ ⟨Nat.zero_le _, Nat.zero_le _⟩ rfl (LSch_ob (LBS_s hb)) rfl (Nat.le_of_ble_eq_true rfl) _ rfl (fun z6 I7 h => ?_)
  refine x_pop (pc := 18) dX5_restart_18 rfl ?_
  refine x_aload_n (pc := 19) 0 dX5_restart_19 rfl ?_
  refine x_getP (pc := 20) dX5_restart_20 FC5 3 (by decide) rfl fl_X5_43 (LBS_ob hb) hv5 ?_
  refine x_Vi (μ := m_X5_restart) (pc := 23) dX5_restart_23 h k_X2_greatestCompletion ml_X5_155 ⟨Nat.le_of_ble_eq_true rfl, Nat.le_of_ble_eq_true rfl⟩ ⟨rfl, rfl⟩ ⟨Nat.zero_le _, Nat.zero_le _⟩ rfl (LSch_ob (LBS_s hb)) rfl (Nat.le_of_ble_eq_true rfl) _ rfl (fun z8 I9 h => ?_)
  exact x_iret (pc := 26) dX5_restart_26 rfl (Nat.le_refl _) (Nat.le_refl _) ⟨_, rfl, h⟩
set_option maxRecDepth 100000 in
set_option maxHeartbeats 4000000 in
theorem t_X5_undo_0 {Γ : GG} {P : MP} {I : MM} {R : Int → MP → MM → Prop} {σ κ n σ2 κ2 n2 : Nat} (hb : LBS Γ P σ κ n σ2 κ2 n2)
    (h : (inR (I 30 9)) ∧ ((0 < (I 30 9) → (∀ I4 : MM, I4 = up2 I 30 9 ((I 30 9) - 1) → (inR ((I4 30 8) + (I4 30 9))) ∧ (0 ≤ ((I4 30 8) + (I4 30 9))) ∧ (0 ≤ (((I4 30 8) + (I4 30 9)) % 8)) ∧ ((((I4 30 8) + (I4 30 9)) % 8) < 8) ∧ (Cl Γ m_X1_copyFrom [vR 48, vR (80 + 3 * ((((I4 30 8) + (I4 30 9)) % 8)).toNat)] P I4 (rp (fun (P10 : MP) (I9 : MM) => (P10 30 3 = some 40) ∧ (Cl Γ m_X2_compute [vR 40] P10 I9 (ri P10 (fun (z12 : Int) (I13 : MM) => R (I13 30 9) P10 I13)))))))) ∧ (¬ 0 < (I 30 9) → R (-1) P I))) :
    XM Γ m_X5_undo 0 0 0 [(0, vR 30)] [] P I (rpi R) := by
  refine x_aload_n (pc := 0) 0 dX5_undo_0 rfl ?_
  refine x_getI (pc := 1) dX5_undo_1 FC5 9 (by decide) rfl fl_X5_32 (LBS_ob hb) ?_
  obtain ⟨hr1, h⟩ := h
  obtain ⟨hA2, hB3⟩ := h
  refine x_if_gt (pc := 4) 9 dX5_undo_4 (by decide) hr1 (fun hc => ?_) (fun hc => ?_)
  · have h := hA2 hc
    refine x_aload_n (pc := 9) 0 dX5_undo_9 rfl ?_
    refine x_dup (pc := 10) dX5_undo_10 rfl ?_
    refine x_getI (pc := 11) dX5_undo_11 FC5 9 (by decide) rfl fl_X5_32 (LBS_ob hb) ?_
    refine x_iconst (pc := 14) dX5_undo_14 ?_
    refine x_isub (pc := 15) dX5_undo_15 ?_
    refine x_putI (pc := 16) dX5_undo_16 FC5 9 (by decide) rfl rfl fl_X5_32 (LBS_ob hb) ?_
    refine x_nmI (fun I4 eI4 => ?_)
    have h := h I4 eI4
    refine x_aload_n (pc := 19) 0 dX5_undo_19 rfl ?_
    refine x_getP (pc := 20) dX5_undo_20 FC5 7 (by decide) rfl fl_X5_25 (LBS_ob hb) (LBS_p7 hb) ?_
    refine x_aload_n (pc := 23) 0 dX5_undo_23 rfl ?_
    refine x_getI (pc := 24) dX5_undo_24 FC5 8 (by decide) rfl fl_X5_29 (LBS_ob hb) ?_
    refine x_aload_n (pc := 27) 0 dX5_undo_27 rfl ?_
    refine x_getI (pc := 28) dX5_undo_28 FC5 9 (by decide) rfl fl_X5_32 (LBS_ob hb) ?_
    refine x_iadd (pc := 31) dX5_undo_31 ?_
    refine x_bipush (pc := 32) dX5_undo_32 rfl ?_
    obtain ⟨hr5, h⟩ := h
    obtain ⟨hv6, h⟩ := h
    refine x_irem (pc := 34) dX5_undo_34 hr5 ⟨by decide, by decide⟩ hv6 (by decide) ?_
    obtain ⟨hv7, h⟩ := h
    obtain ⟨hv8, h⟩ := h
    refine x_aald (pc := 35) dX5_undo_35 4 (LBS_a7 hb) (by decide) hv7 hv8 (by decide) (LBS_h hb hv7 hv8).1 ?_
    refine x_astore_n (pc := 36) (al' := [(0, vR 30), (1, vR (80 + 3 * ((((I4 30 8) + (I4 30 9)) % 8)).toNat))]) dX5_undo_36 rfl rfl (Nat.le_of_ble_eq_true rfl) ?_
    refine x_aload_n (pc := 37) 1 dX5_undo_37 rfl ?_
    refine x_ifnull (pc := 38) dX5_undo_38 ?_
    refine x_aload_n (pc := 41) 0 dX5_undo_41 rfl ?_
    refine x_getP (pc := 42) dX5_undo_42 FC5 4 (by decide) rfl fl_X5_51 (LBS_ob hb) (LBS_p4 hb) ?_
    refine x_aload_n (pc := 45) 1 dX5_undo_45 rfl ?_
    refine x_Vp (μ := m_X5_undo) (pc := 46) dX5_undo_46 h k_X1_copyFrom ml_X5_222 ⟨Nat.le_of_ble_eq_true rfl, Nat.le_of_ble_eq_true rfl⟩ ⟨rfl, rfl⟩ ⟨Nat.zero_le _, Nat.zero_le _⟩ rfl (LPlan_ob (LSch_p (LBS_s hb))) rfl (Nat.le_of_ble_eq_true rfl) _ rfl (fun P10 I9 h => ?_)
    refine x_aload_n (pc := 49) 0 dX5_undo_49 rfl ?_
    obtain ⟨hv11, h⟩ := h
    refine x_getP (pc := 50) dX5_undo_50 FC5 3 (by decide) rfl fl_X5_43 (LBS_ob hb) hv11 ?_
    refine x_Vi (μ := m_X5_undo) (pc := 53) dX5_undo_53 h k_X2_compute ml_X5_88 ⟨Nat.le_of_ble_eq_true rfl, Nat.le_of_ble_eq_true rfl⟩ ⟨rfl, rfl⟩ ⟨Nat.zero_le _, Nat.zero_le _⟩ rfl (LSch_ob (LBS_s hb)) rfl (Nat.le_of_ble_eq_true rfl) _ rfl (fun z12 I13 h => ?_)
    refine x_pop (pc := 56) dX5_undo_56 rfl ?_
    refine x_aload_n (pc := 57) 0 dX5_undo_57 rfl ?_
    refine x_getI (pc := 58) dX5_undo_58 FC5 9 (by decide) rfl fl_X5_32 (LBS_ob hb) ?_
    exact x_iret (pc := 61) dX5_undo_61 rfl (Nat.le_refl _) (Nat.le_refl _) ⟨_, rfl, h⟩
  · have h := hB3 hc
    refine x_iconst (pc := 7) dX5_undo_7 ?_
    exact x_iret (pc := 8) dX5_undo_8 rfl (Nat.le_refl _) (Nat.le_refl _) ⟨_, rfl, h⟩
set_option maxRecDepth 100000 in
set_option maxHeartbeats 4000000 in
theorem t_X5_checksum_0 {Γ : GG} {P : MP} {I : MM} {R : Int → MM → Prop} {σ κ n σ2 κ2 n2 : Nat} (hb : LBS Γ P σ κ n σ2 κ2 n2)
    (h : (Cl Γ m_X2_greatestCompletion [vR 40] P I (ri P (fun (z1 : Int) (I2 : MM) => (inR z1) ∧ (Cl Γ m_X2_costOfAll [vR 40] P I2 (ri P (fun (z4 : Int) (I5 : MM) => (inR z4) ∧ (∀ w7 : Int, w7 = ((31 * z1) + z4) → XM Γ m_X5_checksum 0 0 24 [(0, vR 30), (1, vL w7), (3, vI 0)] [] P I5 (rl P R))))))))) :
    XM Γ m_X5_checksum 0 0 0 [(0, vR 30)] [] P I (rl P R) := by
  refine x_ldc2 (pc := 0) (31) dX5_checksum_0 kc_X5_237 ?_
  refine x_aload_n (pc := 3) 0 dX5_checksum_3 rfl ?_
  refine x_getP (pc := 4) dX5_checksum_4 FC5 3 (by decide) rfl fl_X5_43 (LBS_ob hb) (LBS_p3 hb) ?_
  refine x_Vi (μ := m_X5_checksum) (pc := 7) dX5_checksum_7 h k_X2_greatestCompletion ml_X5_155 ⟨Nat.le_of_ble_eq_true rfl, Nat.le_of_ble_eq_true rfl⟩ ⟨rfl, rfl⟩ ⟨Nat.zero_le _, Nat.zero_le _⟩ rfl (LSch_ob (LBS_s hb)) rfl (Nat.le_of_ble_eq_true rfl) _ rfl (fun z1 I2 h => ?_)
  obtain ⟨hr3, h⟩ := h
  refine x_i2l (pc := 10) dX5_checksum_10 hr3 ?_
  refine x_lmul (pc := 11) dX5_checksum_11 ?_
  refine x_aload_n (pc := 12) 0 dX5_checksum_12 rfl ?_
  refine x_getP (pc := 13) dX5_checksum_13 FC5 3 (by decide) rfl fl_X5_43 (LBS_ob hb) (LBS_p3 hb) ?_
  refine x_Vi (μ := m_X5_checksum) (pc := 16) dX5_checksum_16 h k_X2_costOfAll ml_X5_162 ⟨Nat.le_of_ble_eq_true rfl, Nat.le_of_ble_eq_true rfl⟩ ⟨rfl, rfl⟩ ⟨Nat.zero_le _, Nat.zero_le _⟩ rfl (LSch_ob (LBS_s hb)) rfl (Nat.le_of_ble_eq_true rfl) _ rfl (fun z4 I5 h => ?_)
  obtain ⟨hr6, h⟩ := h
  refine x_i2l (pc := 19) dX5_checksum_19 hr6 ?_
  refine x_ladd (pc := 20) dX5_checksum_20 ?_
  refine x_nmL (fun w7 ew7 => ?_)
  have h := h w7 ew7
  refine x_lstore_n (pc := 21) (al' := [(0, vR 30), (1, vL w7)]) dX5_checksum_21 rfl rfl rfl (Nat.le_of_ble_eq_true rfl) ?_
  refine x_iconst (pc := 22) dX5_checksum_22 ?_
  refine x_istore_n (pc := 23) (al' := [(0, vR 30), (1, vL w7), (3, vI 0)]) dX5_checksum_23 rfl rfl (Nat.le_of_ble_eq_true rfl) ?_
  exact x_sub [0, 1, 2] rfl h
set_option maxRecDepth 100000 in
set_option maxHeartbeats 4000000 in
theorem t_X5_checksum_24 {Γ : GG} {P : MP} {I : MM} {R : Int → MM → Prop} {x1 x3 : Int} {σ κ n σ2 κ2 n2 : Nat} (hb : LBS Γ P σ κ n σ2 κ2 n2)
    (h : (inR x3) ∧ (inR (I σ 0)) ∧ (((I σ 0) ≤ x3 → XM Γ m_X5_checksum 0 0 98 [(0, vR 30), (1, vL x1), (3, vI 0)] [] P I (rl P R)) ∧ (¬ (I σ 0) ≤ x3 → XM Γ m_X5_checksum 0 0 41 [(0, vR 30), (1, vL x1), (3, vI x3), (4, vI 0)] [] P I (rl P R)))) :
    XM Γ m_X5_checksum 0 0 24 [(0, vR 30), (1, vL x1), (3, vI x3)] [] P I (rl P R) := by
  refine x_iload_n (pc := 24) 2 dX5_checksum_24 rfl ?_
  refine x_aload_n (pc := 25) 0 dX5_checksum_25 rfl ?_
  refine x_getP (pc := 26) dX5_checksum_26 FC5 4 (by decide) rfl fl_X5_51 (LBS_ob hb) (LBS_p4 hb) ?_
  refine x_getP (pc := 29) dX5_checksum_29 FC1 0 (by decide) rfl fl_X5_95 (LPlan_ob (LSch_p (LBS_s hb))) (LPlan_p0 (LSch_p (LBS_s hb))) ?_
  refine x_getI (pc := 32) dX5_checksum_32 FC4 0 (by decide) rfl fl_X5_99 (LShop_ob (LPlan_s (LSch_p (LBS_s hb)))) ?_
  obtain ⟨hr1, h⟩ := h
  obtain ⟨hr2, h⟩ := h
  obtain ⟨hA3, hB4⟩ := h
  refine x_icmp_ge (pc := 35) 96 dX5_checksum_35 (by decide) hr1 hr2 (fun hc => ?_) (fun hc => ?_)
  · have h := hA3 hc
    refine x_iconst (pc := 96) dX5_checksum_96 ?_
    refine x_istore_n (pc := 97) (al' := [(0, vR 30), (1, vL x1), (3, vI 0)]) dX5_checksum_97 rfl rfl (Nat.le_of_ble_eq_true rfl) ?_
    exact x_sub [0, 1, 2] rfl h
  · have h := hB4 hc
    refine x_iconst (pc := 38) dX5_checksum_38 ?_
    refine x_istore (pc := 39) (al' := [(0, vR 30), (1, vL x1), (3, vI x3), (4, vI 0)]) dX5_checksum_39 rfl rfl (Nat.le_of_ble_eq_true rfl) ?_
    exact x_sub [0, 1, 2, 3] rfl h
set_option maxRecDepth 100000 in
set_option maxHeartbeats 4000000 in
theorem t_X5_checksum_98 {Γ : GG} {P : MP} {I : MM} {R : Int → MM → Prop} {x1 x3 : Int} {σ κ n σ2 κ2 n2 : Nat} (hb : LBS Γ P σ κ n σ2 κ2 n2)
    (h : (inR x3) ∧ (inR (I σ 1)) ∧ (((I σ 1) ≤ x3 → R x1 I) ∧ (¬ (I σ 1) ≤ x3 → XM Γ m_X5_checksum 0 0 115 [(0, vR 30), (1, vL x1), (3, vI x3), (4, vI 0)] [] P I (rl P R)))) :
    XM Γ m_X5_checksum 0 0 98 [(0, vR 30), (1, vL x1), (3, vI x3)] [] P I (rl P R) := by
  refine x_iload_n (pc := 98) 2 dX5_checksum_98 rfl ?_
  refine x_aload_n (pc := 99) 0 dX5_checksum_99 rfl ?_
  refine x_getP (pc := 100) dX5_checksum_100 FC5 4 (by decide) rfl fl_X5_51 (LBS_ob hb) (LBS_p4 hb) ?_
  refine x_getP (pc := 103) dX5_checksum_103 FC1 0 (by decide) rfl fl_X5_95 (LPlan_ob (LSch_p (LBS_s hb))) (LPlan_p0 (LSch_p (LBS_s hb))) ?_
  refine x_getI (pc := 106) dX5_checksum_106 FC4 1 (by decide) rfl fl_X5_92 (LShop_ob (LPlan_s (LSch_p (LBS_s hb)))) ?_
  obtain ⟨hr1, h⟩ := h
  obtain ⟨hr2, h⟩ := h
  obtain ⟨hA3, hB4⟩ := h
  refine x_icmp_ge (pc := 109) 166 dX5_checksum_109 (by decide) hr1 hr2 (fun hc => ?_) (fun hc => ?_)
  · have h := hA3 hc
    refine x_lload_n (pc := 166) 1 dX5_checksum_166 rfl ?_
    exact x_lret (pc := 167) dX5_checksum_167 rfl (Nat.le_refl _) (Nat.le_refl _) ⟨_, rfl, rfl, h⟩
  · have h := hB4 hc
    refine x_iconst (pc := 112) dX5_checksum_112 ?_
    refine x_istore (pc := 113) (al' := [(0, vR 30), (1, vL x1), (3, vI x3), (4, vI 0)]) dX5_checksum_113 rfl rfl (Nat.le_of_ble_eq_true rfl) ?_
    exact x_sub [0, 1, 2, 3] rfl h
set_option maxRecDepth 100000 in
set_option maxHeartbeats 4000000 in
theorem t_X5_checksum_41 {Γ : GG} {P : MP} {I : MM} {R : Int → MM → Prop} {x1 x3 x4 : Int} {σ κ n σ2 κ2 n2 : Nat} (hb : LBS Γ P σ κ n σ2 κ2 n2)
    (h : (0 ≤ x3) ∧ (x3 < 6) ∧ (inR x4) ∧ (inR (I (σ + 3) (x3).toNat)) ∧ (((I (σ + 3) (x3).toNat) ≤ x4 → XM Γ m_X5_checksum 0 0 24 [(0, vR 30), (1, vL x1), (3, vI (x3 + 1))] [] P I (rl P R)) ∧ (¬ (I (σ + 3) (x3).toNat) ≤ x4 → (0 ≤ ((x3 * 6) + x4)) ∧ (((x3 * 6) + x4) < 36) ∧ (Cl Γ m_X5_codeOf [vI (I (48 + 2) (((x3 * 6) + x4)).toNat)] P I (ri P (fun (z9 : Int) (I10 : MM) => (inR z9) ∧ (∀ w12 : Int, w12 = ((31 * x1) + z9) → XM Γ m_X5_checksum 0 0 41 [(0, vR 30), (1, vL w12), (3, vI x3), (4, vI (x4 + 1))] [] P I10 (rl P R)))))))) :
    XM Γ m_X5_checksum 0 0 41 [(0, vR 30), (1, vL x1), (3, vI x3), (4, vI x4)] [] P I (rl P R) := by
  refine x_iload (pc := 41) 3 dX5_checksum_41 rfl ?_
  refine x_aload_n (pc := 43) 0 dX5_checksum_43 rfl ?_
  refine x_getP (pc := 44) dX5_checksum_44 FC5 4 (by decide) rfl fl_X5_51 (LBS_ob hb) (LBS_p4 hb) ?_
  refine x_getP (pc := 47) dX5_checksum_47 FC1 0 (by decide) rfl fl_X5_95 (LPlan_ob (LSch_p (LBS_s hb))) (LPlan_p0 (LSch_p (LBS_s hb))) ?_
  refine x_getP (pc := 50) dX5_checksum_50 FC4 5 (by decide) rfl fl_X5_132 (LShop_ob (LPlan_s (LSch_p (LBS_s hb)))) (LShop_p5 (LPlan_s (LSch_p (LBS_s hb)))) ?_
  refine x_iload_n (pc := 53) 2 dX5_checksum_53 rfl ?_
  obtain ⟨hv1, h⟩ := h
  obtain ⟨hv2, h⟩ := h
  refine x_iald (pc := 54) dX5_checksum_54 (LShop_a5 (LPlan_s (LSch_p (LBS_s hb)))) hv1 hv2 (by decide) ?_
  obtain ⟨hr3, h⟩ := h
  obtain ⟨hr4, h⟩ := h
  obtain ⟨hA5, hB6⟩ := h
  refine x_icmp_ge (pc := 55) 90 dX5_checksum_55 (by decide) hr3 hr4 (fun hc => ?_) (fun hc => ?_)
  · have h := hA5 hc
    refine x_iinc (pc := 90) (al' := [(0, vR 30), (1, vL x1), (3, vI (x3 + 1)), (4, vI x4)]) 2 dX5_checksum_90 rfl rfl rfl (Nat.le_of_ble_eq_true rfl) ?_
    refine x_goto (pc := 93) 24 dX5_checksum_93 (by decide) ?_
    exact x_sub [0, 1, 2] rfl h
  · have h := hB6 hc
    refine x_ldc2 (pc := 58) (31) dX5_checksum_58 kc_X5_237 ?_
    refine x_lload_n (pc := 61) 1 dX5_checksum_61 rfl ?_
    refine x_lmul (pc := 62) dX5_checksum_62 ?_
    refine x_aload_n (pc := 63) 0 dX5_checksum_63 rfl ?_
    refine x_getP (pc := 64) dX5_checksum_64 FC5 4 (by decide) rfl fl_X5_51 (LBS_ob hb) (LBS_p4 hb) ?_
    refine x_getP (pc := 67) dX5_checksum_67 FC1 2 (by decide) rfl fl_X5_140 (LPlan_ob (LSch_p (LBS_s hb))) (LPlan_p2 (LSch_p (LBS_s hb))) ?_
    refine x_iload_n (pc := 70) 2 dX5_checksum_70 rfl ?_
    refine x_bipush (pc := 71) dX5_checksum_71 rfl ?_
    refine x_imul (pc := 73) dX5_checksum_73 ?_
    refine x_iload (pc := 74) 3 dX5_checksum_74 rfl ?_
    refine x_iadd (pc := 76) dX5_checksum_76 ?_
    obtain ⟨hv7, h⟩ := h
    obtain ⟨hv8, h⟩ := h
    refine x_iald (pc := 77) dX5_checksum_77 (LPlan_a2 (LSch_p (LBS_s hb))) hv7 hv8 (by decide) ?_
    refine x_Si (μ := m_X5_checksum) (pc := 78) dX5_checksum_78 h k_X5_codeOf ml_X5_143 ⟨Nat.le_of_ble_eq_true rfl, Nat.le_of_ble_eq_true rfl⟩ ⟨rfl, rfl⟩ ⟨Nat.zero_le _, Nat.zero_le _⟩ rfl (Nat.le_of_ble_eq_true rfl) _ rfl (fun z9 I10 h => ?_)
    obtain ⟨hr11, h⟩ := h
    refine x_i2l (pc := 81) dX5_checksum_81 hr11 ?_
    refine x_ladd (pc := 82) dX5_checksum_82 ?_
    refine x_nmL (fun w12 ew12 => ?_)
    have h := h w12 ew12
    refine x_lstore_n (pc := 83) (al' := [(0, vR 30), (1, vL w12), (3, vI x3), (4, vI x4)]) dX5_checksum_83 rfl rfl rfl (Nat.le_of_ble_eq_true rfl) ?_
    refine x_iinc (pc := 84) (al' := [(0, vR 30), (1, vL w12), (3, vI x3), (4, vI (x4 + 1))]) 3 dX5_checksum_84 rfl rfl rfl (Nat.le_of_ble_eq_true rfl) ?_
    refine x_goto (pc := 87) 41 dX5_checksum_87 (by decide) ?_
    exact x_sub [0, 1, 2, 3] rfl h
set_option maxRecDepth 100000 in
set_option maxHeartbeats 4000000 in
theorem t_X5_checksum_115 {Γ : GG} {P : MP} {I : MM} {R : Int → MM → Prop} {x1 x3 x4 : Int} {σ κ n σ2 κ2 n2 : Nat} (hb : LBS Γ P σ κ n σ2 κ2 n2)
    (h : (0 ≤ x3) ∧ (x3 < 6) ∧ (inR x4) ∧ (inR (I (σ + 7) (x3).toNat)) ∧ (((I (σ + 7) (x3).toNat) ≤ x4 → XM Γ m_X5_checksum 0 0 98 [(0, vR 30), (1, vL x1), (3, vI (x3 + 1))] [] P I (rl P R)) ∧ (¬ (I (σ + 7) (x3).toNat) ≤ x4 → (Cl Γ m_X5_idOf [vI x3, vI x4] P I (ri P (fun (z7 : Int) (I8 : MM) => (0 ≤ z7) ∧ (z7 < 36) ∧ (inR (I8 (40 + 1) (z7).toNat)) ∧ (∀ w12 : Int, w12 = ((31 * x1) + (I8 (40 + 1) (z7).toNat)) → XM Γ m_X5_checksum 0 0 115 [(0, vR 30), (1, vL w12), (3, vI x3), (4, vI (x4 + 1))] [] P I8 (rl P R)))))))) :
    XM Γ m_X5_checksum 0 0 115 [(0, vR 30), (1, vL x1), (3, vI x3), (4, vI x4)] [] P I (rl P R) := by
  refine x_iload (pc := 115) 3 dX5_checksum_115 rfl ?_
  refine x_aload_n (pc := 117) 0 dX5_checksum_117 rfl ?_
  refine x_getP (pc := 118) dX5_checksum_118 FC5 4 (by decide) rfl fl_X5_51 (LBS_ob hb) (LBS_p4 hb) ?_
  refine x_getP (pc := 121) dX5_checksum_121 FC1 0 (by decide) rfl fl_X5_95 (LPlan_ob (LSch_p (LBS_s hb))) (LPlan_p0 (LSch_p (LBS_s hb))) ?_
  refine x_getP (pc := 124) dX5_checksum_124 FC4 9 (by decide) rfl fl_X5_106 (LShop_ob (LPlan_s (LSch_p (LBS_s hb)))) (LShop_p9 (LPlan_s (LSch_p (LBS_s hb)))) ?_
  refine x_iload_n (pc := 127) 2 dX5_checksum_127 rfl ?_
  obtain ⟨hv1, h⟩ := h
  obtain ⟨hv2, h⟩ := h
  refine x_iald (pc := 128) dX5_checksum_128 (LShop_a9 (LPlan_s (LSch_p (LBS_s hb)))) hv1 hv2 (by decide) ?_
  obtain ⟨hr3, h⟩ := h
  obtain ⟨hr4, h⟩ := h
  obtain ⟨hA5, hB6⟩ := h
  refine x_icmp_ge (pc := 129) 160 dX5_checksum_129 (by decide) hr3 hr4 (fun hc => ?_) (fun hc => ?_)
  · have h := hA5 hc
    refine x_iinc (pc := 160) (al' := [(0, vR 30), (1, vL x1), (3, vI (x3 + 1)), (4, vI x4)]) 2 dX5_checksum_160 rfl rfl rfl (Nat.le_of_ble_eq_true rfl) ?_
    refine x_goto (pc := 163) 98 dX5_checksum_163 (by decide) ?_
    exact x_sub [0, 1, 2] rfl h
  · have h := hB6 hc
    refine x_ldc2 (pc := 132) (31) dX5_checksum_132 kc_X5_237 ?_
    refine x_lload_n (pc := 135) 1 dX5_checksum_135 rfl ?_
    refine x_lmul (pc := 136) dX5_checksum_136 ?_
    refine x_aload_n (pc := 137) 0 dX5_checksum_137 rfl ?_
    refine x_getP (pc := 138) dX5_checksum_138 FC5 3 (by decide) rfl fl_X5_43 (LBS_ob hb) (LBS_p3 hb) ?_
    refine x_getP (pc := 141) dX5_checksum_141 FC2 1 (by decide) rfl fl_X5_146 (LSch_ob (LBS_s hb)) (LSch_p1 (LBS_s hb)) ?_
    refine x_iload_n (pc := 144) 2 dX5_checksum_144 rfl ?_
    refine x_iload (pc := 145) 3 dX5_checksum_145 rfl ?_
    refine x_Si (μ := m_X5_checksum) (pc := 147) dX5_checksum_147 h k_X5_idOf ml_X5_113 ⟨Nat.le_of_ble_eq_true rfl, Nat.le_of_ble_eq_true rfl⟩ ⟨rfl, rfl⟩ ⟨Nat.zero_le _, Nat.zero_le _⟩ rfl (Nat.le_of_ble_eq_true rfl) _ rfl (fun z7 I8 h => ?_)
    obtain ⟨hv9, h⟩ := h
    obtain ⟨hv10, h⟩ := h
    refine x_iald (pc := 150) dX5_checksum_150 (LSch_a1 (LBS_s hb)) hv9 hv10 (by decide) ?_
    obtain ⟨hr11, h⟩ := h
    refine x_i2l (pc := 151) dX5_checksum_151 hr11 ?_
    refine x_ladd (pc := 152) dX5_checksum_152 ?_
    refine x_nmL (fun w12 ew12 => ?_)
    have h := h w12 ew12
    refine x_lstore_n (pc := 153) (al' := [(0, vR 30), (1, vL w12), (3, vI x3), (4, vI x4)]) dX5_checksum_153 rfl rfl rfl (Nat.le_of_ble_eq_true rfl) ?_
    refine x_iinc (pc := 154) (al' := [(0, vR 30), (1, vL w12), (3, vI x3), (4, vI (x4 + 1))]) 3 dX5_checksum_154 rfl rfl rfl (Nat.le_of_ble_eq_true rfl) ?_
    refine x_goto (pc := 157) 115 dX5_checksum_157 (by decide) ?_
    exact x_sub [0, 1, 2, 3] rfl h
set_option maxRecDepth 100000 in
set_option maxHeartbeats 4000000 in
theorem t_X5_needMachine_0 {Γ : GG} {P : MP} {I : MM} {R : MM → Prop} {x1 : Int} {σ κ n σ2 κ2 n2 : Nat} (hb : LBS Γ P σ κ n σ2 κ2 n2)
    (h : (inR x1) ∧ ((x1 < 0 → False) ∧ (¬ x1 < 0 → (inR (I σ 0)) ∧ ((x1 < (I σ 0) → R I) ∧ (¬ x1 < (I σ 0) → False))))) :
    XM Γ m_X5_needMachine 0 0 0 [(0, vR 30), (1, vI x1)] [] P I (rv P R) := by
  refine x_iload_n (pc := 0) 1 dX5_needMachine_0 rfl ?_
  obtain ⟨hr1, h⟩ := h
  obtain ⟨hA2, hB3⟩ := h
  refine x_if_lt (pc := 1) 18 dX5_needMachine_1 (by decide) hr1 (fun hc => ?_) (fun hc => ?_)
  · have h := hA2 hc
    exact h.elim
  · have h := hB3 hc
    refine x_iload_n (pc := 4) 1 dX5_needMachine_4 rfl ?_
    refine x_aload_n (pc := 5) 0 dX5_needMachine_5 rfl ?_
    refine x_getP (pc := 6) dX5_needMachine_6 FC5 4 (by decide) rfl fl_X5_51 (LBS_ob hb) (LBS_p4 hb) ?_
    refine x_getP (pc := 9) dX5_needMachine_9 FC1 0 (by decide) rfl fl_X5_95 (LPlan_ob (LSch_p (LBS_s hb))) (LPlan_p0 (LSch_p (LBS_s hb))) ?_
    refine x_getI (pc := 12) dX5_needMachine_12 FC4 0 (by decide) rfl fl_X5_99 (LShop_ob (LPlan_s (LSch_p (LBS_s hb)))) ?_
    obtain ⟨hr4, h⟩ := h
    obtain ⟨hA5, hB6⟩ := h
    refine x_icmp_lt (pc := 15) 28 dX5_needMachine_15 (by decide) hr1 hr4 (fun hc => ?_) (fun hc => ?_)
    · have h := hA5 hc
      exact x_vret (pc := 28) dX5_needMachine_28 rfl (Nat.le_refl _) (Nat.le_refl _) ⟨rfl, rfl, h⟩
    · have h := hB6 hc
      exact h.elim
set_option maxRecDepth 100000 in
set_option maxHeartbeats 4000000 in
theorem t_X5_needJob_0 {Γ : GG} {P : MP} {I : MM} {R : MM → Prop} {x1 : Int} {σ κ n σ2 κ2 n2 : Nat} (hb : LBS Γ P σ κ n σ2 κ2 n2)
    (h : (inR x1) ∧ ((x1 < 0 → False) ∧ (¬ x1 < 0 → (inR (I σ 1)) ∧ ((x1 < (I σ 1) → R I) ∧ (¬ x1 < (I σ 1) → False))))) :
    XM Γ m_X5_needJob 0 0 0 [(0, vR 30), (1, vI x1)] [] P I (rv P R) := by
  refine x_iload_n (pc := 0) 1 dX5_needJob_0 rfl ?_
  obtain ⟨hr1, h⟩ := h
  obtain ⟨hA2, hB3⟩ := h
  refine x_if_lt (pc := 1) 18 dX5_needJob_1 (by decide) hr1 (fun hc => ?_) (fun hc => ?_)
  · have h := hA2 hc
    exact h.elim
  · have h := hB3 hc
    refine x_iload_n (pc := 4) 1 dX5_needJob_4 rfl ?_
    refine x_aload_n (pc := 5) 0 dX5_needJob_5 rfl ?_
    refine x_getP (pc := 6) dX5_needJob_6 FC5 4 (by decide) rfl fl_X5_51 (LBS_ob hb) (LBS_p4 hb) ?_
    refine x_getP (pc := 9) dX5_needJob_9 FC1 0 (by decide) rfl fl_X5_95 (LPlan_ob (LSch_p (LBS_s hb))) (LPlan_p0 (LSch_p (LBS_s hb))) ?_
    refine x_getI (pc := 12) dX5_needJob_12 FC4 1 (by decide) rfl fl_X5_92 (LShop_ob (LPlan_s (LSch_p (LBS_s hb)))) ?_
    obtain ⟨hr4, h⟩ := h
    obtain ⟨hA5, hB6⟩ := h
    refine x_icmp_lt (pc := 15) 28 dX5_needJob_15 (by decide) hr1 hr4 (fun hc => ?_) (fun hc => ?_)
    · have h := hA5 hc
      exact x_vret (pc := 28) dX5_needJob_28 rfl (Nat.le_refl _) (Nat.le_refl _) ⟨rfl, rfl, h⟩
    · have h := hB6 hc
      exact h.elim
set_option maxRecDepth 100000 in
set_option maxHeartbeats 4000000 in
theorem t_X5_needOperation_0 {Γ : GG} {P : MP} {I : MM} {R : MM → Prop} {x1 x2 : Int} {σ κ n σ2 κ2 n2 : Nat} (hb : LBS Γ P σ κ n σ2 κ2 n2)
    (h : (Cl Γ m_X5_needJob [vR 30, vI x1] P I (rv P (fun (I1 : MM) => (inR x2) ∧ ((x2 < 0 → False) ∧ (¬ x2 < 0 → (0 ≤ x1) ∧ (x1 < 6) ∧ (inR (I1 (σ + 7) (x1).toNat)) ∧ ((x2 < (I1 (σ + 7) (x1).toNat) → R I1) ∧ (¬ x2 < (I1 (σ + 7) (x1).toNat) → False)))))))) :
    XM Γ m_X5_needOperation 0 0 0 [(0, vR 30), (1, vI x1), (2, vI x2)] [] P I (rv P R) := by
  refine x_aload_n (pc := 0) 0 dX5_needOperation_0 rfl ?_
  refine x_iload_n (pc := 1) 1 dX5_needOperation_1 rfl ?_
  refine x_Vv (μ := m_X5_needOperation) (pc := 2) dX5_needOperation_2 h k_X5_needJob ml_X5_102 ⟨Nat.le_of_ble_eq_true rfl, Nat.le_of_ble_eq_true rfl⟩ ⟨rfl, rfl⟩ ⟨Nat.zero_le _, Nat.zero_le _⟩ rfl (LBS_ob hb) rfl (Nat.le_of_ble_eq_true rfl) _ rfl (fun I1 h => ?_)
  refine x_iload_n (pc := 5) 2 dX5_needOperation_5 rfl ?_
  obtain ⟨hr2, h⟩ := h
  obtain ⟨hA3, hB4⟩ := h
  refine x_if_lt (pc := 6) 25 dX5_needOperation_6 (by decide) hr2 (fun hc => ?_) (fun hc => ?_)
  · have h := hA3 hc
    exact h.elim
  · have h := hB4 hc
    refine x_iload_n (pc := 9) 2 dX5_needOperation_9 rfl ?_
    refine x_aload_n (pc := 10) 0 dX5_needOperation_10 rfl ?_
    refine x_getP (pc := 11) dX5_needOperation_11 FC5 4 (by decide) rfl fl_X5_51 (LBS_ob hb) (LBS_p4 hb) ?_
    refine x_getP (pc := 14) dX5_needOperation_14 FC1 0 (by decide) rfl fl_X5_95 (LPlan_ob (LSch_p (LBS_s hb))) (LPlan_p0 (LSch_p (LBS_s hb))) ?_
    refine x_getP (pc := 17) dX5_needOperation_17 FC4 9 (by decide) rfl fl_X5_106 (LShop_ob (LPlan_s (LSch_p (LBS_s hb)))) (LShop_p9 (LPlan_s (LSch_p (LBS_s hb)))) ?_
    refine x_iload_n (pc := 20) 1 dX5_needOperation_20 rfl ?_
    obtain ⟨hv5, h⟩ := h
    obtain ⟨hv6, h⟩ := h
    refine x_iald (pc := 21) dX5_needOperation_21 (LShop_a9 (LPlan_s (LSch_p (LBS_s hb)))) hv5 hv6 (by decide) ?_
    obtain ⟨hr7, h⟩ := h
    obtain ⟨hA8, hB9⟩ := h
    refine x_icmp_lt (pc := 22) 35 dX5_needOperation_22 (by decide) hr2 hr7 (fun hc => ?_) (fun hc => ?_)
    · have h := hA8 hc
      exact x_vret (pc := 35) dX5_needOperation_35 rfl (Nat.le_refl _) (Nat.le_refl _) ⟨rfl, rfl, h⟩
    · have h := hB9 hc
      exact h.elim
set_option maxRecDepth 100000 in
set_option maxHeartbeats 4000000 in
theorem t_X5_needSwap_0 {Γ : GG} {P : MP} {I : MM} {R : MM → Prop} {x1 x2 : Int} {σ κ n σ2 κ2 n2 : Nat} (hb : LBS Γ P σ κ n σ2 κ2 n2)
    (h : (Cl Γ m_X5_needMachine [vR 30, vI x1] P I (rv P (fun (I1 : MM) => (inR x2) ∧ ((x2 < 0 → False) ∧ (¬ x2 < 0 → (0 ≤ x1) ∧ (x1 < 6) ∧ (inR ((I1 (σ + 3) (x1).toNat) - 1)) ∧ ((x2 < ((I1 (σ + 3) (x1).toNat) - 1) → R I1) ∧ (¬ x2 < ((I1 (σ + 3) (x1).toNat) - 1) → False)))))))) :
    XM Γ m_X5_needSwap 0 0 0 [(0, vR 30), (1, vI x1), (2, vI x2)] [] P I (rv P R) := by
  refine x_aload_n (pc := 0) 0 dX5_needSwap_0 rfl ?_
  refine x_iload_n (pc := 1) 1 dX5_needSwap_1 rfl ?_
  refine x_Vv (μ := m_X5_needSwap) (pc := 2) dX5_needSwap_2 h k_X5_needMachine ml_X5_129 ⟨Nat.le_of_ble_eq_true rfl, Nat.le_of_ble_eq_true rfl⟩ ⟨rfl, rfl⟩ ⟨Nat.zero_le _, Nat.zero_le _⟩ rfl (LBS_ob hb) rfl (Nat.le_of_ble_eq_true rfl) _ rfl (fun I1 h => ?_)
  refine x_iload_n (pc := 5) 2 dX5_needSwap_5 rfl ?_
  obtain ⟨hr2, h⟩ := h
  obtain ⟨hA3, hB4⟩ := h
  refine x_if_lt (pc := 6) 27 dX5_needSwap_6 (by decide) hr2 (fun hc => ?_) (fun hc => ?_)
  · have h := hA3 hc
    exact h.elim
  · have h := hB4 hc
    refine x_iload_n (pc := 9) 2 dX5_needSwap_9 rfl ?_
    refine x_aload_n (pc := 10) 0 dX5_needSwap_10 rfl ?_
    refine x_getP (pc := 11) dX5_needSwap_11 FC5 4 (by decide) rfl fl_X5_51 (LBS_ob hb) (LBS_p4 hb) ?_
    refine x_getP (pc := 14) dX5_needSwap_14 FC1 0 (by decide) rfl fl_X5_95 (LPlan_ob (LSch_p (LBS_s hb))) (LPlan_p0 (LSch_p (LBS_s hb))) ?_
    refine x_getP (pc := 17) dX5_needSwap_17 FC4 5 (by decide) rfl fl_X5_132 (LShop_ob (LPlan_s (LSch_p (LBS_s hb)))) (LShop_p5 (LPlan_s (LSch_p (LBS_s hb)))) ?_
    refine x_iload_n (pc := 20) 1 dX5_needSwap_20 rfl ?_
    obtain ⟨hv5, h⟩ := h
    obtain ⟨hv6, h⟩ := h
    refine x_iald (pc := 21) dX5_needSwap_21 (LShop_a5 (LPlan_s (LSch_p (LBS_s hb)))) hv5 hv6 (by decide) ?_
    refine x_iconst (pc := 22) dX5_needSwap_22 ?_
    refine x_isub (pc := 23) dX5_needSwap_23 ?_
    obtain ⟨hr7, h⟩ := h
    obtain ⟨hA8, hB9⟩ := h
    refine x_icmp_lt (pc := 24) 37 dX5_needSwap_24 (by decide) hr2 hr7 (fun hc => ?_) (fun hc => ?_)
    · have h := hA8 hc
      exact x_vret (pc := 37) dX5_needSwap_37 rfl (Nat.le_refl _) (Nat.le_refl _) ⟨rfl, rfl, h⟩
    · have h := hB9 hc
      exact h.elim
set_option maxRecDepth 100000 in
set_option maxHeartbeats 4000000 in
theorem t_X5_remember_0 {Γ : GG} {P : MP} {I : MM} {R : MP → MM → Prop} {σ κ n σ2 κ2 n2 : Nat} (hb : LBS Γ P σ κ n σ2 κ2 n2)
    (h : (inR ((I 30 8) + (I 30 9))) ∧ (0 ≤ ((I 30 8) + (I 30 9))) ∧ (0 ≤ (((I 30 8) + (I 30 9)) % 8)) ∧ ((((I 30 8) + (I 30 9)) % 8) < 8) ∧ (Cl Γ m_X1_copyFrom [vR (80 + 3 * ((((I 30 8) + (I 30 9)) % 8)).toNat), vR 48] P I (rp (fun (P6 : MP) (I5 : MM) => (inR (I5 30 9)) ∧ ((8 ≤ (I5 30 9) → (inR ((I5 30 8) + 1)) ∧ (0 ≤ ((I5 30 8) + 1)) ∧ (∀ I12 : MM, I12 = up2 I5 30 8 (((I5 30 8) + 1) % 8) → R P6 I12)) ∧ (¬ 8 ≤ (I5 30 9) → (∀ I13 : MM, I13 = up2 I5 30 9 ((I5 30 9) + 1) → R P6 I13))))))) :
    XM Γ m_X5_remember 0 0 0 [(0, vR 30)] [] P I (rp R) := by
  refine x_aload_n (pc := 0) 0 dX5_remember_0 rfl ?_
  refine x_getP (pc := 1) dX5_remember_1 FC5 7 (by decide) rfl fl_X5_25 (LBS_ob hb) (LBS_p7 hb) ?_
  refine x_aload_n (pc := 4) 0 dX5_remember_4 rfl ?_
  refine x_getI (pc := 5) dX5_remember_5 FC5 8 (by decide) rfl fl_X5_29 (LBS_ob hb) ?_
  refine x_aload_n (pc := 8) 0 dX5_remember_8 rfl ?_
  refine x_getI (pc := 9) dX5_remember_9 FC5 9 (by decide) rfl fl_X5_32 (LBS_ob hb) ?_
  refine x_iadd (pc := 12) dX5_remember_12 ?_
  refine x_bipush (pc := 13) dX5_remember_13 rfl ?_
  obtain ⟨hr1, h⟩ := h
  obtain ⟨hv2, h⟩ := h
  refine x_irem (pc := 15) dX5_remember_15 hr1 ⟨by decide, by decide⟩ hv2 (by decide) ?_
  obtain ⟨hv3, h⟩ := h
  obtain ⟨hv4, h⟩ := h
  refine x_aald (pc := 16) dX5_remember_16 4 (LBS_a7 hb) (by decide) hv3 hv4 (by decide) (LBS_h hb hv3 hv4).1 ?_
  refine x_astore_n (pc := 17) (al' := [(0, vR 30), (1, vR (80 + 3 * ((((I 30 8) + (I 30 9)) % 8)).toNat))]) dX5_remember_17 rfl rfl (Nat.le_of_ble_eq_true rfl) ?_
  refine x_aload_n (pc := 18) 1 dX5_remember_18 rfl ?_
  refine x_ifnull (pc := 19) dX5_remember_19 ?_
  refine x_aload_n (pc := 22) 1 dX5_remember_22 rfl ?_
  refine x_aload_n (pc := 23) 0 dX5_remember_23 rfl ?_
  refine x_getP (pc := 24) dX5_remember_24 FC5 4 (by decide) rfl fl_X5_51 (LBS_ob hb) (LBS_p4 hb) ?_
  refine x_Vp (μ := m_X5_remember) (pc := 27) dX5_remember_27 h k_X1_copyFrom ml_X5_222 ⟨Nat.le_of_ble_eq_true rfl, Nat.le_of_ble_eq_true rfl⟩ ⟨rfl, rfl⟩ ⟨Nat.zero_le _, Nat.zero_le _⟩ rfl (LBS_h hb hv3 hv4).2.1 rfl (Nat.le_of_ble_eq_true rfl) _ rfl (fun P6 I5 h => ?_)
  refine x_aload_n (pc := 30) 0 dX5_remember_30 rfl ?_
  refine x_getI (pc := 31) dX5_remember_31 FC5 9 (by decide) rfl fl_X5_32 (LBS_ob hb) ?_
  refine x_bipush (pc := 34) dX5_remember_34 rfl ?_
  obtain ⟨hr7, h⟩ := h
  obtain ⟨hA8, hB9⟩ := h
  refine x_icmp_ge (pc := 36) 52 dX5_remember_36 (by decide) hr7 ⟨by decide, by decide⟩ (fun hc => ?_) (fun hc => ?_)
  · have h := hA8 hc
    refine x_aload_n (pc := 52) 0 dX5_remember_52 rfl ?_
    refine x_aload_n (pc := 53) 0 dX5_remember_53 rfl ?_
    refine x_getI (pc := 54) dX5_remember_54 FC5 8 (by decide) rfl fl_X5_29 (LBS_ob hb) ?_
    refine x_iconst (pc := 57) dX5_remember_57 ?_
    refine x_iadd (pc := 58) dX5_remember_58 ?_
    refine x_bipush (pc := 59) dX5_remember_59 rfl ?_
    obtain ⟨hr10, h⟩ := h
    obtain ⟨hv11, h⟩ := h
    refine x_irem (pc := 61) dX5_remember_61 hr10 ⟨by decide, by decide⟩ hv11 (by decide) ?_
    refine x_putI (pc := 62) dX5_remember_62 FC5 8 (by decide) rfl rfl fl_X5_29 (LBS_ob hb) ?_
    refine x_nmI (fun I12 eI12 => ?_)
    have h := h I12 eI12
    exact x_vret (pc := 65) dX5_remember_65 rfl (Nat.le_refl _) (Nat.le_refl _) ⟨rfl, h⟩
  · have h := hB9 hc
    refine x_aload_n (pc := 39) 0 dX5_remember_39 rfl ?_
    refine x_dup (pc := 40) dX5_remember_40 rfl ?_
    refine x_getI (pc := 41) dX5_remember_41 FC5 9 (by decide) rfl fl_X5_32 (LBS_ob hb) ?_
    refine x_iconst (pc := 44) dX5_remember_44 ?_
    refine x_iadd (pc := 45) dX5_remember_45 ?_
    refine x_putI (pc := 46) dX5_remember_46 FC5 9 (by decide) rfl rfl fl_X5_32 (LBS_ob hb) ?_
    refine x_nmI (fun I13 eI13 => ?_)
    have h := h I13 eI13
    refine x_goto (pc := 49) 65 dX5_remember_49 (by decide) ?_
    exact x_vret (pc := 65) dX5_remember_65 rfl (Nat.le_refl _) (Nat.le_refl _) ⟨rfl, h⟩
