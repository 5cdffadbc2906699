set_option maxRecDepth 100000 in
set_option maxHeartbeats 4000000 in
theorem t_X5_trySwap_0 {Γ : GG} {P : MP} {I : MM} {R : Int → MP → MM → Prop} {x1 x2 : Int} {σ κ n σ2 κ2 n2 : Nat} (hb : LBS Γ P σ κ n σ2 κ2 n2)
    (h : (Cl Γ m_X1_copyFrom [vR 68, vR 48] P I (rp (fun (P2 : MP) (I1 : MM) => (P2 30 6 = some 68) ∧ (Cl Γ m_X1_exchange [vR 68, vI x1, vI x2] P2 I1 (rv P2 (fun (I4 : MM) => (P2 30 5 = some 60) ∧ (Cl Γ m_X2_compute [vR 60] P2 I4 (ri P2 (fun (z6 : Int) (I7 : MM) => (z6 = 0 ∨ z6 = 1) ∧ R z6 P2 I7)))))))))) :
    XM Γ m_X5_trySwap 0 0 0 [(0, vR 30), (1, vI x1), (2, vI x2)] [] P I (rpi R) := by
  refine x_aload_n (pc := 0) 0 dX5_trySwap_0 rfl ?_
  refine x_getP (pc := 1) dX5_trySwap_1 FC5 6 (by decide) rfl fl_X5_55 (LBS_ob hb) (LBS_p6 hb) ?_
  refine x_aload_n (pc := 4) 0 dX5_trySwap_4 rfl ?_
  refine x_getP (pc := 5) dX5_trySwap_5 FC5 4 (by decide) rfl fl_X5_51 (LBS_ob hb) (LBS_p4 hb) ?_
  refine x_Vp (μ := m_X5_trySwap) (pc := 8) dX5_trySwap_8 h k_X1_copyFrom ml_X5_222 ⟨Nat.le_of_ble_eq_true rfl, Nat.le_of_ble_eq_true rfl⟩ ⟨rfl, rfl⟩ ⟨Nat.zero_le _, Nat.zero_le _⟩ rfl (LPlan_ob (LSch_p (LBS_t hb))) rfl (Nat.le_of_ble_eq_true rfl) _ rfl (fun P2 I1 h => ?_)
  refine x_aload_n (pc := 11) 0 dX5_trySwap_11 rfl ?_
  obtain ⟨hv3, h⟩ := h
  refine x_getP (pc := 12) dX5_trySwap_12 FC5 6 (by decide) rfl fl_X5_55 (LBS_ob hb) hv3 ?_
  refine x_iload_n (pc := 15) 1 dX5_trySwap_15 rfl ?_
  refine x_iload_n (pc := 16) 2 dX5_trySwap_16 rfl ?_
  refine x_Vv (μ := m_X5_trySwap) (pc := 17) dX5_trySwap_17 h k_X1_exchange ml_X5_247 ⟨Nat.le_of_ble_eq_true rfl, Nat.le_of_ble_eq_true rfl⟩ ⟨rfl, rfl⟩ ⟨Nat.zero_le _, Nat.zero_le _⟩ rfl (LPlan_ob (LSch_p (LBS_t hb))) rfl (Nat.le_of_ble_eq_true rfl) _ rfl (fun I4 h => ?_)
  refine x_aload_n (pc := 20) 0 dX5_trySwap_20 rfl ?_
  obtain ⟨hv5, h⟩ := h
  refine x_getP (pc := 21) dX5_trySwap_21 FC5 5 (by decide) rfl fl_X5_52 (LBS_ob hb) hv5 ?_
  refine x_Vi (μ := m_X5_trySwap) (pc := 24) dX5_trySwap_24 h k_X2_compute ml_X5_88 ⟨Nat.le_of_ble_eq_true rfl, Nat.le_of_ble_eq_true rfl⟩ ⟨rfl, rfl⟩ ⟨Nat.zero_le _, Nat.zero_le _⟩ rfl (LSch_ob (LBS_t hb)) rfl (Nat.le_of_ble_eq_true rfl) _ rfl (fun z6 I7 h => ?_)
  obtain ⟨hv8, h⟩ := h
  exact x_zret (pc := 27) dX5_trySwap_27 rfl hv8 (Nat.le_refl _) (Nat.le_refl _) ⟨_, rfl, h⟩
set_option maxRecDepth 100000 in
set_option maxHeartbeats 4000000 in
theorem t_X5_adoptTrial_0 {Γ : GG} {P : MP} {I : MM} {R : MP → MM → Prop} {σ κ n σ2 κ2 n2 : Nat} (hb : LBS Γ P σ κ n σ2 κ2 n2)
    (h : (Cl Γ m_X1_copyFrom [vR 48, vR 68] P I (rp (fun (P2 : MP) (I1 : MM) => (P2 30 3 = some 40) ∧ (Cl Γ m_X2_compute [vR 40] P2 I1 (ri P2 (fun (z4 : Int) (I5 : MM) => R P2 I5))))))) :
    XM Γ m_X5_adoptTrial 0 0 0 [(0, vR 30)] [] P I (rp R) := by
  refine x_aload_n (pc := 0) 0 dX5_adoptTrial_0 rfl ?_
  refine x_getP (pc := 1) dX5_adoptTrial_1 FC5 4 (by decide) rfl fl_X5_51 (LBS_ob hb) (LBS_p4 hb) ?_
  refine x_aload_n (pc := 4) 0 dX5_adoptTrial_4 rfl ?_
  refine x_getP (pc := 5) dX5_adoptTrial_5 FC5 6 (by decide) rfl fl_X5_55 (LBS_ob hb) (LBS_p6 hb) ?_
  refine x_Vp (μ := m_X5_adoptTrial) (pc := 8) dX5_adoptTrial_8 h k_X1_copyFrom ml_X5_222 ⟨Nat.le_of_ble_eq_true rfl, Nat.le_of_ble_eq_true rfl⟩ ⟨rfl, rfl⟩ ⟨Nat.zero_le _, Nat.zero_le _⟩ rfl (LPlan_ob (LSch_p (LBS_s hb))) rfl (Nat.le_of_ble_eq_true rfl) _ rfl (fun P2 I1 h => ?_)
  refine x_aload_n (pc := 11) 0 dX5_adoptTrial_11 rfl ?_
  obtain ⟨hv3, h⟩ := h
  refine x_getP (pc := 12) dX5_adoptTrial_12 FC5 3 (by decide) rfl fl_X5_43 (LBS_ob hb) hv3 ?_
  refine x_Vi (μ := m_X5_adoptTrial) (pc := 15) dX5_adoptTrial_15 h k_X2_compute ml_X5_88 ⟨Nat.le_of_ble_eq_true rfl, Nat.le_of_ble_eq_true rfl⟩ ⟨rfl, rfl⟩ ⟨Nat.zero_le _, Nat.zero_le _⟩ rfl (LSch_ob (LBS_s hb)) rfl (Nat.le_of_ble_eq_true rfl) _ rfl (fun z4 I5 h => ?_)
  refine x_pop (pc := 18) dX5_adoptTrial_18 rfl ?_
  exact x_vret (pc := 19) dX5_adoptTrial_19 rfl (Nat.le_refl _) (Nat.le_refl _) ⟨rfl, h⟩
set_option maxRecDepth 100000 in
set_option maxHeartbeats 4000000 in
theorem t_X5_idOf_0 {Γ : GG} {P : MP} {I : MM} {R : Int → MM → Prop} {x0 x1 : Int} 
    (h : R ((x0 * 6) + x1) I) :
    XM Γ m_X5_idOf 0 0 0 [(0, vI x0), (1, vI x1)] [] P I (ri P R) := by
  refine x_iload_n (pc := 0) 0 dX5_idOf_0 rfl ?_
  refine x_bipush (pc := 1) dX5_idOf_1 rfl ?_
  refine x_imul (pc := 3) dX5_idOf_3 ?_
  refine x_iload_n (pc := 4) 1 dX5_idOf_4 rfl ?_
  refine x_iadd (pc := 5) dX5_idOf_5 ?_
  exact x_iret (pc := 6) dX5_idOf_6 rfl (Nat.le_refl _) (Nat.le_refl _) ⟨_, rfl, rfl, h⟩
set_option maxRecDepth 100000 in
set_option maxHeartbeats 4000000 in
theorem t_X5_codeOf_0 {Γ : GG} {P : MP} {I : MM} {R : Int → MM → Prop} {x0 : Int} 
    (h : (inR x0) ∧ (0 ≤ x0) ∧ R ((10 * (x0 / 6)) + (x0 % 6)) I) :
    XM Γ m_X5_codeOf 0 0 0 [(0, vI x0)] [] P I (ri P R) := by
  refine x_bipush (pc := 0) dX5_codeOf_0 rfl ?_
  refine x_iload_n (pc := 2) 0 dX5_codeOf_2 rfl ?_
  refine x_bipush (pc := 3) dX5_codeOf_3 rfl ?_
  obtain ⟨hr1, h⟩ := h
  obtain ⟨hv2, h⟩ := h
  refine x_idiv (pc := 5) dX5_codeOf_5 hr1 ⟨by decide, by decide⟩ hv2 (by decide) ?_
  refine x_imul (pc := 6) dX5_codeOf_6 ?_
  refine x_iload_n (pc := 7) 0 dX5_codeOf_7 rfl ?_
  refine x_bipush (pc := 8) dX5_codeOf_8 rfl ?_
  refine x_irem (pc := 10) dX5_codeOf_10 hr1 ⟨by decide, by decide⟩ hv2 (by decide) ?_
  refine x_iadd (pc := 11) dX5_codeOf_11 ?_
  exact x_iret (pc := 12) dX5_codeOf_12 rfl (Nat.le_refl _) (Nat.le_refl _) ⟨_, rfl, rfl, h⟩
