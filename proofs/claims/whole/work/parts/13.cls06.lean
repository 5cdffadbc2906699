set_option maxRecDepth 100000 in
set_option maxHeartbeats 4000000 in
theorem t_X3_readSum_0 {Γ : GG} {P : MP} {I : MM} {R : MM → Prop} {x1 : Int} {d : Nat} (hr : LRead Γ P)
    (h : (Cl Γ (m_X3_readTerm d) [vR 31, vI x1] P I (rv P (fun (I1 : MM) => XM Γ (m_X3_readSum d) 0 0 7 [(0, vR 31), (1, vI x1), (2, vI 0)] [] P I1 (rv P R))))) :
    XM Γ (m_X3_readSum d) 0 0 0 [(0, vR 31), (1, vI x1)] [] P I (rv P R) := by
  refine x_aload_n (pc := 0) 0 dX3_readSum_0 rfl ?_
  refine x_iload_n (pc := 1) 1 dX3_readSum_1 rfl ?_
  refine x_Vv (μ := (m_X3_readSum d)) (pc := 2) dX3_readSum_2 h k_X3_readTerm ml_X3_159 ⟨by show (3 * d + 10) + 1 ≤ (3 * d + 11); omega, by show 8 + (4 + 11) + 40 * (3 * d + 10) ≤ 40 * (3 * d + 11); omega⟩ ⟨rfl, rfl⟩ ⟨Nat.zero_le _, Nat.zero_le _⟩ rfl (LRead_ob hr) rfl (Nat.le_of_ble_eq_true rfl) _ rfl (fun I1 h => ?_)
  refine x_iconst (pc := 5) dX3_readSum_5 ?_
  refine x_istore_n (pc := 6) (al' := [(0, vR 31), (1, vI x1), (2, vI 0)]) dX3_readSum_6 rfl rfl (Nat.le_of_ble_eq_true rfl) ?_
  exact x_sub [0, 1, 2] rfl h
set_option maxRecDepth 100000 in
set_option maxHeartbeats 4000000 in
theorem t_X3_readSum_7 {Γ : GG} {P : MP} {I : MM} {R : MM → Prop} {x1 x2 : Int} {d : Nat} (hr : LRead Γ P)
    (h : (inR x2) ∧ (inR (I 31 1)) ∧ (((I 31 1) ≤ x2 → R I) ∧ (¬ (I 31 1) ≤ x2 → (inR (I 31 4)) ∧ (((I 31 4) = 43 → (((I 31 4) ≠ 43 → (Cl Γ m_X3_next [vR 31] P I (rv P (fun (I10 : MM) => (Cl Γ (m_X3_readTerm d) [vR 31, vI x1] P I10 (rv P (fun (I11 : MM) => (Cl Γ m_X3_addToCost [vR 31, vI (-6)] P I11 (rv P (fun (I12 : MM) => XM Γ (m_X3_readSum d) 0 0 7 [(0, vR 31), (1, vI x1), (2, vI (x2 + 1))] [] P I12 (rv P R))))))))))) ∧ ((I 31 4) = 43 → (Cl Γ m_X3_next [vR 31] P I (rv P (fun (I13 : MM) => (Cl Γ (m_X3_readTerm d) [vR 31, vI x1] P I13 (rv P (fun (I14 : MM) => (Cl Γ m_X3_addToCost [vR 31, vI (-5)] P I14 (rv P (fun (I15 : MM) => XM Γ (m_X3_readSum d) 0 0 7 [(0, vR 31), (1, vI x1), (2, vI (x2 + 1))] [] P I15 (rv P R))))))))))))) ∧ (¬ (I 31 4) = 43 → (((I 31 4) ≠ 45 → R I) ∧ ((I 31 4) = 45 → (((I 31 4) ≠ 43 → (Cl Γ m_X3_next [vR 31] P I (rv P (fun (I20 : MM) => (Cl Γ (m_X3_readTerm d) [vR 31, vI x1] P I20 (rv P (fun (I21 : MM) => (Cl Γ m_X3_addToCost [vR 31, vI (-6)] P I21 (rv P (fun (I22 : MM) => XM Γ (m_X3_readSum d) 0 0 7 [(0, vR 31), (1, vI x1), (2, vI (x2 + 1))] [] P I22 (rv P R))))))))))) ∧ ((I 31 4) = 43 → (Cl Γ m_X3_next [vR 31] P I (rv P (fun (I23 : MM) => (Cl Γ (m_X3_readTerm d) [vR 31, vI x1] P I23 (rv P (fun (I24 : MM) => (Cl Γ m_X3_addToCost [vR 31, vI (-5)] P I24 (rv P (fun (I25 : MM) => XM Γ (m_X3_readSum d) 0 0 7 [(0, vR 31), (1, vI x1), (2, vI (x2 + 1))] [] P I25 (rv P R))))))))))))))))))) :
    XM Γ (m_X3_readSum d) 0 0 7 [(0, vR 31), (1, vI x1), (2, vI x2)] [] P I (rv P R) := by
  refine x_iload_n (pc := 7) 2 dX3_readSum_7 rfl ?_
  refine x_aload_n (pc := 8) 0 dX3_readSum_8 rfl ?_
  refine x_getI (pc := 9) dX3_readSum_9 FC3 1 (by decide) rfl fl_X3_15 (LRead_ob hr) ?_
  obtain ⟨hr1, h⟩ := h
  obtain ⟨hr2, h⟩ := h
  obtain ⟨hA3, hB4⟩ := h
  refine x_icmp_ge (pc := 12) 70 dX3_readSum_12 (by decide) hr1 hr2 (fun hc => ?_) (fun hc => ?_)
  · have h := hA3 hc
    exact x_vret (pc := 70) dX3_readSum_70 rfl (Nat.le_refl _) (Nat.le_refl _) ⟨rfl, rfl, h⟩
  · have h := hB4 hc
    refine x_aload_n (pc := 15) 0 dX3_readSum_15 rfl ?_
    refine x_getI (pc := 16) dX3_readSum_16 FC3 4 (by decide) rfl fl_X3_25 (LRead_ob hr) ?_
    refine x_bipush (pc := 19) dX3_readSum_19 rfl ?_
    obtain ⟨hr5, h⟩ := h
    obtain ⟨hA6, hB7⟩ := h
    refine x_icmp_eq (pc := 21) 33 dX3_readSum_21 (by decide) hr5 ⟨by decide, by decide⟩ (fun hc => ?_) (fun hc => ?_)
    · have h := hA6 hc
      refine x_aload_n (pc := 33) 0 dX3_readSum_33 rfl ?_
      refine x_getI (pc := 34) dX3_readSum_34 FC3 4 (by decide) rfl fl_X3_25 (LRead_ob hr) ?_
      refine x_bipush (pc := 37) dX3_readSum_37 rfl ?_
      obtain ⟨hA8, hB9⟩ := h
      refine x_icmp_ne (pc := 39) 47 dX3_readSum_39 (by decide) hr5 ⟨by decide, by decide⟩ (fun hc => ?_) (fun hc => ?_)
      · have h := hA8 hc
        refine x_bipush (pc := 47) dX3_readSum_47 rfl ?_
        refine x_istore_n (pc := 49) (al' := [(0, vR 31), (1, vI x1), (2, vI x2), (3, vI (-6))]) dX3_readSum_49 rfl rfl (Nat.le_of_ble_eq_true rfl) ?_
        refine x_aload_n (pc := 50) 0 dX3_readSum_50 rfl ?_
        refine x_Vv (μ := (m_X3_readSum d)) (pc := 51) dX3_readSum_51 h k_X3_next ml_X3_54 ⟨by show 2 + 1 ≤ (3 * d + 11); omega, by show 8 + (2 + 11) + 80 ≤ 40 * (3 * d + 11); omega⟩ ⟨rfl, rfl⟩ ⟨Nat.zero_le _, Nat.zero_le _⟩ rfl (LRead_ob hr) rfl (Nat.le_of_ble_eq_true rfl) _ rfl (fun I10 h => ?_)
        refine x_aload_n (pc := 54) 0 dX3_readSum_54 rfl ?_
        refine x_iload_n (pc := 55) 1 dX3_readSum_55 rfl ?_
        refine x_Vv (μ := (m_X3_readSum d)) (pc := 56) dX3_readSum_56 h k_X3_readTerm ml_X3_159 ⟨by show (3 * d + 10) + 1 ≤ (3 * d + 11); omega, by show 8 + (4 + 11) + 40 * (3 * d + 10) ≤ 40 * (3 * d + 11); omega⟩ ⟨rfl, rfl⟩ ⟨Nat.zero_le _, Nat.zero_le _⟩ rfl (LRead_ob hr) rfl (Nat.le_of_ble_eq_true rfl) _ rfl (fun I11 h => ?_)
        refine x_aload_n (pc := 59) 0 dX3_readSum_59 rfl ?_
        refine x_iload_n (pc := 60) 3 dX3_readSum_60 rfl ?_
        refine x_Vv (μ := (m_X3_readSum d)) (pc := 61) dX3_readSum_61 h k_X3_addToCost ml_X3_164 ⟨by show 2 + 1 ≤ (3 * d + 11); omega, by show 8 + (2 + 11) + 80 ≤ 40 * (3 * d + 11); omega⟩ ⟨rfl, rfl⟩ ⟨Nat.zero_le _, Nat.zero_le _⟩ rfl (LRead_ob hr) rfl (Nat.le_of_ble_eq_true rfl) _ rfl (fun I12 h => ?_)
        refine x_iinc (pc := 64) (al' := [(0, vR 31), (1, vI x1), (2, vI (x2 + 1)), (3, vI (-6))]) 2 dX3_readSum_64 rfl rfl rfl (Nat.le_of_ble_eq_true rfl) ?_
        refine x_goto (pc := 67) 7 dX3_readSum_67 (by decide) ?_
        exact x_sub [0, 1, 2] rfl h
      · have h := hB9 hc
        refine x_bipush (pc := 42) dX3_readSum_42 rfl ?_
        refine x_goto (pc := 44) 49 dX3_readSum_44 (by decide) ?_
        refine x_istore_n (pc := 49) (al' := [(0, vR 31), (1, vI x1), (2, vI x2), (3, vI (-5))]) dX3_readSum_49 rfl rfl (Nat.le_of_ble_eq_true rfl) ?_
        refine x_aload_n (pc := 50) 0 dX3_readSum_50 rfl ?_
        refine x_Vv (μ := (m_X3_readSum d)) (pc := 51) dX3_readSum_51 h k_X3_next ml_X3_54 ⟨by show 2 + 1 ≤ (3 * d + 11); omega, by show 8 + (2 + 11) + 80 ≤ 40 * (3 * d + 11); omega⟩ ⟨rfl, rfl⟩ ⟨Nat.zero_le _, Nat.zero_le _⟩ rfl (LRead_ob hr) rfl (Nat.le_of_ble_eq_true rfl) _ rfl (fun I13 h => ?_)
        refine x_aload_n (pc := 54) 0 dX3_readSum_54 rfl ?_
        refine x_iload_n (pc := 55) 1 dX3_readSum_55 rfl ?_
        refine x_Vv (μ := (m_X3_readSum d)) (pc := 56) dX3_readSum_56 h k_X3_readTerm ml_X3_159 ⟨by show (3 * d + 10) + 1 ≤ (3 * d + 11); omega, by show 8 + (4 + 11) + 40 * (3 * d + 10) ≤ 40 * (3 * d + 11); omega⟩ ⟨rfl, rfl⟩ ⟨Nat.zero_le _, Nat.zero_le _⟩ rfl (LRead_ob hr) rfl (Nat.le_of_ble_eq_true rfl) _ rfl (fun I14 h => ?_)
        refine x_aload_n (pc := 59) 0 dX3_readSum_59 rfl ?_
        refine x_iload_n (pc := 60) 3 dX3_readSum_60 rfl ?_
        refine x_Vv (μ := (m_X3_readSum d)) (pc := 61) dX3_readSum_61 h k_X3_addToCost ml_X3_164 ⟨by show 2 + 1 ≤ (3 * d + 11); omega, by show 8 + (2 + 11) + 80 ≤ 40 * (3 * d + 11); omega⟩ ⟨rfl, rfl⟩ ⟨Nat.zero_le _, Nat.zero_le _⟩ rfl (LRead_ob hr) rfl (Nat.le_of_ble_eq_true rfl) _ rfl (fun I15 h => ?_)
        refine x_iinc (pc := 64) (al' := [(0, vR 31), (1, vI x1), (2, vI (x2 + 1)), (3, vI (-5))]) 2 dX3_readSum_64 rfl rfl rfl (Nat.le_of_ble_eq_true rfl) ?_
        refine x_goto (pc := 67) 7 dX3_readSum_67 (by decide) ?_
        exact x_sub [0, 1, 2] rfl h
    · have h := hB7 hc
      refine x_aload_n (pc := 24) 0 dX3_readSum_24 rfl ?_
      refine x_getI (pc := 25) dX3_readSum_25 FC3 4 (by decide) rfl fl_X3_25 (LRead_ob hr) ?_
      refine x_bipush (pc := 28) dX3_readSum_28 rfl ?_
      obtain ⟨hA16, hB17⟩ := h
      refine x_icmp_ne (pc := 30) 70 dX3_readSum_30 (by decide) hr5 ⟨by decide, by decide⟩ (fun hc => ?_) (fun hc => ?_)
      · have h := hA16 hc
        exact x_vret (pc := 70) dX3_readSum_70 rfl (Nat.le_refl _) (Nat.le_refl _) ⟨rfl, rfl, h⟩
      · have h := hB17 hc
        refine x_aload_n (pc := 33) 0 dX3_readSum_33 rfl ?_
        refine x_getI (pc := 34) dX3_readSum_34 FC3 4 (by decide) rfl fl_X3_25 (LRead_ob hr) ?_
        refine x_bipush (pc := 37) dX3_readSum_37 rfl ?_
        obtain ⟨hA18, hB19⟩ := h
        refine x_icmp_ne (pc := 39) 47 dX3_readSum_39 (by decide) hr5 ⟨by decide, by decide⟩ (fun hc => ?_) (fun hc => ?_)
        · have h := hA18 hc
          refine x_bipush (pc := 47) dX3_readSum_47 rfl ?_
          refine x_istore_n (pc := 49) (al' := [(0, vR 31), (1, vI x1), (2, vI x2), (3, vI (-6))]) dX3_readSum_49 rfl rfl (Nat.le_of_ble_eq_true rfl) ?_
          refine x_aload_n (pc := 50) 0 dX3_readSum_50 rfl ?_
          refine x_Vv (μ := (m_X3_readSum d)) (pc := 51) dX3_readSum_51 h k_X3_next ml_X3_54 ⟨by show 2 + 1 ≤ (3 * d + 11); omega, by show 8 + (2 + 11) + 80 ≤ 40 * (3 * d + 11); omega⟩ ⟨rfl, rfl⟩ ⟨Nat.zero_le _, Nat.zero_le _⟩ rfl (LRead_ob hr) rfl (Nat.le_of_ble_eq_true rfl) _ rfl (fun I20 h => ?_)
          refine x_aload_n (pc := 54) 0 dX3_readSum_54 rfl ?_
          refine x_iload_n (pc := 55) 1 dX3_readSum_55 rfl ?_
          refine x_Vv (μ := (m_X3_readSum d)) (pc := 56) dX3_readSum_56 h k_X3_readTerm ml_X3_159 ⟨by show (3 * d + 10) + 1 ≤ (3 * d + 11); omega, by show 8 + (4 + 11) + 40 * (3 * d + 10) ≤ 40 * (3 * d + 11); omega⟩ ⟨rfl, rfl⟩ ⟨Nat.zero_le _, Nat.zero_le _⟩ rfl (LRead_ob hr) rfl (Nat.le_of_ble_eq_true rfl) _ rfl (fun I21 h => ?_)
          refine x_aload_n (pc := 59) 0 dX3_readSum_59 rfl ?_
          refine x_iload_n (pc := 60) 3 dX3_readSum_60 rfl ?_
          refine x_Vv (μ := (m_X3_readSum d)) (pc := 61) dX3_readSum_61 h k_X3_addToCost ml_X3_164 ⟨by show 2 + 1 ≤ (3 * d + 11); omega, by show 8 + (2 + 11) + 80 ≤ 40 * (3 * d + 11); omega⟩ ⟨rfl, rfl⟩ ⟨Nat.zero_le _, Nat.zero_le _⟩ rfl (LRead_ob hr) rfl (Nat.le_of_ble_eq_true rfl) _ rfl (fun I22 h => ?_)
          refine x_iinc (pc := 64) (al' := [(0, vR 31), (1, vI x1), (2, vI (x2 + 1)), (3, vI (-6))]) 2 dX3_readSum_64 rfl rfl rfl (Nat.le_of_ble_eq_true rfl) ?_
          refine x_goto (pc := 67) 7 dX3_readSum_67 (by decide) ?_
          exact x_sub [0, 1, 2] rfl h
        · have h := hB19 hc
          refine x_bipush (pc := 42) dX3_readSum_42 rfl ?_
          refine x_goto (pc := 44) 49 dX3_readSum_44 (by decide) ?_
          refine x_istore_n (pc := 49) (al' := [(0, vR 31), (1, vI x1), (2, vI x2), (3, vI (-5))]) dX3_readSum_49 rfl rfl (Nat.le_of_ble_eq_true rfl) ?_
          refine x_aload_n (pc := 50) 0 dX3_readSum_50 rfl ?_
          refine x_Vv (μ := (m_X3_readSum d)) (pc := 51) dX3_readSum_51 h k_X3_next ml_X3_54 ⟨by show 2 + 1 ≤ (3 * d + 11); omega, by show 8 + (2 + 11) + 80 ≤ 40 * (3 * d + 11); omega⟩ ⟨rfl, rfl⟩ ⟨Nat.zero_le _, Nat.zero_le _⟩ rfl (LRead_ob hr) rfl (Nat.le_of_ble_eq_true rfl) _ rfl (fun I23 h => ?_)
          refine x_aload_n (pc := 54) 0 dX3_readSum_54 rfl ?_
          refine x_iload_n (pc := 55) 1 dX3_readSum_55 rfl ?_
          refine x_Vv (μ := (m_X3_readSum d)) (pc := 56) dX3_readSum_56 h k_X3_readTerm ml_X3_159 ⟨by show (3 * d + 10) + 1 ≤ (3 * d + 11); omega, by show 8 + (4 + 11) + 40 * (3 * d + 10) ≤ 40 * (3 * d + 11); omega⟩ ⟨rfl, rfl⟩ ⟨Nat.zero_le _, Nat.zero_le _⟩ rfl (LRead_ob hr) rfl (Nat.le_of_ble_eq_true rfl) _ rfl (fun I24 h => ?_)
          refine x_aload_n (pc := 59) 0 dX3_readSum_59 rfl ?_
          refine x_iload_n (pc := 60) 3 dX3_readSum_60 rfl ?_
          refine x_Vv (μ := (m_X3_readSum d)) (pc := 61) dX3_readSum_61 h k_X3_addToCost ml_X3_164 ⟨by show 2 + 1 ≤ (3 * d + 11); omega, by show 8 + (2 + 11) + 80 ≤ 40 * (3 * d + 11); omega⟩ ⟨rfl, rfl⟩ ⟨Nat.zero_le _, Nat.zero_le _⟩ rfl (LRead_ob hr) rfl (Nat.le_of_ble_eq_true rfl) _ rfl (fun I25 h => ?_)
          refine x_iinc (pc := 64) (al' := [(0, vR 31), (1, vI x1), (2, vI (x2 + 1)), (3, vI (-5))]) 2 dX3_readSum_64 rfl rfl rfl (Nat.le_of_ble_eq_true rfl) ?_
          refine x_goto (pc := 67) 7 dX3_readSum_67 (by decide) ?_
          exact x_sub [0, 1, 2] rfl h
set_option maxRecDepth 100000 in
set_option maxHeartbeats 4000000 in
theorem t_X3_readTerm_0 {Γ : GG} {P : MP} {I : MM} {R : MM → Prop} {x1 : Int} {d : Nat} (hr : LRead Γ P)
    (h : (Cl Γ (m_X3_readFactor d) [vR 31, vI x1] P I (rv P (fun (I1 : MM) => XM Γ (m_X3_readTerm d) 0 0 7 [(0, vR 31), (1, vI x1), (2, vI 0)] [] P I1 (rv P R))))) :
    XM Γ (m_X3_readTerm d) 0 0 0 [(0, vR 31), (1, vI x1)] [] P I (rv P R) := by
  refine x_aload_n (pc := 0) 0 dX3_readTerm_0 rfl ?_
  refine x_iload_n (pc := 1) 1 dX3_readTerm_1 rfl ?_
  refine x_Vv (μ := (m_X3_readTerm d)) (pc := 2) dX3_readTerm_2 h k_X3_readFactor ml_X3_167 ⟨by show (3 * d + 9) + 1 ≤ (3 * d + 10); omega, by show 8 + (2 + 11) + 40 * (3 * d + 9) ≤ 40 * (3 * d + 10); omega⟩ ⟨rfl, rfl⟩ ⟨Nat.zero_le _, Nat.zero_le _⟩ rfl (LRead_ob hr) rfl (Nat.le_of_ble_eq_true rfl) _ rfl (fun I1 h => ?_)
  refine x_iconst (pc := 5) dX3_readTerm_5 ?_
  refine x_istore_n (pc := 6) (al' := [(0, vR 31), (1, vI x1), (2, vI 0)]) dX3_readTerm_6 rfl rfl (Nat.le_of_ble_eq_true rfl) ?_
  exact x_sub [0, 1, 2] rfl h
set_option maxRecDepth 100000 in
set_option maxHeartbeats 4000000 in
theorem t_X3_readTerm_7 {Γ : GG} {P : MP} {I : MM} {R : MM → Prop} {x1 x2 : Int} {d : Nat} (hr : LRead Γ P)
    (h : (inR x2) ∧ (inR (I 31 1)) ∧ (((I 31 1) ≤ x2 → R I) ∧ (¬ (I 31 1) ≤ x2 → (inR (I 31 4)) ∧ (((I 31 4) = 42 → (((I 31 4) ≠ 42 → (Cl Γ m_X3_next [vR 31] P I (rv P (fun (I10 : MM) => (Cl Γ (m_X3_readFactor d) [vR 31, vI x1] P I10 (rv P (fun (I11 : MM) => (Cl Γ m_X3_addToCost [vR 31, vI (-8)] P I11 (rv P (fun (I12 : MM) => XM Γ (m_X3_readTerm d) 0 0 7 [(0, vR 31), (1, vI x1), (2, vI (x2 + 1))] [] P I12 (rv P R))))))))))) ∧ ((I 31 4) = 42 → (Cl Γ m_X3_next [vR 31] P I (rv P (fun (I13 : MM) => (Cl Γ (m_X3_readFactor d) [vR 31, vI x1] P I13 (rv P (fun (I14 : MM) => (Cl Γ m_X3_addToCost [vR 31, vI (-7)] P I14 (rv P (fun (I15 : MM) => XM Γ (m_X3_readTerm d) 0 0 7 [(0, vR 31), (1, vI x1), (2, vI (x2 + 1))] [] P I15 (rv P R))))))))))))) ∧ (¬ (I 31 4) = 42 → (((I 31 4) ≠ 47 → R I) ∧ ((I 31 4) = 47 → (((I 31 4) ≠ 42 → (Cl Γ m_X3_next [vR 31] P I (rv P (fun (I20 : MM) => (Cl Γ (m_X3_readFactor d) [vR 31, vI x1] P I20 (rv P (fun (I21 : MM) => (Cl Γ m_X3_addToCost [vR 31, vI (-8)] P I21 (rv P (fun (I22 : MM) => XM Γ (m_X3_readTerm d) 0 0 7 [(0, vR 31), (1, vI x1), (2, vI (x2 + 1))] [] P I22 (rv P R))))))))))) ∧ ((I 31 4) = 42 → (Cl Γ m_X3_next [vR 31] P I (rv P (fun (I23 : MM) => (Cl Γ (m_X3_readFactor d) [vR 31, vI x1] P I23 (rv P (fun (I24 : MM) => (Cl Γ m_X3_addToCost [vR 31, vI (-7)] P I24 (rv P (fun (I25 : MM) => XM Γ (m_X3_readTerm d) 0 0 7 [(0, vR 31), (1, vI x1), (2, vI (x2 + 1))] [] P I25 (rv P R))))))))))))))))))) :
    XM Γ (m_X3_readTerm d) 0 0 7 [(0, vR 31), (1, vI x1), (2, vI x2)] [] P I (rv P R) := by
  refine x_iload_n (pc := 7) 2 dX3_readTerm_7 rfl ?_
  refine x_aload_n (pc := 8) 0 dX3_readTerm_8 rfl ?_
  refine x_getI (pc := 9) dX3_readTerm_9 FC3 1 (by decide) rfl fl_X3_15 (LRead_ob hr) ?_
  obtain ⟨hr1, h⟩ := h
  obtain ⟨hr2, h⟩ := h
  obtain ⟨hA3, hB4⟩ := h
  refine x_icmp_ge (pc := 12) 70 dX3_readTerm_12 (by decide) hr1 hr2 (fun hc => ?_) (fun hc => ?_)
  · have h := hA3 hc
    exact x_vret (pc := 70) dX3_readTerm_70 rfl (Nat.le_refl _) (Nat.le_refl _) ⟨rfl, rfl, h⟩
  · have h := hB4 hc
    refine x_aload_n (pc := 15) 0 dX3_readTerm_15 rfl ?_
    refine x_getI (pc := 16) dX3_readTerm_16 FC3 4 (by decide) rfl fl_X3_25 (LRead_ob hr) ?_
    refine x_bipush (pc := 19) dX3_readTerm_19 rfl ?_
    obtain ⟨hr5, h⟩ := h
    obtain ⟨hA6, hB7⟩ := h
    refine x_icmp_eq (pc := 21) 33 dX3_readTerm_21 (by decide) hr5 ⟨by decide, by decide⟩ (fun hc => ?_) (fun hc => ?_)
    · have h := hA6 hc
      refine x_aload_n (pc := 33) 0 dX3_readTerm_33 rfl ?_
      refine x_getI (pc := 34) dX3_readTerm_34 FC3 4 (by decide) rfl fl_X3_25 (LRead_ob hr) ?_
      refine x_bipush (pc := 37) dX3_readTerm_37 rfl ?_
      obtain ⟨hA8, hB9⟩ := h
      refine x_icmp_ne (pc := 39) 47 dX3_readTerm_39 (by decide) hr5 ⟨by decide, by decide⟩ (fun hc => ?_) (fun hc => ?_)
      · have h := hA8 hc
        refine x_bipush (pc := 47) dX3_readTerm_47 rfl ?_
        refine x_istore_n (pc := 49) (al' := [(0, vR 31), (1, vI x1), (2, vI x2), (3, vI (-8))]) dX3_readTerm_49 rfl rfl (Nat.le_of_ble_eq_true rfl) ?_
        refine x_aload_n (pc := 50) 0 dX3_readTerm_50 rfl ?_
        refine x_Vv (μ := (m_X3_readTerm d)) (pc := 51) dX3_readTerm_51 h k_X3_next ml_X3_54 ⟨by show 2 + 1 ≤ (3 * d + 10); omega, by show 8 + (2 + 11) + 80 ≤ 40 * (3 * d + 10); omega⟩ ⟨rfl, rfl⟩ ⟨Nat.zero_le _, Nat.zero_le _⟩ rfl (LRead_ob hr) rfl (Nat.le_of_ble_eq_true rfl) _ rfl (fun I10 h => ?_)
        refine x_aload_n (pc := 54) 0 dX3_readTerm_54 rfl ?_
        refine x_iload_n (pc := 55) 1 dX3_readTerm_55 rfl ?_
        refine x_Vv (μ := (m_X3_readTerm d)) (pc := 56) dX3_readTerm_56 h k_X3_readFactor ml_X3_167 ⟨by show (3 * d + 9) + 1 ≤ (3 * d + 10); omega, by show 8 + (2 + 11) + 40 * (3 * d + 9) ≤ 40 * (3 * d + 10); omega⟩ ⟨rfl, rfl⟩ ⟨Nat.zero_le _, Nat.zero_le _⟩ rfl (LRead_ob hr) rfl (Nat.le_of_ble_eq_true rfl) _ rfl (fun I11 h => ?_)
        refine x_aload_n (pc := 59) 0 dX3_readTerm_59 rfl ?_
        refine x_iload_n (pc := 60) 3 dX3_readTerm_60 rfl ?_
        refine x_Vv (μ := (m_X3_readTerm d)) (pc := 61) dX3_readTerm_61 h k_X3_addToCost ml_X3_164 ⟨by show 2 + 1 ≤ (3 * d + 10); omega, by show 8 + (2 + 11) + 80 ≤ 40 * (3 * d + 10); omega⟩ ⟨rfl, rfl⟩ ⟨Nat.zero_le _, Nat.zero_le _⟩ rfl (LRead_ob hr) rfl (Nat.le_of_ble_eq_true rfl) _ rfl (fun I12 h => ?_)
        refine x_iinc (pc := 64) (al' := [(0, vR 31), (1, vI x1), (2, vI (x2 + 1)), (3, vI (-8))]) 2 dX3_readTerm_64 rfl rfl rfl (Nat.le_of_ble_eq_true rfl) ?_
        refine x_goto (pc := 67) 7 dX3_readTerm_67 (by decide) ?_
        exact x_sub [0, 1, 2] rfl h
      · have h := hB9 hc
        refine x_bipush (pc := 42) dX3_readTerm_42 rfl ?_
        refine x_goto (pc := 44) 49 dX3_readTerm_44 (by decide) ?_
        refine x_istore_n (pc := 49) (al' := [(0, vR 31), (1, vI x1), (2, vI x2), (3, vI (-7))]) dX3_readTerm_49 rfl rfl (Nat.le_of_ble_eq_true rfl) ?_
        refine x_aload_n (pc := 50) 0 dX3_readTerm_50 rfl ?_
        refine x_Vv (μ := (m_X3_readTerm d)) (pc := 51) dX3_readTerm_51 h k_X3_next ml_X3_54 ⟨by show 2 + 1 ≤ (3 * d + 10); omega, by show 8 + (2 + 11) + 80 ≤ 40 * (3 * d + 10); omega⟩ ⟨rfl, rfl⟩ ⟨Nat.zero_le _, Nat.zero_le _⟩ rfl (LRead_ob hr) rfl (Nat.le_of_ble_eq_true rfl) _ rfl (fun I13 h => ?_)
        refine x_aload_n (pc := 54) 0 dX3_readTerm_54 rfl ?_
        refine x_iload_n (pc := 55) 1 dX3_readTerm_55 rfl ?_
        refine x_Vv (μ := (m_X3_readTerm d)) (pc := 56) dX3_readTerm_56 h k_X3_readFactor ml_X3_167 ⟨by show (3 * d + 9) + 1 ≤ (3 * d + 10); omega, by show 8 + (2 + 11) + 40 * (3 * d + 9) ≤ 40 * (3 * d + 10); omega⟩ ⟨rfl, rfl⟩ ⟨Nat.zero_le _, Nat.zero_le _⟩ rfl (LRead_ob hr) rfl (Nat.le_of_ble_eq_true rfl) _ rfl (fun I14 h => ?_)
        refine x_aload_n (pc := 59) 0 dX3_readTerm_59 rfl ?_
        refine x_iload_n (pc := 60) 3 dX3_readTerm_60 rfl ?_
        refine x_Vv (μ := (m_X3_readTerm d)) (pc := 61) dX3_readTerm_61 h k_X3_addToCost ml_X3_164 ⟨by show 2 + 1 ≤ (3 * d + 10); omega, by show 8 + (2 + 11) + 80 ≤ 40 * (3 * d + 10); omega⟩ ⟨rfl, rfl⟩ ⟨Nat.zero_le _, Nat.zero_le _⟩ rfl (LRead_ob hr) rfl (Nat.le_of_ble_eq_true rfl) _ rfl (fun I15 h => ?_)
        refine x_iinc (pc := 64) (al' := [(0, vR 31), (1, vI x1), (2, vI (x2 + 1)), (3, vI (-7))]) 2 dX3_readTerm_64 rfl rfl rfl (Nat.le_of_ble_eq_true rfl) ?_
        refine x_goto (pc := 67) 7 dX3_readTerm_67 (by decide) ?_
        exact x_sub [0, 1, 2] rfl h
    · have h := hB7 hc
      refine x_aload_n (pc := 24) 0 dX3_readTerm_24 rfl ?_
      refine x_getI (pc := 25) dX3_readTerm_25 FC3 4 (by decide) rfl fl_X3_25 (LRead_ob hr) ?_
      refine x_bipush (pc := 28) dX3_readTerm_28 rfl ?_
      obtain ⟨hA16, hB17⟩ := h
      refine x_icmp_ne (pc := 30) 70 dX3_readTerm_30 (by decide) hr5 ⟨by decide, by decide⟩ (fun hc => ?_) (fun hc => ?_)
      · have h := hA16 hc
        exact x_vret (pc := 70) dX3_readTerm_70 rfl (Nat.le_refl _) (Nat.le_refl _) ⟨rfl, rfl, h⟩
      · have h := hB17 hc
        refine x_aload_n (pc := 33) 0 dX3_readTerm_33 rfl ?_
        refine x_getI (pc := 34) dX3_readTerm_34 FC3 4 (by decide) rfl fl_X3_25 (LRead_ob hr) ?_
        refine x_bipush (pc := 37) dX3_readTerm_37 rfl ?_
        obtain ⟨hA18, hB19⟩ := h
        refine x_icmp_ne (pc := 39) 47 dX3_readTerm_39 (by decide) hr5 ⟨by decide, by decide⟩ (fun hc => ?_) (fun hc => ?_)
        · have h := hA18 hc
          refine x_bipush (pc := 47) dX3_readTerm_47 rfl ?_
          refine x_istore_n (pc := 49) (al' := [(0, vR 31), (1, vI x1), (2, vI x2), (3, vI (-8))]) dX3_readTerm_49 rfl rfl (Nat.le_of_ble_eq_true rfl) ?_
          refine x_aload_n (pc := 50) 0 dX3_readTerm_50 rfl ?_
          refine x_Vv (μ := (m_X3_readTerm d)) (pc := 51) dX3_readTerm_51 h k_X3_next ml_X3_54 ⟨by show 2 + 1 ≤ (3 * d + 10); omega, by show 8 + (2 + 11) + 80 ≤ 40 * (3 * d + 10); omega⟩ ⟨rfl, rfl⟩ ⟨Nat.zero_le _, Nat.zero_le _⟩ rfl (LRead_ob hr) rfl (Nat.le_of_ble_eq_true rfl) _ rfl (fun I20 h => ?_)
          refine x_aload_n (pc := 54) 0 dX3_readTerm_54 rfl ?_
          refine x_iload_n (pc := 55) 1 dX3_readTerm_55 rfl ?_
          refine x_Vv (μ := (m_X3_readTerm d)) (pc := 56) dX3_readTerm_56 h k_X3_readFactor ml_X3_167 ⟨by show (3 * d + 9) + 1 ≤ (3 * d + 10); omega, by show 8 + (2 + 11) + 40 * (3 * d + 9) ≤ 40 * (3 * d + 10); omega⟩ ⟨rfl, rfl⟩ ⟨Nat.zero_le _, Nat.zero_le _⟩ rfl (LRead_ob hr) rfl (Nat.le_of_ble_eq_true rfl) _ rfl (fun I21 h => ?_)
          refine x_aload_n (pc := 59) 0 dX3_readTerm_59 rfl ?_
          refine x_iload_n (pc := 60) 3 dX3_readTerm_60 rfl ?_
          refine x_Vv (μ := (m_X3_readTerm d)) (pc := 61) dX3_readTerm_61 h k_X3_addToCost ml_X3_164 ⟨by show 2 + 1 ≤ (3 * d + 10); omega, by show 8 + (2 + 11) + 80 ≤ 40 * (3 * d + 10); omega⟩ ⟨rfl, rfl⟩ ⟨Nat.zero_le _, Nat.zero_le _⟩ rfl (LRead_ob hr) rfl (Nat.le_of_ble_eq_true rfl) _ rfl (fun I22 h => ?_)
          refine x_iinc (pc := 64) (al' := [(0, vR 31), (1, vI x1), (2, vI (x2 + 1)), (3, vI (-8))]) 2 dX3_readTerm_64 rfl rfl rfl (Nat.le_of_ble_eq_true rfl) ?_
          refine x_goto (pc := 67) 7 dX3_readTerm_67 (by decide) ?_
          exact x_sub [0, 1, 2] rfl h
        · have h := hB19 hc
          refine x_bipush (pc := 42) dX3_readTerm_42 rfl ?_
          refine x_goto (pc := 44) 49 dX3_readTerm_44 (by decide) ?_
          refine x_istore_n (pc := 49) (al' := [(0, vR 31), (1, vI x1), (2, vI x2), (3, vI (-7))]) dX3_readTerm_49 rfl rfl (Nat.le_of_ble_eq_true rfl) ?_
          refine x_aload_n (pc := 50) 0 dX3_readTerm_50 rfl ?_
          refine x_Vv (μ := (m_X3_readTerm d)) (pc := 51) dX3_readTerm_51 h k_X3_next ml_X3_54 ⟨by show 2 + 1 ≤ (3 * d + 10); omega, by show 8 + (2 + 11) + 80 ≤ 40 * (3 * d + 10); omega⟩ ⟨rfl, rfl⟩ ⟨Nat.zero_le _, Nat.zero_le _⟩ rfl (LRead_ob hr) rfl (Nat.le_of_ble_eq_true rfl) _ rfl (fun I23 h => ?_)
          refine x_aload_n (pc := 54) 0 dX3_readTerm_54 rfl ?_
          refine x_iload_n (pc := 55) 1 dX3_readTerm_55 rfl ?_
          refine x_Vv (μ := (m_X3_readTerm d)) (pc := 56) dX3_readTerm_56 h k_X3_readFactor ml_X3_167 ⟨by show (3 * d + 9) + 1 ≤ (3 * d + 10); omega, by show 8 + (2 + 11) + 40 * (3 * d + 9) ≤ 40 * (3 * d + 10); omega⟩ ⟨rfl, rfl⟩ ⟨Nat.zero_le _, Nat.zero_le _⟩ rfl (LRead_ob hr) rfl (Nat.le_of_ble_eq_true rfl) _ rfl (fun I24 h => ?_)
          refine x_aload_n (pc := 59) 0 dX3_readTerm_59 rfl ?_
          refine x_iload_n (pc := 60) 3 dX3_readTerm_60 rfl ?_
          refine x_Vv (μ := (m_X3_readTerm d)) (pc := 61) dX3_readTerm_61 h k_X3_addToCost ml_X3_164 ⟨by show 2 + 1 ≤ (3 * d + 10); omega, by show 8 + (2 + 11) + 80 ≤ 40 * (3 * d + 10); omega⟩ ⟨rfl, rfl⟩ ⟨Nat.zero_le _, Nat.zero_le _⟩ rfl (LRead_ob hr) rfl (Nat.le_of_ble_eq_true rfl) _ rfl (fun I25 h => ?_)
          refine x_iinc (pc := 64) (al' := [(0, vR 31), (1, vI x1), (2, vI (x2 + 1)), (3, vI (-7))]) 2 dX3_readTerm_64 rfl rfl rfl (Nat.le_of_ble_eq_true rfl) ?_
          refine x_goto (pc := 67) 7 dX3_readTerm_67 (by decide) ?_
          exact x_sub [0, 1, 2] rfl h
set_option maxRecDepth 100000 in
set_option maxHeartbeats 4000000 in
theorem t_X3_readFactor_0 {Γ : GG} {P : MP} {I : MM} {R : MM → Prop} {x1 : Int} {d : Nat} (hr : LRead Γ P)
    (h : (inR (I 31 4)) ∧ (((I 31 4) ≠ 40 → (((I 31 4) ≠ 40 → (((I 31 4) ≠ (-1001) → (Cl Γ m_X3_readName [vR 31] P I (rv P (fun (I8 : MM) => R I8)))) ∧ ((I 31 4) = (-1001) → (Cl Γ m_X3_readNumber [vR 31, vI 0, vI 9999] P I (ri P (fun (z9 : Int) (I10 : MM) => (Cl Γ m_X3_addToCost [vR 31, vI z9] P I10 (rv P (fun (I11 : MM) => R I11))))))))) ∧ ((I 31 4) = 40 → (Cl Γ m_X3_next [vR 31] P I (rv P (fun (I12 : MM) => (Cl Γ (m_X3_readSum d) [vR 31, vI (x1 + 1)] P I12 (rv P (fun (I13 : MM) => (Cl Γ m_X3_expect [vR 31, vI 41] P I13 (rv P (fun (I14 : MM) => R I14)))))))))))) ∧ ((I 31 4) = 40 → (inR x1) ∧ ((x1 < 4 → (((I 31 4) ≠ 40 → (((I 31 4) ≠ (-1001) → (Cl Γ m_X3_readName [vR 31] P I (rv P (fun (I22 : MM) => R I22)))) ∧ ((I 31 4) = (-1001) → (Cl Γ m_X3_readNumber [vR 31, vI 0, vI 9999] P I (ri P (fun (z23 : Int) (I24 : MM) => (Cl Γ m_X3_addToCost [vR 31, vI z23] P I24 (rv P (fun (I25 : MM) => R I25))))))))) ∧ ((I 31 4) = 40 → (Cl Γ m_X3_next [vR 31] P I (rv P (fun (I26 : MM) => (Cl Γ (m_X3_readSum d) [vR 31, vI (x1 + 1)] P I26 (rv P (fun (I27 : MM) => (Cl Γ m_X3_expect [vR 31, vI 41] P I27 (rv P (fun (I28 : MM) => R I28)))))))))))) ∧ (¬ x1 < 4 → (Cl Γ m_X3_fail [vR 31, vI (-5)] P I (rv P (fun (I29 : MM) => R I29)))))))) :
    XM Γ (m_X3_readFactor (d + 1)) 0 0 0 [(0, vR 31), (1, vI x1)] [] P I (rv P R) := by
  refine x_aload_n (pc := 0) 0 dX3_readFactor_0 rfl ?_
  refine x_getI (pc := 1) dX3_readFactor_1 FC3 4 (by decide) rfl fl_X3_25 (LRead_ob hr) ?_
  refine x_bipush (pc := 4) dX3_readFactor_4 rfl ?_
  obtain ⟨hr1, h⟩ := h
  obtain ⟨hA2, hB3⟩ := h
  refine x_icmp_ne (pc := 6) 23 dX3_readFactor_6 (by decide) hr1 ⟨by decide, by decide⟩ (fun hc => ?_) (fun hc => ?_)
  · have h := hA2 hc
    refine x_aload_n (pc := 23) 0 dX3_readFactor_23 rfl ?_
    refine x_getI (pc := 24) dX3_readFactor_24 FC3 4 (by decide) rfl fl_X3_25 (LRead_ob hr) ?_
    refine x_bipush (pc := 27) dX3_readFactor_27 rfl ?_
    obtain ⟨hA4, hB5⟩ := h
    refine x_icmp_ne (pc := 29) 52 dX3_readFactor_29 (by decide) hr1 ⟨by decide, by decide⟩ (fun hc => ?_) (fun hc => ?_)
    · have h := hA4 hc
      refine x_aload_n (pc := 52) 0 dX3_readFactor_52 rfl ?_
      refine x_getI (pc := 53) dX3_readFactor_53 FC3 4 (by decide) rfl fl_X3_25 (LRead_ob hr) ?_
      refine x_sipush (pc := 56) dX3_readFactor_56 rfl ?_
      obtain ⟨hA6, hB7⟩ := h
      refine x_icmp_ne (pc := 59) 77 dX3_readFactor_59 (by decide) hr1 ⟨by decide, by decide⟩ (fun hc => ?_) (fun hc => ?_)
      · have h := hA6 hc
        refine x_aload_n (pc := 77) 0 dX3_readFactor_77 rfl ?_
        refine x_Vv (μ := (m_X3_readFactor (d + 1))) (pc := 78) dX3_readFactor_78 h k_X3_readName ml_X3_170 ⟨by show 8 + 1 ≤ (3 * (d + 1) + 9); omega, by show 8 + (1 + 11) + 320 ≤ 40 * (3 * (d + 1) + 9); omega⟩ ⟨rfl, rfl⟩ ⟨Nat.zero_le _, Nat.zero_le _⟩ rfl (LRead_ob hr) rfl (Nat.le_of_ble_eq_true rfl) _ rfl (fun I8 h => ?_)
        exact x_vret (pc := 81) dX3_readFactor_81 rfl (Nat.le_refl _) (Nat.le_refl _) ⟨rfl, rfl, h⟩
      · have h := hB7 hc
        refine x_aload_n (pc := 62) 0 dX3_readFactor_62 rfl ?_
        refine x_aload_n (pc := 63) 0 dX3_readFactor_63 rfl ?_
        refine x_iconst (pc := 64) dX3_readFactor_64 ?_
        refine x_sipush (pc := 65) dX3_readFactor_65 rfl ?_
        refine x_Vi (μ := (m_X3_readFactor (d + 1))) (pc := 68) dX3_readFactor_68 h k_X3_readNumber ml_X3_105 ⟨by show 3 + 1 ≤ (3 * (d + 1) + 9); omega, by show 8 + (4 + 11) + 120 ≤ 40 * (3 * (d + 1) + 9); omega⟩ ⟨rfl, rfl⟩ ⟨Nat.zero_le _, Nat.zero_le _⟩ rfl (LRead_ob hr) rfl (Nat.le_of_ble_eq_true rfl) _ rfl (fun z9 I10 h => ?_)
        refine x_Vv (μ := (m_X3_readFactor (d + 1))) (pc := 71) dX3_readFactor_71 h k_X3_addToCost ml_X3_164 ⟨by show 2 + 1 ≤ (3 * (d + 1) + 9); omega, by show 8 + (2 + 11) + 80 ≤ 40 * (3 * (d + 1) + 9); omega⟩ ⟨rfl, rfl⟩ ⟨Nat.zero_le _, Nat.zero_le _⟩ rfl (LRead_ob hr) rfl (Nat.le_of_ble_eq_true rfl) _ rfl (fun I11 h => ?_)
        refine x_goto (pc := 74) 81 dX3_readFactor_74 (by decide) ?_
        exact x_vret (pc := 81) dX3_readFactor_81 rfl (Nat.le_refl _) (Nat.le_refl _) ⟨rfl, rfl, h⟩
    · have h := hB5 hc
      refine x_aload_n (pc := 32) 0 dX3_readFactor_32 rfl ?_
      refine x_Vv (μ := (m_X3_readFactor (d + 1))) (pc := 33) dX3_readFactor_33 h k_X3_next ml_X3_54 ⟨by show 2 + 1 ≤ (3 * (d + 1) + 9); omega, by show 8 + (2 + 11) + 80 ≤ 40 * (3 * (d + 1) + 9); omega⟩ ⟨rfl, rfl⟩ ⟨Nat.zero_le _, Nat.zero_le _⟩ rfl (LRead_ob hr) rfl (Nat.le_of_ble_eq_true rfl) _ rfl (fun I12 h => ?_)
      refine x_aload_n (pc := 36) 0 dX3_readFactor_36 rfl ?_
      refine x_iload_n (pc := 37) 1 dX3_readFactor_37 rfl ?_
      refine x_iconst (pc := 38) dX3_readFactor_38 ?_
      refine x_iadd (pc := 39) dX3_readFactor_39 ?_
      refine x_Vv (μ := (m_X3_readFactor (d + 1))) (pc := 40) dX3_readFactor_40 h k_X3_readSum ml_X3_76 ⟨by show (3 * d + 11) + 1 ≤ (3 * (d + 1) + 9); omega, by show 8 + (4 + 11) + 40 * (3 * d + 11) ≤ 40 * (3 * (d + 1) + 9); omega⟩ ⟨rfl, rfl⟩ ⟨Nat.zero_le _, Nat.zero_le _⟩ rfl (LRead_ob hr) rfl (Nat.le_of_ble_eq_true rfl) _ rfl (fun I13 h => ?_)
      refine x_aload_n (pc := 43) 0 dX3_readFactor_43 rfl ?_
      refine x_bipush (pc := 44) dX3_readFactor_44 rfl ?_
      refine x_Vv (μ := (m_X3_readFactor (d + 1))) (pc := 46) dX3_readFactor_46 h k_X3_expect ml_X3_80 ⟨by show 3 + 1 ≤ (3 * (d + 1) + 9); omega, by show 8 + (2 + 11) + 120 ≤ 40 * (3 * (d + 1) + 9); omega⟩ ⟨rfl, rfl⟩ ⟨Nat.zero_le _, Nat.zero_le _⟩ rfl (LRead_ob hr) rfl (Nat.le_of_ble_eq_true rfl) _ rfl (fun I14 h => ?_)
      refine x_goto (pc := 49) 81 dX3_readFactor_49 (by decide) ?_
      exact x_vret (pc := 81) dX3_readFactor_81 rfl (Nat.le_refl _) (Nat.le_refl _) ⟨rfl, rfl, h⟩
  · have h := hB3 hc
    refine x_iload_n (pc := 9) 1 dX3_readFactor_9 rfl ?_
    refine x_iconst (pc := 10) dX3_readFactor_10 ?_
    obtain ⟨hr15, h⟩ := h
    obtain ⟨hA16, hB17⟩ := h
    refine x_icmp_lt (pc := 11) 23 dX3_readFactor_11 (by decide) hr15 ⟨by decide, by decide⟩ (fun hc => ?_) (fun hc => ?_)
    · have h := hA16 hc
      refine x_aload_n (pc := 23) 0 dX3_readFactor_23 rfl ?_
      refine x_getI (pc := 24) dX3_readFactor_24 FC3 4 (by decide) rfl fl_X3_25 (LRead_ob hr) ?_
      refine x_bipush (pc := 27) dX3_readFactor_27 rfl ?_
      obtain ⟨hA18, hB19⟩ := h
      refine x_icmp_ne (pc := 29) 52 dX3_readFactor_29 (by decide) hr1 ⟨by decide, by decide⟩ (fun hc => ?_) (fun hc => ?_)
      · have h := hA18 hc
        refine x_aload_n (pc := 52) 0 dX3_readFactor_52 rfl ?_
        refine x_getI (pc := 53) dX3_readFactor_53 FC3 4 (by decide) rfl fl_X3_25 (LRead_ob hr) ?_
        refine x_sipush (pc := 56) dX3_readFactor_56 rfl ?_
        obtain ⟨hA20, hB21⟩ := h
        refine x_icmp_ne (pc := 59) 77 dX3_readFactor_59 (by decide) hr1 ⟨by decide, by decide⟩ (fun hc => ?_) (fun hc => ?_)
        · have h := hA20 hc
          refine x_aload_n (pc := 77) 0 dX3_readFactor_77 rfl ?_
          refine x_Vv (μ := (m_X3_readFactor (d + 1))) (pc := 78) dX3_readFactor_78 h k_X3_readName ml_X3_170 ⟨by show 8 + 1 ≤ (3 * (d + 1) + 9); omega, by show 8 + (1 + 11) + 320 ≤ 40 * (3 * (d + 1) + 9); omega⟩ ⟨rfl, rfl⟩ ⟨Nat.zero_le _, Nat.zero_le _⟩ rfl (LRead_ob hr) rfl (Nat.le_of_ble_eq_true rfl) _ rfl (fun I22 h => ?_)
          exact x_vret (pc := 81) dX3_readFactor_81 rfl (Nat.le_refl _) (Nat.le_refl _) ⟨rfl, rfl, h⟩
        · have h := hB21 hc
          refine x_aload_n (pc := 62) 0 dX3_readFactor_62 rfl ?_
          refine x_aload_n (pc := 63) 0 dX3_readFactor_63 rfl ?_
          refine x_iconst (pc := 64) dX3_readFactor_64 ?_
          refine x_sipush (pc := 65) dX3_readFactor_65 rfl ?_
          refine x_Vi (μ := (m_X3_readFactor (d + 1))) (pc := 68) dX3_readFactor_68 h k_X3_readNumber ml_X3_105 ⟨by show 3 + 1 ≤ (3 * (d + 1) + 9); omega, by show 8 + (4 + 11) + 120 ≤ 40 * (3 * (d + 1) + 9); omega⟩ ⟨rfl, rfl⟩ ⟨Nat.zero_le _, Nat.zero_le _⟩ rfl (LRead_ob hr) rfl (Nat.le_of_ble_eq_true rfl) _ rfl (fun z23 I24 h => ?_)
          refine x_Vv (μ := (m_X3_readFactor (d + 1))) (pc := 71) dX3_readFactor_71 h k_X3_addToCost ml_X3_164 ⟨by show 2 + 1 ≤ (3 * (d + 1) + 9); omega, by show 8 + (2 + 11) + 80 ≤ 40 * (3 * (d + 1) + 9); omega⟩ ⟨rfl, rfl⟩ ⟨Nat.zero_le _, Nat.zero_le _⟩ rfl (LRead_ob hr) rfl (Nat.le_of_ble_eq_true rfl) _ rfl (fun I25 h => ?_)
          refine x_goto (pc := 74) 81 dX3_readFactor_74 (by decide) ?_
          exact x_vret (pc := 81) dX3_readFactor_81 rfl (Nat.le_refl _) (Nat.le_refl _) ⟨rfl, rfl, h⟩
      · have h := hB19 hc
        refine x_aload_n (pc := 32) 0 dX3_readFactor_32 rfl ?_
        refine x_Vv (μ := (m_X3_readFactor (d + 1))) (pc := 33) dX3_readFactor_33 h k_X3_next ml_X3_54 ⟨by show 2 + 1 ≤ (3 * (d + 1) + 9); omega, by show 8 + (2 + 11) + 80 ≤ 40 * (3 * (d + 1) + 9); omega⟩ ⟨rfl, rfl⟩ ⟨Nat.zero_le _, Nat.zero_le _⟩ rfl (LRead_ob hr) rfl (Nat.le_of_ble_eq_true rfl) _ rfl (fun I26 h => ?_)
        refine x_aload_n (pc := 36) 0 dX3_readFactor_36 rfl ?_
        refine x_iload_n (pc := 37) 1 dX3_readFactor_37 rfl ?_
        refine x_iconst (pc := 38) dX3_readFactor_38 ?_
        refine x_iadd (pc := 39) dX3_readFactor_39 ?_
        refine x_Vv (μ := (m_X3_readFactor (d + 1))) (pc := 40) dX3_readFactor_40 h k_X3_readSum ml_X3_76 ⟨by show (3 * d + 11) + 1 ≤ (3 * (d + 1) + 9); omega, by show 8 + (4 + 11) + 40 * (3 * d + 11) ≤ 40 * (3 * (d + 1) + 9); omega⟩ ⟨rfl, rfl⟩ ⟨Nat.zero_le _, Nat.zero_le _⟩ rfl (LRead_ob hr) rfl (Nat.le_of_ble_eq_true rfl) _ rfl (fun I27 h => ?_)
        refine x_aload_n (pc := 43) 0 dX3_readFactor_43 rfl ?_
        refine x_bipush (pc := 44) dX3_readFactor_44 rfl ?_
        refine x_Vv (μ := (m_X3_readFactor (d + 1))) (pc := 46) dX3_readFactor_46 h k_X3_expect ml_X3_80 ⟨by show 3 + 1 ≤ (3 * (d + 1) + 9); omega, by show 8 + (2 + 11) + 120 ≤ 40 * (3 * (d + 1) + 9); omega⟩ ⟨rfl, rfl⟩ ⟨Nat.zero_le _, Nat.zero_le _⟩ rfl (LRead_ob hr) rfl (Nat.le_of_ble_eq_true rfl) _ rfl (fun I28 h => ?_)
        refine x_goto (pc := 49) 81 dX3_readFactor_49 (by decide) ?_
        exact x_vret (pc := 81) dX3_readFactor_81 rfl (Nat.le_refl _) (Nat.le_refl _) ⟨rfl, rfl, h⟩
    · have h := hB17 hc
      refine x_aload_n (pc := 14) 0 dX3_readFactor_14 rfl ?_
      refine x_bipush (pc := 15) dX3_readFactor_15 rfl ?_
      refine x_Vv (μ := (m_X3_readFactor (d + 1))) (pc := 17) dX3_readFactor_17 h k_X3_fail ml_X3_89 ⟨by show 2 + 1 ≤ (3 * (d + 1) + 9); omega, by show 8 + (2 + 11) + 80 ≤ 40 * (3 * (d + 1) + 9); omega⟩ ⟨rfl, rfl⟩ ⟨Nat.zero_le _, Nat.zero_le _⟩ rfl (LRead_ob hr) rfl (Nat.le_of_ble_eq_true rfl) _ rfl (fun I29 h => ?_)
      refine x_goto (pc := 20) 81 dX3_readFactor_20 (by decide) ?_
      exact x_vret (pc := 81) dX3_readFactor_81 rfl (Nat.le_refl _) (Nat.le_refl _) ⟨rfl, rfl, h⟩
set_option maxRecDepth 100000 in
set_option maxHeartbeats 4000000 in
theorem t_X3_readName_0 {Γ : GG} {P : MP} {I : MM} {R : MM → Prop} (hr : LRead Γ P)
    (h : (Cl Γ m_X3_isWord [vR 31, vR (500 + 0)] P I (ri P (fun (z1 : Int) (I2 : MM) => (inR z1) ∧ ((z1 = 0 → (Cl Γ m_X3_isWord [vR 31, vR (500 + 2)] P I2 (ri P (fun (z6 : Int) (I7 : MM) => (inR z6) ∧ ((z6 = 0 → (Cl Γ m_X3_isWord [vR 31, vR (500 + 8)] P I7 (ri P (fun (z11 : Int) (I12 : MM) => (inR z11) ∧ ((z11 = 0 → (Cl Γ m_X3_isWord [vR 31, vR (500 + 6)] P I12 (ri P (fun (z16 : Int) (I17 : MM) => (inR z16) ∧ ((z16 = 0 → (Cl Γ m_X3_fail [vR 31, vI (-2)] P I17 (rv P (fun (I21 : MM) => (Cl Γ m_X3_next [vR 31] P I21 (rv P (fun (I22 : MM) => R I22))))))) ∧ (¬ z16 = 0 → (Cl Γ m_X3_addToCost [vR 31, vI (-4)] P I17 (rv P (fun (I23 : MM) => (Cl Γ m_X3_next [vR 31] P I23 (rv P (fun (I24 : MM) => R I24)))))))))))) ∧ (¬ z11 = 0 → (Cl Γ m_X3_addToCost [vR 31, vI (-3)] P I12 (rv P (fun (I25 : MM) => (Cl Γ m_X3_next [vR 31] P I25 (rv P (fun (I26 : MM) => R I26)))))))))))) ∧ (¬ z6 = 0 → (Cl Γ m_X3_addToCost [vR 31, vI (-2)] P I7 (rv P (fun (I27 : MM) => (Cl Γ m_X3_next [vR 31] P I27 (rv P (fun (I28 : MM) => R I28)))))))))))) ∧ (¬ z1 = 0 → (Cl Γ m_X3_addToCost [vR 31, vI (-1)] P I2 (rv P (fun (I29 : MM) => (Cl Γ m_X3_next [vR 31] P I29 (rv P (fun (I30 : MM) => R I30)))))))))))) :
    XM Γ m_X3_readName 0 0 0 [(0, vR 31)] [] P I (rv P R) := by
  refine x_aload_n (pc := 0) 0 dX3_readName_0 rfl ?_
  refine x_ldcS (pc := 1) "completion" 0 dX3_readName_1 oc_X3_173 ?_
  refine x_Vi (μ := m_X3_readName) (pc := 3) dX3_readName_3 h k_X3_isWord ml_X3_63 ⟨Nat.le_of_ble_eq_true rfl, Nat.le_of_ble_eq_true rfl⟩ ⟨rfl, rfl⟩ ⟨Nat.zero_le _, Nat.zero_le _⟩ rfl (LRead_ob hr) rfl (Nat.le_of_ble_eq_true rfl) _ rfl (fun z1 I2 h => ?_)
  obtain ⟨hr3, h⟩ := h
  obtain ⟨hA4, hB5⟩ := h
  refine x_if_eq (pc := 6) 17 dX3_readName_6 (by decide) hr3 (fun hc => ?_) (fun hc => ?_)
  · have h := hA4 hc
    refine x_aload_n (pc := 17) 0 dX3_readName_17 rfl ?_
    refine x_ldcS (pc := 18) "due" 2 dX3_readName_18 oc_X3_175 ?_
    refine x_Vi (μ := m_X3_readName) (pc := 20) dX3_readName_20 h k_X3_isWord ml_X3_63 ⟨Nat.le_of_ble_eq_true rfl, Nat.le_of_ble_eq_true rfl⟩ ⟨rfl, rfl⟩ ⟨Nat.zero_le _, Nat.zero_le _⟩ rfl (LRead_ob hr) rfl (Nat.le_of_ble_eq_true rfl) _ rfl (fun z6 I7 h => ?_)
    obtain ⟨hr8, h⟩ := h
    obtain ⟨hA9, hB10⟩ := h
    refine x_if_eq (pc := 23) 35 dX3_readName_23 (by decide) hr8 (fun hc => ?_) (fun hc => ?_)
    · have h := hA9 hc
      refine x_aload_n (pc := 35) 0 dX3_readName_35 rfl ?_
      refine x_ldcS (pc := 36) "weight" 8 dX3_readName_36 oc_X3_176 ?_
      refine x_Vi (μ := m_X3_readName) (pc := 38) dX3_readName_38 h k_X3_isWord ml_X3_63 ⟨Nat.le_of_ble_eq_true rfl, Nat.le_of_ble_eq_true rfl⟩ ⟨rfl, rfl⟩ ⟨Nat.zero_le _, Nat.zero_le _⟩ rfl (LRead_ob hr) rfl (Nat.le_of_ble_eq_true rfl) _ rfl (fun z11 I12 h => ?_)
      obtain ⟨hr13, h⟩ := h
      obtain ⟨hA14, hB15⟩ := h
      refine x_if_eq (pc := 41) 53 dX3_readName_41 (by decide) hr13 (fun hc => ?_) (fun hc => ?_)
      · have h := hA14 hc
        refine x_aload_n (pc := 53) 0 dX3_readName_53 rfl ?_
        refine x_ldcS (pc := 54) "release" 6 dX3_readName_54 oc_X3_177 ?_
        refine x_Vi (μ := m_X3_readName) (pc := 56) dX3_readName_56 h k_X3_isWord ml_X3_63 ⟨Nat.le_of_ble_eq_true rfl, Nat.le_of_ble_eq_true rfl⟩ ⟨rfl, rfl⟩ ⟨Nat.zero_le _, Nat.zero_le _⟩ rfl (LRead_ob hr) rfl (Nat.le_of_ble_eq_true rfl) _ rfl (fun z16 I17 h => ?_)
        obtain ⟨hr18, h⟩ := h
        obtain ⟨hA19, hB20⟩ := h
        refine x_if_eq (pc := 59) 71 dX3_readName_59 (by decide) hr18 (fun hc => ?_) (fun hc => ?_)
        · have h := hA19 hc
          refine x_aload_n (pc := 71) 0 dX3_readName_71 rfl ?_
          refine x_bipush (pc := 72) dX3_readName_72 rfl ?_
          refine x_Vv (μ := m_X3_readName) (pc := 74) dX3_readName_74 h k_X3_fail ml_X3_89 ⟨Nat.le_of_ble_eq_true rfl, Nat.le_of_ble_eq_true rfl⟩ ⟨rfl, rfl⟩ ⟨Nat.zero_le _, Nat.zero_le _⟩ rfl (LRead_ob hr) rfl (Nat.le_of_ble_eq_true rfl) _ rfl (fun I21 h => ?_)
          refine x_aload_n (pc := 77) 0 dX3_readName_77 rfl ?_
          refine x_Vv (μ := m_X3_readName) (pc := 78) dX3_readName_78 h k_X3_next ml_X3_54 ⟨Nat.le_of_ble_eq_true rfl, Nat.le_of_ble_eq_true rfl⟩ ⟨rfl, rfl⟩ ⟨Nat.zero_le _, Nat.zero_le _⟩ rfl (LRead_ob hr) rfl (Nat.le_of_ble_eq_true rfl) _ rfl (fun I22 h => ?_)
          exact x_vret (pc := 81) dX3_readName_81 rfl (Nat.le_refl _) (Nat.le_refl _) ⟨rfl, rfl, h⟩
        · have h := hB20 hc
          refine x_aload_n (pc := 62) 0 dX3_readName_62 rfl ?_
          refine x_bipush (pc := 63) dX3_readName_63 rfl ?_
          refine x_Vv (μ := m_X3_readName) (pc := 65) dX3_readName_65 h k_X3_addToCost ml_X3_164 ⟨Nat.le_of_ble_eq_true rfl, Nat.le_of_ble_eq_true rfl⟩ ⟨rfl, rfl⟩ ⟨Nat.zero_le _, Nat.zero_le _⟩ rfl (LRead_ob hr) rfl (Nat.le_of_ble_eq_true rfl) _ rfl (fun I23 h => ?_)
          refine x_goto (pc := 68) 77 dX3_readName_68 (by decide) ?_
          refine x_aload_n (pc := 77) 0 dX3_readName_77 rfl ?_
          refine x_Vv (μ := m_X3_readName) (pc := 78) dX3_readName_78 h k_X3_next ml_X3_54 ⟨Nat.le_of_ble_eq_true rfl, Nat.le_of_ble_eq_true rfl⟩ ⟨rfl, rfl⟩ ⟨Nat.zero_le _, Nat.zero_le _⟩ rfl (LRead_ob hr) rfl (Nat.le_of_ble_eq_true rfl) _ rfl (fun I24 h => ?_)
          exact x_vret (pc := 81) dX3_readName_81 rfl (Nat.le_refl _) (Nat.le_refl _) ⟨rfl, rfl, h⟩
      · have h := hB15 hc
        refine x_aload_n (pc := 44) 0 dX3_readName_44 rfl ?_
        refine x_bipush (pc := 45) dX3_readName_45 rfl ?_
        refine x_Vv (μ := m_X3_readName) (pc := 47) dX3_readName_47 h k_X3_addToCost ml_X3_164 ⟨Nat.le_of_ble_eq_true rfl, Nat.le_of_ble_eq_true rfl⟩ ⟨rfl, rfl⟩ ⟨Nat.zero_le _, Nat.zero_le _⟩ rfl (LRead_ob hr) rfl (Nat.le_of_ble_eq_true rfl) _ rfl (fun I25 h => ?_)
        refine x_goto (pc := 50) 77 dX3_readName_50 (by decide) ?_
        refine x_aload_n (pc := 77) 0 dX3_readName_77 rfl ?_
        refine x_Vv (μ := m_X3_readName) (pc := 78) dX3_readName_78 h k_X3_next ml_X3_54 ⟨Nat.le_of_ble_eq_true rfl, Nat.le_of_ble_eq_true rfl⟩ ⟨rfl, rfl⟩ ⟨Nat.zero_le _, Nat.zero_le _⟩ rfl (LRead_ob hr) rfl (Nat.le_of_ble_eq_true rfl) _ rfl (fun I26 h => ?_)
        exact x_vret (pc := 81) dX3_readName_81 rfl (Nat.le_refl _) (Nat.le_refl _) ⟨rfl, rfl, h⟩
    · have h := hB10 hc
      refine x_aload_n (pc := 26) 0 dX3_readName_26 rfl ?_
      refine x_bipush (pc := 27) dX3_readName_27 rfl ?_
      refine x_Vv (μ := m_X3_readName) (pc := 29) dX3_readName_29 h k_X3_addToCost ml_X3_164 ⟨Nat.le_of_ble_eq_true rfl, Nat.le_of_ble_eq_true rfl⟩ ⟨rfl, rfl⟩ ⟨Nat.zero_le _, Nat.zero_le _⟩ rfl (LRead_ob hr) rfl (Nat.le_of_ble_eq_true rfl) _ rfl (fun I27 h => ?_)
      refine x_goto (pc := 32) 77 dX3_readName_32 (by decide) ?_
      refine x_aload_n (pc := 77) 0 dX3_readName_77 rfl ?_
      refine x_Vv (μ := m_X3_readName) (pc := 78) dX3_readName_78 h k_X3_next ml_X3_54 ⟨Nat.le_of_ble_eq_true rfl, Nat.le_of_ble_eq_true rfl⟩ ⟨rfl, rfl⟩ ⟨Nat.zero_le _, Nat.zero_le _⟩ rfl (LRead_ob hr) rfl (Nat.le_of_ble_eq_true rfl) _ rfl (fun I28 h => ?_)
      exact x_vret (pc := 81) dX3_readName_81 rfl (Nat.le_refl _) (Nat.le_refl _) ⟨rfl, rfl, h⟩
  · have h := hB5 hc
    refine x_aload_n (pc := 9) 0 dX3_readName_9 rfl ?_
    refine x_iconst (pc := 10) dX3_readName_10 ?_
    refine x_Vv (μ := m_X3_readName) (pc := 11) dX3_readName_11 h k_X3_addToCost ml_X3_164 ⟨Nat.le_of_ble_eq_true rfl, Nat.le_of_ble_eq_true rfl⟩ ⟨rfl, rfl⟩ ⟨Nat.zero_le _, Nat.zero_le _⟩ rfl (LRead_ob hr) rfl (Nat.le_of_ble_eq_true rfl) _ rfl (fun I29 h => ?_)
    refine x_goto (pc := 14) 77 dX3_readName_14 (by decide) ?_
    refine x_aload_n (pc := 77) 0 dX3_readName_77 rfl ?_
    refine x_Vv (μ := m_X3_readName) (pc := 78) dX3_readName_78 h k_X3_next ml_X3_54 ⟨Nat.le_of_ble_eq_true rfl, Nat.le_of_ble_eq_true rfl⟩ ⟨rfl, rfl⟩ ⟨Nat.zero_le _, Nat.zero_le _⟩ rfl (LRead_ob hr) rfl (Nat.le_of_ble_eq_true rfl) _ rfl (fun I30 h => ?_)
    exact x_vret (pc := 81) dX3_readName_81 rfl (Nat.le_refl _) (Nat.le_refl _) ⟨rfl, rfl, h⟩
