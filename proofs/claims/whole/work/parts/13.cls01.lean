set_option maxRecDepth 100000 in
set_option maxHeartbeats 4000000 in
theorem t_X0_evaluate_0 {Γ : GG} {P : MP} {I : MM} {R : Int → MM → Prop} {x2 x3 : Int} {c w : Nat} (hco : LCost Γ P c w) {σ3 κ3 n3 : Nat} (hh3 : LShop Γ P σ3 κ3 n3)
    (h : XM Γ m_X0_evaluate 0 0 6 [(0, vR c), (1, vR σ3), (2, vI x2), (3, vI x3), (4, vI 0), (5, vI 0)] [] P I (ri P R)) :
    XM Γ m_X0_evaluate 0 0 0 [(0, vR c), (1, vR σ3), (2, vI x2), (3, vI x3)] [] P I (ri P R) := by
  refine x_iconst (pc := 0) dX0_evaluate_0 ?_
  refine x_istore (pc := 1) (al' := [(0, vR c), (1, vR σ3), (2, vI x2), (3, vI x3), (4, vI 0)]) dX0_evaluate_1 rfl rfl (Nat.le_of_ble_eq_true rfl) ?_
  refine x_iconst (pc := 3) dX0_evaluate_3 ?_
  refine x_istore (pc := 4) (al' := [(0, vR c), (1, vR σ3), (2, vI x2), (3, vI x3), (4, vI 0), (5, vI 0)]) dX0_evaluate_4 rfl rfl (Nat.le_of_ble_eq_true rfl) ?_
  exact x_sub [0, 1, 2, 3, 4, 5] rfl h
set_option maxRecDepth 100000 in
set_option maxHeartbeats 4000000 in
theorem t_X0_evaluate_6 {Γ : GG} {P : MP} {I : MM} {R : Int → MM → Prop} {x2 x3 x4 x5 : Int} {c w : Nat} (hco : LCost Γ P c w) {σ3 κ3 n3 : Nat} (hh3 : LShop Γ P σ3 κ3 n3)
    (h : (inR x5) ∧ (inR (n3 : Nat)) ∧ (((n3 : Nat) ≤ x5 → R (I w 0) I) ∧ (¬ (n3 : Nat) ≤ x5 → (0 ≤ x5) ∧ (x5 < (n3 : Nat)) ∧ (∀ u7 : Int, u7 = (I κ3 (x5).toNat) → (inR u7) ∧ (((-5) < u7 → ((u7 ≤ (-5) → XM Γ m_X0_evaluate 0 0 6 [(0, vR c), (1, vR σ3), (2, vI x2), (3, vI x3), (4, vI x4), (5, vI (x5 + 1))] [] P I (ri P R)) ∧ (¬ u7 ≤ (-5) → (inR x4) ∧ ((11 ≤ x4 → XM Γ m_X0_evaluate 0 0 6 [(0, vR c), (1, vR σ3), (2, vI x2), (3, vI x3), (4, vI x4), (5, vI (x5 + 1))] [] P I (ri P R)) ∧ (¬ 11 ≤ x4 → (Cl Γ m_X0_valueOf [vI u7, vR σ3, vI x2, vI x3] P I (ri P (fun (z16 : Int) (I17 : MM) => (0 ≤ x4) ∧ (x4 < 11) ∧ (∀ I20 : MM, I20 = up2 I17 w (x4).toNat z16 → XM Γ m_X0_evaluate 0 0 6 [(0, vR c), (1, vR σ3), (2, vI x2), (3, vI x3), (4, vI (x4 + 1)), (5, vI (x5 + 1))] [] P I20 (ri P R)))))))))) ∧ (¬ (-5) < u7 → (inR x4) ∧ ((x4 < 2 → ((u7 ≤ (-5) → XM Γ m_X0_evaluate 0 0 6 [(0, vR c), (1, vR σ3), (2, vI x2), (3, vI x3), (4, vI x4), (5, vI (x5 + 1))] [] P I (ri P R)) ∧ (¬ u7 ≤ (-5) → ((11 ≤ x4 → XM Γ m_X0_evaluate 0 0 6 [(0, vR c), (1, vR σ3), (2, vI x2), (3, vI x3), (4, vI x4), (5, vI (x5 + 1))] [] P I (ri P R)) ∧ (¬ 11 ≤ x4 → (Cl Γ m_X0_valueOf [vI u7, vR σ3, vI x2, vI x3] P I (ri P (fun (z28 : Int) (I29 : MM) => (0 ≤ x4) ∧ (x4 < 11) ∧ (∀ I32 : MM, I32 = up2 I29 w (x4).toNat z28 → XM Γ m_X0_evaluate 0 0 6 [(0, vR c), (1, vR σ3), (2, vI x2), (3, vI x3), (4, vI (x4 + 1)), (5, vI (x5 + 1))] [] P I32 (ri P R)))))))))) ∧ (¬ x4 < 2 → (0 ≤ (x4 - 2)) ∧ ((x4 - 2) < 11) ∧ (inR (I w ((x4 - 2)).toNat)) ∧ (0 ≤ (x4 - 1)) ∧ ((x4 - 1) < 11) ∧ (inR (I w ((x4 - 1)).toNat)) ∧ (Cl Γ m_X0_apply [vI u7, vL (I w ((x4 - 2)).toNat), vL (I w ((x4 - 1)).toNat)] P I (rl P (fun (z39 : Int) (I40 : MM) => (Cl Γ m_X0_limit [vL z39] P I40 (ri P (fun (z41 : Int) (I42 : MM) => (∀ I43 : MM, I43 = up2 I42 w ((x4 - 2)).toNat z41 → XM Γ m_X0_evaluate 0 0 6 [(0, vR c), (1, vR σ3), (2, vI x2), (3, vI x3), (4, vI (x4 + (-1))), (5, vI (x5 + 1))] [] P I43 (ri P R)))))))))))))))) :
    XM Γ m_X0_evaluate 0 0 6 [(0, vR c), (1, vR σ3), (2, vI x2), (3, vI x3), (4, vI x4), (5, vI x5)] [] P I (ri P R) := by
  refine x_iload (pc := 6) 5 dX0_evaluate_6 rfl ?_
  refine x_aload_n (pc := 8) 1 dX0_evaluate_8 rfl ?_
  refine x_getP (pc := 9) dX0_evaluate_9 FC4 12 (by decide) rfl fl_X0_13 (LShop_ob hh3) (LShop_p12 hh3) ?_
  refine x_alen (pc := 12) dX0_evaluate_12 (LShop_a12 hh3) (by decide) ?_
  obtain ⟨hr1, h⟩ := h
  obtain ⟨hr2, h⟩ := h
  obtain ⟨hA3, hB4⟩ := h
  refine x_icmp_ge (pc := 13) 119 dX0_evaluate_13 (by decide) hr1 hr2 (fun hc => ?_) (fun hc => ?_)
  · have h := hA3 hc
    refine x_aload_n (pc := 119) 0 dX0_evaluate_119 rfl ?_
    refine x_getP (pc := 120) dX0_evaluate_120 FC0 0 (by decide) rfl fl_X0_9 (LCost_ob hco) (LCost_p0 hco) ?_
    refine x_iconst (pc := 123) dX0_evaluate_123 ?_
    refine x_iald (pc := 124) dX0_evaluate_124 (LCost_a0 hco) (by decide) (by decide) (by decide) ?_
    exact x_iret (pc := 125) dX0_evaluate_125 rfl (Nat.le_refl _) (Nat.le_refl _) ⟨_, rfl, rfl, h⟩
  · have h := hB4 hc
    refine x_aload_n (pc := 16) 1 dX0_evaluate_16 rfl ?_
    refine x_getP (pc := 17) dX0_evaluate_17 FC4 12 (by decide) rfl fl_X0_13 (LShop_ob hh3) (LShop_p12 hh3) ?_
    refine x_iload (pc := 20) 5 dX0_evaluate_20 rfl ?_
    obtain ⟨hv5, h⟩ := h
    obtain ⟨hv6, h⟩ := h
    refine x_iald (pc := 22) dX0_evaluate_22 (LShop_a12 hh3) hv5 hv6 (LShop_n hh3) ?_
    refine x_nmT (fun u7 eu7 => ?_)
    have h := h u7 eu7
    refine x_istore (pc := 23) (al' := [(0, vR c), (1, vR σ3), (2, vI x2), (3, vI x3), (4, vI x4), (5, vI x5), (6, vI u7)]) dX0_evaluate_23 rfl rfl (Nat.le_of_ble_eq_true rfl) ?_
    refine x_iload (pc := 25) 6 dX0_evaluate_25 rfl ?_
    refine x_bipush (pc := 27) dX0_evaluate_27 rfl ?_
    obtain ⟨hr8, h⟩ := h
    obtain ⟨hA9, hB10⟩ := h
    refine x_icmp_gt (pc := 29) 81 dX0_evaluate_29 (by decide) hr8 ⟨by decide, by decide⟩ (fun hc => ?_) (fun hc => ?_)
    · have h := hA9 hc
      refine x_iload (pc := 81) 6 dX0_evaluate_81 rfl ?_
      refine x_bipush (pc := 83) dX0_evaluate_83 rfl ?_
      obtain ⟨hA11, hB12⟩ := h
      refine x_icmp_le (pc := 85) 113 dX0_evaluate_85 (by decide) hr8 ⟨by decide, by decide⟩ (fun hc => ?_) (fun hc => ?_)
      · have h := hA11 hc
        refine x_iinc (pc := 113) (al' := [(0, vR c), (1, vR σ3), (2, vI x2), (3, vI x3), (4, vI x4), (5, vI (x5 + 1)), (6, vI u7)]) 5 dX0_evaluate_113 rfl rfl rfl (Nat.le_of_ble_eq_true rfl) ?_
        refine x_goto (pc := 116) 6 dX0_evaluate_116 (by decide) ?_
        exact x_sub [0, 1, 2, 3, 4, 5] rfl h
      · have h := hB12 hc
        refine x_iload (pc := 88) 4 dX0_evaluate_88 rfl ?_
        refine x_bipush (pc := 90) dX0_evaluate_90 rfl ?_
        obtain ⟨hr13, h⟩ := h
        obtain ⟨hA14, hB15⟩ := h
        refine x_icmp_ge (pc := 92) 113 dX0_evaluate_92 (by decide) hr13 ⟨by decide, by decide⟩ (fun hc => ?_) (fun hc => ?_)
        · have h := hA14 hc
          refine x_iinc (pc := 113) (al' := [(0, vR c), (1, vR σ3), (2, vI x2), (3, vI x3), (4, vI x4), (5, vI (x5 + 1)), (6, vI u7)]) 5 dX0_evaluate_113 rfl rfl rfl (Nat.le_of_ble_eq_true rfl) ?_
          refine x_goto (pc := 116) 6 dX0_evaluate_116 (by decide) ?_
          exact x_sub [0, 1, 2, 3, 4, 5] rfl h
        · have h := hB15 hc
          refine x_aload_n (pc := 95) 0 dX0_evaluate_95 rfl ?_
          refine x_getP (pc := 96) dX0_evaluate_96 FC0 0 (by decide) rfl fl_X0_9 (LCost_ob hco) (LCost_p0 hco) ?_
          refine x_iload (pc := 99) 4 dX0_evaluate_99 rfl ?_
          refine x_iload (pc := 101) 6 dX0_evaluate_101 rfl ?_
          refine x_aload_n (pc := 103) 1 dX0_evaluate_103 rfl ?_
          refine x_iload_n (pc := 104) 2 dX0_evaluate_104 rfl ?_
          refine x_iload_n (pc := 105) 3 dX0_evaluate_105 rfl ?_
          refine x_Si (μ := m_X0_evaluate) (pc := 106) dX0_evaluate_106 h k_X0_valueOf ml_X0_26 ⟨Nat.le_of_ble_eq_true rfl, Nat.le_of_ble_eq_true rfl⟩ ⟨rfl, rfl⟩ ⟨Nat.zero_le _, Nat.zero_le _⟩ rfl (Nat.le_of_ble_eq_true rfl) _ rfl (fun z16 I17 h => ?_)
          obtain ⟨hv18, h⟩ := h
          obtain ⟨hv19, h⟩ := h
          refine x_iast (pc := 109) dX0_evaluate_109 (LCost_a0 hco) hv18 hv19 (by decide) ?_
          refine x_nmI (fun I20 eI20 => ?_)
          have h := h I20 eI20
          refine x_iinc (pc := 110) (al' := [(0, vR c), (1, vR σ3), (2, vI x2), (3, vI x3), (4, vI (x4 + 1)), (5, vI x5), (6, vI u7)]) 4 dX0_evaluate_110 rfl rfl rfl (Nat.le_of_ble_eq_true rfl) ?_
          refine x_iinc (pc := 113) (al' := [(0, vR c), (1, vR σ3), (2, vI x2), (3, vI x3), (4, vI (x4 + 1)), (5, vI (x5 + 1)), (6, vI u7)]) 5 dX0_evaluate_113 rfl rfl rfl (Nat.le_of_ble_eq_true rfl) ?_
          refine x_goto (pc := 116) 6 dX0_evaluate_116 (by decide) ?_
          exact x_sub [0, 1, 2, 3, 4, 5] rfl h
    · have h := hB10 hc
      refine x_iload (pc := 32) 4 dX0_evaluate_32 rfl ?_
      refine x_iconst (pc := 34) dX0_evaluate_34 ?_
      obtain ⟨hr21, h⟩ := h
      obtain ⟨hA22, hB23⟩ := h
      refine x_icmp_lt (pc := 35) 81 dX0_evaluate_35 (by decide) hr21 ⟨by decide, by decide⟩ (fun hc => ?_) (fun hc => ?_)
      · have h := hA22 hc
        refine x_iload (pc := 81) 6 dX0_evaluate_81 rfl ?_
        refine x_bipush (pc := 83) dX0_evaluate_83 rfl ?_
        obtain ⟨hA24, hB25⟩ := h
        refine x_icmp_le (pc := 85) 113 dX0_evaluate_85 (by decide) hr8 ⟨by decide, by decide⟩ (fun hc => ?_) (fun hc => ?_)
        · have h := hA24 hc
          refine x_iinc (pc := 113) (al' := [(0, vR c), (1, vR σ3), (2, vI x2), (3, vI x3), (4, vI x4), (5, vI (x5 + 1)), (6, vI u7)]) 5 dX0_evaluate_113 rfl rfl rfl (Nat.le_of_ble_eq_true rfl) ?_
          refine x_goto (pc := 116) 6 dX0_evaluate_116 (by decide) ?_
          exact x_sub [0, 1, 2, 3, 4, 5] rfl h
        · have h := hB25 hc
          refine x_iload (pc := 88) 4 dX0_evaluate_88 rfl ?_
          refine x_bipush (pc := 90) dX0_evaluate_90 rfl ?_
          obtain ⟨hA26, hB27⟩ := h
          refine x_icmp_ge (pc := 92) 113 dX0_evaluate_92 (by decide) hr21 ⟨by decide, by decide⟩ (fun hc => ?_) (fun hc => ?_)
          · have h := hA26 hc
            refine x_iinc (pc := 113) (al' := [(0, vR c), (1, vR σ3), (2, vI x2), (3, vI x3), (4, vI x4), (5, vI (x5 + 1)), (6, vI u7)]) 5 dX0_evaluate_113 rfl rfl rfl (Nat.le_of_ble_eq_true rfl) ?_
            refine x_goto (pc := 116) 6 dX0_evaluate_116 (by decide) ?_
            exact x_sub [0, 1, 2, 3, 4, 5] rfl h
          · have h := hB27 hc
            refine x_aload_n (pc := 95) 0 dX0_evaluate_95 rfl ?_
            refine x_getP (pc := 96) dX0_evaluate_96 FC0 0 (by decide) rfl fl_X0_9 (LCost_ob hco) (LCost_p0 hco) ?_
            refine x_iload (pc := 99) 4 dX0_evaluate_99 rfl ?_
            refine x_iload (pc := 101) 6 dX0_evaluate_101 rfl ?_
            refine x_aload_n (pc := 103) 1 dX0_evaluate_103 rfl ?_
            refine x_iload_n (pc := 104) 2 dX0_evaluate_104 rfl ?_
            refine x_iload_n (pc := 105) 3 dX0_evaluate_105 rfl ?_
            refine x_Si (μ := m_X0_evaluate) (pc := 106) dX0_evaluate_106 h k_X0_valueOf ml_X0_26 ⟨Nat.le_of_ble_eq_true rfl, Nat.le_of_ble_eq_true rfl⟩ ⟨rfl, rfl⟩ ⟨Nat.zero_le _, Nat.zero_le _⟩ rfl (Nat.le_of_ble_eq_true rfl) _ rfl (fun z28 I29 h => ?_)
            obtain ⟨hv30, h⟩ := h
            obtain ⟨hv31, h⟩ := h
            refine x_iast (pc := 109) dX0_evaluate_109 (LCost_a0 hco) hv30 hv31 (by decide) ?_
            refine x_nmI (fun I32 eI32 => ?_)
            have h := h I32 eI32
            refine x_iinc (pc := 110) (al' := [(0, vR c), (1, vR σ3), (2, vI x2), (3, vI x3), (4, vI (x4 + 1)), (5, vI x5), (6, vI u7)]) 4 dX0_evaluate_110 rfl rfl rfl (Nat.le_of_ble_eq_true rfl) ?_
            refine x_iinc (pc := 113) (al' := [(0, vR c), (1, vR σ3), (2, vI x2), (3, vI x3), (4, vI (x4 + 1)), (5, vI (x5 + 1)), (6, vI u7)]) 5 dX0_evaluate_113 rfl rfl rfl (Nat.le_of_ble_eq_true rfl) ?_
            refine x_goto (pc := 116) 6 dX0_evaluate_116 (by decide) ?_
            exact x_sub [0, 1, 2, 3, 4, 5] rfl h
      · have h := hB23 hc
        refine x_aload_n (pc := 38) 0 dX0_evaluate_38 rfl ?_
        refine x_getP (pc := 39) dX0_evaluate_39 FC0 0 (by decide) rfl fl_X0_9 (LCost_ob hco) (LCost_p0 hco) ?_
        refine x_iload (pc := 42) 4 dX0_evaluate_42 rfl ?_
        refine x_iconst (pc := 44) dX0_evaluate_44 ?_
        refine x_isub (pc := 45) dX0_evaluate_45 ?_
        refine x_iload (pc := 46) 6 dX0_evaluate_46 rfl ?_
        refine x_aload_n (pc := 48) 0 dX0_evaluate_48 rfl ?_
        refine x_getP (pc := 49) dX0_evaluate_49 FC0 0 (by decide) rfl fl_X0_9 (LCost_ob hco) (LCost_p0 hco) ?_
        refine x_iload (pc := 52) 4 dX0_evaluate_52 rfl ?_
        refine x_iconst (pc := 54) dX0_evaluate_54 ?_
        refine x_isub (pc := 55) dX0_evaluate_55 ?_
        obtain ⟨hv33, h⟩ := h
        obtain ⟨hv34, h⟩ := h
        refine x_iald (pc := 56) dX0_evaluate_56 (LCost_a0 hco) hv33 hv34 (by decide) ?_
        obtain ⟨hr35, h⟩ := h
        refine x_i2l (pc := 57) dX0_evaluate_57 hr35 ?_
        refine x_aload_n (pc := 58) 0 dX0_evaluate_58 rfl ?_
        refine x_getP (pc := 59) dX0_evaluate_59 FC0 0 (by decide) rfl fl_X0_9 (LCost_ob hco) (LCost_p0 hco) ?_
        refine x_iload (pc := 62) 4 dX0_evaluate_62 rfl ?_
        refine x_iconst (pc := 64) dX0_evaluate_64 ?_
        refine x_isub (pc := 65) dX0_evaluate_65 ?_
        obtain ⟨hv36, h⟩ := h
        obtain ⟨hv37, h⟩ := h
        refine x_iald (pc := 66) dX0_evaluate_66 (LCost_a0 hco) hv36 hv37 (by decide) ?_
        obtain ⟨hr38, h⟩ := h
        refine x_i2l (pc := 67) dX0_evaluate_67 hr38 ?_
        refine x_Sl (μ := m_X0_evaluate) (pc := 68) dX0_evaluate_68 h k_X0_apply ml_X0_18 ⟨Nat.le_of_ble_eq_true rfl, Nat.le_of_ble_eq_true rfl⟩ ⟨rfl, rfl⟩ ⟨Nat.zero_le _, Nat.zero_le _⟩ rfl (Nat.le_of_ble_eq_true rfl) _ rfl (fun z39 I40 h => ?_)
        refine x_Si (μ := m_X0_evaluate) (pc := 71) dX0_evaluate_71 h k_X0_limit ml_X0_22 ⟨Nat.le_of_ble_eq_true rfl, Nat.le_of_ble_eq_true rfl⟩ ⟨rfl, rfl⟩ ⟨Nat.zero_le _, Nat.zero_le _⟩ rfl (Nat.le_of_ble_eq_true rfl) _ rfl (fun z41 I42 h => ?_)
        refine x_iast (pc := 74) dX0_evaluate_74 (LCost_a0 hco) hv33 hv34 (by decide) ?_
        refine x_nmI (fun I43 eI43 => ?_)
        have h := h I43 eI43
        refine x_iinc (pc := 75) (al' := [(0, vR c), (1, vR σ3), (2, vI x2), (3, vI x3), (4, vI (x4 + (-1))), (5, vI x5), (6, vI u7)]) 4 dX0_evaluate_75 rfl rfl rfl (Nat.le_of_ble_eq_true rfl) ?_
        refine x_goto (pc := 78) 113 dX0_evaluate_78 (by decide) ?_
        refine x_iinc (pc := 113) (al' := [(0, vR c), (1, vR σ3), (2, vI x2), (3, vI x3), (4, vI (x4 + (-1))), (5, vI (x5 + 1)), (6, vI u7)]) 5 dX0_evaluate_113 rfl rfl rfl (Nat.le_of_ble_eq_true rfl) ?_
        refine x_goto (pc := 116) 6 dX0_evaluate_116 (by decide) ?_
        exact x_sub [0, 1, 2, 3, 4, 5] rfl h
set_option maxRecDepth 100000 in
set_option maxHeartbeats 4000000 in
theorem t_X0_valueOf_0 {Γ : GG} {P : MP} {I : MM} {R : Int → MM → Prop} {x0 x2 x3 : Int} {σ3 κ3 n3 : Nat} (hh3 : LShop Γ P σ3 κ3 n3)
    (h : (inR x0) ∧ ((x0 = -4 → (0 ≤ x2) ∧ (x2 < 6) ∧ R (I (σ3 + 4) (x2).toNat) I) ∧ (x0 = -3 → (0 ≤ x2) ∧ (x2 < 6) ∧ R (I (σ3 + 6) (x2).toNat) I) ∧ (x0 = -2 → (0 ≤ x2) ∧ (x2 < 6) ∧ R (I (σ3 + 5) (x2).toNat) I) ∧ (x0 = -1 → R x3 I) ∧ ((x0 < -4 ∨ -1 < x0) → R x0 I))) :
    XM Γ m_X0_valueOf 0 0 0 [(0, vI x0), (1, vR σ3), (2, vI x2), (3, vI x3)] [] P I (ri P R) := by
  refine x_iload_n (pc := 0) 0 dX0_valueOf_0 rfl ?_
  obtain ⟨hr1, h⟩ := h
  obtain ⟨hA4, hA7, hA10, hA11, hA12⟩ := h
  by_cases ho : x0 < -4 ∨ -1 < x0
  · have h := hA12 ho
    refine x_tableOut (pc := 1) 55 dX0_valueOf_1 hr1 ho (by decide) ?_
    refine x_iload_n (pc := 55) 0 dX0_valueOf_55 rfl ?_
    exact x_iret (pc := 56) dX0_valueOf_56 rfl (Nat.le_refl _) (Nat.le_refl _) ⟨_, rfl, rfl, h⟩
  · rcases (by omega : x0 = -4 ∨ x0 = -3 ∨ x0 = -2 ∨ x0 = -1) with hq | hq | hq | hq
    · have h := hA4 hq
      refine x_tableIn (pc := 1) 48 dX0_valueOf_1 hr1 (by omega) (by omega) (by rw [hq]; rfl) (by decide) ?_
      refine x_aload_n (pc := 48) 1 dX0_valueOf_48 rfl ?_
      refine x_getP (pc := 49) dX0_valueOf_49 FC4 6 (by decide) rfl fl_X0_36 (LShop_ob hh3) (LShop_p6 hh3) ?_
      refine x_iload_n (pc := 52) 2 dX0_valueOf_52 rfl ?_
      obtain ⟨hv2, h⟩ := h
      obtain ⟨hv3, h⟩ := h
      refine x_iald (pc := 53) dX0_valueOf_53 (LShop_a6 hh3) hv2 hv3 (by decide) ?_
      exact x_iret (pc := 54) dX0_valueOf_54 rfl (Nat.le_refl _) (Nat.le_refl _) ⟨_, rfl, rfl, h⟩
    · have h := hA7 hq
      refine x_tableIn (pc := 1) 41 dX0_valueOf_1 hr1 (by omega) (by omega) (by rw [hq]; rfl) (by decide) ?_
      refine x_aload_n (pc := 41) 1 dX0_valueOf_41 rfl ?_
      refine x_getP (pc := 42) dX0_valueOf_42 FC4 8 (by decide) rfl fl_X0_33 (LShop_ob hh3) (LShop_p8 hh3) ?_
      refine x_iload_n (pc := 45) 2 dX0_valueOf_45 rfl ?_
      obtain ⟨hv5, h⟩ := h
      obtain ⟨hv6, h⟩ := h
      refine x_iald (pc := 46) dX0_valueOf_46 (LShop_a8 hh3) hv5 hv6 (by decide) ?_
      exact x_iret (pc := 47) dX0_valueOf_47 rfl (Nat.le_refl _) (Nat.le_refl _) ⟨_, rfl, rfl, h⟩
    · have h := hA10 hq
      refine x_tableIn (pc := 1) 34 dX0_valueOf_1 hr1 (by omega) (by omega) (by rw [hq]; rfl) (by decide) ?_
      refine x_aload_n (pc := 34) 1 dX0_valueOf_34 rfl ?_
      refine x_getP (pc := 35) dX0_valueOf_35 FC4 7 (by decide) rfl fl_X0_30 (LShop_ob hh3) (LShop_p7 hh3) ?_
      refine x_iload_n (pc := 38) 2 dX0_valueOf_38 rfl ?_
      obtain ⟨hv8, h⟩ := h
      obtain ⟨hv9, h⟩ := h
      refine x_iald (pc := 39) dX0_valueOf_39 (LShop_a7 hh3) hv8 hv9 (by decide) ?_
      exact x_iret (pc := 40) dX0_valueOf_40 rfl (Nat.le_refl _) (Nat.le_refl _) ⟨_, rfl, rfl, h⟩
    · have h := hA11 hq
      refine x_tableIn (pc := 1) 32 dX0_valueOf_1 hr1 (by omega) (by omega) (by rw [hq]; rfl) (by decide) ?_
      refine x_iload_n (pc := 32) 3 dX0_valueOf_32 rfl ?_
      exact x_iret (pc := 33) dX0_valueOf_33 rfl (Nat.le_refl _) (Nat.le_refl _) ⟨_, rfl, rfl, h⟩
set_option maxRecDepth 100000 in
set_option maxHeartbeats 4000000 in
theorem t_X0_apply_0 {Γ : GG} {P : MP} {I : MM} {R : Int → MM → Prop} {x0 x1 x3 : Int} 
    (h : (inR x0) ∧ ((x0 = -7 → R (x1 * x3) I) ∧ (x0 = -6 → R (x1 - x3) I) ∧ (x0 = -5 → R (x1 + x3) I) ∧ ((x0 < -7 ∨ -5 < x0) → (inL x3) ∧ (((lc x3 0) ≠ 0 → (inR x1) ∧ (x3 ≠ 0) ∧ R (Int.tdiv x1 x3) I) ∧ ((lc x3 0) = 0 → R 0 I))))) :
    XM Γ m_X0_apply 0 0 0 [(0, vI x0), (1, vL x1), (3, vL x3)] [] P I (rl P R) := by
  refine x_iload_n (pc := 0) 0 dX0_apply_0 rfl ?_
  obtain ⟨hr1, h⟩ := h
  obtain ⟨hA2, hA3, hA4, hA10⟩ := h
  by_cases ho : x0 < -7 ∨ -5 < x0
  · have h := hA10 ho
    refine x_tableOut (pc := 1) 40 dX0_apply_1 hr1 ho (by decide) ?_
    refine x_lload_n (pc := 40) 2 dX0_apply_40 rfl ?_
    refine x_lconst (pc := 41) 0 dX0_apply_41 rfl ?_
    obtain ⟨hr5, h⟩ := h
    refine x_lcmp (pc := 42) dX0_apply_42 hr5 ⟨by decide, by decide⟩ ?_
    obtain ⟨hA6, hB7⟩ := h
    refine x_if_ne (pc := 43) 50 dX0_apply_43 (by decide) inR_lc (fun hc => ?_) (fun hc => ?_)
    · have h := hA6 hc
      refine x_lload_n (pc := 50) 1 dX0_apply_50 rfl ?_
      refine x_lload_n (pc := 51) 2 dX0_apply_51 rfl ?_
      obtain ⟨hr8, h⟩ := h
      obtain ⟨hv9, h⟩ := h
      refine x_ldiv (pc := 52) dX0_apply_52 hr8 hr5 hv9 ?_
      exact x_lret (pc := 53) dX0_apply_53 rfl (Nat.le_refl _) (Nat.le_refl _) ⟨_, rfl, rfl, h⟩
    · have h := hB7 hc
      refine x_lconst (pc := 46) 0 dX0_apply_46 rfl ?_
      refine x_goto (pc := 47) 53 dX0_apply_47 (by decide) ?_
      exact x_lret (pc := 53) dX0_apply_53 rfl (Nat.le_refl _) (Nat.le_refl _) ⟨_, rfl, rfl, h⟩
  · rcases (by omega : x0 = -7 ∨ x0 = -6 ∨ x0 = -5) with hq | hq | hq
    · have h := hA2 hq
      refine x_tableIn (pc := 1) 36 dX0_apply_1 hr1 (by omega) (by omega) (by rw [hq]; rfl) (by decide) ?_
      refine x_lload_n (pc := 36) 1 dX0_apply_36 rfl ?_
      refine x_lload_n (pc := 37) 2 dX0_apply_37 rfl ?_
      refine x_lmul (pc := 38) dX0_apply_38 ?_
      exact x_lret (pc := 39) dX0_apply_39 rfl (Nat.le_refl _) (Nat.le_refl _) ⟨_, rfl, rfl, h⟩
    · have h := hA3 hq
      refine x_tableIn (pc := 1) 32 dX0_apply_1 hr1 (by omega) (by omega) (by rw [hq]; rfl) (by decide) ?_
      refine x_lload_n (pc := 32) 1 dX0_apply_32 rfl ?_
      refine x_lload_n (pc := 33) 2 dX0_apply_33 rfl ?_
      refine x_lsub (pc := 34) dX0_apply_34 ?_
      exact x_lret (pc := 35) dX0_apply_35 rfl (Nat.le_refl _) (Nat.le_refl _) ⟨_, rfl, rfl, h⟩
    · have h := hA4 hq
      refine x_tableIn (pc := 1) 28 dX0_apply_1 hr1 (by omega) (by omega) (by rw [hq]; rfl) (by decide) ?_
      refine x_lload_n (pc := 28) 1 dX0_apply_28 rfl ?_
      refine x_lload_n (pc := 29) 2 dX0_apply_29 rfl ?_
      refine x_ladd (pc := 30) dX0_apply_30 ?_
      exact x_lret (pc := 31) dX0_apply_31 rfl (Nat.le_refl _) (Nat.le_refl _) ⟨_, rfl, rfl, h⟩
set_option maxRecDepth 100000 in
set_option maxHeartbeats 4000000 in
theorem t_X0_limit_0 {Γ : GG} {P : MP} {I : MM} {R : Int → MM → Prop} {x0 : Int} 
    (h : (inL x0) ∧ (((lc x0 1000000) ≤ 0 → ((0 ≤ (lc x0 (-1000000)) → R x0 I) ∧ (¬ 0 ≤ (lc x0 (-1000000)) → R (-1000000) I))) ∧ (¬ (lc x0 1000000) ≤ 0 → R 1000000 I))) :
    XM Γ m_X0_limit 0 0 0 [(0, vL x0)] [] P I (ri P R) := by
  refine x_lload_n (pc := 0) 0 dX0_limit_0 rfl ?_
  refine x_ldc2 (pc := 1) (1000000) dX0_limit_1 kc_X0_39 ?_
  obtain ⟨hr1, h⟩ := h
  refine x_lcmp (pc := 4) dX0_limit_4 hr1 ⟨by decide, by decide⟩ ?_
  obtain ⟨hA2, hB3⟩ := h
  refine x_if_le (pc := 5) 11 dX0_limit_5 (by decide) inR_lc (fun hc => ?_) (fun hc => ?_)
  · have h := hA2 hc
    refine x_lload_n (pc := 11) 0 dX0_limit_11 rfl ?_
    refine x_ldc2 (pc := 12) (-1000000) dX0_limit_12 kc_X0_42 ?_
    refine x_lcmp (pc := 15) dX0_limit_15 hr1 ⟨by decide, by decide⟩ ?_
    obtain ⟨hA4, hB5⟩ := h
    refine x_if_ge (pc := 16) 24 dX0_limit_16 (by decide) inR_lc (fun hc => ?_) (fun hc => ?_)
    · have h := hA4 hc
      refine x_lload_n (pc := 24) 0 dX0_limit_24 rfl ?_
      refine x_l2i (pc := 25) dX0_limit_25 ?_
      exact x_iret (pc := 26) dX0_limit_26 rfl (Nat.le_refl _) (Nat.le_refl _) ⟨_, rfl, rfl, h⟩
    · have h := hB5 hc
      refine x_ldc (pc := 19) (-1000000) dX0_limit_19 kc_X0_44 ?_
      refine x_goto (pc := 21) 26 dX0_limit_21 (by decide) ?_
      exact x_iret (pc := 26) dX0_limit_26 rfl (Nat.le_refl _) (Nat.le_refl _) ⟨_, rfl, rfl, h⟩
  · have h := hB3 hc
    refine x_ldc (pc := 8) (1000000) dX0_limit_8 kc_X0_41 ?_
    exact x_iret (pc := 10) dX0_limit_10 rfl (Nat.le_refl _) (Nat.le_refl _) ⟨_, rfl, rfl, h⟩
set_option maxRecDepth 100000 in
set_option maxHeartbeats 4000000 in
theorem t_X1_copyFrom_0 {Γ : GG} {P : MP} {I : MM} {R : MP → MM → Prop} {q σ κ n : Nat} (hp : LPlan Γ P q σ κ n) {q3 σ3 κ3 n3 : Nat} (hp3 : LPlan Γ P q3 σ3 κ3 n3)
    (h : (∀ P1 : MP, P1 = up2 P q 0 (some σ3) → (P1 q3 1 = some (q3 + 1)) ∧ (P1 q 1 = some (q + 1)) ∧ (∀ I4 : MM, I4 = cp2 I (q3 + 1) (q + 1) 36 → (P1 q3 2 = some (q3 + 2)) ∧ (P1 q 2 = some (q + 2)) ∧ (∀ I7 : MM, I7 = cp2 I4 (q3 + 2) (q + 2) 36 → R P1 I7)))) :
    XM Γ m_X1_copyFrom 0 0 0 [(0, vR q), (1, vR q3)] [] P I (rp R) := by
  refine x_aload_n (pc := 0) 0 dX1_copyFrom_0 rfl ?_
  refine x_aload_n (pc := 1) 1 dX1_copyFrom_1 rfl ?_
  refine x_getP (pc := 2) dX1_copyFrom_2 FC1 0 (by decide) rfl fl_X1_18 (LPlan_ob hp3) (LPlan_p0 hp3) ?_
  refine x_putP (pc := 5) dX1_copyFrom_5 FC1 0 (by decide) rfl rfl fl_X1_18 (LPlan_ob hp) ?_
  refine x_nmP (fun P1 eP1 => ?_)
  have h := h P1 eP1
  refine x_aload_n (pc := 8) 1 dX1_copyFrom_8 rfl ?_
  obtain ⟨hv2, h⟩ := h
  refine x_getP (pc := 9) dX1_copyFrom_9 FC1 1 (by decide) rfl fl_X1_9 (LPlan_ob hp3) hv2 ?_
  refine x_iconst (pc := 12) dX1_copyFrom_12 ?_
  refine x_aload_n (pc := 13) 0 dX1_copyFrom_13 rfl ?_
  obtain ⟨hv3, h⟩ := h
  refine x_getP (pc := 14) dX1_copyFrom_14 FC1 1 (by decide) rfl fl_X1_9 (LPlan_ob hp) hv3 ?_
  refine x_iconst (pc := 17) dX1_copyFrom_17 ?_
  refine x_bipush (pc := 18) dX1_copyFrom_18 rfl ?_
  refine x_acopy (pc := 20) (n := 36) dX1_copyFrom_20 ml_X1_22 cpw.1 cpw.2.1 cpw.2.2 (LPlan_a1 hp3) (LPlan_a1 hp) (by decide) (by decide) (by decide) ⟨Nat.le_of_ble_eq_true rfl, Nat.le_of_ble_eq_true rfl⟩ ?_
  refine x_nmI (fun I4 eI4 => ?_)
  have h := h I4 eI4
  refine x_aload_n (pc := 23) 1 dX1_copyFrom_23 rfl ?_
  obtain ⟨hv5, h⟩ := h
  refine x_getP (pc := 24) dX1_copyFrom_24 FC1 2 (by decide) rfl fl_X1_15 (LPlan_ob hp3) hv5 ?_
  refine x_iconst (pc := 27) dX1_copyFrom_27 ?_
  refine x_aload_n (pc := 28) 0 dX1_copyFrom_28 rfl ?_
  obtain ⟨hv6, h⟩ := h
  refine x_getP (pc := 29) dX1_copyFrom_29 FC1 2 (by decide) rfl fl_X1_15 (LPlan_ob hp) hv6 ?_
  refine x_iconst (pc := 32) dX1_copyFrom_32 ?_
  refine x_bipush (pc := 33) dX1_copyFrom_33 rfl ?_
  refine x_acopy (pc := 35) (n := 36) dX1_copyFrom_35 ml_X1_22 cpw.1 cpw.2.1 cpw.2.2 (LPlan_a2 hp3) (LPlan_a2 hp) (by decide) (by decide) (by decide) ⟨Nat.le_of_ble_eq_true rfl, Nat.le_of_ble_eq_true rfl⟩ ?_
  refine x_nmI (fun I7 eI7 => ?_)
  have h := h I7 eI7
  exact x_vret (pc := 38) dX1_copyFrom_38 rfl (Nat.le_refl _) (Nat.le_refl _) ⟨rfl, h⟩
set_option maxRecDepth 100000 in
set_option maxHeartbeats 4000000 in
theorem t_X1_begin_0 {Γ : GG} {P : MP} {I : MM} {R : MP → MM → Prop} {q σ κ n : Nat} (hp : LPlan Γ P q σ κ n) {σ3 κ3 n3 : Nat} (hh3 : LShop Γ P σ3 κ3 n3)
    (h : (∀ P1 : MP, P1 = up2 P q 0 (some σ3) → (P1 σ3 11 = some (σ3 + 9)) ∧ (P1 q 1 = some (q + 1)) ∧ (∀ I4 : MM, I4 = cp2 I (σ3 + 9) (q + 1) 36 → (Cl Γ m_X1_setFirstOrders [vR q] P1 I4 (rv P1 (fun (I5 : MM) => R P1 I5)))))) :
    XM Γ m_X1_begin 0 0 0 [(0, vR q), (1, vR σ3)] [] P I (rp R) := by
  refine x_aload_n (pc := 0) 0 dX1_begin_0 rfl ?_
  refine x_aload_n (pc := 1) 1 dX1_begin_1 rfl ?_
  refine x_putP (pc := 2) dX1_begin_2 FC1 0 (by decide) rfl rfl fl_X1_18 (LPlan_ob hp) ?_
  refine x_nmP (fun P1 eP1 => ?_)
  have h := h P1 eP1
  refine x_aload_n (pc := 5) 1 dX1_begin_5 rfl ?_
  obtain ⟨hv2, h⟩ := h
  refine x_getP (pc := 6) dX1_begin_6 FC4 11 (by decide) rfl fl_X1_28 (LShop_ob hh3) hv2 ?_
  refine x_iconst (pc := 9) dX1_begin_9 ?_
  refine x_aload_n (pc := 10) 0 dX1_begin_10 rfl ?_
  obtain ⟨hv3, h⟩ := h
  refine x_getP (pc := 11) dX1_begin_11 FC1 1 (by decide) rfl fl_X1_9 (LPlan_ob hp) hv3 ?_
  refine x_iconst (pc := 14) dX1_begin_14 ?_
  refine x_bipush (pc := 15) dX1_begin_15 rfl ?_
  refine x_acopy (pc := 17) (n := 36) dX1_begin_17 ml_X1_22 cpw.1 cpw.2.1 cpw.2.2 (LShop_a11 hh3) (LPlan_a1 hp) (by decide) (by decide) (by decide) ⟨Nat.le_of_ble_eq_true rfl, Nat.le_of_ble_eq_true rfl⟩ ?_
  refine x_nmI (fun I4 eI4 => ?_)
  have h := h I4 eI4
  refine x_aload_n (pc := 20) 0 dX1_begin_20 rfl ?_
  refine x_Vv (μ := m_X1_begin) (pc := 21) dX1_begin_21 h k_X1_setFirstOrders ml_X1_33 ⟨Nat.le_of_ble_eq_true rfl, Nat.le_of_ble_eq_true rfl⟩ ⟨rfl, rfl⟩ ⟨Nat.zero_le _, Nat.zero_le _⟩ rfl (LPlan_ob hp) rfl (Nat.le_of_ble_eq_true rfl) _ rfl (fun I5 h => ?_)
  exact x_vret (pc := 24) dX1_begin_24 rfl (Nat.le_refl _) (Nat.le_refl _) ⟨rfl, h⟩
set_option maxRecDepth 100000 in
set_option maxHeartbeats 4000000 in
theorem t_X1_setFirstOrders_0 {Γ : GG} {P : MP} {I : MM} {R : MM → Prop} {q σ κ n : Nat} (hp : LPlan Γ P q σ κ n)
    (h : XM Γ m_X1_setFirstOrders 0 0 2 [(0, vR q), (1, vI 0)] [] P I (rv P R)) :
    XM Γ m_X1_setFirstOrders 0 0 0 [(0, vR q)] [] P I (rv P R) := by
  refine x_iconst (pc := 0) dX1_setFirstOrders_0 ?_
  refine x_istore_n (pc := 1) (al' := [(0, vR q), (1, vI 0)]) dX1_setFirstOrders_1 rfl rfl (Nat.le_of_ble_eq_true rfl) ?_
  exact x_sub [0, 1] rfl h
set_option maxRecDepth 100000 in
set_option maxHeartbeats 4000000 in
theorem t_X1_setFirstOrders_2 {Γ : GG} {P : MP} {I : MM} {R : MM → Prop} {x1 : Int} {q σ κ n : Nat} (hp : LPlan Γ P q σ κ n)
    (h : (inR x1) ∧ (inR (I σ 0)) ∧ (((I σ 0) ≤ x1 → R I) ∧ (¬ (I σ 0) ≤ x1 → (Cl Γ m_X1_setFirstOrder [vR q, vI x1] P I (rv P (fun (I5 : MM) => XM Γ m_X1_setFirstOrders 0 0 2 [(0, vR q), (1, vI (x1 + 1))] [] P I5 (rv P R))))))) :
    XM Γ m_X1_setFirstOrders 0 0 2 [(0, vR q), (1, vI x1)] [] P I (rv P R) := by
  refine x_iload_n (pc := 2) 1 dX1_setFirstOrders_2 rfl ?_
  refine x_aload_n (pc := 3) 0 dX1_setFirstOrders_3 rfl ?_
  refine x_getP (pc := 4) dX1_setFirstOrders_4 FC1 0 (by decide) rfl fl_X1_18 (LPlan_ob hp) (LPlan_p0 hp) ?_
  refine x_getI (pc := 7) dX1_setFirstOrders_7 FC4 0 (by decide) rfl fl_X1_36 (LShop_ob (LPlan_s hp)) ?_
  obtain ⟨hr1, h⟩ := h
  obtain ⟨hr2, h⟩ := h
  obtain ⟨hA3, hB4⟩ := h
  refine x_icmp_ge (pc := 10) 24 dX1_setFirstOrders_10 (by decide) hr1 hr2 (fun hc => ?_) (fun hc => ?_)
  · have h := hA3 hc
    exact x_vret (pc := 24) dX1_setFirstOrders_24 rfl (Nat.le_refl _) (Nat.le_refl _) ⟨rfl, rfl, h⟩
  · have h := hB4 hc
    refine x_aload_n (pc := 13) 0 dX1_setFirstOrders_13 rfl ?_
    refine x_iload_n (pc := 14) 1 dX1_setFirstOrders_14 rfl ?_
    refine x_Vv (μ := m_X1_setFirstOrders) (pc := 15) dX1_setFirstOrders_15 h k_X1_setFirstOrder ml_X1_40 ⟨Nat.le_of_ble_eq_true rfl, Nat.le_of_ble_eq_true rfl⟩ ⟨rfl, rfl⟩ ⟨Nat.zero_le _, Nat.zero_le _⟩ rfl (LPlan_ob hp) rfl (Nat.le_of_ble_eq_true rfl) _ rfl (fun I5 h => ?_)
    refine x_iinc (pc := 18) (al' := [(0, vR q), (1, vI (x1 + 1))]) 1 dX1_setFirstOrders_18 rfl rfl rfl (Nat.le_of_ble_eq_true rfl) ?_
    refine x_goto (pc := 21) 2 dX1_setFirstOrders_21 (by decide) ?_
    exact x_sub [0, 1] rfl h
set_option maxRecDepth 100000 in
set_option maxHeartbeats 4000000 in
theorem t_X1_setFirstOrder_0 {Γ : GG} {P : MP} {I : MM} {R : MM → Prop} {x1 : Int} {q σ κ n : Nat} (hp : LPlan Γ P q σ κ n)
    (h : XM Γ m_X1_setFirstOrder 0 0 4 [(0, vR q), (1, vI x1), (2, vI 0), (3, vI 0)] [] P I (rv P R)) :
    XM Γ m_X1_setFirstOrder 0 0 0 [(0, vR q), (1, vI x1)] [] P I (rv P R) := by
  refine x_iconst (pc := 0) dX1_setFirstOrder_0 ?_
  refine x_istore_n (pc := 1) (al' := [(0, vR q), (1, vI x1), (2, vI 0)]) dX1_setFirstOrder_1 rfl rfl (Nat.le_of_ble_eq_true rfl) ?_
  refine x_iconst (pc := 2) dX1_setFirstOrder_2 ?_
  refine x_istore_n (pc := 3) (al' := [(0, vR q), (1, vI x1), (2, vI 0), (3, vI 0)]) dX1_setFirstOrder_3 rfl rfl (Nat.le_of_ble_eq_true rfl) ?_
  exact x_sub [0, 1, 2, 3] rfl h
set_option maxRecDepth 100000 in
set_option maxHeartbeats 4000000 in
theorem t_X1_setFirstOrder_4 {Γ : GG} {P : MP} {I : MM} {R : MM → Prop} {x1 x2 x3 : Int} {q σ κ n : Nat} (hp : LPlan Γ P q σ κ n)
    (h : (inR x3) ∧ (inR (I σ 1)) ∧ (((I σ 1) ≤ x3 → R I) ∧ (¬ (I σ 1) ≤ x3 → XM Γ m_X1_setFirstOrder 0 0 18 [(0, vR q), (1, vI x1), (2, vI x2), (3, vI x3), (4, vI 0)] [] P I (rv P R)))) :
    XM Γ m_X1_setFirstOrder 0 0 4 [(0, vR q), (1, vI x1), (2, vI x2), (3, vI x3)] [] P I (rv P R) := by
  refine x_iload_n (pc := 4) 3 dX1_setFirstOrder_4 rfl ?_
  refine x_aload_n (pc := 5) 0 dX1_setFirstOrder_5 rfl ?_
  refine x_getP (pc := 6) dX1_setFirstOrder_6 FC1 0 (by decide) rfl fl_X1_18 (LPlan_ob hp) (LPlan_p0 hp) ?_
  refine x_getI (pc := 9) dX1_setFirstOrder_9 FC4 1 (by decide) rfl fl_X1_44 (LShop_ob (LPlan_s hp)) ?_
  obtain ⟨hr1, h⟩ := h
  obtain ⟨hr2, h⟩ := h
  obtain ⟨hA3, hB4⟩ := h
  refine x_icmp_ge (pc := 12) 88 dX1_setFirstOrder_12 (by decide) hr1 hr2 (fun hc => ?_) (fun hc => ?_)
  · have h := hA3 hc
    exact x_vret (pc := 88) dX1_setFirstOrder_88 rfl (Nat.le_refl _) (Nat.le_refl _) ⟨rfl, rfl, h⟩
  · have h := hB4 hc
    refine x_iconst (pc := 15) dX1_setFirstOrder_15 ?_
    refine x_istore (pc := 16) (al' := [(0, vR q), (1, vI x1), (2, vI x2), (3, vI x3), (4, vI 0)]) dX1_setFirstOrder_16 rfl rfl (Nat.le_of_ble_eq_true rfl) ?_
    exact x_sub [0, 1, 2, 3, 4] rfl h
set_option maxRecDepth 100000 in
set_option maxHeartbeats 4000000 in
theorem t_X1_setFirstOrder_18 {Γ : GG} {P : MP} {I : MM} {R : MM → Prop} {x1 x2 x3 x4 : Int} {q σ κ n : Nat} (hp : LPlan Γ P q σ κ n)
    (h : (0 ≤ x3) ∧ (x3 < 6) ∧ (inR x4) ∧ (inR (I (σ + 7) (x3).toNat)) ∧ (((I (σ + 7) (x3).toNat) ≤ x4 → XM Γ m_X1_setFirstOrder 0 0 4 [(0, vR q), (1, vI x1), (2, vI x2), (3, vI (x3 + 1))] [] P I (rv P R)) ∧ (¬ (I (σ + 7) (x3).toNat) ≤ x4 → (Cl Γ m_X5_idOf [vI x3, vI x4] P I (ri P (fun (z7 : Int) (I8 : MM) => (0 ≤ z7) ∧ (z7 < 36) ∧ (inR (I8 (σ + 8) (z7).toNat)) ∧ (inR x1) ∧ (((I8 (σ + 8) (z7).toNat) ≠ x1 → XM Γ m_X1_setFirstOrder 0 0 18 [(0, vR q), (1, vI x1), (2, vI x2), (3, vI x3), (4, vI (x4 + 1))] [] P I8 (rv P R)) ∧ ((I8 (σ + 8) (z7).toNat) = x1 → (inR x2) ∧ ((6 ≤ x2 → XM Γ m_X1_setFirstOrder 0 0 18 [(0, vR q), (1, vI x1), (2, vI x2), (3, vI x3), (4, vI (x4 + 1))] [] P I8 (rv P R)) ∧ (¬ 6 ≤ x2 → (0 ≤ ((x1 * 6) + x2)) ∧ (((x1 * 6) + x2) < 36) ∧ (∀ I20 : MM, I20 = up2 I8 (q + 2) (((x1 * 6) + x2)).toNat z7 → XM Γ m_X1_setFirstOrder 0 0 18 [(0, vR q), (1, vI x1), (2, vI (x2 + 1)), (3, vI x3), (4, vI (x4 + 1))] [] P I20 (rv P R)))))))))))) :
    XM Γ m_X1_setFirstOrder 0 0 18 [(0, vR q), (1, vI x1), (2, vI x2), (3, vI x3), (4, vI x4)] [] P I (rv P R) := by
  refine x_iload (pc := 18) 4 dX1_setFirstOrder_18 rfl ?_
  refine x_aload_n (pc := 20) 0 dX1_setFirstOrder_20 rfl ?_
  refine x_getP (pc := 21) dX1_setFirstOrder_21 FC1 0 (by decide) rfl fl_X1_18 (LPlan_ob hp) (LPlan_p0 hp) ?_
  refine x_getP (pc := 24) dX1_setFirstOrder_24 FC4 9 (by decide) rfl fl_X1_47 (LShop_ob (LPlan_s hp)) (LShop_p9 (LPlan_s hp)) ?_
  refine x_iload_n (pc := 27) 3 dX1_setFirstOrder_27 rfl ?_
  obtain ⟨hv1, h⟩ := h
  obtain ⟨hv2, h⟩ := h
  refine x_iald (pc := 28) dX1_setFirstOrder_28 (LShop_a9 (LPlan_s hp)) hv1 hv2 (by decide) ?_
  obtain ⟨hr3, h⟩ := h
  obtain ⟨hr4, h⟩ := h
  obtain ⟨hA5, hB6⟩ := h
  refine x_icmp_ge (pc := 29) 82 dX1_setFirstOrder_29 (by decide) hr3 hr4 (fun hc => ?_) (fun hc => ?_)
  · have h := hA5 hc
    refine x_iinc (pc := 82) (al' := [(0, vR q), (1, vI x1), (2, vI x2), (3, vI (x3 + 1)), (4, vI x4)]) 3 dX1_setFirstOrder_82 rfl rfl rfl (Nat.le_of_ble_eq_true rfl) ?_
    refine x_goto (pc := 85) 4 dX1_setFirstOrder_85 (by decide) ?_
    exact x_sub [0, 1, 2, 3] rfl h
  · have h := hB6 hc
    refine x_iload_n (pc := 32) 3 dX1_setFirstOrder_32 rfl ?_
    refine x_iload (pc := 33) 4 dX1_setFirstOrder_33 rfl ?_
    refine x_Ni (μ := m_X1_setFirstOrder) (pc := 35) "BlockingShop" dX1_setFirstOrder_35 h k_X5_idOf (by decide +kernel) ⟨Nat.le_of_ble_eq_true rfl, Nat.le_of_ble_eq_true rfl⟩ ⟨rfl, rfl⟩ ⟨Nat.zero_le _, Nat.zero_le _⟩ rfl (Nat.le_of_ble_eq_true rfl) _ rfl (fun z7 I8 h => ?_)
    refine x_istore (pc := 38) (al' := [(0, vR q), (1, vI x1), (2, vI x2), (3, vI x3), (4, vI x4), (5, vI z7)]) dX1_setFirstOrder_38 rfl rfl (Nat.le_of_ble_eq_true rfl) ?_
    refine x_aload_n (pc := 40) 0 dX1_setFirstOrder_40 rfl ?_
    refine x_getP (pc := 41) dX1_setFirstOrder_41 FC1 0 (by decide) rfl fl_X1_18 (LPlan_ob hp) (LPlan_p0 hp) ?_
    refine x_getP (pc := 44) dX1_setFirstOrder_44 FC4 10 (by decide) rfl fl_X1_54 (LShop_ob (LPlan_s hp)) (LShop_p10 (LPlan_s hp)) ?_
    refine x_iload (pc := 47) 5 dX1_setFirstOrder_47 rfl ?_
    obtain ⟨hv9, h⟩ := h
    obtain ⟨hv10, h⟩ := h
    refine x_iald (pc := 49) dX1_setFirstOrder_49 (LShop_a10 (LPlan_s hp)) hv9 hv10 (by decide) ?_
    refine x_iload_n (pc := 50) 1 dX1_setFirstOrder_50 rfl ?_
    obtain ⟨hr11, h⟩ := h
    obtain ⟨hr12, h⟩ := h
    obtain ⟨hA13, hB14⟩ := h
    refine x_icmp_ne (pc := 51) 76 dX1_setFirstOrder_51 (by decide) hr11 hr12 (fun hc => ?_) (fun hc => ?_)
    · have h := hA13 hc
      refine x_iinc (pc := 76) (al' := [(0, vR q), (1, vI x1), (2, vI x2), (3, vI x3), (4, vI (x4 + 1)), (5, vI z7)]) 4 dX1_setFirstOrder_76 rfl rfl rfl (Nat.le_of_ble_eq_true rfl) ?_
      refine x_goto (pc := 79) 18 dX1_setFirstOrder_79 (by decide) ?_
      exact x_sub [0, 1, 2, 3, 4] rfl h
    · have h := hB14 hc
      refine x_iload_n (pc := 54) 2 dX1_setFirstOrder_54 rfl ?_
      refine x_bipush (pc := 55) dX1_setFirstOrder_55 rfl ?_
      obtain ⟨hr15, h⟩ := h
      obtain ⟨hA16, hB17⟩ := h
      refine x_icmp_ge (pc := 57) 76 dX1_setFirstOrder_57 (by decide) hr15 ⟨by decide, by decide⟩ (fun hc => ?_) (fun hc => ?_)
      · have h := hA16 hc
        refine x_iinc (pc := 76) (al' := [(0, vR q), (1, vI x1), (2, vI x2), (3, vI x3), (4, vI (x4 + 1)), (5, vI z7)]) 4 dX1_setFirstOrder_76 rfl rfl rfl (Nat.le_of_ble_eq_true rfl) ?_
        refine x_goto (pc := 79) 18 dX1_setFirstOrder_79 (by decide) ?_
        exact x_sub [0, 1, 2, 3, 4] rfl h
      · have h := hB17 hc
        refine x_aload_n (pc := 60) 0 dX1_setFirstOrder_60 rfl ?_
        refine x_getP (pc := 61) dX1_setFirstOrder_61 FC1 2 (by decide) rfl fl_X1_15 (LPlan_ob hp) (LPlan_p2 hp) ?_
        refine x_iload_n (pc := 64) 1 dX1_setFirstOrder_64 rfl ?_
        refine x_bipush (pc := 65) dX1_setFirstOrder_65 rfl ?_
        refine x_imul (pc := 67) dX1_setFirstOrder_67 ?_
        refine x_iload_n (pc := 68) 2 dX1_setFirstOrder_68 rfl ?_
        refine x_iadd (pc := 69) dX1_setFirstOrder_69 ?_
        refine x_iload (pc := 70) 5 dX1_setFirstOrder_70 rfl ?_
        obtain ⟨hv18, h⟩ := h
        obtain ⟨hv19, h⟩ := h
        refine x_iast (pc := 72) dX1_setFirstOrder_72 (LPlan_a2 hp) hv18 hv19 (by decide) ?_
        refine x_nmI (fun I20 eI20 => ?_)
        have h := h I20 eI20
        refine x_iinc (pc := 73) (al' := [(0, vR q), (1, vI x1), (2, vI (x2 + 1)), (3, vI x3), (4, vI x4), (5, vI z7)]) 2 dX1_setFirstOrder_73 rfl rfl rfl (Nat.le_of_ble_eq_true rfl) ?_
        refine x_iinc (pc := 76) (al' := [(0, vR q), (1, vI x1), (2, vI (x2 + 1)), (3, vI x3), (4, vI (x4 + 1)), (5, vI z7)]) 4 dX1_setFirstOrder_76 rfl rfl rfl (Nat.le_of_ble_eq_true rfl) ?_
        refine x_goto (pc := 79) 18 dX1_setFirstOrder_79 (by decide) ?_
        exact x_sub [0, 1, 2, 3, 4] rfl h
set_option maxRecDepth 100000 in
set_option maxHeartbeats 4000000 in
theorem t_X1_positionOf_0 {Γ : GG} {P : MP} {I : MM} {R : Int → MM → Prop} {x1 : Int} {q σ κ n : Nat} (hp : LPlan Γ P q σ κ n)
    (h : (0 ≤ x1) ∧ (x1 < 36) ∧ (∀ u3 : Int, u3 = (I (σ + 8) (x1).toNat) → XM Γ m_X1_positionOf 0 0 12 [(0, vR q), (1, vI x1), (2, vI u3), (3, vI 0)] [] P I (ri P R))) :
    XM Γ m_X1_positionOf 0 0 0 [(0, vR q), (1, vI x1)] [] P I (ri P R) := by
  refine x_aload_n (pc := 0) 0 dX1_positionOf_0 rfl ?_
  refine x_getP (pc := 1) dX1_positionOf_1 FC1 0 (by decide) rfl fl_X1_18 (LPlan_ob hp) (LPlan_p0 hp) ?_
  refine x_getP (pc := 4) dX1_positionOf_4 FC4 10 (by decide) rfl fl_X1_54 (LShop_ob (LPlan_s hp)) (LShop_p10 (LPlan_s hp)) ?_
  refine x_iload_n (pc := 7) 1 dX1_positionOf_7 rfl ?_
  obtain ⟨hv1, h⟩ := h
  obtain ⟨hv2, h⟩ := h
  refine x_iald (pc := 8) dX1_positionOf_8 (LShop_a10 (LPlan_s hp)) hv1 hv2 (by decide) ?_
  refine x_nmT (fun u3 eu3 => ?_)
  have h := h u3 eu3
  refine x_istore_n (pc := 9) (al' := [(0, vR q), (1, vI x1), (2, vI u3)]) dX1_positionOf_9 rfl rfl (Nat.le_of_ble_eq_true rfl) ?_
  refine x_iconst (pc := 10) dX1_positionOf_10 ?_
  refine x_istore_n (pc := 11) (al' := [(0, vR q), (1, vI x1), (2, vI u3), (3, vI 0)]) dX1_positionOf_11 rfl rfl (Nat.le_of_ble_eq_true rfl) ?_
  exact x_sub [0, 1, 2, 3] rfl h
set_option maxRecDepth 100000 in
set_option maxHeartbeats 4000000 in
theorem t_X1_positionOf_12 {Γ : GG} {P : MP} {I : MM} {R : Int → MM → Prop} {x1 x2 x3 : Int} {q σ κ n : Nat} (hp : LPlan Γ P q σ κ n)
    (h : (0 ≤ x2) ∧ (x2 < 6) ∧ (inR x3) ∧ (inR ((I (σ + 3) (x2).toNat) - 1)) ∧ ((((I (σ + 3) (x2).toNat) - 1) ≤ x3 → R x3 I) ∧ (¬ ((I (σ + 3) (x2).toNat) - 1) ≤ x3 → (0 ≤ ((x2 * 6) + x3)) ∧ (((x2 * 6) + x3) < 36) ∧ (inR (I (q + 2) (((x2 * 6) + x3)).toNat)) ∧ (inR x1) ∧ (((I (q + 2) (((x2 * 6) + x3)).toNat) = x1 → R x3 I) ∧ (¬ (I (q + 2) (((x2 * 6) + x3)).toNat) = x1 → XM Γ m_X1_positionOf 0 0 12 [(0, vR q), (1, vI x1), (2, vI x2), (3, vI (x3 + 1))] [] P I (ri P R)))))) :
    XM Γ m_X1_positionOf 0 0 12 [(0, vR q), (1, vI x1), (2, vI x2), (3, vI x3)] [] P I (ri P R) := by
  refine x_iload_n (pc := 12) 3 dX1_positionOf_12 rfl ?_
  refine x_aload_n (pc := 13) 0 dX1_positionOf_13 rfl ?_
  refine x_getP (pc := 14) dX1_positionOf_14 FC1 0 (by decide) rfl fl_X1_18 (LPlan_ob hp) (LPlan_p0 hp) ?_
  refine x_getP (pc := 17) dX1_positionOf_17 FC4 5 (by decide) rfl fl_X1_57 (LShop_ob (LPlan_s hp)) (LShop_p5 (LPlan_s hp)) ?_
  refine x_iload_n (pc := 20) 2 dX1_positionOf_20 rfl ?_
  obtain ⟨hv1, h⟩ := h
  obtain ⟨hv2, h⟩ := h
  refine x_iald (pc := 21) dX1_positionOf_21 (LShop_a5 (LPlan_s hp)) hv1 hv2 (by decide) ?_
  refine x_iconst (pc := 22) dX1_positionOf_22 ?_
  refine x_isub (pc := 23) dX1_positionOf_23 ?_
  obtain ⟨hr3, h⟩ := h
  obtain ⟨hr4, h⟩ := h
  obtain ⟨hA5, hB6⟩ := h
  refine x_icmp_ge (pc := 24) 48 dX1_positionOf_24 (by decide) hr3 hr4 (fun hc => ?_) (fun hc => ?_)
  · have h := hA5 hc
    refine x_iload_n (pc := 48) 3 dX1_positionOf_48 rfl ?_
    exact x_iret (pc := 49) dX1_positionOf_49 rfl (Nat.le_refl _) (Nat.le_refl _) ⟨_, rfl, rfl, h⟩
  · have h := hB6 hc
    refine x_aload_n (pc := 27) 0 dX1_positionOf_27 rfl ?_
    refine x_getP (pc := 28) dX1_positionOf_28 FC1 2 (by decide) rfl fl_X1_15 (LPlan_ob hp) (LPlan_p2 hp) ?_
    refine x_iload_n (pc := 31) 2 dX1_positionOf_31 rfl ?_
    refine x_bipush (pc := 32) dX1_positionOf_32 rfl ?_
    refine x_imul (pc := 34) dX1_positionOf_34 ?_
    refine x_iload_n (pc := 35) 3 dX1_positionOf_35 rfl ?_
    refine x_iadd (pc := 36) dX1_positionOf_36 ?_
    obtain ⟨hv7, h⟩ := h
    obtain ⟨hv8, h⟩ := h
    refine x_iald (pc := 37) dX1_positionOf_37 (LPlan_a2 hp) hv7 hv8 (by decide) ?_
    refine x_iload_n (pc := 38) 1 dX1_positionOf_38 rfl ?_
    obtain ⟨hr9, h⟩ := h
    obtain ⟨hr10, h⟩ := h
    obtain ⟨hA11, hB12⟩ := h
    refine x_icmp_eq (pc := 39) 48 dX1_positionOf_39 (by decide) hr9 hr10 (fun hc => ?_) (fun hc => ?_)
    · have h := hA11 hc
      refine x_iload_n (pc := 48) 3 dX1_positionOf_48 rfl ?_
      exact x_iret (pc := 49) dX1_positionOf_49 rfl (Nat.le_refl _) (Nat.le_refl _) ⟨_, rfl, rfl, h⟩
    · have h := hB12 hc
      refine x_iinc (pc := 42) (al' := [(0, vR q), (1, vI x1), (2, vI x2), (3, vI (x3 + 1))]) 3 dX1_positionOf_42 rfl rfl rfl (Nat.le_of_ble_eq_true rfl) ?_
      refine x_goto (pc := 45) 12 dX1_positionOf_45 (by decide) ?_
      exact x_sub [0, 1, 2, 3] rfl h
