set_option maxRecDepth 100000 in
set_option maxHeartbeats 4000000 in
theorem t_X6_thrown_0 {Γ : GG} {P : MP} {I : MM} {R : Int → MM → Prop} (hM : LM Γ P)
    (h : R (I 1 0) I) :
    XM Γ m_X6_thrown 0 0 0 [(0, vR 1)] [] P I (ri P R) := by
  refine x_aload_n (pc := 0) 0 dX6_thrown_0 rfl ?_
  refine x_getI (pc := 1) dX6_thrown_1 FC6 0 (by decide) rfl fl_X6_51 (LM_ob hM) ?_
  exact x_iret (pc := 4) dX6_thrown_4 rfl (Nat.le_refl _) (Nat.le_refl _) ⟨_, rfl, rfl, h⟩
set_option maxRecDepth 100000 in
set_option maxHeartbeats 4000000 in
theorem t_X6_fails_0 {Γ : GG} {P : MP} {I : MM} {R : Int → MM → Prop} {x1 x2 : Int} (hM : LM Γ P)
    (h : (inR x1) ∧ ((x1 = 0 → (inR (I 1 0)) ∧ (((I 1 0) = 0 → R 0 I) ∧ (¬ (I 1 0) = 0 → R 1 I))) ∧ (¬ x1 = 0 → (inR (I 1 0)) ∧ (((I 1 0) ≠ 0 → (((I 1 0) = 0 → R 0 I) ∧ (¬ (I 1 0) = 0 → R 1 I))) ∧ ((I 1 0) = 0 → (∀ I12 : MM, I12 = up2 I 1 0 x2 → (inR (I12 1 0)) ∧ (((I12 1 0) = 0 → R 0 I12) ∧ (¬ (I12 1 0) = 0 → R 1 I12)))))))) :
    XM Γ m_X6_fails 0 0 0 [(0, vR 1), (1, vI x1), (2, vI x2)] [] P I (ri P R) := by
  refine x_iload_n (pc := 0) 1 dX6_fails_0 rfl ?_
  obtain ⟨hr1, h⟩ := h
  obtain ⟨hA2, hB3⟩ := h
  refine x_if_eq (pc := 1) 16 dX6_fails_1 (by decide) hr1 (fun hc => ?_) (fun hc => ?_)
  · have h := hA2 hc
    refine x_aload_n (pc := 16) 0 dX6_fails_16 rfl ?_
    refine x_getI (pc := 17) dX6_fails_17 FC6 0 (by decide) rfl fl_X6_51 (LM_ob hM) ?_
    obtain ⟨hr4, h⟩ := h
    obtain ⟨hA5, hB6⟩ := h
    refine x_if_eq (pc := 20) 27 dX6_fails_20 (by decide) hr4 (fun hc => ?_) (fun hc => ?_)
    · have h := hA5 hc
      refine x_iconst (pc := 27) dX6_fails_27 ?_
      exact x_zret (pc := 28) dX6_fails_28 rfl (by decide) (Nat.le_refl _) (Nat.le_refl _) ⟨_, rfl, rfl, h⟩
    · have h := hB6 hc
      refine x_iconst (pc := 23) dX6_fails_23 ?_
      refine x_goto (pc := 24) 28 dX6_fails_24 (by decide) ?_
      exact x_zret (pc := 28) dX6_fails_28 rfl (by decide) (Nat.le_refl _) (Nat.le_refl _) ⟨_, rfl, rfl, h⟩
  · have h := hB3 hc
    refine x_aload_n (pc := 4) 0 dX6_fails_4 rfl ?_
    refine x_getI (pc := 5) dX6_fails_5 FC6 0 (by decide) rfl fl_X6_51 (LM_ob hM) ?_
    obtain ⟨hr7, h⟩ := h
    obtain ⟨hA8, hB9⟩ := h
    refine x_if_ne (pc := 8) 16 dX6_fails_8 (by decide) hr7 (fun hc => ?_) (fun hc => ?_)
    · have h := hA8 hc
      refine x_aload_n (pc := 16) 0 dX6_fails_16 rfl ?_
      refine x_getI (pc := 17) dX6_fails_17 FC6 0 (by decide) rfl fl_X6_51 (LM_ob hM) ?_
      obtain ⟨hA10, hB11⟩ := h
      refine x_if_eq (pc := 20) 27 dX6_fails_20 (by decide) hr7 (fun hc => ?_) (fun hc => ?_)
      · have h := hA10 hc
        refine x_iconst (pc := 27) dX6_fails_27 ?_
        exact x_zret (pc := 28) dX6_fails_28 rfl (by decide) (Nat.le_refl _) (Nat.le_refl _) ⟨_, rfl, rfl, h⟩
      · have h := hB11 hc
        refine x_iconst (pc := 23) dX6_fails_23 ?_
        refine x_goto (pc := 24) 28 dX6_fails_24 (by decide) ?_
        exact x_zret (pc := 28) dX6_fails_28 rfl (by decide) (Nat.le_refl _) (Nat.le_refl _) ⟨_, rfl, rfl, h⟩
    · have h := hB9 hc
      refine x_aload_n (pc := 11) 0 dX6_fails_11 rfl ?_
      refine x_iload_n (pc := 12) 2 dX6_fails_12 rfl ?_
      refine x_putI (pc := 13) dX6_fails_13 FC6 0 (by decide) rfl rfl fl_X6_51 (LM_ob hM) ?_
      refine x_nmI (fun I12 eI12 => ?_)
      have h := h I12 eI12
      refine x_aload_n (pc := 16) 0 dX6_fails_16 rfl ?_
      refine x_getI (pc := 17) dX6_fails_17 FC6 0 (by decide) rfl fl_X6_51 (LM_ob hM) ?_
      obtain ⟨hr13, h⟩ := h
      obtain ⟨hA14, hB15⟩ := h
      refine x_if_eq (pc := 20) 27 dX6_fails_20 (by decide) hr13 (fun hc => ?_) (fun hc => ?_)
      · have h := hA14 hc
        refine x_iconst (pc := 27) dX6_fails_27 ?_
        exact x_zret (pc := 28) dX6_fails_28 rfl (by decide) (Nat.le_refl _) (Nat.le_refl _) ⟨_, rfl, rfl, h⟩
      · have h := hB15 hc
        refine x_iconst (pc := 23) dX6_fails_23 ?_
        refine x_goto (pc := 24) 28 dX6_fails_24 (by decide) ?_
        exact x_zret (pc := 28) dX6_fails_28 rfl (by decide) (Nat.le_refl _) (Nat.le_refl _) ⟨_, rfl, rfl, h⟩
set_option maxRecDepth 100000 in
set_option maxHeartbeats 4000000 in
theorem t_X6_in_0 {Γ : GG} {P : MP} {I : MM} {R : Int → MM → Prop} {x0 x1 x2 : Int} 
    (h : (inR x0) ∧ (inR x1) ∧ ((x0 < x1 → R 0 I) ∧ (¬ x0 < x1 → (inR x2) ∧ ((x2 < x0 → R 0 I) ∧ (¬ x2 < x0 → R 1 I))))) :
    XM Γ m_X6_in 0 0 0 [(0, vI x0), (1, vI x1), (2, vI x2)] [] P I (ri P R) := by
  refine x_iload_n (pc := 0) 0 dX6_in_0 rfl ?_
  refine x_iload_n (pc := 1) 1 dX6_in_1 rfl ?_
  obtain ⟨hr1, h⟩ := h
  obtain ⟨hr2, h⟩ := h
  obtain ⟨hA3, hB4⟩ := h
  refine x_icmp_lt (pc := 2) 14 dX6_in_2 (by decide) hr1 hr2 (fun hc => ?_) (fun hc => ?_)
  · have h := hA3 hc
    refine x_iconst (pc := 14) dX6_in_14 ?_
    exact x_zret (pc := 15) dX6_in_15 rfl (by decide) (Nat.le_refl _) (Nat.le_refl _) ⟨_, rfl, rfl, h⟩
  · have h := hB4 hc
    refine x_iload_n (pc := 5) 0 dX6_in_5 rfl ?_
    refine x_iload_n (pc := 6) 2 dX6_in_6 rfl ?_
    obtain ⟨hr5, h⟩ := h
    obtain ⟨hA6, hB7⟩ := h
    refine x_icmp_gt (pc := 7) 14 dX6_in_7 (by decide) hr1 hr5 (fun hc => ?_) (fun hc => ?_)
    · have h := hA6 hc
      refine x_iconst (pc := 14) dX6_in_14 ?_
      exact x_zret (pc := 15) dX6_in_15 rfl (by decide) (Nat.le_refl _) (Nat.le_refl _) ⟨_, rfl, rfl, h⟩
    · have h := hB7 hc
      refine x_iconst (pc := 10) dX6_in_10 ?_
      refine x_goto (pc := 11) 15 dX6_in_11 (by decide) ?_
      exact x_zret (pc := 15) dX6_in_15 rfl (by decide) (Nat.le_refl _) (Nat.le_refl _) ⟨_, rfl, rfl, h⟩
set_option maxRecDepth 100000 in
set_option maxHeartbeats 4000000 in
theorem t_X6_min_0 {Γ : GG} {P : MP} {I : MM} {R : Int → MM → Prop} {x0 x1 : Int} 
    (h : (inR x0) ∧ (inR x1) ∧ ((x1 ≤ x0 → R x1 I) ∧ (¬ x1 ≤ x0 → R x0 I))) :
    XM Γ m_X6_min 0 0 0 [(0, vI x0), (1, vI x1)] [] P I (ri P R) := by
  refine x_iload_n (pc := 0) 0 dX6_min_0 rfl ?_
  refine x_iload_n (pc := 1) 1 dX6_min_1 rfl ?_
  obtain ⟨hr1, h⟩ := h
  obtain ⟨hr2, h⟩ := h
  obtain ⟨hA3, hB4⟩ := h
  refine x_icmp_ge (pc := 2) 9 dX6_min_2 (by decide) hr1 hr2 (fun hc => ?_) (fun hc => ?_)
  · have h := hA3 hc
    refine x_iload_n (pc := 9) 1 dX6_min_9 rfl ?_
    exact x_iret (pc := 10) dX6_min_10 rfl (Nat.le_refl _) (Nat.le_refl _) ⟨_, rfl, rfl, h⟩
  · have h := hB4 hc
    refine x_iload_n (pc := 5) 0 dX6_min_5 rfl ?_
    refine x_goto (pc := 6) 10 dX6_min_6 (by decide) ?_
    exact x_iret (pc := 10) dX6_min_10 rfl (Nat.le_refl _) (Nat.le_refl _) ⟨_, rfl, rfl, h⟩
set_option maxRecDepth 100000 in
set_option maxHeartbeats 4000000 in
theorem t_X6_max_0 {Γ : GG} {P : MP} {I : MM} {R : Int → MM → Prop} {x0 x1 : Int} 
    (h : (inR x0) ∧ (inR x1) ∧ ((x0 ≤ x1 → R x1 I) ∧ (¬ x0 ≤ x1 → R x0 I))) :
    XM Γ m_X6_max 0 0 0 [(0, vI x0), (1, vI x1)] [] P I (ri P R) := by
  refine x_iload_n (pc := 0) 0 dX6_max_0 rfl ?_
  refine x_iload_n (pc := 1) 1 dX6_max_1 rfl ?_
  obtain ⟨hr1, h⟩ := h
  obtain ⟨hr2, h⟩ := h
  obtain ⟨hA3, hB4⟩ := h
  refine x_icmp_le (pc := 2) 9 dX6_max_2 (by decide) hr1 hr2 (fun hc => ?_) (fun hc => ?_)
  · have h := hA3 hc
    refine x_iload_n (pc := 9) 1 dX6_max_9 rfl ?_
    exact x_iret (pc := 10) dX6_max_10 rfl (Nat.le_refl _) (Nat.le_refl _) ⟨_, rfl, rfl, h⟩
  · have h := hB4 hc
    refine x_iload_n (pc := 5) 0 dX6_max_5 rfl ?_
    refine x_goto (pc := 6) 10 dX6_max_6 (by decide) ?_
    exact x_iret (pc := 10) dX6_max_10 rfl (Nat.le_refl _) (Nat.le_refl _) ⟨_, rfl, rfl, h⟩
set_option maxRecDepth 100000 in
set_option maxHeartbeats 4000000 in
theorem t_X6_copy_0 {Γ : GG} {P : MP} {I : MM} {R : MM → Prop} {a0 : Nat} (ha0 : Ob Γ a0 (.inr (0, 1655))) {a1 : Nat} (ha1 : Ob Γ a1 (.inr (0, 1655)))
    (h : XM Γ m_X6_copy 0 0 2 [(0, vR a0), (1, vR a1), (2, vI 0)] [] P I (rv P R)) :
    XM Γ m_X6_copy 0 0 0 [(0, vR a0), (1, vR a1)] [] P I (rv P R) := by
  refine x_iconst (pc := 0) dX6_copy_0 ?_
  refine x_istore_n (pc := 1) (al' := [(0, vR a0), (1, vR a1), (2, vI 0)]) dX6_copy_1 rfl rfl (Nat.le_of_ble_eq_true rfl) ?_
  exact x_sub [0, 1, 2] rfl h
set_option maxRecDepth 100000 in
set_option maxHeartbeats 4000000 in
theorem t_X6_copy_2 {Γ : GG} {P : MP} {I : MM} {R : MM → Prop} {x2 : Int} {a0 : Nat} (ha0 : Ob Γ a0 (.inr (0, 1655))) {a1 : Nat} (ha1 : Ob Γ a1 (.inr (0, 1655)))
    (h : (inR x2) ∧ ((1655 ≤ x2 → R I) ∧ (¬ 1655 ≤ x2 → (0 ≤ x2) ∧ (x2 < 1655) ∧ (∀ I6 : MM, I6 = up2 I a1 (x2).toNat (I a0 (x2).toNat) → XM Γ m_X6_copy 0 0 2 [(0, vR a0), (1, vR a1), (2, vI (x2 + 1))] [] P I6 (rv P R))))) :
    XM Γ m_X6_copy 0 0 2 [(0, vR a0), (1, vR a1), (2, vI x2)] [] P I (rv P R) := by
  refine x_iload_n (pc := 2) 2 dX6_copy_2 rfl ?_
  refine x_sipush (pc := 3) dX6_copy_3 rfl ?_
  obtain ⟨hr1, h⟩ := h
  obtain ⟨hA2, hB3⟩ := h
  refine x_icmp_ge (pc := 6) 21 dX6_copy_6 (by decide) hr1 ⟨by decide, by decide⟩ (fun hc => ?_) (fun hc => ?_)
  · have h := hA2 hc
    exact x_vret (pc := 21) dX6_copy_21 rfl (Nat.le_refl _) (Nat.le_refl _) ⟨rfl, rfl, h⟩
  · have h := hB3 hc
    refine x_aload_n (pc := 9) 1 dX6_copy_9 rfl ?_
    refine x_iload_n (pc := 10) 2 dX6_copy_10 rfl ?_
    refine x_aload_n (pc := 11) 0 dX6_copy_11 rfl ?_
    refine x_iload_n (pc := 12) 2 dX6_copy_12 rfl ?_
    obtain ⟨hv4, h⟩ := h
    obtain ⟨hv5, h⟩ := h
    refine x_iald (pc := 13) dX6_copy_13 ha0 hv4 hv5 (by decide) ?_
    refine x_iast (pc := 14) dX6_copy_14 ha1 hv4 hv5 (by decide) ?_
    refine x_nmI (fun I6 eI6 => ?_)
    have h := h I6 eI6
    refine x_iinc (pc := 15) (al' := [(0, vR a0), (1, vR a1), (2, vI (x2 + 1))]) 2 dX6_copy_15 rfl rfl rfl (Nat.le_of_ble_eq_true rfl) ?_
    refine x_goto (pc := 18) 2 dX6_copy_18 (by decide) ?_
    exact x_sub [0, 1, 2] rfl h
set_option maxRecDepth 100000 in
set_option maxHeartbeats 4000000 in
theorem t_X6_machine_0 {Γ : GG} {P : MP} {I : MM} {R : Int → MM → Prop} {x0 : Int} 
    (h : R (5 + (9 * x0)) I) :
    XM Γ m_X6_machine 0 0 0 [(0, vI x0)] [] P I (ri P R) := by
  refine x_iconst (pc := 0) dX6_machine_0 ?_
  refine x_bipush (pc := 1) dX6_machine_1 rfl ?_
  refine x_iload_n (pc := 3) 0 dX6_machine_3 rfl ?_
  refine x_imul (pc := 4) dX6_machine_4 ?_
  refine x_iadd (pc := 5) dX6_machine_5 ?_
  exact x_iret (pc := 6) dX6_machine_6 rfl (Nat.le_refl _) (Nat.le_refl _) ⟨_, rfl, rfl, h⟩
set_option maxRecDepth 100000 in
set_option maxHeartbeats 4000000 in
theorem t_X6_job_0 {Γ : GG} {P : MP} {I : MM} {R : Int → MM → Prop} {x0 : Int} 
    (h : R (59 + (4 * x0)) I) :
    XM Γ m_X6_job 0 0 0 [(0, vI x0)] [] P I (ri P R) := by
  refine x_bipush (pc := 0) dX6_job_0 rfl ?_
  refine x_iconst (pc := 2) dX6_job_2 ?_
  refine x_iload_n (pc := 3) 0 dX6_job_3 rfl ?_
  refine x_imul (pc := 4) dX6_job_4 ?_
  refine x_iadd (pc := 5) dX6_job_5 ?_
  exact x_iret (pc := 6) dX6_job_6 rfl (Nat.le_refl _) (Nat.le_refl _) ⟨_, rfl, rfl, h⟩
set_option maxRecDepth 100000 in
set_option maxHeartbeats 4000000 in
theorem t_X6_operationAt_0 {Γ : GG} {P : MP} {I : MM} {R : Int → MM → Prop} {x0 : Int} 
    (h : R (83 + (2 * x0)) I) :
    XM Γ m_X6_operationAt 0 0 0 [(0, vI x0)] [] P I (ri P R) := by
  refine x_bipush (pc := 0) dX6_operationAt_0 rfl ?_
  refine x_iconst (pc := 2) dX6_operationAt_2 ?_
  refine x_iload_n (pc := 3) 0 dX6_operationAt_3 rfl ?_
  refine x_imul (pc := 4) dX6_operationAt_4 ?_
  refine x_iadd (pc := 5) dX6_operationAt_5 ?_
  exact x_iret (pc := 6) dX6_operationAt_6 rfl (Nat.le_refl _) (Nat.le_refl _) ⟨_, rfl, rfl, h⟩
set_option maxRecDepth 100000 in
set_option maxHeartbeats 4000000 in
theorem t_X6_append_0 {Γ : GG} {P : MP} {I : MM} {R : Int → MM → Prop} {x1 x2 x3 x4 x5 : Int} (hM : LM Γ P)
    (h : (∀ I1 : MM, I1 = up2 I 1 0 0 → (inR ((I1 1 2) + 20)) ∧ ((((I1 1 2) + 20) ≤ 900 → XM Γ m_X6_append 0 0 23 [(0, vR 1), (1, vI x1), (2, vI x2), (3, vI x3), (4, vI x4), (5, vI x5), (6, vI 0)] [] P I1 (ri P R)) ∧ (¬ ((I1 1 2) + 20) ≤ 900 → R (-1) I1)))) :
    XM Γ m_X6_append 0 0 0 [(0, vR 1), (1, vI x1), (2, vI x2), (3, vI x3), (4, vI x4), (5, vI x5)] [] P I (ri P R) := by
  refine x_aload_n (pc := 0) 0 dX6_append_0 rfl ?_
  refine x_iconst (pc := 1) dX6_append_1 ?_
  refine x_putI (pc := 2) dX6_append_2 FC6 0 (by decide) rfl rfl fl_X6_51 (LM_ob hM) ?_
  refine x_nmI (fun I1 eI1 => ?_)
  have h := h I1 eI1
  refine x_aload_n (pc := 5) 0 dX6_append_5 rfl ?_
  refine x_getI (pc := 6) dX6_append_6 FC6 2 (by decide) rfl fl_X6_54 (LM_ob hM) ?_
  refine x_bipush (pc := 9) dX6_append_9 rfl ?_
  refine x_iadd (pc := 11) dX6_append_11 ?_
  refine x_sipush (pc := 12) dX6_append_12 rfl ?_
  obtain ⟨hr2, h⟩ := h
  obtain ⟨hA3, hB4⟩ := h
  refine x_icmp_le (pc := 15) 20 dX6_append_15 (by decide) hr2 ⟨by decide, by decide⟩ (fun hc => ?_) (fun hc => ?_)
  · have h := hA3 hc
    refine x_iconst (pc := 20) dX6_append_20 ?_
    refine x_istore (pc := 21) (al' := [(0, vR 1), (1, vI x1), (2, vI x2), (3, vI x3), (4, vI x4), (5, vI x5), (6, vI 0)]) dX6_append_21 rfl rfl (Nat.le_of_ble_eq_true rfl) ?_
    exact x_sub [0, 1, 2, 3, 4, 5, 6] rfl h
  · have h := hB4 hc
    refine x_iconst (pc := 18) dX6_append_18 ?_
    exact x_iret (pc := 19) dX6_append_19 rfl (Nat.le_refl _) (Nat.le_refl _) ⟨_, rfl, rfl, h⟩
set_option maxRecDepth 100000 in
set_option maxHeartbeats 4000000 in
theorem t_X6_append_23 {Γ : GG} {P : MP} {I : MM} {R : Int → MM → Prop} {x1 x2 x3 x4 x5 x6 : Int} (hM : LM Γ P)
    (h : (inR x6) ∧ ((20 ≤ x6 → R (I 1 2) I) ∧ (¬ 20 ≤ x6 → ((4 ≤ x6 → ((8 ≤ x6 → ((12 ≤ x6 → ((16 ≤ x6 → (0 ≤ x6) ∧ (inR x5) ∧ (0 ≤ (24 - (8 * (x6 % 4)))) ∧ ((24 - (8 * (x6 % 4))) < 32) ∧ (0 ≤ (I 1 2)) ∧ ((I 1 2) < 900) ∧ (∀ I18 : MM, I18 = up2 I 2 ((I 1 2)).toNat ((x5 / ((2 ^ ((24 - (8 * (x6 % 4))) : Int).toNat : Nat) : Int)) % 256) → (∀ I19 : MM, I19 = up2 I18 1 2 ((I18 1 2) + 1) → XM Γ m_X6_append 0 0 23 [(0, vR 1), (1, vI x1), (2, vI x2), (3, vI x3), (4, vI x4), (5, vI x5), (6, vI (x6 + 1))] [] P I19 (ri P R)))) ∧ (¬ 16 ≤ x6 → (0 ≤ x6) ∧ (inR x4) ∧ (0 ≤ (24 - (8 * (x6 % 4)))) ∧ ((24 - (8 * (x6 % 4))) < 32) ∧ (0 ≤ (I 1 2)) ∧ ((I 1 2) < 900) ∧ (∀ I26 : MM, I26 = up2 I 2 ((I 1 2)).toNat ((x4 / ((2 ^ ((24 - (8 * (x6 % 4))) : Int).toNat : Nat) : Int)) % 256) → (∀ I27 : MM, I27 = up2 I26 1 2 ((I26 1 2) + 1) → XM Γ m_X6_append 0 0 23 [(0, vR 1), (1, vI x1), (2, vI x2), (3, vI x3), (4, vI x4), (5, vI x5), (6, vI (x6 + 1))] [] P I27 (ri P R)))))) ∧ (¬ 12 ≤ x6 → (0 ≤ x6) ∧ (inR x3) ∧ (0 ≤ (24 - (8 * (x6 % 4)))) ∧ ((24 - (8 * (x6 % 4))) < 32) ∧ (0 ≤ (I 1 2)) ∧ ((I 1 2) < 900) ∧ (∀ I34 : MM, I34 = up2 I 2 ((I 1 2)).toNat ((x3 / ((2 ^ ((24 - (8 * (x6 % 4))) : Int).toNat : Nat) : Int)) % 256) → (∀ I35 : MM, I35 = up2 I34 1 2 ((I34 1 2) + 1) → XM Γ m_X6_append 0 0 23 [(0, vR 1), (1, vI x1), (2, vI x2), (3, vI x3), (4, vI x4), (5, vI x5), (6, vI (x6 + 1))] [] P I35 (ri P R)))))) ∧ (¬ 8 ≤ x6 → (0 ≤ x6) ∧ (inR x2) ∧ (0 ≤ (24 - (8 * (x6 % 4)))) ∧ ((24 - (8 * (x6 % 4))) < 32) ∧ (0 ≤ (I 1 2)) ∧ ((I 1 2) < 900) ∧ (∀ I42 : MM, I42 = up2 I 2 ((I 1 2)).toNat ((x2 / ((2 ^ ((24 - (8 * (x6 % 4))) : Int).toNat : Nat) : Int)) % 256) → (∀ I43 : MM, I43 = up2 I42 1 2 ((I42 1 2) + 1) → XM Γ m_X6_append 0 0 23 [(0, vR 1), (1, vI x1), (2, vI x2), (3, vI x3), (4, vI x4), (5, vI x5), (6, vI (x6 + 1))] [] P I43 (ri P R)))))) ∧ (¬ 4 ≤ x6 → (0 ≤ x6) ∧ (inR x1) ∧ (0 ≤ (24 - (8 * (x6 % 4)))) ∧ ((24 - (8 * (x6 % 4))) < 32) ∧ (0 ≤ (I 1 2)) ∧ ((I 1 2) < 900) ∧ (∀ I50 : MM, I50 = up2 I 2 ((I 1 2)).toNat ((x1 / ((2 ^ ((24 - (8 * (x6 % 4))) : Int).toNat : Nat) : Int)) % 256) → (∀ I51 : MM, I51 = up2 I50 1 2 ((I50 1 2) + 1) → XM Γ m_X6_append 0 0 23 [(0, vR 1), (1, vI x1), (2, vI x2), (3, vI x3), (4, vI x4), (5, vI x5), (6, vI (x6 + 1))] [] P I51 (ri P R)))))))) :
    XM Γ m_X6_append 0 0 23 [(0, vR 1), (1, vI x1), (2, vI x2), (3, vI x3), (4, vI x4), (5, vI x5), (6, vI x6)] [] P I (ri P R) := by
  refine x_iload (pc := 23) 6 dX6_append_23 rfl ?_
  refine x_bipush (pc := 25) dX6_append_25 rfl ?_
  obtain ⟨hr1, h⟩ := h
  obtain ⟨hA2, hB3⟩ := h
  refine x_icmp_ge (pc := 27) 120 dX6_append_27 (by decide) hr1 ⟨by decide, by decide⟩ (fun hc => ?_) (fun hc => ?_)
  · have h := hA2 hc
    refine x_aload_n (pc := 120) 0 dX6_append_120 rfl ?_
    refine x_getI (pc := 121) dX6_append_121 FC6 2 (by decide) rfl fl_X6_54 (LM_ob hM) ?_
    exact x_iret (pc := 124) dX6_append_124 rfl (Nat.le_refl _) (Nat.le_refl _) ⟨_, rfl, rfl, h⟩
  · have h := hB3 hc
    refine x_iload (pc := 30) 6 dX6_append_30 rfl ?_
    refine x_iconst (pc := 32) dX6_append_32 ?_
    obtain ⟨hA4, hB5⟩ := h
    refine x_icmp_ge (pc := 33) 40 dX6_append_33 (by decide) hr1 ⟨by decide, by decide⟩ (fun hc => ?_) (fun hc => ?_)
    · have h := hA4 hc
      refine x_iload (pc := 40) 6 dX6_append_40 rfl ?_
      refine x_bipush (pc := 42) dX6_append_42 rfl ?_
      obtain ⟨hA6, hB7⟩ := h
      refine x_icmp_ge (pc := 44) 51 dX6_append_44 (by decide) hr1 ⟨by decide, by decide⟩ (fun hc => ?_) (fun hc => ?_)
      · have h := hA6 hc
        refine x_iload (pc := 51) 6 dX6_append_51 rfl ?_
        refine x_bipush (pc := 53) dX6_append_53 rfl ?_
        obtain ⟨hA8, hB9⟩ := h
        refine x_icmp_ge (pc := 55) 62 dX6_append_55 (by decide) hr1 ⟨by decide, by decide⟩ (fun hc => ?_) (fun hc => ?_)
        · have h := hA8 hc
          refine x_iload (pc := 62) 6 dX6_append_62 rfl ?_
          refine x_bipush (pc := 64) dX6_append_64 rfl ?_
          obtain ⟨hA10, hB11⟩ := h
          refine x_icmp_ge (pc := 66) 74 dX6_append_66 (by decide) hr1 ⟨by decide, by decide⟩ (fun hc => ?_) (fun hc => ?_)
          · have h := hA10 hc
            refine x_iload (pc := 74) 5 dX6_append_74 rfl ?_
            refine x_istore (pc := 76) (al' := [(0, vR 1), (1, vI x1), (2, vI x2), (3, vI x3), (4, vI x4), (5, vI x5), (6, vI x6), (7, vI x5)]) dX6_append_76 rfl rfl (Nat.le_of_ble_eq_true rfl) ?_
            refine x_aload_n (pc := 78) 0 dX6_append_78 rfl ?_
            refine x_getP (pc := 79) dX6_append_79 FC6 1 (by decide) rfl fl_X6_9 (LM_ob hM) (LM_p1 hM) ?_
            refine x_aload_n (pc := 82) 0 dX6_append_82 rfl ?_
            refine x_getI (pc := 83) dX6_append_83 FC6 2 (by decide) rfl fl_X6_54 (LM_ob hM) ?_
            refine x_iload (pc := 86) 7 dX6_append_86 rfl ?_
            refine x_bipush (pc := 88) dX6_append_88 rfl ?_
            refine x_bipush (pc := 90) dX6_append_90 rfl ?_
            refine x_iload (pc := 92) 6 dX6_append_92 rfl ?_
            refine x_iconst (pc := 94) dX6_append_94 ?_
            obtain ⟨hv12, h⟩ := h
            refine x_irem (pc := 95) dX6_append_95 hr1 ⟨by decide, by decide⟩ hv12 (by decide) ?_
            refine x_imul (pc := 96) dX6_append_96 ?_
            refine x_isub (pc := 97) dX6_append_97 ?_
            obtain ⟨hr13, h⟩ := h
            obtain ⟨hv14, h⟩ := h
            obtain ⟨hv15, h⟩ := h
            refine x_ishr (pc := 98) dX6_append_98 hr13 hv14 hv15 ?_
            refine x_sipush (pc := 99) dX6_append_99 rfl ?_
            refine x_iandM (pc := 102) dX6_append_102 8 (by decide +kernel) (by decide) ?_
            obtain ⟨hv16, h⟩ := h
            obtain ⟨hv17, h⟩ := h
            refine x_iast (pc := 103) dX6_append_103 (LM_a1 hM) hv16 hv17 (by decide) ?_
            refine x_nmI (fun I18 eI18 => ?_)
            have h := h I18 eI18
            refine x_aload_n (pc := 104) 0 dX6_append_104 rfl ?_
            refine x_dup (pc := 105) dX6_append_105 rfl ?_
            refine x_getI (pc := 106) dX6_append_106 FC6 2 (by decide) rfl fl_X6_54 (LM_ob hM) ?_
            refine x_iconst (pc := 109) dX6_append_109 ?_
            refine x_iadd (pc := 110) dX6_append_110 ?_
            refine x_putI (pc := 111) dX6_append_111 FC6 2 (by decide) rfl rfl fl_X6_54 (LM_ob hM) ?_
            refine x_nmI (fun I19 eI19 => ?_)
            have h := h I19 eI19
            refine x_iinc (pc := 114) (al' := [(0, vR 1), (1, vI x1), (2, vI x2), (3, vI x3), (4, vI x4), (5, vI x5), (6, vI (x6 + 1)), (7, vI x5)]) 6 dX6_append_114 rfl rfl rfl (Nat.le_of_ble_eq_true rfl) ?_
            refine x_goto (pc := 117) 23 dX6_append_117 (by decide) ?_
            exact x_sub [0, 1, 2, 3, 4, 5, 6] rfl h
          · have h := hB11 hc
            refine x_iload (pc := 69) 4 dX6_append_69 rfl ?_
            refine x_goto (pc := 71) 76 dX6_append_71 (by decide) ?_
            refine x_istore (pc := 76) (al' := [(0, vR 1), (1, vI x1), (2, vI x2), (3, vI x3), (4, vI x4), (5, vI x5), (6, vI x6), (7, vI x4)]) dX6_append_76 rfl rfl (Nat.le_of_ble_eq_true rfl) ?_
            refine x_aload_n (pc := 78) 0 dX6_append_78 rfl ?_
            refine x_getP (pc := 79) dX6_append_79 FC6 1 (by decide) rfl fl_X6_9 (LM_ob hM) (LM_p1 hM) ?_
            refine x_aload_n (pc := 82) 0 dX6_append_82 rfl ?_
            refine x_getI (pc := 83) dX6_append_83 FC6 2 (by decide) rfl fl_X6_54 (LM_ob hM) ?_
            refine x_iload (pc := 86) 7 dX6_append_86 rfl ?_
            refine x_bipush (pc := 88) dX6_append_88 rfl ?_
            refine x_bipush (pc := 90) dX6_append_90 rfl ?_
            refine x_iload (pc := 92) 6 dX6_append_92 rfl ?_
            refine x_iconst (pc := 94) dX6_append_94 ?_
            obtain ⟨hv20, h⟩ := h
            refine x_irem (pc := 95) dX6_append_95 hr1 ⟨by decide, by decide⟩ hv20 (by decide) ?_
            refine x_imul (pc := 96) dX6_append_96 ?_
            refine x_isub (pc := 97) dX6_append_97 ?_
            obtain ⟨hr21, h⟩ := h
            obtain ⟨hv22, h⟩ := h
            obtain ⟨hv23, h⟩ := h
            refine x_ishr (pc := 98) dX6_append_98 hr21 hv22 hv23 ?_
            refine x_sipush (pc := 99) dX6_append_99 rfl ?_
            refine x_iandM (pc := 102) dX6_append_102 8 (by decide +kernel) (by decide) ?_
            obtain ⟨hv24, h⟩ := h
            obtain ⟨hv25, h⟩ := h
            refine x_iast (pc := 103) dX6_append_103 (LM_a1 hM) hv24 hv25 (by decide) ?_
            refine x_nmI (fun I26 eI26 => ?_)
            have h := h I26 eI26
            refine x_aload_n (pc := 104) 0 dX6_append_104 rfl ?_
            refine x_dup (pc := 105) dX6_append_105 rfl ?_
            refine x_getI (pc := 106) dX6_append_106 FC6 2 (by decide) rfl fl_X6_54 (LM_ob hM) ?_
            refine x_iconst (pc := 109) dX6_append_109 ?_
            refine x_iadd (pc := 110) dX6_append_110 ?_
            refine x_putI (pc := 111) dX6_append_111 FC6 2 (by decide) rfl rfl fl_X6_54 (LM_ob hM) ?_
            refine x_nmI (fun I27 eI27 => ?_)
            have h := h I27 eI27
            refine x_iinc (pc := 114) (al' := [(0, vR 1), (1, vI x1), (2, vI x2), (3, vI x3), (4, vI x4), (5, vI x5), (6, vI (x6 + 1)), (7, vI x4)]) 6 dX6_append_114 rfl rfl rfl (Nat.le_of_ble_eq_true rfl) ?_
            refine x_goto (pc := 117) 23 dX6_append_117 (by decide) ?_
            exact x_sub [0, 1, 2, 3, 4, 5, 6] rfl h
        · have h := hB9 hc
          refine x_iload_n (pc := 58) 3 dX6_append_58 rfl ?_
          refine x_goto (pc := 59) 76 dX6_append_59 (by decide) ?_
          refine x_istore (pc := 76) (al' := [(0, vR 1), (1, vI x1), (2, vI x2), (3, vI x3), (4, vI x4), (5, vI x5), (6, vI x6), (7, vI x3)]) dX6_append_76 rfl rfl (Nat.le_of_ble_eq_true rfl) ?_
          refine x_aload_n (pc := 78) 0 dX6_append_78 rfl ?_
          refine x_getP (pc := 79) dX6_append_79 FC6 1 (by decide) rfl fl_X6_9 (LM_ob hM) (LM_p1 hM) ?_
          refine x_aload_n (pc := 82) 0 dX6_append_82 rfl ?_
          refine x_getI (pc := 83) dX6_append_83 FC6 2 (by decide) rfl fl_X6_54 (LM_ob hM) ?_
          refine x_iload (pc := 86) 7 dX6_append_86 rfl ?_
          refine x_bipush (pc := 88) dX6_append_88 rfl ?_
          refine x_bipush (pc := 90) dX6_append_90 rfl ?_
          refine x_iload (pc := 92) 6 dX6_append_92 rfl ?_
          refine x_iconst (pc := 94) dX6_append_94 ?_
          obtain ⟨hv28, h⟩ := h
          refine x_irem (pc := 95) dX6_append_95 hr1 ⟨by decide, by decide⟩ hv28 (by decide) ?_
          refine x_imul (pc := 96) dX6_append_96 ?_
          refine x_isub (pc := 97) dX6_append_97 ?_
          obtain ⟨hr29, h⟩ := h
          obtain ⟨hv30, h⟩ := h
          obtain ⟨hv31, h⟩ := h
          refine x_ishr (pc := 98) dX6_append_98 hr29 hv30 hv31 ?_
          refine x_sipush (pc := 99) dX6_append_99 rfl ?_
          refine x_iandM (pc := 102) dX6_append_102 8 (by decide +kernel) (by decide) ?_
          obtain ⟨hv32, h⟩ := h
          obtain ⟨hv33, h⟩ := h
          refine x_iast (pc := 103) dX6_append_103 (LM_a1 hM) hv32 hv33 (by decide) ?_
          refine x_nmI (fun I34 eI34 => ?_)
          have h := h I34 eI34
          refine x_aload_n (pc := 104) 0 dX6_append_104 rfl ?_
          refine x_dup (pc := 105) dX6_append_105 rfl ?_
          refine x_getI (pc := 106) dX6_append_106 FC6 2 (by decide) rfl fl_X6_54 (LM_ob hM) ?_
          refine x_iconst (pc := 109) dX6_append_109 ?_
          refine x_iadd (pc := 110) dX6_append_110 ?_
          refine x_putI (pc := 111) dX6_append_111 FC6 2 (by decide) rfl rfl fl_X6_54 (LM_ob hM) ?_
          refine x_nmI (fun I35 eI35 => ?_)
          have h := h I35 eI35
          refine x_iinc (pc := 114) (al' := [(0, vR 1), (1, vI x1), (2, vI x2), (3, vI x3), (4, vI x4), (5, vI x5), (6, vI (x6 + 1)), (7, vI x3)]) 6 dX6_append_114 rfl rfl rfl (Nat.le_of_ble_eq_true rfl) ?_
          refine x_goto (pc := 117) 23 dX6_append_117 (by decide) ?_
          exact x_sub [0, 1, 2, 3, 4, 5, 6] rfl h
      · have h := hB7 hc
        refine x_iload_n (pc := 47) 2 dX6_append_47 rfl ?_
        refine x_goto (pc := 48) 76 dX6_append_48 (by decide) ?_
        refine x_istore (pc := 76) (al' := [(0, vR 1), (1, vI x1), (2, vI x2), (3, vI x3), (4, vI x4), (5, vI x5), (6, vI x6), (7, vI x2)]) dX6_append_76 rfl rfl (Nat.le_of_ble_eq_true rfl) ?_
        refine x_aload_n (pc := 78) 0 dX6_append_78 rfl ?_
        refine x_getP (pc := 79) dX6_append_79 FC6 1 (by decide) rfl fl_X6_9 (LM_ob hM) (LM_p1 hM) ?_
        refine x_aload_n (pc := 82) 0 dX6_append_82 rfl ?_
        refine x_getI (pc := 83) dX6_append_83 FC6 2 (by decide) rfl fl_X6_54 (LM_ob hM) ?_
        refine x_iload (pc := 86) 7 dX6_append_86 rfl ?_
        refine x_bipush (pc := 88) dX6_append_88 rfl ?_
        refine x_bipush (pc := 90) dX6_append_90 rfl ?_
        refine x_iload (pc := 92) 6 dX6_append_92 rfl ?_
        refine x_iconst (pc := 94) dX6_append_94 ?_
        obtain ⟨hv36, h⟩ := h
        refine x_irem (pc := 95) dX6_append_95 hr1 ⟨by decide, by decide⟩ hv36 (by decide) ?_
        refine x_imul (pc := 96) dX6_append_96 ?_
        refine x_isub (pc := 97) dX6_append_97 ?_
        obtain ⟨hr37, h⟩ := h
        obtain ⟨hv38, h⟩ := h
        obtain ⟨hv39, h⟩ := h
        refine x_ishr (pc := 98) dX6_append_98 hr37 hv38 hv39 ?_
        refine x_sipush (pc := 99) dX6_append_99 rfl ?_
        refine x_iandM (pc := 102) dX6_append_102 8 (by decide +kernel) (by decide) ?_
        obtain ⟨hv40, h⟩ := h
        obtain ⟨hv41, h⟩ := h
        refine x_iast (pc := 103) dX6_append_103 (LM_a1 hM) hv40 hv41 (by decide) ?_
        refine x_nmI (fun I42 eI42 => ?_)
        have h := h I42 eI42
        refine x_aload_n (pc := 104) 0 dX6_append_104 rfl ?_
        refine x_dup (pc := 105) dX6_append_105 rfl ?_
        refine x_getI (pc := 106) dX6_append_106 FC6 2 (by decide) rfl fl_X6_54 (LM_ob hM) ?_
        refine x_iconst (pc := 109) dX6_append_109 ?_
        refine x_iadd (pc := 110) dX6_append_110 ?_
        refine x_putI (pc := 111) dX6_append_111 FC6 2 (by decide) rfl rfl fl_X6_54 (LM_ob hM) ?_
        refine x_nmI (fun I43 eI43 => ?_)
        have h := h I43 eI43
        refine x_iinc (pc := 114) (al' := [(0, vR 1), (1, vI x1), (2, vI x2), (3, vI x3), (4, vI x4), (5, vI x5), (6, vI (x6 + 1)), (7, vI x2)]) 6 dX6_append_114 rfl rfl rfl (Nat.le_of_ble_eq_true rfl) ?_
        refine x_goto (pc := 117) 23 dX6_append_117 (by decide) ?_
        exact x_sub [0, 1, 2, 3, 4, 5, 6] rfl h
    · have h := hB5 hc
      refine x_iload_n (pc := 36) 1 dX6_append_36 rfl ?_
      refine x_goto (pc := 37) 76 dX6_append_37 (by decide) ?_
      refine x_istore (pc := 76) (al' := [(0, vR 1), (1, vI x1), (2, vI x2), (3, vI x3), (4, vI x4), (5, vI x5), (6, vI x6), (7, vI x1)]) dX6_append_76 rfl rfl (Nat.le_of_ble_eq_true rfl) ?_
      refine x_aload_n (pc := 78) 0 dX6_append_78 rfl ?_
      refine x_getP (pc := 79) dX6_append_79 FC6 1 (by decide) rfl fl_X6_9 (LM_ob hM) (LM_p1 hM) ?_
      refine x_aload_n (pc := 82) 0 dX6_append_82 rfl ?_
      refine x_getI (pc := 83) dX6_append_83 FC6 2 (by decide) rfl fl_X6_54 (LM_ob hM) ?_
      refine x_iload (pc := 86) 7 dX6_append_86 rfl ?_
      refine x_bipush (pc := 88) dX6_append_88 rfl ?_
      refine x_bipush (pc := 90) dX6_append_90 rfl ?_
      refine x_iload (pc := 92) 6 dX6_append_92 rfl ?_
      refine x_iconst (pc := 94) dX6_append_94 ?_
      obtain ⟨hv44, h⟩ := h
      refine x_irem (pc := 95) dX6_append_95 hr1 ⟨by decide, by decide⟩ hv44 (by decide) ?_
      refine x_imul (pc := 96) dX6_append_96 ?_
      refine x_isub (pc := 97) dX6_append_97 ?_
      obtain ⟨hr45, h⟩ := h
      obtain ⟨hv46, h⟩ := h
      obtain ⟨hv47, h⟩ := h
      refine x_ishr (pc := 98) dX6_append_98 hr45 hv46 hv47 ?_
      refine x_sipush (pc := 99) dX6_append_99 rfl ?_
      refine x_iandM (pc := 102) dX6_append_102 8 (by decide +kernel) (by decide) ?_
      obtain ⟨hv48, h⟩ := h
      obtain ⟨hv49, h⟩ := h
      refine x_iast (pc := 103) dX6_append_103 (LM_a1 hM) hv48 hv49 (by decide) ?_
      refine x_nmI (fun I50 eI50 => ?_)
      have h := h I50 eI50
      refine x_aload_n (pc := 104) 0 dX6_append_104 rfl ?_
      refine x_dup (pc := 105) dX6_append_105 rfl ?_
      refine x_getI (pc := 106) dX6_append_106 FC6 2 (by decide) rfl fl_X6_54 (LM_ob hM) ?_
      refine x_iconst (pc := 109) dX6_append_109 ?_
      refine x_iadd (pc := 110) dX6_append_110 ?_
      refine x_putI (pc := 111) dX6_append_111 FC6 2 (by decide) rfl rfl fl_X6_54 (LM_ob hM) ?_
      refine x_nmI (fun I51 eI51 => ?_)
      have h := h I51 eI51
      refine x_iinc (pc := 114) (al' := [(0, vR 1), (1, vI x1), (2, vI x2), (3, vI x3), (4, vI x4), (5, vI x5), (6, vI (x6 + 1)), (7, vI x1)]) 6 dX6_append_114 rfl rfl rfl (Nat.le_of_ble_eq_true rfl) ?_
      refine x_goto (pc := 117) 23 dX6_append_117 (by decide) ?_
      exact x_sub [0, 1, 2, 3, 4, 5, 6] rfl h
set_option maxRecDepth 100000 in
set_option maxHeartbeats 4000000 in
theorem t_X6_byteAt_0 {Γ : GG} {P : MP} {I : MM} {R : Int → MM → Prop} {x1 : Int} (hM : LM Γ P)
    (h : (inR x1) ∧ (inR (I 1 3)) ∧ (((I 1 3) ≤ x1 → R (-1) I) ∧ (¬ (I 1 3) ≤ x1 → (0 ≤ x1) ∧ (x1 < 900) ∧ R (I 2 (x1).toNat) I))) :
    XM Γ m_X6_byteAt 0 0 0 [(0, vR 1), (1, vI x1)] [] P I (ri P R) := by
  refine x_iload_n (pc := 0) 1 dX6_byteAt_0 rfl ?_
  refine x_aload_n (pc := 1) 0 dX6_byteAt_1 rfl ?_
  refine x_getI (pc := 2) dX6_byteAt_2 FC6 3 (by decide) rfl fl_X6_57 (LM_ob hM) ?_
  obtain ⟨hr1, h⟩ := h
  obtain ⟨hr2, h⟩ := h
  obtain ⟨hA3, hB4⟩ := h
  refine x_icmp_ge (pc := 5) 17 dX6_byteAt_5 (by decide) hr1 hr2 (fun hc => ?_) (fun hc => ?_)
  · have h := hA3 hc
    refine x_iconst (pc := 17) dX6_byteAt_17 ?_
    exact x_iret (pc := 18) dX6_byteAt_18 rfl (Nat.le_refl _) (Nat.le_refl _) ⟨_, rfl, rfl, h⟩
  · have h := hB4 hc
    refine x_aload_n (pc := 8) 0 dX6_byteAt_8 rfl ?_
    refine x_getP (pc := 9) dX6_byteAt_9 FC6 1 (by decide) rfl fl_X6_9 (LM_ob hM) (LM_p1 hM) ?_
    refine x_iload_n (pc := 12) 1 dX6_byteAt_12 rfl ?_
    obtain ⟨hv5, h⟩ := h
    obtain ⟨hv6, h⟩ := h
    refine x_iald (pc := 13) dX6_byteAt_13 (LM_a1 hM) hv5 hv6 (by decide) ?_
    refine x_goto (pc := 14) 18 dX6_byteAt_14 (by decide) ?_
    exact x_iret (pc := 18) dX6_byteAt_18 rfl (Nat.le_refl _) (Nat.le_refl _) ⟨_, rfl, rfl, h⟩
set_option maxRecDepth 100000 in
set_option maxHeartbeats 4000000 in
theorem t_X6_next_0 {Γ : GG} {P : MP} {I : MM} {R : Int → MM → Prop} (hM : LM Γ P)
    (h : (Cl Γ m_X6_byteAt [vR 1, vI (I 1 4)] P I (ri P (fun (z1 : Int) (I2 : MM) => (inR z1) ∧ ((z1 ≠ 32 → (Cl Γ m_X6_byteAt [vR 1, vI (I2 1 4)] P I2 (ri P (fun (z6 : Int) (I7 : MM) => R z6 I7)))) ∧ (z1 = 32 → (∀ I8 : MM, I8 = up2 I2 1 4 ((I2 1 4) + 1) → XM Γ m_X6_next 0 0 0 [(0, vR 1)] [] P I8 (ri P R)))))))) :
    XM Γ m_X6_next 0 0 0 [(0, vR 1)] [] P I (ri P R) := by
  refine x_aload_n (pc := 0) 0 dX6_next_0 rfl ?_
  refine x_aload_n (pc := 1) 0 dX6_next_1 rfl ?_
  refine x_getI (pc := 2) dX6_next_2 FC6 4 (by decide) rfl fl_X6_60 (LM_ob hM) ?_
  refine x_Vi (μ := m_X6_next) (pc := 5) dX6_next_5 h k_X6_byteAt ml_X6_63 ⟨Nat.le_of_ble_eq_true rfl, Nat.le_of_ble_eq_true rfl⟩ ⟨rfl, rfl⟩ ⟨Nat.zero_le _, Nat.zero_le _⟩ rfl (LM_ob hM) rfl (Nat.le_of_ble_eq_true rfl) _ rfl (fun z1 I2 h => ?_)
  refine x_bipush (pc := 8) dX6_next_8 rfl ?_
  obtain ⟨hr3, h⟩ := h
  obtain ⟨hA4, hB5⟩ := h
  refine x_icmp_ne (pc := 10) 26 dX6_next_10 (by decide) hr3 ⟨by decide, by decide⟩ (fun hc => ?_) (fun hc => ?_)
  · have h := hA4 hc
    refine x_aload_n (pc := 26) 0 dX6_next_26 rfl ?_
    refine x_aload_n (pc := 27) 0 dX6_next_27 rfl ?_
    refine x_getI (pc := 28) dX6_next_28 FC6 4 (by decide) rfl fl_X6_60 (LM_ob hM) ?_
    refine x_Vi (μ := m_X6_next) (pc := 31) dX6_next_31 h k_X6_byteAt ml_X6_63 ⟨Nat.le_of_ble_eq_true rfl, Nat.le_of_ble_eq_true rfl⟩ ⟨rfl, rfl⟩ ⟨Nat.zero_le _, Nat.zero_le _⟩ rfl (LM_ob hM) rfl (Nat.le_of_ble_eq_true rfl) _ rfl (fun z6 I7 h => ?_)
    exact x_iret (pc := 34) dX6_next_34 rfl (Nat.le_refl _) (Nat.le_refl _) ⟨_, rfl, rfl, h⟩
  · have h := hB5 hc
    refine x_aload_n (pc := 13) 0 dX6_next_13 rfl ?_
    refine x_dup (pc := 14) dX6_next_14 rfl ?_
    refine x_getI (pc := 15) dX6_next_15 FC6 4 (by decide) rfl fl_X6_60 (LM_ob hM) ?_
    refine x_iconst (pc := 18) dX6_next_18 ?_
    refine x_iadd (pc := 19) dX6_next_19 ?_
    refine x_putI (pc := 20) dX6_next_20 FC6 4 (by decide) rfl rfl fl_X6_60 (LM_ob hM) ?_
    refine x_nmI (fun I8 eI8 => ?_)
    have h := h I8 eI8
    refine x_goto (pc := 23) 0 dX6_next_23 (by decide) ?_
    exact x_sub [0] rfl h
set_option maxRecDepth 100000 in
set_option maxHeartbeats 4000000 in
theorem t_X6_isGood_0 {Γ : GG} {P : MP} {I : MM} {R : Int → MM → Prop} (hM : LM Γ P)
    (h : (inR (I 1 5)) ∧ (((I 1 5) ≠ 0 → R 0 I) ∧ ((I 1 5) = 0 → R 1 I))) :
    XM Γ m_X6_isGood 0 0 0 [(0, vR 1)] [] P I (ri P R) := by
  refine x_aload_n (pc := 0) 0 dX6_isGood_0 rfl ?_
  refine x_getI (pc := 1) dX6_isGood_1 FC6 5 (by decide) rfl fl_X6_67 (LM_ob hM) ?_
  obtain ⟨hr1, h⟩ := h
  obtain ⟨hA2, hB3⟩ := h
  refine x_if_ne (pc := 4) 11 dX6_isGood_4 (by decide) hr1 (fun hc => ?_) (fun hc => ?_)
  · have h := hA2 hc
    refine x_iconst (pc := 11) dX6_isGood_11 ?_
    exact x_zret (pc := 12) dX6_isGood_12 rfl (by decide) (Nat.le_refl _) (Nat.le_refl _) ⟨_, rfl, rfl, h⟩
  · have h := hB3 hc
    refine x_iconst (pc := 7) dX6_isGood_7 ?_
    refine x_goto (pc := 8) 12 dX6_isGood_8 (by decide) ?_
    exact x_zret (pc := 12) dX6_isGood_12 rfl (by decide) (Nat.le_refl _) (Nat.le_refl _) ⟨_, rfl, rfl, h⟩
set_option maxRecDepth 100000 in
set_option maxHeartbeats 4000000 in
theorem t_X6_report_0 {Γ : GG} {P : MP} {I : MM} {R : MM → Prop} {x1 x2 : Int} (hM : LM Γ P)
    (h : (inR (I 1 5)) ∧ (((I 1 5) = 0 → (∀ I4 : MM, I4 = up2 I 1 5 x1 → (∀ I5 : MM, I5 = up2 I4 1 6 x2 → R I5))) ∧ (¬ (I 1 5) = 0 → R I))) :
    XM Γ m_X6_report 0 0 0 [(0, vR 1), (1, vI x1), (2, vI x2)] [] P I (rv P R) := by
  refine x_aload_n (pc := 0) 0 dX6_report_0 rfl ?_
  refine x_getI (pc := 1) dX6_report_1 FC6 5 (by decide) rfl fl_X6_67 (LM_ob hM) ?_
  obtain ⟨hr1, h⟩ := h
  obtain ⟨hA2, hB3⟩ := h
  refine x_if_eq (pc := 4) 8 dX6_report_4 (by decide) hr1 (fun hc => ?_) (fun hc => ?_)
  · have h := hA2 hc
    refine x_aload_n (pc := 8) 0 dX6_report_8 rfl ?_
    refine x_iload_n (pc := 9) 1 dX6_report_9 rfl ?_
    refine x_putI (pc := 10) dX6_report_10 FC6 5 (by decide) rfl rfl fl_X6_67 (LM_ob hM) ?_
    refine x_nmI (fun I4 eI4 => ?_)
    have h := h I4 eI4
    refine x_aload_n (pc := 13) 0 dX6_report_13 rfl ?_
    refine x_iload_n (pc := 14) 2 dX6_report_14 rfl ?_
    refine x_putI (pc := 15) dX6_report_15 FC6 6 (by decide) rfl rfl fl_X6_70 (LM_ob hM) ?_
    refine x_nmI (fun I5 eI5 => ?_)
    have h := h I5 eI5
    exact x_vret (pc := 18) dX6_report_18 rfl (Nat.le_refl _) (Nat.le_refl _) ⟨rfl, rfl, h⟩
  · have h := hB3 hc
    exact x_vret (pc := 7) dX6_report_7 rfl (Nat.le_refl _) (Nat.le_refl _) ⟨rfl, rfl, h⟩
set_option maxRecDepth 100000 in
set_option maxHeartbeats 4000000 in
theorem t_X6_isDigit_0 {Γ : GG} {P : MP} {I : MM} {R : Int → MM → Prop} {x0 : Int} 
    (h : (Cl Γ m_X6_in [vI x0, vI 48, vI 57] P I (ri P (fun (z1 : Int) (I2 : MM) => (z1 = 0 ∨ z1 = 1) ∧ R z1 I2)))) :
    XM Γ m_X6_isDigit 0 0 0 [(0, vI x0)] [] P I (ri P R) := by
  refine x_iload_n (pc := 0) 0 dX6_isDigit_0 rfl ?_
  refine x_bipush (pc := 1) dX6_isDigit_1 rfl ?_
  refine x_bipush (pc := 3) dX6_isDigit_3 rfl ?_
  refine x_Si (μ := m_X6_isDigit) (pc := 5) dX6_isDigit_5 h k_X6_in ml_X6_73 ⟨Nat.le_of_ble_eq_true rfl, Nat.le_of_ble_eq_true rfl⟩ ⟨rfl, rfl⟩ ⟨Nat.zero_le _, Nat.zero_le _⟩ rfl (Nat.le_of_ble_eq_true rfl) _ rfl (fun z1 I2 h => ?_)
  obtain ⟨hv3, h⟩ := h
  exact x_zret (pc := 8) dX6_isDigit_8 rfl hv3 (Nat.le_refl _) (Nat.le_refl _) ⟨_, rfl, rfl, h⟩
set_option maxRecDepth 100000 in
set_option maxHeartbeats 4000000 in
theorem t_X6_takeWord_0 {Γ : GG} {P : MP} {I : MM} {R : Int → MM → Prop} (hM : LM Γ P) {i : Nat} (hi : i < 9)
    (h : (Cl Γ m_X6_isGood [vR 1] P I (ri P (fun (z1 : Int) (I2 : MM) => (inR z1) ∧ ((z1 ≠ 0 → (Cl Γ m_X6_next [vR 1] P I2 (ri P (fun (z6 : Int) (I7 : MM) => XM Γ m_X6_takeWord 0 0 16 [(0, vR 1), (1, vR (500 + i)), (2, vI 0)] [] P I7 (ri P R))))) ∧ (z1 = 0 → R 0 I2)))))) :
    XM Γ m_X6_takeWord 0 0 0 [(0, vR 1), (1, vR (500 + i))] [] P I (ri P R) := by
  refine x_aload_n (pc := 0) 0 dX6_takeWord_0 rfl ?_
  refine x_Vi (μ := m_X6_takeWord) (pc := 1) dX6_takeWord_1 h k_X6_isGood ml_X6_77 ⟨Nat.le_of_ble_eq_true rfl, Nat.le_of_ble_eq_true rfl⟩ ⟨rfl, rfl⟩ ⟨Nat.zero_le _, Nat.zero_le _⟩ rfl (LM_ob hM) rfl (Nat.le_of_ble_eq_true rfl) _ rfl (fun z1 I2 h => ?_)
  obtain ⟨hr3, h⟩ := h
  obtain ⟨hA4, hB5⟩ := h
  refine x_if_ne (pc := 4) 9 dX6_takeWord_4 (by decide) hr3 (fun hc => ?_) (fun hc => ?_)
  · have h := hA4 hc
    refine x_aload_n (pc := 9) 0 dX6_takeWord_9 rfl ?_
    refine x_Vi (μ := m_X6_takeWord) (pc := 10) dX6_takeWord_10 h k_X6_next ml_X6_81 ⟨Nat.le_of_ble_eq_true rfl, Nat.le_of_ble_eq_true rfl⟩ ⟨rfl, rfl⟩ ⟨Nat.zero_le _, Nat.zero_le _⟩ rfl (LM_ob hM) rfl (Nat.le_of_ble_eq_true rfl) _ rfl (fun z6 I7 h => ?_)
    refine x_pop (pc := 13) dX6_takeWord_13 rfl ?_
    refine x_iconst (pc := 14) dX6_takeWord_14 ?_
    refine x_istore_n (pc := 15) (al' := [(0, vR 1), (1, vR (500 + i)), (2, vI 0)]) dX6_takeWord_15 rfl rfl (Nat.le_of_ble_eq_true rfl) ?_
    exact x_sub [0, 1, 2] rfl h
  · have h := hB5 hc
    refine x_iconst (pc := 7) dX6_takeWord_7 ?_
    exact x_zret (pc := 8) dX6_takeWord_8 rfl (by decide) (Nat.le_refl _) (Nat.le_refl _) ⟨_, rfl, rfl, h⟩
set_option maxRecDepth 100000 in
set_option maxHeartbeats 4000000 in
theorem t_X6_takeWord_16 {Γ : GG} {P : MP} {I : MM} {R : Int → MM → Prop} {x2 : Int} (hM : LM Γ P) {i : Nat} (hi : i < 9)
    (h : (inR x2) ∧ (inR (lenS.getD i 0 : Int)) ∧ (((lenS.getD i 0 : Int) ≤ x2 → ((x2 < (lenS.getD i 0 : Int) → R 0 I) ∧ (¬ x2 < (lenS.getD i 0 : Int) → (Cl Γ m_X6_byteAt [vR 1, vI ((I 1 4) + x2)] P I (ri P (fun (z7 : Int) (I8 : MM) => (Cl Γ m_X6_in [vI z7, vI 97, vI 122] P I8 (ri P (fun (z9 : Int) (I10 : MM) => (inR z9) ∧ ((z9 = 0 → (∀ I14 : MM, I14 = up2 I10 1 4 ((I10 1 4) + x2) → R 1 I14)) ∧ (¬ z9 = 0 → R 0 I10))))))))))) ∧ (¬ (lenS.getD i 0 : Int) ≤ x2 → (Cl Γ m_X6_byteAt [vR 1, vI ((I 1 4) + x2)] P I (ri P (fun (z15 : Int) (I16 : MM) => (0 ≤ x2) ∧ (x2 < (lenS.getD i 0 : Int)) ∧ (inR z15) ∧ (inR (chS i (x2).toNat)) ∧ ((z15 ≠ (chS i (x2).toNat) → ((x2 < (lenS.getD i 0 : Int) → R 0 I16) ∧ (¬ x2 < (lenS.getD i 0 : Int) → (Cl Γ m_X6_byteAt [vR 1, vI ((I16 1 4) + x2)] P I16 (ri P (fun (z25 : Int) (I26 : MM) => (Cl Γ m_X6_in [vI z25, vI 97, vI 122] P I26 (ri P (fun (z27 : Int) (I28 : MM) => (inR z27) ∧ ((z27 = 0 → (∀ I32 : MM, I32 = up2 I28 1 4 ((I28 1 4) + x2) → R 1 I32)) ∧ (¬ z27 = 0 → R 0 I28))))))))))) ∧ (z15 = (chS i (x2).toNat) → XM Γ m_X6_takeWord 0 0 16 [(0, vR 1), (1, vR (500 + i)), (2, vI (x2 + 1))] [] P I16 (ri P R))))))))) :
    XM Γ m_X6_takeWord 0 0 16 [(0, vR 1), (1, vR (500 + i)), (2, vI x2)] [] P I (ri P R) := by
  refine x_iload_n (pc := 16) 2 dX6_takeWord_16 rfl ?_
  refine x_aload_n (pc := 17) 1 dX6_takeWord_17 rfl ?_
  refine x_slen (pc := 18) dX6_takeWord_18 hi ml_X6_85 ⟨Nat.le_of_ble_eq_true rfl, Nat.le_of_ble_eq_true rfl⟩ ⟨Nat.zero_le _, Nat.zero_le _⟩ (Nat.le_of_ble_eq_true rfl) ?_
  obtain ⟨hr1, h⟩ := h
  obtain ⟨hr2, h⟩ := h
  obtain ⟨hA3, hB4⟩ := h
  refine x_icmp_ge (pc := 21) 48 dX6_takeWord_21 (by decide) hr1 hr2 (fun hc => ?_) (fun hc => ?_)
  · have h := hA3 hc
    refine x_iload_n (pc := 48) 2 dX6_takeWord_48 rfl ?_
    refine x_aload_n (pc := 49) 1 dX6_takeWord_49 rfl ?_
    refine x_slen (pc := 50) dX6_takeWord_50 hi ml_X6_85 ⟨Nat.le_of_ble_eq_true rfl, Nat.le_of_ble_eq_true rfl⟩ ⟨Nat.zero_le _, Nat.zero_le _⟩ (Nat.le_of_ble_eq_true rfl) ?_
    obtain ⟨hA5, hB6⟩ := h
    refine x_icmp_lt (pc := 53) 76 dX6_takeWord_53 (by decide) hr1 hr2 (fun hc => ?_) (fun hc => ?_)
    · have h := hA5 hc
      refine x_iconst (pc := 76) dX6_takeWord_76 ?_
      exact x_zret (pc := 77) dX6_takeWord_77 rfl (by decide) (Nat.le_refl _) (Nat.le_refl _) ⟨_, rfl, rfl, h⟩
    · have h := hB6 hc
      refine x_aload_n (pc := 56) 0 dX6_takeWord_56 rfl ?_
      refine x_aload_n (pc := 57) 0 dX6_takeWord_57 rfl ?_
      refine x_getI (pc := 58) dX6_takeWord_58 FC6 4 (by decide) rfl fl_X6_60 (LM_ob hM) ?_
      refine x_iload_n (pc := 61) 2 dX6_takeWord_61 rfl ?_
      refine x_iadd (pc := 62) dX6_takeWord_62 ?_
      refine x_Vi (μ := m_X6_takeWord) (pc := 63) dX6_takeWord_63 h k_X6_byteAt ml_X6_63 ⟨Nat.le_of_ble_eq_true rfl, Nat.le_of_ble_eq_true rfl⟩ ⟨rfl, rfl⟩ ⟨Nat.zero_le _, Nat.zero_le _⟩ rfl (LM_ob hM) rfl (Nat.le_of_ble_eq_true rfl) _ rfl (fun z7 I8 h => ?_)
      refine x_bipush (pc := 66) dX6_takeWord_66 rfl ?_
      refine x_bipush (pc := 68) dX6_takeWord_68 rfl ?_
      refine x_Si (μ := m_X6_takeWord) (pc := 70) dX6_takeWord_70 h k_X6_in ml_X6_73 ⟨Nat.le_of_ble_eq_true rfl, Nat.le_of_ble_eq_true rfl⟩ ⟨rfl, rfl⟩ ⟨Nat.zero_le _, Nat.zero_le _⟩ rfl (Nat.le_of_ble_eq_true rfl) _ rfl (fun z9 I10 h => ?_)
      obtain ⟨hr11, h⟩ := h
      obtain ⟨hA12, hB13⟩ := h
      refine x_if_eq (pc := 73) 78 dX6_takeWord_73 (by decide) hr11 (fun hc => ?_) (fun hc => ?_)
      · have h := hA12 hc
        refine x_aload_n (pc := 78) 0 dX6_takeWord_78 rfl ?_
        refine x_dup (pc := 79) dX6_takeWord_79 rfl ?_
        refine x_getI (pc := 80) dX6_takeWord_80 FC6 4 (by decide) rfl fl_X6_60 (LM_ob hM) ?_
        refine x_iload_n (pc := 83) 2 dX6_takeWord_83 rfl ?_
        refine x_iadd (pc := 84) dX6_takeWord_84 ?_
        refine x_putI (pc := 85) dX6_takeWord_85 FC6 4 (by decide) rfl rfl fl_X6_60 (LM_ob hM) ?_
        refine x_nmI (fun I14 eI14 => ?_)
        have h := h I14 eI14
        refine x_iconst (pc := 88) dX6_takeWord_88 ?_
        exact x_zret (pc := 89) dX6_takeWord_89 rfl (by decide) (Nat.le_refl _) (Nat.le_refl _) ⟨_, rfl, rfl, h⟩
      · have h := hB13 hc
        refine x_iconst (pc := 76) dX6_takeWord_76 ?_
        exact x_zret (pc := 77) dX6_takeWord_77 rfl (by decide) (Nat.le_refl _) (Nat.le_refl _) ⟨_, rfl, rfl, h⟩
  · have h := hB4 hc
    refine x_aload_n (pc := 24) 0 dX6_takeWord_24 rfl ?_
    refine x_aload_n (pc := 25) 0 dX6_takeWord_25 rfl ?_
    refine x_getI (pc := 26) dX6_takeWord_26 FC6 4 (by decide) rfl fl_X6_60 (LM_ob hM) ?_
    refine x_iload_n (pc := 29) 2 dX6_takeWord_29 rfl ?_
    refine x_iadd (pc := 30) dX6_takeWord_30 ?_
    refine x_Vi (μ := m_X6_takeWord) (pc := 31) dX6_takeWord_31 h k_X6_byteAt ml_X6_63 ⟨Nat.le_of_ble_eq_true rfl, Nat.le_of_ble_eq_true rfl⟩ ⟨rfl, rfl⟩ ⟨Nat.zero_le _, Nat.zero_le _⟩ rfl (LM_ob hM) rfl (Nat.le_of_ble_eq_true rfl) _ rfl (fun z15 I16 h => ?_)
    refine x_aload_n (pc := 34) 1 dX6_takeWord_34 rfl ?_
    refine x_iload_n (pc := 35) 2 dX6_takeWord_35 rfl ?_
    obtain ⟨hv17, h⟩ := h
    obtain ⟨hv18, h⟩ := h
    refine x_schar (pc := 36) dX6_takeWord_36 hi ml_X6_90 ⟨Nat.le_of_ble_eq_true rfl, Nat.le_of_ble_eq_true rfl⟩ ⟨Nat.zero_le _, Nat.zero_le _⟩ (Nat.le_of_ble_eq_true rfl) hv17 hv18 ?_
    obtain ⟨hr19, h⟩ := h
    obtain ⟨hr20, h⟩ := h
    obtain ⟨hA21, hB22⟩ := h
    refine x_icmp_ne (pc := 39) 48 dX6_takeWord_39 (by decide) hr19 hr20 (fun hc => ?_) (fun hc => ?_)
    · have h := hA21 hc
      refine x_iload_n (pc := 48) 2 dX6_takeWord_48 rfl ?_
      refine x_aload_n (pc := 49) 1 dX6_takeWord_49 rfl ?_
      refine x_slen (pc := 50) dX6_takeWord_50 hi ml_X6_85 ⟨Nat.le_of_ble_eq_true rfl, Nat.le_of_ble_eq_true rfl⟩ ⟨Nat.zero_le _, Nat.zero_le _⟩ (Nat.le_of_ble_eq_true rfl) ?_
      obtain ⟨hA23, hB24⟩ := h
      refine x_icmp_lt (pc := 53) 76 dX6_takeWord_53 (by decide) hr1 hr2 (fun hc => ?_) (fun hc => ?_)
      · have h := hA23 hc
        refine x_iconst (pc := 76) dX6_takeWord_76 ?_
        exact x_zret (pc := 77) dX6_takeWord_77 rfl (by decide) (Nat.le_refl _) (Nat.le_refl _) ⟨_, rfl, rfl, h⟩
      · have h := hB24 hc
        refine x_aload_n (pc := 56) 0 dX6_takeWord_56 rfl ?_
        refine x_aload_n (pc := 57) 0 dX6_takeWord_57 rfl ?_
        refine x_getI (pc := 58) dX6_takeWord_58 FC6 4 (by decide) rfl fl_X6_60 (LM_ob hM) ?_
        refine x_iload_n (pc := 61) 2 dX6_takeWord_61 rfl ?_
        refine x_iadd (pc := 62) dX6_takeWord_62 ?_
        refine x_Vi (μ := m_X6_takeWord) (pc := 63) dX6_takeWord_63 h k_X6_byteAt ml_X6_63 ⟨Nat.le_of_ble_eq_true rfl, Nat.le_of_ble_eq_true rfl⟩ ⟨rfl, rfl⟩ ⟨Nat.zero_le _, Nat.zero_le _⟩ rfl (LM_ob hM) rfl (Nat.le_of_ble_eq_true rfl) _ rfl (fun z25 I26 h => ?_)
        refine x_bipush (pc := 66) dX6_takeWord_66 rfl ?_
        refine x_bipush (pc := 68) dX6_takeWord_68 rfl ?_
        refine x_Si (μ := m_X6_takeWord) (pc := 70) dX6_takeWord_70 h k_X6_in ml_X6_73 ⟨Nat.le_of_ble_eq_true rfl, Nat.le_of_ble_eq_true rfl⟩ ⟨rfl, rfl⟩ ⟨Nat.zero_le _, Nat.zero_le _⟩ rfl (Nat.le_of_ble_eq_true rfl) _ rfl (fun z27 I28 h => ?_)
        obtain ⟨hr29, h⟩ := h
        obtain ⟨hA30, hB31⟩ := h
        refine x_if_eq (pc := 73) 78 dX6_takeWord_73 (by decide) hr29 (fun hc => ?_) (fun hc => ?_)
        · have h := hA30 hc
          refine x_aload_n (pc := 78) 0 dX6_takeWord_78 rfl ?_
          refine x_dup (pc := 79) dX6_takeWord_79 rfl ?_
          refine x_getI (pc := 80) dX6_takeWord_80 FC6 4 (by decide) rfl fl_X6_60 (LM_ob hM) ?_
          refine x_iload_n (pc := 83) 2 dX6_takeWord_83 rfl ?_
          refine x_iadd (pc := 84) dX6_takeWord_84 ?_
          refine x_putI (pc := 85) dX6_takeWord_85 FC6 4 (by decide) rfl rfl fl_X6_60 (LM_ob hM) ?_
          refine x_nmI (fun I32 eI32 => ?_)
          have h := h I32 eI32
          refine x_iconst (pc := 88) dX6_takeWord_88 ?_
          exact x_zret (pc := 89) dX6_takeWord_89 rfl (by decide) (Nat.le_refl _) (Nat.le_refl _) ⟨_, rfl, rfl, h⟩
        · have h := hB31 hc
          refine x_iconst (pc := 76) dX6_takeWord_76 ?_
          exact x_zret (pc := 77) dX6_takeWord_77 rfl (by decide) (Nat.le_refl _) (Nat.le_refl _) ⟨_, rfl, rfl, h⟩
    · have h := hB22 hc
      refine x_iinc (pc := 42) (al' := [(0, vR 1), (1, vR (500 + i)), (2, vI (x2 + 1))]) 2 dX6_takeWord_42 rfl rfl rfl (Nat.le_of_ble_eq_true rfl) ?_
      refine x_goto (pc := 45) 16 dX6_takeWord_45 (by decide) ?_
      exact x_sub [0, 1, 2] rfl h
