/-! the JDK's methods of Strings, over the constants -/
section JDK
variable {Γ : GG} {P : MP} {I : MM}
theorem lenS_lt : ∀ i : Nat, i < 9 → lenS.getD i 0 < 100 := by decide +kernel
theorem chS_ok : ∀ i : Nat, i < 9 → ∀ j : Nat, j < lenS.getD i 0 → 97 ≤ chS i j ∧ chS i j ≤ 122 := by decide +kernel
theorem c_coder {R : Int → MM → Prop} {i : Nat} (hi : i < 9) (h : R 0 I) : Cl Γ m_J0_coder_7d493 [vR (500 + i)] P I (ri P R) := by
  refine cl_of n_J0_coder_7d493 (Nat.le_of_ble_eq_true rfl) ?_
  refine x_getsC (pc := 0) dJ0_coder_7d493_0 fl_J0_38 ?_
  refine x_if_eq (pc := 3) 13 dJ0_coder_7d493_3 (by decide) ⟨by decide, by decide⟩ (fun hc => absurd hc (by decide)) (fun _ => ?_)
  refine x_aload_n (pc := 6) 0 dJ0_coder_7d493_6 rfl ?_
  refine x_getSc (pc := 7) dJ0_coder_7d493_7 hi fl_J0_15 ?_
  refine x_goto (pc := 10) 14 dJ0_coder_7d493_10 (by decide) ?_
  exact x_nret (pc := 14) .byte dJ0_coder_7d493_14 rfl rfl (Nat.le_refl _) (Nat.le_refl _) ⟨_, rfl, rfl, h⟩
theorem c_length {R : Int → MM → Prop} {i : Nat} (hi : i < 9) (h : R (lenS.getD i 0 : Nat) I) : Cl Γ m_J0_length_8abf5 [vR (500 + i)] P I (ri P R) := by
  refine cl_of n_J0_length_8abf5 (Nat.le_of_ble_eq_true rfl) ?_
  refine x_aload_n (pc := 0) 0 dJ0_length_8abf5_0 rfl ?_
  refine x_getSv (pc := 1) dJ0_length_8abf5_1 hi fl_J0_9 ?_
  refine x_alenS (pc := 4) dJ0_length_8abf5_4 hi ?_
  refine x_aload_n (pc := 5) 0 dJ0_length_8abf5_5 rfl ?_
  refine x_Vs (pc := 6) (R := fun z I' => z = 0 ∧ I' = I) dJ0_length_8abf5_6 hi (c_coder hi ⟨rfl, rfl⟩) k_J0_coder_7d493 ml_J0_335 ⟨Nat.le_of_ble_eq_true rfl, Nat.le_of_ble_eq_true rfl⟩ ⟨rfl, rfl⟩ ⟨Nat.zero_le _, Nat.zero_le _⟩ rfl rfl (Nat.le_of_ble_eq_true rfl) _ rfl (fun z I' hz => ?_)
  obtain ⟨rfl, rfl⟩ := hz
  have hl := lenS_lt i hi
  refine x_ishr (pc := 9) dJ0_length_8abf5_9 ⟨by omega, by omega⟩ (by decide) (by decide) ?_
  have e : ((lenS.getD i 0 : Nat) : Int) / ((2 ^ (0 : Int).toNat : Nat) : Int) = (lenS.getD i 0 : Nat) := by
    show ((lenS.getD i 0 : Nat) : Int) / 1 = _
    omega
  rw [e]
  exact x_iret (pc := 10) dJ0_length_8abf5_10 rfl (Nat.le_refl _) (Nat.le_refl _) ⟨_, rfl, rfl, h⟩
theorem c_isLatin1 {R : Int → MM → Prop} {i : Nat} (hi : i < 9) (h : R 1 I) : Cl Γ m_J0_isLatin1_aae02 [vR (500 + i)] P I (ri P R) := by
  refine cl_of n_J0_isLatin1_aae02 (Nat.le_of_ble_eq_true rfl) ?_
  refine x_getsC (pc := 0) dJ0_isLatin1_aae02_0 fl_J0_38 ?_
  refine x_if_eq (pc := 3) 17 dJ0_isLatin1_aae02_3 (by decide) ⟨by decide, by decide⟩ (fun hc => absurd hc (by decide)) (fun _ => ?_)
  refine x_aload_n (pc := 6) 0 dJ0_isLatin1_aae02_6 rfl ?_
  refine x_getSc (pc := 7) dJ0_isLatin1_aae02_7 hi fl_J0_15 ?_
  refine x_if_ne (pc := 10) 17 dJ0_isLatin1_aae02_10 (by decide) ⟨by decide, by decide⟩ (fun hc => absurd rfl hc) (fun _ => ?_)
  refine x_iconst (pc := 13) dJ0_isLatin1_aae02_13 ?_
  refine x_goto (pc := 14) 18 dJ0_isLatin1_aae02_14 (by decide) ?_
  exact x_zret (pc := 18) dJ0_isLatin1_aae02_18 rfl (by decide) (Nat.le_refl _) (Nat.le_refl _) ⟨_, rfl, rfl, h⟩
theorem c_precheck {R : Int → MM → Prop} {v : AV} {a b : Int} (hv : isLv v = false) (ha : inR a) (hb : inR b) (h0 : 0 ≤ a) (h1 : a < b) (h : R a I) : Cl Γ m_J3_checkIndex_8e157 [vI a, vI b, v] P I (ri P R) := by
  refine cl_of n_J3_checkIndex_8e157 (by rw [show avLen [vI a, vI b, v] = 1 + (1 + ((if isLv v then 2 else 1) + 0)) from rfl, hv]; decide) ?_
  show XM Γ m_J3_checkIndex_8e157 0 0 0 [(0, vI a), (1, vI b), (2, v)] [] P I (ri P R)
  refine x_iload_n (pc := 0) 0 dJ3_checkIndex_8e157_0 rfl ?_
  refine x_if_lt (pc := 1) 9 dJ3_checkIndex_8e157_1 (by decide) ha (fun hc => absurd hc (by omega)) (fun _ => ?_)
  refine x_iload_n (pc := 4) 0 dJ3_checkIndex_8e157_4 rfl ?_
  refine x_iload_n (pc := 5) 1 dJ3_checkIndex_8e157_5 rfl ?_
  refine x_icmp_lt (pc := 6) 16 dJ3_checkIndex_8e157_6 (by decide) ha hb (fun _ => ?_) (fun hc => absurd h1 hc)
  refine x_iload_n (pc := 16) 0 dJ3_checkIndex_8e157_16 rfl ?_
  exact x_iret (pc := 17) dJ3_checkIndex_8e157_17 rfl (Nat.le_refl _) (Nat.le_refl _) ⟨_, rfl, rfl, h⟩
theorem c_checkIndex {R : MM → Prop} {a b : Int} (ha : inR a) (hb : inR b) (h0 : 0 ≤ a) (h1 : a < b) (h : R I) : Cl Γ m_J0_checkIndex_df160 [vI a, vI b] P I (rv P R) := by
  refine cl_of n_J0_checkIndex_df160 (Nat.le_of_ble_eq_true rfl) ?_
  refine x_iload_n (pc := 0) 0 dJ0_checkIndex_df160_0 rfl ?_
  refine x_iload_n (pc := 1) 1 dJ0_checkIndex_df160_1 rfl ?_
  refine x_getsF (pc := 2) dJ0_checkIndex_df160_2 fl_J0_1053 (fun v hv => ?_)
  refine x_Si (pc := 5) (R := fun z I' => I' = I) dJ0_checkIndex_df160_5 (c_precheck hv ha hb h0 h1 rfl) k_J3_checkIndex_8e157 ml_J0_1059 ⟨Nat.le_of_ble_eq_true rfl, Nat.le_of_ble_eq_true rfl⟩ ⟨rfl, rfl⟩ ⟨Nat.zero_le _, Nat.zero_le _⟩ rfl (Nat.le_of_ble_eq_true rfl) _ rfl (fun z I' hz => ?_)
  subst hz
  refine x_pop (pc := 8) dJ0_checkIndex_df160_8 rfl ?_
  exact x_vret (pc := 9) dJ0_checkIndex_df160_9 rfl (Nat.le_refl _) (Nat.le_refl _) ⟨rfl, rfl, h⟩
theorem c_charL1 {R : Int → MM → Prop} {i : Nat} {a : Int} (hi : i < 9) (h0 : 0 ≤ a) (h1 : a < (lenS.getD i 0 : Nat)) (h : R (chS i a.toNat) I) : Cl Γ m_J1_charAt_3b067 [vR (600 + i), vI a] P I (ri P R) := by
  have hl := lenS_lt i hi
  have hch := chS_ok i hi a.toNat (by omega)
  refine cl_of n_J1_charAt_3b067 (Nat.le_of_ble_eq_true rfl) ?_
  refine x_iload_n (pc := 0) 1 dJ1_charAt_3b067_0 rfl ?_
  refine x_aload_n (pc := 1) 0 dJ1_charAt_3b067_1 rfl ?_
  refine x_alenS (pc := 2) dJ1_charAt_3b067_2 hi ?_
  refine x_Sv (pc := 3) (R := fun I' => I' = I) dJ1_charAt_3b067_3 (c_checkIndex ⟨by omega, by omega⟩ ⟨by omega, by omega⟩ h0 h1 rfl) k_J0_checkIndex_df160 ml_J1_9 ⟨Nat.le_of_ble_eq_true rfl, Nat.le_of_ble_eq_true rfl⟩ ⟨rfl, rfl⟩ ⟨Nat.zero_le _, Nat.zero_le _⟩ rfl (Nat.le_of_ble_eq_true rfl) _ rfl (fun I' hz => ?_)
  subst hz
  refine x_aload_n (pc := 6) 0 dJ1_charAt_3b067_6 rfl ?_
  refine x_iload_n (pc := 7) 1 dJ1_charAt_3b067_7 rfl ?_
  refine x_baldS (pc := 8) dJ1_charAt_3b067_8 hi h0 h1 hl ?_
  refine x_sipush (pc := 9) dJ1_charAt_3b067_9 rfl ?_
  refine x_iandM (pc := 12) dJ1_charAt_3b067_12 8 (by decide +kernel) (by decide) ?_
  have e : chS i a.toNat % ((2 ^ 8 : Nat) : Int) = chS i a.toNat := by
    show chS i a.toNat % 256 = _
    omega
  rw [e]
  refine x_i2c (pc := 13) dJ1_charAt_3b067_13 (by omega) (by omega) ?_
  refine x_nret (pc := 14) .char dJ1_charAt_3b067_14 rfl ?_ (Nat.le_refl _) (Nat.le_refl _) ⟨_, rfl, rfl, h⟩
  obtain ⟨n, hn⟩ := Int.eq_ofNat_of_zero_le (show 0 ≤ chS i a.toNat by omega)
  rw [hn, Int32.ofInt_eq_ofNat]
  exact (pk_charN (by omega)).1
theorem c_charAt {R : Int → MM → Prop} {i : Nat} {a : Int} (hi : i < 9) (h0 : 0 ≤ a) (h1 : a < (lenS.getD i 0 : Nat)) (h : R (chS i a.toNat) I) : Cl Γ m_J0_charAt_5068e [vR (500 + i), vI a] P I (ri P R) := by
  have hl := lenS_lt i hi
  have hch := chS_ok i hi a.toNat (by omega)
  refine cl_of n_J0_charAt_5068e (Nat.le_of_ble_eq_true rfl) ?_
  refine x_aload_n (pc := 0) 0 dJ0_charAt_5068e_0 rfl ?_
  refine x_Vs (pc := 1) (R := fun z I' => z = 1 ∧ I' = I) dJ0_charAt_5068e_1 hi (c_isLatin1 hi ⟨rfl, rfl⟩) k_J0_isLatin1_aae02 ml_J0_492 ⟨Nat.le_of_ble_eq_true rfl, Nat.le_of_ble_eq_true rfl⟩ ⟨rfl, rfl⟩ ⟨Nat.zero_le _, Nat.zero_le _⟩ rfl rfl (Nat.le_of_ble_eq_true rfl) _ rfl (fun z I' hz => ?_)
  obtain ⟨rfl, rfl⟩ := hz
  refine x_if_eq (pc := 4) 16 dJ0_charAt_5068e_4 (by decide) ⟨by decide, by decide⟩ (fun hc => absurd hc (by decide)) (fun _ => ?_)
  refine x_aload_n (pc := 7) 0 dJ0_charAt_5068e_7 rfl ?_
  refine x_getSv (pc := 8) dJ0_charAt_5068e_8 hi fl_J0_9 ?_
  refine x_iload_n (pc := 11) 1 dJ0_charAt_5068e_11 rfl ?_
  refine x_Si (pc := 12) (R := fun z I'' => z = chS i a.toNat ∧ I'' = I') dJ0_charAt_5068e_12 (c_charL1 hi h0 h1 ⟨rfl, rfl⟩) k_J1_charAt_3b067 ml_J0_495 ⟨Nat.le_of_ble_eq_true rfl, Nat.le_of_ble_eq_true rfl⟩ ⟨rfl, rfl⟩ ⟨Nat.zero_le _, Nat.zero_le _⟩ rfl (Nat.le_of_ble_eq_true rfl) _ rfl (fun z I'' hz => ?_)
  obtain ⟨rfl, rfl⟩ := hz
  refine x_nret (pc := 15) .char dJ0_charAt_5068e_15 rfl ?_ (Nat.le_refl _) (Nat.le_refl _) ⟨_, rfl, rfl, h⟩
  obtain ⟨n, hn⟩ := Int.eq_ofNat_of_zero_le (show 0 ≤ chS i a.toNat by omega)
  rw [hn, Int32.ofInt_eq_ofNat]
  exact (pk_charN (by omega)).1
end JDK
section XR
variable {Γ : GG} {μ : MI} {cells slots pc : Nat} {al : List (Nat × AV)} {st : List AV} {P : MP} {I : MM} {Q : QT}
theorem x_slen {i index : Nat} (hd : decode μ.2.2.1 pc = .ok (.invokevirtual index, 3)) (hi : i < 9) (hm : Cond.methodLink μ.2.1 index m_J0_length_8abf5.1 ∈ lwU) (hR : LkR μ m_J0_length_8abf5) (hf : cells ≤ μ.2.2.2.2.2.cells ∧ slots ≤ μ.2.2.2.2.2.slots) (hs : avLen st ≤ 8) (k : XM Γ μ cells slots (pc + 3) al (vI (lenS.getD i 0 : Nat) :: st) P I Q) : XM Γ μ cells slots pc al (vR (500 + i) :: st) P I Q :=
  x_Vs (R := fun z I' => z = (lenS.getD i 0 : Nat) ∧ I' = I) (as := []) hd hi (c_length hi ⟨rfl, rfl⟩) k_J0_length_8abf5 hm hR ⟨rfl, rfl⟩ hf rfl rfl hs _ rfl (fun z I' h => by obtain ⟨rfl, rfl⟩ := h; exact k)
theorem x_schar {i index : Nat} {a : Int} (hd : decode μ.2.2.1 pc = .ok (.invokevirtual index, 3)) (hi : i < 9) (hm : Cond.methodLink μ.2.1 index m_J0_charAt_5068e.1 ∈ lwU) (hR : LkR μ m_J0_charAt_5068e) (hf : cells ≤ μ.2.2.2.2.2.cells ∧ slots ≤ μ.2.2.2.2.2.slots) (hs : avLen st ≤ 8) (h0 : 0 ≤ a) (h1 : a < (lenS.getD i 0 : Nat)) (k : XM Γ μ cells slots (pc + 3) al (vI (chS i a.toNat) :: st) P I Q) : XM Γ μ cells slots pc al (vI a :: vR (500 + i) :: st) P I Q :=
  x_Vs (R := fun z I' => z = chS i a.toNat ∧ I' = I) (as := [vI a]) hd hi (c_charAt hi h0 h1 ⟨rfl, rfl⟩) k_J0_charAt_5068e hm hR ⟨rfl, rfl⟩ hf rfl rfl hs _ rfl (fun z I' h => by obtain ⟨rfl, rfl⟩ := h; exact k)
end XR
