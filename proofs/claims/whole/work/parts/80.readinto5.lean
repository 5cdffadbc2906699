/-! THE CLASS: readInto -/
section M5
variable {Γ : GG} {P : MP} {I : MM} {T : Nat → Int} {L σ : Nat} {QG : KG}
theorem g_readInto (hr : LRead Γ P) (hh : LShop Γ P σ (σ + 10) 1) (hσ : 1000 ≤ σ) (hB : Bw Γ P (σ + 11) (σ + 12)) (hI : I (σ + 10) 0 = -1) (hS : SH0 I σ) (hL : L ≤ 900) (hT : ∀ k : Nat, k < 900 → I 32 k = b8 (T k)) (hTb : ∀ k : Nat, k < 900 → 0 ≤ T k ∧ T k ≤ 255)
    (h1 : h1T Γ P I T L σ QG) (h0 : h0T Γ P I T L σ QG) : ClG Γ mA_X3r [vR 31, vR σ, vI (L : Int)] P I QG := by
  refine clg_of nA_X3r (Nat.le_of_ble_eq_true rfl) ?_
  refine y_aload_n 0 dX3_readInto_0 rfl ?_
  refine y_iconst dX3_readInto_1 ?_
  refine y_iload_n 2 dX3_readInto_2 rfl ?_
  refine y_sipush dX3_readInto_3 rfl ?_
  refine y_mmin dX3_readInto_6 ml_X3_45 mth_min.1 mth_min.2.1 mth_min.2.2 ⟨Nat.le_of_ble_eq_true rfl, Nat.le_of_ble_eq_true rfl⟩ ⟨by decide, by decide⟩ ⟨by omega, by omega⟩ ⟨by decide, by decide⟩ ?_
  rw [show min (L : Int) 900 = (L : Int) by omega]
  refine y_mmax dX3_readInto_9 ml_X3_51 mth_max.1 mth_max.2.1 mth_max.2.2 ⟨Nat.le_of_ble_eq_true rfl, Nat.le_of_ble_eq_true rfl⟩ ⟨by decide, by decide⟩ ⟨by decide, by decide⟩ ⟨by omega, by omega⟩ ?_
  rw [show max (0 : Int) (L : Int) = (L : Int) by omega]
  refine y_putI dX3_readInto_12 FC3 1 (by decide) rfl rfl fl_X3_15 (LRead_ob hr) ?_
  refine y_aload_n 0 dX3_readInto_15 rfl ?_
  refine y_iconst dX3_readInto_16 ?_
  refine y_putI dX3_readInto_17 FC3 3 (by decide) rfl rfl fl_X3_22 (LRead_ob hr) ?_
  refine y_aload_n 0 dX3_readInto_20 rfl ?_
  refine y_iconst dX3_readInto_21 ?_
  refine y_putI dX3_readInto_22 FC3 5 (by decide) rfl rfl fl_X3_28 (LRead_ob hr) ?_
  refine y_aload_n 0 dX3_readInto_25 rfl ?_
  refine y_iconst dX3_readInto_26 ?_
  refine y_putI dX3_readInto_27 FC3 6 (by decide) rfl rfl fl_X3_31 (LRead_ob hr) ?_
  refine y_aload_n 0 dX3_readInto_30 rfl ?_
  refine y_iconst dX3_readInto_31 ?_
  refine y_putZ dX3_readInto_32 FC3 7 (by decide) rfl rfl (Or.inl rfl) fl_X3_34 (LRead_ob hr) ?_
  refine y_aload_n 0 dX3_readInto_35 rfl ?_
  refine y_iconst dX3_readInto_36 ?_
  refine y_putI dX3_readInto_37 FC3 9 (by decide) rfl rfl fl_X3_42 (LRead_ob hr) ?_
  refine y_aload_n 0 dX3_readInto_40 rfl ?_
  generalize hA : up2 (up2 (up2 (up2 (up2 (up2 I 31 1 (L : Int)) 31 3 0) 31 5 0) 31 6 (-1)) 31 7 0) 31 9 0 = A
  have rA : ∀ r, r ≠ 31 → A r = I r := fun r h => by rw [← hA, up2_ne h, up2_ne h, up2_ne h, up2_ne h, up2_ne h, up2_ne h]
  have a1 : A 31 1 = (L : Int) := by rw [← hA, up2_nj (by decide), up2_nj (by decide), up2_nj (by decide), up2_nj (by decide), up2_nj (by decide), up2_eq]
  have a3 : A 31 3 = ((0 : Nat) : Int) := by rw [← hA, up2_nj (by decide), up2_nj (by decide), up2_nj (by decide), up2_nj (by decide), up2_eq]; rfl
  have a5 : A 31 5 = 0 := by rw [← hA, up2_nj (by decide), up2_nj (by decide), up2_nj (by decide), up2_eq]
  have a6 : A 31 6 = -1 := by rw [← hA, up2_nj (by decide), up2_nj (by decide), up2_eq]
  have a7 : A 31 7 = 0 := by rw [← hA, up2_nj (by decide), up2_eq]
  have a9 : A 31 9 = 0 := by rw [← hA, up2_eq]
  refine y_Vv (μ := mA_X3r) (Γ := Γ) dX3_readInto_41 (d_next (Rv := fun B => tcF A B ∧ TK B T L 0) hr ⟨fun k hk => by rw [rA 32 (by decide)]; exact hT k hk, a1, hL, hTb⟩ a5 a6 a3 (Nat.zero_le _) (fun B a b => ⟨a, b⟩)) k_X3_next ml_X3_54 ⟨Nat.le_of_ble_eq_true rfl, Nat.le_of_ble_eq_true rfl⟩ ⟨rfl, rfl⟩ ⟨Nat.zero_le _, Nat.zero_le _⟩ rfl (LRead_ob hr) rfl (Nat.le_of_ble_eq_true rfl) _ rfl (fun B hB2 => ?_)
  obtain ⟨b1, b2⟩ := hB2
  have FB : riF σ I B := fun r e1 _ _ => by rw [b1.1 r e1, rA r e1]
  have SB : SH0 B σ := fun r i e1 e2 => by rw [b1.1 r (by omega), rA r (by omega)]; exact hS r i e1 e2
  have B7 : B 31 7 = 0 := by rw [b1.2 7 (by decide)]; exact a7
  have B9 : B 31 9 = 0 := by rw [b1.2 9 (by decide)]; exact a9
  refine y_aload_n 0 dX3_readInto_44 rfl ?_
  refine y_aload_n 1 dX3_readInto_45 rfl ?_
  refine y_Vv (μ := mA_X3r) (Γ := Γ) dX3_readInto_46 (d_readHead (Rv := fun K => (∃ (a b : Nat × Int) (e : Nat), WD T L 7 (spc T L 0) ∧ numS T L (spc T L 0 + lenS.getD 7 0) 1 6 = .ok a ∧ numS T L a.1 0 1 = .ok b ∧ expS T L b.1 59 = .ok e ∧ jsF σ B K ∧ TK K T L e ∧ SHd K σ (hdW a.2 b.2) ∧ K σ 1 = 0) ∨ ∃ e, lodS T L = .error e ∧ jsF σ B K ∧ TKb K L e) hr hh hσ b2 SB (fun K a b e c1 c2 c3 c4 c5 c6 c7 c8 => Or.inl ⟨a, b, e, c1, c2, c3, c4, c5, c6, c7, c8⟩) (fun K e c1 c2 c3 _ => Or.inr ⟨e, c1 _, c2, c3⟩)) k_X3_readHead ml_X3_57 ⟨Nat.le_of_ble_eq_true rfl, Nat.le_of_ble_eq_true rfl⟩ ⟨rfl, rfl⟩ ⟨Nat.zero_le _, Nat.zero_le _⟩ rfl (LRead_ob hr) rfl (Nat.le_of_ble_eq_true rfl) _ rfl (fun K hK => ?_)
  refine y_iconst dX3_readInto_49 ?_
  refine y_istore_n dX3_readInto_50 rfl rfl (by decide) ?_
  rcases hK with ⟨a, b, e, c1, c2, c3, c4, c5, c6, c7, c8⟩ | ⟨e, c1, c2, c3⟩
  · obtain ⟨-, -, -, x1, x2, -, -⟩ := numS_ok c2
    obtain ⟨-, -, -, y1, y2, -, -⟩ := numS_ok c3
    have hd := hdW_ok ⟨x1, x2⟩ ⟨y1, y2⟩
    have d3 : hdW a.2 b.2 3 = 0 := by unfold hdW; rw [setD_ne (by decide), setD_ne (by decide)]
    have d2 : hdW a.2 b.2 2 = 0 := by unfold hdW; rw [setD_ne (by decide), setD_ne (by decide)]
    refine ri_51 hr hh hσ hB hI h1 h0 L 0 K (hdW a.2 b.2) [-1] e ⟨c6, c7, c8.trans d2.symm, hd.1, hd.2, ⟨by rw [c5.2 7 (by decide), B7, d3], fun _ => by rw [c5.2 9 (by decide)]; exact B9, fun z => absurd d3 z⟩, FB.trans c5.ri⟩ (Nat.le_add_left _ _) (Nat.zero_le _) ?_
    show lodS T L = _
    unfold lodS
    rw [pIf_t c1, c2]
    show bnd (numS T L a.1 0 1) _ = _
    rw [c3]
    show bnd (expS T L b.1 59) _ = _
    rw [c4]
    rfl
  · exact ri_bad51 (i := 0) hr h0 c1 ⟨c3, Or.inl (by rw [c2.2 7 (by decide)]; exact B7), FB.trans c2.ri⟩ (by decide)
end M5
