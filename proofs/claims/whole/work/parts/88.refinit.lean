/-! THE REFERENCE's constructor (mkini2.py) -/
theorem muP_ne {P : MP} {i j0 n x : Nat} (a : x ≠ i) (b : ¬ (j0 ≤ x ∧ x < j0 + n)) : muP P i j0 n x = P x := by funext k; simp only [muP, a, b, if_false]
theorem muM_ne {I : MM} {i j0 n x : Nat} (a : x ≠ i) (b : ¬ (j0 ≤ x ∧ x < j0 + n)) : muM I i j0 n x = I x := by funext k; simp only [muM, a, b, if_false]
theorem mu0 {I : MM} {i j0 n x k : Nat} (h : x ≠ i → ¬ (j0 ≤ x ∧ x < j0 + n) → I x k = 0) : muM I i j0 n x k = 0 := by
  unfold muM
  split
  · rfl
  · split
    · rfl
    · exact h (by assumption) (by assumption)
theorem Bw.multi {Γ : GG} {P : MP} {lo hi i j0 n k h : Nat} (hB : Bw Γ P lo hi) (hi' : i < lo ∨ hi ≤ i) (hj : j0 + n ≤ lo ∨ hi ≤ j0) (hn : n ≤ 30) (h48 : i < 48) : Bw (gM Γ i j0 n k h) (muP P i j0 n) lo hi := by
  refine ⟨fun x hx => ?_, fun j hj2 k2 r hk hr => ?_, fun j hj2 ek m ht h4 => ?_⟩
  · rcases List.mem_append.mp hx with hx | hx
    · exact hB.1 x hx
    · obtain ⟨t, ht, rfl⟩ := List.mem_map.mp hx
      have := List.mem_range.mp ht
      unfold muId
      split <;> omega
  · by_cases a : j = i
    · simp only [muP, a, if_true] at hr
      by_cases b : k2 < n
      · simp only [b, if_true] at hr
        have := Option.some.inj hr
        omega
      · simp only [b, if_false] at hr
        cases hr
    · by_cases b : j0 ≤ j ∧ j < j0 + n
      · simp only [muP, a, b, and_self, if_false, if_true] at hr
        cases hr
      · rw [muP_ne a b] at hr
        rcases List.mem_append.mp hj2 with hx | hx
        · exact hB.2.1 j hx k2 r hk hr
        · obtain ⟨t, ht, rfl⟩ := List.mem_map.mp hx
          have := List.mem_range.mp ht
          unfold muId at a b
          split at a <;> simp_all <;> omega
  · by_cases a : j = i
    · refine ⟨by omega, fun k2 hk => ?_⟩
      simp only [muP, a, if_true]
      rw [if_neg (by omega)]
    · by_cases b : j0 ≤ j ∧ j < j0 + n
      · simp only [gt, gX, muT, a, b, and_self, if_false, if_true] at ht
        cases ht
        omega
      · rw [muP_ne a b]
        rcases List.mem_append.mp hj2 with hx | hx
        · exact hB.2.2 j hx ek m (by simpa only [gt, gX, muT, a, b, if_false] using ht) h4
        · obtain ⟨t, ht2, rfl⟩ := List.mem_map.mp hx
          have := List.mem_range.mp ht2
          unfold muId at a b
          split at a <;> simp_all <;> omega
theorem upn0 {f : MM} {a b r k : Nat} {v : Int} (hr : r ≠ a) (h : f r k = 0) : up2 f a b v r k = 0 := by rw [up2_ne hr]; exact h
theorem mu_o6 {Γa Γ : GG} {i j0 n k h : Nat} (_ : Kp Γa (gM Γ i j0 n k h)) : Ob (gM Γ i j0 n k h) i (.inr (5, n)) := gM_o
theorem mu_oi {Γa Γ : GG} {i j0 n k h j : Nat} (_ : Kp Γa (gM Γ i j0 n k h)) (hi : i < j0 ∨ j0 + n ≤ i) (hj : j < n) : Ob (gM Γ i j0 n k h) (j0 + j) (.inr (0, k)) := gM_i hi hj
abbrev mA_X6 : MI := (yX6_init, RX6, cX6_init, 1, none, { frames := 2, cells := 19, slots := 20793, locals := 80 })
theorem nA_X6 : Nm mA_X6 := ⟨by decide +kernel, rfl⟩
theorem kA_X6 : LkI mA_X6 0 := ⟨inU 902 (by decide +kernel) rfl, inU 7 (by decide +kernel) rfl, inU 903 (by decide +kernel) rfl, ⟨by decide +kernel, by decide +kernel, by decide +kernel⟩, rfl, rfl⟩
theorem cl_X6_26 : Cond.classLink RX6 26 ("[" ++ (FieldType.array .int).toString) ∈ lwU := inU 905 (by decide +kernel) rfl
theorem g_X6 {Γ : GG} {P : MP} {I : MM} (ho : Ob Γ 1 (.inl 6)) (hI : ∀ k, I 1 k = 0) (hB : Bw Γ P 2 21) : ClG Γ mA_X6 [vR 1] P I (fun Γ' v P' I' => v = none ∧ Kp Γ Γ' ∧ (∀ lo hi, 21 ≤ lo → Bw Γ P lo hi → Bw Γ' P' lo hi) ∧ (∀ j, (j < 1 ∨ 21 ≤ j) → P' j = P j ∧ I' j = I j) ∧ LM Γ' P' ∧ (∀ r k, 2 ≤ r → r < 21 → I' r k = 0) ∧ I' 1 7 = -1 ∧ ∀ k, k ≠ 7 → I' 1 k = 0) := by
  refine clg_of nA_X6 (Nat.le_of_ble_eq_true rfl) ?_
  refine y_aload_n 0 dX6_init_0 rfl ?_
  refine y_objI dX6_init_1 obl_X6 (by decide) (by decide) ?_
  refine y_aload_n 0 dX6_init_4 rfl ?_
  refine y_sipush dX6_init_5 rfl ?_
  have f1 := Bw.fsh (i := 2) hB (by omega) (by omega)
  refine y_newarr (i := 2) (ek := 0) (atype := .int) dX6_init_8 (by decide) rfl arw_int (by decide) (by decide) f1 (rfs_l ho (rfs_s ho rfs_nil)) (by decide) (by decide) (fun q1 => ?_)
  have o1_1 := ob_new (j := 2) (q := q1) (t := .inr (0, (900 : Int).toNat)) ho (by omega)
  have B1 := (Bw.mono (lo' := 3) (hi' := 21) hB (by omega) (by omega)).new (i := 2) (q := q1) (t := .inr (0, (900 : Int).toNat)) (by omega)
  have hk1 := Kp.tr (Kp.rf (Γ := Γ)) (gN_kp (q := q1) (t := .inr (0, (900 : Int).toNat)) f1)
  have o1_2 := kp_n hk1
  refine y_putF dX6_init_10 FC6 1 (by decide) rfl rfl rfl rfl fl_X6_9 o1_1 ?_
  have B2 := B1.up (i := 1) (k := 1) (r := 2) (by omega)
  refine y_aload_n 0 dX6_init_13 rfl ?_
  refine y_iconst dX6_init_14 ?_
  refine y_putI dX6_init_15 FC6 7 (by decide) rfl rfl fl_X6_13 o1_1 ?_
  refine y_aload_n 0 dX6_init_18 rfl ?_
  refine y_sipush dX6_init_19 rfl ?_
  have f3 := Bw.fsh (i := 3) B2 (by omega) (by omega)
  refine y_newarr (i := 3) (ek := 0) (atype := .int) dX6_init_22 (by decide) rfl arw_int (by decide) (by decide) f3 (rfs_l o1_1 (rfs_s o1_1 rfs_nil)) (by decide) (by decide) (fun q3 => ?_)
  have o3_1 := ob_new (j := 3) (q := q3) (t := .inr (0, (1655 : Int).toNat)) o1_1 (by omega)
  have o3_2 := ob_new (j := 3) (q := q3) (t := .inr (0, (1655 : Int).toNat)) o1_2 (by omega)
  have B3 := (Bw.mono (lo' := 4) (hi' := 21) B2 (by omega) (by omega)).new (i := 3) (q := q3) (t := .inr (0, (1655 : Int).toNat)) (by omega)
  have hk3 := Kp.tr hk1 (gN_kp (q := q3) (t := .inr (0, (1655 : Int).toNat)) f3)
  have o3_3 := kp_n hk3
  refine y_putF dX6_init_24 FC6 8 (by decide) rfl rfl rfl rfl fl_X6_17 o3_1 ?_
  have B4 := B3.up (i := 1) (k := 8) (r := 3) (by omega)
  refine y_aload_n 0 dX6_init_27 rfl ?_
  refine y_sipush dX6_init_28 rfl ?_
  have f5 := Bw.fsh (i := 4) B4 (by omega) (by omega)
  refine y_newarr (i := 4) (ek := 0) (atype := .int) dX6_init_31 (by decide) rfl arw_int (by decide) (by decide) f5 (rfs_l o3_1 (rfs_s o3_1 rfs_nil)) (by decide) (by decide) (fun q5 => ?_)
  have o5_1 := ob_new (j := 4) (q := q5) (t := .inr (0, (1655 : Int).toNat)) o3_1 (by omega)
  have o5_2 := ob_new (j := 4) (q := q5) (t := .inr (0, (1655 : Int).toNat)) o3_2 (by omega)
  have o5_3 := ob_new (j := 4) (q := q5) (t := .inr (0, (1655 : Int).toNat)) o3_3 (by omega)
  have B5 := (Bw.mono (lo' := 5) (hi' := 21) B4 (by omega) (by omega)).new (i := 4) (q := q5) (t := .inr (0, (1655 : Int).toNat)) (by omega)
  have hk5 := Kp.tr hk3 (gN_kp (q := q5) (t := .inr (0, (1655 : Int).toNat)) f5)
  have o5_4 := kp_n hk5
  refine y_putF dX6_init_33 FC6 9 (by decide) rfl rfl rfl rfl fl_X6_20 o5_1 ?_
  have B6 := B5.up (i := 1) (k := 9) (r := 4) (by omega)
  refine y_aload_n 0 dX6_init_36 rfl ?_
  refine y_sipush dX6_init_37 rfl ?_
  have f7 := Bw.fsh (i := 5) B6 (by omega) (by omega)
  refine y_newarr (i := 5) (ek := 0) (atype := .int) dX6_init_40 (by decide) rfl arw_int (by decide) (by decide) f7 (rfs_l o5_1 (rfs_s o5_1 rfs_nil)) (by decide) (by decide) (fun q7 => ?_)
  have o7_1 := ob_new (j := 5) (q := q7) (t := .inr (0, (1655 : Int).toNat)) o5_1 (by omega)
  have o7_2 := ob_new (j := 5) (q := q7) (t := .inr (0, (1655 : Int).toNat)) o5_2 (by omega)
  have o7_3 := ob_new (j := 5) (q := q7) (t := .inr (0, (1655 : Int).toNat)) o5_3 (by omega)
  have o7_4 := ob_new (j := 5) (q := q7) (t := .inr (0, (1655 : Int).toNat)) o5_4 (by omega)
  have B7 := (Bw.mono (lo' := 6) (hi' := 21) B6 (by omega) (by omega)).new (i := 5) (q := q7) (t := .inr (0, (1655 : Int).toNat)) (by omega)
  have hk7 := Kp.tr hk5 (gN_kp (q := q7) (t := .inr (0, (1655 : Int).toNat)) f7)
  have o7_5 := kp_n hk7
  refine y_putF dX6_init_42 FC6 10 (by decide) rfl rfl rfl rfl fl_X6_23 o7_1 ?_
  have B8 := B7.up (i := 1) (k := 10) (r := 5) (by omega)
  refine y_aload_n 0 dX6_init_45 rfl ?_
  refine y_bipush dX6_init_46 rfl ?_
  refine y_sipush dX6_init_48 rfl ?_
  have f9 : muF0 _ _ 6 13 8 := ⟨Bw.fsh B8 (by omega) (by omega), fun j hj => Bw.fsh B8 (by omega) (by omega), by omega⟩
  refine y_multi (i := 6) (j0 := 13) 8 1655 rfl rfl dX6_init_51 cl_X6_26 (by decide) (by decide) f9 (rfs_l o7_1 (rfs_s o7_1 rfs_nil)) (by decide) (by decide) (fun q9 => ?_)
  have o9_1 := o7_1.keep (gM_kp (k := 1655) (h := q9) f9)
  have o9_2 := o7_2.keep (gM_kp (k := 1655) (h := q9) f9)
  have o9_3 := o7_3.keep (gM_kp (k := 1655) (h := q9) f9)
  have o9_4 := o7_4.keep (gM_kp (k := 1655) (h := q9) f9)
  have o9_5 := o7_5.keep (gM_kp (k := 1655) (h := q9) f9)
  have B9 := (Bw.mono (lo' := 7) (hi' := 13) B8 (by omega) (by omega)).multi (i := 6) (j0 := 13) (n := 8) (k := 1655) (h := q9) (by omega) (by omega) (by omega) (by omega)
  have hk9 := Kp.tr hk7 (gM_kp (k := 1655) (h := q9) f9)
  have o9_6 := mu_o6 hk9
  have om : ∀ j, j < 8 → Ob _ (13 + j) _ := fun j hj => mu_oi hk9 (by omega) hj
  refine y_putF dX6_init_55 FC6 11 (by decide) rfl rfl rfl rfl fl_X6_28 o9_1 ?_
  have B10 := B9.up (i := 1) (k := 11) (r := 6) (by omega)
  refine y_aload_n 0 dX6_init_58 rfl ?_
  refine y_bipush dX6_init_59 rfl ?_
  have f11 := Bw.fsh (i := 7) B10 (by omega) (by omega)
  refine y_newarr (i := 7) (ek := 0) (atype := .int) dX6_init_61 (by decide) rfl arw_int (by decide) (by decide) f11 (rfs_l o9_1 (rfs_s o9_1 rfs_nil)) (by decide) (by decide) (fun q11 => ?_)
  have o11_1 := ob_new (j := 7) (q := q11) (t := .inr (0, (36 : Int).toNat)) o9_1 (by omega)
  have o11_2 := ob_new (j := 7) (q := q11) (t := .inr (0, (36 : Int).toNat)) o9_2 (by omega)
  have o11_3 := ob_new (j := 7) (q := q11) (t := .inr (0, (36 : Int).toNat)) o9_3 (by omega)
  have o11_4 := ob_new (j := 7) (q := q11) (t := .inr (0, (36 : Int).toNat)) o9_4 (by omega)
  have o11_5 := ob_new (j := 7) (q := q11) (t := .inr (0, (36 : Int).toNat)) o9_5 (by omega)
  have o11_6 := ob_new (j := 7) (q := q11) (t := .inr (0, (36 : Int).toNat)) o9_6 (by omega)
  have B11 := (Bw.mono (lo' := 8) (hi' := 13) B10 (by omega) (by omega)).new (i := 7) (q := q11) (t := .inr (0, (36 : Int).toNat)) (by omega)
  have hk11 := Kp.tr hk9 (gN_kp (q := q11) (t := .inr (0, (36 : Int).toNat)) f11)
  have o11_7 := kp_n hk11
  refine y_putF dX6_init_63 FC6 16 (by decide) rfl rfl rfl rfl fl_X6_31 o11_1 ?_
  have B12 := B11.up (i := 1) (k := 16) (r := 7) (by omega)
  refine y_aload_n 0 dX6_init_66 rfl ?_
  refine y_bipush dX6_init_67 rfl ?_
  have f13 := Bw.fsh (i := 8) B12 (by omega) (by omega)
  refine y_newarr (i := 8) (ek := 0) (atype := .int) dX6_init_69 (by decide) rfl arw_int (by decide) (by decide) f13 (rfs_l o11_1 (rfs_s o11_1 rfs_nil)) (by decide) (by decide) (fun q13 => ?_)
  have o13_1 := ob_new (j := 8) (q := q13) (t := .inr (0, (36 : Int).toNat)) o11_1 (by omega)
  have o13_2 := ob_new (j := 8) (q := q13) (t := .inr (0, (36 : Int).toNat)) o11_2 (by omega)
  have o13_3 := ob_new (j := 8) (q := q13) (t := .inr (0, (36 : Int).toNat)) o11_3 (by omega)
  have o13_4 := ob_new (j := 8) (q := q13) (t := .inr (0, (36 : Int).toNat)) o11_4 (by omega)
  have o13_5 := ob_new (j := 8) (q := q13) (t := .inr (0, (36 : Int).toNat)) o11_5 (by omega)
  have o13_6 := ob_new (j := 8) (q := q13) (t := .inr (0, (36 : Int).toNat)) o11_6 (by omega)
  have o13_7 := ob_new (j := 8) (q := q13) (t := .inr (0, (36 : Int).toNat)) o11_7 (by omega)
  have B13 := (Bw.mono (lo' := 9) (hi' := 13) B12 (by omega) (by omega)).new (i := 8) (q := q13) (t := .inr (0, (36 : Int).toNat)) (by omega)
  have hk13 := Kp.tr hk11 (gN_kp (q := q13) (t := .inr (0, (36 : Int).toNat)) f13)
  have o13_8 := kp_n hk13
  refine y_putF dX6_init_71 FC6 17 (by decide) rfl rfl rfl rfl fl_X6_34 o13_1 ?_
  have B14 := B13.up (i := 1) (k := 17) (r := 8) (by omega)
  refine y_aload_n 0 dX6_init_74 rfl ?_
  refine y_bipush dX6_init_75 rfl ?_
  have f15 := Bw.fsh (i := 9) B14 (by omega) (by omega)
  refine y_newarr (i := 9) (ek := 0) (atype := .int) dX6_init_77 (by decide) rfl arw_int (by decide) (by decide) f15 (rfs_l o13_1 (rfs_s o13_1 rfs_nil)) (by decide) (by decide) (fun q15 => ?_)
  have o15_1 := ob_new (j := 9) (q := q15) (t := .inr (0, (36 : Int).toNat)) o13_1 (by omega)
  have o15_2 := ob_new (j := 9) (q := q15) (t := .inr (0, (36 : Int).toNat)) o13_2 (by omega)
  have o15_3 := ob_new (j := 9) (q := q15) (t := .inr (0, (36 : Int).toNat)) o13_3 (by omega)
  have o15_4 := ob_new (j := 9) (q := q15) (t := .inr (0, (36 : Int).toNat)) o13_4 (by omega)
  have o15_5 := ob_new (j := 9) (q := q15) (t := .inr (0, (36 : Int).toNat)) o13_5 (by omega)
  have o15_6 := ob_new (j := 9) (q := q15) (t := .inr (0, (36 : Int).toNat)) o13_6 (by omega)
  have o15_7 := ob_new (j := 9) (q := q15) (t := .inr (0, (36 : Int).toNat)) o13_7 (by omega)
  have o15_8 := ob_new (j := 9) (q := q15) (t := .inr (0, (36 : Int).toNat)) o13_8 (by omega)
  have B15 := (Bw.mono (lo' := 10) (hi' := 13) B14 (by omega) (by omega)).new (i := 9) (q := q15) (t := .inr (0, (36 : Int).toNat)) (by omega)
  have hk15 := Kp.tr hk13 (gN_kp (q := q15) (t := .inr (0, (36 : Int).toNat)) f15)
  have o15_9 := kp_n hk15
  refine y_putF dX6_init_79 FC6 18 (by decide) rfl rfl rfl rfl fl_X6_37 o15_1 ?_
  have B16 := B15.up (i := 1) (k := 18) (r := 9) (by omega)
  refine y_aload_n 0 dX6_init_82 rfl ?_
  refine y_bipush dX6_init_83 rfl ?_
  have f17 := Bw.fsh (i := 10) B16 (by omega) (by omega)
  refine y_newarr (i := 10) (ek := 2) (atype := .boolean) dX6_init_85 (by decide) rfl arw_boolean (by decide) (by decide) f17 (rfs_l o15_1 (rfs_s o15_1 rfs_nil)) (by decide) (by decide) (fun q17 => ?_)
  have o17_1 := ob_new (j := 10) (q := q17) (t := .inr (2, (36 : Int).toNat)) o15_1 (by omega)
  have o17_2 := ob_new (j := 10) (q := q17) (t := .inr (2, (36 : Int).toNat)) o15_2 (by omega)
  have o17_3 := ob_new (j := 10) (q := q17) (t := .inr (2, (36 : Int).toNat)) o15_3 (by omega)
  have o17_4 := ob_new (j := 10) (q := q17) (t := .inr (2, (36 : Int).toNat)) o15_4 (by omega)
  have o17_5 := ob_new (j := 10) (q := q17) (t := .inr (2, (36 : Int).toNat)) o15_5 (by omega)
  have o17_6 := ob_new (j := 10) (q := q17) (t := .inr (2, (36 : Int).toNat)) o15_6 (by omega)
  have o17_7 := ob_new (j := 10) (q := q17) (t := .inr (2, (36 : Int).toNat)) o15_7 (by omega)
  have o17_8 := ob_new (j := 10) (q := q17) (t := .inr (2, (36 : Int).toNat)) o15_8 (by omega)
  have o17_9 := ob_new (j := 10) (q := q17) (t := .inr (2, (36 : Int).toNat)) o15_9 (by omega)
  have B17 := (Bw.mono (lo' := 11) (hi' := 13) B16 (by omega) (by omega)).new (i := 10) (q := q17) (t := .inr (2, (36 : Int).toNat)) (by omega)
  have hk17 := Kp.tr hk15 (gN_kp (q := q17) (t := .inr (2, (36 : Int).toNat)) f17)
  have o17_10 := kp_n hk17
  refine y_putF dX6_init_87 FC6 19 (by decide) rfl rfl rfl rfl fl_X6_40 o17_1 ?_
  have B18 := B17.up (i := 1) (k := 19) (r := 10) (by omega)
  refine y_aload_n 0 dX6_init_90 rfl ?_
  refine y_sipush dX6_init_91 rfl ?_
  have f19 := Bw.fsh (i := 11) B18 (by omega) (by omega)
  refine y_newarr (i := 11) (ek := 3) (atype := .long) dX6_init_94 (by decide) rfl arw_long (by decide) (by decide) f19 (rfs_l o17_1 (rfs_s o17_1 rfs_nil)) (by decide) (by decide) (fun q19 => ?_)
  have o19_1 := ob_new (j := 11) (q := q19) (t := .inr (3, (1500 : Int).toNat)) o17_1 (by omega)
  have o19_2 := ob_new (j := 11) (q := q19) (t := .inr (3, (1500 : Int).toNat)) o17_2 (by omega)
  have o19_3 := ob_new (j := 11) (q := q19) (t := .inr (3, (1500 : Int).toNat)) o17_3 (by omega)
  have o19_4 := ob_new (j := 11) (q := q19) (t := .inr (3, (1500 : Int).toNat)) o17_4 (by omega)
  have o19_5 := ob_new (j := 11) (q := q19) (t := .inr (3, (1500 : Int).toNat)) o17_5 (by omega)
  have o19_6 := ob_new (j := 11) (q := q19) (t := .inr (3, (1500 : Int).toNat)) o17_6 (by omega)
  have o19_7 := ob_new (j := 11) (q := q19) (t := .inr (3, (1500 : Int).toNat)) o17_7 (by omega)
  have o19_8 := ob_new (j := 11) (q := q19) (t := .inr (3, (1500 : Int).toNat)) o17_8 (by omega)
  have o19_9 := ob_new (j := 11) (q := q19) (t := .inr (3, (1500 : Int).toNat)) o17_9 (by omega)
  have o19_10 := ob_new (j := 11) (q := q19) (t := .inr (3, (1500 : Int).toNat)) o17_10 (by omega)
  have B19 := (Bw.mono (lo' := 12) (hi' := 13) B18 (by omega) (by omega)).new (i := 11) (q := q19) (t := .inr (3, (1500 : Int).toNat)) (by omega)
  have hk19 := Kp.tr hk17 (gN_kp (q := q19) (t := .inr (3, (1500 : Int).toNat)) f19)
  have o19_11 := kp_n hk19
  refine y_putF dX6_init_96 FC6 20 (by decide) rfl rfl rfl rfl fl_X6_44 o19_1 ?_
  have B20 := B19.up (i := 1) (k := 20) (r := 11) (by omega)
  refine y_aload_n 0 dX6_init_99 rfl ?_
  refine y_bipush dX6_init_100 rfl ?_
  have f21 := Bw.fsh (i := 12) B20 (by omega) (by omega)
  refine y_newarr (i := 12) (ek := 0) (atype := .int) dX6_init_102 (by decide) rfl arw_int (by decide) (by decide) f21 (rfs_l o19_1 (rfs_s o19_1 rfs_nil)) (by decide) (by decide) (fun q21 => ?_)
  have o21_1 := ob_new (j := 12) (q := q21) (t := .inr (0, (36 : Int).toNat)) o19_1 (by omega)
  have o21_2 := ob_new (j := 12) (q := q21) (t := .inr (0, (36 : Int).toNat)) o19_2 (by omega)
  have o21_3 := ob_new (j := 12) (q := q21) (t := .inr (0, (36 : Int).toNat)) o19_3 (by omega)
  have o21_4 := ob_new (j := 12) (q := q21) (t := .inr (0, (36 : Int).toNat)) o19_4 (by omega)
  have o21_5 := ob_new (j := 12) (q := q21) (t := .inr (0, (36 : Int).toNat)) o19_5 (by omega)
  have o21_6 := ob_new (j := 12) (q := q21) (t := .inr (0, (36 : Int).toNat)) o19_6 (by omega)
  have o21_7 := ob_new (j := 12) (q := q21) (t := .inr (0, (36 : Int).toNat)) o19_7 (by omega)
  have o21_8 := ob_new (j := 12) (q := q21) (t := .inr (0, (36 : Int).toNat)) o19_8 (by omega)
  have o21_9 := ob_new (j := 12) (q := q21) (t := .inr (0, (36 : Int).toNat)) o19_9 (by omega)
  have o21_10 := ob_new (j := 12) (q := q21) (t := .inr (0, (36 : Int).toNat)) o19_10 (by omega)
  have o21_11 := ob_new (j := 12) (q := q21) (t := .inr (0, (36 : Int).toNat)) o19_11 (by omega)
  have B21 := (Bw.mono (lo' := 13) (hi' := 13) B20 (by omega) (by omega)).new (i := 12) (q := q21) (t := .inr (0, (36 : Int).toNat)) (by omega)
  have hk21 := Kp.tr hk19 (gN_kp (q := q21) (t := .inr (0, (36 : Int).toNat)) f21)
  have o21_12 := kp_n hk21
  refine y_putF dX6_init_104 FC6 23 (by decide) rfl rfl rfl rfl fl_X6_48 o21_1 ?_
  have B22 := B21.up (i := 1) (k := 23) (r := 12) (by omega)
  refine y_vret dX6_init_107 rfl (by decide) (by decide) hk21 ⟨rfl, hk21, fun lo hi h1 hb => ((((((((((((((((((((((hb.new (by omega)).up (by omega)).new (by omega)).up (by omega)).new (by omega)).up (by omega)).new (by omega)).up (by omega)).multi (by omega) (by omega) (by omega) (by omega)).up (by omega)).new (by omega)).up (by omega)).new (by omega)).up (by omega)).new (by omega)).up (by omega)).new (by omega)).up (by omega)).new (by omega)).up (by omega)).new (by omega)).up (by omega)), fun j hj => ⟨?_, ?_⟩, ⟨o21_1, (by rw [up2_nj (by decide), clr_ne (by omega), up2_nj (by decide), clr_ne (by omega), up2_nj (by decide), clr_ne (by omega), up2_nj (by decide), clr_ne (by omega), up2_nj (by decide), clr_ne (by omega), up2_nj (by decide), clr_ne (by omega), up2_nj (by decide), muP_ne (by omega) (by omega), up2_nj (by decide), clr_ne (by omega), up2_nj (by decide), clr_ne (by omega), up2_nj (by decide), clr_ne (by omega), up2_eq]), o21_2, (by rw [up2_nj (by decide), clr_ne (by omega), up2_nj (by decide), clr_ne (by omega), up2_nj (by decide), clr_ne (by omega), up2_nj (by decide), clr_ne (by omega), up2_nj (by decide), clr_ne (by omega), up2_nj (by decide), clr_ne (by omega), up2_nj (by decide), muP_ne (by omega) (by omega), up2_nj (by decide), clr_ne (by omega), up2_nj (by decide), clr_ne (by omega), up2_eq]), o21_3, (by rw [up2_nj (by decide), clr_ne (by omega), up2_nj (by decide), clr_ne (by omega), up2_nj (by decide), clr_ne (by omega), up2_nj (by decide), clr_ne (by omega), up2_nj (by decide), clr_ne (by omega), up2_nj (by decide), clr_ne (by omega), up2_nj (by decide), muP_ne (by omega) (by omega), up2_nj (by decide), clr_ne (by omega), up2_eq]), o21_4, (by rw [up2_nj (by decide), clr_ne (by omega), up2_nj (by decide), clr_ne (by omega), up2_nj (by decide), clr_ne (by omega), up2_nj (by decide), clr_ne (by omega), up2_nj (by decide), clr_ne (by omega), up2_nj (by decide), clr_ne (by omega), up2_nj (by decide), muP_ne (by omega) (by omega), up2_eq]), o21_5, (by rw [up2_nj (by decide), clr_ne (by omega), up2_nj (by decide), clr_ne (by omega), up2_nj (by decide), clr_ne (by omega), up2_nj (by decide), clr_ne (by omega), up2_nj (by decide), clr_ne (by omega), up2_eq]), o21_7, (by rw [up2_nj (by decide), clr_ne (by omega), up2_nj (by decide), clr_ne (by omega), up2_nj (by decide), clr_ne (by omega), up2_nj (by decide), clr_ne (by omega), up2_eq]), o21_8, (by rw [up2_nj (by decide), clr_ne (by omega), up2_nj (by decide), clr_ne (by omega), up2_nj (by decide), clr_ne (by omega), up2_eq]), o21_9, (by rw [up2_nj (by decide), clr_ne (by omega), up2_nj (by decide), clr_ne (by omega), up2_eq]), o21_10, (by rw [up2_nj (by decide), clr_ne (by omega), up2_eq]), o21_11, (by rw [up2_eq]), o21_12, (by rw [up2_nj (by decide), clr_ne (by omega), up2_nj (by decide), clr_ne (by omega), up2_nj (by decide), clr_ne (by omega), up2_nj (by decide), clr_ne (by omega), up2_nj (by decide), clr_ne (by omega), up2_nj (by decide), clr_ne (by omega), up2_eq]), o21_6, fun j hj => ⟨by rw [up2_ne (by omega), clr_ne (by omega), up2_ne (by omega), clr_ne (by omega), up2_ne (by omega), clr_ne (by omega), up2_ne (by omega), clr_ne (by omega), up2_ne (by omega), clr_ne (by omega), up2_ne (by omega), clr_ne (by omega), up2_ne (by omega)]; simp only [muP, if_true, hj], ob_new (ob_new (ob_new (ob_new (ob_new (ob_new (om j hj) (by omega)) (by omega)) (by omega)) (by omega)) (by omega)) (by omega)⟩⟩, ?_, ?_, ?_⟩
  · rw [up2_ne (by omega), clr_ne (by omega), up2_ne (by omega), clr_ne (by omega), up2_ne (by omega), clr_ne (by omega), up2_ne (by omega), clr_ne (by omega), up2_ne (by omega), clr_ne (by omega), up2_ne (by omega), clr_ne (by omega), up2_ne (by omega), muP_ne (by omega) (by omega), up2_ne (by omega), clr_ne (by omega), up2_ne (by omega), clr_ne (by omega), up2_ne (by omega), clr_ne (by omega), up2_ne (by omega), clr_ne (by omega)]
  · rw [clr_ne (by omega), clr_ne (by omega), clr_ne (by omega), clr_ne (by omega), clr_ne (by omega), clr_ne (by omega), muM_ne (by omega) (by omega), clr_ne (by omega), clr_ne (by omega), clr_ne (by omega), up2_ne (by omega), clr_ne (by omega)]
  · intro r k h1 h2
    exact clr0 (fun g0 => clr0 (fun g1 => clr0 (fun g2 => clr0 (fun g3 => clr0 (fun g4 => clr0 (fun g5 => mu0 (fun g6 g6b => clr0 (fun g7 => clr0 (fun g8 => clr0 (fun g9 => upn0 (by omega) (clr0 (fun g11 => (absurd h2 (by omega))))))))))))))
  · rw [clr_ne (by omega), clr_ne (by omega), clr_ne (by omega), clr_ne (by omega), clr_ne (by omega), clr_ne (by omega), muM_ne (by omega) (by omega), clr_ne (by omega), clr_ne (by omega), clr_ne (by omega), up2_eq]
  · intro k hk9
    rw [clr_ne (by omega), clr_ne (by omega), clr_ne (by omega), clr_ne (by omega), clr_ne (by omega), clr_ne (by omega), muM_ne (by omega) (by omega), clr_ne (by omega), clr_ne (by omega), clr_ne (by omega), up2_nj hk9, clr_ne (by omega)]
    exact hI k
