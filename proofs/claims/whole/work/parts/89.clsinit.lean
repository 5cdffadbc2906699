/-! THE CLASS: its constructor (mkini3.py) -/
abbrev mA_X5 : MI := (yX5_init, RX5, cX5_init, 3, none, { frames := 6, cells := 61, slots := 3367, locals := 300 })
theorem nA_X5 : Nm mA_X5 := ⟨by decide +kernel, rfl⟩
theorem kA_X5 : LkI mA_X5 0 := ⟨inU 25 (by decide +kernel) rfl, inU 1 (by decide +kernel) rfl, inU 26 (by decide +kernel) rfl, ⟨by decide +kernel, by decide +kernel, by decide +kernel⟩, rfl, rfl⟩
theorem bw_k {Γ Γ' : GG} {P P' : MP} {I I' : MM} {i n lo hi : Nat} {xs : List Nat} (h : NW Γ Γ' P P' I I' i n xs) (h1 : i + n < lo ∨ hi ≤ i) (h2 : xs.all (fun x => decide (x < lo ∨ hi ≤ x)) = true) (hb : Bw Γ P lo hi) : Bw Γ' P' lo hi := h.1 lo hi h1 (fun x hx => of_decide_eq_true (List.all_eq_true.mp h2 x hx)) hb
theorem LSch.kp2 {Γ Γ' : GG} {P P' : MP} {q σ κ n : Nat} (h : LSch Γ P q σ κ n) (k : Kp Γ Γ') (_ : q < 100) (e : ∀ r : Nat, q ≤ r → r < q + 11 → P' r = P r) (hs : LShop Γ' P' σ κ n) : LSch Γ' P' q σ κ n := by
  obtain ⟨a0, p0, p1, a1, p2, a2, p3, a3, p4, a4, p5, a5, p7, c, l⟩ := h
  have eq := e q (Nat.le_refl _) (by omega)
  exact ⟨a0.keep k, by rw [eq]; exact p0, by rw [eq]; exact p1, a1.keep k, by rw [eq]; exact p2, a2.keep k, by rw [eq]; exact p3, a3.keep k, by rw [eq]; exact p4, a4.keep k, by rw [eq]; exact p5, a5.keep k, by rw [eq]; exact p7, c.kp k (e _ (by omega) (by omega)), ⟨(LPlan_ob l).keep k, by rw [e _ (by omega) (by omega)]; exact LPlan_p0 l, by rw [e _ (by omega) (by omega)]; exact LPlan_p1 l, (LPlan_a1 l).keep k, by rw [e _ (by omega) (by omega)]; exact LPlan_p2 l, (LPlan_a2 l).keep k, hs⟩⟩
theorem rfs_si {Γ : GG} {z : Int} {al : List (Nat × AV)} {st : List AV} (k : Rfs Γ al st) : Rfs Γ al (vI z :: st) := ⟨k.1, fun q hq => (List.mem_cons.mp hq).elim (fun e => by rw [e]; trivial) (k.2 q)⟩
/-- behind i plans of the history -/
def LX5 (Γ Γi : GG) (P Pi : MP) (I Ii : MM) (i : Nat) : Prop :=
  Kp Γ Γi ∧ (∀ lo hi, (hi ≤ 30 ∨ (200 ≤ lo ∧ hi ≤ 1000) ∨ 1012 ≤ lo) → Bw Γ P lo hi → Bw Γi Pi lo hi) ∧ (∀ j, j < 30 → Pi j = P j ∧ Ii j = I j) ∧ Ob Γi 30 (.inl 5) ∧ Pi 30 0 = some 31 ∧ LRead Γi Pi ∧ Pi 30 3 = some 40 ∧ LSch Γi Pi 40 1000 1010 1 ∧ Pi 30 4 = some 48 ∧ Pi 30 5 = some 60 ∧ LSch Γi Pi 60 1000 1010 1 ∧ Pi 30 6 = some 68 ∧ Pi 30 7 = some 34 ∧ Ob Γi 34 (.inr (4, 8)) ∧
  LShop Γi Pi 1000 1010 1 ∧ (∀ j, j < i → Pi 34 j = some (80 + 3 * j) ∧ LPlan Γi Pi (80 + 3 * j) 1000 1010 1) ∧ Bw Γi Pi (80 + 3 * i) 200 ∧ Ii 30 1 = 0 ∧ Ii 30 2 = -1 ∧ Ii 30 8 = 0 ∧ Ii 30 9 = 0 ∧ SH0 Ii 1000 ∧ Ii 1010 0 = -1 ∧ ∀ k, Ii 32 k = 0
theorem LX5.step {Γ Γi Γ1 Γ2 : GG} {P Pi P2 : MP} {I Ii I2 : MM} {i q : Nat} (h : LX5 Γ Γi P Pi I Ii i) (hi : i < 8) (e1 : Γ1 = gN Γi (80 + 3 * i) q (.inl 1)) (kp2 : Kp Γ1 Γ2) (nw : NW Γ1 Γ2 (clr Pi (80 + 3 * i) none) P2 (clr Ii (80 + 3 * i) 0) I2 (80 + 3 * i) 2 [1000]) (hf : Fsh Γi Pi (80 + 3 * i)) (hp : P2 (80 + 3 * i) 0 = some 1000 ∧ P2 (80 + 3 * i) 1 = some (80 + 3 * i + 1) ∧ P2 (80 + 3 * i) 2 = some (80 + 3 * i + 2) ∧ Ob Γ2 (80 + 3 * i) (.inl 1) ∧ Ob Γ2 (80 + 3 * i + 1) (.inr (0, 36)) ∧ Ob Γ2 (80 + 3 * i + 2) (.inr (0, 36))) : LX5 Γ Γ2 P (up2 P2 34 i (some (80 + 3 * i))) I I2 (i + 1) := by
  obtain ⟨k0, b0, l0, o30, p0, rd, p3, s40, p4, p5, s60, p6, p7, o34, sh, hh, bb, v1, v2, v8, v9, z, c0, tz⟩ := h
  obtain ⟨q0, q1, q2, oa, ob, oc⟩ := hp
  subst e1
  have kk : Kp Γi Γ2 := Kp.tr (gN_kp hf) kp2
  have eP : ∀ r, (r < 80 + 3 * i ∨ 80 + 3 * i + 2 < r) → P2 r = Pi r := fun r hr => by rw [(nw.2 r (by omega)).1, clr_ne (by omega)]
  have eI : ∀ r, (r < 80 + 3 * i ∨ 80 + 3 * i + 2 < r) → I2 r = Ii r := fun r hr => by rw [(nw.2 r (by omega)).2, clr_ne (by omega)]
  have eQ : ∀ r, r ≠ 34 → up2 P2 34 i (some (80 + 3 * i)) r = P2 r := fun r hr => up2_ne hr
  have eR : ∀ r, r ≠ 34 → (r < 80 + 3 * i ∨ 80 + 3 * i + 2 < r) → up2 P2 34 i (some (80 + 3 * i)) r = Pi r := fun r a b => (eQ r a).trans (eP r b)
  have sh2 : LShop Γ2 (up2 P2 34 i (some (80 + 3 * i))) 1000 1010 1 := sh.kp kk (eR 1000 (by omega) (by omega))
  refine ⟨k0.tr kk, fun lo hi h1 hb => ((nw.1 lo hi (by omega) (fun x hx => by rw [List.mem_singleton.mp hx]; omega) ((b0 lo hi h1 hb).new (by omega))).up (by omega) (by omega)), fun j hj => ⟨by rw [eR j (by omega) (by omega)]; exact (l0 j hj).1, by rw [eI j (by omega)]; exact (l0 j hj).2⟩, o30.keep kk, ?_⟩
  refine ⟨by rw [eR 30 (by omega) (by omega)]; exact p0, ⟨rd.1.keep kk, by rw [eR 31 (by omega) (by omega)]; exact rd.2.1, rd.2.2.1.keep kk, by rw [eR 31 (by omega) (by omega)]; exact rd.2.2.2.1, rd.2.2.2.2.keep kk⟩, by rw [eR 30 (by omega) (by omega)]; exact p3, ?_, by rw [eR 30 (by omega) (by omega)]; exact p4, by rw [eR 30 (by omega) (by omega)]; exact p5, ?_, by rw [eR 30 (by omega) (by omega)]; exact p6, by rw [eR 30 (by omega) (by omega)]; exact p7, o34.keep kk, sh2, fun j hj => ?_, ?_, by rw [eI 30 (by omega)]; exact v1, by rw [eI 30 (by omega)]; exact v2, by rw [eI 30 (by omega)]; exact v8, by rw [eI 30 (by omega)]; exact v9, fun r k a b => by rw [eI r (by omega)]; exact z r k a b, by rw [eI 1010 (by omega)]; exact c0, fun k => by rw [eI 32 (by omega)]; exact tz k⟩
  · exact s40.kp2 kk (by decide) (fun r a b => eR r (by omega) (by omega)) sh2
  · exact s60.kp2 kk (by decide) (fun r a b => eR r (by omega) (by omega)) sh2
  · by_cases hj2 : j < i
    · obtain ⟨a, b⟩ := hh j hj2
      refine ⟨by rw [up2_nj (by omega), eP 34 (by omega)]; exact a, ⟨(LPlan_ob b).keep kk, by rw [eR _ (by omega) (by omega)]; exact LPlan_p0 b, by rw [eR _ (by omega) (by omega)]; exact LPlan_p1 b, (LPlan_a1 b).keep kk, by rw [eR _ (by omega) (by omega)]; exact LPlan_p2 b, (LPlan_a2 b).keep kk, sh2⟩⟩
    · have e : j = i := by omega
      subst e
      exact ⟨up2_eq, ⟨oa, by rw [eQ _ (by omega)]; exact q0, by rw [eQ _ (by omega)]; exact q1, ob, by rw [eQ _ (by omega)]; exact q2, oc, sh2⟩⟩
  · exact (nw.1 (80 + 3 * (i + 1)) 200 (by omega) (fun x hx => by rw [List.mem_singleton.mp hx]; omega) ((bb.mono (by omega) (Nat.le_refl _)).new (by omega))).up (by omega) (by omega)
theorem g_X5a {Γ : GG} {P : MP} {I : MM} {Q : ET} (ho : Ob Γ 30 (.inl 5)) (hI : ∀ k, I 30 k = 0) (hB : Bw Γ P 31 200) (hC : Bw Γ P 1000 1012)
    (K : ∀ ρ ids ty Pi Ii, LX5 Γ (gX Γ ρ ids ty) P Pi I Ii 0 → XE none Γ (gX Γ ρ ids ty) mA_X5 37 2767 98 [(0, vR 30), (1, vR 1000)] [] Pi Ii Q) : XE none Γ Γ mA_X5 0 0 0 [(0, vR 30)] [] P I Q := by
  refine y_aload_n 0 dX5_init_0 rfl ?_
  refine y_objI dX5_init_1 obl_X5 (by decide) (by decide) ?_
  refine y_aload_n 0 dX5_init_4 rfl ?_
  have f1 := Bw.fsh (i := 31) hB (by omega) (by omega)
  refine y_new (i := 31) dX5_init_5 FC3 df3 clk_X5_9 ins_X3 ini_X3 f1 (rfs_l ho (rfs_s ho rfs_nil)) (by decide) (by decide) (fun q1 => ?_)
  have o1_30 := ob_new (j := 31) (q := q1) (t := .inl 3) ho (by omega)
  have B1 := (Bw.mono (lo' := 32) (hi' := 200) hB (by omega) (by omega)).new (i := 31) (q := q1) (t := .inl 3) (by omega)
  have C1 := hC.new (i := 31) (q := q1) (t := .inl 3) (by omega)
  have hk1 := Kp.tr (Kp.rf (Γ := Γ)) (gN_kp (q := q1) (t := .inl 3) f1)
  have o1_31 := kp_n hk1
  refine y_dup dX5_init_8 rfl ?_
  refine y_callIN (μ := mA_X5) "BlockingShop" dX5_init_9 (g_X3 o1_31 (Bw.mono B1 (by omega) (by omega)) (by omega)) kA_X3 (by decide +kernel) ⟨Nat.le_of_ble_eq_true rfl, Nat.le_of_ble_eq_true rfl⟩ rfl (rfs_l o1_30 (rfs_s o1_31 (rfs_s o1_30 rfs_nil))) (Nat.le_of_ble_eq_true rfl) (by decide) _ rfl (fun ρ2 id2 ty2 v2 P2 I2 kp2 hh2 => ?_)
  obtain ⟨hv2, nw2, -, rdX, -, -, tzX⟩ := hh2
  subst hv2
  have o2_30 := o1_30.keep kp2
  have o2_31 := o1_31.keep kp2
  have hk2 := Kp.tr hk1 kp2
  have B2 := bw_k nw2 (lo := 34) (hi := 200) (by omega) (by decide) (Bw.mono B1 (by omega) (by omega))
  have C2 := bw_k nw2 (lo := 1000) (hi := 1012) (by omega) (by decide) C1
  refine y_putF dX5_init_12 FC5 0 (by decide) rfl rfl rfl rfl fl_X5_12 o2_30 ?_
  have B3 := B2.up (i := 30) (k := 0) (r := 31) (by omega)
  have C3 := C2.up (i := 30) (k := 0) (r := 31) (by omega)
  refine y_aload_n 0 dX5_init_15 rfl ?_
  refine y_iconst dX5_init_16 ?_
  refine y_putI dX5_init_17 FC5 1 (by decide) rfl rfl fl_X5_16 o2_30 ?_
  refine y_aload_n 0 dX5_init_20 rfl ?_
  refine y_iconst dX5_init_21 ?_
  refine y_putI dX5_init_22 FC5 2 (by decide) rfl rfl fl_X5_20 o2_30 ?_
  refine y_aload_n 0 dX5_init_25 rfl ?_
  refine y_bipush dX5_init_26 rfl ?_
  have f4 := Bw.fsh (i := 34) B3 (by omega) (by omega)
  refine y_anewarr (i := 34) 8 rfl dX5_init_28 clk_X5_23 (by decide) f4 (rfs_l o2_30 (rfs_s o2_30 rfs_nil)) (by decide) (by decide) (fun q4 => ?_)
  have o4_30 := ob_new (j := 34) (q := q4) (t := .inr (4, 8)) o2_30 (by omega)
  have o4_31 := ob_new (j := 34) (q := q4) (t := .inr (4, 8)) o2_31 (by omega)
  have B4 := (Bw.mono (lo' := 35) (hi' := 200) B3 (by omega) (by omega)).new (i := 34) (q := q4) (t := .inr (4, 8)) (by omega)
  have C4 := C3.new (i := 34) (q := q4) (t := .inr (4, 8)) (by omega)
  have hk4 := Kp.tr hk2 (gN_kp (q := q4) (t := .inr (4, 8)) f4)
  have o4_34 := kp_n hk4
  refine y_putF dX5_init_31 FC5 7 (by decide) rfl rfl rfl rfl fl_X5_25 o4_30 ?_
  have B5 := B4.up (i := 30) (k := 7) (r := 34) (by omega)
  have C5 := C4.up (i := 30) (k := 7) (r := 34) (by omega)
  refine y_aload_n 0 dX5_init_34 rfl ?_
  refine y_iconst dX5_init_35 ?_
  refine y_putI dX5_init_36 FC5 8 (by decide) rfl rfl fl_X5_29 o4_30 ?_
  refine y_aload_n 0 dX5_init_39 rfl ?_
  refine y_iconst dX5_init_40 ?_
  refine y_putI dX5_init_41 FC5 9 (by decide) rfl rfl fl_X5_32 o4_30 ?_
  have f6 := Bw.fsh (i := 1000) C5 (by omega) (by omega)
  refine y_new (i := 1000) dX5_init_44 FC4 df4 clk_X5_35 ins_X4 ini_X4 f6 (rfs_l o4_30 rfs_nil) (by decide) (by decide) (fun q6 => ?_)
  have o6_30 := ob_new (j := 1000) (q := q6) (t := .inl 4) o4_30 (by omega)
  have o6_31 := ob_new (j := 1000) (q := q6) (t := .inl 4) o4_31 (by omega)
  have o6_34 := ob_new (j := 1000) (q := q6) (t := .inl 4) o4_34 (by omega)
  have B6 := B5.new (i := 1000) (q := q6) (t := .inl 4) (by omega)
  have C6 := (Bw.mono (lo' := 1001) (hi' := 1012) C5 (by omega) (by omega)).new (i := 1000) (q := q6) (t := .inl 4) (by omega)
  have hk6 := Kp.tr hk4 (gN_kp (q := q6) (t := .inl 4) f6)
  have o6_1000 := kp_n hk6
  refine y_dup dX5_init_47 rfl ?_
  refine y_callIN (μ := mA_X5) "BlockingShop" dX5_init_48 (g_X4 o6_1000 (fun k => clr_eq) (Bw.mono C6 (by omega) (by omega)) (by omega)) kA_X4 (by decide +kernel) ⟨Nat.le_of_ble_eq_true rfl, Nat.le_of_ble_eq_true rfl⟩ rfl (rfs_l o6_30 (rfs_s o6_1000 rfs_nil)) (Nat.le_of_ble_eq_true rfl) (by decide) _ rfl (fun ρ7 id7 ty7 v7 P7 I7 kp7 hh7 => ?_)
  obtain ⟨hv7, nw7, lsX, shX, scX⟩ := hh7
  subst hv7
  have o7_30 := o6_30.keep kp7
  have o7_31 := o6_31.keep kp7
  have o7_34 := o6_34.keep kp7
  have o7_1000 := o6_1000.keep kp7
  have hk7 := Kp.tr hk6 kp7
  have B7 := bw_k nw7 (lo := 35) (hi := 200) (by omega) (by decide) B6
  have C7 := bw_k nw7 (lo := 1011) (hi := 1012) (by omega) (by decide) (Bw.mono C6 (by omega) (by omega))
  refine y_astore_n dX5_init_51 rfl rfl (by decide) ?_
  refine y_aload_n 0 dX5_init_52 rfl ?_
  have f8 := Bw.fsh (i := 40) B7 (by omega) (by omega)
  refine y_new (i := 40) dX5_init_53 FC2 df2 clk_X5_38 ins_X2 ini_X2 f8 (rfs_l o7_30 (rfs_l o7_1000 (rfs_s o7_30 rfs_nil))) (by decide) (by decide) (fun q8 => ?_)
  have o8_30 := ob_new (j := 40) (q := q8) (t := .inl 2) o7_30 (by omega)
  have o8_31 := ob_new (j := 40) (q := q8) (t := .inl 2) o7_31 (by omega)
  have o8_34 := ob_new (j := 40) (q := q8) (t := .inl 2) o7_34 (by omega)
  have o8_1000 := ob_new (j := 40) (q := q8) (t := .inl 2) o7_1000 (by omega)
  have B8 := (Bw.mono (lo' := 41) (hi' := 200) B7 (by omega) (by omega)).new (i := 40) (q := q8) (t := .inl 2) (by omega)
  have C8 := C7.new (i := 40) (q := q8) (t := .inl 2) (by omega)
  have hk8 := Kp.tr hk7 (gN_kp (q := q8) (t := .inl 2) f8)
  have o8_40 := kp_n hk8
  refine y_dup dX5_init_56 rfl ?_
  refine y_aload_n 1 dX5_init_57 rfl ?_
  refine y_callI (μ := mA_X5) dX5_init_58 (g_X2 o8_40 (lsX.kp (gN_kp f8) (by rw [clr_ne (by omega)])) (by omega) (Bw.mono B8 (by omega) (by omega)) (by omega)) kA_X2 ml_X5_40 ⟨Nat.le_of_ble_eq_true rfl, Nat.le_of_ble_eq_true rfl⟩ rfl (rfs_l o8_30 (rfs_l o8_1000 (rfs_s o8_40 (rfs_s o8_30 rfs_nil)))) (Nat.le_of_ble_eq_true rfl) (by decide) _ rfl (fun ρ9 id9 ty9 v9 P9 I9 kp9 hh9 => ?_)
  obtain ⟨hv9, nw9, sch40⟩ := hh9
  subst hv9
  have o9_30 := o8_30.keep kp9
  have o9_31 := o8_31.keep kp9
  have o9_34 := o8_34.keep kp9
  have o9_1000 := o8_1000.keep kp9
  have o9_40 := o8_40.keep kp9
  have hk9 := Kp.tr hk8 kp9
  have B9 := bw_k nw9 (lo := 51) (hi := 200) (by omega) (by decide) (Bw.mono B8 (by omega) (by omega))
  have C9 := bw_k nw9 (lo := 1011) (hi := 1012) (by omega) (by decide) C8
  refine y_putF dX5_init_61 FC5 3 (by decide) rfl rfl rfl rfl fl_X5_43 o9_30 ?_
  have B10 := B9.up (i := 30) (k := 3) (r := 40) (by omega)
  have C10 := C9.up (i := 30) (k := 3) (r := 40) (by omega)
  refine y_aload_n 0 dX5_init_64 rfl ?_
  refine y_aload_n 0 dX5_init_65 rfl ?_
  refine y_getP (r := 40) dX5_init_66 FC5 3 (by decide) rfl fl_X5_43 o9_30 (by rw [up2_eq]) ?_
  refine y_getP (r := 48) dX5_init_69 FC2 0 (by decide) rfl fl_X5_47 o9_40 (by rw [up2_ne (by omega)]; exact LSch_p0 sch40) ?_
  have oo48 := LPlan_ob (LSch_p sch40)
  refine y_putF dX5_init_72 FC5 4 (by decide) rfl rfl rfl rfl fl_X5_51 o9_30 ?_
  have B11 := B10.up (i := 30) (k := 4) (r := 48) (by omega)
  have C11 := C10.up (i := 30) (k := 4) (r := 48) (by omega)
  refine y_aload_n 0 dX5_init_75 rfl ?_
  have f12 := Bw.fsh (i := 60) B11 (by omega) (by omega)
  refine y_new (i := 60) dX5_init_76 FC2 df2 clk_X5_38 ins_X2 ini_X2 f12 (rfs_l o9_30 (rfs_l o9_1000 (rfs_s o9_30 rfs_nil))) (by decide) (by decide) (fun q12 => ?_)
  have o12_30 := ob_new (j := 60) (q := q12) (t := .inl 2) o9_30 (by omega)
  have o12_31 := ob_new (j := 60) (q := q12) (t := .inl 2) o9_31 (by omega)
  have o12_34 := ob_new (j := 60) (q := q12) (t := .inl 2) o9_34 (by omega)
  have o12_1000 := ob_new (j := 60) (q := q12) (t := .inl 2) o9_1000 (by omega)
  have o12_40 := ob_new (j := 60) (q := q12) (t := .inl 2) o9_40 (by omega)
  have o12_48 := ob_new (j := 60) (q := q12) (t := .inl 2) oo48 (by omega)
  have B12 := (Bw.mono (lo' := 61) (hi' := 200) B11 (by omega) (by omega)).new (i := 60) (q := q12) (t := .inl 2) (by omega)
  have C12 := C11.new (i := 60) (q := q12) (t := .inl 2) (by omega)
  have hk12 := Kp.tr hk9 (gN_kp (q := q12) (t := .inl 2) f12)
  have o12_60 := kp_n hk12
  refine y_dup dX5_init_79 rfl ?_
  refine y_aload_n 1 dX5_init_80 rfl ?_
  refine y_callI (μ := mA_X5) dX5_init_81 (g_X2 o12_60 (lsX.kp (Kp.tr (Kp.tr (gN_kp f8) kp9) (gN_kp f12)) (by rw [clr_ne (by omega), up2_ne (by omega), up2_ne (by omega), (nw9.2 _ (by omega)).1, clr_ne (by omega)])) (by omega) (Bw.mono B12 (by omega) (by omega)) (by omega)) kA_X2 ml_X5_40 ⟨Nat.le_of_ble_eq_true rfl, Nat.le_of_ble_eq_true rfl⟩ rfl (rfs_l o12_30 (rfs_l o12_1000 (rfs_s o12_60 (rfs_s o12_30 rfs_nil)))) (Nat.le_of_ble_eq_true rfl) (by decide) _ rfl (fun ρ13 id13 ty13 v13 P13 I13 kp13 hh13 => ?_)
  obtain ⟨hv13, nw13, sch60⟩ := hh13
  subst hv13
  have o13_30 := o12_30.keep kp13
  have o13_31 := o12_31.keep kp13
  have o13_34 := o12_34.keep kp13
  have o13_1000 := o12_1000.keep kp13
  have o13_40 := o12_40.keep kp13
  have o13_48 := o12_48.keep kp13
  have o13_60 := o12_60.keep kp13
  have hk13 := Kp.tr hk12 kp13
  have B13 := bw_k nw13 (lo := 71) (hi := 200) (by omega) (by decide) (Bw.mono B12 (by omega) (by omega))
  have C13 := bw_k nw13 (lo := 1011) (hi := 1012) (by omega) (by decide) C12
  refine y_putF dX5_init_84 FC5 5 (by decide) rfl rfl rfl rfl fl_X5_52 o13_30 ?_
  have B14 := B13.up (i := 30) (k := 5) (r := 60) (by omega)
  have C14 := C13.up (i := 30) (k := 5) (r := 60) (by omega)
  refine y_aload_n 0 dX5_init_87 rfl ?_
  refine y_aload_n 0 dX5_init_88 rfl ?_
  refine y_getP (r := 60) dX5_init_89 FC5 5 (by decide) rfl fl_X5_52 o13_30 (by rw [up2_eq]) ?_
  refine y_getP (r := 68) dX5_init_92 FC2 0 (by decide) rfl fl_X5_47 o13_60 (by rw [up2_ne (by omega)]; exact LSch_p0 sch60) ?_
  have oo68 := LPlan_ob (LSch_p sch60)
  refine y_putF dX5_init_95 FC5 6 (by decide) rfl rfl rfl rfl fl_X5_55 o13_30 ?_
  have B15 := B14.up (i := 30) (k := 6) (r := 68) (by omega)
  have C15 := C14.up (i := 30) (k := 6) (r := 68) (by omega)
  have kR := (Kp.tr (Kp.tr (Kp.tr (Kp.tr (Kp.tr (Kp.tr (gN_kp f4) (gN_kp f6)) kp7) (gN_kp f8)) kp9) (gN_kp f12)) kp13)
  have kS := (Kp.tr (Kp.tr (Kp.tr (gN_kp f8) kp9) (gN_kp f12)) kp13)
  have k40 := (Kp.tr (gN_kp f12) kp13)
  have shE : LShop _ (up2 (up2 P13 30 5 (some 60)) 30 6 (some 68)) 1000 1010 1 := lsX.kp kS (by rw [up2_ne (by omega), up2_ne (by omega), (nw13.2 1000 (by omega)).1, clr_ne (by omega), up2_ne (by omega), up2_ne (by omega), (nw9.2 1000 (by omega)).1, clr_ne (by omega)])
  refine K _ _ _ _ _ ⟨hk13,
    fun lo hi h1 hb => (((nw13.1 _ _ (by omega) (fun x hx => by rw [List.mem_singleton.mp hx]; omega) ((((nw9.1 _ _ (by omega) (fun x hx => by rw [List.mem_singleton.mp hx]; omega) ((nw7.1 _ _ (by omega) (fun x hx => (List.not_mem_nil hx).elim) (((((nw2.1 _ _ (by omega) (fun x hx => (List.not_mem_nil hx).elim) (hb.new (by omega))).up (by omega)).new (by omega)).up (by omega)).new (by omega))).new (by omega))).up (by omega)).up (by omega)).new (by omega))).up (by omega)).up (by omega)),
    fun j hj => ⟨by rw [up2_ne (by omega), up2_ne (by omega), (nw13.2 j (by omega)).1, clr_ne (by omega), up2_ne (by omega), up2_ne (by omega), (nw9.2 j (by omega)).1, clr_ne (by omega), (nw7.2 j (by omega)).1, clr_ne (by omega), up2_ne (by omega), clr_ne (by omega), up2_ne (by omega), (nw2.2 j (by omega)).1, clr_ne (by omega)], by rw [(nw13.2 j (by omega)).2, clr_ne (by omega), (nw9.2 j (by omega)).2, clr_ne (by omega), (nw7.2 j (by omega)).2, clr_ne (by omega), up2_ne (by omega), up2_ne (by omega), clr_ne (by omega), up2_ne (by omega), up2_ne (by omega), (nw2.2 j (by omega)).2, clr_ne (by omega)]⟩,
    o13_30,
    by rw [up2_nj (by decide), up2_nj (by decide), (nw13.2 30 (by omega)).1, clr_ne (by omega), up2_nj (by decide), up2_nj (by decide), (nw9.2 30 (by omega)).1, clr_ne (by omega), (nw7.2 30 (by omega)).1, clr_ne (by omega), up2_nj (by decide), clr_ne (by omega), up2_eq],
    ⟨rdX.1.keep kR, by rw [up2_ne (by omega), up2_ne (by omega), (nw13.2 31 (by omega)).1, clr_ne (by omega), up2_ne (by omega), up2_ne (by omega), (nw9.2 31 (by omega)).1, clr_ne (by omega), (nw7.2 31 (by omega)).1, clr_ne (by omega), up2_ne (by omega), clr_ne (by omega), up2_ne (by omega)]; exact rdX.2.1, rdX.2.2.1.keep kR, by rw [up2_ne (by omega), up2_ne (by omega), (nw13.2 31 (by omega)).1, clr_ne (by omega), up2_ne (by omega), up2_ne (by omega), (nw9.2 31 (by omega)).1, clr_ne (by omega), (nw7.2 31 (by omega)).1, clr_ne (by omega), up2_ne (by omega), clr_ne (by omega), up2_ne (by omega)]; exact rdX.2.2.2.1, rdX.2.2.2.2.keep kR⟩,
    by rw [up2_nj (by decide), up2_nj (by decide), (nw13.2 30 (by omega)).1, clr_ne (by omega), up2_nj (by decide), up2_eq],
    sch40.kp2 k40 (by decide) (fun r a b => by rw [up2_ne (by omega), up2_ne (by omega), (nw13.2 _ (by omega)).1, clr_ne (by omega), up2_ne (by omega), up2_ne (by omega)]) shE,
    by rw [up2_nj (by decide), up2_nj (by decide), (nw13.2 30 (by omega)).1, clr_ne (by omega), up2_eq],
    by rw [up2_nj (by decide), up2_eq],
    sch60.kp2 Kp.rf (by decide) (fun r a b => by rw [up2_ne (by omega), up2_ne (by omega)]) shE,
    by rw [up2_eq],
    by rw [up2_nj (by decide), up2_nj (by decide), (nw13.2 30 (by omega)).1, clr_ne (by omega), up2_nj (by decide), up2_nj (by decide), (nw9.2 30 (by omega)).1, clr_ne (by omega), (nw7.2 30 (by omega)).1, clr_ne (by omega), up2_eq],
    o13_34,
    shE,
    fun j hj => absurd hj (Nat.not_lt_zero _),
    Bw.mono B15 (by omega) (by omega),
    by rw [(nw13.2 30 (by omega)).2, clr_ne (by omega), (nw9.2 30 (by omega)).2, clr_ne (by omega), (nw7.2 30 (by omega)).2, clr_ne (by omega), up2_nj (by decide), up2_nj (by decide), clr_ne (by omega), up2_nj (by decide), up2_eq],
    by rw [(nw13.2 30 (by omega)).2, clr_ne (by omega), (nw9.2 30 (by omega)).2, clr_ne (by omega), (nw7.2 30 (by omega)).2, clr_ne (by omega), up2_nj (by decide), up2_nj (by decide), clr_ne (by omega), up2_eq],
    by rw [(nw13.2 30 (by omega)).2, clr_ne (by omega), (nw9.2 30 (by omega)).2, clr_ne (by omega), (nw7.2 30 (by omega)).2, clr_ne (by omega), up2_nj (by decide), up2_eq],
    by rw [(nw13.2 30 (by omega)).2, clr_ne (by omega), (nw9.2 30 (by omega)).2, clr_ne (by omega), (nw7.2 30 (by omega)).2, clr_ne (by omega), up2_eq],
    fun r k a b => by rw [(nw13.2 _ (by omega)).2, clr_ne (by omega), (nw9.2 _ (by omega)).2, clr_ne (by omega)]; exact shX r k a b,
    by rw [(nw13.2 1010 (by omega)).2, clr_ne (by omega), (nw9.2 1010 (by omega)).2, clr_ne (by omega)]; exact scX,
    fun k => by rw [(nw13.2 32 (by omega)).2, clr_ne (by omega), (nw9.2 32 (by omega)).2, clr_ne (by omega), (nw7.2 32 (by omega)).2, clr_ne (by omega), up2_ne (by omega), up2_ne (by omega), clr_ne (by omega), up2_ne (by omega), up2_ne (by omega)]; exact tzX k⟩
theorem g_X5b {Γ : GG} {P : MP} {I : MM} {QG : KG} (K : ∀ ρ ids ty Pi Ii, LX5 Γ (gX Γ ρ ids ty) P Pi I Ii 8 → QG (gX Γ ρ ids ty) none Pi Ii) :
    ∀ (f i : Nat), i + f = 8 → ∀ ρ ids ty Pi Ii, LX5 Γ (gX Γ ρ ids ty) P Pi I Ii i → XE none Γ (gX Γ ρ ids ty) mA_X5 (37 + 3 * i) (2767 + 75 * i) 100 [(0, vR 30), (1, vR 1000), (2, vI (i : Int))] [] Pi Ii (EM Γ mA_X5 (KQ Γ QG)) := by
  intro f
  induction f with
  | zero =>
    intro i hi ρ ids ty Pi Ii h
    have e : i = 8 := by omega
    subst e
    refine y_iload_n 2 dX5_init_100 rfl ?_
    refine y_bipush dX5_init_101 rfl ?_
    refine y_icmp_ge 126 dX5_init_103 (by decide) ⟨by decide, by decide⟩ ⟨by decide, by decide⟩ (fun _ => ?_) (fun z => absurd (by decide) z)
    exact y_vret dX5_init_126 rfl (by decide) (by decide) h.1 (K ρ ids ty Pi Ii h)
  | succ f ih =>
    intro i hi ρ ids ty Pi Ii h
    have h' := h
    obtain ⟨k0, b0, l0, o30, p0, rd, p3, s40, p4, p5, s60, p6, p7, o34, sh, hh, bb, -⟩ := h
    refine y_iload_n 2 dX5_init_100 rfl ?_
    refine y_bipush dX5_init_101 rfl ?_
    refine y_icmp_ge 126 dX5_init_103 (by decide) ⟨by omega, by omega⟩ ⟨by decide, by decide⟩ (fun z => absurd z (by omega)) (fun _ => ?_)
    refine y_aload_n 0 dX5_init_106 rfl ?_
    refine y_getP dX5_init_107 FC5 7 (by decide) rfl fl_X5_25 o30 p7 ?_
    refine y_iload_n 2 dX5_init_110 rfl ?_
    have f1 := Bw.fsh (i := 80 + 3 * i) bb (by omega) (by omega)
    have osh := LShop_ob sh
    refine y_new (i := 80 + 3 * i) dX5_init_111 FC1 df1 clk_X5_23 ins_X1 ini_X1 f1 (rfs_l o30 (rfs_l osh (rfs_li (rfs_si (rfs_s o34 rfs_nil))))) (by show 37 + 3 * i + 1 ≤ 61; omega) (by show 2767 + 75 * i + 3 ≤ 3367; omega) (fun q => ?_)
    have hk1 := gN_kp (q := q) (t := .inl 1) f1
    have on := kp_n hk1
    refine y_dup dX5_init_114 rfl ?_
    refine y_aload_n 1 dX5_init_115 rfl ?_
    have B1 := (Bw.mono (lo' := 80 + 3 * i + 1) (hi' := 200) bb (by omega) (by omega)).new (i := 80 + 3 * i) (q := q) (t := .inl 1) (by omega)
    refine y_callI (μ := mA_X5) dX5_init_116 (g_X1 on (sh.kp hk1 (clr_ne (by omega))) (by omega) (B1.mono (by omega) (by omega)) (by omega)) kA_X1 ml_X5_58 ⟨Nat.le_of_ble_eq_true rfl, Nat.le_of_ble_eq_true rfl⟩ rfl (rfs_l (o30.keep hk1) (rfs_l (osh.keep hk1) (rfs_li (rfs_s on (rfs_si (rfs_s (o34.keep hk1) rfs_nil)))))) (Nat.le_of_ble_eq_true rfl) ⟨by show 37 + 3 * i + 1 + 2 ≤ 61; omega, by show 2767 + 75 * i + 3 + 72 ≤ 3367; omega⟩ _ rfl (fun ρ2 id2 ty2 v2 P2 I2 kp2 hh2 => ?_)
    obtain ⟨hv2, nw2, r0, r1, r2, oa, ob, oc⟩ := hh2
    subst hv2
    refine y_astP dX5_init_119 ((o34.keep hk1).keep kp2) oa (by omega) (by omega) (by decide) ?_
    refine y_iinc 2 dX5_init_120 rfl rfl rfl (by decide) ?_
    refine y_goto 100 dX5_init_123 (by decide) ?_
    have hs := LX5.step h' (by omega) rfl kp2 nw2 f1 ⟨r0, r1, r2, oa, ob, oc⟩
    have nx := ih (i + 1) (by omega) _ _ _ _ _ hs
    rw [show (i : Int).toNat = i by omega]
    rw [show 37 + 3 * (i + 1) = 37 + 3 * i + 1 + 2 by omega, show 2767 + 75 * (i + 1) = 2767 + 75 * i + 3 + 72 by omega] at nx
    exact nx
/-- the state at the start: no shop -/
def D00 : Nat → Int := fun _ => 0
theorem vO_00 (o : Nat) : ¬ vO D00 o := fun h => by
  have h2 := h.2.1
  unfold D00 at h2
  omega
theorem GN_00 : GN D00 [-1] := by
  refine ⟨⟨⟨by simp [D00], fun j hj => by simp [D00], fun o ho => by simp [D00], fun m hm => by simp [D00]⟩, ⟨fun m k hm => ?_, fun m k k' hm => ?_, fun o ho => absurd ho (vO_00 o)⟩, ⟨⟨fun c hc => ?_, rfl⟩, fun _ => rfl, fun h => absurd rfl h⟩, ⟨⟨fun _ => 0, fun o ho => absurd ho (vO_00 o), fun T' _ o ho => absurd ho (vO_00 o)⟩, fun _ => ⟨fun _ => 0, fun o ho => absurd ho (vO_00 o)⟩⟩⟩, ⟨fun o ho => absurd ho (vO_00 o), fun o u ho => absurd ho (vO_00 o)⟩, fun m hm => ?_⟩
  · exact absurd hm (by unfold D00; omega)
  · exact absurd hm (by unfold D00; omega)
  · rw [List.mem_singleton.mp hc]; decide
  · exact absurd hm (by unfold D00; omega)
theorem LX5.cc {Γ Γi : GG} {P Pi : MP} {I Ii : MM} (h : LX5 Γ Γi P Pi I Ii 8) (H : Nat → (Nat → Int) × List Int) : CC Γi Pi Ii 1000 1010 1 1000 1010 1 0 D00 [-1] 0 H := by
  obtain ⟨k0, b0, l0, o30, p0, rd, p3, s40, p4, p5, s60, p6, p7, o34, sh, hh, bb, v1, v2, v8, v9, z, c0, tz⟩ := h
  have g := GN_00
  have hn : ∀ m : Nat, ¬ (m : Int) < D00 0 := fun m hm => by unfold D00 at hm; omega
  have hj : ∀ m : Nat, ¬ (m : Int) < D00 2 := fun m hm => by unfold D00 at hm; omega
  refine ⟨⟨⟨o30, p0, rd, p3, s40, p4, p5, s60, p6, p7, o34, fun i hi => ⟨(hh i hi).1, _, _, _, (hh i hi).2⟩⟩, by decide, fun i hi => ⟨_, _, _, (hh i hi).2, by decide⟩⟩, ⟨LSch_p s40, ⟨by decide, by decide⟩, ⟨g.1.1, g.1.2.1, g.2.1⟩, ⟨z 1000 0 (by decide) (by decide), z 1000 1 (by decide) (by decide), z 1000 2 (by decide) (by decide), fun m hm => absurd hm (hn m), fun m hm => absurd hm (hj m), fun o ho => absurd ho (vO_00 o)⟩, ⟨fun o ho => absurd ho (vO_00 o), fun m k hm => absurd hm (hn m)⟩, rfl, fun i hi => ?_⟩, ⟨⟨fun o ho => absurd ho (vO_00 o), fun T' _ o ho => absurd ho (vO_00 o)⟩, fun o ho => absurd ho (vO_00 o), fun o ho => absurd ho (vO_00 o)⟩, g, by decide, by decide, v8, v9, fun k hk => absurd hk (Nat.not_lt_zero _)⟩
  have e : i = 0 := by omega
  subst e
  rw [c0]
  rfl
theorem g_X5 {Γ : GG} {P : MP} {I : MM} (ho : Ob Γ 30 (.inl 5)) (hI : ∀ k, I 30 k = 0) (hB : Bw Γ P 31 200) (hC : Bw Γ P 1000 1012) : ClG Γ mA_X5 [vR 30] P I (fun Γ' v P' J => v = none ∧ ∃ Ii, J = Ii ∧ LX5 Γ Γ' P P' I Ii 8) := by
  refine clg_of nA_X5 (Nat.le_of_ble_eq_true rfl) ?_
  refine g_X5a ho hI hB hC (fun ρ ids ty Pi Ii h => ?_)
  refine y_iconst dX5_init_98 ?_
  refine y_istore_n dX5_init_99 rfl rfl (by decide) ?_
  exact g_X5b (fun ρ ids ty Pi Ii h => ⟨rfl, Ii, rfl, h⟩) 8 0 (by omega) ρ ids ty Pi Ii h
