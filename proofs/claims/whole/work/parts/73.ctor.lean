/-! CONSTRUCTORS: the numbers lo .. hi are not in use -/
def Bw (Γ : GG) (P : MP) (lo hi : Nat) : Prop := (∀ x ∈ gi Γ, x < lo ∨ hi ≤ x) ∧ ∀ j k r, P j k = some r → r < lo ∨ hi ≤ r
theorem Bw.mono {Γ : GG} {P : MP} {lo hi lo' hi' : Nat} (h : Bw Γ P lo hi) (h1 : lo ≤ lo') (h2 : hi' ≤ hi) : Bw Γ P lo' hi' := ⟨fun x hx => by have := h.1 x hx; omega, fun j k r hr => by have := h.2 j k r hr; omega⟩
theorem Bw.fsh {Γ : GG} {P : MP} {lo hi i : Nat} (h : Bw Γ P lo hi) (h1 : lo ≤ i ∧ i < hi) (h2 : i < 500 ∨ 701 ≤ i) : Fsh Γ P i := ⟨fun hm => by have := h.1 i hm; omega, h2, fun j k e => by have := h.2 j k i e; omega⟩
theorem Bw.new {Γ : GG} {P : MP} {lo hi i q : Nat} {t : CT} (h : Bw Γ P lo hi) (hi' : i < lo ∨ hi ≤ i) : Bw (gN Γ i q t) (clr P i none) lo hi := by
  refine ⟨fun x hx => ?_, fun j k r hr => ?_⟩
  · rcases List.mem_append.mp hx with hx | hx
    · exact h.1 x hx
    · rw [List.mem_singleton.mp hx]; exact hi'
  · by_cases hj : j = i
    · subst hj; rw [clr_eq] at hr; cases hr
    · rw [clr_ne hj] at hr; exact h.2 j k r hr
theorem Bw.up {Γ : GG} {P : MP} {lo hi i k r : Nat} (h : Bw Γ P lo hi) (hr : r < lo ∨ hi ≤ r) : Bw Γ (up2 P i k (some r)) lo hi := by
  refine ⟨h.1, fun j k2 r2 h2 => ?_⟩
  unfold up2 at h2
  split at h2
  · split at h2
    · cases h2; exact hr
    · exact h.2 _ _ _ h2
  · exact h.2 _ _ _ h2
theorem ob_new {Γ : GG} {i j q : Nat} {t t' : CT} (h : Ob Γ i t') (hne : i ≠ j) : Ob (gN Γ j q t) i t' := ⟨List.mem_append_left _ h.1, by simp only [gt, gX, hne, if_false]; exact h.2⟩
theorem ob_bw {Γ : GG} {P : MP} {i lo hi : Nat} {t : CT} (h : Ob Γ i t) (hB : Bw Γ P lo hi) : i < lo ∨ hi ≤ i := hB.1 i h.1
theorem rfs_nil {Γ : GG} : Rfs Γ [] [] := ⟨fun _ h => (List.not_mem_nil h).elim, fun _ h => (List.not_mem_nil h).elim⟩
theorem kp_n {Γa Γ : GG} {i q : Nat} {t : CT} (_ : Kp Γa (gN Γ i q t)) : Ob (gN Γ i q t) i t := gN_ob
theorem rfs_l {Γ : GG} {i n : Nat} {t : CT} {al : List (Nat × AV)} {st : List AV} (h : Ob Γ i t) (k : Rfs Γ al st) : Rfs Γ ((n, vR i) :: al) st := ⟨fun q hq => (List.mem_cons.mp hq).elim (fun e => by rw [e]; exact Or.inl h.1) (k.1 q), k.2⟩
theorem rfs_li {Γ : GG} {n : Nat} {z : Int} {al : List (Nat × AV)} {st : List AV} (k : Rfs Γ al st) : Rfs Γ ((n, vI z) :: al) st := ⟨fun q hq => (List.mem_cons.mp hq).elim (fun e => by rw [e]; trivial) (k.1 q), k.2⟩
theorem rfs_s {Γ : GG} {i : Nat} {t : CT} {al : List (Nat × AV)} {st : List AV} (h : Ob Γ i t) (k : Rfs Γ al st) : Rfs Γ al (vR i :: st) := ⟨k.1, fun q hq => (List.mem_cons.mp hq).elim (fun e => by rw [e]; exact Or.inl h.1) (k.2 q)⟩
/-- what a constructor of the object i with the new numbers i + 1 .. i + n does to the rest -/
def NW (Γ Γ' : GG) (P P' : MP) (I I' : MM) (i n : Nat) (xs : List Nat) : Prop :=
  (∀ lo hi, (i + n < lo ∨ hi ≤ i) → (∀ x ∈ xs, x < lo ∨ hi ≤ x) → Bw Γ P lo hi → Bw Γ' P' lo hi) ∧ ∀ j, (j < i ∨ i + n < j) → P' j = P j ∧ I' j = I j
theorem arw_int : Cond.arrayClass (ekT 0) ∈ lwU := inU 71 (by decide +kernel) rfl
theorem arw_byte : Cond.arrayClass (ekT 1) ∈ lwU := inU 70 (by decide +kernel) rfl
theorem arw_boolean : Cond.arrayClass (ekT 2) ∈ lwU := inU 157 (by decide +kernel) rfl
theorem arw_long : Cond.arrayClass (ekT 3) ∈ lwU := inU 983 (by decide +kernel) rfl
theorem df0 : ∀ j, j < 1 → defaultValue (tyC 0 j) = if isRefT (tyC 0 j) then Value.null else .int 0 := by decide +kernel
theorem df1 : ∀ j, j < 3 → defaultValue (tyC 1 j) = if isRefT (tyC 1 j) then Value.null else .int 0 := by decide +kernel
theorem df2 : ∀ j, j < 8 → defaultValue (tyC 2 j) = if isRefT (tyC 2 j) then Value.null else .int 0 := by decide +kernel
theorem df3 : ∀ j, j < 10 → defaultValue (tyC 3 j) = if isRefT (tyC 3 j) then Value.null else .int 0 := by decide +kernel
theorem df4 : ∀ j, j < 13 → defaultValue (tyC 4 j) = if isRefT (tyC 4 j) then Value.null else .int 0 := by decide +kernel
theorem df5 : ∀ j, j < 10 → defaultValue (tyC 5 j) = if isRefT (tyC 5 j) then Value.null else .int 0 := by decide +kernel
theorem df6 : ∀ j, j < 25 → defaultValue (tyC 6 j) = if isRefT (tyC 6 j) then Value.null else .int 0 := by decide +kernel
theorem obl_X0 : Cond.methodLink RX0 1 objectInit ∈ lwU := inU 169 (by decide +kernel) rfl
theorem ins_X0 : Cond.instantiable RX0 1 ∈ lwU := inU 165 (by decide +kernel) rfl
theorem ini_X0 : Cond.initialized RX0 ∈ lwU := inU 5 (by decide +kernel) rfl
theorem obl_X1 : Cond.methodLink RX1 3 objectInit ∈ lwU := inU 179 (by decide +kernel) rfl
theorem ins_X1 : Cond.instantiable RX1 3 ∈ lwU := inU 175 (by decide +kernel) rfl
theorem ini_X1 : Cond.initialized RX1 ∈ lwU := inU 6 (by decide +kernel) rfl
theorem obl_X2 : Cond.methodLink RX2 3 objectInit ∈ lwU := inU 163 (by decide +kernel) rfl
theorem ins_X2 : Cond.instantiable RX2 8 ∈ lwU := inU 159 (by decide +kernel) rfl
theorem ini_X2 : Cond.initialized RX2 ∈ lwU := inU 4 (by decide +kernel) rfl
theorem obl_X3 : Cond.methodLink RX3 3 objectInit ∈ lwU := inU 35 (by decide +kernel) rfl
theorem ins_X3 : Cond.instantiable RX3 10 ∈ lwU := inU 31 (by decide +kernel) rfl
theorem ini_X3 : Cond.initialized RX3 ∈ lwU := inU 2 (by decide +kernel) rfl
theorem obl_X4 : Cond.methodLink RX4 3 objectInit ∈ lwU := inU 79 (by decide +kernel) rfl
theorem ins_X4 : Cond.instantiable RX4 13 ∈ lwU := inU 75 (by decide +kernel) rfl
theorem ini_X4 : Cond.initialized RX4 ∈ lwU := inU 3 (by decide +kernel) rfl
theorem obl_X5 : Cond.methodLink RX5 3 objectInit ∈ lwU := inU 27 (by decide +kernel) rfl
theorem ins_X5 : Cond.instantiable RX5 10 ∈ lwU := inU 23 (by decide +kernel) rfl
theorem ini_X5 : Cond.initialized RX5 ∈ lwU := inU 1 (by decide +kernel) rfl
theorem obl_X6 : Cond.methodLink RX6 3 objectInit ∈ lwU := inU 904 (by decide +kernel) rfl
theorem ins_X6 : Cond.instantiable RX6 25 ∈ lwU := inU 900 (by decide +kernel) rfl
theorem ini_X6 : Cond.initialized RX6 ∈ lwU := inU 7 (by decide +kernel) rfl
theorem clk_X5_9 : Cond.classLink RX5 9 RX3 ∈ lwU := inU 30 (by decide +kernel) rfl
theorem clk_X5_23 : Cond.classLink RX5 23 RX1 ∈ lwU := inU 72 (by decide +kernel) rfl
theorem clk_X5_35 : Cond.classLink RX5 35 RX4 ∈ lwU := inU 74 (by decide +kernel) rfl
theorem clk_X5_38 : Cond.classLink RX5 38 RX2 ∈ lwU := inU 158 (by decide +kernel) rfl
theorem clk_X2_32 : Cond.classLink RX2 32 RX0 ∈ lwU := inU 164 (by decide +kernel) rfl
theorem clk_X2_39 : Cond.classLink RX2 39 RX1 ∈ lwU := inU 174 (by decide +kernel) rfl
abbrev mA_X0 : MI := (yX0_init, RX0, cX0_init, 1, none, { frames := 2, cells := 1, slots := 11, locals := 80 })
theorem nA_X0 : Nm mA_X0 := ⟨by decide +kernel, rfl⟩
theorem kA_X0 : LkI mA_X0 0 := ⟨inU 167 (by decide +kernel) rfl, inU 5 (by decide +kernel) rfl, inU 168 (by decide +kernel) rfl, ⟨by decide +kernel, by decide +kernel, by decide +kernel⟩, rfl, rfl⟩
abbrev mA_X1 : MI := (yX1_init, RX1, cX1_init, 2, none, { frames := 2, cells := 2, slots := 72, locals := 80 })
theorem nA_X1 : Nm mA_X1 := ⟨by decide +kernel, rfl⟩
theorem kA_X1 : LkI mA_X1 1 := ⟨inU 177 (by decide +kernel) rfl, inU 6 (by decide +kernel) rfl, inU 178 (by decide +kernel) rfl, ⟨by decide +kernel, by decide +kernel, by decide +kernel⟩, rfl, rfl⟩
abbrev mA_X2 : MI := (yX2_init, RX2, cX2_init, 2, none, { frames := 3, cells := 10, slots := 400, locals := 120 })
theorem nA_X2 : Nm mA_X2 := ⟨by decide +kernel, rfl⟩
theorem kA_X2 : LkI mA_X2 1 := ⟨inU 161 (by decide +kernel) rfl, inU 4 (by decide +kernel) rfl, inU 162 (by decide +kernel) rfl, ⟨by decide +kernel, by decide +kernel, by decide +kernel⟩, rfl, rfl⟩
abbrev mA_X3 : MI := (yX3_init, RX3, cX3_init, 1, none, { frames := 2, cells := 2, slots := 1800, locals := 80 })
theorem nA_X3 : Nm mA_X3 := ⟨by decide +kernel, rfl⟩
theorem kA_X3 : LkI mA_X3 0 := ⟨inU 33 (by decide +kernel) rfl, inU 2 (by decide +kernel) rfl, inU 34 (by decide +kernel) rfl, ⟨by decide +kernel, by decide +kernel, by decide +kernel⟩, rfl, rfl⟩
abbrev mA_X4 : MI := (yX4_init, RX4, cX4_init, 1, none, { frames := 2, cells := 10, slots := 120, locals := 80 })
theorem nA_X4 : Nm mA_X4 := ⟨by decide +kernel, rfl⟩
theorem kA_X4 : LkI mA_X4 0 := ⟨inU 77 (by decide +kernel) rfl, inU 3 (by decide +kernel) rfl, inU 78 (by decide +kernel) rfl, ⟨by decide +kernel, by decide +kernel, by decide +kernel⟩, rfl, rfl⟩
theorem g_X0 {Γ : GG} {P : MP} {I : MM} {i : Nat} (ho : Ob Γ i (.inl 0)) (hB : Bw Γ P (i + 1) (i + 2)) (hz : i + 2 ≤ 500 ∨ 701 ≤ i) : ClG Γ mA_X0 [vR i] P I (fun Γ' v P' I' => v = none ∧ NW Γ Γ' P P' I I' i 1 [] ∧ LCost Γ' P' i (i + 1)) := by
  refine clg_of nA_X0 (Nat.le_of_ble_eq_true rfl) ?_
  refine y_aload_n 0 dX0_init_0 rfl ?_
  refine y_objI dX0_init_1 obl_X0 (by decide) (by decide) ?_
  refine y_aload_n 0 dX0_init_4 rfl ?_
  refine y_bipush dX0_init_5 rfl ?_
  have f1 := Bw.fsh (i := (i + 1)) hB (by omega) (by omega)
  refine y_newarr (i := (i + 1)) (ek := 0) (atype := .int) dX0_init_7 (by decide) rfl arw_int (by decide) (by decide) f1 (rfs_l ho (rfs_s ho rfs_nil)) (by decide) (by decide) (fun q1 => ?_)
  have o1_i := ob_new (j := (i + 1)) (q := q1) (t := .inr (0, (11 : Int).toNat)) ho (by omega)
  have B1 := (Bw.mono (lo' := i + 2) (hi' := i + 2) hB (by omega) (by omega)).new (i := (i + 1)) (q := q1) (t := .inr (0, (11 : Int).toNat)) (by omega)
  have hk1 := Kp.tr (Kp.rf (Γ := Γ)) (gN_kp (q := q1) (t := .inr (0, (11 : Int).toNat)) f1)
  have o1_n := kp_n hk1
  refine y_putF dX0_init_9 FC0 0 (by decide) rfl rfl rfl rfl fl_X0_9 o1_i ?_
  have B2 := B1.up (i := i) (k := 0) (r := i + 1) (by have := hz; omega)
  refine y_vret dX0_init_12 rfl (by decide) (by decide) hk1 ⟨rfl, ⟨fun lo hi h1 hx hb => ((hb.new (by omega)).up (by have := hx; omega)), fun j hj => ⟨?_, ?_⟩⟩, ?_⟩
  · rw [up2_ne (by omega), clr_ne (by omega)]
  · rw [clr_ne (by omega)]
  · exact ⟨o1_i, (by rw [up2_eq]), o1_n⟩
theorem g_X1 {Γ : GG} {P : MP} {I : MM} {i σ κ n : Nat} (ho : Ob Γ i (.inl 1)) (hs : LShop Γ P σ κ n) (hne : σ + 9 < i ∨ i + 2 < σ) (hB : Bw Γ P (i + 1) (i + 3)) (hz : i + 3 ≤ 500 ∨ 701 ≤ i) : ClG Γ mA_X1 [vR i, vR σ] P I (fun Γ' v P' I' => v = none ∧ NW Γ Γ' P P' I I' i 2 [σ] ∧ P' i 0 = some σ ∧ P' i 1 = some (i + 1) ∧ P' i 2 = some (i + 2) ∧ Ob Γ' i (.inl 1) ∧ Ob Γ' (i + 1) (.inr (0, 36)) ∧ Ob Γ' (i + 2) (.inr (0, 36))) := by
  refine clg_of nA_X1 (Nat.le_of_ble_eq_true rfl) ?_
  have hos := hs.1
  refine y_aload_n 0 dX1_init_0 rfl ?_
  refine y_objI dX1_init_1 obl_X1 (by decide) (by decide) ?_
  refine y_aload_n 0 dX1_init_4 rfl ?_
  refine y_bipush dX1_init_5 rfl ?_
  have f1 := Bw.fsh (i := (i + 1)) hB (by omega) (by omega)
  refine y_newarr (i := (i + 1)) (ek := 0) (atype := .int) dX1_init_7 (by decide) rfl arw_int (by decide) (by decide) f1 (rfs_l ho (rfs_l hos (rfs_s ho rfs_nil))) (by decide) (by decide) (fun q1 => ?_)
  have o1_i := ob_new (j := (i + 1)) (q := q1) (t := .inr (0, (36 : Int).toNat)) ho (by omega)
  have o1_σ := ob_new (j := (i + 1)) (q := q1) (t := .inr (0, (36 : Int).toNat)) hos (by omega)
  have B1 := (Bw.mono (lo' := i + 2) (hi' := i + 3) hB (by omega) (by omega)).new (i := (i + 1)) (q := q1) (t := .inr (0, (36 : Int).toNat)) (by omega)
  have hk1 := Kp.tr (Kp.rf (Γ := Γ)) (gN_kp (q := q1) (t := .inr (0, (36 : Int).toNat)) f1)
  have o1_n := kp_n hk1
  refine y_putF dX1_init_9 FC1 1 (by decide) rfl rfl rfl rfl fl_X1_9 o1_i ?_
  have B2 := B1.up (i := i) (k := 1) (r := i + 1) (by have := hz; omega)
  refine y_aload_n 0 dX1_init_12 rfl ?_
  refine y_bipush dX1_init_13 rfl ?_
  have f2 := Bw.fsh (i := (i + 2)) B2 (by omega) (by omega)
  refine y_newarr (i := (i + 2)) (ek := 0) (atype := .int) dX1_init_15 (by decide) rfl arw_int (by decide) (by decide) f2 (rfs_l o1_i (rfs_l o1_σ (rfs_s o1_i rfs_nil))) (by decide) (by decide) (fun q2 => ?_)
  have o3_i := ob_new (j := (i + 2)) (q := q2) (t := .inr (0, (36 : Int).toNat)) o1_i (by omega)
  have o3_σ := ob_new (j := (i + 2)) (q := q2) (t := .inr (0, (36 : Int).toNat)) o1_σ (by omega)
  have o3_i1 := ob_new (j := (i + 2)) (q := q2) (t := .inr (0, (36 : Int).toNat)) o1_n (by omega)
  have B3 := (Bw.mono (lo' := i + 3) (hi' := i + 3) B2 (by omega) (by omega)).new (i := (i + 2)) (q := q2) (t := .inr (0, (36 : Int).toNat)) (by omega)
  have hk3 := Kp.tr hk1 (gN_kp (q := q2) (t := .inr (0, (36 : Int).toNat)) f2)
  have o3_n := kp_n hk3
  refine y_putF dX1_init_17 FC1 2 (by decide) rfl rfl rfl rfl fl_X1_15 o3_i ?_
  have B4 := B3.up (i := i) (k := 2) (r := i + 2) (by have := hz; omega)
  refine y_aload_n 0 dX1_init_20 rfl ?_
  refine y_aload_n 1 dX1_init_21 rfl ?_
  refine y_putP dX1_init_22 FC1 0 (by decide) rfl rfl fl_X1_18 o3_i ?_
  have B5 := B4.up (i := i) (k := 0) (r := σ) (by have := hz; omega)
  refine y_vret dX1_init_25 rfl (by decide) (by decide) hk3 ⟨rfl, ⟨fun lo hi h1 hx hb => (((((hb.new (by omega)).up (by have := hx; omega)).new (by omega)).up (by have := hx; omega)).up (hx _ (List.mem_singleton.mpr rfl))), fun j hj => ⟨?_, ?_⟩⟩, ?_⟩
  · rw [up2_ne (by omega), up2_ne (by omega), clr_ne (by omega), up2_ne (by omega), clr_ne (by omega)]
  · rw [clr_ne (by omega), clr_ne (by omega)]
  · exact ⟨(by rw [up2_eq]), (by rw [up2_nj (by decide), up2_nj (by decide), clr_ne (by omega), up2_eq]), (by rw [up2_nj (by decide), up2_eq]), o3_i, o3_i1, o3_n⟩
