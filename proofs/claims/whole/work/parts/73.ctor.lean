/-! CONSTRUCTORS: the numbers lo .. hi are not in use -/
def Bw (Γ : GG) (P : MP) (lo hi : Nat) : Prop := (∀ x ∈ gi Γ, x < lo ∨ hi ≤ x) ∧ (∀ j ∈ gi Γ, ∀ k r : Nat, k < 30 → P j k = some r → r < lo ∨ hi ≤ r) ∧ Ra Γ P
theorem Bw.mono {Γ : GG} {P : MP} {lo hi lo' hi' : Nat} (h : Bw Γ P lo hi) (h1 : lo ≤ lo') (h2 : hi' ≤ hi) : Bw Γ P lo' hi' := ⟨fun x hx => by have := h.1 x hx; omega, fun j hj k r hk hr => by have := h.2.1 j hj k r hk hr; omega, h.2.2⟩
theorem Bw.fsh {Γ : GG} {P : MP} {lo hi i : Nat} (h : Bw Γ P lo hi) (h1 : lo ≤ i ∧ i < hi) (h2 : i < 500 ∨ 701 ≤ i) : Fsh Γ P i := ⟨fun hm => by have := h.1 i hm; omega, h2, fun j hj k hk e => by have := h.2.1 j hj k i hk e; omega, h.2.2⟩
theorem Bw.new {Γ : GG} {P : MP} {lo hi i q : Nat} {t : CT} (h : Bw Γ P lo hi) (hi' : i < lo ∨ hi ≤ i) (h48 : ∀ ek n : Nat, t = .inr (ek, n) → 4 ≤ ek → i < 48 := by intro ek n h h4; cases h <;> omega) : Bw (gN Γ i q t) (clr P i none) lo hi := by
  refine ⟨fun x hx => ?_, fun j hj k r hk hr => ?_, fun j hj ek n ht h4 => ?_⟩
  · rcases List.mem_append.mp hx with hx | hx
    · exact h.1 x hx
    · rw [List.mem_singleton.mp hx]; exact hi'
  · by_cases he : j = i
    · subst he; rw [clr_eq] at hr; cases hr
    · rw [clr_ne he] at hr
      rcases List.mem_append.mp hj with hj | hj
      · exact h.2.1 j hj k r hk hr
      · exact absurd (List.mem_singleton.mp hj) he
  · by_cases he : j = i
    · subst he
      exact ⟨h48 ek n (by simpa only [gt, gX, if_true] using ht) h4, fun k _ => clr_eq⟩
    · rcases List.mem_append.mp hj with hj | hj
      · obtain ⟨a, b⟩ := h.2.2 j hj ek n (by simpa only [gt, gX, he, if_false] using ht) h4
        exact ⟨a, fun k hk => by rw [clr_ne he]; exact b k hk⟩
      · exact absurd (List.mem_singleton.mp hj) he
theorem Bw.up {Γ : GG} {P : MP} {lo hi i k r : Nat} (h : Bw Γ P lo hi) (hr : r < lo ∨ hi ≤ r) (hk : k < 30 := by decide) : Bw Γ (up2 P i k (some r)) lo hi := by
  refine ⟨h.1, fun j hj k2 r2 hk2 h2 => ?_, fun j hj ek n ht h4 => ⟨(h.2.2 j hj ek n ht h4).1, fun k2 hk2 => ?_⟩⟩
  · unfold up2 at h2
    split at h2
    · split at h2
      · cases h2; exact hr
      · exact h.2.1 _ hj _ _ hk2 h2
    · exact h.2.1 _ hj _ _ hk2 h2
  · unfold up2
    split
    · rw [if_neg (by omega)]; exact (h.2.2 j hj ek n ht h4).2 k2 hk2
    · exact (h.2.2 j hj ek n ht h4).2 k2 hk2
theorem ob_new {Γ : GG} {i j q : Nat} {t t' : CT} (h : Ob Γ i t') (hne : i ≠ j) : Ob (gN Γ j q t) i t' := ⟨List.mem_append_left _ h.1, by simp only [gt, gX, hne, if_false]; exact h.2⟩
theorem ob_bw {Γ : GG} {P : MP} {i lo hi : Nat} {t : CT} (h : Ob Γ i t) (hB : Bw Γ P lo hi) : i < lo ∨ hi ≤ i := hB.1 i h.1
theorem rfs_nil {Γ : GG} : Rfs Γ [] [] := ⟨fun _ h => (List.not_mem_nil h).elim, fun _ h => (List.not_mem_nil h).elim⟩
theorem kp_n {Γa Γ : GG} {i q : Nat} {t : CT} (_ : Kp Γa (gN Γ i q t)) : Ob (gN Γ i q t) i t := gN_ob
theorem rfs_l {Γ : GG} {i n : Nat} {t : CT} {al : List (Nat × AV)} {st : List AV} (h : Ob Γ i t) (k : Rfs Γ al st) : Rfs Γ ((n, vR i) :: al) st := ⟨fun q hq => (List.mem_cons.mp hq).elim (fun e => by rw [e]; exact Or.inl h.1) (k.1 q), k.2⟩
theorem rfs_li {Γ : GG} {n : Nat} {z : Int} {al : List (Nat × AV)} {st : List AV} (k : Rfs Γ al st) : Rfs Γ ((n, vI z) :: al) st := ⟨fun q hq => (List.mem_cons.mp hq).elim (fun e => by rw [e]; trivial) (k.1 q), k.2⟩
theorem rfs_s {Γ : GG} {i : Nat} {t : CT} {al : List (Nat × AV)} {st : List AV} (h : Ob Γ i t) (k : Rfs Γ al st) : Rfs Γ al (vR i :: st) := ⟨k.1, fun q hq => (List.mem_cons.mp hq).elim (fun e => by rw [e]; exact Or.inl h.1) (k.2 q)⟩
/-- what a constructor of the object i with the new numbers i + 1 .. i + n does to the rest -/
def NW (Γ Γ' : GG) (P P' : MP) (I I' : MM) (i n : Nat) (xs : List Nat) : Prop :=
  (∀ lo hi, (i + n < lo ∨ hi ≤ i) → (∀ x ∈ xs, x < lo ∨ hi ≤ x) → Bw Γ P lo hi → Bw Γ' P' lo hi) ∧ ∀ j, (j < i ∨ i + n < j) → P' j = P j ∧ I' j = I j
theorem LCost.kp {Γ Γ' : GG} {P P' : MP} {c w : Nat} (h : LCost Γ P c w) (k : Kp Γ Γ') (e : P' c = P c) : LCost Γ' P' c w := ⟨h.1.keep k, by rw [e]; exact h.2.1, h.2.2.keep k⟩
theorem LShop.kp {Γ Γ' : GG} {P P' : MP} {σ κ n : Nat} (h : LShop Γ P σ κ n) (k : Kp Γ Γ') (e : P' σ = P σ) : LShop Γ' P' σ κ n := ⟨(LShop_ob h).keep k, (by rw [e]; exact LShop_p3 h), (LShop_a3 h).keep k, (by rw [e]; exact LShop_p4 h), (LShop_a4 h).keep k, (by rw [e]; exact LShop_p5 h), (LShop_a5 h).keep k, (by rw [e]; exact LShop_p6 h), (LShop_a6 h).keep k, (by rw [e]; exact LShop_p7 h), (LShop_a7 h).keep k, (by rw [e]; exact LShop_p8 h), (LShop_a8 h).keep k, (by rw [e]; exact LShop_p9 h), (LShop_a9 h).keep k, (by rw [e]; exact LShop_p10 h), (LShop_a10 h).keep k, (by rw [e]; exact LShop_p11 h), (LShop_a11 h).keep k, (by rw [e]; exact LShop_p12 h), (LShop_a12 h).keep k, h.2.2.2.2.2.2.2.2.2.2.2.2.2.2.2.2.2.2.2.2.2⟩
theorem clr0 {f : MM} {j r k : Nat} (h : r ≠ j → f r k = 0) : clr f j 0 r k = 0 := by
  by_cases hr : r = j
  · rw [hr]; exact clr_eq
  · rw [clr_ne hr]; exact h hr
theorem up0 {f : MM} {a b r k : Nat} (h : f r k = 0) : up2 f a b 0 r k = 0 := by
  unfold up2
  split
  · split
    · rfl
    · exact h
  · exact h
theorem arw_int : Cond.arrayClass (ekT 0) ∈ lwU := inU 71 (by decide +kernel) rfl
theorem arw_byte : Cond.arrayClass (ekT 1) ∈ lwU := inU 70 (by decide +kernel) rfl
theorem arw_boolean : Cond.arrayClass (ekT 2) ∈ lwU := inU 157 (by decide +kernel) rfl
theorem arw_long : Cond.arrayClass (ekT 3) ∈ lwU := inU 983 (by decide +kernel) rfl
theorem df0 : ∀ j, j < 1 → defaultValue (tyC 0 j) = if isRefT (tyC 0 j) then Value.null else .int 0 := by decide +kernel
theorem df1 : ∀ j, j < 3 → defaultValue (tyC 1 j) = if isRefT (tyC 1 j) then Value.null else .int 0 := by decide +kernel
theorem df2 : ∀ j, j < 8 → defaultValue (tyC 2 j) = if isRefT (tyC 2 j) then Value.null else .int 0 := by decide +kernel
theorem df3 : ∀ j, j < 10 → defaultValue (tyC 3 j) = if isRefT (tyC 3 j) then Value.null else .int 0 := by decide +kernel
theorem df4 : ∀ j, j < 13 → defaultValue (tyC 4 j) = if isRefT (tyC 4 j) then Value.null else .int 0 := by decide +kernel
theorem df5 : ∀ j, j < 10 → defaultValue (tyC 5 j) = if isRefT (tyC 5 j) then Value.null else .int 0 := by decide +kernel
theorem df6 : ∀ j, j < 25 → defaultValue (tyC 6 j) = if isRefT (tyC 6 j) then Value.null else .int 0 := by decide +kernel
theorem obl_X0 : Cond.methodLink RX0 1 objectInit ∈ lwU := inU 169 (by decide +kernel) rfl
theorem ins_X0 : Cond.instantiable RX0 1 ∈ lwU := inU 165 (by decide +kernel) rfl
theorem ini_X0 : Cond.initialized RX0 ∈ lwU := inU 5 (by decide +kernel) rfl
theorem obl_X1 : Cond.methodLink RX1 3 objectInit ∈ lwU := inU 179 (by decide +kernel) rfl
theorem ins_X1 : Cond.instantiable RX1 3 ∈ lwU := inU 175 (by decide +kernel) rfl
theorem ini_X1 : Cond.initialized RX1 ∈ lwU := inU 6 (by decide +kernel) rfl
theorem obl_X2 : Cond.methodLink RX2 3 objectInit ∈ lwU := inU 163 (by decide +kernel) rfl
theorem ins_X2 : Cond.instantiable RX2 8 ∈ lwU := inU 159 (by decide +kernel) rfl
theorem ini_X2 : Cond.initialized RX2 ∈ lwU := inU 4 (by decide +kernel) rfl
theorem obl_X3 : Cond.methodLink RX3 3 objectInit ∈ lwU := inU 35 (by decide +kernel) rfl
theorem ins_X3 : Cond.instantiable RX3 10 ∈ lwU := inU 31 (by decide +kernel) rfl
theorem ini_X3 : Cond.initialized RX3 ∈ lwU := inU 2 (by decide +kernel) rfl
theorem obl_X4 : Cond.methodLink RX4 3 objectInit ∈ lwU := inU 79 (by decide +kernel) rfl
theorem ins_X4 : Cond.instantiable RX4 13 ∈ lwU := inU 75 (by decide +kernel) rfl
theorem ini_X4 : Cond.initialized RX4 ∈ lwU := inU 3 (by decide +kernel) rfl
theorem obl_X5 : Cond.methodLink RX5 3 objectInit ∈ lwU := inU 27 (by decide +kernel) rfl
theorem ins_X5 : Cond.instantiable RX5 10 ∈ lwU := inU 23 (by decide +kernel) rfl
theorem ini_X5 : Cond.initialized RX5 ∈ lwU := inU 1 (by decide +kernel) rfl
theorem obl_X6 : Cond.methodLink RX6 3 objectInit ∈ lwU := inU 904 (by decide +kernel) rfl
theorem ins_X6 : Cond.instantiable RX6 25 ∈ lwU := inU 900 (by decide +kernel) rfl
theorem ini_X6 : Cond.initialized RX6 ∈ lwU := inU 7 (by decide +kernel) rfl
theorem clk_X5_9 : Cond.classLink RX5 9 RX3 ∈ lwU := inU 30 (by decide +kernel) rfl
theorem clk_X5_23 : Cond.classLink RX5 23 RX1 ∈ lwU := inU 72 (by decide +kernel) rfl
theorem clk_X5_35 : Cond.classLink RX5 35 RX4 ∈ lwU := inU 74 (by decide +kernel) rfl
theorem clk_X5_38 : Cond.classLink RX5 38 RX2 ∈ lwU := inU 158 (by decide +kernel) rfl
theorem clk_X2_32 : Cond.classLink RX2 32 RX0 ∈ lwU := inU 164 (by decide +kernel) rfl
theorem clk_X2_39 : Cond.classLink RX2 39 RX1 ∈ lwU := inU 174 (by decide +kernel) rfl
abbrev mA_X0 : MI := (yX0_init, RX0, cX0_init, 1, none, { frames := 2, cells := 1, slots := 11, locals := 80 })
theorem nA_X0 : Nm mA_X0 := ⟨by decide +kernel, rfl⟩
theorem kA_X0 : LkI mA_X0 0 := ⟨inU 167 (by decide +kernel) rfl, inU 5 (by decide +kernel) rfl, inU 168 (by decide +kernel) rfl, ⟨by decide +kernel, by decide +kernel, by decide +kernel⟩, rfl, rfl⟩
abbrev mA_X1 : MI := (yX1_init, RX1, cX1_init, 2, none, { frames := 2, cells := 2, slots := 72, locals := 80 })
theorem nA_X1 : Nm mA_X1 := ⟨by decide +kernel, rfl⟩
theorem kA_X1 : LkI mA_X1 1 := ⟨inU 177 (by decide +kernel) rfl, inU 6 (by decide +kernel) rfl, inU 178 (by decide +kernel) rfl, ⟨by decide +kernel, by decide +kernel, by decide +kernel⟩, rfl, rfl⟩
abbrev mA_X2 : MI := (yX2_init, RX2, cX2_init, 2, none, { frames := 3, cells := 10, slots := 400, locals := 120 })
theorem nA_X2 : Nm mA_X2 := ⟨by decide +kernel, rfl⟩
theorem kA_X2 : LkI mA_X2 1 := ⟨inU 161 (by decide +kernel) rfl, inU 4 (by decide +kernel) rfl, inU 162 (by decide +kernel) rfl, ⟨by decide +kernel, by decide +kernel, by decide +kernel⟩, rfl, rfl⟩
abbrev mA_X3 : MI := (yX3_init, RX3, cX3_init, 1, none, { frames := 2, cells := 2, slots := 1800, locals := 80 })
theorem nA_X3 : Nm mA_X3 := ⟨by decide +kernel, rfl⟩
theorem kA_X3 : LkI mA_X3 0 := ⟨inU 33 (by decide +kernel) rfl, inU 2 (by decide +kernel) rfl, inU 34 (by decide +kernel) rfl, ⟨by decide +kernel, by decide +kernel, by decide +kernel⟩, rfl, rfl⟩
abbrev mA_X4 : MI := (yX4_init, RX4, cX4_init, 1, none, { frames := 2, cells := 10, slots := 120, locals := 80 })
theorem nA_X4 : Nm mA_X4 := ⟨by decide +kernel, rfl⟩
theorem kA_X4 : LkI mA_X4 0 := ⟨inU 77 (by decide +kernel) rfl, inU 3 (by decide +kernel) rfl, inU 78 (by decide +kernel) rfl, ⟨by decide +kernel, by decide +kernel, by decide +kernel⟩, rfl, rfl⟩
theorem g_X0 {Γ : GG} {P : MP} {I : MM} {i : Nat} (ho : Ob Γ i (.inl 0)) (hB : Bw Γ P (i + 1) (i + 2)) (hz : i + 2 ≤ 500 ∨ 701 ≤ i) : ClG Γ mA_X0 [vR i] P I (fun Γ' v P' I' => v = none ∧ NW Γ Γ' P P' I I' i 1 [] ∧ LCost Γ' P' i (i + 1)) := by
  refine clg_of nA_X0 (Nat.le_of_ble_eq_true rfl) ?_
  refine y_aload_n 0 dX0_init_0 rfl ?_
  refine y_objI dX0_init_1 obl_X0 (by decide) (by decide) ?_
  refine y_aload_n 0 dX0_init_4 rfl ?_
  refine y_bipush dX0_init_5 rfl ?_
  have f1 := Bw.fsh (i := (i + 1)) hB (by omega) (by omega)
  refine y_newarr (i := (i + 1)) (ek := 0) (atype := .int) dX0_init_7 (by decide) rfl arw_int (by decide) (by decide) f1 (rfs_l ho (rfs_s ho rfs_nil)) (by decide) (by decide) (fun q1 => ?_)
  have o1_i := ob_new (j := (i + 1)) (q := q1) (t := .inr (0, (11 : Int).toNat)) ho (by omega)
  have B1 := (Bw.mono (lo' := i + 2) (hi' := i + 2) hB (by omega) (by omega)).new (i := (i + 1)) (q := q1) (t := .inr (0, (11 : Int).toNat)) (by omega)
  have hk1 := Kp.tr (Kp.rf (Γ := Γ)) (gN_kp (q := q1) (t := .inr (0, (11 : Int).toNat)) f1)
  have o1_n := kp_n hk1
  refine y_putF dX0_init_9 FC0 0 (by decide) rfl rfl rfl rfl fl_X0_9 o1_i ?_
  have B2 := B1.up (i := i) (k := 0) (r := i + 1) (by have := hz; omega)
  refine y_vret dX0_init_12 rfl (by decide) (by decide) hk1 ⟨rfl, ⟨fun lo hi h1 hx hb => ((hb.new (by omega)).up (by have := hx; omega)), fun j hj => ⟨?_, ?_⟩⟩, ?_⟩
  · rw [up2_ne (by omega), clr_ne (by omega)]
  · rw [clr_ne (by omega)]
  · exact ⟨o1_i, (by rw [up2_eq]), o1_n⟩
theorem g_X1 {Γ : GG} {P : MP} {I : MM} {i σ κ n : Nat} (ho : Ob Γ i (.inl 1)) (hs : LShop Γ P σ κ n) (hne : σ + 9 < i ∨ i + 2 < σ) (hB : Bw Γ P (i + 1) (i + 3)) (hz : i + 3 ≤ 500 ∨ 701 ≤ i) : ClG Γ mA_X1 [vR i, vR σ] P I (fun Γ' v P' I' => v = none ∧ NW Γ Γ' P P' I I' i 2 [σ] ∧ P' i 0 = some σ ∧ P' i 1 = some (i + 1) ∧ P' i 2 = some (i + 2) ∧ Ob Γ' i (.inl 1) ∧ Ob Γ' (i + 1) (.inr (0, 36)) ∧ Ob Γ' (i + 2) (.inr (0, 36))) := by
  refine clg_of nA_X1 (Nat.le_of_ble_eq_true rfl) ?_
  have hos := hs.1
  refine y_aload_n 0 dX1_init_0 rfl ?_
  refine y_objI dX1_init_1 obl_X1 (by decide) (by decide) ?_
  refine y_aload_n 0 dX1_init_4 rfl ?_
  refine y_bipush dX1_init_5 rfl ?_
  have f1 := Bw.fsh (i := (i + 1)) hB (by omega) (by omega)
  refine y_newarr (i := (i + 1)) (ek := 0) (atype := .int) dX1_init_7 (by decide) rfl arw_int (by decide) (by decide) f1 (rfs_l ho (rfs_l hos (rfs_s ho rfs_nil))) (by decide) (by decide) (fun q1 => ?_)
  have o1_i := ob_new (j := (i + 1)) (q := q1) (t := .inr (0, (36 : Int).toNat)) ho (by omega)
  have o1_σ := ob_new (j := (i + 1)) (q := q1) (t := .inr (0, (36 : Int).toNat)) hos (by omega)
  have B1 := (Bw.mono (lo' := i + 2) (hi' := i + 3) hB (by omega) (by omega)).new (i := (i + 1)) (q := q1) (t := .inr (0, (36 : Int).toNat)) (by omega)
  have hk1 := Kp.tr (Kp.rf (Γ := Γ)) (gN_kp (q := q1) (t := .inr (0, (36 : Int).toNat)) f1)
  have o1_n := kp_n hk1
  refine y_putF dX1_init_9 FC1 1 (by decide) rfl rfl rfl rfl fl_X1_9 o1_i ?_
  have B2 := B1.up (i := i) (k := 1) (r := i + 1) (by have := hz; omega)
  refine y_aload_n 0 dX1_init_12 rfl ?_
  refine y_bipush dX1_init_13 rfl ?_
  have f2 := Bw.fsh (i := (i + 2)) B2 (by omega) (by omega)
  refine y_newarr (i := (i + 2)) (ek := 0) (atype := .int) dX1_init_15 (by decide) rfl arw_int (by decide) (by decide) f2 (rfs_l o1_i (rfs_l o1_σ (rfs_s o1_i rfs_nil))) (by decide) (by decide) (fun q2 => ?_)
  have o3_i := ob_new (j := (i + 2)) (q := q2) (t := .inr (0, (36 : Int).toNat)) o1_i (by omega)
  have o3_σ := ob_new (j := (i + 2)) (q := q2) (t := .inr (0, (36 : Int).toNat)) o1_σ (by omega)
  have o3_i1 := ob_new (j := (i + 2)) (q := q2) (t := .inr (0, (36 : Int).toNat)) o1_n (by omega)
  have B3 := (Bw.mono (lo' := i + 3) (hi' := i + 3) B2 (by omega) (by omega)).new (i := (i + 2)) (q := q2) (t := .inr (0, (36 : Int).toNat)) (by omega)
  have hk3 := Kp.tr hk1 (gN_kp (q := q2) (t := .inr (0, (36 : Int).toNat)) f2)
  have o3_n := kp_n hk3
  refine y_putF dX1_init_17 FC1 2 (by decide) rfl rfl rfl rfl fl_X1_15 o3_i ?_
  have B4 := B3.up (i := i) (k := 2) (r := i + 2) (by have := hz; omega)
  refine y_aload_n 0 dX1_init_20 rfl ?_
  refine y_aload_n 1 dX1_init_21 rfl ?_
  refine y_putP dX1_init_22 FC1 0 (by decide) rfl rfl fl_X1_18 o3_i ?_
  have B5 := B4.up (i := i) (k := 0) (r := σ) (by have := hz; omega)
  refine y_vret dX1_init_25 rfl (by decide) (by decide) hk3 ⟨rfl, ⟨fun lo hi h1 hx hb => (((((hb.new (by omega)).up (by have := hx; omega)).new (by omega)).up (by have := hx; omega)).up (hx _ (List.mem_singleton.mpr rfl))), fun j hj => ⟨?_, ?_⟩⟩, ?_⟩
  · rw [up2_ne (by omega), up2_ne (by omega), clr_ne (by omega), up2_ne (by omega), clr_ne (by omega)]
  · rw [clr_ne (by omega), clr_ne (by omega)]
  · exact ⟨(by rw [up2_eq]), (by rw [up2_nj (by decide), up2_nj (by decide), clr_ne (by omega), up2_eq]), (by rw [up2_nj (by decide), up2_eq]), o3_i, o3_i1, o3_n⟩
theorem g_X4 {Γ : GG} {P : MP} {I : MM} {i : Nat} (ho : Ob Γ i (.inl 4)) (hI : ∀ k, I i k = 0) (hB : Bw Γ P (i + 1) (i + 11)) (hz : i + 11 ≤ 500 ∨ 701 ≤ i) : ClG Γ mA_X4 [vR i] P I (fun Γ' v P' I' => v = none ∧ NW Γ Γ' P P' I I' i 10 [] ∧ LShop Γ' P' i (i + 10) 1 ∧ SH0 I' i ∧ I' (i + 10) 0 = -1) := by
  refine clg_of nA_X4 (Nat.le_of_ble_eq_true rfl) ?_
  refine y_aload_n 0 dX4_init_0 rfl ?_
  refine y_objI dX4_init_1 obl_X4 (by decide) (by decide) ?_
  refine y_aload_n 0 dX4_init_4 rfl ?_
  refine y_iconst dX4_init_5 ?_
  refine y_putI dX4_init_6 FC4 0 (by decide) rfl rfl fl_X4_9 ho ?_
  refine y_aload_n 0 dX4_init_9 rfl ?_
  refine y_iconst dX4_init_10 ?_
  refine y_putI dX4_init_11 FC4 1 (by decide) rfl rfl fl_X4_15 ho ?_
  refine y_aload_n 0 dX4_init_14 rfl ?_
  refine y_iconst dX4_init_15 ?_
  refine y_putZ dX4_init_16 FC4 2 (by decide) rfl rfl (Or.inl rfl) fl_X4_18 ho ?_
  refine y_aload_n 0 dX4_init_19 rfl ?_
  refine y_bipush dX4_init_20 rfl ?_
  have f1 := Bw.fsh (i := (i + 1)) hB (by omega) (by omega)
  refine y_newarr (i := (i + 1)) (ek := 2) (atype := .boolean) dX4_init_22 (by decide) rfl arw_boolean (by decide) (by decide) f1 (rfs_l ho (rfs_s ho rfs_nil)) (by decide) (by decide) (fun q1 => ?_)
  have o1_i := ob_new (j := (i + 1)) (q := q1) (t := .inr (2, (6 : Int).toNat)) ho (by omega)
  have B1 := (Bw.mono (lo' := i + 2) (hi' := i + 11) hB (by omega) (by omega)).new (i := (i + 1)) (q := q1) (t := .inr (2, (6 : Int).toNat)) (by omega)
  have hk1 := Kp.tr (Kp.rf (Γ := Γ)) (gN_kp (q := q1) (t := .inr (2, (6 : Int).toNat)) f1)
  have o1_n := kp_n hk1
  refine y_putF dX4_init_24 FC4 3 (by decide) rfl rfl rfl rfl fl_X4_22 o1_i ?_
  have B2 := B1.up (i := i) (k := 3) (r := i + 1) (by have := hz; omega)
  refine y_aload_n 0 dX4_init_27 rfl ?_
  refine y_bipush dX4_init_28 rfl ?_
  have f2 := Bw.fsh (i := (i + 2)) B2 (by omega) (by omega)
  refine y_newarr (i := (i + 2)) (ek := 0) (atype := .int) dX4_init_30 (by decide) rfl arw_int (by decide) (by decide) f2 (rfs_l o1_i (rfs_s o1_i rfs_nil)) (by decide) (by decide) (fun q2 => ?_)
  have o3_i := ob_new (j := (i + 2)) (q := q2) (t := .inr (0, (6 : Int).toNat)) o1_i (by omega)
  have o3_i1 := ob_new (j := (i + 2)) (q := q2) (t := .inr (0, (6 : Int).toNat)) o1_n (by omega)
  have B3 := (Bw.mono (lo' := i + 3) (hi' := i + 11) B2 (by omega) (by omega)).new (i := (i + 2)) (q := q2) (t := .inr (0, (6 : Int).toNat)) (by omega)
  have hk3 := Kp.tr hk1 (gN_kp (q := q2) (t := .inr (0, (6 : Int).toNat)) f2)
  have o3_n := kp_n hk3
  refine y_putF dX4_init_32 FC4 4 (by decide) rfl rfl rfl rfl fl_X4_26 o3_i ?_
  have B4 := B3.up (i := i) (k := 4) (r := i + 2) (by have := hz; omega)
  refine y_aload_n 0 dX4_init_35 rfl ?_
  refine y_bipush dX4_init_36 rfl ?_
  have f3 := Bw.fsh (i := (i + 3)) B4 (by omega) (by omega)
  refine y_newarr (i := (i + 3)) (ek := 0) (atype := .int) dX4_init_38 (by decide) rfl arw_int (by decide) (by decide) f3 (rfs_l o3_i (rfs_s o3_i rfs_nil)) (by decide) (by decide) (fun q3 => ?_)
  have o5_i := ob_new (j := (i + 3)) (q := q3) (t := .inr (0, (6 : Int).toNat)) o3_i (by omega)
  have o5_i1 := ob_new (j := (i + 3)) (q := q3) (t := .inr (0, (6 : Int).toNat)) o3_i1 (by omega)
  have o5_i2 := ob_new (j := (i + 3)) (q := q3) (t := .inr (0, (6 : Int).toNat)) o3_n (by omega)
  have B5 := (Bw.mono (lo' := i + 4) (hi' := i + 11) B4 (by omega) (by omega)).new (i := (i + 3)) (q := q3) (t := .inr (0, (6 : Int).toNat)) (by omega)
  have hk5 := Kp.tr hk3 (gN_kp (q := q3) (t := .inr (0, (6 : Int).toNat)) f3)
  have o5_n := kp_n hk5
  refine y_putF dX4_init_40 FC4 5 (by decide) rfl rfl rfl rfl fl_X4_30 o5_i ?_
  have B6 := B5.up (i := i) (k := 5) (r := i + 3) (by have := hz; omega)
  refine y_aload_n 0 dX4_init_43 rfl ?_
  refine y_bipush dX4_init_44 rfl ?_
  have f4 := Bw.fsh (i := (i + 4)) B6 (by omega) (by omega)
  refine y_newarr (i := (i + 4)) (ek := 0) (atype := .int) dX4_init_46 (by decide) rfl arw_int (by decide) (by decide) f4 (rfs_l o5_i (rfs_s o5_i rfs_nil)) (by decide) (by decide) (fun q4 => ?_)
  have o7_i := ob_new (j := (i + 4)) (q := q4) (t := .inr (0, (6 : Int).toNat)) o5_i (by omega)
  have o7_i1 := ob_new (j := (i + 4)) (q := q4) (t := .inr (0, (6 : Int).toNat)) o5_i1 (by omega)
  have o7_i2 := ob_new (j := (i + 4)) (q := q4) (t := .inr (0, (6 : Int).toNat)) o5_i2 (by omega)
  have o7_i3 := ob_new (j := (i + 4)) (q := q4) (t := .inr (0, (6 : Int).toNat)) o5_n (by omega)
  have B7 := (Bw.mono (lo' := i + 5) (hi' := i + 11) B6 (by omega) (by omega)).new (i := (i + 4)) (q := q4) (t := .inr (0, (6 : Int).toNat)) (by omega)
  have hk7 := Kp.tr hk5 (gN_kp (q := q4) (t := .inr (0, (6 : Int).toNat)) f4)
  have o7_n := kp_n hk7
  refine y_putF dX4_init_48 FC4 6 (by decide) rfl rfl rfl rfl fl_X4_33 o7_i ?_
  have B8 := B7.up (i := i) (k := 6) (r := i + 4) (by have := hz; omega)
  refine y_aload_n 0 dX4_init_51 rfl ?_
  refine y_bipush dX4_init_52 rfl ?_
  have f5 := Bw.fsh (i := (i + 5)) B8 (by omega) (by omega)
  refine y_newarr (i := (i + 5)) (ek := 0) (atype := .int) dX4_init_54 (by decide) rfl arw_int (by decide) (by decide) f5 (rfs_l o7_i (rfs_s o7_i rfs_nil)) (by decide) (by decide) (fun q5 => ?_)
  have o9_i := ob_new (j := (i + 5)) (q := q5) (t := .inr (0, (6 : Int).toNat)) o7_i (by omega)
  have o9_i1 := ob_new (j := (i + 5)) (q := q5) (t := .inr (0, (6 : Int).toNat)) o7_i1 (by omega)
  have o9_i2 := ob_new (j := (i + 5)) (q := q5) (t := .inr (0, (6 : Int).toNat)) o7_i2 (by omega)
  have o9_i3 := ob_new (j := (i + 5)) (q := q5) (t := .inr (0, (6 : Int).toNat)) o7_i3 (by omega)
  have o9_i4 := ob_new (j := (i + 5)) (q := q5) (t := .inr (0, (6 : Int).toNat)) o7_n (by omega)
  have B9 := (Bw.mono (lo' := i + 6) (hi' := i + 11) B8 (by omega) (by omega)).new (i := (i + 5)) (q := q5) (t := .inr (0, (6 : Int).toNat)) (by omega)
  have hk9 := Kp.tr hk7 (gN_kp (q := q5) (t := .inr (0, (6 : Int).toNat)) f5)
  have o9_n := kp_n hk9
  refine y_putF dX4_init_56 FC4 7 (by decide) rfl rfl rfl rfl fl_X4_36 o9_i ?_
  have B10 := B9.up (i := i) (k := 7) (r := i + 5) (by have := hz; omega)
  refine y_aload_n 0 dX4_init_59 rfl ?_
  refine y_bipush dX4_init_60 rfl ?_
  have f6 := Bw.fsh (i := (i + 6)) B10 (by omega) (by omega)
  refine y_newarr (i := (i + 6)) (ek := 0) (atype := .int) dX4_init_62 (by decide) rfl arw_int (by decide) (by decide) f6 (rfs_l o9_i (rfs_s o9_i rfs_nil)) (by decide) (by decide) (fun q6 => ?_)
  have o11_i := ob_new (j := (i + 6)) (q := q6) (t := .inr (0, (6 : Int).toNat)) o9_i (by omega)
  have o11_i1 := ob_new (j := (i + 6)) (q := q6) (t := .inr (0, (6 : Int).toNat)) o9_i1 (by omega)
  have o11_i2 := ob_new (j := (i + 6)) (q := q6) (t := .inr (0, (6 : Int).toNat)) o9_i2 (by omega)
  have o11_i3 := ob_new (j := (i + 6)) (q := q6) (t := .inr (0, (6 : Int).toNat)) o9_i3 (by omega)
  have o11_i4 := ob_new (j := (i + 6)) (q := q6) (t := .inr (0, (6 : Int).toNat)) o9_i4 (by omega)
  have o11_i5 := ob_new (j := (i + 6)) (q := q6) (t := .inr (0, (6 : Int).toNat)) o9_n (by omega)
  have B11 := (Bw.mono (lo' := i + 7) (hi' := i + 11) B10 (by omega) (by omega)).new (i := (i + 6)) (q := q6) (t := .inr (0, (6 : Int).toNat)) (by omega)
  have hk11 := Kp.tr hk9 (gN_kp (q := q6) (t := .inr (0, (6 : Int).toNat)) f6)
  have o11_n := kp_n hk11
  refine y_putF dX4_init_64 FC4 8 (by decide) rfl rfl rfl rfl fl_X4_39 o11_i ?_
  have B12 := B11.up (i := i) (k := 8) (r := i + 6) (by have := hz; omega)
  refine y_aload_n 0 dX4_init_67 rfl ?_
  refine y_bipush dX4_init_68 rfl ?_
  have f7 := Bw.fsh (i := (i + 7)) B12 (by omega) (by omega)
  refine y_newarr (i := (i + 7)) (ek := 0) (atype := .int) dX4_init_70 (by decide) rfl arw_int (by decide) (by decide) f7 (rfs_l o11_i (rfs_s o11_i rfs_nil)) (by decide) (by decide) (fun q7 => ?_)
  have o13_i := ob_new (j := (i + 7)) (q := q7) (t := .inr (0, (6 : Int).toNat)) o11_i (by omega)
  have o13_i1 := ob_new (j := (i + 7)) (q := q7) (t := .inr (0, (6 : Int).toNat)) o11_i1 (by omega)
  have o13_i2 := ob_new (j := (i + 7)) (q := q7) (t := .inr (0, (6 : Int).toNat)) o11_i2 (by omega)
  have o13_i3 := ob_new (j := (i + 7)) (q := q7) (t := .inr (0, (6 : Int).toNat)) o11_i3 (by omega)
  have o13_i4 := ob_new (j := (i + 7)) (q := q7) (t := .inr (0, (6 : Int).toNat)) o11_i4 (by omega)
  have o13_i5 := ob_new (j := (i + 7)) (q := q7) (t := .inr (0, (6 : Int).toNat)) o11_i5 (by omega)
  have o13_i6 := ob_new (j := (i + 7)) (q := q7) (t := .inr (0, (6 : Int).toNat)) o11_n (by omega)
  have B13 := (Bw.mono (lo' := i + 8) (hi' := i + 11) B12 (by omega) (by omega)).new (i := (i + 7)) (q := q7) (t := .inr (0, (6 : Int).toNat)) (by omega)
  have hk13 := Kp.tr hk11 (gN_kp (q := q7) (t := .inr (0, (6 : Int).toNat)) f7)
  have o13_n := kp_n hk13
  refine y_putF dX4_init_72 FC4 9 (by decide) rfl rfl rfl rfl fl_X4_42 o13_i ?_
  have B14 := B13.up (i := i) (k := 9) (r := i + 7) (by have := hz; omega)
  refine y_aload_n 0 dX4_init_75 rfl ?_
  refine y_bipush dX4_init_76 rfl ?_
  have f8 := Bw.fsh (i := (i + 8)) B14 (by omega) (by omega)
  refine y_newarr (i := (i + 8)) (ek := 0) (atype := .int) dX4_init_78 (by decide) rfl arw_int (by decide) (by decide) f8 (rfs_l o13_i (rfs_s o13_i rfs_nil)) (by decide) (by decide) (fun q8 => ?_)
  have o15_i := ob_new (j := (i + 8)) (q := q8) (t := .inr (0, (36 : Int).toNat)) o13_i (by omega)
  have o15_i1 := ob_new (j := (i + 8)) (q := q8) (t := .inr (0, (36 : Int).toNat)) o13_i1 (by omega)
  have o15_i2 := ob_new (j := (i + 8)) (q := q8) (t := .inr (0, (36 : Int).toNat)) o13_i2 (by omega)
  have o15_i3 := ob_new (j := (i + 8)) (q := q8) (t := .inr (0, (36 : Int).toNat)) o13_i3 (by omega)
  have o15_i4 := ob_new (j := (i + 8)) (q := q8) (t := .inr (0, (36 : Int).toNat)) o13_i4 (by omega)
  have o15_i5 := ob_new (j := (i + 8)) (q := q8) (t := .inr (0, (36 : Int).toNat)) o13_i5 (by omega)
  have o15_i6 := ob_new (j := (i + 8)) (q := q8) (t := .inr (0, (36 : Int).toNat)) o13_i6 (by omega)
  have o15_i7 := ob_new (j := (i + 8)) (q := q8) (t := .inr (0, (36 : Int).toNat)) o13_n (by omega)
  have B15 := (Bw.mono (lo' := i + 9) (hi' := i + 11) B14 (by omega) (by omega)).new (i := (i + 8)) (q := q8) (t := .inr (0, (36 : Int).toNat)) (by omega)
  have hk15 := Kp.tr hk13 (gN_kp (q := q8) (t := .inr (0, (36 : Int).toNat)) f8)
  have o15_n := kp_n hk15
  refine y_putF dX4_init_80 FC4 10 (by decide) rfl rfl rfl rfl fl_X4_45 o15_i ?_
  have B16 := B15.up (i := i) (k := 10) (r := i + 8) (by have := hz; omega)
  refine y_aload_n 0 dX4_init_83 rfl ?_
  refine y_bipush dX4_init_84 rfl ?_
  have f9 := Bw.fsh (i := (i + 9)) B16 (by omega) (by omega)
  refine y_newarr (i := (i + 9)) (ek := 0) (atype := .int) dX4_init_86 (by decide) rfl arw_int (by decide) (by decide) f9 (rfs_l o15_i (rfs_s o15_i rfs_nil)) (by decide) (by decide) (fun q9 => ?_)
  have o17_i := ob_new (j := (i + 9)) (q := q9) (t := .inr (0, (36 : Int).toNat)) o15_i (by omega)
  have o17_i1 := ob_new (j := (i + 9)) (q := q9) (t := .inr (0, (36 : Int).toNat)) o15_i1 (by omega)
  have o17_i2 := ob_new (j := (i + 9)) (q := q9) (t := .inr (0, (36 : Int).toNat)) o15_i2 (by omega)
  have o17_i3 := ob_new (j := (i + 9)) (q := q9) (t := .inr (0, (36 : Int).toNat)) o15_i3 (by omega)
  have o17_i4 := ob_new (j := (i + 9)) (q := q9) (t := .inr (0, (36 : Int).toNat)) o15_i4 (by omega)
  have o17_i5 := ob_new (j := (i + 9)) (q := q9) (t := .inr (0, (36 : Int).toNat)) o15_i5 (by omega)
  have o17_i6 := ob_new (j := (i + 9)) (q := q9) (t := .inr (0, (36 : Int).toNat)) o15_i6 (by omega)
  have o17_i7 := ob_new (j := (i + 9)) (q := q9) (t := .inr (0, (36 : Int).toNat)) o15_i7 (by omega)
  have o17_i8 := ob_new (j := (i + 9)) (q := q9) (t := .inr (0, (36 : Int).toNat)) o15_n (by omega)
  have B17 := (Bw.mono (lo' := i + 10) (hi' := i + 11) B16 (by omega) (by omega)).new (i := (i + 9)) (q := q9) (t := .inr (0, (36 : Int).toNat)) (by omega)
  have hk17 := Kp.tr hk15 (gN_kp (q := q9) (t := .inr (0, (36 : Int).toNat)) f9)
  have o17_n := kp_n hk17
  refine y_putF dX4_init_88 FC4 11 (by decide) rfl rfl rfl rfl fl_X4_48 o17_i ?_
  have B18 := B17.up (i := i) (k := 11) (r := i + 9) (by have := hz; omega)
  refine y_aload_n 0 dX4_init_91 rfl ?_
  refine y_iconst dX4_init_92 ?_
  have f10 := Bw.fsh (i := (i + 10)) B18 (by omega) (by omega)
  refine y_newarr (i := (i + 10)) (ek := 0) (atype := .int) dX4_init_93 (by decide) rfl arw_int (by decide) (by decide) f10 (rfs_l o17_i (rfs_s o17_i rfs_nil)) (by decide) (by decide) (fun q10 => ?_)
  have o19_i := ob_new (j := (i + 10)) (q := q10) (t := .inr (0, (1 : Int).toNat)) o17_i (by omega)
  have o19_i1 := ob_new (j := (i + 10)) (q := q10) (t := .inr (0, (1 : Int).toNat)) o17_i1 (by omega)
  have o19_i2 := ob_new (j := (i + 10)) (q := q10) (t := .inr (0, (1 : Int).toNat)) o17_i2 (by omega)
  have o19_i3 := ob_new (j := (i + 10)) (q := q10) (t := .inr (0, (1 : Int).toNat)) o17_i3 (by omega)
  have o19_i4 := ob_new (j := (i + 10)) (q := q10) (t := .inr (0, (1 : Int).toNat)) o17_i4 (by omega)
  have o19_i5 := ob_new (j := (i + 10)) (q := q10) (t := .inr (0, (1 : Int).toNat)) o17_i5 (by omega)
  have o19_i6 := ob_new (j := (i + 10)) (q := q10) (t := .inr (0, (1 : Int).toNat)) o17_i6 (by omega)
  have o19_i7 := ob_new (j := (i + 10)) (q := q10) (t := .inr (0, (1 : Int).toNat)) o17_i7 (by omega)
  have o19_i8 := ob_new (j := (i + 10)) (q := q10) (t := .inr (0, (1 : Int).toNat)) o17_i8 (by omega)
  have o19_i9 := ob_new (j := (i + 10)) (q := q10) (t := .inr (0, (1 : Int).toNat)) o17_n (by omega)
  have B19 := (Bw.mono (lo' := i + 11) (hi' := i + 11) B18 (by omega) (by omega)).new (i := (i + 10)) (q := q10) (t := .inr (0, (1 : Int).toNat)) (by omega)
  have hk19 := Kp.tr hk17 (gN_kp (q := q10) (t := .inr (0, (1 : Int).toNat)) f10)
  have o19_n := kp_n hk19
  refine y_dup dX4_init_95 rfl ?_
  refine y_iconst dX4_init_96 ?_
  refine y_iconst dX4_init_97 ?_
  refine y_iast dX4_init_98 o19_n (by decide) (by decide) (by decide) ?_
  refine y_putP dX4_init_99 FC4 12 (by decide) rfl rfl fl_X4_53 o19_i ?_
  have B20 := B19.up (i := i) (k := 12) (r := i + 10) (by have := hz; omega)
  refine y_vret dX4_init_102 rfl (by decide) (by decide) hk19 ⟨rfl, ⟨fun lo hi h1 hx hb => ((((((((((((((((((((hb.new (by omega)).up (by have := hx; omega)).new (by omega)).up (by have := hx; omega)).new (by omega)).up (by have := hx; omega)).new (by omega)).up (by have := hx; omega)).new (by omega)).up (by have := hx; omega)).new (by omega)).up (by have := hx; omega)).new (by omega)).up (by have := hx; omega)).new (by omega)).up (by have := hx; omega)).new (by omega)).up (by have := hx; omega)).new (by omega)).up (by have := hx; omega)), fun j hj => ⟨?_, ?_⟩⟩, ?_⟩
  · rw [up2_ne (by omega), clr_ne (by omega), up2_ne (by omega), clr_ne (by omega), up2_ne (by omega), clr_ne (by omega), up2_ne (by omega), clr_ne (by omega), up2_ne (by omega), clr_ne (by omega), up2_ne (by omega), clr_ne (by omega), up2_ne (by omega), clr_ne (by omega), up2_ne (by omega), clr_ne (by omega), up2_ne (by omega), clr_ne (by omega), up2_ne (by omega), clr_ne (by omega)]
  · rw [up2_ne (by omega), clr_ne (by omega), clr_ne (by omega), clr_ne (by omega), clr_ne (by omega), clr_ne (by omega), clr_ne (by omega), clr_ne (by omega), clr_ne (by omega), clr_ne (by omega), clr_ne (by omega), up2_ne (by omega), up2_ne (by omega), up2_ne (by omega)]
  · refine ⟨⟨o19_i, (by rw [up2_nj (by decide), clr_ne (by omega), up2_nj (by decide), clr_ne (by omega), up2_nj (by decide), clr_ne (by omega), up2_nj (by decide), clr_ne (by omega), up2_nj (by decide), clr_ne (by omega), up2_nj (by decide), clr_ne (by omega), up2_nj (by decide), clr_ne (by omega), up2_nj (by decide), clr_ne (by omega), up2_nj (by decide), clr_ne (by omega), up2_eq]), o19_i1, (by rw [up2_nj (by decide), clr_ne (by omega), up2_nj (by decide), clr_ne (by omega), up2_nj (by decide), clr_ne (by omega), up2_nj (by decide), clr_ne (by omega), up2_nj (by decide), clr_ne (by omega), up2_nj (by decide), clr_ne (by omega), up2_nj (by decide), clr_ne (by omega), up2_nj (by decide), clr_ne (by omega), up2_eq]), o19_i2, (by rw [up2_nj (by decide), clr_ne (by omega), up2_nj (by decide), clr_ne (by omega), up2_nj (by decide), clr_ne (by omega), up2_nj (by decide), clr_ne (by omega), up2_nj (by decide), clr_ne (by omega), up2_nj (by decide), clr_ne (by omega), up2_nj (by decide), clr_ne (by omega), up2_eq]), o19_i3, (by rw [up2_nj (by decide), clr_ne (by omega), up2_nj (by decide), clr_ne (by omega), up2_nj (by decide), clr_ne (by omega), up2_nj (by decide), clr_ne (by omega), up2_nj (by decide), clr_ne (by omega), up2_nj (by decide), clr_ne (by omega), up2_eq]), o19_i4, (by rw [up2_nj (by decide), clr_ne (by omega), up2_nj (by decide), clr_ne (by omega), up2_nj (by decide), clr_ne (by omega), up2_nj (by decide), clr_ne (by omega), up2_nj (by decide), clr_ne (by omega), up2_eq]), o19_i5, (by rw [up2_nj (by decide), clr_ne (by omega), up2_nj (by decide), clr_ne (by omega), up2_nj (by decide), clr_ne (by omega), up2_nj (by decide), clr_ne (by omega), up2_eq]), o19_i6, (by rw [up2_nj (by decide), clr_ne (by omega), up2_nj (by decide), clr_ne (by omega), up2_nj (by decide), clr_ne (by omega), up2_eq]), o19_i7, (by rw [up2_nj (by decide), clr_ne (by omega), up2_nj (by decide), clr_ne (by omega), up2_eq]), o19_i8, (by rw [up2_nj (by decide), clr_ne (by omega), up2_eq]), o19_i9, (by rw [up2_eq]), o19_n, by decide⟩, fun r k h1 h2 => ?_, up2_eq⟩
    rw [up2_ne (by omega), clr_ne (by omega)]
    refine clr0 (fun g9 => clr0 (fun g8 => clr0 (fun g7 => clr0 (fun g6 => clr0 (fun g5 => clr0 (fun g4 => clr0 (fun g3 => clr0 (fun g2 => clr0 (fun g1 => up0 (up0 (up0 ?_)))))))))))
    have hr : r = i := by omega
    rw [hr]; exact hI k
theorem g_X3 {Γ : GG} {P : MP} {I : MM} {i : Nat} (ho : Ob Γ i (.inl 3)) (hB : Bw Γ P (i + 1) (i + 3)) (hz : i + 3 ≤ 500 ∨ 701 ≤ i) : ClG Γ mA_X3 [vR i] P I (fun Γ' v P' I' => v = none ∧ NW Γ Γ' P P' I I' i 2 [] ∧ Ob Γ' i (.inl 3) ∧ (Ob Γ' i (.inl 3) ∧ P' i 0 = some (i + 1) ∧ Ob Γ' (i + 1) (.inr (1, 900)) ∧ P' i 8 = some (i + 2) ∧ Ob Γ' (i + 2) (.inr (0, 900))) ∧ I' i 5 = 0 ∧ I' i 6 = -1 ∧ ∀ k, I' (i + 1) k = 0) := by
  refine clg_of nA_X3 (Nat.le_of_ble_eq_true rfl) ?_
  refine y_aload_n 0 dX3_init_0 rfl ?_
  refine y_objI dX3_init_1 obl_X3 (by decide) (by decide) ?_
  refine y_aload_n 0 dX3_init_4 rfl ?_
  refine y_sipush dX3_init_5 rfl ?_
  have f1 := Bw.fsh (i := (i + 1)) hB (by omega) (by omega)
  refine y_newarr (i := (i + 1)) (ek := 1) (atype := .byte) dX3_init_8 (by decide) rfl arw_byte (by decide) (by decide) f1 (rfs_l ho (rfs_s ho rfs_nil)) (by decide) (by decide) (fun q1 => ?_)
  have o1_i := ob_new (j := (i + 1)) (q := q1) (t := .inr (1, (900 : Int).toNat)) ho (by omega)
  have B1 := (Bw.mono (lo' := i + 2) (hi' := i + 3) hB (by omega) (by omega)).new (i := (i + 1)) (q := q1) (t := .inr (1, (900 : Int).toNat)) (by omega)
  have hk1 := Kp.tr (Kp.rf (Γ := Γ)) (gN_kp (q := q1) (t := .inr (1, (900 : Int).toNat)) f1)
  have o1_n := kp_n hk1
  refine y_putF dX3_init_10 FC3 0 (by decide) rfl rfl rfl rfl fl_X3_9 o1_i ?_
  have B2 := B1.up (i := i) (k := 0) (r := i + 1) (by have := hz; omega)
  refine y_aload_n 0 dX3_init_13 rfl ?_
  refine y_iconst dX3_init_14 ?_
  refine y_putI dX3_init_15 FC3 1 (by decide) rfl rfl fl_X3_15 o1_i ?_
  refine y_aload_n 0 dX3_init_18 rfl ?_
  refine y_iconst dX3_init_19 ?_
  refine y_putI dX3_init_20 FC3 2 (by decide) rfl rfl fl_X3_19 o1_i ?_
  refine y_aload_n 0 dX3_init_23 rfl ?_
  refine y_iconst dX3_init_24 ?_
  refine y_putI dX3_init_25 FC3 3 (by decide) rfl rfl fl_X3_22 o1_i ?_
  refine y_aload_n 0 dX3_init_28 rfl ?_
  refine y_sipush dX3_init_29 rfl ?_
  refine y_putI dX3_init_32 FC3 4 (by decide) rfl rfl fl_X3_25 o1_i ?_
  refine y_aload_n 0 dX3_init_35 rfl ?_
  refine y_iconst dX3_init_36 ?_
  refine y_putI dX3_init_37 FC3 5 (by decide) rfl rfl fl_X3_28 o1_i ?_
  refine y_aload_n 0 dX3_init_40 rfl ?_
  refine y_iconst dX3_init_41 ?_
  refine y_putI dX3_init_42 FC3 6 (by decide) rfl rfl fl_X3_31 o1_i ?_
  refine y_aload_n 0 dX3_init_45 rfl ?_
  refine y_iconst dX3_init_46 ?_
  refine y_putZ dX3_init_47 FC3 7 (by decide) rfl rfl (Or.inl rfl) fl_X3_34 o1_i ?_
  refine y_aload_n 0 dX3_init_50 rfl ?_
  refine y_sipush dX3_init_51 rfl ?_
  have f2 := Bw.fsh (i := (i + 2)) B2 (by omega) (by omega)
  refine y_newarr (i := (i + 2)) (ek := 0) (atype := .int) dX3_init_54 (by decide) rfl arw_int (by decide) (by decide) f2 (rfs_l o1_i (rfs_s o1_i rfs_nil)) (by decide) (by decide) (fun q2 => ?_)
  have o3_i := ob_new (j := (i + 2)) (q := q2) (t := .inr (0, (900 : Int).toNat)) o1_i (by omega)
  have o3_i1 := ob_new (j := (i + 2)) (q := q2) (t := .inr (0, (900 : Int).toNat)) o1_n (by omega)
  have B3 := (Bw.mono (lo' := i + 3) (hi' := i + 3) B2 (by omega) (by omega)).new (i := (i + 2)) (q := q2) (t := .inr (0, (900 : Int).toNat)) (by omega)
  have hk3 := Kp.tr hk1 (gN_kp (q := q2) (t := .inr (0, (900 : Int).toNat)) f2)
  have o3_n := kp_n hk3
  refine y_putF dX3_init_56 FC3 8 (by decide) rfl rfl rfl rfl fl_X3_38 o3_i ?_
  have B4 := B3.up (i := i) (k := 8) (r := i + 2) (by have := hz; omega)
  refine y_aload_n 0 dX3_init_59 rfl ?_
  refine y_iconst dX3_init_60 ?_
  refine y_putI dX3_init_61 FC3 9 (by decide) rfl rfl fl_X3_42 o3_i ?_
  refine y_vret dX3_init_64 rfl (by decide) (by decide) hk3 ⟨rfl, ⟨fun lo hi h1 hx hb => ((((hb.new (by omega)).up (by have := hx; omega)).new (by omega)).up (by have := hx; omega)), fun j hj => ⟨?_, ?_⟩⟩, ?_⟩
  · rw [up2_ne (by omega), clr_ne (by omega), up2_ne (by omega), clr_ne (by omega)]
  · rw [up2_ne (by omega), clr_ne (by omega), up2_ne (by omega), up2_ne (by omega), up2_ne (by omega), up2_ne (by omega), up2_ne (by omega), up2_ne (by omega), up2_ne (by omega), clr_ne (by omega)]
  · refine ⟨o3_i, ⟨o3_i, (by rw [up2_nj (by decide), clr_ne (by omega), up2_eq]), o3_i1, (by rw [up2_eq]), o3_n⟩, ?_⟩
    simp [up2, clr]
theorem g_X2 {Γ : GG} {P : MP} {I : MM} {i σ κ n : Nat} (ho : Ob Γ i (.inl 2)) (hs : LShop Γ P σ κ n) (hne : σ + 9 < i ∨ i + 10 < σ) (hB : Bw Γ P (i + 1) (i + 11)) (hz : i + 11 ≤ 500 ∨ 701 ≤ i) : ClG Γ mA_X2 [vR i, vR σ] P I (fun Γ' v P' I' => v = none ∧ NW Γ Γ' P P' I I' i 10 [σ] ∧ LSch Γ' P' i σ κ n) := by
  refine clg_of nA_X2 (Nat.le_of_ble_eq_true rfl) ?_
  have hos := hs.1
  refine y_aload_n 0 dX2_init_0 rfl ?_
  refine y_objI dX2_init_1 obl_X2 (by decide) (by decide) ?_
  refine y_aload_n 0 dX2_init_4 rfl ?_
  refine y_bipush dX2_init_5 rfl ?_
  have f1 := Bw.fsh (i := (i + 1)) hB (by omega) (by omega)
  refine y_newarr (i := (i + 1)) (ek := 0) (atype := .int) dX2_init_7 (by decide) rfl arw_int (by decide) (by decide) f1 (rfs_l ho (rfs_l hos (rfs_s ho rfs_nil))) (by decide) (by decide) (fun q1 => ?_)
  have o1_i := ob_new (j := (i + 1)) (q := q1) (t := .inr (0, (36 : Int).toNat)) ho (by omega)
  have o1_σ := ob_new (j := (i + 1)) (q := q1) (t := .inr (0, (36 : Int).toNat)) hos (by omega)
  have B1 := (Bw.mono (lo' := i + 2) (hi' := i + 11) hB (by omega) (by omega)).new (i := (i + 1)) (q := q1) (t := .inr (0, (36 : Int).toNat)) (by omega)
  have hk1 := Kp.tr (Kp.rf (Γ := Γ)) (gN_kp (q := q1) (t := .inr (0, (36 : Int).toNat)) f1)
  have o1_n := kp_n hk1
  refine y_putF dX2_init_9 FC2 1 (by decide) rfl rfl rfl rfl fl_X2_9 o1_i ?_
  have B2 := B1.up (i := i) (k := 1) (r := i + 1) (by have := hz; omega)
  refine y_aload_n 0 dX2_init_12 rfl ?_
  refine y_bipush dX2_init_13 rfl ?_
  have f2 := Bw.fsh (i := (i + 2)) B2 (by omega) (by omega)
  refine y_newarr (i := (i + 2)) (ek := 0) (atype := .int) dX2_init_15 (by decide) rfl arw_int (by decide) (by decide) f2 (rfs_l o1_i (rfs_l o1_σ (rfs_s o1_i rfs_nil))) (by decide) (by decide) (fun q2 => ?_)
  have o3_i := ob_new (j := (i + 2)) (q := q2) (t := .inr (0, (36 : Int).toNat)) o1_i (by omega)
  have o3_σ := ob_new (j := (i + 2)) (q := q2) (t := .inr (0, (36 : Int).toNat)) o1_σ (by omega)
  have o3_i1 := ob_new (j := (i + 2)) (q := q2) (t := .inr (0, (36 : Int).toNat)) o1_n (by omega)
  have B3 := (Bw.mono (lo' := i + 3) (hi' := i + 11) B2 (by omega) (by omega)).new (i := (i + 2)) (q := q2) (t := .inr (0, (36 : Int).toNat)) (by omega)
  have hk3 := Kp.tr hk1 (gN_kp (q := q2) (t := .inr (0, (36 : Int).toNat)) f2)
  have o3_n := kp_n hk3
  refine y_putF dX2_init_17 FC2 2 (by decide) rfl rfl rfl rfl fl_X2_15 o3_i ?_
  have B4 := B3.up (i := i) (k := 2) (r := i + 2) (by have := hz; omega)
  refine y_aload_n 0 dX2_init_20 rfl ?_
  refine y_bipush dX2_init_21 rfl ?_
  have f3 := Bw.fsh (i := (i + 3)) B4 (by omega) (by omega)
  refine y_newarr (i := (i + 3)) (ek := 0) (atype := .int) dX2_init_23 (by decide) rfl arw_int (by decide) (by decide) f3 (rfs_l o3_i (rfs_l o3_σ (rfs_s o3_i rfs_nil))) (by decide) (by decide) (fun q3 => ?_)
  have o5_i := ob_new (j := (i + 3)) (q := q3) (t := .inr (0, (36 : Int).toNat)) o3_i (by omega)
  have o5_σ := ob_new (j := (i + 3)) (q := q3) (t := .inr (0, (36 : Int).toNat)) o3_σ (by omega)
  have o5_i1 := ob_new (j := (i + 3)) (q := q3) (t := .inr (0, (36 : Int).toNat)) o3_i1 (by omega)
  have o5_i2 := ob_new (j := (i + 3)) (q := q3) (t := .inr (0, (36 : Int).toNat)) o3_n (by omega)
  have B5 := (Bw.mono (lo' := i + 4) (hi' := i + 11) B4 (by omega) (by omega)).new (i := (i + 3)) (q := q3) (t := .inr (0, (36 : Int).toNat)) (by omega)
  have hk5 := Kp.tr hk3 (gN_kp (q := q3) (t := .inr (0, (36 : Int).toNat)) f3)
  have o5_n := kp_n hk5
  refine y_putF dX2_init_25 FC2 3 (by decide) rfl rfl rfl rfl fl_X2_18 o5_i ?_
  have B6 := B5.up (i := i) (k := 3) (r := i + 3) (by have := hz; omega)
  refine y_aload_n 0 dX2_init_28 rfl ?_
  refine y_bipush dX2_init_29 rfl ?_
  have f4 := Bw.fsh (i := (i + 4)) B6 (by omega) (by omega)
  refine y_newarr (i := (i + 4)) (ek := 2) (atype := .boolean) dX2_init_31 (by decide) rfl arw_boolean (by decide) (by decide) f4 (rfs_l o5_i (rfs_l o5_σ (rfs_s o5_i rfs_nil))) (by decide) (by decide) (fun q4 => ?_)
  have o7_i := ob_new (j := (i + 4)) (q := q4) (t := .inr (2, (36 : Int).toNat)) o5_i (by omega)
  have o7_σ := ob_new (j := (i + 4)) (q := q4) (t := .inr (2, (36 : Int).toNat)) o5_σ (by omega)
  have o7_i1 := ob_new (j := (i + 4)) (q := q4) (t := .inr (2, (36 : Int).toNat)) o5_i1 (by omega)
  have o7_i2 := ob_new (j := (i + 4)) (q := q4) (t := .inr (2, (36 : Int).toNat)) o5_i2 (by omega)
  have o7_i3 := ob_new (j := (i + 4)) (q := q4) (t := .inr (2, (36 : Int).toNat)) o5_n (by omega)
  have B7 := (Bw.mono (lo' := i + 5) (hi' := i + 11) B6 (by omega) (by omega)).new (i := (i + 4)) (q := q4) (t := .inr (2, (36 : Int).toNat)) (by omega)
  have hk7 := Kp.tr hk5 (gN_kp (q := q4) (t := .inr (2, (36 : Int).toNat)) f4)
  have o7_n := kp_n hk7
  refine y_putF dX2_init_33 FC2 4 (by decide) rfl rfl rfl rfl fl_X2_21 o7_i ?_
  have B8 := B7.up (i := i) (k := 4) (r := i + 4) (by have := hz; omega)
  refine y_aload_n 0 dX2_init_36 rfl ?_
  refine y_bipush dX2_init_37 rfl ?_
  have f5 := Bw.fsh (i := (i + 5)) B8 (by omega) (by omega)
  refine y_newarr (i := (i + 5)) (ek := 0) (atype := .int) dX2_init_39 (by decide) rfl arw_int (by decide) (by decide) f5 (rfs_l o7_i (rfs_l o7_σ (rfs_s o7_i rfs_nil))) (by decide) (by decide) (fun q5 => ?_)
  have o9_i := ob_new (j := (i + 5)) (q := q5) (t := .inr (0, (36 : Int).toNat)) o7_i (by omega)
  have o9_σ := ob_new (j := (i + 5)) (q := q5) (t := .inr (0, (36 : Int).toNat)) o7_σ (by omega)
  have o9_i1 := ob_new (j := (i + 5)) (q := q5) (t := .inr (0, (36 : Int).toNat)) o7_i1 (by omega)
  have o9_i2 := ob_new (j := (i + 5)) (q := q5) (t := .inr (0, (36 : Int).toNat)) o7_i2 (by omega)
  have o9_i3 := ob_new (j := (i + 5)) (q := q5) (t := .inr (0, (36 : Int).toNat)) o7_i3 (by omega)
  have o9_i4 := ob_new (j := (i + 5)) (q := q5) (t := .inr (0, (36 : Int).toNat)) o7_n (by omega)
  have B9 := (Bw.mono (lo' := i + 6) (hi' := i + 11) B8 (by omega) (by omega)).new (i := (i + 5)) (q := q5) (t := .inr (0, (36 : Int).toNat)) (by omega)
  have hk9 := Kp.tr hk7 (gN_kp (q := q5) (t := .inr (0, (36 : Int).toNat)) f5)
  have o9_n := kp_n hk9
  refine y_putF dX2_init_41 FC2 5 (by decide) rfl rfl rfl rfl fl_X2_25 o9_i ?_
  have B10 := B9.up (i := i) (k := 5) (r := i + 5) (by have := hz; omega)
  refine y_aload_n 0 dX2_init_44 rfl ?_
  refine y_iconst dX2_init_45 ?_
  refine y_putI dX2_init_46 FC2 6 (by decide) rfl rfl fl_X2_28 o9_i ?_
  refine y_aload_n 0 dX2_init_49 rfl ?_
  have f6 := Bw.fsh (i := (i + 6)) B10 (by omega) (by omega)
  refine y_new (i := (i + 6)) dX2_init_50 FC0 df0 clk_X2_32 ins_X0 ini_X0 f6 (rfs_l o9_i (rfs_l o9_σ (rfs_s o9_i rfs_nil))) (by decide) (by decide) (fun q6 => ?_)
  have o11_i := ob_new (j := (i + 6)) (q := q6) (t := .inl 0) o9_i (by omega)
  have o11_σ := ob_new (j := (i + 6)) (q := q6) (t := .inl 0) o9_σ (by omega)
  have o11_i1 := ob_new (j := (i + 6)) (q := q6) (t := .inl 0) o9_i1 (by omega)
  have o11_i2 := ob_new (j := (i + 6)) (q := q6) (t := .inl 0) o9_i2 (by omega)
  have o11_i3 := ob_new (j := (i + 6)) (q := q6) (t := .inl 0) o9_i3 (by omega)
  have o11_i4 := ob_new (j := (i + 6)) (q := q6) (t := .inl 0) o9_i4 (by omega)
  have o11_i5 := ob_new (j := (i + 6)) (q := q6) (t := .inl 0) o9_n (by omega)
  have B11 := (Bw.mono (lo' := i + 7) (hi' := i + 11) B10 (by omega) (by omega)).new (i := (i + 6)) (q := q6) (t := .inl 0) (by omega)
  have hk11 := Kp.tr hk9 (gN_kp (q := q6) (t := .inl 0) f6)
  have o11_n := kp_n hk11
  refine y_dup dX2_init_53 rfl ?_
  refine y_callIN "BlockingShop" dX2_init_54 (g_X0 o11_n (by exact Bw.mono B11 (by omega) (by omega)) (by omega)) kA_X0 (by decide +kernel) ⟨Nat.le_of_ble_eq_true rfl, Nat.le_of_ble_eq_true rfl⟩ rfl (rfs_l o11_i (rfs_l o11_σ (rfs_s o11_n (rfs_s o11_i rfs_nil)))) (Nat.le_of_ble_eq_true rfl) ⟨Nat.le_of_ble_eq_true rfl, Nat.le_of_ble_eq_true rfl⟩ _ rfl (fun ρ7 id7 ty7 v7 P7 I7 kp7 hh7 => ?_)
  obtain ⟨hv7, nw7, lc7⟩ := hh7
  subst hv7
  have o12_i := o11_i.keep kp7
  have o12_σ := o11_σ.keep kp7
  have o12_i1 := o11_i1.keep kp7
  have o12_i2 := o11_i2.keep kp7
  have o12_i3 := o11_i3.keep kp7
  have o12_i4 := o11_i4.keep kp7
  have o12_i5 := o11_i5.keep kp7
  have o12_i6 := o11_n.keep kp7
  have hk12 := Kp.tr hk11 kp7
  have B12 := nw7.1 (i + 8) (i + 11) (by omega) (fun x h => (List.not_mem_nil h).elim) (Bw.mono B11 (by omega) (by omega))
  refine y_putF dX2_init_57 FC2 7 (by decide) rfl rfl rfl rfl fl_X2_35 o12_i ?_
  have B13 := B12.up (i := i) (k := 7) (r := i + 6) (by have := hz; omega)
  refine y_aload_n 0 dX2_init_60 rfl ?_
  have f8 := Bw.fsh (i := (i + 8)) B13 (by omega) (by omega)
  refine y_new (i := (i + 8)) dX2_init_61 FC1 df1 clk_X2_39 ins_X1 ini_X1 f8 (rfs_l o12_i (rfs_l o12_σ (rfs_s o12_i rfs_nil))) (by decide) (by decide) (fun q8 => ?_)
  have o14_i := ob_new (j := (i + 8)) (q := q8) (t := .inl 1) o12_i (by omega)
  have o14_σ := ob_new (j := (i + 8)) (q := q8) (t := .inl 1) o12_σ (by omega)
  have o14_i1 := ob_new (j := (i + 8)) (q := q8) (t := .inl 1) o12_i1 (by omega)
  have o14_i2 := ob_new (j := (i + 8)) (q := q8) (t := .inl 1) o12_i2 (by omega)
  have o14_i3 := ob_new (j := (i + 8)) (q := q8) (t := .inl 1) o12_i3 (by omega)
  have o14_i4 := ob_new (j := (i + 8)) (q := q8) (t := .inl 1) o12_i4 (by omega)
  have o14_i5 := ob_new (j := (i + 8)) (q := q8) (t := .inl 1) o12_i5 (by omega)
  have o14_i6 := ob_new (j := (i + 8)) (q := q8) (t := .inl 1) o12_i6 (by omega)
  have B14 := (Bw.mono (lo' := i + 9) (hi' := i + 11) B13 (by omega) (by omega)).new (i := (i + 8)) (q := q8) (t := .inl 1) (by omega)
  have hk14 := Kp.tr hk12 (gN_kp (q := q8) (t := .inl 1) f8)
  have o14_n := kp_n hk14
  refine y_dup dX2_init_64 rfl ?_
  refine y_aload_n 1 dX2_init_65 rfl ?_
  refine y_callI dX2_init_66 (g_X1 o14_n (hs.kp hk14 (by rw [clr_ne (by omega), up2_ne (by omega), (nw7.2 (σ) (by omega)).1, clr_ne (by omega), up2_ne (by omega), clr_ne (by omega), up2_ne (by omega), clr_ne (by omega), up2_ne (by omega), clr_ne (by omega), up2_ne (by omega), clr_ne (by omega), up2_ne (by omega), clr_ne (by omega)])) (by omega) (by exact Bw.mono B14 (by omega) (by omega)) (by omega)) kA_X1 ml_X2_41 ⟨Nat.le_of_ble_eq_true rfl, Nat.le_of_ble_eq_true rfl⟩ rfl (rfs_l o14_i (rfs_l o14_σ (rfs_s o14_n (rfs_s o14_i rfs_nil)))) (Nat.le_of_ble_eq_true rfl) ⟨Nat.le_of_ble_eq_true rfl, Nat.le_of_ble_eq_true rfl⟩ _ rfl (fun ρ9 id9 ty9 v9 P9 I9 kp9 hh9 => ?_)
  obtain ⟨hv9, nw9, p90, p91, p92, op9, op9a, op9b⟩ := hh9
  subst hv9
  have o15_i := o14_i.keep kp9
  have o15_σ := o14_σ.keep kp9
  have o15_i1 := o14_i1.keep kp9
  have o15_i2 := o14_i2.keep kp9
  have o15_i3 := o14_i3.keep kp9
  have o15_i4 := o14_i4.keep kp9
  have o15_i5 := o14_i5.keep kp9
  have o15_i6 := o14_i6.keep kp9
  have o15_i8 := o14_n.keep kp9
  have hk15 := Kp.tr hk14 kp9
  have B15 := nw9.1 (i + 11) (i + 11) (by omega) (fun x h => by rw [List.mem_singleton.mp h]; have := hz; omega) (Bw.mono B14 (by omega) (by omega))
  refine y_putF dX2_init_69 FC2 0 (by decide) rfl rfl rfl rfl fl_X2_44 o15_i ?_
  have B16 := B15.up (i := i) (k := 0) (r := i + 8) (by have := hz; omega)
  refine y_vret dX2_init_72 rfl (by decide) (by decide) hk15 ⟨rfl, ⟨fun lo hi h1 hx hb => ((nw9.1 _ _ (by omega) (fun x h => by rw [List.mem_singleton.mp h]; exact hx _ (List.mem_singleton.mpr rfl)) (((nw7.1 _ _ (by omega) (fun x h => (List.not_mem_nil h).elim) (((((((((((hb.new (by omega)).up (by have := hx; omega)).new (by omega)).up (by have := hx; omega)).new (by omega)).up (by have := hx; omega)).new (by omega)).up (by have := hx; omega)).new (by omega)).up (by have := hx; omega)).new (by omega))).up (by have := hx; omega)).new (by omega))).up (by have := hx; omega)), fun j hj => ⟨?_, ?_⟩⟩, ?_⟩
  · rw [up2_ne (by omega), (nw9.2 (j) (by omega)).1, clr_ne (by omega), up2_ne (by omega), (nw7.2 (j) (by omega)).1, clr_ne (by omega), up2_ne (by omega), clr_ne (by omega), up2_ne (by omega), clr_ne (by omega), up2_ne (by omega), clr_ne (by omega), up2_ne (by omega), clr_ne (by omega), up2_ne (by omega), clr_ne (by omega)]
  · rw [(nw9.2 (j) (by omega)).2, clr_ne (by omega), (nw7.2 (j) (by omega)).2, clr_ne (by omega), up2_ne (by omega), clr_ne (by omega), clr_ne (by omega), clr_ne (by omega), clr_ne (by omega), clr_ne (by omega)]
  · exact ⟨o15_i, (by rw [up2_eq]), (by rw [up2_nj (by decide), (nw9.2 (i) (by omega)).1, clr_ne (by omega), up2_nj (by decide), (nw7.2 (i) (by omega)).1, clr_ne (by omega), up2_nj (by decide), clr_ne (by omega), up2_nj (by decide), clr_ne (by omega), up2_nj (by decide), clr_ne (by omega), up2_nj (by decide), clr_ne (by omega), up2_eq]), o15_i1, (by rw [up2_nj (by decide), (nw9.2 (i) (by omega)).1, clr_ne (by omega), up2_nj (by decide), (nw7.2 (i) (by omega)).1, clr_ne (by omega), up2_nj (by decide), clr_ne (by omega), up2_nj (by decide), clr_ne (by omega), up2_nj (by decide), clr_ne (by omega), up2_eq]), o15_i2, (by rw [up2_nj (by decide), (nw9.2 (i) (by omega)).1, clr_ne (by omega), up2_nj (by decide), (nw7.2 (i) (by omega)).1, clr_ne (by omega), up2_nj (by decide), clr_ne (by omega), up2_nj (by decide), clr_ne (by omega), up2_eq]), o15_i3, (by rw [up2_nj (by decide), (nw9.2 (i) (by omega)).1, clr_ne (by omega), up2_nj (by decide), (nw7.2 (i) (by omega)).1, clr_ne (by omega), up2_nj (by decide), clr_ne (by omega), up2_eq]), o15_i4, (by rw [up2_nj (by decide), (nw9.2 (i) (by omega)).1, clr_ne (by omega), up2_nj (by decide), (nw7.2 (i) (by omega)).1, clr_ne (by omega), up2_eq]), o15_i5, (by rw [up2_nj (by decide), (nw9.2 (i) (by omega)).1, clr_ne (by omega), up2_eq]), lc7.kp (Kp.tr (gN_kp f8) kp9) (by rw [up2_ne (by omega), (nw9.2 (i + 6) (by omega)).1, clr_ne (by omega), up2_ne (by omega)]), ⟨op9, by rw [up2_ne (by omega)]; exact p90, by rw [up2_ne (by omega)]; exact p91, op9a, by rw [up2_ne (by omega)]; exact p92, op9b, hs.kp hk15 (by rw [up2_ne (by omega), (nw9.2 (σ) (by omega)).1, clr_ne (by omega), up2_ne (by omega), (nw7.2 (σ) (by omega)).1, clr_ne (by omega), up2_ne (by omega), clr_ne (by omega), up2_ne (by omega), clr_ne (by omega), up2_ne (by omega), clr_ne (by omega), up2_ne (by omega), clr_ne (by omega), up2_ne (by omega), clr_ne (by omega)])⟩⟩
