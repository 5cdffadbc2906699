/-! ROWS of the memory, returns and calls -/
theorem inU {w : Cond} (i : Nat) (h : tables_1[i]? = some w) (g : goodWord w = true) : w ∈ lwU := List.mem_filter.mpr ⟨List.mem_append_right _ (List.mem_of_getElem? h), g⟩
theorem inUp {w : Cond} (i : Nat) (h : (k2_sels lw_privs)[i]? = some w) (g : goodWord w = true) : w ∈ lwU := List.mem_filter.mpr ⟨List.mem_append_left _ (List.mem_of_getElem? h), g⟩
theorem inUf {w : Cond} (h : w ∈ lw_tbl) (g : goodWord w = true) : w ∈ lwU := List.mem_filter.mpr ⟨h, g⟩
theorem goodU : ∀ w ∈ lwU, (w.onTables && w.keeps) = true ∨ ∃ ty, w = .arrayClass ty := fun w h => good_of_word (List.mem_filter.mp h).2
/-- a class by its place -/
def FCok (ci : Nat) (C : String) (T : u_T) (N : Nat) : Prop := vwCl[ci]? = some (C, T, N) ∧ N = nFC ci ∧ (∀ w ∈ u_ws C T N, w ∈ lwU) ∧ (∀ k, k < N → parseFieldDescriptor (T k).2.2.1 = some (tyC ci k)) ∧ (∀ a, a < N → ∀ b, b < N → a ≠ b → (T a).2.1 ≠ (T b).2.1)
theorem FC0 : FCok 0 RX0 TX0 1 := ⟨rfl, rfl, fun w h => inUf (inX0 w h) (List.all_eq_true.mp (by decide +kernel : (u_ws RX0 TX0 1).all goodWord = true) w h), tyX0_ok, nmX0⟩
theorem FC1 : FCok 1 RX1 TX1 3 := ⟨rfl, rfl, fun w h => inUf (inX1 w h) (List.all_eq_true.mp (by decide +kernel : (u_ws RX1 TX1 3).all goodWord = true) w h), tyX1_ok, nmX1⟩
theorem FC2 : FCok 2 RX2 TX2 8 := ⟨rfl, rfl, fun w h => inUf (inX2 w h) (List.all_eq_true.mp (by decide +kernel : (u_ws RX2 TX2 8).all goodWord = true) w h), tyX2_ok, nmX2⟩
theorem FC3 : FCok 3 RX3 TX3 10 := ⟨rfl, rfl, fun w h => inUf (inX3 w h) (List.all_eq_true.mp (by decide +kernel : (u_ws RX3 TX3 10).all goodWord = true) w h), tyX3_ok, nmX3⟩
theorem FC4 : FCok 4 RX4 TX4 13 := ⟨rfl, rfl, fun w h => inUf (inX4 w h) (List.all_eq_true.mp (by decide +kernel : (u_ws RX4 TX4 13).all goodWord = true) w h), tyX4_ok, nmX4⟩
theorem FC5 : FCok 5 RX5 TX5 10 := ⟨rfl, rfl, fun w h => inUf (inX5 w h) (List.all_eq_true.mp (by decide +kernel : (u_ws RX5 TX5 10).all goodWord = true) w h), tyX5_ok, nmX5⟩
theorem FC6 : FCok 6 RX6 TX6 25 := ⟨rfl, rfl, fun w h => inUf (inX6 w h) (List.all_eq_true.mp (by decide +kernel : (u_ws RX6 TX6 25).all goodWord = true) w h), tyX6_ok, nmX6⟩
/-- the number i is in use, and is a t -/
def Ob (Γ : GG) (i : Nat) (t : CT) : Prop := i ∈ gi Γ ∧ gt Γ i = t
theorem Ob.obj {Γ : GG} {i ci : Nat} (h : Ob Γ i (.inl ci)) (P : MP) (I : MM) : ∃ k : Nat, (gi Γ)[k]? = some i ∧ (gw Γ P I)[k]? = some (gr Γ i, .inr (ci, fvs (gr Γ) P I i ci)) := by
  obtain ⟨k, h1, h2⟩ := wl_at (κ := gk Γ) (ρ := gr Γ) (ty := gt Γ) (P := P) (I := I) h.1
  refine ⟨k, h1, h2.trans ?_⟩
  simp only [cw, h.2]
theorem Ob.arr {Γ : GG} {i ek n : Nat} (h : Ob Γ i (.inr (ek, n))) (P : MP) (I : MM) : ∃ k : Nat, (gi Γ)[k]? = some i ∧ (gw Γ P I)[k]? = some (gr Γ i, .inl (gk Γ ek, n, ar (gr Γ) P I i ek)) := by
  obtain ⟨k, h1, h2⟩ := wl_at (κ := gk Γ) (ρ := gr Γ) (ty := gt Γ) (P := P) (I := I) h.1
  refine ⟨k, h1, h2.trans ?_⟩
  simp only [cw, h.2]
section XR
variable {Γ : GG} {μ : MI} {cells slots pc : Nat} {al al' : List (Nat × AV)} {st : List AV} {P : MP} {I : MM} {Q : QT}
theorem x_getI {ci i index : Nat} {C : String} {T : u_T} {N : Nat} (hd : decode μ.2.2.1 pc = .ok (.getfield index, 3)) (F : FCok ci C T N) (k : Nat) (hk : k < N) (hr : isRefT (tyC ci k) = false) (hf : Cond.fieldLink μ.2.1 index (T k).1 (T k).2.1 (T k).2.2.1 ∈ lwU) (ho : Ob Γ i (.inl ci)) (kk : XM Γ μ cells slots (pc + 3) al (vI (I i k) :: st) P I Q) : XM Γ μ cells slots pc al (vR i :: st) P I Q := by
  intro p e s m args below meth c B H locs ls hl hK hP hD hS hX
  obtain ⟨q0, hq, he⟩ := ho.obj P I
  refine va_get B.1 B.2.1 B.2.2.2.2.1 F.2.2.1 B.2.2.2.1 hK hP q0 he F.1 k hk (B.2.2.2.2.1 _ hf) (fun _ h => h) (v := .int (Int32.ofInt (I i k))) ?_ hd (kk p e s m args below meth c B H locs ls hl hK hP hD hS hX)
  rw [fvs_at (by rw [← F.2.1]; exact hk)]
  simp [fv, hr]
theorem x_getP {ci i r index : Nat} {C : String} {T : u_T} {N : Nat} (hd : decode μ.2.2.1 pc = .ok (.getfield index, 3)) (F : FCok ci C T N) (k : Nat) (hk : k < N) (hr : isRefT (tyC ci k) = true) (hf : Cond.fieldLink μ.2.1 index (T k).1 (T k).2.1 (T k).2.2.1 ∈ lwU) (ho : Ob Γ i (.inl ci)) (hp : P i k = some r) (kk : XM Γ μ cells slots (pc + 3) al (vR r :: st) P I Q) : XM Γ μ cells slots pc al (vR i :: st) P I Q := by
  intro p e s m args below meth c B H locs ls hl hK hP hD hS hX
  obtain ⟨q0, hq, he⟩ := ho.obj P I
  refine va_get B.1 B.2.1 B.2.2.2.2.1 F.2.2.1 B.2.2.2.1 hK hP q0 he F.1 k hk (B.2.2.2.2.1 _ hf) (fun _ h => h) (v := .ref (gr Γ r)) ?_ hd (kk p e s m args below meth c B H locs ls hl hK hP hD hS hX)
  rw [fvs_at (by rw [← F.2.1]; exact hk)]
  simp [fv, hr, hp, va_rf]
theorem x_putI0 {ci i index : Nat} {z : Int} {C : String} {T : u_T} {N : Nat} (hd : decode μ.2.2.1 pc = .ok (.putfield index, 3)) (F : FCok ci C T N) (k : Nat) (hk : k < N) (hr : isRefT (tyC ci k) = false) (hfin : (T k).2.2.2 = false) (hn : narrow (tyC ci k) (.int (Int32.ofInt z)) = .int (Int32.ofInt z)) (hfit : fits (tyC ci k) (.int (Int32.ofInt z)) = true) (hf : Cond.fieldLink μ.2.1 index (T k).1 (T k).2.1 (T k).2.2.1 ∈ lwU) (ho : Ob Γ i (.inl ci)) (kk : XM Γ μ cells slots (pc + 3) al st P (up2 I i k z) Q) : XM Γ μ cells slots pc al (vI z :: vR i :: st) P I Q := by
  intro p e s m args below meth c B H locs ls hl hK hP hD hS hX
  obtain ⟨q0, hq, he⟩ := ho.obj P I
  refine va_put B.1 B.2.1 B.2.2.2.2.1 F.2.2.1 (tyC ci) F.2.2.2.1 F.2.2.2.2 B.2.2.2.1 hK hP hD hS q0 he F.1 k hk (B.2.2.2.2.1 _ hf) (fun _ h => h) hfin (F.2.2.2.1 k hk) hn hfit (by simp only [fvs, List.length_map, List.length_range]; rw [← F.2.1]; exact hk) hd (fun H1 locs1 hP1 hD1 hS1 => ?_)
  have hP1 : va_P (gD Γ) vwCl ((gw Γ P I).set q0 (gr Γ i, .inr (ci, (fvs (gr Γ) P I i ci).set k (.int (Int32.ofInt z))))) H1 := hP1
  have hset : (gw Γ P I).set q0 (gr Γ i, .inr (ci, (fvs (gr Γ) P I i ci).set k (.int (Int32.ofInt z)))) = gw Γ P (up2 I i k z) := wl_set hD hq (by simp only [cw, ho.2]; rw [fvs_setI hr]) cw_neI
  rw [hset] at hP1
  exact kk p e s m args below meth c B H1 locs1 ls hl hK hP1 (gw_D hD) hS1 hX
theorem x_putI {ci i index : Nat} {z : Int} {C : String} {T : u_T} {N : Nat} (hd : decode μ.2.2.1 pc = .ok (.putfield index, 3)) (F : FCok ci C T N) (k : Nat) (hk : k < N) (hr : tyC ci k = .int) (hfin : (T k).2.2.2 = false) (hf : Cond.fieldLink μ.2.1 index (T k).1 (T k).2.1 (T k).2.2.1 ∈ lwU) (ho : Ob Γ i (.inl ci)) (kk : XM Γ μ cells slots (pc + 3) al st P (up2 I i k z) Q) : XM Γ μ cells slots pc al (vI z :: vR i :: st) P I Q :=
  x_putI0 hd F k hk (by rw [hr]; rfl) hfin (by rw [hr]; rfl) (by rw [hr]; rfl) hf ho kk
theorem x_putZ {ci i index : Nat} {z : Int} {C : String} {T : u_T} {N : Nat} (hd : decode μ.2.2.1 pc = .ok (.putfield index, 3)) (F : FCok ci C T N) (k : Nat) (hk : k < N) (hr : tyC ci k = .boolean) (hfin : (T k).2.2.2 = false) (hz : z = 0 ∨ z = 1) (hf : Cond.fieldLink μ.2.1 index (T k).1 (T k).2.1 (T k).2.2.1 ∈ lwU) (ho : Ob Γ i (.inl ci)) (kk : XM Γ μ cells slots (pc + 3) al st P (up2 I i k z) Q) : XM Γ μ cells slots pc al (vI z :: vR i :: st) P I Q :=
  x_putI0 hd F k hk (by rw [hr]; rfl) hfin (by rw [hr]; rcases hz with rfl | rfl <;> rfl) (by rw [hr]; rcases hz with rfl | rfl <;> rfl) hf ho kk
theorem x_putP {ci i r index : Nat} {C : String} {T : u_T} {N : Nat} (hd : decode μ.2.2.1 pc = .ok (.putfield index, 3)) (F : FCok ci C T N) (k : Nat) (hk : k < N) (hr : isRefT (tyC ci k) = true) (hfin : (T k).2.2.2 = false) (hf : Cond.fieldLink μ.2.1 index (T k).1 (T k).2.1 (T k).2.2.1 ∈ lwU) (ho : Ob Γ i (.inl ci)) (kk : XM Γ μ cells slots (pc + 3) al st (up2 P i k (some r)) I Q) : XM Γ μ cells slots pc al (vR r :: vR i :: st) P I Q := by
  intro p e s m args below meth c B H locs ls hl hK hP hD hS hX
  obtain ⟨q0, hq, he⟩ := ho.obj P I
  have hnf : narrow (tyC ci k) (.ref (gr Γ r)) = .ref (gr Γ r) ∧ fits (tyC ci k) (.ref (gr Γ r)) = true := by
    generalize tyC ci k = t at hr
    cases t <;> first | (simp [isRefT] at hr; done) | exact ⟨rfl, rfl⟩
  refine va_put B.1 B.2.1 B.2.2.2.2.1 F.2.2.1 (tyC ci) F.2.2.2.1 F.2.2.2.2 B.2.2.2.1 hK hP hD hS q0 he F.1 k hk (B.2.2.2.2.1 _ hf) (fun _ h => h) hfin (F.2.2.2.1 k hk) hnf.1 hnf.2 (by simp only [fvs, List.length_map, List.length_range]; rw [← F.2.1]; exact hk) hd (fun H1 locs1 hP1 hD1 hS1 => ?_)
  have hP1 : va_P (gD Γ) vwCl ((gw Γ P I).set q0 (gr Γ i, .inr (ci, (fvs (gr Γ) P I i ci).set k (.ref (gr Γ r))))) H1 := hP1
  have hset : (gw Γ P I).set q0 (gr Γ i, .inr (ci, (fvs (gr Γ) P I i ci).set k (.ref (gr Γ r)))) = gw Γ (up2 P i k (some r)) I := wl_set hD hq (by simp only [cw, ho.2]; rw [← fvs_setP hr]; rfl) cw_neP
  rw [hset] at hP1
  exact kk p e s m args below meth c B H1 locs1 ls hl hK hP1 (gw_D hD) hS1 hX
/-! arrays -/
theorem x_iald {i n : Nat} {j : Int} (hd : decode μ.2.2.1 pc = .ok (.iaload, 1)) (ho : Ob Γ i (.inr (0, n))) (h0 : 0 ≤ j) (h1 : j < n) (hn : n < 2147483648) (kk : XM Γ μ cells slots (pc + 1) al (vI (I i j.toNat) :: st) P I Q) : XM Γ μ cells slots pc al (vI j :: vR i :: st) P I Q := by
  intro p e s m args below meth c B H locs ls hl hK hP hD hS hX
  obtain ⟨q0, hq, he⟩ := ho.arr P I
  refine va_iald B.1 B.2.1 hK hP q0 0 he rfl (zi_in h0 h1 hn) hd ?_
  rw [zi_nat h0 (by omega)]
  exact kk p e s m args below meth c B H locs ls hl hK hP hD hS hX
theorem x_bald {i n : Nat} {j : Int} (hd : decode μ.2.2.1 pc = .ok (.baload, 1)) (ho : Ob Γ i (.inr (1, n))) (h0 : 0 ≤ j) (h1 : j < n) (hn : n < 2147483648) (kk : XM Γ μ cells slots (pc + 1) al (vI (I i j.toNat) :: st) P I Q) : XM Γ μ cells slots pc al (vI j :: vR i :: st) P I Q := by
  intro p e s m args below meth c B H locs ls hl hK hP hD hS hX
  obtain ⟨q0, hq, he⟩ := ho.arr P I
  refine va_bald B.1 B.2.1 hK hP q0 1 he rfl (zi_in h0 h1 hn) hd ?_
  rw [zi_nat h0 (by omega)]
  exact kk p e s m args below meth c B H locs ls hl hK hP hD hS hX
theorem x_zald {i n : Nat} {j : Int} (hd : decode μ.2.2.1 pc = .ok (.baload, 1)) (ho : Ob Γ i (.inr (2, n))) (h0 : 0 ≤ j) (h1 : j < n) (hn : n < 2147483648) (kk : XM Γ μ cells slots (pc + 1) al (vI (I i j.toNat) :: st) P I Q) : XM Γ μ cells slots pc al (vI j :: vR i :: st) P I Q := by
  intro p e s m args below meth c B H locs ls hl hK hP hD hS hX
  obtain ⟨q0, hq, he⟩ := ho.arr P I
  refine va_zald B.1 B.2.1 hK hP q0 2 he rfl (zi_in h0 h1 hn) hd ?_
  rw [zi_nat h0 (by omega)]
  exact kk p e s m args below meth c B H locs ls hl hK hP hD hS hX
theorem x_lald {i n : Nat} {j : Int} (hd : decode μ.2.2.1 pc = .ok (.laload, 1)) (ho : Ob Γ i (.inr (3, n))) (h0 : 0 ≤ j) (h1 : j < n) (hn : n < 2147483648) (kk : XM Γ μ cells slots (pc + 1) al (vL (I i j.toNat) :: st) P I Q) : XM Γ μ cells slots pc al (vI j :: vR i :: st) P I Q := by
  intro p e s m args below meth c B H locs ls hl hK hP hD hS hX
  obtain ⟨q0, hq, he⟩ := ho.arr P I
  refine va_lald B.1 B.2.1 hK hP q0 3 he rfl (zi_in h0 h1 hn) hd ?_
  rw [zi_nat h0 (by omega)]
  exact kk p e s m args below meth c B H locs ls hl hK hP hD hS hX
theorem x_aald {i n r : Nat} {j : Int} (hd : decode μ.2.2.1 pc = .ok (.aaload, 1)) (ek : Nat) (ho : Ob Γ i (.inr (ek, n))) (hek : ek = 4 ∨ ek = 5) (h0 : 0 ≤ j) (h1 : j < n) (hn : n < 2147483648) (hp : P i j.toNat = some r) (kk : XM Γ μ cells slots (pc + 1) al (vR r :: st) P I Q) : XM Γ μ cells slots pc al (vI j :: vR i :: st) P I Q := by
  intro p e s m args below meth c B H locs ls hl hK hP hD hS hX
  obtain ⟨q0, hq, he⟩ := ho.arr P I
  have hin := zi_in h0 h1 hn
  have hlt : j.toNat < n := by omega
  have hc : H[gr Γ i]? = some (arrV (gk Γ ek) n (fun j => va_rf ((P i j).map (gr Γ)))) := by
    have := hP q0 _ he
    rcases hek with rfl | rfl <;> exact this
  have hty : s.isArrayOf (arrV (gk Γ ek) n (fun j => va_rf ((P i j).map (gr Γ)))) (ekT ek) := by
    rcases hek with rfl | rfl
    · exact (hK.2 4 _ rfl).1 n _
    · exact (hK.2 5 _ rfl).1 n _
  refine W.aald (v := .ref (gr Γ r)) (ty := ekT ek) B.1 B.2.1 hc hty (by rcases hek with rfl | rfl <;> rfl) (fun q => by cases q) (by show ¬ (Int32.ofInt j < 0 ∨ (arrV _ _ _).slots.size ≤ _); rw [arrV_size]; exact hin) (by rw [zi_nat h0 (by omega), arrV_read _ _ hlt, hp]; rfl) rfl rfl hd (kk p e s m args below meth c B H locs ls hl hK hP hD hS hX)
theorem ar_up {ρ : Nat → Nat} {P : MP} {I : MM} {i ek j : Nat} {z : Int} (h : ek = 0 ∨ ek = 1 ∨ ek = 2) : ar ρ P (up2 I i j z) i ek = .inl (upd (fun k => Int32.ofInt (I i k)) j (Int32.ofInt z)) := by
  have e : (fun k => Int32.ofInt (up2 I i j z i k)) = upd (fun k => Int32.ofInt (I i k)) j (Int32.ofInt z) := by
    funext k
    by_cases hk : k = j
    · simp [up2, upd, hk]
    · simp [up2, upd, hk]
  rcases h with rfl | rfl | rfl <;> simp only [ar, e]
theorem ar_upL {ρ : Nat → Nat} {P : MP} {I : MM} {i j : Nat} {z : Int} : ar ρ P (up2 I i j z) i 3 = .inr (.inl (vp_updL (fun k => Int64.ofInt (I i k)) j (Int64.ofInt z))) := by
  have e : (fun k => Int64.ofInt (up2 I i j z i k)) = vp_updL (fun k => Int64.ofInt (I i k)) j (Int64.ofInt z) := by
    funext k
    by_cases hk : k = j
    · simp [up2, vp_updL, hk]
    · simp [up2, vp_updL, hk]
  simp only [ar, e]
theorem x_iast {i n : Nat} {j z : Int} (hd : decode μ.2.2.1 pc = .ok (.iastore, 1)) (ho : Ob Γ i (.inr (0, n))) (h0 : 0 ≤ j) (h1 : j < n) (hn : n < 2147483648) (kk : XM Γ μ cells slots (pc + 1) al st P (up2 I i j.toNat z) Q) : XM Γ μ cells slots pc al (vI z :: vI j :: vR i :: st) P I Q := by
  intro p e s m args below meth c B H locs ls hl hK hP hD hS hX
  obtain ⟨q0, hq, he⟩ := ho.arr P I
  refine va_iast B.1 B.2.1 hK hP hD hS q0 0 he rfl (zi_in h0 h1 hn) hd (fun H1 locs1 hP1 hD1 hS1 => ?_)
  rw [zi_nat h0 (by omega)] at hP1
  have hset : (gw Γ P I).set q0 (gr Γ i, .inl (gk Γ 0, n, .inl (upd (fun k => Int32.ofInt (I i k)) j.toNat (Int32.ofInt z)))) = gw Γ P (up2 I i j.toNat z) := wl_set hD hq (by simp only [cw, ho.2]; rw [ar_up (Or.inl rfl)]) cw_neI
  rw [hset] at hP1
  exact kk p e s m args below meth c B H1 locs1 ls hl hK hP1 (gw_D hD) hS1 hX
theorem x_zast {i n : Nat} {j z : Int} (hd : decode μ.2.2.1 pc = .ok (.bastore, 1)) (ho : Ob Γ i (.inr (2, n))) (h0 : 0 ≤ j) (h1 : j < n) (hn : n < 2147483648) (hz : z = 0 ∨ z = 1) (kk : XM Γ μ cells slots (pc + 1) al st P (up2 I i j.toNat z) Q) : XM Γ μ cells slots pc al (vI z :: vI j :: vR i :: st) P I Q := by
  intro p e s m args below meth c B H locs ls hl hK hP hD hS hX
  obtain ⟨q0, hq, he⟩ := ho.arr P I
  refine va_zast B.1 B.2.1 hK hP hD hS q0 2 he rfl (zi_in h0 h1 hn) hd (fun H1 locs1 hP1 hD1 hS1 => ?_)
  have hz2 : vp_nar .boolean (Int32.ofInt z) = Int32.ofInt z := by rcases hz with rfl | rfl <;> rfl
  rw [zi_nat h0 (by omega), hz2] at hP1
  have hset : (gw Γ P I).set q0 (gr Γ i, .inl (gk Γ 2, n, .inl (upd (fun k => Int32.ofInt (I i k)) j.toNat (Int32.ofInt z)))) = gw Γ P (up2 I i j.toNat z) := wl_set hD hq (by simp only [cw, ho.2]; rw [ar_up (Or.inr (Or.inr rfl))]) cw_neI
  rw [hset] at hP1
  exact kk p e s m args below meth c B H1 locs1 ls hl hK hP1 (gw_D hD) hS1 hX
theorem zi_b8 {z : Int} (h0 : -128 ≤ z) (h1 : z < 128) : (Int32.ofInt z).toInt8.toInt32 = Int32.ofInt z := by
  rw [← Int32.toInt_inj, zi_toInt ⟨by omega, by omega⟩, Int32.toInt8_ofInt, Int8.toInt_toInt32, Int8.toInt_ofInt_of_le (by omega) (by omega)]
theorem x_bast {i n : Nat} {j z : Int} (hd : decode μ.2.2.1 pc = .ok (.bastore, 1)) (ho : Ob Γ i (.inr (1, n))) (h0 : 0 ≤ j) (h1 : j < n) (hn : n < 2147483648) (hz0 : -128 ≤ z) (hz1 : z < 128) (kk : XM Γ μ cells slots (pc + 1) al st P (up2 I i j.toNat z) Q) : XM Γ μ cells slots pc al (vI z :: vI j :: vR i :: st) P I Q := by
  intro p e s m args below meth c B H locs ls hl hK hP hD hS hX
  obtain ⟨q0, hq, he⟩ := ho.arr P I
  refine va_bast B.1 B.2.1 hK hP hD hS q0 1 he rfl (zi_in h0 h1 hn) hd (fun H1 locs1 hP1 hD1 hS1 => ?_)
  have hz2 : vp_nar .byte (Int32.ofInt z) = Int32.ofInt z := by rw [vp_nar_byte, zi_b8 hz0 hz1]
  rw [zi_nat h0 (by omega), hz2] at hP1
  have hset : (gw Γ P I).set q0 (gr Γ i, .inl (gk Γ 1, n, .inl (upd (fun k => Int32.ofInt (I i k)) j.toNat (Int32.ofInt z)))) = gw Γ P (up2 I i j.toNat z) := wl_set hD hq (by simp only [cw, ho.2]; rw [ar_up (Or.inr (Or.inl rfl))]) cw_neI
  rw [hset] at hP1
  exact kk p e s m args below meth c B H1 locs1 ls hl hK hP1 (gw_D hD) hS1 hX
theorem x_last {i n : Nat} {j z : Int} (hd : decode μ.2.2.1 pc = .ok (.lastore, 1)) (ho : Ob Γ i (.inr (3, n))) (h0 : 0 ≤ j) (h1 : j < n) (hn : n < 2147483648) (kk : XM Γ μ cells slots (pc + 1) al st P (up2 I i j.toNat z) Q) : XM Γ μ cells slots pc al (vL z :: vI j :: vR i :: st) P I Q := by
  intro p e s m args below meth c B H locs ls hl hK hP hD hS hX
  obtain ⟨q0, hq, he⟩ := ho.arr P I
  refine va_last B.1 B.2.1 hK hP hD hS q0 3 he rfl (zi_in h0 h1 hn) hd (fun H1 locs1 hP1 hD1 hS1 => ?_)
  rw [zi_nat h0 (by omega)] at hP1
  have hset : (gw Γ P I).set q0 (gr Γ i, .inl (gk Γ 3, n, .inr (.inl (vp_updL (fun k => Int64.ofInt (I i k)) j.toNat (Int64.ofInt z))))) = gw Γ P (up2 I i j.toNat z) := wl_set hD hq (by simp only [cw, ho.2]; rw [ar_upL]) cw_neI
  rw [hset] at hP1
  exact kk p e s m args below meth c B H1 locs1 ls hl hK hP1 (gw_D hD) hS1 hX
theorem x_alen {i ek n : Nat} (hd : decode μ.2.2.1 pc = .ok (.arraylength, 1)) (ho : Ob Γ i (.inr (ek, n))) (hek : ek < 6) (kk : XM Γ μ cells slots (pc + 1) al (vI n :: st) P I Q) : XM Γ μ cells slots pc al (vR i :: st) P I Q := by
  intro p e s m args below meth c B H locs ls hl hK hP hD hS hX
  obtain ⟨q0, hq, he⟩ := ho.arr P I
  refine va_alen B.1 B.2.1 hK hP q0 ek he (ty := ekT ek) ?_ (v := Int32.ofInt n) (Int32.ofInt_eq_ofNat).symm hd (kk p e s m args below meth c B H locs ls hl hK hP hD hS hX)
  match ek, hek with
  | 0, _ => rfl
  | 1, _ => rfl
  | 2, _ => rfl
  | 3, _ => rfl
  | 4, _ => rfl
  | 5, _ => rfl
/-! returns -/
theorem pq_of {p : Program} {e : Env} {R : Room} {s t : State} {args : Array Value} {H : Heap} {locs : List Loc} {v : Option AV} (hq : Q v P I) (ht : t.heap = H) (hW : s.WarmedH t.vm) (hK : va_K (gD Γ) vwCl (tysK (gk Γ)) s) (hP : va_P (gD Γ) vwCl (gw Γ P I) H) (hS : va_S (RG Γ s.heap.size) s.heap H locs) : PQ Γ Q args s (.returned (v.map (cv (gr Γ)))) t :=
  ⟨⟨v, P, I, rfl, hq, va_K.moved hW.alike hK, by rw [ht]; exact hP⟩, hS.F ht⟩
theorem x_iret {z : Int} (hd : decode μ.2.2.1 pc = .ok (.ireturn, 1)) (hr : μ.2.2.2.2.1 = some .int) (hc : cells ≤ μ.2.2.2.2.2.cells) (hs : slots ≤ μ.2.2.2.2.2.slots) (hq : Q (some (vI z)) P I) : XM Γ μ cells slots pc al [vI z] P I Q := by
  intro p e s m args below meth c B H locs ls hl hK hP hD hS hX
  refine W.widen hc hs ?_
  exact W.iret (v := Int32.ofInt z) B.1 B.2.1 (B.2.2.2.2.2.1.trans hr) (fun t ht hW => pq_of (p := p) (e := e) (R := μ.2.2.2.2.2) (v := some (vI z)) hq ht hW hK hP hS) hS.2.2 hd B.2.2.2.2.2.2
theorem x_zret {z : Int} (hd : decode μ.2.2.1 pc = .ok (.ireturn, 1)) (hr : μ.2.2.2.2.1 = some .boolean) (hz : z = 0 ∨ z = 1) (hc : cells ≤ μ.2.2.2.2.2.cells) (hs : slots ≤ μ.2.2.2.2.2.slots) (hq : Q (some (vI z)) P I) : XM Γ μ cells slots pc al [vI z] P I Q := by
  intro p e s m args below meth c B H locs ls hl hK hP hD hS hX
  refine W.widen hc hs ?_
  exact W.zret (v := Int32.ofInt z) (ty := .boolean) B.1 B.2.1 (B.2.2.2.2.2.1.trans hr) (by rcases hz with rfl | rfl <;> rfl) (fun t ht hW => pq_of (p := p) (e := e) (R := μ.2.2.2.2.2) (v := some (vI z)) hq ht hW hK hP hS) hS.2.2 hd B.2.2.2.2.2.2
theorem x_vret (hd : decode μ.2.2.1 pc = .ok (.return_, 1)) (hr : μ.2.2.2.2.1 = none) (hc : cells ≤ μ.2.2.2.2.2.cells) (hs : slots ≤ μ.2.2.2.2.2.slots) (hq : Q none P I) : XM Γ μ cells slots pc al [] P I Q := by
  intro p e s m args below meth c B H locs ls hl hK hP hD hS hX
  refine W.widen hc hs ?_
  exact W.vret B.1 B.2.1 (B.2.2.2.2.2.1.trans hr) (fun t ht hW => pq_of (p := p) (e := e) (R := μ.2.2.2.2.2) (v := none) hq ht hW hK hP hS) hS.2.2 hd B.2.2.2.2.2.2
theorem x_lret {z : Int} (hd : decode μ.2.2.1 pc = .ok (.lreturn, 1)) (hr : μ.2.2.2.2.1 = some .long) (hc : cells ≤ μ.2.2.2.2.2.cells) (hs : slots ≤ μ.2.2.2.2.2.slots) (hq : Q (some (vL z)) P I) : XM Γ μ cells slots pc al [vL z] P I Q := by
  intro p e s m args below meth c B H locs ls hl hK hP hD hS hX
  refine W.widen hc hs ?_
  exact W.lret (v := Int64.ofInt z) B.1 B.2.1 (B.2.2.2.2.2.1.trans hr) (fun t ht hW => pq_of (p := p) (e := e) (R := μ.2.2.2.2.2) (v := some (vL z)) hq ht hW hK hP hS) hS.2.2 hd B.2.2.2.2.2.2
end XR
