/-! ROWS of String constants (the constant i is the number 500 + i, its bytes 600 + i) -/
section XR
variable {Γ : GG} {μ ν : MI} {cells slots pc : Nat} {al al' : List (Nat × AV)} {st as : List AV} {P : MP} {I : MM} {Q R : QT}
theorem x_ldcS {index : Nat} (tx : String) (i : Nat) (hd : decode μ.2.2.1 pc = .ok (.ldc index, 2)) (ho : (μ.2.1, index, tx, i) ∈ occS) (k : XM Γ μ cells slots (pc + 2) al (vR (500 + i) :: st) P I Q) : XM Γ μ cells slots pc al st P I Q := by
  intro p e s m args below meth c B H locs ls hl hK hP hD hS hX
  exact va_ldcS B.1 B.2.1 B.2.2.2.1 (hX.2.1 _ ho) hd (k p e s m args below meth c B H locs ls hl hK hP hD hS hX)
theorem x_getSv {index i : Nat} (hd : decode μ.2.2.1 pc = .ok (.getfield index, 3)) (hi : i < 9) (hf : Cond.fieldLink μ.2.1 index "java/lang/String" "value" "[B" ∈ lwU) (k : XM Γ μ cells slots (pc + 3) al (vR (600 + i) :: st) P I Q) : XM Γ μ cells slots pc al (vR (500 + i) :: st) P I Q := by
  intro p e s m args below meth c B H locs ls hl hK hP hD hS hX
  exact vk_getf B.1 B.2.1 (hX.1 i hi).2.2.1 hS B.2.2.2.1 (B.2.2.2.2.1 _ hf) (fun _ h => h) hd (k p e s m args below meth c B H locs ls hl hK hP hD hS hX)
theorem x_getSc {index i : Nat} (hd : decode μ.2.2.1 pc = .ok (.getfield index, 3)) (hi : i < 9) (hf : Cond.fieldLink μ.2.1 index "java/lang/String" "coder" "B" ∈ lwU) (k : XM Γ μ cells slots (pc + 3) al (vI 0 :: st) P I Q) : XM Γ μ cells slots pc al (vR (500 + i) :: st) P I Q := by
  intro p e s m args below meth c B H locs ls hl hK hP hD hS hX
  exact vk_getf B.1 B.2.1 (hX.1 i hi).2.1 hS B.2.2.2.1 (B.2.2.2.2.1 _ hf) (fun _ h => h) hd (k p e s m args below meth c B H locs ls hl hK hP hD hS hX)
theorem x_alenS {i : Nat} (hd : decode μ.2.2.1 pc = .ok (.arraylength, 1)) (hi : i < 9) (k : XM Γ μ cells slots (pc + 1) al (vI (lenS.getD i 0) :: st) P I Q) : XM Γ μ cells slots pc al (vR (600 + i) :: st) P I Q := by
  intro p e s m args below meth c B H locs ls hl hK hP hD hS hX
  exact va_tlen B.1 B.2.1 (hX.1 i hi).2.2.2 hS (v := Int32.ofInt (lenS.getD i 0)) (Int32.ofInt_eq_ofNat).symm hd (k p e s m args below meth c B H locs ls hl hK hP hD hS hX)
/-- the byte j of the constant i -/
def chS (i j : Nat) : Int := ((bytS.getD i []).getD j 0).toInt
theorem x_baldS {i : Nat} {j : Int} (hd : decode μ.2.2.1 pc = .ok (.baload, 1)) (hi : i < 9) (h0 : 0 ≤ j) (h1 : j < lenS.getD i 0) (hL : lenS.getD i 0 < 100) (k : XM Γ μ cells slots (pc + 1) al (vI (chS i j.toNat) :: st) P I Q) : XM Γ μ cells slots pc al (vI j :: vR (600 + i) :: st) P I Q := by
  intro p e s m args below meth c B H locs ls hl hK hP hD hS hX
  refine va_tb B.1 B.2.1 (hX.1 i hi).2.2.2 hS (zi_in h0 h1 (by omega)) (v := .int (Int32.ofInt (chS i j.toNat))) ?_ hd (k p e s m args below meth c B H locs ls hl hK hP hD hS hX)
  rw [zi_nat h0 (by omega)]
  simp only [chS, Int32.ofInt_toInt]
theorem x_getsC {index : Nat} (hd : decode μ.2.2.1 pc = .ok (.getstatic index, 3)) (hf : Cond.fieldLink μ.2.1 index "java/lang/String" "COMPACT_STRINGS" "Z" ∈ lwU) (k : XM Γ μ cells slots (pc + 3) al (vI 1 :: st) P I Q) : XM Γ μ cells slots pc al st P I Q := by
  intro p e s m args below meth c B H locs ls hl hK hP hD hS hX
  exact va_gets B.1 B.2.1 hX.2.2.1 hS B.2.2.2.1 (B.2.2.2.2.1 _ hf) (fun _ h => h) hd (k p e s m args below meth c B H locs ls hl hK hP hD hS hX)
theorem x_getsF {index : Nat} (hd : decode μ.2.2.1 pc = .ok (.getstatic index, 3)) (hf : Cond.fieldLink μ.2.1 index "jdk/internal/util/Preconditions" "SIOOBE_FORMATTER" "Ljava/util/function/BiFunction;" ∈ lwU) (k : ∀ v, isLv v = false → XM Γ μ cells slots (pc + 3) al (v :: st) P I Q) : XM Γ μ cells slots pc al st P I Q := by
  intro p e s m args below meth c B H locs ls hl hK hP hD hS hX
  rcases hX.2.2.2.1 with h | h
  · exact va_gets B.1 B.2.1 h hS B.2.2.2.1 (B.2.2.2.2.1 _ hf) (fun _ h => h) hd (k vN rfl p e s m args below meth c B H locs ls hl hK hP hD hS hX)
  · exact va_gets B.1 B.2.1 h hS B.2.2.2.1 (B.2.2.2.2.1 _ hf) (fun _ h => h) hd (k (vR 700) rfl p e s m args below meth c B H locs ls hl hK hP hD hS hX)
theorem x_i2c {a : Int} (hd : decode μ.2.2.1 pc = .ok (.i2c, 1)) (h0 : 0 ≤ a) (h1 : a < 65536) (k : XM Γ μ cells slots (pc + 1) al (vI a :: st) P I Q) : XM Γ μ cells slots pc al (vI a :: st) P I Q := by
  intro p e s' m args below meth c B H locs ls hl hK hP hD hS hX
  refine lv_i2c B.1 B.2.1 hd (v := Int32.ofInt a) ?_ (k p e s' m args below meth c B H locs ls hl hK hP hD hS hX)
  rw [pk_char, zi_bits, nI, ← Int32.ofInt_eq_ofNat]
  congr 1
  omega
theorem x_nret {z : Int} (ty : FieldType) (hd : decode μ.2.2.1 pc = .ok (.ireturn, 1)) (hr : μ.2.2.2.2.1 = some ty) (hz : narrow ty (.int (Int32.ofInt z)) = .int (Int32.ofInt z)) (hc : cells ≤ μ.2.2.2.2.2.cells) (hs : slots ≤ μ.2.2.2.2.2.slots) (hq : Q (some (vI z)) P I) : XM Γ μ cells slots pc al [vI z] P I Q := by
  intro p e s m args below meth c B H locs ls hl hK hP hD hS hX
  refine W.widen hc hs ?_
  exact W.zret (v := Int32.ofInt z) (ty := ty) B.1 B.2.1 (B.2.2.2.2.2.1.trans hr) hz (fun t ht hW => pq_of (p := p) (e := e) (R := μ.2.2.2.2.2) (v := some (vI z)) hq ht hW hK hP hS) hS.2.2 hd B.2.2.2.2.2.2
theorem x_Vs {R : Int → MM → Prop} {i index n : Nat} (hd : decode μ.2.2.1 pc = .ok (.invokevirtual index, 3)) (hi : i < 9) (hC : Cl Γ ν (vR (500 + i) :: as) P I (ri P R)) (hk : LkV ν n) (hm : Cond.methodLink μ.2.1 index ν.1 ∈ lwU) (hR : LkR μ ν) (h0 : Mk0 ν) (hf : cells ≤ μ.2.2.2.2.2.cells ∧ slots ≤ μ.2.2.2.2.2.slots) (hc : ν.1.cls = "java/lang/String") (hn : as.length = n) (hs : avLen st ≤ 8)
    (ast : List AV) (hst : ast = as.reverse ++ vR (500 + i) :: st) (k : ∀ z I', R z I' → XM Γ μ cells slots (pc + 3) al (vI z :: st) P I' Q) : XM Γ μ cells slots pc al ast P I Q := by
  subst hst
  intro p e s m args below meth c B H locs ls hl hK hP hD hS hX
  have hrecv : ∃ cell : Cell, H[gr Γ (500 + i)]? = some cell ∧ cell.vm.isStatics = false ∧ s.vm.findClass ν.1.cls = some cell.cls := by
    rw [hc]
    obtain ⟨cell, h1, h2, h3, -⟩ := (hX.1 i hi).1.kept hS.2.1
    exact ⟨cell, h1, h2, h3⟩
  have hrun := va_runV (C := ν.1.cls) (b := gr Γ (500 + i)) (As := as.map (cv (gr Γ))) (rest := st.map (cv (gr Γ))) (g := F0 m pc ls ((as.reverse ++ vR (500 + i) :: st).map (cv (gr Γ)))) (cells := cells) (slots := slots) (locs := locs)
    (⟨B.1, B.2.1, B.2.2.1, B.2.2.2.1, B.2.2.2.2.1⟩ : CallFix p m c μ.2.2.1 μ.2.2.2.1 s args lwU μ.2.1) (hC H.size) (cwV n B.2.2.2.2.1 (goodV hk hm) rfl rfl rfl ⟨rfl, hk.2.2.2.2⟩ hR)
    ⟨pq_blind, hrecv, fun U hU hW => ⟨rfl, by rw [hU], va_K.moved hW.alike hK, by rw [hU]; exact hP, gw_DR _ hD, ro_call hU hW hS hX⟩⟩ rfl (by rw [List.length_map]; exact hn) hl.1 (by simp [cv]) (lv_room (by rw [cat_sum]; exact hs)) hd (by rw [h0.1, h0.2]; exact hf) (below := below) (meth := meth) (e := e)
  exact x_run hrun hS (fun v P' I' H1 locs1 hR' hP' hS' => by
    obtain ⟨z, rfl, rfl, h⟩ := hR'
    rw [h0.1, h0.2]
    exact k z I' h p e s m args below meth c B H1 locs1 ls hl hK hP' (gw_D hD) hS' hX)
theorem avl_v {v : AV} (h : isLv v = false) (st : List AV) : avLen (v :: st) = 1 + avLen st := by
  simp [avLen, h]
end XR
