/-! MORE ROWS: Math.max and min, shifts and masks, String constants -/
section XR
variable {Γ : GG} {μ ν : MI} {cells slots pc : Nat} {al al' : List (Nat × AV)} {st as : List AV} {P : MP} {I : MM} {Q : QT}
theorem x_mmax {index : Nat} {a b : Int} (hd : decode μ.2.2.1 pc = .ok (.invokestatic index, 3)) (hm : Cond.methodLink μ.2.1 index Lib.Math.max.name ∈ lwU) (h1 : Cond.static Lib.Math.max.name ∈ lwU) (h2 : Cond.initialized "java/lang/Math" ∈ lwU) (h3 : Cond.code Lib.Math.max.name Lib.Math.max.code 2 (some .int) ∈ lwU) (hR : 1 ≤ μ.2.2.2.2.2.frames ∧ avLen st + 13 ≤ μ.2.2.2.2.2.locals) (hf : cells ≤ μ.2.2.2.2.2.cells ∧ slots ≤ μ.2.2.2.2.2.slots) (ha : inR a) (hb : inR b) (k : XM Γ μ cells slots (pc + 3) al (vI (max a b) :: st) P I Q) : XM Γ μ cells slots pc al (vI b :: vI a :: st) P I Q := by
  intro p e s m args below meth c B H locs ls hl hK hP hD hS hX
  refine va_mmax B.1 B.2.1 (B.2.2.1.trans hl.1.symm) B.2.2.2.1 (B.2.2.2.2.1 _ hm) (B.2.2.2.2.1 _ h1) (B.2.2.2.2.1 _ h2) (B.2.2.2.2.1 _ h3) hR.1 (by rw [cat_sum]; exact hR.2) hf.1 hf.2 hd ?_
  have e1 : (if Int32.ofInt a < Int32.ofInt b then Int32.ofInt b else Int32.ofInt a) = Int32.ofInt (max a b) := by
    by_cases h : a < b
    · rw [if_pos ((zi_lt ha hb).mpr h), show max a b = b by omega]
    · rw [if_neg (fun q => h ((zi_lt ha hb).mp q)), show max a b = a by omega]
  rw [e1]
  exact k p e s m args below meth c B H locs ls hl hK hP hD hS hX
theorem x_mmin {index : Nat} {a b : Int} (hd : decode μ.2.2.1 pc = .ok (.invokestatic index, 3)) (hm : Cond.methodLink μ.2.1 index Lib.Math.min.name ∈ lwU) (h1 : Cond.static Lib.Math.min.name ∈ lwU) (h2 : Cond.initialized "java/lang/Math" ∈ lwU) (h3 : Cond.code Lib.Math.min.name Lib.Math.min.code 2 (some .int) ∈ lwU) (hR : 1 ≤ μ.2.2.2.2.2.frames ∧ avLen st + 13 ≤ μ.2.2.2.2.2.locals) (hf : cells ≤ μ.2.2.2.2.2.cells ∧ slots ≤ μ.2.2.2.2.2.slots) (ha : inR a) (hb : inR b) (k : XM Γ μ cells slots (pc + 3) al (vI (min a b) :: st) P I Q) : XM Γ μ cells slots pc al (vI b :: vI a :: st) P I Q := by
  intro p e s m args below meth c B H locs ls hl hK hP hD hS hX
  refine va_mmin B.1 B.2.1 (B.2.2.1.trans hl.1.symm) B.2.2.2.1 (B.2.2.2.2.1 _ hm) (B.2.2.2.2.1 _ h1) (B.2.2.2.2.1 _ h2) (B.2.2.2.2.1 _ h3) hR.1 (by rw [cat_sum]; exact hR.2) hf.1 hf.2 hd ?_
  have h := k p e s m args below meth c B H locs ls hl hK hP hD hS hX
  by_cases hlt : a < b
  · rw [show min a b = a by omega] at h
    first
      | (rw [if_pos ((zi_lt ha hb).mpr hlt)]; exact h)
      | (rw [if_neg (fun q => by have := (zi_lt hb ha).mp q; omega)]; exact h)
      | (rw [if_pos ((zi_le ha hb).mpr (by omega))]; exact h)
  · by_cases he : a = b
    · subst he
      rw [show min a a = a by omega] at h
      rw [ite_self]
      exact h
    · rw [show min a b = b by omega] at h
      first
        | (rw [if_neg (fun q => hlt ((zi_lt ha hb).mp q))]; exact h)
        | (rw [if_pos ((zi_lt hb ha).mpr (by omega))]; exact h)
        | (rw [if_neg (fun q => by have := (zi_le ha hb).mp q; omega)]; exact h)
theorem zi_bits (a : Int) : (Int32.ofInt a).toBitVec.toNat = (a % 4294967296).toNat := by
  rw [Int32.toBitVec_ofInt, BitVec.toNat_ofInt]; rfl
theorem x_iandM {a b : Int} (hd : decode μ.2.2.1 pc = .ok (.iand, 1)) (j : Nat) (hj : (Int32.ofInt b).toBitVec.toNat = 2 ^ j - 1) (hj2 : j ≤ 31) (k : XM Γ μ cells slots (pc + 1) al (vI (a % (2 ^ j : Nat)) :: st) P I Q) : XM Γ μ cells slots pc al (vI b :: vI a :: st) P I Q := by
  intro p e s m args below meth c B H locs ls hl hK hP hD hS hX
  refine lv_iand B.1 B.2.1 hd ?_
  have e1 : Int32.ofInt a &&& Int32.ofInt b = Int32.ofInt (a % (2 ^ j : Nat)) := by
    rw [pk_and _ j hj, zi_bits, nI, ← Int32.ofInt_eq_ofNat]
    congr 1
    have h2 : (4294967296 : Int) = ((2 ^ j : Nat) : Int) * ((2 ^ (32 - j) : Nat) : Int) := by
      rw [← Int.natCast_mul, ← Nat.pow_add, show j + (32 - j) = 32 by omega]; rfl
    have h0 : 0 ≤ a % 4294967296 := Int.emod_nonneg _ (by decide)
    rw [Int.natCast_emod, Int.toNat_of_nonneg h0]
    rw [h2]
    exact Int.emod_emod_of_dvd a (Int.dvd_mul_right _ _)
  rw [e1]
  exact k p e s m args below meth c B H locs ls hl hK hP hD hS hX
theorem zi_sh (s : Int) (h0 : 0 ≤ s) (h1 : s < 32) : ((Int32.ofInt s).toBitVec.smod 32).toNat = s.toNat := by
  obtain ⟨n, rfl⟩ := Int.eq_ofNat_of_zero_le h0
  have hn : n < 32 := by omega
  have key : ∀ n : Nat, n < 32 → ((Int32.ofInt (n : Int)).toBitVec.smod 32).toNat = n := by decide +kernel
  exact key n hn
theorem zi_31 (s : Int) (h0 : 0 ≤ s) (h1 : s < 32) : Int32.ofInt s &&& 31 = Int32.ofInt s := by
  obtain ⟨n, rfl⟩ := Int.eq_ofNat_of_zero_le h0
  have hn : n < 32 := by omega
  have key : ∀ n : Nat, n < 32 → Int32.ofInt (n : Int) &&& 31 = Int32.ofInt (n : Int) := by decide +kernel
  exact key n hn
theorem x_ishr {a s : Int} (hd : decode μ.2.2.1 pc = .ok (.ishr, 1)) (ha : inR a) (h0 : 0 ≤ s) (h1 : s < 32) (k : XM Γ μ cells slots (pc + 1) al (vI (a / (2 ^ s.toNat : Nat)) :: st) P I Q) : XM Γ μ cells slots pc al (vI s :: vI a :: st) P I Q := by
  intro p e s' m args below meth c B H locs ls hl hK hP hD hS hX
  refine lv_ishr B.1 B.2.1 hd ?_
  have e1 : Int32.ofInt a >>> Int32.ofInt s = Int32.ofInt (a / (2 ^ s.toNat : Nat)) := by
    rw [← Int32.ofInt_toInt (Int32.ofInt a >>> Int32.ofInt s), pk_shr _ _ _ (zi_sh s h0 h1), zi_toInt ha, Int.shiftRight_eq_div_pow]
  rw [zi_31 s h0 h1, e1]
  exact k p e s' m args below meth c B H locs ls hl hK hP hD hS hX
theorem x_iushr {a s : Int} (hd : decode μ.2.2.1 pc = .ok (.iushr, 1)) (j : Nat) (hj : ((( Int32.ofInt s).toUInt32 &&& Int32.toUInt32 31).toBitVec % 32).toNat = j) (k : XM Γ μ cells slots (pc + 1) al (vI (a % 4294967296 / (2 ^ j : Nat)) :: st) P I Q) : XM Γ μ cells slots pc al (vI s :: vI a :: st) P I Q := by
  intro p e s' m args below meth c B H locs ls hl hK hP hD hS hX
  refine lv_iushr B.1 B.2.1 hd (v := Int32.ofInt (a % 4294967296 / (2 ^ j : Nat))) ?_ (k p e s' m args below meth c B H locs ls hl hK hP hD hS hX)
  have h1 := pk_ushr (Int32.ofInt a) (Int32.ofInt s) j hj
  rw [zi_bits] at h1
  have h0 : 0 ≤ a % 4294967296 := Int.emod_nonneg _ (by decide)
  have h2 : a % 4294967296 < 4294967296 := Int.emod_lt_of_pos _ (by decide)
  have h3 : 0 ≤ a % 4294967296 / (2 ^ j : Nat) := Int.ediv_nonneg h0 (by first | exact Int.natCast_nonneg _ | exact Int.ofNat_nonneg _)
  have h4 : a % 4294967296 / (2 ^ j : Nat) ≤ a % 4294967296 := Int.ediv_le_self _ h0
  refine Int32.toBitVec.inj (BitVec.eq_of_toNat_eq ?_)
  rw [h1, zi_bits, Int.emod_eq_of_lt h3 (by omega)]
  obtain ⟨n, hn⟩ := Int.eq_ofNat_of_zero_le h0
  rw [hn]
  norm_cast
def b8 (a : Int) : Int := (a + 128) % 256 - 128
theorem x_i2b {a : Int} (hd : decode μ.2.2.1 pc = .ok (.i2b, 1)) (k : XM Γ μ cells slots (pc + 1) al (vI (b8 a) :: st) P I Q) : XM Γ μ cells slots pc al (vI a :: st) P I Q := by
  intro p e s' m args below meth c B H locs ls hl hK hP hD hS hX
  refine lv_i2b B.1 B.2.1 hd (v := Int32.ofInt (b8 a)) ?_ (k p e s' m args below meth c B H locs ls hl hK hP hD hS hX)
  have hb : inR (b8 a) := by unfold b8; constructor <;> omega
  rw [← Int32.toInt_inj, zi_toInt hb, Int32.toInt8_ofInt, Int8.toInt_toInt32, Int8.toInt_ofInt]
  unfold b8
  show Int.bmod a 256 = _
  rw [Int.bmod_def]
  split <;> omega
theorem x_ishl1 {a : Int} (hd : decode μ.2.2.1 pc = .ok (.ishl, 1)) (k : XM Γ μ cells slots (pc + 1) al (vI a :: st) P I Q) : XM Γ μ cells slots pc al (vI 0 :: vI a :: st) P I Q := by
  intro p e s' m args below meth c B H locs ls hl hK hP hD hS hX
  refine lv_ishl B.1 B.2.1 hd ?_
  have e1 : Int32.ofInt a <<< Int32.ofInt 0 = Int32.ofInt a := by
    refine Int32.toBitVec.inj (BitVec.eq_of_toNat_eq ?_)
    rw [pk_shl _ _ 0 (by decide +kernel)]
    have := (Int32.ofInt a).toBitVec.isLt
    omega
  rw [zi_31 0 (by decide) (by decide), e1]
  exact k p e s' m args below meth c B H locs ls hl hK hP hD hS hX
theorem x_ior {a b : Int} (hd : decode μ.2.2.1 pc = .ok (.ior, 1)) (ha : a = 0 ∨ a = 1) (hb : b = 0 ∨ b = 1) (k : XM Γ μ cells slots (pc + 1) al (vI (max a b) :: st) P I Q) : XM Γ μ cells slots pc al (vI b :: vI a :: st) P I Q := by
  intro p e s' m args below meth c B H locs ls hl hK hP hD hS hX
  refine lv_ior B.1 B.2.1 hd ?_
  have e1 : Int32.ofInt a ||| Int32.ofInt b = Int32.ofInt (max a b) := by
    rcases ha with rfl | rfl <;> rcases hb with rfl | rfl <;> rfl
  rw [e1]
  exact k p e s' m args below meth c B H locs ls hl hK hP hD hS hX
theorem x_ldiv {a b : Int} (hd : decode μ.2.2.1 pc = .ok (.ldiv, 1)) (ha : inR a) (hb : inL b) (h1 : b ≠ 0) (k : XM Γ μ cells slots (pc + 1) al (vL (a.tdiv b) :: st) P I Q) : XM Γ μ cells slots pc al (vL b :: vL a :: st) P I Q := by
  intro p e s' m args below meth c B H locs ls hl hK hP hD hS hX
  have ha2 : inL a := ⟨by have := ha.1; omega, by have := ha.2; omega⟩
  refine lv_ldiv B.1 B.2.1 hd (fun q => h1 ?_) ?_
  · have h := congrArg Int64.toInt q
    rw [zl_toInt hb] at h
    exact h
  have e1 : Int64.ofInt a / Int64.ofInt b = Int64.ofInt (a.tdiv b) := by
    have hn : (a.tdiv b).natAbs ≤ a.natAbs := by rw [Int.natAbs_tdiv]; exact Nat.div_le_self _ _
    have hr : inL (a.tdiv b) := ⟨by have := ha.1; have := ha.2; omega, by have := ha.1; have := ha.2; omega⟩
    rw [← Int64.toInt_inj, Int64.toInt_div, zl_toInt ha2, zl_toInt hb, zl_toInt hr]
    exact Int.bmod_eq_of_le (by have := hr.1; omega) (by have := hr.2; omega)
  rw [e1]
  exact k p e s' m args below meth c B H locs ls hl hK hP hD hS hX
end XR
