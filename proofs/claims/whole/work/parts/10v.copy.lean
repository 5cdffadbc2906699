/-! System.arraycopy of whole beginnings of int arrays -/
def cp2 (I : MM) (a b n : Nat) : MM := fun c j => if c = b then (if j < n then I a j else I b j) else I c j
theorem cp2_ne {I : MM} {a b n c : Nat} (h : c ≠ b) : cp2 I a b n c = I c := by
  funext j; simp [cp2, h]
theorem cw_neC {κ : Nat → ClassId} {ρ : Nat → Nat} {ty : Nat → CT} {P : MP} {I : MM} {a b n : Nat} : ∀ j, j ≠ b → cw κ ρ ty P (cp2 I a b n) j = cw κ ρ ty P I j := by
  intro j hj
  have h : cp2 I a b n j = I j := cp2_ne hj
  have h1 : ∀ c, fvs ρ P (cp2 I a b n) j c = fvs ρ P I j c := fun c => by simp only [fvs, fv, h]
  have h2 : ∀ ek, ar ρ P (cp2 I a b n) j ek = ar ρ P I j ek := fun ek => by
    unfold ar; split <;> simp only [h]
  unfold cw
  split <;> simp only [h1, h2]
section XR
variable {Γ : GG} {μ : MI} {cells slots pc : Nat} {al : List (Nat × AV)} {st : List AV} {P : MP} {I : MM} {Q : QT}
theorem x_acopy {index a b na nb n : Nat} (hd : decode μ.2.2.1 pc = .ok (.invokestatic index, 3)) (hm : Cond.methodLink μ.2.1 index arraycopyName ∈ lwU) (w1 : Cond.native arraycopyName ∈ lwU) (w2 : Cond.static arraycopyName ∈ lwU) (w3 : Cond.initialized "java/lang/System" ∈ lwU) (ha : Ob Γ a (.inr (0, na))) (hb : Ob Γ b (.inr (0, nb))) (h1 : n ≤ na) (h2 : n ≤ nb) (hn : n < 2147483648) (hR : 1 ≤ μ.2.2.2.2.2.frames ∧ avLen st + (nativeFrameWords "java/lang/System" "arraycopy" 5 + 11) ≤ μ.2.2.2.2.2.locals)
    (k : XM Γ μ cells slots (pc + 3) al st P (cp2 I a b n) Q) : XM Γ μ cells slots pc al (vI (n : Int) :: vI 0 :: vR b :: vI 0 :: vR a :: st) P I Q := by
  intro p e s m args below meth c B H locs ls hl hK hP hD hS hX
  obtain ⟨q0, hq0, he0⟩ := ha.arr P I
  obtain ⟨q1, hq1, he1⟩ := hb.arr P I
  have en : (Int32.ofInt (n : Int)).toNatClampNeg = n := by rw [zi_nat (by omega) (by omega)]; omega
  have e0 : (Int32.ofInt 0).toNatClampNeg = 0 := rfl
  refine va_copyi B.1 B.2.1 (B.2.2.1.trans hl.1.symm) B.2.2.2.1 (B.2.2.2.2.1 _ hm) (B.2.2.2.2.1 _ w1) (B.2.2.2.2.1 _ w2) (B.2.2.2.2.1 _ w3) hK hP hD hS q0 q1 0 0 he0 he1 rfl rfl rfl
    (sp := Int32.ofInt 0) (dp := Int32.ofInt 0) (n := Int32.ofInt (n : Int)) (by decide) (by decide) (fun q => by have := (zi_lt0 ⟨by omega, by omega⟩).mp q; omega) (by rw [en, e0]; omega) (by rw [en, e0]; omega) (fun i hi => rfl) hR.1 (by rw [cat_sum]; exact hR.2) hd (fun H1 locs1 hP1 hD1 hS1 => ?_)
  rw [en, e0] at hP1
  have hset : (gw Γ P I).set q1 (gr Γ b, .inl (gk Γ 0, nb, .inl (va_cpy (fun j => Int32.ofInt (I a j)) (fun j => Int32.ofInt (I b j)) 0 0 n))) = gw Γ P (cp2 I a b n) := by
    refine wl_set hD hq1 ?_ cw_neC
    simp only [cw, hb.2, ar]
    congr 3
    congr 1
    funext j
    by_cases hj : j < n
    · rw [pk_cpy_in (Nat.zero_le _) (by omega)]
      simp [cp2, hj]
    · rw [pk_cpy_out (Or.inr (by omega))]
      simp [cp2, hj]
  rw [hset] at hP1
  exact k p e s m args below meth c B H1 locs1 ls hl hK hP1 (gw_D hD) hS1 hX
end XR
