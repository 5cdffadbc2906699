/-! THE REFERENCE'S SMALL METHODS. D: its data row (I 3) -/
/-- the ranges of the data -/
def WR (D : Nat → Int) : Prop :=
  (0 ≤ D 0 ∧ D 0 ≤ 6 ∧ 0 ≤ D 1 ∧ D 1 ≤ 1 ∧ 0 ≤ D 2 ∧ D 2 ≤ 6 ∧ 0 ≤ D 3 ∧ D 3 ≤ 1 ∧ 0 ≤ D 4 ∧ D 4 ≤ 1500) ∧
  (∀ j : Nat, j < 6 → 0 ≤ D (59 + 4 * j) ∧ D (59 + 4 * j) ≤ 999 ∧ 0 ≤ D (59 + 4 * j + 1) ∧ D (59 + 4 * j + 1) ≤ 9999 ∧ 0 ≤ D (59 + 4 * j + 2) ∧ D (59 + 4 * j + 2) ≤ 99 ∧ 0 ≤ D (59 + 4 * j + 3) ∧ D (59 + 4 * j + 3) ≤ 6 ∧ ((j : Int) < D 2 → 1 ≤ D (59 + 4 * j + 3))) ∧
  (∀ o : Nat, o < 36 → 0 ≤ D (83 + 2 * o) ∧ D (83 + 2 * o) ≤ 5 ∧ 0 ≤ D (83 + 2 * o + 1) ∧ D (83 + 2 * o + 1) ≤ 99) ∧
  (∀ m : Nat, m < 6 → 0 ≤ D (5 + 9 * m) ∧ D (5 + 9 * m) ≤ 1 ∧ 0 ≤ D (5 + 9 * m + 1) ∧ D (5 + 9 * m + 1) ≤ 99 ∧ 0 ≤ D (5 + 9 * m + 2) ∧ D (5 + 9 * m + 2) ≤ 6 ∧ ∀ k : Nat, k < 6 → 0 ≤ D (5 + 9 * m + 3 + k) ∧ D (5 + 9 * m + 3 + k) ≤ 35)
theorem WR.a {D : Nat → Int} (h : WR D) : 0 ≤ D 0 ∧ D 0 ≤ 6 ∧ 0 ≤ D 1 ∧ D 1 ≤ 1 ∧ 0 ≤ D 2 ∧ D 2 ≤ 6 ∧ 0 ≤ D 3 ∧ D 3 ≤ 1 ∧ 0 ≤ D 4 ∧ D 4 ≤ 1500 := h.1
/-- an operation that is there -/
def vO (D : Nat → Int) (o : Nat) : Prop := o < 36 ∧ ((o / 6 : Nat) : Int) < D 2 ∧ ((o % 6 : Nat) : Int) < D (59 + 4 * (o / 6) + 3)
def lastO (D : Nat → Int) (o : Nat) : Prop := ((o % 6 : Nat) : Int) = D (59 + 4 * (o / 6) + 3) - 1
/-- the machine of an operation, as a number -/
def mcO (D : Nat → Int) (o : Nat) : Nat := (D (83 + 2 * o)).toNat
/-- the machine is left only when the next operation of the job starts -/
def blO (D : Nat → Int) (o : Nat) : Prop := D (5 + 9 * mcO D o) = 0 ∧ ¬ lastO D o
section M1
variable {Γ : GG} {P : MP} {I : MM} {R : Int → MM → Prop} {Rv : MM → Prop}
theorem c_machine {m : Int} (h : R (5 + 9 * m) I) : Cl Γ m_X6_machine [vI m] P I (ri P R) := cl_of n_X6_machine (Nat.le_of_ble_eq_true rfl) (t_X6_machine_0 h)
theorem c_job {m : Int} (h : R (59 + 4 * m) I) : Cl Γ m_X6_job [vI m] P I (ri P R) := cl_of n_X6_job (Nat.le_of_ble_eq_true rfl) (t_X6_job_0 h)
theorem c_operationAt {m : Int} (h : R (83 + 2 * m) I) : Cl Γ m_X6_operationAt [vI m] P I (ri P R) := cl_of n_X6_operationAt (Nat.le_of_ble_eq_true rfl) (t_X6_operationAt_0 h)
theorem c_in {a b c : Int} (ha : inR a) (hb : inR b) (hc : inR c) (h1 : b ≤ a → a ≤ c → R 1 I) (h0 : (a < b ∨ c < a) → R 0 I) : Cl Γ m_X6_in [vI a, vI b, vI c] P I (ri P R) :=
  cl_of n_X6_in (Nat.le_of_ble_eq_true rfl) (t_X6_in_0 ⟨ha, hb, fun h => h0 (Or.inl h), fun h => ⟨hc, fun h2 => h0 (Or.inr h2), fun h2 => h1 (by omega) (by omega)⟩⟩)
theorem c_min {a b : Int} (ha : inR a) (hb : inR b) (h : R (min a b) I) : Cl Γ m_X6_min [vI a, vI b] P I (ri P R) :=
  cl_of n_X6_min (Nat.le_of_ble_eq_true rfl) (t_X6_min_0 ⟨ha, hb, fun q => by rwa [show min a b = b by omega] at h, fun q => by rwa [show min a b = a by omega] at h⟩)
theorem c_max {a b : Int} (ha : inR a) (hb : inR b) (h : R (max a b) I) : Cl Γ m_X6_max [vI a, vI b] P I (ri P R) :=
  cl_of n_X6_max (Nat.le_of_ble_eq_true rfl) (t_X6_max_0 ⟨ha, hb, fun q => by rwa [show max a b = b by omega] at h, fun q => by rwa [show max a b = a by omega] at h⟩)
theorem c_told {o : Nat} (ho : o < 36) (h : R (10 * (o / 6 : Nat) + (o % 6 : Nat)) I) : Cl Γ m_X6_told [vI (o : Int)] P I (ri P R) := by
  refine cl_of n_X6_told (Nat.le_of_ble_eq_true rfl) (t_X6_told_0 ⟨⟨by omega, by omega⟩, by omega, ?_⟩)
  rwa [show (10 * ((o : Int) / 6) + (o : Int) % 6) = 10 * ((o / 6 : Nat) : Int) + ((o % 6 : Nat) : Int) by omega]
theorem c_machineOf (hM : LM Γ P) {o : Nat} (ho : o < 36) (h : R (I 3 (83 + 2 * o)) I) : Cl Γ m_X6_machineOf [vR 1, vI (o : Int)] P I (ri P R) := by
  refine cl_of n_X6_machineOf (Nat.le_of_ble_eq_true rfl) (t_X6_machineOf_0 hM (c_operationAt ⟨by omega, by omega, ?_⟩))
  rwa [show (83 + 2 * (o : Int)).toNat = 83 + 2 * o by omega]
theorem c_durationOf (hM : LM Γ P) {o : Nat} (ho : o < 36) (h : R (I 3 (83 + 2 * o + 1)) I) : Cl Γ m_X6_durationOf [vR 1, vI (o : Int)] P I (ri P R) := by
  refine cl_of n_X6_durationOf (Nat.le_of_ble_eq_true rfl) (t_X6_durationOf_0 hM (c_operationAt ⟨by omega, by omega, ?_⟩))
  rwa [show (83 + 2 * (o : Int) + 1).toNat = 83 + 2 * o + 1 by omega]
theorem c_isThere (hM : LM Γ P) (hW : WR (I 3)) {o : Nat} (ho : o < 36) (h1 : vO (I 3) o → R 1 I) (h0 : ¬ vO (I 3) o → R 0 I) : Cl Γ m_X6_isThere [vR 1, vI (o : Int)] P I (ri P R) := by
  have ha := hW.a
  have hj := hW.2.1 (o / 6) (by omega)
  refine cl_of n_X6_isThere (Nat.le_of_ble_eq_true rfl) (t_X6_isThere_0 hM ⟨⟨by omega, by omega⟩, by omega, ⟨by omega, by omega⟩, ⟨by omega, by omega⟩, fun q => h0 (fun z => ?_), fun q => c_job ⟨by omega, by omega, ⟨by omega, by omega⟩, ?_⟩⟩)
  · have := z.2.1; omega
  · rw [show (59 + 4 * ((o : Int) / 6) + 3).toNat = 59 + 4 * (o / 6) + 3 by omega]
    exact ⟨⟨by omega, by omega⟩, fun q2 => h0 (fun z => by have := z.2.2; omega), fun q2 => h1 ⟨ho, by omega, by omega⟩⟩
theorem c_isLast (hM : LM Γ P) (hW : WR (I 3)) {o : Nat} (ho : o < 36) (h1 : lastO (I 3) o → R 1 I) (h0 : ¬ lastO (I 3) o → R 0 I) : Cl Γ m_X6_isLast [vR 1, vI (o : Int)] P I (ri P R) := by
  have ha := hW.a
  have hj := hW.2.1 (o / 6) (by omega)
  refine cl_of n_X6_isLast (Nat.le_of_ble_eq_true rfl) (t_X6_isLast_0 hM ⟨⟨by omega, by omega⟩, by omega, c_job ⟨by omega, by omega, ⟨by omega, by omega⟩, ?_⟩⟩)
  rw [show (59 + 4 * ((o : Int) / 6) + 3).toNat = 59 + 4 * (o / 6) + 3 by omega]
  exact ⟨⟨by omega, by omega⟩, fun q => h0 (fun z => q (by unfold lastO at z; omega)), fun q => h1 (by unfold lastO; omega)⟩
theorem mcO_lt {D : Nat → Int} (hW : WR D) {o : Nat} (ho : o < 36) : mcO D o < 6 ∧ D (83 + 2 * o) = (mcO D o : Int) := by
  have hj := hW.2.2.1 o ho
  unfold mcO
  omega
theorem c_isBlocking (hM : LM Γ P) (hW : WR (I 3)) {o : Nat} (ho : o < 36) (h1 : blO (I 3) o → R 1 I) (h0 : ¬ blO (I 3) o → R 0 I) : Cl Γ m_X6_isBlocking [vR 1, vI (o : Int)] P I (ri P R) := by
  obtain ⟨hm1, hm2⟩ := mcO_lt hW ho
  have hm := hW.2.2.2 _ hm1
  refine cl_of n_X6_isBlocking (Nat.le_of_ble_eq_true rfl) (t_X6_isBlocking_0 hM (c_machineOf hM ho (c_machine ?_)))
  rw [hm2, show (5 + 9 * (mcO (I 3) o : Int)).toNat = 5 + 9 * mcO (I 3) o by omega]
  refine ⟨by omega, by omega, ⟨by omega, by omega⟩, fun q => h0 (fun z => q z.1), fun q => c_isLast hM hW ho (fun z => ?_) (fun z => ?_)⟩
  · exact ⟨⟨by omega, by omega⟩, fun _ => h0 (fun y => y.2 z), fun y => absurd y (by omega)⟩
  · exact ⟨⟨by omega, by omega⟩, fun y => absurd rfl y, fun _ => h1 ⟨q, z⟩⟩
theorem c_isGood (hM : LM Γ P) (hr : inR (I 1 5)) (h1 : I 1 5 = 0 → R 1 I) (h0 : I 1 5 ≠ 0 → R 0 I) : Cl Γ m_X6_isGood [vR 1] P I (ri P R) := cl_of n_X6_isGood (Nat.le_of_ble_eq_true rfl) (t_X6_isGood_0 hM ⟨hr, h0, h1⟩)
theorem c_report (hM : LM Γ P) (hr : inR (I 1 5)) {a b : Int} (h0 : I 1 5 = 0 → Rv (up2 (up2 I 1 5 a) 1 6 b)) (h1 : I 1 5 ≠ 0 → Rv I) : Cl Γ m_X6_report [vR 1, vI a, vI b] P I (rv P Rv) :=
  cl_of n_X6_report (Nat.le_of_ble_eq_true rfl) (t_X6_report_0 hM ⟨hr, fun q => by rintro _ rfl _ rfl; exact h0 q, h1⟩)
theorem c_isDigit {a : Int} (ha : inR a) (h1 : 48 ≤ a → a ≤ 57 → R 1 I) (h0 : (a < 48 ∨ 57 < a) → R 0 I) : Cl Γ m_X6_isDigit [vI a] P I (ri P R) :=
  cl_of n_X6_isDigit (Nat.le_of_ble_eq_true rfl) (t_X6_isDigit_0 (c_in ha ⟨by decide, by decide⟩ ⟨by decide, by decide⟩ (fun q1 q2 => ⟨Or.inr rfl, h1 q1 q2⟩) (fun q => ⟨Or.inl rfl, h0 q⟩)))
/-- two neighbours of a machine's order change places -/
def exD (I : MM) (m p : Nat) : MM := up2 (up2 I 3 (5 + 9 * m + 3 + p) (I 3 (5 + 9 * m + 3 + p + 1))) 3 (5 + 9 * m + 3 + p + 1) (I 3 (5 + 9 * m + 3 + p))
theorem c_exchange (hM : LM Γ P) {m p : Nat} (hm : m < 6) (hp : p < 6) (h : Rv (exD I m p)) : Cl Γ m_X6_exchange [vR 1, vI (m : Int), vI (p : Int)] P I (rv P Rv) := by
  refine cl_of n_X6_exchange (Nat.le_of_ble_eq_true rfl) (t_X6_exchange_0 hM (c_machine ?_))
  rintro u rfl
  refine ⟨by omega, by omega, ?_⟩
  rintro v rfl
  refine ⟨by omega, by omega, ?_⟩
  rintro _ rfl _ rfl
  rw [show (5 + 9 * (m : Int) + 3 + (p : Int)).toNat = 5 + 9 * m + 3 + p by omega, show (5 + 9 * (m : Int) + 3 + (p : Int) + 1).toNat = 5 + 9 * m + 3 + p + 1 by omega]
  exact h
theorem c_copy {a b : Nat} (ha : Ob Γ a (.inr (0, 1655))) (hb : Ob Γ b (.inr (0, 1655))) (h : Rv (cp2 I a b 1655)) : Cl Γ m_X6_copy [vR a, vR b] P I (rv P Rv) := by
  have key : ∀ (n k : Nat) (J : MM), k + n = 1655 → J = cp2 I a b k → XM Γ m_X6_copy 0 0 2 [(0, vR a), (1, vR b), (2, vI (k : Int))] [] P J (rv P Rv) := by
    intro n
    induction n with
    | zero =>
      intro k J hk hJ
      have hk2 : k = 1655 := by omega
      subst hk2; subst hJ
      exact t_X6_copy_2 ha hb ⟨⟨by omega, by omega⟩, fun _ => h, fun q => absurd (by omega) q⟩
    | succ n ih =>
      intro k J hk hJ
      refine t_X6_copy_2 ha hb ⟨⟨by omega, by omega⟩, fun q => absurd q (by omega), fun _ => ⟨by omega, by omega, ?_⟩⟩
      rintro _ rfl
      refine ih (k + 1) _ (by omega) ?_
      subst hJ
      rw [Int.toNat_natCast]
      funext c j
      by_cases hc : c = b
      · subst hc
        by_cases hj : j = k
        · subst hj
          simp only [up2, cp2]
          by_cases hab : a = c
          · subst hab; simp
          · simp [hab]
        · simp only [up2, cp2]
          by_cases hjk : j < k
          · simp [hj, hjk, Nat.lt_succ_of_lt hjk]
          · simp [hj, hjk, show ¬ j < k + 1 by omega]
      · simp [up2, cp2, hc]
  exact cl_of n_X6_copy (Nat.le_of_ble_eq_true rfl) (t_X6_copy_0 ha hb (key 1655 0 I (by omega) (by funext c j; by_cases hc : c = b <;> simp [cp2, hc])))
end M1
