/-! THE ARCS of a plan, and the reference's layArcs -/
/-- the operation at a place of a machine's order -/
def oN (D : Nat → Int) (m k : Nat) : Nat := (D (5 + 9 * m + 3 + k)).toNat
/-- the orders: each operation that is there stands once, on its machine -/
def WO (D : Nat → Int) : Prop :=
  (∀ m k : Nat, (m : Int) < D 0 → (k : Int) < D (5 + 9 * m + 2) → vO D (oN D m k) ∧ mcO D (oN D m k) = m) ∧
  (∀ m k k' : Nat, (m : Int) < D 0 → (k : Int) < D (5 + 9 * m + 2) → (k' : Int) < D (5 + 9 * m + 2) → oN D m k = oN D m k' → k = k') ∧
  (∀ o : Nat, vO D o → (mcO D o : Int) < D 0 ∧ ∃ k : Nat, (k : Int) < D (5 + 9 * mcO D o + 2) ∧ oN D (mcO D o) k = o)
def blB (D : Nat → Int) (o : Nat) : Bool := (D (5 + 9 * mcO D o) == 0) && !(((o % 6 : Nat) : Int) == D (59 + 4 * (o / 6) + 3) - 1)
theorem blB_t {D : Nat → Int} {o : Nat} : blB D o = true ↔ blO D o := by
  simp [blB, blO, lastO]
theorem blB_f {D : Nat → Int} {o : Nat} : blB D o = false ↔ ¬ blO D o := by
  rw [← blB_t]; simp
/-- the machine arc to the operation at place k, at least 1: its source, its length -/
def srcv (D : Nat → Int) (m k : Nat) : Int := bif blB D (oN D m (k - 1)) then (oN D m (k - 1) : Int) + 1 else (oN D m (k - 1) : Int)
def lngv (D : Nat → Int) (m k : Nat) : Int := D (5 + 9 * m + 1) + (bif blB D (oN D m (k - 1)) then 0 else D (83 + 2 * oN D m (k - 1) + 1))
/-- a place with an arc that is among those of the machines before m, or on m before k -/
def donA (D : Nat → Int) (m k m' k' : Nat) : Prop := (m' : Int) < D 0 ∧ 1 ≤ k' ∧ (k' : Int) < D (5 + 9 * m' + 2) ∧ (m' < m ∨ m' = m ∧ k' < k)
def PA (D : Nat → Int) (m k : Nat) (S L : Nat → Int) : Prop :=
  (∀ m' k' : Nat, donA D m k m' k' → S (oN D m' k') = srcv D m' k' ∧ L (oN D m' k') = lngv D m' k') ∧ (∀ o : Nat, o < 36 → (∀ m' k' : Nat, donA D m k m' k' → oN D m' k' ≠ o) → S o = -1)
/-- the arcs are laid -/
def AR (D : Nat → Int) (S L : Nat → Int) : Prop :=
  (∀ m k : Nat, (m : Int) < D 0 → 1 ≤ k → (k : Int) < D (5 + 9 * m + 2) → S (oN D m k) = srcv D m k ∧ L (oN D m k) = lngv D m k) ∧ (∀ o : Nat, o < 36 → (∀ m k : Nat, (m : Int) < D 0 → 1 ≤ k → (k : Int) < D (5 + 9 * m + 2) → oN D m k ≠ o) → S o = -1)
theorem PA.step {D : Nat → Int} {m k : Nat} {S L : Nat → Int} (hO : WO D) (hm : (m : Int) < D 0) (hk1 : 1 ≤ k) (hk : (k : Int) < D (5 + 9 * m + 2)) (h : PA D m k S L) :
    PA D m (k + 1) (fun j => if j = oN D m k then srcv D m k else S j) (fun j => if j = oN D m k then lngv D m k else L j) := by
  refine ⟨fun m' k' hd => ?_, fun o ho hn => ?_⟩
  · obtain ⟨h1, h2, h3, h4⟩ := hd
    by_cases he : oN D m' k' = oN D m k
    · have e1 := (hO.1 m' k' h1 h3).2
      have e2 := (hO.1 m k hm hk).2
      have e3 : m' = m := by rw [← e1, ← e2, he]
      subst e3
      have e4 := hO.2.1 m' k' k hm h3 hk he
      subst e4
      simp
    · have h5 : donA D m k m' k' := ⟨h1, h2, h3, by
        rcases h4 with q | ⟨q1, q2⟩
        · exact Or.inl q
        · refine Or.inr ⟨q1, ?_⟩
          have : k' ≠ k := fun z => he (by rw [q1, z])
          omega⟩
      obtain ⟨a, b⟩ := h.1 m' k' h5
      simp only [he, if_false]
      exact ⟨a, b⟩
  · have h1 : o ≠ oN D m k := fun z => hn m k ⟨hm, hk1, hk, Or.inr ⟨rfl, by omega⟩⟩ z.symm
    simp only [h1, if_false]
    exact h.2 o ho (fun m' k' hd => hn m' k' ⟨hd.1, hd.2.1, hd.2.2.1, by rcases hd.2.2.2 with q | ⟨q1, q2⟩; exact Or.inl q; exact Or.inr ⟨q1, by omega⟩⟩)
theorem PA.next {D : Nat → Int} {m k : Nat} {S L : Nat → Int} (hk : D (5 + 9 * m + 2) ≤ (k : Int)) (h : PA D m k S L) : PA D (m + 1) 1 S L := by
  have key : ∀ m' k', donA D (m + 1) 1 m' k' → donA D m k m' k' := by
    intro m' k' ⟨h1, h2, h3, h4⟩
    refine ⟨h1, h2, h3, ?_⟩
    rcases h4 with q | ⟨q1, q2⟩
    · by_cases e : m' = m
      · subst e; exact Or.inr ⟨rfl, by omega⟩
      · exact Or.inl (by omega)
    · omega
  have key2 : ∀ m' k', donA D m k m' k' → donA D (m + 1) 1 m' k' := by
    intro m' k' ⟨h1, h2, h3, h4⟩
    exact ⟨h1, h2, h3, Or.inl (by omega)⟩
  exact ⟨fun m' k' hd => h.1 m' k' (key m' k' hd), fun o ho hn => h.2 o ho (fun m' k' hd => hn m' k' (key2 m' k' hd))⟩
theorem PA.start {D : Nat → Int} {S L : Nat → Int} (h : ∀ o : Nat, o < 36 → S o = -1) : PA D 0 1 S L :=
  ⟨fun m' k' hd => by obtain ⟨h1, h2, h3, h4⟩ := hd; omega, fun o ho _ => h o ho⟩
theorem PA.done {D : Nat → Int} {m k : Nat} {S L : Nat → Int} (hm : D 0 ≤ (m : Int)) (h : PA D m k S L) : AR D S L :=
  ⟨fun m' k' h1 h2 h3 => h.1 m' k' ⟨h1, h2, h3, Or.inl (by omega)⟩, fun o ho hn => h.2 o ho (fun m' k' hd => hn m' k' hd.1 hd.2.1 hd.2.2.1)⟩
section M1
variable {Γ : GG} {P : MP} {I : MM} {R : Int → MM → Prop} {Rv : MM → Prop}
/-- but for the arcs, nothing changes -/
def arcsOnly (I J : MM) : Prop := ∀ q : Nat, q ≠ 7 → q ≠ 8 → J q = I q
theorem oN_int {D : Nat → Int} (hW : WR D) {m k : Nat} (hm : m < 6) (hk : k < 6) : D (5 + 9 * m + 3 + k) = (oN D m k : Int) ∧ oN D m k < 36 := by
  have := (hW.2.2.2 m hm).2.2.2.2.2.2 k hk
  unfold oN
  omega
theorem layArcs_40 (hM : LM Γ P) (hW : WR (I 3)) (hO : WO (I 3)) {m : Nat} (hm : (m : Int) < I 3 0)
    (hK : ∀ J, arcsOnly I J → PA (I 3) (m + 1) 1 (J 7) (J 8) → XM Γ m_X6_layArcs 0 0 23 [(0, vR 1), (1, vI ((m + 1 : Nat) : Int))] [] P J (rv P Rv)) :
    ∀ (n k : Nat) (J : MM), 1 ≤ k → k + n = 7 → arcsOnly I J → PA (I 3) m k (J 7) (J 8) → XM Γ m_X6_layArcs 0 0 40 [(0, vR 1), (1, vI (m : Int)), (2, vI (5 + 9 * (m : Int))), (3, vI (k : Int))] [] P J (rv P Rv) := by
  have ha := hW.a
  have hm6 : m < 6 := by omega
  have hmm := hW.2.2.2 m hm6
  have e2 : (5 + 9 * (m : Int) + 2).toNat = 5 + 9 * m + 2 := by omega
  have e1 : (5 + 9 * (m : Int) + 1).toNat = 5 + 9 * m + 1 := by omega
  intro n
  induction n with
  | zero =>
    intro k J hk1 hk hJ hPA
    have hJ3 : J 3 = I 3 := hJ 3 (by decide) (by decide)
    refine t_X6_layArcs_40 hM ?_
    rw [e2, hJ3]
    exact ⟨by omega, by omega, ⟨by omega, by omega⟩, ⟨by omega, by omega⟩, fun q => hK J hJ (hPA.next q), fun q => absurd q (by omega)⟩
  | succ n ih =>
    intro k J hk1 hk hJ hPA
    have hJ3 : J 3 = I 3 := hJ 3 (by decide) (by decide)
    refine t_X6_layArcs_40 hM ?_
    rw [e2, hJ3]
    refine ⟨by omega, by omega, ⟨by omega, by omega⟩, ⟨by omega, by omega⟩, fun q => hK J hJ (hPA.next q), fun q => ⟨by omega, by omega, ?_⟩⟩
    have hkl : (k : Int) < I 3 (5 + 9 * m + 2) := by omega
    obtain ⟨hb1, hb2⟩ := oN_int hW hm6 (show k < 6 by omega)
    obtain ⟨hA1, hA2⟩ := oN_int hW hm6 (show k - 1 < 6 by omega)
    rw [show (5 + 9 * (m : Int) + 3 + (k : Int) - 1).toNat = 5 + 9 * m + 3 + (k - 1) by omega, show (5 + 9 * (m : Int) + 3 + (k : Int)).toNat = 5 + 9 * m + 3 + k by omega, hA1, hb1]
    generalize hbe : oN (I 3) m k = b at hb2
    generalize hAe : oN (I 3) m (k - 1) = a at hA2
    rintro _ rfl
    refine ⟨by omega, by omega, ?_⟩
    rintro _ rfl
    have hst := hPA.step hO hm hk1 hkl
    have hsv : srcv (I 3) m k = bif blB (I 3) a then (a : Int) + 1 else (a : Int) := by unfold srcv; rw [hAe]
    have hlv : lngv (I 3) m k = I 3 (5 + 9 * m + 1) + bif blB (I 3) a then 0 else I 3 (83 + 2 * a + 1) := by unfold lngv; rw [hAe]
    rw [hbe] at hst
    -- what the next round begins with
    have fin : ∀ J1 : MM, J1 = up2 (up2 J 7 b (srcv (I 3) m k)) 8 b (lngv (I 3) m k) → XM Γ m_X6_layArcs 0 0 40 [(0, vR 1), (1, vI (m : Int)), (2, vI (5 + 9 * (m : Int))), (3, vI ((k : Int) + 1))] [] P J1 (rv P Rv) := by
      rintro _ rfl
      refine ih (k + 1) _ (by omega) (by omega) (fun q h7 h8 => ?_) ?_
      · rw [up2_ne h8, up2_ne h7]; exact hJ q h7 h8
      · have e7 : (up2 (up2 J 7 b (srcv (I 3) m k)) 8 b (lngv (I 3) m k)) 7 = fun j => if j = b then srcv (I 3) m k else J 7 j := by
          rw [up2_ne (by decide)]; funext j; simp [up2]
        have e8 : (up2 (up2 J 7 b (srcv (I 3) m k)) 8 b (lngv (I 3) m k)) 8 = fun j => if j = b then lngv (I 3) m k else J 8 j := by
          funext j; simp [up2]
        rw [e7, e8]
        exact hst
    have hJW : WR (J 3) := by rw [hJ3]; exact hW
    have h73 : ∀ v : Int, (up2 J 7 b v) 3 = I 3 := fun v => by rw [up2_ne (by decide), hJ3]
    refine c_isBlocking hM hJW hA2 (fun hz => ?_) (fun hz => ?_)
    · rw [hJ3] at hz
      have hB := blB_t.mpr hz
      rw [hB] at hsv hlv
      refine ⟨⟨by omega, by omega⟩, fun z => absurd z (by omega), fun _ => ⟨by omega, by omega, ?_⟩⟩
      rw [Int.toNat_natCast, e1]
      rintro _ rfl
      refine ⟨by omega, by omega, c_isBlocking hM (by rw [h73]; exact hW) hA2 (fun hz2 => ?_) (fun hz2 => absurd (by rw [h73]; exact hz) hz2)⟩
      refine ⟨⟨by omega, by omega⟩, fun z => absurd z (by omega), fun _ => ?_⟩
      rintro _ rfl
      refine fin _ ?_
      rw [h73, hsv, hlv]
      rfl
    · rw [hJ3] at hz
      have hB := blB_f.mpr hz
      rw [hB] at hsv hlv
      refine ⟨⟨by omega, by omega⟩, fun _ => ⟨by omega, by omega, ?_⟩, fun z => absurd rfl z⟩
      rw [Int.toNat_natCast, e1]
      rintro _ rfl
      refine ⟨by omega, by omega, c_isBlocking hM (by rw [h73]; exact hW) hA2 (fun hz2 => absurd (by rw [h73] at hz2; exact hz2) hz) (fun hz2 => ?_)⟩
      refine ⟨⟨by omega, by omega⟩, fun _ => c_durationOf hM hA2 ?_, fun z => absurd rfl z⟩
      rintro _ rfl
      refine fin _ ?_
      rw [h73, hsv, hlv]
      rfl
theorem layArcs_23 (hM : LM Γ P) (hW : WR (I 3)) (hO : WO (I 3)) (h : ∀ J, arcsOnly I J → AR (I 3) (J 7) (J 8) → Rv J) :
    ∀ (n m : Nat) (J : MM), m + n = 7 → arcsOnly I J → PA (I 3) m 1 (J 7) (J 8) → XM Γ m_X6_layArcs 0 0 23 [(0, vR 1), (1, vI (m : Int))] [] P J (rv P Rv) := by
  have ha := hW.a
  intro n
  induction n with
  | zero =>
    intro m J hm hJ hPA
    have hJ3 : J 3 = I 3 := hJ 3 (by decide) (by decide)
    refine t_X6_layArcs_23 hM ?_
    rw [hJ3]
    exact ⟨⟨by omega, by omega⟩, ⟨by omega, by omega⟩, fun q => h J hJ (hPA.done q), fun q => absurd q (by omega)⟩
  | succ n ih =>
    intro m J hm hJ hPA
    have hJ3 : J 3 = I 3 := hJ 3 (by decide) (by decide)
    refine t_X6_layArcs_23 hM ?_
    rw [hJ3]
    refine ⟨⟨by omega, by omega⟩, ⟨by omega, by omega⟩, fun q => h J hJ (hPA.done q), fun q => c_machine ?_⟩
    exact layArcs_40 hM hW hO (by omega) (fun J1 h1 h2 => ih (m + 1) J1 (by omega) h1 h2) 6 1 J (by omega) (by omega) hJ hPA
theorem c_layArcs (hM : LM Γ P) (hW : WR (I 3)) (hO : WO (I 3)) (h : ∀ J, arcsOnly I J → AR (I 3) (J 7) (J 8) → Rv J) : Cl Γ m_X6_layArcs [vR 1] P I (rv P Rv) := by
  have key : ∀ (n k : Nat) (J : MM), k + n = 36 → arcsOnly I J → (∀ o : Nat, o < k → J 7 o = -1) → XM Γ m_X6_layArcs 0 0 2 [(0, vR 1), (1, vI (k : Int))] [] P J (rv P Rv) := by
    intro n
    induction n with
    | zero =>
      intro k J hk hJ hS
      have hk2 : k = 36 := by omega
      subst hk2
      exact t_X6_layArcs_2 hM ⟨⟨by omega, by omega⟩, fun _ => layArcs_23 hM hW hO h 7 0 J (by omega) hJ (PA.start hS), fun q => absurd (by omega) q⟩
    | succ n ih =>
      intro k J hk hJ hS
      refine t_X6_layArcs_2 hM ⟨⟨by omega, by omega⟩, fun q => absurd q (by omega), fun _ => ⟨by omega, by omega, ?_⟩⟩
      rintro _ rfl
      rw [Int.toNat_natCast]
      refine ih (k + 1) _ (by omega) (fun q h7 h8 => ?_) (fun o ho => ?_)
      · rw [up2_ne h7]; exact hJ q h7 h8
      · by_cases e : o = k
        · subst e; exact up2_eq
        · rw [up2_nj e]; exact hS o (by omega)
  exact cl_of n_X6_layArcs (Nat.le_of_ble_eq_true rfl) (t_X6_layArcs_0 hM (key 36 0 I (by omega) (fun _ _ _ => rfl) (fun o ho => absurd ho (Nat.not_lt_zero _))))
end M1
