/-! THE LAW'S INVARIANT: the plan, the cost codes, the number of changes, the history, the buffered count, the error's offset, the bytes -/
abbrev ST : Type := (Nat → Int) × List Int × Nat × (Nat → (Nat → Int) × List Int) × Nat × Int × (Nat → Int)
/-- the reference's half -/
def IRs (Γ : GG) (P : MP) (I : MM) (S : ST) : Prop :=
  LM Γ P ∧ RF I S.1 S.2.1 S.2.2.1 S.2.2.2.1 ∧ I 1 2 = (S.2.2.2.2.1 : Int) ∧ S.2.2.2.2.1 ≤ 900 ∧ (∀ k : Nat, k < 900 → 0 ≤ S.2.2.2.2.2.2 k ∧ S.2.2.2.2.2.2 k ≤ 255) ∧ I 2 = S.2.2.2.2.2.2 ∧ I 1 7 = S.2.2.2.2.2.1
/-- the class's half -/
def ICs (Γ : GG) (P : MP) (I : MM) (S : ST) : Prop :=
  CB Γ P I S.1 S.2.1 S.2.2.1 S.2.2.2.1 ∧ I 30 1 = (S.2.2.2.2.1 : Int) ∧ (∀ k : Nat, k < 900 → I 32 k = b8 (S.2.2.2.2.2.2 k)) ∧ I 30 2 = S.2.2.2.2.2.1 ∧ Ob Γ 21 (.inr (3, 1)) ∧ Ra Γ P
def INV (Γ : GG) (P : MP) (I : MM) : Prop := ∃ S : ST, IRs Γ P I S ∧ ICs Γ P I S
section IV
variable {Γ Γ' : GG} {P P' : MP} {I J : MM} {S : ST}
theorem LM.kp2 (h : LM Γ P) (k : Kp Γ Γ') (e : ∀ r : Nat, r < 30 → P' r = P r) : LM Γ' P' := by
  have e1 := e 1 (by decide)
  have e6 := e 6 (by decide)
  exact ⟨(LM_ob h).keep k, by rw [e1]; exact LM_p1 h, (LM_a1 h).keep k, by rw [e1]; exact LM_p8 h, (LM_a8 h).keep k, by rw [e1]; exact LM_p9 h, (LM_a9 h).keep k, by rw [e1]; exact LM_p10 h, (LM_a10 h).keep k, by rw [e1]; exact LM_p16 h, (LM_a16 h).keep k, by rw [e1]; exact LM_p17 h, (LM_a17 h).keep k, by rw [e1]; exact LM_p18 h, (LM_a18 h).keep k, by rw [e1]; exact LM_p19 h, (LM_a19 h).keep k, by rw [e1]; exact LM_p20 h, (LM_a20 h).keep k, by rw [e1]; exact LM_p23 h, (LM_a23 h).keep k, by rw [e1]; exact LM_p11 h, (LM_a11 h).keep k, fun i hi => ⟨by rw [e6]; exact (LM_hh h i hi).1, (LM_hh h i hi).2.keep k⟩⟩
theorem RF.kp {D : Nat → Int} {cs : List Int} {n : Nat} {H : Nat → (Nat → Int) × List Int} (r : RF I D cs n H) (e : ∀ r : Nat, r < 21 → J r = I r) : RF J D cs n H :=
  ⟨(e 3 (by decide)).trans r.d, r.g, r.n8, by rw [e 1 (by decide)]; exact r.c, fun k hk => ⟨by have := r.n8; rw [e (13 + k) (by omega)]; exact (r.h k hk).1, (r.h k hk).2⟩, fun q hq => by rw [e q (by omega)]; exact r.z q hq⟩
theorem IRs.kp (h : IRs Γ P I S) (k : Kp Γ Γ') (eP : ∀ r : Nat, r < 30 → P' r = P r) (eI : ∀ r : Nat, r < 21 → J r = I r) : IRs Γ' P' J S :=
  ⟨h.1.kp2 k eP, h.2.1.kp eI, by rw [eI 1 (by decide)]; exact h.2.2.1, h.2.2.2.1, h.2.2.2.2.1, by rw [eI 2 (by decide)]; exact h.2.2.2.2.2.1, by rw [eI 1 (by decide)]; exact h.2.2.2.2.2.2⟩
theorem CC.r {σ κ N σ2 κ2 N2 oc n : Nat} {D : Nat → Int} {cs : List Int} {H : Nat → (Nat → Int) × List Int} (h : CC Γ P I σ κ N σ2 κ2 N2 oc D cs n H) (e : ∀ r : Nat, 34 ≤ r → J r = I r) (e8 : J 30 8 = I 30 8) (e9 : J 30 9 = I 30 9) : CC Γ P J σ κ N σ2 κ2 N2 oc D cs n H := by
  refine ⟨h.1, h.2.1.keep (fun r hr => e r (by omega)), ?_, h.gn, ?_⟩
  · have s := h.sc
    unfold SCr arcA arcO
    rw [e 41 (by decide), e 42 (by decide), e 43 (by decide)]
    exact s
  · obtain ⟨c1, c2, c3, c4, c5⟩ := h.ch
    refine ⟨c1, c2, by rw [e8]; exact c3, by rw [e9]; exact c4, fun k2 hk => ?_⟩
    obtain ⟨σ3, κ3, N3, h3⟩ := c5 k2 hk
    exact ⟨σ3, κ3, N3, h3.keep (fun r hr => e r (by omega))⟩
theorem CB.r {n : Nat} {D : Nat → Int} {cs : List Int} {H : Nat → (Nat → Int) × List Int} (h : CB Γ P I D cs n H) (e : ∀ r : Nat, 34 ≤ r → J r = I r) (e8 : J 30 8 = I 30 8) (e9 : J 30 9 = I 30 9) : CB Γ P J D cs n H := by
  obtain ⟨σ, κ, N, σ2, κ2, N2, oc, h⟩ := h
  exact ⟨σ, κ, N, σ2, κ2, N2, oc, h.r e e8 e9⟩
/-- the reference has worked: its rows alone -/
theorem ICs.kp (h : ICs Γ P I S) (e : ∀ r : Nat, 21 ≤ r → J r = I r) : ICs Γ P J S := by
  obtain ⟨a, b, c, d, f, g⟩ := h
  exact ⟨a.r (fun r hr => e r (by omega)) (by rw [e 30 (by decide)]) (by rw [e 30 (by decide)]), by rw [e 30 (by decide)]; exact b, fun k hk => by rw [e 32 (by decide)]; exact c k hk, by rw [e 30 (by decide)]; exact d, f, g⟩
/-- out is written -/
theorem ICs.out (h : ICs Γ P I S) (z : Int) : ICs Γ P (up2 I 21 0 z) S := by
  obtain ⟨a, b, c, d, f, g⟩ := h
  have e : ∀ r : Nat, r ≠ 21 → up2 I 21 0 z r = I r := fun r hr => up2_ne hr
  exact ⟨a.r (fun r hr => e r (by omega)) (by rw [e 30 (by decide)]) (by rw [e 30 (by decide)]), by rw [e 30 (by decide)]; exact b, fun k hk => by rw [e 32 (by decide)]; exact c k hk, by rw [e 30 (by decide)]; exact d, f, g⟩
theorem INV.of (h : IRs Γ P I S) (k : ICs Γ P I S) : INV Γ P I := ⟨S, h, k⟩
theorem Ra.kp {P' : MP} (h : Ra Γ P) (e : ∀ r : Nat, r < 48 → P' r = P r) : Ra Γ P' := fun j hj ek n ht h4 => by
  obtain ⟨a, b⟩ := h j hj ek n ht h4
  exact ⟨a, fun k hk => by rw [e j a]; exact b k hk⟩
end IV
/-! what the class's call leaves; what the reference's leaves -/
def QCf (Γ : GG) (P : MP) (I : MM) (S : ST) (kk val : Int) : KG := fun Γ' v P' J => v = some (vI kk) ∧ Kp Γ Γ' ∧ (∀ r : Nat, r < 30 → P' r = P r) ∧ (∀ r : Nat, r < 21 → J r = I r) ∧ (kk = 0 → J 21 0 = w32 val) ∧ ICs Γ' P' J S
/-- .. without a wrapper -/
def QDf (Γ : GG) (P : MP) (I : MM) (S : ST) (val : Int) : Int → MP → MM → Prop := fun z P' J => z = val ∧ (∀ r : Nat, r < 30 → P' r = P r) ∧ (∀ r : Nat, r < 21 → J r = I r) ∧ ICs Γ P' J S
def QRf (Γ : GG) (P : MP) (J : MM) (S : ST) (kk val : Int) : Int → MM → Prop := fun z K => (∀ r : Nat, 21 ≤ r → K r = J r) ∧ K 1 0 = kk ∧ (kk = 0 → z = val) ∧ IRs Γ P K S
