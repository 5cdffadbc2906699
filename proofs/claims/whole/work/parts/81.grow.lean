/-! THE CLASS's state over a wider memory -/
section M6
variable {Γ Γ' : GG} {P P' : MP} {I J : MM}
theorem LPlan.kp {p σ κ N : Nat} (h : LPlan Γ P p σ κ N) (k : Kp Γ Γ') (e : P' p = P p) (e2 : P' σ = P σ) : LPlan Γ' P' p σ κ N :=
  ⟨(LPlan_ob h).keep k, by rw [e]; exact LPlan_p0 h, by rw [e]; exact LPlan_p1 h, (LPlan_a1 h).keep k, by rw [e]; exact LPlan_p2 h, (LPlan_a2 h).keep k, (LPlan_s h).kp k e2⟩
theorem LSch.kp {q σ κ N : Nat} (h : LSch Γ P q σ κ N) (k : Kp Γ Γ') (e : ∀ r ∈ gi Γ, P' r = P r) : LSch Γ' P' q σ κ N := by
  obtain ⟨a0, p0, p1, a1, p2, a2, p3, a3, p4, a4, p5, a5, p7, c, l⟩ := h
  have eq := e q a0.1
  exact ⟨a0.keep k, by rw [eq]; exact p0, by rw [eq]; exact p1, a1.keep k, by rw [eq]; exact p2, a2.keep k, by rw [eq]; exact p3, a3.keep k, by rw [eq]; exact p4, a4.keep k, by rw [eq]; exact p5, a5.keep k, by rw [eq]; exact p7, c.kp k (e _ c.1.1), l.kp k (e _ l.1.1) (e _ (LPlan_s l).1.1)⟩
theorem LRead.kp (h : LRead Γ P) (k : Kp Γ Γ') (e : P' 31 = P 31) : LRead Γ' P' := ⟨h.1.keep k, by rw [e]; exact h.2.1, h.2.2.1.keep k, by rw [e]; exact h.2.2.2.1, h.2.2.2.2.keep k⟩
theorem CL.kp {σ κ N σ2 κ2 N2 : Nat} (h : CL Γ P σ κ N σ2 κ2 N2) (k : Kp Γ Γ') (e : ∀ r ∈ gi Γ, P' r = P r) : CL Γ' P' σ κ N σ2 κ2 N2 := by
  obtain ⟨⟨a0, p0, r, p3, s, p4, p5, t, p6, p7, a7, hh⟩, s2, hp⟩ := h
  have e0 := e 30 a0.1
  have e4 := e 34 a7.1
  refine ⟨⟨a0.keep k, by rw [e0]; exact p0, r.kp k (e 31 r.1.1), by rw [e0]; exact p3, s.kp k e, by rw [e0]; exact p4, by rw [e0]; exact p5, t.kp k e, by rw [e0]; exact p6, by rw [e0]; exact p7, a7.keep k, fun i hi => ?_⟩, s2, fun i hi => ?_⟩
  · obtain ⟨x, a, b, c, l⟩ := hh i hi
    exact ⟨by rw [e4]; exact x, a, b, c, l.kp k (e _ l.1.1) (e _ (LPlan_s l).1.1)⟩
  · obtain ⟨a, b, c, l, q⟩ := hp i hi
    exact ⟨a, b, c, l.kp k (e _ l.1.1) (e _ (LPlan_s l).1.1), q⟩
theorem LShop.mem {σ κ n : Nat} (h : LShop Γ P σ κ n) {r : Nat} (h1 : σ ≤ r) (h2 : r < σ + 10) : r ∈ gi Γ := by
  have : r = σ ∨ r = σ + 1 ∨ r = σ + 2 ∨ r = σ + 3 ∨ r = σ + 4 ∨ r = σ + 5 ∨ r = σ + 6 ∨ r = σ + 7 ∨ r = σ + 8 ∨ r = σ + 9 := by omega
  rcases this with rfl | rfl | rfl | rfl | rfl | rfl | rfl | rfl | rfl | rfl
  · exact (LShop_ob h).1
  · exact (LShop_a3 h).1
  · exact (LShop_a4 h).1
  · exact (LShop_a5 h).1
  · exact (LShop_a6 h).1
  · exact (LShop_a7 h).1
  · exact (LShop_a8 h).1
  · exact (LShop_a9 h).1
  · exact (LShop_a10 h).1
  · exact (LShop_a11 h).1
theorem PR.kp {p σ κ N : Nat} {D : Nat → Int} {cs : List Int} (h : PR Γ P I p σ κ N D cs) (k : Kp Γ Γ') (e : ∀ r ∈ gi Γ, P' r = P r) (eI : ∀ r ∈ gi Γ, r ≠ 30 → r ≠ 31 → r ≠ 33 → J r = I r) (hp : 40 < p) : PR Γ' P' J p σ κ N D cs := by
  have hσ := h.hσ
  have hκ := h.hκ
  refine ⟨h.l.kp k (e _ h.l.1.1) (e _ (LPlan_s h.l).1.1), h.2.1, h.dn, h.sh.keep (fun r a b => eI r ((LPlan_s h.l).mem a b) (by omega) (by omega) (by omega)), h.pl.keep (eI _ (LPlan_a1 h.l).1 (by omega) (by omega) (by omega)) (eI _ (LPlan_a2 h.l).1 (by omega) (by omega) (by omega)), h.cs'.1, fun i hi => ?_⟩
  rw [eI κ (LShop_a12 (LPlan_s h.l)).1 (by omega) (by omega) (by omega)]
  exact h.cs'.2 i hi
theorem CC.kp {σ κ N σ2 κ2 N2 oc n : Nat} {D : Nat → Int} {cs : List Int} {H : Nat → (Nat → Int) × List Int} (h : CC Γ P I σ κ N σ2 κ2 N2 oc D cs n H) (k : Kp Γ Γ') (e : ∀ r ∈ gi Γ, P' r = P r) (eI : ∀ r ∈ gi Γ, r ≠ 30 → r ≠ 31 → r ≠ 33 → J r = I r) (e8 : J 30 8 = I 30 8) (e9 : J 30 9 = I 30 9) : CC Γ' P' J σ κ N σ2 κ2 N2 oc D cs n H := by
  have hb := LBS_s h.b
  obtain ⟨h1, h2, h3, h4, h5⟩ := h
  obtain ⟨s1, s2, s3⟩ := h3
  have r1 : J 41 = I 41 := eI 41 (LSch_a1 hb).1 (by decide) (by decide) (by decide)
  have r2 : J 42 = I 42 := eI 42 (LSch_a2 hb).1 (by decide) (by decide) (by decide)
  have r3 : J 43 = I 43 := eI 43 (LSch_a3 hb).1 (by decide) (by decide) (by decide)
  refine ⟨h1.kp k e, h2.kp k e eI (by decide), ⟨by rw [show J (40 + 1) = I (40 + 1) from r1]; exact s1, by rw [show J (40 + 1) = I (40 + 1) from r1]; exact s2, ?_⟩, h4, h5.1, h5.2.1, by rw [e8]; exact h5.2.2.1, by rw [e9]; exact h5.2.2.2.1, fun j hj => ?_⟩
  · intro o ho
    have s := s3 o ho
    unfold arcO at s ⊢
    rw [show J (40 + 2) = I (40 + 2) from r2, show J (40 + 3) = I (40 + 3) from r3]
    exact s
  · obtain ⟨a, b, c, d⟩ := h5.2.2.2.2 j hj
    exact ⟨a, b, c, d.kp k e eI (by omega)⟩
end M6
