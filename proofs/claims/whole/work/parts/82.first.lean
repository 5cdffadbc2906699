/-! THE CLASS: the first plan of a shop that was read -/
theorem cntF_cong {p q : Nat → Bool} : ∀ n : Nat, (∀ o, o < n → p o = q o) → cntF p n = cntF q n
  | 0, _ => rfl
  | n + 1, h => by
    unfold cntF
    rw [cntF_cong n (fun o ho => h o (by omega)), h n (by omega)]
theorem uN_rnk {D : Nat → Int} {m : Nat} (h : RDx D 6) : uN D m = rnk D m 36 := by
  unfold uN rnk
  refine cntF_cong 36 (fun o ho => ?_)
  have h1 := h.2.1 (o / 6) (by omega)
  have h2 := h.2.2.1 o ho
  unfold unB vB mcO
  have e : (D (83 + 2 * o) == (m : Int)) = ((D (83 + 2 * o)).toNat == m) := by
    rw [Bool.eq_iff_iff, beq_iff_eq, beq_iff_eq]
    omega
  rw [e]
  by_cases c : ((o % 6 : Nat) : Int) < D (59 + 4 * (o / 6) + 3)
  · have : ((o / 6 : Nat) : Int) < D 2 := by
      by_cases d : ((o / 6 : Nat) : Int) < D 2
      · exact d
      · have := h1.2.2.2.2.2.2.2.2.2 (by omega); omega
    simp only [c, this, decide_true, Bool.true_and]
  · simp only [c, decide_false, Bool.false_and, Bool.and_false]
theorem SHd.shr {I : MM} {σ : Nat} {D : Nat → Int} {cs : List Int} (h : SHd I σ D) (h1 : I σ 1 = D 2) (hD : RDx D 6) (hc : RCx D cs) : SHr I σ (fpD D 36) := by
  have hE := fpD_ok (hD.wr hc) hD.nd 36 (Nat.le_refl _)
  have hd := hD.1
  obtain ⟨a, b, c, d, f⟩ := h
  refine ⟨by rw [hE.lo (by decide)]; exact a, by rw [hE.lo (by decide)]; exact h1, by rw [hE.lo (by decide)]; exact b, fun m hm => ?_, fun j hj => ?_, fun o ho => ?_⟩
  · rw [hE.lo (by decide)] at hm
    have c1 := c m (by omega)
    rw [(hE.2.1 m (by omega)).1, (hE.2.1 m (by omega)).2, hE.2.2.1 m hm, ← uN_rnk hD]
    exact c1
  · rw [hE.lo (by decide)] at hj
    rw [hE.hi (by omega), hE.hi (by omega), hE.hi (by omega), hE.hi (by omega)]
    exact d j (by omega)
  · have hv := hE.v.mp ho
    rw [hE.hi (by omega)]
    exact (f o hv.1 hv.2.2).1
theorem FPn.self {D E : Nat → Int} (h : FPn D 36 E) : FPn E 36 E := by
  refine ⟨fun _ _ => rfl, fun _ _ => ⟨rfl, rfl⟩, fun m hm => ?_, fun _ _ _ => rfl, fun o ho hv => ?_, h.2.2.2.2.2⟩
  · rw [h.rk 36 (Nat.le_refl _)]
    exact h.2.2.1 m (by rw [← h.lo (by decide)]; exact hm)
  · rw [h.mo, h.rk o (by omega)]
    exact h.2.2.2.2.1 o ho (h.v.mp hv)
section M6
variable {Γ : GG} {P : MP} {I : MM} {Rp : MP → MM → Prop}
/-- a plan begins with a shop that was read -/
theorem d_begin {p σ0 κ0 N0 σ κ N : Nat} {D : Nat → Int} {cs : List Int} (hp : LPlan Γ P p σ0 κ0 N0) (hh : LShop Γ P σ κ N) (hσ : 1000 ≤ σ) (hκ : 1000 ≤ κ) (hp9 : p < 900) (hS : SHd I σ D) (hj : I σ 1 = D 2) (hD : RDx D 6) (hc : RCx D cs) (hC : CSr I κ N cs)
    (h : ∀ P1 J, P1 = up2 P p 0 (some σ) → (∀ r, r ≠ p + 1 → r ≠ p + 2 → J r = I r) → PR Γ P1 J p σ κ N (fpD D 36) cs → Rp P1 J) : Cl Γ m_X1_begin [vR p, vR σ] P I (rp Rp) := by
  have hE := fpD_ok (hD.wr hc) hD.nd 36 (Nat.le_refl _)
  have hW := hE.wr (hD.wr hc) hD.nd (Nat.le_refl _)
  have hN := hE.nd hD.nd
  refine cl_of n_X1_begin (Nat.le_of_ble_eq_true rfl) (t_X1_begin_0 hp hh ?_)
  intro P1 e1
  have hne : σ ≠ p := by omega
  have hl : LPlan Γ P1 p σ κ N := by
    refine ⟨LPlan_ob hp, by rw [e1, up2_eq], by rw [e1, up2_nj (by decide)]; exact LPlan_p1 hp, LPlan_a1 hp, by rw [e1, up2_nj (by decide)]; exact LPlan_p2 hp, LPlan_a2 hp, hh.keep (by rw [e1, up2_ne hne])⟩
  refine ⟨by rw [e1, up2_ne hne]; exact LShop_p11 hh, LPlan_p1 hl, fun A hA => ?_⟩
  have fA : ∀ r, r ≠ p + 1 → A r = I r := fun r hr => by
    rw [hA]
    funext k
    unfold cp2
    rw [if_neg hr]
  have sA : SHr A σ (fpD D 36) := (hS.shr hj hD hc).keep (fun r a b => fA r (by omega))
  refine d_setFirstOrders hl sA hσ hp9 hW hN (fun J fJ hJ => h P1 J e1 (fun r a b => by rw [fJ r b, fA r a]) ⟨hl, ⟨hσ, hκ⟩, ⟨hW, hE.wo (hD.wr hc) hD.nd, hN⟩, sA.keep (fun r a b => fJ r (by omega)), ⟨fun o ho => ?_, fun m k hm hk => hJ _ hE.self m k hm hk⟩, hC.1, fun i hi => ?_⟩)
  · have hv := hE.v.mp ho
    rw [hE.hi (by omega), fJ _ (by omega), hA]
    unfold cp2
    rw [if_pos rfl, if_pos hv.1]
    exact (hS.2.2.2.2 o hv.1 hv.2.2).2
  · rw [fJ κ (by omega), fA κ (by omega)]
    exact hC.2 i hi
end M6
