/-! THE CLASS'S trials and changes -/
section M2
variable {Γ : GG} {P : MP} {I : MM} {R : Int → MM → Prop} {Rv : MM → Prop} {Rp : MP → MM → Prop} {Rq : Int → MP → MM → Prop} {cs : List Int} {D : Nat → Int} {σ κ N σ2 κ2 N2 oc n : Nat} {H : Nat → (Nat → Int) × List Int}
/-- the trial plan becomes a copy -/
theorem CL.trial (h : CL Γ P σ κ N σ2 κ2 N2) (hp : PR Γ P I 48 σ κ N D cs) {P1 : MP} (e : P1 = up2 P 68 0 (some σ)) (h68 : LPlan Γ P1 68 σ κ N) : CL Γ P1 σ κ N σ κ N := by
  have hs := hp.hσ
  have ne : ∀ r, r ≠ 68 → P1 r = P r := fun r hr => by rw [e]; exact up2_ne hr
  refine ⟨h.1.upd (fun r _ _ b => ne r b) (hp.l.keep (ne 48 (by decide)) (ne σ (by omega))) h68 (fun i hi => ?_), hs, fun i hi => ?_⟩
  · obtain ⟨a, b, c, d, f⟩ := h.2.2 i hi
    exact ⟨a, b, c, d.keep (ne _ (by omega)) (ne a (by omega))⟩
  · obtain ⟨a, b, c, d, f⟩ := h.2.2 i hi
    exact ⟨a, b, c, d.keep (ne _ (by omega)) (ne a (by omega)), f⟩
theorem CH.keep {P1 : MP} {J : MM} (h : CH Γ P I n oc H) (eP : ∀ r, (1000 ≤ r ∨ (80 ≤ r ∧ r < 104)) → P1 r = P r) (eJ : ∀ r, (1000 ≤ r ∨ (80 ≤ r ∧ r < 104)) → J r = I r) (e30 : J 30 8 = I 30 8 ∧ J 30 9 = I 30 9) : CH Γ P1 J n oc H := by
  obtain ⟨c1, c2, c3, c4, c5⟩ := h
  refine ⟨c1, c2, e30.1.trans c3, e30.2.trans c4, fun k hk => ?_⟩
  obtain ⟨a, b, c, d⟩ := c5 k hk
  have h8 : (oc + k) % 8 < 8 := Nat.mod_lt _ (by decide)
  exact ⟨a, b, c, (d.keep (fun r hr => eJ r (by omega))).keepP (fun r hr => eP r (by omega))⟩
/-- what no change touches -/
def kP (P P1 : MP) : Prop := ∀ r : Nat, r < 48 → P1 r = P r
theorem kP.refl (P : MP) : kP P P := fun _ _ => rfl
theorem kP.trans {A B C : MP} (h : kP A B) (k : kP B C) : kP A C := fun r a => (k r a).trans (h r a)
/-- the trial holds the plan with a swap; tells whether it is free -/
theorem b_trySwap (h : CC Γ P I σ κ N σ2 κ2 N2 oc D cs n H) {m p : Nat} (hm : (m : Int) < D 0) (hp : (p : Int) + 1 < D (5 + 9 * m + 2))
    (h1 : ∀ P1 J, kP P P1 → kpC I J → CC Γ P1 J σ κ N σ κ N oc D cs n H → Fr (exF D m p) → CR Γ P1 J 60 σ κ N (exF D m p) cs → SCr J 60 (exF D m p) → Rq 1 P1 J)
    (h0 : ∀ P1 J, kP P P1 → kpC I J → CC Γ P1 J σ κ N σ κ N oc D cs n H → ¬ Fr (exF D m p) → Rq 0 P1 J) : Cl Γ m_X5_trySwap [vR 30, vI (m : Int), vI (p : Int)] P I (rpi Rq) := by
  refine cl_of n_X5_trySwap (Nat.le_of_ble_eq_true rfl) (t_X5_trySwap_0 h.b (d_copyFrom (LSch_p (LBS_t h.b)) h.p (by decide) (by decide) (by decide) (fun P1 J e1 fJ hJ => ?_)))
  have hL := h.1.trial h.p e1 hJ.l
  refine ⟨LBS_p6 hL.1, d_exchange hJ (by decide) hm hp (fun K fK hK => ⟨LBS_p5 hL.1, ?_⟩)⟩
  have hC : CR Γ P1 K 60 σ κ N (exF D m p) cs := hK.cr (LBS_t hL.1) (by decide)
  have ne : ∀ r, r ≠ 68 → P1 r = P r := fun r hr => by rw [e1]; exact up2_ne hr
  have fin : ∀ L, cpO 60 K L → kpC I L ∧ CC Γ P1 L σ κ N σ κ N oc D cs n H := by
    intro L fL
    have kp : kpC I L := kpC.of (fun r a b c => by rw [fL r (by omega) (by omega) (by omega) (by omega), fK r (by omega), fJ r (by omega) (by omega)])
    have hs := h.p.hσ
    refine ⟨kp, hL, (h.p.keep (fun r hr => kp.1 r (by omega) (by omega) (by omega) (by omega))).keepP (fun r hr => ne r (by omega)), ?_, h.gn, h.ch.keep (fun r hr => ne r (by omega)) (fun r hr => kp.1 r (by omega) (by omega) (by omega) (by omega)) ⟨by rw [kp.1 30 (by decide) (by decide) (by decide) (by decide)], by rw [kp.1 30 (by decide) (by decide) (by decide) (by decide)]⟩⟩
    exact (h.q kp).sc
  refine d_compute hC (fun L fL hf hS => ⟨Or.inr rfl, ?_⟩) (fun L fL hf => ⟨Or.inl rfl, ?_⟩)
  · obtain ⟨a, b⟩ := fin L fL
    exact h1 P1 L (fun r hr => ne r (by omega)) a b hf (fL.cr hC) hS
  · obtain ⟨a, b⟩ := fin L fL
    exact h0 P1 L (fun r hr => ne r (by omega)) a b hf
/-- the plan changed, computed anew -/
theorem b_settle {P1 : MP} {J : MM} {E : Nat → Int} {ce : List Int} {σ' κ' N' : Nat} (hL : CL Γ P1 σ' κ' N' σ2 κ2 N2) (hp : PR Γ P1 J 48 σ' κ' N' E ce) (hg : GN E ce) (hh : CH Γ P1 J n oc H)
    (h : ∀ z K, cpO 40 J K → CC Γ P1 K σ' κ' N' σ2 κ2 N2 oc E ce n H → R z K) : Cl Γ m_X2_compute [vR 40] P1 J (ri P1 R) := by
  refine d_compute (hp.cr (LBS_s hL.1) (by decide)) (fun K fK hf hS => h 1 K fK ⟨hL, hp.keep (fun r hr => fK r (by omega) (by omega) (by omega) (by omega)), hS, hg, hh.keep (fun r _ => rfl) (fun r hr => fK r (by omega) (by omega) (by omega) (by omega)) ⟨by rw [fK 30 (by decide) (by decide) (by decide) (by decide)], by rw [fK 30 (by decide) (by decide) (by decide) (by decide)]⟩⟩) (fun K fK hf => absurd hg.1.2.2.2 hf)
/-- what changes may change -/
def kcM (I J : MM) : Prop := (∀ r : Nat, (r < 30 ∨ (30 < r ∧ r < 40) ∨ 1000 ≤ r) → J r = I r) ∧ ∀ i : Nat, i ≠ 8 → i ≠ 9 → J 30 i = I 30 i
theorem kcM.refl (I : MM) : kcM I I := ⟨fun _ _ => rfl, fun _ _ _ => rfl⟩
theorem kcM.trans {A B C : MM} (h : kcM A B) (k : kcM B C) : kcM A C := ⟨fun r a => (k.1 r a).trans (h.1 r a), fun i a b => (k.2 i a b).trans (h.2 i a b)⟩
theorem kcM.of {I J : MM} (h : ∀ r : Nat, (r < 40 ∨ 1000 ≤ r) → J r = I r) : kcM I J := ⟨fun r a => h r (by omega), fun i _ _ => by rw [h 30 (by decide)]⟩
theorem kpC.m {I J : MM} (h : kpC I J) : kcM I J := kcM.of (fun r a => h.1 r (by omega) (by omega) (by omega) (by omega))
theorem b_adoptTrial (h : CC Γ P I σ κ N σ κ N oc D cs n H) {E : Nat → Int} (hE : CR Γ P I 60 σ κ N E cs) (hg : GN E cs) (hR : ∀ P1 J, kP P P1 → kcM I J → CC Γ P1 J σ κ N σ κ N oc E cs n H → Rp P1 J) : Cl Γ m_X5_adoptTrial [vR 30] P I (rp Rp) := by
  have hs := h.p.hσ
  have hP : PR Γ P I 68 σ κ N E cs := ⟨LSch_p (LBS_t h.b), h.p.2.1, hE.dn, hE.sh, hE.pl, hE.cs'⟩
  refine cl_of n_X5_adoptTrial (Nat.le_of_ble_eq_true rfl) (t_X5_adoptTrial_0 h.b (d_copyFrom h.p.l hP (by decide) (by decide) (by decide) (fun P1 J e1 fJ hJ => ?_)))
  have ne : ∀ r, r ≠ 48 → P1 r = P r := fun r hr => by rw [e1]; exact up2_ne hr
  have hL : CL Γ P1 σ κ N σ κ N := by
    refine ⟨h.b.upd (fun r _ b _ => ne r b) hJ.l (hP.l.keep (ne 68 (by decide)) (ne σ (by omega))) (fun i hi => ?_), hs, fun i hi => ?_⟩
    · obtain ⟨a, b, c, d, f⟩ := h.1.2.2 i hi
      exact ⟨a, b, c, d.keep (ne _ (by omega)) (ne a (by omega))⟩
    · obtain ⟨a, b, c, d, f⟩ := h.1.2.2 i hi
      exact ⟨a, b, c, d.keep (ne _ (by omega)) (ne a (by omega)), f⟩
  refine ⟨LBS_p3 hL.1, b_settle (R := fun _ K => Rp P1 K) hL hJ hg (h.ch.keep (fun r hr => ne r (by omega)) (fun r hr => fJ r (by omega) (by omega)) ⟨by rw [fJ 30 (by decide) (by decide)], by rw [fJ 30 (by decide) (by decide)]⟩) (fun z K fK hC => ?_)⟩
  exact hR P1 K (fun r hr => ne r (by omega)) (kcM.of (fun r hr => by rw [fK r (by omega) (by omega) (by omega) (by omega), fJ r (by omega) (by omega)])) hC
/-- the history with the plan more -/
theorem b_remember (h : CC Γ P I σ κ N σ2 κ2 N2 oc D cs n H) (hR : ∀ P1 J oc1, (∀ r, (r < 30 ∨ (30 < r ∧ r < 80) ∨ 104 ≤ r) → J r = I r) → (∀ i, i ≠ 8 → i ≠ 9 → J 30 i = I 30 i) → (∀ r, (r < 80 ∨ 104 ≤ r) → P1 r = P r) → CC Γ P1 J σ κ N σ2 κ2 N2 oc1 D cs (rmN n) (rmH (D, cs) n H) → Rp P1 J) : Cl Γ m_X5_remember [vR 30] P I (rp Rp) := by
  obtain ⟨c1, c2, c3, c4, c5⟩ := h.ch
  have hs := h.p.hσ
  have h8 : (oc + n) % 8 < 8 := Nat.mod_lt _ (by decide)
  refine cl_of n_X5_remember (Nat.le_of_ble_eq_true rfl) (t_X5_remember_0 h.b ?_)
  rw [c3, c4]
  refine ⟨⟨by omega, by omega⟩, by omega, by omega, by omega, ?_⟩
  rw [show (((oc : Int) + (n : Int)) % 8).toNat = (oc + n) % 8 by omega]
  obtain ⟨σ3, κ3, N3, hl3, h13⟩ := h.1.2.2 ((oc + n) % 8) h8
  generalize hg : (oc + n) % 8 = g at h8 hl3
  refine d_copyFrom hl3 h.p (by omega) (by decide) (by omega) (fun P1 J e1 fJ hJ => ?_)
  have ne : ∀ r, r ≠ 80 + 3 * g → P1 r = P r := fun r hr => by rw [e1]; exact up2_ne hr
  have hh : ∀ i : Nat, i < 8 → ∃ σ3 κ3 N3 : Nat, LPlan Γ P1 (80 + 3 * i) σ3 κ3 N3 ∧ 1000 ≤ σ3 := fun i hi => by
    by_cases e : i = g
    · rw [e]; exact ⟨σ, κ, N, hJ.l, hs⟩
    · obtain ⟨a, b, c, d, f⟩ := h.1.2.2 i hi
      exact ⟨a, b, c, d.keep (ne _ (by omega)) (ne a (by omega)), f⟩
  have s2 := h.1.2.1
  have hL : CL Γ P1 σ κ N σ2 κ2 N2 := ⟨h.b.upd (fun r a _ _ => ne r (by omega)) (h.p.l.keep (ne 48 (by omega)) (ne σ (by omega))) ((LSch_p (LBS_t h.b)).keep (ne 68 (by omega)) (ne σ2 (by omega))) (fun i hi => by obtain ⟨a, b, c, d, _⟩ := hh i hi; exact ⟨a, b, c, d⟩), s2, hh⟩
  have rows : ∀ B : MM, (∀ r, r ≠ 30 → B r = J r) → ∀ r, (r < 30 ∨ (30 < r ∧ r < 80) ∨ 104 ≤ r) → B r = I r := fun B hB r hr => by rw [hB r (by omega), fJ r (by omega) (by omega)]
  have main : ∀ B : MM, (∀ r, r ≠ 30 → B r = J r) → ∀ oc1 : Nat, CH Γ P1 B (rmN n) oc1 (rmH (D, cs) n H) → CC Γ P1 B σ κ N σ2 κ2 N2 oc1 D cs (rmN n) (rmH (D, cs) n H) := fun B hB oc1 hc => by
    have rw1 := rows B hB
    refine ⟨hL, (h.p.keep (fun r hr => rw1 r (by omega))).keepP (fun r hr => ne r (by omega)), ?_, h.gn, hc⟩
    have s := h.sc
    unfold SCr arcA arcO
    rw [rw1 41 (by decide), rw1 42 (by decide), rw1 43 (by decide)]
    exact s
  have ent : ∀ B : MM, (∀ r, r ≠ 30 → B r = J r) → ∀ k, k < n → (oc + k) % 8 ≠ g → ∃ σ3 κ3 N3 : Nat, PR Γ P1 B (80 + 3 * ((oc + k) % 8)) σ3 κ3 N3 (H k).1 (H k).2 := fun B hB k hk hne => by
    obtain ⟨a, b, c, d⟩ := c5 k hk
    have hk8 : (oc + k) % 8 < 8 := Nat.mod_lt _ (by decide)
    exact ⟨a, b, c, (d.keep (fun r hr => by rw [hB r (by omega), fJ r (by omega) (by omega)])).keepP (fun r hr => ne r (by omega))⟩
  have own : ∀ B : MM, (∀ r, r ≠ 30 → B r = J r) → PR Γ P1 B (80 + 3 * g) σ κ N D cs := fun B hB => hJ.keep (fun r hr => hB r (by omega))
  have e30 : J 30 = I 30 := fJ 30 (by omega) (by omega)
  rw [e30, c4, c3]
  refine ⟨⟨by omega, by omega⟩, fun z => ⟨⟨by omega, by omega⟩, by omega, ?_⟩, fun z => ?_⟩
  · have en : n = 8 := by omega
    intro B hB
    have hB2 : ∀ r, r ≠ 30 → B r = J r := fun r hr => by rw [hB, up2_ne hr]
    refine hR P1 B ((oc + 1) % 8) (rows B hB2) (fun i a _ => by rw [hB, up2_nj a, e30]) (fun r hr => ne r (by omega)) (main B hB2 _ ⟨by unfold rmN; rw [if_pos en]; exact Nat.le_refl _, Nat.mod_lt _ (by decide), by rw [hB, up2_eq]; omega, by rw [hB, up2_nj (by decide), e30, c4]; unfold rmN; rw [if_pos en]; omega, fun k hk => ?_⟩)
    unfold rmN at hk
    rw [if_pos en] at hk
    unfold rmH
    rw [if_pos en]
    by_cases e : k = 7
    · rw [if_pos e, show ((oc + 1) % 8 + k) % 8 = g by omega]
      exact ⟨σ, κ, N, own B hB2⟩
    · rw [if_neg e]
      have := ent B hB2 (k + 1) (by omega) (by omega)
      rwa [show (oc + (k + 1)) % 8 = ((oc + 1) % 8 + k) % 8 by omega] at this
  · have en : n ≠ 8 := by omega
    intro B hB
    have hB2 : ∀ r, r ≠ 30 → B r = J r := fun r hr => by rw [hB, up2_ne hr]
    refine hR P1 B oc (rows B hB2) (fun i _ b => by rw [hB, up2_nj b, e30]) (fun r hr => ne r (by omega)) (main B hB2 _ ⟨by unfold rmN; rw [if_neg en]; omega, c2, by rw [hB, up2_nj (by decide), e30, c3], by rw [hB, up2_eq]; unfold rmN; rw [if_neg en]; push_cast; rfl, fun k hk => ?_⟩)
    unfold rmN at hk
    rw [if_neg en] at hk
    unfold rmH
    rw [if_neg en]
    by_cases e : k = n
    · rw [if_pos e, e, hg]
      exact ⟨σ, κ, N, own B hB2⟩
    · rw [if_neg e]
      exact ent B hB2 k (by omega) (by omega)
end M2
