/-! THE CLASS'S plans -/
theorem sameS.v {D E : Nat → Int} (h : sameS D E) {o : Nat} (ho : o < 36) : vO E o ↔ vO D o := by
  unfold vO; rw [h 2 (fun _ _ _ _ => by omega) (fun _ _ => by omega), h (59 + 4 * (o / 6) + 3) (fun _ _ _ _ => by omega) (fun _ _ => by omega)]
theorem SHr.same {I : MM} {σ : Nat} {D E : Nat → Int} (hs : sameS D E) (hW : WR D) (h : SHr I σ D) : SHr I σ E := by
  have ha := hW.a
  have lo : ∀ i, i < 5 → E i = D i := fun i hi => hs i (fun _ _ _ _ => by omega) (fun _ _ => by omega)
  have jb : ∀ i, 59 ≤ i → i < 83 → E i = D i := fun i h1 h2 => hs i (fun _ _ _ _ => by omega) (fun _ _ => by omega)
  refine ⟨by rw [lo 0 (by decide)]; exact h.1, by rw [lo 2 (by decide)]; exact h.2.1, by rw [lo 1 (by decide)]; exact h.2.2.1, fun m hm => ?_, fun j hj => ?_, fun o ho => ?_⟩
  · rw [lo 0 (by decide)] at hm
    rw [hs (5 + 9 * m) (fun _ _ _ _ => by omega) (fun _ _ => by omega), hs (5 + 9 * m + 1) (fun _ _ _ _ => by omega) (fun _ _ => by omega), hs (5 + 9 * m + 2) (fun _ _ _ _ => by omega) (fun _ _ => by omega)]
    exact h.2.2.2.1 m hm
  · rw [lo 2 (by decide)] at hj
    rw [jb _ (by omega) (by omega), jb _ (by omega) (by omega), jb _ (by omega) (by omega), jb _ (by omega) (by omega)]
    exact h.2.2.2.2.1 j hj
  · have h36 := ho.1
    rw [hs.v h36] at ho
    rw [hs (83 + 2 * o) (fun _ _ _ _ => by omega) (fun _ _ => by omega)]
    exact h.2.2.2.2.2 o ho
theorem sameD.nd {D E : Nat → Int} (h : sameD D E) (hN : ND D) : ND E := by
  refine ⟨fun o ho => ?_, fun o u ho hu a b => ?_⟩
  · rw [h.v] at ho
    rw [h.mo, h.lo (by decide), h.hi (by omega)]
    exact hN.1 o ho
  · rw [h.v] at ho hu
    rw [h.mo, h.mo] at b
    exact hN.2 o u ho hu a b
theorem LShop.keep {Γ : GG} {P P' : MP} {σ κ N : Nat} (h : LShop Γ P σ κ N) (e : P' σ = P σ) : LShop Γ P' σ κ N := by unfold LShop; rw [e]; exact h
theorem LPlan.keep {Γ : GG} {P P' : MP} {p σ κ N : Nat} (h : LPlan Γ P p σ κ N) (e : P' p = P p) (e2 : P' σ = P σ) : LPlan Γ P' p σ κ N := by
  have := (LPlan_s h).keep e2
  unfold LPlan; rw [e]; exact ⟨LPlan_ob h, LPlan_p0 h, LPlan_p1 h, LPlan_a1 h, LPlan_p2 h, LPlan_a2 h, this⟩
theorem LCost.keep {Γ : GG} {P P' : MP} {co w : Nat} (h : LCost Γ P co w) (e : P' co = P co) : LCost Γ P' co w := by unfold LCost; rw [e]; exact h
/-- a plan as the data says -/
def PR (Γ : GG) (P : MP) (I : MM) (p σ κ N : Nat) (D : Nat → Int) (cs : List Int) : Prop :=
  LPlan Γ P p σ κ N ∧ (1000 ≤ σ ∧ 1000 ≤ κ) ∧ DN D ∧ SHr I σ D ∧ PLr I p D ∧ CSr I κ N cs
section M2
variable {Γ : GG} {P P' : MP} {I : MM} {R : Int → MM → Prop} {Rv : MM → Prop} {Rp : MP → MM → Prop} {cs : List Int} {D : Nat → Int} {p q σ κ N : Nat}
theorem PR.l (h : PR Γ P I p σ κ N D cs) : LPlan Γ P p σ κ N := h.1
theorem PR.hσ (h : PR Γ P I p σ κ N D cs) : 1000 ≤ σ := h.2.1.1
theorem PR.hκ (h : PR Γ P I p σ κ N D cs) : 1000 ≤ κ := h.2.1.2
theorem PR.dn (h : PR Γ P I p σ κ N D cs) : DN D := h.2.2.1
theorem PR.wr (h : PR Γ P I p σ κ N D cs) : WR D := h.2.2.1.1
theorem PR.wo (h : PR Γ P I p σ κ N D cs) : WO D := h.2.2.1.2.1
theorem PR.nd (h : PR Γ P I p σ κ N D cs) : ND D := h.2.2.1.2.2
theorem PR.sh (h : PR Γ P I p σ κ N D cs) : SHr I σ D := h.2.2.2.1
theorem PR.pl (h : PR Γ P I p σ κ N D cs) : PLr I p D := h.2.2.2.2.1
theorem PR.cs' (h : PR Γ P I p σ κ N D cs) : CSr I κ N cs := h.2.2.2.2.2
theorem PR.cr (h : PR Γ P I (q + 8) σ κ N D cs) (hs : LSch Γ P q σ κ N) (hq : q < 900) : CR Γ P I q σ κ N D cs := by
  have h1 := h.hσ
  have h2 := h.hκ
  exact ⟨hs, ⟨by omega, by omega⟩, h.dn, h.sh, h.pl, h.cs'⟩
/-- rows ahead of the shops may change, but for the plan's own -/
theorem PR.keep {J : MM} (h : PR Γ P I p σ κ N D cs) (k : ∀ r : Nat, (1000 ≤ r ∨ r = p + 1 ∨ r = p + 2) → J r = I r) : PR Γ P J p σ κ N D cs := by
  have h1 := h.hσ
  have h2 := h.hκ
  exact ⟨h.l, h.2.1, h.dn, h.sh.keep (fun r a b => k r (by omega)), h.pl.keep (k _ (by omega)) (k _ (by omega)), h.cs'.keep (k _ (by omega))⟩
theorem PR.keepP (h : PR Γ P I p σ κ N D cs) (k : ∀ r : Nat, (1000 ≤ r ∨ r = p) → P' r = P r) : PR Γ P' I p σ κ N D cs :=
  ⟨h.l.keep (k _ (Or.inr rfl)) (k _ (Or.inl h.hσ)), h.2⟩
theorem d_copyFrom (h1 : LPlan Γ P p σ κ N) {p3 σ3 κ3 n3 : Nat} (h3 : PR Γ P I p3 σ3 κ3 n3 D cs) (hp : p < 900) (hp3 : p3 < 900) (hd : p + 2 < p3 ∨ p3 + 2 < p)
    (h : ∀ P1 J, P1 = up2 P p 0 (some σ3) → (∀ r, r ≠ p + 1 → r ≠ p + 2 → J r = I r) → PR Γ P1 J p σ3 κ3 n3 D cs → Rp P1 J) : Cl Γ m_X1_copyFrom [vR p, vR p3] P I (rp Rp) := by
  refine cl_of n_X1_copyFrom (Nat.le_of_ble_eq_true rfl) (t_X1_copyFrom_0 h1 h3.l (by
    intro P1 hP1
    have hs := h3.hσ
    have hk := h3.hκ
    have e3 : P1 p3 = P p3 := by rw [hP1]; exact up2_ne (by omega)
    have es : P1 σ3 = P σ3 := by rw [hP1]; exact up2_ne (by omega)
    have e1 : ∀ i, i ≠ 0 → P1 p i = P p i := fun i hi => by rw [hP1]; exact up2_nj hi
    refine ⟨by rw [e3]; exact LPlan_p1 h3.l, by rw [e1 1 (by decide)]; exact LPlan_p1 h1, ?_⟩
    intro A hA
    refine ⟨by rw [e3]; exact LPlan_p2 h3.l, by rw [e1 2 (by decide)]; exact LPlan_p2 h1, ?_⟩
    intro B hB
    have fr : ∀ r, r ≠ p + 1 → r ≠ p + 2 → B r = I r := fun r a b => by rw [hB, cp2_ne b, hA, cp2_ne a]
    have l1 : LPlan Γ P1 p σ3 κ3 n3 := ⟨LPlan_ob h1, by rw [hP1]; exact up2_eq, by rw [e1 1 (by decide)]; exact LPlan_p1 h1, LPlan_a1 h1, by rw [e1 2 (by decide)]; exact LPlan_p2 h1, LPlan_a2 h1, (LPlan_s h3.l).keep es⟩
    refine h P1 B hP1 fr ⟨l1, h3.2.1, h3.dn, h3.sh.keep (fun r a b => fr r (by omega) (by omega)), ⟨fun o ho => ?_, fun m k hm hk2 => ?_⟩, h3.cs'.keep (fr _ (by omega) (by omega))⟩
    · have h36 := ho.1
      rw [hB, cp2_ne (by omega), hA]
      have := h3.pl.1 o ho
      simp only [cp2, if_true, h36]
      exact this
    · have hm6 : m < 6 := by have := h3.wr.a; omega
      have hk6 : k < 6 := by have := h3.wr.2.2.2 m hm6; omega
      have h36 : 6 * m + k < 36 := by omega
      have := h3.pl.2 m k hm hk2
      rw [hB]
      simp only [cp2, if_true, h36]
      rw [hA, cp2_ne (by omega)]
      exact this))
/-- two neighbours change places -/
theorem d_exchange (hR : PR Γ P I p σ κ N D cs) (hp : p < 900) {m k : Nat} (hm : (m : Int) < D 0) (hk : (k : Int) + 1 < D (5 + 9 * m + 2)) (h : ∀ J, (∀ r, r ≠ p + 2 → J r = I r) → PR Γ P J p σ κ N (exF D m k) cs → Rv J) : Cl Γ m_X1_exchange [vR p, vI (m : Int), vI (k : Int)] P I (rv P Rv) := by
  have pre := exF_pre hR.wr hm hk
  have hs := exF_same (D := D) pre.1 pre.2
  have h1 := hR.hσ
  have h2 := hR.hκ
  refine cl_of n_X1_exchange (Nat.le_of_ble_eq_true rfl) (t_X1_exchange_0 hR.l ?_)
  intro u hu
  refine ⟨by omega, by omega, ?_⟩
  intro v hv
  rw [show u.toNat = 6 * m + k by omega, hR.pl.2 m k hm (by omega)] at hv
  refine ⟨by omega, by omega, ?_⟩
  intro A hA B hB
  rw [show u.toNat = 6 * m + k by omega, show (u + 1).toNat = 6 * m + (k + 1) by omega, hR.pl.2 m (k + 1) hm (by push_cast; omega)] at hA
  rw [show (u + 1).toNat = 6 * m + (k + 1) by omega, hv] at hB
  have fr : ∀ r, r ≠ p + 2 → B r = I r := fun r a => by rw [hB, up2_ne a, hA, up2_ne a]
  refine h B fr ⟨hR.l, hR.2.1, ⟨exF_WR hR.wr pre.1 pre.2, exF_WO hR.wr hR.wo hm hk, hs.nd hR.nd⟩, (hR.sh.keep (fun r a b => fr r (by omega))).same hs.s hR.wr, ⟨fun o ho => ?_, fun m2 k2 hm2 hk2 => ?_⟩, hR.cs'.keep (fr _ (by omega))⟩
  · rw [hs.v] at ho
    rw [fr (p + 1) (by omega), hs.hi (by omega)]
    exact hR.pl.1 o ho
  · rw [hs.lo (by decide)] at hm2
    rw [hs.mc (by decide)] at hk2
    have hm26 : m2 < 6 := by have := hR.wr.a; omega
    have hk6 : k2 < 6 := by have := hR.wr.2.2.2 m2 hm26; omega
    rw [exF_oN pre.2 hk6, hB, hA]
    by_cases e : m2 = m
    · subst e
      rw [if_pos rfl]
      unfold swp
      by_cases e1 : k2 = k + 1
      · rw [e1, up2_eq, if_neg (by omega), if_pos rfl]
      · rw [up2_nj (by omega)]
        by_cases e2 : k2 = k
        · rw [e2, up2_eq, if_pos rfl]
        · rw [up2_nj (by omega), if_neg e2, if_neg e1]
          exact hR.pl.2 m2 k2 hm2 hk2
    · rw [if_neg e, up2_nj (by omega), up2_nj (by omega)]
      exact hR.pl.2 m2 k2 hm2 hk2
theorem d_positionOf (hR : PR Γ P I p σ κ N D cs) {o : Nat} (ho : vO D o) (h : R (plD D o : Int) I) : Cl Γ m_X1_positionOf [vR p, vI (o : Int)] P I (ri P R) := by
  have hW := hR.wr
  have hO := hR.wo
  have h36 := ho.1
  obtain ⟨h1, h2, h3⟩ := plD_at hW hO ho
  obtain ⟨m1, m2⟩ := mcO_lt hW h36
  have hmm := hW.2.2.2 _ m1
  have e3 := (hR.sh.2.2.2.1 _ h1).2.2
  have key : ∀ (n k : Nat), k + n = plD D o → XM Γ m_X1_positionOf 0 0 12 [(0, vR p), (1, vI (o : Int)), (2, vI (mcO D o : Int)), (3, vI (k : Int))] [] P I (ri P R) := by
    intro n
    induction n with
    | zero =>
      intro k hk
      have ek : k = plD D o := by omega
      refine t_X1_positionOf_12 hR.l ⟨by omega, by omega, ⟨by omega, by omega⟩, ?_⟩
      rw [Int.toNat_natCast, e3]
      refine ⟨⟨by omega, by omega⟩, fun _ => by rw [ek]; exact h, fun y => ⟨by omega, by omega, ?_⟩⟩
      rw [show ((mcO D o : Int) * 6 + (k : Int)).toNat = 6 * mcO D o + k by omega, hR.pl.2 _ k h1 (by omega), ek, h3]
      exact ⟨⟨by omega, by omega⟩, ⟨by omega, by omega⟩, fun _ => h, fun z => absurd rfl z⟩
    | succ n ih =>
      intro k hk
      have hv := hO.1 _ k h1 (by omega)
      have hv36 := hv.1.1
      refine t_X1_positionOf_12 hR.l ⟨by omega, by omega, ⟨by omega, by omega⟩, ?_⟩
      rw [Int.toNat_natCast, e3]
      refine ⟨⟨by omega, by omega⟩, fun y => absurd y (by omega), fun y => ⟨by omega, by omega, ?_⟩⟩
      rw [show ((mcO D o : Int) * 6 + (k : Int)).toNat = 6 * mcO D o + k by omega, hR.pl.2 _ k h1 (by omega)]
      refine ⟨⟨by omega, by omega⟩, ⟨by omega, by omega⟩, fun z => ?_, fun z => ?_⟩
      · have e4 : oN D (mcO D o) k = o := by omega
        have := hO.2.1 _ k _ h1 (by omega) h2 (by rw [e4, h3])
        omega
      · have := ih (k + 1) (by omega)
        push_cast at this
        exact this
  refine cl_of n_X1_positionOf (Nat.le_of_ble_eq_true rfl) (t_X1_positionOf_0 hR.l ⟨by omega, by omega, ?_⟩)
  intro u hu
  rw [Int.toNat_natCast, hR.sh.2.2.2.2.2 o ho, m2] at hu
  rw [hu]
  exact key (plD D o) 0 (Nat.zero_add _)
theorem d_move (hR : PR Γ P I p σ κ N D cs) (hp : p < 900) {m f t : Nat} (hm : (m : Int) < D 0) (hf : (f : Int) < D (5 + 9 * m + 2)) (ht : (t : Int) < D (5 + 9 * m + 2)) (h : ∀ J, (∀ r, r ≠ p + 2 → J r = I r) → PR Γ P J p σ κ N (mvF D m f t) cs → Rv J) : Cl Γ m_X1_move [vR p, vI (m : Int), vI (f : Int), vI (t : Int)] P I (rv P Rv) := by
  have hm6 : m < 6 := by have := hR.wr.a; omega
  have hmm := hR.wr.2.2.2 m hm6
  have dn : ∀ (n k : Nat) (J : MM) (E : Nat → Int), t + n = k → (∀ r, r ≠ p + 2 → J r = I r) → PR Γ P J p σ κ N E cs → E 0 = D 0 → E (5 + 9 * m + 2) = D (5 + 9 * m + 2) → (k : Int) < D (5 + 9 * m + 2) → (∀ K, (∀ r, r ≠ p + 2 → K r = I r) → PR Γ P K p σ κ N (mvD E m n k) cs → Rv K) → XM Γ m_X1_move 0 0 25 [(0, vR p), (1, vI (m : Int)), (3, vI (t : Int)), (4, vI (k : Int))] [] P J (rv P Rv) := by
    intro n
    induction n with
    | zero =>
      intro k J E hk hJ hE e0 e2 hlt hK
      exact t_X1_move_25 hR.l ⟨⟨by omega, by omega⟩, ⟨by omega, by omega⟩, fun _ => hK J hJ hE, fun y => absurd (by omega) y⟩
    | succ n ih =>
      intro k J E hk hJ hE e0 e2 hlt hK
      refine t_X1_move_25 hR.l ⟨⟨by omega, by omega⟩, ⟨by omega, by omega⟩, fun y => absurd y (by omega), fun _ => ?_⟩
      rw [show (k : Int) - 1 = ((k - 1 : Nat) : Int) by omega, show (k : Int) + -1 = ((k - 1 : Nat) : Int) by omega]
      refine d_exchange hE hp (by omega) (by omega) (fun K k1 k2 => ?_)
      have hs := exF_same (D := E) hm6 (p := k - 1) (by omega)
      exact ih (k - 1) K (exF E m (k - 1)) (by omega) (fun r a => (k1 r a).trans (hJ r a)) k2 (by rw [hs.lo (by decide)]; exact e0) (by rw [hs.mc (by decide)]; exact e2) (by omega) hK
  have up : ∀ (n k : Nat) (J : MM) (E : Nat → Int), k + n = t → (∀ r, r ≠ p + 2 → J r = I r) → PR Γ P J p σ κ N E cs → E 0 = D 0 → E (5 + 9 * m + 2) = D (5 + 9 * m + 2) → f ≤ t → (∀ K, (∀ r, r ≠ p + 2 → K r = I r) → PR Γ P K p σ κ N (mvU E m n k) cs → Rv K) → XM Γ m_X1_move 0 0 3 [(0, vR p), (1, vI (m : Int)), (2, vI (f : Int)), (3, vI (t : Int)), (4, vI (k : Int))] [] P J (rv P Rv) := by
    intro n
    induction n with
    | zero =>
      intro k J E hk hJ hE e0 e2 hft hK
      refine t_X1_move_3 hR.l ⟨⟨by omega, by omega⟩, ⟨by omega, by omega⟩, fun _ => ?_, fun y => absurd (by omega) y⟩
      refine t_X1_move_25 hR.l ⟨⟨by omega, by omega⟩, ⟨by omega, by omega⟩, fun _ => hK J hJ hE, fun y => absurd (by omega) y⟩
    | succ n ih =>
      intro k J E hk hJ hE e0 e2 hft hK
      refine t_X1_move_3 hR.l ⟨⟨by omega, by omega⟩, ⟨by omega, by omega⟩, fun y => absurd y (by omega), fun _ => ?_⟩
      refine d_exchange hE hp (by omega) (by omega) (fun K k1 k2 => ?_)
      have hs := exF_same (D := E) hm6 (p := k) (by omega)
      have := ih (k + 1) K (exF E m k) (by omega) (fun r a => (k1 r a).trans (hJ r a)) k2 (by rw [hs.lo (by decide)]; exact e0) (by rw [hs.mc (by decide)]; exact e2) hft hK
      push_cast at this
      exact this
  refine cl_of n_X1_move (Nat.le_of_ble_eq_true rfl) (t_X1_move_0 hR.l ?_)
  unfold mvF at h
  by_cases hlt : f < t
  · rw [if_pos hlt] at h
    exact up (t - f) f I D (by omega) (fun _ _ => rfl) hR rfl rfl (by omega) h
  · rw [if_neg hlt] at h
    refine t_X1_move_3 hR.l ⟨⟨by omega, by omega⟩, ⟨by omega, by omega⟩, fun _ => ?_, fun y => absurd (by omega) y⟩
    exact dn (f - t) f I D (by omega) (fun _ _ => rfl) hR rfl rfl hf h
/-- the first order of a machine -/
theorem d_setFirstOrder (hl : LPlan Γ P p σ κ N) (hS : SHr I σ D) (hσ : 1000 ≤ σ) (hp : p < 900) (hW : WR D) (hN : ND D) {m : Nat} (hm : (m : Int) < D 0)
    (h : ∀ J, (∀ r, r ≠ p + 2 → J r = I r) → (∀ o : Nat, vO D o → mcO D o = m → J (p + 2) (6 * m + rnk D m o) = (o : Int)) → (∀ i, (i < 6 * m ∨ 6 * m + 6 ≤ i) → J (p + 2) i = I (p + 2) i) → Rv J) : Cl Γ m_X1_setFirstOrder [vR p, vI (m : Int)] P I (rv P Rv) := by
  have ha := hW.a
  let ok : Nat → MM → Prop := fun n J => (∀ r, r ≠ p + 2 → J r = I r) ∧ (∀ o : Nat, o < n → vO D o → mcO D o = m → J (p + 2) (6 * m + rnk D m o) = (o : Int)) ∧ (∀ i, (i < 6 * m ∨ 6 * m + 6 ≤ i) → J (p + 2) i = I (p + 2) i)
  have lp18 : ∀ (j : Nat), (j : Int) < D 2 → (∀ J, ok (6 * (j + 1)) J → XM Γ m_X1_setFirstOrder 0 0 4 [(0, vR p), (1, vI (m : Int)), (2, vI (rnk D m (6 * (j + 1)) : Int)), (3, vI ((j : Int) + 1))] [] P J (rv P Rv)) → ∀ (n k : Nat) (J : MM), (k : Int) + n = D (59 + 4 * j + 3) → ok (6 * j + k) J → XM Γ m_X1_setFirstOrder 0 0 18 [(0, vR p), (1, vI (m : Int)), (2, vI (rnk D m (6 * j + k) : Int)), (3, vI (j : Int)), (4, vI (k : Int))] [] P J (rv P Rv) := by
    intro j hj hX n
    have hjj := hW.2.1 j (by omega)
    induction n with
    | zero =>
      intro k J hk hok
      have hSJ := hS.keep (J := J) (fun r a b => hok.1 r (by omega))
      refine t_X1_setFirstOrder_18 hl ⟨by omega, by omega, ⟨by omega, by omega⟩, ?_⟩
      rw [Int.toNat_natCast, hSJ.ops hj]
      have nv : ∀ i, i < 6 - k → ¬ vO D (6 * j + k + i) := fun i hi => not_vO (by omega) (by omega)
      have er : rnk D m (6 * (j + 1)) = rnk D m (6 * j + k) := by
        rw [show 6 * (j + 1) = 6 * j + k + (6 - k) by omega]
        exact cnt_skip (6 - k) (fun i hi => by rw [vB_f (nv i hi) (by omega)]; rfl)
      refine ⟨⟨by omega, by omega⟩, fun _ => ?_, fun y => absurd (by omega) y⟩
      have := hX J ⟨hok.1, fun o ho hv hmo => ?_, hok.2.2⟩
      · rwa [er] at this
      · by_cases e : o < 6 * j + k
        · exact hok.2.1 o e hv hmo
        · have := nv (o - (6 * j + k)) (by omega)
          rw [show 6 * j + k + (o - (6 * j + k)) = o by omega] at this
          exact absurd hv this
    | succ n ih =>
      intro k J hk hok
      have hSJ := hS.keep (J := J) (fun r a b => hok.1 r (by omega))
      have hv := is_vO hW hj (k := k) (by omega)
      have h36 := hv.1
      obtain ⟨m1, m2⟩ := mcO_lt hW h36
      have hr6 := rnk_le6 hN (m := m) (n := 6 * j + k) (by omega)
      refine t_X1_setFirstOrder_18 hl ⟨by omega, by omega, ⟨by omega, by omega⟩, ?_⟩
      rw [Int.toNat_natCast, hSJ.ops hj]
      refine ⟨⟨by omega, by omega⟩, fun y => absurd y (by omega), fun _ => d_idOf ⟨by omega, by omega, ?_⟩⟩
      rw [Int.toNat_natCast, hSJ.2.2.2.2.2 _ hv, m2]
      refine ⟨⟨by omega, by omega⟩, ⟨by omega, by omega⟩, fun y => ?_, fun y => ⟨⟨by omega, by omega⟩, fun z => ?_, fun z => ⟨by omega, by omega, ?_⟩⟩⟩
      · have er : rnk D m (6 * j + (k + 1)) = rnk D m (6 * j + k) := by
          rw [show 6 * j + (k + 1) = 6 * j + k + 1 by omega]
          exact rnk_off h36 (fun z => by have := z.2; omega)
        have := ih (k + 1) J (by omega) ⟨hok.1, fun o ho hvo hmo => ?_, hok.2.2⟩
        · rw [er] at this
          push_cast at this
          exact this
        · by_cases e : o = 6 * j + k
          · rw [e] at hmo; omega
          · exact hok.2.1 o (by omega) hvo hmo
      · have := rnk_lt6 hN (m := m) hv (by omega)
        omega
      · intro A hA
        rw [show ((m : Int) * 6 + (rnk D m (6 * j + k) : Int)).toNat = 6 * m + rnk D m (6 * j + k) by omega] at hA
        have er : rnk D m (6 * j + (k + 1)) = rnk D m (6 * j + k) + 1 := by
          rw [show 6 * j + (k + 1) = 6 * j + k + 1 by omega]
          exact rnk_on hv (by omega)
        have hlt := rnk_lt6 hN (m := m) hv (by omega)
        have := ih (k + 1) A (by omega) ⟨fun r a => by rw [hA, up2_ne a]; exact hok.1 r a, fun o ho hvo hmo => ?_, fun i hi => by rw [hA, up2_nj (by omega)]; exact hok.2.2 i hi⟩
        · rw [er] at this
          push_cast at this
          exact this
        · by_cases e : o = 6 * j + k
          · rw [e, hA, up2_eq]
          · have hl := rnk_lt hvo hmo (k := 6 * j + k) (by omega)
            rw [hA, up2_nj (by omega)]
            exact hok.2.1 o (by omega) hvo hmo
  have lp4 : ∀ (n j : Nat) (J : MM), (j : Int) + n = D 2 → ok (6 * j) J → XM Γ m_X1_setFirstOrder 0 0 4 [(0, vR p), (1, vI (m : Int)), (2, vI (rnk D m (6 * j) : Int)), (3, vI (j : Int))] [] P J (rv P Rv) := by
    intro n
    induction n with
    | zero =>
      intro j J hj hok
      have hSJ := hS.keep (J := J) (fun r a b => hok.1 r (by omega))
      refine t_X1_setFirstOrder_4 hl ⟨⟨by omega, by omega⟩, ?_⟩
      rw [hSJ.2.1]
      refine ⟨⟨by omega, by omega⟩, fun _ => h J hok.1 (fun o ho hmo => hok.2.1 o ?_ ho hmo) hok.2.2, fun y => absurd (by omega) y⟩
      have := ho.2.1
      omega
    | succ n ih =>
      intro j J hj hok
      have hSJ := hS.keep (J := J) (fun r a b => hok.1 r (by omega))
      have hjj := hW.2.1 j (by omega)
      refine t_X1_setFirstOrder_4 hl ⟨⟨by omega, by omega⟩, ?_⟩
      rw [hSJ.2.1]
      refine ⟨⟨by omega, by omega⟩, fun y => absurd y (by omega), fun _ => ?_⟩
      refine lp18 j (by omega) (fun J2 a => ?_) (D (59 + 4 * j + 3)).toNat 0 J (by omega) hok
      have := ih (j + 1) J2 (by omega) a
      push_cast at this
      exact this
  refine cl_of n_X1_setFirstOrder (Nat.le_of_ble_eq_true rfl) (t_X1_setFirstOrder_0 hl ?_)
  exact lp4 (D 2).toNat 0 I (by omega) ⟨fun _ _ => rfl, fun o ho => absurd ho (Nat.not_lt_zero _), fun _ _ => rfl⟩
/-- the first orders: those of every E that the reference can lay -/
theorem d_setFirstOrders (hl : LPlan Γ P p σ κ N) (hS : SHr I σ D) (hσ : 1000 ≤ σ) (hp : p < 900) (hW : WR D) (hN : ND D)
    (h : ∀ J, (∀ r, r ≠ p + 2 → J r = I r) → (∀ E, FPn D 36 E → ∀ m k : Nat, (m : Int) < E 0 → (k : Int) < E (5 + 9 * m + 2) → J (p + 2) (6 * m + k) = (oN E m k : Int)) → Rv J) : Cl Γ m_X1_setFirstOrders [vR p] P I (rv P Rv) := by
  have ha := hW.a
  have lp : ∀ (n m : Nat) (J : MM), (m : Int) + n = D 0 → (∀ r, r ≠ p + 2 → J r = I r) → (∀ o : Nat, vO D o → mcO D o < m → J (p + 2) (6 * mcO D o + rnk D (mcO D o) o) = (o : Int)) → XM Γ m_X1_setFirstOrders 0 0 2 [(0, vR p), (1, vI (m : Int))] [] P J (rv P Rv) := by
    intro n
    induction n with
    | zero =>
      intro m J hm hJ hd
      have hSJ := hS.keep (J := J) (fun r a b => hJ r (by omega))
      refine t_X1_setFirstOrders_2 hl ⟨⟨by omega, by omega⟩, ?_⟩
      rw [hSJ.1]
      refine ⟨⟨by omega, by omega⟩, fun _ => h J hJ (fun E hE m2 k hm2 hk => ?_), fun y => absurd (by omega) y⟩
      rw [hE.lo (by decide)] at hm2
      rw [hE.2.2.1 m2 hm2] at hk
      obtain ⟨o, h1, h2, h3, h4⟩ := rnk_nth (D := D) (m := m2) 36 k (Nat.le_refl _) (by omega)
      have e1 := hd o h2 (by omega)
      have e2 := hE.on h1 h2
      rw [h3, h4] at e1 e2
      rw [e1, e2]
    | succ n ih =>
      intro m J hm hJ hd
      have hSJ := hS.keep (J := J) (fun r a b => hJ r (by omega))
      refine t_X1_setFirstOrders_2 hl ⟨⟨by omega, by omega⟩, ?_⟩
      rw [hSJ.1]
      refine ⟨⟨by omega, by omega⟩, fun y => absurd y (by omega), fun _ => ?_⟩
      refine d_setFirstOrder hl hSJ hσ hp hW hN (m := m) (by omega) (fun K k1 k2 k3 => ?_)
      have := ih (m + 1) K (by omega) (fun r a => (k1 r a).trans (hJ r a)) (fun o ho hlt => ?_)
      · push_cast at this
        exact this
      · by_cases e : mcO D o = m
        · rw [e]; exact k2 o ho e
        · have hr := rnk_lt6 hN ho rfl
          rw [k3 _ (by omega)]
          exact hd o ho (by omega)
  refine cl_of n_X1_setFirstOrders (Nat.le_of_ble_eq_true rfl) (t_X1_setFirstOrders_0 hl ?_)
  exact lp (D 0).toNat 0 I (by omega) (fun _ _ => rfl) (fun o _ h2 => absurd h2 (Nat.not_lt_zero _))
end M2
