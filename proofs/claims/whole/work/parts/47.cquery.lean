/-! THE CLASS as the data says; its questions, where they don't throw -/
theorem LSch.upd {Γ : GG} {P P' : MP} {q σ κ N σ' κ' N' : Nat} (h : LSch Γ P q σ κ N) (e : P' q = P q) (e2 : P' (q + 6) = P (q + 6)) (hp : LPlan Γ P' (q + 8) σ' κ' N') : LSch Γ P' q σ' κ' N' := by
  have hc := (LSch_c h).keep e2
  unfold LSch
  rw [e]
  exact ⟨LSch_ob h, LSch_p0 h, LSch_p1 h, LSch_a1 h, LSch_p2 h, LSch_a2 h, LSch_p3 h, LSch_a3 h, LSch_p4 h, LSch_a4 h, LSch_p5 h, LSch_a5 h, LSch_p7 h, hc, hp⟩
theorem LBS.upd {Γ : GG} {P P' : MP} {σ κ N σ2 κ2 N2 σ' κ' N' σ2' κ2' N2' : Nat} (h : LBS Γ P σ κ N σ2 κ2 N2) (e : ∀ r : Nat, r < 70 → r ≠ 48 → r ≠ 68 → P' r = P r) (h1 : LPlan Γ P' 48 σ' κ' N') (h2 : LPlan Γ P' 68 σ2' κ2' N2')
    (hh : ∀ i : Nat, i < 8 → ∃ σ3 κ3 n3 : Nat, LPlan Γ P' (80 + 3 * i) σ3 κ3 n3) : LBS Γ P' σ' κ' N' σ2' κ2' N2' := by
  have hr := LBS_r h
  have hr2 : LRead Γ P' := by unfold LRead; rw [e 31 (by decide) (by decide) (by decide)]; exact hr
  have s1 := (LBS_s h).upd (e 40 (by decide) (by decide) (by decide)) (e 46 (by decide) (by decide) (by decide)) h1
  have s2 := (LBS_t h).upd (e 60 (by decide) (by decide) (by decide)) (e 66 (by decide) (by decide) (by decide)) h2
  unfold LBS
  rw [e 30 (by decide) (by decide) (by decide)]
  exact ⟨LBS_ob h, LBS_p0 h, hr2, LBS_p3 h, s1, LBS_p4 h, LBS_p5 h, s2, LBS_p6 h, LBS_p7 h, LBS_a7 h, fun i hi => ⟨by rw [e 34 (by decide) (by decide) (by decide)]; exact (LBS_hh h i hi).1, hh i hi⟩⟩
/-- the objects of the class -/
def CL (Γ : GG) (P : MP) (σ κ N σ2 κ2 N2 : Nat) : Prop := LBS Γ P σ κ N σ2 κ2 N2 ∧ 1000 ≤ σ2 ∧ ∀ i : Nat, i < 8 → ∃ σ3 κ3 N3 : Nat, LPlan Γ P (80 + 3 * i) σ3 κ3 N3 ∧ 1000 ≤ σ3
/-- the history is H, n entries, the first at oc -/
def CH (Γ : GG) (P : MP) (I : MM) (n oc : Nat) (H : Nat → (Nat → Int) × List Int) : Prop :=
  n ≤ 8 ∧ oc < 8 ∧ I 30 8 = (oc : Int) ∧ I 30 9 = (n : Int) ∧ ∀ k : Nat, k < n → ∃ σ3 κ3 N3 : Nat, PR Γ P I (80 + 3 * ((oc + k) % 8)) σ3 κ3 N3 (H k).1 (H k).2
def CC (Γ : GG) (P : MP) (I : MM) (σ κ N σ2 κ2 N2 oc : Nat) (D : Nat → Int) (cs : List Int) (n : Nat) (H : Nat → (Nat → Int) × List Int) : Prop :=
  CL Γ P σ κ N σ2 κ2 N2 ∧ PR Γ P I 48 σ κ N D cs ∧ SCr I 40 D ∧ GN D cs ∧ CH Γ P I n oc H
def CB (Γ : GG) (P : MP) (I : MM) (D : Nat → Int) (cs : List Int) (n : Nat) (H : Nat → (Nat → Int) × List Int) : Prop := ∃ σ κ N σ2 κ2 N2 oc : Nat, CC Γ P I σ κ N σ2 κ2 N2 oc D cs n H
/-- what questions may change -/
def kpC (I J : MM) : Prop := (∀ r : Nat, r ≠ 40 → r ≠ 45 → r ≠ 47 → (r < 60 ∨ 70 < r) → J r = I r) ∧ ∀ i : Nat, i ≠ 6 → J 40 i = I 40 i
theorem kpC.refl (I : MM) : kpC I I := ⟨fun _ _ _ _ _ => rfl, fun _ _ => rfl⟩
theorem kpC.trans {A B C : MM} (h : kpC A B) (k : kpC B C) : kpC A C := ⟨fun r a b c d => (k.1 r a b c d).trans (h.1 r a b c d), fun i a => (k.2 i a).trans (h.2 i a)⟩
theorem kpC.of {I J : MM} (h : ∀ r : Nat, r ≠ 45 → r ≠ 47 → (r < 60 ∨ 70 < r) → J r = I r) : kpC I J := ⟨fun r _ b c d => h r b c d, fun i _ => by rw [h 40 (by decide) (by decide) (by decide)]⟩
theorem wtO.kc {I J : MM} (h : wtO 40 I J) : kpC I J := kpC.of (fun r _ b _ => h r b)
theorem ptO.kc {I J : MM} (h : ptO 40 I J) : kpC I J := ⟨fun r a b _ _ => h.1 r a b, h.2⟩
section M2
variable {Γ : GG} {P : MP} {I : MM} {R : Int → MM → Prop} {Rv : MM → Prop} {cs : List Int} {D : Nat → Int} {σ κ N σ2 κ2 N2 oc n : Nat} {H : Nat → (Nat → Int) × List Int}
theorem CC.b (h : CC Γ P I σ κ N σ2 κ2 N2 oc D cs n H) : LBS Γ P σ κ N σ2 κ2 N2 := h.1.1
theorem CC.p (h : CC Γ P I σ κ N σ2 κ2 N2 oc D cs n H) : PR Γ P I 48 σ κ N D cs := h.2.1
theorem CC.c (h : CC Γ P I σ κ N σ2 κ2 N2 oc D cs n H) : CR Γ P I 40 σ κ N D cs := h.2.1.cr (LBS_s h.1.1) (by decide)
theorem CC.sc (h : CC Γ P I σ κ N σ2 κ2 N2 oc D cs n H) : SCr I 40 D := h.2.2.1
theorem CC.gn (h : CC Γ P I σ κ N σ2 κ2 N2 oc D cs n H) : GN D cs := h.2.2.2.1
theorem CC.ok (h : CC Γ P I σ κ N σ2 κ2 N2 oc D cs n H) : okC cs := h.2.2.2.1.1.2.2.1.1
theorem CC.ch (h : CC Γ P I σ κ N σ2 κ2 N2 oc D cs n H) : CH Γ P I n oc H := h.2.2.2.2
theorem CC.wr (h : CC Γ P I σ κ N σ2 κ2 N2 oc D cs n H) : WR D := h.2.1.wr
theorem CC.td (h : CC Γ P I σ κ N σ2 κ2 N2 oc D cs n H) : ∀ o : Nat, vO D o → I 41 o = TD D o := h.sc.1.td
theorem CC.q {J : MM} (h : CC Γ P I σ κ N σ2 κ2 N2 oc D cs n H) (k : kpC I J) : CC Γ P J σ κ N σ2 κ2 N2 oc D cs n H := by
  have e : ∀ r : Nat, r ≠ 40 → r ≠ 45 → r ≠ 47 → (r < 60 ∨ 70 < r) → J r = I r := k.1
  refine ⟨h.1, h.2.1.keep (fun r hr => e r (by omega) (by omega) (by omega) (by omega)), ?_, h.gn, ?_⟩
  · have s := h.sc
    unfold SCr arcA arcO
    rw [e 41 (by decide) (by decide) (by decide) (by decide), e 42 (by decide) (by decide) (by decide) (by decide), e 43 (by decide) (by decide) (by decide) (by decide)]
    exact s
  · obtain ⟨c1, c2, c3, c4, c5⟩ := h.ch
    refine ⟨c1, c2, by rw [e 30 (by decide) (by decide) (by decide) (by decide)]; exact c3, by rw [e 30 (by decide) (by decide) (by decide) (by decide)]; exact c4, fun k2 hk => ?_⟩
    obtain ⟨σ3, κ3, N3, h3⟩ := c5 k2 hk
    exact ⟨σ3, κ3, N3, h3.keep (fun r hr => e r (by omega) (by omega) (by omega) (by omega))⟩
theorem d_needMachine (h : CC Γ P I σ κ N σ2 κ2 N2 oc D cs n H) {m : Int} (hm : inR m) (hy : mOk D m) (hR : Rv I) : Cl Γ m_X5_needMachine [vR 30, vI m] P I (rv P Rv) := by
  have ha := h.wr.a
  have y1 := hy.1
  have y2 := hy.2
  refine cl_of n_X5_needMachine (Nat.le_of_ble_eq_true rfl) (t_X5_needMachine_0 h.b ⟨hm, fun z => by omega, fun z => ?_⟩)
  rw [h.p.sh.1]
  exact ⟨⟨by omega, by omega⟩, fun _ => hR, fun z => absurd y2 z⟩
theorem d_needJob (h : CC Γ P I σ κ N σ2 κ2 N2 oc D cs n H) {j : Int} (hj : inR j) (hy : jOk D j) (hR : Rv I) : Cl Γ m_X5_needJob [vR 30, vI j] P I (rv P Rv) := by
  have ha := h.wr.a
  have y1 := hy.1
  have y2 := hy.2
  refine cl_of n_X5_needJob (Nat.le_of_ble_eq_true rfl) (t_X5_needJob_0 h.b ⟨hj, fun z => by omega, fun z => ?_⟩)
  rw [h.p.sh.2.1]
  exact ⟨⟨by omega, by omega⟩, fun _ => hR, fun z => absurd y2 z⟩
theorem d_needOperation (h : CC Γ P I σ κ N σ2 κ2 N2 oc D cs n H) {j k : Int} (hj : inR j) (hk : inR k) (hy : oOk D j k) (hR : Rv I) : Cl Γ m_X5_needOperation [vR 30, vI j, vI k] P I (rv P Rv) := by
  have ha := h.wr.a
  obtain ⟨⟨y1, y2⟩, y3, y4⟩ := hy
  have hjj := h.wr.2.1 j.toNat (by omega)
  refine cl_of n_X5_needOperation (Nat.le_of_ble_eq_true rfl) (t_X5_needOperation_0 h.b (d_needJob h hj ⟨y1, y2⟩ ⟨hk, fun z => by omega, fun z => ⟨by omega, by omega, ?_⟩⟩))
  rw [h.p.sh.ops (by omega)]
  exact ⟨⟨by omega, by omega⟩, fun _ => hR, fun z => absurd y4 z⟩
theorem d_needSwap (h : CC Γ P I σ κ N σ2 κ2 N2 oc D cs n H) {m p : Int} (hm : inR m) (hp : inR p) (hy : sOk D m p) (hR : Rv I) : Cl Γ m_X5_needSwap [vR 30, vI m, vI p] P I (rv P Rv) := by
  have ha := h.wr.a
  obtain ⟨⟨y1, y2⟩, y3, y4⟩ := hy
  have hmm := h.wr.2.2.2 m.toNat (by omega)
  refine cl_of n_X5_needSwap (Nat.le_of_ble_eq_true rfl) (t_X5_needSwap_0 h.b (d_needMachine h hm ⟨y1, y2⟩ ⟨hp, fun z => by omega, fun z => ⟨by omega, by omega, ?_⟩⟩))
  rw [(h.p.sh.2.2.2.1 m.toNat (by omega)).2.2]
  exact ⟨⟨by omega, by omega⟩, fun _ => hR, fun z => by omega⟩
theorem d_codeOf {o : Nat} (ho : o < 36) (h : R (tlF o) I) : Cl Γ m_X5_codeOf [vI (o : Int)] P I (ri P R) := by
  refine cl_of n_X5_codeOf (Nat.le_of_ble_eq_true rfl) (t_X5_codeOf_0 ⟨⟨by omega, by omega⟩, by omega, ?_⟩)
  rw [show 10 * ((o : Int) / 6) + (o : Int) % 6 = tlF o by unfold tlF; omega]
  exact h
theorem b_machineCount (h : CC Γ P I σ κ N σ2 κ2 N2 oc D cs n H) (hy : R (D 0) I) : Cl Γ m_X5_machineCount [vR 30] P I (ri P R) :=
  cl_of n_X5_machineCount (Nat.le_of_ble_eq_true rfl) (t_X5_machineCount_0 h.b (by rw [h.p.sh.1]; exact hy))
theorem b_jobCount (h : CC Γ P I σ κ N σ2 κ2 N2 oc D cs n H) (hy : R (D 2) I) : Cl Γ m_X5_jobCount [vR 30] P I (ri P R) :=
  cl_of n_X5_jobCount (Nat.le_of_ble_eq_true rfl) (t_X5_jobCount_0 h.b (by rw [h.p.sh.2.1]; exact hy))
theorem b_errorOffset (h : CC Γ P I σ κ N σ2 κ2 N2 oc D cs n H) (hy : R (I 30 2) I) : Cl Γ m_X5_errorOffset [vR 30] P I (ri P R) :=
  cl_of n_X5_errorOffset (Nat.le_of_ble_eq_true rfl) (t_X5_errorOffset_0 h.b hy)
theorem b_operationCount (h : CC Γ P I σ κ N σ2 κ2 N2 oc D cs n H) {j : Int} (hj : inR j) (hk : jOk D j) (hy : R (D (59 + 4 * j.toNat + 3)) I) : Cl Γ m_X5_operationCount [vR 30, vI j] P I (ri P R) := by
  have ha := h.wr.a
  have y1 := hk.1
  have y2 := hk.2
  exact cl_of n_X5_operationCount (Nat.le_of_ble_eq_true rfl) (t_X5_operationCount_0 h.b (d_needJob h hj hk ⟨by omega, by omega, by rw [h.p.sh.ops (by omega)]; exact hy⟩))
theorem b_operation (h : CC Γ P I σ κ N σ2 κ2 N2 oc D cs n H) {j k w : Int} (hj : inR j) (hk : inR k) (hw : inR w) (ho : oOk D j k) (h0 : 0 ≤ w) (h2 : w ≤ 2) (hy : R (if w = 2 then (plD D (6 * j + k).toNat : Int) else D (83 + 2 * (6 * j + k).toNat + w.toNat)) I) : Cl Γ m_X5_operation [vR 30, vI j, vI k, vI w] P I (ri P R) := by
  obtain ⟨o, hv, eo, e1, e2⟩ := ho.nat h.wr
  have h36 := hv.1
  have j0 := ho.1.1
  have k0 := ho.2.1
  rw [eo, Int.toNat_natCast] at hy
  refine cl_of n_X5_operation (Nat.le_of_ble_eq_true rfl) (t_X5_operation_0 h.b (d_needOperation h hj hk ho ?_))
  rw [show j = ((j.toNat : Nat) : Int) by omega, show k = ((k.toNat : Nat) : Int) by omega]
  refine d_idOf ?_
  rw [show 6 * j.toNat + k.toNat = o by omega, Int.toNat_natCast]
  refine ⟨hw, fun z => ⟨by omega, by omega, ?_⟩, fun z => ⟨by omega, by omega, ?_⟩, fun z => d_positionOf h.p hv ?_, fun z => by omega⟩
  · rw [h.p.sh.2.2.2.2.2 o hv]
    rw [if_neg (by omega), z] at hy
    exact hy
  · rw [h.p.pl.1 o hv]
    rw [if_neg (by omega), z] at hy
    exact hy
  · rw [if_pos z] at hy
    exact hy
theorem b_orderLength (h : CC Γ P I σ κ N σ2 κ2 N2 oc D cs n H) {m : Int} (hm : inR m) (hk : mOk D m) (hy : R (D (5 + 9 * m.toNat + 2)) I) : Cl Γ m_X5_orderLength [vR 30, vI m] P I (ri P R) := by
  have ha := h.wr.a
  have y1 := hk.1
  have y2 := hk.2
  exact cl_of n_X5_orderLength (Nat.le_of_ble_eq_true rfl) (t_X5_orderLength_0 h.b (d_needMachine h hm hk ⟨by omega, by omega, by rw [(h.p.sh.2.2.2.1 m.toNat (by omega)).2.2]; exact hy⟩))
theorem b_orderAt (h : CC Γ P I σ κ N σ2 κ2 N2 oc D cs n H) {m p : Int} (hm : inR m) (hp : inR p) (hk : pOk D m p) (hy : R (tlF (oN D m.toNat p.toNat)) I) : Cl Γ m_X5_orderAt [vR 30, vI m, vI p] P I (ri P R) := by
  have ha := h.wr.a
  obtain ⟨⟨y1, y2⟩, y3, y4⟩ := hk
  have hmm := h.wr.2.2.2 m.toNat (by omega)
  have hv := h.p.wo.1 m.toNat p.toNat (by omega) (by omega)
  refine cl_of n_X5_orderAt (Nat.le_of_ble_eq_true rfl) (t_X5_orderAt_0 h.b (d_needMachine h hm ⟨y1, y2⟩ ⟨hp, fun z => by omega, fun z => ⟨by omega, by omega, ?_⟩⟩))
  rw [(h.p.sh.2.2.2.1 m.toNat (by omega)).2.2]
  refine ⟨⟨by omega, by omega⟩, fun _ => ⟨by omega, by omega, ?_⟩, fun z => absurd y4 z⟩
  rw [show (m * 6 + p).toNat = 6 * m.toNat + p.toNat by omega]
  have := h.p.pl.2 m.toNat p.toNat (by omega) (by omega)
  rw [this]
  exact d_codeOf hv.1.1 hy
theorem b_start (h : CC Γ P I σ κ N σ2 κ2 N2 oc D cs n H) {j k : Int} (hj : inR j) (hk : inR k) (ho : oOk D j k) (hy : R (TD D (6 * j + k).toNat) I) : Cl Γ m_X5_start [vR 30, vI j, vI k] P I (ri P R) := by
  obtain ⟨o, hv, eo, e1, e2⟩ := ho.nat h.wr
  have h36 := hv.1
  have j0 := ho.1.1
  have k0 := ho.2.1
  rw [eo, Int.toNat_natCast, ← h.td o hv] at hy
  refine cl_of n_X5_start (Nat.le_of_ble_eq_true rfl) (t_X5_start_0 h.b (d_needOperation h hj hk ho ?_))
  rw [show j = ((j.toNat : Nat) : Int) by omega, show k = ((k.toNat : Nat) : Int) by omega]
  refine d_idOf ?_
  rw [show 6 * j.toNat + k.toNat = o by omega, Int.toNat_natCast]
  exact ⟨by omega, by omega, hy⟩
theorem b_leave (h : CC Γ P I σ κ N σ2 κ2 N2 oc D cs n H) {j k : Int} (hj : inR j) (hk : inR k) (ho : oOk D j k) (hy : R (leaveF D (TD D) (6 * j + k).toNat) I) : Cl Γ m_X5_leave [vR 30, vI j, vI k] P I (ri P R) := by
  obtain ⟨o, hv, eo, e1, e2⟩ := ho.nat h.wr
  have j0 := ho.1.1
  have k0 := ho.2.1
  have e : 6 * j.toNat + k.toNat = o := by omega
  rw [eo, Int.toNat_natCast, ← leaveF_same h.wr h.td hv] at hy
  refine cl_of n_X5_leave (Nat.le_of_ble_eq_true rfl) (t_X5_leave_0 h.b (d_needOperation h hj hk ho ?_))
  rw [show j = ((j.toNat : Nat) : Int) by omega, show k = ((k.toNat : Nat) : Int) by omega]
  exact d_leaveOf h.c (by rw [e]; exact hv) (by rw [e]; exact hy)
theorem b_completion (h : CC Γ P I σ κ N σ2 κ2 N2 oc D cs n H) {j : Int} (hj : inR j) (hk : jOk D j) (hy : R (cmpF D (TD D) j.toNat) I) : Cl Γ m_X5_completion [vR 30, vI j] P I (ri P R) := by
  have y1 := hk.1
  have y2 := hk.2
  refine cl_of n_X5_completion (Nat.le_of_ble_eq_true rfl) (t_X5_completion_0 h.b (d_needJob h hj hk ?_))
  rw [← cmpF_same h.wr h.td (by omega)] at hy
  rw [show j = ((j.toNat : Nat) : Int) by omega]
  exact d_completionOf h.c (by omega) hy
theorem b_makespan (h : CC Γ P I σ κ N σ2 κ2 N2 oc D cs n H) (hy : R (spanX D) I) : Cl Γ m_X5_makespan [vR 30] P I (ri P R) := by
  unfold spanX at hy
  rw [← spanF_same h.wr h.td] at hy
  exact cl_of n_X5_makespan (Nat.le_of_ble_eq_true rfl) (t_X5_makespan_0 h.b (d_greatest h.c h.sc.2.1 hy))
theorem b_jobCost (h : CC Γ P I σ κ N σ2 κ2 N2 oc D cs n H) {j : Int} (hj : inR j) (hk : jOk D j) (hy : ∀ J, kpC I J → R (costF D cs (TD D) j.toNat) J) : Cl Γ m_X5_jobCost [vR 30, vI j] P I (ri P R) := by
  have y1 := hk.1
  have y2 := hk.2
  refine cl_of n_X5_jobCost (Nat.le_of_ble_eq_true rfl) (t_X5_jobCost_0 h.b (d_needJob h hj hk ?_))
  rw [show j = ((j.toNat : Nat) : Int) by omega]
  refine d_costOf h.c h.sc.2.1 h.ok (by omega) (fun J hJ => ?_)
  rw [costF_same h.wr h.td (by omega)]
  exact hy J hJ.kc
theorem b_planCost (h : CC Γ P I σ κ N σ2 κ2 N2 oc D cs n H) (hy : ∀ J, kpC I J → R (costX D cs) J) : Cl Γ m_X5_planCost [vR 30] P I (ri P R) := by
  refine cl_of n_X5_planCost (Nat.le_of_ble_eq_true rfl) (t_X5_planCost_0 h.b (d_costOfAll h.c h.sc.2.1 h.ok (fun J hJ => ?_)))
  rw [sumF_same h.wr h.td]
  exact hy J hJ.kc
theorem b_blockedTime (h : CC Γ P I σ κ N σ2 κ2 N2 oc D cs n H) {m : Int} (hm : inR m) (hk : mOk D m) (hy : R (bkN D (TD D) m.toNat (D (5 + 9 * m.toNat + 2)).toNat) I) : Cl Γ m_X5_blockedTime [vR 30, vI m] P I (ri P R) := by
  have ha := h.wr.a
  have y1 := hk.1
  have y2 := hk.2
  have hmm := h.wr.2.2.2 m.toNat (by omega)
  have em : m = ((m.toNat : Nat) : Int) := by omega
  rw [← bkN_same h.wr h.p.wo h.td (by omega) _ (by omega)] at hy
  have key : ∀ (f k : Nat), (k : Int) + f = D (5 + 9 * m.toNat + 2) → XM Γ m_X5_blockedTime 0 0 9 [(0, vR 30), (1, vI m), (2, vI (bkN D (I 41) m.toNat k)), (3, vI (k : Int))] [] P I (ri P R) := by
    intro f
    induction f with
    | zero =>
      intro k hk2
      refine t_X5_blockedTime_9 h.b ⟨by omega, by omega, ⟨by omega, by omega⟩, ?_⟩
      rw [(h.p.sh.2.2.2.1 m.toNat (by omega)).2.2]
      refine ⟨⟨by omega, by omega⟩, fun _ => ?_, fun z => absurd (by omega) z⟩
      rwa [show (D (5 + 9 * m.toNat + 2)).toNat = k by omega] at hy
    | succ f ih =>
      intro k hk2
      have hv := (h.p.wo.1 m.toNat k (by omega) (by omega)).1
      have h36 := hv.1
      have e := h.p.pl.2 m.toNat k (by omega) (by omega)
      refine t_X5_blockedTime_9 h.b ⟨by omega, by omega, ⟨by omega, by omega⟩, ?_⟩
      rw [(h.p.sh.2.2.2.1 m.toNat (by omega)).2.2]
      refine ⟨⟨by omega, by omega⟩, fun z => absurd z (by omega), fun _ => ⟨by omega, by omega, ?_⟩⟩
      intro u hu
      rw [show (m * 6 + (k : Int)).toNat = 6 * m.toNat + k by omega, e] at hu
      rw [hu]
      refine ⟨⟨by omega, by omega⟩, by omega, ?_⟩
      have e6 : 6 * (oN D m.toNat k / 6) + oN D m.toNat k % 6 = oN D m.toNat k := by omega
      rw [show (oN D m.toNat k : Int) / 6 = ((oN D m.toNat k / 6 : Nat) : Int) by omega, show (oN D m.toNat k : Int) % 6 = ((oN D m.toNat k % 6 : Nat) : Int) by omega]
      refine d_leaveOf h.c (by rw [e6]; exact hv) ?_
      rw [e6]
      refine d_completedAt h.c hv ?_
      intro w hw
      have := ih (k + 1) (by omega)
      simp only [bkN] at this
      push_cast at this
      rw [hw, show bkN D (I 41) m.toNat k + (leaveF D (I 41) (oN D m.toNat k) - (I 41 (oN D m.toNat k) + D (83 + 2 * oN D m.toNat k + 1))) = bkN D (I 41) m.toNat k + (leaveF D (I 41) (oN D m.toNat k) - I 41 (oN D m.toNat k) - D (83 + 2 * oN D m.toNat k + 1)) by omega]
      exact this
  exact cl_of n_X5_blockedTime (Nat.le_of_ble_eq_true rfl) (t_X5_blockedTime_0 h.b (d_needMachine h hm hk (key (D (5 + 9 * m.toNat + 2)).toNat 0 (by omega))))
theorem CC.po (h : CC Γ P I σ κ N σ2 κ2 N2 oc D cs n H) : opsL D (pathX D) := pathX_ok h.gn.1
theorem b_criticalLength (h : CC Γ P I σ κ N σ2 κ2 N2 oc D cs n H) (hy : ∀ J, kpC I J → R ((pathX D).length : Int) J) : Cl Γ m_X5_criticalLength [vR 30] P I (ri P R) := by
  refine cl_of n_X5_criticalLength (Nat.le_of_ble_eq_true rfl) (t_X5_criticalLength_0 h.b (d_trace h.c h.sc (fun J a b _ => ?_)))
  rw [b]
  exact hy J a.kc
theorem b_critical (h : CC Γ P I σ κ N σ2 κ2 N2 oc D cs n H) {k : Int} (hk : inR k) (h0 : 0 ≤ k) (h1 : k < ((pathX D).length : Int)) (hy : ∀ J, kpC I J → R (tlF (getR (pathX D) k.toNat).toNat) J) : Cl Γ m_X5_critical [vR 30, vI k] P I (ri P R) := by
  have hl := opsL_len h.po
  refine cl_of n_X5_critical (Nat.le_of_ble_eq_true rfl) (t_X5_critical_0 h.b (d_trace h.c h.sc (fun J a b e => ⟨hk, fun z => by omega, fun z => ?_⟩)))
  rw [b]
  refine ⟨⟨by omega, by omega⟩, fun _ => ⟨by omega, by omega, ?_⟩, fun y => absurd h1 y⟩
  have hv := opsL_v h.po _ (getR_mem (l := pathX D) (k := k.toNat) (by omega))
  rw [show (40 : Nat) + 5 = 45 by omega] at e ⊢
  rw [stkR_get e k.toNat (by omega), show getR (pathX D) k.toNat = (((getR (pathX D) k.toNat).toNat : Nat) : Int) by omega]
  exact d_codeOf hv.2.1 (hy J a.kc)
theorem b_blockCount (h : CC Γ P I σ κ N σ2 κ2 N2 oc D cs n H) (hy : ∀ J, kpC I J → R (bcN D (pathX D) (pathX D).length) J) : Cl Γ m_X5_blockCount [vR 30] P I (ri P R) := by
  have hl := opsL_len h.po
  refine cl_of n_X5_blockCount (Nat.le_of_ble_eq_true rfl) (t_X5_blockCount_0 h.b (d_trace h.c h.sc (fun J a b e => ?_)))
  have hC := a.cr h.c
  have key : ∀ (f k : Nat), k + f = (pathX D).length → XM Γ m_X5_blockCount 0 0 11 [(0, vR 30), (1, vI (bcN D (pathX D) k)), (2, vI (k : Int))] [] P J (ri P R) := by
    intro f
    induction f with
    | zero =>
      intro k hk
      refine t_X5_blockCount_11 h.b ⟨⟨by omega, by omega⟩, ?_⟩
      rw [b]
      refine ⟨⟨by omega, by omega⟩, fun _ => ?_, fun z => absurd (by omega) z⟩
      have := hy J a.kc
      rwa [← hk, Nat.add_zero] at this
    | succ f ih =>
      intro k hk
      have nx := ih (k + 1) (by omega)
      unfold bcN at nx
      push_cast at nx
      refine t_X5_blockCount_11 h.b ⟨⟨by omega, by omega⟩, ?_⟩
      rw [b]
      refine ⟨⟨by omega, by omega⟩, fun z => absurd z (by omega), fun _ => d_continuesBlock hC h.po e (by omega) (fun k0 z => ?_) (fun z => ?_)⟩
      · rw [if_neg (by rintro (x | x); exact k0 x; exact x z), Int.add_zero] at nx
        exact ⟨⟨by decide, by decide⟩, fun _ => nx, fun x => absurd x (by decide)⟩
      · rw [if_pos z] at nx
        exact ⟨⟨by decide, by decide⟩, fun x => absurd rfl x, fun _ => nx⟩
  exact key _ 0 (Nat.zero_add _)
theorem b_longestBlock (h : CC Γ P I σ κ N σ2 κ2 N2 oc D cs n H) (hy : ∀ J, kpC I J → R (lbN D (pathX D) (pathX D).length).1 J) : Cl Γ m_X5_longestBlock [vR 30] P I (ri P R) := by
  have hl := opsL_len h.po
  refine cl_of n_X5_longestBlock (Nat.le_of_ble_eq_true rfl) (t_X5_longestBlock_0 h.b (d_trace h.c h.sc (fun J a b e => ?_)))
  have hC := a.cr h.c
  have key : ∀ (f k : Nat), k + f = (pathX D).length → XM Γ m_X5_longestBlock 0 0 13 [(0, vR 30), (1, vI (lbN D (pathX D) k).1), (2, vI (lbN D (pathX D) k).2), (3, vI (k : Int))] [] P J (ri P R) := by
    intro f
    induction f with
    | zero =>
      intro k hk
      refine t_X5_longestBlock_13 h.b ⟨⟨by omega, by omega⟩, ?_⟩
      rw [b]
      refine ⟨⟨by omega, by omega⟩, fun _ => ?_, fun z => absurd (by omega) z⟩
      have := hy J a.kc
      rwa [← hk, Nat.add_zero] at this
    | succ f ih =>
      intro k hk
      have hb := lbN_b (D := D) (l := pathX D) k
      have nx := ih (k + 1) (by omega)
      unfold lbN at nx
      push_cast at nx
      refine t_X5_longestBlock_13 h.b ⟨⟨by omega, by omega⟩, ?_⟩
      rw [b]
      refine ⟨⟨by omega, by omega⟩, fun z => absurd z (by omega), fun _ => d_continuesBlock hC h.po e (by omega) (fun k0 z => ?_) (fun z => ?_)⟩
      · rw [if_neg (by rintro (x | x); exact k0 x; exact x z)] at nx
        refine ⟨⟨by decide, by decide⟩, fun x => absurd x (by decide), fun _ => ?_⟩
        intro u hu
        refine ⟨⟨by omega, by omega⟩, ⟨by omega, by omega⟩, ?_⟩
        intro w hw
        rw [hw, hu]
        exact nx
      · rw [if_pos z] at nx
        refine ⟨⟨by decide, by decide⟩, fun _ => ⟨⟨by omega, by omega⟩, ?_⟩, fun x => absurd rfl x⟩
        intro w hw
        rw [hw]
        exact nx
  exact key _ 0 (Nat.zero_add _)
theorem b_checksum (h : CC Γ P I σ κ N σ2 κ2 N2 oc D cs n H) (hy : ∀ J, kpC I J → R (ckF D cs (TD D)) J) : Cl Γ m_X5_checksum [vR 30] P I (rl P R) := by
  have hW := h.wr
  have ha := hW.a
  have hTc : TBc D (I 41) := h.sc.2.1
  refine cl_of n_X5_checksum (Nat.le_of_ble_eq_true rfl) (t_X5_checksum_0 h.b (d_greatest h.c hTc ⟨spanF_r hW hTc.v, d_costOfAll h.c hTc h.ok (fun J j1 => ⟨sumF_in hW h.ok hTc.v, fun w hw => ?_⟩)⟩))
  rw [hw]
  have hJ := h.q j1.kc
  have e41 : J 41 = I 41 := j1 41 (by decide)
  have fin := hy J j1.kc
  unfold ckF at fin
  rw [← spanF_same hW h.td, ← sumF_same hW h.td, ← stN_same h.td _ _ (Nat.le_refl _)] at fin
  have lp115 : ∀ (j : Nat) (v : Int), (j : Int) < D 2 → XM Γ m_X5_checksum 0 0 98 [(0, vR 30), (1, vL (stN D (I 41) (6 * (j + 1)) v)), (3, vI ((j : Int) + 1))] [] P J (rl P R) → ∀ (f k : Nat), (k : Int) + f = D (59 + 4 * j + 3) → XM Γ m_X5_checksum 0 0 115 [(0, vR 30), (1, vL (stN D (I 41) (6 * j + k) v)), (3, vI (j : Int)), (4, vI (k : Int))] [] P J (rl P R) := by
    intro j v hj hX f
    have hjj := hW.2.1 j (by omega)
    induction f with
    | zero =>
      intro k hk
      refine t_X5_checksum_115 h.b ⟨by omega, by omega, ⟨by omega, by omega⟩, ?_⟩
      rw [Int.toNat_natCast, hJ.p.sh.ops hj]
      refine ⟨⟨by omega, by omega⟩, fun _ => ?_, fun z => absurd (by omega) z⟩
      have sk : ∀ d : Nat, 6 * j + k + d ≤ 6 * (j + 1) → stN D (I 41) (6 * j + k + d) v = stN D (I 41) (6 * j + k) v := by
        intro d
        induction d with
        | zero => intro _; rfl
        | succ d ih =>
          intro hd
          rw [show 6 * j + k + (d + 1) = 6 * j + k + d + 1 by omega]
          simp only [stN]
          rw [vB_f (not_vO (by omega) (by omega)) (by omega), ih (by omega)]
          rfl
      have := sk (6 - k) (by omega)
      rw [show 6 * j + k + (6 - k) = 6 * (j + 1) by omega] at this
      rw [← this]
      exact hX
    | succ f ih =>
      intro k hk
      have hv := is_vO hW hj (k := k) (by omega)
      have h36 := hv.1
      have ht := hTc _ hv
      refine t_X5_checksum_115 h.b ⟨by omega, by omega, ⟨by omega, by omega⟩, ?_⟩
      rw [Int.toNat_natCast, hJ.p.sh.ops hj]
      refine ⟨⟨by omega, by omega⟩, fun z => absurd z (by omega), fun _ => d_idOf ⟨by omega, by omega, ?_⟩⟩
      rw [Int.toNat_natCast, show (40 : Nat) + 1 = 41 by omega, e41]
      refine ⟨⟨by omega, by omega⟩, ?_⟩
      intro u hu
      have := ih (k + 1) (by omega)
      rw [show 6 * j + (k + 1) = 6 * j + k + 1 by omega] at this
      simp only [stN, (vB_t h36).mpr hv, if_true] at this
      push_cast at this
      rw [hu]
      exact this
  have lp98 : ∀ (f j : Nat) (v : Int), (j : Int) + f = D 2 → R (stN D (I 41) 36 v) J → XM Γ m_X5_checksum 0 0 98 [(0, vR 30), (1, vL (stN D (I 41) (6 * j) v)), (3, vI (j : Int))] [] P J (rl P R) := by
    intro f
    induction f with
    | zero =>
      intro j v hj hR
      refine t_X5_checksum_98 h.b ⟨⟨by omega, by omega⟩, ?_⟩
      rw [hJ.p.sh.2.1]
      refine ⟨⟨by omega, by omega⟩, fun _ => ?_, fun z => absurd (by omega) z⟩
      have sk : ∀ d : Nat, 6 * j + d ≤ 36 → stN D (I 41) (6 * j + d) v = stN D (I 41) (6 * j) v := by
        intro d
        induction d with
        | zero => intro _; rfl
        | succ d ih =>
          intro hd
          rw [show 6 * j + (d + 1) = 6 * j + d + 1 by omega]
          simp only [stN]
          rw [vB_f (fun x => by have := x.2.1; omega) (by omega), ih (by omega)]
          rfl
      have := sk (36 - 6 * j) (by omega)
      rw [show 6 * j + (36 - 6 * j) = 36 by omega] at this
      rw [← this]
      exact hR
    | succ f ih =>
      intro j v hj hR
      have hjj := hW.2.1 j (by omega)
      refine t_X5_checksum_98 h.b ⟨⟨by omega, by omega⟩, ?_⟩
      rw [hJ.p.sh.2.1]
      refine ⟨⟨by omega, by omega⟩, fun z => absurd z (by omega), fun _ => ?_⟩
      have := ih (j + 1) v (by omega) hR
      push_cast at this
      exact lp115 j v (by omega) this (D (59 + 4 * j + 3)).toNat 0 (by omega)
  have lp41 : ∀ (m : Nat) (v : Int), (m : Int) < D 0 → XM Γ m_X5_checksum 0 0 24 [(0, vR 30), (1, vL (ordN D m (D (5 + 9 * m + 2)).toNat v)), (3, vI ((m : Int) + 1))] [] P J (rl P R) → ∀ (f k : Nat), k + f = (D (5 + 9 * m + 2)).toNat → XM Γ m_X5_checksum 0 0 41 [(0, vR 30), (1, vL (ordN D m k v)), (3, vI (m : Int)), (4, vI (k : Int))] [] P J (rl P R) := by
    intro m v hm hX f
    have hmm := hW.2.2.2 m (by omega)
    induction f with
    | zero =>
      intro k hk
      refine t_X5_checksum_41 h.b ⟨by omega, by omega, ⟨by omega, by omega⟩, ?_⟩
      rw [Int.toNat_natCast, (hJ.p.sh.2.2.2.1 m hm).2.2]
      refine ⟨⟨by omega, by omega⟩, fun _ => ?_, fun z => absurd (by omega) z⟩
      rw [show k = (D (5 + 9 * m + 2)).toNat by omega]
      exact hX
    | succ f ih =>
      intro k hk
      have hv := h.p.wo.1 m k hm (by omega)
      have h36 := hv.1.1
      refine t_X5_checksum_41 h.b ⟨by omega, by omega, ⟨by omega, by omega⟩, ?_⟩
      rw [Int.toNat_natCast, (hJ.p.sh.2.2.2.1 m hm).2.2]
      refine ⟨⟨by omega, by omega⟩, fun z => absurd z (by omega), fun _ => ⟨by omega, by omega, ?_⟩⟩
      rw [show ((m : Int) * 6 + (k : Int)).toNat = 6 * m + k by omega, hJ.p.pl.2 m k hm (by omega)]
      refine d_codeOf h36 ⟨?_, fun u hu => ?_⟩
      · unfold tlF; exact ⟨by omega, by omega⟩
      · have := ih (k + 1) (by omega)
        simp only [ordN] at this
        push_cast at this
        rw [hu]
        exact this
  have lp24 : ∀ (f m : Nat) (v : Int), (m : Int) + f = D 0 → R (stN D (I 41) 36 (ordA D (D 0).toNat v)) J → XM Γ m_X5_checksum 0 0 24 [(0, vR 30), (1, vL (ordA D m v)), (3, vI (m : Int))] [] P J (rl P R) := by
    intro f
    induction f with
    | zero =>
      intro m v hm hR
      refine t_X5_checksum_24 h.b ⟨⟨by omega, by omega⟩, ?_⟩
      rw [hJ.p.sh.1]
      refine ⟨⟨by omega, by omega⟩, fun _ => ?_, fun z => absurd (by omega) z⟩
      rw [show m = (D 0).toNat by omega]
      exact lp98 (D 2).toNat 0 _ (by omega) hR
    | succ f ih =>
      intro m v hm hR
      refine t_X5_checksum_24 h.b ⟨⟨by omega, by omega⟩, ?_⟩
      rw [hJ.p.sh.1]
      refine ⟨⟨by omega, by omega⟩, fun z => absurd z (by omega), fun _ => ?_⟩
      have := ih (m + 1) v (by omega) hR
      simp only [ordA] at this
      push_cast at this
      exact lp41 m _ (by omega) this (D (5 + 9 * m + 2)).toNat 0 (Nat.zero_add _)
  exact lp24 (D 0).toNat 0 _ (by omega) fin
end M2
