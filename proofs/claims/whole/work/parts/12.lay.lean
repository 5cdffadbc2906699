/-! the class's objects: where they are -/
def LShop (Γ : GG) (P : MP) (σ : Nat) (κ : Nat) (n : Nat) : Prop := Ob Γ σ (.inl 4) ∧ P σ 3 = some (σ + 1) ∧ Ob Γ (σ + 1) (.inr (2, 6)) ∧ P σ 4 = some (σ + 2) ∧ Ob Γ (σ + 2) (.inr (0, 6)) ∧ P σ 5 = some (σ + 3) ∧ Ob Γ (σ + 3) (.inr (0, 6)) ∧ P σ 6 = some (σ + 4) ∧ Ob Γ (σ + 4) (.inr (0, 6)) ∧ P σ 7 = some (σ + 5) ∧ Ob Γ (σ + 5) (.inr (0, 6)) ∧ P σ 8 = some (σ + 6) ∧ Ob Γ (σ + 6) (.inr (0, 6)) ∧ P σ 9 = some (σ + 7) ∧ Ob Γ (σ + 7) (.inr (0, 6)) ∧ P σ 10 = some (σ + 8) ∧ Ob Γ (σ + 8) (.inr (0, 36)) ∧ P σ 11 = some (σ + 9) ∧ Ob Γ (σ + 9) (.inr (0, 36)) ∧ P σ 12 = some κ ∧ Ob Γ κ (.inr (0, n)) ∧ n < 2147483648
theorem LShop_ob {Γ : GG} {P : MP} {σ : Nat} {κ : Nat} {n : Nat} (h : LShop Γ P σ κ n) : Ob Γ σ (.inl 4) := h.1
theorem LShop_p3 {Γ : GG} {P : MP} {σ : Nat} {κ : Nat} {n : Nat} (h : LShop Γ P σ κ n) : P σ 3 = some (σ + 1) := h.2.1
theorem LShop_a3 {Γ : GG} {P : MP} {σ : Nat} {κ : Nat} {n : Nat} (h : LShop Γ P σ κ n) : Ob Γ (σ + 1) (.inr (2, 6)) := h.2.2.1
theorem LShop_p4 {Γ : GG} {P : MP} {σ : Nat} {κ : Nat} {n : Nat} (h : LShop Γ P σ κ n) : P σ 4 = some (σ + 2) := h.2.2.2.1
theorem LShop_a4 {Γ : GG} {P : MP} {σ : Nat} {κ : Nat} {n : Nat} (h : LShop Γ P σ κ n) : Ob Γ (σ + 2) (.inr (0, 6)) := h.2.2.2.2.1
theorem LShop_p5 {Γ : GG} {P : MP} {σ : Nat} {κ : Nat} {n : Nat} (h : LShop Γ P σ κ n) : P σ 5 = some (σ + 3) := h.2.2.2.2.2.1
theorem LShop_a5 {Γ : GG} {P : MP} {σ : Nat} {κ : Nat} {n : Nat} (h : LShop Γ P σ κ n) : Ob Γ (σ + 3) (.inr (0, 6)) := h.2.2.2.2.2.2.1
theorem LShop_p6 {Γ : GG} {P : MP} {σ : Nat} {κ : Nat} {n : Nat} (h : LShop Γ P σ κ n) : P σ 6 = some (σ + 4) := h.2.2.2.2.2.2.2.1
theorem LShop_a6 {Γ : GG} {P : MP} {σ : Nat} {κ : Nat} {n : Nat} (h : LShop Γ P σ κ n) : Ob Γ (σ + 4) (.inr (0, 6)) := h.2.2.2.2.2.2.2.2.1
theorem LShop_p7 {Γ : GG} {P : MP} {σ : Nat} {κ : Nat} {n : Nat} (h : LShop Γ P σ κ n) : P σ 7 = some (σ + 5) := h.2.2.2.2.2.2.2.2.2.1
theorem LShop_a7 {Γ : GG} {P : MP} {σ : Nat} {κ : Nat} {n : Nat} (h : LShop Γ P σ κ n) : Ob Γ (σ + 5) (.inr (0, 6)) := h.2.2.2.2.2.2.2.2.2.2.1
theorem LShop_p8 {Γ : GG} {P : MP} {σ : Nat} {κ : Nat} {n : Nat} (h : LShop Γ P σ κ n) : P σ 8 = some (σ + 6) := h.2.2.2.2.2.2.2.2.2.2.2.1
theorem LShop_a8 {Γ : GG} {P : MP} {σ : Nat} {κ : Nat} {n : Nat} (h : LShop Γ P σ κ n) : Ob Γ (σ + 6) (.inr (0, 6)) := h.2.2.2.2.2.2.2.2.2.2.2.2.1
theorem LShop_p9 {Γ : GG} {P : MP} {σ : Nat} {κ : Nat} {n : Nat} (h : LShop Γ P σ κ n) : P σ 9 = some (σ + 7) := h.2.2.2.2.2.2.2.2.2.2.2.2.2.1
theorem LShop_a9 {Γ : GG} {P : MP} {σ : Nat} {κ : Nat} {n : Nat} (h : LShop Γ P σ κ n) : Ob Γ (σ + 7) (.inr (0, 6)) := h.2.2.2.2.2.2.2.2.2.2.2.2.2.2.1
theorem LShop_p10 {Γ : GG} {P : MP} {σ : Nat} {κ : Nat} {n : Nat} (h : LShop Γ P σ κ n) : P σ 10 = some (σ + 8) := h.2.2.2.2.2.2.2.2.2.2.2.2.2.2.2.1
theorem LShop_a10 {Γ : GG} {P : MP} {σ : Nat} {κ : Nat} {n : Nat} (h : LShop Γ P σ κ n) : Ob Γ (σ + 8) (.inr (0, 36)) := h.2.2.2.2.2.2.2.2.2.2.2.2.2.2.2.2.1
theorem LShop_p11 {Γ : GG} {P : MP} {σ : Nat} {κ : Nat} {n : Nat} (h : LShop Γ P σ κ n) : P σ 11 = some (σ + 9) := h.2.2.2.2.2.2.2.2.2.2.2.2.2.2.2.2.2.1
theorem LShop_a11 {Γ : GG} {P : MP} {σ : Nat} {κ : Nat} {n : Nat} (h : LShop Γ P σ κ n) : Ob Γ (σ + 9) (.inr (0, 36)) := h.2.2.2.2.2.2.2.2.2.2.2.2.2.2.2.2.2.2.1
theorem LShop_p12 {Γ : GG} {P : MP} {σ : Nat} {κ : Nat} {n : Nat} (h : LShop Γ P σ κ n) : P σ 12 = some κ := h.2.2.2.2.2.2.2.2.2.2.2.2.2.2.2.2.2.2.2.1
theorem LShop_a12 {Γ : GG} {P : MP} {σ : Nat} {κ : Nat} {n : Nat} (h : LShop Γ P σ κ n) : Ob Γ κ (.inr (0, n)) := h.2.2.2.2.2.2.2.2.2.2.2.2.2.2.2.2.2.2.2.2.1
theorem LShop_n {Γ : GG} {P : MP} {σ : Nat} {κ : Nat} {n : Nat} (h : LShop Γ P σ κ n) : n < 2147483648 := h.2.2.2.2.2.2.2.2.2.2.2.2.2.2.2.2.2.2.2.2.2
def LPlan (Γ : GG) (P : MP) (q : Nat) (σ : Nat) (κ : Nat) (n : Nat) : Prop := Ob Γ q (.inl 1) ∧ P q 0 = some σ ∧ P q 1 = some (q + 1) ∧ Ob Γ (q + 1) (.inr (0, 36)) ∧ P q 2 = some (q + 2) ∧ Ob Γ (q + 2) (.inr (0, 36)) ∧ LShop Γ P σ κ n
theorem LPlan_ob {Γ : GG} {P : MP} {q : Nat} {σ : Nat} {κ : Nat} {n : Nat} (h : LPlan Γ P q σ κ n) : Ob Γ q (.inl 1) := h.1
theorem LPlan_p0 {Γ : GG} {P : MP} {q : Nat} {σ : Nat} {κ : Nat} {n : Nat} (h : LPlan Γ P q σ κ n) : P q 0 = some σ := h.2.1
theorem LPlan_p1 {Γ : GG} {P : MP} {q : Nat} {σ : Nat} {κ : Nat} {n : Nat} (h : LPlan Γ P q σ κ n) : P q 1 = some (q + 1) := h.2.2.1
theorem LPlan_a1 {Γ : GG} {P : MP} {q : Nat} {σ : Nat} {κ : Nat} {n : Nat} (h : LPlan Γ P q σ κ n) : Ob Γ (q + 1) (.inr (0, 36)) := h.2.2.2.1
theorem LPlan_p2 {Γ : GG} {P : MP} {q : Nat} {σ : Nat} {κ : Nat} {n : Nat} (h : LPlan Γ P q σ κ n) : P q 2 = some (q + 2) := h.2.2.2.2.1
theorem LPlan_a2 {Γ : GG} {P : MP} {q : Nat} {σ : Nat} {κ : Nat} {n : Nat} (h : LPlan Γ P q σ κ n) : Ob Γ (q + 2) (.inr (0, 36)) := h.2.2.2.2.2.1
theorem LPlan_s {Γ : GG} {P : MP} {q : Nat} {σ : Nat} {κ : Nat} {n : Nat} (h : LPlan Γ P q σ κ n) : LShop Γ P σ κ n := h.2.2.2.2.2.2
def LCost (Γ : GG) (P : MP) (c : Nat) (w : Nat) : Prop := Ob Γ c (.inl 0) ∧ P c 0 = some w ∧ Ob Γ w (.inr (0, 11))
theorem LCost_ob {Γ : GG} {P : MP} {c : Nat} {w : Nat} (h : LCost Γ P c w) : Ob Γ c (.inl 0) := h.1
theorem LCost_p0 {Γ : GG} {P : MP} {c : Nat} {w : Nat} (h : LCost Γ P c w) : P c 0 = some w := h.2.1
theorem LCost_a0 {Γ : GG} {P : MP} {c : Nat} {w : Nat} (h : LCost Γ P c w) : Ob Γ w (.inr (0, 11)) := h.2.2
def LSch (Γ : GG) (P : MP) (q : Nat) (σ : Nat) (κ : Nat) (n : Nat) : Prop := Ob Γ q (.inl 2) ∧ P q 0 = some (q + 8) ∧ P q 1 = some (q + 1) ∧ Ob Γ (q + 1) (.inr (0, 36)) ∧ P q 2 = some (q + 2) ∧ Ob Γ (q + 2) (.inr (0, 36)) ∧ P q 3 = some (q + 3) ∧ Ob Γ (q + 3) (.inr (0, 36)) ∧ P q 4 = some (q + 4) ∧ Ob Γ (q + 4) (.inr (2, 36)) ∧ P q 5 = some (q + 5) ∧ Ob Γ (q + 5) (.inr (0, 36)) ∧ P q 7 = some (q + 6) ∧ LCost Γ P (q + 6) (q + 7) ∧ LPlan Γ P (q + 8) σ κ n
theorem LSch_ob {Γ : GG} {P : MP} {q : Nat} {σ : Nat} {κ : Nat} {n : Nat} (h : LSch Γ P q σ κ n) : Ob Γ q (.inl 2) := h.1
theorem LSch_p0 {Γ : GG} {P : MP} {q : Nat} {σ : Nat} {κ : Nat} {n : Nat} (h : LSch Γ P q σ κ n) : P q 0 = some (q + 8) := h.2.1
theorem LSch_p1 {Γ : GG} {P : MP} {q : Nat} {σ : Nat} {κ : Nat} {n : Nat} (h : LSch Γ P q σ κ n) : P q 1 = some (q + 1) := h.2.2.1
theorem LSch_a1 {Γ : GG} {P : MP} {q : Nat} {σ : Nat} {κ : Nat} {n : Nat} (h : LSch Γ P q σ κ n) : Ob Γ (q + 1) (.inr (0, 36)) := h.2.2.2.1
theorem LSch_p2 {Γ : GG} {P : MP} {q : Nat} {σ : Nat} {κ : Nat} {n : Nat} (h : LSch Γ P q σ κ n) : P q 2 = some (q + 2) := h.2.2.2.2.1
theorem LSch_a2 {Γ : GG} {P : MP} {q : Nat} {σ : Nat} {κ : Nat} {n : Nat} (h : LSch Γ P q σ κ n) : Ob Γ (q + 2) (.inr (0, 36)) := h.2.2.2.2.2.1
theorem LSch_p3 {Γ : GG} {P : MP} {q : Nat} {σ : Nat} {κ : Nat} {n : Nat} (h : LSch Γ P q σ κ n) : P q 3 = some (q + 3) := h.2.2.2.2.2.2.1
theorem LSch_a3 {Γ : GG} {P : MP} {q : Nat} {σ : Nat} {κ : Nat} {n : Nat} (h : LSch Γ P q σ κ n) : Ob Γ (q + 3) (.inr (0, 36)) := h.2.2.2.2.2.2.2.1
theorem LSch_p4 {Γ : GG} {P : MP} {q : Nat} {σ : Nat} {κ : Nat} {n : Nat} (h : LSch Γ P q σ κ n) : P q 4 = some (q + 4) := h.2.2.2.2.2.2.2.2.1
theorem LSch_a4 {Γ : GG} {P : MP} {q : Nat} {σ : Nat} {κ : Nat} {n : Nat} (h : LSch Γ P q σ κ n) : Ob Γ (q + 4) (.inr (2, 36)) := h.2.2.2.2.2.2.2.2.2.1
theorem LSch_p5 {Γ : GG} {P : MP} {q : Nat} {σ : Nat} {κ : Nat} {n : Nat} (h : LSch Γ P q σ κ n) : P q 5 = some (q + 5) := h.2.2.2.2.2.2.2.2.2.2.1
theorem LSch_a5 {Γ : GG} {P : MP} {q : Nat} {σ : Nat} {κ : Nat} {n : Nat} (h : LSch Γ P q σ κ n) : Ob Γ (q + 5) (.inr (0, 36)) := h.2.2.2.2.2.2.2.2.2.2.2.1
theorem LSch_p7 {Γ : GG} {P : MP} {q : Nat} {σ : Nat} {κ : Nat} {n : Nat} (h : LSch Γ P q σ κ n) : P q 7 = some (q + 6) := h.2.2.2.2.2.2.2.2.2.2.2.2.1
theorem LSch_c {Γ : GG} {P : MP} {q : Nat} {σ : Nat} {κ : Nat} {n : Nat} (h : LSch Γ P q σ κ n) : LCost Γ P (q + 6) (q + 7) := h.2.2.2.2.2.2.2.2.2.2.2.2.2.1
theorem LSch_p {Γ : GG} {P : MP} {q : Nat} {σ : Nat} {κ : Nat} {n : Nat} (h : LSch Γ P q σ κ n) : LPlan Γ P (q + 8) σ κ n := h.2.2.2.2.2.2.2.2.2.2.2.2.2.2
def LRead (Γ : GG) (P : MP) : Prop := Ob Γ 31 (.inl 3) ∧ P 31 0 = some 32 ∧ Ob Γ 32 (.inr (1, 900)) ∧ P 31 8 = some 33 ∧ Ob Γ 33 (.inr (0, 900))
theorem LRead_ob {Γ : GG} {P : MP} (h : LRead Γ P) : Ob Γ 31 (.inl 3) := h.1
theorem LRead_p0 {Γ : GG} {P : MP} (h : LRead Γ P) : P 31 0 = some 32 := h.2.1
theorem LRead_a0 {Γ : GG} {P : MP} (h : LRead Γ P) : Ob Γ 32 (.inr (1, 900)) := h.2.2.1
theorem LRead_p8 {Γ : GG} {P : MP} (h : LRead Γ P) : P 31 8 = some 33 := h.2.2.2.1
theorem LRead_a8 {Γ : GG} {P : MP} (h : LRead Γ P) : Ob Γ 33 (.inr (0, 900)) := h.2.2.2.2
def LBS (Γ : GG) (P : MP) (σ : Nat) (κ : Nat) (n : Nat) (σ2 : Nat) (κ2 : Nat) (n2 : Nat) : Prop := Ob Γ 30 (.inl 5) ∧ P 30 0 = some 31 ∧ LRead Γ P ∧ P 30 3 = some 40 ∧ LSch Γ P 40 σ κ n ∧ P 30 4 = some 48 ∧ P 30 5 = some 60 ∧ LSch Γ P 60 σ2 κ2 n2 ∧ P 30 6 = some 68 ∧ P 30 7 = some 34 ∧ Ob Γ 34 (.inr (4, 8)) ∧ (∀ i : Nat, i < 8 → P 34 i = some (80 + 3 * i) ∧ ∃ σ3 κ3 n3 : Nat, LPlan Γ P (80 + 3 * i) σ3 κ3 n3)
theorem LBS_ob {Γ : GG} {P : MP} {σ : Nat} {κ : Nat} {n : Nat} {σ2 : Nat} {κ2 : Nat} {n2 : Nat} (h : LBS Γ P σ κ n σ2 κ2 n2) : Ob Γ 30 (.inl 5) := h.1
theorem LBS_p0 {Γ : GG} {P : MP} {σ : Nat} {κ : Nat} {n : Nat} {σ2 : Nat} {κ2 : Nat} {n2 : Nat} (h : LBS Γ P σ κ n σ2 κ2 n2) : P 30 0 = some 31 := h.2.1
theorem LBS_r {Γ : GG} {P : MP} {σ : Nat} {κ : Nat} {n : Nat} {σ2 : Nat} {κ2 : Nat} {n2 : Nat} (h : LBS Γ P σ κ n σ2 κ2 n2) : LRead Γ P := h.2.2.1
theorem LBS_p3 {Γ : GG} {P : MP} {σ : Nat} {κ : Nat} {n : Nat} {σ2 : Nat} {κ2 : Nat} {n2 : Nat} (h : LBS Γ P σ κ n σ2 κ2 n2) : P 30 3 = some 40 := h.2.2.2.1
theorem LBS_s {Γ : GG} {P : MP} {σ : Nat} {κ : Nat} {n : Nat} {σ2 : Nat} {κ2 : Nat} {n2 : Nat} (h : LBS Γ P σ κ n σ2 κ2 n2) : LSch Γ P 40 σ κ n := h.2.2.2.2.1
theorem LBS_p4 {Γ : GG} {P : MP} {σ : Nat} {κ : Nat} {n : Nat} {σ2 : Nat} {κ2 : Nat} {n2 : Nat} (h : LBS Γ P σ κ n σ2 κ2 n2) : P 30 4 = some 48 := h.2.2.2.2.2.1
theorem LBS_p5 {Γ : GG} {P : MP} {σ : Nat} {κ : Nat} {n : Nat} {σ2 : Nat} {κ2 : Nat} {n2 : Nat} (h : LBS Γ P σ κ n σ2 κ2 n2) : P 30 5 = some 60 := h.2.2.2.2.2.2.1
theorem LBS_t {Γ : GG} {P : MP} {σ : Nat} {κ : Nat} {n : Nat} {σ2 : Nat} {κ2 : Nat} {n2 : Nat} (h : LBS Γ P σ κ n σ2 κ2 n2) : LSch Γ P 60 σ2 κ2 n2 := h.2.2.2.2.2.2.2.1
theorem LBS_p6 {Γ : GG} {P : MP} {σ : Nat} {κ : Nat} {n : Nat} {σ2 : Nat} {κ2 : Nat} {n2 : Nat} (h : LBS Γ P σ κ n σ2 κ2 n2) : P 30 6 = some 68 := h.2.2.2.2.2.2.2.2.1
theorem LBS_p7 {Γ : GG} {P : MP} {σ : Nat} {κ : Nat} {n : Nat} {σ2 : Nat} {κ2 : Nat} {n2 : Nat} (h : LBS Γ P σ κ n σ2 κ2 n2) : P 30 7 = some 34 := h.2.2.2.2.2.2.2.2.2.1
theorem LBS_a7 {Γ : GG} {P : MP} {σ : Nat} {κ : Nat} {n : Nat} {σ2 : Nat} {κ2 : Nat} {n2 : Nat} (h : LBS Γ P σ κ n σ2 κ2 n2) : Ob Γ 34 (.inr (4, 8)) := h.2.2.2.2.2.2.2.2.2.2.1
theorem LBS_hh {Γ : GG} {P : MP} {σ : Nat} {κ : Nat} {n : Nat} {σ2 : Nat} {κ2 : Nat} {n2 : Nat} (h : LBS Γ P σ κ n σ2 κ2 n2) : (∀ i : Nat, i < 8 → P 34 i = some (80 + 3 * i) ∧ ∃ σ3 κ3 n3 : Nat, LPlan Γ P (80 + 3 * i) σ3 κ3 n3) := h.2.2.2.2.2.2.2.2.2.2.2
theorem LBS_h {Γ : GG} {P : MP} {σ κ n σ2 κ2 n2 : Nat} (h : LBS Γ P σ κ n σ2 κ2 n2) {j : Int} (h0 : 0 ≤ j) (h1 : j < 8) : P 34 j.toNat = some (80 + 3 * j.toNat) ∧ Ob Γ (80 + 3 * j.toNat) (.inl 1) ∧ Ob Γ (80 + 3 * j.toNat + 1) (.inr (0, 36)) ∧ Ob Γ (80 + 3 * j.toNat + 2) (.inr (0, 36)) := by
  obtain ⟨h2, σ3, κ3, n3, h3⟩ := LBS_hh h j.toNat (by omega)
  exact ⟨h2, LPlan_ob h3, LPlan_a1 h3, LPlan_a2 h3⟩
