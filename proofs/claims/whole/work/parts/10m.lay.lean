/-! the reference's objects: the object 1, its rows 2 to 12, the rows of its history 13 to 20 -/
def LM (Γ : GG) (P : MP) : Prop := Ob Γ 1 (.inl 6) ∧ P 1 1 = some 2 ∧ Ob Γ 2 (.inr (0, 900)) ∧ P 1 8 = some 3 ∧ Ob Γ 3 (.inr (0, 1655)) ∧ P 1 9 = some 4 ∧ Ob Γ 4 (.inr (0, 1655)) ∧ P 1 10 = some 5 ∧ Ob Γ 5 (.inr (0, 1655)) ∧ P 1 16 = some 7 ∧ Ob Γ 7 (.inr (0, 36)) ∧ P 1 17 = some 8 ∧ Ob Γ 8 (.inr (0, 36)) ∧ P 1 18 = some 9 ∧ Ob Γ 9 (.inr (0, 36)) ∧ P 1 19 = some 10 ∧ Ob Γ 10 (.inr (2, 36)) ∧ P 1 20 = some 11 ∧ Ob Γ 11 (.inr (3, 1500)) ∧ P 1 23 = some 12 ∧ Ob Γ 12 (.inr (0, 36)) ∧ P 1 11 = some 6 ∧ Ob Γ 6 (.inr (5, 8)) ∧ (∀ i, i < 8 → P 6 i = some (13 + i) ∧ Ob Γ (13 + i) (.inr (0, 1655)))
theorem LM_ob {Γ : GG} {P : MP} (h : LM Γ P) : Ob Γ 1 (.inl 6) := h.1
theorem LM_p1 {Γ : GG} {P : MP} (h : LM Γ P) : P 1 1 = some 2 := h.2.1
theorem LM_a1 {Γ : GG} {P : MP} (h : LM Γ P) : Ob Γ 2 (.inr (0, 900)) := h.2.2.1
theorem LM_p8 {Γ : GG} {P : MP} (h : LM Γ P) : P 1 8 = some 3 := h.2.2.2.1
theorem LM_a8 {Γ : GG} {P : MP} (h : LM Γ P) : Ob Γ 3 (.inr (0, 1655)) := h.2.2.2.2.1
theorem LM_p9 {Γ : GG} {P : MP} (h : LM Γ P) : P 1 9 = some 4 := h.2.2.2.2.2.1
theorem LM_a9 {Γ : GG} {P : MP} (h : LM Γ P) : Ob Γ 4 (.inr (0, 1655)) := h.2.2.2.2.2.2.1
theorem LM_p10 {Γ : GG} {P : MP} (h : LM Γ P) : P 1 10 = some 5 := h.2.2.2.2.2.2.2.1
theorem LM_a10 {Γ : GG} {P : MP} (h : LM Γ P) : Ob Γ 5 (.inr (0, 1655)) := h.2.2.2.2.2.2.2.2.1
theorem LM_p16 {Γ : GG} {P : MP} (h : LM Γ P) : P 1 16 = some 7 := h.2.2.2.2.2.2.2.2.2.1
theorem LM_a16 {Γ : GG} {P : MP} (h : LM Γ P) : Ob Γ 7 (.inr (0, 36)) := h.2.2.2.2.2.2.2.2.2.2.1
theorem LM_p17 {Γ : GG} {P : MP} (h : LM Γ P) : P 1 17 = some 8 := h.2.2.2.2.2.2.2.2.2.2.2.1
theorem LM_a17 {Γ : GG} {P : MP} (h : LM Γ P) : Ob Γ 8 (.inr (0, 36)) := h.2.2.2.2.2.2.2.2.2.2.2.2.1
theorem LM_p18 {Γ : GG} {P : MP} (h : LM Γ P) : P 1 18 = some 9 := h.2.2.2.2.2.2.2.2.2.2.2.2.2.1
theorem LM_a18 {Γ : GG} {P : MP} (h : LM Γ P) : Ob Γ 9 (.inr (0, 36)) := h.2.2.2.2.2.2.2.2.2.2.2.2.2.2.1
theorem LM_p19 {Γ : GG} {P : MP} (h : LM Γ P) : P 1 19 = some 10 := h.2.2.2.2.2.2.2.2.2.2.2.2.2.2.2.1
theorem LM_a19 {Γ : GG} {P : MP} (h : LM Γ P) : Ob Γ 10 (.inr (2, 36)) := h.2.2.2.2.2.2.2.2.2.2.2.2.2.2.2.2.1
theorem LM_p20 {Γ : GG} {P : MP} (h : LM Γ P) : P 1 20 = some 11 := h.2.2.2.2.2.2.2.2.2.2.2.2.2.2.2.2.2.1
theorem LM_a20 {Γ : GG} {P : MP} (h : LM Γ P) : Ob Γ 11 (.inr (3, 1500)) := h.2.2.2.2.2.2.2.2.2.2.2.2.2.2.2.2.2.2.1
theorem LM_p23 {Γ : GG} {P : MP} (h : LM Γ P) : P 1 23 = some 12 := h.2.2.2.2.2.2.2.2.2.2.2.2.2.2.2.2.2.2.2.1
theorem LM_a23 {Γ : GG} {P : MP} (h : LM Γ P) : Ob Γ 12 (.inr (0, 36)) := h.2.2.2.2.2.2.2.2.2.2.2.2.2.2.2.2.2.2.2.2.1
theorem LM_p11 {Γ : GG} {P : MP} (h : LM Γ P) : P 1 11 = some 6 := h.2.2.2.2.2.2.2.2.2.2.2.2.2.2.2.2.2.2.2.2.2.1
theorem LM_a11 {Γ : GG} {P : MP} (h : LM Γ P) : Ob Γ 6 (.inr (5, 8)) := h.2.2.2.2.2.2.2.2.2.2.2.2.2.2.2.2.2.2.2.2.2.2.1
theorem LM_hh {Γ : GG} {P : MP} (h : LM Γ P) : (∀ i, i < 8 → P 6 i = some (13 + i) ∧ Ob Γ (13 + i) (.inr (0, 1655))) := h.2.2.2.2.2.2.2.2.2.2.2.2.2.2.2.2.2.2.2.2.2.2.2
theorem LM_h {Γ : GG} {P : MP} (h : LM Γ P) {j : Int} (h0 : 0 ≤ j) (h1 : j < 8) : P 6 j.toNat = some (13 + j.toNat) ∧ Ob Γ (13 + j.toNat) (.inr (0, 1655)) := LM_hh h j.toNat (by omega)
theorem oc_X3_99 : (RX3, 99, "shop", 7) ∈ occS := by decide +kernel
theorem oc_X3_61 : (RX3, 61, "job", 3) ∈ occS := by decide +kernel
theorem oc_X3_127 : (RX3, 127, "op", 5) ∈ occS := by decide +kernel
theorem oc_X3_70 : (RX3, 70, "machine", 4) ∈ occS := by decide +kernel
theorem oc_X3_75 : (RX3, 75, "cost", 1) ∈ occS := by decide +kernel
theorem oc_X3_173 : (RX3, 173, "completion", 0) ∈ occS := by decide +kernel
theorem oc_X3_175 : (RX3, 175, "due", 2) ∈ occS := by decide +kernel
theorem oc_X3_176 : (RX3, 176, "weight", 8) ∈ occS := by decide +kernel
theorem oc_X3_177 : (RX3, 177, "release", 6) ∈ occS := by decide +kernel
theorem oc_X6_178 : (RX6, 178, "shop", 7) ∈ occS := by decide +kernel
theorem oc_X6_161 : (RX6, 161, "job", 3) ∈ occS := by decide +kernel
theorem oc_X6_150 : (RX6, 150, "op", 5) ∈ occS := by decide +kernel
theorem oc_X6_165 : (RX6, 165, "machine", 4) ∈ occS := by decide +kernel
theorem oc_X6_169 : (RX6, 169, "cost", 1) ∈ occS := by decide +kernel
theorem oc_X6_120 : (RX6, 120, "completion", 0) ∈ occS := by decide +kernel
theorem oc_X6_126 : (RX6, 126, "due", 2) ∈ occS := by decide +kernel
theorem oc_X6_128 : (RX6, 128, "weight", 8) ∈ occS := by decide +kernel
theorem oc_X6_130 : (RX6, 130, "release", 6) ∈ occS := by decide +kernel
