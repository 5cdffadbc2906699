/-! THE CLASS: readInto, behind the reading -/
def riF (σ : Nat) (I J : MM) : Prop := ∀ r : Nat, r ≠ 31 → r ≠ 33 → (r < σ ∨ σ + 10 ≤ r) → J r = I r
theorem riF.refl {σ : Nat} (I : MM) : riF σ I I := fun _ _ _ _ => rfl
theorem riF.trans {σ : Nat} {A B C : MM} (h : riF σ A B) (k : riF σ B C) : riF σ A C := fun r a b c => (k r a b c).trans (h r a b c)
theorem jsF.ri {σ : Nat} {I J : MM} (h : jsF σ I J) : riF σ I J := fun r a _ c => h.1 r a c
theorem ccF.ri {σ : Nat} {I J : MM} (h : ccF I J) : riF σ I J := fun r a b _ => h.1 r a b
theorem tcF.ri {σ : Nat} {I J : MM} (h : tcF I J) : riF σ I J := fun r a _ _ => h.1 r a
theorem riF.u {σ : Nat} {I : MM} {i : Nat} {v : Int} : riF σ I (up2 I 31 i v) := fun _ a _ _ => up2_ne a
abbrev mA_X3r : MI := (yX3_readInto, RX3, cX3_readInto, 4, none, { frames := 30, cells := 1, slots := 900, locals := 1200 })
theorem nA_X3r : Nm mA_X3r := ⟨by decide +kernel, rfl⟩
theorem kA_X3r : LkV mA_X3r 2 := k_X3_readInto
/-- the cost rule that the reader holds -/
def HCst (J : MM) (D : Nat → Int) (cs : List Int) : Prop := J 31 7 = D 3 ∧ (D 3 = 0 → J 31 9 = 0) ∧ (D 3 ≠ 0 → J 31 9 = (cs.length : Int) ∧ cs.length ≤ 899 ∧ ∀ i : Nat, i < cs.length → cs[i]? = some (J 33 i))
/-- a statement goes on at p -/
def RG5 (σ : Nat) (I0 J : MM) (T : Nat → Int) (L p : Nat) (D : Nat → Int) (cs : List Int) : Prop := TK J T L p ∧ SHd J σ D ∧ J σ 1 = D 2 ∧ RDx D 6 ∧ RCx D cs ∧ HCst J D cs ∧ riF σ I0 J
def RB5 (σ : Nat) (I0 J : MM) (L : Nat) (e : Er) : Prop := TKb J L e ∧ (J 31 7 = 0 ∨ J 31 7 = 1) ∧ riF σ I0 J
/-- how the reading of a text may end -/
def h1T (Γ : GG) (P : MP) (I0 : MM) (T : Nat → Int) (L σ : Nat) (QG : KG) : Prop := ∀ (Γ' : GG) (P' : MP) (J : MM) (D : Nat → Int) (cs : List Int) (κ' N' : Nat), lodS T L = .ok (D, cs) → RDx D 6 → RCx D cs → D 2 ≠ 0 → Kp Γ Γ' → (∀ lo hi, (σ + 11 < lo ∨ hi ≤ σ) → Bw Γ P lo hi → Bw Γ' P' lo hi) → (∀ j, j ≠ σ → j ≠ σ + 11 → P' j = P j) → (∀ r, r ≠ 31 → r ≠ 33 → (r < σ ∨ σ + 12 ≤ r) → J r = I0 r) → LShop Γ' P' σ κ' N' → (κ' = σ + 10 ∨ κ' = σ + 11) → SHd J σ D → J σ 1 = D 2 → CSr J κ' N' cs → J 31 5 = 0 → J 31 6 = -1 → QG Γ' none P' J
def h0T (Γ : GG) (P : MP) (I0 : MM) (T : Nat → Int) (L σ : Nat) (QG : KG) : Prop := ∀ (J : MM) (e : Er), lodS T L = .error e → riF σ I0 J → J 31 5 = e.1 → e.1 ≠ 0 → inR e.1 → J 31 6 = (e.2 : Int) → QG Γ none P J
section M5
variable {Γ : GG} {P : MP} {I0 : MM} {T : Nat → Int} {L σ : Nat} {QG : KG} {al : List (Nat × AV)}
theorem ri_bad168 (hr : LRead Γ P) (h0 : h0T Γ P I0 T L σ QG) {J : MM} {e : Er} (hl : lodS T L = .error e) (b : RB5 σ I0 J L e) {x y : AV} : XP Γ Γ mA_X3r 0 0 168 [(0, vR 31), (1, vR σ), (2, x), (3, y)] [] P J (KQ Γ QG) := by
  obtain ⟨⟨b1, b2, b3, b4, b5, b6, b7⟩, b8, bF⟩ := b
  have fin : XP Γ Γ mA_X3r 0 0 197 [(0, vR 31), (1, vR σ), (2, x), (3, y)] [] P J (KQ Γ QG) := y_vret (ρ := gr Γ) (ids := gi Γ) (ty := gt Γ) dX3_readInto_197 rfl (Nat.zero_le _) (Nat.zero_le _) Kp.rf (h0 J e hl bF b2 b3 b4 b5)
  refine y_aload_n 0 dX3_readInto_168 rfl ?_
  refine y_getI dX3_readInto_169 FC3 7 (by decide) rfl fl_X3_34 (LRead_ob hr) ?_
  refine y_if_eq 197 dX3_readInto_172 (by decide) (by unfold inR; omega) (fun _ => fin) (fun _ => ?_)
  refine y_aload_n 0 dX3_readInto_175 rfl ?_
  refine y_getI dX3_readInto_176 FC3 5 (by decide) rfl fl_X3_28 (LRead_ob hr) ?_
  exact y_if_ne 197 dX3_readInto_179 (by decide) (by rw [b2]; exact b4) (fun _ => fin) (fun z => absurd (b2.symm.trans z) b3)
theorem ri_bad162 (hr : LRead Γ P) (h0 : h0T Γ P I0 T L σ QG) {J : MM} {e : Er} (hl : lodS T L = .error e) (b : RB5 σ I0 J L e) {x y : AV} : XP Γ Γ mA_X3r 0 0 162 [(0, vR 31), (1, vR σ), (2, x), (3, y)] [] P J (KQ Γ QG) := by
  refine y_aload_n 0 dX3_readInto_162 rfl ?_
  refine y_bipush dX3_readInto_163 rfl ?_
  refine y_Vv (μ := mA_X3r) (Γ := Γ) dX3_readInto_165 (d_fail0 (Rv := fun K => RB5 σ I0 K L e) hr b.1 (fun K k1 k2 => ⟨k2, by rw [k1.2 7 (by decide)]; exact b.2.1, b.2.2.trans k1.ri⟩)) k_X3_fail ml_X3_89 ⟨Nat.le_of_ble_eq_true rfl, Nat.le_of_ble_eq_true rfl⟩ ⟨rfl, rfl⟩ ⟨Nat.zero_le _, Nat.zero_le _⟩ rfl (LRead_ob hr) rfl (Nat.le_of_ble_eq_true rfl) _ rfl (fun K h => ?_)
  exact ri_bad168 hr h0 hl h
theorem ri_bad145 (hr : LRead Γ P) (h0 : h0T Γ P I0 T L σ QG) {J : MM} {e : Er} (hl : lodS T L = .error e) (b : RB5 σ I0 J L e) {x y : AV} : XP Γ Γ mA_X3r 0 0 145 [(0, vR 31), (1, vR σ), (2, x), (3, y)] [] P J (KQ Γ QG) := by
  refine y_aload_n 0 dX3_readInto_145 rfl ?_
  refine y_getI dX3_readInto_146 FC3 4 (by decide) rfl fl_X3_25 (LRead_ob hr) ?_
  refine y_sipush dX3_readInto_149 rfl ?_
  rw [b.1.1]
  exact y_icmp_ne 162 dX3_readInto_152 (by decide) ⟨by decide, by decide⟩ ⟨by decide, by decide⟩ (fun _ => ri_bad162 hr h0 hl b) (fun z => absurd z (by decide))
theorem ri_bad51 (hr : LRead Γ P) (h0 : h0T Γ P I0 T L σ QG) {J : MM} {e : Er} (hl : lodS T L = .error e) (b : RB5 σ I0 J L e) {x : AV} {i : Nat} (hi : i ≤ 1000) : XP Γ Γ mA_X3r 0 0 51 [(0, vR 31), (1, vR σ), (2, x), (3, vI (i : Int))] [] P J (KQ Γ QG) := by
  have hL := b.1.2.2.2.2.2.2
  refine y_iload_n 3 dX3_readInto_51 rfl ?_
  refine y_aload_n 0 dX3_readInto_52 rfl ?_
  refine y_getI dX3_readInto_53 FC3 1 (by decide) rfl fl_X3_15 (LRead_ob hr) ?_
  rw [b.1.2.2.2.2.2.1]
  refine y_icmp_ge 145 dX3_readInto_56 (by decide) ⟨by omega, by omega⟩ ⟨by omega, by omega⟩ (fun _ => ri_bad145 hr h0 hl b) (fun _ => ?_)
  refine y_aload_n 0 dX3_readInto_59 rfl ?_
  refine y_getI dX3_readInto_60 FC3 4 (by decide) rfl fl_X3_25 (LRead_ob hr) ?_
  refine y_sipush dX3_readInto_63 rfl ?_
  rw [b.1.1]
  exact y_icmp_ne 145 dX3_readInto_66 (by decide) ⟨by decide, by decide⟩ ⟨by decide, by decide⟩ (fun _ => ri_bad145 hr h0 hl b) (fun z => absurd z (by decide))
end M5
