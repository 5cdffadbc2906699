/-! THE CLASS: readInto, the statements -/
def ldE (L : Nat) (r : (Nat → Int) × List Int) : Except Er ((Nat → Int) × List Int) := if r.1 2 = 0 then .error (-2, L) else .ok r
theorem prgS_s {T : Nat → Int} {L f p : Nat} {D : Nat → Int} {cs : List Int} (hb : bt T L (spc T L p) ≠ -1) : prgS T L (f + 1) D cs p = bnd (stmS T L D cs p) (fun r => prgS T L f r.2.1 r.2.2 r.1) := by
  show (if _ then _ else _) = _
  rw [if_neg hb]
theorem prgS_e {T : Nat → Int} {L f p : Nat} {D : Nat → Int} {cs : List Int} (hb : bt T L (spc T L p) = -1) : prgS T L f D cs p = .ok (D, cs) := by
  cases f with
  | zero => rfl
  | succ f =>
    show (if _ then _ else _) = _
    rw [if_pos hb]
theorem SHd.cong {I : MM} {σ : Nat} {D E : Nat → Int} (h : SHd I σ D) (e : ∀ i, i ≠ 3 → i ≠ 4 → i < 155 → E i = D i) : SHd I σ E := by
  obtain ⟨a, b, c, d, f⟩ := h
  refine ⟨by rw [e 0 (by decide) (by decide) (by decide)]; exact a, by rw [e 1 (by decide) (by decide) (by decide)]; exact b, fun m hm => ?_, fun j hj => ?_, fun o ho hl => ?_⟩
  · rw [e _ (by omega) (by omega) (by omega), e _ (by omega) (by omega) (by omega), uN_cong (D := D) (E := E) (fun i hi => ⟨fun _ _ _ => e i (by omega) (by omega) (by omega), fun _ => e i (by omega) (by omega) (by omega)⟩)]
    exact c m hm
  · rw [e _ (by omega) (by omega) (by omega), e _ (by omega) (by omega) (by omega), e _ (by omega) (by omega) (by omega), e _ (by omega) (by omega) (by omega)]
    exact d j hj
  · rw [e _ (by omega) (by omega) (by omega)] at hl
    rw [e _ (by omega) (by omega) (by omega), e _ (by omega) (by omega) (by omega)]
    exact f o ho hl
section M5
variable {Γ : GG} {P : MP} {I0 : MM} {T : Nat → Int} {L σ : Nat} {QG : KG}
theorem ri_bad133 (hr : LRead Γ P) (h0 : h0T Γ P I0 T L σ QG) {J : MM} {e : Er} (hl : lodS T L = .error e) (b : RB5 σ I0 J L e) {w : Int} {i : Nat} (hi : i ≤ 900) : XP Γ Γ mA_X3r 0 0 133 [(0, vR 31), (1, vR σ), (2, vI w), (3, vI (i : Int))] [] P J (KQ Γ QG) := by
  refine y_aload_n 0 dX3_readInto_133 rfl ?_
  refine y_bipush dX3_readInto_134 rfl ?_
  refine y_Vv (μ := mA_X3r) (Γ := Γ) dX3_readInto_136 (d_expect0 (Rv := fun K => RB5 σ I0 K L e) hr b.1 ⟨by decide, by decide⟩ (fun K k1 k2 => ⟨k2, by rw [k1.2 7 (by decide)]; exact b.2.1, b.2.2.trans k1.ri⟩)) k_X3_expect ml_X3_80 ⟨Nat.le_of_ble_eq_true rfl, Nat.le_of_ble_eq_true rfl⟩ ⟨rfl, rfl⟩ ⟨Nat.zero_le _, Nat.zero_le _⟩ rfl (LRead_ob hr) rfl (Nat.le_of_ble_eq_true rfl) _ rfl (fun K h => ?_)
  refine y_iinc 3 dX3_readInto_139 rfl rfl rfl (by decide) ?_
  refine y_goto 51 dX3_readInto_142 (by decide) ?_
  have := ri_bad51 (x := vI w) (i := i + 1) hr h0 hl h (by omega)
  rw [Int.natCast_add] at this
  exact this
/-- behind a part of a statement: the semicolon -/
theorem ri_semi (hr : LRead Γ P) (h0 : h0T Γ P I0 T L σ QG) {f : Nat} {w : Int}
    (IH : ∀ (i : Nat) (J : MM) (D : Nat → Int) (cs : List Int) (p : Nat), RG5 σ I0 J T L p D cs → L ≤ p + f → i ≤ p → lodS T L = bnd (prgS T L f D cs p) (ldE L) → XP Γ Γ mA_X3r 0 0 51 [(0, vR 31), (1, vR σ), (2, vI w), (3, vI (i : Int))] [] P J (KQ Γ QG))
    {K : MM} {q p i : Nat} {E D : Nat → Int} {ce cs : List Int} (hσ : 1000 ≤ σ) (kT : TK K T L q) (kS : SHd K σ E) (kj : K σ 1 = E 2) (kH : HCst K E ce) (kF : riF σ I0 K) (k7 : K 31 7 = 0 ∨ K 31 7 = 1) (h : RDx D 6) (hc : RCx D cs) (hpf : L ≤ p + (f + 1)) (hip : i ≤ p)
    (hst : ∀ y : Except Er (Nat × (Nat → Int) × List Int), y = bnd (expS T L q 59) (fun e => .ok (e, E, ce)) → y = stmS T L D cs p) (hlk : lodS T L = bnd (prgS T L (f + 1) D cs p) (ldE L)) (hbt : bt T L (spc T L p) ≠ -1) :
    XP Γ Γ mA_X3r 0 0 133 [(0, vR 31), (1, vR σ), (2, vI w), (3, vI (i : Int))] [] P K (KQ Γ QG) := by
  rw [prgS_s hbt] at hlk
  have hL := kT.l9
  have hi9 : i ≤ 900 := by have := bt_lt hbt; have := spc_ge (T := T) (L := L) (k := p); omega
  refine y_aload_n 0 dX3_readInto_133 rfl ?_
  refine y_bipush dX3_readInto_134 rfl ?_
  refine y_Vv (μ := mA_X3r) (Γ := Γ) dX3_readInto_136 (d_expect (Rv := fun M => (∃ e, expS T L q 59 = .ok e ∧ tcF K M ∧ TK M T L e) ∨ ∃ e, expS T L q 59 = .error e ∧ tcF K M ∧ TKb M L e) hr kT ⟨by decide, by decide⟩ (by decide) (by decide) (fun M e a b c => Or.inl ⟨e, a, b, c⟩) (fun M e a b c => Or.inr ⟨e, a, b, c⟩)) k_X3_expect ml_X3_80 ⟨Nat.le_of_ble_eq_true rfl, Nat.le_of_ble_eq_true rfl⟩ ⟨rfl, rfl⟩ ⟨Nat.zero_le _, Nat.zero_le _⟩ rfl (LRead_ob hr) rfl (Nat.le_of_ble_eq_true rfl) _ rfl (fun M hM => ?_)
  refine y_iinc 3 dX3_readInto_139 rfl rfl rfl (by decide) ?_
  refine y_goto 51 dX3_readInto_142 (by decide) ?_
  show XP Γ Γ mA_X3r 0 0 51 [(0, vR 31), (1, vR σ), (2, vI w), (3, vI ((i : Int) + 1))] [] P M (KQ Γ QG)
  have ei : ((i : Int) + 1) = ((i + 1 : Nat) : Int) := by omega
  rw [ei]
  rcases hM with ⟨e, a, b, c⟩ | ⟨e, a, b, c⟩
  · have hs : stmS T L D cs p = .ok (e, E, ce) := by rw [← hst _ rfl, a]; rfl
    obtain ⟨s1, s2, s3, s4⟩ := stmS_ok h hc hL hs
    rw [hs] at hlk
    refine IH (i + 1) M E ce e ⟨c, kS.k hσ b, by rw [b.1 σ (by omega)]; exact kj, s1, s2, ⟨by rw [b.2 7 (by decide)]; exact kH.1, fun z => by rw [b.2 9 (by decide)]; exact kH.2.1 z, fun z => ?_⟩, kF.trans b.ri⟩ (by simp only at s3; omega) (by simp only at s3; omega) hlk
    rw [b.2 9 (by decide), b.1 33 (by decide)]
    exact kH.2.2 z
  · have hs : stmS T L D cs p = .error e := by rw [← hst _ rfl, a]; rfl
    rw [hs] at hlk
    exact ri_bad51 hr h0 hlk ⟨c, by rw [b.2 7 (by decide)]; exact k7, kF.trans b.ri⟩ (by omega)
end M5
