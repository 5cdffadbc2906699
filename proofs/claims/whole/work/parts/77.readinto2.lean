/-! THE CLASS: readInto, the good end and the statements -/
section M5
variable {Γ : GG} {P : MP} {I0 : MM} {T : Nat → Int} {L σ : Nat} {QG : KG}
theorem ri_fail (hr : LRead Γ P) (h0 : h0T Γ P I0 T L σ QG) {J : MM} {D : Nat → Int} {cs : List Int} {p : Nat} (g : RG5 σ I0 J T L p D cs) (hl : lodS T L = .error (-2, spc T L p)) {x y : AV} : XP Γ Γ mA_X3r 0 0 162 [(0, vR 31), (1, vR σ), (2, x), (3, y)] [] P J (KQ Γ QG) := by
  have hd := g.2.2.2.1.1
  refine y_aload_n 0 dX3_readInto_162 rfl ?_
  refine y_bipush dX3_readInto_163 rfl ?_
  refine y_Vv (μ := mA_X3r) (Γ := Γ) dX3_readInto_165 (d_fail (Rv := fun K => RB5 σ I0 K L (-2, spc T L p)) hr g.1 ⟨by decide, by decide, by decide⟩ (fun K k1 k2 => ⟨k2, by rw [k1.2 7 (by decide), g.2.2.2.2.2.1.1]; omega, g.2.2.2.2.2.2.trans k1.ri⟩)) k_X3_fail ml_X3_89 ⟨Nat.le_of_ble_eq_true rfl, Nat.le_of_ble_eq_true rfl⟩ ⟨rfl, rfl⟩ ⟨Nat.zero_le _, Nat.zero_le _⟩ rfl (LRead_ob hr) rfl (Nat.le_of_ble_eq_true rfl) _ rfl (fun K h => ?_)
  exact ri_bad168 hr h0 hl h
theorem ri_ok (hr : LRead Γ P) (hh : LShop Γ P σ (σ + 10) 1) (hσ : 1000 ≤ σ) (hB : Bw Γ P (σ + 11) (σ + 12)) (hI : I0 (σ + 10) 0 = -1) (h1 : h1T Γ P I0 T L σ QG) {J : MM} {D : Nat → Int} {cs : List Int} {p : Nat} (g : RG5 σ I0 J T L p D cs) (hl : lodS T L = .ok (D, cs)) (h2 : D 2 ≠ 0) {x y : AV} (hx : Rf Γ x) (hy : Rf Γ y) : XP Γ Γ mA_X3r 0 0 168 [(0, vR 31), (1, vR σ), (2, x), (3, y)] [] P J (KQ Γ QG) := by
  obtain ⟨g1, g2, g3, g4, g5, ⟨c1, c2, c3⟩, gF⟩ := g
  have hd := g4.1
  refine y_aload_n 0 dX3_readInto_168 rfl ?_
  refine y_getI dX3_readInto_169 FC3 7 (by decide) rfl fl_X3_34 (LRead_ob hr) ?_
  rw [c1]
  refine y_if_eq 197 dX3_readInto_172 (by decide) (by unfold inR; omega) (fun z => ?_) (fun z => ?_)
  · have e1 := (g5.2.2.2.1 z).1
    refine y_vret (ρ := gr Γ) (ids := gi Γ) (ty := gt Γ) dX3_readInto_197 rfl (Nat.zero_le _) (Nat.zero_le _) Kp.rf (h1 Γ P J D cs (σ + 10) 1 hl g4 g5 h2 Kp.rf (fun _ _ _ h => h) (fun _ _ _ => rfl) (fun r a b c => gF r a b (by omega)) hh (Or.inl rfl) g2 g3 ⟨by rw [e1]; rfl, fun i hi => ?_⟩ g1.2.1 g1.2.2.1)
    rw [show i = 0 by omega, e1, gF (σ + 10) (by omega) (by omega) (by omega), hI]
    rfl
  · obtain ⟨k9, kl, kc⟩ := c3 z
    refine y_aload_n 0 dX3_readInto_175 rfl ?_
    refine y_getI dX3_readInto_176 FC3 5 (by decide) rfl fl_X3_28 (LRead_ob hr) ?_
    rw [g1.2.1]
    refine y_if_ne 197 dX3_readInto_179 (by decide) ⟨by decide, by decide⟩ (fun q => absurd rfl q) (fun _ => ?_)
    refine y_aload_n 1 dX3_readInto_182 rfl ?_
    refine y_aload_n 0 dX3_readInto_183 rfl ?_
    refine y_getP dX3_readInto_184 FC3 8 (by decide) rfl fl_X3_38 (LRead_ob hr) (LRead_p8 hr) ?_
    refine y_aload_n 0 dX3_readInto_187 rfl ?_
    refine y_getI dX3_readInto_188 FC3 9 (by decide) rfl fl_X3_42 (LRead_ob hr) ?_
    rw [k9]
    have hrfs : Rfs Γ [(0, vR 31), (1, vR σ), (2, x), (3, y)] [vR σ] := by
      refine ⟨fun q hq => ?_, fun v hv => ?_⟩
      · simp only [List.mem_cons, List.not_mem_nil, or_false] at hq
        rcases hq with rfl | rfl | rfl | rfl
        · exact Or.inl (LRead_ob hr).1
        · exact Or.inl hh.1.1
        · exact hx
        · exact hy
      · rw [List.mem_singleton.mp hv]
        exact Or.inl hh.1.1
    refine y_callSG (μ := mA_X3r) (Γ := Γ) (cells := 0) (slots := 0) (st := [vR σ]) dX3_readInto_191 (g_copyOf (b := σ + 11) (n := cs.length) (LRead_a8 hr) (by omega) hB (by omega)) kA_J7 ml_X3_92 ⟨Nat.le_of_ble_eq_true rfl, Nat.le_of_ble_eq_true rfl⟩ rfl hrfs (Nat.le_of_ble_eq_true rfl) (by decide) _ rfl (fun ρ ids ty v P1 J1 kp hh1 => ?_)
    obtain ⟨rfl, q1, q2, q3, q4⟩ := hh1
    refine y_putP dX3_readInto_194 FC4 12 (by decide) rfl rfl fl_X3_98 (hh.1.keep kp) ?_
    have r1 : ∀ r, r ≠ σ + 11 → J1 r = J r := fun r hr => (q3 r hr).2
    refine y_vret dX3_readInto_197 rfl (by decide) (by decide) kp (h1 _ _ J1 D cs (σ + 11) cs.length hl g4 g5 h2 kp (fun lo hi hx hb => (q2 lo hi (by omega) hb).up (by omega)) (fun j a b => by rw [up2_ne a, (q3 j b).1]) (fun r a b c => by rw [r1 r (by omega)]; exact gF r a b (by omega)) ?_ (Or.inr rfl) ?_ (by rw [r1 σ (by omega)]; exact g3) ⟨rfl, fun i hi => by rw [q4 i hi]; exact kc i hi⟩ (by rw [r1 31 (by omega)]; exact g1.2.1) (by rw [r1 31 (by omega)]; exact g1.2.2.1))
    · have e : ∀ k, k ≠ 12 → up2 P1 σ 12 (some (σ + 11)) σ k = P σ k := fun k hk => by rw [up2_nj hk, (q3 σ (by omega)).1]
      refine ⟨hh.1.keep kp, ?_, (LShop_a3 hh).keep kp, ?_, (LShop_a4 hh).keep kp, ?_, (LShop_a5 hh).keep kp, ?_, (LShop_a6 hh).keep kp, ?_, (LShop_a7 hh).keep kp, ?_, (LShop_a8 hh).keep kp, ?_, (LShop_a9 hh).keep kp, ?_, (LShop_a10 hh).keep kp, ?_, (LShop_a11 hh).keep kp, up2_eq, q1, by omega⟩
      · rw [e 3 (by decide)]; exact LShop_p3 hh
      · rw [e 4 (by decide)]; exact LShop_p4 hh
      · rw [e 5 (by decide)]; exact LShop_p5 hh
      · rw [e 6 (by decide)]; exact LShop_p6 hh
      · rw [e 7 (by decide)]; exact LShop_p7 hh
      · rw [e 8 (by decide)]; exact LShop_p8 hh
      · rw [e 9 (by decide)]; exact LShop_p9 hh
      · rw [e 10 (by decide)]; exact LShop_p10 hh
      · rw [e 11 (by decide)]; exact LShop_p11 hh
    · unfold SHd
      rw [r1 σ (by omega), r1 (σ + 1) (by omega), r1 (σ + 2) (by omega), r1 (σ + 3) (by omega), r1 (σ + 4) (by omega), r1 (σ + 5) (by omega), r1 (σ + 6) (by omega), r1 (σ + 7) (by omega), r1 (σ + 8) (by omega), r1 (σ + 9) (by omega)]
      exact g2
/-- no word: the end of the text, or an error -/
theorem ri_145 (hr : LRead Γ P) (hh : LShop Γ P σ (σ + 10) 1) (hσ : 1000 ≤ σ) (hB : Bw Γ P (σ + 11) (σ + 12)) (hI : I0 (σ + 10) 0 = -1) (h1 : h1T Γ P I0 T L σ QG) (h0 : h0T Γ P I0 T L σ QG) {J : MM} {D : Nat → Int} {cs : List Int} {p : Nat} (g : RG5 σ I0 J T L p D cs)
    (hle : tkK T L p ≠ -1003 → lodS T L = .error (-2, spc T L p)) (hlz : tkK T L p = -1003 → lodS T L = if D 2 = 0 then .error (-2, spc T L p) else .ok (D, cs)) {x y : AV} (hx : Rf Γ x) (hy : Rf Γ y) : XP Γ Γ mA_X3r 0 0 145 [(0, vR 31), (1, vR σ), (2, x), (3, y)] [] P J (KQ Γ QG) := by
  have hb := tkK_b (T := T) (L := L) (p := p)
  have hd := g.2.2.2.1.1
  refine y_aload_n 0 dX3_readInto_145 rfl ?_
  refine y_getI dX3_readInto_146 FC3 4 (by decide) rfl fl_X3_25 (LRead_ob hr) ?_
  refine y_sipush dX3_readInto_149 rfl ?_
  rw [g.1.2.2.2.2.2.2]
  refine y_icmp_ne 162 dX3_readInto_152 (by decide) ⟨by omega, by omega⟩ ⟨by decide, by decide⟩ (fun z => ri_fail hr h0 g (hle z)) (fun z => ?_)
  have hz := hlz z
  refine y_aload_n 1 dX3_readInto_155 rfl ?_
  refine y_getI dX3_readInto_156 FC4 1 (by decide) rfl fl_X3_84 hh.1 ?_
  rw [g.2.2.1]
  refine y_if_ne 168 dX3_readInto_159 (by decide) (by unfold inR; omega) (fun q => ?_) (fun q => ?_)
  · rw [if_neg q] at hz
    exact ri_ok hr hh hσ hB hI h1 g hz q hx hy
  · rw [if_pos q] at hz
    exact ri_fail hr h0 g hz
end M5
