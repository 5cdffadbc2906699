/-! ONE CALL: the class's side and the reference's (mksteps.py) -/
section SV
variable {Γ Γ' : GG} {P P' P1 : MP} {I J K : MM} {S : ST}
def QTf (Γ : GG) (P : MP) (I : MM) (S : ST) : MP → MM → Prop := fun P' J => (∀ r : Nat, r < 30 → P' r = P r) ∧ (∀ r : Nat, r < 21 → J r = I r) ∧ ICs Γ P' J S
theorem cl_ri {μ : MI} {args : List AV} {R : Int → MM → Prop} {Q : Int → MP → MM → Prop} (h : Cl Γ μ args P I (ri P R)) (hq : ∀ z J, R z J → Q z P J) : Cl Γ μ args P I (rpi Q) :=
  h.mono (fun v P1 I1 ⟨z, e1, e2, h3⟩ => ⟨z, e1, by rw [e2]; exact hq z I1 h3⟩)
theorem ICs.m {D D' : Nat → Int} {cs cs' : List Int} {n n' B : Nat} {H H' : Nat → (Nat → Int) × List Int} {e : Int} {T : Nat → Int} (h : ICs Γ P I (D, cs, n, H, B, e, T)) (hp : kP P P1) (hk : kcM I J) (hc : CB Γ P1 J D' cs' n' H') : ICs Γ P1 J (D', cs', n', H', B, e, T) := by
  obtain ⟨a, b, c, d, f, g⟩ := h
  exact ⟨hc, by rw [hk.2 1 (by decide) (by decide)]; exact b, fun k h9 => by rw [hk.1 32 (by decide)]; exact c k h9, by rw [hk.2 2 (by decide) (by decide)]; exact d, f, g.kp hp⟩
theorem ICs.q (h : ICs Γ P I S) (hk : kpC I J) : ICs Γ P J S := by
  obtain ⟨D, cs, n, H, B, e, T⟩ := S
  obtain ⟨⟨σ, κ, N, σ2, κ2, N2, oc, c⟩, hr⟩ := h
  exact ICs.m ⟨⟨σ, κ, N, σ2, κ2, N2, oc, c⟩, hr⟩ (fun r _ => rfl) hk.m ⟨σ, κ, N, σ2, κ2, N2, oc, c.q hk⟩
theorem qd_q {val : Int} (h : ICs Γ P I S) (hk : kpC I J) : QDf Γ P I S val val P J := ⟨rfl, fun _ _ => rfl, fun r hr => hk.m.1 r (by omega), h.q hk⟩
theorem qd_0 {val : Int} (h : ICs Γ P I S) : QDf Γ P I S val val P I := qd_q h (kpC.refl I)
theorem qd_m {val : Int} {D D' : Nat → Int} {cs cs' : List Int} {n n' B : Nat} {H H' : Nat → (Nat → Int) × List Int} {e : Int} {T : Nat → Int} (h : ICs Γ P I (D, cs, n, H, B, e, T)) (hp : kP P P1) (hk : kcM I J) (hc : CB Γ P1 J D' cs' n' H') : QDf Γ P I (D', cs', n', H', B, e, T) val val P1 J :=
  ⟨rfl, fun r hr => hp r (by omega), fun r hr => hk.1 r (by omega), h.m hp hk hc⟩
theorem qt_q (h : ICs Γ P I S) (hk : kpC I J) : QTf Γ P I S P J := ⟨fun _ _ => rfl, fun r hr => hk.m.1 r (by omega), h.q hk⟩
theorem qt_0 (h : ICs Γ P I S) : QTf Γ P I S P I := qt_q h (kpC.refl I)
theorem qt_m {D D' : Nat → Int} {cs cs' : List Int} {n n' B : Nat} {H H' : Nat → (Nat → Int) × List Int} {e : Int} {T : Nat → Int} (h : ICs Γ P I (D, cs, n, H, B, e, T)) (hp : kP P P1) (hk : kcM I J) (hc : CB Γ P1 J D' cs' n' H') : QTf Γ P I (D', cs', n', H', B, e, T) P1 J :=
  ⟨fun r hr => hp r (by omega), fun r hr => hk.1 r (by omega), h.m hp hk hc⟩
theorem qc_d {val z : Int} (h : QDf Γ P I S val z P' J) : QCf Γ P I S 0 val Γ (some (vI 0)) P' (up2 J 21 0 (w32 z)) := by
  obtain ⟨rfl, a, b, c⟩ := h
  exact ⟨rfl, Kp.rf, a, fun r hr => by rw [up2_ne (by omega)]; exact b r hr, fun _ => up2_eq, c.out _⟩
theorem qc_t {kk : Int} (hk : kk ≠ 0) (h : QTf Γ P I S P' J) : QCf Γ P I S kk 0 Γ (some (vI kk)) P' J := ⟨rfl, Kp.rf, h.1, h.2.1, fun z => absurd z hk, h.2.2⟩
theorem qr_q {t val z : Int} (h : IRs Γ P J S) (hk : K0 J t K) (hz : t = 0 → z = val) : QRf Γ P J S t val z K := by
  obtain ⟨k1, k2⟩ := hk
  refine ⟨fun r hr => k1.1 r (by omega) (by omega) (by omega) (by omega) (by omega) (by omega) (by omega), k2, hz, h.1, h.2.1.q k1, ?_, h.2.2.2.1, h.2.2.2.2.1, ?_, ?_⟩
  · rw [k1.2 2 (by decide) (by decide) (by decide) (by decide)]; exact h.2.2.1
  · rw [k1.1 2 (by decide) (by decide) (by decide) (by decide) (by decide) (by decide) (by decide)]; exact h.2.2.2.2.2.1
  · rw [k1.2 7 (by decide) (by decide) (by decide) (by decide)]; exact h.2.2.2.2.2.2
theorem qr_m {t val z : Int} {D D' : Nat → Int} {cs cs' : List Int} {n n' B : Nat} {H H' : Nat → (Nat → Int) × List Int} {e : Int} {T : Nat → Int} (h : IRs Γ P J (D, cs, n, H, B, e, T)) (hk : KM J t K) (hr : RF K D' cs' n' H') (hz : t = 0 → z = val) : QRf Γ P J (D', cs', n', H', B, e, T) t val z K := by
  obtain ⟨k1, k2⟩ := hk
  refine ⟨fun r hr => k1.1 r (by omega) (by omega) (by omega) (by omega) (by omega) (by omega) (by omega) (by omega) (by omega) (by omega), k2, hz, h.1, hr, ?_, h.2.2.2.1, h.2.2.2.2.1, ?_, ?_⟩
  · rw [k1.2 2 (by decide) (by decide) (by decide) (by decide) (by decide)]; exact h.2.2.1
  · rw [k1.1 2 (by decide) (by decide) (by decide) (by decide) (by decide) (by decide) (by decide) (by decide) (by decide) (by decide)]; exact h.2.2.2.2.2.1
  · rw [k1.2 7 (by decide) (by decide) (by decide) (by decide) (by decide)]; exact h.2.2.2.2.2.2
def SWp (Γ : GG) (P : MP) (I : MM) (S : ST) (μw : MI) (hh : HH) (aw : List AV) (μr : MI) (ar : List AV) : Prop :=
  ∃ (kk val : Int) (S2 : ST), (kk = 0 ∨ kk = 1 ∨ kk = 2) ∧ ClW Γ μw hh aw P I (QCf Γ P I S2 kk val) ∧ ∀ (Γ' : GG) (P' : MP) (J : MM), IRs Γ' P' J S → Cl Γ' μr ar P' J (ri P' (QRf Γ' P' J S2 kk val))
def SWb (Γ : GG) (P : MP) (I : MM) (S : ST) (μw : MI) (hh : HH) (aw : List AV) (μr : MI) (ar : List AV) : Prop :=
  ∃ (kk val : Int) (S2 : ST), (kk = 0 ∨ kk = 1 ∨ kk = 2) ∧ (val = 0 ∨ val = 1) ∧ ClW Γ μw hh aw P I (QCf Γ P I S2 kk val) ∧ ∀ (Γ' : GG) (P' : MP) (J : MM), IRs Γ' P' J S → Cl Γ' μr ar P' J (ri P' (QRf Γ' P' J S2 kk val))
def SDp (Γ : GG) (P : MP) (I : MM) (S : ST) (μc : MI) (ac : List AV) (μr : MI) (ar : List AV) : Prop :=
  ∃ (val : Int) (S2 : ST), Cl Γ μc ac P I (rpi (QDf Γ P I S2 val)) ∧ ∀ (Γ' : GG) (P' : MP) (J : MM), IRs Γ' P' J S → Cl Γ' μr ar P' J (ri P' (QRf Γ' P' J S2 0 val))
end SV
theorem pif_01 {p : Prop} : pIf p (0 : Int) 1 = 0 ∨ pIf p (0 : Int) 1 = 1 := by
  by_cases h : p
  · exact Or.inl (pIf_t h)
  · exact Or.inr (pIf_f h)
/-- there are numbers that nobody uses -/
theorem mx_ex (l : List Nat) : ∃ s : Nat, ∀ x ∈ l, x < s := by
  induction l with
  | nil => exact ⟨0, fun x hx => (List.not_mem_nil hx).elim⟩
  | cons a l ih =>
    obtain ⟨s, hs⟩ := ih
    exact ⟨s + a + 1, fun x hx => by
      rcases List.mem_cons.mp hx with rfl | hx
      · omega
      · have := hs x hx; omega⟩
theorem bw_ex {Γ : GG} {P : MP} (h : Ra Γ P) : ∃ s : Nat, 1000 ≤ s ∧ Bw Γ P s (s + 12) := by
  obtain ⟨a, ha⟩ := mx_ex (gi Γ)
  obtain ⟨b, hb⟩ := mx_ex ((gi Γ).flatMap (fun j => (List.range 30).map (fun k => (P j k).getD 0)))
  refine ⟨1000 + a + b, by omega, fun x hx => by have := ha x hx; omega, fun j hj k r hk hr => ?_, h⟩
  have := hb r (List.mem_flatMap.mpr ⟨j, hj, List.mem_map.mpr ⟨k, List.mem_range.mpr hk, by rw [hr]; rfl⟩⟩)
  omega
section ST1
variable {Γ : GG} {P : MP} {I : MM} {S : ST}
theorem s_operationCount (h9 : (gl Γ).stackTraces = false) (hi : IRs Γ P I S) (hc : ICs Γ P I S) {j : Int} (hj : inR j) : SWp Γ P I S mW_operationCount hW_operationCount [vR 30, vI j, vR 21] m_X6_operationCount [vR 1, vI j] := by
  obtain ⟨D, cs, n, H, B, e, T⟩ := S
  obtain ⟨⟨σ, κ, N, σ2, κ2, N2, oc, h⟩, hcr⟩ := hc
  have hc : ICs Γ P I (D, cs, n, H, B, e, T) := ⟨⟨σ, κ, N, σ2, κ2, N2, oc, h⟩, hcr⟩
  have o21 := hcr.2.2.2.1
  have o30 := LBS_ob h.b
  by_cases hk9 : jOk D j
  · skip
    refine ⟨0, _, (D, cs, n, H, B, e, T), Or.inl rfl, w_operationCount (cl_ri (b_operationCount (R := fun z J => QDf Γ P I (D, cs, n, H, B, e, T) (D (59 + 4 * j.toNat + 3)) z P J) h hj hk9 (qd_0 hc)) (fun _ _ q => q)) o30 o21 (fun z P' J q => qc_d q), fun Γ' P' J hj9 => ?_⟩
    have ed := hj9.2.1.d
    have hG := hj9.2.1.gd
    exact q_operationCount hj9.1 hG.1 hj (fun _ K k => qr_q hj9 k (fun _ => by rw [ed])) (fun c _ _ _ => absurd (by rw [ed]; exact hk9) c)
  · skip
    refine ⟨1, 0, (D, cs, n, H, B, e, T), Or.inr (Or.inl rfl), wt1_operationCount (e_operationCount (Rp := QTf Γ P I (D, cs, n, H, B, e, T)) h9 h hj hk9 (qt_0 hc)) o30 o21 (fun P' J q => qc_t (by decide) q), fun Γ' P' J hj9 => ?_⟩
    have ed := hj9.2.1.d
    have hG := hj9.2.1.gd
    exact q_operationCount hj9.1 hG.1 hj (fun c _ _ => absurd (by rw [ed] at c; exact c) hk9) (fun _ _ K k => qr_q hj9 k (fun z => absurd z (by decide)))
theorem s_orderLength (h9 : (gl Γ).stackTraces = false) (hi : IRs Γ P I S) (hc : ICs Γ P I S) {m : Int} (hm : inR m) : SWp Γ P I S mW_orderLength hW_orderLength [vR 30, vI m, vR 21] m_X6_orderLength [vR 1, vI m] := by
  obtain ⟨D, cs, n, H, B, e, T⟩ := S
  obtain ⟨⟨σ, κ, N, σ2, κ2, N2, oc, h⟩, hcr⟩ := hc
  have hc : ICs Γ P I (D, cs, n, H, B, e, T) := ⟨⟨σ, κ, N, σ2, κ2, N2, oc, h⟩, hcr⟩
  have o21 := hcr.2.2.2.1
  have o30 := LBS_ob h.b
  by_cases hk9 : mOk D m
  · skip
    refine ⟨0, _, (D, cs, n, H, B, e, T), Or.inl rfl, w_orderLength (cl_ri (b_orderLength (R := fun z J => QDf Γ P I (D, cs, n, H, B, e, T) (D (5 + 9 * m.toNat + 2)) z P J) h hm hk9 (qd_0 hc)) (fun _ _ q => q)) o30 o21 (fun z P' J q => qc_d q), fun Γ' P' J hj9 => ?_⟩
    have ed := hj9.2.1.d
    have hG := hj9.2.1.gd
    exact q_orderLength hj9.1 hG.1 hm (fun _ K k => qr_q hj9 k (fun _ => by rw [ed])) (fun c _ _ _ => absurd (by rw [ed]; exact hk9) c)
  · skip
    refine ⟨1, 0, (D, cs, n, H, B, e, T), Or.inr (Or.inl rfl), wt1_orderLength (e_orderLength (Rp := QTf Γ P I (D, cs, n, H, B, e, T)) h9 h hm hk9 (qt_0 hc)) o30 o21 (fun P' J q => qc_t (by decide) q), fun Γ' P' J hj9 => ?_⟩
    have ed := hj9.2.1.d
    have hG := hj9.2.1.gd
    exact q_orderLength hj9.1 hG.1 hm (fun c _ _ => absurd (by rw [ed] at c; exact c) hk9) (fun _ _ K k => qr_q hj9 k (fun z => absurd z (by decide)))
theorem s_orderAt (h9 : (gl Γ).stackTraces = false) (hi : IRs Γ P I S) (hc : ICs Γ P I S) {m p : Int} (hm : inR m) (hp : inR p) : SWp Γ P I S mW_orderAt hW_orderAt [vR 30, vI m, vI p, vR 21] m_X6_orderAt [vR 1, vI m, vI p] := by
  obtain ⟨D, cs, n, H, B, e, T⟩ := S
  obtain ⟨⟨σ, κ, N, σ2, κ2, N2, oc, h⟩, hcr⟩ := hc
  have hc : ICs Γ P I (D, cs, n, H, B, e, T) := ⟨⟨σ, κ, N, σ2, κ2, N2, oc, h⟩, hcr⟩
  have o21 := hcr.2.2.2.1
  have o30 := LBS_ob h.b
  by_cases hk9 : pOk D m p
  · skip
    refine ⟨0, _, (D, cs, n, H, B, e, T), Or.inl rfl, w_orderAt (cl_ri (b_orderAt (R := fun z J => QDf Γ P I (D, cs, n, H, B, e, T) (tlF (oN D m.toNat p.toNat)) z P J) h hm hp hk9 (qd_0 hc)) (fun _ _ q => q)) o30 o21 (fun z P' J q => qc_d q), fun Γ' P' J hj9 => ?_⟩
    have ed := hj9.2.1.d
    have hG := hj9.2.1.gd
    exact q_orderAt hj9.1 hG.1 hm hp (fun _ K k => qr_q hj9 k (fun _ => by rw [ed])) (fun c _ _ _ => absurd (by rw [ed]; exact hk9) c)
  · skip
    refine ⟨1, 0, (D, cs, n, H, B, e, T), Or.inr (Or.inl rfl), wt1_orderAt (e_orderAt (Rp := QTf Γ P I (D, cs, n, H, B, e, T)) h9 h hm hp hk9 (qt_0 hc)) o30 o21 (fun P' J q => qc_t (by decide) q), fun Γ' P' J hj9 => ?_⟩
    have ed := hj9.2.1.d
    have hG := hj9.2.1.gd
    exact q_orderAt hj9.1 hG.1 hm hp (fun c _ _ => absurd (by rw [ed] at c; exact c) hk9) (fun _ _ K k => qr_q hj9 k (fun z => absurd z (by decide)))
theorem s_start (h9 : (gl Γ).stackTraces = false) (hi : IRs Γ P I S) (hc : ICs Γ P I S) {j k : Int} (hj : inR j) (hk : inR k) : SWp Γ P I S mW_start hW_start [vR 30, vI j, vI k, vR 21] m_X6_start [vR 1, vI j, vI k] := by
  obtain ⟨D, cs, n, H, B, e, T⟩ := S
  obtain ⟨⟨σ, κ, N, σ2, κ2, N2, oc, h⟩, hcr⟩ := hc
  have hc : ICs Γ P I (D, cs, n, H, B, e, T) := ⟨⟨σ, κ, N, σ2, κ2, N2, oc, h⟩, hcr⟩
  have o21 := hcr.2.2.2.1
  have o30 := LBS_ob h.b
  by_cases hk9 : oOk D j k
  · skip
    refine ⟨0, _, (D, cs, n, H, B, e, T), Or.inl rfl, w_start (cl_ri (b_start (R := fun z J => QDf Γ P I (D, cs, n, H, B, e, T) (TD D (6 * j + k).toNat) z P J) h hj hk hk9 (qd_0 hc)) (fun _ _ q => q)) o30 o21 (fun z P' J q => qc_d q), fun Γ' P' J hj9 => ?_⟩
    have ed := hj9.2.1.d
    have hG := hj9.2.1.gd
    exact q_start hj9.1 hG hj hk (fun _ K k => qr_q hj9 k (fun _ => by rw [ed])) (fun c _ _ _ => absurd (by rw [ed]; exact hk9) c)
  · skip
    refine ⟨1, 0, (D, cs, n, H, B, e, T), Or.inr (Or.inl rfl), wt1_start (e_start (Rp := QTf Γ P I (D, cs, n, H, B, e, T)) h9 h hj hk hk9 (qt_0 hc)) o30 o21 (fun P' J q => qc_t (by decide) q), fun Γ' P' J hj9 => ?_⟩
    have ed := hj9.2.1.d
    have hG := hj9.2.1.gd
    exact q_start hj9.1 hG hj hk (fun c _ _ => absurd (by rw [ed] at c; exact c) hk9) (fun _ _ K k => qr_q hj9 k (fun z => absurd z (by decide)))
theorem s_leave (h9 : (gl Γ).stackTraces = false) (hi : IRs Γ P I S) (hc : ICs Γ P I S) {j k : Int} (hj : inR j) (hk : inR k) : SWp Γ P I S mW_leave hW_leave [vR 30, vI j, vI k, vR 21] m_X6_leave [vR 1, vI j, vI k] := by
  obtain ⟨D, cs, n, H, B, e, T⟩ := S
  obtain ⟨⟨σ, κ, N, σ2, κ2, N2, oc, h⟩, hcr⟩ := hc
  have hc : ICs Γ P I (D, cs, n, H, B, e, T) := ⟨⟨σ, κ, N, σ2, κ2, N2, oc, h⟩, hcr⟩
  have o21 := hcr.2.2.2.1
  have o30 := LBS_ob h.b
  by_cases hk9 : oOk D j k
  · skip
    refine ⟨0, _, (D, cs, n, H, B, e, T), Or.inl rfl, w_leave (cl_ri (b_leave (R := fun z J => QDf Γ P I (D, cs, n, H, B, e, T) (leaveF D (TD D) (6 * j + k).toNat) z P J) h hj hk hk9 (qd_0 hc)) (fun _ _ q => q)) o30 o21 (fun z P' J q => qc_d q), fun Γ' P' J hj9 => ?_⟩
    have ed := hj9.2.1.d
    have hG := hj9.2.1.gd
    exact q_leave hj9.1 hG hj hk (fun _ K k => qr_q hj9 k (fun _ => by rw [ed])) (fun c _ _ _ => absurd (by rw [ed]; exact hk9) c)
  · skip
    refine ⟨1, 0, (D, cs, n, H, B, e, T), Or.inr (Or.inl rfl), wt1_leave (e_leave (Rp := QTf Γ P I (D, cs, n, H, B, e, T)) h9 h hj hk hk9 (qt_0 hc)) o30 o21 (fun P' J q => qc_t (by decide) q), fun Γ' P' J hj9 => ?_⟩
    have ed := hj9.2.1.d
    have hG := hj9.2.1.gd
    exact q_leave hj9.1 hG hj hk (fun c _ _ => absurd (by rw [ed] at c; exact c) hk9) (fun _ _ K k => qr_q hj9 k (fun z => absurd z (by decide)))
theorem s_completion (h9 : (gl Γ).stackTraces = false) (hi : IRs Γ P I S) (hc : ICs Γ P I S) {j : Int} (hj : inR j) : SWp Γ P I S mW_completion hW_completion [vR 30, vI j, vR 21] m_X6_completion [vR 1, vI j] := by
  obtain ⟨D, cs, n, H, B, e, T⟩ := S
  obtain ⟨⟨σ, κ, N, σ2, κ2, N2, oc, h⟩, hcr⟩ := hc
  have hc : ICs Γ P I (D, cs, n, H, B, e, T) := ⟨⟨σ, κ, N, σ2, κ2, N2, oc, h⟩, hcr⟩
  have o21 := hcr.2.2.2.1
  have o30 := LBS_ob h.b
  by_cases hk9 : jOk D j
  · skip
    refine ⟨0, _, (D, cs, n, H, B, e, T), Or.inl rfl, w_completion (cl_ri (b_completion (R := fun z J => QDf Γ P I (D, cs, n, H, B, e, T) (cmpF D (TD D) j.toNat) z P J) h hj hk9 (qd_0 hc)) (fun _ _ q => q)) o30 o21 (fun z P' J q => qc_d q), fun Γ' P' J hj9 => ?_⟩
    have ed := hj9.2.1.d
    have hG := hj9.2.1.gd
    exact q_completion hj9.1 hG hj (fun _ K k => qr_q hj9 k (fun _ => by rw [ed])) (fun c _ _ _ => absurd (by rw [ed]; exact hk9) c)
  · skip
    refine ⟨1, 0, (D, cs, n, H, B, e, T), Or.inr (Or.inl rfl), wt1_completion (e_completion (Rp := QTf Γ P I (D, cs, n, H, B, e, T)) h9 h hj hk9 (qt_0 hc)) o30 o21 (fun P' J q => qc_t (by decide) q), fun Γ' P' J hj9 => ?_⟩
    have ed := hj9.2.1.d
    have hG := hj9.2.1.gd
    exact q_completion hj9.1 hG hj (fun c _ _ => absurd (by rw [ed] at c; exact c) hk9) (fun _ _ K k => qr_q hj9 k (fun z => absurd z (by decide)))
theorem s_jobCost (h9 : (gl Γ).stackTraces = false) (hi : IRs Γ P I S) (hc : ICs Γ P I S) {j : Int} (hj : inR j) : SWp Γ P I S mW_jobCost hW_jobCost [vR 30, vI j, vR 21] m_X6_jobCost [vR 1, vI j] := by
  obtain ⟨D, cs, n, H, B, e, T⟩ := S
  obtain ⟨⟨σ, κ, N, σ2, κ2, N2, oc, h⟩, hcr⟩ := hc
  have hc : ICs Γ P I (D, cs, n, H, B, e, T) := ⟨⟨σ, κ, N, σ2, κ2, N2, oc, h⟩, hcr⟩
  have o21 := hcr.2.2.2.1
  have o30 := LBS_ob h.b
  by_cases hk9 : jOk D j
  · skip
    refine ⟨0, _, (D, cs, n, H, B, e, T), Or.inl rfl, w_jobCost (cl_ri (b_jobCost (R := fun z J => QDf Γ P I (D, cs, n, H, B, e, T) (costF D cs (TD D) j.toNat) z P J) h hj hk9 (fun J k => qd_q hc k)) (fun _ _ q => q)) o30 o21 (fun z P' J q => qc_d q), fun Γ' P' J hj9 => ?_⟩
    have ed := hj9.2.1.d
    have hG := hj9.2.1.gd
    exact q_jobCost hj9.1 hG hj (fun _ K k => qr_q hj9 k (fun _ => by rw [ed])) (fun c _ _ _ => absurd (by rw [ed]; exact hk9) c)
  · skip
    refine ⟨1, 0, (D, cs, n, H, B, e, T), Or.inr (Or.inl rfl), wt1_jobCost (e_jobCost (Rp := QTf Γ P I (D, cs, n, H, B, e, T)) h9 h hj hk9 (qt_0 hc)) o30 o21 (fun P' J q => qc_t (by decide) q), fun Γ' P' J hj9 => ?_⟩
    have ed := hj9.2.1.d
    have hG := hj9.2.1.gd
    exact q_jobCost hj9.1 hG hj (fun c _ _ => absurd (by rw [ed] at c; exact c) hk9) (fun _ _ K k => qr_q hj9 k (fun z => absurd z (by decide)))
theorem s_blockedTime (h9 : (gl Γ).stackTraces = false) (hi : IRs Γ P I S) (hc : ICs Γ P I S) {m : Int} (hm : inR m) : SWp Γ P I S mW_blockedTime hW_blockedTime [vR 30, vI m, vR 21] m_X6_blockedTime [vR 1, vI m] := by
  obtain ⟨D, cs, n, H, B, e, T⟩ := S
  obtain ⟨⟨σ, κ, N, σ2, κ2, N2, oc, h⟩, hcr⟩ := hc
  have hc : ICs Γ P I (D, cs, n, H, B, e, T) := ⟨⟨σ, κ, N, σ2, κ2, N2, oc, h⟩, hcr⟩
  have o21 := hcr.2.2.2.1
  have o30 := LBS_ob h.b
  by_cases hk9 : mOk D m
  · skip
    refine ⟨0, _, (D, cs, n, H, B, e, T), Or.inl rfl, w_blockedTime (cl_ri (b_blockedTime (R := fun z J => QDf Γ P I (D, cs, n, H, B, e, T) (bkN D (TD D) m.toNat (D (5 + 9 * m.toNat + 2)).toNat) z P J) h hm hk9 (qd_0 hc)) (fun _ _ q => q)) o30 o21 (fun z P' J q => qc_d q), fun Γ' P' J hj9 => ?_⟩
    have ed := hj9.2.1.d
    have hG := hj9.2.1.gd
    exact q_blockedTime hj9.1 hG hm (fun _ K k => qr_q hj9 k (fun _ => by rw [ed])) (fun c _ _ _ => absurd (by rw [ed]; exact hk9) c)
  · skip
    refine ⟨1, 0, (D, cs, n, H, B, e, T), Or.inr (Or.inl rfl), wt1_blockedTime (e_blockedTime (Rp := QTf Γ P I (D, cs, n, H, B, e, T)) h9 h hm hk9 (qt_0 hc)) o30 o21 (fun P' J q => qc_t (by decide) q), fun Γ' P' J hj9 => ?_⟩
    have ed := hj9.2.1.d
    have hG := hj9.2.1.gd
    exact q_blockedTime hj9.1 hG hm (fun c _ _ => absurd (by rw [ed] at c; exact c) hk9) (fun _ _ K k => qr_q hj9 k (fun z => absurd z (by decide)))
theorem s_operation (h9 : (gl Γ).stackTraces = false) (hi : IRs Γ P I S) (hc : ICs Γ P I S) {j k w : Int} (hj : inR j) (hk : inR k) (hw : inR w) : SWp Γ P I S mW_operation hW_operation [vR 30, vI j, vI k, vI w, vR 21] m_X6_operation [vR 1, vI j, vI k, vI w] := by
  obtain ⟨D, cs, n, H, B, e, T⟩ := S
  obtain ⟨⟨σ, κ, N, σ2, κ2, N2, oc, h⟩, hcr⟩ := hc
  have hc : ICs Γ P I (D, cs, n, H, B, e, T) := ⟨⟨σ, κ, N, σ2, κ2, N2, oc, h⟩, hcr⟩
  have o21 := hcr.2.2.2.1
  have o30 := LBS_ob h.b
  by_cases hk9 : oOk D j k
  · by_cases hw9 : 0 ≤ w ∧ w ≤ 2
    · skip
      refine ⟨0, _, (D, cs, n, H, B, e, T), Or.inl rfl, w_operation (cl_ri (b_operation (R := fun z J => QDf Γ P I (D, cs, n, H, B, e, T) (if w = 2 then (plD D (6 * j + k).toNat : Int) else D (83 + 2 * (6 * j + k).toNat + w.toNat)) z P J) h hj hk hw hk9 hw9.1 hw9.2 (qd_0 hc)) (fun _ _ q => q)) o30 o21 (fun z P' J q => qc_d q), fun Γ' P' J hj9 => ?_⟩
      have ed := hj9.2.1.d
      have hG := hj9.2.1.gd
      exact q_operation hj9.1 hG.1 hG.2.1 hj hk hw (fun _ _ _ K k => qr_q hj9 k (fun _ => by rw [ed])) (fun c _ _ _ => absurd (by rw [ed]; exact hk9) c) (fun _ c _ _ _ => absurd hw9 (by omega))
    · skip
      refine ⟨2, 0, (D, cs, n, H, B, e, T), Or.inr (Or.inr rfl), wt2_operation (e2_operation (Rp := QTf Γ P I (D, cs, n, H, B, e, T)) h9 h hj hk hw hk9 (by omega) (qt_0 hc)) o30 o21 (fun P' J q => qc_t (by decide) q), fun Γ' P' J hj9 => ?_⟩
      have ed := hj9.2.1.d
      have hG := hj9.2.1.gd
      exact q_operation hj9.1 hG.1 hG.2.1 hj hk hw (fun _ a b => absurd ⟨a, b⟩ hw9) (fun c _ _ _ => absurd (by rw [ed]; exact hk9) c) (fun _ _ _ K k => qr_q hj9 k (fun z => absurd z (by decide)))
  · skip
    refine ⟨1, 0, (D, cs, n, H, B, e, T), Or.inr (Or.inl rfl), wt1_operation (e_operation (Rp := QTf Γ P I (D, cs, n, H, B, e, T)) h9 h hj hk hw hk9 (qt_0 hc)) o30 o21 (fun P' J q => qc_t (by decide) q), fun Γ' P' J hj9 => ?_⟩
    have ed := hj9.2.1.d
    have hG := hj9.2.1.gd
    exact q_operation hj9.1 hG.1 hG.2.1 hj hk hw (fun c => absurd (by rw [ed] at c; exact c) hk9) (fun _ _ K k => qr_q hj9 k (fun z => absurd z (by decide))) (fun c => absurd (by rw [ed] at c; exact c) hk9)
theorem s_critical (h9 : (gl Γ).stackTraces = false) (hi : IRs Γ P I S) (hc : ICs Γ P I S) {k : Int} (hk : inR k) : SWp Γ P I S mW_critical hW_critical [vR 30, vI k, vR 21] m_X6_critical [vR 1, vI k] := by
  obtain ⟨D, cs, n, H, B, e, T⟩ := S
  obtain ⟨⟨σ, κ, N, σ2, κ2, N2, oc, h⟩, hcr⟩ := hc
  have hc : ICs Γ P I (D, cs, n, H, B, e, T) := ⟨⟨σ, κ, N, σ2, κ2, N2, oc, h⟩, hcr⟩
  have o21 := hcr.2.2.2.1
  have o30 := LBS_ob h.b
  by_cases hk9 : 0 ≤ k ∧ k < ((pathX D).length : Int)
  · skip
    refine ⟨0, _, (D, cs, n, H, B, e, T), Or.inl rfl, w_critical (cl_ri (b_critical (R := fun z J => QDf Γ P I (D, cs, n, H, B, e, T) (tlF (getR (pathX D) k.toNat).toNat) z P J) h hk hk9.1 hk9.2 (fun J k => qd_q hc k)) (fun _ _ q => q)) o30 o21 (fun z P' J q => qc_d q), fun Γ' P' J hj9 => ?_⟩
    have ed := hj9.2.1.d
    have hG := hj9.2.1.gd
    exact q_critical hj9.1 hG hk (fun _ _ K k => qr_q hj9 k (fun _ => by rw [ed])) (fun c _ _ _ => absurd (by rw [ed]; exact hk9) c)
  · skip
    refine ⟨1, 0, (D, cs, n, H, B, e, T), Or.inr (Or.inl rfl), wt1_critical (e_critical (Rp := QTf Γ P I (D, cs, n, H, B, e, T)) h9 h hk hk9 (fun J k => qt_q hc k)) o30 o21 (fun P' J q => qc_t (by decide) q), fun Γ' P' J hj9 => ?_⟩
    have ed := hj9.2.1.d
    have hG := hj9.2.1.gd
    exact q_critical hj9.1 hG hk (fun a b => absurd ⟨a, by rw [ed] at b; exact b⟩ hk9) (fun _ _ K k => qr_q hj9 k (fun z => absurd z (by decide)))
theorem s_deadlocks (h9 : (gl Γ).stackTraces = false) (hi : IRs Γ P I S) (hc : ICs Γ P I S) {m p : Int} (hm : inR m) (hp : inR p) : SWb Γ P I S mW_deadlocks hW_deadlocks [vR 30, vI m, vI p, vR 21] m_X6_deadlocks [vR 1, vI m, vI p] := by
  obtain ⟨D, cs, n, H, B, e, T⟩ := S
  obtain ⟨⟨σ, κ, N, σ2, κ2, N2, oc, h⟩, hcr⟩ := hc
  have hc : ICs Γ P I (D, cs, n, H, B, e, T) := ⟨⟨σ, κ, N, σ2, κ2, N2, oc, h⟩, hcr⟩
  have o21 := hcr.2.2.2.1
  have o30 := LBS_ob h.b
  by_cases hk9 : sOk D m p
  · skip
    refine ⟨0, pIf (Fr (exF D m.toNat p.toNat)) 0 1, (D, cs, n, H, B, e, T), Or.inl rfl, pif_01, w_deadlocks (b_deadlocks (Rq := QDf Γ P I (D, cs, n, H, B, e, T) (pIf (Fr (exF D m.toNat p.toNat)) 0 1)) h hm hp hk9 (fun P1 J k1 k2 k3 => qd_m hc k1 k2.m ⟨_, _, _, _, _, _, _, k3⟩)) o30 o21 (fun z P' J q => qc_d q) (fun z P' J q => by rw [q.1]; exact pif_01), fun Γ' P' J hj9 => ?_⟩
    have ed := hj9.2.1.d
    have hG := hj9.2.1.gd
    exact q_deadlocks hj9.1 hG hm hp (fun _ K k => qr_q hj9 k (fun _ => by rw [ed])) (fun c _ _ => absurd (by rw [ed]; exact hk9) c)
  · skip
    refine ⟨1, 0, (D, cs, n, H, B, e, T), Or.inr (Or.inl rfl), Or.inl rfl, wt1_deadlocks (e_deadlocks (Rp := QTf Γ P I (D, cs, n, H, B, e, T)) h9 h hm hp hk9 (qt_0 hc)) o30 o21 (fun P' J q => qc_t (by decide) q), fun Γ' P' J hj9 => ?_⟩
    have ed := hj9.2.1.d
    have hG := hj9.2.1.gd
    exact q_deadlocks hj9.1 hG hm hp (fun c _ _ => absurd (by rw [ed] at c; exact c) hk9) (fun _ K k => qr_q hj9 k (fun z => absurd z (by decide)))
theorem s_makespanAfter (h9 : (gl Γ).stackTraces = false) (hi : IRs Γ P I S) (hc : ICs Γ P I S) {m p : Int} (hm : inR m) (hp : inR p) : SWp Γ P I S mW_makespanAfter hW_makespanAfter [vR 30, vI m, vI p, vR 21] m_X6_makespanAfter [vR 1, vI m, vI p] := by
  obtain ⟨D, cs, n, H, B, e, T⟩ := S
  obtain ⟨⟨σ, κ, N, σ2, κ2, N2, oc, h⟩, hcr⟩ := hc
  have hc : ICs Γ P I (D, cs, n, H, B, e, T) := ⟨⟨σ, κ, N, σ2, κ2, N2, oc, h⟩, hcr⟩
  have o21 := hcr.2.2.2.1
  have o30 := LBS_ob h.b
  by_cases hk9 : sOk D m p
  · skip
    refine ⟨0, _, (D, cs, n, H, B, e, T), Or.inl rfl, w_makespanAfter (b_makespanAfter (Rq := QDf Γ P I (D, cs, n, H, B, e, T) (aftX D m.toNat p.toNat)) h hm hp hk9 (fun P1 J k1 k2 k3 => qd_m hc k1 k2.m ⟨_, _, _, _, _, _, _, k3⟩)) o30 o21 (fun z P' J q => qc_d q), fun Γ' P' J hj9 => ?_⟩
    have ed := hj9.2.1.d
    have hG := hj9.2.1.gd
    exact q_makespanAfter hj9.1 hG hm hp (fun _ K k => qr_q hj9 k (fun _ => by rw [ed])) (fun c _ _ => absurd (by rw [ed]; exact hk9) c)
  · skip
    refine ⟨1, 0, (D, cs, n, H, B, e, T), Or.inr (Or.inl rfl), wt1_makespanAfter (e_makespanAfter (Rp := QTf Γ P I (D, cs, n, H, B, e, T)) h9 h hm hp hk9 (qt_0 hc)) o30 o21 (fun P' J q => qc_t (by decide) q), fun Γ' P' J hj9 => ?_⟩
    have ed := hj9.2.1.d
    have hG := hj9.2.1.gd
    exact q_makespanAfter hj9.1 hG hm hp (fun c _ _ => absurd (by rw [ed] at c; exact c) hk9) (fun _ K k => qr_q hj9 k (fun z => absurd z (by decide)))
theorem s_swap (h9 : (gl Γ).stackTraces = false) (hi : IRs Γ P I S) (hc : ICs Γ P I S) {m p : Int} (hm : inR m) (hp : inR p) : SWp Γ P I S mW_swap hW_swap [vR 30, vI m, vI p, vR 21] m_X6_swap [vR 1, vI m, vI p] := by
  obtain ⟨D, cs, n, H, B, e, T⟩ := S
  obtain ⟨⟨σ, κ, N, σ2, κ2, N2, oc, h⟩, hcr⟩ := hc
  have hc : ICs Γ P I (D, cs, n, H, B, e, T) := ⟨⟨σ, κ, N, σ2, κ2, N2, oc, h⟩, hcr⟩
  have o21 := hcr.2.2.2.1
  have o30 := LBS_ob h.b
  by_cases hk9 : sOk D m p
  · by_cases hf : Fr (exF D m.toNat p.toNat)
    · skip
      refine ⟨0, _, (exF D m.toNat p.toNat, cs, rmN n, rmH (D, cs) n H, B, e, T), Or.inl rfl, w_swap (b_swap (Rq := QDf Γ P I (exF D m.toNat p.toNat, cs, rmN n, rmH (D, cs) n H, B, e, T) (spanX (exF D m.toNat p.toNat))) h hm hp hk9 hf (fun P1 J oc1 k1 k2 k3 => qd_m hc k1 k2 ⟨_, _, _, _, _, _, _, k3⟩)) o30 o21 (fun z P' J q => qc_d q), fun Γ' P' J hj9 => ?_⟩
      have ed := hj9.2.1.d
      have hG := hj9.2.1.gd
      exact q_swap hj9.1 hj9.2.1 hm hp (fun _ _ K k r => qr_m hj9 k r (fun _ => rfl)) (fun _ c => absurd hf c) (fun c => absurd hk9 c)
    · skip
      refine ⟨2, 0, (D, cs, n, H, B, e, T), Or.inr (Or.inr rfl), wt2_swap (e2_swap (Rp := QTf Γ P I (D, cs, n, H, B, e, T)) h9 h hm hp hk9 hf (fun P1 J k1 k2 k3 => qt_m hc k1 k2.m ⟨_, _, _, _, _, _, _, k3⟩)) o30 o21 (fun P' J q => qc_t (by decide) q), fun Γ' P' J hj9 => ?_⟩
      have ed := hj9.2.1.d
      have hG := hj9.2.1.gd
      exact q_swap hj9.1 hj9.2.1 hm hp (fun _ c => absurd c hf) (fun _ _ K k => qr_q hj9 k (fun z => absurd z (by decide))) (fun c => absurd hk9 c)
  · skip
    refine ⟨1, 0, (D, cs, n, H, B, e, T), Or.inr (Or.inl rfl), wt1_swap (e_swap (Rp := QTf Γ P I (D, cs, n, H, B, e, T)) h9 h hm hp hk9 (qt_0 hc)) o30 o21 (fun P' J q => qc_t (by decide) q), fun Γ' P' J hj9 => ?_⟩
    have ed := hj9.2.1.d
    have hG := hj9.2.1.gd
    exact q_swap hj9.1 hj9.2.1 hm hp (fun c => absurd c hk9) (fun c => absurd c hk9) (fun _ K k => qr_q hj9 k (fun z => absurd z (by decide)))
theorem s_improve (h9 : (gl Γ).stackTraces = false) (hi : IRs Γ P I S) (hc : ICs Γ P I S) {x : Int} (hx : inR x) : SWp Γ P I S mW_improve hW_improve [vR 30, vI x, vR 21] m_X6_improve [vR 1, vI x] := by
  obtain ⟨D, cs, n, H, B, e, T⟩ := S
  obtain ⟨⟨σ, κ, N, σ2, κ2, N2, oc, h⟩, hcr⟩ := hc
  have hc : ICs Γ P I (D, cs, n, H, B, e, T) := ⟨⟨σ, κ, N, σ2, κ2, N2, oc, h⟩, hcr⟩
  have o21 := hcr.2.2.2.1
  have o30 := LBS_ob h.b
  by_cases hk9 : 1 ≤ x ∧ x ≤ 20
  · skip
    refine ⟨0, _, ((impX cs x.toNat D).1, cs, rmN n, rmH (D, cs) n H, B, e, T), Or.inl rfl, w_improve (b_improve (Rq := QDf Γ P I ((impX cs x.toNat D).1, cs, rmN n, rmH (D, cs) n H, B, e, T) ((impX cs x.toNat D).2 : Int)) h hx hk9.1 hk9.2 (fun P1 J σ3 κ3 N3 oc1 k1 k2 k3 => qd_m hc k1 k2 ⟨_, _, _, _, _, _, _, k3⟩)) o30 o21 (fun z P' J q => qc_d q), fun Γ' P' J hj9 => ?_⟩
    have ed := hj9.2.1.d
    have hG := hj9.2.1.gd
    exact q_improve hj9.1 hj9.2.1 hx (fun _ _ K k r => qr_m hj9 k r (fun _ => rfl)) (fun c => absurd hk9 c)
  · skip
    refine ⟨1, 0, (D, cs, n, H, B, e, T), Or.inr (Or.inl rfl), wt1_improve (e_improve (Rp := QTf Γ P I (D, cs, n, H, B, e, T)) h9 h hx hk9 (qt_0 hc)) o30 o21 (fun P' J q => qc_t (by decide) q), fun Γ' P' J hj9 => ?_⟩
    have ed := hj9.2.1.d
    have hG := hj9.2.1.gd
    exact q_improve hj9.1 hj9.2.1 hx (fun a b => absurd ⟨a, b⟩ hk9) (fun _ K k => qr_q hj9 k (fun z => absurd z (by decide)))
theorem s_setDuration (h9 : (gl Γ).stackTraces = false) (hi : IRs Γ P I S) (hc : ICs Γ P I S) {j k d : Int} (hj : inR j) (hk : inR k) (hd : inR d) : SWp Γ P I S mW_setDuration hW_setDuration [vR 30, vI j, vI k, vI d, vR 21] m_X6_setDuration [vR 1, vI j, vI k, vI d] := by
  obtain ⟨D, cs, n, H, B, e, T⟩ := S
  obtain ⟨⟨σ, κ, N, σ2, κ2, N2, oc, h⟩, hcr⟩ := hc
  have hc : ICs Γ P I (D, cs, n, H, B, e, T) := ⟨⟨σ, κ, N, σ2, κ2, N2, oc, h⟩, hcr⟩
  have o21 := hcr.2.2.2.1
  have o30 := LBS_ob h.b
  by_cases hk9 : oOk D j k
  · by_cases hd9 : 1 ≤ d ∧ d ≤ 99
    · skip
      refine ⟨0, _, (duF D (6 * j + k).toNat d, cs, rmN n, rmH (D, cs) n H, B, e, T), Or.inl rfl, w_setDuration (b_setDuration (Rq := QDf Γ P I (duF D (6 * j + k).toNat d, cs, rmN n, rmH (D, cs) n H, B, e, T) (D (83 + 2 * (6 * j + k).toNat + 1))) h hj hk hd hk9 hd9.1 hd9.2 (fun P1 J oc1 k1 k2 k3 => qd_m hc k1 k2 ⟨_, _, _, _, _, _, _, k3⟩)) o30 o21 (fun z P' J q => qc_d q), fun Γ' P' J hj9 => ?_⟩
      have ed := hj9.2.1.d
      have hG := hj9.2.1.gd
      exact q_setDuration hj9.1 hj9.2.1 hj hk hd (fun _ _ _ K k r => qr_m hj9 k r (fun _ => rfl)) (fun c => absurd hk9 c) (fun _ c => absurd hd9 c)
    · skip
      refine ⟨2, 0, (D, cs, n, H, B, e, T), Or.inr (Or.inr rfl), wt2_setDuration (e2_setDuration (Rp := QTf Γ P I (D, cs, n, H, B, e, T)) h9 h hj hk hd hk9 hd9 (qt_0 hc)) o30 o21 (fun P' J q => qc_t (by decide) q), fun Γ' P' J hj9 => ?_⟩
      have ed := hj9.2.1.d
      have hG := hj9.2.1.gd
      exact q_setDuration hj9.1 hj9.2.1 hj hk hd (fun _ a b => absurd ⟨a, b⟩ hd9) (fun c => absurd hk9 c) (fun _ _ K k => qr_q hj9 k (fun z => absurd z (by decide)))
  · skip
    refine ⟨1, 0, (D, cs, n, H, B, e, T), Or.inr (Or.inl rfl), wt1_setDuration (e_setDuration (Rp := QTf Γ P I (D, cs, n, H, B, e, T)) h9 h hj hk hd hk9 (qt_0 hc)) o30 o21 (fun P' J q => qc_t (by decide) q), fun Γ' P' J hj9 => ?_⟩
    have ed := hj9.2.1.d
    have hG := hj9.2.1.gd
    exact q_setDuration hj9.1 hj9.2.1 hj hk hd (fun c => absurd c hk9) (fun _ K k => qr_q hj9 k (fun z => absurd z (by decide))) (fun c => absurd c hk9)
theorem s_place (h9 : (gl Γ).stackTraces = false) (hi : IRs Γ P I S) (hc : ICs Γ P I S) {j k p : Int} (hj : inR j) (hk : inR k) (hp : inR p) : SWp Γ P I S mW_place hW_place [vR 30, vI j, vI k, vI p, vR 21] m_X6_place [vR 1, vI j, vI k, vI p] := by
  obtain ⟨D, cs, n, H, B, e, T⟩ := S
  obtain ⟨⟨σ, κ, N, σ2, κ2, N2, oc, h⟩, hcr⟩ := hc
  have hc : ICs Γ P I (D, cs, n, H, B, e, T) := ⟨⟨σ, κ, N, σ2, κ2, N2, oc, h⟩, hcr⟩
  have o21 := hcr.2.2.2.1
  have o30 := LBS_ob h.b
  by_cases hk9 : oOk D j k
  · obtain ⟨o, hv, eo, -, -⟩ := hk9.nat h.wr
    have ou : ∀ u : Nat, 6 * j + k = (u : Int) → u = o := fun u hu => by omega
    by_cases hp9 : 0 ≤ p ∧ p < D (5 + 9 * mcO D o + 2)
    · by_cases hf : Fr (mvF D (mcO D o) (plD D o) p.toNat)
      · skip
        refine ⟨0, _, (mvF D (mcO D o) (plD D o) p.toNat, cs, rmN n, rmH (D, cs) n H, B, e, T), Or.inl rfl, w_place (b_place (Rq := QDf Γ P I (mvF D (mcO D o) (plD D o) p.toNat, cs, rmN n, rmH (D, cs) n H, B, e, T) (spanX (mvF D (mcO D o) (plD D o) p.toNat))) h hj hk hp hk9 hv eo hp9.1 hp9.2 hf (fun P1 J oc1 k1 k2 k3 => qd_m hc k1 k2 ⟨_, _, _, _, _, _, _, k3⟩)) o30 o21 (fun z P' J q => qc_d q), fun Γ' P' J hj9 => ?_⟩
        have ed := hj9.2.1.d
        have hG := hj9.2.1.gd
        exact q_place hj9.1 hj9.2.1 hj hk hp (fun u _ _ hu _ _ _ K k r => by rw [ou u hu] at r ⊢; exact qr_m hj9 k r (fun _ => rfl)) (fun u _ _ hu _ _ c => absurd (by rw [ou u hu]; exact hf) c) (fun c => absurd hk9 c) (fun u _ _ hu c => absurd (by rw [ou u hu]; exact hp9) c)
      · skip
        refine ⟨2, 0, (D, cs, n, H, B, e, T), Or.inr (Or.inr rfl), wt2_place (e3_place (Rp := QTf Γ P I (D, cs, n, H, B, e, T)) h9 h hj hk hp hk9 hv eo hp9.1 hp9.2 hf (fun P1 J k1 k2 k3 => qt_m hc k1 k2.m ⟨_, _, _, _, _, _, _, k3⟩)) o30 o21 (fun P' J q => qc_t (by decide) q), fun Γ' P' J hj9 => ?_⟩
        have ed := hj9.2.1.d
        have hG := hj9.2.1.gd
        exact q_place hj9.1 hj9.2.1 hj hk hp (fun u _ _ hu _ _ c => absurd (by rw [ou u hu] at c; exact c) hf) (fun u _ _ hu _ _ _ K k r => qr_m hj9 k r (fun z => absurd z (by decide))) (fun c => absurd hk9 c) (fun u _ _ hu c => absurd (by rw [ou u hu]; exact hp9) c)
    · skip
      refine ⟨1, 0, (D, cs, n, H, B, e, T), Or.inr (Or.inl rfl), wt1_place (e2_place (Rp := QTf Γ P I (D, cs, n, H, B, e, T)) h9 h hj hk hp hk9 hv eo hp9 (qt_0 hc)) o30 o21 (fun P' J q => qc_t (by decide) q), fun Γ' P' J hj9 => ?_⟩
      have ed := hj9.2.1.d
      have hG := hj9.2.1.gd
      exact q_place hj9.1 hj9.2.1 hj hk hp (fun u _ _ hu a b => absurd ⟨a, by rw [ou u hu] at b; exact b⟩ hp9) (fun u _ _ hu a b => absurd ⟨a, by rw [ou u hu] at b; exact b⟩ hp9) (fun c => absurd hk9 c) (fun u _ _ hu _ K k => qr_q hj9 k (fun z => absurd z (by decide)))
  · skip
    refine ⟨1, 0, (D, cs, n, H, B, e, T), Or.inr (Or.inl rfl), wt1_place (e_place (Rp := QTf Γ P I (D, cs, n, H, B, e, T)) h9 h hj hk hp hk9 (qt_0 hc)) o30 o21 (fun P' J q => qc_t (by decide) q), fun Γ' P' J hj9 => ?_⟩
    have ed := hj9.2.1.d
    have hG := hj9.2.1.gd
    exact q_place hj9.1 hj9.2.1 hj hk hp (fun u c => absurd c hk9) (fun u c => absurd c hk9) (fun _ K k => qr_q hj9 k (fun z => absurd z (by decide))) (fun u c => absurd c hk9)
theorem s_load (h9 : (gl Γ).stackTraces = false) (hi : IRs Γ P I S) (hc : ICs Γ P I S) {x : Int} (hx : inR x) : SWp Γ P I S mW_load hW_load [vR 30, vI x, vR 21] m_X6_load [vR 1, vI x] := by
  obtain ⟨D, cs, n, H, B, e, T⟩ := S
  obtain ⟨⟨σ, κ, N, σ2, κ2, N2, oc, h⟩, hcr⟩ := hc
  have hc : ICs Γ P I (D, cs, n, H, B, e, T) := ⟨⟨σ, κ, N, σ2, κ2, N2, oc, h⟩, hcr⟩
  have o21 := hcr.2.2.2.1
  have o30 := LBS_ob h.b
  obtain ⟨hB, hT, he, -, ra⟩ := hcr
  have hb9 := hi.2.2.2.1
  have hTb := hi.2.2.2.2.1
  by_cases hk9 : 0 ≤ x ∧ x ≤ (B : Int)
  · obtain ⟨s, hs, hw⟩ := bw_ex ra
    have ex : x = ((x.toNat : Nat) : Int) := by omega
    have hk10 : x.toNat ≤ B := by omega
    cases hl : lodS T x.toNat with
    | ok q =>
      obtain ⟨E, ce⟩ := q
      refine ⟨0, E 2, (fpD E 36, ce, rmN n, rmH (D, cs) n H, 0, -1, T), Or.inl rfl, w_load (R := fun z Γ' P' J => z = E 2 ∧ (∀ r : Nat, r < 30 → P' r = P r) ∧ (∀ r : Nat, r < 21 → J r = I r) ∧ ICs Γ' P' J (fpD E 36, ce, rmN n, rmH (D, cs) n H, 0, -1, T)) (by
        rw [ex]
        exact g_load h hB hb9 hk10 hT hTb hs hw (fun Γ' P' J E' ce' σ' κ' N' oc' l1 l2 l3 l4 kp ra' fp ld l5 l6 => by
          rw [hl] at l1
          cases l1
          exact ⟨kp, E 2, rfl, rfl, fun r hr => fp r (by omega), fun r hr => ld.1 r (by omega), ⟨_, _, _, _, _, _, _, l6⟩, ld.2.2, fun k hk => by rw [ld.2.1]; exact hT k hk, l5, o21.keep kp, ra'⟩) (fun Γ' P' J e' l1 => by rw [hl] at l1; cases l1)) o30 o21 (fun z Γ' P' J kp q => ⟨rfl, kp, q.2.1, fun r hr => by rw [up2_ne (by omega)]; exact q.2.2.1 r hr, fun _ => by rw [up2_eq, q.1], q.2.2.2.out _⟩), fun Γ' P' J hj9 => ?_⟩
      exact q_load hj9.1 hj9.2.1 hj9.2.2.1 hj9.2.2.2.1 (fun k hk => by rw [hj9.2.2.2.2.2.1]; exact hTb k hk) hx (fun K E' ce' a b l2 l3 l4 ld r t0 c0 c7 l1 => by
        rw [hj9.2.2.2.2.2.1, hl] at l1
        cases l1
        exact ⟨fun r hr => ld r (Or.inr hr), t0, fun _ => rfl, hj9.1, r, c0, Nat.zero_le _, hTb, (ld 2 (Or.inl rfl)).trans hj9.2.2.2.2.2.1, c7⟩) (fun K e' a b l1 => by rw [hj9.2.2.2.2.2.1, hl] at l1; cases l1) (fun c => absurd hk9 c)
    | error e1 =>
      refine ⟨0, e1.1, (D, cs, n, H, 0, (e1.2 : Int), T), Or.inl rfl, w_load (R := fun z Γ' P' J => z = e1.1 ∧ (∀ r : Nat, r < 30 → P' r = P r) ∧ (∀ r : Nat, r < 21 → J r = I r) ∧ ICs Γ' P' J (D, cs, n, H, 0, (e1.2 : Int), T)) (by
        rw [ex]
        exact g_load h hB hb9 hk10 hT hTb hs hw (fun Γ' P' J E' ce' σ' κ' N' oc' l1 => by rw [hl] at l1; cases l1) (fun Γ' P' J e' l1 kp ra' fp ld l5 l6 => by
          rw [hl] at l1
          cases l1
          exact ⟨kp, e1.1, rfl, rfl, fun r hr => fp r (by omega), fun r hr => ld.1 r (by omega), ⟨_, _, _, _, _, _, _, l6⟩, ld.2.2, fun k hk => by rw [ld.2.1]; exact hT k hk, l5, o21.keep kp, ra'⟩)) o30 o21 (fun z Γ' P' J kp q => ⟨rfl, kp, q.2.1, fun r hr => by rw [up2_ne (by omega)]; exact q.2.2.1 r hr, fun _ => by rw [up2_eq, q.1], q.2.2.2.out _⟩), fun Γ' P' J hj9 => ?_⟩
      exact q_load hj9.1 hj9.2.1 hj9.2.2.1 hj9.2.2.2.1 (fun k hk => by rw [hj9.2.2.2.2.2.1]; exact hTb k hk) hx (fun K E' ce' a b l2 l3 l4 ld r t0 c0 c7 l1 => by rw [hj9.2.2.2.2.2.1, hl] at l1; cases l1) (fun K e' a b l1 ld r t0 c0 c7 => by
        rw [hj9.2.2.2.2.2.1, hl] at l1
        cases l1
        exact ⟨fun r hr => ld r (Or.inr hr), t0, fun _ => rfl, hj9.1, r, c0, Nat.zero_le _, hTb, (ld 2 (Or.inl rfl)).trans hj9.2.2.2.2.2.1, c7⟩) (fun c => absurd hk9 c)
  · skip
    refine ⟨1, 0, (D, cs, n, H, B, e, T), Or.inr (Or.inl rfl), wt1_load (e_load (Rp := QTf Γ P I (D, cs, n, H, B, e, T)) h9 h hx hB hb9 hk9 (qt_0 hc)) o30 o21 (fun P' J q => qc_t (by decide) q), fun Γ' P' J hj9 => ?_⟩
    have ed := hj9.2.1.d
    have hG := hj9.2.1.gd
    exact q_load hj9.1 hj9.2.1 hj9.2.2.1 hj9.2.2.2.1 (fun k hk => by rw [hj9.2.2.2.2.2.1]; exact hTb k hk) hx (fun K E' ce' a b => absurd ⟨a, b⟩ hk9) (fun K e' a b => absurd ⟨a, b⟩ hk9) (fun _ K k => qr_q hj9 k (fun z => absurd z (by decide)))
theorem s_machineCount (hi : IRs Γ P I S) (hc : ICs Γ P I S) : SDp Γ P I S m_X5_machineCount [vR 30] m_X6_machineCount [vR 1] := by
  obtain ⟨D, cs, n, H, B, e, T⟩ := S
  obtain ⟨⟨σ, κ, N, σ2, κ2, N2, oc, h⟩, hcr⟩ := hc
  have hc : ICs Γ P I (D, cs, n, H, B, e, T) := ⟨⟨σ, κ, N, σ2, κ2, N2, oc, h⟩, hcr⟩
  refine ⟨D 0, (D, cs, n, H, B, e, T), cl_ri (b_machineCount (R := fun z J => QDf Γ P I (D, cs, n, H, B, e, T) (D 0) z P J) h (qd_0 hc)) (fun _ _ q => q), fun Γ' P' J hj9 => ?_⟩
  have ed := hj9.2.1.d
  have hG := hj9.2.1.gd
  exact q_machineCount hj9.1 (fun K k => qr_q hj9 k (fun _ => by rw [ed]))
theorem s_jobCount (hi : IRs Γ P I S) (hc : ICs Γ P I S) : SDp Γ P I S m_X5_jobCount [vR 30] m_X6_jobCount [vR 1] := by
  obtain ⟨D, cs, n, H, B, e, T⟩ := S
  obtain ⟨⟨σ, κ, N, σ2, κ2, N2, oc, h⟩, hcr⟩ := hc
  have hc : ICs Γ P I (D, cs, n, H, B, e, T) := ⟨⟨σ, κ, N, σ2, κ2, N2, oc, h⟩, hcr⟩
  refine ⟨D 2, (D, cs, n, H, B, e, T), cl_ri (b_jobCount (R := fun z J => QDf Γ P I (D, cs, n, H, B, e, T) (D 2) z P J) h (qd_0 hc)) (fun _ _ q => q), fun Γ' P' J hj9 => ?_⟩
  have ed := hj9.2.1.d
  have hG := hj9.2.1.gd
  exact q_jobCount hj9.1 (fun K k => qr_q hj9 k (fun _ => by rw [ed]))
theorem s_makespan (hi : IRs Γ P I S) (hc : ICs Γ P I S) : SDp Γ P I S m_X5_makespan [vR 30] m_X6_makespan [vR 1] := by
  obtain ⟨D, cs, n, H, B, e, T⟩ := S
  obtain ⟨⟨σ, κ, N, σ2, κ2, N2, oc, h⟩, hcr⟩ := hc
  have hc : ICs Γ P I (D, cs, n, H, B, e, T) := ⟨⟨σ, κ, N, σ2, κ2, N2, oc, h⟩, hcr⟩
  refine ⟨spanX D, (D, cs, n, H, B, e, T), cl_ri (b_makespan (R := fun z J => QDf Γ P I (D, cs, n, H, B, e, T) (spanX D) z P J) h (qd_0 hc)) (fun _ _ q => q), fun Γ' P' J hj9 => ?_⟩
  have ed := hj9.2.1.d
  have hG := hj9.2.1.gd
  exact q_makespan hj9.1 hG (fun K k => qr_q hj9 k (fun _ => by rw [ed]))
theorem s_planCost (hi : IRs Γ P I S) (hc : ICs Γ P I S) : SDp Γ P I S m_X5_planCost [vR 30] m_X6_planCost [vR 1] := by
  obtain ⟨D, cs, n, H, B, e, T⟩ := S
  obtain ⟨⟨σ, κ, N, σ2, κ2, N2, oc, h⟩, hcr⟩ := hc
  have hc : ICs Γ P I (D, cs, n, H, B, e, T) := ⟨⟨σ, κ, N, σ2, κ2, N2, oc, h⟩, hcr⟩
  refine ⟨costX D cs, (D, cs, n, H, B, e, T), cl_ri (b_planCost (R := fun z J => QDf Γ P I (D, cs, n, H, B, e, T) (costX D cs) z P J) h (fun J k => qd_q hc k)) (fun _ _ q => q), fun Γ' P' J hj9 => ?_⟩
  have ed := hj9.2.1.d
  have hG := hj9.2.1.gd
  exact q_planCost hj9.1 hG (fun K k => qr_q hj9 k (fun _ => by rw [ed]))
theorem s_criticalLength (hi : IRs Γ P I S) (hc : ICs Γ P I S) : SDp Γ P I S m_X5_criticalLength [vR 30] m_X6_criticalLength [vR 1] := by
  obtain ⟨D, cs, n, H, B, e, T⟩ := S
  obtain ⟨⟨σ, κ, N, σ2, κ2, N2, oc, h⟩, hcr⟩ := hc
  have hc : ICs Γ P I (D, cs, n, H, B, e, T) := ⟨⟨σ, κ, N, σ2, κ2, N2, oc, h⟩, hcr⟩
  refine ⟨((pathX D).length : Int), (D, cs, n, H, B, e, T), cl_ri (b_criticalLength (R := fun z J => QDf Γ P I (D, cs, n, H, B, e, T) (((pathX D).length : Int)) z P J) h (fun J k => qd_q hc k)) (fun _ _ q => q), fun Γ' P' J hj9 => ?_⟩
  have ed := hj9.2.1.d
  have hG := hj9.2.1.gd
  exact q_criticalLength hj9.1 hG (fun K k => qr_q hj9 k (fun _ => by rw [ed]))
theorem s_blockCount (hi : IRs Γ P I S) (hc : ICs Γ P I S) : SDp Γ P I S m_X5_blockCount [vR 30] m_X6_blockCount [vR 1] := by
  obtain ⟨D, cs, n, H, B, e, T⟩ := S
  obtain ⟨⟨σ, κ, N, σ2, κ2, N2, oc, h⟩, hcr⟩ := hc
  have hc : ICs Γ P I (D, cs, n, H, B, e, T) := ⟨⟨σ, κ, N, σ2, κ2, N2, oc, h⟩, hcr⟩
  refine ⟨bcN D (pathX D) (pathX D).length, (D, cs, n, H, B, e, T), cl_ri (b_blockCount (R := fun z J => QDf Γ P I (D, cs, n, H, B, e, T) (bcN D (pathX D) (pathX D).length) z P J) h (fun J k => qd_q hc k)) (fun _ _ q => q), fun Γ' P' J hj9 => ?_⟩
  have ed := hj9.2.1.d
  have hG := hj9.2.1.gd
  exact q_blockCount hj9.1 hG (fun K k => qr_q hj9 k (fun _ => by rw [ed]))
theorem s_longestBlock (hi : IRs Γ P I S) (hc : ICs Γ P I S) : SDp Γ P I S m_X5_longestBlock [vR 30] m_X6_longestBlock [vR 1] := by
  obtain ⟨D, cs, n, H, B, e, T⟩ := S
  obtain ⟨⟨σ, κ, N, σ2, κ2, N2, oc, h⟩, hcr⟩ := hc
  have hc : ICs Γ P I (D, cs, n, H, B, e, T) := ⟨⟨σ, κ, N, σ2, κ2, N2, oc, h⟩, hcr⟩
  refine ⟨(lbN D (pathX D) (pathX D).length).1, (D, cs, n, H, B, e, T), cl_ri (b_longestBlock (R := fun z J => QDf Γ P I (D, cs, n, H, B, e, T) ((lbN D (pathX D) (pathX D).length).1) z P J) h (fun J k => qd_q hc k)) (fun _ _ q => q), fun Γ' P' J hj9 => ?_⟩
  have ed := hj9.2.1.d
  have hG := hj9.2.1.gd
  exact q_longestBlock hj9.1 hG (fun K k => qr_q hj9 k (fun _ => by rw [ed]))
theorem s_errorOffset (hi : IRs Γ P I S) (hc : ICs Γ P I S) : SDp Γ P I S m_X5_errorOffset [vR 30] m_X6_errorOffset [vR 1] := by
  obtain ⟨D, cs, n, H, B, e, T⟩ := S
  obtain ⟨⟨σ, κ, N, σ2, κ2, N2, oc, h⟩, hcr⟩ := hc
  have hc : ICs Γ P I (D, cs, n, H, B, e, T) := ⟨⟨σ, κ, N, σ2, κ2, N2, oc, h⟩, hcr⟩
  refine ⟨e, (D, cs, n, H, B, e, T), cl_ri (b_errorOffset (R := fun z J => QDf Γ P I (D, cs, n, H, B, e, T) e z P J) h (by rw [hcr.2.2.1]; exact qd_0 hc)) (fun _ _ q => q), fun Γ' P' J hj9 => ?_⟩
  have ed := hj9.2.1.d
  have hG := hj9.2.1.gd
  exact q_errorOffset hj9.1 (fun K k => qr_q hj9 k (fun _ => hj9.2.2.2.2.2.2))
theorem s_bestSwap (hi : IRs Γ P I S) (hc : ICs Γ P I S) : SDp Γ P I S m_X5_bestSwap [vR 30] m_X6_bestSwap [vR 1] := by
  obtain ⟨D, cs, n, H, B, e, T⟩ := S
  obtain ⟨⟨σ, κ, N, σ2, κ2, N2, oc, h⟩, hcr⟩ := hc
  have hc : ICs Γ P I (D, cs, n, H, B, e, T) := ⟨⟨σ, κ, N, σ2, κ2, N2, oc, h⟩, hcr⟩
  refine ⟨(bestX D cs).1, (D, cs, n, H, B, e, T), b_bestSwap (Rq := QDf Γ P I (D, cs, n, H, B, e, T) (bestX D cs).1) h (fun P1 J σ3 κ3 N3 k1 k2 k3 => qd_m hc k1 k2.m ⟨_, _, _, _, _, _, _, k3⟩), fun Γ' P' J hj9 => ?_⟩
  have ed := hj9.2.1.d
  have hG := hj9.2.1.gd
  exact q_bestSwap hj9.1 hG (fun K k => qr_q hj9 k (fun _ => by rw [ed]))
theorem s_restart (hi : IRs Γ P I S) (hc : ICs Γ P I S) : SDp Γ P I S m_X5_restart [vR 30] m_X6_restart [vR 1] := by
  obtain ⟨D, cs, n, H, B, e, T⟩ := S
  obtain ⟨⟨σ, κ, N, σ2, κ2, N2, oc, h⟩, hcr⟩ := hc
  have hc : ICs Γ P I (D, cs, n, H, B, e, T) := ⟨⟨σ, κ, N, σ2, κ2, N2, oc, h⟩, hcr⟩
  refine ⟨spanX (fpD D 36), (fpD D 36, cs, rmN n, rmH (D, cs) n H, B, e, T), b_restart (Rq := QDf Γ P I (fpD D 36, cs, rmN n, rmH (D, cs) n H, B, e, T) (spanX (fpD D 36))) h (fun P1 J oc1 k1 k2 k3 => qd_m hc k1 k2 ⟨_, _, _, _, _, _, _, k3⟩), fun Γ' P' J hj9 => ?_⟩
  have ed := hj9.2.1.d
  have hG := hj9.2.1.gd
  exact q_restart hj9.1 hj9.2.1 (fun K k r => qr_m hj9 k r (fun _ => rfl))
theorem s_undo (hi : IRs Γ P I S) (hc : ICs Γ P I S) : SDp Γ P I S m_X5_undo [vR 30] m_X6_undo [vR 1] := by
  obtain ⟨D, cs, n, H, B, e, T⟩ := S
  obtain ⟨⟨σ, κ, N, σ2, κ2, N2, oc, h⟩, hcr⟩ := hc
  have hc : ICs Γ P I (D, cs, n, H, B, e, T) := ⟨⟨σ, κ, N, σ2, κ2, N2, oc, h⟩, hcr⟩
  by_cases hn : n = 0
  · skip
    refine ⟨-1, (D, cs, n, H, B, e, T), b_undo (Rq := QDf Γ P I (D, cs, n, H, B, e, T) (-1)) h (fun z => absurd hn z) (fun _ => qd_0 hc) (fun z => absurd hn z), fun Γ' P' J hj9 => ?_⟩
    have ed := hj9.2.1.d
    have hG := hj9.2.1.gd
    exact q_undo hj9.1 hj9.2.1 (fun _ K k => qr_q hj9 k (fun _ => rfl)) (fun z => absurd hn z)
  · skip
    refine ⟨((n - 1 : Nat) : Int), ((H (n - 1)).1, (H (n - 1)).2, n - 1, H, B, e, T), b_undo (Rq := QDf Γ P I ((H (n - 1)).1, (H (n - 1)).2, n - 1, H, B, e, T) ((n - 1 : Nat) : Int)) h (fun _ => (hi.2.1.h (n - 1) (Nat.sub_lt (Nat.pos_of_ne_zero hn) (Nat.zero_lt_one))).2) (fun z => absurd z hn) (fun _ P1 J σ3 κ3 N3 k1 k2 k3 => qd_m hc k1 k2 ⟨_, _, _, _, _, _, _, k3⟩), fun Γ' P' J hj9 => ?_⟩
    have ed := hj9.2.1.d
    have hG := hj9.2.1.gd
    exact q_undo hj9.1 hj9.2.1 (fun z => absurd z hn) (fun _ K k r => qr_m hj9 k r (fun _ => rfl))
theorem s_append (hi : IRs Γ P I S) (hc : ICs Γ P I S) {a b c d f : Int} (ha : inR a) (hb : inR b) (hc9 : inR c) (hd : inR d) (hf : inR f) : SDp Γ P I S m_X5_append [vR 30, vI a, vI b, vI c, vI d, vI f] m_X6_append [vR 1, vI a, vI b, vI c, vI d, vI f] := by
  obtain ⟨D, cs, n, H, B, e, T⟩ := S
  obtain ⟨⟨σ, κ, N, σ2, κ2, N2, oc, h⟩, hcr⟩ := hc
  have hc : ICs Γ P I (D, cs, n, H, B, e, T) := ⟨⟨σ, κ, N, σ2, κ2, N2, oc, h⟩, hcr⟩
  obtain ⟨hB, hT, he, o21, ra⟩ := hcr
  have hb9 := hi.2.2.2.1
  have hTb := hi.2.2.2.2.1
  by_cases hn : B + 20 ≤ 900
  · refine ⟨((B + 20 : Nat) : Int), (D, cs, n, H, B + 20, e, fun k => if B ≤ k ∧ k < B + 20 then byW a b c d f (k - B) else T k), cl_ri (b_append (R := fun z J => QDf Γ P I (D, cs, n, H, B + 20, e, fun k => if B ≤ k ∧ k < B + 20 then byW a b c d f (k - B) else T k) ((B + 20 : Nat) : Int) z P J) h.b hB hb9 (fun _ J k1 k2 k3 k4 => ⟨rfl, fun _ _ => rfl, fun r hr => k1 r (by omega) (by omega), ⟨_, _, _, _, _, _, _, h.r (fun r hr => k1 r (by omega) (by omega)) (k2 8 (by decide)) (k2 9 (by decide))⟩, k3, fun k hk => ?_, (k2 2 (by decide)).trans he, o21, ra⟩) (fun z => absurd hn z)) (fun _ _ q => q), fun Γ' P' J hj9 => ?_⟩
    · show J 32 k = b8 (if B ≤ k ∧ k < B + 20 then byW a b c d f (k - B) else T k)
      rw [k4 k]
      split
      · rfl
      · exact hT k hk
    · refine q_append hj9.1 hj9.2.2.1 hj9.2.2.2.1 ha hb hc9 hd hf (fun _ K k1 k2 t0 k3 k4 => ⟨fun r hr => k1 r (by omega) (by omega), t0, fun _ => rfl, hj9.1, ?_, k3, by omega, fun k hk => ?_, funext fun k => ?_, (k2 7 (by decide) (by decide)).trans hj9.2.2.2.2.2.2⟩) (fun z => absurd hn z)
      · have r := hj9.2.1
        exact ⟨(k1 3 (by decide) (by decide)).trans r.d, r.g, r.n8, by rw [k2 12 (by decide) (by decide)]; exact r.c, fun k hk => ⟨by rw [k1 (13 + k) (by omega) (by omega)]; exact (r.h k hk).1, (r.h k hk).2⟩, fun q hq => by rw [k1 q (by omega) (by omega)]; exact r.z q hq⟩
      · show 0 ≤ (if B ≤ k ∧ k < B + 20 then byW a b c d f (k - B) else T k) ∧ (if B ≤ k ∧ k < B + 20 then byW a b c d f (k - B) else T k) ≤ 255
        split
        · unfold byW
          exact ⟨Int.emod_nonneg _ (by decide), by have := Int.emod_lt_of_pos ((if k - B < 4 then a else if k - B < 8 then b else if k - B < 12 then c else if k - B < 16 then d else f) / ((2 ^ (24 - 8 * ((k - B) % 4)) : Nat) : Int)) (show (0 : Int) < 256 by decide); omega⟩
        · exact hTb k hk
      · rw [k4 k, hj9.2.2.2.2.2.1]
  · skip
    refine ⟨-1, (D, cs, n, H, B, e, T), cl_ri (b_append (R := fun z J => QDf Γ P I (D, cs, n, H, B, e, T) (-1) z P J) h.b hB hb9 (fun z => absurd z hn) (fun _ => qd_0 hc)) (fun _ _ q => q), fun Γ' P' J hj9 => ?_⟩
    have ed := hj9.2.1.d
    have hG := hj9.2.1.gd
    exact q_append hj9.1 hj9.2.2.1 hj9.2.2.2.1 ha hb hc9 hd hf (fun z => absurd z hn) (fun _ K k => qr_q hj9 k (fun _ => rfl))
theorem s_checksum (hi : IRs Γ P I S) (hc : ICs Γ P I S) : ∃ val : Int, Cl Γ m_X5_checksum [vR 30] P I (rl P (fun z J => QDf Γ P I S val z P J)) ∧ ∀ (Γ' : GG) (P' : MP) (J : MM), IRs Γ' P' J S → Cl Γ' m_X6_checksum [vR 1] P' J (rl P' (QRf Γ' P' J S 0 val)) := by
  obtain ⟨D, cs, n, H, B, e, T⟩ := S
  obtain ⟨⟨σ, κ, N, σ2, κ2, N2, oc, h⟩, hcr⟩ := hc
  have hc : ICs Γ P I (D, cs, n, H, B, e, T) := ⟨⟨σ, κ, N, σ2, κ2, N2, oc, h⟩, hcr⟩
  refine ⟨ckF D cs (TD D), b_checksum h (fun J k => qd_q hc k), fun Γ' P' J hj9 => ?_⟩
  have ed := hj9.2.1.d
  have hG := hj9.2.1.gd
  exact q_checksum hj9.1 hG (fun K k => qr_q hj9 k (fun _ => by rw [ed]))
end ST1
