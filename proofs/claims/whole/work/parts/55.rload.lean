/-! THE REFERENCE'S statement and load -/
section M1
variable {Γ : GG} {P : MP} {I : MM} {R : Int → MM → Prop} {Rv : MM → Prop} {T : Nat → Int} {L p : Nat} {D : Nat → Int} {cs : List Int}
def SS (I : MM) (T : Nat → Int) (L p : Nat) (D : Nat → Int) : Prop := JS I T L p D ∧ I 1 14 = 0 ∧ I 1 15 = D 3
theorem emW_cd {l : List Int} : emW (setD D 3 1) (encL l) = cdW D l := by
  funext i
  unfold emW cdW setD
  by_cases e3 : i = 3
  · rw [if_pos e3, if_neg (by omega), if_neg (by omega), if_pos e3]
  · simp only [e3, if_false]
theorem GS.m1 {I : MM} (h : GS I T L p) : I 1 6 = -1 := by obtain ⟨_, _, _, _, _, _, _, _, _, g⟩ := h; exact g
theorem c_statement (hM : LM Γ P) (G : SS I T L p D) (h : RDx D 6) (hc : RCx D cs) (h1 : ∀ K r, stmS T L D cs p = .ok r → rdF I K → SS K T L r.1 r.2.1 → Rv K) (h0 : ∀ K e, stmS T L D cs p = .error e → rdF I K → bad K e → zbE (K 4) → Rv K) : Cl Γ m_X6_statement [vR 1] P I (rv P Rv) := by
  have hz := h.ze
  have hd := h.1
  have hs := G.1.1.sp
  have hL := G.1.1.2.2.2.1
  have hge := spc_ge (T := T) (L := L) (k := p)
  have e7 : up2 (up2 I 1 4 (spc T L p : Int)) 1 4 (spc T L p : Int) = up2 I 1 4 (spc T L p : Int) := up22
  have G7 : JS (up2 I 1 4 (spc T L p : Int)) T L p D := ⟨(G.1.1.at_ hs).eq eqp.spc, by rw [up2_ne (by decide)]; exact G.1.2⟩
  have c7 : rkF I (up2 I 1 4 (spc T L p : Int)) := (tkF.f (Or.inl rfl)).rk
  have Gi : ∀ i, i < 9 → WD T L i (spc T L p) → JS (up2 I 1 4 ((spc T L p + lenS.getD i 0 : Nat) : Int)) T L (spc T L p + lenS.getD i 0) D := fun i hi w => ⟨G.1.1.at_ (WD_end hi w).2, by rw [up2_ne (by decide)]; exact G.1.2⟩
  have ci : ∀ i : Nat, rkF I (up2 I 1 4 ((spc T L p + lenS.getD i 0 : Nat) : Int)) := fun i => (tkF.f (Or.inl rfl)).rk
  -- behind a part: the semicolon
  have semi : ∀ (K : MM) (q : Nat) (E : Nat → Int) (ce : List Int), (∀ x : Except Er (Nat × (Nat → Int) × List Int), x = bnd (expS T L q 59) (fun e => .ok (e, E, ce)) → x = stmS T L D cs p) → rdF I K → JS K T L q E → K 1 14 = 0 → K 1 15 = E 3 → zbE E → Cl Γ m_X6_expect [vR 1, vI 59] P K (rv P (fun I28 => Rv I28)) := by
    intro K q E ce hst hk GK k14 k15 zE
    refine c_expect hM GK.1 ⟨by decide, by decide⟩ (by decide) (fun M e he hm => ?_) (fun M e he hm => ?_)
    · refine h1 M (e, E, ce) (by rw [← hst _ rfl, he]; rfl) (hk.trans hm.1.rk.rd) ⟨hm.js GK, ?_, ?_⟩
      · rw [hm.1.2 14 (by decide) (by decide) (by decide) (by decide)]; exact k14
      · rw [hm.1.2 15 (by decide) (by decide) (by decide) (by decide)]; exact k15
    · exact h0 M e (by rw [← hst _ rfl, he]; rfl) (hk.trans hm.1.rk.rd) hm.2 (hm.z GK zE)
  refine cl_of n_X6_statement (Nat.le_of_ble_eq_true rfl) (t_X6_statement_0 hM (c_next hM G.1.1 ?_))
  intro u hu
  rw [up2_eq] at hu
  rw [hu]
  refine c_takeWord hM G7.1 (by decide) (fun w3 => ⟨⟨by decide, by decide⟩, fun z => absurd z (by decide), fun _ => ?_⟩) (fun w3 => ⟨⟨by decide, by decide⟩, fun _ => ?_, fun z => absurd rfl z⟩)
  · rw [up22]
    refine c_readJob hM (Gi 3 (by decide) w3) h (by omega) (fun K r hr k GK => ?_) (fun K e he k b z => ?_)
    · have kk := (ci 3).trans k
      obtain ⟨j1, j2, -, -⟩ := jobS_ok h hr
      refine semi K r.1 r.2 cs (fun x hx => ?_) kk.rd GK (by rw [kk.2 14 (by decide) (by decide) (by decide) (by decide)]; exact G.2.1) (by rw [kk.2 15 (by decide) (by decide) (by decide) (by decide), j2 3 (by decide) (Or.inl (by decide))]; exact G.2.2) j1.ze
      rw [hx]; unfold stmS; rw [pIf_t w3, hr]; rfl
    · refine c_expect0 hM b.n (h0 K e ?_ ((ci 3).trans k).rd b z)
      unfold stmS; rw [pIf_t w3, he]; rfl
  · rw [e7]
    refine c_takeWord hM G7.1 (by decide) (fun w4 => ⟨⟨by decide, by decide⟩, fun z => absurd z (by decide), fun _ => ?_⟩) (fun w4 => ⟨⟨by decide, by decide⟩, fun _ => ?_, fun z => absurd rfl z⟩)
    · rw [up22]
      refine c_readMachine hM (Gi 4 (by decide) w4) h (fun K r hr k GK => ?_) (fun K e he k b z => ?_)
      · have kk := (ci 4).trans k
        obtain ⟨j1, j2, -, -⟩ := machS_ok h hr
        refine semi K r.1 r.2 cs (fun x hx => ?_) kk.rd GK (by rw [kk.2 14 (by decide) (by decide) (by decide) (by decide)]; exact G.2.1) (by rw [kk.2 15 (by decide) (by decide) (by decide) (by decide), j2 3 (Or.inl (by decide))]; exact G.2.2) j1.ze
        rw [hx]; unfold stmS; rw [pIf_f w3, pIf_t w4, hr]; rfl
      · refine c_expect0 hM b.n (h0 K e ?_ ((ci 4).trans k).rd b z)
        unfold stmS; rw [pIf_f w3, pIf_t w4, he]; rfl
    · rw [e7]
      refine c_takeWord hM G7.1 (by decide) (fun w1 => ⟨⟨by decide, by decide⟩, fun z => absurd z (by decide), fun _ => ?_⟩) (fun w1 => ⟨⟨by decide, by decide⟩, fun _ => ?_, fun z => absurd rfl z⟩)
      · rw [up22]
        have G1 := Gi 1 (by decide) w1
        have s15 : (up2 I 1 4 ((spc T L p + lenS.getD 1 0 : Nat) : Int)) 1 15 = D 3 := by rw [up2_nj (by decide)]; exact G.2.2
        have s14 : (up2 I 1 4 ((spc T L p + lenS.getD 1 0 : Nat) : Int)) 1 14 = 0 := by rw [up2_nj (by decide)]; exact G.2.1
        refine cl_of n_X6_once (Nat.le_of_ble_eq_true rfl) (t_X6_once_0 hM (by rw [s15]; omega) (fun y => ?_) (fun y => ?_))
        · rw [s15] at y
          refine c_report1 hM G1.1.2.2.1 ⟨by decide, by decide, by decide⟩ (fun K hK _ => ⟨by rw [hK.1.2 15 (by decide) (by decide) (by decide) (by decide), s15]; exact y, ?_⟩)
          intro A hA
          have bA : bad A (-2, spc T L p) := by
            have := hK.2
            unfold bad at this ⊢
            rw [hA, up2_ne (by decide), up2_nj (by decide), up2_nj (by decide)]
            exact this
          have rA : rdF K A := by rw [hA]; exact ⟨fun r a b => by rw [up2_ne b, up2_ne a], fun i _ _ _ _ _ f => by rw [up2_ne (by decide), up2_nj f]⟩
          refine e_sum hM 5 A _ bA.n (c_expect0 hM bA.n (h0 A _ ?_ (((ci 1).trans hK.1.rk).rd.trans rA) bA ?_))
          · unfold stmS; rw [pIf_f w3, pIf_f w4, pIf_f (fun q => by have := q.2; omega)]; rfl
          · rw [hA, up2_row, up2_ne (by decide), hK.1.1 4 (by decide), G1.2]
            exact ⟨fun i hi => by rw [setF_ne (by omega)]; exact hz.1 i hi, by rw [setF_ne (by decide)]; exact hz.2⟩
        · rw [s15] at y
          intro A hA
          have rA : rdF (up2 I 1 4 ((spc T L p + lenS.getD 1 0 : Nat) : Int)) A := by rw [hA]; exact ⟨fun r a b => by rw [up2_ne b, up2_ne a], fun i _ _ _ _ _ f => by rw [up2_ne (by decide), up2_nj f]⟩
          have z1 : zbE (setD D 3 1) := ⟨fun i hi => by rw [setD_ne (by omega)]; exact hz.1 i hi, by rw [setD_ne (by decide)]; exact hz.2⟩
          have GA : CG A T L (spc T L p + lenS.getD 1 0) (setD D 3 1) (encL []) := by
            refine ⟨G1.1.keep (by rw [hA, up2_ne (by decide), up2_ne (by decide)]) (fun i hi => by rw [hA, up2_ne (by decide), up2_nj (by omega)]), ?_⟩
            rw [show encL [] = [] from rfl, emW_nil (by rw [setD_ne (by decide)]; exact (hc.2.2.2.1 y).2), hA, up2_row, up2_ne (by decide), G1.2]
            rfl
          have a14 : A 1 14 = 0 := by rw [hA, up2_ne (by decide), up2_nj (by decide)]; exact s14
          have a15 : A 1 15 = 1 := by rw [hA, up2_ne (by decide), up2_eq]
          refine c_sum6 hM z1 A _ [] _ GA a14 (by rw [show encL [] = [] from rfl]; exact Nat.zero_le _) (fun K r hr k GK k14 => ?_) (fun K e he k b z => ?_)
          · have q := sumS_q (facS_q 4) hr
            have eK : K 4 = cdW D r.2 := by rw [GK.2, List.nil_append, emW_cd]
            refine semi K r.1 (cdW D r.2) r.2 (fun x hx => ?_) (((ci 1).rd.trans rA).trans k.rd) ⟨GK.1, eK⟩ k14 ?_ (cdW_ok h hL q).1.ze
            · rw [hx]; unfold stmS; rw [pIf_f w3, pIf_f w4, pIf_t ⟨w1, y⟩, hr]; rfl
            · rw [k.2 15 (by decide) (by decide) (by decide) (by decide) (by decide), a15]
              rfl
          · refine c_expect0 hM b.n (h0 K e ?_ (((ci 1).rd.trans rA).trans k.rd) b z)
            unfold stmS; rw [pIf_f w3, pIf_f w4, pIf_t ⟨w1, y⟩, he]; rfl
      · rw [e7]
        refine c_report1 hM G7.1.2.2.1 ⟨by decide, by decide, by decide⟩ (fun K hK _ => c_expect0 hM hK.2.n (h0 K _ ?_ (c7.trans hK.1.rk).rd hK.2 (hK.z G7 hz)))
        unfold stmS; rw [pIf_f w3, pIf_f w4, pIf_f (fun q => w1 q.1)]; rfl
theorem RF.dt2 {I J : MM} {D E : Nat → Int} {cs ce : List Int} {n : Nat} {H : Nat → (Nat → Int) × List Int} (r : RF I D cs n H) (h : dtOnly I J) (hE : J 3 = E) (hg : GN E ce) (hz : zbD E) : RF J E ce n H :=
  ⟨hE, hg, r.n8, by rw [h 1 (by decide)]; exact r.c, fun k hk => by
    rw [h (13 + k) (by omega)]
    exact r.h k hk, fun q hq => by
    by_cases e : q = 3
    · rw [e, hE]; exact hz
    · rw [h q e]; exact r.z q hq⟩
/-- what load may change -/
def ldF (I J : MM) : Prop := ∀ r : Nat, (r = 2 ∨ 21 ≤ r) → J r = I r
theorem RF.rd {J : MM} {n : Nat} {H : Nat → (Nat → Int) × List Int} (r : RF I D cs n H) (h : rdF I J) (hz : zbD (J 4)) : RF J D cs n H :=
  ⟨(h.1 3 (by decide) (by decide)).trans r.d, r.g, r.n8, (h.2 12 (by decide) (by decide) (by decide) (by decide) (by decide) (by decide)).trans r.c, fun k hk => by
    rw [h.1 (13 + k) (by omega) (by omega)]; exact r.h k hk, fun q hq => by
    by_cases e : q = 4
    · rw [e]; exact hz
    · rw [h.1 q (by omega) e]; exact r.z q hq⟩
/-- behind the reading -/
theorem ld_bad (hM : LM Γ P) {I0 : MM} {n : Nat} {H : Nat → (Nat → Int) × List Int} {D0 : Nat → Int} {c0 : List Int} (r : RF I D0 c0 n H) (hF : ldF I0 I) {e : Er} (hb : bad I e) (hz : zbE (I 4)) (h0 : I 1 0 = 0) (h2 : I 1 2 = 0)
    (h : ∀ J, ldF I0 J → RF J D0 c0 n H → J 1 0 = 0 → J 1 2 = 0 → J 1 7 = (e.2 : Int) → R e.1 J) : XM Γ m_X6_load 0 0 139 [(0, vR 1)] [] P I (ri P R) := by
  have fin : ∀ A : MM, A = up2 I 1 7 (I 1 6) → Cl Γ m_X6_isGood [vR 1] P A (ri P (fun (z10 : Int) (I11 : MM) => (inR z10) ∧ ((z10 ≠ 0 → (Cl Γ m_X6_remember [vR 1] P I11 (rv P (fun (I15 : MM) => (Cl Γ m_X6_copy [vR 4, vR 3] P I15 (rv P (fun (I16 : MM) => (Cl Γ m_X6_layFirst [vR 1] P I16 (rv P (fun (I17 : MM) => R (I17 3 2) I17)))))))))) ∧ (z10 = 0 → R (I11 1 5) I11)))) := by
    intro A hA
    have b5 : A 1 5 = I 1 5 := by rw [hA, up2_nj (by decide)]
    have rA : ∀ q, q ≠ 1 → A q = I q := fun q hq => by rw [hA, up2_ne hq]
    refine c_isGood0 hM (by rw [b5]; exact hb.n) ⟨⟨by decide, by decide⟩, fun z => absurd rfl z, fun _ => ?_⟩
    rw [b5, hb.1]
    refine h A (fun q hq => (rA q (by omega)).trans (hF q hq)) ⟨(rA 3 (by decide)).trans r.d, r.g, r.n8, by rw [hA, up2_nj (by decide)]; exact r.c, fun k hk => by rw [rA (13 + k) (by omega)]; exact r.h k hk, fun q hq => by rw [rA q (by omega)]; exact r.z q hq⟩ (by rw [hA, up2_nj (by decide)]; exact h0) (by rw [hA, up2_nj (by decide)]; exact h2) (by rw [hA, up2_eq]; exact hb.2.1)
  refine t_X6_load_139 hM (c_isGood0 hM hb.n ⟨⟨by decide, by decide⟩, fun _ => ⟨hz.2, fun z => fin, fun z => c_report0 hM hb.n fin⟩, fun z => absurd rfl z⟩)
theorem ld_139 (hM : LM Γ P) {I0 : MM} {n : Nat} {H : Nat → (Nat → Int) × List Int} {D0 : Nat → Int} {c0 : List Int}
    (h1 : ∀ J D cs, RDx D 6 → RCx D cs → D 2 ≠ 0 → ldF I0 J → RF J (fpD D 36) cs (rmN n) (rmH (D0, c0) n H) → J 1 0 = 0 → J 1 2 = 0 → J 1 7 = -1 → lodS T L = .ok (D, cs) → R (D 2) J)
    (h0 : ∀ J e, lodS T L = .error e → ldF I0 J → RF J D0 c0 n H → J 1 0 = 0 → J 1 2 = 0 → J 1 7 = (e.2 : Int) → R e.1 J) :
    ∀ (f : Nat) (I : MM) (D : Nat → Int) (cs : List Int) (p : Nat), SS I T L p D → RDx D 6 → RCx D cs → L ≤ p + f → RF I D0 c0 n H → ldF I0 I → I 1 0 = 0 → I 1 2 = 0 →
      (∀ x, prgS T L f D cs p = x → lodS T L = bnd x (fun r => if r.1 2 = 0 then .error (-2, L) else .ok r)) → XM Γ m_X6_load 0 0 139 [(0, vR 1)] [] P I (ri P R) := by
  intro f
  have done : ∀ (I : MM) (D : Nat → Int) (cs : List Int) (p : Nat), SS I T L p D → RDx D 6 → RCx D cs → bt T L (spc T L p) = -1 → RF I D0 c0 n H → ldF I0 I → I 1 0 = 0 → I 1 2 = 0 → lodS T L = (if D 2 = 0 then .error (-2, L) else .ok (D, cs)) → XM Γ m_X6_load 0 0 139 [(0, vR 1)] [] P I (ri P R) := by
    intro I D cs p G h hc hb r hF i0 i2 hl
    have hd := h.1
    have hs := G.1.1.sp
    have m1 := G.1.1.m1
    have c5 := G.1.1.2.2.1
    have rB : ∀ q, q ≠ 1 → up2 I 1 4 (spc T L p : Int) q = I q := fun q hq => up2_ne hq
    refine t_X6_load_139 hM (c_isGood1 hM c5 ⟨⟨by decide, by decide⟩, fun z => absurd z (by decide), fun _ => c_next hM G.1.1 ?_⟩)
    rw [hb]
    refine ⟨⟨by decide, by decide⟩, fun _ => ?_, fun z => absurd rfl z⟩
    rw [rB 4 (by decide), G.1.2]
    refine ⟨⟨by omega, by omega⟩, fun z => ?_, fun z => ?_⟩
    · rw [if_neg z] at hl
      intro A hA
      have rA : ∀ q, q ≠ 1 → A q = I q := fun q hq => by rw [hA, up2_ne hq, up2_ne hq]
      have a1 : ∀ i, i ≠ 7 → i ≠ 4 → A 1 i = I 1 i := fun i a b => by rw [hA, up2_nj a, up2_nj b]
      have a7 : A 1 7 = -1 := by rw [hA, up2_eq, up2_nj (by decide)]; exact m1
      refine c_isGood1 hM (by rw [a1 5 (by decide) (by decide)]; exact c5) ⟨⟨by decide, by decide⟩, fun _ => ?_, fun y => absurd y (by decide)⟩
      have rfA : RF A D0 c0 n H := ⟨(rA 3 (by decide)).trans r.d, r.g, r.n8, by rw [a1 12 (by decide) (by decide)]; exact r.c, fun k hk => by rw [rA (13 + k) (by omega)]; exact r.h k hk, fun q hq => by rw [rA q (by omega)]; exact r.z q hq⟩
      refine c_remember hM rfA (fun J k1 k2 k3 => ?_)
      have z4 := k1.z 4 (Or.inr (Or.inl rfl))
      have z3 := k1.z 3 (Or.inl rfl)
      have e4 : J 4 = D := by rw [k2.1 4 (by decide) (by decide) (by decide) (by decide) (by decide) (by decide) (by decide) (by decide) (by decide) (by decide), rA 4 (by decide)]; exact G.1.2
      refine c_copy (LM_a9 hM) (LM_a8 hM) ?_
      have x3 : cp2 J 4 3 1655 3 = D := by rw [cp2_row z4 z3, e4]
      have xq : ∀ q, q ≠ 3 → cp2 J 4 3 1655 q = J q := fun q hq => cp2_ne hq
      refine c_layFirst hM (by rw [x3]; exact h.wr hc) (by rw [x3]; exact h.nd) (by rw [x3]; exact h.2.2.2.2.2) (fun K l1 l2 l3 => ?_)
      rw [x3] at l2
      have rq : ∀ q, q ≠ 3 → K q = J q := fun q hq => (l1 q hq).trans (xq q hq)
      have hg : GN (fpD D 36) cs := (fpD_ok (h.wr hc) h.nd 36 (Nat.le_refl _)).gn (h.wr hc) h.nd hc.rc
      have rK : RF K (fpD D 36) cs (rmN n) (rmH (D0, c0) n H) := k1.dt2 rq l2 hg (by rw [← l2]; exact l3)
      have eD2 : K 3 2 = D 2 := by rw [l2]; exact (fpD_ok (h.wr hc) h.nd 36 (Nat.le_refl _)).lo (by decide)
      rw [eD2]
      refine h1 K D cs h hc z (fun q hq => ?_) rK ?_ ?_ ?_ hl
      · rw [rq q (by omega), k2.1 q (by omega) (by omega) (by omega) (by omega) (by omega) (by omega) (by omega) (by omega) (by omega) (by omega), rA q (by omega)]
        exact hF q hq
      · rw [rq 1 (by decide), k3, a1 0 (by decide) (by decide)]; exact i0
      · rw [rq 1 (by decide), k2.2 2 (by decide) (by decide) (by decide) (by decide) (by decide), a1 2 (by decide) (by decide)]; exact i2
      · rw [rq 1 (by decide), k2.2 7 (by decide) (by decide) (by decide) (by decide) (by decide)]; exact a7
    · rw [if_pos z] at hl
      rw [show (up2 I 1 4 (spc T L p : Int)) 1 3 = (L : Int) by rw [up2_nj (by decide)]; exact G.1.1.2.1]
      refine c_report1 hM (by rw [up2_nj (by decide)]; exact c5) ⟨by decide, by decide, by decide⟩ (fun J hJ _ => ?_)
      intro A hA
      have rJ : ∀ q, q ≠ 1 → A q = I q := fun q hq => by rw [hA, up2_ne hq, hJ.1.1 q hq, rB q hq]
      have a1 : ∀ i, i ≠ 7 → i ≠ 4 → i ≠ 5 → i ≠ 6 → i ≠ 13 → A 1 i = I 1 i := fun i a b c d e => by rw [hA, up2_nj a, hJ.1.2 i b c d e, up2_nj b]
      have b5 : A 1 5 = -2 := by rw [hA, up2_nj (by decide)]; exact hJ.2.1
      refine c_isGood0 hM (by rw [b5]; exact ⟨by decide, by decide, by decide⟩) ⟨⟨by decide, by decide⟩, fun y => absurd rfl y, fun _ => ?_⟩
      rw [b5]
      refine h0 A (-2, L) hl (fun q hq => (rJ q (by omega)).trans (hF q hq)) ⟨(rJ 3 (by decide)).trans r.d, r.g, r.n8, by rw [a1 12 (by decide) (by decide) (by decide) (by decide) (by decide)]; exact r.c, fun k hk => by rw [rJ (13 + k) (by omega)]; exact r.h k hk, fun q hq => by rw [rJ q (by omega)]; exact r.z q hq⟩ (by rw [a1 0 (by decide) (by decide) (by decide) (by decide) (by decide)]; exact i0) (by rw [a1 2 (by decide) (by decide) (by decide) (by decide) (by decide)]; exact i2) ?_
      rw [hA, up2_eq]
      exact hJ.2.2.1
  induction f with
  | zero =>
    intro I D cs p G h hc hp r hF i0 i2 hl
    have hge := spc_ge (T := T) (L := L) (k := p)
    exact done I D cs p G h hc (bt_out (by omega)) r hF i0 i2 (hl _ rfl)
  | succ f ih =>
    intro I D cs p G h hc hp r hF i0 i2 hl
    have hL := G.1.1.2.2.2.1
    have hbb := bt_b (k := spc T L p) hL G.1.1.2.2.2.2.1
    by_cases hb : bt T L (spc T L p) = -1
    · refine done I D cs p G h hc hb r hF i0 i2 ?_
      have := hl _ rfl
      unfold prgS at this
      rw [if_pos hb] at this
      exact this
    · have c5 := G.1.1.2.2.1
      have hs := G.1.1.sp
      unfold prgS at hl
      rw [if_neg hb] at hl
      have G1 : SS (up2 I 1 4 (spc T L p : Int)) T L p D := ⟨⟨(G.1.1.at_ hs).eq eqp.spc, by rw [up2_ne (by decide)]; exact G.1.2⟩, by rw [up2_nj (by decide)]; exact G.2.1, by rw [up2_nj (by decide)]; exact G.2.2⟩
      have rd1 : rdF I (up2 I 1 4 (spc T L p : Int)) := (tkF.f (Or.inl rfl)).rk.rd
      refine t_X6_load_139 hM (c_isGood1 hM c5 ⟨⟨by decide, by decide⟩, fun z => absurd z (by decide), fun _ => c_next hM G.1.1 ⟨⟨by omega, by omega⟩, fun z => absurd z hb, fun _ => ?_⟩⟩)
      refine c_statement hM G1 h hc (fun K x hx k GK => ?_) (fun K e he k b z => ?_)
      · obtain ⟨g1, g2, g3, g4⟩ := stmS_ok h hc hL hx
        have kk := rd1.trans k
        have z4 : zbD (K 4) := by rw [GK.1.2]; exact g1.2.2.2.2.2
        refine ih K x.2.1 x.2.2 x.1 GK g1 g2 (by omega) (r.rd kk z4) (fun q hq => (kk.1 q (by omega) (by omega)).trans (hF q hq)) (by rw [kk.2 0 (by decide) (by decide) (by decide) (by decide) (by decide) (by decide)]; exact i0) (by rw [kk.2 2 (by decide) (by decide) (by decide) (by decide) (by decide) (by decide)]; exact i2) (fun y hy => ?_)
        rw [hx] at hl
        exact hl y hy
      · have kk := rd1.trans k
        rw [he] at hl
        have := hl _ rfl
        exact ld_bad hM (r.rd kk z.1) (fun q hq => (kk.1 q (by omega) (by omega)).trans (hF q hq)) b z (by rw [kk.2 0 (by decide) (by decide) (by decide) (by decide) (by decide) (by decide)]; exact i0) (by rw [kk.2 2 (by decide) (by decide) (by decide) (by decide) (by decide) (by decide)]; exact i2) (fun J j1 j2 j3 j4 j5 => h0 J e this j1 j2 j3 j4 j5)
end M1
